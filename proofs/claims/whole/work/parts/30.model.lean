theorem tX6_in {F : vFt} {Ar : vAt} {x : vXt} {n a b : Int32}  : C0 mX6_in 0 [.int n, .int a, .int b] F Ar x (vEq (some (.int (vB (a ≤ n ∧ n ≤ b)))) F Ar) := by
  refine C0_of (by decide +kernel) (Nat.le_of_ble_eq_true rfl) (fun κ hκ => ?_)
  show V κ mX6_in 0 [.int n, .int a, .int b] [] F Ar x
  refine V_iload_n (q := 1) dX6_in_0 rfl rfl ?_
  refine V_iload_n (q := 2) dX6_in_1 rfl rfl ?_
  refine V_icmp_lt (tgt := 14) (q := 5) dX6_in_2 (by decide) rfl (fun c_2 => ?_) (fun c_2 => ?_)
  · refine V_iconst (q := 15) (v := 0) dX6_in_14 (by decide) rfl ?_
    exact V_iret hκ rfl (by first | rfl | exact vB_nar) dX6_in_15 ⟨by rw [vB_f (fun h => v_nlt c_2 h.1)], rfl, rfl⟩
  · refine V_iload_n (q := 6) dX6_in_5 rfl rfl ?_
    refine V_iload_n (q := 7) dX6_in_6 rfl rfl ?_
    refine V_icmp_gt (tgt := 14) (q := 10) dX6_in_7 (by decide) rfl (fun c_7 => ?_) (fun c_7 => ?_)
    · refine V_iconst (q := 15) (v := 0) dX6_in_14 (by decide) rfl ?_
      exact V_iret hκ rfl (by first | rfl | exact vB_nar) dX6_in_15 ⟨by rw [vB_f (fun h => v_nlt c_7 h.2)], rfl, rfl⟩
    · refine V_iconst (q := 11) (v := 1) dX6_in_10 (by decide) rfl ?_
      refine V_goto (q := 15) dX6_in_11 (by decide) ?_
      exact V_iret hκ rfl (by first | rfl | exact vB_nar) dX6_in_15 ⟨by rw [vB_t ⟨v_nle c_2, v_nle c_7⟩], rfl, rfl⟩
theorem tX6_isFigure {F : vFt} {Ar : vAt} {x : vXt} {n : Int32}  : C0 mX6_isFigure 0 [.int n] F Ar x (vEq (some (.int (vB (48 ≤ n ∧ n ≤ 57)))) F Ar) := by
  refine C0_of (by decide +kernel) (Nat.le_of_ble_eq_true rfl) (fun κ hκ => ?_)
  show V κ mX6_isFigure 0 [.int n] [] F Ar x
  refine V_iload_n (q := 1) dX6_isFigure_0 rfl rfl ?_
  refine V_bipush (q := 3) (v := 48) dX6_isFigure_1 (by decide) rfl ?_
  refine V_icmp_lt (tgt := 16) (q := 6) dX6_isFigure_3 (by decide) rfl (fun c_3 => ?_) (fun c_3 => ?_)
  · refine V_iconst (q := 17) (v := 0) dX6_isFigure_16 (by decide) rfl ?_
    exact V_iret hκ rfl (by first | rfl | exact vB_nar) dX6_isFigure_17 ⟨by rw [vB_f (fun h => v_nlt c_3 h.1)], rfl, rfl⟩
  · refine V_iload_n (q := 7) dX6_isFigure_6 rfl rfl ?_
    refine V_bipush (q := 9) (v := 57) dX6_isFigure_7 (by decide) rfl ?_
    refine V_icmp_gt (tgt := 16) (q := 12) dX6_isFigure_9 (by decide) rfl (fun c_9 => ?_) (fun c_9 => ?_)
    · refine V_iconst (q := 17) (v := 0) dX6_isFigure_16 (by decide) rfl ?_
      exact V_iret hκ rfl (by first | rfl | exact vB_nar) dX6_isFigure_17 ⟨by rw [vB_f (fun h => v_nlt c_9 h.2)], rfl, rfl⟩
    · refine V_iconst (q := 13) (v := 1) dX6_isFigure_12 (by decide) rfl ?_
      refine V_goto (q := 17) dX6_isFigure_13 (by decide) ?_
      exact V_iret hκ rfl (by first | rfl | exact vB_nar) dX6_isFigure_17 ⟨by rw [vB_t ⟨v_nle c_3, v_nle c_9⟩], rfl, rfl⟩
theorem tX6_isPerson {F : vFt} {Ar : vAt} {x : vXt} {n : Int32}  : C0 mX6_isPerson 1 [.int n] F Ar x (vEq (some (.int (vB (0 ≤ n ∧ n ≤ 7)))) F Ar) := by
  refine C0_of (by decide +kernel) (Nat.le_of_ble_eq_true rfl) (fun κ hκ => ?_)
  show V κ mX6_isPerson 0 [.int n] [] F Ar x
  refine V_iload_n (q := 1) dX6_isPerson_0 rfl rfl ?_
  refine V_iconst (q := 2) (v := 0) dX6_isPerson_1 (by decide) rfl ?_
  refine V_bipush (q := 4) (v := 7) dX6_isPerson_2 (by decide) rfl ?_
  refine V_cS3I (q := 7) (N := mX6_in) tX6_in hκ.big (by decide) gX6_in kl_X6_101 kt_X6_in (Nat.le_of_ble_eq_true rfl) dX6_isPerson_4 rfl ?_
  exact V_iret hκ rfl (by first | rfl | exact vB_nar) dX6_isPerson_7 vEq.rf
theorem tX6_isAct {F : vFt} {Ar : vAt} {x : vXt} {i : Int32}  : C0 mX6_isAct 1 [.ref 6, .int i] F Ar x (vEq (some (.int (vB (0 ≤ i ∧ i ≤ F 386 - 1)))) F Ar) := by
  refine C0_of (by decide +kernel) (Nat.le_of_ble_eq_true rfl) (fun κ hκ => ?_)
  show V κ mX6_isAct 0 [.ref 6, .int i] [] F Ar x
  refine V_iload_n (q := 1) dX6_isAct_0 rfl rfl ?_
  refine V_iconst (q := 2) (v := 0) dX6_isAct_1 (by decide) rfl ?_
  refine V_aload_n (q := 3) dX6_isAct_2 rfl rfl ?_
  refine V_getI (q := 6) (n := 386) 6 2 kf_X6_105 (by decide) (by decide) rfl rfl dX6_isAct_3 rfl ?_
  refine V_iconst (q := 7) (v := 1) dX6_isAct_6 (by decide) rfl ?_
  refine V_isub (q := 8) dX6_isAct_7 rfl ?_
  refine V_cS3I (q := 11) (N := mX6_in) tX6_in hκ.big (by decide) gX6_in kl_X6_101 kt_X6_in (Nat.le_of_ble_eq_true rfl) dX6_isAct_8 rfl ?_
  exact V_iret hκ rfl (by first | rfl | exact vB_nar) dX6_isAct_11 vEq.rf
theorem tX6_isHull {F : vFt} {Ar : vAt} {x : vXt} {i : Int32}  : C0 mX6_isHull 1 [.ref 6, .int i] F Ar x (vEq (some (.int (vB (0 ≤ i ∧ i ≤ F 390 - 1)))) F Ar) := by
  refine C0_of (by decide +kernel) (Nat.le_of_ble_eq_true rfl) (fun κ hκ => ?_)
  show V κ mX6_isHull 0 [.ref 6, .int i] [] F Ar x
  refine V_iload_n (q := 1) dX6_isHull_0 rfl rfl ?_
  refine V_iconst (q := 2) (v := 0) dX6_isHull_1 (by decide) rfl ?_
  refine V_aload_n (q := 3) dX6_isHull_2 rfl rfl ?_
  refine V_getI (q := 6) (n := 390) 6 6 kf_X6_149 (by decide) (by decide) rfl rfl dX6_isHull_3 rfl ?_
  refine V_iconst (q := 7) (v := 1) dX6_isHull_6 (by decide) rfl ?_
  refine V_isub (q := 8) dX6_isHull_7 rfl ?_
  refine V_cS3I (q := 11) (N := mX6_in) tX6_in hκ.big (by decide) gX6_in kl_X6_101 kt_X6_in (Nat.le_of_ble_eq_true rfl) dX6_isHull_8 rfl ?_
  exact V_iret hκ rfl (by first | rfl | exact vB_nar) dX6_isHull_11 vEq.rf
theorem tX6_isEntry {F : vFt} {Ar : vAt} {x : vXt} {i : Int32}  : C0 mX6_isEntry 1 [.ref 6, .int i] F Ar x (vEq (some (.int (vB (0 ≤ i ∧ i ≤ F 395 - 1)))) F Ar) := by
  refine C0_of (by decide +kernel) (Nat.le_of_ble_eq_true rfl) (fun κ hκ => ?_)
  show V κ mX6_isEntry 0 [.ref 6, .int i] [] F Ar x
  refine V_iload_n (q := 1) dX6_isEntry_0 rfl rfl ?_
  refine V_iconst (q := 2) (v := 0) dX6_isEntry_1 (by decide) rfl ?_
  refine V_aload_n (q := 3) dX6_isEntry_2 rfl rfl ?_
  refine V_getI (q := 6) (n := 395) 6 11 kf_X6_159 (by decide) (by decide) rfl rfl dX6_isEntry_3 rfl ?_
  refine V_iconst (q := 7) (v := 1) dX6_isEntry_6 (by decide) rfl ?_
  refine V_isub (q := 8) dX6_isEntry_7 rfl ?_
  refine V_cS3I (q := 11) (N := mX6_in) tX6_in hκ.big (by decide) gX6_in kl_X6_101 kt_X6_in (Nat.le_of_ble_eq_true rfl) dX6_isEntry_8 rfl ?_
  exact V_iret hκ rfl (by first | rfl | exact vB_nar) dX6_isEntry_11 vEq.rf
theorem tX6_isPaper {F : vFt} {Ar : vAt} {x : vXt} {i : Int32}  : C0 mX6_isPaper 1 [.ref 6, .int i] F Ar x (vEq (some (.int (vB (0 ≤ i ∧ i ≤ F 403 - 1)))) F Ar) := by
  refine C0_of (by decide +kernel) (Nat.le_of_ble_eq_true rfl) (fun κ hκ => ?_)
  show V κ mX6_isPaper 0 [.ref 6, .int i] [] F Ar x
  refine V_iload_n (q := 1) dX6_isPaper_0 rfl rfl ?_
  refine V_iconst (q := 2) (v := 0) dX6_isPaper_1 (by decide) rfl ?_
  refine V_aload_n (q := 3) dX6_isPaper_2 rfl rfl ?_
  refine V_getI (q := 6) (n := 403) 6 19 kf_X6_184 (by decide) (by decide) rfl rfl dX6_isPaper_3 rfl ?_
  refine V_iconst (q := 7) (v := 1) dX6_isPaper_6 (by decide) rfl ?_
  refine V_isub (q := 8) dX6_isPaper_7 rfl ?_
  refine V_cS3I (q := 11) (N := mX6_in) tX6_in hκ.big (by decide) gX6_in kl_X6_101 kt_X6_in (Nat.le_of_ble_eq_true rfl) dX6_isPaper_8 rfl ?_
  exact V_iret hκ rfl (by first | rfl | exact vB_nar) dX6_isPaper_11 vEq.rf
theorem tX6_areSizes {F : vFt} {Ar : vAt} {x : vXt} {l b d r : Int32}  : C0 mX6_areSizes 1 [.int l, .int b, .int d, .int r] F Ar x (vEq (some (.int (vB (vSz l b d r)))) F Ar) := by
  refine C0_of (by decide +kernel) (Nat.le_of_ble_eq_true rfl) (fun κ hκ => ?_)
  show V κ mX6_areSizes 0 [.int l, .int b, .int d, .int r] [] F Ar x
  refine V_iload_n (q := 1) dX6_areSizes_0 rfl rfl ?_
  refine V_iconst (q := 2) (v := 1) dX6_areSizes_1 (by decide) rfl ?_
  refine V_bipush (q := 4) (v := 99) dX6_areSizes_2 (by decide) rfl ?_
  refine V_cS3I (q := 7) (N := mX6_in) tX6_in hκ.big (by decide) gX6_in kl_X6_101 kt_X6_in (Nat.le_of_ble_eq_true rfl) dX6_areSizes_4 rfl ?_
  refine V_if_eq (tgt := 45) (q := 10) dX6_areSizes_7 (by decide) rfl (fun c_7 => ?_) (fun c_7 => ?_)
  · refine V_iconst (q := 46) (v := 0) dX6_areSizes_45 (by decide) rfl ?_
    exact V_iret hκ rfl (by first | rfl | exact vB_nar) dX6_areSizes_46 ⟨by rw [vB_f (fun h => vB_0.mp c_7 h.1)], rfl, rfl⟩
  · refine V_iload_n (q := 11) dX6_areSizes_10 rfl rfl ?_
    refine V_iconst (q := 12) (v := 1) dX6_areSizes_11 (by decide) rfl ?_
    refine V_bipush (q := 14) (v := 99) dX6_areSizes_12 (by decide) rfl ?_
    refine V_cS3I (q := 17) (N := mX6_in) tX6_in hκ.big (by decide) gX6_in kl_X6_101 kt_X6_in (Nat.le_of_ble_eq_true rfl) dX6_areSizes_14 rfl ?_
    refine V_if_eq (tgt := 45) (q := 20) dX6_areSizes_17 (by decide) rfl (fun c_17 => ?_) (fun c_17 => ?_)
    · refine V_iconst (q := 46) (v := 0) dX6_areSizes_45 (by decide) rfl ?_
      exact V_iret hκ rfl (by first | rfl | exact vB_nar) dX6_areSizes_46 ⟨by rw [vB_f (fun h => vB_0.mp c_17 h.2.1)], rfl, rfl⟩
    · refine V_iload_n (q := 21) dX6_areSizes_20 rfl rfl ?_
      refine V_iconst (q := 22) (v := 1) dX6_areSizes_21 (by decide) rfl ?_
      refine V_bipush (q := 24) (v := 99) dX6_areSizes_22 (by decide) rfl ?_
      refine V_cS3I (q := 27) (N := mX6_in) tX6_in hκ.big (by decide) gX6_in kl_X6_101 kt_X6_in (Nat.le_of_ble_eq_true rfl) dX6_areSizes_24 rfl ?_
      refine V_if_eq (tgt := 45) (q := 30) dX6_areSizes_27 (by decide) rfl (fun c_27 => ?_) (fun c_27 => ?_)
      · refine V_iconst (q := 46) (v := 0) dX6_areSizes_45 (by decide) rfl ?_
        exact V_iret hκ rfl (by first | rfl | exact vB_nar) dX6_areSizes_46 ⟨by rw [vB_f (fun h => vB_0.mp c_27 h.2.2.1)], rfl, rfl⟩
      · refine V_iload_n (q := 31) dX6_areSizes_30 rfl rfl ?_
        refine V_iconst (q := 32) (v := 0) dX6_areSizes_31 (by decide) rfl ?_
        refine V_sipush (q := 35) (v := 999) dX6_areSizes_32 (by decide) rfl ?_
        refine V_cS3I (q := 38) (N := mX6_in) tX6_in hκ.big (by decide) gX6_in kl_X6_101 kt_X6_in (Nat.le_of_ble_eq_true rfl) dX6_areSizes_35 rfl ?_
        refine V_if_eq (tgt := 45) (q := 41) dX6_areSizes_38 (by decide) rfl (fun c_38 => ?_) (fun c_38 => ?_)
        · refine V_iconst (q := 46) (v := 0) dX6_areSizes_45 (by decide) rfl ?_
          exact V_iret hκ rfl (by first | rfl | exact vB_nar) dX6_areSizes_46 ⟨by rw [vB_f (fun h => vB_0.mp c_38 h.2.2.2)], rfl, rfl⟩
        · refine V_iconst (q := 42) (v := 1) dX6_areSizes_41 (by decide) rfl ?_
          refine V_goto (q := 46) dX6_areSizes_42 (by decide) ?_
          exact V_iret hκ rfl (by first | rfl | exact vB_nar) dX6_areSizes_46 ⟨by rw [vB_t ⟨vB_n0.mp c_7, vB_n0.mp c_17, vB_n0.mp c_27, vB_n0.mp c_38⟩], rfl, rfl⟩
theorem tX6_scrap {F : vFt} {Ar : vAt} {x : vXt}   : C0 mX6_scrap 0 [.ref 6] F Ar x (vEq (some (.int (F 384))) (upd F 384 0) Ar) := by
  refine C0_of (by decide +kernel) (Nat.le_of_ble_eq_true rfl) (fun κ hκ => ?_)
  show V κ mX6_scrap 0 [.ref 6, .null] [] F Ar x
  refine V_aload_n (q := 1) dX6_scrap_0 rfl rfl ?_
  refine V_getI (q := 4) (n := 384) 6 0 kf_X6_89 (by decide) (by decide) rfl rfl dX6_scrap_1 rfl ?_
  refine V_istore_n (q := 5) dX6_scrap_4 (Nat.le_of_ble_eq_true rfl) rfl rfl ?_
  refine V_aload_n (q := 6) dX6_scrap_5 rfl rfl ?_
  refine V_iconst (q := 7) (v := 0) dX6_scrap_6 (by decide) rfl ?_
  refine V_putI (q := 10) (n := 384) 6 0 kf_X6_89 (by decide) (by decide) rfl rfl dX6_scrap_7 rfl ?_
  refine V_iload_n (q := 11) dX6_scrap_10 rfl rfl ?_
  exact V_iret hκ rfl rfl dX6_scrap_11 vEq.rf
theorem lp_X6_feed2 {F : vFt} {Ar : vAt} {x : vXt} {v : Int32} {c : Nat} {κ : vK} (hκ : vStd κ 0 x (vEq (some (.int (if c + nLet v ≤ 40 then nI (c + nLet v) else -2))) (if c + nLet v ≤ 40 then upd F 384 (nI (c + nLet v)) else F) (if c + nLet v ≤ 40 then vS Ar 40 (fdA (Ar 40) c v (nLet v)) else Ar))) (hc40 : c + nLet v ≤ 40) : ∀ k i, i + k = nLet v → V κ mX6_feed 42 [.ref 6, .int v, .int (nI (nLet v)), .int (nI i)] [] (upd F 384 (nI (c + i))) (vS Ar 40 (fdA (Ar 40) c v i)) x := by
  intro k
  induction k with
  | zero =>
    intro i hi
    have h4 := nLet_le v
    have hi2 : i = nLet v := by omega
    refine V_iload_n (q := 43) dX6_feed_42 rfl rfl ?_
    refine V_iload_n (q := 44) dX6_feed_43 rfl rfl ?_
    refine V_icmp_ge (tgt := 82) (q := 47) dX6_feed_44 (by decide) rfl (fun c_44 => ?_) (fun c_44 => absurd c_44 (v_gt (by omega) (by omega) (by omega)))
    refine V_aload_n (q := 83) dX6_feed_82 rfl rfl ?_
    refine V_getI (q := 86) (n := 384) 6 0 kf_X6_89 (by decide) (by decide) rfl rfl dX6_feed_83 rfl ?_
    exact V_iret hκ rfl rfl dX6_feed_86 (by simp only [if_pos hc40]; exact ⟨by rw [← hi2]; rfl, by rw [← hi2], by rw [← hi2]⟩)
  | succ k ih =>
    intro i hi
    have h4 := nLet_le v
    refine V_iload_n (q := 43) dX6_feed_42 rfl rfl ?_
    refine V_iload_n (q := 44) dX6_feed_43 rfl rfl ?_
    refine V_icmp_ge (tgt := 82) (q := 47) dX6_feed_44 (by decide) rfl (fun c_44 => absurd c_44 (v_gf (by omega) (by omega) (by omega))) (fun c_44 => ?_)
    refine V_aload_n (q := 48) dX6_feed_47 rfl rfl ?_
    refine V_getR (q := 51) (n := 40) 6 1 kf_X6_7 (by decide) (by decide) rfl (by decide) dX6_feed_48 rfl ?_
    refine V_aload_n (q := 52) dX6_feed_51 rfl rfl ?_
    refine V_getI (q := 55) (n := 384) 6 0 kf_X6_89 (by decide) (by decide) rfl rfl dX6_feed_52 rfl ?_
    refine V_iload_n (q := 56) dX6_feed_55 rfl rfl ?_
    refine V_bipush (q := 58) (v := 8) dX6_feed_56 (by decide) rfl ?_
    refine V_iload_n (q := 59) dX6_feed_58 rfl rfl ?_
    refine V_imul (q := 60) dX6_feed_59 rfl ?_
    refine V_ishr (q := 61) dX6_feed_60 rfl ?_
    refine V_sipush (q := 64) (v := 255) dX6_feed_61 (by decide) rfl ?_
    refine V_iand (q := 65) dX6_feed_64 rfl ?_
    refine V_ist (q := 66) (c + i) 40 rfl (by omega) (by decide) (by omega) (by decide) rfl (by decide) dX6_feed_65 rfl ?_
    refine V_aload_n (q := 67) dX6_feed_66 rfl rfl ?_
    refine V_dup (q := 68) dX6_feed_67 rfl rfl ?_
    refine V_getI (q := 71) (n := 384) 6 0 kf_X6_89 (by decide) (by decide) rfl rfl dX6_feed_68 rfl ?_
    refine V_iconst (q := 72) (v := 1) dX6_feed_71 (by decide) rfl ?_
    refine V_iadd (q := 73) dX6_feed_72 rfl ?_
    refine V_putI (q := 76) (n := 384) 6 0 kf_X6_89 (by decide) (by decide) rfl rfl dX6_feed_73 rfl ?_
    refine V_iincN (q := 79) dX6_feed_76 rfl (Nat.le_of_ble_eq_true rfl) rfl rfl ?_
    refine V_goto (q := 42) dX6_feed_79 (by decide) ?_
    refine V_ar (vS Ar 40 (fdA (Ar 40) c v (i + 1))) (by rw [vS_vS, vS_at]; rfl) ?_
    refine V_fl (upd F 384 (nI (c + (i + 1)))) ((congrArg (upd (upd F 384 (nI (c + i))) 384) (nI_1 (c + i))).trans upd_upd) ?_
    exact ih (i + 1) (by omega)
theorem lp_X6_feed1 {F : vFt} {Ar : vAt} {x : vXt} {v : Int32} {c : Nat} {κ : vK} (hκ : vStd κ 0 x (vEq (some (.int (if c + nLet v ≤ 40 then nI (c + nLet v) else -2))) (if c + nLet v ≤ 40 then upd F 384 (nI (c + nLet v)) else F) (if c + nLet v ≤ 40 then vS Ar 40 (fdA (Ar 40) c v (nLet v)) else Ar))) (hc : F 384 = nI c) (hc4 : c ≤ 40) : ∀ m n, n + m = 4 → nLet v = nLetF v m n → V κ mX6_feed 2 [.ref 6, .int v, .int (nI n), .null] [] F Ar x := by
  have st : ∀ n, n = nLet v → V κ mX6_feed 26 [.ref 6, .int v, .int (nI n), .null] [] F Ar x := by
    intro n hn
    have h4 := nLet_le v
    have h40 : nI (c + n) ≤ nI 40 ↔ c + n ≤ 40 := nI_leI (by omega) (by decide)
    refine V_aload_n (q := 27) dX6_feed_26 rfl rfl ?_
    refine V_getI (q := 30) (n := 384) 6 0 kf_X6_89 (by decide) (by decide) rfl rfl dX6_feed_27 rfl ?_
    refine V_iload_n (q := 31) dX6_feed_30 rfl rfl ?_
    refine V_iadd (q := 32) dX6_feed_31 rfl ?_
    refine V_top (nI (c + n)) (by rw [hc, nI_add]) ?_
    refine V_bipush (q := 34) (v := 40) dX6_feed_32 (by decide) rfl ?_
    refine V_icmp_le (tgt := 40) (q := 37) dX6_feed_34 (by decide) rfl (fun c_34 => ?_) (fun c_34 => ?_)
    · refine V_iconst (q := 41) (v := 0) dX6_feed_40 (by decide) rfl ?_
      refine V_istore_n (q := 42) dX6_feed_41 (Nat.le_of_ble_eq_true rfl) rfl rfl ?_
      refine V_ar (vS Ar 40 (fdA (Ar 40) c v 0)) (vS_self (Ar := Ar) (a := 40)).symm ?_
      refine V_fl (upd F 384 (nI (c + 0))) (by rw [Nat.add_zero, ← hc, upd_self]) ?_
      rw [hn]
      exact lp_X6_feed2 hκ (by have := h40.mp c_34; omega) (nLet v) 0 (by omega)
    · refine V_bipush (q := 39) (v := (-2)) dX6_feed_37 (by decide) rfl ?_
      exact V_iret hκ rfl rfl dX6_feed_39 (by simp only [if_neg (fun h => c_34 (h40.mpr (by omega)) : ¬ c + nLet v ≤ 40)]; exact vEq.rf)
  intro m
  induction m with
  | zero =>
    intro n hn hv
    obtain rfl : n = 4 := by omega
    refine V_iload_n (q := 3) dX6_feed_2 rfl rfl ?_
    refine V_iconst (q := 4) (v := 4) dX6_feed_3 (by decide) rfl ?_
    refine V_icmp_ge (tgt := 26) (q := 7) dX6_feed_4 (by decide) rfl (fun c_4 => ?_) (fun c_4 => absurd c_4 (v_gt (i := 4) (n := 4) (by decide) (by decide) (Nat.le_refl _)))
    exact st 4 hv.symm
  | succ m ih =>
    intro n hn hv
    refine V_iload_n (q := 3) dX6_feed_2 rfl rfl ?_
    refine V_iconst (q := 4) (v := 4) dX6_feed_3 (by decide) rfl ?_
    refine V_icmp_ge (tgt := 26) (q := 7) dX6_feed_4 (by decide) rfl (fun c_4 => absurd c_4 (v_gf (n := 4) (by omega) (by decide) (by omega))) (fun c_4 => ?_)
    refine V_iload_n (q := 8) dX6_feed_7 rfl rfl ?_
    refine V_bipush (q := 10) (v := 8) dX6_feed_8 (by decide) rfl ?_
    refine V_iload_n (q := 11) dX6_feed_10 rfl rfl ?_
    refine V_imul (q := 12) dX6_feed_11 rfl ?_
    refine V_ishr (q := 13) dX6_feed_12 rfl ?_
    refine V_sipush (q := 16) (v := 255) dX6_feed_13 (by decide) rfl ?_
    refine V_iand (q := 17) dX6_feed_16 rfl ?_
    refine V_top (vByte v n) rfl ?_
    refine V_if_eq (tgt := 26) (q := 20) dX6_feed_17 (by decide) rfl (fun c_17 => ?_) (fun c_17 => ?_)
    · exact st n (by rw [hv, nLetF, if_pos c_17])
    · refine V_iincN (q := 23) dX6_feed_20 rfl (Nat.le_of_ble_eq_true rfl) rfl rfl ?_
      refine V_goto (q := 2) dX6_feed_23 (by decide) ?_
      exact ih (n + 1) (by omega) (by rw [hv, nLetF, if_neg c_17])
theorem tX6_feed {F : vFt} {Ar : vAt} {x : vXt} {v : Int32} {c : Nat} (hc : F 384 = nI c) (hc4 : c ≤ 40) : C0 mX6_feed 0 [.ref 6, .int v] F Ar x (vEq (some (.int (if c + nLet v ≤ 40 then nI (c + nLet v) else -2))) (if c + nLet v ≤ 40 then upd F 384 (nI (c + nLet v)) else F) (if c + nLet v ≤ 40 then vS Ar 40 (fdA (Ar 40) c v (nLet v)) else Ar)) := by
  refine C0_of (by decide +kernel) (Nat.le_of_ble_eq_true rfl) (fun κ hκ => ?_)
  show V κ mX6_feed 0 [.ref 6, .int v, .null, .null] [] F Ar x
  refine V_iconst (q := 1) (v := 0) dX6_feed_0 (by decide) rfl ?_
  refine V_istore_n (q := 2) dX6_feed_1 (Nat.le_of_ble_eq_true rfl) rfl rfl ?_
  exact lp_X6_feed1 hκ hc hc4 4 0 rfl rfl
theorem lp_X6_on {F : vFt} {Ar : vAt} {x : vXt} {n : Nat} {day : Int32} {κ : vK} (hκ : vStd κ 0 x (vEq (some (.int (oI (onD (Ar 41) day n)))) F Ar)) (hn : F 386 = nI n) (hn5 : n ≤ 5) : ∀ k i, i + k = n → V κ mX6_forceOn 5 [.ref 6, .int day, .int (oI (onD (Ar 41) day i)), .int (nI i)] [] F Ar x := by
  intro k
  induction k with
  | zero =>
    intro i hi
    obtain rfl : i = n := by omega
    refine V_iload_n (q := 6) dX6_forceOn_5 rfl rfl ?_
    refine V_aload_n (q := 7) dX6_forceOn_6 rfl rfl ?_
    refine V_getI (q := 10) (n := 386) 6 2 kf_X6_105 (by decide) (by decide) rfl rfl dX6_forceOn_7 rfl ?_
    rw [hn]
    refine V_icmp_ge (tgt := 54) (q := 13) dX6_forceOn_10 (by decide) rfl (fun c_10 => ?_) (fun c_10 => absurd c_10 (v_gt (by omega) (by omega) (Nat.le_refl _)))
    refine V_iload_n (q := 55) dX6_forceOn_54 rfl rfl ?_
    exact V_iret hκ rfl rfl dX6_forceOn_55 vEq.rf
  | succ k ih =>
    intro i hi
    have ih2 := ih (i + 1) (by omega)
    unfold onD at ih2
    cases ho : onD (Ar 41) day i with
    | none =>
      rw [ho] at ih2
      show V κ mX6_forceOn 5 [.ref 6, .int day, .int (-4), .int (nI i)] [] F Ar x
      refine V_iload_n (q := 6) dX6_forceOn_5 rfl rfl ?_
      refine V_aload_n (q := 7) dX6_forceOn_6 rfl rfl ?_
      refine V_getI (q := 10) (n := 386) 6 2 kf_X6_105 (by decide) (by decide) rfl rfl dX6_forceOn_7 rfl ?_
      rw [hn]
      refine V_icmp_ge (tgt := 54) (q := 13) dX6_forceOn_10 (by decide) rfl (fun c_10 => absurd c_10 (v_gf (by omega) (by omega) (by omega))) (fun c_10 => ?_)
      refine V_aload_n (q := 14) dX6_forceOn_13 rfl rfl ?_
      refine V_getR (q := 17) (n := 41) 6 3 kf_X6_13 (by decide) (by decide) rfl (by decide) dX6_forceOn_14 rfl ?_
      refine V_iload_n (q := 18) dX6_forceOn_17 rfl rfl ?_
      refine V_ild (q := 19) (i) 5 rfl (by omega) (by decide) (by omega) (by decide) rfl (by decide) dX6_forceOn_18 rfl ?_
      refine V_iload_n (q := 20) dX6_forceOn_19 rfl rfl ?_
      refine V_icmp_gt (tgt := 46) (q := 23) dX6_forceOn_20 (by decide) rfl (fun c_20 => ?_) (fun c_20 => ?_)
      · refine V_iload_n (q := 47) dX6_forceOn_46 rfl rfl ?_
        refine V_istore_n (q := 48) dX6_forceOn_47 (Nat.le_of_ble_eq_true rfl) rfl rfl ?_
        refine V_iincN (q := 51) dX6_forceOn_48 rfl (Nat.le_of_ble_eq_true rfl) rfl rfl ?_
        refine V_goto (q := 5) dX6_forceOn_51 (by decide) ?_
        rw [if_neg (v_nlt c_20)] at ih2
        exact ih2
      · refine V_iload_n (q := 24) dX6_forceOn_23 rfl rfl ?_
        refine V_if_lt (tgt := 42) (q := 27) dX6_forceOn_24 (by decide) rfl (fun c_24 => ?_) (fun c_24 => absurd (by decide : (-4 : Int32) < 0) c_24)
        refine V_iload_n (q := 43) dX6_forceOn_42 rfl rfl ?_
        refine V_goto (q := 47) dX6_forceOn_43 (by decide) ?_
        refine V_istore_n (q := 48) dX6_forceOn_47 (Nat.le_of_ble_eq_true rfl) rfl rfl ?_
        refine V_iincN (q := 51) dX6_forceOn_48 rfl (Nat.le_of_ble_eq_true rfl) rfl rfl ?_
        refine V_goto (q := 5) dX6_forceOn_51 (by decide) ?_
        rw [if_pos (v_nle c_20)] at ih2
        exact ih2
    | some j =>
      rw [ho] at ih2
      have hj := onD_lt _ _ ho
      show V κ mX6_forceOn 5 [.ref 6, .int day, .int (nI j), .int (nI i)] [] F Ar x
      simp only [] at ih2
      refine V_iload_n (q := 6) dX6_forceOn_5 rfl rfl ?_
      refine V_aload_n (q := 7) dX6_forceOn_6 rfl rfl ?_
      refine V_getI (q := 10) (n := 386) 6 2 kf_X6_105 (by decide) (by decide) rfl rfl dX6_forceOn_7 rfl ?_
      rw [hn]
      refine V_icmp_ge (tgt := 54) (q := 13) dX6_forceOn_10 (by decide) rfl (fun c_10 => absurd c_10 (v_gf (by omega) (by omega) (by omega))) (fun c_10 => ?_)
      refine V_aload_n (q := 14) dX6_forceOn_13 rfl rfl ?_
      refine V_getR (q := 17) (n := 41) 6 3 kf_X6_13 (by decide) (by decide) rfl (by decide) dX6_forceOn_14 rfl ?_
      refine V_iload_n (q := 18) dX6_forceOn_17 rfl rfl ?_
      refine V_ild (q := 19) (i) 5 rfl (by omega) (by decide) (by omega) (by decide) rfl (by decide) dX6_forceOn_18 rfl ?_
      refine V_iload_n (q := 20) dX6_forceOn_19 rfl rfl ?_
      refine V_icmp_gt (tgt := 46) (q := 23) dX6_forceOn_20 (by decide) rfl (fun c_20 => ?_) (fun c_20 => ?_)
      · refine V_iload_n (q := 47) dX6_forceOn_46 rfl rfl ?_
        refine V_istore_n (q := 48) dX6_forceOn_47 (Nat.le_of_ble_eq_true rfl) rfl rfl ?_
        refine V_iincN (q := 51) dX6_forceOn_48 rfl (Nat.le_of_ble_eq_true rfl) rfl rfl ?_
        refine V_goto (q := 5) dX6_forceOn_51 (by decide) ?_
        rw [if_neg (v_nlt c_20)] at ih2
        exact ih2
      · refine V_iload_n (q := 24) dX6_forceOn_23 rfl rfl ?_
        refine V_if_lt (tgt := 42) (q := 27) dX6_forceOn_24 (by decide) rfl (fun c_24 => absurd c_24 (nI_pos (by omega))) (fun c_24 => ?_)
        refine V_aload_n (q := 28) dX6_forceOn_27 rfl rfl ?_
        refine V_getR (q := 31) (n := 41) 6 3 kf_X6_13 (by decide) (by decide) rfl (by decide) dX6_forceOn_28 rfl ?_
        refine V_iload_n (q := 32) dX6_forceOn_31 rfl rfl ?_
        refine V_ild (q := 33) (i) 5 rfl (by omega) (by decide) (by omega) (by decide) rfl (by decide) dX6_forceOn_32 rfl ?_
        refine V_aload_n (q := 34) dX6_forceOn_33 rfl rfl ?_
        refine V_getR (q := 37) (n := 41) 6 3 kf_X6_13 (by decide) (by decide) rfl (by decide) dX6_forceOn_34 rfl ?_
        refine V_iload_n (q := 38) dX6_forceOn_37 rfl rfl ?_
        refine V_ild (q := 39) (j) 5 rfl (by omega) (by decide) (by omega) (by decide) rfl (by decide) dX6_forceOn_38 rfl ?_
        refine V_icmp_lt (tgt := 46) (q := 42) dX6_forceOn_39 (by decide) rfl (fun c_39 => ?_) (fun c_39 => ?_)
        · refine V_iload_n (q := 47) dX6_forceOn_46 rfl rfl ?_
          refine V_istore_n (q := 48) dX6_forceOn_47 (Nat.le_of_ble_eq_true rfl) rfl rfl ?_
          refine V_iincN (q := 51) dX6_forceOn_48 rfl (Nat.le_of_ble_eq_true rfl) rfl rfl ?_
          refine V_goto (q := 5) dX6_forceOn_51 (by decide) ?_
          rw [if_pos (v_nle c_20), if_neg (v_nlt c_39)] at ih2
          exact ih2
        · refine V_iload_n (q := 43) dX6_forceOn_42 rfl rfl ?_
          refine V_goto (q := 47) dX6_forceOn_43 (by decide) ?_
          refine V_istore_n (q := 48) dX6_forceOn_47 (Nat.le_of_ble_eq_true rfl) rfl rfl ?_
          refine V_iincN (q := 51) dX6_forceOn_48 rfl (Nat.le_of_ble_eq_true rfl) rfl rfl ?_
          refine V_goto (q := 5) dX6_forceOn_51 (by decide) ?_
          rw [if_pos (v_nle c_20), if_pos (v_nle c_39)] at ih2
          exact ih2
theorem tX6_forceOn {F : vFt} {Ar : vAt} {x : vXt} {n : Nat} {day : Int32} (hn : F 386 = nI n) (hn5 : n ≤ 5) : C0 mX6_forceOn 0 [.ref 6, .int day] F Ar x (vEq (some (.int (oI (onD (Ar 41) day n)))) F Ar) := by
  refine C0_of (by decide +kernel) (Nat.le_of_ble_eq_true rfl) (fun κ hκ => ?_)
  show V κ mX6_forceOn 0 [.ref 6, .int day, .null, .null] [] F Ar x
  refine V_bipush (q := 2) (v := (-4)) dX6_forceOn_0 (by decide) rfl ?_
  refine V_istore_n (q := 3) dX6_forceOn_2 (Nat.le_of_ble_eq_true rfl) rfl rfl ?_
  refine V_iconst (q := 4) (v := 0) dX6_forceOn_3 (by decide) rfl ?_
  refine V_istore_n (q := 5) dX6_forceOn_4 (Nat.le_of_ble_eq_true rfl) rfl rfl ?_
  exact lp_X6_on hκ hn hn5 n 0 (by omega)
theorem tX6_inForce {F : vFt} {Ar : vAt} {x : vXt} {n : Nat} {day : Int32} (hn : F 386 = nI n) (hn5 : n ≤ 5) : C0 mX6_inForce 1 [.ref 6, .int day] F Ar x (vEq (some (.int (if 0 ≤ day ∧ day ≤ 999 then oI (onD (Ar 41) day n) else -1))) F Ar) := by
  refine C0_of (by decide +kernel) (Nat.le_of_ble_eq_true rfl) (fun κ hκ => ?_)
  show V κ mX6_inForce 0 [.ref 6, .int day] [] F Ar x
  refine V_iload_n (q := 1) dX6_inForce_0 rfl rfl ?_
  refine V_iconst (q := 2) (v := 0) dX6_inForce_1 (by decide) rfl ?_
  refine V_sipush (q := 5) (v := 999) dX6_inForce_2 (by decide) rfl ?_
  refine V_cS3I (q := 8) (N := mX6_in) tX6_in hκ.big (by decide) gX6_in kl_X6_101 kt_X6_in (Nat.le_of_ble_eq_true rfl) dX6_inForce_5 rfl ?_
  refine V_if_eq (tgt := 19) (q := 11) dX6_inForce_8 (by decide) rfl (fun c_8 => ?_) (fun c_8 => ?_)
  · refine V_iconst (q := 20) (v := (-1)) dX6_inForce_19 (by decide) rfl ?_
    exact V_iret hκ rfl rfl dX6_inForce_20 ⟨by rw [if_neg (vB_0.mp c_8)], rfl, rfl⟩
  · refine V_aload_n (q := 12) dX6_inForce_11 rfl rfl ?_
    refine V_iload_n (q := 13) dX6_inForce_12 rfl rfl ?_
    refine V_cV1I (q := 16) (o := 6) (N := mX6_forceOn) (tX6_forceOn hn hn5) hκ.big (by decide) gX6_forceOn kl_X6_112 ki_X6_forceOn ks_X6_forceOn (by decide) rfl (Nat.le_of_ble_eq_true rfl) dX6_inForce_13 rfl ?_
    refine V_goto (q := 20) dX6_inForce_16 (by decide) ?_
    exact V_iret hκ rfl rfl dX6_inForce_20 ⟨by rw [if_pos (vB_n0.mp c_8)], rfl, rfl⟩
def mSz (f : Nat → Int32) (h : Nat) (l b d r : Int32) : Nat → Int32 := upd (upd (upd (upd f (4 * h) l) (4 * h + 1) b) (4 * h + 2) d) (4 * h + 3) r
theorem v_m4 (h c : Nat) : 4 * nI h + nI c = nI (4 * h + c) := v_ma 4 h c
theorem tX6_put {F : vFt} {Ar : vAt} {x : vXt} {h : Nat} {l b d r : Int32} (hh : h < 5) : C0 mX6_put 0 [.ref 6, .int (nI h), .int l, .int b, .int d, .int r] F Ar x (vEq none F (vS Ar 44 (mSz (Ar 44) h l b d r))) := by
  refine C0_of (by decide +kernel) (Nat.le_of_ble_eq_true rfl) (fun κ hκ => ?_)
  show V κ mX6_put 0 [.ref 6, .int (nI h), .int l, .int b, .int d, .int r] [] F Ar x
  refine V_aload_n (q := 1) dX6_put_0 rfl rfl ?_
  refine V_getR (q := 4) (n := 44) 6 7 kf_X6_22 (by decide) (by decide) rfl (by decide) dX6_put_1 rfl ?_
  refine V_iconst (q := 5) (v := 4) dX6_put_4 (by decide) rfl ?_
  refine V_iload_n (q := 6) dX6_put_5 rfl rfl ?_
  refine V_imul (q := 7) dX6_put_6 rfl ?_
  refine V_iload_n (q := 8) dX6_put_7 rfl rfl ?_
  refine V_ist (q := 9) (4 * h) 20 (pk_mul 4 h) (by omega) (by decide) (by omega) (by decide) rfl (by decide) dX6_put_8 rfl ?_
  refine V_aload_n (q := 10) dX6_put_9 rfl rfl ?_
  refine V_getR (q := 13) (n := 44) 6 7 kf_X6_22 (by decide) (by decide) rfl (by decide) dX6_put_10 rfl ?_
  refine V_iconst (q := 14) (v := 4) dX6_put_13 (by decide) rfl ?_
  refine V_iload_n (q := 15) dX6_put_14 rfl rfl ?_
  refine V_imul (q := 16) dX6_put_15 rfl ?_
  refine V_iconst (q := 17) (v := 1) dX6_put_16 (by decide) rfl ?_
  refine V_iadd (q := 18) dX6_put_17 rfl ?_
  refine V_iload_n (q := 19) dX6_put_18 rfl rfl ?_
  refine V_ist (q := 20) (4 * h + 1) 20 (v_m4 h 1) (by omega) (by decide) (by omega) (by decide) rfl (by decide) dX6_put_19 rfl ?_
  refine V_aload_n (q := 21) dX6_put_20 rfl rfl ?_
  refine V_getR (q := 24) (n := 44) 6 7 kf_X6_22 (by decide) (by decide) rfl (by decide) dX6_put_21 rfl ?_
  refine V_iconst (q := 25) (v := 4) dX6_put_24 (by decide) rfl ?_
  refine V_iload_n (q := 26) dX6_put_25 rfl rfl ?_
  refine V_imul (q := 27) dX6_put_26 rfl ?_
  refine V_iconst (q := 28) (v := 2) dX6_put_27 (by decide) rfl ?_
  refine V_iadd (q := 29) dX6_put_28 rfl ?_
  refine V_iload (q := 31) dX6_put_29 rfl rfl ?_
  refine V_ist (q := 32) (4 * h + 2) 20 (v_m4 h 2) (by omega) (by decide) (by omega) (by decide) rfl (by decide) dX6_put_31 rfl ?_
  refine V_aload_n (q := 33) dX6_put_32 rfl rfl ?_
  refine V_getR (q := 36) (n := 44) 6 7 kf_X6_22 (by decide) (by decide) rfl (by decide) dX6_put_33 rfl ?_
  refine V_iconst (q := 37) (v := 4) dX6_put_36 (by decide) rfl ?_
  refine V_iload_n (q := 38) dX6_put_37 rfl rfl ?_
  refine V_imul (q := 39) dX6_put_38 rfl ?_
  refine V_iconst (q := 40) (v := 3) dX6_put_39 (by decide) rfl ?_
  refine V_iadd (q := 41) dX6_put_40 rfl ?_
  refine V_iload (q := 43) dX6_put_41 rfl rfl ?_
  refine V_ist (q := 44) (4 * h + 3) 20 (v_m4 h 3) (by omega) (by decide) (by omega) (by decide) rfl (by decide) dX6_put_43 rfl ?_
  exact V_vret hκ rfl dX6_put_44 ⟨rfl, rfl, by simp only [vS_vS, vS_at]; rfl⟩
theorem tX6_hull {F : vFt} {Ar : vAt} {x : vXt} {n : Nat} {l b d r : Int32} (hn : F 390 = nI n) (hn5 : n ≤ 5) : C0 mX6_hull 2 [.ref 6, .int l, .int b, .int d, .int r] F Ar x (vEq (some (.int (if vSz l b d r then (if n < 5 then nI n else -2) else -1))) (if vSz l b d r ∧ n < 5 then upd F 390 (nI (n + 1)) else F) (if vSz l b d r ∧ n < 5 then vS (vS Ar 44 (mSz (Ar 44) n l b d r)) 46 (upd (Ar 46) n (-1)) else Ar)) := by
  refine C0_of (by decide +kernel) (Nat.le_of_ble_eq_true rfl) (fun κ hκ => ?_)
  show V κ mX6_hull 0 [.ref 6, .int l, .int b, .int d, .int r] [] F Ar x
  refine V_iload_n (q := 1) dX6_hull_0 rfl rfl ?_
  refine V_iload_n (q := 2) dX6_hull_1 rfl rfl ?_
  refine V_iload_n (q := 3) dX6_hull_2 rfl rfl ?_
  refine V_iload (q := 5) dX6_hull_3 rfl rfl ?_
  refine V_cS4I (q := 8) (N := mX6_areSizes) tX6_areSizes hκ.big (by decide) gX6_areSizes kl_X6_139 kt_X6_areSizes (Nat.le_of_ble_eq_true rfl) dX6_hull_5 rfl ?_
  refine V_if_ne (tgt := 13) (q := 11) dX6_hull_8 (by decide) rfl (fun c_8 => ?_) (fun c_8 => ?_)
  · refine V_aload_n (q := 14) dX6_hull_13 rfl rfl ?_
    refine V_getI (q := 17) (n := 390) 6 6 kf_X6_149 (by decide) (by decide) rfl rfl dX6_hull_14 rfl ?_
    refine V_iconst (q := 18) (v := 5) dX6_hull_17 (by decide) rfl ?_
    have h5 : nI n = nI 5 ↔ n = 5 := nI_eq (by omega) (by decide)
    rw [hn]
    refine V_icmp_ne (tgt := 24) (q := 21) dX6_hull_18 (by decide) rfl (fun c_18 => ?_) (fun c_18 => ?_)
    · refine V_aload_n (q := 25) dX6_hull_24 rfl rfl ?_
      refine V_aload_n (q := 26) dX6_hull_25 rfl rfl ?_
      refine V_getI (q := 29) (n := 390) 6 6 kf_X6_149 (by decide) (by decide) rfl rfl dX6_hull_26 rfl ?_
      have k5 : n < 5 := (by have : ¬ n = 5 := fun h => c_18 (h5.mpr h); omega)
      rw [hn]
      refine V_iload_n (q := 30) dX6_hull_29 rfl rfl ?_
      refine V_iload_n (q := 31) dX6_hull_30 rfl rfl ?_
      refine V_iload_n (q := 32) dX6_hull_31 rfl rfl ?_
      refine V_iload (q := 34) dX6_hull_32 rfl rfl ?_
      refine V_cV5U (q := 37) (o := 6) (N := mX6_put) (tX6_put k5) hκ.big (by decide) gX6_put kl_X6_152 ki_X6_put ks_X6_put (by decide) rfl (Nat.le_of_ble_eq_true rfl) dX6_hull_34 rfl ?_
      refine V_aload_n (q := 38) dX6_hull_37 rfl rfl ?_
      refine V_getR (q := 41) (n := 46) 6 9 kf_X6_28 (by decide) (by decide) rfl (by decide) dX6_hull_38 rfl ?_
      refine V_aload_n (q := 42) dX6_hull_41 rfl rfl ?_
      refine V_getI (q := 45) (n := 390) 6 6 kf_X6_149 (by decide) (by decide) rfl rfl dX6_hull_42 rfl ?_
      rw [hn]
      refine V_iconst (q := 46) (v := (-1)) dX6_hull_45 (by decide) rfl ?_
      refine V_ist (q := 47) (n) 5 rfl k5 (by decide) (by omega) (by decide) rfl (by decide) dX6_hull_46 rfl ?_
      refine V_aload_n (q := 48) dX6_hull_47 rfl rfl ?_
      refine V_dup (q := 49) dX6_hull_48 rfl rfl ?_
      refine V_getI (q := 52) (n := 390) 6 6 kf_X6_149 (by decide) (by decide) rfl rfl dX6_hull_49 rfl ?_
      refine V_iconst (q := 53) (v := 1) dX6_hull_52 (by decide) rfl ?_
      refine V_iadd (q := 54) dX6_hull_53 rfl ?_
      refine V_putI (q := 57) (n := 390) 6 6 kf_X6_149 (by decide) (by decide) rfl rfl dX6_hull_54 rfl ?_
      refine V_aload_n (q := 58) dX6_hull_57 rfl rfl ?_
      refine V_getI (q := 61) (n := 390) 6 6 kf_X6_149 (by decide) (by decide) rfl rfl dX6_hull_58 rfl ?_
      refine V_iconst (q := 62) (v := 1) dX6_hull_61 (by decide) rfl ?_
      refine V_isub (q := 63) dX6_hull_62 rfl ?_
      exact V_iret hκ rfl rfl dX6_hull_63 (by have k := vB_n0.mp c_8; simp only [if_pos k, if_pos k5, if_pos (show vSz l b d r ∧ n < 5 from ⟨k, k5⟩)]; exact ⟨by show some (Value.int (F 390 + 1 - 1)) = _; rw [hn, nI_1, nI_pred], by rw [hn, nI_1], rfl⟩)
    · refine V_bipush (q := 23) (v := (-2)) dX6_hull_21 (by decide) rfl ?_
      exact V_iret hκ rfl rfl dX6_hull_23 (by have k := vB_n0.mp c_8; have k5 : ¬ n < 5 := (by have := h5.mp c_18; omega); simp only [if_pos k, if_neg k5, if_neg (fun q : vSz l b d r ∧ n < 5 => k5 q.2)]; exact vEq.rf)
  · refine V_iconst (q := 12) (v := (-1)) dX6_hull_11 (by decide) rfl ?_
    exact V_iret hκ rfl rfl dX6_hull_12 (by have k := vB_0.mp c_8; simp only [if_neg k, if_neg (fun q : vSz l b d r ∧ n < 5 => k q.1)]; exact vEq.rf)
