def cpT (f g : Nat → Int32) (c : Nat) : Nat → Nat → Int32
  | 0 => f
  | i + 1 => upd (cpT f g c i) (40 * c + i) (g i)
def actA (Ar : vAt) (c n : Nat) (day : Int32) : vAt := vS (vS (vS Ar 43 (cpT (Ar 43) (Ar 40) c n)) 42 (upd (Ar 42) c (nI n))) 41 (upd (Ar 41) c day)
theorem ne5 {n : Nat} (h : n < 5) : ¬ nI n = 5 := fun q => by
  have h2 : nI n = nI 5 ↔ n = 5 := nI_eq (by omega) (by decide)
  have := h2.mp q
  omega
theorem tX6_act0 {F : vFt} {Ar : vAt} {x : vXt} {day : Int32} (hb : ¬ (0 ≤ day ∧ day ≤ 999)) : C0 mX6_act 3 [.ref 6, .int day] F Ar x (vEq (some (.int (-1))) F Ar) := by
  refine C0_of (by decide +kernel) (Nat.le_of_ble_eq_true rfl) (fun κ hκ => ?_)
  show V κ mX6_act 0 [.ref 6, .int day, .null] [] F Ar x
  refine V_iload_n (q := 1) dX6_act_0 rfl rfl ?_
  refine V_iconst (q := 2) (v := 0) dX6_act_1 (by decide) rfl ?_
  refine V_sipush (q := 5) (v := 999) dX6_act_2 (by decide) rfl ?_
  refine V_cS3I (q := 8) (N := mX6_in) tX6_in hκ.big (by decide) gX6_in kl_X6_101 kt_X6_in (Nat.le_of_ble_eq_true rfl) dX6_act_5 rfl ?_
  refine V_if_ne (tgt := 13) (q := 11) dX6_act_8 (by decide) rfl (fun c_8 => absurd (vB_n0.mp c_8) hb) (fun c_8 => ?_)
  refine V_iconst (q := 12) (v := (-1)) dX6_act_11 (by decide) rfl ?_
  exact V_iret hκ rfl rfl dX6_act_12 vEq.rf
theorem tX6_act1 {F : vFt} {Ar : vAt} {x : vXt} {day : Int32} (hd : 0 ≤ day ∧ day ≤ 999) (hc : F 386 = nI 5) : C0 mX6_act 3 [.ref 6, .int day] F Ar x (vEq (some (.int (-2))) F Ar) := by
  refine C0_of (by decide +kernel) (Nat.le_of_ble_eq_true rfl) (fun κ hκ => ?_)
  show V κ mX6_act 0 [.ref 6, .int day, .null] [] F Ar x
  refine V_iload_n (q := 1) dX6_act_0 rfl rfl ?_
  refine V_iconst (q := 2) (v := 0) dX6_act_1 (by decide) rfl ?_
  refine V_sipush (q := 5) (v := 999) dX6_act_2 (by decide) rfl ?_
  refine V_cS3I (q := 8) (N := mX6_in) tX6_in hκ.big (by decide) gX6_in kl_X6_101 kt_X6_in (Nat.le_of_ble_eq_true rfl) dX6_act_5 rfl ?_
  refine V_if_ne (tgt := 13) (q := 11) dX6_act_8 (by decide) rfl (fun c_8 => ?_) (fun c_8 => absurd c_8 (vB_n0.mpr hd))
  refine V_aload_n (q := 14) dX6_act_13 rfl rfl ?_
  refine V_getI (q := 17) (n := 386) 6 2 kf_X6_105 (by decide) (by decide) rfl rfl dX6_act_14 rfl ?_
  refine V_iconst (q := 18) (v := 5) dX6_act_17 (by decide) rfl ?_
  refine V_icmp_ne (tgt := 24) (q := 21) dX6_act_18 (by decide) rfl (fun c_18 => absurd hc c_18) (fun c_18 => ?_)
  refine V_bipush (q := 23) (v := (-2)) dX6_act_21 (by decide) rfl ?_
  exact V_iret hκ rfl rfl dX6_act_23 vEq.rf
theorem tX6_act2 {F : vFt} {Ar : vAt} {x : vXt} {day : Int32} {c n : Nat} (l b d r : Int32) (hd : 0 ≤ day ∧ day ≤ 999) (hc : F 386 = nI c) (hc5 : c < 5) (hn : F 384 = nI n) (hn40 : n ≤ 40) (hg : ¬ sGd (sRun l b d r (Ar 40) n 0 ([], 0)) = true) : C0 mX6_act 3 [.ref 6, .int day] F Ar x (vEq (some (.int (-5))) F Ar) := by
  refine C0_of (by decide +kernel) (Nat.le_of_ble_eq_true rfl) (fun κ hκ => ?_)
  show V κ mX6_act 0 [.ref 6, .int day, .null] [] F Ar x
  refine V_iload_n (q := 1) dX6_act_0 rfl rfl ?_
  refine V_iconst (q := 2) (v := 0) dX6_act_1 (by decide) rfl ?_
  refine V_sipush (q := 5) (v := 999) dX6_act_2 (by decide) rfl ?_
  refine V_cS3I (q := 8) (N := mX6_in) tX6_in hκ.big (by decide) gX6_in kl_X6_101 kt_X6_in (Nat.le_of_ble_eq_true rfl) dX6_act_5 rfl ?_
  refine V_if_ne (tgt := 13) (q := 11) dX6_act_8 (by decide) rfl (fun c_8 => ?_) (fun c_8 => absurd c_8 (vB_n0.mpr hd))
  refine V_aload_n (q := 14) dX6_act_13 rfl rfl ?_
  refine V_getI (q := 17) (n := 386) 6 2 kf_X6_105 (by decide) (by decide) rfl rfl dX6_act_14 rfl ?_
  refine V_iconst (q := 18) (v := 5) dX6_act_17 (by decide) rfl ?_
  refine V_icmp_ne (tgt := 24) (q := 21) dX6_act_18 (by decide) rfl (fun c_18 => ?_) (fun c_18 => absurd c_18 (by rw [hc]; exact ne5 hc5))
  refine V_aload_n (q := 25) dX6_act_24 rfl rfl ?_
  refine V_cV0I (q := 28) (o := 6) (N := mX6_isGood) (tX6_isGood l b d r hn hn40) hκ.big (by decide) gX6_isGood kl_X6_108 ki_X6_isGood ks_X6_isGood (by decide) rfl (Nat.le_of_ble_eq_true rfl) dX6_act_25 rfl ?_
  refine V_if_ne (tgt := 34) (q := 31) dX6_act_28 (by decide) rfl (fun c_28 => absurd (vB_n0.mp c_28) hg) (fun c_28 => ?_)
  refine V_bipush (q := 33) (v := (-5)) dX6_act_31 (by decide) rfl ?_
  exact V_iret hκ rfl rfl dX6_act_33 vEq.rf
theorem lp_X6_act {F : vFt} {Ar : vAt} {x : vXt} {c n : Nat} {day : Int32} {κ : vK} (hκ : vStd κ 3 x (vEq (some (.int (nI c))) (upd (upd F 384 0) 386 (nI (c + 1))) (actA Ar c n day))) (hc : F 386 = nI c) (hc5 : c < 5) (hn : F 384 = nI n) (hn40 : n ≤ 40) : ∀ k i, i + k = n → V κ mX6_act 36 [.ref 6, .int day, .int (nI i)] [] F (vS Ar 43 (cpT (Ar 43) (Ar 40) c i)) x := by
  intro k
  induction k with
  | zero =>
    intro i hi
    obtain rfl : i = n := by omega
    refine V_iload_n (q := 37) dX6_act_36 rfl rfl ?_
    refine V_aload_n (q := 38) dX6_act_37 rfl rfl ?_
    refine V_getI (q := 41) (n := 384) 6 0 kf_X6_89 (by decide) (by decide) rfl rfl dX6_act_38 rfl ?_
    rw [hn]
    refine V_icmp_ge (tgt := 70) (q := 44) dX6_act_41 (by decide) rfl (fun c_41 => ?_) (fun c_41 => absurd c_41 (v_gt (by omega) (by omega) (Nat.le_refl _)))
    refine V_aload_n (q := 71) dX6_act_70 rfl rfl ?_
    refine V_getR (q := 74) (n := 42) 6 4 kf_X6_16 (by decide) (by decide) rfl (by decide) dX6_act_71 rfl ?_
    refine V_aload_n (q := 75) dX6_act_74 rfl rfl ?_
    refine V_getI (q := 78) (n := 386) 6 2 kf_X6_105 (by decide) (by decide) rfl rfl dX6_act_75 rfl ?_
    refine V_aload_n (q := 79) dX6_act_78 rfl rfl ?_
    refine V_getI (q := 82) (n := 384) 6 0 kf_X6_89 (by decide) (by decide) rfl rfl dX6_act_79 rfl ?_
    refine V_top (nI i) hn ?_
    refine V_ist (q := 83) (c) 5 hc (by omega) (by decide) (by omega) (by decide) rfl (by decide) dX6_act_82 rfl ?_
    refine V_aload_n (q := 84) dX6_act_83 rfl rfl ?_
    refine V_getR (q := 87) (n := 41) 6 3 kf_X6_13 (by decide) (by decide) rfl (by decide) dX6_act_84 rfl ?_
    refine V_aload_n (q := 88) dX6_act_87 rfl rfl ?_
    refine V_getI (q := 91) (n := 386) 6 2 kf_X6_105 (by decide) (by decide) rfl rfl dX6_act_88 rfl ?_
    refine V_iload_n (q := 92) dX6_act_91 rfl rfl ?_
    refine V_ist (q := 93) (c) 5 hc (by omega) (by decide) (by omega) (by decide) rfl (by decide) dX6_act_92 rfl ?_
    refine V_aload_n (q := 94) dX6_act_93 rfl rfl ?_
    refine V_iconst (q := 95) (v := 0) dX6_act_94 (by decide) rfl ?_
    refine V_putI (q := 98) (n := 384) 6 0 kf_X6_89 (by decide) (by decide) rfl rfl dX6_act_95 rfl ?_
    refine V_aload_n (q := 99) dX6_act_98 rfl rfl ?_
    refine V_dup (q := 100) dX6_act_99 rfl rfl ?_
    refine V_getI (q := 103) (n := 386) 6 2 kf_X6_105 (by decide) (by decide) rfl rfl dX6_act_100 rfl ?_
    refine V_iconst (q := 104) (v := 1) dX6_act_103 (by decide) rfl ?_
    refine V_iadd (q := 105) dX6_act_104 rfl ?_
    refine V_putI (q := 108) (n := 386) 6 2 kf_X6_105 (by decide) (by decide) rfl rfl dX6_act_105 rfl ?_
    refine V_aload_n (q := 109) dX6_act_108 rfl rfl ?_
    refine V_getI (q := 112) (n := 386) 6 2 kf_X6_105 (by decide) (by decide) rfl rfl dX6_act_109 rfl ?_
    refine V_iconst (q := 113) (v := 1) dX6_act_112 (by decide) rfl ?_
    refine V_isub (q := 114) dX6_act_113 rfl ?_
    exact V_iret hκ rfl rfl dX6_act_114 ⟨by show some (Value.int (F 386 + 1 - 1)) = _; rw [hc, nI_1, nI_pred], congrArg (upd (upd F 384 0) 386) ((congrArg (fun z => z + 1) hc).trans (nI_1 c)), rfl⟩
  | succ k ih =>
    intro i hi
    refine V_iload_n (q := 37) dX6_act_36 rfl rfl ?_
    refine V_aload_n (q := 38) dX6_act_37 rfl rfl ?_
    refine V_getI (q := 41) (n := 384) 6 0 kf_X6_89 (by decide) (by decide) rfl rfl dX6_act_38 rfl ?_
    rw [hn]
    refine V_icmp_ge (tgt := 70) (q := 44) dX6_act_41 (by decide) rfl (fun c_41 => absurd c_41 (v_gf (by omega) (by omega) (by omega))) (fun c_41 => ?_)
    refine V_aload_n (q := 45) dX6_act_44 rfl rfl ?_
    refine V_getR (q := 48) (n := 43) 6 5 kf_X6_19 (by decide) (by decide) rfl (by decide) dX6_act_45 rfl ?_
    refine V_bipush (q := 50) (v := 40) dX6_act_48 (by decide) rfl ?_
    refine V_aload_n (q := 51) dX6_act_50 rfl rfl ?_
    refine V_getI (q := 54) (n := 386) 6 2 kf_X6_105 (by decide) (by decide) rfl rfl dX6_act_51 rfl ?_
    refine V_imul (q := 55) dX6_act_54 rfl ?_
    refine V_iload_n (q := 56) dX6_act_55 rfl rfl ?_
    refine V_iadd (q := 57) dX6_act_56 rfl ?_
    refine V_aload_n (q := 58) dX6_act_57 rfl rfl ?_
    refine V_getR (q := 61) (n := 40) 6 1 kf_X6_7 (by decide) (by decide) rfl (by decide) dX6_act_58 rfl ?_
    refine V_iload_n (q := 62) dX6_act_61 rfl rfl ?_
    refine V_ild (q := 63) (i) 40 rfl (by omega) (by decide) (by omega) (by decide) rfl (by decide) dX6_act_62 rfl ?_
    refine V_ist (q := 64) (40 * c + i) 200 (by rw [hc]; exact v_m40 c i) (by omega) (by decide) (by omega) (by decide) rfl (by decide) dX6_act_63 rfl ?_
    refine V_iincN (q := 67) dX6_act_64 rfl (Nat.le_of_ble_eq_true rfl) rfl rfl ?_
    refine V_goto (q := 36) dX6_act_67 (by decide) ?_
    refine V_ar (vS Ar 43 (cpT (Ar 43) (Ar 40) c (i + 1))) (by rw [vS_vS, vS_at]; rfl) ?_
    exact ih (i + 1) (by omega)
theorem tX6_act3 {F : vFt} {Ar : vAt} {x : vXt} {day : Int32} {c n : Nat} (l b d r : Int32) (hd : 0 ≤ day ∧ day ≤ 999) (hc : F 386 = nI c) (hc5 : c < 5) (hn : F 384 = nI n) (hn40 : n ≤ 40) (hg : sGd (sRun l b d r (Ar 40) n 0 ([], 0)) = true) : C0 mX6_act 3 [.ref 6, .int day] F Ar x (vEq (some (.int (nI c))) (upd (upd F 384 0) 386 (nI (c + 1))) (actA Ar c n day)) := by
  refine C0_of (by decide +kernel) (Nat.le_of_ble_eq_true rfl) (fun κ hκ => ?_)
  show V κ mX6_act 0 [.ref 6, .int day, .null] [] F Ar x
  refine V_iload_n (q := 1) dX6_act_0 rfl rfl ?_
  refine V_iconst (q := 2) (v := 0) dX6_act_1 (by decide) rfl ?_
  refine V_sipush (q := 5) (v := 999) dX6_act_2 (by decide) rfl ?_
  refine V_cS3I (q := 8) (N := mX6_in) tX6_in hκ.big (by decide) gX6_in kl_X6_101 kt_X6_in (Nat.le_of_ble_eq_true rfl) dX6_act_5 rfl ?_
  refine V_if_ne (tgt := 13) (q := 11) dX6_act_8 (by decide) rfl (fun c_8 => ?_) (fun c_8 => absurd c_8 (vB_n0.mpr hd))
  refine V_aload_n (q := 14) dX6_act_13 rfl rfl ?_
  refine V_getI (q := 17) (n := 386) 6 2 kf_X6_105 (by decide) (by decide) rfl rfl dX6_act_14 rfl ?_
  refine V_iconst (q := 18) (v := 5) dX6_act_17 (by decide) rfl ?_
  refine V_icmp_ne (tgt := 24) (q := 21) dX6_act_18 (by decide) rfl (fun c_18 => ?_) (fun c_18 => absurd c_18 (by rw [hc]; exact ne5 hc5))
  refine V_aload_n (q := 25) dX6_act_24 rfl rfl ?_
  refine V_cV0I (q := 28) (o := 6) (N := mX6_isGood) (tX6_isGood l b d r hn hn40) hκ.big (by decide) gX6_isGood kl_X6_108 ki_X6_isGood ks_X6_isGood (by decide) rfl (Nat.le_of_ble_eq_true rfl) dX6_act_25 rfl ?_
  refine V_if_ne (tgt := 34) (q := 31) dX6_act_28 (by decide) rfl (fun c_28 => ?_) (fun c_28 => absurd c_28 (vB_n0.mpr hg))
  refine V_iconst (q := 35) (v := 0) dX6_act_34 (by decide) rfl ?_
  refine V_istore_n (q := 36) dX6_act_35 (Nat.le_of_ble_eq_true rfl) rfl rfl ?_
  refine V_ar (vS Ar 43 (cpT (Ar 43) (Ar 40) c 0)) (vS_self (Ar := Ar) (a := 43)).symm ?_
  exact lp_X6_act hκ hc hc5 hn hn40 n 0 (by omega)
theorem tX6_tons0 {F : vFt} {Ar : vAt} {x : vXt} {i l b d r : Int32} (hb : ¬ ((0 ≤ i ∧ i ≤ F 386 - 1) ∧ vSz l b d r)) : C0 mX6_tons 3 [.ref 6, .int i, .int l, .int b, .int d, .int r] F Ar x (vEq (some (.int (-10000000))) F Ar) := by
  refine C0_of (by decide +kernel) (Nat.le_of_ble_eq_true rfl) (fun κ hκ => ?_)
  show V κ mX6_tons 0 [.ref 6, .int i, .int l, .int b, .int d, .int r] [] F Ar x
  refine V_aload_n (q := 1) dX6_tons_0 rfl rfl ?_
  refine V_iload_n (q := 2) dX6_tons_1 rfl rfl ?_
  refine V_cV1I (q := 5) (o := 6) (N := mX6_isAct) tX6_isAct hκ.big (by decide) gX6_isAct kl_X6_136 ki_X6_isAct ks_X6_isAct (by decide) rfl (Nat.le_of_ble_eq_true rfl) dX6_tons_2 rfl ?_
  refine V_if_eq (tgt := 34) (q := 8) dX6_tons_5 (by decide) rfl (fun c_5 => ?_) (fun c_5 => ?_)
  · refine V_ldc (q := 36) dX6_tons_34 kc_X6_147 rfl ?_
    exact V_iret hκ rfl rfl dX6_tons_36 vEq.rf
  · refine V_iload_n (q := 9) dX6_tons_8 rfl rfl ?_
    refine V_iload_n (q := 10) dX6_tons_9 rfl rfl ?_
    refine V_iload (q := 12) dX6_tons_10 rfl rfl ?_
    refine V_iload (q := 14) dX6_tons_12 rfl rfl ?_
    refine V_cS4I (q := 17) (N := mX6_areSizes) tX6_areSizes hκ.big (by decide) gX6_areSizes kl_X6_139 kt_X6_areSizes (Nat.le_of_ble_eq_true rfl) dX6_tons_14 rfl ?_
    refine V_if_eq (tgt := 34) (q := 20) dX6_tons_17 (by decide) rfl (fun c_17 => ?_) (fun c_17 => absurd ⟨vB_n0.mp c_5, vB_n0.mp c_17⟩ hb)
    refine V_ldc (q := 36) dX6_tons_34 kc_X6_147 rfl ?_
    exact V_iret hκ rfl rfl dX6_tons_36 vEq.rf
theorem tX6_tons1 {F : vFt} {Ar : vAt} {x : vXt} {a c len fz : Nat} {l b d r v : Int32} (hc : F 386 = nI c) (hc5 : c ≤ 5) (ha : a < c) (hs : vSz l b d r) (hlen : Ar 42 a = nI len) (hl40 : len ≤ 40) (hsl : smI l) (hsb : smI b) (hsd : smI d) (hsr : smI r) (hrun : sRun l b d r (fun i => Ar 43 (40 * a + i)) len 0 ([], 0) = some ([v], fz)) : C0 mX6_tons 3 [.ref 6, .int (nI a), .int l, .int b, .int d, .int r] F Ar x (mtQ v F Ar) := by
  refine C0_of (by decide +kernel) (Nat.le_of_ble_eq_true rfl) (fun κ hκ => ?_)
  show V κ mX6_tons 0 [.ref 6, .int (nI a), .int l, .int b, .int d, .int r] [] F Ar x
  have hg : 0 ≤ nI a ∧ nI a ≤ F 386 - 1 := by rw [hc]; exact (v_has (by omega)).mpr ⟨a, ha, rfl⟩
  refine V_aload_n (q := 1) dX6_tons_0 rfl rfl ?_
  refine V_iload_n (q := 2) dX6_tons_1 rfl rfl ?_
  refine V_cV1I (q := 5) (o := 6) (N := mX6_isAct) tX6_isAct hκ.big (by decide) gX6_isAct kl_X6_136 ki_X6_isAct ks_X6_isAct (by decide) rfl (Nat.le_of_ble_eq_true rfl) dX6_tons_2 rfl ?_
  refine V_if_eq (tgt := 34) (q := 8) dX6_tons_5 (by decide) rfl (fun c_5 => absurd c_5 (vB_n0.mpr hg)) (fun c_5 => ?_)
  refine V_iload_n (q := 9) dX6_tons_8 rfl rfl ?_
  refine V_iload_n (q := 10) dX6_tons_9 rfl rfl ?_
  refine V_iload (q := 12) dX6_tons_10 rfl rfl ?_
  refine V_iload (q := 14) dX6_tons_12 rfl rfl ?_
  refine V_cS4I (q := 17) (N := mX6_areSizes) tX6_areSizes hκ.big (by decide) gX6_areSizes kl_X6_139 kt_X6_areSizes (Nat.le_of_ble_eq_true rfl) dX6_tons_14 rfl ?_
  refine V_if_eq (tgt := 34) (q := 20) dX6_tons_17 (by decide) rfl (fun c_17 => absurd c_17 (vB_n0.mpr hs)) (fun c_17 => ?_)
  refine V_aload_n (q := 21) dX6_tons_20 rfl rfl ?_
  refine V_iload_n (q := 22) dX6_tons_21 rfl rfl ?_
  refine V_iload_n (q := 23) dX6_tons_22 rfl rfl ?_
  refine V_iload_n (q := 24) dX6_tons_23 rfl rfl ?_
  refine V_iload (q := 26) dX6_tons_24 rfl rfl ?_
  refine V_iload (q := 28) dX6_tons_26 rfl rfl ?_
  refine V_cV5 (q := 31) (o := 6) (N := mX6_tonsBy) (tX6_tonsBy (by omega) hlen hl40 hsl hsb hsd hsr hrun) hκ.big (by decide) gX6_tonsBy kl_X6_143 ki_X6_tonsBy ks_X6_tonsBy (by decide) rfl (Nat.le_of_ble_eq_true rfl) dX6_tons_28 rfl (fun r F9 Ar9 h9 => ?_)
  have h10 := h9
  obtain ⟨rfl, -⟩ := h9
  show V κ mX6_tons 31 [.ref 6, .int (nI a), .int l, .int b, .int d, .int r] [.int v] _ _ x
  refine V_goto (q := 36) dX6_tons_31 (by decide) ?_
  exact V_iret hκ rfl rfl dX6_tons_36 h10
theorem tX6_measure0 {F : vFt} {Ar : vAt} {x : vXt} {i day : Int32} (hb : ¬ ((0 ≤ i ∧ i ≤ F 390 - 1) ∧ (0 ≤ day ∧ day ≤ 999))) : C0 mX6_measure 3 [.ref 6, .int i, .int day] F Ar x (vEq (some (.int (-1))) F Ar) := by
  refine C0_of (by decide +kernel) (Nat.le_of_ble_eq_true rfl) (fun κ hκ => ?_)
  show V κ mX6_measure 0 [.ref 6, .int i, .int day, .null] [] F Ar x
  refine V_aload_n (q := 1) dX6_measure_0 rfl rfl ?_
  refine V_iload_n (q := 2) dX6_measure_1 rfl rfl ?_
  refine V_cV1I (q := 5) (o := 6) (N := mX6_isHull) tX6_isHull hκ.big (by decide) gX6_isHull kl_X6_156 ki_X6_isHull ks_X6_isHull (by decide) rfl (Nat.le_of_ble_eq_true rfl) dX6_measure_2 rfl ?_
  refine V_if_eq (tgt := 19) (q := 8) dX6_measure_5 (by decide) rfl (fun c_5 => ?_) (fun c_5 => ?_)
  · refine V_iconst (q := 20) (v := (-1)) dX6_measure_19 (by decide) rfl ?_
    exact V_iret hκ rfl rfl dX6_measure_20 vEq.rf
  · refine V_iload_n (q := 9) dX6_measure_8 rfl rfl ?_
    refine V_iconst (q := 10) (v := 0) dX6_measure_9 (by decide) rfl ?_
    refine V_sipush (q := 13) (v := 999) dX6_measure_10 (by decide) rfl ?_
    refine V_cS3I (q := 16) (N := mX6_in) tX6_in hκ.big (by decide) gX6_in kl_X6_101 kt_X6_in (Nat.le_of_ble_eq_true rfl) dX6_measure_13 rfl ?_
    refine V_if_ne (tgt := 21) (q := 19) dX6_measure_16 (by decide) rfl (fun c_16 => absurd ⟨vB_n0.mp c_5, vB_n0.mp c_16⟩ hb) (fun c_16 => ?_)
    refine V_iconst (q := 20) (v := (-1)) dX6_measure_19 (by decide) rfl ?_
    exact V_iret hκ rfl rfl dX6_measure_20 vEq.rf
theorem tX6_measure1 {F : vFt} {Ar : vAt} {x : vXt} {m h c : Nat} {day : Int32} (hH : F 390 = nI m) (hm5 : m ≤ 5) (hh : h < m) (hd : 0 ≤ day ∧ day ≤ 999) (hc : F 386 = nI c) (hc5 : c ≤ 5) (hf : onD (Ar 41) day c = none) : C0 mX6_measure 3 [.ref 6, .int (nI h), .int day] F Ar x (vEq (some (.int (-4))) F Ar) := by
  refine C0_of (by decide +kernel) (Nat.le_of_ble_eq_true rfl) (fun κ hκ => ?_)
  show V κ mX6_measure 0 [.ref 6, .int (nI h), .int day, .null] [] F Ar x
  have hg : 0 ≤ nI h ∧ nI h ≤ F 390 - 1 := by rw [hH]; exact (v_has (by omega)).mpr ⟨h, hh, rfl⟩
  refine V_aload_n (q := 1) dX6_measure_0 rfl rfl ?_
  refine V_iload_n (q := 2) dX6_measure_1 rfl rfl ?_
  refine V_cV1I (q := 5) (o := 6) (N := mX6_isHull) tX6_isHull hκ.big (by decide) gX6_isHull kl_X6_156 ki_X6_isHull ks_X6_isHull (by decide) rfl (Nat.le_of_ble_eq_true rfl) dX6_measure_2 rfl ?_
  refine V_if_eq (tgt := 19) (q := 8) dX6_measure_5 (by decide) rfl (fun c_5 => absurd c_5 (vB_n0.mpr hg)) (fun c_5 => ?_)
  refine V_iload_n (q := 9) dX6_measure_8 rfl rfl ?_
  refine V_iconst (q := 10) (v := 0) dX6_measure_9 (by decide) rfl ?_
  refine V_sipush (q := 13) (v := 999) dX6_measure_10 (by decide) rfl ?_
  refine V_cS3I (q := 16) (N := mX6_in) tX6_in hκ.big (by decide) gX6_in kl_X6_101 kt_X6_in (Nat.le_of_ble_eq_true rfl) dX6_measure_13 rfl ?_
  refine V_if_ne (tgt := 21) (q := 19) dX6_measure_16 (by decide) rfl (fun c_16 => ?_) (fun c_16 => absurd c_16 (vB_n0.mpr hd))
  refine V_aload_n (q := 22) dX6_measure_21 rfl rfl ?_
  refine V_iload_n (q := 23) dX6_measure_22 rfl rfl ?_
  refine V_cV1I (q := 26) (o := 6) (N := mX6_forceOn) (tX6_forceOn hc hc5) hκ.big (by decide) gX6_forceOn kl_X6_112 ki_X6_forceOn ks_X6_forceOn (by decide) rfl (Nat.le_of_ble_eq_true rfl) dX6_measure_23 rfl ?_
  rw [hf]
  refine V_istore_n (q := 27) dX6_measure_26 (Nat.le_of_ble_eq_true rfl) rfl rfl ?_
  refine V_iload_n (q := 28) dX6_measure_27 rfl rfl ?_
  refine V_if_ge (tgt := 34) (q := 31) dX6_measure_28 (by decide) rfl (fun c_28 => absurd c_28 (by decide)) (fun c_28 => ?_)
  refine V_bipush (q := 33) (v := (-4)) dX6_measure_31 (by decide) rfl ?_
  exact V_iret hκ rfl rfl dX6_measure_33 vEq.rf
def msQ (h a : Nat) (v day : Int32) (F : vFt) (Ar : vAt) : Option Value → vFt → vAt → Prop := fun r F' Ar' => r = some (.int 1) ∧ ∃ (k : Nat) (pl : Nat → Int32), F' = mF F k ∧ Ar' = vS (vS (vS (mP Ar pl) 45 (upd (Ar 45) h v)) 46 (upd (Ar 46) h day)) 47 (upd (Ar 47) h (nI a))
theorem tX6_measure2 {F : vFt} {Ar : vAt} {x : vXt} {m h c a len fz : Nat} {day v : Int32} (hH : F 390 = nI m) (hm5 : m ≤ 5) (hh : h < m) (hd : 0 ≤ day ∧ day ≤ 999) (hc : F 386 = nI c) (hc5 : c ≤ 5) (hf : onD (Ar 41) day c = some a) (hlen : Ar 42 a = nI len) (hl40 : len ≤ 40) (hsl : smI (Ar 44 (4 * h))) (hsb : smI (Ar 44 (4 * h + 1))) (hsd : smI (Ar 44 (4 * h + 2))) (hsr : smI (Ar 44 (4 * h + 3))) (hrun : sRun (Ar 44 (4 * h)) (Ar 44 (4 * h + 1)) (Ar 44 (4 * h + 2)) (Ar 44 (4 * h + 3)) (fun i => Ar 43 (40 * a + i)) len 0 ([], 0) = some ([v], fz)) : C0 mX6_measure 3 [.ref 6, .int (nI h), .int day] F Ar x (msQ h a v day F Ar) := by
  refine C0_of (by decide +kernel) (Nat.le_of_ble_eq_true rfl) (fun κ hκ => ?_)
  show V κ mX6_measure 0 [.ref 6, .int (nI h), .int day, .null] [] F Ar x
  have hg : 0 ≤ nI h ∧ nI h ≤ F 390 - 1 := by rw [hH]; exact (v_has (by omega)).mpr ⟨h, hh, rfl⟩
  have ha := onD_lt _ _ hf
  refine V_aload_n (q := 1) dX6_measure_0 rfl rfl ?_
  refine V_iload_n (q := 2) dX6_measure_1 rfl rfl ?_
  refine V_cV1I (q := 5) (o := 6) (N := mX6_isHull) tX6_isHull hκ.big (by decide) gX6_isHull kl_X6_156 ki_X6_isHull ks_X6_isHull (by decide) rfl (Nat.le_of_ble_eq_true rfl) dX6_measure_2 rfl ?_
  refine V_if_eq (tgt := 19) (q := 8) dX6_measure_5 (by decide) rfl (fun c_5 => absurd c_5 (vB_n0.mpr hg)) (fun c_5 => ?_)
  refine V_iload_n (q := 9) dX6_measure_8 rfl rfl ?_
  refine V_iconst (q := 10) (v := 0) dX6_measure_9 (by decide) rfl ?_
  refine V_sipush (q := 13) (v := 999) dX6_measure_10 (by decide) rfl ?_
  refine V_cS3I (q := 16) (N := mX6_in) tX6_in hκ.big (by decide) gX6_in kl_X6_101 kt_X6_in (Nat.le_of_ble_eq_true rfl) dX6_measure_13 rfl ?_
  refine V_if_ne (tgt := 21) (q := 19) dX6_measure_16 (by decide) rfl (fun c_16 => ?_) (fun c_16 => absurd c_16 (vB_n0.mpr hd))
  refine V_aload_n (q := 22) dX6_measure_21 rfl rfl ?_
  refine V_iload_n (q := 23) dX6_measure_22 rfl rfl ?_
  refine V_cV1I (q := 26) (o := 6) (N := mX6_forceOn) (tX6_forceOn hc hc5) hκ.big (by decide) gX6_forceOn kl_X6_112 ki_X6_forceOn ks_X6_forceOn (by decide) rfl (Nat.le_of_ble_eq_true rfl) dX6_measure_23 rfl ?_
  rw [hf]
  refine V_top (nI a) rfl ?_
  refine V_istore_n (q := 27) dX6_measure_26 (Nat.le_of_ble_eq_true rfl) rfl rfl ?_
  refine V_iload_n (q := 28) dX6_measure_27 rfl rfl ?_
  refine V_if_ge (tgt := 34) (q := 31) dX6_measure_28 (by decide) rfl (fun c_28 => ?_) (fun c_28 => absurd (nI_pos' (by omega)) c_28)
  refine V_aload_n (q := 35) dX6_measure_34 rfl rfl ?_
  refine V_getR (q := 38) (n := 45) 6 8 kf_X6_25 (by decide) (by decide) rfl (by decide) dX6_measure_35 rfl ?_
  refine V_iload_n (q := 39) dX6_measure_38 rfl rfl ?_
  refine V_aload_n (q := 40) dX6_measure_39 rfl rfl ?_
  refine V_iload_n (q := 41) dX6_measure_40 rfl rfl ?_
  refine V_aload_n (q := 42) dX6_measure_41 rfl rfl ?_
  refine V_getR (q := 45) (n := 44) 6 7 kf_X6_22 (by decide) (by decide) rfl (by decide) dX6_measure_42 rfl ?_
  refine V_iconst (q := 46) (v := 4) dX6_measure_45 (by decide) rfl ?_
  refine V_iload_n (q := 47) dX6_measure_46 rfl rfl ?_
  refine V_imul (q := 48) dX6_measure_47 rfl ?_
  refine V_ild (q := 49) (4 * h) 20 (pk_mul 4 h) (by omega) (by decide) (by omega) (by decide) rfl (by decide) dX6_measure_48 rfl ?_
  refine V_aload_n (q := 50) dX6_measure_49 rfl rfl ?_
  refine V_getR (q := 53) (n := 44) 6 7 kf_X6_22 (by decide) (by decide) rfl (by decide) dX6_measure_50 rfl ?_
  refine V_iconst (q := 54) (v := 4) dX6_measure_53 (by decide) rfl ?_
  refine V_iload_n (q := 55) dX6_measure_54 rfl rfl ?_
  refine V_imul (q := 56) dX6_measure_55 rfl ?_
  refine V_iconst (q := 57) (v := 1) dX6_measure_56 (by decide) rfl ?_
  refine V_iadd (q := 58) dX6_measure_57 rfl ?_
  refine V_ild (q := 59) (4 * h + 1) 20 (v_m4 h 1) (by omega) (by decide) (by omega) (by decide) rfl (by decide) dX6_measure_58 rfl ?_
  refine V_aload_n (q := 60) dX6_measure_59 rfl rfl ?_
  refine V_getR (q := 63) (n := 44) 6 7 kf_X6_22 (by decide) (by decide) rfl (by decide) dX6_measure_60 rfl ?_
  refine V_iconst (q := 64) (v := 4) dX6_measure_63 (by decide) rfl ?_
  refine V_iload_n (q := 65) dX6_measure_64 rfl rfl ?_
  refine V_imul (q := 66) dX6_measure_65 rfl ?_
  refine V_iconst (q := 67) (v := 2) dX6_measure_66 (by decide) rfl ?_
  refine V_iadd (q := 68) dX6_measure_67 rfl ?_
  refine V_ild (q := 69) (4 * h + 2) 20 (v_m4 h 2) (by omega) (by decide) (by omega) (by decide) rfl (by decide) dX6_measure_68 rfl ?_
  refine V_aload_n (q := 70) dX6_measure_69 rfl rfl ?_
  refine V_getR (q := 73) (n := 44) 6 7 kf_X6_22 (by decide) (by decide) rfl (by decide) dX6_measure_70 rfl ?_
  refine V_iconst (q := 74) (v := 4) dX6_measure_73 (by decide) rfl ?_
  refine V_iload_n (q := 75) dX6_measure_74 rfl rfl ?_
  refine V_imul (q := 76) dX6_measure_75 rfl ?_
  refine V_iconst (q := 77) (v := 3) dX6_measure_76 (by decide) rfl ?_
  refine V_iadd (q := 78) dX6_measure_77 rfl ?_
  refine V_ild (q := 79) (4 * h + 3) 20 (v_m4 h 3) (by omega) (by decide) (by omega) (by decide) rfl (by decide) dX6_measure_78 rfl ?_
  refine V_cV5 (q := 82) (o := 6) (N := mX6_tonsBy) (tX6_tonsBy (a := a) (by omega) hlen hl40 hsl hsb hsd hsr hrun) hκ.big (by decide) gX6_tonsBy kl_X6_143 ki_X6_tonsBy ks_X6_tonsBy (by decide) rfl (Nat.le_of_ble_eq_true rfl) dX6_measure_79 rfl (fun r F9 Ar9 h9 => ?_)
  obtain ⟨rfl, k9, pl9, rfl, rfl⟩ := h9
  show V κ mX6_measure 82 [.ref 6, .int (nI h), .int day, .int (nI a)] [.int v, .int (nI h), .ref 45] _ _ x
  refine V_ist (q := 83) (h) 5 rfl (by omega) (by decide) (by omega) (by decide) rfl (by decide) dX6_measure_82 rfl ?_
  refine V_aload_n (q := 84) dX6_measure_83 rfl rfl ?_
  refine V_getR (q := 87) (n := 46) 6 9 kf_X6_28 (by decide) (by decide) rfl (by decide) dX6_measure_84 rfl ?_
  refine V_iload_n (q := 88) dX6_measure_87 rfl rfl ?_
  refine V_iload_n (q := 89) dX6_measure_88 rfl rfl ?_
  refine V_ist (q := 90) (h) 5 rfl (by omega) (by decide) (by omega) (by decide) rfl (by decide) dX6_measure_89 rfl ?_
  refine V_aload_n (q := 91) dX6_measure_90 rfl rfl ?_
  refine V_getR (q := 94) (n := 47) 6 10 kf_X6_31 (by decide) (by decide) rfl (by decide) dX6_measure_91 rfl ?_
  refine V_iload_n (q := 95) dX6_measure_94 rfl rfl ?_
  refine V_iload_n (q := 96) dX6_measure_95 rfl rfl ?_
  refine V_ist (q := 97) (h) 5 rfl (by omega) (by decide) (by omega) (by decide) rfl (by decide) dX6_measure_96 rfl ?_
  refine V_iconst (q := 98) (v := 1) dX6_measure_97 (by decide) rfl ?_
  exact V_iret hκ rfl rfl dX6_measure_98 ⟨rfl, k9, pl9, rfl, rfl⟩
