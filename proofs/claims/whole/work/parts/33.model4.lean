def mAdd (Ar : vAt) (n : Nat) (k h a b m r : Int32) : vAt := vS (vS (vS (vS (vS (vS (vS Ar 48 (upd (Ar 48) n k)) 49 (upd (Ar 49) n h)) 50 (upd (Ar 50) n a)) 51 (upd (Ar 51) n b)) 52 (upd (Ar 52) n m)) 53 (upd (Ar 53) n r)) 54 (upd (Ar 54) n 0)
abbrev dlOk (cnt h a b m : Int32) : Prop := (0 ≤ h ∧ h ≤ cnt - 1) ∧ (0 ≤ a ∧ a ≤ 7) ∧ (0 ≤ b ∧ b ≤ 7) ∧ ¬ a = b ∧ (1 ≤ m ∧ m ≤ 64)
theorem ne60 {n : Nat} (h : n < 60) : ¬ nI n = 60 := fun q => by
  have h2 : nI n = nI 60 ↔ n = 60 := nI_eq (by omega) (by decide)
  have := h2.mp q
  omega
theorem tX6_enter {F : vFt} {Ar : vAt} {x : vXt} {n : Nat} {k h a b m r : Int32} (hn : F 395 = nI n) (hn60 : n < 60) : C0 mX6_enter 0 [.ref 6, .int k, .int h, .int a, .int b, .int m, .int r] F Ar x (vEq (some (.int (nI n))) (upd F 395 (nI (n + 1))) (mAdd Ar n k h a b m r)) := by
  refine C0_of (by decide +kernel) (Nat.le_of_ble_eq_true rfl) (fun κ hκ => ?_)
  show V κ mX6_enter 0 [.ref 6, .int k, .int h, .int a, .int b, .int m, .int r] [] F Ar x
  refine V_aload_n (q := 1) dX6_enter_0 rfl rfl ?_
  refine V_getR (q := 4) (n := 48) 6 12 kf_X6_34 (by decide) (by decide) rfl (by decide) dX6_enter_1 rfl ?_
  refine V_aload_n (q := 5) dX6_enter_4 rfl rfl ?_
  refine V_getI (q := 8) (n := 395) 6 11 kf_X6_159 (by decide) (by decide) rfl rfl dX6_enter_5 rfl ?_
  refine V_iload_n (q := 9) dX6_enter_8 rfl rfl ?_
  refine V_ist (q := 10) (n) 60 hn (by omega) (by decide) (by omega) (by decide) rfl (by decide) dX6_enter_9 rfl ?_
  refine V_aload_n (q := 11) dX6_enter_10 rfl rfl ?_
  refine V_getR (q := 14) (n := 49) 6 13 kf_X6_37 (by decide) (by decide) rfl (by decide) dX6_enter_11 rfl ?_
  refine V_aload_n (q := 15) dX6_enter_14 rfl rfl ?_
  refine V_getI (q := 18) (n := 395) 6 11 kf_X6_159 (by decide) (by decide) rfl rfl dX6_enter_15 rfl ?_
  refine V_iload_n (q := 19) dX6_enter_18 rfl rfl ?_
  refine V_ist (q := 20) (n) 60 hn (by omega) (by decide) (by omega) (by decide) rfl (by decide) dX6_enter_19 rfl ?_
  refine V_aload_n (q := 21) dX6_enter_20 rfl rfl ?_
  refine V_getR (q := 24) (n := 50) 6 14 kf_X6_40 (by decide) (by decide) rfl (by decide) dX6_enter_21 rfl ?_
  refine V_aload_n (q := 25) dX6_enter_24 rfl rfl ?_
  refine V_getI (q := 28) (n := 395) 6 11 kf_X6_159 (by decide) (by decide) rfl rfl dX6_enter_25 rfl ?_
  refine V_iload_n (q := 29) dX6_enter_28 rfl rfl ?_
  refine V_ist (q := 30) (n) 60 hn (by omega) (by decide) (by omega) (by decide) rfl (by decide) dX6_enter_29 rfl ?_
  refine V_aload_n (q := 31) dX6_enter_30 rfl rfl ?_
  refine V_getR (q := 34) (n := 51) 6 15 kf_X6_43 (by decide) (by decide) rfl (by decide) dX6_enter_31 rfl ?_
  refine V_aload_n (q := 35) dX6_enter_34 rfl rfl ?_
  refine V_getI (q := 38) (n := 395) 6 11 kf_X6_159 (by decide) (by decide) rfl rfl dX6_enter_35 rfl ?_
  refine V_iload (q := 40) dX6_enter_38 rfl rfl ?_
  refine V_ist (q := 41) (n) 60 hn (by omega) (by decide) (by omega) (by decide) rfl (by decide) dX6_enter_40 rfl ?_
  refine V_aload_n (q := 42) dX6_enter_41 rfl rfl ?_
  refine V_getR (q := 45) (n := 52) 6 16 kf_X6_46 (by decide) (by decide) rfl (by decide) dX6_enter_42 rfl ?_
  refine V_aload_n (q := 46) dX6_enter_45 rfl rfl ?_
  refine V_getI (q := 49) (n := 395) 6 11 kf_X6_159 (by decide) (by decide) rfl rfl dX6_enter_46 rfl ?_
  refine V_iload (q := 51) dX6_enter_49 rfl rfl ?_
  refine V_ist (q := 52) (n) 60 hn (by omega) (by decide) (by omega) (by decide) rfl (by decide) dX6_enter_51 rfl ?_
  refine V_aload_n (q := 53) dX6_enter_52 rfl rfl ?_
  refine V_getR (q := 56) (n := 53) 6 17 kf_X6_49 (by decide) (by decide) rfl (by decide) dX6_enter_53 rfl ?_
  refine V_aload_n (q := 57) dX6_enter_56 rfl rfl ?_
  refine V_getI (q := 60) (n := 395) 6 11 kf_X6_159 (by decide) (by decide) rfl rfl dX6_enter_57 rfl ?_
  refine V_iload (q := 62) dX6_enter_60 rfl rfl ?_
  refine V_ist (q := 63) (n) 60 hn (by omega) (by decide) (by omega) (by decide) rfl (by decide) dX6_enter_62 rfl ?_
  refine V_aload_n (q := 64) dX6_enter_63 rfl rfl ?_
  refine V_getR (q := 67) (n := 54) 6 18 kf_X6_52 (by decide) (by decide) rfl (by decide) dX6_enter_64 rfl ?_
  refine V_aload_n (q := 68) dX6_enter_67 rfl rfl ?_
  refine V_getI (q := 71) (n := 395) 6 11 kf_X6_159 (by decide) (by decide) rfl rfl dX6_enter_68 rfl ?_
  refine V_iconst (q := 72) (v := 0) dX6_enter_71 (by decide) rfl ?_
  refine V_zst (q := 73) (n) 60 hn (by omega) (by decide) (by omega) (by decide) rfl (by decide) dX6_enter_72 rfl ?_
  refine V_aload_n (q := 74) dX6_enter_73 rfl rfl ?_
  refine V_dup (q := 75) dX6_enter_74 rfl rfl ?_
  refine V_getI (q := 78) (n := 395) 6 11 kf_X6_159 (by decide) (by decide) rfl rfl dX6_enter_75 rfl ?_
  refine V_iconst (q := 79) (v := 1) dX6_enter_78 (by decide) rfl ?_
  refine V_iadd (q := 80) dX6_enter_79 rfl ?_
  refine V_putI (q := 83) (n := 395) 6 11 kf_X6_159 (by decide) (by decide) rfl rfl dX6_enter_80 rfl ?_
  refine V_aload_n (q := 84) dX6_enter_83 rfl rfl ?_
  refine V_getI (q := 87) (n := 395) 6 11 kf_X6_159 (by decide) (by decide) rfl rfl dX6_enter_84 rfl ?_
  refine V_iconst (q := 88) (v := 1) dX6_enter_87 (by decide) rfl ?_
  refine V_isub (q := 89) dX6_enter_88 rfl ?_
  exact V_iret hκ rfl rfl dX6_enter_89 ⟨by show some (Value.int (F 395 + 1 - 1)) = _; rw [hn, nI_1, nI_pred], by rw [hn, nI_1], rfl⟩
theorem tX6_deal0 {F : vFt} {Ar : vAt} {x : vXt} {k h a b m : Int32} (hb : ¬ dlOk (F 390) h a b m) : C0 mX6_deal 2 [.ref 6, .int k, .int h, .int a, .int b, .int m] F Ar x (vEq (some (.int (-1))) F Ar) := by
  refine C0_of (by decide +kernel) (Nat.le_of_ble_eq_true rfl) (fun κ hκ => ?_)
  show V κ mX6_deal 0 [.ref 6, .int k, .int h, .int a, .int b, .int m] [] F Ar x
  refine V_aload_n (q := 1) dX6_deal_0 rfl rfl ?_
  refine V_iload_n (q := 2) dX6_deal_1 rfl rfl ?_
  refine V_cV1I (q := 5) (o := 6) (N := mX6_isHull) tX6_isHull hκ.big (by decide) gX6_isHull kl_X6_156 ki_X6_isHull ks_X6_isHull (by decide) rfl (Nat.le_of_ble_eq_true rfl) dX6_deal_2 rfl ?_
  refine V_if_eq (tgt := 40) (q := 8) dX6_deal_5 (by decide) rfl (fun c_5 => ?_) (fun c_5 => ?_)
  · refine V_iconst (q := 41) (v := (-1)) dX6_deal_40 (by decide) rfl ?_
    exact V_iret hκ rfl rfl dX6_deal_41 vEq.rf
  · refine V_iload_n (q := 9) dX6_deal_8 rfl rfl ?_
    refine V_cS1I (q := 12) (N := mX6_isPerson) tX6_isPerson hκ.big (by decide) gX6_isPerson kl_X6_162 kt_X6_isPerson (Nat.le_of_ble_eq_true rfl) dX6_deal_9 rfl ?_
    refine V_if_eq (tgt := 40) (q := 15) dX6_deal_12 (by decide) rfl (fun c_12 => ?_) (fun c_12 => ?_)
    · refine V_iconst (q := 41) (v := (-1)) dX6_deal_40 (by decide) rfl ?_
      exact V_iret hκ rfl rfl dX6_deal_41 vEq.rf
    · refine V_iload (q := 17) dX6_deal_15 rfl rfl ?_
      refine V_cS1I (q := 20) (N := mX6_isPerson) tX6_isPerson hκ.big (by decide) gX6_isPerson kl_X6_162 kt_X6_isPerson (Nat.le_of_ble_eq_true rfl) dX6_deal_17 rfl ?_
      refine V_if_eq (tgt := 40) (q := 23) dX6_deal_20 (by decide) rfl (fun c_20 => ?_) (fun c_20 => ?_)
      · refine V_iconst (q := 41) (v := (-1)) dX6_deal_40 (by decide) rfl ?_
        exact V_iret hκ rfl rfl dX6_deal_41 vEq.rf
      · refine V_iload_n (q := 24) dX6_deal_23 rfl rfl ?_
        refine V_iload (q := 26) dX6_deal_24 rfl rfl ?_
        refine V_icmp_eq (tgt := 40) (q := 29) dX6_deal_26 (by decide) rfl (fun c_26 => ?_) (fun c_26 => ?_)
        · refine V_iconst (q := 41) (v := (-1)) dX6_deal_40 (by decide) rfl ?_
          exact V_iret hκ rfl rfl dX6_deal_41 vEq.rf
        · refine V_iload (q := 31) dX6_deal_29 rfl rfl ?_
          refine V_iconst (q := 32) (v := 1) dX6_deal_31 (by decide) rfl ?_
          refine V_bipush (q := 34) (v := 64) dX6_deal_32 (by decide) rfl ?_
          refine V_cS3I (q := 37) (N := mX6_in) tX6_in hκ.big (by decide) gX6_in kl_X6_101 kt_X6_in (Nat.le_of_ble_eq_true rfl) dX6_deal_34 rfl ?_
          refine V_if_ne (tgt := 42) (q := 40) dX6_deal_37 (by decide) rfl (fun c_37 => absurd ⟨vB_n0.mp c_5, vB_n0.mp c_12, vB_n0.mp c_20, c_26, vB_n0.mp c_37⟩ hb) (fun c_37 => ?_)
          refine V_iconst (q := 41) (v := (-1)) dX6_deal_40 (by decide) rfl ?_
          exact V_iret hκ rfl rfl dX6_deal_41 vEq.rf
theorem tX6_deal1 {F : vFt} {Ar : vAt} {x : vXt} {k h a b m : Int32} (hg : dlOk (F 390) h a b m) (hn : F 395 = nI 60) : C0 mX6_deal 2 [.ref 6, .int k, .int h, .int a, .int b, .int m] F Ar x (vEq (some (.int (-2))) F Ar) := by
  refine C0_of (by decide +kernel) (Nat.le_of_ble_eq_true rfl) (fun κ hκ => ?_)
  show V κ mX6_deal 0 [.ref 6, .int k, .int h, .int a, .int b, .int m] [] F Ar x
  refine V_aload_n (q := 1) dX6_deal_0 rfl rfl ?_
  refine V_iload_n (q := 2) dX6_deal_1 rfl rfl ?_
  refine V_cV1I (q := 5) (o := 6) (N := mX6_isHull) tX6_isHull hκ.big (by decide) gX6_isHull kl_X6_156 ki_X6_isHull ks_X6_isHull (by decide) rfl (Nat.le_of_ble_eq_true rfl) dX6_deal_2 rfl ?_
  refine V_if_eq (tgt := 40) (q := 8) dX6_deal_5 (by decide) rfl (fun c_5 => absurd c_5 (vB_n0.mpr hg.1)) (fun c_5 => ?_)
  refine V_iload_n (q := 9) dX6_deal_8 rfl rfl ?_
  refine V_cS1I (q := 12) (N := mX6_isPerson) tX6_isPerson hκ.big (by decide) gX6_isPerson kl_X6_162 kt_X6_isPerson (Nat.le_of_ble_eq_true rfl) dX6_deal_9 rfl ?_
  refine V_if_eq (tgt := 40) (q := 15) dX6_deal_12 (by decide) rfl (fun c_12 => absurd c_12 (vB_n0.mpr hg.2.1)) (fun c_12 => ?_)
  refine V_iload (q := 17) dX6_deal_15 rfl rfl ?_
  refine V_cS1I (q := 20) (N := mX6_isPerson) tX6_isPerson hκ.big (by decide) gX6_isPerson kl_X6_162 kt_X6_isPerson (Nat.le_of_ble_eq_true rfl) dX6_deal_17 rfl ?_
  refine V_if_eq (tgt := 40) (q := 23) dX6_deal_20 (by decide) rfl (fun c_20 => absurd c_20 (vB_n0.mpr hg.2.2.1)) (fun c_20 => ?_)
  refine V_iload_n (q := 24) dX6_deal_23 rfl rfl ?_
  refine V_iload (q := 26) dX6_deal_24 rfl rfl ?_
  refine V_icmp_eq (tgt := 40) (q := 29) dX6_deal_26 (by decide) rfl (fun c_26 => absurd c_26 hg.2.2.2.1) (fun c_26 => ?_)
  refine V_iload (q := 31) dX6_deal_29 rfl rfl ?_
  refine V_iconst (q := 32) (v := 1) dX6_deal_31 (by decide) rfl ?_
  refine V_bipush (q := 34) (v := 64) dX6_deal_32 (by decide) rfl ?_
  refine V_cS3I (q := 37) (N := mX6_in) tX6_in hκ.big (by decide) gX6_in kl_X6_101 kt_X6_in (Nat.le_of_ble_eq_true rfl) dX6_deal_34 rfl ?_
  refine V_if_ne (tgt := 42) (q := 40) dX6_deal_37 (by decide) rfl (fun c_37 => ?_) (fun c_37 => absurd c_37 (vB_n0.mpr hg.2.2.2.2))
  refine V_aload_n (q := 43) dX6_deal_42 rfl rfl ?_
  refine V_getI (q := 46) (n := 395) 6 11 kf_X6_159 (by decide) (by decide) rfl rfl dX6_deal_43 rfl ?_
  refine V_bipush (q := 48) (v := 60) dX6_deal_46 (by decide) rfl ?_
  refine V_icmp_ne (tgt := 56) (q := 51) dX6_deal_48 (by decide) rfl (fun c_48 => absurd hn c_48) (fun c_48 => ?_)
  refine V_bipush (q := 53) (v := (-2)) dX6_deal_51 (by decide) rfl ?_
  refine V_goto (q := 69) dX6_deal_53 (by decide) ?_
  exact V_iret hκ rfl rfl dX6_deal_69 vEq.rf
theorem tX6_deal2 {F : vFt} {Ar : vAt} {x : vXt} {k h a b m : Int32} {n : Nat} (hg : dlOk (F 390) h a b m) (hn : F 395 = nI n) (hn60 : n < 60) : C0 mX6_deal 2 [.ref 6, .int k, .int h, .int a, .int b, .int m] F Ar x (vEq (some (.int (nI n))) (upd F 395 (nI (n + 1))) (mAdd Ar n k h a b m (-4))) := by
  refine C0_of (by decide +kernel) (Nat.le_of_ble_eq_true rfl) (fun κ hκ => ?_)
  show V κ mX6_deal 0 [.ref 6, .int k, .int h, .int a, .int b, .int m] [] F Ar x
  refine V_aload_n (q := 1) dX6_deal_0 rfl rfl ?_
  refine V_iload_n (q := 2) dX6_deal_1 rfl rfl ?_
  refine V_cV1I (q := 5) (o := 6) (N := mX6_isHull) tX6_isHull hκ.big (by decide) gX6_isHull kl_X6_156 ki_X6_isHull ks_X6_isHull (by decide) rfl (Nat.le_of_ble_eq_true rfl) dX6_deal_2 rfl ?_
  refine V_if_eq (tgt := 40) (q := 8) dX6_deal_5 (by decide) rfl (fun c_5 => absurd c_5 (vB_n0.mpr hg.1)) (fun c_5 => ?_)
  refine V_iload_n (q := 9) dX6_deal_8 rfl rfl ?_
  refine V_cS1I (q := 12) (N := mX6_isPerson) tX6_isPerson hκ.big (by decide) gX6_isPerson kl_X6_162 kt_X6_isPerson (Nat.le_of_ble_eq_true rfl) dX6_deal_9 rfl ?_
  refine V_if_eq (tgt := 40) (q := 15) dX6_deal_12 (by decide) rfl (fun c_12 => absurd c_12 (vB_n0.mpr hg.2.1)) (fun c_12 => ?_)
  refine V_iload (q := 17) dX6_deal_15 rfl rfl ?_
  refine V_cS1I (q := 20) (N := mX6_isPerson) tX6_isPerson hκ.big (by decide) gX6_isPerson kl_X6_162 kt_X6_isPerson (Nat.le_of_ble_eq_true rfl) dX6_deal_17 rfl ?_
  refine V_if_eq (tgt := 40) (q := 23) dX6_deal_20 (by decide) rfl (fun c_20 => absurd c_20 (vB_n0.mpr hg.2.2.1)) (fun c_20 => ?_)
  refine V_iload_n (q := 24) dX6_deal_23 rfl rfl ?_
  refine V_iload (q := 26) dX6_deal_24 rfl rfl ?_
  refine V_icmp_eq (tgt := 40) (q := 29) dX6_deal_26 (by decide) rfl (fun c_26 => absurd c_26 hg.2.2.2.1) (fun c_26 => ?_)
  refine V_iload (q := 31) dX6_deal_29 rfl rfl ?_
  refine V_iconst (q := 32) (v := 1) dX6_deal_31 (by decide) rfl ?_
  refine V_bipush (q := 34) (v := 64) dX6_deal_32 (by decide) rfl ?_
  refine V_cS3I (q := 37) (N := mX6_in) tX6_in hκ.big (by decide) gX6_in kl_X6_101 kt_X6_in (Nat.le_of_ble_eq_true rfl) dX6_deal_34 rfl ?_
  refine V_if_ne (tgt := 42) (q := 40) dX6_deal_37 (by decide) rfl (fun c_37 => ?_) (fun c_37 => absurd c_37 (vB_n0.mpr hg.2.2.2.2))
  refine V_aload_n (q := 43) dX6_deal_42 rfl rfl ?_
  refine V_getI (q := 46) (n := 395) 6 11 kf_X6_159 (by decide) (by decide) rfl rfl dX6_deal_43 rfl ?_
  refine V_bipush (q := 48) (v := 60) dX6_deal_46 (by decide) rfl ?_
  refine V_icmp_ne (tgt := 56) (q := 51) dX6_deal_48 (by decide) rfl (fun c_48 => ?_) (fun c_48 => absurd c_48 (by rw [hn]; exact fun q => ne60 hn60 q))
  refine V_aload_n (q := 57) dX6_deal_56 rfl rfl ?_
  refine V_iload_n (q := 58) dX6_deal_57 rfl rfl ?_
  refine V_iload_n (q := 59) dX6_deal_58 rfl rfl ?_
  refine V_iload_n (q := 60) dX6_deal_59 rfl rfl ?_
  refine V_iload (q := 62) dX6_deal_60 rfl rfl ?_
  refine V_iload (q := 64) dX6_deal_62 rfl rfl ?_
  refine V_bipush (q := 66) (v := (-4)) dX6_deal_64 (by decide) rfl ?_
  refine V_cV6I (q := 69) (o := 6) (N := mX6_enter) (tX6_enter hn hn60) hκ.big (by decide) gX6_enter kl_X6_165 ki_X6_enter ks_X6_enter (by decide) rfl (Nat.le_of_ble_eq_true rfl) dX6_deal_66 rfl ?_
  exact V_iret hκ rfl rfl dX6_deal_69 vEq.rf
theorem tX6_sell0 {F : vFt} {Ar : vAt} {x : vXt} {h a b m : Int32} (hb : ¬ dlOk (F 390) h a b m) : C0 mX6_sell 3 [.ref 6, .int h, .int a, .int b, .int m] F Ar x (vEq (some (.int (-1))) F Ar) := by
  refine C0_of (by decide +kernel) (Nat.le_of_ble_eq_true rfl) (fun κ hκ => ?_)
  show V κ mX6_sell 0 [.ref 6, .int h, .int a, .int b, .int m] [] F Ar x
  refine V_aload_n (q := 1) dX6_sell_0 rfl rfl ?_
  refine V_iconst (q := 2) (v := 0) dX6_sell_1 (by decide) rfl ?_
  refine V_iload_n (q := 3) dX6_sell_2 rfl rfl ?_
  refine V_iload_n (q := 4) dX6_sell_3 rfl rfl ?_
  refine V_iload_n (q := 5) dX6_sell_4 rfl rfl ?_
  refine V_iload (q := 7) dX6_sell_5 rfl rfl ?_
  refine V_cV5I (q := 10) (o := 6) (N := mX6_deal) (tX6_deal0 hb) hκ.big (by decide) gX6_deal kl_X6_169 ki_X6_deal ks_X6_deal (by decide) rfl (Nat.le_of_ble_eq_true rfl) dX6_sell_7 rfl ?_
  exact V_iret hκ rfl rfl dX6_sell_10 vEq.rf
theorem tX6_sell1 {F : vFt} {Ar : vAt} {x : vXt} {h a b m : Int32} (hg : dlOk (F 390) h a b m) (hn : F 395 = nI 60) : C0 mX6_sell 3 [.ref 6, .int h, .int a, .int b, .int m] F Ar x (vEq (some (.int (-2))) F Ar) := by
  refine C0_of (by decide +kernel) (Nat.le_of_ble_eq_true rfl) (fun κ hκ => ?_)
  show V κ mX6_sell 0 [.ref 6, .int h, .int a, .int b, .int m] [] F Ar x
  refine V_aload_n (q := 1) dX6_sell_0 rfl rfl ?_
  refine V_iconst (q := 2) (v := 0) dX6_sell_1 (by decide) rfl ?_
  refine V_iload_n (q := 3) dX6_sell_2 rfl rfl ?_
  refine V_iload_n (q := 4) dX6_sell_3 rfl rfl ?_
  refine V_iload_n (q := 5) dX6_sell_4 rfl rfl ?_
  refine V_iload (q := 7) dX6_sell_5 rfl rfl ?_
  refine V_cV5I (q := 10) (o := 6) (N := mX6_deal) (tX6_deal1 hg hn) hκ.big (by decide) gX6_deal kl_X6_169 ki_X6_deal ks_X6_deal (by decide) rfl (Nat.le_of_ble_eq_true rfl) dX6_sell_7 rfl ?_
  exact V_iret hκ rfl rfl dX6_sell_10 vEq.rf
theorem tX6_sell2 {F : vFt} {Ar : vAt} {x : vXt} {h a b m : Int32} {n : Nat} (hg : dlOk (F 390) h a b m) (hn : F 395 = nI n) (hn60 : n < 60) : C0 mX6_sell 3 [.ref 6, .int h, .int a, .int b, .int m] F Ar x (vEq (some (.int (nI n))) (upd F 395 (nI (n + 1))) (mAdd Ar n 0 h a b m (-4))) := by
  refine C0_of (by decide +kernel) (Nat.le_of_ble_eq_true rfl) (fun κ hκ => ?_)
  show V κ mX6_sell 0 [.ref 6, .int h, .int a, .int b, .int m] [] F Ar x
  refine V_aload_n (q := 1) dX6_sell_0 rfl rfl ?_
  refine V_iconst (q := 2) (v := 0) dX6_sell_1 (by decide) rfl ?_
  refine V_iload_n (q := 3) dX6_sell_2 rfl rfl ?_
  refine V_iload_n (q := 4) dX6_sell_3 rfl rfl ?_
  refine V_iload_n (q := 5) dX6_sell_4 rfl rfl ?_
  refine V_iload (q := 7) dX6_sell_5 rfl rfl ?_
  refine V_cV5I (q := 10) (o := 6) (N := mX6_deal) (tX6_deal2 hg hn hn60) hκ.big (by decide) gX6_deal kl_X6_169 ki_X6_deal ks_X6_deal (by decide) rfl (Nat.le_of_ble_eq_true rfl) dX6_sell_7 rfl ?_
  exact V_iret hκ rfl rfl dX6_sell_10 vEq.rf
theorem tX6_pledge0 {F : vFt} {Ar : vAt} {x : vXt} {h a b m : Int32} (hb : ¬ dlOk (F 390) h a b m) : C0 mX6_pledge 3 [.ref 6, .int h, .int a, .int b, .int m] F Ar x (vEq (some (.int (-1))) F Ar) := by
  refine C0_of (by decide +kernel) (Nat.le_of_ble_eq_true rfl) (fun κ hκ => ?_)
  show V κ mX6_pledge 0 [.ref 6, .int h, .int a, .int b, .int m] [] F Ar x
  refine V_aload_n (q := 1) dX6_pledge_0 rfl rfl ?_
  refine V_iconst (q := 2) (v := 1) dX6_pledge_1 (by decide) rfl ?_
  refine V_iload_n (q := 3) dX6_pledge_2 rfl rfl ?_
  refine V_iload_n (q := 4) dX6_pledge_3 rfl rfl ?_
  refine V_iload_n (q := 5) dX6_pledge_4 rfl rfl ?_
  refine V_iload (q := 7) dX6_pledge_5 rfl rfl ?_
  refine V_cV5I (q := 10) (o := 6) (N := mX6_deal) (tX6_deal0 hb) hκ.big (by decide) gX6_deal kl_X6_169 ki_X6_deal ks_X6_deal (by decide) rfl (Nat.le_of_ble_eq_true rfl) dX6_pledge_7 rfl ?_
  exact V_iret hκ rfl rfl dX6_pledge_10 vEq.rf
theorem tX6_pledge1 {F : vFt} {Ar : vAt} {x : vXt} {h a b m : Int32} (hg : dlOk (F 390) h a b m) (hn : F 395 = nI 60) : C0 mX6_pledge 3 [.ref 6, .int h, .int a, .int b, .int m] F Ar x (vEq (some (.int (-2))) F Ar) := by
  refine C0_of (by decide +kernel) (Nat.le_of_ble_eq_true rfl) (fun κ hκ => ?_)
  show V κ mX6_pledge 0 [.ref 6, .int h, .int a, .int b, .int m] [] F Ar x
  refine V_aload_n (q := 1) dX6_pledge_0 rfl rfl ?_
  refine V_iconst (q := 2) (v := 1) dX6_pledge_1 (by decide) rfl ?_
  refine V_iload_n (q := 3) dX6_pledge_2 rfl rfl ?_
  refine V_iload_n (q := 4) dX6_pledge_3 rfl rfl ?_
  refine V_iload_n (q := 5) dX6_pledge_4 rfl rfl ?_
  refine V_iload (q := 7) dX6_pledge_5 rfl rfl ?_
  refine V_cV5I (q := 10) (o := 6) (N := mX6_deal) (tX6_deal1 hg hn) hκ.big (by decide) gX6_deal kl_X6_169 ki_X6_deal ks_X6_deal (by decide) rfl (Nat.le_of_ble_eq_true rfl) dX6_pledge_7 rfl ?_
  exact V_iret hκ rfl rfl dX6_pledge_10 vEq.rf
theorem tX6_pledge2 {F : vFt} {Ar : vAt} {x : vXt} {h a b m : Int32} {n : Nat} (hg : dlOk (F 390) h a b m) (hn : F 395 = nI n) (hn60 : n < 60) : C0 mX6_pledge 3 [.ref 6, .int h, .int a, .int b, .int m] F Ar x (vEq (some (.int (nI n))) (upd F 395 (nI (n + 1))) (mAdd Ar n 1 h a b m (-4))) := by
  refine C0_of (by decide +kernel) (Nat.le_of_ble_eq_true rfl) (fun κ hκ => ?_)
  show V κ mX6_pledge 0 [.ref 6, .int h, .int a, .int b, .int m] [] F Ar x
  refine V_aload_n (q := 1) dX6_pledge_0 rfl rfl ?_
  refine V_iconst (q := 2) (v := 1) dX6_pledge_1 (by decide) rfl ?_
  refine V_iload_n (q := 3) dX6_pledge_2 rfl rfl ?_
  refine V_iload_n (q := 4) dX6_pledge_3 rfl rfl ?_
  refine V_iload_n (q := 5) dX6_pledge_4 rfl rfl ?_
  refine V_iload (q := 7) dX6_pledge_5 rfl rfl ?_
  refine V_cV5I (q := 10) (o := 6) (N := mX6_deal) (tX6_deal2 hg hn hn60) hκ.big (by decide) gX6_deal kl_X6_169 ki_X6_deal ks_X6_deal (by decide) rfl (Nat.le_of_ble_eq_true rfl) dX6_pledge_7 rfl ?_
  exact V_iret hκ rfl rfl dX6_pledge_10 vEq.rf
theorem tX6_redeem0 {F : vFt} {Ar : vAt} {x : vXt} {i : Int32} (hb : ¬ (0 ≤ i ∧ i ≤ F 395 - 1)) : C0 mX6_redeem 2 [.ref 6, .int i] F Ar x (vEq (some (.int (-1))) F Ar) := by
  refine C0_of (by decide +kernel) (Nat.le_of_ble_eq_true rfl) (fun κ hκ => ?_)
  show V κ mX6_redeem 0 [.ref 6, .int i] [] F Ar x
  refine V_aload_n (q := 1) dX6_redeem_0 rfl rfl ?_
  refine V_iload_n (q := 2) dX6_redeem_1 rfl rfl ?_
  refine V_cV1I (q := 5) (o := 6) (N := mX6_isEntry) tX6_isEntry hκ.big (by decide) gX6_isEntry kl_X6_172 ki_X6_isEntry ks_X6_isEntry (by decide) rfl (Nat.le_of_ble_eq_true rfl) dX6_redeem_2 rfl ?_
  refine V_if_ne (tgt := 10) (q := 8) dX6_redeem_5 (by decide) rfl (fun c_5 => absurd (vB_n0.mp c_5) hb) (fun c_5 => ?_)
  refine V_iconst (q := 9) (v := (-1)) dX6_redeem_8 (by decide) rfl ?_
  exact V_iret hκ rfl rfl dX6_redeem_9 vEq.rf
theorem tX6_redeem1 {F : vFt} {Ar : vAt} {x : vXt} {e n : Nat} (hn : F 395 = nI n) (hn60 : n ≤ 60) (he : e < n) (hk : ¬ Ar 48 e = 1) : C0 mX6_redeem 2 [.ref 6, .int (nI e)] F Ar x (vEq (some (.int (-5))) F Ar) := by
  refine C0_of (by decide +kernel) (Nat.le_of_ble_eq_true rfl) (fun κ hκ => ?_)
  show V κ mX6_redeem 0 [.ref 6, .int (nI e)] [] F Ar x
  have hg : 0 ≤ nI e ∧ nI e ≤ F 395 - 1 := by rw [hn]; exact (v_has (by omega)).mpr ⟨e, he, rfl⟩
  refine V_aload_n (q := 1) dX6_redeem_0 rfl rfl ?_
  refine V_iload_n (q := 2) dX6_redeem_1 rfl rfl ?_
  refine V_cV1I (q := 5) (o := 6) (N := mX6_isEntry) tX6_isEntry hκ.big (by decide) gX6_isEntry kl_X6_172 ki_X6_isEntry ks_X6_isEntry (by decide) rfl (Nat.le_of_ble_eq_true rfl) dX6_redeem_2 rfl ?_
  refine V_if_ne (tgt := 10) (q := 8) dX6_redeem_5 (by decide) rfl (fun c_5 => ?_) (fun c_5 => absurd c_5 (vB_n0.mpr hg))
  refine V_aload_n (q := 11) dX6_redeem_10 rfl rfl ?_
  refine V_getR (q := 14) (n := 48) 6 12 kf_X6_34 (by decide) (by decide) rfl (by decide) dX6_redeem_11 rfl ?_
  refine V_iload_n (q := 15) dX6_redeem_14 rfl rfl ?_
  refine V_ild (q := 16) (e) 60 rfl (by omega) (by decide) (by omega) (by decide) rfl (by decide) dX6_redeem_15 rfl ?_
  refine V_iconst (q := 17) (v := 1) dX6_redeem_16 (by decide) rfl ?_
  refine V_icmp_eq (tgt := 23) (q := 20) dX6_redeem_17 (by decide) rfl (fun c_17 => absurd c_17 hk) (fun c_17 => ?_)
  refine V_bipush (q := 22) (v := (-5)) dX6_redeem_20 (by decide) rfl ?_
  exact V_iret hκ rfl rfl dX6_redeem_22 vEq.rf
theorem tX6_redeem2 {F : vFt} {Ar : vAt} {x : vXt} {e : Nat} (hn : F 395 = nI 60) (he : e < 60) (hk : Ar 48 e = 1) : C0 mX6_redeem 2 [.ref 6, .int (nI e)] F Ar x (vEq (some (.int (-2))) F Ar) := by
  refine C0_of (by decide +kernel) (Nat.le_of_ble_eq_true rfl) (fun κ hκ => ?_)
  show V κ mX6_redeem 0 [.ref 6, .int (nI e)] [] F Ar x
  have hg : 0 ≤ nI e ∧ nI e ≤ F 395 - 1 := by rw [hn]; exact (v_has (by omega)).mpr ⟨e, he, rfl⟩
  refine V_aload_n (q := 1) dX6_redeem_0 rfl rfl ?_
  refine V_iload_n (q := 2) dX6_redeem_1 rfl rfl ?_
  refine V_cV1I (q := 5) (o := 6) (N := mX6_isEntry) tX6_isEntry hκ.big (by decide) gX6_isEntry kl_X6_172 ki_X6_isEntry ks_X6_isEntry (by decide) rfl (Nat.le_of_ble_eq_true rfl) dX6_redeem_2 rfl ?_
  refine V_if_ne (tgt := 10) (q := 8) dX6_redeem_5 (by decide) rfl (fun c_5 => ?_) (fun c_5 => absurd c_5 (vB_n0.mpr hg))
  refine V_aload_n (q := 11) dX6_redeem_10 rfl rfl ?_
  refine V_getR (q := 14) (n := 48) 6 12 kf_X6_34 (by decide) (by decide) rfl (by decide) dX6_redeem_11 rfl ?_
  refine V_iload_n (q := 15) dX6_redeem_14 rfl rfl ?_
  refine V_ild (q := 16) (e) 60 rfl (by omega) (by decide) (by omega) (by decide) rfl (by decide) dX6_redeem_15 rfl ?_
  refine V_iconst (q := 17) (v := 1) dX6_redeem_16 (by decide) rfl ?_
  refine V_icmp_eq (tgt := 23) (q := 20) dX6_redeem_17 (by decide) rfl (fun c_17 => ?_) (fun c_17 => absurd hk c_17)
  refine V_aload_n (q := 24) dX6_redeem_23 rfl rfl ?_
  refine V_getI (q := 27) (n := 395) 6 11 kf_X6_159 (by decide) (by decide) rfl rfl dX6_redeem_24 rfl ?_
  refine V_bipush (q := 29) (v := 60) dX6_redeem_27 (by decide) rfl ?_
  refine V_icmp_ne (tgt := 37) (q := 32) dX6_redeem_29 (by decide) rfl (fun c_29 => absurd hn c_29) (fun c_29 => ?_)
  refine V_bipush (q := 34) (v := (-2)) dX6_redeem_32 (by decide) rfl ?_
  refine V_goto (q := 67) dX6_redeem_34 (by decide) ?_
  exact V_iret hκ rfl rfl dX6_redeem_67 vEq.rf
theorem tX6_redeem3 {F : vFt} {Ar : vAt} {x : vXt} {e n : Nat} (hn : F 395 = nI n) (hn60 : n < 60) (he : e < n) (hk : Ar 48 e = 1) : C0 mX6_redeem 2 [.ref 6, .int (nI e)] F Ar x (vEq (some (.int (nI n))) (upd F 395 (nI (n + 1))) (mAdd Ar n 2 (Ar 49 e) (Ar 50 e) (Ar 51 e) (Ar 52 e) (nI e))) := by
  refine C0_of (by decide +kernel) (Nat.le_of_ble_eq_true rfl) (fun κ hκ => ?_)
  show V κ mX6_redeem 0 [.ref 6, .int (nI e)] [] F Ar x
  have hg : 0 ≤ nI e ∧ nI e ≤ F 395 - 1 := by rw [hn]; exact (v_has (by omega)).mpr ⟨e, he, rfl⟩
  refine V_aload_n (q := 1) dX6_redeem_0 rfl rfl ?_
  refine V_iload_n (q := 2) dX6_redeem_1 rfl rfl ?_
  refine V_cV1I (q := 5) (o := 6) (N := mX6_isEntry) tX6_isEntry hκ.big (by decide) gX6_isEntry kl_X6_172 ki_X6_isEntry ks_X6_isEntry (by decide) rfl (Nat.le_of_ble_eq_true rfl) dX6_redeem_2 rfl ?_
  refine V_if_ne (tgt := 10) (q := 8) dX6_redeem_5 (by decide) rfl (fun c_5 => ?_) (fun c_5 => absurd c_5 (vB_n0.mpr hg))
  refine V_aload_n (q := 11) dX6_redeem_10 rfl rfl ?_
  refine V_getR (q := 14) (n := 48) 6 12 kf_X6_34 (by decide) (by decide) rfl (by decide) dX6_redeem_11 rfl ?_
  refine V_iload_n (q := 15) dX6_redeem_14 rfl rfl ?_
  refine V_ild (q := 16) (e) 60 rfl (by omega) (by decide) (by omega) (by decide) rfl (by decide) dX6_redeem_15 rfl ?_
  refine V_iconst (q := 17) (v := 1) dX6_redeem_16 (by decide) rfl ?_
  refine V_icmp_eq (tgt := 23) (q := 20) dX6_redeem_17 (by decide) rfl (fun c_17 => ?_) (fun c_17 => absurd hk c_17)
  refine V_aload_n (q := 24) dX6_redeem_23 rfl rfl ?_
  refine V_getI (q := 27) (n := 395) 6 11 kf_X6_159 (by decide) (by decide) rfl rfl dX6_redeem_24 rfl ?_
  refine V_bipush (q := 29) (v := 60) dX6_redeem_27 (by decide) rfl ?_
  refine V_icmp_ne (tgt := 37) (q := 32) dX6_redeem_29 (by decide) rfl (fun c_29 => ?_) (fun c_29 => absurd c_29 (by rw [hn]; exact fun q => ne60 hn60 q))
  refine V_aload_n (q := 38) dX6_redeem_37 rfl rfl ?_
  refine V_iconst (q := 39) (v := 2) dX6_redeem_38 (by decide) rfl ?_
  refine V_aload_n (q := 40) dX6_redeem_39 rfl rfl ?_
  refine V_getR (q := 43) (n := 49) 6 13 kf_X6_37 (by decide) (by decide) rfl (by decide) dX6_redeem_40 rfl ?_
  refine V_iload_n (q := 44) dX6_redeem_43 rfl rfl ?_
  refine V_ild (q := 45) (e) 60 rfl (by omega) (by decide) (by omega) (by decide) rfl (by decide) dX6_redeem_44 rfl ?_
  refine V_aload_n (q := 46) dX6_redeem_45 rfl rfl ?_
  refine V_getR (q := 49) (n := 50) 6 14 kf_X6_40 (by decide) (by decide) rfl (by decide) dX6_redeem_46 rfl ?_
  refine V_iload_n (q := 50) dX6_redeem_49 rfl rfl ?_
  refine V_ild (q := 51) (e) 60 rfl (by omega) (by decide) (by omega) (by decide) rfl (by decide) dX6_redeem_50 rfl ?_
  refine V_aload_n (q := 52) dX6_redeem_51 rfl rfl ?_
  refine V_getR (q := 55) (n := 51) 6 15 kf_X6_43 (by decide) (by decide) rfl (by decide) dX6_redeem_52 rfl ?_
  refine V_iload_n (q := 56) dX6_redeem_55 rfl rfl ?_
  refine V_ild (q := 57) (e) 60 rfl (by omega) (by decide) (by omega) (by decide) rfl (by decide) dX6_redeem_56 rfl ?_
  refine V_aload_n (q := 58) dX6_redeem_57 rfl rfl ?_
  refine V_getR (q := 61) (n := 52) 6 16 kf_X6_46 (by decide) (by decide) rfl (by decide) dX6_redeem_58 rfl ?_
  refine V_iload_n (q := 62) dX6_redeem_61 rfl rfl ?_
  refine V_ild (q := 63) (e) 60 rfl (by omega) (by decide) (by omega) (by decide) rfl (by decide) dX6_redeem_62 rfl ?_
  refine V_iload_n (q := 64) dX6_redeem_63 rfl rfl ?_
  refine V_cV6I (q := 67) (o := 6) (N := mX6_enter) (tX6_enter hn hn60) hκ.big (by decide) gX6_enter kl_X6_165 ki_X6_enter ks_X6_enter (by decide) rfl (Nat.le_of_ble_eq_true rfl) dX6_redeem_64 rfl ?_
  exact V_iret hκ rfl rfl dX6_redeem_67 vEq.rf
theorem tX6_forge0 {F : vFt} {Ar : vAt} {x : vXt} {i : Int32} (hb : ¬ (0 ≤ i ∧ i ≤ F 395 - 1)) : C0 mX6_forge 2 [.ref 6, .int i] F Ar x (vEq (some (.int (-1))) F Ar) := by
  refine C0_of (by decide +kernel) (Nat.le_of_ble_eq_true rfl) (fun κ hκ => ?_)
  show V κ mX6_forge 0 [.ref 6, .int i] [] F Ar x
  refine V_aload_n (q := 1) dX6_forge_0 rfl rfl ?_
  refine V_iload_n (q := 2) dX6_forge_1 rfl rfl ?_
  refine V_cV1I (q := 5) (o := 6) (N := mX6_isEntry) tX6_isEntry hκ.big (by decide) gX6_isEntry kl_X6_172 ki_X6_isEntry ks_X6_isEntry (by decide) rfl (Nat.le_of_ble_eq_true rfl) dX6_forge_2 rfl ?_
  refine V_if_ne (tgt := 10) (q := 8) dX6_forge_5 (by decide) rfl (fun c_5 => absurd (vB_n0.mp c_5) hb) (fun c_5 => ?_)
  refine V_iconst (q := 9) (v := (-1)) dX6_forge_8 (by decide) rfl ?_
  exact V_iret hκ rfl rfl dX6_forge_9 vEq.rf
theorem tX6_forge1 {F : vFt} {Ar : vAt} {x : vXt} {e n : Nat} (hn : F 395 = nI n) (hn60 : n ≤ 60) (he : e < n) (hk : ¬ Ar 54 e = 0) : C0 mX6_forge 2 [.ref 6, .int (nI e)] F Ar x (vEq (some (.int (-3))) F Ar) := by
  refine C0_of (by decide +kernel) (Nat.le_of_ble_eq_true rfl) (fun κ hκ => ?_)
  show V κ mX6_forge 0 [.ref 6, .int (nI e)] [] F Ar x
  have hg : 0 ≤ nI e ∧ nI e ≤ F 395 - 1 := by rw [hn]; exact (v_has (by omega)).mpr ⟨e, he, rfl⟩
  refine V_aload_n (q := 1) dX6_forge_0 rfl rfl ?_
  refine V_iload_n (q := 2) dX6_forge_1 rfl rfl ?_
  refine V_cV1I (q := 5) (o := 6) (N := mX6_isEntry) tX6_isEntry hκ.big (by decide) gX6_isEntry kl_X6_172 ki_X6_isEntry ks_X6_isEntry (by decide) rfl (Nat.le_of_ble_eq_true rfl) dX6_forge_2 rfl ?_
  refine V_if_ne (tgt := 10) (q := 8) dX6_forge_5 (by decide) rfl (fun c_5 => ?_) (fun c_5 => absurd c_5 (vB_n0.mpr hg))
  refine V_aload_n (q := 11) dX6_forge_10 rfl rfl ?_
  refine V_getR (q := 14) (n := 54) 6 18 kf_X6_52 (by decide) (by decide) rfl (by decide) dX6_forge_11 rfl ?_
  refine V_iload_n (q := 15) dX6_forge_14 rfl rfl ?_
  refine V_zld (q := 16) (e) 60 rfl (by omega) (by decide) (by omega) (by decide) rfl (by decide) dX6_forge_15 rfl ?_
  refine V_if_eq (tgt := 22) (q := 19) dX6_forge_16 (by decide) rfl (fun c_16 => absurd c_16 hk) (fun c_16 => ?_)
  refine V_bipush (q := 21) (v := (-3)) dX6_forge_19 (by decide) rfl ?_
  exact V_iret hκ rfl rfl dX6_forge_21 vEq.rf
theorem tX6_forge2 {F : vFt} {Ar : vAt} {x : vXt} {e n : Nat} (hn : F 395 = nI n) (hn60 : n ≤ 60) (he : e < n) (hk : Ar 54 e = 0) : C0 mX6_forge 2 [.ref 6, .int (nI e)] F Ar x (vEq (some (.int 1)) F (vS Ar 54 (upd (Ar 54) e 1))) := by
  refine C0_of (by decide +kernel) (Nat.le_of_ble_eq_true rfl) (fun κ hκ => ?_)
  show V κ mX6_forge 0 [.ref 6, .int (nI e)] [] F Ar x
  have hg : 0 ≤ nI e ∧ nI e ≤ F 395 - 1 := by rw [hn]; exact (v_has (by omega)).mpr ⟨e, he, rfl⟩
  refine V_aload_n (q := 1) dX6_forge_0 rfl rfl ?_
  refine V_iload_n (q := 2) dX6_forge_1 rfl rfl ?_
  refine V_cV1I (q := 5) (o := 6) (N := mX6_isEntry) tX6_isEntry hκ.big (by decide) gX6_isEntry kl_X6_172 ki_X6_isEntry ks_X6_isEntry (by decide) rfl (Nat.le_of_ble_eq_true rfl) dX6_forge_2 rfl ?_
  refine V_if_ne (tgt := 10) (q := 8) dX6_forge_5 (by decide) rfl (fun c_5 => ?_) (fun c_5 => absurd c_5 (vB_n0.mpr hg))
  refine V_aload_n (q := 11) dX6_forge_10 rfl rfl ?_
  refine V_getR (q := 14) (n := 54) 6 18 kf_X6_52 (by decide) (by decide) rfl (by decide) dX6_forge_11 rfl ?_
  refine V_iload_n (q := 15) dX6_forge_14 rfl rfl ?_
  refine V_zld (q := 16) (e) 60 rfl (by omega) (by decide) (by omega) (by decide) rfl (by decide) dX6_forge_15 rfl ?_
  refine V_if_eq (tgt := 22) (q := 19) dX6_forge_16 (by decide) rfl (fun c_16 => ?_) (fun c_16 => absurd hk c_16)
  refine V_aload_n (q := 23) dX6_forge_22 rfl rfl ?_
  refine V_getR (q := 26) (n := 54) 6 18 kf_X6_52 (by decide) (by decide) rfl (by decide) dX6_forge_23 rfl ?_
  refine V_iload_n (q := 27) dX6_forge_26 rfl rfl ?_
  refine V_iconst (q := 28) (v := 1) dX6_forge_27 (by decide) rfl ?_
  refine V_zst (q := 29) (e) 60 rfl (by omega) (by decide) (by omega) (by decide) rfl (by decide) dX6_forge_28 rfl ?_
  refine V_iconst (q := 30) (v := 1) dX6_forge_29 (by decide) rfl ?_
  exact V_iret hκ rfl rfl dX6_forge_30 vEq.rf
theorem tX6_alter0 {F : vFt} {Ar : vAt} {x : vXt} {i l b d r : Int32} (hb : ¬ ((0 ≤ i ∧ i ≤ F 390 - 1) ∧ vSz l b d r)) : C0 mX6_alter 2 [.ref 6, .int i, .int l, .int b, .int d, .int r] F Ar x (vEq (some (.int (-1))) F Ar) := by
  refine C0_of (by decide +kernel) (Nat.le_of_ble_eq_true rfl) (fun κ hκ => ?_)
  show V κ mX6_alter 0 [.ref 6, .int i, .int l, .int b, .int d, .int r] [] F Ar x
  refine V_aload_n (q := 1) dX6_alter_0 rfl rfl ?_
  refine V_iload_n (q := 2) dX6_alter_1 rfl rfl ?_
  refine V_cV1I (q := 5) (o := 6) (N := mX6_isHull) tX6_isHull hκ.big (by decide) gX6_isHull kl_X6_156 ki_X6_isHull ks_X6_isHull (by decide) rfl (Nat.le_of_ble_eq_true rfl) dX6_alter_2 rfl ?_
  refine V_if_eq (tgt := 20) (q := 8) dX6_alter_5 (by decide) rfl (fun c_5 => ?_) (fun c_5 => ?_)
  · refine V_iconst (q := 21) (v := (-1)) dX6_alter_20 (by decide) rfl ?_
    exact V_iret hκ rfl rfl dX6_alter_21 vEq.rf
  · refine V_iload_n (q := 9) dX6_alter_8 rfl rfl ?_
    refine V_iload_n (q := 10) dX6_alter_9 rfl rfl ?_
    refine V_iload (q := 12) dX6_alter_10 rfl rfl ?_
    refine V_iload (q := 14) dX6_alter_12 rfl rfl ?_
    refine V_cS4I (q := 17) (N := mX6_areSizes) tX6_areSizes hκ.big (by decide) gX6_areSizes kl_X6_139 kt_X6_areSizes (Nat.le_of_ble_eq_true rfl) dX6_alter_14 rfl ?_
    refine V_if_ne (tgt := 22) (q := 20) dX6_alter_17 (by decide) rfl (fun c_17 => absurd ⟨vB_n0.mp c_5, vB_n0.mp c_17⟩ hb) (fun c_17 => ?_)
    refine V_iconst (q := 21) (v := (-1)) dX6_alter_20 (by decide) rfl ?_
    exact V_iret hκ rfl rfl dX6_alter_21 vEq.rf
theorem tX6_alter1 {F : vFt} {Ar : vAt} {x : vXt} {n h : Nat} {l b d r : Int32} (hn : F 390 = nI n) (hn5 : n ≤ 5) (hh : h < n) (hs : vSz l b d r) : C0 mX6_alter 2 [.ref 6, .int (nI h), .int l, .int b, .int d, .int r] F Ar x (vEq (some (.int 1)) F (vS Ar 44 (mSz (Ar 44) h l b d r))) := by
  refine C0_of (by decide +kernel) (Nat.le_of_ble_eq_true rfl) (fun κ hκ => ?_)
  show V κ mX6_alter 0 [.ref 6, .int (nI h), .int l, .int b, .int d, .int r] [] F Ar x
  have hg : 0 ≤ nI h ∧ nI h ≤ F 390 - 1 := by rw [hn]; exact (v_has (by omega)).mpr ⟨h, hh, rfl⟩
  refine V_aload_n (q := 1) dX6_alter_0 rfl rfl ?_
  refine V_iload_n (q := 2) dX6_alter_1 rfl rfl ?_
  refine V_cV1I (q := 5) (o := 6) (N := mX6_isHull) tX6_isHull hκ.big (by decide) gX6_isHull kl_X6_156 ki_X6_isHull ks_X6_isHull (by decide) rfl (Nat.le_of_ble_eq_true rfl) dX6_alter_2 rfl ?_
  refine V_if_eq (tgt := 20) (q := 8) dX6_alter_5 (by decide) rfl (fun c_5 => absurd c_5 (vB_n0.mpr hg)) (fun c_5 => ?_)
  refine V_iload_n (q := 9) dX6_alter_8 rfl rfl ?_
  refine V_iload_n (q := 10) dX6_alter_9 rfl rfl ?_
  refine V_iload (q := 12) dX6_alter_10 rfl rfl ?_
  refine V_iload (q := 14) dX6_alter_12 rfl rfl ?_
  refine V_cS4I (q := 17) (N := mX6_areSizes) tX6_areSizes hκ.big (by decide) gX6_areSizes kl_X6_139 kt_X6_areSizes (Nat.le_of_ble_eq_true rfl) dX6_alter_14 rfl ?_
  refine V_if_ne (tgt := 22) (q := 20) dX6_alter_17 (by decide) rfl (fun c_17 => ?_) (fun c_17 => absurd c_17 (vB_n0.mpr hs))
  refine V_aload_n (q := 23) dX6_alter_22 rfl rfl ?_
  refine V_iload_n (q := 24) dX6_alter_23 rfl rfl ?_
  refine V_iload_n (q := 25) dX6_alter_24 rfl rfl ?_
  refine V_iload_n (q := 26) dX6_alter_25 rfl rfl ?_
  refine V_iload (q := 28) dX6_alter_26 rfl rfl ?_
  refine V_iload (q := 30) dX6_alter_28 rfl rfl ?_
  refine V_cV5U (q := 33) (o := 6) (N := mX6_put) (tX6_put (by omega)) hκ.big (by decide) gX6_put kl_X6_152 ki_X6_put ks_X6_put (by decide) rfl (Nat.le_of_ble_eq_true rfl) dX6_alter_30 rfl ?_
  refine V_iconst (q := 34) (v := 1) dX6_alter_33 (by decide) rfl ?_
  exact V_iret hκ rfl rfl dX6_alter_34 vEq.rf
theorem tX6_of0 {F : vFt} {Ar : vAt} {x : vXt} {i w : Int32} (hb : ¬ ((0 ≤ i ∧ i ≤ F 390 - 1) ∧ (0 ≤ w ∧ w ≤ 6))) : C0 mX6_of 2 [.ref 6, .int i, .int w] F Ar x (vEq (some (.int (-10000000))) F Ar) := by
  refine C0_of (by decide +kernel) (Nat.le_of_ble_eq_true rfl) (fun κ hκ => ?_)
  show V κ mX6_of 0 [.ref 6, .int i, .int w] [] F Ar x
  refine V_aload_n (q := 1) dX6_of_0 rfl rfl ?_
  refine V_iload_n (q := 2) dX6_of_1 rfl rfl ?_
  refine V_cV1I (q := 5) (o := 6) (N := mX6_isHull) tX6_isHull hκ.big (by decide) gX6_isHull kl_X6_156 ki_X6_isHull ks_X6_isHull (by decide) rfl (Nat.le_of_ble_eq_true rfl) dX6_of_2 rfl ?_
  refine V_if_eq (tgt := 32) (q := 8) dX6_of_5 (by decide) rfl (fun c_5 => ?_) (fun c_5 => ?_)
  · refine V_ldc (q := 34) dX6_of_32 kc_X6_147 rfl ?_
    exact V_iret hκ rfl rfl dX6_of_34 vEq.rf
  · refine V_iload_n (q := 9) dX6_of_8 rfl rfl ?_
    refine V_iconst (q := 10) (v := 0) dX6_of_9 (by decide) rfl ?_
    refine V_bipush (q := 12) (v := 6) dX6_of_10 (by decide) rfl ?_
    refine V_cS3I (q := 15) (N := mX6_in) tX6_in hκ.big (by decide) gX6_in kl_X6_101 kt_X6_in (Nat.le_of_ble_eq_true rfl) dX6_of_12 rfl ?_
    refine V_if_eq (tgt := 32) (q := 18) dX6_of_15 (by decide) rfl (fun c_15 => ?_) (fun c_15 => absurd ⟨vB_n0.mp c_5, vB_n0.mp c_15⟩ hb)
    refine V_ldc (q := 34) dX6_of_32 kc_X6_147 rfl ?_
    exact V_iret hκ rfl rfl dX6_of_34 vEq.rf
def ofV (Ar : vAt) (h w : Nat) : Int32 := if w < 4 then Ar 44 (4 * h + w) else if Ar 46 h < 0 then -10000000 else if w = 4 then Ar 45 h else if w = 5 then Ar 46 h else Ar 47 h
theorem tX6_of1 {F : vFt} {Ar : vAt} {x : vXt} {n h w : Nat} (hn : F 390 = nI n) (hn5 : n ≤ 5) (hh : h < n) (hw : w < 7) : C0 mX6_of 2 [.ref 6, .int (nI h), .int (nI w)] F Ar x (vEq (some (.int (ofV Ar h w))) F Ar) := by
  refine C0_of (by decide +kernel) (Nat.le_of_ble_eq_true rfl) (fun κ hκ => ?_)
  show V κ mX6_of 0 [.ref 6, .int (nI h), .int (nI w)] [] F Ar x
  have hg : 0 ≤ nI h ∧ nI h ≤ F 390 - 1 := by rw [hn]; exact (v_has (by omega)).mpr ⟨h, hh, rfl⟩
  have hw6 : (0 : Int32) ≤ nI w ∧ nI w ≤ 6 := (v_to (n := 6) rfl (by decide)).mpr ⟨w, by omega, rfl⟩
  have w3 : nI w ≤ nI 3 ↔ w ≤ 3 := nI_leI (by omega) (by decide)
  have w4 : nI 4 ≤ nI w ↔ 4 ≤ w := nI_leI (by decide) (by omega)
  have w44 : nI w = nI 4 ↔ w = 4 := nI_eq (by omega) (by decide)
  have w55 : nI w = nI 5 ↔ w = 5 := nI_eq (by omega) (by decide)
  refine V_aload_n (q := 1) dX6_of_0 rfl rfl ?_
  refine V_iload_n (q := 2) dX6_of_1 rfl rfl ?_
  refine V_cV1I (q := 5) (o := 6) (N := mX6_isHull) tX6_isHull hκ.big (by decide) gX6_isHull kl_X6_156 ki_X6_isHull ks_X6_isHull (by decide) rfl (Nat.le_of_ble_eq_true rfl) dX6_of_2 rfl ?_
  refine V_if_eq (tgt := 32) (q := 8) dX6_of_5 (by decide) rfl (fun c_5 => absurd c_5 (vB_n0.mpr hg)) (fun c_5 => ?_)
  refine V_iload_n (q := 9) dX6_of_8 rfl rfl ?_
  refine V_iconst (q := 10) (v := 0) dX6_of_9 (by decide) rfl ?_
  refine V_bipush (q := 12) (v := 6) dX6_of_10 (by decide) rfl ?_
  refine V_cS3I (q := 15) (N := mX6_in) tX6_in hκ.big (by decide) gX6_in kl_X6_101 kt_X6_in (Nat.le_of_ble_eq_true rfl) dX6_of_12 rfl ?_
  refine V_if_eq (tgt := 32) (q := 18) dX6_of_15 (by decide) rfl (fun c_15 => absurd c_15 (vB_n0.mpr hw6)) (fun c_15 => ?_)
  refine V_iload_n (q := 19) dX6_of_18 rfl rfl ?_
  refine V_iconst (q := 20) (v := 3) dX6_of_19 (by decide) rfl ?_
  refine V_icmp_le (tgt := 35) (q := 23) dX6_of_20 (by decide) rfl (fun c_20 => ?_) (fun c_20 => ?_)
  · refine V_iload_n (q := 36) dX6_of_35 rfl rfl ?_
    refine V_iconst (q := 37) (v := 4) dX6_of_36 (by decide) rfl ?_
    refine V_icmp_ge (tgt := 53) (q := 40) dX6_of_37 (by decide) rfl (fun c_37 => ?_) (fun c_37 => ?_)
    · refine V_iload_n (q := 54) dX6_of_53 rfl rfl ?_
      refine V_iconst (q := 55) (v := 4) dX6_of_54 (by decide) rfl ?_
      refine V_icmp_ne (tgt := 67) (q := 58) dX6_of_55 (by decide) rfl (fun c_55 => ?_) (fun c_55 => ?_)
      · refine V_iload_n (q := 68) dX6_of_67 rfl rfl ?_
        refine V_iconst (q := 69) (v := 5) dX6_of_68 (by decide) rfl ?_
        refine V_icmp_ne (tgt := 81) (q := 72) dX6_of_69 (by decide) rfl (fun c_69 => ?_) (fun c_69 => ?_)
        · refine V_aload_n (q := 82) dX6_of_81 rfl rfl ?_
          refine V_getR (q := 85) (n := 47) 6 10 kf_X6_31 (by decide) (by decide) rfl (by decide) dX6_of_82 rfl ?_
          refine V_iload_n (q := 86) dX6_of_85 rfl rfl ?_
          refine V_ild (q := 87) (h) 5 rfl (by omega) (by decide) (by omega) (by decide) rfl (by decide) dX6_of_86 rfl ?_
          exact V_iret hκ rfl rfl dX6_of_87 ⟨by first | (have k : ¬ 4 ≤ w := fun q => c_37 (w4.mpr q); rw [ofV, if_pos (by omega)]; done) | (have k := w4.mp c_37; have c29 : ¬ Ar 46 h < 0 := (by first | exact fun q => v_nlt q c_29 | (exfalso; have := w3.mp c_20; omega)); rw [ofV, if_neg (by omega), if_neg c29]; first | (rw [if_pos (w44.mp c_55)]; done) | (rw [if_neg (fun q => c_55 (w44.mpr q)), if_pos (w55.mp c_69)]; done) | rw [if_neg (fun q => c_55 (w44.mpr q)), if_neg (fun q => c_69 (w55.mpr q))]), rfl, rfl⟩
        · refine V_aload_n (q := 73) dX6_of_72 rfl rfl ?_
          refine V_getR (q := 76) (n := 46) 6 9 kf_X6_28 (by decide) (by decide) rfl (by decide) dX6_of_73 rfl ?_
          refine V_iload_n (q := 77) dX6_of_76 rfl rfl ?_
          refine V_ild (q := 78) (h) 5 rfl (by omega) (by decide) (by omega) (by decide) rfl (by decide) dX6_of_77 rfl ?_
          refine V_goto (q := 87) dX6_of_78 (by decide) ?_
          exact V_iret hκ rfl rfl dX6_of_87 ⟨by first | (have k : ¬ 4 ≤ w := fun q => c_37 (w4.mpr q); rw [ofV, if_pos (by omega)]; done) | (have k := w4.mp c_37; have c29 : ¬ Ar 46 h < 0 := (by first | exact fun q => v_nlt q c_29 | (exfalso; have := w3.mp c_20; omega)); rw [ofV, if_neg (by omega), if_neg c29]; first | (rw [if_pos (w44.mp c_55)]; done) | (rw [if_neg (fun q => c_55 (w44.mpr q)), if_pos (w55.mp c_69)]; done) | rw [if_neg (fun q => c_55 (w44.mpr q)), if_neg (fun q => c_69 (w55.mpr q))]), rfl, rfl⟩
      · refine V_aload_n (q := 59) dX6_of_58 rfl rfl ?_
        refine V_getR (q := 62) (n := 45) 6 8 kf_X6_25 (by decide) (by decide) rfl (by decide) dX6_of_59 rfl ?_
        refine V_iload_n (q := 63) dX6_of_62 rfl rfl ?_
        refine V_ild (q := 64) (h) 5 rfl (by omega) (by decide) (by omega) (by decide) rfl (by decide) dX6_of_63 rfl ?_
        refine V_goto (q := 87) dX6_of_64 (by decide) ?_
        exact V_iret hκ rfl rfl dX6_of_87 ⟨by first | (have k : ¬ 4 ≤ w := fun q => c_37 (w4.mpr q); rw [ofV, if_pos (by omega)]; done) | (have k := w4.mp c_37; have c29 : ¬ Ar 46 h < 0 := (by first | exact fun q => v_nlt q c_29 | (exfalso; have := w3.mp c_20; omega)); rw [ofV, if_neg (by omega), if_neg c29]; first | (rw [if_pos (w44.mp c_55)]; done) | (rw [if_neg (fun q => c_55 (w44.mpr q)), if_pos (w55.mp c_69)]; done) | rw [if_neg (fun q => c_55 (w44.mpr q)), if_neg (fun q => c_69 (w55.mpr q))]), rfl, rfl⟩
    · refine V_aload_n (q := 41) dX6_of_40 rfl rfl ?_
      refine V_getR (q := 44) (n := 44) 6 7 kf_X6_22 (by decide) (by decide) rfl (by decide) dX6_of_41 rfl ?_
      refine V_iconst (q := 45) (v := 4) dX6_of_44 (by decide) rfl ?_
      refine V_iload_n (q := 46) dX6_of_45 rfl rfl ?_
      refine V_imul (q := 47) dX6_of_46 rfl ?_
      refine V_iload_n (q := 48) dX6_of_47 rfl rfl ?_
      refine V_iadd (q := 49) dX6_of_48 rfl ?_
      refine V_ild (q := 50) (4 * h + w) 20 (v_m4 h w) (by have : w ≤ 3 := (by first | exact w3.mp c_20 | (have : ¬ 4 ≤ w := fun q => c_37 (w4.mpr q); omega)); omega) (by decide) (by omega) (by decide) rfl (by decide) dX6_of_49 rfl ?_
      refine V_goto (q := 87) dX6_of_50 (by decide) ?_
      exact V_iret hκ rfl rfl dX6_of_87 ⟨by first | (have k : ¬ 4 ≤ w := fun q => c_37 (w4.mpr q); rw [ofV, if_pos (by omega)]; done) | (have k := w4.mp c_37; have c29 : ¬ Ar 46 h < 0 := (by first | exact fun q => v_nlt q c_29 | (exfalso; have := w3.mp c_20; omega)); rw [ofV, if_neg (by omega), if_neg c29]; first | (rw [if_pos (w44.mp c_55)]; done) | (rw [if_neg (fun q => c_55 (w44.mpr q)), if_pos (w55.mp c_69)]; done) | rw [if_neg (fun q => c_55 (w44.mpr q)), if_neg (fun q => c_69 (w55.mpr q))]), rfl, rfl⟩
  · refine V_aload_n (q := 24) dX6_of_23 rfl rfl ?_
    refine V_getR (q := 27) (n := 46) 6 9 kf_X6_28 (by decide) (by decide) rfl (by decide) dX6_of_24 rfl ?_
    refine V_iload_n (q := 28) dX6_of_27 rfl rfl ?_
    refine V_ild (q := 29) (h) 5 rfl (by omega) (by decide) (by omega) (by decide) rfl (by decide) dX6_of_28 rfl ?_
    refine V_if_ge (tgt := 35) (q := 32) dX6_of_29 (by decide) rfl (fun c_29 => ?_) (fun c_29 => ?_)
    · refine V_iload_n (q := 36) dX6_of_35 rfl rfl ?_
      refine V_iconst (q := 37) (v := 4) dX6_of_36 (by decide) rfl ?_
      refine V_icmp_ge (tgt := 53) (q := 40) dX6_of_37 (by decide) rfl (fun c_37 => ?_) (fun c_37 => ?_)
      · refine V_iload_n (q := 54) dX6_of_53 rfl rfl ?_
        refine V_iconst (q := 55) (v := 4) dX6_of_54 (by decide) rfl ?_
        refine V_icmp_ne (tgt := 67) (q := 58) dX6_of_55 (by decide) rfl (fun c_55 => ?_) (fun c_55 => ?_)
        · refine V_iload_n (q := 68) dX6_of_67 rfl rfl ?_
          refine V_iconst (q := 69) (v := 5) dX6_of_68 (by decide) rfl ?_
          refine V_icmp_ne (tgt := 81) (q := 72) dX6_of_69 (by decide) rfl (fun c_69 => ?_) (fun c_69 => ?_)
          · refine V_aload_n (q := 82) dX6_of_81 rfl rfl ?_
            refine V_getR (q := 85) (n := 47) 6 10 kf_X6_31 (by decide) (by decide) rfl (by decide) dX6_of_82 rfl ?_
            refine V_iload_n (q := 86) dX6_of_85 rfl rfl ?_
            refine V_ild (q := 87) (h) 5 rfl (by omega) (by decide) (by omega) (by decide) rfl (by decide) dX6_of_86 rfl ?_
            exact V_iret hκ rfl rfl dX6_of_87 ⟨by first | (have k : ¬ 4 ≤ w := fun q => c_37 (w4.mpr q); rw [ofV, if_pos (by omega)]; done) | (have k := w4.mp c_37; have c29 : ¬ Ar 46 h < 0 := (by first | exact fun q => v_nlt q c_29 | (exfalso; have := w3.mp c_20; omega)); rw [ofV, if_neg (by omega), if_neg c29]; first | (rw [if_pos (w44.mp c_55)]; done) | (rw [if_neg (fun q => c_55 (w44.mpr q)), if_pos (w55.mp c_69)]; done) | rw [if_neg (fun q => c_55 (w44.mpr q)), if_neg (fun q => c_69 (w55.mpr q))]), rfl, rfl⟩
          · refine V_aload_n (q := 73) dX6_of_72 rfl rfl ?_
            refine V_getR (q := 76) (n := 46) 6 9 kf_X6_28 (by decide) (by decide) rfl (by decide) dX6_of_73 rfl ?_
            refine V_iload_n (q := 77) dX6_of_76 rfl rfl ?_
            refine V_ild (q := 78) (h) 5 rfl (by omega) (by decide) (by omega) (by decide) rfl (by decide) dX6_of_77 rfl ?_
            refine V_goto (q := 87) dX6_of_78 (by decide) ?_
            exact V_iret hκ rfl rfl dX6_of_87 ⟨by first | (have k : ¬ 4 ≤ w := fun q => c_37 (w4.mpr q); rw [ofV, if_pos (by omega)]; done) | (have k := w4.mp c_37; have c29 : ¬ Ar 46 h < 0 := (by first | exact fun q => v_nlt q c_29 | (exfalso; have := w3.mp c_20; omega)); rw [ofV, if_neg (by omega), if_neg c29]; first | (rw [if_pos (w44.mp c_55)]; done) | (rw [if_neg (fun q => c_55 (w44.mpr q)), if_pos (w55.mp c_69)]; done) | rw [if_neg (fun q => c_55 (w44.mpr q)), if_neg (fun q => c_69 (w55.mpr q))]), rfl, rfl⟩
        · refine V_aload_n (q := 59) dX6_of_58 rfl rfl ?_
          refine V_getR (q := 62) (n := 45) 6 8 kf_X6_25 (by decide) (by decide) rfl (by decide) dX6_of_59 rfl ?_
          refine V_iload_n (q := 63) dX6_of_62 rfl rfl ?_
          refine V_ild (q := 64) (h) 5 rfl (by omega) (by decide) (by omega) (by decide) rfl (by decide) dX6_of_63 rfl ?_
          refine V_goto (q := 87) dX6_of_64 (by decide) ?_
          exact V_iret hκ rfl rfl dX6_of_87 ⟨by first | (have k : ¬ 4 ≤ w := fun q => c_37 (w4.mpr q); rw [ofV, if_pos (by omega)]; done) | (have k := w4.mp c_37; have c29 : ¬ Ar 46 h < 0 := (by first | exact fun q => v_nlt q c_29 | (exfalso; have := w3.mp c_20; omega)); rw [ofV, if_neg (by omega), if_neg c29]; first | (rw [if_pos (w44.mp c_55)]; done) | (rw [if_neg (fun q => c_55 (w44.mpr q)), if_pos (w55.mp c_69)]; done) | rw [if_neg (fun q => c_55 (w44.mpr q)), if_neg (fun q => c_69 (w55.mpr q))]), rfl, rfl⟩
      · refine V_aload_n (q := 41) dX6_of_40 rfl rfl ?_
        refine V_getR (q := 44) (n := 44) 6 7 kf_X6_22 (by decide) (by decide) rfl (by decide) dX6_of_41 rfl ?_
        refine V_iconst (q := 45) (v := 4) dX6_of_44 (by decide) rfl ?_
        refine V_iload_n (q := 46) dX6_of_45 rfl rfl ?_
        refine V_imul (q := 47) dX6_of_46 rfl ?_
        refine V_iload_n (q := 48) dX6_of_47 rfl rfl ?_
        refine V_iadd (q := 49) dX6_of_48 rfl ?_
        refine V_ild (q := 50) (4 * h + w) 20 (v_m4 h w) (by have : w ≤ 3 := (by first | exact w3.mp c_20 | (have : ¬ 4 ≤ w := fun q => c_37 (w4.mpr q); omega)); omega) (by decide) (by omega) (by decide) rfl (by decide) dX6_of_49 rfl ?_
        refine V_goto (q := 87) dX6_of_50 (by decide) ?_
        exact V_iret hκ rfl rfl dX6_of_87 ⟨by first | (have k : ¬ 4 ≤ w := fun q => c_37 (w4.mpr q); rw [ofV, if_pos (by omega)]; done) | (have k := w4.mp c_37; have c29 : ¬ Ar 46 h < 0 := (by first | exact fun q => v_nlt q c_29 | (exfalso; have := w3.mp c_20; omega)); rw [ofV, if_neg (by omega), if_neg c29]; first | (rw [if_pos (w44.mp c_55)]; done) | (rw [if_neg (fun q => c_55 (w44.mpr q)), if_pos (w55.mp c_69)]; done) | rw [if_neg (fun q => c_55 (w44.mpr q)), if_neg (fun q => c_69 (w55.mpr q))]), rfl, rfl⟩
    · refine V_ldc (q := 34) dX6_of_32 kc_X6_147 rfl ?_
      exact V_iret hκ rfl rfl dX6_of_34 ⟨by have k : ¬ w ≤ 3 := fun q => c_20 (w3.mpr q); rw [ofV, if_neg (by omega), if_pos (v_lt c_29)], rfl, rfl⟩
