abbrev ppOk (a b c d m : Int32) : Prop := (0 ≤ a ∧ a ≤ 999) ∧ (a ≤ b ∧ b ≤ 999) ∧ (1 ≤ c ∧ c ≤ 99) ∧ (c ≤ d ∧ d ≤ 99) ∧ (0 ≤ m ∧ m ≤ 9)
def mPap (f : Nat → Int32) (n : Nat) (a b c d m : Int32) : Nat → Int32 := upd (upd (upd (upd (upd f (5 * n) a) (5 * n + 1) b) (5 * n + 2) c) (5 * n + 3) d) (5 * n + 4) m
theorem ne8 {n : Nat} (h : n < 8) : ¬ nI n = 8 := fun q => by
  have h2 : nI n = nI 8 ↔ n = 8 := nI_eq (by omega) (by decide)
  have := h2.mp q
  omega
theorem ne6 {n : Nat} (h : n < 6) : ¬ nI n = 6 := fun q => by
  have h2 : nI n = nI 6 ↔ n = 6 := nI_eq (by omega) (by decide)
  have := h2.mp q
  omega
theorem v_m5 (h c : Nat) : 5 * nI h + nI c = nI (5 * h + c) := v_ma 5 h c
theorem v_a5 (h c : Nat) : nI (5 * h) + nI c = nI (5 * h + c) := nI_add _ _
theorem tX6_paper0 {F : vFt} {Ar : vAt} {x : vXt} {a b c d m : Int32} (hb : ¬ ppOk a b c d m) : C0 mX6_paper 1 [.ref 6, .int a, .int b, .int c, .int d, .int m] F Ar x (vEq (some (.int (-1))) F Ar) := by
  refine C0_of (by decide +kernel) (Nat.le_of_ble_eq_true rfl) (fun κ hκ => ?_)
  show V κ mX6_paper 0 [.ref 6, .int a, .int b, .int c, .int d, .int m, .null] [] F Ar x
  refine V_iload_n (q := 1) dX6_paper_0 rfl rfl ?_
  refine V_iconst (q := 2) (v := 0) dX6_paper_1 (by decide) rfl ?_
  refine V_sipush (q := 5) (v := 999) dX6_paper_2 (by decide) rfl ?_
  refine V_cS3I (q := 8) (N := mX6_in) tX6_in hκ.big (by decide) gX6_in kl_X6_101 kt_X6_in (Nat.le_of_ble_eq_true rfl) dX6_paper_5 rfl ?_
  refine V_if_eq (tgt := 54) (q := 11) dX6_paper_8 (by decide) rfl (fun c_8 => ?_) (fun c_8 => ?_)
  · refine V_iconst (q := 55) (v := (-1)) dX6_paper_54 (by decide) rfl ?_
    exact V_iret hκ rfl rfl dX6_paper_55 vEq.rf
  · refine V_iload_n (q := 12) dX6_paper_11 rfl rfl ?_
    refine V_iload_n (q := 13) dX6_paper_12 rfl rfl ?_
    refine V_sipush (q := 16) (v := 999) dX6_paper_13 (by decide) rfl ?_
    refine V_cS3I (q := 19) (N := mX6_in) tX6_in hκ.big (by decide) gX6_in kl_X6_101 kt_X6_in (Nat.le_of_ble_eq_true rfl) dX6_paper_16 rfl ?_
    refine V_if_eq (tgt := 54) (q := 22) dX6_paper_19 (by decide) rfl (fun c_19 => ?_) (fun c_19 => ?_)
    · refine V_iconst (q := 55) (v := (-1)) dX6_paper_54 (by decide) rfl ?_
      exact V_iret hκ rfl rfl dX6_paper_55 vEq.rf
    · refine V_iload_n (q := 23) dX6_paper_22 rfl rfl ?_
      refine V_iconst (q := 24) (v := 1) dX6_paper_23 (by decide) rfl ?_
      refine V_bipush (q := 26) (v := 99) dX6_paper_24 (by decide) rfl ?_
      refine V_cS3I (q := 29) (N := mX6_in) tX6_in hκ.big (by decide) gX6_in kl_X6_101 kt_X6_in (Nat.le_of_ble_eq_true rfl) dX6_paper_26 rfl ?_
      refine V_if_eq (tgt := 54) (q := 32) dX6_paper_29 (by decide) rfl (fun c_29 => ?_) (fun c_29 => ?_)
      · refine V_iconst (q := 55) (v := (-1)) dX6_paper_54 (by decide) rfl ?_
        exact V_iret hκ rfl rfl dX6_paper_55 vEq.rf
      · refine V_iload (q := 34) dX6_paper_32 rfl rfl ?_
        refine V_iload_n (q := 35) dX6_paper_34 rfl rfl ?_
        refine V_bipush (q := 37) (v := 99) dX6_paper_35 (by decide) rfl ?_
        refine V_cS3I (q := 40) (N := mX6_in) tX6_in hκ.big (by decide) gX6_in kl_X6_101 kt_X6_in (Nat.le_of_ble_eq_true rfl) dX6_paper_37 rfl ?_
        refine V_if_eq (tgt := 54) (q := 43) dX6_paper_40 (by decide) rfl (fun c_40 => ?_) (fun c_40 => ?_)
        · refine V_iconst (q := 55) (v := (-1)) dX6_paper_54 (by decide) rfl ?_
          exact V_iret hκ rfl rfl dX6_paper_55 vEq.rf
        · refine V_iload (q := 45) dX6_paper_43 rfl rfl ?_
          refine V_iconst (q := 46) (v := 0) dX6_paper_45 (by decide) rfl ?_
          refine V_bipush (q := 48) (v := 9) dX6_paper_46 (by decide) rfl ?_
          refine V_cS3I (q := 51) (N := mX6_in) tX6_in hκ.big (by decide) gX6_in kl_X6_101 kt_X6_in (Nat.le_of_ble_eq_true rfl) dX6_paper_48 rfl ?_
          refine V_if_ne (tgt := 56) (q := 54) dX6_paper_51 (by decide) rfl (fun c_51 => absurd ⟨vB_n0.mp c_8, vB_n0.mp c_19, vB_n0.mp c_29, vB_n0.mp c_40, vB_n0.mp c_51⟩ hb) (fun c_51 => ?_)
          refine V_iconst (q := 55) (v := (-1)) dX6_paper_54 (by decide) rfl ?_
          exact V_iret hκ rfl rfl dX6_paper_55 vEq.rf
theorem tX6_paper1 {F : vFt} {Ar : vAt} {x : vXt} {a b c d m : Int32} (hg : ppOk a b c d m) (hn : F 403 = nI 8) : C0 mX6_paper 1 [.ref 6, .int a, .int b, .int c, .int d, .int m] F Ar x (vEq (some (.int (-2))) F Ar) := by
  refine C0_of (by decide +kernel) (Nat.le_of_ble_eq_true rfl) (fun κ hκ => ?_)
  show V κ mX6_paper 0 [.ref 6, .int a, .int b, .int c, .int d, .int m, .null] [] F Ar x
  refine V_iload_n (q := 1) dX6_paper_0 rfl rfl ?_
  refine V_iconst (q := 2) (v := 0) dX6_paper_1 (by decide) rfl ?_
  refine V_sipush (q := 5) (v := 999) dX6_paper_2 (by decide) rfl ?_
  refine V_cS3I (q := 8) (N := mX6_in) tX6_in hκ.big (by decide) gX6_in kl_X6_101 kt_X6_in (Nat.le_of_ble_eq_true rfl) dX6_paper_5 rfl ?_
  refine V_if_eq (tgt := 54) (q := 11) dX6_paper_8 (by decide) rfl (fun c_8 => absurd c_8 (vB_n0.mpr hg.1)) (fun c_8 => ?_)
  refine V_iload_n (q := 12) dX6_paper_11 rfl rfl ?_
  refine V_iload_n (q := 13) dX6_paper_12 rfl rfl ?_
  refine V_sipush (q := 16) (v := 999) dX6_paper_13 (by decide) rfl ?_
  refine V_cS3I (q := 19) (N := mX6_in) tX6_in hκ.big (by decide) gX6_in kl_X6_101 kt_X6_in (Nat.le_of_ble_eq_true rfl) dX6_paper_16 rfl ?_
  refine V_if_eq (tgt := 54) (q := 22) dX6_paper_19 (by decide) rfl (fun c_19 => absurd c_19 (vB_n0.mpr hg.2.1)) (fun c_19 => ?_)
  refine V_iload_n (q := 23) dX6_paper_22 rfl rfl ?_
  refine V_iconst (q := 24) (v := 1) dX6_paper_23 (by decide) rfl ?_
  refine V_bipush (q := 26) (v := 99) dX6_paper_24 (by decide) rfl ?_
  refine V_cS3I (q := 29) (N := mX6_in) tX6_in hκ.big (by decide) gX6_in kl_X6_101 kt_X6_in (Nat.le_of_ble_eq_true rfl) dX6_paper_26 rfl ?_
  refine V_if_eq (tgt := 54) (q := 32) dX6_paper_29 (by decide) rfl (fun c_29 => absurd c_29 (vB_n0.mpr hg.2.2.1)) (fun c_29 => ?_)
  refine V_iload (q := 34) dX6_paper_32 rfl rfl ?_
  refine V_iload_n (q := 35) dX6_paper_34 rfl rfl ?_
  refine V_bipush (q := 37) (v := 99) dX6_paper_35 (by decide) rfl ?_
  refine V_cS3I (q := 40) (N := mX6_in) tX6_in hκ.big (by decide) gX6_in kl_X6_101 kt_X6_in (Nat.le_of_ble_eq_true rfl) dX6_paper_37 rfl ?_
  refine V_if_eq (tgt := 54) (q := 43) dX6_paper_40 (by decide) rfl (fun c_40 => absurd c_40 (vB_n0.mpr hg.2.2.2.1)) (fun c_40 => ?_)
  refine V_iload (q := 45) dX6_paper_43 rfl rfl ?_
  refine V_iconst (q := 46) (v := 0) dX6_paper_45 (by decide) rfl ?_
  refine V_bipush (q := 48) (v := 9) dX6_paper_46 (by decide) rfl ?_
  refine V_cS3I (q := 51) (N := mX6_in) tX6_in hκ.big (by decide) gX6_in kl_X6_101 kt_X6_in (Nat.le_of_ble_eq_true rfl) dX6_paper_48 rfl ?_
  refine V_if_ne (tgt := 56) (q := 54) dX6_paper_51 (by decide) rfl (fun c_51 => ?_) (fun c_51 => absurd c_51 (vB_n0.mpr hg.2.2.2.2))
  refine V_aload_n (q := 57) dX6_paper_56 rfl rfl ?_
  refine V_getI (q := 60) (n := 403) 6 19 kf_X6_184 (by decide) (by decide) rfl rfl dX6_paper_57 rfl ?_
  refine V_bipush (q := 62) (v := 8) dX6_paper_60 (by decide) rfl ?_
  refine V_icmp_ne (tgt := 68) (q := 65) dX6_paper_62 (by decide) rfl (fun c_62 => absurd hn c_62) (fun c_62 => ?_)
  refine V_bipush (q := 67) (v := (-2)) dX6_paper_65 (by decide) rfl ?_
  exact V_iret hκ rfl rfl dX6_paper_67 vEq.rf
theorem tX6_paper2 {F : vFt} {Ar : vAt} {x : vXt} {a b c d m : Int32} {n : Nat} (hg : ppOk a b c d m) (hn : F 403 = nI n) (hn8 : n < 8) : C0 mX6_paper 1 [.ref 6, .int a, .int b, .int c, .int d, .int m] F Ar x (vEq (some (.int (nI n))) (upd F 403 (nI (n + 1))) (vS Ar 55 (mPap (Ar 55) n a b c d m))) := by
  refine C0_of (by decide +kernel) (Nat.le_of_ble_eq_true rfl) (fun κ hκ => ?_)
  show V κ mX6_paper 0 [.ref 6, .int a, .int b, .int c, .int d, .int m, .null] [] F Ar x
  refine V_iload_n (q := 1) dX6_paper_0 rfl rfl ?_
  refine V_iconst (q := 2) (v := 0) dX6_paper_1 (by decide) rfl ?_
  refine V_sipush (q := 5) (v := 999) dX6_paper_2 (by decide) rfl ?_
  refine V_cS3I (q := 8) (N := mX6_in) tX6_in hκ.big (by decide) gX6_in kl_X6_101 kt_X6_in (Nat.le_of_ble_eq_true rfl) dX6_paper_5 rfl ?_
  refine V_if_eq (tgt := 54) (q := 11) dX6_paper_8 (by decide) rfl (fun c_8 => absurd c_8 (vB_n0.mpr hg.1)) (fun c_8 => ?_)
  refine V_iload_n (q := 12) dX6_paper_11 rfl rfl ?_
  refine V_iload_n (q := 13) dX6_paper_12 rfl rfl ?_
  refine V_sipush (q := 16) (v := 999) dX6_paper_13 (by decide) rfl ?_
  refine V_cS3I (q := 19) (N := mX6_in) tX6_in hκ.big (by decide) gX6_in kl_X6_101 kt_X6_in (Nat.le_of_ble_eq_true rfl) dX6_paper_16 rfl ?_
  refine V_if_eq (tgt := 54) (q := 22) dX6_paper_19 (by decide) rfl (fun c_19 => absurd c_19 (vB_n0.mpr hg.2.1)) (fun c_19 => ?_)
  refine V_iload_n (q := 23) dX6_paper_22 rfl rfl ?_
  refine V_iconst (q := 24) (v := 1) dX6_paper_23 (by decide) rfl ?_
  refine V_bipush (q := 26) (v := 99) dX6_paper_24 (by decide) rfl ?_
  refine V_cS3I (q := 29) (N := mX6_in) tX6_in hκ.big (by decide) gX6_in kl_X6_101 kt_X6_in (Nat.le_of_ble_eq_true rfl) dX6_paper_26 rfl ?_
  refine V_if_eq (tgt := 54) (q := 32) dX6_paper_29 (by decide) rfl (fun c_29 => absurd c_29 (vB_n0.mpr hg.2.2.1)) (fun c_29 => ?_)
  refine V_iload (q := 34) dX6_paper_32 rfl rfl ?_
  refine V_iload_n (q := 35) dX6_paper_34 rfl rfl ?_
  refine V_bipush (q := 37) (v := 99) dX6_paper_35 (by decide) rfl ?_
  refine V_cS3I (q := 40) (N := mX6_in) tX6_in hκ.big (by decide) gX6_in kl_X6_101 kt_X6_in (Nat.le_of_ble_eq_true rfl) dX6_paper_37 rfl ?_
  refine V_if_eq (tgt := 54) (q := 43) dX6_paper_40 (by decide) rfl (fun c_40 => absurd c_40 (vB_n0.mpr hg.2.2.2.1)) (fun c_40 => ?_)
  refine V_iload (q := 45) dX6_paper_43 rfl rfl ?_
  refine V_iconst (q := 46) (v := 0) dX6_paper_45 (by decide) rfl ?_
  refine V_bipush (q := 48) (v := 9) dX6_paper_46 (by decide) rfl ?_
  refine V_cS3I (q := 51) (N := mX6_in) tX6_in hκ.big (by decide) gX6_in kl_X6_101 kt_X6_in (Nat.le_of_ble_eq_true rfl) dX6_paper_48 rfl ?_
  refine V_if_ne (tgt := 56) (q := 54) dX6_paper_51 (by decide) rfl (fun c_51 => ?_) (fun c_51 => absurd c_51 (vB_n0.mpr hg.2.2.2.2))
  refine V_aload_n (q := 57) dX6_paper_56 rfl rfl ?_
  refine V_getI (q := 60) (n := 403) 6 19 kf_X6_184 (by decide) (by decide) rfl rfl dX6_paper_57 rfl ?_
  refine V_bipush (q := 62) (v := 8) dX6_paper_60 (by decide) rfl ?_
  refine V_icmp_ne (tgt := 68) (q := 65) dX6_paper_62 (by decide) rfl (fun c_62 => ?_) (fun c_62 => absurd c_62 (by rw [hn]; exact fun q => ne8 hn8 q))
  refine V_iconst (q := 69) (v := 5) dX6_paper_68 (by decide) rfl ?_
  refine V_aload_n (q := 70) dX6_paper_69 rfl rfl ?_
  refine V_getI (q := 73) (n := 403) 6 19 kf_X6_184 (by decide) (by decide) rfl rfl dX6_paper_70 rfl ?_
  refine V_imul (q := 74) dX6_paper_73 rfl ?_
  refine V_top (nI (5 * n)) (by rw [hn]; exact pk_mul 5 n) ?_
  refine V_istore (q := 76) dX6_paper_74 (Nat.le_of_ble_eq_true rfl) rfl rfl ?_
  refine V_aload_n (q := 77) dX6_paper_76 rfl rfl ?_
  refine V_getR (q := 80) (n := 55) 6 20 kf_X6_56 (by decide) (by decide) rfl (by decide) dX6_paper_77 rfl ?_
  refine V_iload (q := 82) dX6_paper_80 rfl rfl ?_
  refine V_iload_n (q := 83) dX6_paper_82 rfl rfl ?_
  refine V_ist (q := 84) (5 * n) 40 rfl (by omega) (by decide) (by omega) (by decide) rfl (by decide) dX6_paper_83 rfl ?_
  refine V_aload_n (q := 85) dX6_paper_84 rfl rfl ?_
  refine V_getR (q := 88) (n := 55) 6 20 kf_X6_56 (by decide) (by decide) rfl (by decide) dX6_paper_85 rfl ?_
  refine V_iload (q := 90) dX6_paper_88 rfl rfl ?_
  refine V_iconst (q := 91) (v := 1) dX6_paper_90 (by decide) rfl ?_
  refine V_iadd (q := 92) dX6_paper_91 rfl ?_
  refine V_iload_n (q := 93) dX6_paper_92 rfl rfl ?_
  refine V_ist (q := 94) (5 * n + 1) 40 (v_a5 n 1) (by omega) (by decide) (by omega) (by decide) rfl (by decide) dX6_paper_93 rfl ?_
  refine V_aload_n (q := 95) dX6_paper_94 rfl rfl ?_
  refine V_getR (q := 98) (n := 55) 6 20 kf_X6_56 (by decide) (by decide) rfl (by decide) dX6_paper_95 rfl ?_
  refine V_iload (q := 100) dX6_paper_98 rfl rfl ?_
  refine V_iconst (q := 101) (v := 2) dX6_paper_100 (by decide) rfl ?_
  refine V_iadd (q := 102) dX6_paper_101 rfl ?_
  refine V_iload_n (q := 103) dX6_paper_102 rfl rfl ?_
  refine V_ist (q := 104) (5 * n + 2) 40 (v_a5 n 2) (by omega) (by decide) (by omega) (by decide) rfl (by decide) dX6_paper_103 rfl ?_
  refine V_aload_n (q := 105) dX6_paper_104 rfl rfl ?_
  refine V_getR (q := 108) (n := 55) 6 20 kf_X6_56 (by decide) (by decide) rfl (by decide) dX6_paper_105 rfl ?_
  refine V_iload (q := 110) dX6_paper_108 rfl rfl ?_
  refine V_iconst (q := 111) (v := 3) dX6_paper_110 (by decide) rfl ?_
  refine V_iadd (q := 112) dX6_paper_111 rfl ?_
  refine V_iload (q := 114) dX6_paper_112 rfl rfl ?_
  refine V_ist (q := 115) (5 * n + 3) 40 (v_a5 n 3) (by omega) (by decide) (by omega) (by decide) rfl (by decide) dX6_paper_114 rfl ?_
  refine V_aload_n (q := 116) dX6_paper_115 rfl rfl ?_
  refine V_getR (q := 119) (n := 55) 6 20 kf_X6_56 (by decide) (by decide) rfl (by decide) dX6_paper_116 rfl ?_
  refine V_iload (q := 121) dX6_paper_119 rfl rfl ?_
  refine V_iconst (q := 122) (v := 4) dX6_paper_121 (by decide) rfl ?_
  refine V_iadd (q := 123) dX6_paper_122 rfl ?_
  refine V_iload (q := 125) dX6_paper_123 rfl rfl ?_
  refine V_ist (q := 126) (5 * n + 4) 40 (v_a5 n 4) (by omega) (by decide) (by omega) (by decide) rfl (by decide) dX6_paper_125 rfl ?_
  refine V_aload_n (q := 127) dX6_paper_126 rfl rfl ?_
  refine V_dup (q := 128) dX6_paper_127 rfl rfl ?_
  refine V_getI (q := 131) (n := 403) 6 19 kf_X6_184 (by decide) (by decide) rfl rfl dX6_paper_128 rfl ?_
  refine V_iconst (q := 132) (v := 1) dX6_paper_131 (by decide) rfl ?_
  refine V_iadd (q := 133) dX6_paper_132 rfl ?_
  refine V_putI (q := 136) (n := 403) 6 19 kf_X6_184 (by decide) (by decide) rfl rfl dX6_paper_133 rfl ?_
  refine V_aload_n (q := 137) dX6_paper_136 rfl rfl ?_
  refine V_getI (q := 140) (n := 403) 6 19 kf_X6_184 (by decide) (by decide) rfl rfl dX6_paper_137 rfl ?_
  refine V_iconst (q := 141) (v := 1) dX6_paper_140 (by decide) rfl ?_
  refine V_isub (q := 142) dX6_paper_141 rfl ?_
  exact V_iret hκ rfl rfl dX6_paper_142 ⟨by show some (Value.int (F 403 + 1 - 1)) = _; rw [hn, nI_1, nI_pred], by rw [hn, nI_1], by simp only [vS_vS, vS_at]; rfl⟩
def wFd (Ar : vAt) (a b : Int32) : Nat → Nat → Option Nat
  | 0, _ => none
  | m + 1, i => if (Ar 56 i = a ∧ Ar 57 i = b) ∨ (Ar 56 i = b ∧ Ar 57 i = a) then some i else wFd Ar a b m (i + 1)
theorem wFd_lt {Ar : vAt} {a b : Int32} : ∀ m i j, wFd Ar a b m i = some j → j < i + m := by
  intro m
  induction m with
  | zero => intro i j h; cases h
  | succ m ih =>
    intro i j h
    unfold wFd at h
    split at h
    · cases h; omega
    · have := ih _ _ h
      omega
theorem lp_X6_wit {F : vFt} {Ar : vAt} {x : vXt} {n : Nat} {a b : Int32} {R : Option Nat} {κ : vK} (hκ : vStd κ 0 x (vEq (some (.int (oI R))) F Ar)) (hn : F 405 = nI n) (hn6 : n ≤ 6) : ∀ m i, i + m = n → R = wFd Ar a b m i → V κ mX6_witnessOf 2 [.ref 6, .int a, .int b, .int (nI i)] [] F Ar x := by
  intro m
  induction m with
  | zero =>
    intro i hi hR
    obtain rfl : i = n := by omega
    refine V_iload_n (q := 3) dX6_witnessOf_2 rfl rfl ?_
    refine V_aload_n (q := 4) dX6_witnessOf_3 rfl rfl ?_
    refine V_getI (q := 7) (n := 405) 6 21 kf_X6_187 (by decide) (by decide) rfl rfl dX6_witnessOf_4 rfl ?_
    rw [hn]
    refine V_icmp_ge (tgt := 58) (q := 10) dX6_witnessOf_7 (by decide) rfl (fun c_7 => ?_) (fun c_7 => absurd c_7 (v_gt (by omega) (by omega) (Nat.le_refl _)))
    refine V_bipush (q := 60) (v := (-4)) dX6_witnessOf_58 (by decide) rfl ?_
    exact V_iret hκ rfl rfl dX6_witnessOf_60 ⟨by rw [hR]; rfl, rfl, rfl⟩
  | succ m ih =>
    intro i hi hR
    refine V_iload_n (q := 3) dX6_witnessOf_2 rfl rfl ?_
    refine V_aload_n (q := 4) dX6_witnessOf_3 rfl rfl ?_
    refine V_getI (q := 7) (n := 405) 6 21 kf_X6_187 (by decide) (by decide) rfl rfl dX6_witnessOf_4 rfl ?_
    rw [hn]
    refine V_icmp_ge (tgt := 58) (q := 10) dX6_witnessOf_7 (by decide) rfl (fun c_7 => absurd c_7 (v_gf (by omega) (by omega) (by omega))) (fun c_7 => ?_)
    refine V_aload_n (q := 11) dX6_witnessOf_10 rfl rfl ?_
    refine V_getR (q := 14) (n := 56) 6 22 kf_X6_59 (by decide) (by decide) rfl (by decide) dX6_witnessOf_11 rfl ?_
    refine V_iload_n (q := 15) dX6_witnessOf_14 rfl rfl ?_
    refine V_ild (q := 16) (i) 6 rfl (by omega) (by decide) (by omega) (by decide) rfl (by decide) dX6_witnessOf_15 rfl ?_
    refine V_iload_n (q := 17) dX6_witnessOf_16 rfl rfl ?_
    refine V_icmp_ne (tgt := 30) (q := 20) dX6_witnessOf_17 (by decide) rfl (fun c_17 => ?_) (fun c_17 => ?_)
    · refine V_aload_n (q := 31) dX6_witnessOf_30 rfl rfl ?_
      refine V_getR (q := 34) (n := 56) 6 22 kf_X6_59 (by decide) (by decide) rfl (by decide) dX6_witnessOf_31 rfl ?_
      refine V_iload_n (q := 35) dX6_witnessOf_34 rfl rfl ?_
      refine V_ild (q := 36) (i) 6 rfl (by omega) (by decide) (by omega) (by decide) rfl (by decide) dX6_witnessOf_35 rfl ?_
      refine V_iload_n (q := 37) dX6_witnessOf_36 rfl rfl ?_
      refine V_icmp_ne (tgt := 52) (q := 40) dX6_witnessOf_37 (by decide) rfl (fun c_37 => ?_) (fun c_37 => ?_)
      · refine V_iincN (q := 55) dX6_witnessOf_52 rfl (Nat.le_of_ble_eq_true rfl) rfl rfl ?_
        refine V_goto (q := 2) dX6_witnessOf_55 (by decide) ?_
        exact ih (i + 1) (by omega) (by rw [hR, wFd, if_neg (fun q => q.elim (fun q => c_17 q.1) (fun q => c_37 q.1))])
      · refine V_aload_n (q := 41) dX6_witnessOf_40 rfl rfl ?_
        refine V_getR (q := 44) (n := 57) 6 23 kf_X6_62 (by decide) (by decide) rfl (by decide) dX6_witnessOf_41 rfl ?_
        refine V_iload_n (q := 45) dX6_witnessOf_44 rfl rfl ?_
        refine V_ild (q := 46) (i) 6 rfl (by omega) (by decide) (by omega) (by decide) rfl (by decide) dX6_witnessOf_45 rfl ?_
        refine V_iload_n (q := 47) dX6_witnessOf_46 rfl rfl ?_
        refine V_icmp_ne (tgt := 52) (q := 50) dX6_witnessOf_47 (by decide) rfl (fun c_47 => ?_) (fun c_47 => ?_)
        · refine V_iincN (q := 55) dX6_witnessOf_52 rfl (Nat.le_of_ble_eq_true rfl) rfl rfl ?_
          refine V_goto (q := 2) dX6_witnessOf_55 (by decide) ?_
          exact ih (i + 1) (by omega) (by rw [hR, wFd, if_neg (fun q => q.elim (fun q => c_17 q.1) (fun q => c_47 q.2))])
        · refine V_iload_n (q := 51) dX6_witnessOf_50 rfl rfl ?_
          exact V_iret hκ rfl rfl dX6_witnessOf_51 ⟨by rw [hR, wFd, if_pos (Or.inr ⟨c_37, c_47⟩)]; rfl, rfl, rfl⟩
    · refine V_aload_n (q := 21) dX6_witnessOf_20 rfl rfl ?_
      refine V_getR (q := 24) (n := 57) 6 23 kf_X6_62 (by decide) (by decide) rfl (by decide) dX6_witnessOf_21 rfl ?_
      refine V_iload_n (q := 25) dX6_witnessOf_24 rfl rfl ?_
      refine V_ild (q := 26) (i) 6 rfl (by omega) (by decide) (by omega) (by decide) rfl (by decide) dX6_witnessOf_25 rfl ?_
      refine V_iload_n (q := 27) dX6_witnessOf_26 rfl rfl ?_
      refine V_icmp_eq (tgt := 50) (q := 30) dX6_witnessOf_27 (by decide) rfl (fun c_27 => ?_) (fun c_27 => ?_)
      · refine V_iload_n (q := 51) dX6_witnessOf_50 rfl rfl ?_
        exact V_iret hκ rfl rfl dX6_witnessOf_51 ⟨by rw [hR, wFd, if_pos (Or.inl ⟨c_17, c_27⟩)]; rfl, rfl, rfl⟩
      · refine V_aload_n (q := 31) dX6_witnessOf_30 rfl rfl ?_
        refine V_getR (q := 34) (n := 56) 6 22 kf_X6_59 (by decide) (by decide) rfl (by decide) dX6_witnessOf_31 rfl ?_
        refine V_iload_n (q := 35) dX6_witnessOf_34 rfl rfl ?_
        refine V_ild (q := 36) (i) 6 rfl (by omega) (by decide) (by omega) (by decide) rfl (by decide) dX6_witnessOf_35 rfl ?_
        refine V_iload_n (q := 37) dX6_witnessOf_36 rfl rfl ?_
        refine V_icmp_ne (tgt := 52) (q := 40) dX6_witnessOf_37 (by decide) rfl (fun c_37 => ?_) (fun c_37 => ?_)
        · refine V_iincN (q := 55) dX6_witnessOf_52 rfl (Nat.le_of_ble_eq_true rfl) rfl rfl ?_
          refine V_goto (q := 2) dX6_witnessOf_55 (by decide) ?_
          exact ih (i + 1) (by omega) (by rw [hR, wFd, if_neg (fun q => q.elim (fun q => c_27 q.2) (fun q => c_37 q.1))])
        · refine V_aload_n (q := 41) dX6_witnessOf_40 rfl rfl ?_
          refine V_getR (q := 44) (n := 57) 6 23 kf_X6_62 (by decide) (by decide) rfl (by decide) dX6_witnessOf_41 rfl ?_
          refine V_iload_n (q := 45) dX6_witnessOf_44 rfl rfl ?_
          refine V_ild (q := 46) (i) 6 rfl (by omega) (by decide) (by omega) (by decide) rfl (by decide) dX6_witnessOf_45 rfl ?_
          refine V_iload_n (q := 47) dX6_witnessOf_46 rfl rfl ?_
          refine V_icmp_ne (tgt := 52) (q := 50) dX6_witnessOf_47 (by decide) rfl (fun c_47 => ?_) (fun c_47 => ?_)
          · refine V_iincN (q := 55) dX6_witnessOf_52 rfl (Nat.le_of_ble_eq_true rfl) rfl rfl ?_
            refine V_goto (q := 2) dX6_witnessOf_55 (by decide) ?_
            exact ih (i + 1) (by omega) (by rw [hR, wFd, if_neg (fun q => q.elim (fun q => c_27 q.2) (fun q => c_47 q.2))])
          · refine V_iload_n (q := 51) dX6_witnessOf_50 rfl rfl ?_
            exact V_iret hκ rfl rfl dX6_witnessOf_51 ⟨by rw [hR, wFd, if_pos (Or.inr ⟨c_37, c_47⟩)]; rfl, rfl, rfl⟩
theorem tX6_witnessOf {F : vFt} {Ar : vAt} {x : vXt} {n : Nat} {a b : Int32} (hn : F 405 = nI n) (hn6 : n ≤ 6) : C0 mX6_witnessOf 0 [.ref 6, .int a, .int b] F Ar x (vEq (some (.int (oI (wFd Ar a b n 0)))) F Ar) := by
  refine C0_of (by decide +kernel) (Nat.le_of_ble_eq_true rfl) (fun κ hκ => ?_)
  show V κ mX6_witnessOf 0 [.ref 6, .int a, .int b, .null] [] F Ar x
  refine V_iconst (q := 1) (v := 0) dX6_witnessOf_0 (by decide) rfl ?_
  refine V_istore_n (q := 2) dX6_witnessOf_1 (Nat.le_of_ble_eq_true rfl) rfl rfl ?_
  exact lp_X6_wit hκ hn hn6 n 0 (by omega) rfl
theorem tX6_witness0 {F : vFt} {Ar : vAt} {x : vXt} {a b : Int32} {yes : Bool} (hb : ¬ ((0 ≤ a ∧ a ≤ F 403 - 1) ∧ (0 ≤ b ∧ b ≤ F 403 - 1) ∧ ¬ a = b)) : C0 mX6_witness 2 [.ref 6, .int a, .int b, .int (if yes then 1 else 0)] F Ar x (vEq (some (.int (-1))) F Ar) := by
  refine C0_of (by decide +kernel) (Nat.le_of_ble_eq_true rfl) (fun κ hκ => ?_)
  show V κ mX6_witness 0 [.ref 6, .int a, .int b, .int (if yes then 1 else 0)] [] F Ar x
  refine V_aload_n (q := 1) dX6_witness_0 rfl rfl ?_
  refine V_iload_n (q := 2) dX6_witness_1 rfl rfl ?_
  refine V_cV1I (q := 5) (o := 6) (N := mX6_isPaper) tX6_isPaper hκ.big (by decide) gX6_isPaper kl_X6_190 ki_X6_isPaper ks_X6_isPaper (by decide) rfl (Nat.le_of_ble_eq_true rfl) dX6_witness_2 rfl ?_
  refine V_if_eq (tgt := 21) (q := 8) dX6_witness_5 (by decide) rfl (fun c_5 => ?_) (fun c_5 => ?_)
  · refine V_iconst (q := 22) (v := (-1)) dX6_witness_21 (by decide) rfl ?_
    exact V_iret hκ rfl rfl dX6_witness_22 vEq.rf
  · refine V_aload_n (q := 9) dX6_witness_8 rfl rfl ?_
    refine V_iload_n (q := 10) dX6_witness_9 rfl rfl ?_
    refine V_cV1I (q := 13) (o := 6) (N := mX6_isPaper) tX6_isPaper hκ.big (by decide) gX6_isPaper kl_X6_190 ki_X6_isPaper ks_X6_isPaper (by decide) rfl (Nat.le_of_ble_eq_true rfl) dX6_witness_10 rfl ?_
    refine V_if_eq (tgt := 21) (q := 16) dX6_witness_13 (by decide) rfl (fun c_13 => ?_) (fun c_13 => ?_)
    · refine V_iconst (q := 22) (v := (-1)) dX6_witness_21 (by decide) rfl ?_
      exact V_iret hκ rfl rfl dX6_witness_22 vEq.rf
    · refine V_iload_n (q := 17) dX6_witness_16 rfl rfl ?_
      refine V_iload_n (q := 18) dX6_witness_17 rfl rfl ?_
      refine V_icmp_ne (tgt := 23) (q := 21) dX6_witness_18 (by decide) rfl (fun c_18 => absurd ⟨vB_n0.mp c_5, vB_n0.mp c_13, c_18⟩ hb) (fun c_18 => ?_)
      refine V_iconst (q := 22) (v := (-1)) dX6_witness_21 (by decide) rfl ?_
      exact V_iret hκ rfl rfl dX6_witness_22 vEq.rf
theorem tX6_witness1 {F : vFt} {Ar : vAt} {x : vXt} {a b : Int32} {yes : Bool} {w j : Nat} (hg : (0 ≤ a ∧ a ≤ F 403 - 1) ∧ (0 ≤ b ∧ b ≤ F 403 - 1) ∧ ¬ a = b) (hw : F 405 = nI w) (hw6 : w ≤ 6) (hf : wFd Ar a b w 0 = some j) : C0 mX6_witness 2 [.ref 6, .int a, .int b, .int (if yes then 1 else 0)] F Ar x (vEq (some (.int (-3))) F Ar) := by
  refine C0_of (by decide +kernel) (Nat.le_of_ble_eq_true rfl) (fun κ hκ => ?_)
  show V κ mX6_witness 0 [.ref 6, .int a, .int b, .int (if yes then 1 else 0)] [] F Ar x
  refine V_aload_n (q := 1) dX6_witness_0 rfl rfl ?_
  refine V_iload_n (q := 2) dX6_witness_1 rfl rfl ?_
  refine V_cV1I (q := 5) (o := 6) (N := mX6_isPaper) tX6_isPaper hκ.big (by decide) gX6_isPaper kl_X6_190 ki_X6_isPaper ks_X6_isPaper (by decide) rfl (Nat.le_of_ble_eq_true rfl) dX6_witness_2 rfl ?_
  refine V_if_eq (tgt := 21) (q := 8) dX6_witness_5 (by decide) rfl (fun c_5 => absurd c_5 (vB_n0.mpr hg.1)) (fun c_5 => ?_)
  refine V_aload_n (q := 9) dX6_witness_8 rfl rfl ?_
  refine V_iload_n (q := 10) dX6_witness_9 rfl rfl ?_
  refine V_cV1I (q := 13) (o := 6) (N := mX6_isPaper) tX6_isPaper hκ.big (by decide) gX6_isPaper kl_X6_190 ki_X6_isPaper ks_X6_isPaper (by decide) rfl (Nat.le_of_ble_eq_true rfl) dX6_witness_10 rfl ?_
  refine V_if_eq (tgt := 21) (q := 16) dX6_witness_13 (by decide) rfl (fun c_13 => absurd c_13 (vB_n0.mpr hg.2.1)) (fun c_13 => ?_)
  refine V_iload_n (q := 17) dX6_witness_16 rfl rfl ?_
  refine V_iload_n (q := 18) dX6_witness_17 rfl rfl ?_
  refine V_icmp_ne (tgt := 23) (q := 21) dX6_witness_18 (by decide) rfl (fun c_18 => ?_) (fun c_18 => absurd c_18 hg.2.2)
  refine V_aload_n (q := 24) dX6_witness_23 rfl rfl ?_
  refine V_iload_n (q := 25) dX6_witness_24 rfl rfl ?_
  refine V_iload_n (q := 26) dX6_witness_25 rfl rfl ?_
  refine V_cV2I (q := 29) (o := 6) (N := mX6_witnessOf) (tX6_witnessOf hw hw6) hκ.big (by decide) gX6_witnessOf kl_X6_193 ki_X6_witnessOf ks_X6_witnessOf (by decide) rfl (Nat.le_of_ble_eq_true rfl) dX6_witness_26 rfl ?_
  rw [hf]
  have hj := wFd_lt _ _ _ hf
  refine V_if_lt (tgt := 35) (q := 32) dX6_witness_29 (by decide) rfl (fun c_29 => absurd c_29 (nI_pos (by omega))) (fun c_29 => ?_)
  refine V_bipush (q := 34) (v := (-3)) dX6_witness_32 (by decide) rfl ?_
  exact V_iret hκ rfl rfl dX6_witness_34 vEq.rf
theorem tX6_witness2 {F : vFt} {Ar : vAt} {x : vXt} {a b : Int32} {yes : Bool} (hg : (0 ≤ a ∧ a ≤ F 403 - 1) ∧ (0 ≤ b ∧ b ≤ F 403 - 1) ∧ ¬ a = b) (hw : F 405 = nI 6) (hf : wFd Ar a b 6 0 = none) : C0 mX6_witness 2 [.ref 6, .int a, .int b, .int (if yes then 1 else 0)] F Ar x (vEq (some (.int (-2))) F Ar) := by
  refine C0_of (by decide +kernel) (Nat.le_of_ble_eq_true rfl) (fun κ hκ => ?_)
  show V κ mX6_witness 0 [.ref 6, .int a, .int b, .int (if yes then 1 else 0)] [] F Ar x
  refine V_aload_n (q := 1) dX6_witness_0 rfl rfl ?_
  refine V_iload_n (q := 2) dX6_witness_1 rfl rfl ?_
  refine V_cV1I (q := 5) (o := 6) (N := mX6_isPaper) tX6_isPaper hκ.big (by decide) gX6_isPaper kl_X6_190 ki_X6_isPaper ks_X6_isPaper (by decide) rfl (Nat.le_of_ble_eq_true rfl) dX6_witness_2 rfl ?_
  refine V_if_eq (tgt := 21) (q := 8) dX6_witness_5 (by decide) rfl (fun c_5 => absurd c_5 (vB_n0.mpr hg.1)) (fun c_5 => ?_)
  refine V_aload_n (q := 9) dX6_witness_8 rfl rfl ?_
  refine V_iload_n (q := 10) dX6_witness_9 rfl rfl ?_
  refine V_cV1I (q := 13) (o := 6) (N := mX6_isPaper) tX6_isPaper hκ.big (by decide) gX6_isPaper kl_X6_190 ki_X6_isPaper ks_X6_isPaper (by decide) rfl (Nat.le_of_ble_eq_true rfl) dX6_witness_10 rfl ?_
  refine V_if_eq (tgt := 21) (q := 16) dX6_witness_13 (by decide) rfl (fun c_13 => absurd c_13 (vB_n0.mpr hg.2.1)) (fun c_13 => ?_)
  refine V_iload_n (q := 17) dX6_witness_16 rfl rfl ?_
  refine V_iload_n (q := 18) dX6_witness_17 rfl rfl ?_
  refine V_icmp_ne (tgt := 23) (q := 21) dX6_witness_18 (by decide) rfl (fun c_18 => ?_) (fun c_18 => absurd c_18 hg.2.2)
  refine V_aload_n (q := 24) dX6_witness_23 rfl rfl ?_
  refine V_iload_n (q := 25) dX6_witness_24 rfl rfl ?_
  refine V_iload_n (q := 26) dX6_witness_25 rfl rfl ?_
  refine V_cV2I (q := 29) (o := 6) (N := mX6_witnessOf) (tX6_witnessOf hw (Nat.le_refl 6)) hκ.big (by decide) gX6_witnessOf kl_X6_193 ki_X6_witnessOf ks_X6_witnessOf (by decide) rfl (Nat.le_of_ble_eq_true rfl) dX6_witness_26 rfl ?_
  rw [hf]
  refine V_if_lt (tgt := 35) (q := 32) dX6_witness_29 (by decide) rfl (fun c_29 => ?_) (fun c_29 => absurd (by decide : (-4 : Int32) < 0) c_29)
  refine V_aload_n (q := 36) dX6_witness_35 rfl rfl ?_
  refine V_getI (q := 39) (n := 405) 6 21 kf_X6_187 (by decide) (by decide) rfl rfl dX6_witness_36 rfl ?_
  refine V_bipush (q := 41) (v := 6) dX6_witness_39 (by decide) rfl ?_
  refine V_icmp_ne (tgt := 47) (q := 44) dX6_witness_41 (by decide) rfl (fun c_41 => absurd hw c_41) (fun c_41 => ?_)
  refine V_bipush (q := 46) (v := (-2)) dX6_witness_44 (by decide) rfl ?_
  exact V_iret hκ rfl rfl dX6_witness_46 vEq.rf
theorem tX6_witness3 {F : vFt} {Ar : vAt} {x : vXt} {a b : Int32} {yes : Bool} {w : Nat} (hg : (0 ≤ a ∧ a ≤ F 403 - 1) ∧ (0 ≤ b ∧ b ≤ F 403 - 1) ∧ ¬ a = b) (hw : F 405 = nI w) (hw6 : w < 6) (hf : wFd Ar a b w 0 = none) : C0 mX6_witness 2 [.ref 6, .int a, .int b, .int (if yes then 1 else 0)] F Ar x (vEq (some (.int (nI (w + 1)))) (upd F 405 (nI (w + 1))) (vS (vS (vS Ar 56 (upd (Ar 56) w a)) 57 (upd (Ar 57) w b)) 58 (upd (Ar 58) w (if yes then 1 else 0)))) := by
  refine C0_of (by decide +kernel) (Nat.le_of_ble_eq_true rfl) (fun κ hκ => ?_)
  show V κ mX6_witness 0 [.ref 6, .int a, .int b, .int (if yes then 1 else 0)] [] F Ar x
  refine V_aload_n (q := 1) dX6_witness_0 rfl rfl ?_
  refine V_iload_n (q := 2) dX6_witness_1 rfl rfl ?_
  refine V_cV1I (q := 5) (o := 6) (N := mX6_isPaper) tX6_isPaper hκ.big (by decide) gX6_isPaper kl_X6_190 ki_X6_isPaper ks_X6_isPaper (by decide) rfl (Nat.le_of_ble_eq_true rfl) dX6_witness_2 rfl ?_
  refine V_if_eq (tgt := 21) (q := 8) dX6_witness_5 (by decide) rfl (fun c_5 => absurd c_5 (vB_n0.mpr hg.1)) (fun c_5 => ?_)
  refine V_aload_n (q := 9) dX6_witness_8 rfl rfl ?_
  refine V_iload_n (q := 10) dX6_witness_9 rfl rfl ?_
  refine V_cV1I (q := 13) (o := 6) (N := mX6_isPaper) tX6_isPaper hκ.big (by decide) gX6_isPaper kl_X6_190 ki_X6_isPaper ks_X6_isPaper (by decide) rfl (Nat.le_of_ble_eq_true rfl) dX6_witness_10 rfl ?_
  refine V_if_eq (tgt := 21) (q := 16) dX6_witness_13 (by decide) rfl (fun c_13 => absurd c_13 (vB_n0.mpr hg.2.1)) (fun c_13 => ?_)
  refine V_iload_n (q := 17) dX6_witness_16 rfl rfl ?_
  refine V_iload_n (q := 18) dX6_witness_17 rfl rfl ?_
  refine V_icmp_ne (tgt := 23) (q := 21) dX6_witness_18 (by decide) rfl (fun c_18 => ?_) (fun c_18 => absurd c_18 hg.2.2)
  refine V_aload_n (q := 24) dX6_witness_23 rfl rfl ?_
  refine V_iload_n (q := 25) dX6_witness_24 rfl rfl ?_
  refine V_iload_n (q := 26) dX6_witness_25 rfl rfl ?_
  refine V_cV2I (q := 29) (o := 6) (N := mX6_witnessOf) (tX6_witnessOf hw (by omega)) hκ.big (by decide) gX6_witnessOf kl_X6_193 ki_X6_witnessOf ks_X6_witnessOf (by decide) rfl (Nat.le_of_ble_eq_true rfl) dX6_witness_26 rfl ?_
  rw [hf]
  refine V_if_lt (tgt := 35) (q := 32) dX6_witness_29 (by decide) rfl (fun c_29 => ?_) (fun c_29 => absurd (by decide : (-4 : Int32) < 0) c_29)
  refine V_aload_n (q := 36) dX6_witness_35 rfl rfl ?_
  refine V_getI (q := 39) (n := 405) 6 21 kf_X6_187 (by decide) (by decide) rfl rfl dX6_witness_36 rfl ?_
  refine V_bipush (q := 41) (v := 6) dX6_witness_39 (by decide) rfl ?_
  refine V_icmp_ne (tgt := 47) (q := 44) dX6_witness_41 (by decide) rfl (fun c_41 => ?_) (fun c_41 => absurd c_41 (by rw [hw]; exact fun q => ne6 hw6 q))
  refine V_aload_n (q := 48) dX6_witness_47 rfl rfl ?_
  refine V_getR (q := 51) (n := 56) 6 22 kf_X6_59 (by decide) (by decide) rfl (by decide) dX6_witness_48 rfl ?_
  refine V_aload_n (q := 52) dX6_witness_51 rfl rfl ?_
  refine V_getI (q := 55) (n := 405) 6 21 kf_X6_187 (by decide) (by decide) rfl rfl dX6_witness_52 rfl ?_
  refine V_iload_n (q := 56) dX6_witness_55 rfl rfl ?_
  refine V_ist (q := 57) (w) 6 hw (by omega) (by decide) (by omega) (by decide) rfl (by decide) dX6_witness_56 rfl ?_
  refine V_aload_n (q := 58) dX6_witness_57 rfl rfl ?_
  refine V_getR (q := 61) (n := 57) 6 23 kf_X6_62 (by decide) (by decide) rfl (by decide) dX6_witness_58 rfl ?_
  refine V_aload_n (q := 62) dX6_witness_61 rfl rfl ?_
  refine V_getI (q := 65) (n := 405) 6 21 kf_X6_187 (by decide) (by decide) rfl rfl dX6_witness_62 rfl ?_
  refine V_iload_n (q := 66) dX6_witness_65 rfl rfl ?_
  refine V_ist (q := 67) (w) 6 hw (by omega) (by decide) (by omega) (by decide) rfl (by decide) dX6_witness_66 rfl ?_
  refine V_aload_n (q := 68) dX6_witness_67 rfl rfl ?_
  refine V_getR (q := 71) (n := 58) 6 24 kf_X6_65 (by decide) (by decide) rfl (by decide) dX6_witness_68 rfl ?_
  refine V_aload_n (q := 72) dX6_witness_71 rfl rfl ?_
  refine V_getI (q := 75) (n := 405) 6 21 kf_X6_187 (by decide) (by decide) rfl rfl dX6_witness_72 rfl ?_
  refine V_iload_n (q := 76) dX6_witness_75 rfl rfl ?_
  refine V_zst (q := 77) (w) 6 hw (by omega) (by decide) (by omega) (by decide) rfl (by decide) dX6_witness_76 rfl ?_
  refine V_aload_n (q := 78) dX6_witness_77 rfl rfl ?_
  refine V_dup (q := 79) dX6_witness_78 rfl rfl ?_
  refine V_getI (q := 82) (n := 405) 6 21 kf_X6_187 (by decide) (by decide) rfl rfl dX6_witness_79 rfl ?_
  refine V_iconst (q := 83) (v := 1) dX6_witness_82 (by decide) rfl ?_
  refine V_iadd (q := 84) dX6_witness_83 rfl ?_
  refine V_putI (q := 87) (n := 405) 6 21 kf_X6_187 (by decide) (by decide) rfl rfl dX6_witness_84 rfl ?_
  refine V_aload_n (q := 88) dX6_witness_87 rfl rfl ?_
  refine V_getI (q := 91) (n := 405) 6 21 kf_X6_187 (by decide) (by decide) rfl rfl dX6_witness_88 rfl ?_
  exact V_iret hκ rfl rfl dX6_witness_91 ⟨by show some (Value.int (F 405 + 1)) = _; rw [hw, nI_1], by rw [hw, nI_1], by rw [show vp_nar .boolean (if yes then 1 else 0) = (if yes then 1 else 0) from by cases yes <;> rfl]; rfl⟩
abbrev mAl0 (f : Nat → Int32) (a b : Nat) : Prop := ¬ sDays (f (5 * a)) (f (5 * a + 1)) (f (5 * b)) (f (5 * b + 1)) ∧ sDays (f (5 * a + 2)) (f (5 * a + 3)) (f (5 * b + 2)) (f (5 * b + 3)) ∧ sMark (f (5 * a + 4)) (f (5 * b + 4))
/-- whether two papers may be of one hull -/
def mL (Ar : vAt) (w a b : Nat) : Bool := match wFd Ar (nI a) (nI b) w 0 with
  | some j => decide (¬ Ar 58 j = 0)
  | none => decide (mAl0 (Ar 55) a b)
def mYes (Ar : vAt) (w : Nat) : Prop := ∀ j, j < w → Ar 58 j = 0 ∨ Ar 58 j = 1
theorem mL_none {Ar : vAt} {a b w : Nat} (hf : wFd Ar (nI a) (nI b) w 0 = none) : mL Ar w a b = true ↔ mAl0 (Ar 55) a b := by
  unfold mL
  rw [hf]
  exact decide_eq_true_iff
theorem st_al4 {F : vFt} {Ar : vAt} {x : vXt} {a b w : Nat} {κ : vK} (hκ : vStd κ 1 x (vEq (some (.int (vB (mL Ar w a b = true)))) F Ar)) (ha : a < 8) (hb : b < 8) (hf : wFd Ar (nI a) (nI b) w 0 = none) : V κ mX6_areAlike 174 [.ref 6, .int (nI a), .int (nI b), .int (-4), .int (nI (5 * a)), .int (nI (5 * b)), .int (vB (sDays (Ar 55 (5 * a)) (Ar 55 (5 * a + 1)) (Ar 55 (5 * b)) (Ar 55 (5 * b + 1)))), .int (vB (sDays (Ar 55 (5 * a + 2)) (Ar 55 (5 * a + 3)) (Ar 55 (5 * b + 2)) (Ar 55 (5 * b + 3)))), .int (vB (sMark (Ar 55 (5 * a + 4)) (Ar 55 (5 * b + 4))))] [] F Ar x := by
  refine V_iload (q := 176) dX6_areAlike_174 rfl rfl ?_
  refine V_if_ne (tgt := 193) (q := 179) dX6_areAlike_176 (by decide) rfl (fun c_176 => ?_) (fun c_176 => ?_)
  · refine V_iconst (q := 194) (v := 0) dX6_areAlike_193 (by decide) rfl ?_
    exact V_iret hκ rfl (by first | rfl | exact vB_nar) dX6_areAlike_194 ⟨by rw [vB_f (fun h => ((mL_none hf).mp h).1 (vB_n0.mp c_176))], rfl, rfl⟩
  · refine V_iload (q := 181) dX6_areAlike_179 rfl rfl ?_
    refine V_if_eq (tgt := 193) (q := 184) dX6_areAlike_181 (by decide) rfl (fun c_181 => ?_) (fun c_181 => ?_)
    · refine V_iconst (q := 194) (v := 0) dX6_areAlike_193 (by decide) rfl ?_
      exact V_iret hκ rfl (by first | rfl | exact vB_nar) dX6_areAlike_194 ⟨by rw [vB_f (fun h => vB_0.mp c_181 ((mL_none hf).mp h).2.1)], rfl, rfl⟩
    · refine V_iload (q := 186) dX6_areAlike_184 rfl rfl ?_
      refine V_if_eq (tgt := 193) (q := 189) dX6_areAlike_186 (by decide) rfl (fun c_186 => ?_) (fun c_186 => ?_)
      · refine V_iconst (q := 194) (v := 0) dX6_areAlike_193 (by decide) rfl ?_
        exact V_iret hκ rfl (by first | rfl | exact vB_nar) dX6_areAlike_194 ⟨by rw [vB_f (fun h => vB_0.mp c_186 ((mL_none hf).mp h).2.2)], rfl, rfl⟩
      · refine V_iconst (q := 190) (v := 1) dX6_areAlike_189 (by decide) rfl ?_
        refine V_goto (q := 194) dX6_areAlike_190 (by decide) ?_
        exact V_iret hκ rfl (by first | rfl | exact vB_nar) dX6_areAlike_194 ⟨by rw [vB_t ((mL_none hf).mpr ⟨vB_0.mp c_176, vB_n0.mp c_181, vB_n0.mp c_186⟩)], rfl, rfl⟩
theorem st_al3 {F : vFt} {Ar : vAt} {x : vXt} {a b w : Nat} {κ : vK} (hκ : vStd κ 1 x (vEq (some (.int (vB (mL Ar w a b = true)))) F Ar)) (ha : a < 8) (hb : b < 8) (hf : wFd Ar (nI a) (nI b) w 0 = none) : V κ mX6_areAlike 122 [.ref 6, .int (nI a), .int (nI b), .int (-4), .int (nI (5 * a)), .int (nI (5 * b)), .int (vB (sDays (Ar 55 (5 * a)) (Ar 55 (5 * a + 1)) (Ar 55 (5 * b)) (Ar 55 (5 * b + 1)))), .int (vB (sDays (Ar 55 (5 * a + 2)) (Ar 55 (5 * a + 3)) (Ar 55 (5 * b + 2)) (Ar 55 (5 * b + 3)))), .null] [] F Ar x := by
  refine V_aload_n (q := 123) dX6_areAlike_122 rfl rfl ?_
  refine V_getR (q := 126) (n := 55) 6 20 kf_X6_56 (by decide) (by decide) rfl (by decide) dX6_areAlike_123 rfl ?_
  refine V_iload (q := 128) dX6_areAlike_126 rfl rfl ?_
  refine V_iconst (q := 129) (v := 4) dX6_areAlike_128 (by decide) rfl ?_
  refine V_iadd (q := 130) dX6_areAlike_129 rfl ?_
  refine V_ild (q := 131) (5 * a + 4) 40 (v_a5 a 4) (by omega) (by decide) (by omega) (by decide) rfl (by decide) dX6_areAlike_130 rfl ?_
  refine V_aload_n (q := 132) dX6_areAlike_131 rfl rfl ?_
  refine V_getR (q := 135) (n := 55) 6 20 kf_X6_56 (by decide) (by decide) rfl (by decide) dX6_areAlike_132 rfl ?_
  refine V_iload (q := 137) dX6_areAlike_135 rfl rfl ?_
  refine V_iconst (q := 138) (v := 4) dX6_areAlike_137 (by decide) rfl ?_
  refine V_iadd (q := 139) dX6_areAlike_138 rfl ?_
  refine V_ild (q := 140) (5 * b + 4) 40 (v_a5 b 4) (by omega) (by decide) (by omega) (by decide) rfl (by decide) dX6_areAlike_139 rfl ?_
  refine V_icmp_eq (tgt := 167) (q := 143) dX6_areAlike_140 (by decide) rfl (fun c_140 => ?_) (fun c_140 => ?_)
  · refine V_iconst (q := 168) (v := 1) dX6_areAlike_167 (by decide) rfl ?_
    refine V_goto (q := 172) dX6_areAlike_168 (by decide) ?_
    refine V_top (vB (sMark (Ar 55 (5 * a + 4)) (Ar 55 (5 * b + 4)))) (vB_t (Or.inl c_140)).symm ?_
    refine V_istore (q := 174) dX6_areAlike_172 (Nat.le_of_ble_eq_true rfl) rfl rfl ?_
    exact st_al4 hκ ha hb hf
  · refine V_aload_n (q := 144) dX6_areAlike_143 rfl rfl ?_
    refine V_getR (q := 147) (n := 55) 6 20 kf_X6_56 (by decide) (by decide) rfl (by decide) dX6_areAlike_144 rfl ?_
    refine V_iload (q := 149) dX6_areAlike_147 rfl rfl ?_
    refine V_iconst (q := 150) (v := 4) dX6_areAlike_149 (by decide) rfl ?_
    refine V_iadd (q := 151) dX6_areAlike_150 rfl ?_
    refine V_ild (q := 152) (5 * a + 4) 40 (v_a5 a 4) (by omega) (by decide) (by omega) (by decide) rfl (by decide) dX6_areAlike_151 rfl ?_
    refine V_if_eq (tgt := 167) (q := 155) dX6_areAlike_152 (by decide) rfl (fun c_152 => ?_) (fun c_152 => ?_)
    · refine V_iconst (q := 168) (v := 1) dX6_areAlike_167 (by decide) rfl ?_
      refine V_goto (q := 172) dX6_areAlike_168 (by decide) ?_
      refine V_top (vB (sMark (Ar 55 (5 * a + 4)) (Ar 55 (5 * b + 4)))) (vB_t (Or.inr (Or.inl c_152))).symm ?_
      refine V_istore (q := 174) dX6_areAlike_172 (Nat.le_of_ble_eq_true rfl) rfl rfl ?_
      exact st_al4 hκ ha hb hf
    · refine V_aload_n (q := 156) dX6_areAlike_155 rfl rfl ?_
      refine V_getR (q := 159) (n := 55) 6 20 kf_X6_56 (by decide) (by decide) rfl (by decide) dX6_areAlike_156 rfl ?_
      refine V_iload (q := 161) dX6_areAlike_159 rfl rfl ?_
      refine V_iconst (q := 162) (v := 4) dX6_areAlike_161 (by decide) rfl ?_
      refine V_iadd (q := 163) dX6_areAlike_162 rfl ?_
      refine V_ild (q := 164) (5 * b + 4) 40 (v_a5 b 4) (by omega) (by decide) (by omega) (by decide) rfl (by decide) dX6_areAlike_163 rfl ?_
      refine V_if_ne (tgt := 171) (q := 167) dX6_areAlike_164 (by decide) rfl (fun c_164 => ?_) (fun c_164 => ?_)
      · refine V_iconst (q := 172) (v := 0) dX6_areAlike_171 (by decide) rfl ?_
        refine V_top (vB (sMark (Ar 55 (5 * a + 4)) (Ar 55 (5 * b + 4)))) (vB_f (fun h => h.elim c_140 (fun h => h.elim c_152 c_164))).symm ?_
        refine V_istore (q := 174) dX6_areAlike_172 (Nat.le_of_ble_eq_true rfl) rfl rfl ?_
        exact st_al4 hκ ha hb hf
      · refine V_iconst (q := 168) (v := 1) dX6_areAlike_167 (by decide) rfl ?_
        refine V_goto (q := 172) dX6_areAlike_168 (by decide) ?_
        refine V_top (vB (sMark (Ar 55 (5 * a + 4)) (Ar 55 (5 * b + 4)))) (vB_t (Or.inr (Or.inr c_164))).symm ?_
        refine V_istore (q := 174) dX6_areAlike_172 (Nat.le_of_ble_eq_true rfl) rfl rfl ?_
        exact st_al4 hκ ha hb hf
theorem st_al2 {F : vFt} {Ar : vAt} {x : vXt} {a b w : Nat} {κ : vK} (hκ : vStd κ 1 x (vEq (some (.int (vB (mL Ar w a b = true)))) F Ar)) (ha : a < 8) (hb : b < 8) (hf : wFd Ar (nI a) (nI b) w 0 = none) : V κ mX6_areAlike 73 [.ref 6, .int (nI a), .int (nI b), .int (-4), .int (nI (5 * a)), .int (nI (5 * b)), .int (vB (sDays (Ar 55 (5 * a)) (Ar 55 (5 * a + 1)) (Ar 55 (5 * b)) (Ar 55 (5 * b + 1)))), .null, .null] [] F Ar x := by
  refine V_aload_n (q := 74) dX6_areAlike_73 rfl rfl ?_
  refine V_getR (q := 77) (n := 55) 6 20 kf_X6_56 (by decide) (by decide) rfl (by decide) dX6_areAlike_74 rfl ?_
  refine V_iload (q := 79) dX6_areAlike_77 rfl rfl ?_
  refine V_iconst (q := 80) (v := 2) dX6_areAlike_79 (by decide) rfl ?_
  refine V_iadd (q := 81) dX6_areAlike_80 rfl ?_
  refine V_ild (q := 82) (5 * a + 2) 40 (v_a5 a 2) (by omega) (by decide) (by omega) (by decide) rfl (by decide) dX6_areAlike_81 rfl ?_
  refine V_aload_n (q := 83) dX6_areAlike_82 rfl rfl ?_
  refine V_getR (q := 86) (n := 55) 6 20 kf_X6_56 (by decide) (by decide) rfl (by decide) dX6_areAlike_83 rfl ?_
  refine V_iload (q := 88) dX6_areAlike_86 rfl rfl ?_
  refine V_iconst (q := 89) (v := 3) dX6_areAlike_88 (by decide) rfl ?_
  refine V_iadd (q := 90) dX6_areAlike_89 rfl ?_
  refine V_ild (q := 91) (5 * b + 3) 40 (v_a5 b 3) (by omega) (by decide) (by omega) (by decide) rfl (by decide) dX6_areAlike_90 rfl ?_
  refine V_icmp_gt (tgt := 119) (q := 94) dX6_areAlike_91 (by decide) rfl (fun c_91 => ?_) (fun c_91 => ?_)
  · refine V_iconst (q := 120) (v := 0) dX6_areAlike_119 (by decide) rfl ?_
    refine V_top (vB (sDays (Ar 55 (5 * a + 2)) (Ar 55 (5 * a + 3)) (Ar 55 (5 * b + 2)) (Ar 55 (5 * b + 3)))) (vB_f (fun h => v_nlt c_91 h.1)).symm ?_
    refine V_istore (q := 122) dX6_areAlike_120 (Nat.le_of_ble_eq_true rfl) rfl rfl ?_
    exact st_al3 hκ ha hb hf
  · refine V_aload_n (q := 95) dX6_areAlike_94 rfl rfl ?_
    refine V_getR (q := 98) (n := 55) 6 20 kf_X6_56 (by decide) (by decide) rfl (by decide) dX6_areAlike_95 rfl ?_
    refine V_iload (q := 100) dX6_areAlike_98 rfl rfl ?_
    refine V_iconst (q := 101) (v := 2) dX6_areAlike_100 (by decide) rfl ?_
    refine V_iadd (q := 102) dX6_areAlike_101 rfl ?_
    refine V_ild (q := 103) (5 * b + 2) 40 (v_a5 b 2) (by omega) (by decide) (by omega) (by decide) rfl (by decide) dX6_areAlike_102 rfl ?_
    refine V_aload_n (q := 104) dX6_areAlike_103 rfl rfl ?_
    refine V_getR (q := 107) (n := 55) 6 20 kf_X6_56 (by decide) (by decide) rfl (by decide) dX6_areAlike_104 rfl ?_
    refine V_iload (q := 109) dX6_areAlike_107 rfl rfl ?_
    refine V_iconst (q := 110) (v := 3) dX6_areAlike_109 (by decide) rfl ?_
    refine V_iadd (q := 111) dX6_areAlike_110 rfl ?_
    refine V_ild (q := 112) (5 * a + 3) 40 (v_a5 a 3) (by omega) (by decide) (by omega) (by decide) rfl (by decide) dX6_areAlike_111 rfl ?_
    refine V_icmp_gt (tgt := 119) (q := 115) dX6_areAlike_112 (by decide) rfl (fun c_112 => ?_) (fun c_112 => ?_)
    · refine V_iconst (q := 120) (v := 0) dX6_areAlike_119 (by decide) rfl ?_
      refine V_top (vB (sDays (Ar 55 (5 * a + 2)) (Ar 55 (5 * a + 3)) (Ar 55 (5 * b + 2)) (Ar 55 (5 * b + 3)))) (vB_f (fun h => v_nlt c_112 h.2)).symm ?_
      refine V_istore (q := 122) dX6_areAlike_120 (Nat.le_of_ble_eq_true rfl) rfl rfl ?_
      exact st_al3 hκ ha hb hf
    · refine V_iconst (q := 116) (v := 1) dX6_areAlike_115 (by decide) rfl ?_
      refine V_goto (q := 120) dX6_areAlike_116 (by decide) ?_
      refine V_top (vB (sDays (Ar 55 (5 * a + 2)) (Ar 55 (5 * a + 3)) (Ar 55 (5 * b + 2)) (Ar 55 (5 * b + 3)))) (vB_t ⟨v_nle c_91, v_nle c_112⟩).symm ?_
      refine V_istore (q := 122) dX6_areAlike_120 (Nat.le_of_ble_eq_true rfl) rfl rfl ?_
      exact st_al3 hκ ha hb hf
theorem st_al1 {F : vFt} {Ar : vAt} {x : vXt} {a b w : Nat} {κ : vK} (hκ : vStd κ 1 x (vEq (some (.int (vB (mL Ar w a b = true)))) F Ar)) (ha : a < 8) (hb : b < 8) (hf : wFd Ar (nI a) (nI b) w 0 = none) : V κ mX6_areAlike 28 [.ref 6, .int (nI a), .int (nI b), .int (-4), .int (nI (5 * a)), .int (nI (5 * b)), .null, .null, .null] [] F Ar x := by
  refine V_aload_n (q := 29) dX6_areAlike_28 rfl rfl ?_
  refine V_getR (q := 32) (n := 55) 6 20 kf_X6_56 (by decide) (by decide) rfl (by decide) dX6_areAlike_29 rfl ?_
  refine V_iload (q := 34) dX6_areAlike_32 rfl rfl ?_
  refine V_ild (q := 35) (5 * a) 40 rfl (by omega) (by decide) (by omega) (by decide) rfl (by decide) dX6_areAlike_34 rfl ?_
  refine V_aload_n (q := 36) dX6_areAlike_35 rfl rfl ?_
  refine V_getR (q := 39) (n := 55) 6 20 kf_X6_56 (by decide) (by decide) rfl (by decide) dX6_areAlike_36 rfl ?_
  refine V_iload (q := 41) dX6_areAlike_39 rfl rfl ?_
  refine V_iconst (q := 42) (v := 1) dX6_areAlike_41 (by decide) rfl ?_
  refine V_iadd (q := 43) dX6_areAlike_42 rfl ?_
  refine V_ild (q := 44) (5 * b + 1) 40 (v_a5 b 1) (by omega) (by decide) (by omega) (by decide) rfl (by decide) dX6_areAlike_43 rfl ?_
  refine V_icmp_gt (tgt := 70) (q := 47) dX6_areAlike_44 (by decide) rfl (fun c_44 => ?_) (fun c_44 => ?_)
  · refine V_iconst (q := 71) (v := 0) dX6_areAlike_70 (by decide) rfl ?_
    refine V_top (vB (sDays (Ar 55 (5 * a)) (Ar 55 (5 * a + 1)) (Ar 55 (5 * b)) (Ar 55 (5 * b + 1)))) (vB_f (fun h => v_nlt c_44 h.1)).symm ?_
    refine V_istore (q := 73) dX6_areAlike_71 (Nat.le_of_ble_eq_true rfl) rfl rfl ?_
    exact st_al2 hκ ha hb hf
  · refine V_aload_n (q := 48) dX6_areAlike_47 rfl rfl ?_
    refine V_getR (q := 51) (n := 55) 6 20 kf_X6_56 (by decide) (by decide) rfl (by decide) dX6_areAlike_48 rfl ?_
    refine V_iload (q := 53) dX6_areAlike_51 rfl rfl ?_
    refine V_ild (q := 54) (5 * b) 40 rfl (by omega) (by decide) (by omega) (by decide) rfl (by decide) dX6_areAlike_53 rfl ?_
    refine V_aload_n (q := 55) dX6_areAlike_54 rfl rfl ?_
    refine V_getR (q := 58) (n := 55) 6 20 kf_X6_56 (by decide) (by decide) rfl (by decide) dX6_areAlike_55 rfl ?_
    refine V_iload (q := 60) dX6_areAlike_58 rfl rfl ?_
    refine V_iconst (q := 61) (v := 1) dX6_areAlike_60 (by decide) rfl ?_
    refine V_iadd (q := 62) dX6_areAlike_61 rfl ?_
    refine V_ild (q := 63) (5 * a + 1) 40 (v_a5 a 1) (by omega) (by decide) (by omega) (by decide) rfl (by decide) dX6_areAlike_62 rfl ?_
    refine V_icmp_gt (tgt := 70) (q := 66) dX6_areAlike_63 (by decide) rfl (fun c_63 => ?_) (fun c_63 => ?_)
    · refine V_iconst (q := 71) (v := 0) dX6_areAlike_70 (by decide) rfl ?_
      refine V_top (vB (sDays (Ar 55 (5 * a)) (Ar 55 (5 * a + 1)) (Ar 55 (5 * b)) (Ar 55 (5 * b + 1)))) (vB_f (fun h => v_nlt c_63 h.2)).symm ?_
      refine V_istore (q := 73) dX6_areAlike_71 (Nat.le_of_ble_eq_true rfl) rfl rfl ?_
      exact st_al2 hκ ha hb hf
    · refine V_iconst (q := 67) (v := 1) dX6_areAlike_66 (by decide) rfl ?_
      refine V_goto (q := 71) dX6_areAlike_67 (by decide) ?_
      refine V_top (vB (sDays (Ar 55 (5 * a)) (Ar 55 (5 * a + 1)) (Ar 55 (5 * b)) (Ar 55 (5 * b + 1)))) (vB_t ⟨v_nle c_44, v_nle c_63⟩).symm ?_
      refine V_istore (q := 73) dX6_areAlike_71 (Nat.le_of_ble_eq_true rfl) rfl rfl ?_
      exact st_al2 hκ ha hb hf
theorem tX6_areAlike {F : vFt} {Ar : vAt} {x : vXt} {a b w : Nat} (hw : F 405 = nI w) (hw6 : w ≤ 6) (hy : mYes Ar w) (ha : a < 8) (hb : b < 8) : C0 mX6_areAlike 1 [.ref 6, .int (nI a), .int (nI b)] F Ar x (vEq (some (.int (vB (mL Ar w a b = true)))) F Ar) := by
  refine C0_of (by decide +kernel) (Nat.le_of_ble_eq_true rfl) (fun κ hκ => ?_)
  show V κ mX6_areAlike 0 [.ref 6, .int (nI a), .int (nI b), .null, .null, .null, .null, .null, .null] [] F Ar x
  refine V_aload_n (q := 1) dX6_areAlike_0 rfl rfl ?_
  refine V_iload_n (q := 2) dX6_areAlike_1 rfl rfl ?_
  refine V_iload_n (q := 3) dX6_areAlike_2 rfl rfl ?_
  refine V_cV2I (q := 6) (o := 6) (N := mX6_witnessOf) (tX6_witnessOf hw hw6) hκ.big (by decide) gX6_witnessOf kl_X6_193 ki_X6_witnessOf ks_X6_witnessOf (by decide) rfl (Nat.le_of_ble_eq_true rfl) dX6_areAlike_3 rfl ?_
  cases hf : wFd Ar (nI a) (nI b) w 0 with
  | none =>
    show V κ mX6_areAlike 6 [.ref 6, .int (nI a), .int (nI b), .null, .null, .null, .null, .null, .null] [.int (-4)] F Ar x
    refine V_istore_n (q := 7) dX6_areAlike_6 (Nat.le_of_ble_eq_true rfl) rfl rfl ?_
    refine V_iload_n (q := 8) dX6_areAlike_7 rfl rfl ?_
    refine V_if_lt (tgt := 18) (q := 11) dX6_areAlike_8 (by decide) rfl (fun c_8 => ?_) (fun c_8 => absurd (by decide : (-4 : Int32) < 0) c_8)
    refine V_iconst (q := 19) (v := 5) dX6_areAlike_18 (by decide) rfl ?_
    refine V_iload_n (q := 20) dX6_areAlike_19 rfl rfl ?_
    refine V_imul (q := 21) dX6_areAlike_20 rfl ?_
    refine V_top (nI (5 * a)) (pk_mul 5 a) ?_
    refine V_istore (q := 23) dX6_areAlike_21 (Nat.le_of_ble_eq_true rfl) rfl rfl ?_
    refine V_iconst (q := 24) (v := 5) dX6_areAlike_23 (by decide) rfl ?_
    refine V_iload_n (q := 25) dX6_areAlike_24 rfl rfl ?_
    refine V_imul (q := 26) dX6_areAlike_25 rfl ?_
    refine V_top (nI (5 * b)) (pk_mul 5 b) ?_
    refine V_istore (q := 28) dX6_areAlike_26 (Nat.le_of_ble_eq_true rfl) rfl rfl ?_
    exact st_al1 hκ ha hb hf
  | some j =>
    have hj := wFd_lt _ _ _ hf
    show V κ mX6_areAlike 6 [.ref 6, .int (nI a), .int (nI b), .null, .null, .null, .null, .null, .null] [.int (nI j)] F Ar x
    refine V_istore_n (q := 7) dX6_areAlike_6 (Nat.le_of_ble_eq_true rfl) rfl rfl ?_
    refine V_iload_n (q := 8) dX6_areAlike_7 rfl rfl ?_
    refine V_if_lt (tgt := 18) (q := 11) dX6_areAlike_8 (by decide) rfl (fun c_8 => absurd c_8 (nI_pos (by omega))) (fun c_8 => ?_)
    refine V_aload_n (q := 12) dX6_areAlike_11 rfl rfl ?_
    refine V_getR (q := 15) (n := 58) 6 24 kf_X6_65 (by decide) (by decide) rfl (by decide) dX6_areAlike_12 rfl ?_
    refine V_iload_n (q := 16) dX6_areAlike_15 rfl rfl ?_
    refine V_zld (q := 17) (j) 6 rfl (by omega) (by decide) (by omega) (by decide) rfl (by decide) dX6_areAlike_16 rfl ?_
    exact V_iret hκ rfl (by rcases hy j (by omega) with h | h <;> rw [h] <;> rfl) dX6_areAlike_17 ⟨by congr 2; rcases hy j (by omega) with h | h; (· rw [vB_f (by unfold mL; rw [hf]; simp [h]), h]); (· rw [vB_t (by unfold mL; rw [hf]; simp [h]), h]), rfl, rfl⟩
theorem tX6_alike0 {F : vFt} {Ar : vAt} {x : vXt} {a b : Int32} (hb : ¬ ((0 ≤ a ∧ a ≤ F 403 - 1) ∧ (0 ≤ b ∧ b ≤ F 403 - 1) ∧ ¬ a = b)) : C0 mX6_alike 2 [.ref 6, .int a, .int b] F Ar x (vEq (some (.int (-1))) F Ar) := by
  refine C0_of (by decide +kernel) (Nat.le_of_ble_eq_true rfl) (fun κ hκ => ?_)
  show V κ mX6_alike 0 [.ref 6, .int a, .int b] [] F Ar x
  refine V_aload_n (q := 1) dX6_alike_0 rfl rfl ?_
  refine V_iload_n (q := 2) dX6_alike_1 rfl rfl ?_
  refine V_cV1I (q := 5) (o := 6) (N := mX6_isPaper) tX6_isPaper hκ.big (by decide) gX6_isPaper kl_X6_190 ki_X6_isPaper ks_X6_isPaper (by decide) rfl (Nat.le_of_ble_eq_true rfl) dX6_alike_2 rfl ?_
  refine V_if_eq (tgt := 21) (q := 8) dX6_alike_5 (by decide) rfl (fun c_5 => ?_) (fun c_5 => ?_)
  · refine V_iconst (q := 22) (v := (-1)) dX6_alike_21 (by decide) rfl ?_
    exact V_iret hκ rfl rfl dX6_alike_22 vEq.rf
  · refine V_aload_n (q := 9) dX6_alike_8 rfl rfl ?_
    refine V_iload_n (q := 10) dX6_alike_9 rfl rfl ?_
    refine V_cV1I (q := 13) (o := 6) (N := mX6_isPaper) tX6_isPaper hκ.big (by decide) gX6_isPaper kl_X6_190 ki_X6_isPaper ks_X6_isPaper (by decide) rfl (Nat.le_of_ble_eq_true rfl) dX6_alike_10 rfl ?_
    refine V_if_eq (tgt := 21) (q := 16) dX6_alike_13 (by decide) rfl (fun c_13 => ?_) (fun c_13 => ?_)
    · refine V_iconst (q := 22) (v := (-1)) dX6_alike_21 (by decide) rfl ?_
      exact V_iret hκ rfl rfl dX6_alike_22 vEq.rf
    · refine V_iload_n (q := 17) dX6_alike_16 rfl rfl ?_
      refine V_iload_n (q := 18) dX6_alike_17 rfl rfl ?_
      refine V_icmp_ne (tgt := 23) (q := 21) dX6_alike_18 (by decide) rfl (fun c_18 => absurd ⟨vB_n0.mp c_5, vB_n0.mp c_13, c_18⟩ hb) (fun c_18 => ?_)
      refine V_iconst (q := 22) (v := (-1)) dX6_alike_21 (by decide) rfl ?_
      exact V_iret hκ rfl rfl dX6_alike_22 vEq.rf
theorem tX6_alike1 {F : vFt} {Ar : vAt} {x : vXt} {n a b w : Nat} (hn : F 403 = nI n) (hn8 : n ≤ 8) (ha : a < n) (hb : b < n) (hab : a ≠ b) (hw : F 405 = nI w) (hw6 : w ≤ 6) (hy : mYes Ar w) : C0 mX6_alike 2 [.ref 6, .int (nI a), .int (nI b)] F Ar x (vEq (some (.int (vB (mL Ar w a b = true)))) F Ar) := by
  refine C0_of (by decide +kernel) (Nat.le_of_ble_eq_true rfl) (fun κ hκ => ?_)
  show V κ mX6_alike 0 [.ref 6, .int (nI a), .int (nI b)] [] F Ar x
  have g1 : 0 ≤ nI a ∧ nI a ≤ F 403 - 1 := by rw [hn]; exact (v_has (by omega)).mpr ⟨a, ha, rfl⟩
  have g2 : 0 ≤ nI b ∧ nI b ≤ F 403 - 1 := by rw [hn]; exact (v_has (by omega)).mpr ⟨b, hb, rfl⟩
  have g3 : ¬ nI a = nI b := fun q => hab ((nI_eq (by omega) (by omega)).mp q)
  refine V_aload_n (q := 1) dX6_alike_0 rfl rfl ?_
  refine V_iload_n (q := 2) dX6_alike_1 rfl rfl ?_
  refine V_cV1I (q := 5) (o := 6) (N := mX6_isPaper) tX6_isPaper hκ.big (by decide) gX6_isPaper kl_X6_190 ki_X6_isPaper ks_X6_isPaper (by decide) rfl (Nat.le_of_ble_eq_true rfl) dX6_alike_2 rfl ?_
  refine V_if_eq (tgt := 21) (q := 8) dX6_alike_5 (by decide) rfl (fun c_5 => absurd c_5 (vB_n0.mpr g1)) (fun c_5 => ?_)
  refine V_aload_n (q := 9) dX6_alike_8 rfl rfl ?_
  refine V_iload_n (q := 10) dX6_alike_9 rfl rfl ?_
  refine V_cV1I (q := 13) (o := 6) (N := mX6_isPaper) tX6_isPaper hκ.big (by decide) gX6_isPaper kl_X6_190 ki_X6_isPaper ks_X6_isPaper (by decide) rfl (Nat.le_of_ble_eq_true rfl) dX6_alike_10 rfl ?_
  refine V_if_eq (tgt := 21) (q := 16) dX6_alike_13 (by decide) rfl (fun c_13 => absurd c_13 (vB_n0.mpr g2)) (fun c_13 => ?_)
  refine V_iload_n (q := 17) dX6_alike_16 rfl rfl ?_
  refine V_iload_n (q := 18) dX6_alike_17 rfl rfl ?_
  refine V_icmp_ne (tgt := 23) (q := 21) dX6_alike_18 (by decide) rfl (fun c_18 => ?_) (fun c_18 => absurd c_18 g3)
  refine V_aload_n (q := 24) dX6_alike_23 rfl rfl ?_
  refine V_iload_n (q := 25) dX6_alike_24 rfl rfl ?_
  refine V_iload_n (q := 26) dX6_alike_25 rfl rfl ?_
  refine V_cV2I (q := 29) (o := 6) (N := mX6_areAlike) (tX6_areAlike hw hw6 hy (by omega) (by omega)) hκ.big (by decide) gX6_areAlike kl_X6_197 ki_X6_areAlike ks_X6_areAlike (by decide) rfl (Nat.le_of_ble_eq_true rfl) dX6_alike_26 rfl ?_
  refine V_if_eq (tgt := 36) (q := 32) dX6_alike_29 (by decide) rfl (fun c_29 => ?_) (fun c_29 => ?_)
  · refine V_iconst (q := 37) (v := 0) dX6_alike_36 (by decide) rfl ?_
    exact V_iret hκ rfl rfl dX6_alike_37 ⟨by rw [vB_f (vB_0.mp c_29)], rfl, rfl⟩
  · refine V_iconst (q := 33) (v := 1) dX6_alike_32 (by decide) rfl ?_
    refine V_goto (q := 37) dX6_alike_33 (by decide) ?_
    exact V_iret hκ rfl rfl dX6_alike_37 ⟨by rw [vB_t (vB_n0.mp c_29)], rfl, rfl⟩
