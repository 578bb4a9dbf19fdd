theorem v_tout (a : Int32) (lo hi : Int) {l h : Int32} (_ : l.toInt = lo) (_ : h.toInt = hi) (hn : ¬ (l ≤ a ∧ a ≤ h)) : a.toInt < lo ∨ hi < a.toInt := by
  subst lo
  subst hi
  simp only [Int32.le_iff_toInt_le] at hn
  omega
theorem v_nlt {a b : Int32} (h : a < b) : ¬ b ≤ a := by
  rw [Int32.le_iff_toInt_le]
  rw [Int32.lt_iff_toInt_lt] at h
  omega
theorem v_nle {a b : Int32} (h : ¬ a < b) : b ≤ a := by
  rw [Int32.le_iff_toInt_le]
  rw [Int32.lt_iff_toInt_lt] at h
  omega
theorem v_lt {a b : Int32} (h : ¬ a ≤ b) : b < a := by
  rw [Int32.lt_iff_toInt_lt]
  rw [Int32.le_iff_toInt_le] at h
  omega
theorem tX5_isWithin {F : vFt} {Ar : vAt} {x : vXt} {n a b : Int32}  : C0 mX5_isWithin 0 [.int n, .int a, .int b] F Ar x (vEq (some (.int (vB (a ≤ n ∧ n ≤ b)))) F Ar) := by
  refine C0_of (by decide +kernel) (Nat.le_of_ble_eq_true rfl) (fun κ hκ => ?_)
  show V κ mX5_isWithin 0 [.int n, .int a, .int b] [] F Ar x
  refine V_iload_n (q := 1) dX5_isWithin_0 rfl rfl ?_
  refine V_iload_n (q := 2) dX5_isWithin_1 rfl rfl ?_
  refine V_icmp_gt (tgt := 14) (q := 5) dX5_isWithin_2 (by decide) rfl (fun c_2 => ?_) (fun c_2 => ?_)
  · refine V_iconst (q := 15) (v := 0) dX5_isWithin_14 (by decide) rfl ?_
    exact V_iret hκ rfl (by first | rfl | exact vB_nar) dX5_isWithin_15 ⟨by rw [vB_f (fun h => v_nlt c_2 h.1)], rfl, rfl⟩
  · refine V_iload_n (q := 6) dX5_isWithin_5 rfl rfl ?_
    refine V_iload_n (q := 7) dX5_isWithin_6 rfl rfl ?_
    refine V_icmp_gt (tgt := 14) (q := 10) dX5_isWithin_7 (by decide) rfl (fun c_7 => ?_) (fun c_7 => ?_)
    · refine V_iconst (q := 15) (v := 0) dX5_isWithin_14 (by decide) rfl ?_
      exact V_iret hκ rfl (by first | rfl | exact vB_nar) dX5_isWithin_15 ⟨by rw [vB_f (fun h => v_nlt c_7 h.2)], rfl, rfl⟩
    · refine V_iconst (q := 11) (v := 1) dX5_isWithin_10 (by decide) rfl ?_
      refine V_goto (q := 15) dX5_isWithin_11 (by decide) ?_
      exact V_iret hκ rfl (by first | rfl | exact vB_nar) dX5_isWithin_15 ⟨by rw [vB_t ⟨v_nle c_2, v_nle c_7⟩], rfl, rfl⟩
theorem tX5_isDay {F : vFt} {Ar : vAt} {x : vXt} {n : Int32}  : C0 mX5_isDay 1 [.int n] F Ar x (vEq (some (.int (vB (0 ≤ n ∧ n ≤ 999)))) F Ar) := by
  refine C0_of (by decide +kernel) (Nat.le_of_ble_eq_true rfl) (fun κ hκ => ?_)
  show V κ mX5_isDay 0 [.int n] [] F Ar x
  refine V_iload_n (q := 1) dX5_isDay_0 rfl rfl ?_
  refine V_iconst (q := 2) (v := 0) dX5_isDay_1 (by decide) rfl ?_
  refine V_sipush (q := 5) (v := 999) dX5_isDay_2 (by decide) rfl ?_
  refine V_cS3I (q := 8) (N := mX5_isWithin) tX5_isWithin hκ.big (by decide) gX5_isWithin kl_X5_67 kt_X5_isWithin (Nat.le_of_ble_eq_true rfl) dX5_isDay_5 rfl ?_
  exact V_iret hκ rfl (by first | rfl | exact vB_nar) dX5_isDay_8 vEq.rf
theorem tX5_isMeasure {F : vFt} {Ar : vAt} {x : vXt} {n : Int32}  : C0 mX5_isMeasure 1 [.int n] F Ar x (vEq (some (.int (vB (1 ≤ n ∧ n ≤ 99)))) F Ar) := by
  refine C0_of (by decide +kernel) (Nat.le_of_ble_eq_true rfl) (fun κ hκ => ?_)
  show V κ mX5_isMeasure 0 [.int n] [] F Ar x
  refine V_iload_n (q := 1) dX5_isMeasure_0 rfl rfl ?_
  refine V_iconst (q := 2) (v := 1) dX5_isMeasure_1 (by decide) rfl ?_
  refine V_bipush (q := 4) (v := 99) dX5_isMeasure_2 (by decide) rfl ?_
  refine V_cS3I (q := 7) (N := mX5_isWithin) tX5_isWithin hκ.big (by decide) gX5_isWithin kl_X5_67 kt_X5_isWithin (Nat.le_of_ble_eq_true rfl) dX5_isMeasure_4 rfl ?_
  exact V_iret hκ rfl (by first | rfl | exact vB_nar) dX5_isMeasure_7 vEq.rf
theorem tX5_isPerson {F : vFt} {Ar : vAt} {x : vXt} {n : Int32}  : C0 mX5_isPerson 1 [.int n] F Ar x (vEq (some (.int (vB (0 ≤ n ∧ n ≤ 7)))) F Ar) := by
  refine C0_of (by decide +kernel) (Nat.le_of_ble_eq_true rfl) (fun κ hκ => ?_)
  show V κ mX5_isPerson 0 [.int n] [] F Ar x
  refine V_iload_n (q := 1) dX5_isPerson_0 rfl rfl ?_
  refine V_iconst (q := 2) (v := 0) dX5_isPerson_1 (by decide) rfl ?_
  refine V_bipush (q := 4) (v := 7) dX5_isPerson_2 (by decide) rfl ?_
  refine V_cS3I (q := 7) (N := mX5_isWithin) tX5_isWithin hκ.big (by decide) gX5_isWithin kl_X5_67 kt_X5_isWithin (Nat.le_of_ble_eq_true rfl) dX5_isPerson_4 rfl ?_
  exact V_iret hκ rfl (by first | rfl | exact vB_nar) dX5_isPerson_7 vEq.rf
abbrev vSz (l b d r : Int32) : Prop := (1 ≤ l ∧ l ≤ 99) ∧ (1 ≤ b ∧ b ≤ 99) ∧ (1 ≤ d ∧ d ≤ 99) ∧ (0 ≤ r ∧ r ≤ 999)
theorem tX5_areSizes {F : vFt} {Ar : vAt} {x : vXt} {l b d r : Int32}  : C0 mX5_areSizes 2 [.int l, .int b, .int d, .int r] F Ar x (vEq (some (.int (vB (vSz l b d r)))) F Ar) := by
  refine C0_of (by decide +kernel) (Nat.le_of_ble_eq_true rfl) (fun κ hκ => ?_)
  show V κ mX5_areSizes 0 [.int l, .int b, .int d, .int r] [] F Ar x
  refine V_iload_n (q := 1) dX5_areSizes_0 rfl rfl ?_
  refine V_cS1I (q := 4) (N := mX5_isMeasure) tX5_isMeasure hκ.big (by decide) gX5_isMeasure kl_X5_118 kt_X5_isMeasure (Nat.le_of_ble_eq_true rfl) dX5_areSizes_1 rfl ?_
  refine V_if_eq (tgt := 36) (q := 7) dX5_areSizes_4 (by decide) rfl (fun c_4 => ?_) (fun c_4 => ?_)
  · refine V_iconst (q := 37) (v := 0) dX5_areSizes_36 (by decide) rfl ?_
    exact V_iret hκ rfl (by first | rfl | exact vB_nar) dX5_areSizes_37 ⟨by rw [vB_f (fun h => vB_0.mp c_4 h.1)], rfl, rfl⟩
  · refine V_iload_n (q := 8) dX5_areSizes_7 rfl rfl ?_
    refine V_cS1I (q := 11) (N := mX5_isMeasure) tX5_isMeasure hκ.big (by decide) gX5_isMeasure kl_X5_118 kt_X5_isMeasure (Nat.le_of_ble_eq_true rfl) dX5_areSizes_8 rfl ?_
    refine V_if_eq (tgt := 36) (q := 14) dX5_areSizes_11 (by decide) rfl (fun c_11 => ?_) (fun c_11 => ?_)
    · refine V_iconst (q := 37) (v := 0) dX5_areSizes_36 (by decide) rfl ?_
      exact V_iret hκ rfl (by first | rfl | exact vB_nar) dX5_areSizes_37 ⟨by rw [vB_f (fun h => vB_0.mp c_11 h.2.1)], rfl, rfl⟩
    · refine V_iload_n (q := 15) dX5_areSizes_14 rfl rfl ?_
      refine V_cS1I (q := 18) (N := mX5_isMeasure) tX5_isMeasure hκ.big (by decide) gX5_isMeasure kl_X5_118 kt_X5_isMeasure (Nat.le_of_ble_eq_true rfl) dX5_areSizes_15 rfl ?_
      refine V_if_eq (tgt := 36) (q := 21) dX5_areSizes_18 (by decide) rfl (fun c_18 => ?_) (fun c_18 => ?_)
      · refine V_iconst (q := 37) (v := 0) dX5_areSizes_36 (by decide) rfl ?_
        exact V_iret hκ rfl (by first | rfl | exact vB_nar) dX5_areSizes_37 ⟨by rw [vB_f (fun h => vB_0.mp c_18 h.2.2.1)], rfl, rfl⟩
      · refine V_iload_n (q := 22) dX5_areSizes_21 rfl rfl ?_
        refine V_iconst (q := 23) (v := 0) dX5_areSizes_22 (by decide) rfl ?_
        refine V_sipush (q := 26) (v := 999) dX5_areSizes_23 (by decide) rfl ?_
        refine V_cS3I (q := 29) (N := mX5_isWithin) tX5_isWithin hκ.big (by decide) gX5_isWithin kl_X5_67 kt_X5_isWithin (Nat.le_of_ble_eq_true rfl) dX5_areSizes_26 rfl ?_
        refine V_if_eq (tgt := 36) (q := 32) dX5_areSizes_29 (by decide) rfl (fun c_29 => ?_) (fun c_29 => ?_)
        · refine V_iconst (q := 37) (v := 0) dX5_areSizes_36 (by decide) rfl ?_
          exact V_iret hκ rfl (by first | rfl | exact vB_nar) dX5_areSizes_37 ⟨by rw [vB_f (fun h => vB_0.mp c_29 h.2.2.2)], rfl, rfl⟩
        · refine V_iconst (q := 33) (v := 1) dX5_areSizes_32 (by decide) rfl ?_
          refine V_goto (q := 37) dX5_areSizes_33 (by decide) ?_
          exact V_iret hκ rfl (by first | rfl | exact vB_nar) dX5_areSizes_37 ⟨by rw [vB_t ⟨vB_n0.mp c_4, vB_n0.mp c_11, vB_n0.mp c_18, vB_n0.mp c_29⟩], rfl, rfl⟩
theorem tX0_has {F : vFt} {Ar : vAt} {x : vXt} {i : Int32}  : C0 mX0_has 1 [.ref 1, .int i] F Ar x (vEq (some (.int (vB (0 ≤ i ∧ i ≤ F 68 - 1)))) F Ar) := by
  refine C0_of (by decide +kernel) (Nat.le_of_ble_eq_true rfl) (fun κ hκ => ?_)
  show V κ mX0_has 0 [.ref 1, .int i] [] F Ar x
  refine V_iload_n (q := 1) dX0_has_0 rfl rfl ?_
  refine V_iconst (q := 2) (v := 0) dX0_has_1 (by decide) rfl ?_
  refine V_aload_n (q := 3) dX0_has_2 rfl rfl ?_
  refine V_getI (q := 6) (n := 68) 1 4 kf_X0_33 (by decide) (by decide) rfl rfl dX0_has_3 rfl ?_
  refine V_iconst (q := 7) (v := 1) dX0_has_6 (by decide) rfl ?_
  refine V_isub (q := 8) dX0_has_7 rfl ?_
  refine V_cSN3I (q := 11) (N := mX5_isWithin) tX5_isWithin hκ.big (by decide) gX5_isWithin (by decide +kernel) kt_X5_isWithin (Nat.le_of_ble_eq_true rfl) dX0_has_8 rfl ?_
  exact V_iret hκ rfl (by first | rfl | exact vB_nar) dX0_has_11 vEq.rf
theorem tX0_size {F : vFt} {Ar : vAt} {x : vXt}   : C0 mX0_size 0 [.ref 1] F Ar x (vEq (some (.int (F 68))) F Ar) := by
  refine C0_of (by decide +kernel) (Nat.le_of_ble_eq_true rfl) (fun κ hκ => ?_)
  show V κ mX0_size 0 [.ref 1] [] F Ar x
  refine V_aload_n (q := 1) dX0_size_0 rfl rfl ?_
  refine V_getI (q := 4) (n := 68) 1 4 kf_X0_33 (by decide) (by decide) rfl rfl dX0_size_1 rfl ?_
  exact V_iret hκ rfl rfl dX0_size_4 vEq.rf
theorem tX1_has {F : vFt} {Ar : vAt} {x : vXt} {i : Int32}  : C0 mX1_has 1 [.ref 3, .int i] F Ar x (vEq (some (.int (vB (0 ≤ i ∧ i ≤ F 193 - 1)))) F Ar) := by
  refine C0_of (by decide +kernel) (Nat.le_of_ble_eq_true rfl) (fun κ hκ => ?_)
  show V κ mX1_has 0 [.ref 3, .int i] [] F Ar x
  refine V_iload_n (q := 1) dX1_has_0 rfl rfl ?_
  refine V_iconst (q := 2) (v := 0) dX1_has_1 (by decide) rfl ?_
  refine V_aload_n (q := 3) dX1_has_2 rfl rfl ?_
  refine V_getI (q := 6) (n := 193) 3 1 kf_X1_15 (by decide) (by decide) rfl rfl dX1_has_3 rfl ?_
  refine V_iconst (q := 7) (v := 1) dX1_has_6 (by decide) rfl ?_
  refine V_isub (q := 8) dX1_has_7 rfl ?_
  refine V_cSN3I (q := 11) (N := mX5_isWithin) tX5_isWithin hκ.big (by decide) gX5_isWithin (by decide +kernel) kt_X5_isWithin (Nat.le_of_ble_eq_true rfl) dX1_has_8 rfl ?_
  exact V_iret hκ rfl (by first | rfl | exact vB_nar) dX1_has_11 vEq.rf
theorem tX1_size {F : vFt} {Ar : vAt} {x : vXt}   : C0 mX1_size 0 [.ref 3] F Ar x (vEq (some (.int (F 193))) F Ar) := by
  refine C0_of (by decide +kernel) (Nat.le_of_ble_eq_true rfl) (fun κ hκ => ?_)
  show V κ mX1_size 0 [.ref 3] [] F Ar x
  refine V_aload_n (q := 1) dX1_size_0 rfl rfl ?_
  refine V_getI (q := 4) (n := 193) 3 1 kf_X1_15 (by decide) (by decide) rfl rfl dX1_size_1 rfl ?_
  exact V_iret hκ rfl rfl dX1_size_4 vEq.rf
theorem tX2_has {F : vFt} {Ar : vAt} {x : vXt} {i : Int32}  : C0 mX2_has 1 [.ref 4, .int i] F Ar x (vEq (some (.int (vB (0 ≤ i ∧ i ≤ F 258 - 1)))) F Ar) := by
  refine C0_of (by decide +kernel) (Nat.le_of_ble_eq_true rfl) (fun κ hκ => ?_)
  show V κ mX2_has 0 [.ref 4, .int i] [] F Ar x
  refine V_iload_n (q := 1) dX2_has_0 rfl rfl ?_
  refine V_iconst (q := 2) (v := 0) dX2_has_1 (by decide) rfl ?_
  refine V_aload_n (q := 3) dX2_has_2 rfl rfl ?_
  refine V_getI (q := 6) (n := 258) 4 2 kf_X2_42 (by decide) (by decide) rfl rfl dX2_has_3 rfl ?_
  refine V_iconst (q := 7) (v := 1) dX2_has_6 (by decide) rfl ?_
  refine V_isub (q := 8) dX2_has_7 rfl ?_
  refine V_cSN3I (q := 11) (N := mX5_isWithin) tX5_isWithin hκ.big (by decide) gX5_isWithin (by decide +kernel) kt_X5_isWithin (Nat.le_of_ble_eq_true rfl) dX2_has_8 rfl ?_
  exact V_iret hκ rfl (by first | rfl | exact vB_nar) dX2_has_11 vEq.rf
theorem tX2_size {F : vFt} {Ar : vAt} {x : vXt}   : C0 mX2_size 0 [.ref 4] F Ar x (vEq (some (.int (F 258))) F Ar) := by
  refine C0_of (by decide +kernel) (Nat.le_of_ble_eq_true rfl) (fun κ hκ => ?_)
  show V κ mX2_size 0 [.ref 4] [] F Ar x
  refine V_aload_n (q := 1) dX2_size_0 rfl rfl ?_
  refine V_getI (q := 4) (n := 258) 4 2 kf_X2_42 (by decide) (by decide) rfl rfl dX2_size_1 rfl ?_
  exact V_iret hκ rfl rfl dX2_size_4 vEq.rf
theorem tX3_has {F : vFt} {Ar : vAt} {x : vXt} {i : Int32}  : C0 mX3_has 1 [.ref 5, .int i] F Ar x (vEq (some (.int (vB (0 ≤ i ∧ i ≤ F 325 - 1)))) F Ar) := by
  refine C0_of (by decide +kernel) (Nat.le_of_ble_eq_true rfl) (fun κ hκ => ?_)
  show V κ mX3_has 0 [.ref 5, .int i] [] F Ar x
  refine V_iload_n (q := 1) dX3_has_0 rfl rfl ?_
  refine V_iconst (q := 2) (v := 0) dX3_has_1 (by decide) rfl ?_
  refine V_aload_n (q := 3) dX3_has_2 rfl rfl ?_
  refine V_getI (q := 6) (n := 325) 5 5 kf_X3_39 (by decide) (by decide) rfl rfl dX3_has_3 rfl ?_
  refine V_iconst (q := 7) (v := 1) dX3_has_6 (by decide) rfl ?_
  refine V_isub (q := 8) dX3_has_7 rfl ?_
  refine V_cSN3I (q := 11) (N := mX5_isWithin) tX5_isWithin hκ.big (by decide) gX5_isWithin (by decide +kernel) kt_X5_isWithin (Nat.le_of_ble_eq_true rfl) dX3_has_8 rfl ?_
  exact V_iret hκ rfl (by first | rfl | exact vB_nar) dX3_has_11 vEq.rf
theorem tX3_size {F : vFt} {Ar : vAt} {x : vXt}   : C0 mX3_size 0 [.ref 5] F Ar x (vEq (some (.int (F 325))) F Ar) := by
  refine C0_of (by decide +kernel) (Nat.le_of_ble_eq_true rfl) (fun κ hκ => ?_)
  show V κ mX3_size 0 [.ref 5] [] F Ar x
  refine V_aload_n (q := 1) dX3_size_0 rfl rfl ?_
  refine V_getI (q := 4) (n := 325) 5 5 kf_X3_39 (by decide) (by decide) rfl rfl dX3_size_1 rfl ?_
  exact V_iret hκ rfl rfl dX3_size_4 vEq.rf
