def rkC (Ar : vAt) (e : Nat) : Nat → Int32 := fun o => if ¬ Ar 62 o = 0 ∧ Ar 49 o = Ar 49 e ∧ Ar 50 o = Ar 50 e then 1 else 0
def rkV (Ar : vAt) (e : Nat) : Int32 := if Ar 62 e = 0 then -4 else vSum (rkC Ar e) e
theorem lp_X6_rank {F : vFt} {Ar : vAt} {x : vXt} {e : Nat} {κ : vK} (hκ : vStd κ 0 x (vEq (some (.int (rkV Ar e))) F Ar)) (he : e < 60) (h0 : ¬ Ar 62 e = 0) : ∀ k i, i + k = e → V κ mX6_rankOf 16 [.ref 6, .int (nI e), .int (vSum (rkC Ar e) i), .int (nI i)] [] F Ar x := by
  intro k
  induction k with
  | zero =>
    intro i hi
    obtain rfl : i = e := by omega
    refine V_iload_n (q := 17) dX6_rankOf_16 rfl rfl ?_
    refine V_iload_n (q := 18) dX6_rankOf_17 rfl rfl ?_
    refine V_icmp_ge (tgt := 74) (q := 21) dX6_rankOf_18 (by decide) rfl (fun c_18 => ?_) (fun c_18 => absurd c_18 (v_gt (by omega) (by omega) (Nat.le_refl _)))
    refine V_iload_n (q := 75) dX6_rankOf_74 rfl rfl ?_
    exact V_iret hκ rfl rfl dX6_rankOf_75 ⟨by rw [rkV, if_neg h0], rfl, rfl⟩
  | succ k ih =>
    intro i hi
    refine V_iload_n (q := 17) dX6_rankOf_16 rfl rfl ?_
    refine V_iload_n (q := 18) dX6_rankOf_17 rfl rfl ?_
    refine V_icmp_ge (tgt := 74) (q := 21) dX6_rankOf_18 (by decide) rfl (fun c_18 => absurd c_18 (v_gf (by omega) (by omega) (by omega))) (fun c_18 => ?_)
    refine V_iload_n (q := 22) dX6_rankOf_21 rfl rfl ?_
    refine V_aload_n (q := 23) dX6_rankOf_22 rfl rfl ?_
    refine V_getR (q := 26) (n := 62) 6 29 kf_X6_77 (by decide) (by decide) rfl (by decide) dX6_rankOf_23 rfl ?_
    refine V_iload_n (q := 27) dX6_rankOf_26 rfl rfl ?_
    refine V_zld (q := 28) (i) 60 rfl (by omega) (by decide) (by omega) (by decide) rfl (by decide) dX6_rankOf_27 rfl ?_
    refine V_if_eq (tgt := 65) (q := 31) dX6_rankOf_28 (by decide) rfl (fun c_28 => ?_) (fun c_28 => ?_)
    · refine V_iconst (q := 66) (v := 0) dX6_rankOf_65 (by decide) rfl ?_
      refine V_iadd (q := 67) dX6_rankOf_66 rfl ?_
      refine V_istore_n (q := 68) dX6_rankOf_67 (Nat.le_of_ble_eq_true rfl) rfl rfl ?_
      refine V_iincN (q := 71) dX6_rankOf_68 rfl (Nat.le_of_ble_eq_true rfl) rfl rfl ?_
      refine V_goto (q := 16) dX6_rankOf_71 (by decide) ?_
      have ih2 := ih (i + 1) (by omega)
      unfold vSum at ih2
      rw [show rkC Ar e i = 0 from if_neg (fun h => h.1 c_28)] at ih2
      exact ih2
    · refine V_aload_n (q := 32) dX6_rankOf_31 rfl rfl ?_
      refine V_getR (q := 35) (n := 49) 6 13 kf_X6_37 (by decide) (by decide) rfl (by decide) dX6_rankOf_32 rfl ?_
      refine V_iload_n (q := 36) dX6_rankOf_35 rfl rfl ?_
      refine V_ild (q := 37) (i) 60 rfl (by omega) (by decide) (by omega) (by decide) rfl (by decide) dX6_rankOf_36 rfl ?_
      refine V_aload_n (q := 38) dX6_rankOf_37 rfl rfl ?_
      refine V_getR (q := 41) (n := 49) 6 13 kf_X6_37 (by decide) (by decide) rfl (by decide) dX6_rankOf_38 rfl ?_
      refine V_iload_n (q := 42) dX6_rankOf_41 rfl rfl ?_
      refine V_ild (q := 43) (e) 60 rfl (by omega) (by decide) (by omega) (by decide) rfl (by decide) dX6_rankOf_42 rfl ?_
      refine V_icmp_ne (tgt := 65) (q := 46) dX6_rankOf_43 (by decide) rfl (fun c_43 => ?_) (fun c_43 => ?_)
      · refine V_iconst (q := 66) (v := 0) dX6_rankOf_65 (by decide) rfl ?_
        refine V_iadd (q := 67) dX6_rankOf_66 rfl ?_
        refine V_istore_n (q := 68) dX6_rankOf_67 (Nat.le_of_ble_eq_true rfl) rfl rfl ?_
        refine V_iincN (q := 71) dX6_rankOf_68 rfl (Nat.le_of_ble_eq_true rfl) rfl rfl ?_
        refine V_goto (q := 16) dX6_rankOf_71 (by decide) ?_
        have ih2 := ih (i + 1) (by omega)
        unfold vSum at ih2
        rw [show rkC Ar e i = 0 from if_neg (fun h => c_43 h.2.1)] at ih2
        exact ih2
      · refine V_aload_n (q := 47) dX6_rankOf_46 rfl rfl ?_
        refine V_getR (q := 50) (n := 50) 6 14 kf_X6_40 (by decide) (by decide) rfl (by decide) dX6_rankOf_47 rfl ?_
        refine V_iload_n (q := 51) dX6_rankOf_50 rfl rfl ?_
        refine V_ild (q := 52) (i) 60 rfl (by omega) (by decide) (by omega) (by decide) rfl (by decide) dX6_rankOf_51 rfl ?_
        refine V_aload_n (q := 53) dX6_rankOf_52 rfl rfl ?_
        refine V_getR (q := 56) (n := 50) 6 14 kf_X6_40 (by decide) (by decide) rfl (by decide) dX6_rankOf_53 rfl ?_
        refine V_iload_n (q := 57) dX6_rankOf_56 rfl rfl ?_
        refine V_ild (q := 58) (e) 60 rfl (by omega) (by decide) (by omega) (by decide) rfl (by decide) dX6_rankOf_57 rfl ?_
        refine V_icmp_ne (tgt := 65) (q := 61) dX6_rankOf_58 (by decide) rfl (fun c_58 => ?_) (fun c_58 => ?_)
        · refine V_iconst (q := 66) (v := 0) dX6_rankOf_65 (by decide) rfl ?_
          refine V_iadd (q := 67) dX6_rankOf_66 rfl ?_
          refine V_istore_n (q := 68) dX6_rankOf_67 (Nat.le_of_ble_eq_true rfl) rfl rfl ?_
          refine V_iincN (q := 71) dX6_rankOf_68 rfl (Nat.le_of_ble_eq_true rfl) rfl rfl ?_
          refine V_goto (q := 16) dX6_rankOf_71 (by decide) ?_
          have ih2 := ih (i + 1) (by omega)
          unfold vSum at ih2
          rw [show rkC Ar e i = 0 from if_neg (fun h => c_58 h.2.2)] at ih2
          exact ih2
        · refine V_iconst (q := 62) (v := 1) dX6_rankOf_61 (by decide) rfl ?_
          refine V_goto (q := 66) dX6_rankOf_62 (by decide) ?_
          refine V_iadd (q := 67) dX6_rankOf_66 rfl ?_
          refine V_istore_n (q := 68) dX6_rankOf_67 (Nat.le_of_ble_eq_true rfl) rfl rfl ?_
          refine V_iincN (q := 71) dX6_rankOf_68 rfl (Nat.le_of_ble_eq_true rfl) rfl rfl ?_
          refine V_goto (q := 16) dX6_rankOf_71 (by decide) ?_
          have ih2 := ih (i + 1) (by omega)
          unfold vSum at ih2
          rw [show rkC Ar e i = 1 from if_pos ⟨c_28, c_43, c_58⟩] at ih2
          exact ih2
theorem tX6_rankOf {F : vFt} {Ar : vAt} {x : vXt} {e : Nat} (he : e < 60) : C0 mX6_rankOf 0 [.ref 6, .int (nI e)] F Ar x (vEq (some (.int (rkV Ar e))) F Ar) := by
  refine C0_of (by decide +kernel) (Nat.le_of_ble_eq_true rfl) (fun κ hκ => ?_)
  show V κ mX6_rankOf 0 [.ref 6, .int (nI e), .null, .null] [] F Ar x
  refine V_aload_n (q := 1) dX6_rankOf_0 rfl rfl ?_
  refine V_getR (q := 4) (n := 62) 6 29 kf_X6_77 (by decide) (by decide) rfl (by decide) dX6_rankOf_1 rfl ?_
  refine V_iload_n (q := 5) dX6_rankOf_4 rfl rfl ?_
  refine V_zld (q := 6) (e) 60 rfl (by omega) (by decide) (by omega) (by decide) rfl (by decide) dX6_rankOf_5 rfl ?_
  refine V_if_ne (tgt := 12) (q := 9) dX6_rankOf_6 (by decide) rfl (fun c_6 => ?_) (fun c_6 => ?_)
  · refine V_iconst (q := 13) (v := 0) dX6_rankOf_12 (by decide) rfl ?_
    refine V_istore_n (q := 14) dX6_rankOf_13 (Nat.le_of_ble_eq_true rfl) rfl rfl ?_
    refine V_iconst (q := 15) (v := 0) dX6_rankOf_14 (by decide) rfl ?_
    refine V_istore_n (q := 16) dX6_rankOf_15 (Nat.le_of_ble_eq_true rfl) rfl rfl ?_
    exact lp_X6_rank hκ he c_6 e 0 (by omega)
  · refine V_bipush (q := 11) (v := (-4)) dX6_rankOf_9 (by decide) rfl ?_
    exact V_iret hκ rfl rfl dX6_rankOf_11 ⟨by rw [rkV, if_pos c_6], rfl, rfl⟩
theorem lp_X6_stand {F : vFt} {Ar : vAt} {x : vXt} {n : Nat} {κ : vK} (hκ : vStd κ 0 x (vEq (some (.int (vSum (fun e => if Ar 62 e = 0 then 0 else 1) n))) F Ar)) (hn : F 395 = nI n) (hn60 : n ≤ 60) : ∀ k i, i + k = n → V κ mX6_standing 4 [.ref 6, .int (vSum (fun e => if Ar 62 e = 0 then 0 else 1) i), .int (nI i)] [] F Ar x := by
  intro k
  induction k with
  | zero =>
    intro i hi
    obtain rfl : i = n := by omega
    refine V_iload_n (q := 5) dX6_standing_4 rfl rfl ?_
    refine V_aload_n (q := 6) dX6_standing_5 rfl rfl ?_
    refine V_getI (q := 9) (n := 395) 6 11 kf_X6_159 (by decide) (by decide) rfl rfl dX6_standing_6 rfl ?_
    rw [hn]
    refine V_icmp_ge (tgt := 35) (q := 12) dX6_standing_9 (by decide) rfl (fun c_9 => ?_) (fun c_9 => absurd c_9 (v_gt (by omega) (by omega) (Nat.le_refl _)))
    refine V_iload_n (q := 36) dX6_standing_35 rfl rfl ?_
    exact V_iret hκ rfl rfl dX6_standing_36 vEq.rf
  | succ k ih =>
    intro i hi
    have ih2 := ih (i + 1) (by omega)
    unfold vSum at ih2
    refine V_iload_n (q := 5) dX6_standing_4 rfl rfl ?_
    refine V_aload_n (q := 6) dX6_standing_5 rfl rfl ?_
    refine V_getI (q := 9) (n := 395) 6 11 kf_X6_159 (by decide) (by decide) rfl rfl dX6_standing_6 rfl ?_
    rw [hn]
    refine V_icmp_ge (tgt := 35) (q := 12) dX6_standing_9 (by decide) rfl (fun c_9 => absurd c_9 (v_gf (by omega) (by omega) (by omega))) (fun c_9 => ?_)
    refine V_iload_n (q := 13) dX6_standing_12 rfl rfl ?_
    refine V_aload_n (q := 14) dX6_standing_13 rfl rfl ?_
    refine V_getR (q := 17) (n := 62) 6 29 kf_X6_77 (by decide) (by decide) rfl (by decide) dX6_standing_14 rfl ?_
    refine V_iload_n (q := 18) dX6_standing_17 rfl rfl ?_
    refine V_zld (q := 19) (i) 60 rfl (by omega) (by decide) (by omega) (by decide) rfl (by decide) dX6_standing_18 rfl ?_
    refine V_if_eq (tgt := 26) (q := 22) dX6_standing_19 (by decide) rfl (fun c_19 => ?_) (fun c_19 => ?_)
    · refine V_iconst (q := 27) (v := 0) dX6_standing_26 (by decide) rfl ?_
      refine V_iadd (q := 28) dX6_standing_27 rfl ?_
      refine V_istore_n (q := 29) dX6_standing_28 (Nat.le_of_ble_eq_true rfl) rfl rfl ?_
      refine V_iincN (q := 32) dX6_standing_29 rfl (Nat.le_of_ble_eq_true rfl) rfl rfl ?_
      refine V_goto (q := 4) dX6_standing_32 (by decide) ?_
      rw [if_pos c_19] at ih2
      exact ih2
    · refine V_iconst (q := 23) (v := 1) dX6_standing_22 (by decide) rfl ?_
      refine V_goto (q := 27) dX6_standing_23 (by decide) ?_
      refine V_iadd (q := 28) dX6_standing_27 rfl ?_
      refine V_istore_n (q := 29) dX6_standing_28 (Nat.le_of_ble_eq_true rfl) rfl rfl ?_
      refine V_iincN (q := 32) dX6_standing_29 rfl (Nat.le_of_ble_eq_true rfl) rfl rfl ?_
      refine V_goto (q := 4) dX6_standing_32 (by decide) ?_
      rw [if_neg c_19] at ih2
      exact ih2
theorem tX6_standing {F : vFt} {Ar : vAt} {x : vXt} {n : Nat} (hn : F 395 = nI n) (hn60 : n ≤ 60) : C0 mX6_standing 0 [.ref 6] F Ar x (vEq (some (.int (vSum (fun e => if Ar 62 e = 0 then 0 else 1) n))) F Ar) := by
  refine C0_of (by decide +kernel) (Nat.le_of_ble_eq_true rfl) (fun κ hκ => ?_)
  show V κ mX6_standing 0 [.ref 6, .null, .null] [] F Ar x
  refine V_iconst (q := 1) (v := 0) dX6_standing_0 (by decide) rfl ?_
  refine V_istore_n (q := 2) dX6_standing_1 (Nat.le_of_ble_eq_true rfl) rfl rfl ?_
  refine V_iconst (q := 3) (v := 0) dX6_standing_2 (by decide) rfl ?_
  refine V_istore_n (q := 4) dX6_standing_3 (Nat.le_of_ble_eq_true rfl) rfl rfl ?_
  exact lp_X6_stand hκ hn hn60 n 0 (by omega)
theorem lp_X6_thatT {F : vFt} {Ar : vAt} {x : vXt} {n : Nat} {κ : vK} (hκ : vStd κ 0 x (vEq (some (.int (vSum (fun e => if Ar 54 e = 0 then 0 else 1) n))) F Ar)) (hn : F 395 = nI n) (hn60 : n ≤ 60) : ∀ k i, i + k = n → V κ mX6_entriesThat 4 [.ref 6, .int 1, .int (vSum (fun e => if Ar 54 e = 0 then 0 else 1) i), .int (nI i)] [] F Ar x := by
  intro k
  induction k with
  | zero =>
    intro i hi
    obtain rfl : i = n := by omega
    refine V_iload_n (q := 5) dX6_entriesThat_4 rfl rfl ?_
    refine V_aload_n (q := 6) dX6_entriesThat_5 rfl rfl ?_
    refine V_getI (q := 9) (n := 395) 6 11 kf_X6_159 (by decide) (by decide) rfl rfl dX6_entriesThat_6 rfl ?_
    rw [hn]
    refine V_icmp_ge (tgt := 51) (q := 12) dX6_entriesThat_9 (by decide) rfl (fun c_9 => ?_) (fun c_9 => absurd c_9 (v_gt (by omega) (by omega) (Nat.le_refl _)))
    refine V_iload_n (q := 52) dX6_entriesThat_51 rfl rfl ?_
    exact V_iret hκ rfl rfl dX6_entriesThat_52 vEq.rf
  | succ k ih =>
    intro i hi
    have ih2 := ih (i + 1) (by omega)
    unfold vSum at ih2
    refine V_iload_n (q := 5) dX6_entriesThat_4 rfl rfl ?_
    refine V_aload_n (q := 6) dX6_entriesThat_5 rfl rfl ?_
    refine V_getI (q := 9) (n := 395) 6 11 kf_X6_159 (by decide) (by decide) rfl rfl dX6_entriesThat_6 rfl ?_
    rw [hn]
    refine V_icmp_ge (tgt := 51) (q := 12) dX6_entriesThat_9 (by decide) rfl (fun c_9 => absurd c_9 (v_gf (by omega) (by omega) (by omega))) (fun c_9 => ?_)
    refine V_iload_n (q := 13) dX6_entriesThat_12 rfl rfl ?_
    refine V_iload_n (q := 14) dX6_entriesThat_13 rfl rfl ?_
    refine V_if_eq (tgt := 29) (q := 17) dX6_entriesThat_14 (by decide) rfl (fun c_14 => absurd c_14 (by decide)) (fun c_14 => ?_)
    refine V_aload_n (q := 18) dX6_entriesThat_17 rfl rfl ?_
    refine V_getR (q := 21) (n := 54) 6 18 kf_X6_52 (by decide) (by decide) rfl (by decide) dX6_entriesThat_18 rfl ?_
    refine V_iload_n (q := 22) dX6_entriesThat_21 rfl rfl ?_
    refine V_zld (q := 23) (i) 60 rfl (by omega) (by decide) (by omega) (by decide) rfl (by decide) dX6_entriesThat_22 rfl ?_
    refine V_if_eq (tgt := 42) (q := 26) dX6_entriesThat_23 (by decide) rfl (fun c_23 => ?_) (fun c_23 => ?_)
    · refine V_iconst (q := 43) (v := 0) dX6_entriesThat_42 (by decide) rfl ?_
      refine V_iadd (q := 44) dX6_entriesThat_43 rfl ?_
      refine V_istore_n (q := 45) dX6_entriesThat_44 (Nat.le_of_ble_eq_true rfl) rfl rfl ?_
      refine V_iincN (q := 48) dX6_entriesThat_45 rfl (Nat.le_of_ble_eq_true rfl) rfl rfl ?_
      refine V_goto (q := 4) dX6_entriesThat_48 (by decide) ?_
      rw [if_pos c_23] at ih2
      exact ih2
    · refine V_goto (q := 38) dX6_entriesThat_26 (by decide) ?_
      refine V_iconst (q := 39) (v := 1) dX6_entriesThat_38 (by decide) rfl ?_
      refine V_goto (q := 43) dX6_entriesThat_39 (by decide) ?_
      refine V_iadd (q := 44) dX6_entriesThat_43 rfl ?_
      refine V_istore_n (q := 45) dX6_entriesThat_44 (Nat.le_of_ble_eq_true rfl) rfl rfl ?_
      refine V_iincN (q := 48) dX6_entriesThat_45 rfl (Nat.le_of_ble_eq_true rfl) rfl rfl ?_
      refine V_goto (q := 4) dX6_entriesThat_48 (by decide) ?_
      rw [if_neg c_23] at ih2
      exact ih2
theorem tX6_entriesThatT {F : vFt} {Ar : vAt} {x : vXt} {n : Nat} (hn : F 395 = nI n) (hn60 : n ≤ 60) : C0 mX6_entriesThat 0 [.ref 6, .int 1] F Ar x (vEq (some (.int (vSum (fun e => if Ar 54 e = 0 then 0 else 1) n))) F Ar) := by
  refine C0_of (by decide +kernel) (Nat.le_of_ble_eq_true rfl) (fun κ hκ => ?_)
  show V κ mX6_entriesThat 0 [.ref 6, .int 1, .null, .null] [] F Ar x
  refine V_iconst (q := 1) (v := 0) dX6_entriesThat_0 (by decide) rfl ?_
  refine V_istore_n (q := 2) dX6_entriesThat_1 (Nat.le_of_ble_eq_true rfl) rfl rfl ?_
  refine V_iconst (q := 3) (v := 0) dX6_entriesThat_2 (by decide) rfl ?_
  refine V_istore_n (q := 4) dX6_entriesThat_3 (Nat.le_of_ble_eq_true rfl) rfl rfl ?_
  exact lp_X6_thatT hκ hn hn60 n 0 (by omega)
theorem lp_X6_thatF {F : vFt} {Ar : vAt} {x : vXt} {n : Nat} {κ : vK} (hκ : vStd κ 0 x (vEq (some (.int (vSum (fun e => if Ar 63 e = 0 then 0 else 1) n))) F Ar)) (hn : F 395 = nI n) (hn60 : n ≤ 60) : ∀ k i, i + k = n → V κ mX6_entriesThat 4 [.ref 6, .int 0, .int (vSum (fun e => if Ar 63 e = 0 then 0 else 1) i), .int (nI i)] [] F Ar x := by
  intro k
  induction k with
  | zero =>
    intro i hi
    obtain rfl : i = n := by omega
    refine V_iload_n (q := 5) dX6_entriesThat_4 rfl rfl ?_
    refine V_aload_n (q := 6) dX6_entriesThat_5 rfl rfl ?_
    refine V_getI (q := 9) (n := 395) 6 11 kf_X6_159 (by decide) (by decide) rfl rfl dX6_entriesThat_6 rfl ?_
    rw [hn]
    refine V_icmp_ge (tgt := 51) (q := 12) dX6_entriesThat_9 (by decide) rfl (fun c_9 => ?_) (fun c_9 => absurd c_9 (v_gt (by omega) (by omega) (Nat.le_refl _)))
    refine V_iload_n (q := 52) dX6_entriesThat_51 rfl rfl ?_
    exact V_iret hκ rfl rfl dX6_entriesThat_52 vEq.rf
  | succ k ih =>
    intro i hi
    have ih2 := ih (i + 1) (by omega)
    unfold vSum at ih2
    refine V_iload_n (q := 5) dX6_entriesThat_4 rfl rfl ?_
    refine V_aload_n (q := 6) dX6_entriesThat_5 rfl rfl ?_
    refine V_getI (q := 9) (n := 395) 6 11 kf_X6_159 (by decide) (by decide) rfl rfl dX6_entriesThat_6 rfl ?_
    rw [hn]
    refine V_icmp_ge (tgt := 51) (q := 12) dX6_entriesThat_9 (by decide) rfl (fun c_9 => absurd c_9 (v_gf (by omega) (by omega) (by omega))) (fun c_9 => ?_)
    refine V_iload_n (q := 13) dX6_entriesThat_12 rfl rfl ?_
    refine V_iload_n (q := 14) dX6_entriesThat_13 rfl rfl ?_
    refine V_if_eq (tgt := 29) (q := 17) dX6_entriesThat_14 (by decide) rfl (fun c_14 => ?_) (fun c_14 => absurd rfl c_14)
    refine V_aload_n (q := 30) dX6_entriesThat_29 rfl rfl ?_
    refine V_getR (q := 33) (n := 63) 6 30 kf_X6_80 (by decide) (by decide) rfl (by decide) dX6_entriesThat_30 rfl ?_
    refine V_iload_n (q := 34) dX6_entriesThat_33 rfl rfl ?_
    refine V_zld (q := 35) (i) 60 rfl (by omega) (by decide) (by omega) (by decide) rfl (by decide) dX6_entriesThat_34 rfl ?_
    refine V_if_eq (tgt := 42) (q := 38) dX6_entriesThat_35 (by decide) rfl (fun c_35 => ?_) (fun c_35 => ?_)
    · refine V_iconst (q := 43) (v := 0) dX6_entriesThat_42 (by decide) rfl ?_
      refine V_iadd (q := 44) dX6_entriesThat_43 rfl ?_
      refine V_istore_n (q := 45) dX6_entriesThat_44 (Nat.le_of_ble_eq_true rfl) rfl rfl ?_
      refine V_iincN (q := 48) dX6_entriesThat_45 rfl (Nat.le_of_ble_eq_true rfl) rfl rfl ?_
      refine V_goto (q := 4) dX6_entriesThat_48 (by decide) ?_
      rw [if_pos c_35] at ih2
      exact ih2
    · refine V_iconst (q := 39) (v := 1) dX6_entriesThat_38 (by decide) rfl ?_
      refine V_goto (q := 43) dX6_entriesThat_39 (by decide) ?_
      refine V_iadd (q := 44) dX6_entriesThat_43 rfl ?_
      refine V_istore_n (q := 45) dX6_entriesThat_44 (Nat.le_of_ble_eq_true rfl) rfl rfl ?_
      refine V_iincN (q := 48) dX6_entriesThat_45 rfl (Nat.le_of_ble_eq_true rfl) rfl rfl ?_
      refine V_goto (q := 4) dX6_entriesThat_48 (by decide) ?_
      rw [if_neg c_35] at ih2
      exact ih2
theorem tX6_entriesThatF {F : vFt} {Ar : vAt} {x : vXt} {n : Nat} (hn : F 395 = nI n) (hn60 : n ≤ 60) : C0 mX6_entriesThat 0 [.ref 6, .int 0] F Ar x (vEq (some (.int (vSum (fun e => if Ar 63 e = 0 then 0 else 1) n))) F Ar) := by
  refine C0_of (by decide +kernel) (Nat.le_of_ble_eq_true rfl) (fun κ hκ => ?_)
  show V κ mX6_entriesThat 0 [.ref 6, .int 0, .null, .null] [] F Ar x
  refine V_iconst (q := 1) (v := 0) dX6_entriesThat_0 (by decide) rfl ?_
  refine V_istore_n (q := 2) dX6_entriesThat_1 (Nat.le_of_ble_eq_true rfl) rfl rfl ?_
  refine V_iconst (q := 3) (v := 0) dX6_entriesThat_2 (by decide) rfl ?_
  refine V_istore_n (q := 4) dX6_entriesThat_3 (Nat.le_of_ble_eq_true rfl) rfl rfl ?_
  exact lp_X6_thatF hκ hn hn60 n 0 (by omega)
def manV (F : vFt) (Ar : vAt) (n : Nat) (w : Int32) : Int32 := if w = 0 then F 386 else if w = 1 then F 390 else if w = 2 then F 395 else if w = 3 then vSum (fun e => if Ar 54 e = 0 then 0 else 1) n else if w = 4 then vSum (fun e => if Ar 63 e = 0 then 0 else 1) n
  else if w = 5 then vSum (fun e => if Ar 62 e = 0 then 0 else 1) n else if w = 6 then F 403 else if w = 7 then F 405 else if w = 8 then F 384 else -1
def entV (Ar : vAt) (e : Nat) (w : Int32) : Int32 := if w = 0 then Ar 48 e else if w = 1 then Ar 49 e else if w = 2 then Ar 50 e else if w = 3 then Ar 51 e else if w = 4 then Ar 52 e else if w = 5 then (if Ar 54 e = 0 then 0 else 1)
  else if w = 6 then (if Ar 63 e = 0 then 0 else 1) else if w = 7 then rkV Ar e else if w = 8 then Ar 53 e else -1
theorem tX6_many {F : vFt} {Ar : vAt} {x : vXt} {n : Nat} {w : Int32} (hn : F 395 = nI n) (hn60 : n ≤ 60) (hok : mOk Ar n) : C0 mX6_many 2 [.ref 6, .int w] F Ar x (vEq (some (.int (manV F (mAt Ar n) n w))) F (mAt Ar n)) := by
  refine C0_of (by decide +kernel) (Nat.le_of_ble_eq_true rfl) (fun κ hκ => ?_)
  show V κ mX6_many 0 [.ref 6, .int w] [] F Ar x
  refine V_aload_n (q := 1) dX6_many_0 rfl rfl ?_
  refine V_cV0U (q := 4) (o := 6) (N := mX6_goThrough) (tX6_goThrough hn hn60 hok) hκ.big (by decide) gX6_goThrough kl_X6_178 ki_X6_goThrough ks_X6_goThrough (by decide) rfl (Nat.le_of_ble_eq_true rfl) dX6_many_1 rfl ?_
  refine V_iload_n (q := 5) dX6_many_4 rfl rfl ?_
  by_cases e_5_0 : w = 0
  · refine V_tableIn (q := 56) (off := 51) dX6_many_5 (by rw [e_5_0]; decide) (by rw [e_5_0]; decide) (by rw [e_5_0]; decide) (by decide) ?_
    refine V_aload_n (q := 57) dX6_many_56 rfl rfl ?_
    refine V_getI (q := 60) (n := 386) 6 2 kf_X6_105 (by decide) (by decide) rfl rfl dX6_many_57 rfl ?_
    exact V_iret hκ rfl rfl dX6_many_60 ⟨by unfold manV; rw [if_pos e_5_0], rfl, rfl⟩
  by_cases e_5_1 : w = 1
  · refine V_tableIn (q := 61) (off := 56) dX6_many_5 (by rw [e_5_1]; decide) (by rw [e_5_1]; decide) (by rw [e_5_1]; decide) (by decide) ?_
    refine V_aload_n (q := 62) dX6_many_61 rfl rfl ?_
    refine V_getI (q := 65) (n := 390) 6 6 kf_X6_149 (by decide) (by decide) rfl rfl dX6_many_62 rfl ?_
    exact V_iret hκ rfl rfl dX6_many_65 ⟨by unfold manV; rw [if_neg e_5_0]; rw [if_pos e_5_1], rfl, rfl⟩
  by_cases e_5_2 : w = 2
  · refine V_tableIn (q := 66) (off := 61) dX6_many_5 (by rw [e_5_2]; decide) (by rw [e_5_2]; decide) (by rw [e_5_2]; decide) (by decide) ?_
    refine V_aload_n (q := 67) dX6_many_66 rfl rfl ?_
    refine V_getI (q := 70) (n := 395) 6 11 kf_X6_159 (by decide) (by decide) rfl rfl dX6_many_67 rfl ?_
    exact V_iret hκ rfl rfl dX6_many_70 ⟨by unfold manV; rw [if_neg e_5_0]; rw [if_neg e_5_1]; rw [if_pos e_5_2], rfl, rfl⟩
  by_cases e_5_3 : w = 3
  · refine V_tableIn (q := 71) (off := 66) dX6_many_5 (by rw [e_5_3]; decide) (by rw [e_5_3]; decide) (by rw [e_5_3]; decide) (by decide) ?_
    refine V_aload_n (q := 72) dX6_many_71 rfl rfl ?_
    refine V_iconst (q := 73) (v := 1) dX6_many_72 (by decide) rfl ?_
    refine V_cV1I (q := 76) (o := 6) (N := mX6_entriesThat) (tX6_entriesThatT hn hn60) hκ.big (by decide) gX6_entriesThat kl_X6_211 ki_X6_entriesThat ks_X6_entriesThat (by decide) rfl (Nat.le_of_ble_eq_true rfl) dX6_many_73 rfl ?_
    exact V_iret hκ rfl rfl dX6_many_76 ⟨by unfold manV; rw [if_neg e_5_0]; rw [if_neg e_5_1]; rw [if_neg e_5_2]; rw [if_pos e_5_3], rfl, rfl⟩
  by_cases e_5_4 : w = 4
  · refine V_tableIn (q := 77) (off := 72) dX6_many_5 (by rw [e_5_4]; decide) (by rw [e_5_4]; decide) (by rw [e_5_4]; decide) (by decide) ?_
    refine V_aload_n (q := 78) dX6_many_77 rfl rfl ?_
    refine V_iconst (q := 79) (v := 0) dX6_many_78 (by decide) rfl ?_
    refine V_cV1I (q := 82) (o := 6) (N := mX6_entriesThat) (tX6_entriesThatF hn hn60) hκ.big (by decide) gX6_entriesThat kl_X6_211 ki_X6_entriesThat ks_X6_entriesThat (by decide) rfl (Nat.le_of_ble_eq_true rfl) dX6_many_79 rfl ?_
    exact V_iret hκ rfl rfl dX6_many_82 ⟨by unfold manV; rw [if_neg e_5_0]; rw [if_neg e_5_1]; rw [if_neg e_5_2]; rw [if_neg e_5_3]; rw [if_pos e_5_4], rfl, rfl⟩
  by_cases e_5_5 : w = 5
  · refine V_tableIn (q := 83) (off := 78) dX6_many_5 (by rw [e_5_5]; decide) (by rw [e_5_5]; decide) (by rw [e_5_5]; decide) (by decide) ?_
    refine V_aload_n (q := 84) dX6_many_83 rfl rfl ?_
    refine V_cV0I (q := 87) (o := 6) (N := mX6_standing) (tX6_standing hn hn60) hκ.big (by decide) gX6_standing kl_X6_215 ki_X6_standing ks_X6_standing (by decide) rfl (Nat.le_of_ble_eq_true rfl) dX6_many_84 rfl ?_
    exact V_iret hκ rfl rfl dX6_many_87 ⟨by unfold manV; rw [if_neg e_5_0]; rw [if_neg e_5_1]; rw [if_neg e_5_2]; rw [if_neg e_5_3]; rw [if_neg e_5_4]; rw [if_pos e_5_5], rfl, rfl⟩
  by_cases e_5_6 : w = 6
  · refine V_tableIn (q := 88) (off := 83) dX6_many_5 (by rw [e_5_6]; decide) (by rw [e_5_6]; decide) (by rw [e_5_6]; decide) (by decide) ?_
    refine V_aload_n (q := 89) dX6_many_88 rfl rfl ?_
    refine V_getI (q := 92) (n := 403) 6 19 kf_X6_184 (by decide) (by decide) rfl rfl dX6_many_89 rfl ?_
    exact V_iret hκ rfl rfl dX6_many_92 ⟨by unfold manV; rw [if_neg e_5_0]; rw [if_neg e_5_1]; rw [if_neg e_5_2]; rw [if_neg e_5_3]; rw [if_neg e_5_4]; rw [if_neg e_5_5]; rw [if_pos e_5_6], rfl, rfl⟩
  by_cases e_5_7 : w = 7
  · refine V_tableIn (q := 93) (off := 88) dX6_many_5 (by rw [e_5_7]; decide) (by rw [e_5_7]; decide) (by rw [e_5_7]; decide) (by decide) ?_
    refine V_aload_n (q := 94) dX6_many_93 rfl rfl ?_
    refine V_getI (q := 97) (n := 405) 6 21 kf_X6_187 (by decide) (by decide) rfl rfl dX6_many_94 rfl ?_
    exact V_iret hκ rfl rfl dX6_many_97 ⟨by unfold manV; rw [if_neg e_5_0]; rw [if_neg e_5_1]; rw [if_neg e_5_2]; rw [if_neg e_5_3]; rw [if_neg e_5_4]; rw [if_neg e_5_5]; rw [if_neg e_5_6]; rw [if_pos e_5_7], rfl, rfl⟩
  by_cases e_5_8 : w = 8
  · refine V_tableIn (q := 98) (off := 93) dX6_many_5 (by rw [e_5_8]; decide) (by rw [e_5_8]; decide) (by rw [e_5_8]; decide) (by decide) ?_
    refine V_aload_n (q := 99) dX6_many_98 rfl rfl ?_
    refine V_getI (q := 102) (n := 384) 6 0 kf_X6_89 (by decide) (by decide) rfl rfl dX6_many_99 rfl ?_
    exact V_iret hκ rfl rfl dX6_many_102 ⟨by unfold manV; rw [if_neg e_5_0]; rw [if_neg e_5_1]; rw [if_neg e_5_2]; rw [if_neg e_5_3]; rw [if_neg e_5_4]; rw [if_neg e_5_5]; rw [if_neg e_5_6]; rw [if_neg e_5_7]; rw [if_pos e_5_8], rfl, rfl⟩
  refine V_tableOut (q := 103) dX6_many_5 (by have h0 := lv_neT e_5_0 (a := 0) (by decide); have h1 := lv_neT e_5_1 (a := 1) (by decide); have h2 := lv_neT e_5_2 (a := 2) (by decide); have h3 := lv_neT e_5_3 (a := 3) (by decide); have h4 := lv_neT e_5_4 (a := 4) (by decide); have h5 := lv_neT e_5_5 (a := 5) (by decide); have h6 := lv_neT e_5_6 (a := 6) (by decide); have h7 := lv_neT e_5_7 (a := 7) (by decide); have h8 := lv_neT e_5_8 (a := 8) (by decide); omega) (by decide) ?_
  refine V_iconst (q := 104) (v := (-1)) dX6_many_103 (by decide) rfl ?_
  exact V_iret hκ rfl rfl dX6_many_104 ⟨by unfold manV; rw [if_neg e_5_0]; rw [if_neg e_5_1]; rw [if_neg e_5_2]; rw [if_neg e_5_3]; rw [if_neg e_5_4]; rw [if_neg e_5_5]; rw [if_neg e_5_6]; rw [if_neg e_5_7]; rw [if_neg e_5_8]; skip, rfl, rfl⟩
theorem tX6_entry0 {F : vFt} {Ar : vAt} {x : vXt} {n : Nat} {i w : Int32} (hb : ¬ (0 ≤ i ∧ i ≤ F 395 - 1)) : C0 mX6_entry 2 [.ref 6, .int i, .int w] F Ar x (vEq (some (.int (-1))) F Ar) := by
  refine C0_of (by decide +kernel) (Nat.le_of_ble_eq_true rfl) (fun κ hκ => ?_)
  show V κ mX6_entry 0 [.ref 6, .int i, .int w] [] F Ar x
  refine V_aload_n (q := 1) dX6_entry_0 rfl rfl ?_
  refine V_iload_n (q := 2) dX6_entry_1 rfl rfl ?_
  refine V_cV1I (q := 5) (o := 6) (N := mX6_isEntry) tX6_isEntry hκ.big (by decide) gX6_isEntry kl_X6_172 ki_X6_isEntry ks_X6_isEntry (by decide) rfl (Nat.le_of_ble_eq_true rfl) dX6_entry_2 rfl ?_
  refine V_if_ne (tgt := 10) (q := 8) dX6_entry_5 (by decide) rfl (fun c_5 => absurd (vB_n0.mp c_5) hb) (fun c_5 => ?_)
  refine V_iconst (q := 9) (v := (-1)) dX6_entry_8 (by decide) rfl ?_
  exact V_iret hκ rfl rfl dX6_entry_9 vEq.rf
theorem tX6_entry {F : vFt} {Ar : vAt} {x : vXt} {n e : Nat} {w : Int32} (hn : F 395 = nI n) (hn60 : n ≤ 60) (hok : mOk Ar n) (he : e < n) : C0 mX6_entry 2 [.ref 6, .int (nI e), .int w] F Ar x (vEq (some (.int (entV (mAt Ar n) e w))) F (mAt Ar n)) := by
  refine C0_of (by decide +kernel) (Nat.le_of_ble_eq_true rfl) (fun κ hκ => ?_)
  show V κ mX6_entry 0 [.ref 6, .int (nI e), .int w] [] F Ar x
  have hg : 0 ≤ nI e ∧ nI e ≤ F 395 - 1 := by rw [hn]; exact (v_has (by omega)).mpr ⟨e, he, rfl⟩
  refine V_aload_n (q := 1) dX6_entry_0 rfl rfl ?_
  refine V_iload_n (q := 2) dX6_entry_1 rfl rfl ?_
  refine V_cV1I (q := 5) (o := 6) (N := mX6_isEntry) tX6_isEntry hκ.big (by decide) gX6_isEntry kl_X6_172 ki_X6_isEntry ks_X6_isEntry (by decide) rfl (Nat.le_of_ble_eq_true rfl) dX6_entry_2 rfl ?_
  refine V_if_ne (tgt := 10) (q := 8) dX6_entry_5 (by decide) rfl (fun c_5 => ?_) (fun c_5 => absurd c_5 (vB_n0.mpr hg))
  refine V_aload_n (q := 11) dX6_entry_10 rfl rfl ?_
  refine V_cV0U (q := 14) (o := 6) (N := mX6_goThrough) (tX6_goThrough hn hn60 hok) hκ.big (by decide) gX6_goThrough kl_X6_178 ki_X6_goThrough ks_X6_goThrough (by decide) rfl (Nat.le_of_ble_eq_true rfl) dX6_entry_11 rfl ?_
  refine V_iload_n (q := 15) dX6_entry_14 rfl rfl ?_
  by_cases e_15_0 : w = 0
  · refine V_tableIn (q := 64) (off := 49) dX6_entry_15 (by rw [e_15_0]; decide) (by rw [e_15_0]; decide) (by rw [e_15_0]; decide) (by decide) ?_
    refine V_aload_n (q := 65) dX6_entry_64 rfl rfl ?_
    refine V_getR (q := 68) (n := 48) 6 12 kf_X6_34 (by decide) (by decide) rfl (by decide) dX6_entry_65 rfl ?_
    refine V_iload_n (q := 69) dX6_entry_68 rfl rfl ?_
    refine V_ild (q := 70) (e) 60 rfl (by omega) (by decide) (by omega) (by decide) rfl (by decide) dX6_entry_69 rfl ?_
    exact V_iret hκ rfl rfl dX6_entry_70 ⟨by unfold entV; rw [if_pos e_15_0], rfl, rfl⟩
  by_cases e_15_1 : w = 1
  · refine V_tableIn (q := 71) (off := 56) dX6_entry_15 (by rw [e_15_1]; decide) (by rw [e_15_1]; decide) (by rw [e_15_1]; decide) (by decide) ?_
    refine V_aload_n (q := 72) dX6_entry_71 rfl rfl ?_
    refine V_getR (q := 75) (n := 49) 6 13 kf_X6_37 (by decide) (by decide) rfl (by decide) dX6_entry_72 rfl ?_
    refine V_iload_n (q := 76) dX6_entry_75 rfl rfl ?_
    refine V_ild (q := 77) (e) 60 rfl (by omega) (by decide) (by omega) (by decide) rfl (by decide) dX6_entry_76 rfl ?_
    exact V_iret hκ rfl rfl dX6_entry_77 ⟨by unfold entV; rw [if_neg e_15_0]; rw [if_pos e_15_1], rfl, rfl⟩
  by_cases e_15_2 : w = 2
  · refine V_tableIn (q := 78) (off := 63) dX6_entry_15 (by rw [e_15_2]; decide) (by rw [e_15_2]; decide) (by rw [e_15_2]; decide) (by decide) ?_
    refine V_aload_n (q := 79) dX6_entry_78 rfl rfl ?_
    refine V_getR (q := 82) (n := 50) 6 14 kf_X6_40 (by decide) (by decide) rfl (by decide) dX6_entry_79 rfl ?_
    refine V_iload_n (q := 83) dX6_entry_82 rfl rfl ?_
    refine V_ild (q := 84) (e) 60 rfl (by omega) (by decide) (by omega) (by decide) rfl (by decide) dX6_entry_83 rfl ?_
    exact V_iret hκ rfl rfl dX6_entry_84 ⟨by unfold entV; rw [if_neg e_15_0]; rw [if_neg e_15_1]; rw [if_pos e_15_2], rfl, rfl⟩
  by_cases e_15_3 : w = 3
  · refine V_tableIn (q := 85) (off := 70) dX6_entry_15 (by rw [e_15_3]; decide) (by rw [e_15_3]; decide) (by rw [e_15_3]; decide) (by decide) ?_
    refine V_aload_n (q := 86) dX6_entry_85 rfl rfl ?_
    refine V_getR (q := 89) (n := 51) 6 15 kf_X6_43 (by decide) (by decide) rfl (by decide) dX6_entry_86 rfl ?_
    refine V_iload_n (q := 90) dX6_entry_89 rfl rfl ?_
    refine V_ild (q := 91) (e) 60 rfl (by omega) (by decide) (by omega) (by decide) rfl (by decide) dX6_entry_90 rfl ?_
    exact V_iret hκ rfl rfl dX6_entry_91 ⟨by unfold entV; rw [if_neg e_15_0]; rw [if_neg e_15_1]; rw [if_neg e_15_2]; rw [if_pos e_15_3], rfl, rfl⟩
  by_cases e_15_4 : w = 4
  · refine V_tableIn (q := 92) (off := 77) dX6_entry_15 (by rw [e_15_4]; decide) (by rw [e_15_4]; decide) (by rw [e_15_4]; decide) (by decide) ?_
    refine V_aload_n (q := 93) dX6_entry_92 rfl rfl ?_
    refine V_getR (q := 96) (n := 52) 6 16 kf_X6_46 (by decide) (by decide) rfl (by decide) dX6_entry_93 rfl ?_
    refine V_iload_n (q := 97) dX6_entry_96 rfl rfl ?_
    refine V_ild (q := 98) (e) 60 rfl (by omega) (by decide) (by omega) (by decide) rfl (by decide) dX6_entry_97 rfl ?_
    exact V_iret hκ rfl rfl dX6_entry_98 ⟨by unfold entV; rw [if_neg e_15_0]; rw [if_neg e_15_1]; rw [if_neg e_15_2]; rw [if_neg e_15_3]; rw [if_pos e_15_4], rfl, rfl⟩
  by_cases e_15_5 : w = 5
  · refine V_tableIn (q := 99) (off := 84) dX6_entry_15 (by rw [e_15_5]; decide) (by rw [e_15_5]; decide) (by rw [e_15_5]; decide) (by decide) ?_
    refine V_aload_n (q := 100) dX6_entry_99 rfl rfl ?_
    refine V_getR (q := 103) (n := 54) 6 18 kf_X6_52 (by decide) (by decide) rfl (by decide) dX6_entry_100 rfl ?_
    refine V_iload_n (q := 104) dX6_entry_103 rfl rfl ?_
    refine V_zld (q := 105) (e) 60 rfl (by omega) (by decide) (by omega) (by decide) rfl (by decide) dX6_entry_104 rfl ?_
    refine V_if_eq (tgt := 112) (q := 108) dX6_entry_105 (by decide) rfl (fun c_105 => ?_) (fun c_105 => ?_)
    · refine V_iconst (q := 113) (v := 0) dX6_entry_112 (by decide) rfl ?_
      exact V_iret hκ rfl rfl dX6_entry_113 ⟨by unfold entV; rw [if_neg e_15_0]; rw [if_neg e_15_1]; rw [if_neg e_15_2]; rw [if_neg e_15_3]; rw [if_neg e_15_4]; rw [if_pos e_15_5]; rw [if_pos c_105], rfl, rfl⟩
    · refine V_iconst (q := 109) (v := 1) dX6_entry_108 (by decide) rfl ?_
      refine V_goto (q := 113) dX6_entry_109 (by decide) ?_
      exact V_iret hκ rfl rfl dX6_entry_113 ⟨by unfold entV; rw [if_neg e_15_0]; rw [if_neg e_15_1]; rw [if_neg e_15_2]; rw [if_neg e_15_3]; rw [if_neg e_15_4]; rw [if_pos e_15_5]; rw [if_neg c_105], rfl, rfl⟩
  by_cases e_15_6 : w = 6
  · refine V_tableIn (q := 114) (off := 99) dX6_entry_15 (by rw [e_15_6]; decide) (by rw [e_15_6]; decide) (by rw [e_15_6]; decide) (by decide) ?_
    refine V_aload_n (q := 115) dX6_entry_114 rfl rfl ?_
    refine V_getR (q := 118) (n := 63) 6 30 kf_X6_80 (by decide) (by decide) rfl (by decide) dX6_entry_115 rfl ?_
    refine V_iload_n (q := 119) dX6_entry_118 rfl rfl ?_
    refine V_zld (q := 120) (e) 60 rfl (by omega) (by decide) (by omega) (by decide) rfl (by decide) dX6_entry_119 rfl ?_
    refine V_if_eq (tgt := 127) (q := 123) dX6_entry_120 (by decide) rfl (fun c_120 => ?_) (fun c_120 => ?_)
    · refine V_iconst (q := 128) (v := 0) dX6_entry_127 (by decide) rfl ?_
      exact V_iret hκ rfl rfl dX6_entry_128 ⟨by unfold entV; rw [if_neg e_15_0]; rw [if_neg e_15_1]; rw [if_neg e_15_2]; rw [if_neg e_15_3]; rw [if_neg e_15_4]; rw [if_neg e_15_5]; rw [if_pos e_15_6]; rw [if_pos c_120], rfl, rfl⟩
    · refine V_iconst (q := 124) (v := 1) dX6_entry_123 (by decide) rfl ?_
      refine V_goto (q := 128) dX6_entry_124 (by decide) ?_
      exact V_iret hκ rfl rfl dX6_entry_128 ⟨by unfold entV; rw [if_neg e_15_0]; rw [if_neg e_15_1]; rw [if_neg e_15_2]; rw [if_neg e_15_3]; rw [if_neg e_15_4]; rw [if_neg e_15_5]; rw [if_pos e_15_6]; rw [if_neg c_120], rfl, rfl⟩
  by_cases e_15_7 : w = 7
  · refine V_tableIn (q := 129) (off := 114) dX6_entry_15 (by rw [e_15_7]; decide) (by rw [e_15_7]; decide) (by rw [e_15_7]; decide) (by decide) ?_
    refine V_aload_n (q := 130) dX6_entry_129 rfl rfl ?_
    refine V_iload_n (q := 131) dX6_entry_130 rfl rfl ?_
    refine V_cV1I (q := 134) (o := 6) (N := mX6_rankOf) (tX6_rankOf (by omega)) hκ.big (by decide) gX6_rankOf kl_X6_181 ki_X6_rankOf ks_X6_rankOf (by decide) rfl (Nat.le_of_ble_eq_true rfl) dX6_entry_131 rfl ?_
    exact V_iret hκ rfl rfl dX6_entry_134 ⟨by unfold entV; rw [if_neg e_15_0]; rw [if_neg e_15_1]; rw [if_neg e_15_2]; rw [if_neg e_15_3]; rw [if_neg e_15_4]; rw [if_neg e_15_5]; rw [if_neg e_15_6]; rw [if_pos e_15_7], rfl, rfl⟩
  by_cases e_15_8 : w = 8
  · refine V_tableIn (q := 135) (off := 120) dX6_entry_15 (by rw [e_15_8]; decide) (by rw [e_15_8]; decide) (by rw [e_15_8]; decide) (by decide) ?_
    refine V_aload_n (q := 136) dX6_entry_135 rfl rfl ?_
    refine V_getR (q := 139) (n := 53) 6 17 kf_X6_49 (by decide) (by decide) rfl (by decide) dX6_entry_136 rfl ?_
    refine V_iload_n (q := 140) dX6_entry_139 rfl rfl ?_
    refine V_ild (q := 141) (e) 60 rfl (by omega) (by decide) (by omega) (by decide) rfl (by decide) dX6_entry_140 rfl ?_
    exact V_iret hκ rfl rfl dX6_entry_141 ⟨by unfold entV; rw [if_neg e_15_0]; rw [if_neg e_15_1]; rw [if_neg e_15_2]; rw [if_neg e_15_3]; rw [if_neg e_15_4]; rw [if_neg e_15_5]; rw [if_neg e_15_6]; rw [if_neg e_15_7]; rw [if_pos e_15_8], rfl, rfl⟩
  refine V_tableOut (q := 142) dX6_entry_15 (by have h0 := lv_neT e_15_0 (a := 0) (by decide); have h1 := lv_neT e_15_1 (a := 1) (by decide); have h2 := lv_neT e_15_2 (a := 2) (by decide); have h3 := lv_neT e_15_3 (a := 3) (by decide); have h4 := lv_neT e_15_4 (a := 4) (by decide); have h5 := lv_neT e_15_5 (a := 5) (by decide); have h6 := lv_neT e_15_6 (a := 6) (by decide); have h7 := lv_neT e_15_7 (a := 7) (by decide); have h8 := lv_neT e_15_8 (a := 8) (by decide); omega) (by decide) ?_
  refine V_iconst (q := 143) (v := (-1)) dX6_entry_142 (by decide) rfl ?_
  exact V_iret hκ rfl rfl dX6_entry_143 ⟨by unfold entV; rw [if_neg e_15_0]; rw [if_neg e_15_1]; rw [if_neg e_15_2]; rw [if_neg e_15_3]; rw [if_neg e_15_4]; rw [if_neg e_15_5]; rw [if_neg e_15_6]; rw [if_neg e_15_7]; rw [if_neg e_15_8]; skip, rfl, rfl⟩
theorem tX6_parts0 {F : vFt} {Ar : vAt} {x : vXt} {i c : Int32} {fr : Bool} (hb : ¬ ((0 ≤ i ∧ i ≤ F 390 - 1) ∧ (0 ≤ c ∧ c ≤ 7))) : C0 mX6_parts 2 [.ref 6, .int i, .int c, .int (if fr then 1 else 0)] F Ar x (vEq (some (.int (-1))) F Ar) := by
  refine C0_of (by decide +kernel) (Nat.le_of_ble_eq_true rfl) (fun κ hκ => ?_)
  show V κ mX6_parts 0 [.ref 6, .int i, .int c, .int (if fr then 1 else 0), .null] [] F Ar x
  refine V_aload_n (q := 1) dX6_parts_0 rfl rfl ?_
  refine V_iload_n (q := 2) dX6_parts_1 rfl rfl ?_
  refine V_cV1I (q := 5) (o := 6) (N := mX6_isHull) tX6_isHull hκ.big (by decide) gX6_isHull kl_X6_156 ki_X6_isHull ks_X6_isHull (by decide) rfl (Nat.le_of_ble_eq_true rfl) dX6_parts_2 rfl ?_
  refine V_if_eq (tgt := 15) (q := 8) dX6_parts_5 (by decide) rfl (fun c_5 => ?_) (fun c_5 => ?_)
  · refine V_iconst (q := 16) (v := (-1)) dX6_parts_15 (by decide) rfl ?_
    exact V_iret hκ rfl rfl dX6_parts_16 vEq.rf
  · refine V_iload_n (q := 9) dX6_parts_8 rfl rfl ?_
    refine V_cS1I (q := 12) (N := mX6_isPerson) tX6_isPerson hκ.big (by decide) gX6_isPerson kl_X6_162 kt_X6_isPerson (Nat.le_of_ble_eq_true rfl) dX6_parts_9 rfl ?_
    refine V_if_ne (tgt := 17) (q := 15) dX6_parts_12 (by decide) rfl (fun c_12 => absurd ⟨vB_n0.mp c_5, vB_n0.mp c_12⟩ hb) (fun c_12 => ?_)
    refine V_iconst (q := 16) (v := (-1)) dX6_parts_15 (by decide) rfl ?_
    exact V_iret hκ rfl rfl dX6_parts_16 vEq.rf
theorem tX6_parts {F : vFt} {Ar : vAt} {x : vXt} {n m h c : Nat} {fr : Bool} (hn : F 395 = nI n) (hn60 : n ≤ 60) (hok : mOk Ar n) (hH : F 390 = nI m) (hm : m ≤ 5) (hh : h < m) (hc : c < 8) : C0 mX6_parts 2 [.ref 6, .int (nI h), .int (nI c), .int (if fr then 1 else 0)] F Ar x (vEq (some (.int (if fr then mAt Ar n 60 (8 * h + c) - mAt Ar n 61 (8 * h + c) else mAt Ar n 60 (8 * h + c)))) F (mAt Ar n)) := by
  refine C0_of (by decide +kernel) (Nat.le_of_ble_eq_true rfl) (fun κ hκ => ?_)
  show V κ mX6_parts 0 [.ref 6, .int (nI h), .int (nI c), .int (if fr then 1 else 0), .null] [] F Ar x
  have hg : 0 ≤ nI h ∧ nI h ≤ F 390 - 1 := by rw [hH]; exact (v_has (by omega)).mpr ⟨h, hh, rfl⟩
  have hc7 : (0 : Int32) ≤ nI c ∧ nI c ≤ 7 := (v_to (n := 7) rfl (by decide)).mpr ⟨c, by omega, rfl⟩
  refine V_aload_n (q := 1) dX6_parts_0 rfl rfl ?_
  refine V_iload_n (q := 2) dX6_parts_1 rfl rfl ?_
  refine V_cV1I (q := 5) (o := 6) (N := mX6_isHull) tX6_isHull hκ.big (by decide) gX6_isHull kl_X6_156 ki_X6_isHull ks_X6_isHull (by decide) rfl (Nat.le_of_ble_eq_true rfl) dX6_parts_2 rfl ?_
  refine V_if_eq (tgt := 15) (q := 8) dX6_parts_5 (by decide) rfl (fun c_5 => absurd c_5 (vB_n0.mpr hg)) (fun c_5 => ?_)
  refine V_iload_n (q := 9) dX6_parts_8 rfl rfl ?_
  refine V_cS1I (q := 12) (N := mX6_isPerson) tX6_isPerson hκ.big (by decide) gX6_isPerson kl_X6_162 kt_X6_isPerson (Nat.le_of_ble_eq_true rfl) dX6_parts_9 rfl ?_
  refine V_if_ne (tgt := 17) (q := 15) dX6_parts_12 (by decide) rfl (fun c_12 => ?_) (fun c_12 => absurd c_12 (vB_n0.mpr hc7))
  refine V_aload_n (q := 18) dX6_parts_17 rfl rfl ?_
  refine V_cV0U (q := 21) (o := 6) (N := mX6_goThrough) (tX6_goThrough hn hn60 hok) hκ.big (by decide) gX6_goThrough kl_X6_178 ki_X6_goThrough ks_X6_goThrough (by decide) rfl (Nat.le_of_ble_eq_true rfl) dX6_parts_18 rfl ?_
  refine V_bipush (q := 23) (v := 8) dX6_parts_21 (by decide) rfl ?_
  refine V_iload_n (q := 24) dX6_parts_23 rfl rfl ?_
  refine V_imul (q := 25) dX6_parts_24 rfl ?_
  refine V_iload_n (q := 26) dX6_parts_25 rfl rfl ?_
  refine V_iadd (q := 27) dX6_parts_26 rfl ?_
  refine V_istore (q := 29) dX6_parts_27 (Nat.le_of_ble_eq_true rfl) rfl rfl ?_
  refine V_iload_n (q := 30) dX6_parts_29 rfl rfl ?_
  refine V_if_eq (tgt := 51) (q := 33) dX6_parts_30 (by decide) rfl (fun c_30 => ?_) (fun c_30 => ?_)
  · refine V_aload_n (q := 52) dX6_parts_51 rfl rfl ?_
    refine V_getR (q := 55) (n := 60) 6 27 kf_X6_71 (by decide) (by decide) rfl (by decide) dX6_parts_52 rfl ?_
    refine V_iload (q := 57) dX6_parts_55 rfl rfl ?_
    refine V_ild (q := 58) (8 * h + c) 40 (v_m8 h c) (by omega) (by decide) (by omega) (by decide) rfl (by decide) dX6_parts_57 rfl ?_
    exact V_iret hκ rfl rfl dX6_parts_58 ⟨by cases fr; (· rfl); (· exact absurd c_30 (by decide)), rfl, rfl⟩
  · refine V_aload_n (q := 34) dX6_parts_33 rfl rfl ?_
    refine V_getR (q := 37) (n := 60) 6 27 kf_X6_71 (by decide) (by decide) rfl (by decide) dX6_parts_34 rfl ?_
    refine V_iload (q := 39) dX6_parts_37 rfl rfl ?_
    refine V_ild (q := 40) (8 * h + c) 40 (v_m8 h c) (by omega) (by decide) (by omega) (by decide) rfl (by decide) dX6_parts_39 rfl ?_
    refine V_aload_n (q := 41) dX6_parts_40 rfl rfl ?_
    refine V_getR (q := 44) (n := 61) 6 28 kf_X6_74 (by decide) (by decide) rfl (by decide) dX6_parts_41 rfl ?_
    refine V_iload (q := 46) dX6_parts_44 rfl rfl ?_
    refine V_ild (q := 47) (8 * h + c) 40 (v_m8 h c) (by omega) (by decide) (by omega) (by decide) rfl (by decide) dX6_parts_46 rfl ?_
    refine V_isub (q := 48) dX6_parts_47 rfl ?_
    refine V_goto (q := 58) dX6_parts_48 (by decide) ?_
    exact V_iret hκ rfl rfl dX6_parts_58 ⟨by cases fr; (· exact absurd rfl c_30); (· rfl), rfl, rfl⟩
theorem tX6_held0 {F : vFt} {Ar : vAt} {x : vXt} {i c : Int32} (hb : ¬ ((0 ≤ i ∧ i ≤ F 390 - 1) ∧ (0 ≤ c ∧ c ≤ 7))) : C0 mX6_held 2 [.ref 6, .int i, .int c] F Ar x (vEq (some (.int (-1))) F Ar) := by
  refine C0_of (by decide +kernel) (Nat.le_of_ble_eq_true rfl) (fun κ hκ => ?_)
  show V κ mX6_held 0 [.ref 6, .int i, .int c, .null, .null] [] F Ar x
  refine V_aload_n (q := 1) dX6_held_0 rfl rfl ?_
  refine V_iload_n (q := 2) dX6_held_1 rfl rfl ?_
  refine V_cV1I (q := 5) (o := 6) (N := mX6_isHull) tX6_isHull hκ.big (by decide) gX6_isHull kl_X6_156 ki_X6_isHull ks_X6_isHull (by decide) rfl (Nat.le_of_ble_eq_true rfl) dX6_held_2 rfl ?_
  refine V_if_eq (tgt := 15) (q := 8) dX6_held_5 (by decide) rfl (fun c_5 => ?_) (fun c_5 => ?_)
  · refine V_iconst (q := 16) (v := (-1)) dX6_held_15 (by decide) rfl ?_
    exact V_iret hκ rfl rfl dX6_held_16 vEq.rf
  · refine V_iload_n (q := 9) dX6_held_8 rfl rfl ?_
    refine V_cS1I (q := 12) (N := mX6_isPerson) tX6_isPerson hκ.big (by decide) gX6_isPerson kl_X6_162 kt_X6_isPerson (Nat.le_of_ble_eq_true rfl) dX6_held_9 rfl ?_
    refine V_if_ne (tgt := 17) (q := 15) dX6_held_12 (by decide) rfl (fun c_12 => absurd ⟨vB_n0.mp c_5, vB_n0.mp c_12⟩ hb) (fun c_12 => ?_)
    refine V_iconst (q := 16) (v := (-1)) dX6_held_15 (by decide) rfl ?_
    exact V_iret hκ rfl rfl dX6_held_16 vEq.rf
def hdC (Ar : vAt) (h c : Nat) : Nat → Int32 := fun e => if ¬ Ar 62 e = 0 ∧ Ar 49 e = nI h ∧ Ar 51 e = nI c then Ar 52 e else 0
theorem lp_X6_held {F : vFt} {Ar : vAt} {x : vXt} {n h c : Nat} {κ : vK} (hκ : vStd κ 2 x (vEq (some (.int (vSum (hdC (mAt Ar n) h c) n))) F (mAt Ar n))) (hn : F 395 = nI n) (hn60 : n ≤ 60) : ∀ k i, i + k = n → V κ mX6_held 26 [.ref 6, .int (nI h), .int (nI c), .int (vSum (hdC (mAt Ar n) h c) i), .int (nI i)] [] F (mAt Ar n) x := by
  intro k
  induction k with
  | zero =>
    intro i hi
    obtain rfl : i = n := by omega
    refine V_iload (q := 28) dX6_held_26 rfl rfl ?_
    refine V_aload_n (q := 29) dX6_held_28 rfl rfl ?_
    refine V_getI (q := 32) (n := 395) 6 11 kf_X6_159 (by decide) (by decide) rfl rfl dX6_held_29 rfl ?_
    rw [hn]
    refine V_icmp_ge (tgt := 87) (q := 35) dX6_held_32 (by decide) rfl (fun c_32 => ?_) (fun c_32 => absurd c_32 (v_gt (by omega) (by omega) (Nat.le_refl _)))
    refine V_iload_n (q := 88) dX6_held_87 rfl rfl ?_
    exact V_iret hκ rfl rfl dX6_held_88 vEq.rf
  | succ k ih =>
    intro i hi
    refine V_iload (q := 28) dX6_held_26 rfl rfl ?_
    refine V_aload_n (q := 29) dX6_held_28 rfl rfl ?_
    refine V_getI (q := 32) (n := 395) 6 11 kf_X6_159 (by decide) (by decide) rfl rfl dX6_held_29 rfl ?_
    rw [hn]
    refine V_icmp_ge (tgt := 87) (q := 35) dX6_held_32 (by decide) rfl (fun c_32 => absurd c_32 (v_gf (by omega) (by omega) (by omega))) (fun c_32 => ?_)
    refine V_iload_n (q := 36) dX6_held_35 rfl rfl ?_
    refine V_aload_n (q := 37) dX6_held_36 rfl rfl ?_
    refine V_getR (q := 40) (n := 62) 6 29 kf_X6_77 (by decide) (by decide) rfl (by decide) dX6_held_37 rfl ?_
    refine V_iload (q := 42) dX6_held_40 rfl rfl ?_
    refine V_zld (q := 43) (i) 60 rfl (by omega) (by decide) (by omega) (by decide) rfl (by decide) dX6_held_42 rfl ?_
    refine V_if_eq (tgt := 78) (q := 46) dX6_held_43 (by decide) rfl (fun c_43 => ?_) (fun c_43 => ?_)
    · refine V_iconst (q := 79) (v := 0) dX6_held_78 (by decide) rfl ?_
      refine V_iadd (q := 80) dX6_held_79 rfl ?_
      refine V_istore_n (q := 81) dX6_held_80 (Nat.le_of_ble_eq_true rfl) rfl rfl ?_
      refine V_iincN (q := 84) dX6_held_81 rfl (Nat.le_of_ble_eq_true rfl) rfl rfl ?_
      refine V_goto (q := 26) dX6_held_84 (by decide) ?_
      have ih2 := ih (i + 1) (by omega)
      unfold vSum at ih2
      rw [show hdC (mAt Ar n) h c i = 0 from if_neg (fun h => h.1 c_43)] at ih2
      exact ih2
    · refine V_aload_n (q := 47) dX6_held_46 rfl rfl ?_
      refine V_getR (q := 50) (n := 49) 6 13 kf_X6_37 (by decide) (by decide) rfl (by decide) dX6_held_47 rfl ?_
      refine V_iload (q := 52) dX6_held_50 rfl rfl ?_
      refine V_ild (q := 53) (i) 60 rfl (by omega) (by decide) (by omega) (by decide) rfl (by decide) dX6_held_52 rfl ?_
      refine V_iload_n (q := 54) dX6_held_53 rfl rfl ?_
      refine V_icmp_ne (tgt := 78) (q := 57) dX6_held_54 (by decide) rfl (fun c_54 => ?_) (fun c_54 => ?_)
      · refine V_iconst (q := 79) (v := 0) dX6_held_78 (by decide) rfl ?_
        refine V_iadd (q := 80) dX6_held_79 rfl ?_
        refine V_istore_n (q := 81) dX6_held_80 (Nat.le_of_ble_eq_true rfl) rfl rfl ?_
        refine V_iincN (q := 84) dX6_held_81 rfl (Nat.le_of_ble_eq_true rfl) rfl rfl ?_
        refine V_goto (q := 26) dX6_held_84 (by decide) ?_
        have ih2 := ih (i + 1) (by omega)
        unfold vSum at ih2
        rw [show hdC (mAt Ar n) h c i = 0 from if_neg (fun h => c_54 h.2.1)] at ih2
        exact ih2
      · refine V_aload_n (q := 58) dX6_held_57 rfl rfl ?_
        refine V_getR (q := 61) (n := 51) 6 15 kf_X6_43 (by decide) (by decide) rfl (by decide) dX6_held_58 rfl ?_
        refine V_iload (q := 63) dX6_held_61 rfl rfl ?_
        refine V_ild (q := 64) (i) 60 rfl (by omega) (by decide) (by omega) (by decide) rfl (by decide) dX6_held_63 rfl ?_
        refine V_iload_n (q := 65) dX6_held_64 rfl rfl ?_
        refine V_icmp_ne (tgt := 78) (q := 68) dX6_held_65 (by decide) rfl (fun c_65 => ?_) (fun c_65 => ?_)
        · refine V_iconst (q := 79) (v := 0) dX6_held_78 (by decide) rfl ?_
          refine V_iadd (q := 80) dX6_held_79 rfl ?_
          refine V_istore_n (q := 81) dX6_held_80 (Nat.le_of_ble_eq_true rfl) rfl rfl ?_
          refine V_iincN (q := 84) dX6_held_81 rfl (Nat.le_of_ble_eq_true rfl) rfl rfl ?_
          refine V_goto (q := 26) dX6_held_84 (by decide) ?_
          have ih2 := ih (i + 1) (by omega)
          unfold vSum at ih2
          rw [show hdC (mAt Ar n) h c i = 0 from if_neg (fun h => c_65 h.2.2)] at ih2
          exact ih2
        · refine V_aload_n (q := 69) dX6_held_68 rfl rfl ?_
          refine V_getR (q := 72) (n := 52) 6 16 kf_X6_46 (by decide) (by decide) rfl (by decide) dX6_held_69 rfl ?_
          refine V_iload (q := 74) dX6_held_72 rfl rfl ?_
          refine V_ild (q := 75) (i) 60 rfl (by omega) (by decide) (by omega) (by decide) rfl (by decide) dX6_held_74 rfl ?_
          refine V_goto (q := 79) dX6_held_75 (by decide) ?_
          refine V_iadd (q := 80) dX6_held_79 rfl ?_
          refine V_istore_n (q := 81) dX6_held_80 (Nat.le_of_ble_eq_true rfl) rfl rfl ?_
          refine V_iincN (q := 84) dX6_held_81 rfl (Nat.le_of_ble_eq_true rfl) rfl rfl ?_
          refine V_goto (q := 26) dX6_held_84 (by decide) ?_
          have ih2 := ih (i + 1) (by omega)
          unfold vSum at ih2
          rw [show hdC (mAt Ar n) h c i = mAt Ar n 52 i from if_pos ⟨c_43, c_54, c_65⟩] at ih2
          exact ih2
theorem tX6_held {F : vFt} {Ar : vAt} {x : vXt} {n m h c : Nat} (hn : F 395 = nI n) (hn60 : n ≤ 60) (hok : mOk Ar n) (hH : F 390 = nI m) (hm : m ≤ 5) (hh : h < m) (hc : c < 8) : C0 mX6_held 2 [.ref 6, .int (nI h), .int (nI c)] F Ar x (vEq (some (.int (vSum (hdC (mAt Ar n) h c) n))) F (mAt Ar n)) := by
  refine C0_of (by decide +kernel) (Nat.le_of_ble_eq_true rfl) (fun κ hκ => ?_)
  show V κ mX6_held 0 [.ref 6, .int (nI h), .int (nI c), .null, .null] [] F Ar x
  have hg : 0 ≤ nI h ∧ nI h ≤ F 390 - 1 := by rw [hH]; exact (v_has (by omega)).mpr ⟨h, hh, rfl⟩
  have hc7 : (0 : Int32) ≤ nI c ∧ nI c ≤ 7 := (v_to (n := 7) rfl (by decide)).mpr ⟨c, by omega, rfl⟩
  refine V_aload_n (q := 1) dX6_held_0 rfl rfl ?_
  refine V_iload_n (q := 2) dX6_held_1 rfl rfl ?_
  refine V_cV1I (q := 5) (o := 6) (N := mX6_isHull) tX6_isHull hκ.big (by decide) gX6_isHull kl_X6_156 ki_X6_isHull ks_X6_isHull (by decide) rfl (Nat.le_of_ble_eq_true rfl) dX6_held_2 rfl ?_
  refine V_if_eq (tgt := 15) (q := 8) dX6_held_5 (by decide) rfl (fun c_5 => absurd c_5 (vB_n0.mpr hg)) (fun c_5 => ?_)
  refine V_iload_n (q := 9) dX6_held_8 rfl rfl ?_
  refine V_cS1I (q := 12) (N := mX6_isPerson) tX6_isPerson hκ.big (by decide) gX6_isPerson kl_X6_162 kt_X6_isPerson (Nat.le_of_ble_eq_true rfl) dX6_held_9 rfl ?_
  refine V_if_ne (tgt := 17) (q := 15) dX6_held_12 (by decide) rfl (fun c_12 => ?_) (fun c_12 => absurd c_12 (vB_n0.mpr hc7))
  refine V_aload_n (q := 18) dX6_held_17 rfl rfl ?_
  refine V_cV0U (q := 21) (o := 6) (N := mX6_goThrough) (tX6_goThrough hn hn60 hok) hκ.big (by decide) gX6_goThrough kl_X6_178 ki_X6_goThrough ks_X6_goThrough (by decide) rfl (Nat.le_of_ble_eq_true rfl) dX6_held_18 rfl ?_
  refine V_iconst (q := 22) (v := 0) dX6_held_21 (by decide) rfl ?_
  refine V_istore_n (q := 23) dX6_held_22 (Nat.le_of_ble_eq_true rfl) rfl rfl ?_
  refine V_iconst (q := 24) (v := 0) dX6_held_23 (by decide) rfl ?_
  refine V_istore (q := 26) dX6_held_24 (Nat.le_of_ble_eq_true rfl) rfl rfl ?_
  exact lp_X6_held hκ hn hn60 n 0 (by omega)
theorem tX6_manager0 {F : vFt} {Ar : vAt} {x : vXt} {i : Int32} (hb : ¬ (0 ≤ i ∧ i ≤ F 390 - 1)) : C0 mX6_manager 2 [.ref 6, .int i] F Ar x (vEq (some (.int (-1))) F Ar) := by
  refine C0_of (by decide +kernel) (Nat.le_of_ble_eq_true rfl) (fun κ hκ => ?_)
  show V κ mX6_manager 0 [.ref 6, .int i, .null, .null] [] F Ar x
  refine V_aload_n (q := 1) dX6_manager_0 rfl rfl ?_
  refine V_iload_n (q := 2) dX6_manager_1 rfl rfl ?_
  refine V_cV1I (q := 5) (o := 6) (N := mX6_isHull) tX6_isHull hκ.big (by decide) gX6_isHull kl_X6_156 ki_X6_isHull ks_X6_isHull (by decide) rfl (Nat.le_of_ble_eq_true rfl) dX6_manager_2 rfl ?_
  refine V_if_ne (tgt := 10) (q := 8) dX6_manager_5 (by decide) rfl (fun c_5 => absurd (vB_n0.mp c_5) hb) (fun c_5 => ?_)
  refine V_iconst (q := 9) (v := (-1)) dX6_manager_8 (by decide) rfl ?_
  exact V_iret hκ rfl rfl dX6_manager_9 vEq.rf
theorem lp_X6_man {F : vFt} {Ar : vAt} {x : vXt} {n h : Nat} {κ : vK} (hκ : vStd κ 2 x (vEq (some (.int (nI (vBest (fun c => mAt Ar n 60 (8 * h + c)) 8)))) F (mAt Ar n))) (hh : h < 5) : ∀ k i, 0 < i → i + k = 8 → V κ mX6_manager 18 [.ref 6, .int (nI h), .int (nI (vBest (fun c => mAt Ar n 60 (8 * h + c)) i)), .int (nI i)] [] F (mAt Ar n) x := by
  intro k
  induction k with
  | zero =>
    intro i h0 hi
    obtain rfl : i = 8 := by omega
    refine V_iload_n (q := 19) dX6_manager_18 rfl rfl ?_
    refine V_bipush (q := 21) (v := 8) dX6_manager_19 (by decide) rfl ?_
    refine V_icmp_ge (tgt := 61) (q := 24) dX6_manager_21 (by decide) rfl (fun c_21 => ?_) (fun c_21 => absurd c_21 (v_gt (i := 8) (n := 8) (by decide) (by decide) (Nat.le_refl _)))
    refine V_iload_n (q := 62) dX6_manager_61 rfl rfl ?_
    exact V_iret hκ rfl rfl dX6_manager_62 vEq.rf
  | succ k ih =>
    intro i h0 hi
    have hb := vBest_lt (fun c => mAt Ar n 60 (8 * h + c)) i h0
    have ih2 := ih (i + 1) (by omega) (by omega)
    unfold vBest at ih2
    refine V_iload_n (q := 19) dX6_manager_18 rfl rfl ?_
    refine V_bipush (q := 21) (v := 8) dX6_manager_19 (by decide) rfl ?_
    refine V_icmp_ge (tgt := 61) (q := 24) dX6_manager_21 (by decide) rfl (fun c_21 => absurd c_21 (v_gf (n := 8) (by omega) (by decide) (by omega))) (fun c_21 => ?_)
    refine V_aload_n (q := 25) dX6_manager_24 rfl rfl ?_
    refine V_getR (q := 28) (n := 60) 6 27 kf_X6_71 (by decide) (by decide) rfl (by decide) dX6_manager_25 rfl ?_
    refine V_bipush (q := 30) (v := 8) dX6_manager_28 (by decide) rfl ?_
    refine V_iload_n (q := 31) dX6_manager_30 rfl rfl ?_
    refine V_imul (q := 32) dX6_manager_31 rfl ?_
    refine V_iload_n (q := 33) dX6_manager_32 rfl rfl ?_
    refine V_iadd (q := 34) dX6_manager_33 rfl ?_
    refine V_ild (q := 35) (8 * h + i) 40 (v_m8 h i) (by omega) (by decide) (by omega) (by decide) rfl (by decide) dX6_manager_34 rfl ?_
    refine V_aload_n (q := 36) dX6_manager_35 rfl rfl ?_
    refine V_getR (q := 39) (n := 60) 6 27 kf_X6_71 (by decide) (by decide) rfl (by decide) dX6_manager_36 rfl ?_
    refine V_bipush (q := 41) (v := 8) dX6_manager_39 (by decide) rfl ?_
    refine V_iload_n (q := 42) dX6_manager_41 rfl rfl ?_
    refine V_imul (q := 43) dX6_manager_42 rfl ?_
    refine V_iload_n (q := 44) dX6_manager_43 rfl rfl ?_
    refine V_iadd (q := 45) dX6_manager_44 rfl ?_
    refine V_ild (q := 46) (8 * h + vBest (fun c => mAt Ar n 60 (8 * h + c)) i) 40 (v_m8 h _) (by omega) (by decide) (by omega) (by decide) rfl (by decide) dX6_manager_45 rfl ?_
    refine V_icmp_le (tgt := 53) (q := 49) dX6_manager_46 (by decide) rfl (fun c_46 => ?_) (fun c_46 => ?_)
    · refine V_iload_n (q := 54) dX6_manager_53 rfl rfl ?_
      refine V_istore_n (q := 55) dX6_manager_54 (Nat.le_of_ble_eq_true rfl) rfl rfl ?_
      refine V_iincN (q := 58) dX6_manager_55 rfl (Nat.le_of_ble_eq_true rfl) rfl rfl ?_
      refine V_goto (q := 18) dX6_manager_58 (by decide) ?_
      rw [if_neg (fun q => v_nlt q c_46)] at ih2
      exact ih2
    · refine V_iload_n (q := 50) dX6_manager_49 rfl rfl ?_
      refine V_goto (q := 54) dX6_manager_50 (by decide) ?_
      refine V_istore_n (q := 55) dX6_manager_54 (Nat.le_of_ble_eq_true rfl) rfl rfl ?_
      refine V_iincN (q := 58) dX6_manager_55 rfl (Nat.le_of_ble_eq_true rfl) rfl rfl ?_
      refine V_goto (q := 18) dX6_manager_58 (by decide) ?_
      rw [if_pos (v_lt c_46)] at ih2
      exact ih2
theorem tX6_manager {F : vFt} {Ar : vAt} {x : vXt} {n m h : Nat} (hn : F 395 = nI n) (hn60 : n ≤ 60) (hok : mOk Ar n) (hH : F 390 = nI m) (hm : m ≤ 5) (hh : h < m) : C0 mX6_manager 2 [.ref 6, .int (nI h)] F Ar x (vEq (some (.int (nI (vBest (fun c => mAt Ar n 60 (8 * h + c)) 8)))) F (mAt Ar n)) := by
  refine C0_of (by decide +kernel) (Nat.le_of_ble_eq_true rfl) (fun κ hκ => ?_)
  show V κ mX6_manager 0 [.ref 6, .int (nI h), .null, .null] [] F Ar x
  have hg : 0 ≤ nI h ∧ nI h ≤ F 390 - 1 := by rw [hH]; exact (v_has (by omega)).mpr ⟨h, hh, rfl⟩
  refine V_aload_n (q := 1) dX6_manager_0 rfl rfl ?_
  refine V_iload_n (q := 2) dX6_manager_1 rfl rfl ?_
  refine V_cV1I (q := 5) (o := 6) (N := mX6_isHull) tX6_isHull hκ.big (by decide) gX6_isHull kl_X6_156 ki_X6_isHull ks_X6_isHull (by decide) rfl (Nat.le_of_ble_eq_true rfl) dX6_manager_2 rfl ?_
  refine V_if_ne (tgt := 10) (q := 8) dX6_manager_5 (by decide) rfl (fun c_5 => ?_) (fun c_5 => absurd c_5 (vB_n0.mpr hg))
  refine V_aload_n (q := 11) dX6_manager_10 rfl rfl ?_
  refine V_cV0U (q := 14) (o := 6) (N := mX6_goThrough) (tX6_goThrough hn hn60 hok) hκ.big (by decide) gX6_goThrough kl_X6_178 ki_X6_goThrough ks_X6_goThrough (by decide) rfl (Nat.le_of_ble_eq_true rfl) dX6_manager_11 rfl ?_
  refine V_iconst (q := 15) (v := 0) dX6_manager_14 (by decide) rfl ?_
  refine V_istore_n (q := 16) dX6_manager_15 (Nat.le_of_ble_eq_true rfl) rfl rfl ?_
  refine V_iconst (q := 17) (v := 1) dX6_manager_16 (by decide) rfl ?_
  refine V_istore_n (q := 18) dX6_manager_17 (Nat.le_of_ble_eq_true rfl) rfl rfl ?_
  have h9 := lp_X6_man (F := F) (Ar := Ar) hκ (by omega) 7 1 (by decide) (by decide)
  rw [vBest_1] at h9
  exact h9
