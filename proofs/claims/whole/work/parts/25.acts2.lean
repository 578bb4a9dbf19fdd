def szF (F : vFt) (l b d r : Int32) : vFt := upd (upd (upd (upd F 131 l) 132 b) 133 d) 134 r
/-- the tons that a text says, with what lies in the pile's row -/
def tonV (l b d r : Int32) (t pl : Nat → Int32) : Int32 := rVal (rRun l b d r t 40 0 (pl, 0, 0))
theorem txt_row {a : Nat} (ha : a < 5) {x : vXt} : 9 ≤ 10 + a ∧ 10 + a < 66 + x.1 ∧ vTyA (10 + a) = 0 ∧ vLen (10 + a) = 40 ∧ 10 + a ≠ 21 := by
  refine ⟨by omega, by omega, ?_, ?_, by omega⟩
  · match a, ha with
    | 0, _ => decide
    | 1, _ => decide
    | 2, _ => decide
    | 3, _ => decide
    | 4, _ => decide
  · match a, ha with
    | 0, _ => decide
    | 1, _ => decide
    | 2, _ => decide
    | 3, _ => decide
    | 4, _ => decide
theorem cell_txt (ad : Nat → Nat) (cA : Nat → ClassId) (F : vFt) (Ar : vAt) (sh : Nat → Nat) : vCell ad cA F Ar sh 7 = .inl (cA 2, 5, .inr (.inr (.inr (.inr (fun j => some (ad (10 + j))))))) := rfl
theorem cell_shp (ad : Nat → Nat) (cA : Nat → ClassId) (F : vFt) (Ar : vAt) (sh : Nat → Nat) : vCell ad cA F Ar sh 8 = .inl (cA 2, 5, .inr (.inr (.inr (.inr (fun j => some (ad (sh j))))))) := rfl
theorem V_aaldT {κ : vK} {M : vMx} {pc q : Nat} {ls rest : List Value} {F : vFt} {Ar : vAt} {x : vXt} (a : Nat) (ha : a < 5) (d : decode M.2.1 pc = .ok (.aaload, 1)) (hq : pc + 1 = q) (k : V κ M q ls (.ref (10 + a) :: rest) F Ar x) : V κ M pc ls (.int (nI a) :: .ref 7 :: rest) F Ar x := by
  refine V_aald (f := fun j => 10 + j) (fun ad cA => cell_txt ad cA F Ar x.2) (by omega) (vp_in_nI ha (by decide)) d hq ?_
  rw [nI_clamp (by omega)]
  exact k
theorem V_aaldS {κ : vK} {M : vMx} {pc q : Nat} {ls rest : List Value} {F : vFt} {Ar : vAt} {x : vXt} (a : Nat) (ha : a < 5) (d : decode M.2.1 pc = .ok (.aaload, 1)) (hq : pc + 1 = q) (k : V κ M q ls (.ref (x.2 a) :: rest) F Ar x) : V κ M pc ls (.int (nI a) :: .ref 8 :: rest) F Ar x := by
  refine V_aald (f := x.2) (fun ad cA => cell_shp ad cA F Ar x.2) (by omega) (vp_in_nI ha (by decide)) d hq ?_
  rw [nI_clamp (by omega)]
  exact k
theorem tX0_tonsBy {F : vFt} {Ar : vAt} {x : vXt} {a : Nat} {l b d r : Int32} (ha : a < 5) : C0 mX0_tonsBy 4 [.ref 1, .int (nI a), .int l, .int b, .int d, .int r] F Ar x (rkQ (tonV l b d r (Ar (10 + a)) (Ar 21)) (szF F l b d r) Ar) := by
  refine C0_of (by decide +kernel) (Nat.le_of_ble_eq_true rfl) (fun κ hκ => ?_)
  show V κ mX0_tonsBy 0 [.ref 1, .int (nI a), .int l, .int b, .int d, .int r] [] F Ar x
  refine V_aload_n (q := 1) dX0_tonsBy_0 rfl rfl ?_
  refine V_getR (q := 4) (n := 2) 1 6 kf_X0_29 (by decide) (by decide) rfl (by decide) dX0_tonsBy_1 rfl ?_
  refine V_iload_n (q := 5) dX0_tonsBy_4 rfl rfl ?_
  refine V_iload_n (q := 6) dX0_tonsBy_5 rfl rfl ?_
  refine V_iload (q := 8) dX0_tonsBy_6 rfl rfl ?_
  refine V_iload (q := 10) dX0_tonsBy_8 rfl rfl ?_
  refine V_cV4U (q := 13) (o := 2) (N := mX4_setSizes) tX4_setSizes hκ.big (by decide) gX4_setSizes kl_X0_77 ki_X4_setSizes ks_X4_setSizes (by decide) rfl (Nat.le_of_ble_eq_true rfl) dX0_tonsBy_10 rfl ?_
  refine V_aload_n (q := 14) dX0_tonsBy_13 rfl rfl ?_
  refine V_getR (q := 17) (n := 2) 1 6 kf_X0_29 (by decide) (by decide) rfl (by decide) dX0_tonsBy_14 rfl ?_
  refine V_aload_n (q := 18) dX0_tonsBy_17 rfl rfl ?_
  refine V_getR (q := 21) (n := 7) 1 2 kf_X0_19 (by decide) (by decide) rfl (by decide) dX0_tonsBy_18 rfl ?_
  refine V_iload_n (q := 22) dX0_tonsBy_21 rfl rfl ?_
  refine V_aaldT (q := 23) a ha dX0_tonsBy_22 rfl ?_
  refine V_cV1 (q := 26) (o := 2) (N := mX4_reckon) (tX4_reckon (a := 10 + a) (txt_row (x := x) ha).1 (txt_row (x := x) ha).2.1 (txt_row (x := x) ha).2.2.1 (txt_row (x := x) ha).2.2.2.1 (txt_row (x := x) ha).2.2.2.2) hκ.big (by decide) gX4_reckon kl_X0_62 ki_X4_reckon ks_X4_reckon (by decide) rfl (Nat.le_of_ble_eq_true rfl) dX0_tonsBy_23 rfl (fun r F9 Ar9 h9 => ?_)
  obtain ⟨rfl, s, rfl, rfl⟩ := h9
  show V κ mX0_tonsBy 26 [.ref 1, .int (nI a), .int l, .int b, .int d, .int r] [.int (tonV l b d r (Ar (10 + a)) (Ar 21))] _ _ x
  exact V_iret hκ rfl rfl dX0_tonsBy_26 ⟨rfl, s, rfl, rfl⟩
def enA (Ar : vAt) (c : Nat) (day : Int32) : vAt := vS (vS (vS Ar (10 + c) (va_cpy (Ar 9) (Ar (10 + c)) 0 0 40)) 15 (upd (Ar 15) c day)) 9 (vFill (Ar 9) 40 0)
def enQ (c : Nat) (day : Int32) (F : vFt) (Ar : vAt) : Option Value → vFt → vAt → Prop := fun r F' Ar' =>
  if ¬ (0 ≤ day ∧ day ≤ 999) then vEq (some (.int (-1))) F Ar r F' Ar'
  else if ¬ c < 5 then vEq (some (.int (-2))) F Ar r F' Ar'
  else ∃ s : rS, if tonV (F 131) (F 132) (F 133) (F 134) (Ar 9) (Ar 21) = -10000000 then vEq (some (.int (-5))) (rF F s) (rA Ar s) r F' Ar'
    else vEq (some (.int (nI c))) (upd (upd (rF F s) 65 0) 68 (nI (c + 1))) (enA (rA Ar s) c day) r F' Ar'
theorem tX0_enact {F : vFt} {Ar : vAt} {x : vXt} {c : Nat} {day : Int32} (hc : F 68 = nI c) (hc5 : c ≤ 5) : C0 mX0_enact 4 [.ref 1, .int day] F Ar x (enQ c day F Ar) := by
  refine C0_of (by decide +kernel) (Nat.le_of_ble_eq_true rfl) (fun κ hκ => ?_)
  show V κ mX0_enact 0 [.ref 1, .int day] [] F Ar x
  refine V_iload_n (q := 1) dX0_enact_0 rfl rfl ?_
  refine V_cSN1I (q := 4) (N := mX5_isDay) tX5_isDay hκ.big (by decide) gX5_isDay (by decide +kernel) kt_X5_isDay (Nat.le_of_ble_eq_true rfl) dX0_enact_1 rfl ?_
  refine V_if_ne (tgt := 9) (q := 7) dX0_enact_4 (by decide) rfl (fun c_4 => ?_) (fun c_4 => ?_)
  · refine V_aload_n (q := 10) dX0_enact_9 rfl rfl ?_
    refine V_getI (q := 13) (n := 68) 1 4 kf_X0_33 (by decide) (by decide) rfl rfl dX0_enact_10 rfl ?_
    refine V_iconst (q := 14) (v := 5) dX0_enact_13 (by decide) rfl ?_
    have h5 : nI c < nI 5 ↔ c < 5 := nI_ltI (by omega) (by decide)
    rw [hc]
    refine V_icmp_lt (tgt := 20) (q := 17) dX0_enact_14 (by decide) rfl (fun c_14 => ?_) (fun c_14 => ?_)
    · refine V_aload_n (q := 21) dX0_enact_20 rfl rfl ?_
      refine V_getR (q := 24) (n := 2) 1 6 kf_X0_29 (by decide) (by decide) rfl (by decide) dX0_enact_21 rfl ?_
      refine V_aload_n (q := 25) dX0_enact_24 rfl rfl ?_
      refine V_getR (q := 28) (n := 9) 1 0 kf_X0_13 (by decide) (by decide) rfl (by decide) dX0_enact_25 rfl ?_
      refine V_cV1 (q := 31) (o := 2) (N := mX4_reckon) (tX4_reckon (a := 9) (by decide) (by omega) (by decide) rfl (by decide)) hκ.big (by decide) gX4_reckon kl_X0_62 ki_X4_reckon ks_X4_reckon (by decide) rfl (Nat.le_of_ble_eq_true rfl) dX0_enact_28 rfl (fun r F9 Ar9 h9 => ?_)
      obtain ⟨rfl, s, rfl, rfl⟩ := h9
      show V κ mX0_enact 31 [.ref 1, .int day] [.int (tonV (F 131) (F 132) (F 133) (F 134) (Ar 9) (Ar 21))] _ _ x
      refine V_ldc (q := 33) dX0_enact_31 kc_X0_66 rfl ?_
      refine V_icmp_ne (tgt := 39) (q := 36) dX0_enact_33 (by decide) rfl (fun c_33 => ?_) (fun c_33 => ?_)
      · refine V_aload_n (q := 40) dX0_enact_39 rfl rfl ?_
        refine V_getR (q := 43) (n := 9) 1 0 kf_X0_13 (by decide) (by decide) rfl (by decide) dX0_enact_40 rfl ?_
        refine V_iconst (q := 44) (v := 0) dX0_enact_43 (by decide) rfl ?_
        refine V_aload_n (q := 45) dX0_enact_44 rfl rfl ?_
        refine V_getR (q := 48) (n := 7) 1 2 kf_X0_19 (by decide) (by decide) rfl (by decide) dX0_enact_45 rfl ?_
        refine V_aload_n (q := 49) dX0_enact_48 rfl rfl ?_
        refine V_getI (q := 52) (n := 68) 1 4 kf_X0_33 (by decide) (by decide) rfl rfl dX0_enact_49 rfl ?_
        have k5 := h5.mp c_14
        have tr := txt_row (x := x) k5
        refine V_top (nI c) hc ?_
        refine V_aaldT (q := 53) c k5 dX0_enact_52 rfl ?_
        refine V_iconst (q := 54) (v := 0) dX0_enact_53 (by decide) rfl ?_
        refine V_aload_n (q := 55) dX0_enact_54 rfl rfl ?_
        refine V_getR (q := 58) (n := 9) 1 0 kf_X0_13 (by decide) (by decide) rfl (by decide) dX0_enact_55 rfl ?_
        refine V_alen (q := 59) (by decide) (by omega) rfl dX0_enact_58 rfl ?_
        refine V_copy (q := 62) (a0 := 9) (a1 := 10 + c) hκ.big (by decide) kl_X0_67 (by decide) (by omega) (by decide) tr.1 tr.2.1 tr.2.2.1 (by decide) (by decide) (by decide) (by decide) (by rw [tr.2.2.2.1]; decide) (Nat.le_of_ble_eq_true rfl) dX0_enact_59 rfl ?_
        refine V_aload_n (q := 63) dX0_enact_62 rfl rfl ?_
        refine V_getR (q := 66) (n := 15) 1 3 kf_X0_22 (by decide) (by decide) rfl (by decide) dX0_enact_63 rfl ?_
        refine V_aload_n (q := 67) dX0_enact_66 rfl rfl ?_
        refine V_getI (q := 70) (n := 68) 1 4 kf_X0_33 (by decide) (by decide) rfl rfl dX0_enact_67 rfl ?_
        refine V_top (nI c) hc ?_
        refine V_iload_n (q := 71) dX0_enact_70 rfl rfl ?_
        refine V_ist (q := 72) (c) 5 rfl k5 (by decide) (by omega) (by decide) rfl (by decide) dX0_enact_71 rfl ?_
        refine V_aload_n (q := 73) dX0_enact_72 rfl rfl ?_
        refine V_cV0I (q := 76) (o := 1) (N := mX0_dropLetters) tX0_dropLetters hκ.big (by decide) gX0_dropLetters kl_X0_73 ki_X0_dropLetters ks_X0_dropLetters (by decide) rfl (Nat.le_of_ble_eq_true rfl) dX0_enact_73 rfl ?_
        refine V_pop (q := 77) dX0_enact_76 rfl rfl ?_
        refine V_aload_n (q := 78) dX0_enact_77 rfl rfl ?_
        refine V_dup (q := 79) dX0_enact_78 rfl rfl ?_
        refine V_getI (q := 82) (n := 68) 1 4 kf_X0_33 (by decide) (by decide) rfl rfl dX0_enact_79 rfl ?_
        refine V_iconst (q := 83) (v := 1) dX0_enact_82 (by decide) rfl ?_
        refine V_iadd (q := 84) dX0_enact_83 rfl ?_
        refine V_putI (q := 87) (n := 68) 1 4 kf_X0_33 (by decide) (by decide) rfl rfl dX0_enact_84 rfl ?_
        refine V_fl (upd (upd (rF F s) 65 0) 68 (nI (c + 1))) (congrArg (upd (upd (rF F s) 65 0) 68) ((congrArg (fun z => z + 1) hc).trans (nI_1 c))) ?_
        refine V_aload_n (q := 88) dX0_enact_87 rfl rfl ?_
        refine V_getI (q := 91) (n := 68) 1 4 kf_X0_33 (by decide) (by decide) rfl rfl dX0_enact_88 rfl ?_
        refine V_iconst (q := 92) (v := 1) dX0_enact_91 (by decide) rfl ?_
        refine V_isub (q := 93) dX0_enact_92 rfl ?_
        exact V_iret hκ rfl rfl dX0_enact_93 (by unfold enQ; rw [if_neg (fun h => h (vB_n0.mp c_4)), if_neg (fun h => h (h5.mp c_14))]; exact ⟨s, by rw [if_neg c_33]; exact ⟨congrArg (fun z => some (Value.int z)) (nI_pred c), rfl, by unfold enA; rw [vS_ne (by omega : 9 ≠ 15), vS_ne (by omega : 9 ≠ 10 + c)]; rw [vS_ne (by omega : 15 ≠ 10 + c)]; rfl⟩⟩)
      · refine V_bipush (q := 38) (v := (-5)) dX0_enact_36 (by decide) rfl ?_
        exact V_iret hκ rfl rfl dX0_enact_38 (by unfold enQ; rw [if_neg (fun h => h (vB_n0.mp c_4)), if_neg (fun h => h (h5.mp c_14))]; exact ⟨s, by rw [if_pos c_33]; exact vEq.rf⟩)
    · refine V_bipush (q := 19) (v := (-2)) dX0_enact_17 (by decide) rfl ?_
      exact V_iret hκ rfl rfl dX0_enact_19 (by unfold enQ; rw [if_neg (fun h => h (vB_n0.mp c_4)), if_pos (fun h => c_14 (h5.mpr h))]; exact vEq.rf)
  · refine V_iconst (q := 8) (v := (-1)) dX0_enact_7 (by decide) rfl ?_
    exact V_iret hκ rfl rfl dX0_enact_8 (by unfold enQ; rw [if_pos (vB_0.mp c_4)]; exact vEq.rf)
theorem tX0_lengthOf {F : vFt} {Ar : vAt} {x : vXt} {i : Nat} (hi : i < 1728) : C0 mX0_lengthOf 0 [.int (nI i)] F Ar x (vEq (some (.int (nI (i / 144 + 1)))) F Ar) := by
  refine C0_of (by decide +kernel) (Nat.le_of_ble_eq_true rfl) (fun κ hκ => ?_)
  show V κ mX0_lengthOf 0 [.int (nI i)] [] F Ar x
  refine V_iload_n (q := 1) dX0_lengthOf_0 rfl rfl ?_
  refine V_sipush (q := 4) (v := 144) dX0_lengthOf_1 (by decide) rfl ?_
  refine V_idiv (q := 5) dX0_lengthOf_4 (by decide) rfl ?_
  refine V_iconst (q := 6) (v := 1) dX0_lengthOf_5 (by decide) rfl ?_
  refine V_iadd (q := 7) dX0_lengthOf_6 rfl ?_
  exact V_iret hκ rfl rfl dX0_lengthOf_7 ⟨congrArg (fun z => some (Value.int z)) ((congrArg (fun z => z + 1) (pk_div (a := i) (d := 144) (by omega) (by decide) (by decide))).trans (nI_1 _)), rfl, rfl⟩
theorem tX0_depthOf {F : vFt} {Ar : vAt} {x : vXt} {i : Nat} (hi : i < 1728) : C0 mX0_depthOf 0 [.int (nI i)] F Ar x (vEq (some (.int (nI (i % 12 + 1)))) F Ar) := by
  refine C0_of (by decide +kernel) (Nat.le_of_ble_eq_true rfl) (fun κ hκ => ?_)
  show V κ mX0_depthOf 0 [.int (nI i)] [] F Ar x
  refine V_iload_n (q := 1) dX0_depthOf_0 rfl rfl ?_
  refine V_bipush (q := 3) (v := 12) dX0_depthOf_1 (by decide) rfl ?_
  refine V_irem (q := 4) dX0_depthOf_3 (by decide) rfl ?_
  refine V_iconst (q := 5) (v := 1) dX0_depthOf_4 (by decide) rfl ?_
  refine V_iadd (q := 6) dX0_depthOf_5 rfl ?_
  exact V_iret hκ rfl rfl dX0_depthOf_6 ⟨congrArg (fun z => some (Value.int z)) ((congrArg (fun z => z + 1) (pk_rem (a := i) (d := 12) (by omega) (by decide) (by decide))).trans (nI_1 _)), rfl, rfl⟩
theorem tX0_breadthOf {F : vFt} {Ar : vAt} {x : vXt} {i : Nat} (hi : i < 1728) : C0 mX0_breadthOf 0 [.int (nI i)] F Ar x (vEq (some (.int (nI (i / 12 % 12 + 1)))) F Ar) := by
  refine C0_of (by decide +kernel) (Nat.le_of_ble_eq_true rfl) (fun κ hκ => ?_)
  show V κ mX0_breadthOf 0 [.int (nI i)] [] F Ar x
  refine V_iload_n (q := 1) dX0_breadthOf_0 rfl rfl ?_
  refine V_bipush (q := 3) (v := 12) dX0_breadthOf_1 (by decide) rfl ?_
  refine V_idiv (q := 4) dX0_breadthOf_3 (by decide) rfl ?_
  refine V_top (nI (i / 12)) (pk_div (a := i) (d := 12) (by omega) (by decide) (by decide)) ?_
  refine V_bipush (q := 6) (v := 12) dX0_breadthOf_4 (by decide) rfl ?_
  refine V_irem (q := 7) dX0_breadthOf_6 (by decide) rfl ?_
  refine V_iconst (q := 8) (v := 1) dX0_breadthOf_7 (by decide) rfl ?_
  refine V_iadd (q := 9) dX0_breadthOf_8 rfl ?_
  exact V_iret hκ rfl rfl dX0_breadthOf_9 ⟨congrArg (fun z => some (Value.int z)) ((congrArg (fun z => z + 1) (pk_rem (a := i / 12) (d := 12) (by omega) (by decide) (by decide))).trans (nI_1 _)), rfl, rfl⟩
def shP (i : Nat) : Nat := (i / 144 + 1) * (i / 12 % 12 + 1) * (i % 12 + 1)
def lsD (f : Nat → Int32) (cg : Int32) : Nat → Nat → Nat
  | 0, best => best
  | k + 1, best => lsD f cg k (if f k ≤ f best ∧ ¬ nI (shP k) < cg then k else best)
theorem lsD_lt {f : Nat → Int32} {cg : Int32} {N : Nat} : ∀ k best, k ≤ N → best < N → lsD f cg k best < N := by
  intro k
  induction k with
  | zero => intro best _ h; exact h
  | succ k ih =>
    intro best hk h
    unfold lsD
    refine ih _ (by omega) ?_
    split
    · omega
    · exact h
theorem lp_X0_least {F : vFt} {Ar : vAt} {x : vXt} {a R : Nat} {cg : Int32} {κ : vK} (hκ : vStd κ 1 x (vEq (some (.int (nI R))) F Ar)) (h9 : 9 ≤ a) (ha : a < 66 + x.1) (ht : vTyA a = 0) (hn : vLen a = 1728) : ∀ k best, k ≤ 1728 → best < 1728 → R = lsD (Ar a) cg k best → V κ mX0_leastShape 6 [.ref a, .int cg, .int (nI best), .int (nI k - 1)] [] F Ar x := by
  intro k
  induction k with
  | zero =>
    intro best hk hb hv
    refine V_iload_n (q := 7) dX0_leastShape_6 rfl rfl ?_
    refine V_if_lt (tgt := 45) (q := 10) dX0_leastShape_7 (by decide) rfl (fun c_7 => ?_) (fun c_7 => absurd (by decide : nI 0 - 1 < 0) c_7)
    refine V_iload_n (q := 46) dX0_leastShape_45 rfl rfl ?_
    exact V_iret hκ rfl rfl dX0_leastShape_46 ⟨by rw [hv]; rfl, rfl, rfl⟩
  | succ k ih =>
    intro best hk hb hv
    refine V_ls [.ref a, .int cg, .int (nI best), .int (nI k)] (by rw [nI_pred]) ?_
    have hi : k < 1728 := by omega
    refine V_iload_n (q := 7) dX0_leastShape_6 rfl rfl ?_
    refine V_if_lt (tgt := 45) (q := 10) dX0_leastShape_7 (by decide) rfl (fun c_7 => absurd c_7 (nI_pos (by omega))) (fun c_7 => ?_)
    refine V_aload_n (q := 11) dX0_leastShape_10 rfl rfl ?_
    refine V_iload_n (q := 12) dX0_leastShape_11 rfl rfl ?_
    refine V_ild (q := 13) (k) 1728 rfl (by omega) h9 ha ht hn (by decide) dX0_leastShape_12 rfl ?_
    refine V_aload_n (q := 14) dX0_leastShape_13 rfl rfl ?_
    refine V_iload_n (q := 15) dX0_leastShape_14 rfl rfl ?_
    refine V_ild (q := 16) (best) 1728 rfl (by omega) h9 ha ht hn (by decide) dX0_leastShape_15 rfl ?_
    refine V_icmp_gt (tgt := 39) (q := 19) dX0_leastShape_16 (by decide) rfl (fun c_16 => ?_) (fun c_16 => ?_)
    · refine V_iinc (q := 42) (w := (-1)) dX0_leastShape_39 rfl (by decide) (Nat.le_of_ble_eq_true rfl) rfl rfl ?_
      refine V_goto (q := 6) dX0_leastShape_42 (by decide) ?_
      rw [lsD, if_neg (fun h => v_nlt c_16 h.1)] at hv
      refine V_ls [.ref a, .int cg, .int (nI best), .int (nI k - 1)] (by rw [Int32.sub_eq_add_neg]; rfl) ?_
      exact ih best (by omega) hb hv
    · refine V_iload_n (q := 20) dX0_leastShape_19 rfl rfl ?_
      refine V_cS1I (q := 23) (N := mX0_lengthOf) (tX0_lengthOf hi) hκ.big (by decide) gX0_lengthOf kl_X0_89 kt_X0_lengthOf (Nat.le_of_ble_eq_true rfl) dX0_leastShape_20 rfl ?_
      refine V_iload_n (q := 24) dX0_leastShape_23 rfl rfl ?_
      refine V_cS1I (q := 27) (N := mX0_breadthOf) (tX0_breadthOf hi) hκ.big (by decide) gX0_breadthOf kl_X0_92 kt_X0_breadthOf (Nat.le_of_ble_eq_true rfl) dX0_leastShape_24 rfl ?_
      refine V_imul (q := 28) dX0_leastShape_27 rfl ?_
      refine V_top (nI ((k / 144 + 1) * (k / 12 % 12 + 1))) (pk_mul _ _) ?_
      refine V_iload_n (q := 29) dX0_leastShape_28 rfl rfl ?_
      refine V_cS1I (q := 32) (N := mX0_depthOf) (tX0_depthOf hi) hκ.big (by decide) gX0_depthOf kl_X0_95 kt_X0_depthOf (Nat.le_of_ble_eq_true rfl) dX0_leastShape_29 rfl ?_
      refine V_imul (q := 33) dX0_leastShape_32 rfl ?_
      refine V_top (nI (shP k)) (pk_mul _ _) ?_
      refine V_iload_n (q := 34) dX0_leastShape_33 rfl rfl ?_
      refine V_icmp_lt (tgt := 39) (q := 37) dX0_leastShape_34 (by decide) rfl (fun c_34 => ?_) (fun c_34 => ?_)
      · refine V_iinc (q := 42) (w := (-1)) dX0_leastShape_39 rfl (by decide) (Nat.le_of_ble_eq_true rfl) rfl rfl ?_
        refine V_goto (q := 6) dX0_leastShape_42 (by decide) ?_
        rw [lsD, if_neg (fun h => h.2 c_34)] at hv
        refine V_ls [.ref a, .int cg, .int (nI best), .int (nI k - 1)] (by rw [Int32.sub_eq_add_neg]; rfl) ?_
        exact ih best (by omega) hb hv
      · refine V_iload_n (q := 38) dX0_leastShape_37 rfl rfl ?_
        refine V_istore_n (q := 39) dX0_leastShape_38 (Nat.le_of_ble_eq_true rfl) rfl rfl ?_
        refine V_iinc (q := 42) (w := (-1)) dX0_leastShape_39 rfl (by decide) (Nat.le_of_ble_eq_true rfl) rfl rfl ?_
        refine V_goto (q := 6) dX0_leastShape_42 (by decide) ?_
        rw [lsD, if_pos ⟨v_nle c_16, c_34⟩] at hv
        refine V_ls [.ref a, .int cg, .int (nI k), .int (nI k - 1)] (by rw [Int32.sub_eq_add_neg]; rfl) ?_
        exact ih k (by omega) hi hv
theorem tX0_leastShape {F : vFt} {Ar : vAt} {x : vXt} {a : Nat} {cg : Int32} (h9 : 9 ≤ a) (ha : a < 66 + x.1) (ht : vTyA a = 0) (hn : vLen a = 1728) : C0 mX0_leastShape 1 [.ref a, .int cg] F Ar x (vEq (some (.int (nI (lsD (Ar a) cg 1728 1727)))) F Ar) := by
  refine C0_of (by decide +kernel) (Nat.le_of_ble_eq_true rfl) (fun κ hκ => ?_)
  show V κ mX0_leastShape 0 [.ref a, .int cg, .null, .null] [] F Ar x
  refine V_sipush (q := 3) (v := 1727) dX0_leastShape_0 (by decide) rfl ?_
  refine V_istore_n (q := 4) dX0_leastShape_3 (Nat.le_of_ble_eq_true rfl) rfl rfl ?_
  refine V_iload_n (q := 5) dX0_leastShape_4 rfl rfl ?_
  refine V_istore_n (q := 6) dX0_leastShape_5 (Nat.le_of_ble_eq_true rfl) rfl rfl ?_
  exact lp_X0_least hκ h9 ha ht hn 1728 1727 (Nat.le_refl _) (by decide) rfl
