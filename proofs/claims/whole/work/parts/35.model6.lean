theorem srOk_f {L : Nat → Nat → Bool} {g : Nat → Nat} {q c i : Nat} (hi : i < q) (hg : g i = c) (hL : ¬ L i q = true) : ¬ srOk L g q c = true := fun h => hL (srOk_iff.mp h i hi hg)
theorem lp_X6_may {F : vFt} {Ar : vAt} {x : vXt} {q c w : Nat} {g : Nat → Nat} {κ : vK} (hκ : vStd κ 2 x (vEq (some (.int (vB (srOk (mL Ar w) g q c = true)))) F Ar)) (hw : F 405 = nI w) (hw6 : w ≤ 6) (hy : mYes Ar w) (hq : q < 8) (hg : ∀ i, i < q → Ar 64 i = nI (g i)) (hgb : ∀ i, i < q → g i < 100) (hc : Ar 64 q = nI c) (hcb : c < 100) : ∀ k i, i + k = q → (∀ j, j < i → g j = c → mL Ar w j q = true) → V κ mX6_mayJoin 2 [.ref 6, .int (nI q), .int (nI i)] [] F Ar x := by
  intro k
  induction k with
  | zero =>
    intro i hi hj
    obtain rfl : i = q := by omega
    refine V_iload_n (q := 3) dX6_mayJoin_2 rfl rfl ?_
    refine V_iload_n (q := 4) dX6_mayJoin_3 rfl rfl ?_
    refine V_icmp_ge (tgt := 39) (q := 7) dX6_mayJoin_4 (by decide) rfl (fun c_4 => ?_) (fun c_4 => absurd c_4 (v_gt (by omega) (by omega) (Nat.le_refl _)))
    refine V_iconst (q := 40) (v := 1) dX6_mayJoin_39 (by decide) rfl ?_
    exact V_iret hκ rfl (by first | rfl | exact vB_nar) dX6_mayJoin_40 ⟨by rw [vB_t (srOk_iff.mpr hj)], rfl, rfl⟩
  | succ k ih =>
    intro i hi hj
    have hgi := hg i (by omega)
    have hgb2 := hgb i (by omega)
    have hE : nI (g i) = nI c ↔ g i = c := nI_eq (by omega) (by omega)
    refine V_iload_n (q := 3) dX6_mayJoin_2 rfl rfl ?_
    refine V_iload_n (q := 4) dX6_mayJoin_3 rfl rfl ?_
    refine V_icmp_ge (tgt := 39) (q := 7) dX6_mayJoin_4 (by decide) rfl (fun c_4 => absurd c_4 (v_gf (by omega) (by omega) (by omega))) (fun c_4 => ?_)
    refine V_aload_n (q := 8) dX6_mayJoin_7 rfl rfl ?_
    refine V_getR (q := 11) (n := 64) 6 31 kf_X6_83 (by decide) (by decide) rfl (by decide) dX6_mayJoin_8 rfl ?_
    refine V_iload_n (q := 12) dX6_mayJoin_11 rfl rfl ?_
    refine V_ild (q := 13) (i) 9 rfl (by omega) (by decide) (by omega) (by decide) rfl (by decide) dX6_mayJoin_12 rfl ?_
    refine V_aload_n (q := 14) dX6_mayJoin_13 rfl rfl ?_
    refine V_getR (q := 17) (n := 64) 6 31 kf_X6_83 (by decide) (by decide) rfl (by decide) dX6_mayJoin_14 rfl ?_
    refine V_iload_n (q := 18) dX6_mayJoin_17 rfl rfl ?_
    refine V_ild (q := 19) (q) 9 rfl (by omega) (by decide) (by omega) (by decide) rfl (by decide) dX6_mayJoin_18 rfl ?_
    rw [hgi, hc]
    refine V_icmp_ne (tgt := 33) (q := 22) dX6_mayJoin_19 (by decide) rfl (fun c_19 => ?_) (fun c_19 => ?_)
    · refine V_iincN (q := 36) dX6_mayJoin_33 rfl (Nat.le_of_ble_eq_true rfl) rfl rfl ?_
      refine V_goto (q := 2) dX6_mayJoin_36 (by decide) ?_
      exact ih (i + 1) (by omega) (fun j hj2 hg2 => by
        rcases Nat.lt_or_eq_of_le (Nat.le_of_lt_succ hj2) with h | h
        · exact hj j h hg2
        · subst h
          exact absurd (hE.mpr hg2) c_19)
    · refine V_aload_n (q := 23) dX6_mayJoin_22 rfl rfl ?_
      refine V_iload_n (q := 24) dX6_mayJoin_23 rfl rfl ?_
      refine V_iload_n (q := 25) dX6_mayJoin_24 rfl rfl ?_
      refine V_cV2I (q := 28) (o := 6) (N := mX6_areAlike) (tX6_areAlike hw hw6 hy (by omega) (by omega)) hκ.big (by decide) gX6_areAlike kl_X6_197 ki_X6_areAlike ks_X6_areAlike (by decide) rfl (Nat.le_of_ble_eq_true rfl) dX6_mayJoin_25 rfl ?_
      refine V_if_ne (tgt := 33) (q := 31) dX6_mayJoin_28 (by decide) rfl (fun c_28 => ?_) (fun c_28 => ?_)
      · refine V_iincN (q := 36) dX6_mayJoin_33 rfl (Nat.le_of_ble_eq_true rfl) rfl rfl ?_
        refine V_goto (q := 2) dX6_mayJoin_36 (by decide) ?_
        exact ih (i + 1) (by omega) (fun j hj2 hg2 => by
          rcases Nat.lt_or_eq_of_le (Nat.le_of_lt_succ hj2) with h | h
          · exact hj j h hg2
          · subst h
            exact vB_n0.mp c_28)
      · refine V_iconst (q := 32) (v := 0) dX6_mayJoin_31 (by decide) rfl ?_
        exact V_iret hκ rfl (by first | rfl | exact vB_nar) dX6_mayJoin_32 ⟨by rw [vB_f (srOk_f (by omega) (hE.mp c_19) (vB_0.mp c_28))], rfl, rfl⟩
theorem tX6_mayJoin {F : vFt} {Ar : vAt} {x : vXt} {q c w : Nat} {g : Nat → Nat} (hw : F 405 = nI w) (hw6 : w ≤ 6) (hy : mYes Ar w) (hq : q < 8) (hg : ∀ i, i < q → Ar 64 i = nI (g i)) (hgb : ∀ i, i < q → g i < 100) (hc : Ar 64 q = nI c) (hcb : c < 100) : C0 mX6_mayJoin 2 [.ref 6, .int (nI q)] F Ar x (vEq (some (.int (vB (srOk (mL Ar w) g q c = true)))) F Ar) := by
  refine C0_of (by decide +kernel) (Nat.le_of_ble_eq_true rfl) (fun κ hκ => ?_)
  show V κ mX6_mayJoin 0 [.ref 6, .int (nI q), .null] [] F Ar x
  refine V_iconst (q := 1) (v := 0) dX6_mayJoin_0 (by decide) rfl ?_
  refine V_istore_n (q := 2) dX6_mayJoin_1 (Nat.le_of_ble_eq_true rfl) rfl rfl ?_
  exact lp_X6_may hκ hw hw6 hy hq hg hgb hc hcb q 0 (by omega) (fun j h => by omega)
def usd (g : Nat → Nat) : Nat → Nat
  | 0 => 0
  | j + 1 => max (usd g j) (g j + 1)
theorem usd_congr {g g' : Nat → Nat} : ∀ j, (∀ i, i < j → g i = g' i) → usd g j = usd g' j := by
  intro j
  induction j with
  | zero => intro _; rfl
  | succ j ih =>
    intro h
    rw [usd, usd, ih (fun i hi => h i (by omega)), h j (by omega)]
/-- the search from candidate c on -/
def srC (L : Nat → Nat → Bool) (most : Nat) (k q : Nat) (g : Nat → Nat) (c : Nat) : Option (Nat → Nat) := match k with
  | 0 => some g
  | k + 1 => vFst (fun c => if srOk L g q c = true then srch L most k (q + 1) (max (usd g q) (c + 1)) (updN g q c) else none) c (min (usd g q) (most - 1) + 1 - c)
theorem srC_0 {L : Nat → Nat → Bool} {most k q : Nat} {g : Nat → Nat} : srC L most k q g 0 = srch L most k q (usd g q) g := by
  cases k with
  | zero => rfl
  | succ k => rfl
theorem usd_le {g : Nat → Nat} : ∀ q, (∀ i, i < q → g i ≤ usd g i) → usd g q ≤ q := by
  intro q
  induction q with
  | zero => intro _; exact Nat.le_refl 0
  | succ q ih =>
    intro h
    have h1 := ih (fun i hi => h i (by omega))
    have h2 := h q (by omega)
    rw [usd]
    omega
def fjS (Ar : vAt) (q : Nat) (g : Nat → Nat) (Ar' : vAt) : Prop := (∀ b, b ≠ 64 → b ≠ 65 → Ar' b = Ar b) ∧ (∀ i, i < q → Ar' 64 i = nI (g i)) ∧ (∀ j, j ≤ q → Ar' 65 j = nI (usd g j)) ∧ (∀ i, i < q → g i ≤ usd g i)
def fjQ (n : Nat) (F : vFt) (Ar : vAt) (res : Option (Nat → Nat)) : Option Value → vFt → vAt → Prop := fun r F' Ar' => F' = F ∧ (∀ b, b ≠ 64 → b ≠ 65 → Ar' b = Ar b) ∧ match res with
  | some g' => r = some (.int 1) ∧ ∀ i, i < n → Ar' 64 i = nI (g' i)
  | none => r = some (.int 0)
theorem fjS_yes {Ar Ar' : vAt} {q : Nat} {g : Nat → Nat} {w : Nat} (h : fjS Ar q g Ar') (hy : mYes Ar w) : mYes Ar' w := fun j hj => by rw [h.1 58 (by decide) (by decide)]; exact hy j hj
theorem wFd_congr {Ar Ar' : vAt} {a b : Int32} (h1 : Ar' 56 = Ar 56) (h2 : Ar' 57 = Ar 57) : ∀ m i, wFd Ar' a b m i = wFd Ar a b m i := by
  intro m
  induction m with
  | zero => intro i; rfl
  | succ m ih =>
    intro i
    rw [wFd, wFd, h1, h2, ih]
theorem mL_congr {Ar Ar' : vAt} {w : Nat} (h1 : Ar' 56 = Ar 56) (h2 : Ar' 57 = Ar 57) (h3 : Ar' 58 = Ar 58) (h4 : Ar' 55 = Ar 55) : mL Ar' w = mL Ar w := by
  funext a b
  unfold mL
  rw [wFd_congr h1 h2, h3, h4]
theorem fjS_mL {Ar Ar' : vAt} {q : Nat} {g : Nat → Nat} {w : Nat} (h : fjS Ar q g Ar') : mL Ar' w = mL Ar w := mL_congr (h.1 56 (by decide) (by decide)) (h.1 57 (by decide) (by decide)) (h.1 58 (by decide) (by decide)) (h.1 55 (by decide) (by decide))
