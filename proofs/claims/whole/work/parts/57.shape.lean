/-! the least shape: going up and going down find the same -/
abbrev bears (cg : Int32) (i : Nat) : Prop := ¬ nI (shP i) < cg
def opt (T : Nat → Int32) (cg : Int32) (n i : Nat) : Prop := i < n ∧ bears cg i ∧ (∀ j, j < n → bears cg j → T i ≤ T j) ∧ ∀ j, j < i → bears cg j → T i < T j
theorem opt_one {T : Nat → Int32} {cg : Int32} {n i j : Nat} (h1 : opt T cg n i) (h2 : opt T cg n j) : i = j := by
  obtain ⟨a1, a2, a3, a4⟩ := h1
  obtain ⟨b1, b2, b3, b4⟩ := h2
  rcases Nat.lt_trichotomy i j with h | h | h
  · have q1 := b4 i h a2
    have q2 := a3 j b1 b2
    rw [Int32.lt_iff_toInt_lt] at q1
    rw [Int32.le_iff_toInt_le] at q2
    omega
  · exact h
  · have q1 := a4 j h b2
    have q2 := b3 i a1 a2
    rw [Int32.lt_iff_toInt_lt] at q1
    rw [Int32.le_iff_toInt_le] at q2
    omega
theorem lsD_opt {T : Nat → Int32} {cg : Int32} : ∀ k best, k ≤ best + 1 → best < 1728 → bears cg best → (∀ j, k ≤ j → j < 1728 → bears cg j → T best ≤ T j) → (∀ j, k ≤ j → j < best → bears cg j → T best < T j) → opt T cg 1728 (lsD T cg k best) := by
  intro k
  induction k with
  | zero =>
    intro best _ h2 h3 h4 h5
    exact ⟨h2, h3, fun j hj => h4 j (Nat.zero_le j) hj, fun j hj => h5 j (Nat.zero_le j) hj⟩
  | succ k ih =>
    intro best h1 h2 h3 h4 h5
    rw [lsD]
    by_cases hc : T k ≤ T best ∧ ¬ nI (shP k) < cg
    · rw [if_pos hc]
      refine ih k (by omega) (by omega) hc.2 (fun j hj hj2 hb => ?_) (fun j hj hj2 => by omega)
      by_cases e : j = k
      · subst e
        rw [Int32.le_iff_toInt_le]
        omega
      · have := h4 j (by omega) hj2 hb
        have h0 := hc.1
        rw [Int32.le_iff_toInt_le] at *
        omega
    · rw [if_neg hc]
      have hk : bears cg k → T best < T k := fun hb => by
        have : ¬ T k ≤ T best := fun q => hc ⟨q, hb⟩
        rw [Int32.le_iff_toInt_le] at this
        rw [Int32.lt_iff_toInt_lt]
        omega
      refine ih best (by omega) h2 h3 (fun j hj hj2 hb => ?_) (fun j hj hj2 hb => ?_)
      · by_cases e : j = k
        · subst e
          have := hk hb
          rw [Int32.lt_iff_toInt_lt] at this
          rw [Int32.le_iff_toInt_le]
          omega
        · exact h4 j (by omega) hj2 hb
      · by_cases e : j = k
        · subst e
          exact hk hb
        · exact h5 j (by omega) hj2 hb
theorem shF_opt {T : Nat → Int32} {cg w : Int32} (hT : ∀ i, i < 1728 → smI (T i)) : ∀ n, n ≤ 1728 → ((∀ j, j < n → ¬ bears cg j) ∧ shF T cg w n = (10000000, 0)) ∨ ∃ i, opt T cg n i ∧ shF T cg w n = (T i, ansV w i (T i)) := by
  intro n
  have e7 : (10000000 : Int32).toInt = 10000000 := by decide
  induction n with
  | zero => intro _; exact Or.inl ⟨fun j hj => absurd hj (Nat.not_lt_zero j), rfl⟩
  | succ n ih =>
    intro hn
    by_cases hb : bears cg n
    · have hsh : shT T cg n = T n := if_neg hb
      have hs := hT n (by omega)
      rcases ih (by omega) with ⟨h1, h2⟩ | ⟨i, ⟨a1, a2, a3, a4⟩, h2⟩
      · refine Or.inr ⟨n, ⟨by omega, hb, fun j hj hj2 => ?_, fun j hj hj2 => absurd hj2 (h1 j hj)⟩, ?_⟩
        · by_cases e : j = n
          · subst e
            rw [Int32.le_iff_toInt_le]
            omega
          · exact absurd hj2 (h1 j (by omega))
        · rw [shF_lt, hsh]
          rw [h2, hsh, Int32.lt_iff_toInt_lt]
          show (T n).toInt < (10000000 : Int32).toInt
          unfold smI at hs
          omega
      · by_cases hlt : T n < T i
        · refine Or.inr ⟨n, ⟨by omega, hb, fun j hj hj2 => ?_, fun j hj hj2 => ?_⟩, ?_⟩
          · by_cases e : j = n
            · subst e
              rw [Int32.le_iff_toInt_le]
              omega
            · have := a3 j (by omega) hj2
              rw [Int32.lt_iff_toInt_lt] at hlt
              rw [Int32.le_iff_toInt_le] at *
              omega
          · have := a3 j hj hj2
            rw [Int32.lt_iff_toInt_lt] at *
            rw [Int32.le_iff_toInt_le] at this
            omega
          · rw [shF_lt, hsh]
            rw [h2, hsh]
            exact hlt
        · refine Or.inr ⟨i, ⟨by omega, a2, fun j hj hj2 => ?_, a4⟩, ?_⟩
          · by_cases e : j = n
            · subst e
              rw [Int32.lt_iff_toInt_lt] at hlt
              rw [Int32.le_iff_toInt_le]
              omega
            · exact a3 j (by omega) hj2
          · rw [shF_ge, h2]
            rw [h2, hsh]
            exact hlt
    · have hsh : shT T cg n = 10000000 := if_pos (Classical.not_not.mp hb)
      rcases ih (by omega) with ⟨h1, h2⟩ | ⟨i, ⟨a1, a2, a3, a4⟩, h2⟩
      · refine Or.inl ⟨fun j hj => ?_, ?_⟩
        · by_cases e : j = n
          · subst e; exact hb
          · exact h1 j (by omega)
        · rw [shF_ge, h2]
          rw [h2, hsh]
          decide
      · refine Or.inr ⟨i, ⟨by omega, a2, fun j hj hj2 => ?_, a4⟩, ?_⟩
        · by_cases e : j = n
          · subst e; exact absurd hj2 hb
          · exact a3 j (by omega) hj2
        · rw [shF_ge, h2]
          rw [h2, hsh, Int32.lt_iff_toInt_lt]
          show ¬ (10000000 : Int32).toInt < (T i).toInt
          have hs := hT i (by omega)
          unfold smI at hs
          omega
theorem shP_last : shP 1727 = 1728 := by decide
theorem shape_eq {T : Nat → Int32} {cg w : Int32} (hT : ∀ i, i < 1728 → smI (T i)) (hcg : cg ≤ 1728) : (shF T cg w 1728).2 = olV T cg w := by
  have hb : bears cg 1727 := by
    unfold bears
    rw [shP_last]
    rw [Int32.le_iff_toInt_le] at hcg
    rw [Int32.lt_iff_toInt_lt]
    have e : (1728 : Int32).toInt = (nI 1728).toInt := by decide
    omega
  have h1 := lsD_opt (T := T) (cg := cg) 1728 1727 (by omega) (by omega) hb (fun j h1 h2 => by omega) (fun j h1 h2 => by omega)
  rcases shF_opt (w := w) (cg := cg) hT 1728 (Nat.le_refl _) with ⟨h2, -⟩ | ⟨i, h2, h3⟩
  · exact absurd hb (h2 1727 (by omega))
  · have := opt_one h2 h1
    rw [h3, this]
    rfl
theorem st_shape {F : vFt} {Ar : vAt} {x : vXt} {i cg w : Int32} (h : IX F Ar x) : St0 mX5_shape mX6_shape 5 3 [.int i, .int cg, .int w] F Ar x ∨ St1 mX5_shape mX6_shape 7 3 [.int i, .int cg, .int w] F Ar x := by
  obtain ⟨c, f, e1, e2, e3, e4, e5, e6, e7, e8, e9, e10, e11⟩ := h.1
  by_cases hb : (0 ≤ i ∧ i ≤ F 68 - 1) ∧ (1 ≤ cg ∧ cg ≤ 1728) ∧ (0 ≤ w ∧ w ≤ 3)
  · right
    obtain ⟨hi, hcg, hw⟩ := hb
    rw [e1] at hi
    obtain ⟨a, ha, rfl⟩ := (v_has (by omega)).mp hi
    obtain ⟨len, k1, k2, k3, k4, k5, k6⟩ := e8 a ha
    have hl40 := k2.1
    have hgd : ∀ j, j < 1728 → sGd (sRun (nI (j / 144 + 1)) (nI (j / 12 % 12 + 1)) (nI (j % 12 + 1)) 0 (Ar (10 + a)) len 0 ([], 0)) = true := fun j _ => (sGd_any (fun _ _ => rfl)).trans k5
    have hone : ∀ j, j < 1728 → ∃ fz, sRun (nI (j / 144 + 1)) (nI (j / 12 % 12 + 1)) (nI (j % 12 + 1)) 0 (Ar (10 + a)) len 0 ([], 0) = some ([shN (Ar (10 + a)) len j], fz) ∧ smI (shN (Ar (10 + a)) len j) := fun j hj => by
      obtain ⟨v, fz, q1, q2, q3⟩ := sGd_one (smI_n (by omega)) (smI_n (by omega)) (smI_n (by omega)) (by decide) (hgd j hj)
      have e : shN (Ar (10 + a)) len j = v := q3
      rw [e]
      exact ⟨fz, q1, q2⟩
    refine ⟨_, tX5_shape1 (T := shN (Ar (10 + a)) len) e1 e3 ha hcg hw e10 (fun j _ pl => tonV_s k2) k6, ?_⟩
    rintro r F1 Ar1 x1 ⟨rfl, h1, h2, h3, h4, h5, h6, h7⟩
    have hcol : ∀ b, b < 66 → b ≠ 21 → Ar1 b = Ar b := fun b hb1 hb2 => h6 b hb2 (by omega)
    have hT : ∀ j, j < 1728 → ∃ fz, sRun (nI (j / 144 + 1)) (nI (j / 12 % 12 + 1)) (nI (j % 12 + 1)) 0 (fun j => Ar1 43 (40 * a + j)) len 0 ([], 0) = some ([shN (Ar (10 + a)) len j], fz) := fun j hj => by
      obtain ⟨fz, q, -⟩ := hone j hj
      refine ⟨fz, ?_⟩
      rw [sRun_congr (n := len) (t' := Ar (10 + a)) (fun j hj => by rw [hcol 43 (by omega) (by omega)]; exact k3 j hj) len 0 _ (by omega)]
      exact q
    refine ⟨_, rfl, h5, _, tX6_shape1 (c := c) (len := len) (T := shN (Ar (10 + a)) len) ((h4.1 386 (by omega)).trans e2) e3 ha hcg hw (by rw [hcol 42 (by omega) (by omega)]; exact k1) hl40 hT, ?_⟩
    rintro r' F2 Ar2 ⟨rfl, z, pl, rfl, rfl⟩
    refine ⟨by rw [shape_eq (fun j hj => by obtain ⟨_, _, q⟩ := hone j hj; exact q) hcg.2], IX_mF (IX_A h ?_ (scF_k h4) (fun b hb => ?_))⟩
    · refine ⟨c, f, (h4.1 68 (by omega)).trans e1, (h4.1 386 (by omega)).trans e2, e3, (h4.1 65 (by omega)).trans e4, (h4.1 384 (by omega)).trans e5, ?_, ?_, ?_, h4.2 e9, ?_, ?_⟩
      · rw [hcol 9 (by omega) (by omega)]; exact e6
      · rw [hcol 9 (by omega) (by omega), hcol 40 (by omega) (by omega)]; exact e7
      · intro b hb
        by_cases hba : b = a
        · subst hba
          refine ⟨len, ?_, ?_, ?_, ?_, ?_, ?_⟩
          · rw [hcol 42 (by omega) (by omega)]; exact k1
          · rw [hcol (10 + b) (by omega) (by omega)]; exact k2
          · rw [hcol (10 + b) (by omega) (by omega), hcol 43 (by omega) (by omega)]; exact k3
          · rw [hcol 15 (by omega) (by omega), hcol 41 (by omega) (by omega)]; exact k4
          · rw [hcol (10 + b) (by omega) (by omega)]; exact k5
          · rw [hcol (10 + b) (by omega) (by omega)]; exact Or.inr ⟨h1, h3⟩
        · have hk := actOk_congr (Ar' := Ar1) (e8 b hb) (by omega) (by rw [hcol 42 (by omega) (by omega)]) (fun i hi => by rw [hcol 43 (by omega) (by omega)]) (hcol _ (by omega) (by omega)) (by rw [hcol 15 (by omega) (by omega)]) (by rw [hcol 41 (by omega) (by omega)]) (fun q hq hq2 => h6 q (by omega) (by rw [hq2]; exact e10 b (by omega)))
          obtain ⟨l2, g1, g2, g3, g4, g5, g6⟩ := hk
          refine ⟨l2, g1, g2, g3, g4, g5, ?_⟩
          unfold rowOk at g6 ⊢
          rw [h7 b hba]
          exact g6
      · intro j hj
        by_cases hja : j = a
        · subst hja; exact h2
        · rw [h7 j hja]
          have := e10 j hj
          omega
      · intro j hj hj2
        have := e11 j hj hj2
        unfold noRow at this ⊢
        rw [h7 j (by omega)]
        exact this
    · apply hcol
      · simp only [List.mem_append, List.mem_cons, List.not_mem_nil, or_false] at hb
        omega
      · intro q
        subst q
        revert hb
        decide
  · left
    exact St_two (tX5_shape0 hb) (tX6_shape0 (by rw [e2, ← e1]; exact hb)) h
