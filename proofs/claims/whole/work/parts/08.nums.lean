theorem vS_at {Ar : vAt} {a : Nat} {f : Nat → Int32} : vS Ar a f a = f := if_pos rfl
theorem vS_ne {Ar : vAt} {a b : Nat} {f : Nat → Int32} (h : b ≠ a) : vS Ar a f b = Ar b := if_neg h
theorem vS_vS {Ar : vAt} {a : Nat} {f g : Nat → Int32} : vS (vS Ar a f) a g = vS Ar a g := by
  funext b
  unfold vS
  split <;> rfl
theorem vS_self {Ar : vAt} {a : Nat} : vS Ar a (Ar a) = Ar := by
  funext b
  unfold vS
  split
  · subst b; rfl
  · rfl
theorem vS_comm {Ar : vAt} {a b : Nat} {f g : Nat → Int32} (h : a ≠ b) : vS (vS Ar a f) b g = vS (vS Ar b g) a f := by
  funext c
  unfold vS
  by_cases h1 : c = b
  · by_cases h2 : c = a
    · exact absurd (h2.symm.trans h1) h
    · simp [h1]
      exact fun q => absurd q.symm h
  · by_cases h2 : c = a <;> simp [h1, h2, h]
theorem upd_at {f : Nat → Int32} {k : Nat} {v : Int32} : upd f k v k = v := if_pos rfl
theorem upd_ne {f : Nat → Int32} {k j : Nat} {v : Int32} (h : j ≠ k) : upd f k v j = f j := if_neg h
theorem upd_self {f : Nat → Int32} {k : Nat} : upd f k (f k) = f := by
  funext b
  unfold upd
  split
  · subst b; rfl
  · rfl
theorem upd_upd {f : Nat → Int32} {k : Nat} {v w : Int32} : upd (upd f k v) k w = upd f k w := by
  funext b
  unfold upd
  split <;> rfl
theorem upd_comm {f : Nat → Int32} {k j : Nat} {v w : Int32} (h : k ≠ j) : upd (upd f k v) j w = upd (upd f j w) k v := by
  funext c
  unfold upd
  by_cases h1 : c = j
  · by_cases h2 : c = k
    · exact absurd (h2.symm.trans h1) h
    · simp [h1]
      exact fun q => absurd q.symm h
  · by_cases h2 : c = k <;> simp [h1, h2, h]
/-- small numbers -/
theorem v_ma (a b c : Nat) : nI a * nI b + nI c = nI (a * b + c) := by rw [pk_mul, nI_add]
theorem v_am (a b c : Nat) : nI a * nI b + nI c = nI (b * a + c) := by rw [pk_mul, nI_add, Nat.mul_comm]
theorem v_in {a : Int32} {N : Nat} (n : Nat) (h : a = nI n) (hn : n < N) (hN : N < 2 ^ 31) : vp_in a N := by
  rw [h]
  exact vp_in_nI hn hN
theorem v_cl {a : Int32} (n : Nat) (h : a = nI n) (hn : n < 2 ^ 31) : a.toNatClampNeg = n := by
  rw [h]
  exact nI_clamp hn
theorem v_toInt {n : Nat} (h : n < 2 ^ 31) : (nI n).toInt = (n : Int) := nI_toInt h
theorem v_sub1 {n : Nat} (h : 0 < n) : nI n - 1 = nI (n - 1) := pk_sub (a := n) (b := 1) h
/-- what a check of a number against a count says -/
theorem v_has {i : Int32} {n : Nat} (hn : n < 2 ^ 31) : (0 ≤ i ∧ i ≤ nI n - 1) ↔ ∃ j, j < n ∧ i = nI j := by
  constructor
  · rintro ⟨h1, h2⟩
    rcases pk_ix i hn with h | h | h
    · rw [Int32.le_iff_toInt_le] at h1
      rw [Int32.lt_iff_toInt_lt] at h
      omega
    · exfalso
      have h0 : n = 0 ∨ 0 < n := Nat.eq_zero_or_pos n
      rcases h0 with rfl | h0
      · have e : nI 0 - 1 = -1 := by decide
        rw [e] at h2
        have := Int32.le_trans h1 h2
        exact absurd this (by decide)
      · rw [v_sub1 h0] at h2
        have h3 := Int32.le_trans h h2
        exact nI_ge (a := n - 1) (b := n) (by omega) hn h3
    · exact h
  · rintro ⟨j, hj, rfl⟩
    rw [v_sub1 (by omega)]
    exact ⟨nI_pos' (by omega), nI_le (by omega) (by omega)⟩
theorem v_to {i M : Int32} {n : Nat} (hM : M = nI n) (hn : n + 1 < 2 ^ 31) : (0 ≤ i ∧ i ≤ M) ↔ ∃ j, j ≤ n ∧ i = nI j := by
  have h := v_has (i := i) (n := n + 1) (by omega)
  rw [v_sub1 (by omega)] at h
  subst hM
  rw [show n = n + 1 - 1 by omega, h]
  constructor
  · rintro ⟨j, h1, h2⟩
    exact ⟨j, by omega, h2⟩
  · rintro ⟨j, h1, h2⟩
    exact ⟨j, by omega, h2⟩
theorem v_to1 {i M : Int32} {n : Nat} (hM : M = nI n) (hn : n + 1 < 2 ^ 31) : (1 ≤ i ∧ i ≤ M) ↔ ∃ j, 1 ≤ j ∧ j ≤ n ∧ i = nI j := by
  constructor
  · rintro ⟨h1, h2⟩
    obtain ⟨j, hj, e⟩ := (v_to hM hn).mp ⟨Int32.le_trans (by decide : (0 : Int32) ≤ 1) h1, h2⟩
    refine ⟨j, ?_, hj, e⟩
    rcases Nat.eq_zero_or_pos j with rfl | h
    · subst e
      exact absurd h1 (by decide)
    · exact h
  · rintro ⟨j, h1, h2, rfl⟩
    subst hM
    exact ⟨nI_le (a := 1) h1 (by omega), nI_le h2 (by omega)⟩
theorem v_lt_of {a b : Nat} (ha : a < 2 ^ 31) (hb : b < 2 ^ 31) : nI a < nI b ↔ a < b := nI_ltI ha hb
theorem v_le_of {a b : Nat} (ha : a < 2 ^ 31) (hb : b < 2 ^ 31) : nI a ≤ nI b ↔ a ≤ b := nI_leI ha hb
theorem v_eq_of {a b : Nat} (ha : a < 2 ^ 31) (hb : b < 2 ^ 31) : nI a = nI b ↔ a = b := nI_eq ha hb
theorem V_ild {κ : vK} {M : vMx} {pc q : Nat} {ls st : List Value} {F : vFt} {Ar : vAt} {x : vXt} {a : Nat} {i : Int32} (k n : Nat) (hi : i = nI k) (hk : k < n) (h9 : 9 ≤ a) (ha : a < 66 + x.1) (ht : vTyA a = 0) (hn : vLen a = n) (h31 : n < 2 ^ 31) (d : decode M.2.1 pc = .ok (.iaload, 1)) (hq : pc + 1 = q) (kk : V κ M q ls (.int (Ar a k) :: st) F Ar x) : V κ M pc ls (.int i :: .ref a :: st) F Ar x := by
  subst hi
  refine V_iald h9 ha ht (by rw [hn]; exact vp_in_nI hk h31) d hq ?_
  rw [nI_clamp (by omega)]
  exact kk
theorem V_zld {κ : vK} {M : vMx} {pc q : Nat} {ls st : List Value} {F : vFt} {Ar : vAt} {x : vXt} {a : Nat} {i : Int32} (k n : Nat) (hi : i = nI k) (hk : k < n) (h9 : 9 ≤ a) (ha : a < 66 + x.1) (ht : vTyA a = 1) (hn : vLen a = n) (h31 : n < 2 ^ 31) (d : decode M.2.1 pc = .ok (.baload, 1)) (hq : pc + 1 = q) (kk : V κ M q ls (.int (Ar a k) :: st) F Ar x) : V κ M pc ls (.int i :: .ref a :: st) F Ar x := by
  subst hi
  refine V_zald h9 ha ht (by rw [hn]; exact vp_in_nI hk h31) d hq ?_
  rw [nI_clamp (by omega)]
  exact kk
theorem V_ist {κ : vK} {M : vMx} {pc q : Nat} {ls st : List Value} {F : vFt} {Ar : vAt} {x : vXt} {a : Nat} {i v : Int32} (k n : Nat) (hi : i = nI k) (hk : k < n) (h9 : 9 ≤ a) (ha : a < 66 + x.1) (ht : vTyA a = 0) (hn : vLen a = n) (h31 : n < 2 ^ 31) (d : decode M.2.1 pc = .ok (.iastore, 1)) (hq : pc + 1 = q) (kk : V κ M q ls st F (vS Ar a (upd (Ar a) k v)) x) : V κ M pc ls (.int v :: .int i :: .ref a :: st) F Ar x := by
  subst hi
  refine V_iast h9 ha ht (by rw [hn]; exact vp_in_nI hk h31) d hq ?_
  rw [nI_clamp (by omega)]
  exact kk
theorem V_zst {κ : vK} {M : vMx} {pc q : Nat} {ls st : List Value} {F : vFt} {Ar : vAt} {x : vXt} {a : Nat} {i v : Int32} (k n : Nat) (hi : i = nI k) (hk : k < n) (h9 : 9 ≤ a) (ha : a < 66 + x.1) (ht : vTyA a = 1) (hn : vLen a = n) (h31 : n < 2 ^ 31) (d : decode M.2.1 pc = .ok (.bastore, 1)) (hq : pc + 1 = q) (kk : V κ M q ls st F (vS Ar a (upd (Ar a) k (vp_nar .boolean v))) x) : V κ M pc ls (.int v :: .int i :: .ref a :: st) F Ar x := by
  subst hi
  refine V_zast h9 ha ht (by rw [hn]; exact vp_in_nI hk h31) d hq ?_
  rw [nI_clamp (by omega)]
  exact kk
theorem V_top {κ : vK} {M : vMx} {pc : Nat} {ls st : List Value} {F : vFt} {Ar : vAt} {x : vXt} {a : Int32} (b : Int32) (h : a = b) (k : V κ M pc ls (.int b :: st) F Ar x) : V κ M pc ls (.int a :: st) F Ar x := by
  subst h
  exact k
theorem V_ar {κ : vK} {M : vMx} {pc : Nat} {ls st : List Value} {F : vFt} {Ar : vAt} {x : vXt} (Ar' : vAt) (h : Ar = Ar') (k : V κ M pc ls st F Ar' x) : V κ M pc ls st F Ar x := by
  subst h
  exact k
theorem V_fl {κ : vK} {M : vMx} {pc : Nat} {ls st : List Value} {F : vFt} {Ar : vAt} {x : vXt} (F' : vFt) (h : F = F') (k : V κ M pc ls st F' Ar x) : V κ M pc ls st F Ar x := by
  subst h
  exact k
theorem V_ls {κ : vK} {M : vMx} {pc : Nat} {ls st : List Value} {F : vFt} {Ar : vAt} {x : vXt} (ls' : List Value) (h : ls = ls') (k : V κ M pc ls' st F Ar x) : V κ M pc ls st F Ar x := by
  subst h
  exact k
theorem V_iincN {κ : vK} {M : vMx} {pc q : Nat} {ls st : List Value} {F : vFt} {Ar : vAt} {x : vXt} {i j : Nat} (d : decode M.2.1 pc = .ok (.iinc i 1, 3)) (hl0 : ls[i]? = some (.int (nI j))) (hn : i < M.2.2.1) (ho : vOkS ls i = true) (hq : pc + 3 = q) (k : V κ M q (ls.set i (.int (nI (j + 1)))) st F Ar x) : V κ M pc ls st F Ar x := by
  refine V_iinc (w := 1) d hl0 (by decide) hn ho hq ?_
  rw [nI_1]
  exact k
theorem v_gf {i n : Nat} (hi : i < 2 ^ 31) (hn : n < 2 ^ 31) (h : i < n) : ¬ nI n ≤ nI i := fun c => by rw [nI_leI hn hi] at c; omega
theorem v_gt {i n : Nat} (hi : i < 2 ^ 31) (hn : n < 2 ^ 31) (h : n ≤ i) : ¬ ¬ nI n ≤ nI i := fun c => c ((nI_leI hn hi).mpr h)
/-- the first n places become v -/
def vFill (f : Nat → Int32) (n : Nat) (v : Int32) : Nat → Int32 := fun j => if j < n then v else f j
theorem vFill_0 {f : Nat → Int32} {v : Int32} : vFill f 0 v = f := by
  funext j
  simp [vFill]
theorem vFill_s {f : Nat → Int32} {n : Nat} {v : Int32} : upd (vFill f n v) n v = vFill f (n + 1) v := by
  funext j
  unfold upd vFill
  by_cases h : j = n
  · simp [h]
  · by_cases h2 : j < n
    · simp [h, h2, Nat.lt_succ_of_lt h2]
    · simp [h, h2, show ¬ j < n + 1 by omega]
