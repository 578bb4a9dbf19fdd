/-! what holds between the calls, area by area, and what a step is -/
def kF (l : List Nat) (F F' : vFt) : Prop := ∀ k, k ∈ l → F' k = F k
def kA (l : List Nat) (Ar Ar' : vAt) : Prop := ∀ b, b ∈ l → Ar' b = Ar b
def kB (Ar Ar' : vAt) : Prop := ∀ b, 66 ≤ b → Ar' b = Ar b
theorem kF_rf {l : List Nat} {F : vFt} : kF l F F := fun _ _ => rfl
theorem kA_rf {l : List Nat} {Ar : vAt} : kA l Ar Ar := fun _ _ => rfl
theorem kB_rf {Ar : vAt} : kB Ar Ar := fun _ _ => rfl
theorem kF_upd {l : List Nat} {F F' : vFt} {j : Nat} {v : Int32} (h : kF l F F') (hj : ¬ j ∈ l) : kF l F (upd F' j v) := fun k hk => (upd_ne (fun e : k = j => hj (e ▸ hk))).trans (h k hk)
theorem kA_vS {l : List Nat} {Ar Ar' : vAt} {j : Nat} {f : Nat → Int32} (h : kA l Ar Ar') (hj : ¬ j ∈ l) : kA l Ar (vS Ar' j f) := fun k hk => (vS_ne (fun e : k = j => hj (e ▸ hk))).trans (h k hk)
theorem kB_vS {Ar Ar' : vAt} {j : Nat} {f : Nat → Int32} (h : kB Ar Ar') (hj : j < 66) : kB Ar (vS Ar' j f) := fun k hk => (vS_ne (by omega)).trans (h k hk)
theorem kF_tr {l : List Nat} {F F' F'' : vFt} (h : kF l F F') (h2 : kF l F' F'') : kF l F F'' := fun k hk => (h2 k hk).trans (h k hk)
theorem kA_tr {l : List Nat} {Ar Ar' Ar'' : vAt} (h : kA l Ar Ar') (h2 : kA l Ar' Ar'') : kA l Ar Ar'' := fun k hk => (h2 k hk).trans (h k hk)
theorem kB_tr {Ar Ar' Ar'' : vAt} (h : kB Ar Ar') (h2 : kB Ar' Ar'') : kB Ar Ar'' := fun k hk => (h2 k hk).trans (h k hk)
abbrev fAl : List Nat := [65, 68, 131, 132, 133, 134, 384, 386]
abbrev fHl : List Nat := [193, 390]
abbrev fLl : List Nat := [258, 395]
abbrev fPl : List Nat := [325, 328, 331, 403, 405]
abbrev aAl : List Nat := [9, 10, 11, 12, 13, 14, 15, 40, 41, 42, 43]
abbrev aHl : List Nat := [22, 44, 45, 46, 47]
abbrev aLl : List Nat := [23, 24, 25, 26, 27, 28, 29, 48, 49, 50, 51, 52, 53, 54]
abbrev aPl : List Nat := [31, 32, 33, 34, 35, 36, 37, 38, 55, 56, 57, 58]
/-! acts -/
def shN (t : Nat → Int32) (len : Nat) : Nat → Int32 := fun i => tnS (sRun (nI (i / 144 + 1)) (nI (i / 12 % 12 + 1)) (nI (i % 12 + 1)) 0 t len 0 ([], 0))
def actOk (Ar : vAt) (x : vXt) (a : Nat) : Prop := ∃ len, Ar 42 a = nI len ∧ txt (Ar (10 + a)) len ∧ (∀ i, i < len → Ar 43 (40 * a + i) = Ar (10 + a) i) ∧ Ar 15 a = Ar 41 a ∧ sGd (sRun 1 1 1 0 (Ar (10 + a)) len 0 ([], 0)) = true ∧ rowOk Ar x a (shN (Ar (10 + a)) len)
def noRow (x : vXt) (a : Nat) : Prop := vLen (x.2 a) = 0 ∧ 9 ≤ x.2 a ∧ x.2 a < 66
def IA (F : vFt) (Ar : vAt) (x : vXt) : Prop := ∃ c f, F 68 = nI c ∧ F 386 = nI c ∧ c ≤ 5 ∧ F 65 = nI f ∧ F 384 = nI f ∧ txt (Ar 9) f ∧ (∀ i, i < f → Ar 40 i = Ar 9 i) ∧ (∀ a, a < c → actOk Ar x a) ∧ smF F ∧ vSh x ∧ ∀ a, c ≤ a → a < 5 → noRow x a
theorem rowOk_congr {Ar Ar' : vAt} {x : vXt} {a : Nat} {T : Nat → Int32} (h : rowOk Ar x a T) (hA : ∀ b, 66 ≤ b → b = x.2 a → Ar' b = Ar b) : rowOk Ar' x a T := by
  rcases h with h | ⟨h1, h2⟩
  · exact Or.inl h
  · refine Or.inr ⟨h1, fun i hi => ?_⟩
    rw [hA _ h1 rfl]
    exact h2 i hi
theorem actOk_congr {Ar Ar' : vAt} {x : vXt} {a : Nat} (h : actOk Ar x a) (ha : a < 5) (h42 : Ar' 42 a = Ar 42 a) (h43 : ∀ i, i < 40 → Ar' 43 (40 * a + i) = Ar 43 (40 * a + i)) (h10 : Ar' (10 + a) = Ar (10 + a)) (h15 : Ar' 15 a = Ar 15 a) (h41 : Ar' 41 a = Ar 41 a) (hA : ∀ b, 66 ≤ b → b = x.2 a → Ar' b = Ar b) : actOk Ar' x a := by
  obtain ⟨len, e1, e2, e3, e4, e5, e6⟩ := h
  refine ⟨len, h42.trans e1, ?_, ?_, ?_, ?_, ?_⟩
  · rw [h10]; exact e2
  · intro i hi
    have := e2.1
    rw [h43 i (by omega), h10]; exact e3 i hi
  · rw [h15, h41]; exact e4
  · rw [h10]; exact e5
  · rw [h10]; exact rowOk_congr e6 hA
theorem ten_mem {a : Nat} (h : a < 5) : 10 + a ∈ aAl := by
  match a, h with
  | 0, _ => decide
  | 1, _ => decide
  | 2, _ => decide
  | 3, _ => decide
  | 4, _ => decide
theorem IA_congr {F F' : vFt} {Ar Ar' : vAt} {x : vXt} (h : IA F Ar x) (hF : kF fAl F F') (hA : kA aAl Ar Ar') (hB : kB Ar Ar') : IA F' Ar' x := by
  obtain ⟨c, f, e1, e2, e3, e4, e5, e6, e7, e8, e9, e10, e11⟩ := h
  refine ⟨c, f, (hF 68 (by decide)).trans e1, (hF 386 (by decide)).trans e2, e3, (hF 65 (by decide)).trans e4, (hF 384 (by decide)).trans e5, ?_, ?_, ?_, ?_, e10, e11⟩
  · rw [hA 9 (by decide)]; exact e6
  · rw [hA 9 (by decide), hA 40 (by decide)]; exact e7
  · intro a ha
    exact actOk_congr (e8 a ha) (by omega) (by rw [hA 42 (by decide)]) (fun i hi => by rw [hA 43 (by decide)]) (hA _ (ten_mem (by omega))) (by rw [hA 15 (by decide)]) (by rw [hA 41 (by decide)]) (fun b hb _ => hB b hb)
  · unfold smF
    rw [hF 131 (by decide), hF 132 (by decide), hF 133 (by decide), hF 134 (by decide)]
    exact e9
/-! hulls -/
def hullOk (Ar : vAt) (h : Nat) : Prop := (∀ w, w < 4 → Ar 22 (h * 7 + w) = Ar 44 (4 * h + w)) ∧ vSz (Ar 44 (4 * h)) (Ar 44 (4 * h + 1)) (Ar 44 (4 * h + 2)) (Ar 44 (4 * h + 3)) ∧ ((Ar 46 h = -1 ∧ ∀ w, 4 ≤ w → w < 7 → Ar 22 (h * 7 + w) = -10000000) ∨ (0 ≤ Ar 46 h ∧ Ar 22 (h * 7 + 4) = Ar 45 h ∧ Ar 22 (h * 7 + 5) = Ar 46 h ∧ Ar 22 (h * 7 + 6) = Ar 47 h))
def IH (F : vFt) (Ar : vAt) : Prop := ∃ m, F 193 = nI m ∧ F 390 = nI m ∧ m ≤ 5 ∧ ∀ h, h < m → hullOk Ar h
theorem IH_congr {F F' : vFt} {Ar Ar' : vAt} (h : IH F Ar) (hF : kF fHl F F') (hA : kA aHl Ar Ar') : IH F' Ar' := by
  unfold IH hullOk at *
  rw [hF 193 (by decide), hF 390 (by decide), hA 22 (by decide), hA 44 (by decide), hA 45 (by decide), hA 46 (by decide), hA 47 (by decide)]
  exact h
/-! the ledger: a run that hangs on the entries alone -/
abbrev gC : Type := (Nat → Int32) × (Nat → Int32) × (Nat → Int32) × (Nat → Nat) × (Nat → Nat) × (Nat → Nat)
def pEf (q : gC) (e : Nat) (s : gT) : Bool × gT := gEff q.1 q.2.1 q.2.2.2.1 q.2.2.2.2.1 q.2.2.2.2.2 e s
def pRun (q : gC) : Nat → gT × (Nat → Int32)
  | 0 => ((fun k => if k % 8 = 0 then 64 else 0, fun _ => 0, fun _ => 0, fun _ => 0), fun _ => 0)
  | i + 1 => if q.2.2.1 i = 0 then ((pEf q i (pRun q i).1).2, upd (pRun q i).2 i (if (pEf q i (pRun q i).1).1 = true then 0 else 1)) else pRun q i
def pM (Ar : vAt) : gC := (Ar 48, Ar 52, Ar 54, gIx (Ar 53), mA1 Ar, mA2 Ar)
def ceq (Ar : vAt) (e : Nat) : Prop := gCol (Ar 23) 0 e = Ar 48 e ∧ gCol (Ar 23) 1 e = Ar 49 e ∧ gCol (Ar 23) 2 e = Ar 50 e ∧ gCol (Ar 23) 3 e = Ar 51 e ∧ gCol (Ar 23) 4 e = Ar 52 e ∧ gCol (Ar 23) 8 e = Ar 53 e ∧ gCol (Ar 23) 5 e = (if Ar 54 e = 0 then 0 else 1) ∧ Ar 25 e = 8 * Ar 49 e + Ar 50 e ∧ Ar 26 e = 8 * Ar 49 e + Ar 51 e
def pRk (q : gC) (st : Nat → Int32) (e : Nat) : Int32 := if st e = 0 then -4 else vSum (fun o => if ¬ st o = 0 ∧ q.2.2.2.2.1 o = q.2.2.2.2.1 e then 1 else 0) e
def lst (Ar : vAt) (n : Nat) : Prop := (∀ k, k < 40 → Ar 27 k = (pRun (pM Ar) n).1.1 k ∧ Ar 28 k = (pRun (pM Ar) n).1.2.1 k ∧ Ar 29 k = (pRun (pM Ar) n).1.2.2.1 k) ∧ ∀ e, e < n → Ar 24 e = (pRun (pM Ar) n).1.2.2.2 e ∧ gCol (Ar 23) 6 e = (pRun (pM Ar) n).2 e ∧ gCol (Ar 23) 7 e = pRk (pM Ar) (pRun (pM Ar) n).1.2.2.2 e
def IL (F : vFt) (Ar : vAt) : Prop := ∃ n, F 258 = nI n ∧ F 395 = nI n ∧ n ≤ 60 ∧ mOk Ar n ∧ (∀ e, e < n → ceq Ar e) ∧ (∀ e, n ≤ e → e < 60 → gCol (Ar 23) 5 e = 0) ∧ lst Ar n
theorem IL_congr {F F' : vFt} {Ar Ar' : vAt} (h : IL F Ar) (hF : kF fLl F F') (hA : kA aLl Ar Ar') : IL F' Ar' := by
  unfold IL mOk lst ceq pM mA1 mA2 at *
  rw [hF 258 (by decide), hF 395 (by decide), hA 23 (by decide), hA 24 (by decide), hA 25 (by decide), hA 26 (by decide), hA 27 (by decide), hA 28 (by decide), hA 29 (by decide), hA 48 (by decide), hA 49 (by decide), hA 50 (by decide), hA 51 (by decide), hA 52 (by decide), hA 53 (by decide), hA 54 (by decide)]
  exact h
/-! papers -/
def pap5 (Ar : vAt) (p : Nat) : Prop := Ar 31 p = Ar 55 (5 * p) ∧ Ar 32 p = Ar 55 (5 * p + 1) ∧ Ar 33 p = Ar 55 (5 * p + 2) ∧ Ar 34 p = Ar 55 (5 * p + 3) ∧ Ar 35 p = Ar 55 (5 * p + 4)
def papB (Ar : vAt) (n w : Nat) : Prop := (∀ p q, p < n → q < n → p ≠ q → bitI (Ar 36 p) q = mL Ar w p q) ∧ (∀ p q, p < 8 → q < 8 → p ≠ q → bitI (Ar 37 p) q = (wFd Ar (nI p) (nI q) w 0).isSome) ∧ ∀ j, j < w → ∃ a b, a < n ∧ b < n ∧ Ar 56 j = nI a ∧ Ar 57 j = nI b
def IP (F : vFt) (Ar : vAt) : Prop := ∃ n w, F 325 = nI n ∧ F 403 = nI n ∧ n ≤ 8 ∧ F 328 = nI w ∧ F 405 = nI w ∧ w ≤ 6 ∧ mYes Ar w ∧ (∀ p, p < n → pap5 Ar p) ∧ papB Ar n w ∧ F 331 = nI (jM (mL Ar w) n) ∧ ∀ i, i < n → Ar 38 i = nI (jG (mL Ar w) n i)
theorem wFd_cg {Ar Ar' : vAt} {a b : Int32} (h56 : Ar' 56 = Ar 56) (h57 : Ar' 57 = Ar 57) : ∀ m i, wFd Ar' a b m i = wFd Ar a b m i := by
  intro m
  induction m with
  | zero => intro i; rfl
  | succ m ih => intro i; rw [wFd, wFd, h56, h57, ih]
theorem mL_cg {Ar Ar' : vAt} {w : Nat} (h55 : Ar' 55 = Ar 55) (h56 : Ar' 56 = Ar 56) (h57 : Ar' 57 = Ar 57) (h58 : Ar' 58 = Ar 58) : mL Ar' w = mL Ar w := by
  funext a b
  unfold mL
  rw [wFd_cg h56 h57, h55, h58]
theorem IP_congr {F F' : vFt} {Ar Ar' : vAt} (h : IP F Ar) (hF : kF fPl F F') (hA : kA aPl Ar Ar') : IP F' Ar' := by
  obtain ⟨n, w, e1, e2, e3, e4, e5, e6, e7, e8, e9, e10, e11⟩ := h
  have hL : mL Ar' w = mL Ar w := mL_cg (hA 55 (by decide)) (hA 56 (by decide)) (hA 57 (by decide)) (hA 58 (by decide))
  refine ⟨n, w, (hF 325 (by decide)).trans e1, (hF 403 (by decide)).trans e2, e3, (hF 328 (by decide)).trans e4, (hF 405 (by decide)).trans e5, e6, ?_, ?_, ?_, ?_, ?_⟩
  · unfold mYes
    rw [hA 58 (by decide)]
    exact e7
  · unfold pap5
    rw [hA 31 (by decide), hA 32 (by decide), hA 33 (by decide), hA 34 (by decide), hA 35 (by decide), hA 55 (by decide)]
    exact e8
  · unfold papB
    rw [hL, hA 36 (by decide), hA 37 (by decide), hA 56 (by decide), hA 57 (by decide)]
    refine ⟨e9.1, fun p q h1 h2 h3 => ?_, e9.2.2⟩
    rw [wFd_cg (hA 56 (by decide)) (hA 57 (by decide))]
    exact e9.2.1 p q h1 h2 h3
  · rw [hL]
    exact (hF 331 (by decide)).trans e10
  · rw [hL, hA 38 (by decide)]
    exact e11
/-! all -/
def IX (F : vFt) (Ar : vAt) (x : vXt) : Prop := IA F Ar x ∧ IH F Ar ∧ IL F Ar ∧ IP F Ar
theorem IX_A {F F' : vFt} {Ar Ar' : vAt} {x x' : vXt} (h : IX F Ar x) (hI : IA F' Ar' x') (hF : kF (fHl ++ fLl ++ fPl) F F') (hA : kA (aHl ++ aLl ++ aPl) Ar Ar') : IX F' Ar' x' :=
  ⟨hI, IH_congr h.2.1 (fun k hk => hF k (by simp only [List.mem_append]; exact Or.inl (Or.inl hk))) (fun k hk => hA k (by simp only [List.mem_append]; exact Or.inl (Or.inl hk))),
    IL_congr h.2.2.1 (fun k hk => hF k (by simp only [List.mem_append]; exact Or.inl (Or.inr hk))) (fun k hk => hA k (by simp only [List.mem_append]; exact Or.inl (Or.inr hk))),
    IP_congr h.2.2.2 (fun k hk => hF k (by simp only [List.mem_append]; exact Or.inr hk)) (fun k hk => hA k (by simp only [List.mem_append]; exact Or.inr hk))⟩
theorem IX_H {F F' : vFt} {Ar Ar' : vAt} {x : vXt} (h : IX F Ar x) (hI : IH F' Ar') (hF : kF (fAl ++ fLl ++ fPl) F F') (hA : kA (aAl ++ aLl ++ aPl) Ar Ar') (hB : kB Ar Ar') : IX F' Ar' x :=
  ⟨IA_congr h.1 (fun k hk => hF k (by simp only [List.mem_append]; exact Or.inl (Or.inl hk))) (fun k hk => hA k (by simp only [List.mem_append]; exact Or.inl (Or.inl hk))) hB, hI,
    IL_congr h.2.2.1 (fun k hk => hF k (by simp only [List.mem_append]; exact Or.inl (Or.inr hk))) (fun k hk => hA k (by simp only [List.mem_append]; exact Or.inl (Or.inr hk))),
    IP_congr h.2.2.2 (fun k hk => hF k (by simp only [List.mem_append]; exact Or.inr hk)) (fun k hk => hA k (by simp only [List.mem_append]; exact Or.inr hk))⟩
theorem IX_L {F F' : vFt} {Ar Ar' : vAt} {x : vXt} (h : IX F Ar x) (hI : IL F' Ar') (hF : kF (fAl ++ fHl ++ fPl) F F') (hA : kA (aAl ++ aHl ++ aPl) Ar Ar') (hB : kB Ar Ar') : IX F' Ar' x :=
  ⟨IA_congr h.1 (fun k hk => hF k (by simp only [List.mem_append]; exact Or.inl (Or.inl hk))) (fun k hk => hA k (by simp only [List.mem_append]; exact Or.inl (Or.inl hk))) hB,
    IH_congr h.2.1 (fun k hk => hF k (by simp only [List.mem_append]; exact Or.inl (Or.inr hk))) (fun k hk => hA k (by simp only [List.mem_append]; exact Or.inl (Or.inr hk))), hI,
    IP_congr h.2.2.2 (fun k hk => hF k (by simp only [List.mem_append]; exact Or.inr hk)) (fun k hk => hA k (by simp only [List.mem_append]; exact Or.inr hk))⟩
theorem IX_P {F F' : vFt} {Ar Ar' : vAt} {x : vXt} (h : IX F Ar x) (hI : IP F' Ar') (hF : kF (fAl ++ fHl ++ fLl) F F') (hA : kA (aAl ++ aHl ++ aLl) Ar Ar') (hB : kB Ar Ar') : IX F' Ar' x :=
  ⟨IA_congr h.1 (fun k hk => hF k (by simp only [List.mem_append]; exact Or.inl (Or.inl hk))) (fun k hk => hA k (by simp only [List.mem_append]; exact Or.inl (Or.inl hk))) hB,
    IH_congr h.2.1 (fun k hk => hF k (by simp only [List.mem_append]; exact Or.inl (Or.inr hk))) (fun k hk => hA k (by simp only [List.mem_append]; exact Or.inl (Or.inr hk))),
    IL_congr h.2.2.1 (fun k hk => hF k (by simp only [List.mem_append]; exact Or.inr hk)) (fun k hk => hA k (by simp only [List.mem_append]; exact Or.inr hk)), hI⟩
/-- nothing but scratch has changed -/
theorem IX_0 {F F' : vFt} {Ar Ar' : vAt} {x : vXt} (h : IX F Ar x) (hF : kF (fAl ++ fHl ++ fLl ++ fPl) F F') (hA : kA (aAl ++ aHl ++ aLl ++ aPl) Ar Ar') (hB : kB Ar Ar') : IX F' Ar' x :=
  IX_P h (IP_congr h.2.2.2 (fun k hk => hF k (List.mem_append_right _ hk)) (fun k hk => hA k (List.mem_append_right _ hk))) (fun k hk => hF k (List.mem_append_left _ hk)) (fun k hk => hA k (List.mem_append_left _ hk)) hB
/-- both answer alike, and all holds again -/
def St0 (m5 m6 : vMx) (d5 d6 : Nat) (as : List Value) (F : vFt) (Ar : vAt) (x : vXt) : Prop := ∃ Q5, C0 m5 d5 (.ref 0 :: as) F Ar x Q5 ∧ ∀ r F1 Ar1, Q5 r F1 Ar1 → ∃ v, r = some (.int v) ∧ ∃ Q6, C0 m6 d6 (.ref 6 :: as) F1 Ar1 x Q6 ∧ ∀ r' F2 Ar2, Q6 r' F2 Ar2 → r' = some (.int v) ∧ IX F2 Ar2 x
def St1 (m5 m6 : vMx) (d5 d6 : Nat) (as : List Value) (F : vFt) (Ar : vAt) (x : vXt) : Prop := ∃ Q5, C1 m5 d5 (.ref 0 :: as) F Ar x Q5 ∧ ∀ r F1 Ar1 x1, Q5 r F1 Ar1 x1 → ∃ v, r = some (.int v) ∧ x.1 ≤ x1.1 ∧ ∃ Q6, C0 m6 d6 (.ref 6 :: as) F1 Ar1 x1 Q6 ∧ ∀ r' F2 Ar2, Q6 r' F2 Ar2 → r' = some (.int v) ∧ IX F2 Ar2 x1
theorem St_two {m5 m6 : vMx} {d5 d6 : Nat} {as : List Value} {F F1 F2 : vFt} {Ar Ar1 Ar2 : vAt} {x : vXt} {v : Int32} (h5 : C0 m5 d5 (.ref 0 :: as) F Ar x (vEq (some (.int v)) F1 Ar1)) (h6 : C0 m6 d6 (.ref 6 :: as) F1 Ar1 x (vEq (some (.int v)) F2 Ar2)) (hI : IX F2 Ar2 x) : St0 m5 m6 d5 d6 as F Ar x := by
  refine ⟨_, h5, ?_⟩
  rintro r G B ⟨rfl, rfl, rfl⟩
  refine ⟨v, rfl, _, h6, ?_⟩
  rintro r G B ⟨rfl, rfl, rfl⟩
  exact ⟨rfl, hI⟩
