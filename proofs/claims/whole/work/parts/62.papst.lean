/-! the calls on papers: both sides -/
theorem srOk_congr {L L' : Nat → Nat → Bool} {g : Nat → Nat} {q c : Nat} (h : ∀ i, i < q → L i q = L' i q) : srOk L g q c = srOk L' g q c := by
  rw [Bool.eq_iff_iff, srOk_iff, srOk_iff]
  constructor
  · intro k i hi hg
    rw [← h i hi]
    exact k i hi hg
  · intro k i hi hg
    rw [h i hi]
    exact k i hi hg
theorem srch_congr {L L' : Nat → Nat → Bool} {most N : Nat} (h : ∀ i q, i < q → q < N → L i q = L' i q) : ∀ k q used g, q + k ≤ N → srch L most k q used g = srch L' most k q used g := by
  intro k
  induction k with
  | zero => intro q used g _; rfl
  | succ k ih =>
    intro q used g hk
    rw [srch, srch]
    congr 1
    funext c
    rw [srOk_congr (fun i hi => h i q hi (by omega)), ih (q + 1) _ _ (by omega)]
theorem jnd_congr {L L' : Nat → Nat → Bool} {n : Nat} (h : ∀ i q, i < q → q < n → L i q = L' i q) : ∀ m most, jnd L n most m = jnd L' n most m := by
  intro m
  induction m with
  | zero => intro most; rfl
  | succ m ih =>
    intro most
    rw [jnd, jnd, srch_congr (N := n) h n 0 0 _ (by omega), ih]
theorem jM_congr {L L' : Nat → Nat → Bool} {n : Nat} (h : ∀ i q, i < q → q < n → L i q = L' i q) : jM L n = jM L' n ∧ jG L n = jG L' n := by
  unfold jM jG
  rw [jnd_congr h n 1]
  exact ⟨rfl, rfl⟩
theorem lSet_bit {f : Nat → Int32} {a b p q : Nat} {yes : Bool} (ha : a < 8) (hb : b < 8) (hab : a ≠ b) (hq : q < 8) : bitI (lSet f a b yes p) q = if (p = a ∧ q = b) ∨ (p = b ∧ q = a) then yes else bitI (f p) q := by
  unfold lSet
  by_cases pb : p = b
  · subst pb
    rw [upd_at, stBit_bit _ _ ha (by omega)]
    by_cases qa : q = a
    · rw [if_pos qa, if_pos (Or.inr ⟨rfl, qa⟩)]
    · rw [if_neg qa, if_neg (by omega)]
  · rw [upd_ne pb]
    by_cases pa : p = a
    · subst pa
      rw [upd_at, stBit_bit _ _ hb (by omega)]
      by_cases qb : q = b
      · rw [if_pos qb, if_pos (Or.inl ⟨rfl, qb⟩)]
      · rw [if_neg qb, if_neg (by omega)]
    · rw [upd_ne pa, if_neg (by omega)]
theorem adLk_bit {B : vAt} {n : Nat} (hn : n < 8) : ∀ i, i ≤ n → ∀ p q, p < 8 → q < 8 → bitI (adLk B n i p) q = if p = n ∧ q < i then decide (sAl B q n) else if q = n ∧ p < i then decide (sAl B p n) else bitI (B 36 p) q := by
  intro i
  induction i with
  | zero =>
    intro _ p q hp hq
    rw [if_neg (by omega), if_neg (by omega)]
    rfl
  | succ i ih =>
    intro hi p q hp hq
    rw [adLk, lSet_bit (by omega) hn (by omega) hq, ih (by omega) p q hp hq]
    by_cases c1 : p = i ∧ q = n
    · rw [if_pos (Or.inl c1), if_neg (by omega), if_pos (by omega), c1.1]
    · by_cases c2 : p = n ∧ q = i
      · rw [if_pos (Or.inr c2), if_pos (by omega), c2.2]
      · rw [if_neg (fun z => z.elim c1 c2)]
        by_cases c3 : p = n ∧ q < i
        · rw [if_pos c3, if_pos (by omega)]
        · rw [if_neg c3, if_neg (show ¬ (p = n ∧ q < i + 1) by omega)]
          by_cases c4 : q = n ∧ p < i
          · rw [if_pos c4, if_pos (show q = n ∧ p < i + 1 by omega)]
          · rw [if_neg c4, if_neg (show ¬ (q = n ∧ p < i + 1) by omega)]
theorem px_pp {a b c d m : Int32} : pxOk a b c d m ↔ ppOk a b c d m := by
  have e0 : (0 : Int32).toInt = 0 := by decide
  have e1 : (1 : Int32).toInt = 1 := by decide
  unfold pxOk ppOk
  simp only [Int32.le_iff_toInt_le, Int32.lt_iff_toInt_lt]
  omega
theorem sDays_symm {a1 b1 a2 b2 : Int32} : sDays a1 b1 a2 b2 ↔ sDays a2 b2 a1 b1 := And.comm
theorem sMark_symm {a b : Int32} : sMark a b ↔ sMark b a := by
  constructor
  · rintro (h | h | h)
    · exact Or.inl h.symm
    · exact Or.inr (Or.inr h)
    · exact Or.inr (Or.inl h)
  · rintro (h | h | h)
    · exact Or.inl h.symm
    · exact Or.inr (Or.inr h)
    · exact Or.inr (Or.inl h)
theorem mAl0_symm {f : Nat → Int32} {a b : Nat} : mAl0 f a b ↔ mAl0 f b a := and_congr (not_congr sDays_symm) (and_congr sDays_symm sMark_symm)
theorem wFd_symm {Ar : vAt} {a b : Int32} : ∀ m i, wFd Ar a b m i = wFd Ar b a m i := by
  intro m
  induction m with
  | zero => intro i; rfl
  | succ m ih =>
    intro i
    rw [wFd, wFd, ih]
    exact ite_iff Or.comm
theorem mL_symm {Ar : vAt} {w a b : Nat} : mL Ar w a b = mL Ar w b a := by
  unfold mL
  rw [wFd_symm w 0]
  split
  · rfl
  · exact decide_eq_decide.mpr mAl0_symm
theorem wFd_none {Ar : vAt} {a b : Int32} : ∀ m i, (∀ j, i ≤ j → j < i + m → ¬ ((Ar 56 j = a ∧ Ar 57 j = b) ∨ (Ar 56 j = b ∧ Ar 57 j = a))) → wFd Ar a b m i = none := by
  intro m
  induction m with
  | zero => intro i _; rfl
  | succ m ih =>
    intro i h
    rw [wFd, if_neg (h i (Nat.le_refl i) (by omega))]
    exact ih (i + 1) (fun j h1 h2 => h j (by omega) (by omega))
theorem wFd_lt2 {Ar : vAt} {a b : Int32} : ∀ m i j, wFd Ar a b m i = some j → j < i + m := by
  intro m
  induction m with
  | zero => intro i j h; cases h
  | succ m ih =>
    intro i j h
    rw [wFd] at h
    split at h
    · cases h; omega
    · have := ih (i + 1) j h
      omega
theorem pap_al {A B : vAt} {p q : Nat} (hp : pap5 A p) (hq : pap5 A q) (h1 : B 31 = A 31) (h2 : B 32 = A 32) (h3 : B 33 = A 33) (h4 : B 34 = A 34) (h5 : B 35 = A 35) : sAl B p q ↔ mAl0 (A 55) p q := by
  unfold sAl mAl0
  obtain ⟨a1, a2, a3, a4, a5⟩ := hp
  obtain ⟨b1, b2, b3, b4, b5⟩ := hq
  rw [h1, h2, h3, h4, h5, a1, a2, a3, a4, a5, b1, b2, b3, b4, b5]
theorem mPap_ne {f : Nat → Int32} {n j : Nat} {a b c d m : Int32} (hj : j < 5 * n ∨ 5 * n + 4 < j) : mPap f n a b c d m j = f j := by
  unfold mPap
  rw [upd_ne (by omega), upd_ne (by omega), upd_ne (by omega), upd_ne (by omega), upd_ne (by omega)]
theorem mAl0_ne {f : Nat → Int32} {n p q : Nat} {a b c d m : Int32} (hp : p < n) (hq : q < n) : mAl0 (mPap f n a b c d m) p q ↔ mAl0 f p q := by
  unfold mAl0
  rw [mPap_ne (by omega), mPap_ne (by omega), mPap_ne (by omega), mPap_ne (by omega), mPap_ne (by omega), mPap_ne (by omega), mPap_ne (by omega), mPap_ne (by omega), mPap_ne (by omega), mPap_ne (by omega)]
theorem IP_add {F : vFt} {Ar A1 : vAt} {n : Nat} {a b c d m : Int32} (h : IP F Ar) (hF : F 325 = nI n) (hn8 : n < 8) (hA : ∀ z, z ≠ 38 → z ≠ 39 → A1 z = addP Ar n a b c d m n z) (hG : ∀ i, i < n + 1 → A1 38 i = nI (jG (Lk (addP Ar n a b c d m n)) (n + 1) i)) : IP (upd (upd (upd F 325 (nI (n + 1))) 331 (nI (jM (Lk (addP Ar n a b c d m n)) (n + 1)))) 403 (nI (n + 1))) (vS A1 55 (mPap (A1 55) n a b c d m)) := by
  obtain ⟨n', w, e1, e2, e3, e4, e5, e6, e7, e8, e9, e10, e11⟩ := h
  have hnn : n' = n := (v_eq_of (by omega) (by omega)).mp (e1.symm.trans hF)
  subst hnn
  have k31 : A1 31 = upd (Ar 31) n' a := hA 31 (by omega) (by omega)
  have k32 : A1 32 = upd (Ar 32) n' b := hA 32 (by omega) (by omega)
  have k33 : A1 33 = upd (Ar 33) n' c := hA 33 (by omega) (by omega)
  have k34 : A1 34 = upd (Ar 34) n' d := hA 34 (by omega) (by omega)
  have k35 : A1 35 = upd (Ar 35) n' m := hA 35 (by omega) (by omega)
  have k36 : A1 36 = adLk (padA Ar n' a b c d m) n' n' := hA 36 (by omega) (by omega)
  have k37 : A1 37 = Ar 37 := hA 37 (by omega) (by omega)
  have k55 : A1 55 = Ar 55 := hA 55 (by omega) (by omega)
  have k56 : A1 56 = Ar 56 := hA 56 (by omega) (by omega)
  have k57 : A1 57 = Ar 57 := hA 57 (by omega) (by omega)
  have k58 : A1 58 = Ar 58 := hA 58 (by omega) (by omega)
  generalize hA2 : vS A1 55 (mPap (A1 55) n' a b c d m) = A2
  have j55 : A2 55 = mPap (Ar 55) n' a b c d m := by rw [← hA2, vS_at, k55]
  have jne : ∀ z, z ≠ 55 → A2 z = A1 z := fun z hz => by rw [← hA2, vS_ne hz]
  have hpap : ∀ p, p < n' + 1 → pap5 A2 p := by
    intro p hp
    unfold pap5
    rw [jne 31 (by omega), jne 32 (by omega), jne 33 (by omega), jne 34 (by omega), jne 35 (by omega), j55, k31, k32, k33, k34, k35]
    by_cases e : p = n'
    · subst e
      rw [upd_at, upd_at, upd_at, upd_at, upd_at]
      unfold mPap
      refine ⟨?_, ?_, ?_, ?_, ?_⟩
      · rw [upd_ne (by omega), upd_ne (by omega), upd_ne (by omega), upd_ne (by omega), upd_at]
      · rw [upd_ne (by omega), upd_ne (by omega), upd_ne (by omega), upd_at]
      · rw [upd_ne (by omega), upd_ne (by omega), upd_at]
      · rw [upd_ne (by omega), upd_at]
      · rw [upd_at]
    · rw [upd_ne e, upd_ne e, upd_ne e, upd_ne e, upd_ne e, mPap_ne (by omega), mPap_ne (by omega), mPap_ne (by omega), mPap_ne (by omega), mPap_ne (by omega)]
      exact e8 p (by omega)
  have hw : ∀ p q m i, wFd A2 p q m i = wFd Ar p q m i := fun p q m i => wFd_cg ((jne 56 (by omega)).trans k56) ((jne 57 (by omega)).trans k57) m i
  have hsal : ∀ p, p < n' → (sAl (padA Ar n' a b c d m) p n' ↔ mAl0 (A2 55) p n') := fun p hp => pap_al (hpap p (by omega)) (hpap n' (by omega)) (((jne 31 (by omega)).trans k31).symm) (((jne 32 (by omega)).trans k32).symm) (((jne 33 (by omega)).trans k33).symm) (((jne 34 (by omega)).trans k34).symm) (((jne 35 (by omega)).trans k35).symm)
  have hnew : ∀ p, p < n' → mL A2 w p n' = decide (sAl (padA Ar n' a b c d m) p n') := by
    intro p hp
    unfold mL
    rw [hw, wFd_none w 0 (fun j _ hj => ?_)]
    · exact decide_eq_decide.mpr (hsal p hp).symm
    · obtain ⟨u, v, hu, hv, h56, h57⟩ := e9.2.2 j (by omega)
      rw [h56, h57]
      rintro (⟨z1, z2⟩ | ⟨z1, z2⟩)
      · have := (v_eq_of (by omega) (by omega)).mp z2
        omega
      · have := (v_eq_of (by omega) (by omega)).mp z1
        omega
  have hold : ∀ p q, p < n' → q < n' → mL A2 w p q = mL Ar w p q := by
    intro p q hp hq
    unfold mL
    rw [hw, (jne 58 (by omega)).trans k58]
    split
    · rfl
    · rw [j55]
      exact decide_eq_decide.mpr (mAl0_ne hp hq)
  have hbit : ∀ p q, p < n' + 1 → q < n' + 1 → p ≠ q → bitI (A2 36 p) q = mL A2 w p q := by
    intro p q hp hq hpq
    rw [jne 36 (by omega), k36, adLk_bit hn8 n' (Nat.le_refl n') p q (by omega) (by omega)]
    by_cases c1 : p = n'
    · rw [if_pos (by omega), c1, mL_symm]
      exact (hnew q (by omega)).symm
    · rw [if_neg (by omega)]
      by_cases c2 : q = n'
      · rw [if_pos (by omega), c2]
        exact (hnew p (by omega)).symm
      · rw [if_neg (by omega), hold p q (by omega) (by omega)]
        exact e9.1 p q (by omega) (by omega) hpq
  have hLk : ∀ i q, i < q → q < n' + 1 → Lk (addP Ar n' a b c d m n') i q = mL A2 w i q := by
    intro i q hi hq
    rw [mL_symm, ← hbit q i hq (by omega) (by omega), jne 36 (by omega), hA 36 (by omega) (by omega)]
    rfl
  obtain ⟨hM, hGG⟩ := jM_congr hLk
  refine ⟨n' + 1, w, rfl, rfl, by omega, e4, e5, e6, ?_, hpap, ⟨hbit, ?_, ?_⟩, ?_, ?_⟩
  · unfold mYes
    rw [jne 58 (by omega), k58]
    exact e7
  · intro p q hp hq hpq
    rw [hw, jne 37 (by omega), k37]
    exact e9.2.1 p q hp hq hpq
  · intro j hj
    rw [jne 56 (by omega), jne 57 (by omega), k56, k57]
    obtain ⟨u, v, hu, hv, h56, h57⟩ := e9.2.2 j hj
    exact ⟨u, v, by omega, by omega, h56, h57⟩
  · rw [← hM]
    rfl
  · intro i hi
    rw [jne 38 (by omega), hG i hi, hGG]
theorem st_paper {F : vFt} {Ar : vAt} {x : vXt} {a b c d m : Int32} (h : IX F Ar x) : St0 mX5_paper mX6_paper 22 1 [.int a, .int b, .int c, .int d, .int m] F Ar x := by
  obtain ⟨n, w, e1, e2, e3, e4, e5, e6, e7, e8, e9, e10, e11⟩ := h.2.2.2
  by_cases hp : pxOk a b c d m
  · refine ⟨_, tX5_paper1 hp e1 e3, ?_⟩
    intro r F1 A1 hq
    unfold paddQ at hq
    by_cases hn : n < 8
    · rw [if_neg (fun z => z hn)] at hq
      obtain ⟨rfl, rfl, hA, hG⟩ := hq
      refine ⟨_, rfl, _, tX6_paper2 (n := n) (px_pp.mp hp) (show _ = nI n from e2) hn, ?_⟩
      rintro r' F2 Ar2 ⟨rfl, rfl, rfl⟩
      have hk : ∀ z, z ≠ 31 → z ≠ 32 → z ≠ 33 → z ≠ 34 → z ≠ 35 → z ≠ 36 → z ≠ 38 → z ≠ 39 → A1 z = Ar z := by
        intro z h1 h2 h3 h4 h5 h6 h7 h8
        rw [hA z h7 h8]
        unfold addP padA
        rw [vS_ne h6, vS_ne h5, vS_ne h4, vS_ne h3, vS_ne h2, vS_ne h1]
      refine ⟨rfl, IX_P h (IP_add h.2.2.2 e1 hn hA hG) (kF_upd (kF_upd (kF_upd kF_rf (by decide)) (by decide)) (by decide)) (kA_vS (fun z hz => ?_) (by decide)) (kB_vS (fun z hz => ?_) (by omega))⟩
      · simp only [List.mem_append, List.mem_cons, List.not_mem_nil, or_false] at hz
        exact hk z (by omega) (by omega) (by omega) (by omega) (by omega) (by omega) (by omega) (by omega)
      · exact hk z (by omega) (by omega) (by omega) (by omega) (by omega) (by omega) (by omega) (by omega)
    · rw [if_pos hn] at hq
      obtain ⟨rfl, rfl, rfl⟩ := hq
      refine ⟨_, rfl, _, tX6_paper1 (px_pp.mp hp) (by rw [e2]; congr 1; omega), ?_⟩
      rintro r' F2 Ar2 ⟨rfl, rfl, rfl⟩
      exact ⟨rfl, h⟩
  · exact St_two (tX5_paper0 hp) (tX6_paper0 (fun z => hp (px_pp.mpr z))) h
theorem wFd_ext {Ar A2 : vAt} {a b : Int32} {w : Nat} {u v : Int32} (h56 : A2 56 = upd (Ar 56) w u) (h57 : A2 57 = upd (Ar 57) w v) : ∀ m i, i + m = w → wFd A2 a b (m + 1) i = match wFd Ar a b m i with
    | some j => some j
    | none => if (u = a ∧ v = b) ∨ (u = b ∧ v = a) then some w else none := by
  intro m
  induction m with
  | zero =>
    intro i hi
    have : i = w := by omega
    subst this
    show (if (A2 56 i = a ∧ A2 57 i = b) ∨ (A2 56 i = b ∧ A2 57 i = a) then some i else none) = _
    rw [h56, h57, upd_at, upd_at]
    rfl
  | succ m ih =>
    intro i hi
    have e1 : A2 56 i = Ar 56 i := by rw [h56, upd_ne (by omega)]
    have e2 : A2 57 i = Ar 57 i := by rw [h57, upd_ne (by omega)]
    rw [wFd, e1, e2, ih (i + 1) (by omega)]
    by_cases c : (Ar 56 i = a ∧ Ar 57 i = b) ∨ (Ar 56 i = b ∧ Ar 57 i = a)
    · rw [if_pos c, wFd, if_pos c]
    · rw [if_neg c, wFd, if_neg c]
theorem IP_hear {F : vFt} {Ar A1 : vAt} {n w a b : Nat} {yes : Bool} (h : IP F Ar) (hF : F 325 = nI n) (hn8 : n ≤ 8) (hW : F 328 = nI w) (hw6 : w < 6) (ha : a < n) (hb : b < n) (hab : a ≠ b) (hno : wFd Ar (nI a) (nI b) w 0 = none) (hA : ∀ z, z ≠ 38 → z ≠ 39 → A1 z = hearA Ar a b yes z) (hG : ∀ i, i < n → A1 38 i = nI (jG (Lk (hearA Ar a b yes)) n i)) : IP (upd (upd (upd F 328 (nI (w + 1))) 331 (nI (jM (Lk (hearA Ar a b yes)) n))) 405 (nI (w + 1))) (vS (vS (vS A1 56 (upd (A1 56) w (nI a))) 57 (upd (A1 57) w (nI b))) 58 (upd (A1 58) w (if yes then 1 else 0))) := by
  obtain ⟨n', w', e1, e2, e3, e4, e5, e6, e7, e8, e9, e10, e11⟩ := h
  have hnn : n' = n := (v_eq_of (by omega) (by omega)).mp (e1.symm.trans hF)
  have hww : w' = w := (v_eq_of (by omega) (by omega)).mp (e4.symm.trans hW)
  subst hnn
  subst hww
  have k36 : A1 36 = lSet (Ar 36) a b yes := hA 36 (by omega) (by omega)
  have k37 : A1 37 = lSet (Ar 37) a b true := hA 37 (by omega) (by omega)
  have kne : ∀ z, z ≠ 36 → z ≠ 37 → z ≠ 38 → z ≠ 39 → A1 z = Ar z := fun z h1 h2 h3 h4 => by
    rw [hA z h3 h4]
    unfold hearA
    rw [vS_ne h1, vS_ne h2]
  generalize hA2 : vS (vS (vS A1 56 (upd (A1 56) w' (nI a))) 57 (upd (A1 57) w' (nI b))) 58 (upd (A1 58) w' (if yes then 1 else 0)) = A2
  have j56 : A2 56 = upd (Ar 56) w' (nI a) := by rw [← hA2, vS_ne (by omega), vS_ne (by omega), vS_at, kne 56 (by omega) (by omega) (by omega) (by omega)]
  have j57 : A2 57 = upd (Ar 57) w' (nI b) := by rw [← hA2, vS_ne (by omega), vS_at, kne 57 (by omega) (by omega) (by omega) (by omega)]
  have j58 : A2 58 = upd (Ar 58) w' (if yes then 1 else 0) := by rw [← hA2, vS_at, kne 58 (by omega) (by omega) (by omega) (by omega)]
  have jne : ∀ z, z ≠ 56 → z ≠ 57 → z ≠ 58 → A2 z = A1 z := fun z h1 h2 h3 => by rw [← hA2, vS_ne h3, vS_ne h2, vS_ne h1]
  have jko : ∀ z, z ≠ 56 → z ≠ 57 → z ≠ 58 → z ≠ 36 → z ≠ 37 → z ≠ 38 → z ≠ 39 → A2 z = Ar z := fun z h1 h2 h3 h4 h5 h6 h7 => (jne z h1 h2 h3).trans (kne z h4 h5 h6 h7)
  have hwx : ∀ p q, p < 8 → q < 8 → wFd A2 (nI p) (nI q) (w' + 1) 0 = match wFd Ar (nI p) (nI q) w' 0 with
      | some j => some j
      | none => if (a = p ∧ b = q) ∨ (a = q ∧ b = p) then some w' else none := by
    intro p q hp hq
    rw [wFd_ext j56 j57 w' 0 (by omega)]
    cases wFd Ar (nI p) (nI q) w' 0 with
    | some j => rfl
    | none =>
      apply ite_iff
      rw [v_eq_of (by omega) (by omega), v_eq_of (by omega) (by omega), v_eq_of (by omega) (by omega), v_eq_of (by omega) (by omega)]
  have hno2 : ∀ p q, (p = a ∧ q = b) ∨ (p = b ∧ q = a) → wFd Ar (nI p) (nI q) w' 0 = none := by
    rintro p q (⟨rfl, rfl⟩ | ⟨rfl, rfl⟩)
    · exact hno
    · rw [wFd_symm]
      exact hno
  have hml : ∀ p q, p < 8 → q < 8 → mL A2 (w' + 1) p q = if (p = a ∧ q = b) ∨ (p = b ∧ q = a) then yes else mL Ar w' p q := by
    intro p q hp hq
    unfold mL
    rw [hwx p q hp hq]
    by_cases c : (p = a ∧ q = b) ∨ (p = b ∧ q = a)
    · rw [if_pos c, hno2 p q c]
      simp only
      rw [if_pos (by omega)]
      simp only
      rw [j58, upd_at]
      cases yes <;> decide
    · rw [if_neg c]
      cases hf : wFd Ar (nI p) (nI q) w' 0 with
      | some j =>
        simp only
        have := wFd_lt2 w' 0 j hf
        rw [j58, upd_ne (by omega)]
      | none =>
        simp only
        rw [if_neg (by omega)]
        simp only
        rw [jko 55 (by omega) (by omega) (by omega) (by omega) (by omega) (by omega) (by omega)]
  have hbit : ∀ p q, p < n' → q < n' → p ≠ q → bitI (A2 36 p) q = mL A2 (w' + 1) p q := by
    intro p q hp hq hpq
    rw [jne 36 (by omega) (by omega) (by omega), k36, lSet_bit (by omega) (by omega) hab (by omega), hml p q (by omega) (by omega), e9.1 p q hp hq hpq]
  have hLk : ∀ i q, i < q → q < n' → Lk (hearA Ar a b yes) i q = mL A2 (w' + 1) i q := by
    intro i q hi hq
    rw [mL_symm, ← hbit q i hq (by omega) (by omega), jne 36 (by omega) (by omega) (by omega), hA 36 (by omega) (by omega)]
    rfl
  obtain ⟨hM, hGG⟩ := jM_congr hLk
  refine ⟨n', w' + 1, e1, e2, e3, rfl, rfl, by omega, ?_, ?_, ⟨hbit, ?_, ?_⟩, ?_, ?_⟩
  · intro j hj
    rw [j58]
    by_cases c : j = w'
    · subst c
      rw [upd_at]
      cases yes
      · exact Or.inl rfl
      · exact Or.inr rfl
    · rw [upd_ne c]
      exact e7 j (by omega)
  · intro p hp
    unfold pap5
    rw [jko 31 (by omega) (by omega) (by omega) (by omega) (by omega) (by omega) (by omega), jko 32 (by omega) (by omega) (by omega) (by omega) (by omega) (by omega) (by omega), jko 33 (by omega) (by omega) (by omega) (by omega) (by omega) (by omega) (by omega), jko 34 (by omega) (by omega) (by omega) (by omega) (by omega) (by omega) (by omega), jko 35 (by omega) (by omega) (by omega) (by omega) (by omega) (by omega) (by omega), jko 55 (by omega) (by omega) (by omega) (by omega) (by omega) (by omega) (by omega)]
    exact e8 p hp
  · intro p q hp hq hpq
    rw [jne 37 (by omega) (by omega) (by omega), k37, lSet_bit (by omega) (by omega) hab (by omega), hwx p q hp hq, e9.2.1 p q hp hq hpq]
    by_cases c : (p = a ∧ q = b) ∨ (p = b ∧ q = a)
    · rw [if_pos c, hno2 p q c]
      simp only
      rw [if_pos (by omega)]
      rfl
    · rw [if_neg c]
      cases hf : wFd Ar (nI p) (nI q) w' 0 with
      | some j => rfl
      | none =>
        simp only
        rw [if_neg (by omega)]
  · intro j hj
    rw [j56, j57]
    by_cases c : j = w'
    · subst c
      rw [upd_at, upd_at]
      exact ⟨a, b, ha, hb, rfl, rfl⟩
    · rw [upd_ne c, upd_ne c]
      exact e9.2.2 j (by omega)
  · rw [← hM]
    rfl
  · intro i hi
    rw [jne 38 (by omega) (by omega) (by omega), hG i hi, hGG]
theorem two_nats {F : vFt} {n : Nat} {a b : Int32} {k : Nat} (hF : F k = nI n) (hn : n ≤ 8) (h : (0 ≤ a ∧ a ≤ F k - 1) ∧ (0 ≤ b ∧ b ≤ F k - 1) ∧ ¬ a = b) : ∃ p q, p < n ∧ q < n ∧ p ≠ q ∧ a = nI p ∧ b = nI q := by
  obtain ⟨h1, h2, h3⟩ := h
  rw [hF] at h1 h2
  obtain ⟨p, hp, rfl⟩ := (v_has (by omega)).mp h1
  obtain ⟨q, hq, rfl⟩ := (v_has (by omega)).mp h2
  exact ⟨p, q, hp, hq, fun z => h3 (by rw [z]), rfl, rfl⟩
theorem st_witness {F : vFt} {Ar : vAt} {x : vXt} {a b : Int32} {yes : Bool} (h : IX F Ar x) : St0 mX5_witness mX6_witness 22 2 [.int a, .int b, .int (if yes then 1 else 0)] F Ar x := by
  obtain ⟨n, w, e1, e2, e3, e4, e5, e6, e7, e8, e9, e10, e11⟩ := h.2.2.2
  have hcnt : F 403 = F 325 := e2.trans e1.symm
  by_cases hg : (0 ≤ a ∧ a ≤ F 325 - 1) ∧ (0 ≤ b ∧ b ≤ F 325 - 1) ∧ ¬ a = b
  · obtain ⟨p, q, hp, hq, hpq, rfl, rfl⟩ := two_nats e1 e3 hg
    have hg' : (0 ≤ nI p ∧ nI p ≤ F 403 - 1) ∧ (0 ≤ nI q ∧ nI q ≤ F 403 - 1) ∧ ¬ nI p = nI q := by rw [hcnt]; exact hg
    have hbit := e9.2.1 p q (by omega) (by omega) hpq
    refine ⟨_, tX5_witness1 e1 e3 e4 e6 hp hq hpq, ?_⟩
    intro r F1 A1 hr
    unfold hearQ at hr
    cases hf : wFd Ar (nI p) (nI q) w 0 with
    | some j =>
      rw [hf] at hbit
      rw [if_pos (show bitI (Ar 37 p) q = true from hbit)] at hr
      obtain ⟨rfl, rfl, rfl⟩ := hr
      refine ⟨_, rfl, _, tX6_witness1 hg' e5 e6 hf, ?_⟩
      rintro r' F2 Ar2 ⟨rfl, rfl, rfl⟩
      exact ⟨rfl, h⟩
    | none =>
      rw [hf] at hbit
      rw [if_neg (by rw [hbit]; decide)] at hr
      by_cases hw : w < 6
      · rw [if_neg (fun z => z hw)] at hr
        obtain ⟨rfl, rfl, hA, hG⟩ := hr
        have hk : ∀ z, z ≠ 36 → z ≠ 37 → z ≠ 38 → z ≠ 39 → A1 z = Ar z := fun z h1 h2 h3 h4 => by
          rw [hA z h3 h4]
          unfold hearA
          rw [vS_ne h1, vS_ne h2]
        refine ⟨_, rfl, _, tX6_witness3 (w := w) hg' (show _ = nI w from e5) hw (by rw [wFd_cg (hk 56 (by omega) (by omega) (by omega) (by omega)) (hk 57 (by omega) (by omega) (by omega) (by omega))]; exact hf), ?_⟩
        rintro r' F2 Ar2 ⟨rfl, rfl, rfl⟩
        refine ⟨rfl, IX_P h (IP_hear h.2.2.2 e1 e3 e4 hw hp hq hpq hf hA hG) (kF_upd (kF_upd (kF_upd kF_rf (by decide)) (by decide)) (by decide)) (kA_vS (kA_vS (kA_vS (fun z hz => ?_) (by decide)) (by decide)) (by decide)) (kB_vS (kB_vS (kB_vS (fun z hz => ?_) (by omega)) (by omega)) (by omega))⟩
        · simp only [List.mem_append, List.mem_cons, List.not_mem_nil, or_false] at hz
          exact hk z (by omega) (by omega) (by omega) (by omega)
        · exact hk z (by omega) (by omega) (by omega) (by omega)
      · rw [if_pos hw] at hr
        obtain ⟨rfl, rfl, rfl⟩ := hr
        have hw6 : w = 6 := by omega
        subst hw6
        refine ⟨_, rfl, _, tX6_witness2 hg' e5 hf, ?_⟩
        rintro r' F2 Ar2 ⟨rfl, rfl, rfl⟩
        exact ⟨rfl, h⟩
  · exact St_two (tX5_witness0 hg) (tX6_witness0 (by rw [hcnt]; exact hg)) h
theorem st_alike {F : vFt} {Ar : vAt} {x : vXt} {a b : Int32} (h : IX F Ar x) : St0 mX5_alike mX6_alike 3 2 [.int a, .int b] F Ar x := by
  obtain ⟨n, w, e1, e2, e3, e4, e5, e6, e7, e8, e9, e10, e11⟩ := h.2.2.2
  have hcnt : F 403 = F 325 := e2.trans e1.symm
  by_cases hg : (0 ≤ a ∧ a ≤ F 325 - 1) ∧ (0 ≤ b ∧ b ≤ F 325 - 1) ∧ ¬ a = b
  · obtain ⟨p, q, hp, hq, hpq, rfl, rfl⟩ := two_nats e1 e3 hg
    have h5 := tX5_alike1 (Ar := Ar) (x := x) e1 e3 hp hq hpq
    rw [e9.1 p q hp hq hpq] at h5
    exact St_two h5 (tX6_alike1 e2 e3 hp hq hpq e5 e6 e7) h
  · exact St_two (tX5_alike0 hg) (tX6_alike0 (by rw [hcnt]; exact hg)) h
theorem IX_gr {F : vFt} {Ar Ar' : vAt} {x : vXt} (h : IX F Ar x) (hk : ∀ b, b ≠ 64 → b ≠ 65 → Ar' b = Ar b) : IX F Ar' x := by
  refine IX_0 h kF_rf (fun z hz => ?_) (fun z hz => hk z (by omega) (by omega))
  simp only [List.mem_append, List.mem_cons, List.not_mem_nil, or_false] at hz
  exact hk z (by omega) (by omega)
theorem st_group {F : vFt} {Ar : vAt} {x : vXt} {i : Int32} (h : IX F Ar x) : St0 mX5_group mX6_group 2 5 [.int i] F Ar x := by
  obtain ⟨n, w, e1, e2, e3, e4, e5, e6, e7, e8, e9, e10, e11⟩ := h.2.2.2
  have hcnt : F 403 = F 325 := e2.trans e1.symm
  by_cases hi : 0 ≤ i ∧ i ≤ F 325 - 1
  · rw [e1] at hi
    obtain ⟨a, ha, rfl⟩ := (v_has (by omega)).mp hi
    refine ⟨_, tX5_group1 e1 e3 ha, ?_⟩
    rintro r F1 A1 ⟨rfl, rfl, rfl⟩
    refine ⟨_, rfl, _, tX6_group e2 (by omega) e3 e5 e6 e7 ha, ?_⟩
    rintro r' F2 Ar2 ⟨rfl, rfl, hk⟩
    exact ⟨by rw [e11 a ha], IX_gr h hk⟩
  · exact St_two (tX5_group0 hi) (tX6_group0 (by rw [hcnt]; exact hi)) h
theorem st_groups {F : vFt} {Ar : vAt} {x : vXt} (h : IX F Ar x) : St0 mX5_groups mX6_groups 1 5 [] F Ar x := by
  obtain ⟨n, w, e1, e2, e3, e4, e5, e6, e7, e8, e9, e10, e11⟩ := h.2.2.2
  refine ⟨_, tX5_groups, ?_⟩
  rintro r F1 A1 ⟨rfl, rfl, rfl⟩
  rcases Nat.eq_zero_or_pos n with h0 | h0
  · subst h0
    refine ⟨_, rfl, _, tX6_groups0 e2, ?_⟩
    rintro r' F2 Ar2 ⟨rfl, rfl, rfl⟩
    exact ⟨by rw [e10]; rfl, h⟩
  · refine ⟨_, rfl, _, tX6_groups e2 h0 e3 e5 e6 e7, ?_⟩
    rintro r' F2 Ar2 ⟨rfl, rfl, hk, -⟩
    exact ⟨by rw [e10], IX_gr h hk⟩
