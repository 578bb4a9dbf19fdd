/-! the ledger: both sides go through the entries alike -/
def gRel (N : Nat) (s t : gT) : Prop := (∀ k, k < 40 → s.1 k = t.1 k ∧ s.2.1 k = t.2.1 k ∧ s.2.2.1 k = t.2.2.1 k) ∧ ∀ j, j < N → s.2.2.2 j = t.2.2.2 j
def cEq (q q' : gC) (e : Nat) : Prop := q.1 e = q'.1 e ∧ q.2.1 e = q'.2.1 e ∧ q.2.2.2.1 e = q'.2.2.2.1 e ∧ q.2.2.2.2.1 e = q'.2.2.2.2.1 e ∧ q.2.2.2.2.2 e = q'.2.2.2.2.2 e
def pOk (q : gC) (n : Nat) : Prop := ∀ e, e < n → q.2.2.2.2.1 e < 40 ∧ q.2.2.2.2.2 e < 40 ∧ (q.1 e = 0 ∨ q.1 e = 1 ∨ (¬ q.1 e = 0 ∧ ¬ q.1 e = 1 ∧ q.2.2.2.1 e < e))
theorem upd_rel {f g : Nat → Int32} {a : Nat} {v : Int32} {k : Nat} (h : f k = g k) : upd f a v k = upd g a v k := by
  unfold upd
  split
  · rfl
  · exact h
theorem gSet_rel {a1 a2 b1 b2 : Nat → Nat} {p N : Nat} {v n : Int32} {s t : gT} (h : gRel N s t) (h1 : a1 p = b1 p) (h2 : a2 p = b2 p) (l1 : a1 p < 40) (l2 : a2 p < 40) : gRel N (gSet a1 a2 p v n s) (gSet b1 b2 p v n t) := by
  unfold gSet
  rw [← h1, ← h2, (h.1 _ l1).2.1, (h.1 _ l2).2.2]
  exact ⟨fun k hk => ⟨(h.1 k hk).1, upd_rel (h.1 k hk).2.1, upd_rel (h.1 k hk).2.2⟩, fun j hj => upd_rel (h.2 j hj)⟩
theorem gMove_rel {a1 a2 b1 b2 : Nat → Nat} {e N : Nat} {n : Int32} {s t : gT} (h : gRel N s t) (h1 : a1 e = b1 e) (h2 : a2 e = b2 e) (l1 : a1 e < 40) (l2 : a2 e < 40) : gRel N (gMove a1 a2 e n s) (gMove b1 b2 e n t) := by
  unfold gMove
  have q : upd s.1 (a1 e) (s.1 (a1 e) - n) (a2 e) = upd t.1 (a1 e) (t.1 (a1 e) - n) (a2 e) := by
    rw [(h.1 _ l1).1]
    exact upd_rel (h.1 _ l2).1
  rw [← h1, ← h2, q, (h.1 _ l1).1]
  exact ⟨fun k hk => ⟨upd_rel (upd_rel (h.1 k hk).1), (h.1 k hk).2.1, (h.1 k hk).2.2⟩, h.2⟩
theorem pEf_rel {q q' : gC} {e n N : Nat} {s t : gT} (hq : ∀ e, e < n → cEq q q' e) (hok : pOk q n) (he : e < n) (hN : e < N) (h : gRel N s t) : (pEf q e s).1 = (pEf q' e t).1 ∧ gRel N (pEf q e s).2 (pEf q' e t).2 := by
  obtain ⟨c1, c2, c3, c4, c5⟩ := hq e he
  obtain ⟨l1, l2, hk⟩ := hok e he
  unfold pEf gEff
  rw [← c1, ← c2, ← c3, ← c4, (h.1 _ l1).1, (h.1 _ l1).2.1]
  by_cases k0 : q.1 e = 0
  · rw [if_pos k0, if_pos k0]
    split
    · exact ⟨rfl, gMove_rel h c4 c5 l1 l2⟩
    · exact ⟨rfl, h⟩
  · rw [if_neg k0, if_neg k0]
    by_cases k1 : q.1 e = 1
    · rw [if_pos k1, if_pos k1]
      split
      · exact ⟨rfl, gSet_rel h c4 c5 l1 l2⟩
      · exact ⟨rfl, h⟩
    · rw [if_neg k1, if_neg k1]
      have hr : q.2.2.2.1 e < e := by
        rcases hk with hk | hk | hk
        · exact absurd hk k0
        · exact absurd hk k1
        · exact hk.2.2
      obtain ⟨d1, d2, d3, d4, d5⟩ := hq _ (Nat.lt_trans hr he)
      obtain ⟨m1, m2, -⟩ := hok _ (Nat.lt_trans hr he)
      rw [h.2 _ (Nat.lt_trans hr hN), ← d2]
      split
      · exact ⟨rfl, h⟩
      · exact ⟨rfl, gSet_rel h d4 d5 m1 m2⟩
theorem pEf_st {q : gC} {e j n : Nat} {s : gT} (hok : pOk q n) (he : e < n) (hj : e < j) : (pEf q e s).2.2.2.2 j = s.2.2.2 j := by
  obtain ⟨l1, l2, hk⟩ := hok e he
  unfold pEf gEff
  split
  · split <;> rfl
  · split
    · split
      · exact upd_ne (by omega)
      · rfl
    · rename_i k0 k1
      have hr : q.2.2.2.1 e < e := by
        rcases hk with hk | hk | hk
        · exact absurd hk k0
        · exact absurd hk k1
        · exact hk.2.2
      split
      · rfl
      · exact upd_ne (by omega)
theorem pRun_z {q : gC} {n : Nat} (hok : pOk q n) : ∀ i, i ≤ n → ∀ j, i ≤ j → (pRun q i).1.2.2.2 j = 0 ∧ (pRun q i).2 j = 0 := by
  intro i
  induction i with
  | zero => intro _ j _; exact ⟨rfl, rfl⟩
  | succ i ih =>
    intro hi j hj
    have h1 := ih (by omega) j (by omega)
    rw [pRun]
    split
    · refine ⟨?_, ?_⟩
      · show (pEf q i (pRun q i).1).2.2.2.2 j = 0
        rw [pEf_st hok (by omega) (by omega)]
        exact h1.1
      · show upd _ i _ j = 0
        rw [upd_ne (by omega)]
        exact h1.2
    · exact h1
def vdV (q : gC) (e : Nat) : Int32 := if q.2.2.1 e = 0 then (if (pEf q e (pRun q e).1).1 = true then 0 else 1) else 0
theorem pRun_v {q : gC} {n : Nat} (hok : pOk q n) : ∀ i, i ≤ n → ∀ e, e < i → (pRun q i).2 e = vdV q e := by
  intro i
  induction i with
  | zero => intro _ e he; omega
  | succ i ih =>
    intro hi e he
    rw [pRun]
    by_cases ee : e = i
    · subst ee
      unfold vdV
      split
      · exact upd_at
      · exact (pRun_z hok e (by omega) e (Nat.le_refl e)).2
    · split
      · exact (upd_ne ee).trans (ih (by omega) e (by omega))
      · exact ih (by omega) e (by omega)
theorem vdV_01 (q : gC) (e : Nat) : vdV q e = 0 ∨ vdV q e = 1 := by
  unfold vdV
  split
  · split
    · exact Or.inl rfl
    · exact Or.inr rfl
  · exact Or.inl rfl
/-! the model's run -/
theorem gIx_r {f : Nat → Int32} {e a : Nat} (h : f e = nI a) (ha : a < 100) : gIx f e = a := gIx_eq h (by omega)
theorem a1_val {h a : Nat} {H A : Int32} (eh : H = nI h) (ea : A = nI a) (hh : h < 5) (ha : a < 8) : (8 * H + A).toNatClampNeg = 8 * h + a := by
  rw [eh, ea]
  exact v_cl (8 * h + a) (v_ma 8 h a) (by omega)
theorem pOk_m {Ar : vAt} {n : Nat} (hn : n ≤ 60) (h : mOk Ar n) : pOk (pM Ar) n := by
  intro e he
  obtain ⟨⟨k, a, b, hk, ha, hb, e1, e2, e3⟩, hkd⟩ := h e he
  have q1 : mA1 Ar e = 8 * k + a := a1_val e1 e2 hk ha
  have q2 : mA2 Ar e = 8 * k + b := a1_val e1 e3 hk hb
  refine ⟨?_, ?_, ?_⟩
  · show mA1 Ar e < 40
    omega
  · show mA2 Ar e < 40
    omega
  · rcases hkd with h0 | h1 | ⟨h2, r, hr, h3, -⟩
    · exact Or.inl h0
    · exact Or.inr (Or.inl h1)
    · refine Or.inr (Or.inr ⟨?_, ?_, ?_⟩)
      · show ¬ Ar 48 e = 0
        rw [h2]; decide
      · show ¬ Ar 48 e = 1
        rw [h2]; decide
      · show gIx (Ar 53) e < e
        rw [gIx_r h3 (by omega)]
        exact hr
theorem cEq_rf {q : gC} {e : Nat} : cEq q q e := ⟨rfl, rfl, rfl, rfl, rfl⟩
theorem mOw_at {f : Nat → Int32} : ∀ n k, k < n → mOw f n k = if k % 8 = 0 then 64 else 0 := by
  intro n
  induction n with
  | zero => intro k hk; omega
  | succ n ih =>
    intro k hk
    rw [mOw]
    by_cases e : k = n
    · subst e; exact upd_at
    · exact (upd_ne e).trans (ih k (by omega))
theorem mRn_p {Ar : vAt} {n : Nat} (hn : n ≤ 60) (hok : mOk Ar n) : ∀ i, i ≤ n → gRel i (mRn Ar i).1 (pRun (pM Ar) i).1 ∧ ∀ e, e < i → (mRn Ar i).2 e = (pRun (pM Ar) i).2 e := by
  have hp := pOk_m hn hok
  intro i
  induction i with
  | zero =>
    intro _
    refine ⟨⟨fun k hk => ⟨mOw_at 40 k hk, ?_, rfl⟩, fun j hj => absurd hj (Nat.not_lt_zero j)⟩, fun j hj => absurd hj (Nat.not_lt_zero j)⟩
    show vFill (Ar 61) 40 0 k = 0
    exact if_pos hk
  | succ i ih =>
    intro hi
    obtain ⟨h1, h2⟩ := ih (by omega)
    have hz := (pRun_z hp i (by omega) i (Nat.le_refl i)).1
    have h3 : gRel (i + 1) ((mRn Ar i).1.1, (mRn Ar i).1.2.1, (mRn Ar i).1.2.2.1, upd (mRn Ar i).1.2.2.2 i 0) (pRun (pM Ar) i).1 := by
      refine ⟨h1.1, fun j hj => ?_⟩
      show upd (mRn Ar i).1.2.2.2 i 0 j = _
      by_cases e : j = i
      · subst e
        rw [upd_at, hz]
      · rw [upd_ne e]
        exact h1.2 j (by omega)
    obtain ⟨h4, h5⟩ := pEf_rel (q := pM Ar) (q' := pM Ar) (fun _ _ => cEq_rf) hp (show i < n by omega) (Nat.lt_succ_self i) h3
    rw [mRn, pRun]
    unfold mStep
    by_cases hf : Ar 54 i = 0
    · rw [if_pos hf, if_pos (show (pM Ar).2.2.1 i = 0 from hf)]
      refine ⟨h5, fun e he => ?_⟩
      show upd (mRn Ar i).2 i (if (pEf (pM Ar) i ((mRn Ar i).1.1, (mRn Ar i).1.2.1, (mRn Ar i).1.2.2.1, upd (mRn Ar i).1.2.2.2 i 0)).1 = true then 0 else 1) e = upd (pRun (pM Ar) i).2 i (if (pEf (pM Ar) i (pRun (pM Ar) i).1).1 = true then 0 else 1) e
      rw [h4]
      by_cases ee : e = i
      · subst ee
        rw [upd_at, upd_at]
      · rw [upd_ne ee, upd_ne ee]
        exact h2 e (by omega)
    · rw [if_neg hf, if_neg (show ¬ (pM Ar).2.2.1 i = 0 from hf)]
      refine ⟨h3, fun e he => ?_⟩
      show upd (mRn Ar i).2 i 0 e = _
      by_cases ee : e = i
      · subst ee
        rw [upd_at]
        exact (pRun_z hp e (by omega) e (Nat.le_refl e)).2.symm
      · rw [upd_ne ee]
        exact h2 e (by omega)
/-! the other side's run -/
def ceqX (X A : vAt) (e : Nat) : Prop := gCol (X 23) 0 e = A 48 e ∧ gCol (X 23) 1 e = A 49 e ∧ gCol (X 23) 2 e = A 50 e ∧ gCol (X 23) 3 e = A 51 e ∧ gCol (X 23) 4 e = A 52 e ∧ gCol (X 23) 8 e = A 53 e ∧ gCol (X 23) 5 e = (if A 54 e = 0 then 0 else 1) ∧ X 25 e = 8 * A 49 e + A 50 e ∧ X 26 e = 8 * A 49 e + A 51 e
def gM (X : vAt) : gC := (gCol (X 23) 0, gCol (X 23) 4, gCol (X 23) 5, gIx (gCol (X 23) 8), gIx (X 25), gIx (X 26))
theorem ceqX_c {X A : vAt} {e : Nat} (h : ceqX X A e) : cEq (gM X) (pM A) e := by
  obtain ⟨h0, h1, h2, h3, h4, h8, h5, h6, h7⟩ := h
  refine ⟨h0, h4, ?_, ?_, ?_⟩
  · show (gCol (X 23) 8 e).toNatClampNeg = (A 53 e).toNatClampNeg
    rw [h8]
  · show (X 25 e).toNatClampNeg = _
    rw [h6]; rfl
  · show (X 26 e).toNatClampNeg = _
    rw [h7]; rfl
theorem pOk_c {q q' : gC} {n : Nat} (h : pOk q n) (hq : ∀ e, e < n → cEq q' q e) : pOk q' n := by
  intro e he
  obtain ⟨c1, c2, c3, c4, c5⟩ := hq e he
  rw [c1, c3, c4, c5]
  exact h e he
theorem gOw_at {f : Nat → Int32} : ∀ h k, k < 40 → gOw f h k = if k % 8 = 0 ∧ k / 8 < h then 64 else 0 := by
  intro h
  induction h with
  | zero =>
    intro k hk
    rw [if_neg (by omega)]
    exact if_pos hk
  | succ h ih =>
    intro k hk
    rw [gOw]
    by_cases e : k = h * 8 + 0
    · rw [e, upd_at, if_pos (by omega)]
    · rw [upd_ne e, ih k hk]
      by_cases c : k % 8 = 0 ∧ k / 8 < h
      · rw [if_pos c, if_pos (by omega)]
      · rw [if_neg c, if_neg (by omega)]
theorem gRun_p {X A : vAt} {n : Nat} (hn : n ≤ 60) (hok : mOk A n) (hc : ∀ e, e < n → ceqX X A e) : ∀ i, i ≤ n → gRel n (gRun X (gZero X n) i) (pRun (pM A) i).1 ∧ ∀ e, e < i → gVoid X (gZero X n) e = vdV (pM A) e := by
  have hp := pOk_m hn hok
  have hq : ∀ e, e < n → cEq (gM X) (pM A) e := fun e he => ceqX_c (hc e he)
  have hpX := pOk_c hp hq
  intro i
  induction i with
  | zero =>
    intro _
    refine ⟨⟨fun k hk => ⟨?_, if_pos hk, if_pos hk⟩, fun j hj => if_pos hj⟩, fun j hj => absurd hj (Nat.not_lt_zero j)⟩
    show gOw (X 27) 5 k = if k % 8 = 0 then 64 else 0
    rw [gOw_at 5 k hk]
    by_cases c : k % 8 = 0
    · rw [if_pos c, if_pos (by omega)]
    · rw [if_neg c, if_neg (by omega)]
  | succ i ih =>
    intro hi
    obtain ⟨h1, h2⟩ := ih (by omega)
    have hf := (hc i (by omega)).2.2.2.2.2.2.1
    obtain ⟨h4, h5⟩ := pEf_rel (q := gM X) (q' := pM A) hq hpX (show i < n by omega) (show i < n by omega) h1
    have hvd : gVoid X (gZero X n) i = vdV (pM A) i := by
      unfold gVoid vdV
      by_cases c : A 54 i = 0
      · rw [if_pos c] at hf
        rw [if_neg (by rw [hf]; decide), if_pos (show (pM A).2.2.1 i = 0 from c), ← h4]
        rfl
      · rw [if_neg c] at hf
        rw [if_pos hf, if_neg (show ¬ (pM A).2.2.1 i = 0 from c)]
    refine ⟨?_, fun e he => ?_⟩
    · rw [gRun, pRun]
      by_cases c : A 54 i = 0
      · rw [if_pos c] at hf
        rw [if_neg (by rw [hf]; decide), if_pos (show (pM A).2.2.1 i = 0 from c)]
        exact h5
      · rw [if_neg c] at hf
        rw [if_pos hf, if_neg (show ¬ (pM A).2.2.1 i = 0 from c)]
        exact h1
    · by_cases ee : e = i
      · subst ee; exact hvd
      · exact h2 e (by omega)
theorem gTv_6 {T vd : Nat → Int32} : ∀ n e, e < n → gTv T vd n (e * 9 + 6) = vd e := by
  intro n
  induction n with
  | zero => intro e he; omega
  | succ n ih =>
    intro e he
    rw [gTv]
    by_cases ee : e = n
    · subst ee; exact upd_at
    · exact (upd_ne (by omega)).trans (ih e (by omega))
theorem gRk_col {st : Nat → Int32} {a1 : Nat → Nat} {T P : Nat → Int32} {c : Nat} (hc : c < 9) (h7 : c ≠ 7) : ∀ i, gCol (gRk st a1 T P i).1 c = gCol T c := by
  intro i
  induction i with
  | zero => rfl
  | succ i ih =>
    rw [← ih]
    funext e
    unfold gCol
    rw [gRk]
    split
    · exact upd_ne (by omega)
    · exact upd_ne (by omega)
def cnt (st : Nat → Int32) (a1 : Nat → Nat) (k : Nat) : Nat → Int32 := fun o => if ¬ st o = 0 ∧ a1 o = k then 1 else 0
theorem gRk_P {st : Nat → Int32} {a1 : Nat → Nat} {T P : Nat → Int32} : ∀ i k, k < 40 → (gRk st a1 T P i).2 k = vSum (cnt st a1 k) i := by
  intro i
  induction i with
  | zero => intro k hk; exact if_pos hk
  | succ i ih =>
    intro k hk
    rw [gRk, vSum]
    by_cases c : st i = 0
    · rw [if_pos c]
      show (gRk st a1 T P i).2 k = _
      rw [ih k hk]
      unfold cnt
      rw [if_neg (fun z => z.1 c), Int32.add_zero]
    · rw [if_neg c]
      show upd _ (a1 i) _ k = _
      by_cases e : k = a1 i
      · rw [← e, upd_at, ih k hk]
        unfold cnt
        rw [if_pos ⟨c, e.symm⟩]
      · rw [upd_ne e, ih k hk]
        unfold cnt
        rw [if_neg (fun z => e z.2.symm), Int32.add_zero]
theorem gRk_7 {st : Nat → Int32} {a1 : Nat → Nat} {T P : Nat → Int32} : ∀ i e, e < i → a1 e < 40 → (gRk st a1 T P i).1 (e * 9 + 7) = if st e = 0 then -4 else vSum (cnt st a1 (a1 e)) e := by
  intro i
  induction i with
  | zero => intro e he; omega
  | succ i ih =>
    intro e he ha
    rw [gRk]
    by_cases ee : e = i
    · subst ee
      by_cases c : st e = 0
      · rw [if_pos c, if_pos c]
        exact upd_at
      · rw [if_neg c, if_neg c]
        show upd _ _ _ _ = _
        rw [upd_at]
        exact gRk_P e (a1 e) ha
    · by_cases c : st i = 0
      · rw [if_pos c]
        exact (upd_ne (by omega)).trans (ih e (by omega) ha)
      · rw [if_neg c]
        exact (upd_ne (by omega)).trans (ih e (by omega) ha)
theorem vSum_congr {f g : Nat → Int32} : ∀ n, (∀ i, i < n → f i = g i) → vSum f n = vSum g n := by
  intro n
  induction n with
  | zero => intro _; rfl
  | succ n ih =>
    intro h
    rw [vSum, vSum, ih (fun i hi => h i (by omega)), h n (by omega)]
theorem gAll_col {X : vAt} {n c : Nat} (hc : c < 9) (h6 : c ≠ 6) (h7 : c ≠ 7) : gCol (gAll X n 23) c = gCol (X 23) c := by
  have h1 : gAll X n 23 = (gRk (gAt X (gZero X n) n 24) (gIx (X 25)) (gTv (X 23) (gVoid X (gZero X n)) n) (X 30) n).1 := rfl
  rw [h1, gRk_col hc h7, gTv_col hc h6]
theorem IL_mk {F : vFt} {A X : vAt} {n : Nat} (hn1 : F 258 = nI n) (hn2 : F 395 = nI n) (hn : n ≤ 60) (hok : mOk A n) (h23 : A 23 = gAll X n 23) (h24 : A 24 = gAll X n 24) (h25 : A 25 = X 25) (h26 : A 26 = X 26) (h27 : A 27 = gAll X n 27) (h28 : A 28 = gAll X n 28) (h29 : A 29 = gAll X n 29) (hc : ∀ e, e < n → ceqX X A e) (hz : ∀ e, n ≤ e → e < 60 → gCol (X 23) 5 e = 0) : IL F A := by
  obtain ⟨hr, hv⟩ := gRun_p hn hok hc n (Nat.le_refl n)
  have hp := pOk_m hn hok
  refine ⟨n, hn1, hn2, hn, hok, fun e he => ?_, fun e h1 h2 => ?_, fun k hk => ?_, fun e he => ?_⟩
  · unfold ceq
    rw [h23, h25, h26, gAll_col (by omega) (by omega) (by omega), gAll_col (by omega) (by omega) (by omega), gAll_col (by omega) (by omega) (by omega), gAll_col (by omega) (by omega) (by omega), gAll_col (by omega) (by omega) (by omega), gAll_col (by omega) (by omega) (by omega), gAll_col (by omega) (by omega) (by omega)]
    exact hc e he
  · rw [h23, gAll_col (by omega) (by omega) (by omega)]
    exact hz e h1 h2
  · rw [h27, h28, h29]
    exact hr.1 k hk
  · have ha1 : ∀ j, j < n → gIx (X 25) j = (pM A).2.2.2.2.1 j := fun j hj => (ceqX_c (hc j hj)).2.2.2.1
    refine ⟨?_, ?_, ?_⟩
    · rw [h24]
      exact hr.2 e he
    · rw [h23, pRun_v hp n (Nat.le_refl n) e he, ← hv e he]
      have h1 : gCol (gAll X n 23) 6 = gCol (gRk (gAt X (gZero X n) n 24) (gIx (X 25)) (gTv (X 23) (gVoid X (gZero X n)) n) (X 30) n).1 6 := rfl
      rw [h1, gRk_col (by omega) (by omega)]
      exact gTv_6 n e he
    · rw [h23]
      have h1 : gCol (gAll X n 23) 7 e = (gRk (gRun X (gZero X n) n).2.2.2 (gIx (X 25)) (gTv (X 23) (gVoid X (gZero X n)) n) (X 30) n).1 (e * 9 + 7) := rfl
      have ha : gIx (X 25) e < 40 := by
        rw [ha1 e he]
        exact (hp e he).1
      rw [h1, gRk_7 n e he ha]
      unfold pRk
      rw [hr.2 e he]
      split
      · rfl
      · apply vSum_congr
        intro o ho
        unfold cnt
        rw [hr.2 o (by omega), ha1 o (by omega), ha1 e he]
