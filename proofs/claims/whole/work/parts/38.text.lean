/-! a text, read with a pile that is a list (the top first) and the number of figures of the number on top -/
abbrev cFig (c : Int32) : Prop := 48 ≤ c ∧ c ≤ 57
abbrev cOp (c : Int32) : Prop := c = 42 ∨ c = 43 ∨ c = 45 ∨ c = 47
abbrev sQ : Type := List Int32 × Nat
def sFig (v : Int32) (q : sQ) : Option sQ := if q.2 = 0 then some (v :: q.1, 1) else if 4 < q.2 + 1 then none else match q.1 with
  | [] => none
  | t :: st => some ((t * 10 + v) :: st, q.2 + 1)
def sLift (q : sQ) : Option sQ := match q.1 with
  | [] => none
  | t :: st => some ((if t < 0 then 0 else t) :: st, 0)
def sJoin (c : Int32) (q : sQ) : Option sQ := match q.1 with
  | t2 :: t1 :: st => some (bnd (jn c t1.toInt64 t2.toInt64) :: st, 0)
  | _ => none
def sStep (l b d r c : Int32) (q : sQ) : Option sQ := if cFig c then sFig (c - 48) q
  else if c = 32 then some (q.1, 0)
  else if c = 33 then sLift q
  else if cOp c then sJoin c q
  else if c = 98 then some (b :: q.1, 0)
  else if c = 100 then some (d :: q.1, 0)
  else if c = 108 then some (l :: q.1, 0)
  else if c = 114 then some (r :: q.1, 0)
  else none
def sRun (l b d r : Int32) (t : Nat → Int32) : Nat → Nat → sQ → Option sQ
  | 0, _, q => some q
  | m + 1, i, q => match sStep l b d r (t i) q with
    | some q' => sRun l b d r t m (i + 1) q'
    | none => none
/-- the pile's row holds the list -/
def rel (pl : Nat → Int32) (st : List Int32) : Prop := ∀ j, j < st.length → st[st.length - 1 - j]? = some (pl j)
theorem rel_nil {pl : Nat → Int32} : rel pl [] := fun j h => absurd h (Nat.not_lt_zero j)
theorem rel_push {pl : Nat → Int32} {st : List Int32} {v : Int32} (h : rel pl st) : rel (upd pl st.length v) (v :: st) := by
  intro j hj
  rw [List.length_cons] at hj ⊢
  by_cases e : j = st.length
  · subst e
    rw [upd_at, show st.length + 1 - 1 - st.length = 0 by omega]
    rfl
  · rw [upd_ne e, show st.length + 1 - 1 - j = (st.length - 1 - j) + 1 by omega, List.getElem?_cons_succ]
    exact h j (by omega)
theorem rel_pop {pl : Nat → Int32} {st : List Int32} {t : Int32} (h : rel pl (t :: st)) : rel pl st ∧ pl st.length = t := by
  constructor
  · intro j hj
    have := h j (by rw [List.length_cons]; omega)
    rw [List.length_cons, show st.length + 1 - 1 - j = (st.length - 1 - j) + 1 by omega, List.getElem?_cons_succ] at this
    exact this
  · have := h st.length (by rw [List.length_cons]; omega)
    rw [List.length_cons, show st.length + 1 - 1 - st.length = 0 by omega] at this
    exact (Option.some.inj this).symm
theorem rel_one {pl : Nat → Int32} {t : Int32} (h : rel pl [t]) : pl 0 = t := (rel_pop h).2
/-- numbers that are being written are small -/
def sSm (q : sQ) : Prop := q.2 ≤ 4 ∧ (0 < q.2 → ∃ t st m, q.1 = t :: st ∧ t = nI m ∧ m < 10 ^ q.2)
theorem dig_of {c : Int32} (h : cFig c) : ∃ v, v < 10 ∧ c = nI (48 + v) ∧ c - 48 = nI v := by
  obtain ⟨j, hj, e⟩ := (v_to (i := c) (M := 57) (n := 57) rfl (by decide)).mp ⟨Int32.le_trans (by decide) h.1, h.2⟩
  subst e
  have h48 : nI 48 ≤ nI j ↔ 48 ≤ j := nI_leI (by decide) (by omega)
  have := h48.mp h.1
  refine ⟨j - 48, by omega, by rw [show 48 + (j - 48) = j by omega], pk_sub (a := j) (b := 48) this⟩
theorem sStep_sm {l b d r c : Int32} {q q' : sQ} (h : sSm q) (hs : sStep l b d r c q = some q') : sSm q' := by
  have h0 : ∀ st : List Int32, sSm (st, 0) := fun st => ⟨Nat.zero_le 4, fun h => absurd h (Nat.lt_irrefl 0)⟩
  unfold sStep at hs
  split at hs
  · rename_i hc
    obtain ⟨v, hv, -, e⟩ := dig_of hc
    rw [e] at hs
    unfold sFig at hs
    split at hs
    · cases hs
      exact ⟨show 1 ≤ 4 by decide, fun _ => ⟨_, _, v, rfl, rfl, show v < 10 ^ 1 by omega⟩⟩
    · rename_i hq
      split at hs
      · cases hs
      · rename_i h4
        obtain ⟨t, st, m, e1, e2, hm⟩ := h.2 (by omega)
        rw [e1] at hs
        cases hs
        refine ⟨by omega, fun _ => ⟨_, _, m * 10 + v, rfl, ?_, ?_⟩⟩
        · rw [e2]
          exact v_ma m 10 v
        · show m * 10 + v < 10 ^ (q.2 + 1)
          rw [Nat.pow_succ]
          omega
  · split at hs
    · cases hs; exact h0 _
    · split at hs
      · unfold sLift at hs
        split at hs
        · cases hs
        · cases hs; exact h0 _
      · split at hs
        · unfold sJoin at hs
          split at hs
          · cases hs; exact h0 _
          · cases hs
        · split at hs
          · cases hs; exact h0 _
          · split at hs
            · cases hs; exact h0 _
            · split at hs
              · cases hs; exact h0 _
              · split at hs
                · cases hs; exact h0 _
                · cases hs
theorem sSm_0 : sSm ([], 0) := ⟨Nat.zero_le 4, fun h => absurd h (Nat.lt_irrefl 0)⟩
theorem sStep_len {l b d r c : Int32} {q q' : sQ} (hs : sStep l b d r c q = some q') : q'.1.length ≤ q.1.length + 1 := by
  unfold sStep at hs
  split at hs
  · unfold sFig at hs
    split at hs
    · cases hs; exact Nat.le_refl _
    · split at hs
      · cases hs
      · split at hs
        · cases hs
        · rename_i t st e
          cases hs
          rw [e]
          exact Nat.le_succ _
  · split at hs
    · cases hs; exact Nat.le_succ _
    · split at hs
      · unfold sLift at hs
        split at hs
        · cases hs
        · rename_i t st e
          cases hs
          rw [e]
          exact Nat.le_succ _
      · split at hs
        · unfold sJoin at hs
          split at hs
          · rename_i t2 t1 st e
            cases hs
            rw [e]
            simp only [List.length_cons]
            omega
          · cases hs
        · split at hs
          · cases hs; exact Nat.le_refl _
          · split at hs
            · cases hs; exact Nat.le_refl _
            · split at hs
              · cases hs; exact Nat.le_refl _
              · split at hs
                · cases hs; exact Nat.le_refl _
                · cases hs
/-- a number that is small isn't bounded -/
theorem bnd_id {v : Int32} (h1 : -999999 ≤ v.toInt) (h2 : v.toInt ≤ 999999) : bnd v.toInt64 = v := by
  have e : v.toInt64.toInt = v.toInt := Int32.toInt_toInt64 v
  unfold bnd
  rw [if_pos, if_pos]
  · exact Int32.toInt32_toInt64 v
  · rw [Int64.le_iff_toInt_le, e]
    exact h1
  · rw [Int64.le_iff_toInt_le, e]
    exact h2
theorem bnd_nI {m : Nat} (h : m ≤ 999999) : bnd (lN m) = nI m := by
  rw [← nI_l (by omega)]
  refine bnd_id ?_ ?_
  · rw [nI_toInt (by omega)]; omega
  · rw [nI_toInt (by omega)]; omega
