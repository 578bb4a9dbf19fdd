/-! the class's reading of a text is the list machine's -/
theorem rStep_s {l b d r c : Int32} {s : rS} {q : sQ} (hr : rel s.1 q.1) (h1 : s.2.1 = q.1.length) (h2 : s.2.2 = q.2) (h40 : q.1.length < 40) : match sStep l b d r c q with
    | some q' => (rStep l b d r c s).1 = true ∧ rel (rStep l b d r c s).2.1 q'.1 ∧ (rStep l b d r c s).2.2.1 = q'.1.length ∧ (rStep l b d r c s).2.2.2 = q'.2
    | none => (rStep l b d r c s).1 = false := by
  obtain ⟨pl, h, fg⟩ := s
  obtain ⟨st, fq⟩ := q
  simp only at hr h1 h2 h40
  subst h1
  subst h2
  have hpush : ∀ v g, rPush v (pl, st.length, g) = (true, upd pl st.length v, st.length + 1, g) := fun v g => if_pos h40
  unfold sStep rStep
  by_cases c1 : cFig c
  · rw [if_pos c1, if_pos c1]
    unfold sFig rFig
    simp only
    by_cases f0 : fg = 0
    · rw [if_pos f0, if_pos f0, hpush]
      exact ⟨rfl, rel_push hr, rfl, rfl⟩
    · rw [if_neg f0, if_neg f0]
      by_cases f4 : 4 < fg + 1
      · rw [if_pos f4, if_pos (Or.inl f4)]
      · rw [if_neg f4]
        cases st with
        | nil => rw [if_pos (Or.inr (show ([] : List Int32).length = 0 from rfl))]
        | cons t st =>
          rw [if_neg (fun z => z.elim f4 (by simp))]
          have hp := rel_pop hr
          refine ⟨rfl, ?_, rfl, rfl⟩
          show rel (upd pl ((t :: st).length - 1) (pl ((t :: st).length - 1) * 10 + (c - 48))) ((t * 10 + (c - 48)) :: st)
          rw [show (t :: st).length - 1 = st.length from rfl, hp.2]
          exact rel_push hp.1
  · rw [if_neg c1, if_neg c1]
    by_cases c2 : c = 32
    · rw [if_pos c2, if_pos c2]
      exact ⟨rfl, hr, rfl, rfl⟩
    · rw [if_neg c2, if_neg c2]
      by_cases c3 : c = 33
      · rw [if_pos c3, if_pos c3]
        unfold sLift rLift
        simp only
        cases st with
        | nil => rw [if_pos (show ([] : List Int32).length = 0 from rfl)]
        | cons t st =>
          rw [if_neg (by simp)]
          have hp := rel_pop hr
          refine ⟨rfl, ?_, rfl, rfl⟩
          show rel (upd pl ((t :: st).length - 1) (if pl ((t :: st).length - 1) < 0 then 0 else pl ((t :: st).length - 1))) ((if t < 0 then 0 else t) :: st)
          rw [show (t :: st).length - 1 = st.length from rfl, hp.2]
          exact rel_push hp.1
      · rw [if_neg c3, if_neg c3]
        by_cases c4 : cOp c
        · rw [if_pos c4, if_pos c4]
          unfold sJoin rJoin
          simp only
          match st, hr, h40 with
          | [], _, _ => rw [if_pos (by decide)]
          | [_], _, _ => rw [if_pos (by simp)]
          | t2 :: t1 :: st, hr, _ =>
            rw [if_neg (by simp)]
            have hp := rel_pop hr
            have hp2 := rel_pop hp.1
            refine ⟨rfl, ?_, rfl, rfl⟩
            show rel (upd pl ((t2 :: t1 :: st).length - 2) (bnd (jn c (pl ((t2 :: t1 :: st).length - 2)).toInt64 (pl ((t2 :: t1 :: st).length - 1)).toInt64))) (bnd (jn c t1.toInt64 t2.toInt64) :: st)
            rw [show (t2 :: t1 :: st).length - 2 = st.length from rfl, show (t2 :: t1 :: st).length - 1 = (t1 :: st).length from rfl, hp.2, hp2.2]
            exact rel_push hp2.1
        · rw [if_neg c4, if_neg c4]
          by_cases c5 : c = 98
          · rw [if_pos c5, if_pos c5, hpush]
            exact ⟨rfl, rel_push hr, rfl, rfl⟩
          · rw [if_neg c5, if_neg c5]
            by_cases c6 : c = 100
            · rw [if_pos c6, if_pos c6, hpush]
              exact ⟨rfl, rel_push hr, rfl, rfl⟩
            · rw [if_neg c6, if_neg c6]
              by_cases c7 : c = 108
              · rw [if_pos c7, if_pos c7, hpush]
                exact ⟨rfl, rel_push hr, rfl, rfl⟩
              · rw [if_neg c7, if_neg c7]
                by_cases c8 : c = 114
                · rw [if_pos c8, if_pos c8, hpush]
                  exact ⟨rfl, rel_push hr, rfl, rfl⟩
                · rw [if_neg c8, if_neg c8]
/-- a text of len letters in a row of 40 -/
def txt (t : Nat → Int32) (len : Nat) : Prop := len ≤ 40 ∧ (∀ i, i < len → ¬ t i = 0) ∧ ∀ i, len ≤ i → i < 40 → t i = 0
theorem rRun_s {l b d r : Int32} {t : Nat → Int32} {len : Nat} (ht : txt t len) : ∀ m i (s : rS) (q : sQ), i + m = 40 → i ≤ len → q.1.length ≤ i → rel s.1 q.1 → s.2.1 = q.1.length → s.2.2 = q.2 → match sRun l b d r t (len - i) i q with
    | some q' => ∃ s', rRun l b d r t m i s = some s' ∧ rel s'.1 q'.1 ∧ s'.2.1 = q'.1.length
    | none => rRun l b d r t m i s = none := by
  intro m
  induction m with
  | zero =>
    intro i s q hi hl hq hr h1 h2
    have := ht.1
    rw [show len - i = 0 by omega]
    exact ⟨s, rfl, hr, h1⟩
  | succ m ih =>
    intro i s q hi hl hq hr h1 h2
    by_cases e : i = len
    · rw [show len - i = 0 by omega]
      refine ⟨s, ?_, hr, h1⟩
      rw [rRun, if_pos (ht.2.2 i (by omega) (by omega))]
    · have hn0 := ht.2.1 i (by omega)
      rw [show len - i = (len - (i + 1)) + 1 by omega, sRun, rRun, if_neg hn0]
      have hs := rStep_s (l := l) (b := b) (d := d) (r := r) (c := t i) hr h1 h2 (by omega)
      cases hq' : sStep l b d r (t i) q with
      | none =>
        rw [hq'] at hs
        rw [if_neg (by rw [hs]; decide)]
      | some q' =>
        rw [hq'] at hs
        obtain ⟨k1, k2, k3, k4⟩ := hs
        rw [if_pos k1]
        have hlen := sStep_len hq'
        exact ih (i + 1) _ q' (by omega) (by omega) (by omega) k2 k3 k4
def tnS (o : Option sQ) : Int32 := match o with
  | some ([v], _) => v
  | _ => -10000000
theorem tonV_s {l b d r : Int32} {t pl : Nat → Int32} {len : Nat} (ht : txt t len) : tonV l b d r t pl = tnS (sRun l b d r t len 0 ([], 0)) := by
  have h := rRun_s (l := l) (b := b) (d := d) (r := r) ht 40 0 (pl, 0, 0) ([], 0) rfl (Nat.zero_le _) (Nat.le_refl 0) rel_nil rfl rfl
  rw [Nat.sub_zero] at h
  unfold tonV
  cases hq : sRun l b d r t len 0 ([], 0) with
  | none =>
    rw [hq] at h
    rw [h]
    rfl
  | some q' =>
    rw [hq] at h
    obtain ⟨s', e1, e2, e3⟩ := h
    rw [e1]
    unfold rVal
    simp only
    obtain ⟨st, fg⟩ := q'
    match st, e2, e3 with
    | [], _, e3 => rw [if_neg (by rw [e3]; simp)]; rfl
    | [v], e2, e3 => rw [if_pos (by rw [e3]; rfl)]; exact rel_one e2
    | _ :: _ :: st, _, e3 => rw [if_neg (by rw [e3]; simp)]; rfl
/-- what is pushed is small -/
theorem bnd_sm (v : Int64) : smI (bnd v) := by
  unfold smI bnd
  split
  · rename_i h1
    split
    · rename_i h2
      rw [Int64.le_iff_toInt_le] at h1 h2
      have e1 : (999999 : Int64).toInt = 999999 := by decide
      have e2 : (-999999 : Int64).toInt = -999999 := by decide
      rw [e1] at h1
      rw [e2] at h2
      have e3 : v.toInt32.toInt = v.toInt := by
        rw [Int64.toInt_toInt32]
        unfold Int.bmod
        simp only
        split <;> omega
      rw [e3]
      exact ⟨h2, h1⟩
    · decide
  · decide
def allSm (q : sQ) : Prop := ∀ v ∈ q.1, smI v
theorem sStep_all {l b d r c : Int32} {q q' : sQ} (hl : smI l) (hb : smI b) (hd : smI d) (hr : smI r) (h : allSm q) (hsm : sSm q) (hs : sStep l b d r c q = some q') : allSm q' := by
  have hcons : ∀ v st n, smI v → (∀ w ∈ st, smI w) → allSm (v :: st, n) := fun v st n h1 h2 w hw => by
    rcases List.mem_cons.mp hw with rfl | hw
    · exact h1
    · exact h2 w hw
  have hsm' := sStep_sm hsm hs
  unfold sStep at hs
  split at hs
  · rename_i hc
    obtain ⟨v, hv, -, e⟩ := dig_of hc
    rw [e] at hs
    unfold sFig at hs
    split at hs
    · cases hs
      exact hcons _ _ _ (smI_n (by omega)) h
    · split at hs
      · cases hs
      · rename_i f0 f4
        obtain ⟨t, st, m, e1, e2, hm⟩ := hsm.2 (by omega)
        rw [e1] at hs
        cases hs
        refine hcons _ _ _ ?_ (fun w hw => h w (by rw [e1]; exact List.mem_cons_of_mem _ hw))
        rw [e2, show nI m * 10 + nI v = nI (m * 10 + v) from v_ma m 10 v]
        have : 10 ^ q.2 ≤ 10 ^ 4 := Nat.pow_le_pow_right (by decide) hsm.1
        exact smI_n (by omega)
  · split at hs
    · cases hs; exact h
    · split at hs
      · unfold sLift at hs
        split at hs
        · cases hs
        · rename_i t st e1
          cases hs
          refine hcons _ _ _ ?_ (fun w hw => h w (by rw [e1]; exact List.mem_cons_of_mem _ hw))
          split
          · decide
          · exact h t (by rw [e1]; exact List.mem_cons_self)
      · split at hs
        · unfold sJoin at hs
          split at hs
          · rename_i t2 t1 st e1
            cases hs
            exact hcons _ _ _ (bnd_sm _) (fun w hw => h w (by rw [e1]; exact List.mem_cons_of_mem _ (List.mem_cons_of_mem _ hw)))
          · cases hs
        · split at hs
          · cases hs; exact hcons _ _ _ hb h
          · split at hs
            · cases hs; exact hcons _ _ _ hd h
            · split at hs
              · cases hs; exact hcons _ _ _ hl h
              · split at hs
                · cases hs; exact hcons _ _ _ hr h
                · cases hs
theorem sRun_all {l b d r : Int32} {t : Nat → Int32} (hl : smI l) (hb : smI b) (hd : smI d) (hr : smI r) : ∀ m i q q', allSm q → sSm q → sRun l b d r t m i q = some q' → allSm q' := by
  intro m
  induction m with
  | zero => intro i q q' h _ hs; cases hs; exact h
  | succ m ih =>
    intro i q q' h hsm hs
    rw [sRun] at hs
    cases hq : sStep l b d r (t i) q with
    | none => rw [hq] at hs; cases hs
    | some q2 =>
      rw [hq] at hs
      exact ih _ _ _ (sStep_all hl hb hd hr h hsm hq) (sStep_sm hsm hq) hs
/-- whether a text is good doesn't hang on the sizes -/
theorem sStep_shape {l b d r l' b' d' r' c : Int32} {q p : sQ} (h1 : q.1.length = p.1.length) (h2 : q.2 = p.2) : match sStep l b d r c q, sStep l' b' d' r' c p with
    | some q', some p' => q'.1.length = p'.1.length ∧ q'.2 = p'.2
    | none, none => True
    | _, _ => False := by
  obtain ⟨st, fg⟩ := q
  obtain ⟨su, fu⟩ := p
  simp only at h1 h2
  subst h2
  unfold sStep
  by_cases c1 : cFig c
  · rw [if_pos c1, if_pos c1]
    unfold sFig
    simp only
    by_cases f0 : fg = 0
    · rw [if_pos f0, if_pos f0]
      exact ⟨by simp [h1], rfl⟩
    · rw [if_neg f0, if_neg f0]
      by_cases f4 : 4 < fg + 1
      · rw [if_pos f4, if_pos f4]
        trivial
      · rw [if_neg f4, if_neg f4]
        match st, su, h1 with
        | [], [], _ => trivial
        | _ :: _, _ :: _, h => exact ⟨by simpa using h, rfl⟩
  · rw [if_neg c1, if_neg c1]
    by_cases c2 : c = 32
    · rw [if_pos c2, if_pos c2]
      exact ⟨h1, rfl⟩
    · rw [if_neg c2, if_neg c2]
      by_cases c3 : c = 33
      · rw [if_pos c3, if_pos c3]
        unfold sLift
        match st, su, h1 with
        | [], [], _ => trivial
        | _ :: _, _ :: _, h => exact ⟨by simpa using h, rfl⟩
      · rw [if_neg c3, if_neg c3]
        by_cases c4 : cOp c
        · rw [if_pos c4, if_pos c4]
          unfold sJoin
          match st, su, h1 with
          | [], [], _ => trivial
          | [_], [_], _ => trivial
          | _ :: _ :: _, _ :: _ :: _, h => exact ⟨by simpa using h, rfl⟩
        · rw [if_neg c4, if_neg c4]
          by_cases c5 : c = 98
          · rw [if_pos c5, if_pos c5]
            exact ⟨by simp [h1], rfl⟩
          · rw [if_neg c5, if_neg c5]
            by_cases c6 : c = 100
            · rw [if_pos c6, if_pos c6]
              exact ⟨by simp [h1], rfl⟩
            · rw [if_neg c6, if_neg c6]
              by_cases c7 : c = 108
              · rw [if_pos c7, if_pos c7]
                exact ⟨by simp [h1], rfl⟩
              · rw [if_neg c7, if_neg c7]
                by_cases c8 : c = 114
                · rw [if_pos c8, if_pos c8]
                  exact ⟨by simp [h1], rfl⟩
                · rw [if_neg c8, if_neg c8]
                  trivial
theorem sRun_shape {l b d r l' b' d' r' : Int32} {t : Nat → Int32} : ∀ m i (q p : sQ), q.1.length = p.1.length → q.2 = p.2 → sGd (sRun l b d r t m i q) = sGd (sRun l' b' d' r' t m i p) := by
  intro m
  induction m with
  | zero => intro i q p h1 h2; unfold sRun sGd; simp [h1]
  | succ m ih =>
    intro i q p h1 h2
    rw [sRun, sRun]
    have hs := sStep_shape (l := l) (b := b) (d := d) (r := r) (l' := l') (b' := b') (d' := d') (r' := r') (c := t i) h1 h2
    cases hq : sStep l b d r (t i) q with
    | none =>
      cases hp : sStep l' b' d' r' (t i) p with
      | none => rfl
      | some p' => rw [hq, hp] at hs; exact hs.elim
    | some q' =>
      cases hp : sStep l' b' d' r' (t i) p with
      | none => rw [hq, hp] at hs; exact hs.elim
      | some p' =>
        rw [hq, hp] at hs
        exact ih (i + 1) q' p' hs.1 hs.2
theorem sRun_congr {l b d r : Int32} {t t' : Nat → Int32} {n : Nat} (h : ∀ i, i < n → t i = t' i) : ∀ m i q, i + m ≤ n → sRun l b d r t m i q = sRun l b d r t' m i q := by
  intro m
  induction m with
  | zero => intro i q _; rfl
  | succ m ih =>
    intro i q hi
    rw [sRun, sRun, h i (by omega)]
    cases sStep l b d r (t' i) q with
    | none => rfl
    | some q' => exact ih (i + 1) q' (by omega)
/-- a good text says a small number -/
theorem sGd_one {l b d r : Int32} {t : Nat → Int32} {n : Nat} (hl : smI l) (hb : smI b) (hd : smI d) (hr : smI r) (h : sGd (sRun l b d r t n 0 ([], 0)) = true) : ∃ v fz, sRun l b d r t n 0 ([], 0) = some ([v], fz) ∧ smI v ∧ tnS (sRun l b d r t n 0 ([], 0)) = v := by
  cases hq : sRun l b d r t n 0 ([], 0) with
  | none => rw [hq] at h; cases h
  | some q =>
    have ha := sRun_all hl hb hd hr n 0 ([], 0) q (fun v hv => by cases hv) sSm_0 hq
    rw [hq] at h
    obtain ⟨st, fg⟩ := q
    match st, h, ha with
    | [v], _, ha => exact ⟨v, fg, rfl, ha v List.mem_cons_self, rfl⟩
theorem tnS_bad {o : Option sQ} (h : ¬ sGd o = true) : tnS o = -10000000 := by
  match o, h with
  | none, _ => rfl
  | some ([], _), _ => rfl
  | some ([_], _), h => exact absurd rfl h
  | some (_ :: _ :: _, _), _ => rfl
theorem sm_ne {v : Int32} (h : smI v) : ¬ v = -10000000 := by
  intro e
  subst e
  revert h
  decide
