/-! the six calls on acts: both sides -/
theorem fdA_at {f : Nat → Int32} {c : Nat} {v : Int32} : ∀ n j, fdA f c v n j = if c ≤ j ∧ j < c + n then vByte v (j - c) else f j := by
  intro n
  induction n with
  | zero => intro j; rw [if_neg (by omega)]; rfl
  | succ n ih =>
    intro j
    rw [fdA]
    by_cases e : j = c + n
    · subst e
      rw [upd_at, if_pos (by omega), Nat.add_sub_cancel_left]
    · rw [upd_ne e, ih]
      by_cases h : c ≤ j ∧ j < c + n
      · rw [if_pos h, if_pos (by omega)]
      · rw [if_neg h, if_neg (by omega)]
theorem nLetF_nz {v : Int32} : ∀ m n i, n ≤ i → i < nLetF v m n → ¬ vByte v i = 0 := by
  intro m
  induction m with
  | zero => intro n i h1 h2; rw [nLetF] at h2; omega
  | succ m ih =>
    intro n i h1 h2
    rw [nLetF] at h2
    split at h2
    · omega
    · rename_i h3
      by_cases e : i = n
      · subst e; exact h3
      · exact ih (n + 1) i (by omega) h2
theorem st_feed {F : vFt} {Ar : vAt} {x : vXt} {v : Int32} (h : IX F Ar x) : St0 mX5_feed mX6_feed 3 0 [.int v] F Ar x := by
  obtain ⟨c, f, e1, e2, e3, e4, e5, e6, e7, e8, e9, e10, e11⟩ := h.1
  have h5 := tX5_feed (Ar := Ar) (x := x) (v := v) e4 e6.1
  by_cases hle : f + nLet v ≤ 40
  · rw [if_pos hle, if_pos hle, if_pos hle] at h5
    have h6 := tX6_feed (F := upd F 65 (nI (f + nLet v))) (Ar := vS Ar 9 (fdA (Ar 9) f v (nLet v))) (x := x) (v := v) (show _ = nI f from e5) e6.1
    rw [if_pos hle, if_pos hle, if_pos hle] at h6
    refine St_two h5 h6 (IX_A h ?_ (kF_upd (kF_upd kF_rf (by decide)) (by decide)) (kA_vS (kA_vS kA_rf (by decide)) (by decide)))
    refine ⟨c, f + nLet v, e1, e2, e3, rfl, rfl, ?_, ?_, ?_, e9, e10, e11⟩
    · show txt (fdA (Ar 9) f v (nLet v)) (f + nLet v)
      refine ⟨hle, fun i hi => ?_, fun i h1 h2 => ?_⟩
      · rw [fdA_at]
        split
        · exact nLetF_nz 4 0 _ (Nat.zero_le _) (show i - f < nLet v by omega)
        · exact e6.2.1 i (by omega)
      · rw [fdA_at, if_neg (by omega)]
        exact e6.2.2 i (by omega) h2
    · intro i hi
      show fdA (Ar 40) f v (nLet v) i = fdA (Ar 9) f v (nLet v) i
      rw [fdA_at, fdA_at]
      split
      · rfl
      · exact e7 i (by omega)
    · intro a ha
      exact actOk_congr (e8 a ha) (by omega) rfl (fun _ _ => rfl) ((vS_ne (by omega)).trans (vS_ne (by omega))) rfl rfl (fun b hb _ => (vS_ne (by omega)).trans (vS_ne (by omega)))
  · rw [if_neg hle, if_neg hle, if_neg hle] at h5
    have h6 := tX6_feed (F := F) (Ar := Ar) (x := x) (v := v) e5 e6.1
    rw [if_neg hle, if_neg hle, if_neg hle] at h6
    exact St_two h5 h6 h
theorem st_scrap {F : vFt} {Ar : vAt} {x : vXt} (h : IX F Ar x) : St0 mX5_scrap mX6_scrap 2 0 [] F Ar x := by
  obtain ⟨c, f, e1, e2, e3, e4, e5, e6, e7, e8, e9, e10, e11⟩ := h.1
  have h5 := tX5_scrap (F := F) (Ar := Ar) (x := x)
  have h6 := tX6_scrap (F := upd F 65 0) (Ar := vS Ar 9 (vFill (Ar 9) 40 0)) (x := x)
  rw [e4] at h5
  rw [show upd F 65 0 384 = nI f from e5] at h6
  refine St_two h5 h6 (IX_A h ?_ (kF_upd (kF_upd kF_rf (by decide)) (by decide)) (kA_vS kA_rf (by decide)))
  refine ⟨c, 0, e1, e2, e3, rfl, rfl, ?_, fun i hi => absurd hi (Nat.not_lt_zero i), ?_, e9, e10, e11⟩
  · exact ⟨Nat.zero_le _, fun i hi => absurd hi (Nat.not_lt_zero i), fun i _ h2 => if_pos h2⟩
  · intro a ha
    exact actOk_congr (e8 a ha) (by omega) rfl (fun _ _ => rfl) (vS_ne (by omega)) rfl rfl (fun b hb _ => vS_ne (by omega))
theorem cpT_at {f g : Nat → Int32} {c : Nat} : ∀ n j, cpT f g c n j = if 40 * c ≤ j ∧ j < 40 * c + n then g (j - 40 * c) else f j := by
  intro n
  induction n with
  | zero => intro j; rw [if_neg (by omega)]; rfl
  | succ n ih =>
    intro j
    rw [cpT]
    by_cases e : j = 40 * c + n
    · subst e
      rw [upd_at, if_pos (by omega), Nat.add_sub_cancel_left]
    · rw [upd_ne e, ih]
      by_cases h : 40 * c ≤ j ∧ j < 40 * c + n
      · rw [if_pos h, if_pos (by omega)]
      · rw [if_neg h, if_neg (by omega)]
theorem txt_congr {t t' : Nat → Int32} {n : Nat} (h : txt t n) (he : ∀ i, i < 40 → t' i = t i) : txt t' n := by
  refine ⟨h.1, fun i hi => ?_, fun i h1 h2 => ?_⟩
  · have := h.1
    rw [he i (by omega)]
    exact h.2.1 i hi
  · rw [he i h2]
    exact h.2.2 i h1 h2
theorem sGd_any {l b d r l' b' d' r' : Int32} {t t' : Nat → Int32} {n : Nat} (ht : ∀ i, i < n → t i = t' i) : sGd (sRun l b d r t n 0 ([], 0)) = sGd (sRun l' b' d' r' t' n 0 ([], 0)) := by
  rw [sRun_congr (n := n) ht n 0 _ (by omega)]
  exact sRun_shape n 0 ([], 0) ([], 0) rfl rfl
theorem IA_sc {F F' : vFt} {Ar Ar' : vAt} {x : vXt} (h : IA F Ar x) (hF : scF F F') (hA : kA aAl Ar Ar') (hB : kB Ar Ar') : IA F' Ar' x := by
  obtain ⟨c, f, e1, e2, e3, e4, e5, e6, e7, e8, e9, e10, e11⟩ := h
  refine ⟨c, f, (hF.1 68 (by omega)).trans e1, (hF.1 386 (by omega)).trans e2, e3, (hF.1 65 (by omega)).trans e4, (hF.1 384 (by omega)).trans e5, ?_, ?_, ?_, hF.2 e9, e10, e11⟩
  · rw [hA 9 (by decide)]; exact e6
  · rw [hA 9 (by decide), hA 40 (by decide)]; exact e7
  · intro a ha
    exact actOk_congr (e8 a ha) (by omega) (by rw [hA 42 (by decide)]) (fun i hi => by rw [hA 43 (by decide)]) (hA _ (ten_mem (by omega))) (by rw [hA 15 (by decide)]) (by rw [hA 41 (by decide)]) (fun b hb _ => hB b hb)
theorem scF_k {F F' : vFt} (h : scF F F') : kF (fHl ++ fLl ++ fPl) F F' := by
  intro k hk
  apply h.1
  simp only [List.mem_append, List.mem_cons, List.not_mem_nil, or_false] at hk
  omega
theorem IX_sc {F F' : vFt} {Ar Ar' : vAt} {x : vXt} (h : IX F Ar x) (hF : scF F F') (hA : kA (aAl ++ aHl ++ aLl ++ aPl) Ar Ar') (hB : kB Ar Ar') : IX F' Ar' x :=
  IX_A h (IA_sc h.1 hF (fun k hk => hA k (by simp only [List.mem_append]; exact Or.inl (Or.inl (Or.inl hk)))) hB) (scF_k hF) (fun k hk => hA k (by
    simp only [List.mem_append] at hk ⊢
    rcases hk with (hk | hk) | hk
    · exact Or.inl (Or.inl (Or.inr hk))
    · exact Or.inl (Or.inr hk)
    · exact Or.inr hk))
theorem scF_0 {F : vFt} {s : rS} : scF F (rF F s) := by
  refine ⟨fun k hk => ?_, id⟩
  unfold rF
  rw [upd_ne (by omega), upd_ne (by omega)]
theorem rA_kA {l : List Nat} {Ar : vAt} {s : rS} (h : ¬ 21 ∈ l) : kA l Ar (rA Ar s) := kA_vS kA_rf h
theorem rA_kB {Ar : vAt} {s : rS} : kB Ar (rA Ar s) := kB_vS kB_rf (by omega)
theorem IA_act {F : vFt} {Ar : vAt} {x : vXt} {c f : Nat} {day : Int32} {s : rS} (h : IA F Ar x) (hc : F 68 = nI c) (hc5 : c < 5) (hf : F 65 = nI f) (hf40 : f ≤ 40) (hg : sGd (sRun 1 1 1 0 (Ar 9) f 0 ([], 0)) = true) : IA (upd (upd (upd (upd (rF F s) 65 0) 68 (nI (c + 1))) 384 0) 386 (nI (c + 1))) (actA (enA (rA Ar s) c day) c f day) x := by
  obtain ⟨c', f', e1, e2, e3, e4, e5, e6, e7, e8, e9, e10, e11⟩ := h
  have hcc : c' = c := (v_eq_of (by omega) (by omega)).mp (e1.symm.trans hc)
  have hf40' := e6.1
  have hff : f' = f := (v_eq_of (by omega) (by omega)).mp (e4.symm.trans hf)
  subst hcc
  subst hff
  have hcpy : ∀ i, i < 40 → va_cpy (Ar 9) (Ar (10 + c')) 0 0 40 i = Ar 9 i := fun i hi => by
    unfold va_cpy
    rw [if_pos (by omega), Nat.zero_add, Nat.sub_zero]
  have hrow : ∀ b, b ≠ 9 → b ≠ 15 → b ≠ 21 → b ≠ 41 → b ≠ 42 → b ≠ 43 → b ≠ 10 + c' → actA (enA (rA Ar s) c' day) c' f' day b = Ar b := by
    intro b h9 h15 h21 h41 h42 h43 h10
    unfold actA enA rA
    rw [vS_ne h41, vS_ne h42, vS_ne h43, vS_ne h9, vS_ne h15, vS_ne h10, vS_ne h21]
  have hnew : actA (enA (rA Ar s) c' day) c' f' day (10 + c') = va_cpy (Ar 9) (Ar (10 + c')) 0 0 40 := by
    unfold actA enA rA
    rw [vS_ne (by omega), vS_ne (by omega), vS_ne (by omega), vS_ne (by omega), vS_ne (by omega), vS_at, vS_ne (by omega : (9 : Nat) ≠ 21), vS_ne (by omega : 10 + c' ≠ 21)]
  have h43 : actA (enA (rA Ar s) c' day) c' f' day 43 = cpT (Ar 43) (Ar 40) c' f' := by
    unfold actA enA rA
    rw [vS_ne (by omega), vS_ne (by omega), vS_at, vS_ne (by omega), vS_ne (by omega), vS_ne (by omega), vS_ne (by omega), vS_ne (by omega), vS_ne (by omega), vS_ne (by omega), vS_ne (by omega)]
  have h42 : actA (enA (rA Ar s) c' day) c' f' day 42 = upd (Ar 42) c' (nI f') := by
    unfold actA enA rA
    rw [vS_ne (by omega), vS_at, vS_ne (by omega), vS_ne (by omega), vS_ne (by omega), vS_ne (by omega)]
  have h41 : actA (enA (rA Ar s) c' day) c' f' day 41 = upd (Ar 41) c' day := by
    unfold actA enA rA
    rw [vS_at, vS_ne (by omega), vS_ne (by omega), vS_ne (by omega), vS_ne (by omega)]
  have h15 : actA (enA (rA Ar s) c' day) c' f' day 15 = upd (Ar 15) c' day := by
    unfold actA enA rA
    rw [vS_ne (by omega), vS_ne (by omega), vS_ne (by omega), vS_ne (by omega), vS_at, vS_ne (by omega)]
  have h9 : actA (enA (rA Ar s) c' day) c' f' day 9 = vFill (Ar 9) 40 0 := by
    unfold actA enA rA
    rw [vS_ne (by omega), vS_ne (by omega), vS_ne (by omega), vS_at, vS_ne (by omega)]
  refine ⟨c' + 1, 0, rfl, rfl, by omega, rfl, rfl, ?_, fun i hi => absurd hi (Nat.not_lt_zero i), ?_, e9, e10, fun a h1 h2 => e11 a (by omega) h2⟩
  · rw [h9]
    exact ⟨Nat.zero_le _, fun i hi => absurd hi (Nat.not_lt_zero i), fun i _ h2 => if_pos h2⟩
  · intro a ha
    by_cases hac : a = c'
    · subst hac
      have hlt : ∀ i, i < f' → va_cpy (Ar 9) (Ar (10 + a)) 0 0 40 i = Ar 9 i := fun i hi => hcpy i (by omega)
      refine ⟨f', ?_, ?_, ?_, ?_, ?_, Or.inl (e11 a (Nat.le_refl _) hc5)⟩
      · rw [h42, upd_at]
      · rw [hnew]
        exact txt_congr e6 hcpy
      · intro i hi
        rw [h43, hnew, hlt i hi, cpT_at, if_pos (by omega), Nat.add_sub_cancel_left]
        exact e7 i hi
      · rw [h15, h41, upd_at, upd_at]
      · rw [hnew, sGd_any (l' := 1) (b' := 1) (d' := 1) (r' := 0) hlt]
        exact hg
    · refine actOk_congr (e8 a (by omega)) (by omega) ?_ ?_ ?_ ?_ ?_ ?_
      · rw [h42, upd_ne hac]
      · intro i hi
        rw [h43, cpT_at, if_neg (by omega)]
      · exact hrow _ (by omega) (by omega) (by omega) (by omega) (by omega) (by omega) (by omega)
      · rw [h15, upd_ne hac]
      · rw [h41, upd_ne hac]
      · intro b hb _
        exact hrow _ (by omega) (by omega) (by omega) (by omega) (by omega) (by omega) (by omega)
theorem st_act {F : vFt} {Ar : vAt} {x : vXt} {day : Int32} (h : IX F Ar x) : St0 mX5_act mX6_act 5 3 [.int day] F Ar x := by
  have hI := h.1
  obtain ⟨c, f, e1, e2, e3, e4, e5, e6, e7, e8, e9, e10, e11⟩ := h.1
  refine ⟨_, tX5_act e1 e3, ?_⟩
  intro r F1 Ar1 hq
  unfold enQ at hq
  by_cases hd : 0 ≤ day ∧ day ≤ 999
  · rw [if_neg (fun z => z hd)] at hq
    by_cases hc : c < 5
    · rw [if_neg (fun z => z hc)] at hq
      obtain ⟨s, hq⟩ := hq
      rw [tonV_s e6] at hq
      have hgd : sGd (sRun 1 1 1 0 (Ar 9) f 0 ([], 0)) = sGd (sRun (F 131) (F 132) (F 133) (F 134) (Ar 9) f 0 ([], 0)) := sGd_any (fun _ _ => rfl)
      have hgm : sGd (sRun 1 1 1 0 (Ar 40) f 0 ([], 0)) = sGd (sRun (F 131) (F 132) (F 133) (F 134) (Ar 9) f 0 ([], 0)) := sGd_any e7
      by_cases hg : sGd (sRun (F 131) (F 132) (F 133) (F 134) (Ar 9) f 0 ([], 0)) = true
      · obtain ⟨v, fz, -, hv, ht⟩ := sGd_one e9.1 e9.2.1 e9.2.2.1 e9.2.2.2 hg
        rw [if_neg (by rw [ht]; exact sm_ne hv)] at hq
        obtain ⟨rfl, rfl, rfl⟩ := hq
        refine ⟨_, rfl, _, tX6_act3 (c := c) (n := f) 1 1 1 0 hd (show _ = nI c from e2) hc (show _ = nI f from e5) e6.1 ?_, ?_⟩
        · have : enA (rA Ar s) c day 40 = Ar 40 := by
            unfold enA rA
            rw [vS_ne (by omega), vS_ne (by omega), vS_ne (by omega), vS_ne (by omega)]
          rw [this, hgm]
          exact hg
        · rintro r' F2 Ar2 ⟨rfl, rfl, rfl⟩
          refine ⟨rfl, IX_A h (IA_act hI e1 hc e4 e6.1 (hgd.trans hg)) ?_ ?_⟩
          · exact kF_upd (kF_upd (kF_upd (kF_upd (scF_k scF_0) (by decide)) (by decide)) (by decide)) (by decide)
          · refine kA_vS (kA_vS (kA_vS (kA_vS (kA_vS (kA_vS (rA_kA (by decide)) ?_) (by decide)) (by decide)) (by decide)) (by decide)) (by decide)
            match c, hc with
            | 0, _ => decide
            | 1, _ => decide
            | 2, _ => decide
            | 3, _ => decide
            | 4, _ => decide
      · rw [if_pos (tnS_bad hg)] at hq
        obtain ⟨rfl, rfl, rfl⟩ := hq
        refine ⟨_, rfl, _, tX6_act2 (c := c) (n := f) 1 1 1 0 hd (show _ = nI c from e2) hc (show _ = nI f from e5) e6.1 (fun z => hg (hgm.symm.trans z)), ?_⟩
        rintro r' F2 Ar2 ⟨rfl, rfl, rfl⟩
        exact ⟨rfl, IX_sc h scF_0 (rA_kA (by decide)) rA_kB⟩
    · rw [if_pos hc] at hq
      obtain ⟨rfl, rfl, rfl⟩ := hq
      refine ⟨_, rfl, _, tX6_act1 hd (by rw [e2]; congr 1; omega), ?_⟩
      rintro r' F2 Ar2 ⟨rfl, rfl, rfl⟩
      exact ⟨rfl, h⟩
  · rw [if_pos hd] at hq
    obtain ⟨rfl, rfl, rfl⟩ := hq
    refine ⟨_, rfl, _, tX6_act0 hd, ?_⟩
    rintro r' F2 Ar2 ⟨rfl, rfl, rfl⟩
    exact ⟨rfl, h⟩
theorem onD_congr {d d' : Nat → Int32} {day : Int32} : ∀ n, (∀ i, i < n → d i = d' i) → onD d day n = onD d' day n := by
  intro n
  induction n with
  | zero => intro _; rfl
  | succ n ih =>
    intro h
    have hl : ∀ j, onD d' day n = some j → j < n := by
      have : ∀ m j, onD d' day m = some j → j < m := by
        intro m
        induction m with
        | zero => intro j hj; cases hj
        | succ m ihm =>
          intro j hj
          rw [onD] at hj
          split at hj
          · split at hj
            · cases hj; omega
            · rename_i k hk
              have := ihm k hk
              split at hj <;> (cases hj; omega)
          · have := ihm j hj
            omega
      exact this n
    rw [onD, onD, ih (fun i hi => h i (by omega)), h n (by omega)]
    split
    · cases hk : onD d' day n with
      | none => rfl
      | some k =>
        have := hl k hk
        simp only
        rw [h k (by omega)]
    · rfl
theorem st_inForce {F : vFt} {Ar : vAt} {x : vXt} {day : Int32} (h : IX F Ar x) : St0 mX5_inForce mX6_inForce 2 1 [.int day] F Ar x := by
  obtain ⟨c, f, e1, e2, e3, e4, e5, e6, e7, e8, e9, e10, e11⟩ := h.1
  have h6 := tX6_inForce (Ar := Ar) (x := x) (day := day) e2 e3
  rw [← onD_congr c (fun i hi => by obtain ⟨len, -, -, -, q, -⟩ := e8 i hi; exact q)] at h6
  exact St_two (tX5_inForce e1 e3) h6 h
theorem smI_of {l : Int32} (h1 : 0 ≤ l) (h2 : l ≤ 999) : smI l := by
  rw [Int32.le_iff_toInt_le] at h1 h2
  have e1 : (0 : Int32).toInt = 0 := by decide
  have e2 : (999 : Int32).toInt = 999 := by decide
  unfold smI
  omega
theorem smI_of1 {l : Int32} (h1 : 1 ≤ l) (h2 : l ≤ 99) : smI l := smI_of (Int32.le_trans (by decide) h1) (Int32.le_trans h2 (by decide))
theorem vSz_sm {l b d r : Int32} (h : vSz l b d r) : smI l ∧ smI b ∧ smI d ∧ smI r := ⟨smI_of1 h.1.1 h.1.2, smI_of1 h.2.1.1 h.2.1.2, smI_of1 h.2.2.1.1 h.2.2.1.2, smI_of h.2.2.2.1 h.2.2.2.2⟩
/-- an act says the same number on both sides -/
theorem act_run {Ar : vAt} {x : vXt} {a : Nat} {l b d r : Int32} (h : actOk Ar x a) (hl : smI l) (hb : smI b) (hd : smI d) (hr : smI r) : ∃ len v fz, Ar 42 a = nI len ∧ len ≤ 40 ∧ smI v ∧ sRun l b d r (fun i => Ar 43 (40 * a + i)) len 0 ([], 0) = some ([v], fz) ∧ ∀ pl, tonV l b d r (Ar (10 + a)) pl = v := by
  obtain ⟨len, e1, e2, e3, e4, e5, e6⟩ := h
  have hg : sGd (sRun l b d r (Ar (10 + a)) len 0 ([], 0)) = true := (sGd_any (fun _ _ => rfl)).trans e5
  obtain ⟨v, fz, h1, h2, h3⟩ := sGd_one hl hb hd hr hg
  refine ⟨len, v, fz, e1, e2.1, h2, ?_, fun pl => ?_⟩
  · rw [sRun_congr (n := len) (t' := Ar (10 + a)) e3 len 0 _ (by omega)]
    exact h1
  · rw [tonV_s e2, h3]
theorem IX_mF {F : vFt} {Ar : vAt} {x : vXt} {z : Int32} {pl : Nat → Int32} (h : IX F Ar x) : IX (upd F 410 z) (mP Ar pl) x := IX_0 h (kF_upd kF_rf (by decide)) (kA_vS kA_rf (by decide)) (kB_vS kB_rf (by omega))
theorem st_tons {F : vFt} {Ar : vAt} {x : vXt} {i l b d r : Int32} (h : IX F Ar x) : St0 mX5_tons mX6_tons 5 3 [.int i, .int l, .int b, .int d, .int r] F Ar x := by
  obtain ⟨c, f, e1, e2, e3, e4, e5, e6, e7, e8, e9, e10, e11⟩ := h.1
  by_cases hb : (0 ≤ i ∧ i ≤ F 68 - 1) ∧ vSz l b d r
  · obtain ⟨hi, hs⟩ := hb
    rw [e1] at hi
    obtain ⟨a, ha, rfl⟩ := (v_has (by omega)).mp hi
    obtain ⟨s1, s2, s3, s4⟩ := vSz_sm hs
    obtain ⟨len, v, fz, k1, k2, k3, k4, k5⟩ := act_run (e8 a ha) s1 s2 s3 s4
    refine ⟨_, tX5_tons1 e1 e3 ha hs, ?_⟩
    rintro r' F1 Ar1 ⟨rfl, s, rfl, rfl⟩
    refine ⟨_, rfl, _, tX6_tons1 (c := c) (len := len) (fz := fz) (v := v) (show _ = nI c from e2) e3 ha hs k1 k2 s1 s2 s3 s4 k4, ?_⟩
    rintro r' F2 Ar2 ⟨rfl, hh, pl, rfl, rfl⟩
    exact ⟨by rw [k5], IX_mF (IX_sc h (scF_r s1 s2 s3 s4) (rA_kA (by decide)) rA_kB)⟩
  · refine St_two (tX5_tons0 hb) (tX6_tons0 (by rw [e2, ← e1]; exact hb)) h
