def vFst {α : Type} (f : Nat → Option α) : Nat → Nat → Option α
  | _, 0 => none
  | c, m + 1 => match f c with
    | some r => some r
    | none => vFst f (c + 1) m
theorem vFst_some {α : Type} {f : Nat → Option α} {c m : Nat} {r : α} (h : f c = some r) : vFst f c (m + 1) = some r := by
  simp [vFst, h]
theorem vFst_none {α : Type} {f : Nat → Option α} {c m : Nat} (h : f c = none) : vFst f c (m + 1) = vFst f (c + 1) m := by
  simp [vFst, h]
def updN (g : Nat → Nat) (k v : Nat) : Nat → Nat := fun j => if j = k then v else g j
theorem updN_at {g : Nat → Nat} {k v : Nat} : updN g k v k = v := if_pos rfl
theorem updN_ne {g : Nat → Nat} {k v j : Nat} (h : j ≠ k) : updN g k v j = g j := if_neg h
/-- may paper q come into group c -/
def srOk (L : Nat → Nat → Bool) (g : Nat → Nat) (q c : Nat) : Bool := (List.range q).all (fun i => !(g i == c) || L i q)
theorem srOk_iff {L : Nat → Nat → Bool} {g : Nat → Nat} {q c : Nat} : srOk L g q c = true ↔ ∀ i, i < q → g i = c → L i q = true := by
  unfold srOk
  rw [List.all_eq_true]
  constructor
  · intro h i hi hg
    have := h i (List.mem_range.mpr hi)
    simpa [hg] using this
  · intro h i hi
    have := h i (List.mem_range.mp hi)
    by_cases hg : g i = c
    · simp [this hg]
    · simp [hg]
/-- the first joining with at most so many groups that goes on from g -/
def srch (L : Nat → Nat → Bool) (most : Nat) : Nat → Nat → Nat → (Nat → Nat) → Option (Nat → Nat)
  | 0, _, _, g => some g
  | k + 1, q, used, g => vFst (fun c => if srOk L g q c = true then srch L most k (q + 1) (max used (c + 1)) (updN g q c) else none) 0 (min used (most - 1) + 1)
theorem srch_keep {L : Nat → Nat → Bool} {most : Nat} : ∀ k q used g g', srch L most k q used g = some g' → ∀ i, i < q → g' i = g i := by
  intro k
  induction k with
  | zero =>
    intro q used g g' h i hi
    cases h
    rfl
  | succ k ih =>
    intro q used g g' h i hi
    unfold srch at h
    generalize min used (most - 1) + 1 = m at h
    generalize (0 : Nat) = c at h
    induction m generalizing c with
    | zero => cases h
    | succ m ihm =>
      unfold vFst at h
      split at h
      · rename_i r hr
        cases h
        split at hr
        · have := ih (q + 1) _ _ _ hr i (by omega)
          rw [this, updN_ne (by omega)]
        · cases hr
      · exact ihm _ h
def Lk (Ar : vAt) : Nat → Nat → Bool := fun i q => bitI (Ar 36 q) i
def plPre (Ar : vAt) (q : Nat) (g : Nat → Nat) : Prop := (∀ c, c < 8 → ∀ i, i < 32 → bitI (Ar 39 c) i = decide (i < q ∧ g i = c)) ∧ (∀ i, i < q → Ar 38 i = nI (g i))
def plQ (n q : Nat) (F : vFt) (Ar : vAt) (res : Option (Nat → Nat)) : Option Value → vFt → vAt → Prop := fun r F' Ar' => F' = F ∧ (∀ b, b ≠ 38 → b ≠ 39 → Ar' b = Ar b) ∧ match res with
  | some g' => r = some (.int 1) ∧ ∀ i, i < n → Ar' 38 i = nI (g' i)
  | none => r = some (.int 0) ∧ Ar' 39 = Ar 39 ∧ ∀ i, i < q → Ar' 38 i = Ar 38 i
theorem pl_ok {Ar : vAt} {q c : Nat} {g : Nat → Nat} (h : plPre Ar q g) (hq : q < 8) (hc : c < 8) : (Ar 39 c &&& (Ar 36 q ^^^ (-1))) = 0 ↔ srOk (Lk Ar) g q c = true := by
  rw [srOk_iff]
  constructor
  · intro h0 i hi hg
    have h1 : bitI (Ar 39 c &&& (Ar 36 q ^^^ (-1))) i = false := by rw [h0]; exact bitI_0 i
    rw [bitI_and, bitI_not _ _ (by omega), h.1 c hc i (by omega)] at h1
    simpa [hi, hg, Lk] using h1
  · intro h0
    apply bitI_ext
    intro i hi
    rw [bitI_0, bitI_and, bitI_not _ _ hi, h.1 c hc i hi]
    by_cases hg : i < q ∧ g i = c
    · have := h0 i hg.1 hg.2
      simp only [Lk] at this
      simp [hg, this]
    · simp [hg]
def plIn (Ar : vAt) (q c : Nat) : vAt := vS (vS Ar 39 (upd (Ar 39) c (stBit (Ar 39 c) q true))) 38 (upd (Ar 38) q (nI c))
theorem pl_in {Ar : vAt} {q c : Nat} {g : Nat → Nat} (h : plPre Ar q g) (hq : q < 8) (hc : c < 8) : plPre (plIn Ar q c) (q + 1) (updN g q c) := by
  constructor
  · intro c' hc' i hi
    show bitI (upd (Ar 39) c (stBit (Ar 39 c) q true) c') i = _
    by_cases hcc : c' = c
    · subst hcc
      rw [upd_at, stBit_bit _ _ hq hi]
      by_cases hiq : i = q
      · subst hiq
        simp [updN]
      · rw [if_neg hiq, h.1 c' hc' i hi, updN_ne hiq]
        have : (i < q + 1) ↔ (i < q) := by omega
        simp [this]
    · rw [upd_ne hcc, h.1 c' hc' i hi]
      by_cases hiq : i = q
      · subst hiq
        simp [updN]
        exact fun e => hcc e.symm
      · rw [updN_ne hiq]
        have : (i < q + 1) ↔ (i < q) := by omega
        simp [this]
  · intro i hi
    show upd (Ar 38) q (nI c) i = _
    by_cases hiq : i = q
    · subst hiq
      rw [upd_at, updN_at]
    · rw [upd_ne hiq, updN_ne hiq]
      exact h.2 i (by omega)
theorem stBit_back {m : Int32} {q : Nat} (hq : q < 8) (h : bitI m q = false) : stBit (stBit m q true) q false = m := by
  apply bitI_ext
  intro i hi
  rw [stBit_bit _ _ hq hi, stBit_bit _ _ hq hi]
  by_cases e : i = q
  · subst e
    simp [h]
  · simp [e]
theorem v_max (a b : Nat) (ha : a < 2 ^ 31) (hb : b < 2 ^ 31) : (if nI a < nI b then nI b else nI a) = nI (max a b) := by
  by_cases h : a < b
  · rw [if_pos ((nI_ltI ha hb).mpr h), Nat.max_eq_right (by omega)]
  · rw [if_neg (fun q => h ((nI_ltI ha hb).mp q)), Nat.max_eq_left (by omega)]
theorem v_min (a b : Nat) (ha : a < 2 ^ 31) (hb : b < 2 ^ 31) : (if nI b < nI a then nI b else nI a) = nI (min a b) := by
  by_cases h : b < a
  · rw [if_pos ((nI_ltI hb ha).mpr h), Nat.min_eq_right (by omega)]
  · rw [if_neg (fun q => h ((nI_ltI hb ha).mp q)), Nat.min_eq_left (by omega)]
set_option maxHeartbeats 2000000 in
theorem pl_into {n most k : Nat} {F : vFt} {x : vXt} (hn8 : n ≤ 8) (hm1 : 1 ≤ most) (hm8 : most ≤ 8) (hF : F 325 = nI n) (ih : (∀ (Ar : vAt) (q used : Nat) (g : Nat → Nat), q + k = n → used ≤ q → plPre Ar q g → C0 mX3_placeFrom (2 * k + 1) [.ref 5, .int (nI q), .int (nI used), .int (nI most)] F Ar x (plQ n q F Ar (srch (Lk Ar) most k q used g)))) : (∀ (Ar : vAt) (q used c : Nat) (g : Nat → Nat), q + (k + 1) = n → used ≤ q → c ≤ used → plPre Ar q g → C0 mX3_placeInto (2 * k + 2) [.ref 5, .int (nI c), .int (nI q), .int (nI used), .int (nI most)] F Ar x (plQ n q F Ar (if srOk (Lk Ar) g q c = true then srch (Lk Ar) most k (q + 1) (max used (c + 1)) (updN g q c) else none))) := by
  intro Ar q used c g hq hu hc hp
  refine C0_of (by decide +kernel) (Nat.le_of_ble_eq_true rfl) (fun κ hκ => ?_)
  show V κ mX3_placeInto 0 [.ref 5, .int (nI c), .int (nI q), .int (nI used), .int (nI most)] [] F Ar x
  refine V_aload_n (q := 1) dX3_placeInto_0 rfl rfl ?_
  refine V_getR (q := 4) (n := 39) 5 10 kf_X3_36 (by decide) (by decide) rfl (by decide) dX3_placeInto_1 rfl ?_
  refine V_iload_n (q := 5) dX3_placeInto_4 rfl rfl ?_
  refine V_ild (q := 6) (c) 8 rfl (by omega) (by decide) (by omega) (by decide) rfl (by decide) dX3_placeInto_5 rfl ?_
  refine V_aload_n (q := 7) dX3_placeInto_6 rfl rfl ?_
  refine V_getR (q := 10) (n := 36) 5 6 kf_X3_27 (by decide) (by decide) rfl (by decide) dX3_placeInto_7 rfl ?_
  refine V_iload_n (q := 11) dX3_placeInto_10 rfl rfl ?_
  refine V_ild (q := 12) (q) 8 rfl (by omega) (by decide) (by omega) (by decide) rfl (by decide) dX3_placeInto_11 rfl ?_
  refine V_iconst (q := 13) (v := (-1)) dX3_placeInto_12 (by decide) rfl ?_
  refine V_ixor (q := 14) dX3_placeInto_13 rfl ?_
  refine V_iand (q := 15) dX3_placeInto_14 rfl ?_
  refine V_if_eq (tgt := 20) (q := 18) dX3_placeInto_15 (by decide) rfl (fun c_15 => ?_) (fun c_15 => ?_)
  · refine V_aload_n (q := 21) dX3_placeInto_20 rfl rfl ?_
    refine V_getR (q := 24) (n := 39) 5 10 kf_X3_36 (by decide) (by decide) rfl (by decide) dX3_placeInto_21 rfl ?_
    refine V_iload_n (q := 25) dX3_placeInto_24 rfl rfl ?_
    refine V_dup2 (q := 26) dX3_placeInto_25 rfl rfl rfl ?_
    refine V_ild (q := 27) (c) 8 rfl (by omega) (by decide) (by omega) (by decide) rfl (by decide) dX3_placeInto_26 rfl ?_
    refine V_iconst (q := 28) (v := 1) dX3_placeInto_27 (by decide) rfl ?_
    refine V_iload_n (q := 29) dX3_placeInto_28 rfl rfl ?_
    refine V_ishl (q := 30) dX3_placeInto_29 rfl ?_
    refine V_ior (q := 31) dX3_placeInto_30 rfl ?_
    refine V_ist (q := 32) (c) 8 rfl (by omega) (by decide) (by omega) (by decide) rfl (by decide) dX3_placeInto_31 rfl ?_
    refine V_aload_n (q := 33) dX3_placeInto_32 rfl rfl ?_
    refine V_getR (q := 36) (n := 38) 5 9 kf_X3_33 (by decide) (by decide) rfl (by decide) dX3_placeInto_33 rfl ?_
    refine V_iload_n (q := 37) dX3_placeInto_36 rfl rfl ?_
    refine V_iload_n (q := 38) dX3_placeInto_37 rfl rfl ?_
    refine V_ist (q := 39) (q) 8 rfl (by omega) (by decide) (by omega) (by decide) rfl (by decide) dX3_placeInto_38 rfl ?_
    refine V_ar (plIn Ar q c) rfl ?_
    have hok : srOk (Lk Ar) g q c = true := (pl_ok hp (by omega) (by omega)).mp c_15
    have e1 : nI q + 1 = nI (q + 1) := nI_1 q
    have e2 : (if nI used < nI c + 1 then nI c + 1 else nI used) = nI (max used (c + 1)) := by rw [nI_1, v_max _ _ (by omega) (by omega)]
    refine V_aload_n (q := 40) dX3_placeInto_39 rfl rfl ?_
    refine V_iload_n (q := 41) dX3_placeInto_40 rfl rfl ?_
    refine V_iconst (q := 42) (v := 1) dX3_placeInto_41 (by decide) rfl ?_
    refine V_iadd (q := 43) dX3_placeInto_42 rfl ?_
    refine V_iload_n (q := 44) dX3_placeInto_43 rfl rfl ?_
    refine V_iload_n (q := 45) dX3_placeInto_44 rfl rfl ?_
    refine V_iconst (q := 46) (v := 1) dX3_placeInto_45 (by decide) rfl ?_
    refine V_iadd (q := 47) dX3_placeInto_46 rfl ?_
    refine V_max (q := 50) hκ.big (by omega) kl_X3_90 (Nat.le_of_ble_eq_true rfl) dX3_placeInto_47 rfl ?_
    refine V_iload (q := 52) dX3_placeInto_50 rfl rfl ?_
    rw [e1, e2]
    refine V_cV3 (q := 55) (o := 5) (N := mX3_placeFrom) (ih (plIn Ar q c) (q + 1) (max used (c + 1)) (updN g q c) (by omega) (by omega) (pl_in hp (by omega) (by omega))) hκ.big (by omega) gX3_placeFrom kl_X3_77 ki_X3_placeFrom ks_X3_placeFrom (by decide) rfl (Nat.le_of_ble_eq_true rfl) dX3_placeInto_52 rfl (fun r F9 Ar9 h9 => ?_)
    obtain ⟨rfl, hfr, hres⟩ := h9
    have hL : Lk (plIn Ar q c) = Lk Ar := rfl
    rw [hL] at hres
    cases hs : srch (Lk Ar) most k (q + 1) (max used (c + 1)) (updN g q c) with
    | none =>
      rw [hs] at hres
      obtain ⟨rfl, hm, hg⟩ := hres
      show V κ mX3_placeInto 55 [.ref 5, .int (nI c), .int (nI q), .int (nI used), .int (nI most)] [.int 0] _ _ x
      refine V_if_eq (tgt := 60) (q := 58) dX3_placeInto_55 (by decide) rfl (fun c_55 => ?_) (fun c_55 => absurd rfl c_55)
      refine V_aload_n (q := 61) dX3_placeInto_60 rfl rfl ?_
      refine V_getR (q := 64) (n := 39) 5 10 kf_X3_36 (by decide) (by decide) rfl (by decide) dX3_placeInto_61 rfl ?_
      refine V_iload_n (q := 65) dX3_placeInto_64 rfl rfl ?_
      refine V_dup2 (q := 66) dX3_placeInto_65 rfl rfl rfl ?_
      refine V_ild (q := 67) (c) 8 rfl (by omega) (by decide) (by omega) (by decide) rfl (by decide) dX3_placeInto_66 rfl ?_
      refine V_iconst (q := 68) (v := 1) dX3_placeInto_67 (by decide) rfl ?_
      refine V_iload_n (q := 69) dX3_placeInto_68 rfl rfl ?_
      refine V_ishl (q := 70) dX3_placeInto_69 rfl ?_
      refine V_iconst (q := 71) (v := (-1)) dX3_placeInto_70 (by decide) rfl ?_
      refine V_ixor (q := 72) dX3_placeInto_71 rfl ?_
      refine V_iand (q := 73) dX3_placeInto_72 rfl ?_
      refine V_ist (q := 74) (c) 8 rfl (by omega) (by decide) (by omega) (by decide) rfl (by decide) dX3_placeInto_73 rfl ?_
      refine V_ar (vS Ar9 39 (Ar 39)) (by
        congr 1
        rw [hm]
        show upd (upd (Ar 39) c (stBit (Ar 39 c) q true)) c (stBit (upd (Ar 39) c (stBit (Ar 39 c) q true) c) q false) = Ar 39
        rw [upd_at, upd_upd, stBit_back (by omega) (by rw [hp.1 c (by omega) q (by omega)]; simp)]
        exact upd_self) ?_
      refine V_iconst (q := 75) (v := 0) dX3_placeInto_74 (by decide) rfl ?_
      exact V_iret hκ rfl (by first | rfl | exact vB_nar) dX3_placeInto_75 ⟨rfl, fun b h1 h2 => by rw [vS_ne h2, hfr b h1 h2]; show vS (vS Ar 39 _) 38 _ b = _; rw [vS_ne h1, vS_ne h2], by rw [if_pos hok, hs]; exact ⟨rfl, rfl, fun i hi => by rw [vS_ne (by decide), hg i (by omega)]; show upd (Ar 38) q (nI c) i = _; rw [upd_ne (by omega)]⟩⟩
    | some g' =>
      rw [hs] at hres
      obtain ⟨rfl, hg⟩ := hres
      show V κ mX3_placeInto 55 [.ref 5, .int (nI c), .int (nI q), .int (nI used), .int (nI most)] [.int 1] _ _ x
      refine V_if_eq (tgt := 60) (q := 58) dX3_placeInto_55 (by decide) rfl (fun c_55 => absurd c_55 (by decide)) (fun c_55 => ?_)
      refine V_iconst (q := 59) (v := 1) dX3_placeInto_58 (by decide) rfl ?_
      exact V_iret hκ rfl (by first | rfl | exact vB_nar) dX3_placeInto_59 ⟨rfl, fun b h1 h2 => by rw [hfr b h1 h2]; show vS (vS Ar 39 _) 38 _ b = _; rw [vS_ne h1, vS_ne h2], by rw [if_pos hok, hs]; exact ⟨rfl, hg⟩⟩
    
  · refine V_iconst (q := 19) (v := 0) dX3_placeInto_18 (by decide) rfl ?_
    exact V_iret hκ rfl (by first | rfl | exact vB_nar) dX3_placeInto_19 ⟨rfl, fun _ _ _ => rfl, by rw [if_neg (fun h => c_15 ((pl_ok hp (by omega) (by omega)).mpr h))]; exact ⟨rfl, rfl, fun _ _ => rfl⟩⟩
