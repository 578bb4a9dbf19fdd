theorem vFst_ex {α : Type} {f : Nat → Option α} : ∀ (m c j : Nat), c ≤ j → j < c + m → (f j).isSome = true → (vFst f c m).isSome = true := by
  intro m
  induction m with
  | zero => intro c j h1 h2; omega
  | succ m ih =>
    intro c j h1 h2 h3
    cases hf : f c with
    | some r => rw [vFst_some hf]; rfl
    | none =>
      rw [vFst_none hf]
      by_cases e : c = j
      · subst e
        rw [hf] at h3
        cases h3
      · exact ih (c + 1) j (by omega) (by omega) h3
theorem srch_ex {L : Nat → Nat → Bool} {most : Nat} : ∀ k q used g, (∀ i, i < q → g i < used) → used + k ≤ most → (srch L most k q used g).isSome = true := by
  intro k
  induction k with
  | zero => intro q used g _ _; rfl
  | succ k ih =>
    intro q used g hg hm
    unfold srch
    refine vFst_ex _ 0 used (by omega) (by omega) ?_
    have hok : srOk L g q used = true := srOk_iff.mpr (fun i hi e => by have := hg i hi; omega)
    rw [if_pos hok]
    refine ih (q + 1) (max used (used + 1)) (updN g q used) (fun i hi => ?_) (by omega)
    by_cases e : i = q
    · subst e
      rw [updN_at]
      omega
    · rw [updN_ne e]
      have := hg i (by omega)
      omega
theorem jnd_ex {L : Nat → Nat → Bool} {n : Nat} : ∀ m most, most + m = n + 1 → 0 < m → (jnd L n most m).isSome = true := by
  intro m
  induction m with
  | zero => intro most _ h; omega
  | succ m ih =>
    intro most h _
    unfold jnd
    cases hs : srch L most n 0 0 (fun _ => 0) with
    | some g => rfl
    | none =>
      rcases Nat.eq_zero_or_pos m with h0 | h0
      · subst h0
        have := srch_ex (L := L) (most := most) n 0 0 (fun _ => 0) (fun i hi => by omega) (by omega)
        rw [hs] at this
        cases this
      · exact ih (most + 1) (by omega) h0
/-- the joining: how many groups, and which -/
def jM (L : Nat → Nat → Bool) (n : Nat) : Nat := ((jnd L n 1 n).getD (0, fun _ => 0)).1
def jG (L : Nat → Nat → Bool) (n : Nat) : Nat → Nat := ((jnd L n 1 n).getD (0, fun _ => 0)).2
theorem jnd_le {L : Nat → Nat → Bool} {n : Nat} : ∀ m most r, jnd L n most m = some r → r.1 < most + m := by
  intro m
  induction m with
  | zero => intro most r h; cases h
  | succ m ih =>
    intro most r h
    unfold jnd at h
    split at h
    · cases h
      show most < most + (m + 1)
      omega
    · have := ih _ _ h
      omega
theorem jM_le {L : Nat → Nat → Bool} {n : Nat} : jM L n ≤ n := by
  unfold jM
  cases h : jnd L n 1 n with
  | none => exact Nat.zero_le n
  | some r =>
    have := jnd_le _ _ _ h
    show r.1 ≤ n
    omega
def jQ (n : Nat) (F : vFt) (Ar : vAt) : Option Value → vFt → vAt → Prop := fun r F' Ar' => r = none ∧ F' = upd F 331 (nI (jM (Lk Ar) n)) ∧ (∀ b, b ≠ 38 → b ≠ 39 → Ar' b = Ar b) ∧ ∀ i, i < n → Ar' 38 i = nI (jG (Lk Ar) n i)
theorem lp_X3_join {F : vFt} {Ar : vAt} {x : vXt} {n : Nat} {κ : vK} (hκ : vStd κ 20 x (jQ n F Ar)) (hF : F 325 = nI n) (hn1 : 1 ≤ n) (hn8 : n ≤ 8) : ∀ m most (Ar' : vAt), most + m = n + 1 → 1 ≤ most → (∀ b, b ≠ 38 → b ≠ 39 → Ar' b = Ar b) → jnd (Lk Ar) n 1 n = jnd (Lk Ar) n most m → V κ mX3_joinAnew 2 [.ref 5, .int (nI most)] [] F Ar' x := by
  intro m
  induction m with
  | zero =>
    intro most Ar' hm h1 hfr hres
    have := jnd_ex (L := Lk Ar) (n := n) n 1 (by omega) (by omega)
    rw [hres] at this
    cases this
  | succ m ih =>
    intro most Ar' hm h1 hfr hres
    refine V_iload_n (q := 3) dX3_joinAnew_2 rfl rfl ?_
    refine V_aload_n (q := 4) dX3_joinAnew_3 rfl rfl ?_
    refine V_getI (q := 7) (n := 325) 5 5 kf_X3_39 (by decide) (by decide) rfl rfl dX3_joinAnew_4 rfl ?_
    rw [hF]
    refine V_icmp_gt (tgt := 40) (q := 10) dX3_joinAnew_7 (by decide) rfl (fun c_7 => absurd c_7 (fun z => by rw [nI_ltI (by omega) (by omega)] at z; omega)) (fun c_7 => ?_)
    refine V_aload_n (q := 11) dX3_joinAnew_10 rfl rfl ?_
    refine V_getR (q := 14) (n := 39) 5 10 kf_X3_36 (by decide) (by decide) rfl (by decide) dX3_joinAnew_11 rfl ?_
    refine V_iconst (q := 15) (v := 0) dX3_joinAnew_14 (by decide) rfl ?_
    refine V_cS2U (q := 18) (N := mJ7_fill_53178) (tJ7_fill_53178 (n := 8) (by decide) (by omega) (by decide) rfl (by decide)) hκ.big (by omega) gJ7_fill_53178 kl_X3_71 kt_J7_fill_53178 (Nat.le_of_ble_eq_true rfl) dX3_joinAnew_15 rfl ?_
    refine V_aload_n (q := 19) dX3_joinAnew_18 rfl rfl ?_
    refine V_iconst (q := 20) (v := 0) dX3_joinAnew_19 (by decide) rfl ?_
    refine V_iconst (q := 21) (v := 0) dX3_joinAnew_20 (by decide) rfl ?_
    refine V_iload_n (q := 22) dX3_joinAnew_21 rfl rfl ?_
    refine V_cV3 (q := 25) (o := 5) (N := mX3_placeFrom) (pl_from hn8 h1 (by omega) hF n (vS Ar' 39 (vFill (Ar' 39) 8 0)) 0 0 (fun _ => 0) (by omega) (Nat.le_refl 0) ⟨fun c hc i hi => by rw [vS_at, show vFill (Ar' 39) 8 0 c = 0 from if_pos hc, bitI_0]; simp, fun i hi => by omega⟩) hκ.big (by omega) gX3_placeFrom kl_X3_77 ki_X3_placeFrom ks_X3_placeFrom (by decide) rfl (Nat.le_of_ble_eq_true rfl) dX3_joinAnew_22 rfl (fun r F9 Ar9 h9 => ?_)
    obtain ⟨rfl, hfr9, hres9⟩ := h9
    have hL : Lk (vS Ar' 39 (vFill (Ar' 39) 8 0)) = Lk Ar := by unfold Lk; rw [vS_ne (by decide), hfr 36 (by decide) (by decide)]
    rw [hL] at hres9
    cases hs : srch (Lk Ar) most n 0 0 (fun _ => 0) with
    | none =>
      rw [hs] at hres9
      obtain ⟨rfl, hm9, hg9⟩ := hres9
      show V κ mX3_joinAnew 25 [.ref 5, .int (nI most)] [.int 0] _ _ x
      refine V_if_eq (tgt := 34) (q := 28) dX3_joinAnew_25 (by decide) rfl (fun c_25 => ?_) (fun c_25 => absurd rfl c_25)
      refine V_iincN (q := 37) dX3_joinAnew_34 rfl (Nat.le_of_ble_eq_true rfl) rfl rfl ?_
      refine V_goto (q := 2) dX3_joinAnew_37 (by decide) ?_
      exact ih (most + 1) Ar9 (by omega) (by omega) (fun b h1 h2 => by rw [hfr9 b h1 h2, vS_ne h2, hfr b h1 h2]) (by rw [hres, jnd, hs])
    | some g' =>
      rw [hs] at hres9
      obtain ⟨rfl, hg9⟩ := hres9
      have hj : jnd (Lk Ar) n 1 n = some (most, g') := by rw [hres, jnd, hs]
      have hj1 : jM (Lk Ar) n = most := by unfold jM; rw [hj]; rfl
      have hj2 : jG (Lk Ar) n = g' := by unfold jG; rw [hj]; rfl
      show V κ mX3_joinAnew 25 [.ref 5, .int (nI most)] [.int 1] _ _ x
      refine V_if_eq (tgt := 34) (q := 28) dX3_joinAnew_25 (by decide) rfl (fun c_25 => absurd c_25 (by decide)) (fun c_25 => ?_)
      refine V_aload_n (q := 29) dX3_joinAnew_28 rfl rfl ?_
      refine V_iload_n (q := 30) dX3_joinAnew_29 rfl rfl ?_
      refine V_putI (q := 33) (n := 331) 5 11 kf_X3_58 (by decide) (by decide) rfl rfl dX3_joinAnew_30 rfl ?_
      exact V_vret hκ rfl dX3_joinAnew_33 ⟨rfl, by rw [hj1], fun b h1 h2 => by rw [hfr9 b h1 h2, vS_ne h2, hfr b h1 h2], fun i hi => by rw [hg9 i hi, hj2]⟩
    
theorem tX3_joinAnew {F : vFt} {Ar : vAt} {x : vXt} {n : Nat} (hF : F 325 = nI n) (hn1 : 1 ≤ n) (hn8 : n ≤ 8) : C0 mX3_joinAnew 20 [.ref 5] F Ar x (jQ n F Ar) := by
  refine C0_of (by decide +kernel) (Nat.le_of_ble_eq_true rfl) (fun κ hκ => ?_)
  show V κ mX3_joinAnew 0 [.ref 5, .null] [] F Ar x
  refine V_iconst (q := 1) (v := 1) dX3_joinAnew_0 (by decide) rfl ?_
  refine V_istore_n (q := 2) dX3_joinAnew_1 (Nat.le_of_ble_eq_true rfl) rfl rfl ?_
  exact lp_X3_join hκ hF hn1 hn8 n 1 Ar (by omega) (Nat.le_refl 1) (fun _ _ _ => rfl) rfl
def wSet (f : Nat → Int32) (a b : Nat) : Nat → Int32 := upd (upd f a (stBit (f a) b true)) b (stBit (f b) a true)
def lSet (f : Nat → Int32) (a b : Nat) (yes : Bool) : Nat → Int32 := upd (upd f a (stBit (f a) b yes)) b (stBit (f b) a yes)
/-- what a witness leaves ahead of the joining -/
def hearA (Ar : vAt) (a b : Nat) (yes : Bool) : vAt := vS (vS Ar 37 (wSet (Ar 37) a b)) 36 (lSet (Ar 36) a b yes)
def hearQ (n w a b : Nat) (yes : Bool) (F : vFt) (Ar : vAt) : Option Value → vFt → vAt → Prop := fun r F' Ar' =>
  if bitI (Ar 37 a) b = true then vEq (some (.int (-3))) F Ar r F' Ar' else if ¬ w < 6 then vEq (some (.int (-2))) F Ar r F' Ar'
  else r = some (.int (nI (w + 1))) ∧ F' = upd (upd F 328 (nI (w + 1))) 331 (nI (jM (Lk (hearA Ar a b yes)) n)) ∧ (∀ z, z ≠ 38 → z ≠ 39 → Ar' z = hearA Ar a b yes z) ∧ ∀ i, i < n → Ar' 38 i = nI (jG (Lk (hearA Ar a b yes)) n i)
theorem tX3_hear {F : vFt} {Ar : vAt} {x : vXt} {n w a b : Nat} {yes : Bool} (hF : F 325 = nI n) (hn8 : n ≤ 8) (hw : F 328 = nI w) (hw6 : w ≤ 6) (ha : a < n) (hb : b < n) (hab : a ≠ b) : C0 mX3_hear 21 [.ref 5, .int (nI a), .int (nI b), .int (if yes then 1 else 0)] F Ar x (hearQ n w a b yes F Ar) := by
  refine C0_of (by decide +kernel) (Nat.le_of_ble_eq_true rfl) (fun κ hκ => ?_)
  show V κ mX3_hear 0 [.ref 5, .int (nI a), .int (nI b), .int (if yes then 1 else 0)] [] F Ar x
  refine V_iload_n (q := 1) dX3_hear_0 rfl rfl ?_
  refine V_aload_n (q := 2) dX3_hear_1 rfl rfl ?_
  refine V_getR (q := 5) (n := 37) 5 7 kf_X3_30 (by decide) (by decide) rfl (by decide) dX3_hear_2 rfl ?_
  refine V_iload_n (q := 6) dX3_hear_5 rfl rfl ?_
  refine V_ild (q := 7) (a) 8 rfl (by omega) (by decide) (by omega) (by decide) rfl (by decide) dX3_hear_6 rfl ?_
  refine V_cS2I (q := 10) (N := mX3_isIn) (tX3_isIn (by omega)) hκ.big (by decide) gX3_isIn kl_X3_54 kt_X3_isIn (Nat.le_of_ble_eq_true rfl) dX3_hear_7 rfl ?_
  refine V_if_eq (tgt := 16) (q := 13) dX3_hear_10 (by decide) rfl (fun c_10 => ?_) (fun c_10 => ?_)
  · refine V_aload_n (q := 17) dX3_hear_16 rfl rfl ?_
    refine V_getI (q := 20) (n := 328) 5 8 kf_X3_43 (by decide) (by decide) rfl rfl dX3_hear_17 rfl ?_
    refine V_bipush (q := 22) (v := 6) dX3_hear_20 (by decide) rfl ?_
    have h6 : nI w < nI 6 ↔ w < 6 := nI_ltI (by omega) (by decide)
    rw [hw]
    refine V_icmp_lt (tgt := 28) (q := 25) dX3_hear_22 (by decide) rfl (fun c_22 => ?_) (fun c_22 => ?_)
    · refine V_aload_n (q := 29) dX3_hear_28 rfl rfl ?_
      refine V_getR (q := 32) (n := 37) 5 7 kf_X3_30 (by decide) (by decide) rfl (by decide) dX3_hear_29 rfl ?_
      refine V_iload_n (q := 33) dX3_hear_32 rfl rfl ?_
      refine V_dup2 (q := 34) dX3_hear_33 rfl rfl rfl ?_
      refine V_ild (q := 35) (a) 8 rfl (by omega) (by decide) (by omega) (by decide) rfl (by decide) dX3_hear_34 rfl ?_
      refine V_iconst (q := 36) (v := 1) dX3_hear_35 (by decide) rfl ?_
      refine V_iload_n (q := 37) dX3_hear_36 rfl rfl ?_
      refine V_ishl (q := 38) dX3_hear_37 rfl ?_
      refine V_ior (q := 39) dX3_hear_38 rfl ?_
      refine V_ist (q := 40) (a) 8 rfl (by omega) (by decide) (by omega) (by decide) rfl (by decide) dX3_hear_39 rfl ?_
      refine V_aload_n (q := 41) dX3_hear_40 rfl rfl ?_
      refine V_getR (q := 44) (n := 37) 5 7 kf_X3_30 (by decide) (by decide) rfl (by decide) dX3_hear_41 rfl ?_
      refine V_iload_n (q := 45) dX3_hear_44 rfl rfl ?_
      refine V_dup2 (q := 46) dX3_hear_45 rfl rfl rfl ?_
      refine V_ild (q := 47) (b) 8 rfl (by omega) (by decide) (by omega) (by decide) rfl (by decide) dX3_hear_46 rfl ?_
      refine V_iconst (q := 48) (v := 1) dX3_hear_47 (by decide) rfl ?_
      refine V_iload_n (q := 49) dX3_hear_48 rfl rfl ?_
      refine V_ishl (q := 50) dX3_hear_49 rfl ?_
      refine V_ior (q := 51) dX3_hear_50 rfl ?_
      refine V_ist (q := 52) (b) 8 rfl (by omega) (by decide) (by omega) (by decide) rfl (by decide) dX3_hear_51 rfl ?_
      refine V_aload_n (q := 53) dX3_hear_52 rfl rfl ?_
      refine V_dup (q := 54) dX3_hear_53 rfl rfl ?_
      refine V_getI (q := 57) (n := 328) 5 8 kf_X3_43 (by decide) (by decide) rfl rfl dX3_hear_54 rfl ?_
      refine V_iconst (q := 58) (v := 1) dX3_hear_57 (by decide) rfl ?_
      refine V_iadd (q := 59) dX3_hear_58 rfl ?_
      refine V_putI (q := 62) (n := 328) 5 8 kf_X3_43 (by decide) (by decide) rfl rfl dX3_hear_59 rfl ?_
      refine V_fl (upd F 328 (nI (w + 1))) (by rw [hw, nI_1]) ?_
      refine V_aload_n (q := 63) dX3_hear_62 rfl rfl ?_
      refine V_iload_n (q := 64) dX3_hear_63 rfl rfl ?_
      refine V_iload_n (q := 65) dX3_hear_64 rfl rfl ?_
      refine V_iload_n (q := 66) dX3_hear_65 rfl rfl ?_
      refine V_cV3U (q := 69) (o := 5) (N := mX3_setLike) (tX3_setLike (by omega) (by omega) hab) hκ.big (by decide) gX3_setLike kl_X3_64 ki_X3_setLike ks_X3_setLike (by decide) rfl (Nat.le_of_ble_eq_true rfl) dX3_hear_66 rfl ?_
      refine V_ar (hearA Ar a b yes) (by unfold hearA wSet lSet; simp only [vS_vS, vS_at]; rw [upd_ne (fun h => hab h.symm)]; rfl) ?_
      refine V_aload_n (q := 70) dX3_hear_69 rfl rfl ?_
      refine V_cV0 (q := 73) (o := 5) (N := mX3_joinAnew) (tX3_joinAnew hF (by omega) hn8) hκ.big (by decide) gX3_joinAnew kl_X3_68 ki_X3_joinAnew ks_X3_joinAnew (by decide) rfl (Nat.le_of_ble_eq_true rfl) dX3_hear_70 rfl (fun r F9 Ar9 h9 => ?_)
      obtain ⟨rfl, rfl, hfr9, hg9⟩ := h9
      show V κ mX3_hear 73 [.ref 5, .int (nI a), .int (nI b), .int (if yes then 1 else 0)] [] _ _ x
      refine V_aload_n (q := 74) dX3_hear_73 rfl rfl ?_
      refine V_getI (q := 77) (n := 328) 5 8 kf_X3_43 (by decide) (by decide) rfl rfl dX3_hear_74 rfl ?_
      exact V_iret hκ rfl rfl dX3_hear_77 (by unfold hearQ; rw [if_neg (vB_0.mp c_10), if_neg (fun h => h (h6.mp c_22))]; exact ⟨rfl, rfl, hfr9, hg9⟩)
    · refine V_bipush (q := 27) (v := (-2)) dX3_hear_25 (by decide) rfl ?_
      exact V_iret hκ rfl rfl dX3_hear_27 (by unfold hearQ; rw [if_neg (vB_0.mp c_10), if_pos (fun h => c_22 (h6.mpr h))]; exact vEq.rf)
  · refine V_bipush (q := 15) (v := (-3)) dX3_hear_13 (by decide) rfl ?_
    exact V_iret hκ rfl rfl dX3_hear_15 (by unfold hearQ; rw [if_pos (vB_n0.mp c_10)]; exact vEq.rf)
