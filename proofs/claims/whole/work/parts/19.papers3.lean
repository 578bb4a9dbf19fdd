set_option maxHeartbeats 2000000 in
theorem pl_loop {n most k : Nat} {F : vFt} {x : vXt} (hn8 : n ≤ 8) (hm1 : 1 ≤ most) (hm8 : most ≤ 8) (hF : F 325 = nI n) (into : (∀ (Ar : vAt) (q used c : Nat) (g : Nat → Nat), q + (k + 1) = n → used ≤ q → c ≤ used → plPre Ar q g → C0 mX3_placeInto (2 * k + 2) [.ref 5, .int (nI c), .int (nI q), .int (nI used), .int (nI most)] F Ar x (plQ n q F Ar (if srOk (Lk Ar) g q c = true then srch (Lk Ar) most k (q + 1) (max used (c + 1)) (updN g q c) else none)))) {Ar : vAt} {q used : Nat} {g : Nat → Nat} (hq : q + (k + 1) = n) (hu : used ≤ q) (hp : plPre Ar q g) {κ : vK} (hκ : vStd κ (2 * (k + 1) + 1) x (plQ n q F Ar (srch (Lk Ar) most (k + 1) q used g))) : ∀ m c (Ar' : vAt), c + m = min used (most - 1) + 1 → (∀ b, b ≠ 38 → Ar' b = Ar b) → (∀ i, i < q → Ar' 38 i = Ar 38 i) → srch (Lk Ar) most (k + 1) q used g = vFst (fun c => if srOk (Lk Ar) g q c = true then srch (Lk Ar) most k (q + 1) (max used (c + 1)) (updN g q c) else none) c m → V κ mX3_placeFrom 22 [.ref 5, .int (nI q), .int (nI used), .int (nI most), .int (nI (min used (most - 1))), .int (nI c)] [] F Ar' x := by
  intro m
  induction m with
  | zero =>
    intro c Ar' hc hfr hgr hres
    refine V_iload (q := 24) dX3_placeFrom_22 rfl rfl ?_
    refine V_iload (q := 26) dX3_placeFrom_24 rfl rfl ?_
    refine V_icmp_gt (tgt := 49) (q := 29) dX3_placeFrom_26 (by decide) rfl (fun c_26 => ?_) (fun c_26 => absurd ((nI_ltI (by omega) (by omega)).mpr (by omega)) c_26)
    refine V_iconst (q := 50) (v := 0) dX3_placeFrom_49 (by decide) rfl ?_
    exact V_iret hκ rfl (by first | rfl | exact vB_nar) dX3_placeFrom_50 ⟨rfl, fun b h1 _ => hfr b h1, by rw [hres]; exact ⟨rfl, hfr 39 (by decide), hgr⟩⟩
  | succ m ihm =>
    intro c Ar' hc hfr hgr hres
    have hL : Lk Ar' = Lk Ar := by unfold Lk; rw [hfr 36 (by decide)]
    have hp2 : plPre Ar' q g := ⟨fun c9 h9 i hi => by rw [hfr 39 (by decide)]; exact hp.1 c9 h9 i hi, fun i hi => by rw [hgr i hi]; exact hp.2 i hi⟩
    refine V_iload (q := 24) dX3_placeFrom_22 rfl rfl ?_
    refine V_iload (q := 26) dX3_placeFrom_24 rfl rfl ?_
    refine V_icmp_gt (tgt := 49) (q := 29) dX3_placeFrom_26 (by decide) rfl (fun c_26 => absurd c_26 (fun z => by rw [nI_ltI (by omega) (by omega)] at z; omega)) (fun c_26 => ?_)
    refine V_aload_n (q := 30) dX3_placeFrom_29 rfl rfl ?_
    refine V_iload (q := 32) dX3_placeFrom_30 rfl rfl ?_
    refine V_iload_n (q := 33) dX3_placeFrom_32 rfl rfl ?_
    refine V_iload_n (q := 34) dX3_placeFrom_33 rfl rfl ?_
    refine V_iload_n (q := 35) dX3_placeFrom_34 rfl rfl ?_
    refine V_cV4 (q := 38) (o := 5) (N := mX3_placeInto) (into Ar' q used c g hq hu (by omega) hp2) hκ.big (by omega) gX3_placeInto kl_X3_86 ki_X3_placeInto ks_X3_placeInto (by decide) rfl (Nat.le_of_ble_eq_true rfl) dX3_placeFrom_35 rfl (fun r F9 Ar9 h9 => ?_)
    obtain ⟨rfl, hfr9, hres9⟩ := h9
    rw [hL] at hres9
    cases hs : (fun c => if srOk (Lk Ar) g q c = true then srch (Lk Ar) most k (q + 1) (max used (c + 1)) (updN g q c) else none) c with
    | none =>
      simp only [] at hs
      rw [hs] at hres9
      obtain ⟨rfl, hm9, hg9⟩ := hres9
      show V κ mX3_placeFrom 38 [.ref 5, .int (nI q), .int (nI used), .int (nI most), .int (nI (min used (most - 1))), .int (nI c)] [.int 0] _ _ x
      refine V_if_eq (tgt := 43) (q := 41) dX3_placeFrom_38 (by decide) rfl (fun c_38 => ?_) (fun c_38 => absurd rfl c_38)
      refine V_iincN (q := 46) dX3_placeFrom_43 rfl (Nat.le_of_ble_eq_true rfl) rfl rfl ?_
      refine V_goto (q := 22) dX3_placeFrom_46 (by decide) ?_
      exact ihm (c + 1) Ar9 (by omega) (fun b h1 => by
        by_cases h2 : b = 39
        · subst h2
          rw [hm9, hfr 39 (by decide)]
        · rw [hfr9 b h1 h2, hfr b h1]) (fun i hi => by rw [hg9 i hi, hgr i hi]) (by rw [hres, vFst_none (f := (fun c => if srOk (Lk Ar) g q c = true then srch (Lk Ar) most k (q + 1) (max used (c + 1)) (updN g q c) else none)) hs])
    | some g' =>
      simp only [] at hs
      rw [hs] at hres9
      obtain ⟨rfl, hg9⟩ := hres9
      show V κ mX3_placeFrom 38 [.ref 5, .int (nI q), .int (nI used), .int (nI most), .int (nI (min used (most - 1))), .int (nI c)] [.int 1] _ _ x
      refine V_if_eq (tgt := 43) (q := 41) dX3_placeFrom_38 (by decide) rfl (fun c_38 => absurd c_38 (by decide)) (fun c_38 => ?_)
      refine V_iconst (q := 42) (v := 1) dX3_placeFrom_41 (by decide) rfl ?_
      exact V_iret hκ rfl (by first | rfl | exact vB_nar) dX3_placeFrom_42 ⟨rfl, fun b h1 h2 => by rw [hfr9 b h1 h2, hfr b h1], by rw [hres, vFst_some (f := (fun c => if srOk (Lk Ar) g q c = true then srch (Lk Ar) most k (q + 1) (max used (c + 1)) (updN g q c) else none)) hs]; exact ⟨rfl, hg9⟩⟩
    
theorem pl_from_s {n most k : Nat} {F : vFt} {x : vXt} (hn8 : n ≤ 8) (hm1 : 1 ≤ most) (hm8 : most ≤ 8) (hF : F 325 = nI n) (into : (∀ (Ar : vAt) (q used c : Nat) (g : Nat → Nat), q + (k + 1) = n → used ≤ q → c ≤ used → plPre Ar q g → C0 mX3_placeInto (2 * k + 2) [.ref 5, .int (nI c), .int (nI q), .int (nI used), .int (nI most)] F Ar x (plQ n q F Ar (if srOk (Lk Ar) g q c = true then srch (Lk Ar) most k (q + 1) (max used (c + 1)) (updN g q c) else none)))) : (∀ (Ar : vAt) (q used : Nat) (g : Nat → Nat), q + (k + 1) = n → used ≤ q → plPre Ar q g → C0 mX3_placeFrom (2 * (k + 1) + 1) [.ref 5, .int (nI q), .int (nI used), .int (nI most)] F Ar x (plQ n q F Ar (srch (Lk Ar) most (k + 1) q used g))) := by
  intro Ar q used g hq hu hp
  refine C0_of (by decide +kernel) (Nat.le_of_ble_eq_true rfl) (fun κ hκ => ?_)
  show V κ mX3_placeFrom 0 [.ref 5, .int (nI q), .int (nI used), .int (nI most), .null, .null] [] F Ar x
  refine V_iload_n (q := 1) dX3_placeFrom_0 rfl rfl ?_
  refine V_aload_n (q := 2) dX3_placeFrom_1 rfl rfl ?_
  refine V_getI (q := 5) (n := 325) 5 5 kf_X3_39 (by decide) (by decide) rfl rfl dX3_placeFrom_2 rfl ?_
  rw [hF]
  refine V_icmp_lt (tgt := 10) (q := 8) dX3_placeFrom_5 (by decide) rfl (fun c_5 => ?_) (fun c_5 => absurd ((nI_ltI (by omega) (by omega)).mpr (by omega)) c_5)
  refine V_iload_n (q := 11) dX3_placeFrom_10 rfl rfl ?_
  refine V_iload_n (q := 12) dX3_placeFrom_11 rfl rfl ?_
  refine V_iconst (q := 13) (v := 1) dX3_placeFrom_12 (by decide) rfl ?_
  refine V_isub (q := 14) dX3_placeFrom_13 rfl ?_
  refine V_min (q := 17) hκ.big (by omega) kl_X3_80 (Nat.le_of_ble_eq_true rfl) dX3_placeFrom_14 rfl ?_
  refine V_top (nI (min used (most - 1))) (by rw [v_sub1 hm1, v_min _ _ (by omega) (by omega)]) ?_
  refine V_istore (q := 19) dX3_placeFrom_17 (Nat.le_of_ble_eq_true rfl) rfl rfl ?_
  refine V_iconst (q := 20) (v := 0) dX3_placeFrom_19 (by decide) rfl ?_
  refine V_istore (q := 22) dX3_placeFrom_20 (Nat.le_of_ble_eq_true rfl) rfl rfl ?_
  exact pl_loop hn8 hm1 hm8 hF into hq hu hp hκ (min used (most - 1) + 1) 0 Ar (by omega) (fun _ _ => rfl) (fun _ _ => rfl) rfl
theorem pl_from_0 {n most k : Nat} {F : vFt} {x : vXt} (hn8 : n ≤ 8) (hm1 : 1 ≤ most) (hm8 : most ≤ 8) (hF : F 325 = nI n) : (∀ (Ar : vAt) (q used : Nat) (g : Nat → Nat), q + 0 = n → used ≤ q → plPre Ar q g → C0 mX3_placeFrom (2 * 0 + 1) [.ref 5, .int (nI q), .int (nI used), .int (nI most)] F Ar x (plQ n q F Ar (srch (Lk Ar) most 0 q used g))) := by
  intro Ar q used g hq hu hp
  refine C0_of (by decide +kernel) (Nat.le_of_ble_eq_true rfl) (fun κ hκ => ?_)
  show V κ mX3_placeFrom 0 [.ref 5, .int (nI q), .int (nI used), .int (nI most), .null, .null] [] F Ar x
  refine V_iload_n (q := 1) dX3_placeFrom_0 rfl rfl ?_
  refine V_aload_n (q := 2) dX3_placeFrom_1 rfl rfl ?_
  refine V_getI (q := 5) (n := 325) 5 5 kf_X3_39 (by decide) (by decide) rfl rfl dX3_placeFrom_2 rfl ?_
  rw [hF]
  refine V_icmp_lt (tgt := 10) (q := 8) dX3_placeFrom_5 (by decide) rfl (fun c_5 => absurd c_5 (fun z => by rw [nI_ltI (by omega) (by omega)] at z; omega)) (fun c_5 => ?_)
  refine V_iconst (q := 9) (v := 1) dX3_placeFrom_8 (by decide) rfl ?_
  exact V_iret hκ rfl (by first | rfl | exact vB_nar) dX3_placeFrom_9 ⟨rfl, fun _ _ _ => rfl, rfl, fun i hi => hp.2 i (by omega)⟩
theorem pl_from {n most : Nat} {F : vFt} {x : vXt} (hn8 : n ≤ 8) (hm1 : 1 ≤ most) (hm8 : most ≤ 8) (hF : F 325 = nI n) : ∀ k, (∀ (Ar : vAt) (q used : Nat) (g : Nat → Nat), q + k = n → used ≤ q → plPre Ar q g → C0 mX3_placeFrom (2 * k + 1) [.ref 5, .int (nI q), .int (nI used), .int (nI most)] F Ar x (plQ n q F Ar (srch (Lk Ar) most k q used g))) := by
  intro k
  induction k with
  | zero => exact pl_from_0 (k := 0) hn8 hm1 hm8 hF
  | succ k ih => exact pl_from_s hn8 hm1 hm8 hF (pl_into hn8 hm1 hm8 hF ih)
/-- the joining with the fewest groups: the least most for which there is one -/
def jnd (L : Nat → Nat → Bool) (n : Nat) : Nat → Nat → Option (Nat × (Nat → Nat))
  | _, 0 => none
  | most, m + 1 => match srch L most n 0 0 (fun _ => 0) with
    | some g => some (most, g)
    | none => jnd L n (most + 1) m
