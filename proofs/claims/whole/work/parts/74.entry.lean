/-! from the law's entry to its loop -/
abbrev mLw (nm : String) : vMx := (⟨RL, nm, "([I)Z"⟩, cL_law, 4, ret)
def lBg (κ : lK) (cA0 : Nat → ClassId) : Prop := match κ with
  | (_, _, _, R, _, _, _, _, _, _, _, cA, _, _, _) => R = room_1 ∧ cA = cA0
theorem lRm_room {d' mc' ms' maxL : Nat} (hd : d' < 100) (hm : maxL ≤ 40) : (lRm d' mc' ms').frames + 1 ≤ room_1.frames ∧ 8 + (maxL + 11) + (lRm d' mc' ms').locals ≤ room_1.locals := by
  constructor
  · show d' + 1 ≤ 2048
    omega
  · show 8 + (maxL + 11) + 60 * d' ≤ 84000
    omega
section
variable {κ : lK} {M N : vMx} {pc q n index : Nat} {lv : List (Nat × Value)} {st rest : List Value} {ws wr : va_W} {cells slots : Nat} {d' mc' ms' b ci : Nat} {fs : List Value} {cA : Nat → ClassId} {Q' : Option Value → va_W → Prop}
theorem L_astore_n {n : Fin 4} {v : Nat} {lv' : List (Nat × Value)} (dg : decode M.2.1 pc = .ok (.astore_n n, 1)) (hn : (n : Nat) < M.2.2.1) (hlv : ((n : Nat), Value.ref v) :: lv.filter (fun q => !(q.1 == (n : Nat)) && !(q.1 + 1 == (n : Nat) && q.2.category == 2)) = lv') (hq : pc + 1 = q) (k : L κ M q lv' st ws cells slots) : L κ M pc lv (.ref v :: st) ws cells slots := by
  subst hq
  obtain ⟨p, l, e, R, s, m, args, below, meth, c, D, cA, A, H0, QW⟩ := κ
  intro H locs la C hP hD hS hl
  exact lv_astore_n C.1 C.2.1 dg rfl hl hn hlv (fun la' h' => k H locs la' C hP hD hS h')
theorem Lw_new (hB : lBg κ cA) (hci : ci < 7) (hcl : Cond.classLink M.1.cls index (vR ci) ∈ lw_good) (hins : Cond.instantiable (vR ci) (vNf ci) ∈ lw_good) (hini : Cond.initialized (vR ci) ∈ lw_good) (h1 : cells + 1 ≤ 600000) (h2 : slots + vNf ci ≤ 7302250) (dg : decode M.2.1 pc = .ok (.new index, 3)) (hq : pc + 3 = q) (k : ∀ a, L κ M q lv (.ref a :: st) (ws ++ [(a, .inr (ci, dfs ci))]) (cells + 1) (slots + vNf ci)) : L κ M pc lv st ws cells slots := by
  subst hq
  obtain ⟨p, l, e, R, s, m, args, below, meth, c, D, cA2, A, H0, QW⟩ := κ
  obtain ⟨rfl, rfl⟩ := hB
  intro H locs la C hP hD hS hl
  exact va_new (ci := ci) (fs := dfs ci) C.1 C.2.1 C.2.2.2.2.1 (vCl_in ci hci) (vTy ci) (vCl_ty ci hci) C.2.2.2.1 (C.2.2.2.2.1 _ hcl) (C.2.2.2.2.1 _ hins) (C.2.2.2.2.1 _ hini) C.2.2.2.2.2.1 hP hD hS C.2.2.2.2.2.2.1 (vCl_at ci hci) (fun j hj => dfs_at hj) h1 h2 dg (fun a H1 hP1 hD1 hS1 => k a H1 locs la C hP1 hD1 hS1 hl)
set_option maxHeartbeats 4000000 in
theorem Lw_callI (hC : CL N d' mc' ms' cA [.ref b] [(b, .inr (ci, fs))] Q') (hB : lBg κ cA) (hd : d' < 100) (h1 : cells + mc' ≤ 600000) (h2 : slots + ms' ≤ 7302250) (hG : vGood N 0) (hr : N.2.2.2 = none) (hnm : N.1.name = "<init>") (hl : Cond.methodLink M.1.cls index N.1 ∈ lw_good) (hi : Cond.instanceMethod N.1 ∈ lw_good) (hW : (rest.map fun v => v.category).sum ≤ 8) (dg : decode M.2.1 pc = .ok (.invokespecial index, 3)) (hq : pc + 3 = q)
    (k : ∀ r ws', Q' r ws' → L κ M q lv (r.toList ++ rest) (wr ++ ws') (cells + mc') (slots + ms')) : L κ M pc lv (.ref b :: rest) (wr ++ [(b, .inr (ci, fs))]) cells slots := by
  subst hq
  obtain ⟨y, bytes, maxL, ret9⟩ := N
  simp only at hr
  subst hr
  obtain ⟨p, l, e, R, s, m, args, below, meth, c, D, cA2, A, H0, QW⟩ := κ
  obtain ⟨rfl, rfl⟩ := hB
  intro H locs la C hP hD hS hl0
  have hts := C.2.2.2.2.1
  have hK := C.2.2.2.2.2.1
  obtain ⟨hPc, hDc, hFc⟩ := l_last hP hD hS C.2.2.2.2.2.2.1
  refine l_cont (va_runI (b := b) (As := []) (rest := rest) ⟨C.1, C.2.1, C.2.2.1, C.2.2.2.1, hts⟩ (hC l D H.size) (cwI 0 hts hG.words rfl rfl rfl (hts _ hG.2.1) (hts _ hl) (hts _ hi) hnm hG.2.2.1 (lRm_room (mc' := mc') (ms' := ms') hd hG.2.2.2)) ⟨lPc_blind, fun U hU hW => ⟨rfl, by rw [hU], by rw [hU]; exact hPc, va_K.moved hW.alike hK, hDc, vNs_warm hW C.2.2.2.2.2.2.2.2.2.1⟩⟩ rfl rfl hl0.1 rfl (lv_room hW) dg ⟨h1, h2⟩) hS (fun q _ h => hFc q h) hFc (fun r ws' H1 locs1 hq hP1 hD1 hk1 hS1 => ?_)
  obtain ⟨hP2, hD2⟩ := l_join hP hD hk1 hFc hP1 hD1
  exact k r ws' hq H1 locs1 la C hP2 hD2 hS1 hl0
end
set_option maxHeartbeats 8000000 in
set_option maxRecDepth 100000 in
theorem law_pre {κ : lK} {nm : String} {cA : Nat → ClassId} {b : Nat} (hB : lBg κ cA) (kk : ∀ (b0 a5 a7_9 a16_9 a25_9 a33_9 a41_9 a7_45_9 a16 a7_20 a27 a8_31 a16_31 a24_31 a32_31 a40_31 a48_31 a56_31 a64_31 a38 a7_42 a15_42 a23_42 a31_42 a39_42 a47_42 a55_42 a63_42 a71_42 b6 m7 m14 m21 m30 m38 m45 m52 m59 m67 m75 m83 m91 m99 m107 m115 m123 m131 m139 m147 m155 m163 m171 m179 m187 m195 m203 : Nat) (r16_9 r33_9 : Nat → Nat), L κ (mLw nm) 18 [(3, .int (nI 0)), (2, .ref b6), (1, .ref b0), (0, .ref b)] [] (ws00 cA b0 a5 a7_9 a16_9 a25_9 a33_9 a41_9 a7_45_9 a16 a7_20 a27 a8_31 a16_31 a24_31 a32_31 a40_31 a48_31 a56_31 a64_31 a38 a7_42 a15_42 a23_42 a31_42 a39_42 a47_42 a55_42 a63_42 a71_42 b6 m7 m14 m21 m30 m38 m45 m52 m59 m67 m75 m83 m91 m99 m107 m115 m123 m131 m139 m147 m155 m163 m171 m179 m187 m195 m203 r16_9 r33_9) 66 2379) : L κ (mLw nm) 0 [(0, .ref b)] [] [] 0 0 := by
  refine Lw_new (ci := 0) (q := 3) hB (by decide) kk_L_7 kz_X5 kn_X5 (by decide) (by decide) dL_law_0 rfl (fun b0 => ?_)
  show L κ (mLw nm) 3 [(0, .ref b)] [.ref b0] [(b0, .inr (0, dfs 0))] 1 4
  refine L_dup (q := 4) dL_law_3 rfl rfl ?_
  refine Lw_callI (q := 7) (b := b0) (ci := 0) (fs := dfs 0) (rest := [.ref b0]) (wr := []) (lX5_init (cA := cA) (b := b0)) hB (by decide) (by decide) (by decide) gX5_init rfl rfl kl_L_9 ki_X5_init (Nat.le_of_ble_eq_true rfl) dL_law_4 rfl ?_
  rintro r ws' ⟨rfl, a5, a7_9, a16_9, r16_9, a25_9, a33_9, r33_9, a41_9, a7_45_9, a16, a7_20, a27, a8_31, a16_31, a24_31, a32_31, a40_31, a48_31, a56_31, a64_31, a38, a7_42, a15_42, a23_42, a31_42, a39_42, a47_42, a55_42, a63_42, a71_42, rfl⟩
  show L κ (mLw nm) 7 [(0, .ref b)] [.ref b0] [(b0, .inr (0, [.ref a5, .ref a16, .ref a27, .ref a38])), (a5, .inr (1, [.ref a7_9, .int 0, .ref a16_9, .ref a25_9, .int 0, .ref a33_9, .ref a41_9])), (a7_9, .inl (cA 0, 40, .inl (fun _ => 0))), (a16_9, .inl (cA 2, 5, .inr (.inr (.inr (.inr (fun j => if j < 5 then some (r16_9 j) else none)))))), ((r16_9 0), .inl (cA 0, 40, .inl (fun _ => 0))), ((r16_9 1), .inl (cA 0, 40, .inl (fun _ => 0))), ((r16_9 2), .inl (cA 0, 40, .inl (fun _ => 0))), ((r16_9 3), .inl (cA 0, 40, .inl (fun _ => 0))), ((r16_9 4), .inl (cA 0, 40, .inl (fun _ => 0))), (a25_9, .inl (cA 0, 5, .inl (fun _ => 0))), (a33_9, .inl (cA 2, 5, .inr (.inr (.inr (.inr (fun j => if j < 5 then some (r33_9 j) else none)))))), ((r33_9 0), .inl (cA 0, 0, .inl (fun _ => 0))), ((r33_9 1), .inl (cA 0, 0, .inl (fun _ => 0))), ((r33_9 2), .inl (cA 0, 0, .inl (fun _ => 0))), ((r33_9 3), .inl (cA 0, 0, .inl (fun _ => 0))), ((r33_9 4), .inl (cA 0, 0, .inl (fun _ => 0))), (a41_9, .inr (2, [.ref a7_45_9, .int 0, .int 0, .int 0, .int 0, .int 0, .int 0])), (a7_45_9, .inl (cA 0, 40, .inl (fun _ => 0))), (a16, .inr (3, [.ref a7_20, .int 0])), (a7_20, .inl (cA 0, 35, .inl (fun _ => 0))), (a27, .inr (4, [.ref a8_31, .ref a16_31, .int 0, .ref a24_31, .ref a32_31, .ref a40_31, .ref a48_31, .ref a56_31, .ref a64_31])), (a8_31, .inl (cA 0, 540, .inl (fun _ => 0))), (a16_31, .inl (cA 1, 60, .inl (fun _ => 0))), (a24_31, .inl (cA 0, 60, .inl (fun _ => 0))), (a32_31, .inl (cA 0, 60, .inl (fun _ => 0))), (a40_31, .inl (cA 0, 40, .inl (upd (upd (upd (upd (upd (vFill (fun _ => 0) 40 (nI 0)) 0 (nI 64)) 8 (nI 64)) 16 (nI 64)) 24 (nI 64)) 32 (nI 64)))), (a48_31, .inl (cA 0, 40, .inl (vFill (fun _ => 0) 40 (nI 0)))), (a56_31, .inl (cA 0, 40, .inl (vFill (fun _ => 0) 40 (nI 0)))), (a64_31, .inl (cA 0, 40, .inl (vFill (fun _ => 0) 40 (nI 0)))), (a38, .inr (5, [.ref a7_42, .ref a15_42, .ref a23_42, .ref a31_42, .ref a39_42, .int 0, .ref a47_42, .ref a55_42, .int 0, .ref a63_42, .ref a71_42, .int 0])), (a7_42, .inl (cA 0, 8, .inl (fun _ => 0))), (a15_42, .inl (cA 0, 8, .inl (fun _ => 0))), (a23_42, .inl (cA 0, 8, .inl (fun _ => 0))), (a31_42, .inl (cA 0, 8, .inl (fun _ => 0))), (a39_42, .inl (cA 0, 8, .inl (fun _ => 0))), (a47_42, .inl (cA 0, 8, .inl (fun _ => 0))), (a55_42, .inl (cA 0, 8, .inl (fun _ => 0))), (a63_42, .inl (cA 0, 8, .inl (fun _ => 0))), (a71_42, .inl (cA 0, 8, .inl (fun _ => 0)))] 39 1323
  refine L_astore_n (q := 8) dL_law_7 (Nat.le_of_ble_eq_true rfl) rfl rfl ?_
  show L κ (mLw nm) 8 [(1, .ref b0), (0, .ref b)] [] [(b0, .inr (0, [.ref a5, .ref a16, .ref a27, .ref a38])), (a5, .inr (1, [.ref a7_9, .int 0, .ref a16_9, .ref a25_9, .int 0, .ref a33_9, .ref a41_9])), (a7_9, .inl (cA 0, 40, .inl (fun _ => 0))), (a16_9, .inl (cA 2, 5, .inr (.inr (.inr (.inr (fun j => if j < 5 then some (r16_9 j) else none)))))), ((r16_9 0), .inl (cA 0, 40, .inl (fun _ => 0))), ((r16_9 1), .inl (cA 0, 40, .inl (fun _ => 0))), ((r16_9 2), .inl (cA 0, 40, .inl (fun _ => 0))), ((r16_9 3), .inl (cA 0, 40, .inl (fun _ => 0))), ((r16_9 4), .inl (cA 0, 40, .inl (fun _ => 0))), (a25_9, .inl (cA 0, 5, .inl (fun _ => 0))), (a33_9, .inl (cA 2, 5, .inr (.inr (.inr (.inr (fun j => if j < 5 then some (r33_9 j) else none)))))), ((r33_9 0), .inl (cA 0, 0, .inl (fun _ => 0))), ((r33_9 1), .inl (cA 0, 0, .inl (fun _ => 0))), ((r33_9 2), .inl (cA 0, 0, .inl (fun _ => 0))), ((r33_9 3), .inl (cA 0, 0, .inl (fun _ => 0))), ((r33_9 4), .inl (cA 0, 0, .inl (fun _ => 0))), (a41_9, .inr (2, [.ref a7_45_9, .int 0, .int 0, .int 0, .int 0, .int 0, .int 0])), (a7_45_9, .inl (cA 0, 40, .inl (fun _ => 0))), (a16, .inr (3, [.ref a7_20, .int 0])), (a7_20, .inl (cA 0, 35, .inl (fun _ => 0))), (a27, .inr (4, [.ref a8_31, .ref a16_31, .int 0, .ref a24_31, .ref a32_31, .ref a40_31, .ref a48_31, .ref a56_31, .ref a64_31])), (a8_31, .inl (cA 0, 540, .inl (fun _ => 0))), (a16_31, .inl (cA 1, 60, .inl (fun _ => 0))), (a24_31, .inl (cA 0, 60, .inl (fun _ => 0))), (a32_31, .inl (cA 0, 60, .inl (fun _ => 0))), (a40_31, .inl (cA 0, 40, .inl (upd (upd (upd (upd (upd (vFill (fun _ => 0) 40 (nI 0)) 0 (nI 64)) 8 (nI 64)) 16 (nI 64)) 24 (nI 64)) 32 (nI 64)))), (a48_31, .inl (cA 0, 40, .inl (vFill (fun _ => 0) 40 (nI 0)))), (a56_31, .inl (cA 0, 40, .inl (vFill (fun _ => 0) 40 (nI 0)))), (a64_31, .inl (cA 0, 40, .inl (vFill (fun _ => 0) 40 (nI 0)))), (a38, .inr (5, [.ref a7_42, .ref a15_42, .ref a23_42, .ref a31_42, .ref a39_42, .int 0, .ref a47_42, .ref a55_42, .int 0, .ref a63_42, .ref a71_42, .int 0])), (a7_42, .inl (cA 0, 8, .inl (fun _ => 0))), (a15_42, .inl (cA 0, 8, .inl (fun _ => 0))), (a23_42, .inl (cA 0, 8, .inl (fun _ => 0))), (a31_42, .inl (cA 0, 8, .inl (fun _ => 0))), (a39_42, .inl (cA 0, 8, .inl (fun _ => 0))), (a47_42, .inl (cA 0, 8, .inl (fun _ => 0))), (a55_42, .inl (cA 0, 8, .inl (fun _ => 0))), (a63_42, .inl (cA 0, 8, .inl (fun _ => 0))), (a71_42, .inl (cA 0, 8, .inl (fun _ => 0)))] 39 1323
  refine Lw_new (ci := 6) (q := 11) hB (by decide) kk_L_10 kz_X6 kn_X6 (by decide) (by decide) dL_law_8 rfl (fun b6 => ?_)
  refine L_dup (q := 12) dL_law_11 rfl rfl ?_
  refine Lw_callI (M := mLw nm) (cells := 40) (slots := 1356) (q := 15) (b := b6) (ci := 6) (fs := dfs 6) (rest := [.ref b6]) (wr := [(b0, .inr (0, [.ref a5, .ref a16, .ref a27, .ref a38])), (a5, .inr (1, [.ref a7_9, .int 0, .ref a16_9, .ref a25_9, .int 0, .ref a33_9, .ref a41_9])), (a7_9, .inl (cA 0, 40, .inl (fun _ => 0))), (a16_9, .inl (cA 2, 5, .inr (.inr (.inr (.inr (fun j => if j < 5 then some (r16_9 j) else none)))))), ((r16_9 0), .inl (cA 0, 40, .inl (fun _ => 0))), ((r16_9 1), .inl (cA 0, 40, .inl (fun _ => 0))), ((r16_9 2), .inl (cA 0, 40, .inl (fun _ => 0))), ((r16_9 3), .inl (cA 0, 40, .inl (fun _ => 0))), ((r16_9 4), .inl (cA 0, 40, .inl (fun _ => 0))), (a25_9, .inl (cA 0, 5, .inl (fun _ => 0))), (a33_9, .inl (cA 2, 5, .inr (.inr (.inr (.inr (fun j => if j < 5 then some (r33_9 j) else none)))))), ((r33_9 0), .inl (cA 0, 0, .inl (fun _ => 0))), ((r33_9 1), .inl (cA 0, 0, .inl (fun _ => 0))), ((r33_9 2), .inl (cA 0, 0, .inl (fun _ => 0))), ((r33_9 3), .inl (cA 0, 0, .inl (fun _ => 0))), ((r33_9 4), .inl (cA 0, 0, .inl (fun _ => 0))), (a41_9, .inr (2, [.ref a7_45_9, .int 0, .int 0, .int 0, .int 0, .int 0, .int 0])), (a7_45_9, .inl (cA 0, 40, .inl (fun _ => 0))), (a16, .inr (3, [.ref a7_20, .int 0])), (a7_20, .inl (cA 0, 35, .inl (fun _ => 0))), (a27, .inr (4, [.ref a8_31, .ref a16_31, .int 0, .ref a24_31, .ref a32_31, .ref a40_31, .ref a48_31, .ref a56_31, .ref a64_31])), (a8_31, .inl (cA 0, 540, .inl (fun _ => 0))), (a16_31, .inl (cA 1, 60, .inl (fun _ => 0))), (a24_31, .inl (cA 0, 60, .inl (fun _ => 0))), (a32_31, .inl (cA 0, 60, .inl (fun _ => 0))), (a40_31, .inl (cA 0, 40, .inl (upd (upd (upd (upd (upd (vFill (fun _ => 0) 40 (nI 0)) 0 (nI 64)) 8 (nI 64)) 16 (nI 64)) 24 (nI 64)) 32 (nI 64)))), (a48_31, .inl (cA 0, 40, .inl (vFill (fun _ => 0) 40 (nI 0)))), (a56_31, .inl (cA 0, 40, .inl (vFill (fun _ => 0) 40 (nI 0)))), (a64_31, .inl (cA 0, 40, .inl (vFill (fun _ => 0) 40 (nI 0)))), (a38, .inr (5, [.ref a7_42, .ref a15_42, .ref a23_42, .ref a31_42, .ref a39_42, .int 0, .ref a47_42, .ref a55_42, .int 0, .ref a63_42, .ref a71_42, .int 0])), (a7_42, .inl (cA 0, 8, .inl (fun _ => 0))), (a15_42, .inl (cA 0, 8, .inl (fun _ => 0))), (a23_42, .inl (cA 0, 8, .inl (fun _ => 0))), (a31_42, .inl (cA 0, 8, .inl (fun _ => 0))), (a39_42, .inl (cA 0, 8, .inl (fun _ => 0))), (a47_42, .inl (cA 0, 8, .inl (fun _ => 0))), (a55_42, .inl (cA 0, 8, .inl (fun _ => 0))), (a63_42, .inl (cA 0, 8, .inl (fun _ => 0))), (a71_42, .inl (cA 0, 8, .inl (fun _ => 0)))]) (lX6_init (cA := cA) (b := b6)) hB (by decide) (by decide) (by decide) gX6_init rfl rfl kl_L_12 ki_X6_init (Nat.le_of_ble_eq_true rfl) dL_law_12 rfl ?_
  rintro r ws' ⟨rfl, m7, m14, m21, m30, m38, m45, m52, m59, m67, m75, m83, m91, m99, m107, m115, m123, m131, m139, m147, m155, m163, m171, m179, m187, m195, m203, rfl⟩
  show L κ (mLw nm) 15 [(1, .ref b0), (0, .ref b)] [.ref b6] (ws00 cA b0 a5 a7_9 a16_9 a25_9 a33_9 a41_9 a7_45_9 a16 a7_20 a27 a8_31 a16_31 a24_31 a32_31 a40_31 a48_31 a56_31 a64_31 a38 a7_42 a15_42 a23_42 a31_42 a39_42 a47_42 a55_42 a63_42 a71_42 b6 m7 m14 m21 m30 m38 m45 m52 m59 m67 m75 m83 m91 m99 m107 m115 m123 m131 m139 m147 m155 m163 m171 m179 m187 m195 m203 r16_9 r33_9) 66 2379
  refine L_astore_n (q := 16) dL_law_15 (Nat.le_of_ble_eq_true rfl) rfl rfl ?_
  show L κ (mLw nm) 16 [(2, .ref b6), (1, .ref b0), (0, .ref b)] [] (ws00 cA b0 a5 a7_9 a16_9 a25_9 a33_9 a41_9 a7_45_9 a16 a7_20 a27 a8_31 a16_31 a24_31 a32_31 a40_31 a48_31 a56_31 a64_31 a38 a7_42 a15_42 a23_42 a31_42 a39_42 a47_42 a55_42 a63_42 a71_42 b6 m7 m14 m21 m30 m38 m45 m52 m59 m67 m75 m83 m91 m99 m107 m115 m123 m131 m139 m147 m155 m163 m171 m179 m187 m195 m203 r16_9 r33_9) 66 2379
  refine L_iconst (q := 17) (v := nI 0) dL_law_16 (by decide) rfl ?_
  refine L_istore_n (q := 18) dL_law_17 (Nat.le_of_ble_eq_true rfl) rfl rfl ?_
  exact kk b0 a5 a7_9 a16_9 a25_9 a33_9 a41_9 a7_45_9 a16 a7_20 a27 a8_31 a16_31 a24_31 a32_31 a40_31 a48_31 a56_31 a64_31 a38 a7_42 a15_42 a23_42 a31_42 a39_42 a47_42 a55_42 a63_42 a71_42 b6 m7 m14 m21 m30 m38 m45 m52 m59 m67 m75 m83 m91 m99 m107 m115 m123 m131 m139 m147 m155 m163 m171 m179 m187 m195 m203 r16_9 r33_9
theorem nl_in : ∀ q ∈ vNl, Cond.methodLinkNest q.1 q.2.1 q.2.2 RX5 ∈ lw_tbl := by decide +kernel
theorem over_in : Cond.arrayOver (.array .int) ∈ lw_tbl := List.mem_append_right _ (List.mem_of_getElem? (i := 26) (by decide +kernel))
theorem known_all {s : State} {args : Array Value} (hts : ∀ w ∈ lw_tbl, w.before args s = true) : vNs s ∧ ∃ (D : va_G) (cA : Nat → ClassId), va_K D vCl (vTys cA) s := by
  have hov := hts _ over_in
  refine ⟨⟨fun q hq => va_Nw.of rfl (hts _ (nl_in q hq)), (show (Cond.arrayOver (.array .int)).before #[] s = (Cond.arrayOver (.array .int)).before args s from rfl).trans hov⟩, ?_⟩
  obtain ⟨c0, i0, k0⟩ := u_known (C := RX5) (T := TX5) (N := 4) (n := 4) hts innX5 (hts _ (List.mem_filter.mp kz_X5).1)
  obtain ⟨c1, i1, k1⟩ := u_known (C := RX0) (T := TX0) (N := 7) (n := 7) hts innX0 (hts _ (List.mem_filter.mp kz_X0).1)
  obtain ⟨c2, i2, k2⟩ := u_known (C := RX4) (T := TX4) (N := 7) (n := 7) hts innX4 (hts _ (List.mem_filter.mp kz_X4).1)
  obtain ⟨c3, i3, k3⟩ := u_known (C := RX1) (T := TX1) (N := 2) (n := 2) hts innX1 (hts _ (List.mem_filter.mp kz_X1).1)
  obtain ⟨c4, i4, k4⟩ := u_known (C := RX2) (T := TX2) (N := 9) (n := 9) hts innX2 (hts _ (List.mem_filter.mp kz_X2).1)
  obtain ⟨c5, i5, k5⟩ := u_known (C := RX3) (T := TX3) (N := 12) (n := 12) hts innX3 (hts _ (List.mem_filter.mp kz_X3).1)
  obtain ⟨c6, i6, k6⟩ := u_known (C := RX6) (T := TX6) (N := 33) (n := 33) hts innX6 (hts _ (List.mem_filter.mp kz_X6).1)
  obtain ⟨cI, kI, ccI, hI1, hI2, hI3⟩ := Cond.arrayClass_spec (hts _ (List.mem_filter.mp kx_arr).1)
  obtain ⟨cZ, kZ, ccZ, hZ1, hZ2, hZ3⟩ := Cond.arrayClass_spec (hts _ (List.mem_filter.mp kx_arrZ).1)
  obtain ⟨comp, cJ, kJ, hcomp, -, hJ2, hJ3, hJ1⟩ := arrayOverA_spec hov
  refine ⟨(fun k => [c0, c1, c2, c3, c4, c5, c6].getD k c0, fun k => [i0, i1, i2, i3, i4, i5, i6].getD k i0), fun k => [cI, cZ, cJ].getD k cI, ?_, ?_⟩
  · intro k q hq
    match k, hq with
    | 0, hq => cases hq; exact k0
    | 1, hq => cases hq; exact k1
    | 2, hq => cases hq; exact k2
    | 3, hq => cases hq; exact k3
    | 4, hq => cases hq; exact k4
    | 5, hq => cases hq; exact k5
    | 6, hq => cases hq; exact k6
    | k + 7, hq => simp [vCl] at hq
  · intro k q hq
    match k, hq with
    | 0, hq => cases hq; exact ⟨fun n z => ⟨fun k h => (by cases h), kI, hI2, ccI, hI3⟩, hI1⟩
    | 1, hq => cases hq; exact ⟨fun n z => ⟨fun k h => (by cases h), kZ, hZ2, ccZ, hZ3⟩, hZ1⟩
    | 2, hq => cases hq; exact ⟨fun n z => ⟨fun k h => (by cases h), kJ, hJ2, comp, hJ3⟩, hJ1⟩
    | k + 3, hq => simp [vTys] at hq
