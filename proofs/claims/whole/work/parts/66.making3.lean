/-! the making machine: calls -/
section
variable {p : Program} {l : Launch} {e : Env} {R : Room} {s : State} {m : MethodId} {args : Array Value} {below : List Frame} {meth : Method} {c : Code} {H : Heap} {locs : List Loc} {cells slots mc ms : Nat} {QW : State → Prop}
variable {pc : Nat} {la : Array Slot} {rest st0 : List Value} {a : Array Value} {A0 A1 : Nat → Prop} {H0 : Heap} {free : Addr → Prop} {D : va_G} {cA : Nat → ClassId} {Q : Option Value → va_W → Prop}
theorem l_cont (hr : va_Run p l e R s m args below meth c H locs cells slots mc ms (F0 m pc la st0) rest (lQ D cA A1 Q a) free) (hS : va_S A0 H0 H locs) (hA : ∀ q, q < H.size → A1 q → A0 q) (hf : ∀ q, free q → A0 q)
    (kk : ∀ (r : Option Value) (ws' : va_W) (H1 : Heap) (locs1 : List Loc), Q r ws' → va_P D vCl ws' H1 → va_D A1 ws' → (∀ q : Nat, q < H.size → ¬ A1 q → H1[q]? = H[q]?) → va_S A0 H0 H1 locs1 → W p l e R s m args below meth c H1 locs1 (cells + mc) (slots + ms) QW (F0 m (pc + 3) la (r.toList ++ rest))) : W p l e R s m args below meth c H locs cells slots QW (F0 m pc la st0) := by
  intro T hT X
  obtain ⟨v, st₀, t, T', L, h0, X', hL, e1, e2, ⟨⟨r, ws', hv, hq, hb, -, hd⟩, hz, hk⟩, st⟩ := hr T hT X
  cases hv
  rw [h0] at hz hk
  obtain ⟨t2, a1, b1⟩ := kk v ws' T'.heap (locs ++ L) hq (by rw [e1]; exact hb) hd (fun q h1 h2 => by rw [e1]; exact hk q h1 h2)
    ⟨Nat.le_trans hS.1 (by rw [e1]; exact hz), fun q h1 h2 => by rw [e1, hk q (Nat.lt_of_lt_of_le h1 hS.1) (fun z => h2 (hA q (Nat.lt_of_lt_of_le h1 hS.1) z))]; exact hS.2.1 q h1 h2, fun q hq => by
      rcases List.mem_append.mp hq with h | h
      · exact hS.2.2 q h
      · exact hf _ (hL q h)⟩ T' rfl X'
  exact ⟨t2, st t2 a1, b1⟩
theorem l_free {ws : va_W} (hD : va_D A0 ws) (hS : va_S A0 H0 H locs) (hA : ∀ q, H0.size ≤ q → A0 q) : ∀ q, va_A ws H.size q → A0 q := by
  intro q h
  rcases h with ⟨k, e, h⟩ | h
  · exact hD.2 k _ h
  · exact hA q (Nat.le_trans hS.1 h)
theorem l_last {wr : va_W} {x : Nat × va_E} (hP : va_P D vCl (wr ++ [x]) H) (hD : va_D A0 (wr ++ [x])) (hS : va_S A0 H0 H locs) (hA : ∀ q, H0.size ≤ q → A0 q) : va_P D vCl [x] H ∧ va_D (fun _ => True) [x] ∧ ∀ q, va_A [x] H.size q → A0 q := by
  have hx : (wr ++ [x])[wr.length]? = some x := by simp
  have h0 : ∀ (k9 : Nat) (y : Nat × va_E), [x][k9]? = some y → k9 = 0 ∧ y = x := by
    intro k9 y hy
    match k9, hy with
    | 0, hy => cases hy; exact ⟨rfl, rfl⟩
  refine ⟨fun k9 y hy => ?_, ⟨fun i j y z hi hj _ => ?_, fun _ _ _ => trivial⟩, fun q h => ?_⟩
  · obtain ⟨-, rfl⟩ := h0 k9 y hy
    exact hP _ _ hx
  · rw [(h0 i y hi).1, (h0 j z hj).1]
  · rcases h with ⟨k9, e, h⟩ | h
    · obtain ⟨-, e2⟩ := h0 k9 _ h
      subst e2
      exact hD.2 _ _ hx
    · exact hA q (Nat.le_trans hS.1 h)
theorem va_nd_of : ∀ l : List Nat, l.Nodup → va_nd l = true
  | [], _ => rfl
  | a :: l, h => by
    rw [List.nodup_cons] at h
    simp only [va_nd, Bool.and_eq_true, decide_eq_true_eq]
    exact ⟨h.1, va_nd_of l h.2⟩
/-- the last cell goes to a constructor; the others stay -/
theorem l_join {wr w1 : va_W} {x : Nat × va_E} {H1 : Heap} (hP : va_P D vCl (wr ++ [x]) H) (hD : va_D A0 (wr ++ [x])) (hk : ∀ q : Nat, q < H.size → ¬ va_A [x] H.size q → H1[q]? = H[q]?) (hF : ∀ q, va_A [x] H.size q → A0 q) (hP1 : va_P D vCl w1 H1) (hD1 : va_D (va_A [x] H.size) w1) : va_P D vCl (wr ++ w1) H1 ∧ va_D A0 (wr ++ w1) := by
  refine va_join (wc := [x]) (wr := wr) hP hD [wr.length] (List.range wr.length) ?_ ?_ (va_nd_of _ List.nodup_range) ?_ hk hF hP1 hD1
  · simp
  · apply List.ext_getElem?
    intro i
    by_cases h : i < wr.length
    · simp [h, List.getElem?_append_left h]
    · simp [h]
  · intro i hi h2
    have h3 := List.mem_range.mp hi
    cases List.mem_singleton.mp h2
    omega
end
theorem lRm_fit {d d' mc ms mc' ms' maxL : Nat} (hd : d' < d) (hm : maxL ≤ 40) : (lRm d' mc' ms').frames + 1 ≤ (lRm d mc ms).frames ∧ 8 + (maxL + 11) + (lRm d' mc' ms').locals ≤ (lRm d mc ms).locals := by
  constructor
  · show d' + 1 ≤ d
    omega
  · show 8 + (maxL + 11) + 60 * d' ≤ 60 * d
    omega
section
variable {κ : lK} {M N : vMx} {pc q n index : Nat} {lv : List (Nat × Value)} {rest As : List Value} {ws wr : va_W} {cells slots : Nat} {d d' mc ms mc' ms' b ci : Nat} {fs : List Value} {cA : Nat → ClassId} {Q Q' : Option Value → va_W → Prop}
set_option maxHeartbeats 4000000 in
theorem L_callV (hC : CL N d' 0 0 cA (.ref b :: As) ws Q') (hκ : lStd κ d mc ms cA Q) (hd : d' < d) (h1 : cells ≤ mc) (h2 : slots ≤ ms) (hG : vGood N n) (hl : Cond.methodLink M.1.cls index N.1 ∈ lw_good) (hi : Cond.instanceMethod N.1 ∈ lw_good) (hs : Cond.selects N.1.cls N.1 N.1 ∈ lw_good) (q0 : Nat) (he : ws[q0]? = some (b, .inr (ci, fs))) (hci : ci < 7) (hcls : vR ci = N.1.cls) (hn : As.length = n) (hW : (rest.map fun v => v.category).sum ≤ 8) (dg : decode M.2.1 pc = .ok (.invokevirtual index, 3)) (hq : pc + 3 = q)
    (k : ∀ r ws', Q' r ws' → L κ M q lv (r.toList ++ rest) ws' cells slots) : L κ M pc lv (As.reverse ++ .ref b :: rest) ws cells slots := by
  subst hq
  obtain ⟨p, l, e, R, s, m, args, below, meth, c, D, cA2, A, H0, QW⟩ := κ
  obtain ⟨rfl, rfl, rfl, rfl⟩ := hκ
  intro H locs la C hP hD hS hl0
  have hts := C.2.2.2.2.1
  have hK := C.2.2.2.2.2.1
  have hFc := l_free hD hS C.2.2.2.2.2.2.1
  have cw : CallW (lRm d mc ms) s args M.1.cls N.1.cls index N.1 N.2.1 N.2.2.1 N.2.2.2 (.code N.1 N.2.1 N.2.2.1 N.2.2.2 :: lw_good) (lRm d' 0 0) 0 0 n := ⟨callB_of n hts hG.words rfl rfl rfl (hts _ hG.2.1) (hts _ hl) hG.2.2.1 (lRm_fit hd hG.2.2.2), hts _ hi, hts _ hs⟩
  refine l_cont (va_runV (As := As) (rest := rest) ⟨C.1, C.2.1, C.2.2.1, C.2.2.2.1, hts⟩ (hC l D H.size) cw ⟨lPc_blind, ?_, fun U hU hW => ⟨rfl, by rw [hU], by rw [hU]; exact hP, va_K.moved hW.alike hK, hD.weaken (fun _ _ _ _ => trivial), vNs_warm hW C.2.2.2.2.2.2.2.2.2.1⟩⟩ rfl hn hl0.1 rfl (lv_room hW) dg ⟨h1, h2⟩) hS (fun q _ h => hFc q h) hFc (fun r ws' H1 locs1 hq hP1 hD1 hk1 hS1 => ?_)
  · rw [← hcls]
    exact va_recv hK hP (vCl_at ci hci) he
  · exact k r ws' hq H1 locs1 la C hP1 (hD1.weaken (fun _ _ _ h => hFc _ h)) hS1 hl0
set_option maxHeartbeats 4000000 in
theorem L_callS (hC : CL N d' 0 0 cA As ws Q') (hκ : lStd κ d mc ms cA Q) (hd : d' < d) (h1 : cells ≤ mc) (h2 : slots ≤ ms) (hG : vGood N n) (hl : Cond.methodLink M.1.cls index N.1 ∈ lw_good) (hi : Cond.static N.1 ∈ lw_good) (hn : As.length = n) (hW : (rest.map fun v => v.category).sum ≤ 8) (dg : decode M.2.1 pc = .ok (.invokestatic index, 3)) (hq : pc + 3 = q)
    (k : ∀ r ws', Q' r ws' → L κ M q lv (r.toList ++ rest) ws' cells slots) : L κ M pc lv (As.reverse ++ rest) ws cells slots := by
  subst hq
  obtain ⟨p, l, e, R, s, m, args, below, meth, c, D, cA2, A, H0, QW⟩ := κ
  obtain ⟨rfl, rfl, rfl, rfl⟩ := hκ
  intro H locs la C hP hD hS hl0
  have hts := C.2.2.2.2.1
  have hK := C.2.2.2.2.2.1
  have hFc := l_free hD hS C.2.2.2.2.2.2.1
  refine l_cont (va_runS (As := As) (rest := rest) ⟨C.1, C.2.1, C.2.2.1, C.2.2.2.1, hts⟩ (hC l D H.size) ⟨callB_of n hts hG.words rfl rfl rfl (hts _ hG.2.1) (hts _ hl) hG.2.2.1 (lRm_fit (mc := mc) (ms := ms) (mc' := 0) (ms' := 0) hd hG.2.2.2), hts _ hi⟩ ⟨lPc_blind, fun U hU hW => ⟨rfl, by rw [hU], by rw [hU]; exact hP, va_K.moved hW.alike hK, hD.weaken (fun _ _ _ _ => trivial), vNs_warm hW C.2.2.2.2.2.2.2.2.2.1⟩⟩ rfl hn hl0.1 rfl (lv_room hW) dg ⟨h1, h2⟩) hS (fun q _ h => hFc q h) hFc (fun r ws' H1 locs1 hq hP1 hD1 hk1 hS1 => ?_)
  exact k r ws' hq H1 locs1 la C hP1 (hD1.weaken (fun _ _ _ h => hFc _ h)) hS1 hl0
set_option maxHeartbeats 4000000 in
theorem L_callI (hC : CL N d' mc' ms' cA [.ref b] [(b, .inr (ci, fs))] Q') (hκ : lStd κ d mc ms cA Q) (hd : d' < d) (h1 : cells + mc' ≤ mc) (h2 : slots + ms' ≤ ms) (hG : vGood N 0) (hr : N.2.2.2 = none) (hnm : N.1.name = "<init>") (hl : Cond.methodLink M.1.cls index N.1 ∈ lw_good) (hi : Cond.instanceMethod N.1 ∈ lw_good) (hW : (rest.map fun v => v.category).sum ≤ 8) (dg : decode M.2.1 pc = .ok (.invokespecial index, 3)) (hq : pc + 3 = q)
    (k : ∀ r ws', Q' r ws' → L κ M q lv (r.toList ++ rest) (wr ++ ws') (cells + mc') (slots + ms')) : L κ M pc lv (.ref b :: rest) (wr ++ [(b, .inr (ci, fs))]) cells slots := by
  subst hq
  obtain ⟨y, bytes, maxL, ret⟩ := N
  simp only at hr
  subst hr
  obtain ⟨p, l, e, R, s, m, args, below, meth, c, D, cA2, A, H0, QW⟩ := κ
  obtain ⟨rfl, rfl, rfl, rfl⟩ := hκ
  intro H locs la C hP hD hS hl0
  have hts := C.2.2.2.2.1
  have hK := C.2.2.2.2.2.1
  have hFc0 := l_free hD hS C.2.2.2.2.2.2.1
  obtain ⟨hPc, hDc, hFc⟩ := l_last hP hD hS C.2.2.2.2.2.2.1
  refine l_cont (va_runI (b := b) (As := []) (rest := rest) ⟨C.1, C.2.1, C.2.2.1, C.2.2.2.1, hts⟩ (hC l D H.size) (cwI 0 hts hG.words rfl rfl rfl (hts _ hG.2.1) (hts _ hl) (hts _ hi) hnm hG.2.2.1 (lRm_fit (mc := mc) (ms := ms) (mc' := mc') (ms' := ms') hd hG.2.2.2)) ⟨lPc_blind, fun U hU hW => ⟨rfl, by rw [hU], by rw [hU]; exact hPc, va_K.moved hW.alike hK, hDc, vNs_warm hW C.2.2.2.2.2.2.2.2.2.1⟩⟩ rfl rfl hl0.1 rfl (lv_room hW) dg ⟨h1, h2⟩) hS (fun q _ h => hFc q h) hFc (fun r ws' H1 locs1 hq hP1 hD1 hk1 hS1 => ?_)
  obtain ⟨hP2, hD2⟩ := l_join hP hD hk1 hFc hP1 hD1
  exact k r ws' hq H1 locs1 la C hP2 hD2 hS1 hl0
set_option maxHeartbeats 4000000 in
theorem L_callIN (hC : CL N d' mc' ms' cA [.ref b] [(b, .inr (ci, fs))] Q') (hκ : lStd κ d mc ms cA Q) (hd : d' < d) (h1 : cells + mc' ≤ mc) (h2 : slots + ms' ≤ ms) (hG : vGood N 0) (hr : N.2.2.2 = none) (hnm : N.1.name = "<init>") (hl : (M.1.cls, index, N.1) ∈ vNl) (hi : Cond.instanceMethod N.1 ∈ lw_good) (hW : (rest.map fun v => v.category).sum ≤ 8) (dg : decode M.2.1 pc = .ok (.invokespecial index, 3)) (hq : pc + 3 = q)
    (k : ∀ r ws', Q' r ws' → L κ M q lv (r.toList ++ rest) (wr ++ ws') (cells + mc') (slots + ms')) : L κ M pc lv (.ref b :: rest) (wr ++ [(b, .inr (ci, fs))]) cells slots := by
  subst hq
  obtain ⟨y, bytes, maxL, ret⟩ := N
  simp only at hr
  subst hr
  obtain ⟨p, l, e, R, s, m, args, below, meth, c, D, cA2, A, H0, QW⟩ := κ
  obtain ⟨rfl, rfl, rfl, rfl⟩ := hκ
  intro H locs la C hP hD hS hl0
  have hts := C.2.2.2.2.1
  have hK := C.2.2.2.2.2.1
  have hFc0 := l_free hD hS C.2.2.2.2.2.2.1
  obtain ⟨hPc, hDc, hFc⟩ := l_last hP hD hS C.2.2.2.2.2.2.1
  refine l_cont (va_runIN (host := RX5) (b := b) (As := []) (rest := rest) ⟨C.1, C.2.1, C.2.2.1, C.2.2.2.1, hts⟩ (hC l D H.size) ⟨va_cnB 0 hts hG.words rfl rfl rfl (C.2.2.2.2.2.2.2.2.2.1.1 _ hl) (hts _ hG.2.1) hG.2.2.1 (lRm_fit (mc := mc) (ms := ms) (mc' := mc') (ms' := ms') hd hG.2.2.2), hnm, hts _ hi⟩ ⟨lPc_blind, fun U hU hW => ⟨rfl, by rw [hU], by rw [hU]; exact hPc, va_K.moved hW.alike hK, hDc, vNs_warm hW C.2.2.2.2.2.2.2.2.2.1⟩⟩ rfl rfl hl0.1 rfl (lv_room hW) dg ⟨h1, h2⟩) hS (fun q _ h => hFc q h) hFc (fun r ws' H1 locs1 hq hP1 hD1 hk1 hS1 => ?_)
  obtain ⟨hP2, hD2⟩ := l_join hP hD hk1 hFc hP1 hD1
  exact k r ws' hq H1 locs1 la C hP2 hD2 hS1 hl0
end
