/-! contracts over the abstract machine; answers; calls -/
def vQ (D : va_G) (cA : Nat → ClassId) (ad : Nat → Nat) (A : Nat → Prop) (x : vXt) (Q : Option Value → vFt → vAt → Prop) : Array Value → State → Outcome → State → Prop := fun _ st oc t =>
  (∃ (r : Option Value) (F' : vFt) (Ar' : vAt), oc = .returned (r.map (vV ad)) ∧ Q r F' Ar' ∧ va_P D vCl (vW ad cA F' Ar' x) t.heap ∧ va_K D vCl (vTys cA) t ∧ va_D A (vW ad cA F' Ar' x)) ∧ va_F A st t
def vRm (d : Nat) : Room := { frames := d, cells := 0, slots := 0, locals := 60 * d }
def vStd (κ : vK) (d : Nat) (x : vXt) (Q : Option Value → vFt → vAt → Prop) : Prop := match κ with
  | (_, _, _, R, s, _, args, below, _, _, D, cA, ad, A, H0, cells, slots, QW) => R = vRm d ∧ cells = 0 ∧ slots = 0 ∧ H0 = s.heap ∧ QW = MQ below (vQ D cA ad A x Q) args s 0 0 A
def vBig (κ : vK) (d : Nat) : Prop := match κ with
  | (_, _, _, R, _, _, _, _, _, _, _, _, _, _, _, _, _, _) => d ≤ R.frames ∧ 60 * d ≤ R.locals
theorem vStd.big {κ : vK} {d : Nat} {x : vXt} {Q : Option Value → vFt → vAt → Prop} (h : vStd κ d x Q) : vBig κ d := by
  obtain ⟨p, l, e, R, s, m, args, below, meth, c, D, cA, ad, A, H0, cells, slots, QW⟩ := κ
  obtain ⟨rfl, -⟩ := h
  exact ⟨Nat.le_refl _, Nat.le_refl _⟩
def vPc (D : va_G) (cA : Nat → ClassId) (ad : Nat → Nat) (as : List Value) (F : vFt) (Ar : vAt) (x : vXt) (sz : Nat) : Array Value → State → Prop :=
  va_Pc (as.map (vV ad)) (fun U => U.heap.size = sz ∧ va_P D vCl (vW ad cA F Ar x) U.heap ∧ va_K D vCl (vTys cA) U ∧ va_D (fun _ => True) (vW ad cA F Ar x) ∧ vNs U)
/-- the contract of a method that makes nothing -/
def C0 (N : vMx) (d : Nat) (as : List Value) (F : vFt) (Ar : vAt) (x : vXt) (Q : Option Value → vFt → vAt → Prop) : Prop := ∀ (l : Launch) (D : va_G) (cA : Nat → ClassId) (ad : Nat → Nat) (sz : Nat),
  Met l N.1 (.code N.1 N.2.1 N.2.2.1 N.2.2.2 :: lw_good) (vRm d) (vPc D cA ad as F Ar x sz) (vQ D cA ad (va_A (vW ad cA F Ar x) sz) x Q) 0 0 (va_A (vW ad cA F Ar x) sz)
def vEnt (n : Nat) (as : List Value) : List Value := (List.range n).map (fun i => ((lv_args 0 as).lookup i).getD .null)
theorem lg_sl_len (ad : Nat → Nat) (as : List Value) : (lg_sl (as.map (vV ad))).length = (lg_sl as).length := by
  induction as with
  | nil => rfl
  | cons v t ih =>
    unfold lg_sl at ih ⊢
    simp only [List.map_cons, List.flatMap_cons, List.length_append, ih, vV_cat]
    split <;> rfl
theorem lv_args_map (ad : Nat → Nat) (as : List Value) : ∀ i, lv_args i (as.map (vV ad)) = (lv_args i as).map (fun q => (q.1, vV ad q.2)) := by
  induction as with
  | nil => intro i; rfl
  | cons v t ih =>
    intro i
    simp only [List.map_cons, lv_args, ih, vV_cat]
theorem lookup_mem {β : Type} {l : List (Nat × β)} {i : Nat} {v : β} (h : l.lookup i = some v) : (i, v) ∈ l := by
  induction l with
  | nil => cases h
  | cons q t ih =>
    obtain ⟨j, w⟩ := q
    simp only [List.lookup_cons] at h
    by_cases e : i = j
    · subst e
      simp at h
      subst h
      exact List.mem_cons_self
    · have : (i == j) = false := by simpa using e
      rw [this] at h
      exact List.mem_cons_of_mem _ (ih h)
theorem vEnt_has {ad : Nat → Nat} {as : List Value} {n : Nat} {la : Array Slot} (h : lv_has la n (lv_args 0 (as.map (vV ad)))) : lv_has la n (vLs ad (vEnt n as)) := by
  refine ⟨h.1, h.2.1, fun q hq => ?_⟩
  obtain ⟨v, h1, h2, h3⟩ := vLs_of hq
  unfold vEnt at h1
  rw [List.getElem?_map] at h1
  cases hr : (List.range n)[q.1]? with
  | none => rw [hr] at h1; cases h1
  | some j =>
    rw [hr] at h1
    have hj : j = q.1 := by
      have := List.getElem?_eq_some_iff.mp hr
      obtain ⟨hlt, e⟩ := this
      rw [List.getElem_range] at e
      exact e.symm
    subst hj
    simp only [Option.map_some, Option.some.injEq] at h1
    cases hk : (lv_args 0 as).lookup q.1 with
    | none => rw [hk] at h1; exact absurd h1.symm h2
    | some w =>
      rw [hk] at h1
      have hm := lookup_mem hk
      simp only [Option.getD_some] at h1
      subst h1
      have hm2 : (q.1, vV ad w) ∈ lv_args 0 (as.map (vV ad)) := by
        rw [lv_args_map]
        exact List.mem_map.mpr ⟨_, hm, rfl⟩
      have := h.2.2 _ hm2
      rw [h3]
      exact this
set_option maxHeartbeats 4000000 in
theorem C0_of {N : vMx} {d : Nat} {as : List Value} {F : vFt} {Ar : vAt} {x : vXt} {Q : Option Value → vFt → vAt → Prop} (hy : plainName N.1.cls = true) (hlen : (lg_sl as).length ≤ N.2.2.1) (h : ∀ κ : vK, vStd κ d x Q → V κ N 0 (vEnt N.2.2.1 as) [] F Ar x) : C0 N d as F Ar x Q := by
  intro l D cA ad sz
  refine Met.ofW (cc := N.2.1) (maxL := N.2.2.1) (ret := N.2.2.2) hy rfl ?_
  intro p e s m args below meth c s₁ B hml hv
  obtain ⟨rfl, hsz, hP, hK, hD0, hN⟩ := hv
  have hts := atoms_spec (ws := .code N.1 N.2.1 N.2.2.1 N.2.2.2 :: lw_good) B.pre
  subst hsz
  have hl := lv_entry (as.map (vV ad)) (n := N.2.2.1) (by rw [lg_sl_len]; exact hlen)
  rw [lg_entry_eq]
  exact h (p, l, e, vRm d, s, m, (as.map (vV ad)).toArray, below, meth, c, D, cA, ad, va_A (vW ad cA F Ar x) s.heap.size, s.heap, 0, 0, MQ below (vQ D cA ad (va_A (vW ad cA F Ar x) s.heap.size) x Q) (as.map (vV ad)).toArray s 0 0 (va_A (vW ad cA F Ar x) s.heap.size)) ⟨rfl, rfl, rfl, rfl, rfl⟩ s.heap [] _
    ⟨B.exec, B.bytes, hml, findClass_of_methodNamed B.named, fun w hw => hts w (List.mem_cons_of_mem _ hw), hK, fun q hq => Or.inr hq, B.returns, B.notSynchronized, Nat.zero_le _, Nat.zero_le _, hN⟩ hP hD0.self va_S.rf (vEnt_has hl)
section
variable {κ : vK} {M : vMx} {pc q : Nat} {ls st : List Value} {F : vFt} {Ar : vAt} {x : vXt} {Q : Option Value → vFt → vAt → Prop} {dd : Nat}
theorem V_iret {v : Int32} {ty : FieldType} (hκ : vStd κ dd x Q) (hr : M.2.2.2 = some ty) (hn : narrow ty (.int v) = .int v) (d : decode M.2.1 pc = .ok (.ireturn, 1)) (hq : Q (some (.int v)) F Ar) : V κ M pc ls [.int v] F Ar x := by
  obtain ⟨p, l, e, R, s, m, args, below, meth, c, D, cA, ad, A, H0, cells, slots, QW⟩ := κ
  intro H locs la C hP hD hS hl
  obtain ⟨rfl, rfl, rfl, rfl, rfl⟩ := hκ
  exact W.zret C.1 C.2.1 (C.2.2.2.2.2.2.2.1.trans hr) hn (fun t ht hW => ⟨⟨some (.int v), F, Ar, rfl, hq, by rw [ht]; exact hP, va_K.moved hW.alike C.2.2.2.2.2.1, hD⟩, hS.F ht⟩) hS.2.2 d C.2.2.2.2.2.2.2.2.1
theorem V_lret {v : Int64} (hκ : vStd κ dd x Q) (hr : M.2.2.2 = some .long) (d : decode M.2.1 pc = .ok (.lreturn, 1)) (hq : Q (some (.long v)) F Ar) : V κ M pc ls [.long v] F Ar x := by
  obtain ⟨p, l, e, R, s, m, args, below, meth, c, D, cA, ad, A, H0, cells, slots, QW⟩ := κ
  intro H locs la C hP hD hS hl
  obtain ⟨rfl, rfl, rfl, rfl, rfl⟩ := hκ
  exact W.lret C.1 C.2.1 (C.2.2.2.2.2.2.2.1.trans hr) (fun t ht hW => ⟨⟨some (.long v), F, Ar, rfl, hq, by rw [ht]; exact hP, va_K.moved hW.alike C.2.2.2.2.2.1, hD⟩, hS.F ht⟩) hS.2.2 d C.2.2.2.2.2.2.2.2.1
theorem V_vret (hκ : vStd κ dd x Q) (hr : M.2.2.2 = none) (d : decode M.2.1 pc = .ok (.return_, 1)) (hq : Q none F Ar) : V κ M pc ls [] F Ar x := by
  obtain ⟨p, l, e, R, s, m, args, below, meth, c, D, cA, ad, A, H0, cells, slots, QW⟩ := κ
  intro H locs la C hP hD hS hl
  obtain ⟨rfl, rfl, rfl, rfl, rfl⟩ := hκ
  exact W.vret C.1 C.2.1 (C.2.2.2.2.2.2.2.1.trans hr) (fun t ht hW => ⟨⟨none, F, Ar, rfl, hq, by rw [ht]; exact hP, va_K.moved hW.alike C.2.2.2.2.2.1, hD⟩, hS.F ht⟩) hS.2.2 d C.2.2.2.2.2.2.2.2.1
end
section
variable {p : Program} {l : Launch} {e : Env} {R : Room} {s : State} {m : MethodId} {args : Array Value} {below : List Frame} {meth : Method} {c : Code} {H : Heap} {locs : List Loc} {cells slots : Nat} {QW : State → Prop}
variable {pc : Nat} {la : Array Slot} {rest st0 : List Value} {a : Array Value} {A0 A1 : Nat → Prop} {H0 : Heap} {free : Addr → Prop} {D : va_G} {cA : Nat → ClassId} {ad : Nat → Nat} {x : vXt} {Q : Option Value → vFt → vAt → Prop}
theorem v_cont (hr : va_Run p l e R s m args below meth c H locs cells slots 0 0 (F0 m pc la st0) rest (vQ D cA ad A1 x Q a) free) (hS : va_S A0 H0 H locs) (hA : ∀ q, q < H.size → A1 q → A0 q) (hf : ∀ q, free q → A0 q)
    (kk : ∀ (r : Option Value) (F' : vFt) (Ar' : vAt) (H1 : Heap) (locs1 : List Loc), Q r F' Ar' → va_P D vCl (vW ad cA F' Ar' x) H1 → va_D A1 (vW ad cA F' Ar' x) → va_S A0 H0 H1 locs1 → W p l e R s m args below meth c H1 locs1 cells slots QW (F0 m (pc + 3) la ((r.map (vV ad)).toList ++ rest))) : W p l e R s m args below meth c H locs cells slots QW (F0 m pc la st0) := by
  intro T hT X
  obtain ⟨v, st₀, t, T', L, h0, X', hL, e1, e2, ⟨⟨r, F', Ar', hv, hq, hb, -, hd⟩, hz, hk⟩, st⟩ := hr T hT X
  cases hv
  rw [h0] at hz hk
  obtain ⟨t2, a1, b1⟩ := kk r F' Ar' T'.heap (locs ++ L) hq (by rw [e1]; exact hb) hd
    ⟨Nat.le_trans hS.1 (by rw [e1]; exact hz), fun q h1 h2 => by rw [e1, hk q (Nat.lt_of_lt_of_le h1 hS.1) (fun z => h2 (hA q (Nat.lt_of_lt_of_le h1 hS.1) z))]; exact hS.2.1 q h1 h2, fun q hq => by
      rcases List.mem_append.mp hq with h | h
      · exact hS.2.2 q h
      · exact hf _ (hL q h)⟩ T' rfl X'
  exact ⟨t2, st t2 a1, b1⟩
theorem vW_free {F : vFt} {Ar : vAt} (hD : va_D A0 (vW ad cA F Ar x)) (hS : va_S A0 H0 H locs) (hA : ∀ q, H0.size ≤ q → A0 q) : ∀ q, va_A (vW ad cA F Ar x) H.size q → A0 q := by
  intro q h
  rcases h with ⟨k, e, h⟩ | h
  · exact hD.2 k _ h
  · exact hA q (Nat.le_trans hS.1 h)
end
def vGood (N : vMx) (n : Nat) : Prop := Cond.code N.1 N.2.1 N.2.2.1 N.2.2.2 ∈ lw_good ∧ Cond.initialized N.1.cls ∈ lw_good ∧ (N.1.cls ≠ "java/lang/invoke/MethodHandle" ∧ N.1.cls ≠ "java/lang/invoke/VarHandle" ∧ (parseMethodDescriptor N.1.desc).map (fun d => d.parameters.length) = some n) ∧ N.2.2.1 ≤ 40
theorem vGood.words {N : vMx} {n : Nat} (h : vGood N n) : GoodIn lw_good (.code N.1 N.2.1 N.2.2.1 N.2.2.2 :: lw_good) := fun w hw => by
  rcases List.mem_cons.mp hw with rfl | hw
  · exact lw_good_ok _ h.1
  · exact lw_good_ok w hw
theorem vPc_blind {D : va_G} {cA : Nat → ClassId} {ad : Nat → Nat} {as : List Value} {F : vFt} {Ar : vAt} {x : vXt} {sz : Nat} : FrameBlind (vPc D cA ad as F Ar x sz) := fun a U g mk q => by
  obtain ⟨q0, q1, qP, qK, qD, qN⟩ := q
  exact ⟨q0, q1, qP, va_K.moved (u := U) (U := U.calling g mk a) (Vm.Alike.refl U.vm) qK, qD, vNs_same (u := U) (U := U.calling g mk a) rfl qN⟩
theorem vRm_fit {d d' maxL : Nat} {R : Room} (h : d ≤ R.frames ∧ 60 * d ≤ R.locals) (hd : d' < d) (hm : maxL ≤ 40) : (vRm d').frames + 1 ≤ R.frames ∧ 8 + (maxL + 11) + (vRm d').locals ≤ R.locals := by
  constructor
  · show d' + 1 ≤ R.frames
    omega
  · show 8 + (maxL + 11) + 60 * d' ≤ R.locals
    omega
section
variable {κ : vK} {M N : vMx} {pc q : Nat} {ls rest As : List Value} {F : vFt} {Ar : vAt} {x : vXt} {Q : Option Value → vFt → vAt → Prop} {dd d' o n index : Nat}
theorem vCat (ad : Nat → Nat) (l : List Value) : ((l.map (vV ad)).map fun v => v.category).sum = (l.map fun v => v.category).sum := by
  rw [List.map_map]
  congr 1
  apply List.map_congr_left
  intro v _
  exact vV_cat ad v
set_option maxHeartbeats 4000000 in
theorem V_callV (hC : C0 N d' (.ref o :: As) F Ar x Q) (hB : vBig κ dd) (hd : d' < dd) (hG : vGood N n) (hl : Cond.methodLink M.1.cls index N.1 ∈ lw_good) (hi : Cond.instanceMethod N.1 ∈ lw_good) (hs : Cond.selects N.1.cls N.1 N.1 ∈ lw_good) (ho : o < 7) (hcls : vR o = N.1.cls) (hn : As.length = n) (hW : (rest.map fun v => v.category).sum ≤ 8) (d : decode M.2.1 pc = .ok (.invokevirtual index, 3)) (hq : pc + 3 = q)
    (k : ∀ r F' Ar', Q r F' Ar' → V κ M q ls (r.toList ++ rest) F' Ar' x) : V κ M pc ls (As.reverse ++ .ref o :: rest) F Ar x := by
  subst hq
  obtain ⟨p, l, e, R, s, m, args, below, meth, c, D, cA, ad, A, H0, cells, slots, QW⟩ := κ
  intro H locs la C hP hD hS hl0
  have hts := C.2.2.2.2.1
  have hK := C.2.2.2.2.2.1
  have hFc := vW_free hD hS C.2.2.2.2.2.2.1
  have cw : CallW R s args M.1.cls N.1.cls index N.1 N.2.1 N.2.2.1 N.2.2.2 (.code N.1 N.2.1 N.2.2.1 N.2.2.2 :: lw_good) (vRm d') 0 0 n := ⟨callB_of n hts hG.words rfl rfl rfl (hts _ hG.2.1) (hts _ hl) hG.2.2.1 (vRm_fit hB hd hG.2.2.2), hts _ hi, hts _ hs⟩
  refine v_cont (va_runV (As := As.map (vV ad)) (rest := rest.map (vV ad)) ⟨C.1, C.2.1, C.2.2.1, C.2.2.2.1, hts⟩ (hC l D cA ad H.size) cw ⟨vPc_blind, ?_, fun U hU hW => ⟨rfl, by rw [hU], by rw [hU]; exact hP, va_K.moved hW.alike hK, hD.weaken (fun _ _ _ _ => trivial), vNs_warm hW C.2.2.2.2.2.2.2.2.2.2.2⟩⟩ rfl (by rw [List.length_map]; exact hn) hl0.1 (by simp [vV]) (lv_room (by rw [vCat]; exact hW)) d ⟨C.2.2.2.2.2.2.2.2.2.1, C.2.2.2.2.2.2.2.2.2.2.1⟩) hS (fun q _ h => hFc q h) hFc (fun r F' Ar' H1 locs1 hq hP1 hD1 hS1 => ?_)
  · rw [← hcls]
    exact va_recv hK hP (vCl_at o ho) (vW_obj ho)
  · have h9 := k r F' Ar' hq H1 locs1 la C hP1 (hD1.weaken (fun _ _ _ h => hFc _ h)) hS1 hl0
    rw [List.map_append] at h9
    cases r with
    | none => exact h9
    | some v => exact h9
set_option maxHeartbeats 4000000 in
theorem V_callS (hC : C0 N d' As F Ar x Q) (hB : vBig κ dd) (hd : d' < dd) (hG : vGood N n) (hl : Cond.methodLink M.1.cls index N.1 ∈ lw_good) (hi : Cond.static N.1 ∈ lw_good) (hn : As.length = n) (hW : (rest.map fun v => v.category).sum ≤ 8) (d : decode M.2.1 pc = .ok (.invokestatic index, 3)) (hq : pc + 3 = q)
    (k : ∀ r F' Ar', Q r F' Ar' → V κ M q ls (r.toList ++ rest) F' Ar' x) : V κ M pc ls (As.reverse ++ rest) F Ar x := by
  subst hq
  obtain ⟨p, l, e, R, s, m, args, below, meth, c, D, cA, ad, A, H0, cells, slots, QW⟩ := κ
  intro H locs la C hP hD hS hl0
  have hts := C.2.2.2.2.1
  have hK := C.2.2.2.2.2.1
  have hFc := vW_free hD hS C.2.2.2.2.2.2.1
  refine v_cont (va_runS (As := As.map (vV ad)) (rest := rest.map (vV ad)) ⟨C.1, C.2.1, C.2.2.1, C.2.2.2.1, hts⟩ (hC l D cA ad H.size) ⟨callB_of n hts hG.words rfl rfl rfl (hts _ hG.2.1) (hts _ hl) hG.2.2.1 (vRm_fit hB hd hG.2.2.2), hts _ hi⟩ ⟨vPc_blind, fun U hU hW => ⟨rfl, by rw [hU], by rw [hU]; exact hP, va_K.moved hW.alike hK, hD.weaken (fun _ _ _ _ => trivial), vNs_warm hW C.2.2.2.2.2.2.2.2.2.2.2⟩⟩ rfl (by rw [List.length_map]; exact hn) hl0.1 (by simp [vV]) (lv_room (by rw [vCat]; exact hW)) d ⟨C.2.2.2.2.2.2.2.2.2.1, C.2.2.2.2.2.2.2.2.2.2.1⟩) hS (fun q _ h => hFc q h) hFc (fun r F' Ar' H1 locs1 hq hP1 hD1 hS1 => ?_)
  have h9 := k r F' Ar' hq H1 locs1 la C hP1 (hD1.weaken (fun _ _ _ h => hFc _ h)) hS1 hl0
  rw [List.map_append] at h9
  cases r with
  | none => exact h9
  | some v => exact h9
set_option maxHeartbeats 4000000 in
theorem V_callSN (hC : C0 N d' As F Ar x Q) (hB : vBig κ dd) (hd : d' < dd) (hG : vGood N n) (hl : (M.1.cls, index, N.1) ∈ vNl) (hi : Cond.static N.1 ∈ lw_good) (hn : As.length = n) (hW : (rest.map fun v => v.category).sum ≤ 8) (d : decode M.2.1 pc = .ok (.invokestatic index, 3)) (hq : pc + 3 = q)
    (k : ∀ r F' Ar', Q r F' Ar' → V κ M q ls (r.toList ++ rest) F' Ar' x) : V κ M pc ls (As.reverse ++ rest) F Ar x := by
  subst hq
  obtain ⟨p, l, e, R, s, m, args, below, meth, c, D, cA, ad, A, H0, cells, slots, QW⟩ := κ
  intro H locs la C hP hD hS hl0
  have hts := C.2.2.2.2.1
  have hK := C.2.2.2.2.2.1
  have hFc := vW_free hD hS C.2.2.2.2.2.2.1
  refine v_cont (va_runSN (host := RX5) (As := As.map (vV ad)) (rest := rest.map (vV ad)) ⟨C.1, C.2.1, C.2.2.1, C.2.2.2.1, hts⟩ (hC l D cA ad H.size) ⟨va_cnB n hts hG.words rfl rfl rfl (C.2.2.2.2.2.2.2.2.2.2.2.1 _ hl) (hts _ hG.2.1) hG.2.2.1 (vRm_fit hB hd hG.2.2.2), hts _ hi, trivial⟩ ⟨vPc_blind, fun U hU hW => ⟨rfl, by rw [hU], by rw [hU]; exact hP, va_K.moved hW.alike hK, hD.weaken (fun _ _ _ _ => trivial), vNs_warm hW C.2.2.2.2.2.2.2.2.2.2.2⟩⟩ rfl (by rw [List.length_map]; exact hn) hl0.1 (by simp [vV]) (lv_room (by rw [vCat]; exact hW)) d ⟨C.2.2.2.2.2.2.2.2.2.1, C.2.2.2.2.2.2.2.2.2.2.1⟩) hS (fun q _ h => hFc q h) hFc (fun r F' Ar' H1 locs1 hq hP1 hD1 hS1 => ?_)
  have h9 := k r F' Ar' hq H1 locs1 la C hP1 (hD1.weaken (fun _ _ _ h => hFc _ h)) hS1 hl0
  rw [List.map_append] at h9
  cases r with
  | none => exact h9
  | some v => exact h9
end
