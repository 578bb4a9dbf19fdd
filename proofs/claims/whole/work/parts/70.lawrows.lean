def R_law : String := "HullRegisterLaw"
def lw_P (b : Addr) (xs : List Int32) (args : Array Value) (s : State) : Prop := args = #[.ref b] ∧ s.IntsAt b xs ∧ xs.length ≤ 3072 ∧ (Jvm.Cond.and given_1 narrow_1).before args s = true
def lw_Q (_ : Array Value) (s : State) (o : Outcome) (t : State) : Prop := o = .returned (some (.int 1)) ∧ Framed s o t [] 600000 7302250
def lw_Z (below : List Frame) (a : Array Value) (s : State) : State → Prop := fun t => ∃ o, t.status = .running ∧ Ended t below o ∧ lw_Q a s o t
/-- the law's own end, with 1 on the stack, nothing written that was there before, its room as the claim has it -/
theorem lw_ret {p : Program} {l : Launch} {e : Env} {s : State} {m : MethodId} {below : List Frame} {meth : Method} {c : Code} {b : Nat} (hx : p.tables.exec = Jvm.exec) (hb : c.code = code) (hr : meth.sig.returnType = ret) (hlocks : meth.locks = false) {pc : Nat} {H : Heap} {ls : Array Slot} (hdg : decode code pc = .ok (.ireturn, 1)) : W p l e room_1 s m #[Value.ref b] below meth c H [] 600000 7302250 (lw_Z below #[Value.ref b] s) (F0 m pc ls [.int 1]) := by
  intro T hT X
  obtain ⟨fs, hret, hrun, hended, hW, hframe⟩ := X.leave (v := some (.int 1)) (hlocks := hlocks) (fun h => by rw [hr] at h; cases h)
  have hmeth' : T.vm.method? m = some meth := X.method'
  refine ⟨T.setFrames fs, ?_, .returned (some (.int 1)), hrun, hended, rfl, ⟨_, rfl⟩, hW, hframe⟩
  jvm_step X.here [X.here.top, hx, hb, hdg, hmeth', hr, ret, narrow_b1]
  (try refine ⟨rfl, ?_⟩); (try refine ⟨rfl, ?_⟩)
  first | (intro acts; rw [hret _ acts rfl rfl rfl]) | rw [hret _ _ rfl rfl rfl]
  exact Steps.refl _
/-- what holds at the law's entry: the machine, the code, the tables' words (any of lw_tbl by 'hts w (by decide +kernel)'), the script of L ints xs at the cell b, what the Statement gives of the start (any of its parts by flat_of_before) -/
def lw_At (p : Program) (s : State) (m : MethodId) (meth : Method) (c : Code) (b L : Nat) (xs : Nat → Int32) : Prop :=
  p.tables.exec = Jvm.exec ∧ c.code = code ∧ meth.sig.returnType = ret ∧ c.maxLocals = 4 ∧ s.vm.findClass R_law = some m.cls ∧ (∀ w ∈ lw_tbl, w.before #[Value.ref b] s = true) ∧ va_X b L xs s s.heap ∧ b < s.heap.size ∧ meth.locks = false ∧ (Jvm.Cond.and given_1 narrow_1).before #[Value.ref b] s = true
/-! the law's frame: its locals are known by place -/
abbrev mLaw : vMx := (yL_law, cL_law, 4, ret)
def Jw (κ : vK) (la : Array Slot) (pc : Nat) (st : List Value) (F : vFt) (Ar : vAt) (x : vXt) : Prop := match κ with
  | (p, l, e, R, s, m, args, below, meth, c, D, cA, ad, A, H0, cells, slots, QW) => ∀ (H : Heap) (locs : List Loc), vOK (p, l, e, R, s, m, args, below, meth, c, D, cA, ad, A, H0, cells, slots, QW) mLaw → va_P D vCl (vW ad cA F Ar x) H → va_D A (vW ad cA F Ar x) → va_S A H0 H locs → W p l e R s m args below meth c H locs cells slots QW (F0 m pc la (st.map (vV ad)))
/-- the law's locals at script place i; the script; its room -/
def jwC (κ : vK) (la : Array Slot) (b n : Nat) (xs : Nat → Int32) (i k : Nat) : Prop := match κ with
  | (_, _, _, R, s, _, args, below, _, _, _, _, ad, A, H0, cells, slots, QW) => lv_has la 4 [(0, .ref b), (1, .ref (ad 0)), (2, .ref (ad 6)), (3, .int (nI i))] ∧ va_X b n xs s H0 ∧ b < H0.size ∧ R = room_1 ∧ H0 = s.heap ∧ args = #[Value.ref b] ∧ A = (fun q : Nat => s.heap.size ≤ q) ∧ QW = lw_Z below #[Value.ref b] s ∧ cells ≤ 66 + k ∧ slots ≤ 2379 + 1728 * k
section
variable {κ : vK} {la : Array Slot} {b n i k pc q : Nat} {xs : Nat → Int32} {st rest : List Value} {F : vFt} {Ar : vAt} {x : vXt}
theorem jwC.mono {k' : Nat} (h : jwC κ la b n xs i k) (hk : k ≤ k') : jwC κ la b n xs i k' := by
  obtain ⟨p, l, e, R, s, m, args, below, meth, c, D, cA, ad, A, H0, cells, slots, QW⟩ := κ
  obtain ⟨h1, h2, h3, h4, h5, h6, h7, h8, h9, h10⟩ := h
  refine ⟨h1, h2, h3, h4, h5, h6, h7, h8, by omega, ?_⟩
  have := Nat.mul_le_mul_left 1728 hk
  omega
theorem Jw_a1 (hκ : jwC κ la b n xs i k) (d : decode cL_law pc = .ok (.aload_n 1, 1)) (hq : pc + 1 = q) (kk : Jw κ la q (.ref 0 :: st) F Ar x) : Jw κ la pc st F Ar x := by
  subst hq
  obtain ⟨p, l, e, R, s, m, args, below, meth, c, D, cA, ad, A, H0, cells, slots, QW⟩ := κ
  intro H locs C hP hD hS
  exact lv_aload_n C.1 C.2.1 d rfl (hκ.1.2.2 (1, .ref (ad 0)) (by simp)) (kk H locs C hP hD hS)
theorem Jw_a2 (hκ : jwC κ la b n xs i k) (d : decode cL_law pc = .ok (.aload_n 2, 1)) (hq : pc + 1 = q) (kk : Jw κ la q (.ref 6 :: st) F Ar x) : Jw κ la pc st F Ar x := by
  subst hq
  obtain ⟨p, l, e, R, s, m, args, below, meth, c, D, cA, ad, A, H0, cells, slots, QW⟩ := κ
  intro H locs C hP hD hS
  exact lv_aload_n C.1 C.2.1 d rfl (hκ.1.2.2 (2, .ref (ad 6)) (by simp)) (kk H locs C hP hD hS)
theorem Jw_rd {j : Nat} {nj : Int} (hκ : jwC κ la b n xs i k) (hn : n ≤ 3072) (hj : i + j < n) (hv : Int32.ofInt nj = nI j) (d0 : decode cL_law pc = .ok (.aload_n 0, 1)) (d1 : decode cL_law (pc + 1) = .ok (.iload_n 3, 1)) (d2 : decode cL_law (pc + 2) = .ok (.iconst nj, 1)) (d3 : decode cL_law (pc + 3) = .ok (.iadd, 1)) (d4 : decode cL_law (pc + 4) = .ok (.iaload, 1)) (hq : pc + 5 = q) (kk : Jw κ la q (.int (xs (i + j)) :: st) F Ar x) : Jw κ la pc st F Ar x := by
  subst hq
  obtain ⟨p, l, e, R, s, m, args, below, meth, c, D, cA, ad, A, H0, cells, slots, QW⟩ := κ
  obtain ⟨hl, hX, hbl, rfl, rfl, rfl, rfl, rfl, hc, hs⟩ := hκ
  intro H locs C hP hD hS
  refine lv_aload_n C.1 C.2.1 d0 rfl (hl.2.2 (0, .ref b) (by simp)) ?_
  refine lv_iload_n C.1 C.2.1 d1 rfl (hl.2.2 (3, .int (nI i)) (by simp)) ?_
  refine lv_iconst C.1 C.2.1 d2 hv ?_
  refine lv_iadd C.1 C.2.1 d3 ?_
  rw [nI_add]
  refine va_sld C.1 C.2.1 hX hbl (Nat.not_le.mpr hbl) hS (vp_in_nI hj (by omega)) d4 ?_
  rw [nI_clamp (by omega)]
  exact kk H locs C hP hD hS
theorem Jw_rd0 (hκ : jwC κ la b n xs i k) (hn : n ≤ 3072) (hj : i < n) (d0 : decode cL_law pc = .ok (.aload_n 0, 1)) (d1 : decode cL_law (pc + 1) = .ok (.iload_n 3, 1)) (d4 : decode cL_law (pc + 2) = .ok (.iaload, 1)) (hq : pc + 3 = q) (kk : Jw κ la q (.int (xs i) :: st) F Ar x) : Jw κ la pc st F Ar x := by
  subst hq
  obtain ⟨p, l, e, R, s, m, args, below, meth, c, D, cA, ad, A, H0, cells, slots, QW⟩ := κ
  obtain ⟨hl, hX, hbl, rfl, rfl, rfl, rfl, rfl, hc, hs⟩ := hκ
  intro H locs C hP hD hS
  refine lv_aload_n C.1 C.2.1 d0 rfl (hl.2.2 (0, .ref b) (by simp)) ?_
  refine lv_iload_n C.1 C.2.1 d1 rfl (hl.2.2 (3, .int (nI i)) (by simp)) ?_
  refine va_sld C.1 C.2.1 hX hbl (Nat.not_le.mpr hbl) hS (vp_in_nI hj (by omega)) d4 ?_
  rw [nI_clamp (by omega)]
  exact kk H locs C hP hD hS
/-- both answered alike -/
theorem Jw_eq {v : Int32} {off : Int} {tgt : Nat} (d : decode cL_law pc = .ok (.if_icmp .eq off, 3)) (ht : (pc : Int) + off = (tgt : Int)) (kk : Jw κ la tgt st F Ar x) : Jw κ la pc (.int v :: .int v :: st) F Ar x := by
  obtain ⟨p, l, e, R, s, m, args, below, meth, c, D, cA, ad, A, H0, cells, slots, QW⟩ := κ
  intro H locs C hP hD hS
  exact lv_icmp_eq C.1 C.2.1 d ht (fun _ => kk H locs C hP hD hS) (fun h => absurd rfl h)
theorem Jw_bool {v : Int32} (d0 : decode cL_law pc = .ok (.ifCond .eq 7, 3)) (d1 : decode cL_law (pc + 3) = .ok (.iconst 1, 1)) (d2 : decode cL_law (pc + 4) = .ok (.goto 4, 3)) (d3 : decode cL_law (pc + 7) = .ok (.iconst 0, 1)) (hq : pc + 8 = q) (kk : Jw κ la q (.int (if (decide (¬ v = 0)) then 1 else 0) :: st) F Ar x) : Jw κ la pc (.int v :: st) F Ar x := by
  subst hq
  obtain ⟨p, l, e, R, s, m, args, below, meth, c, D, cA, ad, A, H0, cells, slots, QW⟩ := κ
  intro H locs C hP hD hS
  have h9 := kk H locs C hP hD hS
  refine lv_if_eq (tgt := pc + 7) C.1 C.2.1 d0 (by omega) (fun h => ?_) (fun h => ?_)
  · refine lv_iconst (v := 0) C.1 C.2.1 d3 (by decide) ?_
    rw [show (decide (¬ v = 0)) = false from decide_eq_false (fun z => z h)] at h9
    exact h9
  · refine lv_iconst (v := 1) C.1 C.2.1 d1 (by decide) ?_
    refine lv_goto (tgt := pc + 8) C.1 C.2.1 d2 (by omega) ?_
    rw [show (decide (¬ v = 0)) = true from decide_eq_true h] at h9
    exact h9
theorem Jw_tabIn {dflt lo hi : Int} {offs : Array Int} {len tgt : Nat} {v : Int32} {off : Int} (d : decode cL_law pc = .ok (.tableswitch dflt lo hi offs, len)) (h1 : ¬ v.toInt < lo) (h2 : ¬ hi < v.toInt) (ho : offs[(v.toInt - lo).toNat]? = some off) (ht : (pc : Int) + off = (tgt : Int)) (kk : Jw κ la tgt st F Ar x) : Jw κ la pc (.int v :: st) F Ar x := by
  obtain ⟨p, l, e, R, s, m, args, below, meth, c, D, cA, ad, A, H0, cells, slots, QW⟩ := κ
  intro H locs C hP hD hS
  exact lv_tableIn C.1 C.2.1 d h1 h2 ho ht (kk H locs C hP hD hS)
theorem Jw_tabOut {dflt lo hi : Int} {offs : Array Int} {len tgt : Nat} {v : Int32} (d : decode cL_law pc = .ok (.tableswitch dflt lo hi offs, len)) (h : v.toInt < lo ∨ hi < v.toInt) (ht : (pc : Int) + dflt = (tgt : Int)) (kk : Jw κ la tgt st F Ar x) : Jw κ la pc (.int v :: st) F Ar x := by
  obtain ⟨p, l, e, R, s, m, args, below, meth, c, D, cA, ad, A, H0, cells, slots, QW⟩ := κ
  intro H locs C hP hD hS
  exact lv_tableOut C.1 C.2.1 d h ht (kk H locs C hP hD hS)
end
section
variable {κ : vK} {la : Array Slot} {b n i k pc q : Nat} {xs : Nat → Int32} {rest : List Value} {F : vFt} {Ar : vAt} {x : vXt} {N : vMx} {d' o na index : Nat}
set_option maxHeartbeats 4000000 in
theorem Jw_call (As : List Value) {Q : Option Value → vFt → vAt → Prop} (hC : C0 N d' (.ref o :: As) F Ar x Q) (hκ : jwC κ la b n xs i k) (hd : d' < 100) (hG : vGood N na) (hl : Cond.methodLink RL index N.1 ∈ lw_good) (hi : Cond.instanceMethod N.1 ∈ lw_good) (hs : Cond.selects N.1.cls N.1 N.1 ∈ lw_good) (ho : o < 7) (hcls : vR o = N.1.cls) (hn : As.length = na) (hW : (rest.map fun v => v.category).sum ≤ 8) (d : decode cL_law pc = .ok (.invokevirtual index, 3)) (hq : pc + 3 = q)
    (kk : ∀ r F' Ar', Q r F' Ar' → Jw κ la q (r.toList ++ rest) F' Ar' x) : Jw κ la pc (As.reverse ++ .ref o :: rest) F Ar x := by
  subst hq
  obtain ⟨p, l, e, R, s, m, args, below, meth, c, D, cA, ad, A, H0, cells, slots, QW⟩ := κ
  obtain ⟨hl0, hX, hbl, rfl, rfl, rfl, rfl, rfl, hc9, hs9⟩ := hκ
  intro H locs C hP hD hS
  have hts := C.2.2.2.2.1
  have hK := C.2.2.2.2.2.1
  have hFc := vW_free hD hS C.2.2.2.2.2.2.1
  have hB : (100 : Nat) ≤ room_1.frames ∧ 60 * 100 ≤ room_1.locals := by decide
  have cw : CallW room_1 s #[Value.ref b] RL N.1.cls index N.1 N.2.1 N.2.2.1 N.2.2.2 (.code N.1 N.2.1 N.2.2.1 N.2.2.2 :: lw_good) (vRm d') 0 0 na := ⟨callB_of na hts hG.words rfl rfl rfl (hts _ hG.2.1) (hts _ hl) hG.2.2.1 (vRm_fit hB hd hG.2.2.2), hts _ hi, hts _ hs⟩
  refine v_cont (va_runV (As := As.map (vV ad)) (rest := rest.map (vV ad)) ⟨C.1, C.2.1, C.2.2.1, C.2.2.2.1, hts⟩ (hC l D cA ad H.size) cw ⟨vPc_blind, ?_, fun U hU hW => ⟨rfl, by rw [hU], by rw [hU]; exact hP, va_K.moved hW.alike hK, hD.weaken (fun _ _ _ _ => trivial), vNs_warm hW C.2.2.2.2.2.2.2.2.2.2.2⟩⟩ rfl (by rw [List.length_map]; exact hn) hl0.1 (by simp [vV]) (lv_room (by rw [vCat]; exact hW)) d ⟨C.2.2.2.2.2.2.2.2.2.1, C.2.2.2.2.2.2.2.2.2.2.1⟩) hS (fun q _ h => hFc q h) hFc (fun r F' Ar' H1 locs1 hq hP1 hD1 hS1 => ?_)
  · rw [← hcls]
    exact va_recv hK hP (vCl_at o ho) (vW_obj ho)
  · have h9 := kk r F' Ar' hq H1 locs1 C hP1 (hD1.weaken (fun _ _ _ h => hFc _ h)) hS1
    rw [List.map_append] at h9
    cases r with
    | none => exact h9
    | some v => exact h9
set_option maxHeartbeats 4000000 in
theorem Jw_callA (As : List Value) {Q : Option Value → vFt → vAt → vXt → Prop} (hC : C1 N d' (.ref o :: As) F Ar x Q) (hκ : jwC κ la b n xs i k) (hk : k ≤ 3072) (hd : d' < 100) (hG : vGood N na) (hl : Cond.methodLink RL index N.1 ∈ lw_good) (hi : Cond.instanceMethod N.1 ∈ lw_good) (hs : Cond.selects N.1.cls N.1 N.1 ∈ lw_good) (ho : o < 7) (hcls : vR o = N.1.cls) (hn : As.length = na) (d : decode cL_law pc = .ok (.invokevirtual index, 3)) (hq : pc + 3 = q)
    (kk : ∀ κ', jwC κ' la b n xs i (k + 1) → ∀ r F' Ar' x', Q r F' Ar' x' → Jw κ' la q r.toList F' Ar' x') : Jw κ la pc (As.reverse ++ [.ref o]) F Ar x := by
  subst hq
  obtain ⟨p, l, e, R, s, m, args, below, meth, c, D, cA, ad, A, H0, cells, slots, QW⟩ := κ
  obtain ⟨hl0, hX, hbl, rfl, rfl, rfl, rfl, rfl, hc9, hs9⟩ := hκ
  intro H locs C hP hD hS
  have hts := C.2.2.2.2.1
  have hK := C.2.2.2.2.2.1
  have hFc := vW_free hD hS C.2.2.2.2.2.2.1
  have hB : (100 : Nat) ≤ room_1.frames ∧ 60 * 100 ≤ room_1.locals := by decide
  have hr1 : cells + 1 ≤ room_1.cells := by show cells + 1 ≤ 600000; omega
  have hr2 : slots + 1728 ≤ room_1.slots := by show slots + 1728 ≤ 7302250; omega
  have cw : CallW room_1 s #[Value.ref b] RL N.1.cls index N.1 N.2.1 N.2.2.1 N.2.2.2 (.code N.1 N.2.1 N.2.2.1 N.2.2.2 :: lw_good) (vRm1 d') 1 1728 na := ⟨callB_of na hts hG.words rfl rfl rfl (hts _ hG.2.1) (hts _ hl) hG.2.2.1 (vRm1_fit hB hd hG.2.2.2), hts _ hi, hts _ hs⟩
  refine v_cont1 (va_runV (As := As.map (vV ad)) (rest := []) ⟨C.1, C.2.1, C.2.2.1, C.2.2.2.1, hts⟩ (hC l D cA ad H.size) cw ⟨vPc_blind, ?_, fun U hU hW => ⟨rfl, by rw [hU], by rw [hU]; exact hP, va_K.moved hW.alike hK, hD.weaken (fun _ _ _ _ => trivial), vNs_warm hW C.2.2.2.2.2.2.2.2.2.2.2⟩⟩ rfl (by rw [List.length_map]; exact hn) hl0.1 (by simp [vV]) (lv_room (by decide)) d ⟨hr1, hr2⟩) hS (fun q _ h => hFc q h) hFc (fun r F' Ar' x' ad' H1 locs1 hg hq hP1 hD1 hS1 => ?_)
  · rw [← hcls]
    exact va_recv hK hP (vCl_at o ho) (vW_obj ho)
  · have h9 := kk (p, l, e, room_1, s, m, #[Value.ref b], below, meth, c, D, cA, ad', (fun q : Nat => s.heap.size ≤ q), s.heap, cells + 1, slots + 1728, lw_Z below #[Value.ref b] s) ⟨by rw [hg 0 (by omega), hg 6 (by omega)]; exact hl0, hX, hbl, rfl, rfl, rfl, rfl, rfl, by omega, by omega⟩ r F' Ar' x' hq H1 locs1 ⟨C.1, C.2.1, C.2.2.1, C.2.2.2.1, hts, hK, C.2.2.2.2.2.2.1, C.2.2.2.2.2.2.2.1, C.2.2.2.2.2.2.2.2.1, hr1, hr2, C.2.2.2.2.2.2.2.2.2.2.2⟩ hP1 (hD1.weaken (fun _ _ _ h => hFc _ h)) hS1
    rw [List.append_nil]
    cases r with
    | none => exact h9
    | some v => exact h9
end
