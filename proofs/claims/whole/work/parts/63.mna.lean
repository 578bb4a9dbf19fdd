/-! an array of five rows of ints, made at once: by what the model says of it -/
section
variable {p : Program} {l : Launch} {e : Env} {R : Room} {s : State} {m : MethodId} {args : Array Value} {below : List Frame} {meth : Method} {c : Code} {locs : List Loc} {cells slots : Nat}
/-- what the heap holds when i of the five rows are made -/
def mnH (h0 : Heap) (cA comp : ClassId) (K i : Nat) (H : Heap) : Prop := H.size = h0.size + 1 + i ∧ (∀ x, x < h0.size → H[x]? = h0[x]?) ∧ H[h0.size]? = some (arrV cA 5 (fun j => va_rf (if j < i then some (h0.size + 1 + j) else none))) ∧ ∀ j, j < i → H[h0.size + 1 + j]? = some (arrV comp K (fun _ => .int 0))
theorem mn_first {T : State} {cA comp : ClassId} {K : Nat} (X : Stand p l e R s m args below meth c T locs cells slots) : Stand p l e R s m args below meth c (T.pushCell (arrV cA 5 (fun _ => .null))) locs (cells + 1) (slots + 5) ∧ mnH T.heap cA comp K 0 (T.pushCell (arrV cA 5 (fun _ => .null))).heap := by
  have h := X.pushed (arrV cA 5 (fun _ => .null))
  rw [arrV_size] at h
  refine ⟨h, by simp, fun x hx => State.heap_pushCell_of_lt _ _ hx, ?_, fun j hj => absurd hj (Nat.not_lt_zero j)⟩
  rw [State.heap_pushCell_size]
  refine congrArg (fun f => some (arrV cA 5 f)) (funext fun j => ?_)
  rw [if_neg (Nat.not_lt_zero j)]
  rfl
theorem mn_next {T U : State} {cA comp : ClassId} {K i : Nat} (hT : s.heap.size ≤ T.heap.size) (X : Stand p l e R s m args below meth c U locs cells slots) (h : mnH T.heap cA comp K i U.heap) : ∃ cell, (U.pushCell (arrV comp K (fun _ => .int 0))).heap[T.heap.size]? = some cell ∧ cell.cls = cA ∧ cell.vm = .none ∧ cell.slots.size = 5 ∧ cell.setSlot i (.ref U.heap.size) = arrV cA 5 (fun j => va_rf (if j < i + 1 then some (T.heap.size + 1 + j) else none)) ∧ Stand p l e R s m args below meth c ((U.pushCell (arrV comp K (fun _ => .int 0))).setCell T.heap.size (cell.setSlot i (.ref U.heap.size))) locs (cells + 1) (slots + K) ∧ mnH T.heap cA comp K (i + 1) ((U.pushCell (arrV comp K (fun _ => .int 0))).setCell T.heap.size (cell.setSlot i (.ref U.heap.size))).heap := by
  obtain ⟨h1, h2, h3, h4⟩ := h
  have hlt : T.heap.size < U.heap.size := by omega
  have hc : (U.pushCell (arrV comp K (fun _ => .int 0))).heap[T.heap.size]? = some (arrV cA 5 (fun j => va_rf (if j < i then some (T.heap.size + 1 + j) else none))) := by
    rw [State.heap_pushCell_of_lt (h := hlt)]
    exact h3
  have hX := X.pushed (arrV comp K (fun _ => .int 0))
  rw [arrV_size] at hX
  have hset : (arrV cA 5 (fun j => va_rf (if j < i then some (T.heap.size + 1 + j) else none))).setSlot i (.ref U.heap.size) = arrV cA 5 (fun j => va_rf (if j < i + 1 then some (T.heap.size + 1 + j) else none)) := by
    rw [arrV_store]
    refine congrArg (arrV cA 5) (funext fun j => ?_)
    unfold updV
    by_cases e1 : j = i
    · subst e1
      rw [if_pos rfl, if_pos (Nat.lt_succ_self j), h1]
      rfl
    · rw [if_neg e1]
      show va_rf (if j < i then some (T.heap.size + 1 + j) else none) = _
      by_cases e2 : j < i
      · rw [if_pos e2, if_pos (by omega)]
      · rw [if_neg e2, if_neg (by omega)]
  refine ⟨_, hc, rfl, rfl, arrV_size _ _ _, hset, (hX.stored hc i (.ref U.heap.size)).dropFresh (fun x hx => ?_), ?_, ?_, ?_, ?_⟩
  · cases List.mem_singleton.mp hx
    exact hT
  · simp [State.setCell, h1]
    omega
  · intro x hx
    have hx2 : x < U.heap.size := by omega
    rw [State.heap_setCell_other (Nat.ne_of_gt hx), State.heap_pushCell_of_lt (h := hx2)]
    exact h2 x hx
  · rw [State.heap_setCell_self hc, hset]
  · intro j hj
    rw [State.heap_setCell_other (show T.heap.size ≠ T.heap.size + 1 + j by omega)]
    by_cases e1 : j = i
    · subst e1
      rw [← h1]
      exact State.heap_pushCell_size _ _
    · have hx2 : T.heap.size + 1 + j < U.heap.size := by omega
      rw [State.heap_pushCell_of_lt (h := hx2)]
      exact h4 j (by omega)
/-- the state when i of the five rows are made -/
def mnU (T : State) (cA comp : ClassId) (K : Nat) : Nat → State
  | 0 => T.pushCell (arrV cA 5 (fun _ => .null))
  | i + 1 => ((mnU T cA comp K i).pushCell (arrV comp K (fun _ => .int 0))).setCell T.heap.size (arrV cA 5 (fun j => va_rf (if j < i + 1 then some (T.heap.size + 1 + j) else none)))
theorem mn_facts {T : State} {cA comp : ClassId} {K : Nat} (X : Stand p l e R s m args below meth c T locs cells slots) : ∀ i, Stand p l e R s m args below meth c (mnU T cA comp K i) locs (cells + 1 + i) (slots + 5 + i * K) ∧ mnH T.heap cA comp K i (mnU T cA comp K i).heap ∧ (mnU T cA comp K i).vm = T.vm ∧ (mnU T cA comp K i).slotsUsed = T.slotsUsed + 5 + i * K := by
  intro i
  induction i with
  | zero =>
    obtain ⟨h1, h2⟩ := mn_first (cA := cA) (comp := comp) (K := K) X
    refine ⟨?_, h2, rfl, ?_⟩
    · rw [Nat.zero_mul, Nat.add_zero, Nat.add_zero]
      exact h1
    · rw [Nat.zero_mul, Nat.add_zero]
      show T.slotsUsed + (arrV cA 5 _).slots.size = _
      rw [arrV_size]
  | succ i ih =>
    obtain ⟨h1, h2, h3, h4⟩ := ih
    obtain ⟨cell, n1, n2, n3, n4, n7, n5, n6⟩ := mn_next X.heapGrown h1 h2
    rw [n7] at n5 n6
    refine ⟨?_, n6, h3, ?_⟩
    · rw [Nat.succ_mul, ← Nat.add_assoc, ← Nat.add_assoc]
      exact n5
    · show ((mnU T cA comp K i).slotsUsed + (arrV comp K (fun _ => .int 0)).slots.size) = _
      rw [arrV_size, h4, Nat.succ_mul]
      omega
end
section
variable {E : CtlPost} {e : Env} {d : Bool} {acts : List Action}
theorem mn_inner {U : State} {f : JFrame} {comp cc : ClassId} {kc : Class} {k : Int32} {K : Nat} (hkc : U.vm.classes[comp]? = some kc) (hkind : kc.kind = .array cc .int) (hk : ¬ k < 0) (hK : k.toNatClampNeg = K) (hl : ¬ K > e.platform.arrayLengthLimit) (hh : ¬ K * 4 > e.platform.maxHeapBytes) (h1 : U.heap.size < e.platform.maxCells) (h2 : U.slotsUsed + K ≤ e.platform.maxSlots) {Q : Addr → Pre} (hq : ∀ acts', Q U.heap.size d acts' ((U.pushCell (arrV comp K (fun _ => .int 0))).setTop f)) : wp (Jvm.Op.multianewarray.make comp [k]) Q E e d acts (U.setTop f) := by
  subst hK
  rw [Jvm.Op.multianewarray.make]
  simp only [wp_bind', Jvm.W.ite, hk, if_false, wp_pure', Jvm.W.theClass, State.vm_setTop, hkc, hkind, Option.some.injEq, exists_eq_left']
  refine Jvm.W.newArray_of (type := .int) hkc hkind hl hh h1 h2 rfl (fun acts' => ?_)
  rw [arrV_new]
  exact hq acts'
end
section
variable {p : Program} {l : Launch} {e : Env} {R : Room} {s : State} {m : MethodId} {args : Array Value} {below : List Frame} {meth : Method} {c : Code} {locs : List Loc} {cells slots : Nat} {H : Heap} {Q : State → Prop}
variable {E : CtlPost} {d : Bool} {acts : List Action}
/-- the model's making of five rows -/
theorem mn_make {T : State} {f : JFrame} {cA comp cc : ClassId} {kA kC : Class} {k : Int32} {K : Nat} (X : Stand p l e R s m args below meth c T locs cells slots) (hkA : T.vm.classes[cA]? = some kA) (hkindA : kA.kind = .array comp (.array .int)) (hkC : T.vm.classes[comp]? = some kC) (hkindC : kC.kind = .array cc .int) (hk : ¬ k < 0) (hK : k.toNatClampNeg = K) (hK40 : K ≤ 40) (hcells : cells + 6 ≤ R.cells) (hslots : slots + (5 + 5 * K) ≤ R.slots) {P : Addr → Pre} (hq : ∀ d' acts', P T.heap.size d' acts' ((mnU T cA comp K 5).setTop f)) : wp (Jvm.Op.multianewarray.make cA [5, k]) P E e d acts (T.setTop f) := by
  obtain ⟨hr1, hr2⟩ := X.roomAbove hcells hslots
  have hl : ∀ n, n ≤ 40 → ¬ n > e.platform.arrayLengthLimit := fun n hn => by rw [Launch.admits_arrayLengthLimit X.admits]; omega
  have hh : ∀ n, n ≤ 40 → ¬ n * 4 > e.platform.maxHeapBytes := fun n hn => by rw [Launch.admits_maxHeapBytes X.admits]; omega
  have hfind : ([k].find? (· < 0)) = none := by simp [hk]
  rw [Jvm.Op.multianewarray.make]
  simp only [wp_bind', Jvm.W.ite, show ¬ (5 : Int32) < 0 by decide, if_false, wp_pure', Jvm.W.theClass, State.vm_setTop, hkA, hkindA, Option.some.injEq, exists_eq_left']
  have h5 : (5 : Int32).toNatClampNeg = 5 := by decide
  rw [h5]
  refine Jvm.W.newArray_of (type := .array .int) hkA hkindA (hl 5 (by omega)) (hh 5 (by omega)) (by show T.heap.size < _; omega) (by show T.slotsUsed + 5 ≤ _; omega) rfl (fun acts1 => ?_)
  rw [arrV_new]
  simp only [hfind]
  rw [ite_self, wp_bind', Std.Legacy.Range.forIn_eq_forIn_range']
  have hsz : ([:5] : Std.Legacy.Range).size = 5 := by simp [Std.Legacy.Range.size]
  rw [hsz]
  show wp (forIn (List.range' 0 5 1) PUnit.unit _) _ E e d acts1 _
  refine wp_forIn_inv (fun rest s' => ∃ i, i ≤ 5 ∧ rest = List.range' i (5 - i) ∧ s' = (mnU T cA comp K i).setTop f) _ _ ⟨0, Nat.zero_le _, rfl, rfl⟩ ?_ ?_
  · rintro x rest s' d' acts' Q' ⟨i, hi, hlr, rfl⟩ hnext
    have hlt : i < 5 := by
      rcases Nat.lt_or_ge i 5 with h | h
      · exact h
      · rw [show 5 - i = 0 by omega] at hlr
        cases hlr
    rw [show 5 - i = (5 - (i + 1)) + 1 by omega, List.range'_succ] at hlr
    obtain ⟨rfl, hrest⟩ := List.cons.inj hlr
    obtain ⟨XU, hmU, hvm, hsl⟩ := mn_facts (cA := cA) (comp := comp) (K := K) X x
    obtain ⟨cell, n1, n2, n3, n4, n7, n5, n6⟩ := mn_next X.heapGrown XU hmU
    have hmul : x * K + K ≤ 5 * K := by
      have := Nat.mul_le_mul_right K (show x + 1 ≤ 5 by omega)
      rw [Nat.succ_mul] at this
      exact this
    simp only [wp_bind']
    refine mn_inner (by rw [hvm]; exact hkC) hkindC hk hK (hl K hK40) (hh K hK40) (by rw [hmU.1]; omega) (by rw [hsl]; omega) (fun acts2 => ?_)
    simp only [wp_bind', Jvm.W.writeLoc, wp_pure']
    refine ⟨cell, n1, by rw [n3]; simp, by rw [n4]; exact hlt, ?_, hnext _ _ _ ⟨x + 1, hlt, hrest, ?_⟩⟩
    · rw [n2, n3]
      simp [State.fitsSlot, State.slotType?, hvm, hkA, hkindA]
      rfl
    · show ((((mnU T cA comp K x).pushCell (arrV comp K (fun _ => .int 0))).setCell T.heap.size (cell.setSlot x (.ref (mnU T cA comp K x).heap.size))).setTop f) = _
      rw [n7]
      rfl
  · rintro s' d' acts' ⟨i, hi, hlr, rfl⟩
    have hi5 : i = 5 := by
      rcases Nat.lt_or_ge i 5 with h | h
      · rw [show 5 - i = (5 - (i + 1)) + 1 by omega, List.range'_succ] at hlr
        cases hlr
      · omega
    subst hi5
    simp only [wp_pure']
    exact hq d' acts'
theorem W_mna {own : String} {index pc : Nat} {cc : ByteArray} {ls : Array Slot} {rest : List Value} {k : Int32} {K : Nat} (hexec : p.tables.exec = Jvm.exec) (hb : c.code = cc) (hown : s.vm.findClass own = some m.cls) (hclink : (Cond.classLink own index ("[" ++ (FieldType.array .int).toString)).before args s = true) (hover : (Cond.arrayOver (.array .int)).before args s = true) (harr : (Cond.arrayClass .int).before args s = true) (hdg : decode cc pc = .ok (.multianewarray index 2, 4)) (hk : ¬ k < 0) (hK : k.toNatClampNeg = K) (hK40 : K ≤ 40) (hcells : cells + 6 ≤ R.cells) (hslots : slots + (5 + 5 * K) ≤ R.slots)
    (kk : ∀ (cA comp : ClassId) (H1 : Heap), s.vm.findClass ("[" ++ (FieldType.array .int).toString) = some cA → s.vm.findClass (FieldType.array .int).toString = some comp → mnH H cA comp K 5 H1 → W p l e R s m args below meth c H1 locs (cells + 6) (slots + (5 + 5 * K)) Q (F0 m (pc + 4) ls (.ref H.size :: rest))) : W p l e R s m args below meth c H locs cells slots Q (F0 m pc ls (.int k :: .int 5 :: rest)) := by
  intro T hT X
  subst hT
  subst hb
  have hpl : e.platform.magicAccessors = ({} : Platform).magicAccessors := by rw [X.admits.platform]
  obtain ⟨comp, cA, kA, hcomp, -, hkA, hkindA, hnameA⟩ := arrayOverA_spec hover
  obtain ⟨comp', kC, cc, hcomp', hkC, hkindC⟩ := Cond.arrayClass_spec harr
  cases Option.some.inj (hcomp'.symm.trans hcomp)
  obtain ⟨c0, hfc0, hcl⟩ := Cond.classLink_spec hown hclink e.platform hpl
  cases hnameA.symm.trans hfc0
  obtain ⟨hg1, hwarm1, -⟩ := State.classEntry (e := e) X.warmed hcl
  generalize T.vm.noted m.cls index (.cls cA) = vm1 at hg1 hwarm1
  have hal : s.vm.Alike vm1 := hwarm1.alike
  obtain ⟨kA1, hkA1, heA⟩ := hal.2.2 _ _ hkA
  obtain ⟨kC1, hkC1, heC⟩ := hal.2.2 _ _ hkC
  have X1 := X.noted hwarm1
  obtain ⟨X5, hm5, -, -⟩ := mn_facts (cA := cA) (comp := comp) (K := K) X1 5
  obtain ⟨t, a1, b1⟩ := kk cA comp _ hnameA hcomp hm5 (mnU (T.setVm vm1) cA comp K 5) rfl (by
    rw [Nat.add_assoc, Nat.add_assoc slots] at X5
    exact X5)
  refine ⟨t, ?_, b1⟩
  jvm_step X.here [hexec, hdg]
  simp only [Jvm.Op.multianewarray.sem, wp_bind', Jvm.W.resolveClassAt_links (State.method?_setTop (F0 m pc ls (.int k :: .int 5 :: rest)) X.here.top) hg1]
  rw [Jvm.W.popN, if_neg (by decide)]
  refine ⟨F0 m pc ls (.int k :: .int 5 :: rest), State.topJava?_setTop' (s := T.setVm vm1) _ X.here.top, [.int 5, .int k], rest, rfl, rfl, ?_⟩
  simp only [List.mapM_cons, List.mapM_nil, wp_bind', wp_pure']
  have eS : ∀ f, ((T.setTop (F0 m pc ls (.int k :: .int 5 :: rest))).setVm vm1).setTop f = (T.setVm vm1).setTop f := fun f => by
    show ((T.setVm vm1).setTop _).setTop _ = _
    rw [State.setTop_setTop]
  rw [eS]
  refine mn_make X1 (kA := kA1) (kC := kC1) (comp := comp) (cc := cc) hkA1 (by rw [heA]; exact hkindA) hkC1 (by rw [heC]; exact hkindC) hk hK hK40 hcells hslots (fun d' acts' => ?_)
  simp only [wp_bind', Jvm.W.mark, Jvm.W.pushRef, State.topJava?_setTop' _ X5.here.top, Option.some.injEq, exists_eq_left', State.setTop_setTop, State.heap_setTop]
  intro acts
  simp [jvm, X5.here.top]
  exact a1
end
