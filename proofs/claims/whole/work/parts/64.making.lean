/-! THE MAKING MACHINE: worlds as lists of cells, for constructors and what they call -/
abbrev lK : Type := Program × Launch × Env × Room × State × MethodId × Array Value × List Frame × Method × Code × va_G × (Nat → ClassId) × (Nat → Prop) × Heap × (State → Prop)
def lOK (κ : lK) (M : vMx) : Prop := match κ with
  | (p, _, _, _, s, m, args, _, meth, c, D, cA, A, H0, _) => p.tables.exec = Jvm.exec ∧ c.code = M.2.1 ∧ c.maxLocals = M.2.2.1 ∧ s.vm.findClass M.1.cls = some m.cls ∧ (∀ w ∈ lw_good, w.before args s = true) ∧ va_K D vCl (vTys cA) s ∧ (∀ q, H0.size ≤ q → A q) ∧ meth.sig.returnType = M.2.2.2 ∧ meth.locks = false ∧ vNs s ∧ meth.name = M.1.name
def L (κ : lK) (M : vMx) (pc : Nat) (lv : List (Nat × Value)) (st : List Value) (ws : va_W) (cells slots : Nat) : Prop := match κ with
  | (p, l, e, R, s, m, args, below, meth, c, D, cA, A, H0, QW) => ∀ (H : Heap) (locs : List Loc) (la : Array Slot), lOK (p, l, e, R, s, m, args, below, meth, c, D, cA, A, H0, QW) M → va_P D vCl ws H → va_D A ws → va_S A H0 H locs → lv_has la M.2.2.1 lv → W p l e R s m args below meth c H locs cells slots QW (F0 m pc la st)
def lRm (d mc ms : Nat) : Room := { frames := d, cells := mc, slots := ms, locals := 60 * d }
def lQ (D : va_G) (cA : Nat → ClassId) (A : Nat → Prop) (Q : Option Value → va_W → Prop) : Array Value → State → Outcome → State → Prop := fun _ st oc t =>
  (∃ (r : Option Value) (ws' : va_W), oc = .returned r ∧ Q r ws' ∧ va_P D vCl ws' t.heap ∧ va_K D vCl (vTys cA) t ∧ va_D A ws') ∧ va_F A st t
def lPc (D : va_G) (cA : Nat → ClassId) (as : List Value) (ws : va_W) (sz : Nat) : Array Value → State → Prop :=
  va_Pc as (fun U => U.heap.size = sz ∧ va_P D vCl ws U.heap ∧ va_K D vCl (vTys cA) U ∧ va_D (fun _ => True) ws ∧ vNs U)
def CL (N : vMx) (d mc ms : Nat) (cA : Nat → ClassId) (as : List Value) (ws : va_W) (Q : Option Value → va_W → Prop) : Prop := ∀ (l : Launch) (D : va_G) (sz : Nat),
  Met l N.1 (.code N.1 N.2.1 N.2.2.1 N.2.2.2 :: lw_good) (lRm d mc ms) (lPc D cA as ws sz) (lQ D cA (va_A ws sz) Q) mc ms (va_A ws sz)
def lStd (κ : lK) (d mc ms : Nat) (cA0 : Nat → ClassId) (Q : Option Value → va_W → Prop) : Prop := match κ with
  | (_, _, _, R, s, _, args, below, _, _, D, cA, A, H0, QW) => R = lRm d mc ms ∧ H0 = s.heap ∧ cA = cA0 ∧ QW = MQ below (lQ D cA A Q) args s mc ms A
theorem lPc_blind {D : va_G} {cA : Nat → ClassId} {as : List Value} {ws : va_W} {sz : Nat} : FrameBlind (lPc D cA as ws sz) := fun a U g mk q => by
  obtain ⟨q0, q1, qP, qK, qD, qN⟩ := q
  exact ⟨q0, q1, qP, va_K.moved (u := U) (U := U.calling g mk a) (Vm.Alike.refl U.vm) qK, qD, vNs_same (u := U) (U := U.calling g mk a) rfl qN⟩
set_option maxHeartbeats 4000000 in
theorem CL_of {N : vMx} {d mc ms : Nat} {cA : Nat → ClassId} {as : List Value} {ws : va_W} {Q : Option Value → va_W → Prop} (hy : plainName N.1.cls = true) (hlen : (lg_sl as).length ≤ N.2.2.1) (h : ∀ κ : lK, lStd κ d mc ms cA Q → L κ N 0 (lv_args 0 as) [] ws 0 0) : CL N d mc ms cA as ws Q := by
  intro l D sz
  refine Met.ofW (cc := N.2.1) (maxL := N.2.2.1) (ret := N.2.2.2) hy rfl ?_
  intro p e s m args below meth c s₁ B hml hv
  obtain ⟨rfl, hsz, hP, hK, hD0, hN⟩ := hv
  have hts := atoms_spec (ws := .code N.1 N.2.1 N.2.2.1 N.2.2.2 :: lw_good) B.pre
  subst hsz
  have hl := lv_entry as (n := N.2.2.1) hlen
  rw [lg_entry_eq]
  exact h (p, l, e, lRm d mc ms, s, m, as.toArray, below, meth, c, D, cA, va_A ws s.heap.size, s.heap, MQ below (lQ D cA (va_A ws s.heap.size) Q) as.toArray s mc ms (va_A ws s.heap.size)) ⟨rfl, rfl, rfl, rfl⟩ s.heap [] _
    ⟨B.exec, B.bytes, hml, findClass_of_methodNamed B.named, fun w hw => hts w (List.mem_cons_of_mem _ hw), hK, fun q hq => Or.inr hq, B.returns, B.notSynchronized, hN, (name_of_methodNamed B.named B.method).1⟩ hP hD0.self va_S.rf hl
section
variable {κ : lK} {M N : vMx} {pc q : Nat} {lv : List (Nat × Value)} {st rest : List Value} {ws : va_W} {cells slots : Nat} {d mc ms : Nat} {cA : Nat → ClassId} {Q Q' : Option Value → va_W → Prop}
theorem L_iconst {n : Int} {v : Int32} (dg : decode M.2.1 pc = .ok (.iconst n, 1)) (hv : Int32.ofInt n = v) (hq : pc + 1 = q) (k : L κ M q lv (.int v :: st) ws cells slots) : L κ M pc lv st ws cells slots := by
  subst hq
  obtain ⟨p, l, e, R, s, m, args, below, meth, c, D, cA, A, H0, QW⟩ := κ
  intro H locs la C hP hD hS hl
  exact lv_iconst C.1 C.2.1 dg hv (k H locs la C hP hD hS hl)
theorem L_bipush {n : Int} {v : Int32} (dg : decode M.2.1 pc = .ok (.bipush n, 2)) (hv : (Int8.ofInt n).toInt32 = v) (hq : pc + 2 = q) (k : L κ M q lv (.int v :: st) ws cells slots) : L κ M pc lv st ws cells slots := by
  subst hq
  obtain ⟨p, l, e, R, s, m, args, below, meth, c, D, cA, A, H0, QW⟩ := κ
  intro H locs la C hP hD hS hl
  exact lv_bipush C.1 C.2.1 dg hv (k H locs la C hP hD hS hl)
theorem L_sipush {n : Int} {v : Int32} (dg : decode M.2.1 pc = .ok (.sipush n, 3)) (hv : (Int16.ofInt n).toInt32 = v) (hq : pc + 3 = q) (k : L κ M q lv (.int v :: st) ws cells slots) : L κ M pc lv st ws cells slots := by
  subst hq
  obtain ⟨p, l, e, R, s, m, args, below, meth, c, D, cA, A, H0, QW⟩ := κ
  intro H locs la C hP hD hS hl
  exact lv_sipush C.1 C.2.1 dg hv (k H locs la C hP hD hS hl)
theorem L_aload_n {n : Fin 4} {v : Nat} (dg : decode M.2.1 pc = .ok (.aload_n n, 1)) (hm : ((n : Nat), Value.ref v) ∈ lv) (hq : pc + 1 = q) (k : L κ M q lv (.ref v :: st) ws cells slots) : L κ M pc lv st ws cells slots := by
  subst hq
  obtain ⟨p, l, e, R, s, m, args, below, meth, c, D, cA, A, H0, QW⟩ := κ
  intro H locs la C hP hD hS hl
  exact lv_aload_n C.1 C.2.1 dg rfl (hl.2.2 _ hm) (k H locs la C hP hD hS hl)
theorem L_iload_n {n : Fin 4} {v : Int32} (dg : decode M.2.1 pc = .ok (.iload_n n, 1)) (hm : ((n : Nat), Value.int v) ∈ lv) (hq : pc + 1 = q) (k : L κ M q lv (.int v :: st) ws cells slots) : L κ M pc lv st ws cells slots := by
  subst hq
  obtain ⟨p, l, e, R, s, m, args, below, meth, c, D, cA, A, H0, QW⟩ := κ
  intro H locs la C hP hD hS hl
  exact lv_iload_n C.1 C.2.1 dg rfl (hl.2.2 _ hm) (k H locs la C hP hD hS hl)
theorem L_istore_n {n : Fin 4} {v : Int32} {lv' : List (Nat × Value)} (dg : decode M.2.1 pc = .ok (.istore_n n, 1)) (hn : (n : Nat) < M.2.2.1) (hlv : ((n : Nat), Value.int v) :: lv.filter (fun q => !(q.1 == (n : Nat)) && !(q.1 + 1 == (n : Nat) && q.2.category == 2)) = lv') (hq : pc + 1 = q) (k : L κ M q lv' st ws cells slots) : L κ M pc lv (.int v :: st) ws cells slots := by
  subst hq
  obtain ⟨p, l, e, R, s, m, args, below, meth, c, D, cA, A, H0, QW⟩ := κ
  intro H locs la C hP hD hS hl
  exact lv_istore_n C.1 C.2.1 dg rfl hl hn hlv (fun la' h' => k H locs la' C hP hD hS h')
theorem L_iincN {i j i9 : Nat} {lv' : List (Nat × Value)} (dg : decode M.2.1 pc = .ok (.iinc i 1, 3)) (hk : lv[i9]? = some (i, .int (nI j))) (hn : i < M.2.2.1) (hlv : (i, Value.int (nI (j + 1))) :: lv.filter (fun q => !(q.1 == i) && !(q.1 + 1 == i && q.2.category == 2)) = lv') (hq : pc + 3 = q) (k : L κ M q lv' st ws cells slots) : L κ M pc lv st ws cells slots := by
  subst hq
  obtain ⟨p, l, e, R, s, m, args, below, meth, c, D, cA, A, H0, QW⟩ := κ
  intro H locs la C hP hD hS hl
  exact lv_iinc C.1 C.2.1 dg hl hk (by rw [show Int32.ofInt 1 = 1 from rfl, nI_1]) hn hlv (fun la' h' => k H locs la' C hP hD hS h')
theorem L_goto {off : Int} (dg : decode M.2.1 pc = .ok (.goto off, 3)) (hq : (pc : Int) + off = (q : Int)) (k : L κ M q lv st ws cells slots) : L κ M pc lv st ws cells slots := by
  obtain ⟨p, l, e, R, s, m, args, below, meth, c, D, cA, A, H0, QW⟩ := κ
  intro H locs la C hP hD hS hl
  exact lv_goto C.1 C.2.1 dg hq (k H locs la C hP hD hS hl)
theorem L_icmp_ge {a b : Int32} {off : Int} {tgt : Nat} (dg : decode M.2.1 pc = .ok (.if_icmp .ge off, 3)) (ht : (pc : Int) + off = (tgt : Int)) (hq : pc + 3 = q) (kt : b ≤ a → L κ M tgt lv st ws cells slots) (kf : ¬ b ≤ a → L κ M q lv st ws cells slots) : L κ M pc lv (.int b :: .int a :: st) ws cells slots := by
  subst hq
  obtain ⟨p, l, e, R, s, m, args, below, meth, c, D, cA, A, H0, QW⟩ := κ
  intro H locs la C hP hD hS hl
  exact lv_icmp_ge C.1 C.2.1 dg ht (fun h => kt h H locs la C hP hD hS hl) (fun h => kf h H locs la C hP hD hS hl)
theorem L_iadd {a b : Int32} (dg : decode M.2.1 pc = .ok (.iadd, 1)) (hq : pc + 1 = q) (k : L κ M q lv (.int (a + b) :: st) ws cells slots) : L κ M pc lv (.int b :: .int a :: st) ws cells slots := by
  subst hq
  obtain ⟨p, l, e, R, s, m, args, below, meth, c, D, cA, A, H0, QW⟩ := κ
  intro H locs la C hP hD hS hl
  exact lv_iadd C.1 C.2.1 dg (k H locs la C hP hD hS hl)
theorem L_imul {a b : Int32} (dg : decode M.2.1 pc = .ok (.imul, 1)) (hq : pc + 1 = q) (k : L κ M q lv (.int (a * b) :: st) ws cells slots) : L κ M pc lv (.int b :: .int a :: st) ws cells slots := by
  subst hq
  obtain ⟨p, l, e, R, s, m, args, below, meth, c, D, cA, A, H0, QW⟩ := κ
  intro H locs la C hP hD hS hl
  exact lv_imul C.1 C.2.1 dg (k H locs la C hP hD hS hl)
theorem L_dup {v : Value} (dg : decode M.2.1 pc = .ok (.dup, 1)) (hv : v.category = 1) (hq : pc + 1 = q) (k : L κ M q lv (v :: v :: st) ws cells slots) : L κ M pc lv (v :: st) ws cells slots := by
  subst hq
  obtain ⟨p, l, e, R, s, m, args, below, meth, c, D, cA, A, H0, QW⟩ := κ
  intro H locs la C hP hD hS hl
  exact lv_dup C.1 C.2.1 dg hv (k H locs la C hP hD hS hl)
theorem L_get {a ci index : Nat} {fs : List Value} {v : Value} (q0 j : Nat) (he : ws[q0]? = some (a, .inr (ci, fs))) (hci : ci < 7) (hj : j < vNf ci) (hf : Cond.fieldLink M.1.cls index (vT ci j).1 (vT ci j).2.1 (vT ci j).2.2.1 ∈ lw_good) (hv : fs[j]? = some v) (dg : decode M.2.1 pc = .ok (.getfield index, 3)) (hq : pc + 3 = q) (k : L κ M q lv (v :: st) ws cells slots) : L κ M pc lv (.ref a :: st) ws cells slots := by
  subst hq
  obtain ⟨p, l, e, R, s, m, args, below, meth, c, D, cA, A, H0, QW⟩ := κ
  intro H locs la C hP hD hS hl
  exact va_get (D := D) (ci := ci) C.1 C.2.1 C.2.2.2.2.1 (vCl_in ci hci) C.2.2.2.1 C.2.2.2.2.2.1 hP q0 he (vCl_at ci hci) j hj (C.2.2.2.2.1 _ hf) (fun _ h9 => h9) hv dg (k H locs la C hP hD hS hl)
theorem L_ist {a i n : Nat} {x : Int32} {f : Nat → Int32} {ci : Int32} (hκ : lStd κ d mc ms cA Q) (q0 : Nat) (he : ws[q0]? = some (a, .inl (cA 0, n, .inl f))) (hci : ci = nI i) (hi : i < n) (hn : n < 2 ^ 31) (dg : decode M.2.1 pc = .ok (.iastore, 1)) (hq : pc + 1 = q) (k : L κ M q lv st (ws.set q0 (a, .inl (cA 0, n, .inl (upd f i x)))) cells slots) : L κ M pc lv (.int x :: .int ci :: .ref a :: st) ws cells slots := by
  subst hq
  subst hci
  obtain ⟨p, l, e, R, s, m, args, below, meth, c, D, cA2, A, H0, QW⟩ := κ
  obtain ⟨rfl, rfl, rfl, rfl⟩ := hκ
  intro H locs la C hP hD hS hl
  refine va_iast C.1 C.2.1 C.2.2.2.2.2.1 hP hD hS q0 0 he rfl (vp_in_nI hi hn) dg (fun H1 locs1 hP1 hD1 hS1 => ?_)
  rw [nI_clamp (by omega)] at hP1 hD1
  exact k H1 locs1 la C hP1 hD1 hS1 hl
theorem L_alen {a n : Nat} {f : Nat → Int32} {v : Int32} (hκ : lStd κ d mc ms cA Q) (q0 : Nat) (he : ws[q0]? = some (a, .inl (cA 0, n, .inl f))) (hv : Int32.ofNat n = v) (dg : decode M.2.1 pc = .ok (.arraylength, 1)) (hq : pc + 1 = q) (k : L κ M q lv (.int v :: st) ws cells slots) : L κ M pc lv (.ref a :: st) ws cells slots := by
  subst hq
  obtain ⟨p, l, e, R, s, m, args, below, meth, c, D, cA2, A, H0, QW⟩ := κ
  obtain ⟨rfl, rfl, rfl, rfl⟩ := hκ
  intro H locs la C hP hD hS hl
  exact va_alen C.1 C.2.1 C.2.2.2.2.2.1 hP q0 0 he (ty := .int) rfl hv dg (k H locs la C hP hD hS hl)
theorem L_putF {a ci index r : Nat} {fs : List Value} {wr : va_W} {ty : FieldType} (j : Nat) (hci : ci < 7) (hj : j < vNf ci) (hf : Cond.fieldLink M.1.cls index (vT ci j).1 (vT ci j).2.1 (vT ci j).2.2.1 ∈ lw_good) (hfin : (vT ci j).2.2.2 = true) (hin : M.1.name = "<init>") (hdecl : (vT ci j).1 = M.1.cls) (hd : parseFieldDescriptor (vT ci j).2.2.1 = some ty) (hn : narrow ty (.ref r) = .ref r) (hfit : fits ty (.ref r) = true) (hlen : j < fs.length) (dg : decode M.2.1 pc = .ok (.putfield index, 3)) (hq : pc + 3 = q) (k : L κ M q lv st ((a, .inr (ci, fs.set j (.ref r))) :: wr) cells slots) : L κ M pc lv (.ref r :: .ref a :: st) ((a, .inr (ci, fs)) :: wr) cells slots := by
  subst hq
  obtain ⟨p, l, e, R, s, m, args, below, meth, c, D, cA, A, H0, QW⟩ := κ
  intro H locs la C hP hD hS hl
  exact va_putF (D := D) (ci := ci) C.1 C.2.1 C.2.2.2.2.1 (vCl_in ci hci) (vTy ci) (vCl_ty ci hci) (vCl_nm ci hci) C.2.2.2.1 C.2.2.2.2.2.1 hP hD hS 0 rfl (vCl_at ci hci) j hj (C.2.2.2.2.1 _ hf) (fun _ h9 => h9) hfin (C.2.2.2.2.2.2.2.2.2.2.trans hin) hdecl hd hn hfit hlen dg (fun H1 locs1 hP1 hD1 hS1 => k H1 locs1 la C hP1 hD1 hS1 hl)
theorem L_putI {a ci index : Nat} {v : Int32} {fs : List Value} {wr : va_W} (j : Nat) (hci : ci < 7) (hj : j < vNf ci) (hf : Cond.fieldLink M.1.cls index (vT ci j).1 (vT ci j).2.1 (vT ci j).2.2.1 ∈ lw_good) (hfin : (vT ci j).2.2.2 = false) (hd : parseFieldDescriptor (vT ci j).2.2.1 = some .int) (hlen : j < fs.length) (dg : decode M.2.1 pc = .ok (.putfield index, 3)) (hq : pc + 3 = q) (k : L κ M q lv st ((a, .inr (ci, fs.set j (.int v))) :: wr) cells slots) : L κ M pc lv (.int v :: .ref a :: st) ((a, .inr (ci, fs)) :: wr) cells slots := by
  subst hq
  obtain ⟨p, l, e, R, s, m, args, below, meth, c, D, cA, A, H0, QW⟩ := κ
  intro H locs la C hP hD hS hl
  exact va_put (D := D) (ci := ci) C.1 C.2.1 C.2.2.2.2.1 (vCl_in ci hci) (vTy ci) (vCl_ty ci hci) (vCl_nm ci hci) C.2.2.2.1 C.2.2.2.2.2.1 hP hD hS 0 rfl (vCl_at ci hci) j hj (C.2.2.2.2.1 _ hf) (fun _ h9 => h9) hfin hd rfl rfl hlen dg (fun H1 locs1 hP1 hD1 hS1 => k H1 locs1 la C hP1 hD1 hS1 hl)
theorem L_vret (hκ : lStd κ d mc ms cA Q) (hr : M.2.2.2 = none) (h1 : cells ≤ mc) (h2 : slots ≤ ms) (dg : decode M.2.1 pc = .ok (.return_, 1)) (hq : Q none ws) : L κ M pc lv [] ws cells slots := by
  obtain ⟨p, l, e, R, s, m, args, below, meth, c, D, cA2, A, H0, QW⟩ := κ
  obtain ⟨rfl, rfl, rfl, rfl⟩ := hκ
  intro H locs la C hP hD hS hl
  refine W.widen h1 h2 ?_
  exact W.vret C.1 C.2.1 (C.2.2.2.2.2.2.2.1.trans hr) (fun t ht hW => ⟨⟨none, ws, rfl, hq, by rw [ht]; exact hP, va_K.moved hW.alike C.2.2.2.2.2.1, hD⟩, hS.F ht⟩) hS.2.2 dg C.2.2.2.2.2.2.2.2.1
theorem L_iret {v : Int32} (hκ : lStd κ d 0 0 cA Q) (hr : M.2.2.2 = some .int) (dg : decode M.2.1 pc = .ok (.ireturn, 1)) (hq : Q (some (.int v)) ws) : L κ M pc lv [.int v] ws 0 0 := by
  obtain ⟨p, l, e, R, s, m, args, below, meth, c, D, cA2, A, H0, QW⟩ := κ
  obtain ⟨rfl, rfl, rfl, rfl⟩ := hκ
  intro H locs la C hP hD hS hl
  exact W.zret C.1 C.2.1 (C.2.2.2.2.2.2.2.1.trans hr) rfl (fun t ht hW => ⟨⟨some (.int v), ws, rfl, hq, by rw [ht]; exact hP, va_K.moved hW.alike C.2.2.2.2.2.1, hD⟩, hS.F ht⟩) hS.2.2 dg C.2.2.2.2.2.2.2.2.1
end
