/-! a method that may make one row of tons: the table grows by a place -/
theorem arrV_congr {c : ClassId} {n : Nat} {f g : Nat → Value} (h : ∀ j, j < n → f j = g j) : arrV c n f = arrV c n g := by
  unfold arrV
  congr 2
  funext j
  exact h j.val j.isLt
theorem vRf_lt : ∀ o, o < 7 → ∀ j, j < vNf o → vRf o j < 66 := by
  apply v_seven <;> decide +kernel
/-- addresses that agree on the places of the table -/
def vAg (x : vXt) (ad ad' : Nat → Nat) : Prop := ∀ i, i < 66 + x.1 → ad' i = ad i
/-- which place the row of an act has -/
def vSh (x : vXt) : Prop := ∀ j, j < 5 → x.2 j < 66 + x.1
theorem vAt_ag {D : va_G} {ad ad' : Nat → Nat} {cA : Nat → ClassId} {F : vFt} {Ar : vAt} {x : vXt} {H : Heap} (hg : vAg x ad ad') (hsh : vSh x) {i : Nat} (hi : i < 66 + x.1) (h : va_at D vCl (ad i, vCell ad cA F Ar x.2 i) H) : va_at D vCl (ad' i, vCell ad' cA F Ar x.2 i) H := by
  rw [hg i hi]
  unfold vCell at h ⊢
  by_cases h7 : i < 7
  · rw [if_pos h7] at h ⊢
    have e : (List.range (vNf i)).map (vFl ad' F i) = (List.range (vNf i)).map (vFl ad F i) := by
      apply List.map_congr_left
      intro j hj
      have hj' := List.mem_range.mp hj
      unfold vFl
      split
      · rfl
      · rw [hg _ (by have := vRf_lt i h7 j hj'; omega)]
    rw [e]
    exact h
  · rw [if_neg h7] at h ⊢
    by_cases h8 : i = 7
    · rw [if_pos h8] at h ⊢
      show H[ad i]? = some (vp_cell _ _)
      have h2 : H[ad i]? = some (vp_cell (cA 2) (5, .inr (.inr (.inr (.inr (fun j => some (ad (10 + j)))))))) := h
      rw [h2, vp_cell_q, vp_cell_q]
      congr 1
      exact arrV_congr (fun j hj => by rw [hg _ (by omega)])
    · rw [if_neg h8] at h ⊢
      by_cases h9 : i = 8
      · rw [if_pos h9] at h ⊢
        show H[ad i]? = some (vp_cell _ _)
        have h2 : H[ad i]? = some (vp_cell (cA 2) (5, .inr (.inr (.inr (.inr (fun j => some (ad (x.2 j)))))))) := h
        rw [h2, vp_cell_q, vp_cell_q]
        congr 1
        exact arrV_congr (fun j hj => by rw [hg _ (hsh j hj)])
      · rw [if_neg h9] at h ⊢
        exact h
theorem vW_len {ad : Nat → Nat} {cA : Nat → ClassId} {F : vFt} {Ar : vAt} {x : vXt} : (vW ad cA F Ar x).length = 66 + x.1 := by simp [vW]
theorem vW_get {ad : Nat → Nat} {cA : Nat → ClassId} {F : vFt} {Ar : vAt} {x : vXt} {i : Nat} {q : Nat × va_E} (h : (vW ad cA F Ar x)[i]? = some q) : i < 66 + x.1 ∧ q = (ad i, vCell ad cA F Ar x.2 i) := by
  have hi : i < 66 + x.1 := by
    have := (List.getElem?_eq_some_iff.mp h).1
    rw [vW_len] at this
    exact this
  refine ⟨hi, ?_⟩
  rw [vW_at hi] at h
  exact (Option.some.inj h).symm
theorem vP_ag {D : va_G} {ad ad' : Nat → Nat} {cA : Nat → ClassId} {F : vFt} {Ar : vAt} {x : vXt} {H : Heap} (hg : vAg x ad ad') (hsh : vSh x) (h : va_P D vCl (vW ad cA F Ar x) H) : va_P D vCl (vW ad' cA F Ar x) H := by
  intro i q hq
  obtain ⟨hi, rfl⟩ := vW_get hq
  exact vAt_ag hg hsh hi (h i _ (vW_at hi))
theorem vD_ag {A : Nat → Prop} {ad ad' : Nat → Nat} {cA : Nat → ClassId} {F F' : vFt} {Ar Ar' : vAt} {x : vXt} {sh : Nat → Nat} (hg : vAg x ad ad') (h : va_D A (vW ad cA F Ar x)) : va_D A (vW ad' cA F' Ar' (x.1, sh)) := by
  constructor
  · intro i j p q hp hq e
    obtain ⟨hi, rfl⟩ := vW_get hp
    obtain ⟨hj, rfl⟩ := vW_get hq
    refine h.1 i j _ _ (vW_at hi) (vW_at hj) ?_
    show ad i = ad j
    rw [← hg i hi, ← hg j hj]
    exact e
  · intro i q hq
    obtain ⟨hi, rfl⟩ := vW_get hq
    have := h.2 i _ (vW_at hi)
    show A (ad' i)
    rw [hg i hi]
    exact this
/-- a row of 1728 tons comes -/
theorem vP_new {D : va_G} {ad : Nat → Nat} {cA : Nat → ClassId} {F : vFt} {Ar : vAt} {x : vXt} {H : Heap} {q : Nat} (hsh : vSh x) (h : va_P D vCl (vW ad cA F Ar x ++ [(q, .inl (cA 0, 1728, .inl (fun _ => 0)))]) H) : va_P D vCl (vW (fun i => if i = 66 + x.1 then q else ad i) cA F (vS Ar (66 + x.1) (fun _ => 0)) (x.1 + 1, x.2)) H := by
  intro i p hp
  obtain ⟨hi, rfl⟩ := vW_get hp
  have hi' : i < 66 + (x.1 + 1) := hi
  by_cases e : i = 66 + x.1
  · subst e
    have h1 := h (66 + x.1) (q, .inl (cA 0, 1728, .inl (fun _ => 0))) (by rw [List.getElem?_append_right (by rw [vW_len]; exact Nat.le_refl _), vW_len]; simp)
    show va_at D vCl (if 66 + x.1 = 66 + x.1 then q else ad (66 + x.1), _) H
    rw [if_pos rfl]
    unfold vCell
    rw [if_neg (by omega), if_neg (by omega), if_neg (by omega), vS_at, show vTyA (66 + x.1) = 0 from if_neg (by omega), show vLen (66 + x.1) = 1728 from if_neg (by omega)]
    exact h1
  · have hlt : i < 66 + x.1 := by omega
    have hg : vAg x ad (fun i => if i = 66 + x.1 then q else ad i) := fun j hj => if_neg (by omega)
    have h1 := h i _ (by rw [List.getElem?_append_left (by rw [vW_len]; exact hlt)]; exact vW_at hlt)
    have h2 := vAt_ag hg hsh hlt h1
    have e2 : vCell (fun i => if i = 66 + x.1 then q else ad i) cA F (vS Ar (66 + x.1) (fun _ => 0)) x.2 i = vCell (fun i => if i = 66 + x.1 then q else ad i) cA F Ar x.2 i := by
      unfold vCell
      rw [vS_ne e]
    show va_at D vCl (_, vCell (fun i => if i = 66 + x.1 then q else ad i) cA F (vS Ar (66 + x.1) (fun _ => 0)) x.2 i) H
    rw [e2]
    exact h2
theorem vD_new {A : Nat → Prop} {ad : Nat → Nat} {cA : Nat → ClassId} {F F' : vFt} {Ar Ar' : vAt} {x : vXt} {q : Nat} {e : va_E} {sh : Nat → Nat} (h : va_D A (vW ad cA F Ar x ++ [(q, e)])) : va_D A (vW (fun i => if i = 66 + x.1 then q else ad i) cA F' Ar' (x.1 + 1, sh)) := by
  have key : ∀ i, i < 66 + (x.1 + 1) → ∃ en, (vW ad cA F Ar x ++ [(q, e)])[i]? = some ((fun i => if i = 66 + x.1 then q else ad i) i, en) := by
    intro i hi
    by_cases e9 : i = 66 + x.1
    · subst e9
      refine ⟨e, ?_⟩
      rw [List.getElem?_append_right (by rw [vW_len]; exact Nat.le_refl _), vW_len]
      simp
    · refine ⟨vCell ad cA F Ar x.2 i, ?_⟩
      rw [List.getElem?_append_left (by rw [vW_len]; omega), vW_at (by omega)]
      simp [e9]
  constructor
  · intro i j p r hp hr ee
    obtain ⟨hi, rfl⟩ := vW_get hp
    obtain ⟨hj, rfl⟩ := vW_get hr
    obtain ⟨e1, h1⟩ := key i hi
    obtain ⟨e2, h2⟩ := key j hj
    exact h.1 i j _ _ h1 h2 ee
  · intro i p hp
    obtain ⟨hi, rfl⟩ := vW_get hp
    obtain ⟨e1, h1⟩ := key i hi
    have h2 := h.2 i _ h1
    exact h2
/-- references that are places of the table -/
def vRefs (x : vXt) (l : List Value) : Prop := ∀ v ∈ l, ∀ k, v = .ref k → k < 66 + x.1
theorem vV_ag {x : vXt} {ad ad' : Nat → Nat} (hg : vAg x ad ad') {v : Value} (h : ∀ k, v = .ref k → k < 66 + x.1) : vV ad' v = vV ad v := by
  cases v <;> first | rfl | (show Value.ref (ad' _) = .ref (ad _); rw [hg _ (h _ rfl)])
theorem vMap_ag {x : vXt} {ad ad' : Nat → Nat} (hg : vAg x ad ad') {l : List Value} (h : vRefs x l) : l.map (vV ad') = l.map (vV ad) := by
  apply List.map_congr_left
  intro v hv
  exact vV_ag hg (h v hv)
theorem vLs_ag {x : vXt} {ad ad' : Nat → Nat} (hg : vAg x ad ad') {l : List Value} (h : vRefs x l) {la : Array Slot} {n : Nat} (hl : lv_has la n (vLs ad l)) : lv_has la n (vLs ad' l) := by
  refine ⟨hl.1, hl.2.1, fun q hq => ?_⟩
  obtain ⟨v, h1, h2, h3⟩ := vLs_of hq
  rw [h3, vV_ag hg (h v (List.mem_of_getElem? h1))]
  exact hl.2.2 (q.1, vV ad v) (vLs_mem h1 h2)
def vRm1 (d : Nat) : Room := { frames := d, cells := 1, slots := 1728, locals := 60 * d }
def vQ1 (D : va_G) (cA : Nat → ClassId) (ad : Nat → Nat) (A : Nat → Prop) (x : vXt) (Q : Option Value → vFt → vAt → vXt → Prop) : Array Value → State → Outcome → State → Prop := fun _ st oc t =>
  (∃ (r : Option Value) (F' : vFt) (Ar' : vAt) (x' : vXt) (ad' : Nat → Nat), vAg x ad ad' ∧ oc = .returned (r.map (vV ad')) ∧ Q r F' Ar' x' ∧ va_P D vCl (vW ad' cA F' Ar' x') t.heap ∧ va_K D vCl (vTys cA) t ∧ va_D A (vW ad' cA F' Ar' x')) ∧ va_F A st t
def C1 (N : vMx) (d : Nat) (as : List Value) (F : vFt) (Ar : vAt) (x : vXt) (Q : Option Value → vFt → vAt → vXt → Prop) : Prop := ∀ (l : Launch) (D : va_G) (cA : Nat → ClassId) (ad : Nat → Nat) (sz : Nat),
  Met l N.1 (.code N.1 N.2.1 N.2.2.1 N.2.2.2 :: lw_good) (vRm1 d) (vPc D cA ad as F Ar x sz) (vQ1 D cA ad (va_A (vW ad cA F Ar x) sz) x Q) 1 1728 (va_A (vW ad cA F Ar x) sz)
def vStd1 (κ : vK) (d : Nat) (ad0 : Nat → Nat) (x0 : vXt) (Q : Option Value → vFt → vAt → vXt → Prop) : Prop := match κ with
  | (_, _, _, R, s, _, args, below, _, _, D, cA, ad, A, H0, cells, slots, QW) => R = vRm1 d ∧ cells ≤ 1 ∧ slots ≤ 1728 ∧ H0 = s.heap ∧ vAg x0 ad0 ad ∧ QW = MQ below (vQ1 D cA ad0 A x0 Q) args s 1 1728 A
/-- nothing has been made yet -/
def vNone (κ : vK) : Prop := match κ with
  | (_, _, _, _, _, _, _, _, _, _, _, _, _, _, _, cells, slots, _) => cells = 0 ∧ slots = 0
theorem vStd1.big {κ : vK} {d : Nat} {ad0 : Nat → Nat} {x0 : vXt} {Q : Option Value → vFt → vAt → vXt → Prop} (h : vStd1 κ d ad0 x0 Q) : vBig κ d := by
  obtain ⟨p, l, e, R, s, m, args, below, meth, c, D, cA, ad, A, H0, cells, slots, QW⟩ := κ
  obtain ⟨rfl, -⟩ := h
  exact ⟨Nat.le_refl _, Nat.le_refl _⟩
set_option maxHeartbeats 4000000 in
theorem C1_of {N : vMx} {d : Nat} {as : List Value} {F : vFt} {Ar : vAt} {x : vXt} {Q : Option Value → vFt → vAt → vXt → Prop} (hy : plainName N.1.cls = true) (hlen : (lg_sl as).length ≤ N.2.2.1) (h : ∀ (κ : vK) (ad0 : Nat → Nat), vStd1 κ d ad0 x Q → vNone κ → V κ N 0 (vEnt N.2.2.1 as) [] F Ar x) : C1 N d as F Ar x Q := by
  intro l D cA ad sz
  refine Met.ofW (cc := N.2.1) (maxL := N.2.2.1) (ret := N.2.2.2) hy rfl ?_
  intro p e s m args below meth c s₁ B hml hv
  obtain ⟨rfl, hsz, hP, hK, hD0, hN⟩ := hv
  have hts := atoms_spec (ws := .code N.1 N.2.1 N.2.2.1 N.2.2.2 :: lw_good) B.pre
  subst hsz
  have hl := lv_entry (as.map (vV ad)) (n := N.2.2.1) (by rw [lg_sl_len]; exact hlen)
  rw [lg_entry_eq]
  exact h (p, l, e, vRm1 d, s, m, (as.map (vV ad)).toArray, below, meth, c, D, cA, ad, va_A (vW ad cA F Ar x) s.heap.size, s.heap, 0, 0, MQ below (vQ1 D cA ad (va_A (vW ad cA F Ar x) s.heap.size) x Q) (as.map (vV ad)).toArray s 1 1728 (va_A (vW ad cA F Ar x) s.heap.size)) ad ⟨rfl, Nat.zero_le _, Nat.zero_le _, rfl, fun _ _ => rfl, rfl⟩ ⟨rfl, rfl⟩ s.heap [] _
    ⟨B.exec, B.bytes, hml, findClass_of_methodNamed B.named, fun w hw => hts w (List.mem_cons_of_mem _ hw), hK, fun q hq => Or.inr hq, B.returns, B.notSynchronized, Nat.zero_le _, Nat.zero_le _, hN⟩ hP hD0.self va_S.rf (vEnt_has hl)
section
variable {κ : vK} {M N : vMx} {pc q : Nat} {ls st rest As : List Value} {F : vFt} {Ar : vAt} {x x0 : vXt} {Q : Option Value → vFt → vAt → vXt → Prop} {dd d' o n index : Nat} {ad0 : Nat → Nat}
theorem V_iret1 {v : Int32} (hκ : vStd1 κ dd ad0 x0 Q) (hr : M.2.2.2 = some .int) (d : decode M.2.1 pc = .ok (.ireturn, 1)) (hq : Q (some (.int v)) F Ar x) : V κ M pc ls [.int v] F Ar x := by
  obtain ⟨p, l, e, R, s, m, args, below, meth, c, D, cA, ad, A, H0, cells, slots, QW⟩ := κ
  intro H locs la C hP hD hS hl
  obtain ⟨rfl, hc1, hs1, rfl, hg, rfl⟩ := hκ
  refine W.widen (k := 1) (n := 1728) hc1 hs1 ?_
  exact W.iret C.1 C.2.1 (C.2.2.2.2.2.2.2.1.trans hr) (fun t ht hW => ⟨⟨some (.int v), F, Ar, x, ad, hg, rfl, hq, by rw [ht]; exact hP, va_K.moved hW.alike C.2.2.2.2.2.1, hD⟩, hS.F ht⟩) hS.2.2 d C.2.2.2.2.2.2.2.2.1
theorem V_aret1 {v : Nat} (hκ : vStd1 κ dd ad0 x0 Q) (hr : M.2.2.2 = some (.array .int)) (d : decode M.2.1 pc = .ok (.areturn, 1)) (hq : Q (some (.ref v)) F Ar x) : V κ M pc ls [.ref v] F Ar x := by
  obtain ⟨p, l, e, R, s, m, args, below, meth, c, D, cA, ad, A, H0, cells, slots, QW⟩ := κ
  intro H locs la C hP hD hS hl
  obtain ⟨rfl, hc1, hs1, rfl, hg, rfl⟩ := hκ
  refine W.widen (k := 1) (n := 1728) hc1 hs1 ?_
  exact W.aret C.1 C.2.1 (C.2.2.2.2.2.2.2.1.trans hr) (Or.inr ⟨_, rfl⟩) (Or.inr ⟨ad v, rfl⟩) (fun t ht hW => ⟨⟨some (.ref v), F, Ar, x, ad, hg, rfl, hq, by rw [ht]; exact hP, va_K.moved hW.alike C.2.2.2.2.2.1, hD⟩, hS.F ht⟩) hS.2.2 d C.2.2.2.2.2.2.2.2.1
theorem kx_arr : Cond.arrayClass .int ∈ lw_good := by decide +kernel
set_option maxHeartbeats 4000000 in
theorem V_newrow (hκ : vStd1 κ dd ad0 x0 Q) (hx : x0.1 ≤ x.1) (h0 : vNone κ) (hsh : vSh x) (hls : vRefs x ls) (hst : vRefs x st) (d : decode M.2.1 pc = .ok (.newarray .int, 2)) (hq : pc + 2 = q)
    (k : ∀ κ', vStd1 κ' dd ad0 x0 Q → V κ' M q ls (.ref (66 + x.1) :: st) F (vS Ar (66 + x.1) (fun _ => 0)) (x.1 + 1, x.2)) : V κ M pc ls (.int 1728 :: st) F Ar x := by
  subst hq
  obtain ⟨p, l, e, R, s, m, args, below, meth, c, D, cA, ad, A, H0, cells, slots, QW⟩ := κ
  intro H locs la C hP hD hS hl
  obtain ⟨rfl, hc1, hs1, rfl, hg, rfl⟩ := hκ
  obtain ⟨rfl, rfl⟩ := h0
  have hts := C.2.2.2.2.1
  refine va_newa (atype := .int) (N' := 1728) (a0 := (1728, .inl (fun _ => 0))) (ty := .int) C.1 C.2.1 (hts _ kx_arr) rfl C.2.2.2.2.2.1 hP hD hS C.2.2.2.2.2.2.1 (fun cA => rfl) (by decide) (by decide) (by decide) (Nat.le_refl 1) (Nat.le_refl 1728) d (fun a cA2 H1 hK1 hP1 hD1 hS1 => ?_)
  have e1 : cA2 = cA 0 := by
    have h1 : va_RA s cA2 .int := (hK1.2 3 _ rfl).2
    have h2 : va_RA s (cA 0) .int := (hK1.2 0 _ rfl).2
    have h3 : s.vm.findClass ("[" ++ FieldType.int.toString) = some cA2 := h1
    have h4 : s.vm.findClass ("[" ++ FieldType.int.toString) = some (cA 0) := h2
    rw [h3] at h4
    exact Option.some.inj h4
  subst e1
  have hg2 : vAg x ad (fun i => if i = 66 + x.1 then a else ad i) := fun j hj => if_neg (by omega)
  have hP2 := vP_new hsh hP1
  have hD2 : va_D A (vW (fun i => if i = 66 + x.1 then a else ad i) cA F (vS Ar (66 + x.1) (fun _ => 0)) (x.1 + 1, x.2)) := vD_new hD1
  have hk := k (p, l, e, vRm1 dd, s, m, args, below, meth, c, D, cA, fun i => if i = 66 + x.1 then a else ad i, A, s.heap, 1, 1728, MQ below (vQ1 D cA ad0 A x0 Q) args s 1 1728 A)
    ⟨rfl, Nat.le_refl _, Nat.le_refl _, rfl, fun i hi => by rw [← hg i hi]; exact hg2 i (by omega), rfl⟩ H1 locs la
    ⟨C.1, C.2.1, C.2.2.1, C.2.2.2.1, hts, C.2.2.2.2.2.1, C.2.2.2.2.2.2.1, C.2.2.2.2.2.2.2.1, C.2.2.2.2.2.2.2.2.1, Nat.le_refl _, Nat.le_refl _, C.2.2.2.2.2.2.2.2.2.2.2⟩ hP2 hD2 hS1 (vLs_ag hg2 hls hl)
  have e3 : (Value.ref (66 + x.1) :: st).map (vV (fun i => if i = 66 + x.1 then a else ad i)) = .ref a :: st.map (vV ad) := by
    rw [List.map_cons, vMap_ag hg2 hst]
    congr 1
    show Value.ref (if 66 + x.1 = 66 + x.1 then a else _) = _
    rw [if_pos rfl]
  rw [e3] at hk
  exact hk
set_option maxHeartbeats 4000000 in
theorem V_aastS {i v : Nat} (hi : i < 5) (h9 : 9 ≤ v) (hv : v < 66 + x.1) (ht : vTyA v = 0) (d : decode M.2.1 pc = .ok (.aastore, 1)) (hq : pc + 1 = q) (k : V κ M q ls rest F Ar (x.1, updN x.2 i v)) : V κ M pc ls (.ref v :: .int (nI i) :: .ref 8 :: rest) F Ar x := by
  subst hq
  obtain ⟨p, l, e, R, s, m, args, below, meth, c, D, cA, ad, A, H0, cells, slots, QW⟩ := κ
  intro H locs la C hP hD hS hl0
  have hw : (vW ad cA F Ar x)[8]? = some (ad 8, .inl (cA 2, 5, .inr (.inr (.inr (.inr (fun j => some (ad (x.2 j)))))))) := by rw [vW_at (by omega)]; rfl
  have hwv := vW_arr (ad := ad) (cA := cA) (F := F) (Ar := Ar) (x := x) h9 hv
  rw [ht] at hwv
  have hlt : (nI i).toNatClampNeg < 5 := by rw [nI_clamp (by omega)]; exact hi
  have h0 : ¬ nI i < 0 := nI_pos (by omega)
  obtain ⟨comp, cA2, kA, k3, -, k1, k2, k4⟩ := arrayOverA_spec (C.2.2.2.2.2.2.2.2.2.2.2.2 : (Cond.arrayOver (.array .int)).holds #[] s none s [] = true)
  have hc2 : s.vm.findClass ("[" ++ (FieldType.array .int).toString) = some (cA 2) := (C.2.2.2.2.2.1.2 2 _ rfl).2
  have hc0 : s.vm.findClass ("[" ++ FieldType.int.toString) = some (cA 0) := (C.2.2.2.2.2.1.2 0 _ rfl).2
  have e2 : cA 2 = cA2 := Option.some.inj (hc2.symm.trans k4)
  have e0 : cA 0 = comp := Option.some.inj (hc0.symm.trans k3)
  subst e2
  subst e0
  obtain ⟨kE, hkE, -⟩ := Vm.findClass_spec k3
  refine W.aast (v := ad v) C.1 C.2.1 (hP 8 _ hw) (fun q h => by cases h) (fun h => by cases h) k1 k2 rfl hkE ⟨h0, by show _ < (arrV _ _ _).slots.size; rw [arrV_size]; exact hlt⟩ (hP v _ hwv) (fun q h => by cases h) hkE (va_asg _ _) rfl rfl d fun H1 e z oq => ?_
  have hP1 := hP.set (e := .inl (cA 2, 5, .inr (.inr (.inr (.inr (fun j => some (ad (updN x.2 i v j)))))))) hD hw (by
    show H1[ad 8]? = some (vp_cell _ _)
    rw [e, vp_cell_q, vp_cell_q, arrV_store, nI_clamp (by omega)]
    congr 2
    funext j
    unfold updV updN
    by_cases hj : j = i
    · simp [hj, va_rf]
    · simp [hj]) oq
  have hD1 := hD.set (e := .inl (cA 2, 5, .inr (.inr (.inr (.inr (fun j => some (ad (updN x.2 i v j)))))))) hw
  have ew : (vW ad cA F Ar x).set 8 (ad 8, .inl (cA 2, 5, .inr (.inr (.inr (.inr (fun j => some (ad (updN x.2 i v j)))))))) = vW ad cA F Ar (x.1, updN x.2 i v) := by
    refine vW_set (F' := F) (Ar' := Ar) (sh' := updN x.2 i v) (by omega) rfl (fun k hk _ => ?_)
    unfold vCell
    by_cases h7 : k < 7
    · rw [if_pos h7, if_pos h7]
    · rw [if_neg h7, if_neg h7, if_neg hk, if_neg hk]
  rw [ew] at hP1 hD1
  exact k H1 _ la C hP1 hD1 (hS.put z oq (hD.2 8 _ hw)) hl0
end
