/-! THE ABSTRACT MACHINE: one table of all cells (7 objects, 2 arrays of arrays, int and boolean arrays), abstract references are places in it -/
def vV (ad : Nat → Nat) (v : Value) : Value := match v with
  | .ref k => .ref (ad k)
  | v => v
theorem vV_cat (ad : Nat → Nat) (v : Value) : (vV ad v).category = v.category := by cases v <;> rfl
abbrev vFt : Type := Nat → Int32
abbrev vAt : Type := Nat → Nat → Int32
abbrev vXt : Type := Nat × (Nat → Nat)
def vLens : List Nat := [0, 0, 0, 0, 0, 0, 0, 0, 0, 40, 40, 40, 40, 40, 40, 5, 0, 0, 0, 0, 0, 40, 35, 540, 60, 60, 60, 40, 40, 40, 40, 8, 8, 8, 8, 8, 8, 8, 8, 8, 40, 5, 5, 200, 20, 5, 5, 5, 60, 60, 60, 60, 60, 60, 60, 40, 6, 6, 6, 41, 40, 40, 60, 60, 9, 10]
def vLen (i : Nat) : Nat := if i < 66 then vLens.getD i 0 else 1728
def vTyA (i : Nat) : Nat := if i = 24 ∨ i = 54 ∨ i = 58 ∨ i = 62 ∨ i = 63 then 1 else 0
def vRfs : List (List Nat) := [[1, 3, 4, 5], [9, 0, 7, 15, 0, 8, 2], [21, 0, 0, 0, 0, 0, 0], [22, 0], [23, 24, 0, 25, 26, 27, 28, 29, 30], [31, 32, 33, 34, 35, 0, 36, 37, 0, 38, 39, 0], [0, 40, 0, 41, 42, 43, 0, 44, 45, 46, 47, 0, 48, 49, 50, 51, 52, 53, 54, 0, 55, 0, 56, 57, 58, 59, 0, 60, 61, 62, 63, 64, 65]]
def vRf (o j : Nat) : Nat := (vRfs.getD o []).getD j 0
def vNf : Nat → Nat := fun o => match o with
  | 0 => 4
  | 1 => 7
  | 2 => 7
  | 3 => 2
  | 4 => 9
  | 5 => 12
  | _ => 33
def vT : Nat → u_T := fun o => match o with
  | 0 => TX5
  | 1 => TX0
  | 2 => TX4
  | 3 => TX1
  | 4 => TX2
  | 5 => TX3
  | _ => TX6
def vTy : Nat → Nat → FieldType := fun o => match o with
  | 0 => tyX5
  | 1 => tyX0
  | 2 => tyX4
  | 3 => tyX1
  | 4 => tyX2
  | 5 => tyX3
  | _ => tyX6
def vR : Nat → String := fun o => match o with
  | 0 => RX5
  | 1 => RX0
  | 2 => RX4
  | 3 => RX1
  | 4 => RX2
  | 5 => RX3
  | _ => RX6
abbrev vCl : List vw_C := [(RX5, TX5, 4), (RX0, TX0, 7), (RX4, TX4, 7), (RX1, TX1, 2), (RX2, TX2, 9), (RX3, TX3, 12), (RX6, TX6, 33)]
theorem v_seven {P : Nat → Prop} (h0 : P 0) (h1 : P 1) (h2 : P 2) (h3 : P 3) (h4 : P 4) (h5 : P 5) (h6 : P 6) : ∀ o, o < 7 → P o := by
  intro o h
  match o, h with
  | 0, _ => exact h0
  | 1, _ => exact h1
  | 2, _ => exact h2
  | 3, _ => exact h3
  | 4, _ => exact h4
  | 5, _ => exact h5
  | 6, _ => exact h6
theorem vCl_at : ∀ o, o < 7 → vCl[o]? = some (vR o, vT o, vNf o) := v_seven rfl rfl rfl rfl rfl rfl rfl
/-- the tables' words that any callee keeps -/
def lw_good : List Cond := lw_tbl.filter goodWord
theorem lw_good_ok : GoodIn lw_good lw_good := fun w hw => ⟨hw, good_of_word (List.mem_filter.mp hw).2⟩
theorem u_ws_good {C : String} {T : u_T} {N : Nat} : ∀ w ∈ u_ws C T N, goodWord w = true := by
  intro w hw
  obtain ⟨k, -, rfl⟩ := List.mem_map.mp hw
  unfold u_lay
  split <;> rfl
theorem vCl_in : ∀ o, o < 7 → ∀ w ∈ u_ws (vR o) (vT o) (vNf o), w ∈ lw_good := fun o ho w hw => List.mem_filter.mpr ⟨(v_seven (P := fun o => ∀ w ∈ u_ws (vR o) (vT o) (vNf o), w ∈ lw_tbl) innX5 innX0 innX4 innX1 innX2 innX3 innX6) o ho w hw, u_ws_good w hw⟩
/-- the links among nest mates, and the class of arrays of int arrays: of the state, not of the words -/
def vNl : List (String × Nat × MethodName) := [(RX5, 9, yX0_init), (RX0, 28, yX4_init), (RX5, 18, yX1_init), (RX2, 46, yX5_isWithin), (RX5, 32, yX3_init), (RX0, 58, yX5_isDay), (RX4, 39, yX5_isWithin), (RX0, 37, yX5_isWithin), (RX1, 19, yX5_isWithin), (RX3, 46, yX5_isWithin)]
def vNs (U : State) : Prop := (∀ q ∈ vNl, va_Nw (.methodLinkNest q.1 q.2.1 q.2.2 RX5) U) ∧ (Cond.arrayOver (.array .int)).before #[] U = true
theorem vNs_warm {s U : State} (hW : s.WarmedH U.vm) (h : vNs s) : vNs U := by
  refine ⟨fun q hq => va_Nw.warmM hW (h.1 q hq), ?_⟩
  have h2 := Cond.arrayOver_setVmC (args := #[]) (s := s) (vm' := U.vm) hW.alike (.array .int)
  rw [h.2] at h2
  exact h2
theorem vNs_same {u U : State} (hv : u.vm = U.vm) (h : vNs u) : vNs U := by
  refine ⟨fun q hq => va_Nw.same rfl hv (h.1 q hq), ?_⟩
  have h2 := Cond.arrayOver_setVmC (args := #[]) (s := u) (vm' := U.vm) (hv ▸ Vm.Alike.refl u.vm) (.array .int)
  rw [h.2] at h2
  exact h2
theorem vCl_ty : ∀ o, o < 7 → ∀ k, k < vNf o → parseFieldDescriptor (vT o k).2.2.1 = some (vTy o k) := v_seven tyX5_ok tyX0_ok tyX4_ok tyX1_ok tyX2_ok tyX3_ok tyX6_ok
theorem vCl_nm : ∀ o, o < 7 → ∀ a, a < vNf o → ∀ b, b < vNf o → a ≠ b → (vT o a).2.1 ≠ (vT o b).2.1 := v_seven nmX5 nmX0 nmX4 nmX1 nmX2 nmX3 nmX6
theorem vNf_le : ∀ o, o < 7 → vNf o ≤ 33 := v_seven (by decide) (by decide) (by decide) (by decide) (by decide) (by decide) (by decide)
/-- an int field that isn't a reference is no final one, and an int -/
theorem vCl_int : ∀ o, o < 7 → ∀ k, k < vNf o → vRf o k = 0 → (vT o k).2.2.2 = false ∧ parseFieldDescriptor (vT o k).2.2.1 = some .int := by
  apply v_seven <;> decide +kernel
def vTys (cA : Nat → ClassId) : List (ClassId × FieldType) := [(cA 0, .int), (cA 1, .boolean), (cA 2, .array .int)]
def vFl (ad : Nat → Nat) (F : vFt) (o j : Nat) : Value := if vRf o j = 0 then .int (F (64 * o + j)) else .ref (ad (vRf o j))
def vCell (ad : Nat → Nat) (cA : Nat → ClassId) (F : vFt) (Ar : vAt) (sh : Nat → Nat) (i : Nat) : va_E :=
  if i < 7 then .inr (i, (List.range (vNf i)).map (vFl ad F i))
  else if i = 7 then .inl (cA 2, 5, .inr (.inr (.inr (.inr (fun j => some (ad (10 + j)))))))
  else if i = 8 then .inl (cA 2, 5, .inr (.inr (.inr (.inr (fun j => some (ad (sh j)))))))
  else .inl (cA (vTyA i), vLen i, .inl (Ar i))
def vW (ad : Nat → Nat) (cA : Nat → ClassId) (F : vFt) (Ar : vAt) (x : vXt) : va_W := (List.range (66 + x.1)).map (fun i => (ad i, vCell ad cA F Ar x.2 i))
def vS (Ar : vAt) (i : Nat) (f : Nat → Int32) : vAt := fun b => if b = i then f else Ar b
section
variable {ad : Nat → Nat} {cA : Nat → ClassId} {F : vFt} {Ar : vAt} {x : vXt}
theorem vW_at {i : Nat} (h : i < 66 + x.1) : (vW ad cA F Ar x)[i]? = some (ad i, vCell ad cA F Ar x.2 i) := by
  simp [vW, h]
theorem vW_obj {o : Nat} (h : o < 7) : (vW ad cA F Ar x)[o]? = some (ad o, .inr (o, (List.range (vNf o)).map (vFl ad F o))) := by
  rw [vW_at (by omega)]
  simp [vCell, h]
theorem vW_arr {i : Nat} (h9 : 9 ≤ i) (h : i < 66 + x.1) : (vW ad cA F Ar x)[i]? = some (ad i, .inl (cA (vTyA i), vLen i, .inl (Ar i))) := by
  rw [vW_at h]
  unfold vCell
  rw [if_neg (by omega), if_neg (by omega), if_neg (by omega)]
theorem vW_set {i : Nat} {e : va_E} {F' : vFt} {Ar' : vAt} {sh' : Nat → Nat} (h : i < 66 + x.1) (h1 : vCell ad cA F' Ar' sh' i = e) (h2 : ∀ k, k ≠ i → k < 66 + x.1 → vCell ad cA F' Ar' sh' k = vCell ad cA F Ar x.2 k) : (vW ad cA F Ar x).set i (ad i, e) = vW ad cA F' Ar' (x.1, sh') := by
  apply List.ext_getElem?
  intro k
  rw [List.getElem?_set]
  by_cases hk : i = k
  · subst hk
    rw [if_pos rfl, if_pos (by simp [vW, h]), vW_at (x := (x.1, sh')) h, h1]
  · rw [if_neg hk]
    by_cases hl : k < 66 + x.1
    · rw [vW_at hl, vW_at (x := (x.1, sh')) hl, h2 k (fun q => hk q.symm) hl]
    · rw [List.getElem?_eq_none (by simp [vW]; omega), List.getElem?_eq_none (by simp [vW]; omega)]
theorem vW_setA {i : Nat} {f : Nat → Int32} (h9 : 9 ≤ i) (h : i < 66 + x.1) : (vW ad cA F Ar x).set i (ad i, .inl (cA (vTyA i), vLen i, .inl f)) = vW ad cA F (vS Ar i f) x := by
  refine (vW_set (F' := F) (Ar' := vS Ar i f) (sh' := x.2) h ?_ ?_).trans rfl
  · unfold vCell
    rw [if_neg (by omega), if_neg (by omega), if_neg (by omega)]
    simp [vS]
  · intro k hk _
    simp [vCell, vS, hk]
theorem vFl_upd {o j v : _} {i k : Nat} (hk : k < 64) (hj : j < 64) (hr : vRf o j = 0) : vFl ad (upd F (64 * o + j) v) i k = if i = o ∧ k = j then .int v else vFl ad F i k := by
  unfold vFl upd
  by_cases h : i = o ∧ k = j
  · obtain ⟨rfl, rfl⟩ := h
    simp [hr]
  · rw [if_neg h]
    have : ¬ (64 * i + k = 64 * o + j) := by
      intro q
      apply h
      omega
    simp [this]
theorem vW_setF {o j : Nat} {v : Int32} (ho : o < 7) (hj : j < vNf o) (hr : vRf o j = 0) : (vW ad cA F Ar x).set o (ad o, .inr (o, ((List.range (vNf o)).map (vFl ad F o)).set j (.int v))) = vW ad cA (upd F (64 * o + j) v) Ar x := by
  have h33 := vNf_le o ho
  refine (vW_set (F' := upd F (64 * o + j) v) (Ar' := Ar) (sh' := x.2) (by omega) ?_ ?_).trans rfl
  · unfold vCell
    rw [if_pos ho]
    congr 2
    apply List.ext_getElem?
    intro k
    rw [List.getElem?_set]
    by_cases hk : k < vNf o
    · by_cases hkj : j = k
      · subst hkj
        simp [hk, vFl_upd (by omega : j < 64) (by omega : j < 64) hr]
      · rw [if_neg hkj]
        simp [hk, vFl_upd (by omega : k < 64) (by omega : j < 64) hr]
        exact fun q => absurd q.symm hkj
    · have hkj : ¬ j = k := by omega
      rw [if_neg hkj]
      simp [hk]
  · intro k hk _
    unfold vCell
    by_cases h7 : k < 7
    · rw [if_pos h7, if_pos h7]
      congr 2
      apply List.map_congr_left
      intro a ha
      have := vNf_le k h7
      have ha' : a < vNf k := List.mem_range.mp ha
      rw [vFl_upd (by omega) (by omega) hr, if_neg (fun q => hk q.1)]
    · rw [if_neg h7, if_neg h7]
end
/-- locals: a place each, .null where nothing is known -/
def vLs (ad : Nat → Nat) (ls : List Value) : List (Nat × Value) := (List.range ls.length).filterMap (fun i => match (ls[i]? : Option Value) with
  | some Value.null => none
  | some v => some (i, vV ad v)
  | none => none)
theorem vLs_mem {ad : Nat → Nat} {ls : List Value} {i : Nat} {v : Value} (h : ls[i]? = some v) (hn : v ≠ .null) : (i, vV ad v) ∈ vLs ad ls := by
  refine List.mem_filterMap.mpr ⟨i, List.mem_range.mpr (List.getElem?_eq_some_iff.mp h).1, ?_⟩
  rw [h]
  cases v <;> first | rfl | exact absurd rfl hn
theorem vLs_of {ad : Nat → Nat} {ls : List Value} {q : Nat × Value} (h : q ∈ vLs ad ls) : ∃ v, ls[q.1]? = some v ∧ v ≠ .null ∧ q.2 = vV ad v := by
  obtain ⟨i, -, hi⟩ := List.mem_filterMap.mp h
  cases hv : ls[i]? with
  | none => rw [hv] at hi; cases hi
  | some v =>
    rw [hv] at hi
    cases v <;> first | (cases hi; exact ⟨_, hv, by simp, rfl⟩) | cases hi
/-- no two-place number stands just ahead of place i -/
def vOkS (ls : List Value) (i : Nat) : Bool := match i with
  | 0 => true
  | j + 1 => match (ls[j]? : Option Value) with
    | some (Value.long _) => false
    | some (Value.double _) => false
    | _ => true
theorem vLs_set {la : Array Slot} {n : Nat} {ad : Nat → Nat} {ls : List Value} {i : Nat} {v : Value} (ho : vOkS ls i = true) (h : lv_has la n ((i, vV ad v) :: (vLs ad ls).filter (fun q => !(q.1 == i) && !(q.1 + 1 == i && q.2.category == 2)))) : lv_has la n (vLs ad (ls.set i v)) := by
  refine ⟨h.1, h.2.1, fun q hq => ?_⟩
  obtain ⟨w, h1, h2, h3⟩ := vLs_of hq
  by_cases hi : i = q.1
  · rw [List.getElem?_set, if_pos hi] at h1
    split at h1
    · cases h1
      have := h.2.2 _ List.mem_cons_self
      rw [h3, ← hi]
      exact this
    · cases h1
  · rw [List.getElem?_set, if_neg hi] at h1
    refine h.2.2 q (List.mem_cons_of_mem _ (List.mem_filter.mpr ⟨?_, ?_⟩))
    · have := vLs_mem (ad := ad) h1 h2
      rw [← h3] at this
      exact this
    · have hc : ¬ (q.1 + 1 = i ∧ q.2.category = 2) := by
        rintro ⟨e, hcat⟩
        subst e
        rw [h3, vV_cat] at hcat
        unfold vOkS at ho
        simp only [h1] at ho
        cases w <;> simp [Value.category] at hcat ho
      have h1' : ¬ q.1 = i := fun e => hi e.symm
      simp only [Bool.and_eq_true, Bool.not_eq_true', beq_eq_false_iff_ne, ne_eq, Bool.and_eq_false_iff]
      refine ⟨h1', ?_⟩
      by_cases e : q.1 + 1 = i
      · right
        simpa using fun hcat => hc ⟨e, hcat⟩
      · left
        exact e
theorem vLs_set2 {la : Array Slot} {n : Nat} {ad : Nat → Nat} {ls : List Value} {i : Nat} {v : Value} (ho : vOkS ls i = true) (h : lv_has la n ((i, vV ad v) :: (vLs ad ls).filter (fun q => !(q.1 == i) && (!(q.1 == i + 1) && !(q.1 + 1 == i && q.2.category == 2))))) : lv_has la n (vLs ad ((ls.set i v).set (i + 1) .null)) := by
  refine ⟨h.1, h.2.1, fun q hq => ?_⟩
  obtain ⟨w, h1, h2, h3⟩ := vLs_of hq
  by_cases hj : i + 1 = q.1
  · rw [List.getElem?_set, if_pos hj] at h1
    split at h1
    · cases h1
      exact absurd rfl h2
    · cases h1
  · rw [List.getElem?_set, if_neg hj] at h1
    by_cases hi : i = q.1
    · rw [List.getElem?_set, if_pos hi] at h1
      split at h1
      · cases h1
        have := h.2.2 _ List.mem_cons_self
        rw [h3, ← hi]
        exact this
      · cases h1
    · rw [List.getElem?_set, if_neg hi] at h1
      refine h.2.2 q (List.mem_cons_of_mem _ (List.mem_filter.mpr ⟨?_, ?_⟩))
      · have := vLs_mem (ad := ad) h1 h2
        rw [← h3] at this
        exact this
      · have hc : ¬ (q.1 + 1 = i ∧ q.2.category = 2) := by
          rintro ⟨e, hcat⟩
          subst e
          rw [h3, vV_cat] at hcat
          unfold vOkS at ho
          simp only [h1] at ho
          cases w <;> simp [Value.category] at hcat ho
        have h1' : ¬ q.1 = i := fun e => hi e.symm
        have h2' : ¬ q.1 = i + 1 := fun e => hj e.symm
        simp only [Bool.and_eq_true, Bool.not_eq_true', beq_eq_false_iff_ne, ne_eq, Bool.and_eq_false_iff]
        refine ⟨h1', h2', ?_⟩
        by_cases e : q.1 + 1 = i
        · right
          simpa using fun hcat => hc ⟨e, hcat⟩
        · left
          exact e
/-- a method: its name, its bytes, its locals, its answer's type -/
abbrev vMx : Type := MethodName × ByteArray × Nat × Option FieldType
/-- the machine's side of a walk -/
abbrev vK : Type := Program × Launch × Env × Room × State × MethodId × Array Value × List Frame × Method × Code × va_G × (Nat → ClassId) × (Nat → Nat) × (Nat → Prop) × Heap × Nat × Nat × (State → Prop)
def vOK (κ : vK) (M : vMx) : Prop := match κ with
  | (p, _, _, R, s, m, args, _, meth, c, D, cA, _, A, H0, cells, slots, _) => p.tables.exec = Jvm.exec ∧ c.code = M.2.1 ∧ c.maxLocals = M.2.2.1 ∧ s.vm.findClass M.1.cls = some m.cls ∧ (∀ w ∈ lw_good, w.before args s = true) ∧ va_K D vCl (vTys cA) s ∧ (∀ q, H0.size ≤ q → A q) ∧ meth.sig.returnType = M.2.2.2 ∧ meth.locks = false ∧ cells ≤ R.cells ∧ slots ≤ R.slots ∧ vNs s
def V (κ : vK) (M : vMx) (pc : Nat) (ls st : List Value) (F : vFt) (Ar : vAt) (x : vXt) : Prop := match κ with
  | (p, l, e, R, s, m, args, below, meth, c, D, cA, ad, A, H0, cells, slots, QW) => ∀ (H : Heap) (locs : List Loc) (la : Array Slot), vOK (p, l, e, R, s, m, args, below, meth, c, D, cA, ad, A, H0, cells, slots, QW) M → va_P D vCl (vW ad cA F Ar x) H → va_D A (vW ad cA F Ar x) → va_S A H0 H locs → lv_has la M.2.2.1 (vLs ad ls) → W p l e R s m args below meth c H locs cells slots QW (F0 m pc la (st.map (vV ad)))
