/-! the making machine: new cells, calls -/
theorem kx_arrZ : Cond.arrayClass .boolean ∈ lw_good := by decide +kernel
def dfs (ci : Nat) : List Value := (List.range (vNf ci)).map (fun j => defaultValue (vTy ci j))
theorem dfs_at {ci j : Nat} (h : j < vNf ci) : defaultValue (vTy ci j) = vp_V (dfs ci) j := by
  unfold vp_V dfs
  simp [List.getD, h]
theorem ra_one {s : State} {a b : ClassId} {ty : FieldType} (h : ty = .int ∨ ty = .boolean ∨ ty = .array .int) (h1 : va_RA s a ty) (h2 : va_RA s b ty) : a = b := by
  have e : ∀ c, va_RA s c ty → s.vm.findClass ("[" ++ ty.toString) = some c := by
    rcases h with rfl | rfl | rfl <;> exact fun c h => h
  exact Option.some.inj ((e a h1).symm.trans (e b h2))
section
variable {κ : lK} {M N : vMx} {pc q : Nat} {lv : List (Nat × Value)} {st rest : List Value} {ws : va_W} {cells slots : Nat} {d mc ms : Nat} {cA : Nat → ClassId} {Q Q' : Option Value → va_W → Prop}
theorem L_newI {n : Nat} {v : Int32} (hκ : lStd κ d mc ms cA Q) (hv : v = nI n) (hn : n ≤ 2000) (h1 : cells + 1 ≤ mc) (h2 : slots + n ≤ ms) (dg : decode M.2.1 pc = .ok (.newarray .int, 2)) (hq : pc + 2 = q) (k : ∀ a, L κ M q lv (.ref a :: st) (ws ++ [(a, .inl (cA 0, n, .inl (fun _ => 0)))]) (cells + 1) (slots + n)) : L κ M pc lv (.int v :: st) ws cells slots := by
  subst hq
  subst hv
  obtain ⟨p, l, e, R, s, m, args, below, meth, c, D, cA2, A, H0, QW⟩ := κ
  obtain ⟨rfl, rfl, rfl, rfl⟩ := hκ
  intro H locs la C hP hD hS hl
  refine va_newa (atype := .int) (N' := n) (a0 := (n, .inl (fun _ => 0))) (ty := .int) C.1 C.2.1 (C.2.2.2.2.1 _ kx_arr) rfl C.2.2.2.2.2.1 hP hD hS C.2.2.2.2.2.2.1 (fun cA => rfl) (nI_pos (by omega)) (nI_clamp (by omega)) (by show n * 4 ≤ 536870912; omega) h1 h2 dg (fun a c9 H1 hK1 hP1 hD1 hS1 => ?_)
  have e1 : c9 = cA2 0 := ra_one (Or.inl rfl) (hK1.2 3 _ rfl).2 (hK1.2 0 _ rfl).2
  subst e1
  exact k a H1 locs la C hP1 hD1 hS1 hl
theorem L_newZ {n : Nat} {v : Int32} (hκ : lStd κ d mc ms cA Q) (hv : v = nI n) (hn : n ≤ 2000) (h1 : cells + 1 ≤ mc) (h2 : slots + n ≤ ms) (dg : decode M.2.1 pc = .ok (.newarray .boolean, 2)) (hq : pc + 2 = q) (k : ∀ a, L κ M q lv (.ref a :: st) (ws ++ [(a, .inl (cA 1, n, .inl (fun _ => 0)))]) (cells + 1) (slots + n)) : L κ M pc lv (.int v :: st) ws cells slots := by
  subst hq
  subst hv
  obtain ⟨p, l, e, R, s, m, args, below, meth, c, D, cA2, A, H0, QW⟩ := κ
  obtain ⟨rfl, rfl, rfl, rfl⟩ := hκ
  intro H locs la C hP hD hS hl
  refine va_newa (atype := .boolean) (N' := n) (a0 := (n, .inl (fun _ => 0))) (ty := .boolean) C.1 C.2.1 (C.2.2.2.2.1 _ kx_arrZ) rfl C.2.2.2.2.2.1 hP hD hS C.2.2.2.2.2.2.1 (fun cA => rfl) (nI_pos (by omega)) (nI_clamp (by omega)) (by show n * 1 ≤ 536870912; omega) h1 h2 dg (fun a c9 H1 hK1 hP1 hD1 hS1 => ?_)
  have e1 : c9 = cA2 1 := ra_one (Or.inr (Or.inl rfl)) (hK1.2 3 _ rfl).2 (hK1.2 1 _ rfl).2
  subst e1
  exact k a H1 locs la C hP1 hD1 hS1 hl
theorem L_new {ci index : Nat} (hκ : lStd κ d mc ms cA Q) (hci : ci < 7) (hcl : Cond.classLink M.1.cls index (vR ci) ∈ lw_good) (hins : Cond.instantiable (vR ci) (vNf ci) ∈ lw_good) (hini : Cond.initialized (vR ci) ∈ lw_good) (h1 : cells + 1 ≤ mc) (h2 : slots + vNf ci ≤ ms) (dg : decode M.2.1 pc = .ok (.new index, 3)) (hq : pc + 3 = q) (k : ∀ a, L κ M q lv (.ref a :: st) (ws ++ [(a, .inr (ci, dfs ci))]) (cells + 1) (slots + vNf ci)) : L κ M pc lv st ws cells slots := by
  subst hq
  obtain ⟨p, l, e, R, s, m, args, below, meth, c, D, cA2, A, H0, QW⟩ := κ
  obtain ⟨rfl, rfl, rfl, rfl⟩ := hκ
  intro H locs la C hP hD hS hl
  exact va_new (ci := ci) (fs := dfs ci) C.1 C.2.1 C.2.2.2.2.1 (vCl_in ci hci) (vTy ci) (vCl_ty ci hci) C.2.2.2.1 (C.2.2.2.2.1 _ hcl) (C.2.2.2.2.1 _ hins) (C.2.2.2.2.1 _ hini) C.2.2.2.2.2.1 hP hD hS C.2.2.2.2.2.2.1 (vCl_at ci hci) (fun j hj => dfs_at hj) h1 h2 dg (fun a H1 hP1 hD1 hS1 => k a H1 locs la C hP1 hD1 hS1 hl)
theorem L_obj {a idx : Nat} (hκ : lStd κ d mc ms cA Q) (hd1 : 1 ≤ d) (hl0 : Cond.methodLink M.1.cls idx Lib.objectInit ∈ lw_good) (hi : Cond.instanceMethod Lib.objectInit ∈ lw_good) (hc : Cond.code Lib.objectInit ⟨#[0xb1]⟩ 1 none ∈ lw_good) (dg : decode M.2.1 pc = .ok (.invokespecial idx, 3)) (hq : pc + 3 = q) (k : L κ M q lv [] ws cells slots) : L κ M pc lv [.ref a] ws cells slots := by
  subst hq
  obtain ⟨p, l, e, R, s, m, args, below, meth, c, D, cA2, A, H0, QW⟩ := κ
  obtain ⟨rfl, rfl, rfl, rfl⟩ := hκ
  intro H locs la C hP hD hS hl
  refine W.objInit C.1 C.2.1 C.2.2.2.1 (C.2.2.2.2.1 _ hl0) (C.2.2.2.2.1 _ hi) (C.2.2.2.2.1 _ hc) rfl (hl.1.trans C.2.2.1.symm) (a := a) (rest := []) rfl dg (show 1 ≤ d from hd1) ?_ (k H locs la C hP hD hS hl)
  show 0 + 0 + 12 ≤ 60 * d
  omega
/-- five rows at once -/
theorem L_mna {index K : Nat} {k0 : Int32} (hκ : lStd κ d mc ms cA Q) (hcl : Cond.classLink M.1.cls index ("[" ++ (FieldType.array .int).toString) ∈ lw_good) (hk0 : k0 = nI K) (hK : K ≤ 40) (h1 : cells + 6 ≤ mc) (h2 : slots + (5 + 5 * K) ≤ ms) (dg : decode M.2.1 pc = .ok (.multianewarray index 2, 4)) (hq : pc + 4 = q)
    (k : ∀ (a : Nat) (r : Nat → Nat), L κ M q lv (.ref a :: st) (ws ++ [(a, .inl (cA 2, 5, .inr (.inr (.inr (.inr (fun j => if j < 5 then some (r j) else none)))))), (r 0, .inl (cA 0, K, .inl (fun _ => 0))), (r 1, .inl (cA 0, K, .inl (fun _ => 0))), (r 2, .inl (cA 0, K, .inl (fun _ => 0))), (r 3, .inl (cA 0, K, .inl (fun _ => 0))), (r 4, .inl (cA 0, K, .inl (fun _ => 0)))]) (cells + 6) (slots + (5 + 5 * K))) : L κ M pc lv (.int k0 :: .int 5 :: st) ws cells slots := by
  subst hq
  subst hk0
  obtain ⟨p, l, e, R, s, m, args, below, meth, c, D, cA2, A, H0, QW⟩ := κ
  obtain ⟨rfl, rfl, rfl, rfl⟩ := hκ
  intro H locs la C hP hD hS hl
  refine W_mna C.1 C.2.1 C.2.2.2.1 (C.2.2.2.2.1 _ hcl) C.2.2.2.2.2.2.2.2.2.1.2 (C.2.2.2.2.1 _ kx_arr) dg (nI_pos (by omega)) (nI_clamp (by omega)) hK h1 h2 (fun c2 c0 H1 f2 f0 hm => ?_)
  have e2 : c2 = cA2 2 := by
    have h3 : s.vm.findClass ("[" ++ (FieldType.array .int).toString) = some (cA2 2) := (C.2.2.2.2.2.1.2 2 _ rfl).2
    exact Option.some.inj (f2.symm.trans h3)
  have e0 : c0 = cA2 0 := by
    have h3 : s.vm.findClass ("[" ++ FieldType.int.toString) = some (cA2 0) := (C.2.2.2.2.2.1.2 0 _ rfl).2
    exact Option.some.inj (f0.symm.trans h3)
  subst e2
  subst e0
  obtain ⟨m1, m2, m3, m4⟩ := hm
  have hold : ∀ (k9 : Nat) (x : Nat × va_E), ws[k9]? = some x → x.1 < H.size := fun k9 x hx => (hP k9 x hx).lt
  have hP0 : va_P D vCl ws H1 := hP.kept (fun k9 x hx => m2 x.1 (hold k9 x hx))
  refine k H.size (fun j => H.size + 1 + j) H1 locs la C ?_ ?_ ?_ hl
  · refine hP0.app (fun k9 x hx => ?_)
    match k9, hx with
    | 0, hx => cases hx; exact m3
    | 1, hx => cases hx; exact m4 0 (by omega)
    | 2, hx => cases hx; exact m4 1 (by omega)
    | 3, hx => cases hx; exact m4 2 (by omega)
    | 4, hx => cases hx; exact m4 3 (by omega)
    | 5, hx => cases hx; exact m4 4 (by omega)
  · have hsix : ∀ (k9 : Nat) (x : Nat × va_E), [(H.size, .inl (cA2 2, 5, .inr (.inr (.inr (.inr (fun j => if j < 5 then some (H.size + 1 + j) else none)))))), (H.size + 1 + 0, .inl (cA2 0, K, .inl (fun _ => 0))), (H.size + 1 + 1, .inl (cA2 0, K, .inl (fun _ => 0))), (H.size + 1 + 2, .inl (cA2 0, K, .inl (fun _ => 0))), (H.size + 1 + 3, .inl (cA2 0, K, .inl (fun _ => 0))), (H.size + 1 + 4, .inl (cA2 0, K, .inl (fun _ => 0)))][k9]? = some x → x.1 = H.size + k9 := by
      intro k9 x hx
      match k9, hx with
      | 0, hx => cases hx; rfl
      | 1, hx => cases hx; rfl
      | 2, hx => cases hx; rfl
      | 3, hx => cases hx; rfl
      | 4, hx => cases hx; rfl
      | 5, hx => cases hx; rfl
    refine ⟨fun i j x y hi hj hxy => ?_, fun k9 x hx => ?_⟩
    · by_cases c1 : i < ws.length <;> by_cases c2 : j < ws.length
      · rw [List.getElem?_append_left c1] at hi
        rw [List.getElem?_append_left c2] at hj
        exact hD.1 i j x y hi hj hxy
      · rw [List.getElem?_append_left c1] at hi
        rw [List.getElem?_append_right (by omega)] at hj
        have q1 := hold i x hi
        have q2 := hsix _ y hj
        omega
      · rw [List.getElem?_append_right (by omega)] at hi
        rw [List.getElem?_append_left c2] at hj
        have q1 := hold j y hj
        have q2 := hsix _ x hi
        omega
      · rw [List.getElem?_append_right (by omega)] at hi hj
        have q1 := hsix _ x hi
        have q2 := hsix _ y hj
        omega
    · by_cases c1 : k9 < ws.length
      · rw [List.getElem?_append_left c1] at hx
        exact hD.2 k9 x hx
      · rw [List.getElem?_append_right (by omega)] at hx
        have q1 := hsix _ x hx
        have q2 := hS.1
        exact C.2.2.2.2.2.2.1 x.1 (by omega)
  · refine ⟨by have := hS.1; omega, fun x h1 h2 => ?_, hS.2.2⟩
    have := hS.1
    rw [m2 x (by omega)]
    exact hS.2.1 x h1 h2
end
