theorem V_iconst {κ : vK} {M : vMx} {pc q : Nat} {ls st : List Value} {F : vFt} {Ar : vAt} {x : vXt} {n : Int} {v : Int32} (d : decode M.2.1 pc = .ok (.iconst n, 1)) (hv : Int32.ofInt n = v) (hq : pc + 1 = q) (k : V κ M q ls (.int v :: st) F Ar x) : V κ M pc ls ( st) F Ar x := by
  subst hq
  obtain ⟨p, l, e, R, s, m, args, below, meth, c, D, cA, ad, A, H0, cells, slots, QW⟩ := κ
  intro H locs la C hP hD hS hl
  exact lv_iconst C.1 C.2.1 d hv (k H locs la C hP hD hS hl)
theorem V_bipush {κ : vK} {M : vMx} {pc q : Nat} {ls st : List Value} {F : vFt} {Ar : vAt} {x : vXt} {n : Int} {v : Int32} (d : decode M.2.1 pc = .ok (.bipush n, 2)) (hv : (Int8.ofInt n).toInt32 = v) (hq : pc + 2 = q) (k : V κ M q ls (.int v :: st) F Ar x) : V κ M pc ls ( st) F Ar x := by
  subst hq
  obtain ⟨p, l, e, R, s, m, args, below, meth, c, D, cA, ad, A, H0, cells, slots, QW⟩ := κ
  intro H locs la C hP hD hS hl
  exact lv_bipush C.1 C.2.1 d hv (k H locs la C hP hD hS hl)
theorem V_sipush {κ : vK} {M : vMx} {pc q : Nat} {ls st : List Value} {F : vFt} {Ar : vAt} {x : vXt} {n : Int} {v : Int32} (d : decode M.2.1 pc = .ok (.sipush n, 3)) (hv : (Int16.ofInt n).toInt32 = v) (hq : pc + 3 = q) (k : V κ M q ls (.int v :: st) F Ar x) : V κ M pc ls ( st) F Ar x := by
  subst hq
  obtain ⟨p, l, e, R, s, m, args, below, meth, c, D, cA, ad, A, H0, cells, slots, QW⟩ := κ
  intro H locs la C hP hD hS hl
  exact lv_sipush C.1 C.2.1 d hv (k H locs la C hP hD hS hl)
theorem V_lconst {κ : vK} {M : vMx} {pc q : Nat} {ls st : List Value} {F : vFt} {Ar : vAt} {x : vXt} {n : Fin 2} {v : Int64} (d : decode M.2.1 pc = .ok (.lconst n, 1)) (hv : Int64.ofNat (n : Nat) = v) (hq : pc + 1 = q) (k : V κ M q ls (.long v :: st) F Ar x) : V κ M pc ls ( st) F Ar x := by
  subst hq
  obtain ⟨p, l, e, R, s, m, args, below, meth, c, D, cA, ad, A, H0, cells, slots, QW⟩ := κ
  intro H locs la C hP hD hS hl
  exact lv_lconst C.1 C.2.1 d hv (k H locs la C hP hD hS hl)
theorem V_ldc {κ : vK} {M : vMx} {pc q : Nat} {ls st : List Value} {F : vFt} {Ar : vAt} {x : vXt} {index : Nat} {v : Int32} (d : decode M.2.1 pc = .ok (.ldc index, 2)) (hc : Cond.constant M.1.cls index v ∈ lw_good) (hq : pc + 2 = q) (k : V κ M q ls (.int v :: st) F Ar x) : V κ M pc ls ( st) F Ar x := by
  subst hq
  obtain ⟨p, l, e, R, s, m, args, below, meth, c, D, cA, ad, A, H0, cells, slots, QW⟩ := κ
  intro H locs la C hP hD hS hl
  exact lv_ldc C.1 C.2.1 C.2.2.2.1 (C.2.2.2.2.1 _ hc) d (k H locs la C hP hD hS hl)
theorem V_ldc2 {κ : vK} {M : vMx} {pc q : Nat} {ls st : List Value} {F : vFt} {Ar : vAt} {x : vXt} {index : Nat} {v : Int64} (d : decode M.2.1 pc = .ok (.ldc2_w index, 3)) (hc : Cond.constantLong M.1.cls index v ∈ lw_good) (hq : pc + 3 = q) (k : V κ M q ls (.long v :: st) F Ar x) : V κ M pc ls ( st) F Ar x := by
  subst hq
  obtain ⟨p, l, e, R, s, m, args, below, meth, c, D, cA, ad, A, H0, cells, slots, QW⟩ := κ
  intro H locs la C hP hD hS hl
  exact lv_ldc2 C.1 C.2.1 C.2.2.2.1 (C.2.2.2.2.1 _ hc) d (k H locs la C hP hD hS hl)
theorem V_iload_n {κ : vK} {M : vMx} {pc q : Nat} {ls st : List Value} {F : vFt} {Ar : vAt} {x : vXt} {n : Fin 4} {v : Int32} (d : decode M.2.1 pc = .ok (.iload_n n, 1)) (hl0 : ls[(n : Nat)]? = some (.int v)) (hq : pc + 1 = q) (k : V κ M q ls (.int v :: st) F Ar x) : V κ M pc ls ( st) F Ar x := by
  subst hq
  obtain ⟨p, l, e, R, s, m, args, below, meth, c, D, cA, ad, A, H0, cells, slots, QW⟩ := κ
  intro H locs la C hP hD hS hl
  exact lv_iload_n C.1 C.2.1 d rfl (hl.2.2 (_, vV ad (.int v)) (vLs_mem hl0 (fun h => by cases h))) (k H locs la C hP hD hS hl)
theorem V_iload {κ : vK} {M : vMx} {pc q : Nat} {ls st : List Value} {F : vFt} {Ar : vAt} {x : vXt} {n : Nat} {v : Int32} (d : decode M.2.1 pc = .ok (.iload n, 2)) (hl0 : ls[n]? = some (.int v)) (hq : pc + 2 = q) (k : V κ M q ls (.int v :: st) F Ar x) : V κ M pc ls ( st) F Ar x := by
  subst hq
  obtain ⟨p, l, e, R, s, m, args, below, meth, c, D, cA, ad, A, H0, cells, slots, QW⟩ := κ
  intro H locs la C hP hD hS hl
  exact lv_iload C.1 C.2.1 d (hl.2.2 (_, vV ad (.int v)) (vLs_mem hl0 (fun h => by cases h))) (k H locs la C hP hD hS hl)
theorem V_lload_n {κ : vK} {M : vMx} {pc q : Nat} {ls st : List Value} {F : vFt} {Ar : vAt} {x : vXt} {n : Fin 4} {v : Int64} (d : decode M.2.1 pc = .ok (.lload_n n, 1)) (hl0 : ls[(n : Nat)]? = some (.long v)) (hq : pc + 1 = q) (k : V κ M q ls (.long v :: st) F Ar x) : V κ M pc ls ( st) F Ar x := by
  subst hq
  obtain ⟨p, l, e, R, s, m, args, below, meth, c, D, cA, ad, A, H0, cells, slots, QW⟩ := κ
  intro H locs la C hP hD hS hl
  exact lv_lload_n C.1 C.2.1 d rfl (hl.2.2 (_, vV ad (.long v)) (vLs_mem hl0 (fun h => by cases h))) (k H locs la C hP hD hS hl)
theorem V_lload {κ : vK} {M : vMx} {pc q : Nat} {ls st : List Value} {F : vFt} {Ar : vAt} {x : vXt} {n : Nat} {v : Int64} (d : decode M.2.1 pc = .ok (.lload n, 2)) (hl0 : ls[n]? = some (.long v)) (hq : pc + 2 = q) (k : V κ M q ls (.long v :: st) F Ar x) : V κ M pc ls ( st) F Ar x := by
  subst hq
  obtain ⟨p, l, e, R, s, m, args, below, meth, c, D, cA, ad, A, H0, cells, slots, QW⟩ := κ
  intro H locs la C hP hD hS hl
  exact lv_lload C.1 C.2.1 d (hl.2.2 (_, vV ad (.long v)) (vLs_mem hl0 (fun h => by cases h))) (k H locs la C hP hD hS hl)
theorem V_aload_n {κ : vK} {M : vMx} {pc q : Nat} {ls st : List Value} {F : vFt} {Ar : vAt} {x : vXt} {n : Fin 4} {v : Nat} (d : decode M.2.1 pc = .ok (.aload_n n, 1)) (hl0 : ls[(n : Nat)]? = some (.ref v)) (hq : pc + 1 = q) (k : V κ M q ls (.ref v :: st) F Ar x) : V κ M pc ls ( st) F Ar x := by
  subst hq
  obtain ⟨p, l, e, R, s, m, args, below, meth, c, D, cA, ad, A, H0, cells, slots, QW⟩ := κ
  intro H locs la C hP hD hS hl
  exact lv_aload_n C.1 C.2.1 d rfl (hl.2.2 (_, vV ad (.ref v)) (vLs_mem hl0 (fun h => by cases h))) (k H locs la C hP hD hS hl)
theorem V_aload {κ : vK} {M : vMx} {pc q : Nat} {ls st : List Value} {F : vFt} {Ar : vAt} {x : vXt} {n : Nat} {v : Nat} (d : decode M.2.1 pc = .ok (.aload n, 2)) (hl0 : ls[n]? = some (.ref v)) (hq : pc + 2 = q) (k : V κ M q ls (.ref v :: st) F Ar x) : V κ M pc ls ( st) F Ar x := by
  subst hq
  obtain ⟨p, l, e, R, s, m, args, below, meth, c, D, cA, ad, A, H0, cells, slots, QW⟩ := κ
  intro H locs la C hP hD hS hl
  exact lv_aload C.1 C.2.1 d (hl.2.2 (_, vV ad (.ref v)) (vLs_mem hl0 (fun h => by cases h))) (k H locs la C hP hD hS hl)
theorem V_istore_n {κ : vK} {M : vMx} {pc q : Nat} {ls st : List Value} {F : vFt} {Ar : vAt} {x : vXt} {n : Fin 4} {v : Int32} (d : decode M.2.1 pc = .ok (.istore_n n, 1)) (hn : (n : Nat) < M.2.2.1) (ho : vOkS ls (n : Nat) = true) (hq : pc + 1 = q) (k : V κ M q (ls.set (n : Nat) (.int v)) st F Ar x) : V κ M pc ls (.int v :: st) F Ar x := by
  subst hq
  obtain ⟨p, l, e, R, s, m, args, below, meth, c, D, cA, ad, A, H0, cells, slots, QW⟩ := κ
  intro H locs la C hP hD hS hl
  exact lv_istore_n C.1 C.2.1 d rfl hl hn rfl (fun la' h' => k H locs la' C hP hD hS (vLs_set (v := .int v) ho h'))
theorem V_istore {κ : vK} {M : vMx} {pc q : Nat} {ls st : List Value} {F : vFt} {Ar : vAt} {x : vXt} {n : Nat} {v : Int32} (d : decode M.2.1 pc = .ok (.istore n, 2)) (hn : n < M.2.2.1) (ho : vOkS ls n = true) (hq : pc + 2 = q) (k : V κ M q (ls.set n (.int v)) st F Ar x) : V κ M pc ls (.int v :: st) F Ar x := by
  subst hq
  obtain ⟨p, l, e, R, s, m, args, below, meth, c, D, cA, ad, A, H0, cells, slots, QW⟩ := κ
  intro H locs la C hP hD hS hl
  exact lv_istore C.1 C.2.1 d hl hn rfl (fun la' h' => k H locs la' C hP hD hS (vLs_set (v := .int v) ho h'))
theorem V_astore_n {κ : vK} {M : vMx} {pc q : Nat} {ls st : List Value} {F : vFt} {Ar : vAt} {x : vXt} {n : Fin 4} {v : Nat} (d : decode M.2.1 pc = .ok (.astore_n n, 1)) (hn : (n : Nat) < M.2.2.1) (ho : vOkS ls (n : Nat) = true) (hq : pc + 1 = q) (k : V κ M q (ls.set (n : Nat) (.ref v)) st F Ar x) : V κ M pc ls (.ref v :: st) F Ar x := by
  subst hq
  obtain ⟨p, l, e, R, s, m, args, below, meth, c, D, cA, ad, A, H0, cells, slots, QW⟩ := κ
  intro H locs la C hP hD hS hl
  exact lv_astore_n C.1 C.2.1 d rfl hl hn rfl (fun la' h' => k H locs la' C hP hD hS (vLs_set (v := .ref v) ho h'))
theorem V_astore {κ : vK} {M : vMx} {pc q : Nat} {ls st : List Value} {F : vFt} {Ar : vAt} {x : vXt} {n : Nat} {v : Nat} (d : decode M.2.1 pc = .ok (.astore n, 2)) (hn : n < M.2.2.1) (ho : vOkS ls n = true) (hq : pc + 2 = q) (k : V κ M q (ls.set n (.ref v)) st F Ar x) : V κ M pc ls (.ref v :: st) F Ar x := by
  subst hq
  obtain ⟨p, l, e, R, s, m, args, below, meth, c, D, cA, ad, A, H0, cells, slots, QW⟩ := κ
  intro H locs la C hP hD hS hl
  exact lv_astore C.1 C.2.1 d hl hn rfl (fun la' h' => k H locs la' C hP hD hS (vLs_set (v := .ref v) ho h'))
theorem V_lstore_n {κ : vK} {M : vMx} {pc q : Nat} {ls st : List Value} {F : vFt} {Ar : vAt} {x : vXt} {n : Fin 4} {v : Int64} (d : decode M.2.1 pc = .ok (.lstore_n n, 1)) (hn : (n : Nat) + 1 < M.2.2.1) (ho : vOkS ls (n : Nat) = true) (hq : pc + 1 = q) (k : V κ M q ((ls.set (n : Nat) (.long v)).set ((n : Nat) + 1) .null) st F Ar x) : V κ M pc ls (.long v :: st) F Ar x := by
  subst hq
  obtain ⟨p, l, e, R, s, m, args, below, meth, c, D, cA, ad, A, H0, cells, slots, QW⟩ := κ
  intro H locs la C hP hD hS hl
  exact lv_lstore_n C.1 C.2.1 d rfl hl hn rfl (fun la' h' => k H locs la' C hP hD hS (vLs_set2 (v := .long v) ho h'))
theorem V_lstore {κ : vK} {M : vMx} {pc q : Nat} {ls st : List Value} {F : vFt} {Ar : vAt} {x : vXt} {n : Nat} {v : Int64} (d : decode M.2.1 pc = .ok (.lstore n, 2)) (hn : n + 1 < M.2.2.1) (ho : vOkS ls n = true) (hq : pc + 2 = q) (k : V κ M q ((ls.set n (.long v)).set (n + 1) .null) st F Ar x) : V κ M pc ls (.long v :: st) F Ar x := by
  subst hq
  obtain ⟨p, l, e, R, s, m, args, below, meth, c, D, cA, ad, A, H0, cells, slots, QW⟩ := κ
  intro H locs la C hP hD hS hl
  exact lv_lstore C.1 C.2.1 d hl hn rfl (fun la' h' => k H locs la' C hP hD hS (vLs_set2 (v := .long v) ho h'))
theorem V_iinc {κ : vK} {M : vMx} {pc q : Nat} {ls st : List Value} {F : vFt} {Ar : vAt} {x : vXt} {i : Nat} {n : Int} {v w : Int32} (d : decode M.2.1 pc = .ok (.iinc i n, 3)) (hl0 : ls[i]? = some (.int v)) (hw : Int32.ofInt n = w) (hn : i < M.2.2.1) (ho : vOkS ls i = true) (hq : pc + 3 = q) (k : V κ M q (ls.set i (.int (v + w))) st F Ar x) : V κ M pc ls st F Ar x := by
  subst hq
  subst hw
  obtain ⟨p, l, e, R, s, m, args, below, meth, c, D, cA, ad, A, H0, cells, slots, QW⟩ := κ
  intro H locs la C hP hD hS hl
  obtain ⟨k9, hk9⟩ := List.getElem?_of_mem (vLs_mem (ad := ad) hl0 (fun h => by cases h))
  exact lv_iinc C.1 C.2.1 d hl hk9 rfl hn rfl (fun la' h' => k H locs la' C hP hD hS (vLs_set (v := .int _) ho h'))
theorem V_iadd {κ : vK} {M : vMx} {pc q : Nat} {ls st : List Value} {F : vFt} {Ar : vAt} {x : vXt} {a b : Int32} (d : decode M.2.1 pc = .ok (.iadd, 1))  (hq : pc + 1 = q) (k : V κ M q ls (.int (a + b) :: st) F Ar x) : V κ M pc ls (.int b :: .int a :: st) F Ar x := by
  subst hq
  obtain ⟨p, l, e, R, s, m, args, below, meth, c, D, cA, ad, A, H0, cells, slots, QW⟩ := κ
  intro H locs la C hP hD hS hl
  exact lv_iadd C.1 C.2.1 d (k H locs la C hP hD hS hl)
theorem V_isub {κ : vK} {M : vMx} {pc q : Nat} {ls st : List Value} {F : vFt} {Ar : vAt} {x : vXt} {a b : Int32} (d : decode M.2.1 pc = .ok (.isub, 1))  (hq : pc + 1 = q) (k : V κ M q ls (.int (a - b) :: st) F Ar x) : V κ M pc ls (.int b :: .int a :: st) F Ar x := by
  subst hq
  obtain ⟨p, l, e, R, s, m, args, below, meth, c, D, cA, ad, A, H0, cells, slots, QW⟩ := κ
  intro H locs la C hP hD hS hl
  exact lv_isub C.1 C.2.1 d (k H locs la C hP hD hS hl)
theorem V_imul {κ : vK} {M : vMx} {pc q : Nat} {ls st : List Value} {F : vFt} {Ar : vAt} {x : vXt} {a b : Int32} (d : decode M.2.1 pc = .ok (.imul, 1))  (hq : pc + 1 = q) (k : V κ M q ls (.int (a * b) :: st) F Ar x) : V κ M pc ls (.int b :: .int a :: st) F Ar x := by
  subst hq
  obtain ⟨p, l, e, R, s, m, args, below, meth, c, D, cA, ad, A, H0, cells, slots, QW⟩ := κ
  intro H locs la C hP hD hS hl
  exact lv_imul C.1 C.2.1 d (k H locs la C hP hD hS hl)
theorem V_iand {κ : vK} {M : vMx} {pc q : Nat} {ls st : List Value} {F : vFt} {Ar : vAt} {x : vXt} {a b : Int32} (d : decode M.2.1 pc = .ok (.iand, 1))  (hq : pc + 1 = q) (k : V κ M q ls (.int (a &&& b) :: st) F Ar x) : V κ M pc ls (.int b :: .int a :: st) F Ar x := by
  subst hq
  obtain ⟨p, l, e, R, s, m, args, below, meth, c, D, cA, ad, A, H0, cells, slots, QW⟩ := κ
  intro H locs la C hP hD hS hl
  exact lv_iand C.1 C.2.1 d (k H locs la C hP hD hS hl)
theorem V_ior {κ : vK} {M : vMx} {pc q : Nat} {ls st : List Value} {F : vFt} {Ar : vAt} {x : vXt} {a b : Int32} (d : decode M.2.1 pc = .ok (.ior, 1))  (hq : pc + 1 = q) (k : V κ M q ls (.int (a ||| b) :: st) F Ar x) : V κ M pc ls (.int b :: .int a :: st) F Ar x := by
  subst hq
  obtain ⟨p, l, e, R, s, m, args, below, meth, c, D, cA, ad, A, H0, cells, slots, QW⟩ := κ
  intro H locs la C hP hD hS hl
  exact lv_ior C.1 C.2.1 d (k H locs la C hP hD hS hl)
theorem V_ixor {κ : vK} {M : vMx} {pc q : Nat} {ls st : List Value} {F : vFt} {Ar : vAt} {x : vXt} {a b : Int32} (d : decode M.2.1 pc = .ok (.ixor, 1))  (hq : pc + 1 = q) (k : V κ M q ls (.int (a ^^^ b) :: st) F Ar x) : V κ M pc ls (.int b :: .int a :: st) F Ar x := by
  subst hq
  obtain ⟨p, l, e, R, s, m, args, below, meth, c, D, cA, ad, A, H0, cells, slots, QW⟩ := κ
  intro H locs la C hP hD hS hl
  exact lv_ixor C.1 C.2.1 d (k H locs la C hP hD hS hl)
theorem V_idiv {κ : vK} {M : vMx} {pc q : Nat} {ls st : List Value} {F : vFt} {Ar : vAt} {x : vXt} {a b : Int32} (d : decode M.2.1 pc = .ok (.idiv, 1)) (hne : ¬ b = 0) (hq : pc + 1 = q) (k : V κ M q ls (.int (a / b) :: st) F Ar x) : V κ M pc ls (.int b :: .int a :: st) F Ar x := by
  subst hq
  obtain ⟨p, l, e, R, s, m, args, below, meth, c, D, cA, ad, A, H0, cells, slots, QW⟩ := κ
  intro H locs la C hP hD hS hl
  exact lv_idiv C.1 C.2.1 d hne (k H locs la C hP hD hS hl)
theorem V_irem {κ : vK} {M : vMx} {pc q : Nat} {ls st : List Value} {F : vFt} {Ar : vAt} {x : vXt} {a b : Int32} (d : decode M.2.1 pc = .ok (.irem, 1)) (hne : ¬ b = 0) (hq : pc + 1 = q) (k : V κ M q ls (.int (a - a / b * b) :: st) F Ar x) : V κ M pc ls (.int b :: .int a :: st) F Ar x := by
  subst hq
  obtain ⟨p, l, e, R, s, m, args, below, meth, c, D, cA, ad, A, H0, cells, slots, QW⟩ := κ
  intro H locs la C hP hD hS hl
  exact lv_irem C.1 C.2.1 d hne (k H locs la C hP hD hS hl)
theorem V_ineg {κ : vK} {M : vMx} {pc q : Nat} {ls st : List Value} {F : vFt} {Ar : vAt} {x : vXt} {a : Int32} (d : decode M.2.1 pc = .ok (.ineg, 1))  (hq : pc + 1 = q) (k : V κ M q ls (.int (-a) :: st) F Ar x) : V κ M pc ls (.int a :: st) F Ar x := by
  subst hq
  obtain ⟨p, l, e, R, s, m, args, below, meth, c, D, cA, ad, A, H0, cells, slots, QW⟩ := κ
  intro H locs la C hP hD hS hl
  exact lv_ineg C.1 C.2.1 d (k H locs la C hP hD hS hl)
theorem V_ladd {κ : vK} {M : vMx} {pc q : Nat} {ls st : List Value} {F : vFt} {Ar : vAt} {x : vXt} {a b : Int64} (d : decode M.2.1 pc = .ok (.ladd, 1))  (hq : pc + 1 = q) (k : V κ M q ls (.long (a + b) :: st) F Ar x) : V κ M pc ls (.long b :: .long a :: st) F Ar x := by
  subst hq
  obtain ⟨p, l, e, R, s, m, args, below, meth, c, D, cA, ad, A, H0, cells, slots, QW⟩ := κ
  intro H locs la C hP hD hS hl
  exact lv_ladd C.1 C.2.1 d (k H locs la C hP hD hS hl)
theorem V_lsub {κ : vK} {M : vMx} {pc q : Nat} {ls st : List Value} {F : vFt} {Ar : vAt} {x : vXt} {a b : Int64} (d : decode M.2.1 pc = .ok (.lsub, 1))  (hq : pc + 1 = q) (k : V κ M q ls (.long (a - b) :: st) F Ar x) : V κ M pc ls (.long b :: .long a :: st) F Ar x := by
  subst hq
  obtain ⟨p, l, e, R, s, m, args, below, meth, c, D, cA, ad, A, H0, cells, slots, QW⟩ := κ
  intro H locs la C hP hD hS hl
  exact lv_lsub C.1 C.2.1 d (k H locs la C hP hD hS hl)
theorem V_lmul {κ : vK} {M : vMx} {pc q : Nat} {ls st : List Value} {F : vFt} {Ar : vAt} {x : vXt} {a b : Int64} (d : decode M.2.1 pc = .ok (.lmul, 1))  (hq : pc + 1 = q) (k : V κ M q ls (.long (a * b) :: st) F Ar x) : V κ M pc ls (.long b :: .long a :: st) F Ar x := by
  subst hq
  obtain ⟨p, l, e, R, s, m, args, below, meth, c, D, cA, ad, A, H0, cells, slots, QW⟩ := κ
  intro H locs la C hP hD hS hl
  exact lv_lmul C.1 C.2.1 d (k H locs la C hP hD hS hl)
theorem V_ldiv {κ : vK} {M : vMx} {pc q : Nat} {ls st : List Value} {F : vFt} {Ar : vAt} {x : vXt} {a b : Int64} (d : decode M.2.1 pc = .ok (.ldiv, 1)) (hne : ¬ b = 0) (hq : pc + 1 = q) (k : V κ M q ls (.long (a / b) :: st) F Ar x) : V κ M pc ls (.long b :: .long a :: st) F Ar x := by
  subst hq
  obtain ⟨p, l, e, R, s, m, args, below, meth, c, D, cA, ad, A, H0, cells, slots, QW⟩ := κ
  intro H locs la C hP hD hS hl
  exact lv_ldiv C.1 C.2.1 d hne (k H locs la C hP hD hS hl)
theorem V_lcmp {κ : vK} {M : vMx} {pc q : Nat} {ls st : List Value} {F : vFt} {Ar : vAt} {x : vXt} {a b : Int64} (d : decode M.2.1 pc = .ok (.lcmp, 1))  (hq : pc + 1 = q) (k : V κ M q ls (.int (lg_cmp a b) :: st) F Ar x) : V κ M pc ls (.long b :: .long a :: st) F Ar x := by
  subst hq
  obtain ⟨p, l, e, R, s, m, args, below, meth, c, D, cA, ad, A, H0, cells, slots, QW⟩ := κ
  intro H locs la C hP hD hS hl
  exact W.lcmp C.1 C.2.1 d (k H locs la C hP hD hS hl)
theorem V_ishl {κ : vK} {M : vMx} {pc q : Nat} {ls st : List Value} {F : vFt} {Ar : vAt} {x : vXt} {a b : Int32} (d : decode M.2.1 pc = .ok (.ishl, 1))  (hq : pc + 1 = q) (k : V κ M q ls (.int (a <<< (b &&& 31)) :: st) F Ar x) : V κ M pc ls (.int b :: .int a :: st) F Ar x := by
  subst hq
  obtain ⟨p, l, e, R, s, m, args, below, meth, c, D, cA, ad, A, H0, cells, slots, QW⟩ := κ
  intro H locs la C hP hD hS hl
  exact lv_ishl C.1 C.2.1 d (k H locs la C hP hD hS hl)
theorem V_ishr {κ : vK} {M : vMx} {pc q : Nat} {ls st : List Value} {F : vFt} {Ar : vAt} {x : vXt} {a b : Int32} (d : decode M.2.1 pc = .ok (.ishr, 1))  (hq : pc + 1 = q) (k : V κ M q ls (.int (a >>> (b &&& 31)) :: st) F Ar x) : V κ M pc ls (.int b :: .int a :: st) F Ar x := by
  subst hq
  obtain ⟨p, l, e, R, s, m, args, below, meth, c, D, cA, ad, A, H0, cells, slots, QW⟩ := κ
  intro H locs la C hP hD hS hl
  exact lv_ishr C.1 C.2.1 d (k H locs la C hP hD hS hl)
theorem V_iushr {κ : vK} {M : vMx} {pc q : Nat} {ls st : List Value} {F : vFt} {Ar : vAt} {x : vXt} {a b : Int32} (d : decode M.2.1 pc = .ok (.iushr, 1))  (hq : pc + 1 = q) (k : V κ M q ls (.int ((a.toUInt32 >>> (b.toUInt32 &&& Int32.toUInt32 31)).toInt32) :: st) F Ar x) : V κ M pc ls (.int b :: .int a :: st) F Ar x := by
  subst hq
  obtain ⟨p, l, e, R, s, m, args, below, meth, c, D, cA, ad, A, H0, cells, slots, QW⟩ := κ
  intro H locs la C hP hD hS hl
  exact lv_iushr C.1 C.2.1 d rfl (k H locs la C hP hD hS hl)
theorem V_i2l {κ : vK} {M : vMx} {pc q : Nat} {ls st : List Value} {F : vFt} {Ar : vAt} {x : vXt} {a : Int32} (d : decode M.2.1 pc = .ok (.i2l, 1))  (hq : pc + 1 = q) (k : V κ M q ls (.long a.toInt64 :: st) F Ar x) : V κ M pc ls (.int a :: st) F Ar x := by
  subst hq
  obtain ⟨p, l, e, R, s, m, args, below, meth, c, D, cA, ad, A, H0, cells, slots, QW⟩ := κ
  intro H locs la C hP hD hS hl
  exact lv_i2l C.1 C.2.1 d rfl (k H locs la C hP hD hS hl)
theorem V_l2i {κ : vK} {M : vMx} {pc q : Nat} {ls st : List Value} {F : vFt} {Ar : vAt} {x : vXt} {a : Int64} (d : decode M.2.1 pc = .ok (.l2i, 1))  (hq : pc + 1 = q) (k : V κ M q ls (.int a.toInt32 :: st) F Ar x) : V κ M pc ls (.long a :: st) F Ar x := by
  subst hq
  obtain ⟨p, l, e, R, s, m, args, below, meth, c, D, cA, ad, A, H0, cells, slots, QW⟩ := κ
  intro H locs la C hP hD hS hl
  exact lv_l2i C.1 C.2.1 d rfl (k H locs la C hP hD hS hl)
theorem V_dup {κ : vK} {M : vMx} {pc q : Nat} {ls st : List Value} {F : vFt} {Ar : vAt} {x : vXt} {v : Value} (d : decode M.2.1 pc = .ok (.dup, 1)) (hv : v.category = 1) (hq : pc + 1 = q) (k : V κ M q ls (v :: v :: st) F Ar x) : V κ M pc ls (v :: st) F Ar x := by
  subst hq
  obtain ⟨p, l, e, R, s, m, args, below, meth, c, D, cA, ad, A, H0, cells, slots, QW⟩ := κ
  intro H locs la C hP hD hS hl
  exact lv_dup C.1 C.2.1 d ((vV_cat ad v).trans hv) (k H locs la C hP hD hS hl)
theorem V_pop {κ : vK} {M : vMx} {pc q : Nat} {ls st : List Value} {F : vFt} {Ar : vAt} {x : vXt} {v : Value} (d : decode M.2.1 pc = .ok (.pop, 1)) (hv : v.category = 1) (hq : pc + 1 = q) (k : V κ M q ls ( st) F Ar x) : V κ M pc ls (v :: st) F Ar x := by
  subst hq
  obtain ⟨p, l, e, R, s, m, args, below, meth, c, D, cA, ad, A, H0, cells, slots, QW⟩ := κ
  intro H locs la C hP hD hS hl
  exact lv_pop C.1 C.2.1 d ((vV_cat ad v).trans hv) (k H locs la C hP hD hS hl)
theorem V_dup2 {κ : vK} {M : vMx} {pc q : Nat} {ls st : List Value} {F : vFt} {Ar : vAt} {x : vXt} {v w : Value} (d : decode M.2.1 pc = .ok (.dup2, 1)) (hv : v.category = 1) (hw : w.category = 1) (hq : pc + 1 = q) (k : V κ M q ls (v :: w :: v :: w :: st) F Ar x) : V κ M pc ls (v :: w :: st) F Ar x := by
  subst hq
  obtain ⟨p, l, e, R, s, m, args, below, meth, c, D, cA, ad, A, H0, cells, slots, QW⟩ := κ
  intro H locs la C hP hD hS hl
  exact lv_dup2_11 C.1 C.2.1 d ((vV_cat ad v).trans hv) ((vV_cat ad w).trans hw) (k H locs la C hP hD hS hl)
theorem V_if_eq {κ : vK} {M : vMx} {pc q : Nat} {ls st : List Value} {F : vFt} {Ar : vAt} {x : vXt} {a : Int32} {off : Int} {tgt : Nat} (d : decode M.2.1 pc = .ok (.ifCond .eq off, 3)) (ht : (pc : Int) + off = (tgt : Int)) (hq : pc + 3 = q) (kt : a = 0 → V κ M tgt ls st F Ar x) (kf : ¬ (a = 0) → V κ M q ls st F Ar x) : V κ M pc ls (.int a :: st) F Ar x := by
  subst hq
  obtain ⟨p, l, e, R, s, m, args, below, meth, c, D, cA, ad, A, H0, cells, slots, QW⟩ := κ
  intro H locs la C hP hD hS hl
  exact lv_if_eq C.1 C.2.1 d ht (fun h => kt h H locs la C hP hD hS hl) (fun h => kf h H locs la C hP hD hS hl)
theorem V_icmp_eq {κ : vK} {M : vMx} {pc q : Nat} {ls st : List Value} {F : vFt} {Ar : vAt} {x : vXt} {a b : Int32} {off : Int} {tgt : Nat} (d : decode M.2.1 pc = .ok (.if_icmp .eq off, 3)) (ht : (pc : Int) + off = (tgt : Int)) (hq : pc + 3 = q) (kt : a = b → V κ M tgt ls st F Ar x) (kf : ¬ (a = b) → V κ M q ls st F Ar x) : V κ M pc ls (.int b :: .int a :: st) F Ar x := by
  subst hq
  obtain ⟨p, l, e, R, s, m, args, below, meth, c, D, cA, ad, A, H0, cells, slots, QW⟩ := κ
  intro H locs la C hP hD hS hl
  exact lv_icmp_eq C.1 C.2.1 d ht (fun h => kt h H locs la C hP hD hS hl) (fun h => kf h H locs la C hP hD hS hl)
theorem V_if_ne {κ : vK} {M : vMx} {pc q : Nat} {ls st : List Value} {F : vFt} {Ar : vAt} {x : vXt} {a : Int32} {off : Int} {tgt : Nat} (d : decode M.2.1 pc = .ok (.ifCond .ne off, 3)) (ht : (pc : Int) + off = (tgt : Int)) (hq : pc + 3 = q) (kt : ¬ a = 0 → V κ M tgt ls st F Ar x) (kf : a = 0 → V κ M q ls st F Ar x) : V κ M pc ls (.int a :: st) F Ar x := by
  subst hq
  obtain ⟨p, l, e, R, s, m, args, below, meth, c, D, cA, ad, A, H0, cells, slots, QW⟩ := κ
  intro H locs la C hP hD hS hl
  exact lv_if_ne C.1 C.2.1 d ht (fun h => kt h H locs la C hP hD hS hl) (fun h => kf h H locs la C hP hD hS hl)
theorem V_icmp_ne {κ : vK} {M : vMx} {pc q : Nat} {ls st : List Value} {F : vFt} {Ar : vAt} {x : vXt} {a b : Int32} {off : Int} {tgt : Nat} (d : decode M.2.1 pc = .ok (.if_icmp .ne off, 3)) (ht : (pc : Int) + off = (tgt : Int)) (hq : pc + 3 = q) (kt : ¬ a = b → V κ M tgt ls st F Ar x) (kf : a = b → V κ M q ls st F Ar x) : V κ M pc ls (.int b :: .int a :: st) F Ar x := by
  subst hq
  obtain ⟨p, l, e, R, s, m, args, below, meth, c, D, cA, ad, A, H0, cells, slots, QW⟩ := κ
  intro H locs la C hP hD hS hl
  exact lv_icmp_ne C.1 C.2.1 d ht (fun h => kt h H locs la C hP hD hS hl) (fun h => kf h H locs la C hP hD hS hl)
theorem V_if_lt {κ : vK} {M : vMx} {pc q : Nat} {ls st : List Value} {F : vFt} {Ar : vAt} {x : vXt} {a : Int32} {off : Int} {tgt : Nat} (d : decode M.2.1 pc = .ok (.ifCond .lt off, 3)) (ht : (pc : Int) + off = (tgt : Int)) (hq : pc + 3 = q) (kt : a < 0 → V κ M tgt ls st F Ar x) (kf : ¬ (a < 0) → V κ M q ls st F Ar x) : V κ M pc ls (.int a :: st) F Ar x := by
  subst hq
  obtain ⟨p, l, e, R, s, m, args, below, meth, c, D, cA, ad, A, H0, cells, slots, QW⟩ := κ
  intro H locs la C hP hD hS hl
  exact lv_if_lt C.1 C.2.1 d ht (fun h => kt h H locs la C hP hD hS hl) (fun h => kf h H locs la C hP hD hS hl)
theorem V_icmp_lt {κ : vK} {M : vMx} {pc q : Nat} {ls st : List Value} {F : vFt} {Ar : vAt} {x : vXt} {a b : Int32} {off : Int} {tgt : Nat} (d : decode M.2.1 pc = .ok (.if_icmp .lt off, 3)) (ht : (pc : Int) + off = (tgt : Int)) (hq : pc + 3 = q) (kt : a < b → V κ M tgt ls st F Ar x) (kf : ¬ (a < b) → V κ M q ls st F Ar x) : V κ M pc ls (.int b :: .int a :: st) F Ar x := by
  subst hq
  obtain ⟨p, l, e, R, s, m, args, below, meth, c, D, cA, ad, A, H0, cells, slots, QW⟩ := κ
  intro H locs la C hP hD hS hl
  exact lv_icmp_lt C.1 C.2.1 d ht (fun h => kt h H locs la C hP hD hS hl) (fun h => kf h H locs la C hP hD hS hl)
theorem V_if_ge {κ : vK} {M : vMx} {pc q : Nat} {ls st : List Value} {F : vFt} {Ar : vAt} {x : vXt} {a : Int32} {off : Int} {tgt : Nat} (d : decode M.2.1 pc = .ok (.ifCond .ge off, 3)) (ht : (pc : Int) + off = (tgt : Int)) (hq : pc + 3 = q) (kt : 0 ≤ a → V κ M tgt ls st F Ar x) (kf : ¬ (0 ≤ a) → V κ M q ls st F Ar x) : V κ M pc ls (.int a :: st) F Ar x := by
  subst hq
  obtain ⟨p, l, e, R, s, m, args, below, meth, c, D, cA, ad, A, H0, cells, slots, QW⟩ := κ
  intro H locs la C hP hD hS hl
  exact lv_if_ge C.1 C.2.1 d ht (fun h => kt h H locs la C hP hD hS hl) (fun h => kf h H locs la C hP hD hS hl)
theorem V_icmp_ge {κ : vK} {M : vMx} {pc q : Nat} {ls st : List Value} {F : vFt} {Ar : vAt} {x : vXt} {a b : Int32} {off : Int} {tgt : Nat} (d : decode M.2.1 pc = .ok (.if_icmp .ge off, 3)) (ht : (pc : Int) + off = (tgt : Int)) (hq : pc + 3 = q) (kt : b ≤ a → V κ M tgt ls st F Ar x) (kf : ¬ (b ≤ a) → V κ M q ls st F Ar x) : V κ M pc ls (.int b :: .int a :: st) F Ar x := by
  subst hq
  obtain ⟨p, l, e, R, s, m, args, below, meth, c, D, cA, ad, A, H0, cells, slots, QW⟩ := κ
  intro H locs la C hP hD hS hl
  exact lv_icmp_ge C.1 C.2.1 d ht (fun h => kt h H locs la C hP hD hS hl) (fun h => kf h H locs la C hP hD hS hl)
theorem V_if_gt {κ : vK} {M : vMx} {pc q : Nat} {ls st : List Value} {F : vFt} {Ar : vAt} {x : vXt} {a : Int32} {off : Int} {tgt : Nat} (d : decode M.2.1 pc = .ok (.ifCond .gt off, 3)) (ht : (pc : Int) + off = (tgt : Int)) (hq : pc + 3 = q) (kt : 0 < a → V κ M tgt ls st F Ar x) (kf : ¬ (0 < a) → V κ M q ls st F Ar x) : V κ M pc ls (.int a :: st) F Ar x := by
  subst hq
  obtain ⟨p, l, e, R, s, m, args, below, meth, c, D, cA, ad, A, H0, cells, slots, QW⟩ := κ
  intro H locs la C hP hD hS hl
  exact lv_if_gt C.1 C.2.1 d ht (fun h => kt h H locs la C hP hD hS hl) (fun h => kf h H locs la C hP hD hS hl)
theorem V_icmp_gt {κ : vK} {M : vMx} {pc q : Nat} {ls st : List Value} {F : vFt} {Ar : vAt} {x : vXt} {a b : Int32} {off : Int} {tgt : Nat} (d : decode M.2.1 pc = .ok (.if_icmp .gt off, 3)) (ht : (pc : Int) + off = (tgt : Int)) (hq : pc + 3 = q) (kt : b < a → V κ M tgt ls st F Ar x) (kf : ¬ (b < a) → V κ M q ls st F Ar x) : V κ M pc ls (.int b :: .int a :: st) F Ar x := by
  subst hq
  obtain ⟨p, l, e, R, s, m, args, below, meth, c, D, cA, ad, A, H0, cells, slots, QW⟩ := κ
  intro H locs la C hP hD hS hl
  exact lv_icmp_gt C.1 C.2.1 d ht (fun h => kt h H locs la C hP hD hS hl) (fun h => kf h H locs la C hP hD hS hl)
theorem V_if_le {κ : vK} {M : vMx} {pc q : Nat} {ls st : List Value} {F : vFt} {Ar : vAt} {x : vXt} {a : Int32} {off : Int} {tgt : Nat} (d : decode M.2.1 pc = .ok (.ifCond .le off, 3)) (ht : (pc : Int) + off = (tgt : Int)) (hq : pc + 3 = q) (kt : a ≤ 0 → V κ M tgt ls st F Ar x) (kf : ¬ (a ≤ 0) → V κ M q ls st F Ar x) : V κ M pc ls (.int a :: st) F Ar x := by
  subst hq
  obtain ⟨p, l, e, R, s, m, args, below, meth, c, D, cA, ad, A, H0, cells, slots, QW⟩ := κ
  intro H locs la C hP hD hS hl
  exact lv_if_le C.1 C.2.1 d ht (fun h => kt h H locs la C hP hD hS hl) (fun h => kf h H locs la C hP hD hS hl)
theorem V_icmp_le {κ : vK} {M : vMx} {pc q : Nat} {ls st : List Value} {F : vFt} {Ar : vAt} {x : vXt} {a b : Int32} {off : Int} {tgt : Nat} (d : decode M.2.1 pc = .ok (.if_icmp .le off, 3)) (ht : (pc : Int) + off = (tgt : Int)) (hq : pc + 3 = q) (kt : a ≤ b → V κ M tgt ls st F Ar x) (kf : ¬ (a ≤ b) → V κ M q ls st F Ar x) : V κ M pc ls (.int b :: .int a :: st) F Ar x := by
  subst hq
  obtain ⟨p, l, e, R, s, m, args, below, meth, c, D, cA, ad, A, H0, cells, slots, QW⟩ := κ
  intro H locs la C hP hD hS hl
  exact lv_icmp_le C.1 C.2.1 d ht (fun h => kt h H locs la C hP hD hS hl) (fun h => kf h H locs la C hP hD hS hl)
theorem V_goto {κ : vK} {M : vMx} {pc q : Nat} {ls st : List Value} {F : vFt} {Ar : vAt} {x : vXt} {off : Int} (d : decode M.2.1 pc = .ok (.goto off, 3)) (hq : (pc : Int) + off = (q : Int)) (k : V κ M q ls st F Ar x) : V κ M pc ls st F Ar x := by
  obtain ⟨p, l, e, R, s, m, args, below, meth, c, D, cA, ad, A, H0, cells, slots, QW⟩ := κ
  intro H locs la C hP hD hS hl
  exact lv_goto C.1 C.2.1 d hq (k H locs la C hP hD hS hl)
theorem V_lookup {κ : vK} {M : vMx} {pc q : Nat} {ls st : List Value} {F : vFt} {Ar : vAt} {x : vXt} {dflt : Int} {ps : Array (Int × Int)} {len : Nat} {a : Int32} {off : Int} (d : decode M.2.1 pc = .ok (.lookupswitch dflt ps, len)) (hp : (ps.toList.zip (ps.toList.drop 1)).all (fun (a, next) => a.1 < next.1) = true) (ho : Op.lookupswitch.offset ps.toList dflt a.toInt = off) (hq : (pc : Int) + off = (q : Int)) (k : V κ M q ls st F Ar x) : V κ M pc ls (.int a :: st) F Ar x := by
  obtain ⟨p, l, e, R, s, m, args, below, meth, c, D, cA, ad, A, H0, cells, slots, QW⟩ := κ
  intro H locs la C hP hD hS hl
  exact lv_lookup C.1 C.2.1 d hp ho hq (k H locs la C hP hD hS hl)
theorem V_tableOut {κ : vK} {M : vMx} {pc q : Nat} {ls st : List Value} {F : vFt} {Ar : vAt} {x : vXt} {dflt lo hi : Int} {offs : Array Int} {len : Nat} {a : Int32} (d : decode M.2.1 pc = .ok (.tableswitch dflt lo hi offs, len)) (h : a.toInt < lo ∨ hi < a.toInt) (hq : (pc : Int) + dflt = (q : Int)) (k : V κ M q ls st F Ar x) : V κ M pc ls (.int a :: st) F Ar x := by
  obtain ⟨p, l, e, R, s, m, args, below, meth, c, D, cA, ad, A, H0, cells, slots, QW⟩ := κ
  intro H locs la C hP hD hS hl
  exact lv_tableOut C.1 C.2.1 d h hq (k H locs la C hP hD hS hl)
theorem V_tableIn {κ : vK} {M : vMx} {pc q : Nat} {ls st : List Value} {F : vFt} {Ar : vAt} {x : vXt} {dflt lo hi : Int} {offs : Array Int} {len : Nat} {a : Int32} {off : Int} (d : decode M.2.1 pc = .ok (.tableswitch dflt lo hi offs, len)) (h1 : ¬ a.toInt < lo) (h2 : ¬ hi < a.toInt) (ho : offs[(a.toInt - lo).toNat]? = some off) (hq : (pc : Int) + off = (q : Int)) (k : V κ M q ls st F Ar x) : V κ M pc ls (.int a :: st) F Ar x := by
  obtain ⟨p, l, e, R, s, m, args, below, meth, c, D, cA, ad, A, H0, cells, slots, QW⟩ := κ
  intro H locs la C hP hD hS hl
  exact lv_tableIn C.1 C.2.1 d h1 h2 ho hq (k H locs la C hP hD hS hl)
theorem V_getI {κ : vK} {M : vMx} {pc q : Nat} {ls st : List Value} {F : vFt} {Ar : vAt} {x : vXt} {index : Nat} (o j : Nat) {n : Nat} (hf : Cond.fieldLink M.1.cls index (vT o j).1 (vT o j).2.1 (vT o j).2.2.1 ∈ lw_good) (ho : o < 7) (hj : j < vNf o) (hr : vRf o j = 0) (hn : 64 * o + j = n) (d : decode M.2.1 pc = .ok (.getfield index, 3)) (hq : pc + 3 = q) (k : V κ M q ls (.int (F n) :: st) F Ar x) : V κ M pc ls (.ref o :: st) F Ar x := by
  subst hq
  subst hn
  obtain ⟨p, l, e, R, s, m, args, below, meth, c, D, cA, ad, A, H0, cells, slots, QW⟩ := κ
  intro H locs la C hP hD hS hl
  exact va_get (D := D) (ci := o) (v := .int (F (64 * o + j))) C.1 C.2.1 C.2.2.2.2.1 (vCl_in o ho) C.2.2.2.1 C.2.2.2.2.2.1 hP o (vW_obj ho) (vCl_at o ho) j hj (C.2.2.2.2.1 _ hf) (fun _ h9 => h9) (by simp [hj, vFl, hr]) d (k H locs la C hP hD hS hl)
theorem V_getR {κ : vK} {M : vMx} {pc q : Nat} {ls st : List Value} {F : vFt} {Ar : vAt} {x : vXt} {index : Nat} (o j : Nat) {n : Nat} (hf : Cond.fieldLink M.1.cls index (vT o j).1 (vT o j).2.1 (vT o j).2.2.1 ∈ lw_good) (ho : o < 7) (hj : j < vNf o) (hr : vRf o j = n) (hn : n ≠ 0) (d : decode M.2.1 pc = .ok (.getfield index, 3)) (hq : pc + 3 = q) (k : V κ M q ls (.ref n :: st) F Ar x) : V κ M pc ls (.ref o :: st) F Ar x := by
  subst hq
  subst hr
  obtain ⟨p, l, e, R, s, m, args, below, meth, c, D, cA, ad, A, H0, cells, slots, QW⟩ := κ
  intro H locs la C hP hD hS hl
  exact va_get (D := D) (ci := o) (v := .ref (ad (vRf o j))) C.1 C.2.1 C.2.2.2.2.1 (vCl_in o ho) C.2.2.2.1 C.2.2.2.2.2.1 hP o (vW_obj ho) (vCl_at o ho) j hj (C.2.2.2.2.1 _ hf) (fun _ h9 => h9) (by simp [hj, vFl, hn]) d (k H locs la C hP hD hS hl)
theorem V_putI {κ : vK} {M : vMx} {pc q : Nat} {ls st : List Value} {F : vFt} {Ar : vAt} {x : vXt} {index : Nat} (o j : Nat) {n : Nat} {v : Int32} (hf : Cond.fieldLink M.1.cls index (vT o j).1 (vT o j).2.1 (vT o j).2.2.1 ∈ lw_good) (ho : o < 7) (hj : j < vNf o) (hr : vRf o j = 0) (hn : 64 * o + j = n) (d : decode M.2.1 pc = .ok (.putfield index, 3)) (hq : pc + 3 = q) (k : V κ M q ls st (upd F n v) Ar x) : V κ M pc ls (.int v :: .ref o :: st) F Ar x := by
  subst hq
  subst hn
  obtain ⟨p, l, e, R, s, m, args, below, meth, c, D, cA, ad, A, H0, cells, slots, QW⟩ := κ
  intro H locs la C hP hD hS hl
  refine va_put (D := D) (ci := o) (v := .int v) (ty := .int) C.1 C.2.1 C.2.2.2.2.1 (vCl_in o ho) (vTy o) (vCl_ty o ho) (vCl_nm o ho) C.2.2.2.1 C.2.2.2.2.2.1 hP hD hS o (vW_obj ho) (vCl_at o ho) j hj (C.2.2.2.2.1 _ hf) (fun _ h9 => h9) (vCl_int o ho j hj hr).1 (vCl_int o ho j hj hr).2 rfl rfl (by simp [hj]) d (fun H1 locs1 hP1 hD1 hS1 => ?_)
  rw [vW_setF ho hj hr] at hP1 hD1
  exact k H1 locs1 la C hP1 hD1 hS1 hl
theorem V_iald {κ : vK} {M : vMx} {pc q : Nat} {ls st : List Value} {F : vFt} {Ar : vAt} {x : vXt} {a : Nat} {i : Int32} (h9 : 9 ≤ a) (ha : a < 66 + x.1) (ht : vTyA a = 0) (hin : vp_in i (vLen a)) (d : decode M.2.1 pc = .ok (.iaload, 1)) (hq : pc + 1 = q) (k : V κ M q ls (.int (Ar a i.toNatClampNeg) :: st) F Ar x) : V κ M pc ls (.int i :: .ref a :: st) F Ar x := by
  subst hq
  obtain ⟨p, l, e, R, s, m, args, below, meth, c, D, cA, ad, A, H0, cells, slots, QW⟩ := κ
  intro H locs la C hP hD hS hl
  exact va_iald C.1 C.2.1 C.2.2.2.2.2.1 hP a 0 (vW_arr h9 ha) (by rw [ht]; rfl) hin d (k H locs la C hP hD hS hl)
theorem V_zald {κ : vK} {M : vMx} {pc q : Nat} {ls st : List Value} {F : vFt} {Ar : vAt} {x : vXt} {a : Nat} {i : Int32} (h9 : 9 ≤ a) (ha : a < 66 + x.1) (ht : vTyA a = 1) (hin : vp_in i (vLen a)) (d : decode M.2.1 pc = .ok (.baload, 1)) (hq : pc + 1 = q) (k : V κ M q ls (.int (Ar a i.toNatClampNeg) :: st) F Ar x) : V κ M pc ls (.int i :: .ref a :: st) F Ar x := by
  subst hq
  obtain ⟨p, l, e, R, s, m, args, below, meth, c, D, cA, ad, A, H0, cells, slots, QW⟩ := κ
  intro H locs la C hP hD hS hl
  exact va_zald C.1 C.2.1 C.2.2.2.2.2.1 hP a 1 (vW_arr h9 ha) (by rw [ht]; rfl) hin d (k H locs la C hP hD hS hl)
theorem V_iast {κ : vK} {M : vMx} {pc q : Nat} {ls st : List Value} {F : vFt} {Ar : vAt} {x : vXt} {a : Nat} {i v : Int32} (h9 : 9 ≤ a) (ha : a < 66 + x.1) (ht : vTyA a = 0) (hin : vp_in i (vLen a)) (d : decode M.2.1 pc = .ok (.iastore, 1)) (hq : pc + 1 = q) (k : V κ M q ls st F (vS Ar a (upd (Ar a) i.toNatClampNeg v)) x) : V κ M pc ls (.int v :: .int i :: .ref a :: st) F Ar x := by
  subst hq
  obtain ⟨p, l, e, R, s, m, args, below, meth, c, D, cA, ad, A, H0, cells, slots, QW⟩ := κ
  intro H locs la C hP hD hS hl
  refine va_iast C.1 C.2.1 C.2.2.2.2.2.1 hP hD hS a 0 (vW_arr h9 ha) (by rw [ht]; rfl) hin d (fun H1 locs1 hP1 hD1 hS1 => ?_)
  rw [vW_setA h9 ha] at hP1 hD1
  exact k H1 locs1 la C hP1 hD1 hS1 hl
theorem V_zast {κ : vK} {M : vMx} {pc q : Nat} {ls st : List Value} {F : vFt} {Ar : vAt} {x : vXt} {a : Nat} {i v : Int32} (h9 : 9 ≤ a) (ha : a < 66 + x.1) (ht : vTyA a = 1) (hin : vp_in i (vLen a)) (d : decode M.2.1 pc = .ok (.bastore, 1)) (hq : pc + 1 = q) (k : V κ M q ls st F (vS Ar a (upd (Ar a) i.toNatClampNeg (vp_nar .boolean v))) x) : V κ M pc ls (.int v :: .int i :: .ref a :: st) F Ar x := by
  subst hq
  obtain ⟨p, l, e, R, s, m, args, below, meth, c, D, cA, ad, A, H0, cells, slots, QW⟩ := κ
  intro H locs la C hP hD hS hl
  refine va_zast C.1 C.2.1 C.2.2.2.2.2.1 hP hD hS a 1 (vW_arr h9 ha) (by rw [ht]; rfl) hin d (fun H1 locs1 hP1 hD1 hS1 => ?_)
  rw [vW_setA h9 ha] at hP1 hD1
  exact k H1 locs1 la C hP1 hD1 hS1 hl
theorem V_alen {κ : vK} {M : vMx} {pc q : Nat} {ls st : List Value} {F : vFt} {Ar : vAt} {x : vXt} {a n : Nat} (h9 : 9 ≤ a) (ha : a < 66 + x.1) (hn : vLen a = n) (d : decode M.2.1 pc = .ok (.arraylength, 1)) (hq : pc + 1 = q) (k : V κ M q ls (.int (nI n) :: st) F Ar x) : V κ M pc ls (.ref a :: st) F Ar x := by
  subst hq
  subst hn
  obtain ⟨p, l, e, R, s, m, args, below, meth, c, D, cA, ad, A, H0, cells, slots, QW⟩ := κ
  intro H locs la C hP hD hS hl
  exact va_alen (ty := if vTyA a = 0 then .int else .boolean) C.1 C.2.1 C.2.2.2.2.2.1 hP a (vTyA a) (vW_arr h9 ha) (by unfold vTyA; split <;> rfl) rfl d (k H locs la C hP hD hS hl)
