/-! facts for making, out of the tables -/
theorem ko_X5 : Cond.methodLink RX5 1 Lib.objectInit ∈ lw_good := List.mem_filter.mpr ⟨List.mem_append_right _ (List.mem_of_getElem? (i := 16) (by decide +kernel)), rfl⟩
theorem ko_X0 : Cond.methodLink RX0 5 Lib.objectInit ∈ lw_good := List.mem_filter.mpr ⟨List.mem_append_right _ (List.mem_of_getElem? (i := 24) (by decide +kernel)), rfl⟩
theorem ko_X4 : Cond.methodLink RX4 3 Lib.objectInit ∈ lw_good := List.mem_filter.mpr ⟨List.mem_append_right _ (List.mem_of_getElem? (i := 32) (by decide +kernel)), rfl⟩
theorem ko_X1 : Cond.methodLink RX1 3 Lib.objectInit ∈ lw_good := List.mem_filter.mpr ⟨List.mem_append_right _ (List.mem_of_getElem? (i := 83) (by decide +kernel)), rfl⟩
theorem ko_X2 : Cond.methodLink RX2 7 Lib.objectInit ∈ lw_good := List.mem_filter.mpr ⟨List.mem_append_right _ (List.mem_of_getElem? (i := 96) (by decide +kernel)), rfl⟩
theorem ko_X3 : Cond.methodLink RX3 3 Lib.objectInit ∈ lw_good := List.mem_filter.mpr ⟨List.mem_append_right _ (List.mem_of_getElem? (i := 192) (by decide +kernel)), rfl⟩
theorem ko_X6 : Cond.methodLink RX6 1 Lib.objectInit ∈ lw_good := List.mem_filter.mpr ⟨List.mem_append_right _ (List.mem_of_getElem? (i := 618) (by decide +kernel)), rfl⟩
theorem ko_inst : Cond.instanceMethod Lib.objectInit ∈ lw_good := List.mem_filter.mpr ⟨List.mem_append_right _ (List.mem_of_getElem? (i := 17) (by decide +kernel)), rfl⟩
theorem ko_code : Cond.code Lib.objectInit ⟨#[0xb1]⟩ 1 none ∈ lw_good := List.mem_filter.mpr ⟨List.mem_append_right _ (List.mem_of_getElem? (i := 18) (by decide +kernel)), rfl⟩
theorem kk_L_7 : Cond.classLink RL 7 RX5 ∈ lw_good := List.mem_filter.mpr ⟨List.mem_append_right _ (List.mem_of_getElem? (i := 11) (by decide +kernel)), rfl⟩
theorem kk_X5_7 : Cond.classLink RX5 7 RX0 ∈ lw_good := List.mem_filter.mpr ⟨List.mem_append_right _ (List.mem_of_getElem? (i := 19) (by decide +kernel)), rfl⟩
theorem kk_X0_17 : Cond.classLink RX0 17 ("[" ++ (FieldType.array .int).toString) ∈ lw_good := by
  rw [show ("[" ++ (FieldType.array .int).toString) = "[[I" by decide +kernel]
  exact List.mem_filter.mpr ⟨List.mem_append_right _ (List.mem_of_getElem? (i := 25) (by decide +kernel)), rfl⟩
theorem kk_X0_11 : Cond.classLink RX0 11 RX4 ∈ lw_good := List.mem_filter.mpr ⟨List.mem_append_right _ (List.mem_of_getElem? (i := 27) (by decide +kernel)), rfl⟩
theorem kk_X5_16 : Cond.classLink RX5 16 RX1 ∈ lw_good := List.mem_filter.mpr ⟨List.mem_append_right _ (List.mem_of_getElem? (i := 78) (by decide +kernel)), rfl⟩
theorem kk_X5_23 : Cond.classLink RX5 23 RX2 ∈ lw_good := List.mem_filter.mpr ⟨List.mem_append_right _ (List.mem_of_getElem? (i := 91) (by decide +kernel)), rfl⟩
theorem kk_X5_30 : Cond.classLink RX5 30 RX3 ∈ lw_good := List.mem_filter.mpr ⟨List.mem_append_right _ (List.mem_of_getElem? (i := 187) (by decide +kernel)), rfl⟩
theorem kk_L_10 : Cond.classLink RL 10 RX6 ∈ lw_good := List.mem_filter.mpr ⟨List.mem_append_right _ (List.mem_of_getElem? (i := 613) (by decide +kernel)), rfl⟩
theorem kz_X5 : Cond.instantiable RX5 4 ∈ lw_good := List.mem_filter.mpr ⟨List.mem_append_right _ (List.mem_of_getElem? (i := 12) (by decide +kernel)), rfl⟩
theorem kz_X0 : Cond.instantiable RX0 7 ∈ lw_good := List.mem_filter.mpr ⟨List.mem_append_right _ (List.mem_of_getElem? (i := 20) (by decide +kernel)), rfl⟩
theorem kz_X4 : Cond.instantiable RX4 7 ∈ lw_good := List.mem_filter.mpr ⟨List.mem_append_right _ (List.mem_of_getElem? (i := 28) (by decide +kernel)), rfl⟩
theorem kz_X1 : Cond.instantiable RX1 2 ∈ lw_good := List.mem_filter.mpr ⟨List.mem_append_right _ (List.mem_of_getElem? (i := 79) (by decide +kernel)), rfl⟩
theorem kz_X2 : Cond.instantiable RX2 9 ∈ lw_good := List.mem_filter.mpr ⟨List.mem_append_right _ (List.mem_of_getElem? (i := 92) (by decide +kernel)), rfl⟩
theorem kz_X3 : Cond.instantiable RX3 12 ∈ lw_good := List.mem_filter.mpr ⟨List.mem_append_right _ (List.mem_of_getElem? (i := 188) (by decide +kernel)), rfl⟩
theorem kz_X6 : Cond.instantiable RX6 33 ∈ lw_good := List.mem_filter.mpr ⟨List.mem_append_right _ (List.mem_of_getElem? (i := 614) (by decide +kernel)), rfl⟩
section
variable {κ : lK} {M : vMx} {pc q : Nat} {lv lv' : List (Nat × Value)} {st : List Value} {ws : va_W} {cells slots : Nat}
theorem L_sub (lv' : List (Nat × Value)) (h : ∀ q ∈ lv', q ∈ lv) (k : L κ M pc lv' st ws cells slots) : L κ M pc lv st ws cells slots := by
  obtain ⟨p, l, e, R, s, m, args, below, meth, c, D, cA, A, H0, QW⟩ := κ
  intro H locs la C hP hD hS hl
  exact k H locs la C hP hD hS ⟨hl.1, hl.2.1, fun q hq => hl.2.2 q (h q hq)⟩
end
