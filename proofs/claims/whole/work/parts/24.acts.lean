/-- the byte of v at a place -/
def vByte (v : Int32) (n : Nat) : Int32 := (v >>> ((8 * nI n) &&& 31)) &&& 255
theorem byte_a1 : ∀ n, n < 4 → (((8 * nI n) &&& 31).toBitVec.smod 32).toNat = 8 * n := by decide +kernel
theorem byte_a2 : ∀ n, n < 4 → (((8 * nI n).toUInt32 &&& Int32.toUInt32 31).toBitVec % 32).toNat = 8 * n := by decide +kernel
theorem byte_eq (v : Int32) {n : Nat} (hn : n < 4) : ((v.toUInt32 >>> ((8 * nI n).toUInt32 &&& Int32.toUInt32 31)).toInt32 &&& 255) = vByte v n := by
  unfold vByte
  rw [pk_and _ 8 (by decide), pk_and _ 8 (by decide), pk_ushr v _ (8 * n) (byte_a2 n hn)]
  congr 1
  have h := pk_shr v ((8 * nI n) &&& 31) (8 * n) (byte_a1 n hn)
  have h1 : (v >>> ((8 * nI n) &&& 31)).toInt = (v >>> ((8 * nI n) &&& 31)).toBitVec.toInt := rfl
  have h2 : v.toInt = v.toBitVec.toInt := rfl
  rw [h1, h2, BitVec.toInt_eq_toNat_cond, BitVec.toInt_eq_toNat_cond, Int.shiftRight_eq_div_pow] at h
  have hb1 := (v >>> ((8 * nI n) &&& 31)).toBitVec.isLt
  have hb2 := v.toBitVec.isLt
  generalize (v >>> ((8 * nI n) &&& 31)).toBitVec.toNat = y at *
  generalize v.toBitVec.toNat = w at *
  match n, hn with
  | 0, _ => simp at h ⊢; split at h <;> split at h <;> omega
  | 1, _ => simp at h ⊢; split at h <;> split at h <;> omega
  | 2, _ => simp at h ⊢; split at h <;> split at h <;> omega
  | 3, _ => simp at h ⊢; split at h <;> split at h <;> omega
def nLetF (v : Int32) : Nat → Nat → Nat
  | 0, n => n
  | m + 1, n => if vByte v n = 0 then n else nLetF v m (n + 1)
/-- how many letters v has -/
def nLet (v : Int32) : Nat := nLetF v 4 0
theorem nLetF_le (v : Int32) : ∀ m n, nLetF v m n ≤ n + m := by
  intro m
  induction m with
  | zero => intro n; exact Nat.le_refl _
  | succ m ih =>
    intro n
    unfold nLetF
    split
    · omega
    · have := ih (n + 1)
      omega
theorem nLet_le (v : Int32) : nLet v ≤ 4 := nLetF_le v 4 0
/-- the letters of v come behind c others -/
def fdA (f : Nat → Int32) (c : Nat) (v : Int32) : Nat → Nat → Int32
  | 0 => f
  | i + 1 => upd (fdA f c v i) (c + i) (vByte v i)
theorem tX0_lettersFed {F : vFt} {Ar : vAt} {x : vXt}   : C0 mX0_lettersFed 0 [.ref 1] F Ar x (vEq (some (.int (F 65))) F Ar) := by
  refine C0_of (by decide +kernel) (Nat.le_of_ble_eq_true rfl) (fun κ hκ => ?_)
  show V κ mX0_lettersFed 0 [.ref 1] [] F Ar x
  refine V_aload_n (q := 1) dX0_lettersFed_0 rfl rfl ?_
  refine V_getI (q := 4) (n := 65) 1 1 kf_X0_41 (by decide) (by decide) rfl rfl dX0_lettersFed_1 rfl ?_
  exact V_iret hκ rfl rfl dX0_lettersFed_4 vEq.rf
theorem tX0_letterAt {F : vFt} {Ar : vAt} {x : vXt} {v : Int32} {n : Nat} (hn : n < 4) : C0 mX0_letterAt 0 [.int v, .int (nI n)] F Ar x (vEq (some (.int (vByte v n))) F Ar) := by
  refine C0_of (by decide +kernel) (Nat.le_of_ble_eq_true rfl) (fun κ hκ => ?_)
  show V κ mX0_letterAt 0 [.int v, .int (nI n)] [] F Ar x
  refine V_iload_n (q := 1) dX0_letterAt_0 rfl rfl ?_
  refine V_bipush (q := 3) (v := 8) dX0_letterAt_1 (by decide) rfl ?_
  refine V_iload_n (q := 4) dX0_letterAt_3 rfl rfl ?_
  refine V_imul (q := 5) dX0_letterAt_4 rfl ?_
  refine V_iushr (q := 6) dX0_letterAt_5 rfl ?_
  refine V_sipush (q := 9) (v := 255) dX0_letterAt_6 (by decide) rfl ?_
  refine V_iand (q := 10) dX0_letterAt_9 rfl ?_
  exact V_iret hκ rfl rfl dX0_letterAt_10 ⟨congrArg (fun z => some (Value.int z)) (byte_eq v hn), rfl, rfl⟩
theorem lp_X0_in {F : vFt} {Ar : vAt} {x : vXt} {v : Int32} {κ : vK} (hκ : vStd κ 1 x (vEq (some (.int (nI (nLet v)))) F Ar)) : ∀ m n, n + m = 4 → nLet v = nLetF v m n → V κ mX0_lettersIn 2 [.int v, .int (nI n)] [] F Ar x := by
  intro m
  induction m with
  | zero =>
    intro n hn hv
    obtain rfl : n = 4 := by omega
    refine V_iload_n (q := 3) dX0_lettersIn_2 rfl rfl ?_
    refine V_iconst (q := 4) (v := 4) dX0_lettersIn_3 (by decide) rfl ?_
    refine V_icmp_ge (tgt := 21) (q := 7) dX0_lettersIn_4 (by decide) rfl (fun c_4 => ?_) (fun c_4 => absurd c_4 (v_gt (i := 4) (n := 4) (by decide) (by decide) (Nat.le_refl _)))
    refine V_iload_n (q := 22) dX0_lettersIn_21 rfl rfl ?_
    exact V_iret hκ rfl rfl dX0_lettersIn_22 ⟨by rw [hv]; rfl, rfl, rfl⟩
  | succ m ih =>
    intro n hn hv
    refine V_iload_n (q := 3) dX0_lettersIn_2 rfl rfl ?_
    refine V_iconst (q := 4) (v := 4) dX0_lettersIn_3 (by decide) rfl ?_
    refine V_icmp_ge (tgt := 21) (q := 7) dX0_lettersIn_4 (by decide) rfl (fun c_4 => absurd c_4 (v_gf (n := 4) (by omega) (by decide) (by omega))) (fun c_4 => ?_)
    refine V_iload_n (q := 8) dX0_lettersIn_7 rfl rfl ?_
    refine V_iload_n (q := 9) dX0_lettersIn_8 rfl rfl ?_
    refine V_cS2I (q := 12) (N := mX0_letterAt) (tX0_letterAt (by omega)) hκ.big (by decide) gX0_letterAt kl_X0_48 kt_X0_letterAt (Nat.le_of_ble_eq_true rfl) dX0_lettersIn_9 rfl ?_
    refine V_if_eq (tgt := 21) (q := 15) dX0_lettersIn_12 (by decide) rfl (fun c_12 => ?_) (fun c_12 => ?_)
    · refine V_iload_n (q := 22) dX0_lettersIn_21 rfl rfl ?_
      exact V_iret hκ rfl rfl dX0_lettersIn_22 ⟨by rw [hv, nLetF, if_pos c_12], rfl, rfl⟩
    · refine V_iincN (q := 18) dX0_lettersIn_15 rfl (Nat.le_of_ble_eq_true rfl) rfl rfl ?_
      refine V_goto (q := 2) dX0_lettersIn_18 (by decide) ?_
      exact ih (n + 1) (by omega) (by rw [hv, nLetF, if_neg c_12])
theorem tX0_lettersIn {F : vFt} {Ar : vAt} {x : vXt} {v : Int32}  : C0 mX0_lettersIn 1 [.int v] F Ar x (vEq (some (.int (nI (nLet v)))) F Ar) := by
  refine C0_of (by decide +kernel) (Nat.le_of_ble_eq_true rfl) (fun κ hκ => ?_)
  show V κ mX0_lettersIn 0 [.int v, .null] [] F Ar x
  refine V_iconst (q := 1) (v := 0) dX0_lettersIn_0 (by decide) rfl ?_
  refine V_istore_n (q := 2) dX0_lettersIn_1 (Nat.le_of_ble_eq_true rfl) rfl rfl ?_
  exact lp_X0_in hκ 4 0 rfl rfl
theorem lp_X0_take {F : vFt} {Ar : vAt} {x : vXt} {v : Int32} {c : Nat} {κ : vK} (hκ : vStd κ 2 x (vEq (some (.int (if c + nLet v ≤ 40 then nI (c + nLet v) else -2))) (if c + nLet v ≤ 40 then upd F 65 (nI (c + nLet v)) else F) (if c + nLet v ≤ 40 then vS Ar 9 (fdA (Ar 9) c v (nLet v)) else Ar))) (hc : F 65 = nI c) (hc40 : c + nLet v ≤ 40) : ∀ k i, i + k = nLet v → V κ mX0_takeLetters 21 [.ref 1, .int v, .int (nI (nLet v)), .int (nI i)] [] F (vS Ar 9 (fdA (Ar 9) c v i)) x := by
  intro k
  induction k with
  | zero =>
    intro i hi
    have h4 := nLet_le v
    have hi2 : i = nLet v := by omega
    refine V_iload_n (q := 22) dX0_takeLetters_21 rfl rfl ?_
    refine V_iload_n (q := 23) dX0_takeLetters_22 rfl rfl ?_
    refine V_icmp_ge (tgt := 48) (q := 26) dX0_takeLetters_23 (by decide) rfl (fun c_23 => ?_) (fun c_23 => absurd c_23 (v_gt (by omega) (by omega) (by omega)))
    refine V_aload_n (q := 49) dX0_takeLetters_48 rfl rfl ?_
    refine V_dup (q := 50) dX0_takeLetters_49 rfl rfl ?_
    refine V_getI (q := 53) (n := 65) 1 1 kf_X0_41 (by decide) (by decide) rfl rfl dX0_takeLetters_50 rfl ?_
    refine V_iload_n (q := 54) dX0_takeLetters_53 rfl rfl ?_
    refine V_iadd (q := 55) dX0_takeLetters_54 rfl ?_
    refine V_putI (q := 58) (n := 65) 1 1 kf_X0_41 (by decide) (by decide) rfl rfl dX0_takeLetters_55 rfl ?_
    refine V_aload_n (q := 59) dX0_takeLetters_58 rfl rfl ?_
    refine V_getI (q := 62) (n := 65) 1 1 kf_X0_41 (by decide) (by decide) rfl rfl dX0_takeLetters_59 rfl ?_
    exact V_iret hκ rfl rfl dX0_takeLetters_62 (by simp only [if_pos hc40]; exact ⟨by show some (Value.int (F 65 + _)) = _; rw [hc, nI_add], by rw [hc, nI_add], by rw [hi2]⟩)
  | succ k ih =>
    intro i hi
    have h4 := nLet_le v
    refine V_iload_n (q := 22) dX0_takeLetters_21 rfl rfl ?_
    refine V_iload_n (q := 23) dX0_takeLetters_22 rfl rfl ?_
    refine V_icmp_ge (tgt := 48) (q := 26) dX0_takeLetters_23 (by decide) rfl (fun c_23 => absurd c_23 (v_gf (by omega) (by omega) (by omega))) (fun c_23 => ?_)
    refine V_aload_n (q := 27) dX0_takeLetters_26 rfl rfl ?_
    refine V_getR (q := 30) (n := 9) 1 0 kf_X0_13 (by decide) (by decide) rfl (by decide) dX0_takeLetters_27 rfl ?_
    refine V_aload_n (q := 31) dX0_takeLetters_30 rfl rfl ?_
    refine V_getI (q := 34) (n := 65) 1 1 kf_X0_41 (by decide) (by decide) rfl rfl dX0_takeLetters_31 rfl ?_
    refine V_iload_n (q := 35) dX0_takeLetters_34 rfl rfl ?_
    refine V_iadd (q := 36) dX0_takeLetters_35 rfl ?_
    refine V_iload_n (q := 37) dX0_takeLetters_36 rfl rfl ?_
    refine V_iload_n (q := 38) dX0_takeLetters_37 rfl rfl ?_
    refine V_cS2I (q := 41) (N := mX0_letterAt) (tX0_letterAt (by omega)) hκ.big (by decide) gX0_letterAt kl_X0_48 kt_X0_letterAt (Nat.le_of_ble_eq_true rfl) dX0_takeLetters_38 rfl ?_
    refine V_ist (q := 42) (c + i) 40 (by rw [hc, nI_add]) (by omega) (by decide) (by omega) (by decide) rfl (by decide) dX0_takeLetters_41 rfl ?_
    refine V_iincN (q := 45) dX0_takeLetters_42 rfl (Nat.le_of_ble_eq_true rfl) rfl rfl ?_
    refine V_goto (q := 21) dX0_takeLetters_45 (by decide) ?_
    refine V_ar (vS Ar 9 (fdA (Ar 9) c v (i + 1))) (by rw [vS_vS, vS_at]; rfl) ?_
    exact ih (i + 1) (by omega)
theorem tX0_takeLetters {F : vFt} {Ar : vAt} {x : vXt} {v : Int32} {c : Nat} (hc : F 65 = nI c) (hc4 : c ≤ 40) : C0 mX0_takeLetters 2 [.ref 1, .int v] F Ar x (vEq (some (.int (if c + nLet v ≤ 40 then nI (c + nLet v) else -2))) (if c + nLet v ≤ 40 then upd F 65 (nI (c + nLet v)) else F) (if c + nLet v ≤ 40 then vS Ar 9 (fdA (Ar 9) c v (nLet v)) else Ar)) := by
  refine C0_of (by decide +kernel) (Nat.le_of_ble_eq_true rfl) (fun κ hκ => ?_)
  show V κ mX0_takeLetters 0 [.ref 1, .int v, .null, .null] [] F Ar x
  refine V_iload_n (q := 1) dX0_takeLetters_0 rfl rfl ?_
  refine V_cS1I (q := 4) (N := mX0_lettersIn) tX0_lettersIn hκ.big (by decide) gX0_lettersIn kl_X0_44 kt_X0_lettersIn (Nat.le_of_ble_eq_true rfl) dX0_takeLetters_1 rfl ?_
  refine V_istore_n (q := 5) dX0_takeLetters_4 (Nat.le_of_ble_eq_true rfl) rfl rfl ?_
  refine V_aload_n (q := 6) dX0_takeLetters_5 rfl rfl ?_
  refine V_getI (q := 9) (n := 65) 1 1 kf_X0_41 (by decide) (by decide) rfl rfl dX0_takeLetters_6 rfl ?_
  refine V_iload_n (q := 10) dX0_takeLetters_9 rfl rfl ?_
  refine V_iadd (q := 11) dX0_takeLetters_10 rfl ?_
  have h4 := nLet_le v
  have h40 : nI (c + nLet v) ≤ nI 40 ↔ c + nLet v ≤ 40 := nI_leI (by omega) (by decide)
  refine V_top (nI (c + nLet v)) (by rw [hc, nI_add]) ?_
  refine V_bipush (q := 13) (v := 40) dX0_takeLetters_11 (by decide) rfl ?_
  refine V_icmp_le (tgt := 19) (q := 16) dX0_takeLetters_13 (by decide) rfl (fun c_13 => ?_) (fun c_13 => ?_)
  · refine V_iconst (q := 20) (v := 0) dX0_takeLetters_19 (by decide) rfl ?_
    refine V_istore_n (q := 21) dX0_takeLetters_20 (Nat.le_of_ble_eq_true rfl) rfl rfl ?_
    refine V_ar (vS Ar 9 (fdA (Ar 9) c v 0)) (vS_self (Ar := Ar) (a := 9)).symm ?_
    exact lp_X0_take hκ hc (h40.mp c_13) (nLet v) 0 (by omega)
  · refine V_bipush (q := 18) (v := (-2)) dX0_takeLetters_16 (by decide) rfl ?_
    exact V_iret hκ rfl rfl dX0_takeLetters_18 (by simp only [if_neg (fun h => c_13 (h40.mpr h) : ¬ c + nLet v ≤ 40)]; exact vEq.rf)
theorem tX0_dropLetters {F : vFt} {Ar : vAt} {x : vXt}   : C0 mX0_dropLetters 1 [.ref 1] F Ar x (vEq (some (.int (F 65))) (upd F 65 0) (vS Ar 9 (vFill (Ar 9) 40 0))) := by
  refine C0_of (by decide +kernel) (Nat.le_of_ble_eq_true rfl) (fun κ hκ => ?_)
  show V κ mX0_dropLetters 0 [.ref 1, .null] [] F Ar x
  refine V_aload_n (q := 1) dX0_dropLetters_0 rfl rfl ?_
  refine V_getI (q := 4) (n := 65) 1 1 kf_X0_41 (by decide) (by decide) rfl rfl dX0_dropLetters_1 rfl ?_
  refine V_istore_n (q := 5) dX0_dropLetters_4 (Nat.le_of_ble_eq_true rfl) rfl rfl ?_
  refine V_aload_n (q := 6) dX0_dropLetters_5 rfl rfl ?_
  refine V_getR (q := 9) (n := 9) 1 0 kf_X0_13 (by decide) (by decide) rfl (by decide) dX0_dropLetters_6 rfl ?_
  refine V_iconst (q := 10) (v := 0) dX0_dropLetters_9 (by decide) rfl ?_
  refine V_cS2U (q := 13) (N := mJ7_fill_53178) (tJ7_fill_53178 (n := 40) (by decide) (by omega) (by decide) rfl (by decide)) hκ.big (by decide) gJ7_fill_53178 kl_X0_52 kt_J7_fill_53178 (Nat.le_of_ble_eq_true rfl) dX0_dropLetters_10 rfl ?_
  refine V_aload_n (q := 14) dX0_dropLetters_13 rfl rfl ?_
  refine V_iconst (q := 15) (v := 0) dX0_dropLetters_14 (by decide) rfl ?_
  refine V_putI (q := 18) (n := 65) 1 1 kf_X0_41 (by decide) (by decide) rfl rfl dX0_dropLetters_15 rfl ?_
  refine V_iload_n (q := 19) dX0_dropLetters_18 rfl rfl ?_
  exact V_iret hκ rfl rfl dX0_dropLetters_19 vEq.rf
/-- the act in force: of the first i -/
def onD (dy : Nat → Int32) (day : Int32) : Nat → Option Nat
  | 0 => none
  | i + 1 => if dy i ≤ day then (match onD dy day i with
    | none => some i
    | some j => if dy j ≤ dy i then some i else some j) else onD dy day i
theorem onD_lt {dy : Nat → Int32} {day : Int32} : ∀ i j, onD dy day i = some j → j < i := by
  intro i
  induction i with
  | zero => intro j h; cases h
  | succ i ih =>
    intro j h
    unfold onD at h
    split at h
    · split at h
      · cases h; omega
      · rename_i j' hj
        have := ih j' hj
        split at h <;> (cases h; omega)
    · have := ih j h
      omega
def oI (o : Option Nat) : Int32 := match o with
  | none => -4
  | some j => nI j
theorem lp_X0_on {F : vFt} {Ar : vAt} {x : vXt} {n : Nat} {day : Int32} {κ : vK} (hκ : vStd κ 0 x (vEq (some (.int (oI (onD (Ar 15) day n)))) F Ar)) (hn : F 68 = nI n) (hn5 : n ≤ 5) : ∀ k i, i + k = n → V κ mX0_onDay 5 [.ref 1, .int day, .int (oI (onD (Ar 15) day i)), .int (nI i)] [] F Ar x := by
  intro k
  induction k with
  | zero =>
    intro i hi
    obtain rfl : i = n := by omega
    refine V_iload_n (q := 6) dX0_onDay_5 rfl rfl ?_
    refine V_aload_n (q := 7) dX0_onDay_6 rfl rfl ?_
    refine V_getI (q := 10) (n := 68) 1 4 kf_X0_33 (by decide) (by decide) rfl rfl dX0_onDay_7 rfl ?_
    rw [hn]
    refine V_icmp_ge (tgt := 50) (q := 13) dX0_onDay_10 (by decide) rfl (fun c_10 => ?_) (fun c_10 => absurd c_10 (v_gt (by omega) (by omega) (Nat.le_refl _)))
    refine V_iload_n (q := 51) dX0_onDay_50 rfl rfl ?_
    exact V_iret hκ rfl rfl dX0_onDay_51 vEq.rf
  | succ k ih =>
    intro i hi
    have ih2 := ih (i + 1) (by omega)
    unfold onD at ih2
    cases ho : onD (Ar 15) day i with
    | none =>
      rw [ho] at ih2
      show V κ mX0_onDay 5 [.ref 1, .int day, .int (-4), .int (nI i)] [] F Ar x
      refine V_iload_n (q := 6) dX0_onDay_5 rfl rfl ?_
      refine V_aload_n (q := 7) dX0_onDay_6 rfl rfl ?_
      refine V_getI (q := 10) (n := 68) 1 4 kf_X0_33 (by decide) (by decide) rfl rfl dX0_onDay_7 rfl ?_
      rw [hn]
      refine V_icmp_ge (tgt := 50) (q := 13) dX0_onDay_10 (by decide) rfl (fun c_10 => absurd c_10 (v_gf (by omega) (by omega) (by omega))) (fun c_10 => ?_)
      refine V_aload_n (q := 14) dX0_onDay_13 rfl rfl ?_
      refine V_getR (q := 17) (n := 15) 1 3 kf_X0_22 (by decide) (by decide) rfl (by decide) dX0_onDay_14 rfl ?_
      refine V_iload_n (q := 18) dX0_onDay_17 rfl rfl ?_
      refine V_ild (q := 19) (i) 5 rfl (by omega) (by decide) (by omega) (by decide) rfl (by decide) dX0_onDay_18 rfl ?_
      refine V_iload_n (q := 20) dX0_onDay_19 rfl rfl ?_
      refine V_icmp_gt (tgt := 44) (q := 23) dX0_onDay_20 (by decide) rfl (fun c_20 => ?_) (fun c_20 => ?_)
      · refine V_iincN (q := 47) dX0_onDay_44 rfl (Nat.le_of_ble_eq_true rfl) rfl rfl ?_
        refine V_goto (q := 5) dX0_onDay_47 (by decide) ?_
        rw [if_neg (v_nlt c_20)] at ih2
        exact ih2
      · refine V_iload_n (q := 24) dX0_onDay_23 rfl rfl ?_
        refine V_if_lt (tgt := 42) (q := 27) dX0_onDay_24 (by decide) rfl (fun c_24 => ?_) (fun c_24 => absurd (by decide : (-4 : Int32) < 0) c_24)
        refine V_iload_n (q := 43) dX0_onDay_42 rfl rfl ?_
        refine V_istore_n (q := 44) dX0_onDay_43 (Nat.le_of_ble_eq_true rfl) rfl rfl ?_
        refine V_iincN (q := 47) dX0_onDay_44 rfl (Nat.le_of_ble_eq_true rfl) rfl rfl ?_
        refine V_goto (q := 5) dX0_onDay_47 (by decide) ?_
        rw [if_pos (v_nle c_20)] at ih2
        exact ih2
    | some j =>
      rw [ho] at ih2
      have hj := onD_lt _ _ ho
      show V κ mX0_onDay 5 [.ref 1, .int day, .int (nI j), .int (nI i)] [] F Ar x
      simp only [] at ih2
      refine V_iload_n (q := 6) dX0_onDay_5 rfl rfl ?_
      refine V_aload_n (q := 7) dX0_onDay_6 rfl rfl ?_
      refine V_getI (q := 10) (n := 68) 1 4 kf_X0_33 (by decide) (by decide) rfl rfl dX0_onDay_7 rfl ?_
      rw [hn]
      refine V_icmp_ge (tgt := 50) (q := 13) dX0_onDay_10 (by decide) rfl (fun c_10 => absurd c_10 (v_gf (by omega) (by omega) (by omega))) (fun c_10 => ?_)
      refine V_aload_n (q := 14) dX0_onDay_13 rfl rfl ?_
      refine V_getR (q := 17) (n := 15) 1 3 kf_X0_22 (by decide) (by decide) rfl (by decide) dX0_onDay_14 rfl ?_
      refine V_iload_n (q := 18) dX0_onDay_17 rfl rfl ?_
      refine V_ild (q := 19) (i) 5 rfl (by omega) (by decide) (by omega) (by decide) rfl (by decide) dX0_onDay_18 rfl ?_
      refine V_iload_n (q := 20) dX0_onDay_19 rfl rfl ?_
      refine V_icmp_gt (tgt := 44) (q := 23) dX0_onDay_20 (by decide) rfl (fun c_20 => ?_) (fun c_20 => ?_)
      · refine V_iincN (q := 47) dX0_onDay_44 rfl (Nat.le_of_ble_eq_true rfl) rfl rfl ?_
        refine V_goto (q := 5) dX0_onDay_47 (by decide) ?_
        rw [if_neg (v_nlt c_20)] at ih2
        exact ih2
      · refine V_iload_n (q := 24) dX0_onDay_23 rfl rfl ?_
        refine V_if_lt (tgt := 42) (q := 27) dX0_onDay_24 (by decide) rfl (fun c_24 => absurd c_24 (nI_pos (by omega))) (fun c_24 => ?_)
        refine V_aload_n (q := 28) dX0_onDay_27 rfl rfl ?_
        refine V_getR (q := 31) (n := 15) 1 3 kf_X0_22 (by decide) (by decide) rfl (by decide) dX0_onDay_28 rfl ?_
        refine V_iload_n (q := 32) dX0_onDay_31 rfl rfl ?_
        refine V_ild (q := 33) (i) 5 rfl (by omega) (by decide) (by omega) (by decide) rfl (by decide) dX0_onDay_32 rfl ?_
        refine V_aload_n (q := 34) dX0_onDay_33 rfl rfl ?_
        refine V_getR (q := 37) (n := 15) 1 3 kf_X0_22 (by decide) (by decide) rfl (by decide) dX0_onDay_34 rfl ?_
        refine V_iload_n (q := 38) dX0_onDay_37 rfl rfl ?_
        refine V_ild (q := 39) (j) 5 rfl (by omega) (by decide) (by omega) (by decide) rfl (by decide) dX0_onDay_38 rfl ?_
        refine V_icmp_lt (tgt := 44) (q := 42) dX0_onDay_39 (by decide) rfl (fun c_39 => ?_) (fun c_39 => ?_)
        · refine V_iincN (q := 47) dX0_onDay_44 rfl (Nat.le_of_ble_eq_true rfl) rfl rfl ?_
          refine V_goto (q := 5) dX0_onDay_47 (by decide) ?_
          rw [if_pos (v_nle c_20), if_neg (v_nlt c_39)] at ih2
          exact ih2
        · refine V_iload_n (q := 43) dX0_onDay_42 rfl rfl ?_
          refine V_istore_n (q := 44) dX0_onDay_43 (Nat.le_of_ble_eq_true rfl) rfl rfl ?_
          refine V_iincN (q := 47) dX0_onDay_44 rfl (Nat.le_of_ble_eq_true rfl) rfl rfl ?_
          refine V_goto (q := 5) dX0_onDay_47 (by decide) ?_
          rw [if_pos (v_nle c_20), if_pos (v_nle c_39)] at ih2
          exact ih2
theorem tX0_onDay {F : vFt} {Ar : vAt} {x : vXt} {n : Nat} {day : Int32} (hn : F 68 = nI n) (hn5 : n ≤ 5) : C0 mX0_onDay 0 [.ref 1, .int day] F Ar x (vEq (some (.int (oI (onD (Ar 15) day n)))) F Ar) := by
  refine C0_of (by decide +kernel) (Nat.le_of_ble_eq_true rfl) (fun κ hκ => ?_)
  show V κ mX0_onDay 0 [.ref 1, .int day, .null, .null] [] F Ar x
  refine V_bipush (q := 2) (v := (-4)) dX0_onDay_0 (by decide) rfl ?_
  refine V_istore_n (q := 3) dX0_onDay_2 (Nat.le_of_ble_eq_true rfl) rfl rfl ?_
  refine V_iconst (q := 4) (v := 0) dX0_onDay_3 (by decide) rfl ?_
  refine V_istore_n (q := 5) dX0_onDay_4 (Nat.le_of_ble_eq_true rfl) rfl rfl ?_
  exact lp_X0_on hκ hn hn5 n 0 (by omega)
