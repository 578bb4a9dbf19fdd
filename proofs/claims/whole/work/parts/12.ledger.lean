abbrev gT : Type := (Nat → Int32) × (Nat → Int32) × (Nat → Int32) × (Nat → Int32)
/-- how it stands: what is owned, pledged, held, which pledges stand -/
def gGet (Ar : vAt) : gT := (Ar 27, Ar 28, Ar 29, Ar 24)
def gPut (Ar : vAt) (s : gT) : vAt := vS (vS (vS (vS Ar 27 s.1) 28 s.2.1) 29 s.2.2.1) 24 s.2.2.2
def gSet (a1 a2 : Nat → Nat) (p : Nat) (v n : Int32) (s : gT) : gT := (s.1, upd s.2.1 (a1 p) (s.2.1 (a1 p) + n), upd s.2.2.1 (a2 p) (s.2.2.1 (a2 p) + n), upd s.2.2.2 p v)
def gMove (a1 a2 : Nat → Nat) (e : Nat) (n : Int32) (s : gT) : gT := (upd (upd s.1 (a1 e) (s.1 (a1 e) - n)) (a2 e) (upd s.1 (a1 e) (s.1 (a1 e) - n) (a2 e) + n), s.2.1, s.2.2.1, s.2.2.2)
/-- an entry that isn't forged: whether it takes effect, and how it stands then -/
def gEff (kd am : Nat → Int32) (rd a1 a2 : Nat → Nat) (e : Nat) (s : gT) : Bool × gT :=
  if kd e = 0 then (if am e ≤ s.1 (a1 e) - s.2.1 (a1 e) then (true, gMove a1 a2 e (am e) s) else (false, s))
  else if kd e = 1 then (if am e ≤ s.1 (a1 e) - s.2.1 (a1 e) then (true, gSet a1 a2 e 1 (am e) s) else (false, s))
  else if s.2.2.2 (rd e) = 0 then (false, s) else (true, gSet a1 a2 (rd e) 0 (-(am (rd e))) s)
def gCol (T : Nat → Int32) (c : Nat) : Nat → Int32 := fun e => T (e * 9 + c)
def gIx (f : Nat → Int32) : Nat → Nat := fun e => (f e).toNatClampNeg
theorem gIx_eq {f : Nat → Int32} {e a : Nat} (h : f e = nI a) (ha : a < 2 ^ 31) : gIx f e = a := v_cl a h ha
theorem gPut_get (Ar : vAt) : gPut Ar (gGet Ar) = Ar := by
  unfold gPut gGet
  funext b
  simp only [vS]
  by_cases h1 : b = 24 <;> by_cases h2 : b = 29 <;> by_cases h3 : b = 28 <;> by_cases h4 : b = 27 <;> simp_all
theorem tX2_account {F : vFt} {Ar : vAt} {x : vXt} {h c : Nat}  : C0 mX2_account 0 [.int (nI h), .int (nI c)] F Ar x (vEq (some (.int (nI (h * 8 + c)))) F Ar) := by
  refine C0_of (by decide +kernel) (Nat.le_of_ble_eq_true rfl) (fun κ hκ => ?_)
  show V κ mX2_account 0 [.int (nI h), .int (nI c)] [] F Ar x
  refine V_iload_n (q := 1) dX2_account_0 rfl rfl ?_
  refine V_bipush (q := 3) (v := 8) dX2_account_1 (by decide) rfl ?_
  refine V_imul (q := 4) dX2_account_3 rfl ?_
  refine V_iload_n (q := 5) dX2_account_4 rfl rfl ?_
  refine V_iadd (q := 6) dX2_account_5 rfl ?_
  exact V_iret hκ rfl rfl dX2_account_6 ⟨congrArg (fun z => some (Value.int z)) (v_ma h 8 c), rfl, rfl⟩
theorem tX2_told {F : vFt} {Ar : vAt} {x : vXt} {e c : Nat} (he : e < 60) (hc : c < 9) : C0 mX2_told 0 [.ref 4, .int (nI e), .int (nI c)] F Ar x (vEq (some (.int (Ar 23 (e * 9 + c)))) F Ar) := by
  refine C0_of (by decide +kernel) (Nat.le_of_ble_eq_true rfl) (fun κ hκ => ?_)
  show V κ mX2_told 0 [.ref 4, .int (nI e), .int (nI c)] [] F Ar x
  refine V_aload_n (q := 1) dX2_told_0 rfl rfl ?_
  refine V_getR (q := 4) (n := 23) 4 0 kf_X2_13 (by decide) (by decide) rfl (by decide) dX2_told_1 rfl ?_
  refine V_iload_n (q := 5) dX2_told_4 rfl rfl ?_
  refine V_bipush (q := 7) (v := 9) dX2_told_5 (by decide) rfl ?_
  refine V_imul (q := 8) dX2_told_7 rfl ?_
  refine V_iload_n (q := 9) dX2_told_8 rfl rfl ?_
  refine V_iadd (q := 10) dX2_told_9 rfl ?_
  refine V_ild (q := 11) (e * 9 + c) 540 (v_ma e 9 c) (by omega) (by decide) (by omega) (by decide) rfl (by decide) dX2_told_10 rfl ?_
  exact V_iret hκ rfl rfl dX2_told_11 vEq.rf
theorem tX2_put {F : vFt} {Ar : vAt} {x : vXt} {e c : Nat} {v : Int32} (he : e < 60) (hc : c < 9) : C0 mX2_put 0 [.ref 4, .int (nI e), .int (nI c), .int v] F Ar x (vEq none F (vS Ar 23 (upd (Ar 23) (e * 9 + c) v))) := by
  refine C0_of (by decide +kernel) (Nat.le_of_ble_eq_true rfl) (fun κ hκ => ?_)
  show V κ mX2_put 0 [.ref 4, .int (nI e), .int (nI c), .int v] [] F Ar x
  refine V_aload_n (q := 1) dX2_put_0 rfl rfl ?_
  refine V_getR (q := 4) (n := 23) 4 0 kf_X2_13 (by decide) (by decide) rfl (by decide) dX2_put_1 rfl ?_
  refine V_iload_n (q := 5) dX2_put_4 rfl rfl ?_
  refine V_bipush (q := 7) (v := 9) dX2_put_5 (by decide) rfl ?_
  refine V_imul (q := 8) dX2_put_7 rfl ?_
  refine V_iload_n (q := 9) dX2_put_8 rfl rfl ?_
  refine V_iadd (q := 10) dX2_put_9 rfl ?_
  refine V_iload_n (q := 11) dX2_put_10 rfl rfl ?_
  refine V_ist (q := 12) (e * 9 + c) 540 (v_ma e 9 c) (by omega) (by decide) (by omega) (by decide) rfl (by decide) dX2_put_11 rfl ?_
  exact V_vret hκ rfl dX2_put_12 vEq.rf
theorem tX2_isForged {F : vFt} {Ar : vAt} {x : vXt} {e : Nat} (he : e < 60) : C0 mX2_isForged 1 [.ref 4, .int (nI e)] F Ar x (vEq (some (.int (vB (Ar 23 (e * 9 + 5) = 1)))) F Ar) := by
  refine C0_of (by decide +kernel) (Nat.le_of_ble_eq_true rfl) (fun κ hκ => ?_)
  show V κ mX2_isForged 0 [.ref 4, .int (nI e)] [] F Ar x
  refine V_aload_n (q := 1) dX2_isForged_0 rfl rfl ?_
  refine V_iload_n (q := 2) dX2_isForged_1 rfl rfl ?_
  refine V_iconst (q := 3) (v := 5) dX2_isForged_2 (by decide) rfl ?_
  refine V_cV2I (q := 6) (o := 4) (N := mX2_told) (tX2_told (c := 5) he (by decide)) hκ.big (by decide) gX2_told kl_X2_50 ki_X2_told ks_X2_told (by decide) rfl (Nat.le_of_ble_eq_true rfl) dX2_isForged_3 rfl ?_
  refine V_iconst (q := 7) (v := 1) dX2_isForged_6 (by decide) rfl ?_
  refine V_icmp_ne (tgt := 14) (q := 10) dX2_isForged_7 (by decide) rfl (fun c_7 => ?_) (fun c_7 => ?_)
  · refine V_iconst (q := 15) (v := 0) dX2_isForged_14 (by decide) rfl ?_
    exact V_iret hκ rfl (by first | rfl | exact vB_nar) dX2_isForged_15 ⟨by rw [vB_f c_7], rfl, rfl⟩
  · refine V_iconst (q := 11) (v := 1) dX2_isForged_10 (by decide) rfl ?_
    refine V_goto (q := 15) dX2_isForged_11 (by decide) ?_
    exact V_iret hκ rfl (by first | rfl | exact vB_nar) dX2_isForged_15 ⟨by rw [vB_t c_7], rfl, rfl⟩
theorem tX2_freeOf {F : vFt} {Ar : vAt} {x : vXt} {a : Nat} (ha : a < 40) : C0 mX2_freeOf 0 [.ref 4, .int (nI a)] F Ar x (vEq (some (.int (Ar 27 a - Ar 28 a))) F Ar) := by
  refine C0_of (by decide +kernel) (Nat.le_of_ble_eq_true rfl) (fun κ hκ => ?_)
  show V κ mX2_freeOf 0 [.ref 4, .int (nI a)] [] F Ar x
  refine V_aload_n (q := 1) dX2_freeOf_0 rfl rfl ?_
  refine V_getR (q := 4) (n := 27) 4 5 kf_X2_27 (by decide) (by decide) rfl (by decide) dX2_freeOf_1 rfl ?_
  refine V_iload_n (q := 5) dX2_freeOf_4 rfl rfl ?_
  refine V_ild (q := 6) (a) 40 rfl ha (by decide) (by omega) (by decide) rfl (by decide) dX2_freeOf_5 rfl ?_
  refine V_aload_n (q := 7) dX2_freeOf_6 rfl rfl ?_
  refine V_getR (q := 10) (n := 28) 4 6 kf_X2_30 (by decide) (by decide) rfl (by decide) dX2_freeOf_7 rfl ?_
  refine V_iload_n (q := 11) dX2_freeOf_10 rfl rfl ?_
  refine V_ild (q := 12) (a) 40 rfl ha (by decide) (by omega) (by decide) rfl (by decide) dX2_freeOf_11 rfl ?_
  refine V_isub (q := 13) dX2_freeOf_12 rfl ?_
  exact V_iret hκ rfl rfl dX2_freeOf_13 vEq.rf
theorem tX2_allParts {F : vFt} {Ar : vAt} {x : vXt} {h c : Nat} (hh : h < 5) (hc : c < 8) : C0 mX2_allParts 1 [.ref 4, .int (nI h), .int (nI c)] F Ar x (vEq (some (.int (Ar 27 (h * 8 + c)))) F Ar) := by
  refine C0_of (by decide +kernel) (Nat.le_of_ble_eq_true rfl) (fun κ hκ => ?_)
  show V κ mX2_allParts 0 [.ref 4, .int (nI h), .int (nI c)] [] F Ar x
  refine V_aload_n (q := 1) dX2_allParts_0 rfl rfl ?_
  refine V_getR (q := 4) (n := 27) 4 5 kf_X2_27 (by decide) (by decide) rfl (by decide) dX2_allParts_1 rfl ?_
  refine V_iload_n (q := 5) dX2_allParts_4 rfl rfl ?_
  refine V_iload_n (q := 6) dX2_allParts_5 rfl rfl ?_
  refine V_cS2I (q := 9) (N := mX2_account) tX2_account hκ.big (by decide) gX2_account kl_X2_58 kt_X2_account (Nat.le_of_ble_eq_true rfl) dX2_allParts_6 rfl ?_
  refine V_ild (q := 10) (h * 8 + c) 40 rfl (by omega) (by decide) (by omega) (by decide) rfl (by decide) dX2_allParts_9 rfl ?_
  exact V_iret hκ rfl rfl dX2_allParts_10 vEq.rf
theorem tX2_partsHeld {F : vFt} {Ar : vAt} {x : vXt} {h c : Nat} (hh : h < 5) (hc : c < 8) : C0 mX2_partsHeld 1 [.ref 4, .int (nI h), .int (nI c)] F Ar x (vEq (some (.int (Ar 29 (h * 8 + c)))) F Ar) := by
  refine C0_of (by decide +kernel) (Nat.le_of_ble_eq_true rfl) (fun κ hκ => ?_)
  show V κ mX2_partsHeld 0 [.ref 4, .int (nI h), .int (nI c)] [] F Ar x
  refine V_aload_n (q := 1) dX2_partsHeld_0 rfl rfl ?_
  refine V_getR (q := 4) (n := 29) 4 7 kf_X2_33 (by decide) (by decide) rfl (by decide) dX2_partsHeld_1 rfl ?_
  refine V_iload_n (q := 5) dX2_partsHeld_4 rfl rfl ?_
  refine V_iload_n (q := 6) dX2_partsHeld_5 rfl rfl ?_
  refine V_cS2I (q := 9) (N := mX2_account) tX2_account hκ.big (by decide) gX2_account kl_X2_58 kt_X2_account (Nat.le_of_ble_eq_true rfl) dX2_partsHeld_6 rfl ?_
  refine V_ild (q := 10) (h * 8 + c) 40 rfl (by omega) (by decide) (by omega) (by decide) rfl (by decide) dX2_partsHeld_9 rfl ?_
  exact V_iret hκ rfl rfl dX2_partsHeld_10 vEq.rf
theorem tX2_freeParts {F : vFt} {Ar : vAt} {x : vXt} {h c : Nat} (hh : h < 5) (hc : c < 8) : C0 mX2_freeParts 1 [.ref 4, .int (nI h), .int (nI c)] F Ar x (vEq (some (.int (Ar 27 (h * 8 + c) - Ar 28 (h * 8 + c)))) F Ar) := by
  refine C0_of (by decide +kernel) (Nat.le_of_ble_eq_true rfl) (fun κ hκ => ?_)
  show V κ mX2_freeParts 0 [.ref 4, .int (nI h), .int (nI c)] [] F Ar x
  refine V_aload_n (q := 1) dX2_freeParts_0 rfl rfl ?_
  refine V_iload_n (q := 2) dX2_freeParts_1 rfl rfl ?_
  refine V_iload_n (q := 3) dX2_freeParts_2 rfl rfl ?_
  refine V_cS2I (q := 6) (N := mX2_account) tX2_account hκ.big (by decide) gX2_account kl_X2_58 kt_X2_account (Nat.le_of_ble_eq_true rfl) dX2_freeParts_3 rfl ?_
  refine V_cV1I (q := 9) (o := 4) (N := mX2_freeOf) (tX2_freeOf (by omega)) hκ.big (by decide) gX2_freeOf kl_X2_69 ki_X2_freeOf ks_X2_freeOf (by decide) rfl (Nat.le_of_ble_eq_true rfl) dX2_freeParts_6 rfl ?_
  exact V_iret hκ rfl rfl dX2_freeParts_9 vEq.rf
theorem tX2_setStanding {F : vFt} {Ar : vAt} {x : vXt} {e a b : Nat} {on : Bool} (he : e < 60) (ha : a < 40) (hb : b < 40) (h1 : Ar 25 e = nI a) (h2 : Ar 26 e = nI b) : C0 mX2_setStanding 1 [.ref 4, .int (nI e), .int (if on then 1 else 0)] F Ar x (vEq none F (gPut Ar (gSet (gIx (Ar 25)) (gIx (Ar 26)) e (if on then 1 else 0) (if on then gCol (Ar 23) 4 e else -(gCol (Ar 23) 4 e)) (gGet Ar)))) := by
  refine C0_of (by decide +kernel) (Nat.le_of_ble_eq_true rfl) (fun κ hκ => ?_)
  show V κ mX2_setStanding 0 [.ref 4, .int (nI e), .int (if on then 1 else 0), .null] [] F Ar x
  have e1 := gIx_eq h1 (by omega)
  have e2 := gIx_eq h2 (by omega)
  have fin : ∀ n : Int32, vS (vS (vS Ar 24 (upd (Ar 24) e (if on then 1 else 0))) 28 (upd (Ar 28) a (Ar 28 a + n))) 29 (upd (Ar 29) b (Ar 29 b + n)) = gPut Ar (gSet (gIx (Ar 25)) (gIx (Ar 26)) e (if on then 1 else 0) n (gGet Ar)) := by
    intro n
    unfold gPut gSet gGet
    simp only [e1, e2]
    funext z
    simp only [vS]
    by_cases h1 : z = 24 <;> by_cases h2 : z = 29 <;> by_cases h3 : z = 28 <;> by_cases h4 : z = 27 <;> simp_all
  have hnar : vp_nar .boolean (if on then 1 else 0) = (if on then 1 else 0) := by cases on <;> rfl
  refine V_iload_n (q := 1) dX2_setStanding_0 rfl rfl ?_
  refine V_if_eq (tgt := 13) (q := 4) dX2_setStanding_1 (by decide) rfl (fun c_1 => ?_) (fun c_1 => ?_)
  · refine V_aload_n (q := 14) dX2_setStanding_13 rfl rfl ?_
    refine V_iload_n (q := 15) dX2_setStanding_14 rfl rfl ?_
    refine V_iconst (q := 16) (v := 4) dX2_setStanding_15 (by decide) rfl ?_
    refine V_cV2I (q := 19) (o := 4) (N := mX2_told) (tX2_told (c := 4) he (by decide)) hκ.big (by decide) gX2_told kl_X2_50 ki_X2_told ks_X2_told (by decide) rfl (Nat.le_of_ble_eq_true rfl) dX2_setStanding_16 rfl ?_
    refine V_ineg (q := 20) dX2_setStanding_19 rfl ?_
    refine V_istore_n (q := 21) dX2_setStanding_20 (Nat.le_of_ble_eq_true rfl) rfl rfl ?_
    refine V_aload_n (q := 22) dX2_setStanding_21 rfl rfl ?_
    refine V_getR (q := 25) (n := 24) 4 1 kf_X2_17 (by decide) (by decide) rfl (by decide) dX2_setStanding_22 rfl ?_
    refine V_iload_n (q := 26) dX2_setStanding_25 rfl rfl ?_
    refine V_iload_n (q := 27) dX2_setStanding_26 rfl rfl ?_
    refine V_zst (q := 28) (e) 60 rfl he (by decide) (by omega) (by decide) rfl (by decide) dX2_setStanding_27 rfl ?_
    rw [hnar]
    refine V_aload_n (q := 29) dX2_setStanding_28 rfl rfl ?_
    refine V_getR (q := 32) (n := 28) 4 6 kf_X2_30 (by decide) (by decide) rfl (by decide) dX2_setStanding_29 rfl ?_
    refine V_aload_n (q := 33) dX2_setStanding_32 rfl rfl ?_
    refine V_getR (q := 36) (n := 25) 4 3 kf_X2_21 (by decide) (by decide) rfl (by decide) dX2_setStanding_33 rfl ?_
    refine V_iload_n (q := 37) dX2_setStanding_36 rfl rfl ?_
    refine V_ild (q := 38) (e) 60 rfl he (by decide) (by omega) (by decide) rfl (by decide) dX2_setStanding_37 rfl ?_
    refine V_dup2 (q := 39) dX2_setStanding_38 rfl rfl rfl ?_
    refine V_ild (q := 40) (a) 40 h1 ha (by decide) (by omega) (by decide) rfl (by decide) dX2_setStanding_39 rfl ?_
    refine V_iload_n (q := 41) dX2_setStanding_40 rfl rfl ?_
    refine V_iadd (q := 42) dX2_setStanding_41 rfl ?_
    refine V_ist (q := 43) (a) 40 h1 ha (by decide) (by omega) (by decide) rfl (by decide) dX2_setStanding_42 rfl ?_
    refine V_aload_n (q := 44) dX2_setStanding_43 rfl rfl ?_
    refine V_getR (q := 47) (n := 29) 4 7 kf_X2_33 (by decide) (by decide) rfl (by decide) dX2_setStanding_44 rfl ?_
    refine V_aload_n (q := 48) dX2_setStanding_47 rfl rfl ?_
    refine V_getR (q := 51) (n := 26) 4 4 kf_X2_24 (by decide) (by decide) rfl (by decide) dX2_setStanding_48 rfl ?_
    refine V_iload_n (q := 52) dX2_setStanding_51 rfl rfl ?_
    refine V_ild (q := 53) (e) 60 rfl he (by decide) (by omega) (by decide) rfl (by decide) dX2_setStanding_52 rfl ?_
    refine V_dup2 (q := 54) dX2_setStanding_53 rfl rfl rfl ?_
    refine V_ild (q := 55) (b) 40 h2 hb (by decide) (by omega) (by decide) rfl (by decide) dX2_setStanding_54 rfl ?_
    refine V_iload_n (q := 56) dX2_setStanding_55 rfl rfl ?_
    refine V_iadd (q := 57) dX2_setStanding_56 rfl ?_
    refine V_ist (q := 58) (b) 40 h2 hb (by decide) (by omega) (by decide) rfl (by decide) dX2_setStanding_57 rfl ?_
    exact V_vret hκ rfl dX2_setStanding_58 ⟨rfl, rfl, by cases on; (· exact fin _); (· exact absurd c_1 (by decide))⟩
  · refine V_aload_n (q := 5) dX2_setStanding_4 rfl rfl ?_
    refine V_iload_n (q := 6) dX2_setStanding_5 rfl rfl ?_
    refine V_iconst (q := 7) (v := 4) dX2_setStanding_6 (by decide) rfl ?_
    refine V_cV2I (q := 10) (o := 4) (N := mX2_told) (tX2_told (c := 4) he (by decide)) hκ.big (by decide) gX2_told kl_X2_50 ki_X2_told ks_X2_told (by decide) rfl (Nat.le_of_ble_eq_true rfl) dX2_setStanding_7 rfl ?_
    refine V_goto (q := 20) dX2_setStanding_10 (by decide) ?_
    refine V_istore_n (q := 21) dX2_setStanding_20 (Nat.le_of_ble_eq_true rfl) rfl rfl ?_
    refine V_aload_n (q := 22) dX2_setStanding_21 rfl rfl ?_
    refine V_getR (q := 25) (n := 24) 4 1 kf_X2_17 (by decide) (by decide) rfl (by decide) dX2_setStanding_22 rfl ?_
    refine V_iload_n (q := 26) dX2_setStanding_25 rfl rfl ?_
    refine V_iload_n (q := 27) dX2_setStanding_26 rfl rfl ?_
    refine V_zst (q := 28) (e) 60 rfl he (by decide) (by omega) (by decide) rfl (by decide) dX2_setStanding_27 rfl ?_
    rw [hnar]
    refine V_aload_n (q := 29) dX2_setStanding_28 rfl rfl ?_
    refine V_getR (q := 32) (n := 28) 4 6 kf_X2_30 (by decide) (by decide) rfl (by decide) dX2_setStanding_29 rfl ?_
    refine V_aload_n (q := 33) dX2_setStanding_32 rfl rfl ?_
    refine V_getR (q := 36) (n := 25) 4 3 kf_X2_21 (by decide) (by decide) rfl (by decide) dX2_setStanding_33 rfl ?_
    refine V_iload_n (q := 37) dX2_setStanding_36 rfl rfl ?_
    refine V_ild (q := 38) (e) 60 rfl he (by decide) (by omega) (by decide) rfl (by decide) dX2_setStanding_37 rfl ?_
    refine V_dup2 (q := 39) dX2_setStanding_38 rfl rfl rfl ?_
    refine V_ild (q := 40) (a) 40 h1 ha (by decide) (by omega) (by decide) rfl (by decide) dX2_setStanding_39 rfl ?_
    refine V_iload_n (q := 41) dX2_setStanding_40 rfl rfl ?_
    refine V_iadd (q := 42) dX2_setStanding_41 rfl ?_
    refine V_ist (q := 43) (a) 40 h1 ha (by decide) (by omega) (by decide) rfl (by decide) dX2_setStanding_42 rfl ?_
    refine V_aload_n (q := 44) dX2_setStanding_43 rfl rfl ?_
    refine V_getR (q := 47) (n := 29) 4 7 kf_X2_33 (by decide) (by decide) rfl (by decide) dX2_setStanding_44 rfl ?_
    refine V_aload_n (q := 48) dX2_setStanding_47 rfl rfl ?_
    refine V_getR (q := 51) (n := 26) 4 4 kf_X2_24 (by decide) (by decide) rfl (by decide) dX2_setStanding_48 rfl ?_
    refine V_iload_n (q := 52) dX2_setStanding_51 rfl rfl ?_
    refine V_ild (q := 53) (e) 60 rfl he (by decide) (by omega) (by decide) rfl (by decide) dX2_setStanding_52 rfl ?_
    refine V_dup2 (q := 54) dX2_setStanding_53 rfl rfl rfl ?_
    refine V_ild (q := 55) (b) 40 h2 hb (by decide) (by omega) (by decide) rfl (by decide) dX2_setStanding_54 rfl ?_
    refine V_iload_n (q := 56) dX2_setStanding_55 rfl rfl ?_
    refine V_iadd (q := 57) dX2_setStanding_56 rfl ?_
    refine V_ist (q := 58) (b) 40 h2 hb (by decide) (by omega) (by decide) rfl (by decide) dX2_setStanding_57 rfl ?_
    exact V_vret hκ rfl dX2_setStanding_58 ⟨rfl, rfl, by cases on; (· exact absurd rfl c_1); (· exact fin _)⟩
