theorem tX2_markForged {F : vFt} {Ar : vAt} {x : vXt} {n e : Nat} (hn : F 258 = nI n) (hn60 : n ≤ 60) (he : e < n) (hok : gOk (vS Ar 23 (upd (Ar 23) (e * 9 + 5) 1)) n) : C0 mX2_markForged 5 [.ref 4, .int (nI e)] F Ar x (vEq (some (.int (if gCol (Ar 23) 5 e = 1 then -3 else 1))) F (if gCol (Ar 23) 5 e = 1 then Ar else gAll (vS Ar 23 (upd (Ar 23) (e * 9 + 5) 1)) n)) := by
  refine C0_of (by decide +kernel) (Nat.le_of_ble_eq_true rfl) (fun κ hκ => ?_)
  show V κ mX2_markForged 0 [.ref 4, .int (nI e)] [] F Ar x
  refine V_aload_n (q := 1) dX2_markForged_0 rfl rfl ?_
  refine V_iload_n (q := 2) dX2_markForged_1 rfl rfl ?_
  refine V_cV1I (q := 5) (o := 4) (N := mX2_isForged) (tX2_isForged (e := e) (by omega)) hκ.big (by decide) gX2_isForged kl_X2_65 ki_X2_isForged ks_X2_isForged (by decide) rfl (Nat.le_of_ble_eq_true rfl) dX2_markForged_2 rfl ?_
  refine V_if_eq (tgt := 11) (q := 8) dX2_markForged_5 (by decide) rfl (fun c_5 => ?_) (fun c_5 => ?_)
  · refine V_aload_n (q := 12) dX2_markForged_11 rfl rfl ?_
    refine V_iload_n (q := 13) dX2_markForged_12 rfl rfl ?_
    refine V_iconst (q := 14) (v := 5) dX2_markForged_13 (by decide) rfl ?_
    refine V_iconst (q := 15) (v := 1) dX2_markForged_14 (by decide) rfl ?_
    refine V_cV3U (q := 18) (o := 4) (N := mX2_put) (tX2_put (e := e) (c := 5) (by omega) (by decide)) hκ.big (by decide) gX2_put kl_X2_61 ki_X2_put ks_X2_put (by decide) rfl (Nat.le_of_ble_eq_true rfl) dX2_markForged_15 rfl ?_
    refine V_aload_n (q := 19) dX2_markForged_18 rfl rfl ?_
    refine V_cV0U (q := 22) (o := 4) (N := mX2_goThrough) (tX2_goThrough hn hn60 hok) hκ.big (by decide) gX2_goThrough kl_X2_39 ki_X2_goThrough ks_X2_goThrough (by decide) rfl (Nat.le_of_ble_eq_true rfl) dX2_markForged_19 rfl ?_
    refine V_iconst (q := 23) (v := 1) dX2_markForged_22 (by decide) rfl ?_
    exact V_iret hκ rfl rfl dX2_markForged_23 (by have k1 : ¬ gCol (Ar 23) 5 e = 1 := vB_0.mp c_5; rw [if_neg k1, if_neg k1]; exact vEq.rf)
  · refine V_bipush (q := 10) (v := (-3)) dX2_markForged_8 (by decide) rfl ?_
    exact V_iret hκ rfl rfl dX2_markForged_10 (by have k1 : gCol (Ar 23) 5 e = 1 := vB_n0.mp c_5; rw [if_pos k1, if_pos k1]; exact vEq.rf)
/-- a bit of a mask -/
def bitI (m : Int32) (i : Nat) : Bool := m.toBitVec.getLsbD i
theorem bitI_or (a b : Int32) (i : Nat) : bitI (a ||| b) i = (bitI a i || bitI b i) := by
  unfold bitI
  rw [Int32.toBitVec_or, BitVec.getLsbD_or]
theorem bitI_and (a b : Int32) (i : Nat) : bitI (a &&& b) i = (bitI a i && bitI b i) := by
  unfold bitI
  rw [Int32.toBitVec_and, BitVec.getLsbD_and]
theorem bitI_xor (a b : Int32) (i : Nat) : bitI (a ^^^ b) i = (bitI a i ^^ bitI b i) := by
  unfold bitI
  rw [Int32.toBitVec_xor, BitVec.getLsbD_xor]
theorem bitI_ge {a : Int32} {i : Nat} (h : 32 ≤ i) : bitI a i = false := BitVec.getLsbD_of_ge _ _ h
theorem bitI_m1 : ∀ i, i < 32 → bitI (-1) i = true := by decide
theorem bitI_not (a : Int32) (i : Nat) (h : i < 32) : bitI (a ^^^ (-1)) i = !(bitI a i) := by
  rw [bitI_xor, bitI_m1 i h]
  simp
theorem bitI_sh : ∀ q, q < 8 → ∀ i, i < 32 → bitI (1 <<< (nI q &&& 31)) i = decide (i = q) := by decide +kernel
theorem bitI_0 (i : Nat) : bitI 0 i = false := by
  unfold bitI
  simp
theorem bitI_ext {a b : Int32} (h : ∀ i, i < 32 → bitI a i = bitI b i) : a = b := by
  apply Int32.toBitVec_inj.mp
  apply BitVec.eq_of_getLsbD_eq
  intro i hi
  exact h i hi
theorem bitI_one (a : Int32) : (a &&& 1) = 1 ↔ bitI a 0 = true := by
  constructor
  · intro h
    have h2 : bitI (a &&& 1) 0 = bitI 1 0 := by rw [h]
    rw [bitI_and] at h2
    have h3 : bitI 1 0 = true := by decide
    rw [h3] at h2
    simpa using h2
  · intro h
    apply bitI_ext
    intro i hi
    rw [bitI_and]
    rcases Nat.eq_zero_or_pos i with rfl | h0
    · rw [h]
      decide
    · have h1 : ∀ i, i < 32 → 0 < i → bitI 1 i = false := by decide
      rw [h1 i hi h0]
      simp
theorem shr_amount : ∀ q, q < 8 → ((nI q &&& 31).toBitVec.smod 32).toNat = q := by decide +kernel
theorem bitI_shr (a : Int32) {q : Nat} (hq : q < 8) : bitI (a >>> (nI q &&& 31)) 0 = bitI a q := by
  unfold bitI
  rw [Int32.toBitVec_shiftRight, BitVec.sshiftRight_eq', shr_amount q hq, BitVec.getLsbD_sshiftRight]
  simp
  intro h
  omega
theorem tX3_isIn {F : vFt} {Ar : vAt} {x : vXt} {q : Nat} {m : Int32} (hq : q < 8) : C0 mX3_isIn 0 [.int (nI q), .int m] F Ar x (vEq (some (.int (vB (bitI m q = true)))) F Ar) := by
  refine C0_of (by decide +kernel) (Nat.le_of_ble_eq_true rfl) (fun κ hκ => ?_)
  show V κ mX3_isIn 0 [.int (nI q), .int m] [] F Ar x
  refine V_iload_n (q := 1) dX3_isIn_0 rfl rfl ?_
  refine V_iload_n (q := 2) dX3_isIn_1 rfl rfl ?_
  refine V_ishr (q := 3) dX3_isIn_2 rfl ?_
  refine V_iconst (q := 4) (v := 1) dX3_isIn_3 (by decide) rfl ?_
  refine V_iand (q := 5) dX3_isIn_4 rfl ?_
  refine V_iconst (q := 6) (v := 1) dX3_isIn_5 (by decide) rfl ?_
  have hb : ((m >>> (nI q &&& 31)) &&& 1) = 1 ↔ bitI m q = true := by rw [bitI_one, bitI_shr m hq]
  refine V_icmp_ne (tgt := 13) (q := 9) dX3_isIn_6 (by decide) rfl (fun c_6 => ?_) (fun c_6 => ?_)
  · refine V_iconst (q := 14) (v := 0) dX3_isIn_13 (by decide) rfl ?_
    exact V_iret hκ rfl (by first | rfl | exact vB_nar) dX3_isIn_14 ⟨by rw [vB_f (fun h => c_6 (hb.mpr h))], rfl, rfl⟩
  · refine V_iconst (q := 10) (v := 1) dX3_isIn_9 (by decide) rfl ?_
    refine V_goto (q := 14) dX3_isIn_10 (by decide) ?_
    exact V_iret hκ rfl (by first | rfl | exact vB_nar) dX3_isIn_14 ⟨by rw [vB_t (hb.mp c_6)], rfl, rfl⟩
theorem tX3_mayBeOne {F : vFt} {Ar : vAt} {x : vXt} {a b : Nat} (ha : a < 8) (hb : b < 8) : C0 mX3_mayBeOne 1 [.ref 5, .int (nI a), .int (nI b)] F Ar x (vEq (some (.int (vB (bitI (Ar 36 a) b = true)))) F Ar) := by
  refine C0_of (by decide +kernel) (Nat.le_of_ble_eq_true rfl) (fun κ hκ => ?_)
  show V κ mX3_mayBeOne 0 [.ref 5, .int (nI a), .int (nI b)] [] F Ar x
  refine V_iload_n (q := 1) dX3_mayBeOne_0 rfl rfl ?_
  refine V_aload_n (q := 2) dX3_mayBeOne_1 rfl rfl ?_
  refine V_getR (q := 5) (n := 36) 5 6 kf_X3_27 (by decide) (by decide) rfl (by decide) dX3_mayBeOne_2 rfl ?_
  refine V_iload_n (q := 6) dX3_mayBeOne_5 rfl rfl ?_
  refine V_ild (q := 7) (a) 8 rfl ha (by decide) (by omega) (by decide) rfl (by decide) dX3_mayBeOne_6 rfl ?_
  refine V_cS2I (q := 10) (N := mX3_isIn) (tX3_isIn hb) hκ.big (by decide) gX3_isIn kl_X3_54 kt_X3_isIn (Nat.le_of_ble_eq_true rfl) dX3_mayBeOne_7 rfl ?_
  exact V_iret hκ rfl (by first | rfl | exact vB_nar) dX3_mayBeOne_10 vEq.rf
theorem tX3_joinedGroup {F : vFt} {Ar : vAt} {x : vXt} {a : Nat} (ha : a < 8) : C0 mX3_joinedGroup 0 [.ref 5, .int (nI a)] F Ar x (vEq (some (.int (Ar 38 a))) F Ar) := by
  refine C0_of (by decide +kernel) (Nat.le_of_ble_eq_true rfl) (fun κ hκ => ?_)
  show V κ mX3_joinedGroup 0 [.ref 5, .int (nI a)] [] F Ar x
  refine V_aload_n (q := 1) dX3_joinedGroup_0 rfl rfl ?_
  refine V_getR (q := 4) (n := 38) 5 9 kf_X3_33 (by decide) (by decide) rfl (by decide) dX3_joinedGroup_1 rfl ?_
  refine V_iload_n (q := 5) dX3_joinedGroup_4 rfl rfl ?_
  refine V_ild (q := 6) (a) 8 rfl ha (by decide) (by omega) (by decide) rfl (by decide) dX3_joinedGroup_5 rfl ?_
  exact V_iret hκ rfl rfl dX3_joinedGroup_6 vEq.rf
theorem tX3_joinedGroups {F : vFt} {Ar : vAt} {x : vXt}   : C0 mX3_joinedGroups 0 [.ref 5] F Ar x (vEq (some (.int (F 331))) F Ar) := by
  refine C0_of (by decide +kernel) (Nat.le_of_ble_eq_true rfl) (fun κ hκ => ?_)
  show V κ mX3_joinedGroups 0 [.ref 5] [] F Ar x
  refine V_aload_n (q := 1) dX3_joinedGroups_0 rfl rfl ?_
  refine V_getI (q := 4) (n := 331) 5 11 kf_X3_58 (by decide) (by decide) rfl rfl dX3_joinedGroups_1 rfl ?_
  exact V_iret hκ rfl rfl dX3_joinedGroups_4 vEq.rf
theorem tX3_witnesses {F : vFt} {Ar : vAt} {x : vXt}   : C0 mX3_witnesses 0 [.ref 5] F Ar x (vEq (some (.int (F 328))) F Ar) := by
  refine C0_of (by decide +kernel) (Nat.le_of_ble_eq_true rfl) (fun κ hκ => ?_)
  show V κ mX3_witnesses 0 [.ref 5] [] F Ar x
  refine V_aload_n (q := 1) dX3_witnesses_0 rfl rfl ?_
  refine V_getI (q := 4) (n := 328) 5 8 kf_X3_43 (by decide) (by decide) rfl rfl dX3_witnesses_1 rfl ?_
  exact V_iret hκ rfl rfl dX3_witnesses_4 vEq.rf
theorem tX3_areTwo {F : vFt} {Ar : vAt} {x : vXt} {a b : Int32}  : C0 mX3_areTwo 2 [.ref 5, .int a, .int b] F Ar x (vEq (some (.int (vB ((0 ≤ a ∧ a ≤ F 325 - 1) ∧ (0 ≤ b ∧ b ≤ F 325 - 1) ∧ ¬ a = b)))) F Ar) := by
  refine C0_of (by decide +kernel) (Nat.le_of_ble_eq_true rfl) (fun κ hκ => ?_)
  show V κ mX3_areTwo 0 [.ref 5, .int a, .int b] [] F Ar x
  refine V_aload_n (q := 1) dX3_areTwo_0 rfl rfl ?_
  refine V_iload_n (q := 2) dX3_areTwo_1 rfl rfl ?_
  refine V_cV1I (q := 5) (o := 5) (N := mX3_has) tX3_has hκ.big (by decide) gX3_has kl_X3_50 ki_X3_has ks_X3_has (by decide) rfl (Nat.le_of_ble_eq_true rfl) dX3_areTwo_2 rfl ?_
  refine V_if_eq (tgt := 25) (q := 8) dX3_areTwo_5 (by decide) rfl (fun c_5 => ?_) (fun c_5 => ?_)
  · refine V_iconst (q := 26) (v := 0) dX3_areTwo_25 (by decide) rfl ?_
    exact V_iret hκ rfl (by first | rfl | exact vB_nar) dX3_areTwo_26 ⟨by rw [vB_f (fun h => vB_0.mp c_5 h.1)], rfl, rfl⟩
  · refine V_aload_n (q := 9) dX3_areTwo_8 rfl rfl ?_
    refine V_iload_n (q := 10) dX3_areTwo_9 rfl rfl ?_
    refine V_cV1I (q := 13) (o := 5) (N := mX3_has) tX3_has hκ.big (by decide) gX3_has kl_X3_50 ki_X3_has ks_X3_has (by decide) rfl (Nat.le_of_ble_eq_true rfl) dX3_areTwo_10 rfl ?_
    refine V_if_eq (tgt := 25) (q := 16) dX3_areTwo_13 (by decide) rfl (fun c_13 => ?_) (fun c_13 => ?_)
    · refine V_iconst (q := 26) (v := 0) dX3_areTwo_25 (by decide) rfl ?_
      exact V_iret hκ rfl (by first | rfl | exact vB_nar) dX3_areTwo_26 ⟨by rw [vB_f (fun h => vB_0.mp c_13 h.2.1)], rfl, rfl⟩
    · refine V_iload_n (q := 17) dX3_areTwo_16 rfl rfl ?_
      refine V_iload_n (q := 18) dX3_areTwo_17 rfl rfl ?_
      refine V_icmp_eq (tgt := 25) (q := 21) dX3_areTwo_18 (by decide) rfl (fun c_18 => ?_) (fun c_18 => ?_)
      · refine V_iconst (q := 26) (v := 0) dX3_areTwo_25 (by decide) rfl ?_
        exact V_iret hκ rfl (by first | rfl | exact vB_nar) dX3_areTwo_26 ⟨by rw [vB_f (fun h => h.2.2 c_18)], rfl, rfl⟩
      · refine V_iconst (q := 22) (v := 1) dX3_areTwo_21 (by decide) rfl ?_
        refine V_goto (q := 26) dX3_areTwo_22 (by decide) ?_
        exact V_iret hκ rfl (by first | rfl | exact vB_nar) dX3_areTwo_26 ⟨by rw [vB_t ⟨vB_n0.mp c_5, vB_n0.mp c_13, c_18⟩], rfl, rfl⟩
def stBit (m : Int32) (o : Nat) (yes : Bool) : Int32 := if yes then m ||| (1 <<< (nI o &&& 31)) else m &&& ((1 <<< (nI o &&& 31)) ^^^ (-1))
theorem stBit_bit (m : Int32) {o i : Nat} (yes : Bool) (ho : o < 8) (hi : i < 32) : bitI (stBit m o yes) i = if i = o then yes else bitI m i := by
  unfold stBit
  cases yes
  · rw [if_neg (by decide), bitI_and, bitI_not _ _ hi, bitI_sh o ho i hi]
    by_cases h : i = o <;> simp [h]
  · rw [if_pos rfl, bitI_or, bitI_sh o ho i hi]
    by_cases h : i = o <;> simp [h]
theorem tX3_setLike {F : vFt} {Ar : vAt} {x : vXt} {a b : Nat} {yes : Bool} (ha : a < 8) (hb : b < 8) (hab : a ≠ b) : C0 mX3_setLike 0 [.ref 5, .int (nI a), .int (nI b), .int (if yes then 1 else 0)] F Ar x (vEq none F (vS Ar 36 (upd (upd (Ar 36) a (stBit (Ar 36 a) b yes)) b (stBit (Ar 36 b) a yes)))) := by
  refine C0_of (by decide +kernel) (Nat.le_of_ble_eq_true rfl) (fun κ hκ => ?_)
  show V κ mX3_setLike 0 [.ref 5, .int (nI a), .int (nI b), .int (if yes then 1 else 0)] [] F Ar x
  refine V_aload_n (q := 1) dX3_setLike_0 rfl rfl ?_
  refine V_getR (q := 4) (n := 36) 5 6 kf_X3_27 (by decide) (by decide) rfl (by decide) dX3_setLike_1 rfl ?_
  refine V_iload_n (q := 5) dX3_setLike_4 rfl rfl ?_
  refine V_iload_n (q := 6) dX3_setLike_5 rfl rfl ?_
  refine V_if_eq (tgt := 22) (q := 9) dX3_setLike_6 (by decide) rfl (fun c_6 => ?_) (fun c_6 => ?_)
  · refine V_aload_n (q := 23) dX3_setLike_22 rfl rfl ?_
    refine V_getR (q := 26) (n := 36) 5 6 kf_X3_27 (by decide) (by decide) rfl (by decide) dX3_setLike_23 rfl ?_
    refine V_iload_n (q := 27) dX3_setLike_26 rfl rfl ?_
    refine V_ild (q := 28) (a) 8 rfl ha (by decide) (by omega) (by decide) rfl (by decide) dX3_setLike_27 rfl ?_
    refine V_iconst (q := 29) (v := 1) dX3_setLike_28 (by decide) rfl ?_
    refine V_iload_n (q := 30) dX3_setLike_29 rfl rfl ?_
    refine V_ishl (q := 31) dX3_setLike_30 rfl ?_
    refine V_iconst (q := 32) (v := (-1)) dX3_setLike_31 (by decide) rfl ?_
    refine V_ixor (q := 33) dX3_setLike_32 rfl ?_
    refine V_iand (q := 34) dX3_setLike_33 rfl ?_
    refine V_ist (q := 35) (a) 8 rfl ha (by decide) (by omega) (by decide) rfl (by decide) dX3_setLike_34 rfl ?_
    refine V_aload_n (q := 36) dX3_setLike_35 rfl rfl ?_
    refine V_getR (q := 39) (n := 36) 5 6 kf_X3_27 (by decide) (by decide) rfl (by decide) dX3_setLike_36 rfl ?_
    refine V_iload_n (q := 40) dX3_setLike_39 rfl rfl ?_
    refine V_iload_n (q := 41) dX3_setLike_40 rfl rfl ?_
    refine V_if_eq (tgt := 57) (q := 44) dX3_setLike_41 (by decide) rfl (fun c_41 => ?_) (fun c_41 => by cases yes; (· exact absurd rfl c_41); (· exact absurd c_6 (by decide)))
    refine V_aload_n (q := 58) dX3_setLike_57 rfl rfl ?_
    refine V_getR (q := 61) (n := 36) 5 6 kf_X3_27 (by decide) (by decide) rfl (by decide) dX3_setLike_58 rfl ?_
    refine V_iload_n (q := 62) dX3_setLike_61 rfl rfl ?_
    refine V_ild (q := 63) (b) 8 rfl hb (by decide) (by omega) (by decide) rfl (by decide) dX3_setLike_62 rfl ?_
    refine V_iconst (q := 64) (v := 1) dX3_setLike_63 (by decide) rfl ?_
    refine V_iload_n (q := 65) dX3_setLike_64 rfl rfl ?_
    refine V_ishl (q := 66) dX3_setLike_65 rfl ?_
    refine V_iconst (q := 67) (v := (-1)) dX3_setLike_66 (by decide) rfl ?_
    refine V_ixor (q := 68) dX3_setLike_67 rfl ?_
    refine V_iand (q := 69) dX3_setLike_68 rfl ?_
    refine V_ist (q := 70) (b) 8 rfl hb (by decide) (by omega) (by decide) rfl (by decide) dX3_setLike_69 rfl ?_
    exact V_vret hκ rfl dX3_setLike_70 ⟨rfl, rfl, by cases yes; (· rw [vS_at, vS_vS, upd_ne (fun h => hab h.symm)]; rfl); (· exact absurd c_6 (by decide))⟩
  · refine V_aload_n (q := 10) dX3_setLike_9 rfl rfl ?_
    refine V_getR (q := 13) (n := 36) 5 6 kf_X3_27 (by decide) (by decide) rfl (by decide) dX3_setLike_10 rfl ?_
    refine V_iload_n (q := 14) dX3_setLike_13 rfl rfl ?_
    refine V_ild (q := 15) (a) 8 rfl ha (by decide) (by omega) (by decide) rfl (by decide) dX3_setLike_14 rfl ?_
    refine V_iconst (q := 16) (v := 1) dX3_setLike_15 (by decide) rfl ?_
    refine V_iload_n (q := 17) dX3_setLike_16 rfl rfl ?_
    refine V_ishl (q := 18) dX3_setLike_17 rfl ?_
    refine V_ior (q := 19) dX3_setLike_18 rfl ?_
    refine V_goto (q := 34) dX3_setLike_19 (by decide) ?_
    refine V_ist (q := 35) (a) 8 rfl ha (by decide) (by omega) (by decide) rfl (by decide) dX3_setLike_34 rfl ?_
    refine V_aload_n (q := 36) dX3_setLike_35 rfl rfl ?_
    refine V_getR (q := 39) (n := 36) 5 6 kf_X3_27 (by decide) (by decide) rfl (by decide) dX3_setLike_36 rfl ?_
    refine V_iload_n (q := 40) dX3_setLike_39 rfl rfl ?_
    refine V_iload_n (q := 41) dX3_setLike_40 rfl rfl ?_
    refine V_if_eq (tgt := 57) (q := 44) dX3_setLike_41 (by decide) rfl (fun c_41 => by cases yes; (· exact absurd rfl c_6); (· exact absurd c_41 (by decide))) (fun c_41 => ?_)
    refine V_aload_n (q := 45) dX3_setLike_44 rfl rfl ?_
    refine V_getR (q := 48) (n := 36) 5 6 kf_X3_27 (by decide) (by decide) rfl (by decide) dX3_setLike_45 rfl ?_
    refine V_iload_n (q := 49) dX3_setLike_48 rfl rfl ?_
    refine V_ild (q := 50) (b) 8 rfl hb (by decide) (by omega) (by decide) rfl (by decide) dX3_setLike_49 rfl ?_
    refine V_iconst (q := 51) (v := 1) dX3_setLike_50 (by decide) rfl ?_
    refine V_iload_n (q := 52) dX3_setLike_51 rfl rfl ?_
    refine V_ishl (q := 53) dX3_setLike_52 rfl ?_
    refine V_ior (q := 54) dX3_setLike_53 rfl ?_
    refine V_goto (q := 69) dX3_setLike_54 (by decide) ?_
    refine V_ist (q := 70) (b) 8 rfl hb (by decide) (by omega) (by decide) rfl (by decide) dX3_setLike_69 rfl ?_
    exact V_vret hκ rfl dX3_setLike_70 ⟨rfl, rfl, by cases yes; (· exact absurd rfl c_6); (· rw [vS_at, vS_vS, upd_ne (fun h => hab h.symm)]; rfl)⟩
abbrev sDays (a1 b1 a2 b2 : Int32) : Prop := a1 ≤ b2 ∧ a2 ≤ b1
abbrev sMark (m1 m2 : Int32) : Prop := m1 = m2 ∨ m1 = 0 ∨ m2 = 0
/-- without witnesses -/
abbrev sAl (Ar : vAt) (a b : Nat) : Prop := ¬ sDays (Ar 31 a) (Ar 32 a) (Ar 31 b) (Ar 32 b) ∧ sDays (Ar 33 a) (Ar 34 a) (Ar 33 b) (Ar 34 b) ∧ sMark (Ar 35 a) (Ar 35 b)
theorem st_seem4 {F : vFt} {Ar : vAt} {x : vXt} {a b : Nat} {κ : vK} (hκ : vStd κ 0 x (vEq (some (.int (vB (sAl Ar a b)))) F Ar)) (ha : a < 8) (hb : b < 8) : V κ mX3_seemAlike 113 [.ref 5, .int (nI a), .int (nI b), .int (vB (sDays (Ar 31 a) (Ar 32 a) (Ar 31 b) (Ar 32 b))), .int (vB (sDays (Ar 33 a) (Ar 34 a) (Ar 33 b) (Ar 34 b))), .int (vB (sMark (Ar 35 a) (Ar 35 b)))] [] F Ar x := by
  refine V_iload_n (q := 114) dX3_seemAlike_113 rfl rfl ?_
  refine V_if_ne (tgt := 131) (q := 117) dX3_seemAlike_114 (by decide) rfl (fun c_114 => ?_) (fun c_114 => ?_)
  · refine V_iconst (q := 132) (v := 0) dX3_seemAlike_131 (by decide) rfl ?_
    exact V_iret hκ rfl (by first | rfl | exact vB_nar) dX3_seemAlike_132 ⟨by rw [vB_f (fun h => h.1 (vB_n0.mp c_114))], rfl, rfl⟩
  · refine V_iload (q := 119) dX3_seemAlike_117 rfl rfl ?_
    refine V_if_eq (tgt := 131) (q := 122) dX3_seemAlike_119 (by decide) rfl (fun c_119 => ?_) (fun c_119 => ?_)
    · refine V_iconst (q := 132) (v := 0) dX3_seemAlike_131 (by decide) rfl ?_
      exact V_iret hκ rfl (by first | rfl | exact vB_nar) dX3_seemAlike_132 ⟨by rw [vB_f (fun h => vB_0.mp c_119 h.2.1)], rfl, rfl⟩
    · refine V_iload (q := 124) dX3_seemAlike_122 rfl rfl ?_
      refine V_if_eq (tgt := 131) (q := 127) dX3_seemAlike_124 (by decide) rfl (fun c_124 => ?_) (fun c_124 => ?_)
      · refine V_iconst (q := 132) (v := 0) dX3_seemAlike_131 (by decide) rfl ?_
        exact V_iret hκ rfl (by first | rfl | exact vB_nar) dX3_seemAlike_132 ⟨by rw [vB_f (fun h => vB_0.mp c_124 h.2.2)], rfl, rfl⟩
      · refine V_iconst (q := 128) (v := 1) dX3_seemAlike_127 (by decide) rfl ?_
        refine V_goto (q := 132) dX3_seemAlike_128 (by decide) ?_
        exact V_iret hκ rfl (by first | rfl | exact vB_nar) dX3_seemAlike_132 ⟨by rw [vB_t ⟨vB_0.mp c_114, vB_n0.mp c_119, vB_n0.mp c_124⟩], rfl, rfl⟩
theorem st_seem3 {F : vFt} {Ar : vAt} {x : vXt} {a b : Nat} {κ : vK} (hκ : vStd κ 0 x (vEq (some (.int (vB (sAl Ar a b)))) F Ar)) (ha : a < 8) (hb : b < 8) : V κ mX3_seemAlike 73 [.ref 5, .int (nI a), .int (nI b), .int (vB (sDays (Ar 31 a) (Ar 32 a) (Ar 31 b) (Ar 32 b))), .int (vB (sDays (Ar 33 a) (Ar 34 a) (Ar 33 b) (Ar 34 b))), .null] [] F Ar x := by
  refine V_aload_n (q := 74) dX3_seemAlike_73 rfl rfl ?_
  refine V_getR (q := 77) (n := 35) 5 4 kf_X3_24 (by decide) (by decide) rfl (by decide) dX3_seemAlike_74 rfl ?_
  refine V_iload_n (q := 78) dX3_seemAlike_77 rfl rfl ?_
  refine V_ild (q := 79) (a) 8 rfl ha (by decide) (by omega) (by decide) rfl (by decide) dX3_seemAlike_78 rfl ?_
  refine V_aload_n (q := 80) dX3_seemAlike_79 rfl rfl ?_
  refine V_getR (q := 83) (n := 35) 5 4 kf_X3_24 (by decide) (by decide) rfl (by decide) dX3_seemAlike_80 rfl ?_
  refine V_iload_n (q := 84) dX3_seemAlike_83 rfl rfl ?_
  refine V_ild (q := 85) (b) 8 rfl hb (by decide) (by omega) (by decide) rfl (by decide) dX3_seemAlike_84 rfl ?_
  refine V_icmp_eq (tgt := 106) (q := 88) dX3_seemAlike_85 (by decide) rfl (fun c_85 => ?_) (fun c_85 => ?_)
  · refine V_iconst (q := 107) (v := 1) dX3_seemAlike_106 (by decide) rfl ?_
    refine V_goto (q := 111) dX3_seemAlike_107 (by decide) ?_
    refine V_top (vB (sMark (Ar 35 a) (Ar 35 b))) (vB_t (Or.inl c_85)).symm ?_
    refine V_istore (q := 113) dX3_seemAlike_111 (Nat.le_of_ble_eq_true rfl) rfl rfl ?_
    exact st_seem4 hκ ha hb
  · refine V_aload_n (q := 89) dX3_seemAlike_88 rfl rfl ?_
    refine V_getR (q := 92) (n := 35) 5 4 kf_X3_24 (by decide) (by decide) rfl (by decide) dX3_seemAlike_89 rfl ?_
    refine V_iload_n (q := 93) dX3_seemAlike_92 rfl rfl ?_
    refine V_ild (q := 94) (a) 8 rfl ha (by decide) (by omega) (by decide) rfl (by decide) dX3_seemAlike_93 rfl ?_
    refine V_if_eq (tgt := 106) (q := 97) dX3_seemAlike_94 (by decide) rfl (fun c_94 => ?_) (fun c_94 => ?_)
    · refine V_iconst (q := 107) (v := 1) dX3_seemAlike_106 (by decide) rfl ?_
      refine V_goto (q := 111) dX3_seemAlike_107 (by decide) ?_
      refine V_top (vB (sMark (Ar 35 a) (Ar 35 b))) (vB_t (Or.inr (Or.inl c_94))).symm ?_
      refine V_istore (q := 113) dX3_seemAlike_111 (Nat.le_of_ble_eq_true rfl) rfl rfl ?_
      exact st_seem4 hκ ha hb
    · refine V_aload_n (q := 98) dX3_seemAlike_97 rfl rfl ?_
      refine V_getR (q := 101) (n := 35) 5 4 kf_X3_24 (by decide) (by decide) rfl (by decide) dX3_seemAlike_98 rfl ?_
      refine V_iload_n (q := 102) dX3_seemAlike_101 rfl rfl ?_
      refine V_ild (q := 103) (b) 8 rfl hb (by decide) (by omega) (by decide) rfl (by decide) dX3_seemAlike_102 rfl ?_
      refine V_if_ne (tgt := 110) (q := 106) dX3_seemAlike_103 (by decide) rfl (fun c_103 => ?_) (fun c_103 => ?_)
      · refine V_iconst (q := 111) (v := 0) dX3_seemAlike_110 (by decide) rfl ?_
        refine V_top (vB (sMark (Ar 35 a) (Ar 35 b))) (vB_f (fun h => h.elim c_85 (fun h => h.elim c_94 c_103))).symm ?_
        refine V_istore (q := 113) dX3_seemAlike_111 (Nat.le_of_ble_eq_true rfl) rfl rfl ?_
        exact st_seem4 hκ ha hb
      · refine V_iconst (q := 107) (v := 1) dX3_seemAlike_106 (by decide) rfl ?_
        refine V_goto (q := 111) dX3_seemAlike_107 (by decide) ?_
        refine V_top (vB (sMark (Ar 35 a) (Ar 35 b))) (vB_t (Or.inr (Or.inr c_103))).symm ?_
        refine V_istore (q := 113) dX3_seemAlike_111 (Nat.le_of_ble_eq_true rfl) rfl rfl ?_
        exact st_seem4 hκ ha hb
theorem st_seem2 {F : vFt} {Ar : vAt} {x : vXt} {a b : Nat} {κ : vK} (hκ : vStd κ 0 x (vEq (some (.int (vB (sAl Ar a b)))) F Ar)) (ha : a < 8) (hb : b < 8) : V κ mX3_seemAlike 36 [.ref 5, .int (nI a), .int (nI b), .int (vB (sDays (Ar 31 a) (Ar 32 a) (Ar 31 b) (Ar 32 b))), .null, .null] [] F Ar x := by
  refine V_aload_n (q := 37) dX3_seemAlike_36 rfl rfl ?_
  refine V_getR (q := 40) (n := 33) 5 2 kf_X3_18 (by decide) (by decide) rfl (by decide) dX3_seemAlike_37 rfl ?_
  refine V_iload_n (q := 41) dX3_seemAlike_40 rfl rfl ?_
  refine V_ild (q := 42) (a) 8 rfl ha (by decide) (by omega) (by decide) rfl (by decide) dX3_seemAlike_41 rfl ?_
  refine V_aload_n (q := 43) dX3_seemAlike_42 rfl rfl ?_
  refine V_getR (q := 46) (n := 34) 5 3 kf_X3_21 (by decide) (by decide) rfl (by decide) dX3_seemAlike_43 rfl ?_
  refine V_iload_n (q := 47) dX3_seemAlike_46 rfl rfl ?_
  refine V_ild (q := 48) (b) 8 rfl hb (by decide) (by omega) (by decide) rfl (by decide) dX3_seemAlike_47 rfl ?_
  refine V_icmp_gt (tgt := 70) (q := 51) dX3_seemAlike_48 (by decide) rfl (fun c_48 => ?_) (fun c_48 => ?_)
  · refine V_iconst (q := 71) (v := 0) dX3_seemAlike_70 (by decide) rfl ?_
    refine V_top (vB (sDays (Ar 33 a) (Ar 34 a) (Ar 33 b) (Ar 34 b))) (vB_f (fun h => v_nlt c_48 h.1)).symm ?_
    refine V_istore (q := 73) dX3_seemAlike_71 (Nat.le_of_ble_eq_true rfl) rfl rfl ?_
    exact st_seem3 hκ ha hb
  · refine V_aload_n (q := 52) dX3_seemAlike_51 rfl rfl ?_
    refine V_getR (q := 55) (n := 33) 5 2 kf_X3_18 (by decide) (by decide) rfl (by decide) dX3_seemAlike_52 rfl ?_
    refine V_iload_n (q := 56) dX3_seemAlike_55 rfl rfl ?_
    refine V_ild (q := 57) (b) 8 rfl hb (by decide) (by omega) (by decide) rfl (by decide) dX3_seemAlike_56 rfl ?_
    refine V_aload_n (q := 58) dX3_seemAlike_57 rfl rfl ?_
    refine V_getR (q := 61) (n := 34) 5 3 kf_X3_21 (by decide) (by decide) rfl (by decide) dX3_seemAlike_58 rfl ?_
    refine V_iload_n (q := 62) dX3_seemAlike_61 rfl rfl ?_
    refine V_ild (q := 63) (a) 8 rfl ha (by decide) (by omega) (by decide) rfl (by decide) dX3_seemAlike_62 rfl ?_
    refine V_icmp_gt (tgt := 70) (q := 66) dX3_seemAlike_63 (by decide) rfl (fun c_63 => ?_) (fun c_63 => ?_)
    · refine V_iconst (q := 71) (v := 0) dX3_seemAlike_70 (by decide) rfl ?_
      refine V_top (vB (sDays (Ar 33 a) (Ar 34 a) (Ar 33 b) (Ar 34 b))) (vB_f (fun h => v_nlt c_63 h.2)).symm ?_
      refine V_istore (q := 73) dX3_seemAlike_71 (Nat.le_of_ble_eq_true rfl) rfl rfl ?_
      exact st_seem3 hκ ha hb
    · refine V_iconst (q := 67) (v := 1) dX3_seemAlike_66 (by decide) rfl ?_
      refine V_goto (q := 71) dX3_seemAlike_67 (by decide) ?_
      refine V_top (vB (sDays (Ar 33 a) (Ar 34 a) (Ar 33 b) (Ar 34 b))) (vB_t ⟨v_nle c_48, v_nle c_63⟩).symm ?_
      refine V_istore (q := 73) dX3_seemAlike_71 (Nat.le_of_ble_eq_true rfl) rfl rfl ?_
      exact st_seem3 hκ ha hb
theorem tX3_seemAlike {F : vFt} {Ar : vAt} {x : vXt} {a b : Nat} (ha : a < 8) (hb : b < 8) : C0 mX3_seemAlike 0 [.ref 5, .int (nI a), .int (nI b)] F Ar x (vEq (some (.int (vB (sAl Ar a b)))) F Ar) := by
  refine C0_of (by decide +kernel) (Nat.le_of_ble_eq_true rfl) (fun κ hκ => ?_)
  show V κ mX3_seemAlike 0 [.ref 5, .int (nI a), .int (nI b), .null, .null, .null] [] F Ar x
  refine V_aload_n (q := 1) dX3_seemAlike_0 rfl rfl ?_
  refine V_getR (q := 4) (n := 31) 5 0 kf_X3_11 (by decide) (by decide) rfl (by decide) dX3_seemAlike_1 rfl ?_
  refine V_iload_n (q := 5) dX3_seemAlike_4 rfl rfl ?_
  refine V_ild (q := 6) (a) 8 rfl ha (by decide) (by omega) (by decide) rfl (by decide) dX3_seemAlike_5 rfl ?_
  refine V_aload_n (q := 7) dX3_seemAlike_6 rfl rfl ?_
  refine V_getR (q := 10) (n := 32) 5 1 kf_X3_15 (by decide) (by decide) rfl (by decide) dX3_seemAlike_7 rfl ?_
  refine V_iload_n (q := 11) dX3_seemAlike_10 rfl rfl ?_
  refine V_ild (q := 12) (b) 8 rfl hb (by decide) (by omega) (by decide) rfl (by decide) dX3_seemAlike_11 rfl ?_
  refine V_icmp_gt (tgt := 34) (q := 15) dX3_seemAlike_12 (by decide) rfl (fun c_12 => ?_) (fun c_12 => ?_)
  · refine V_iconst (q := 35) (v := 0) dX3_seemAlike_34 (by decide) rfl ?_
    refine V_top (vB (sDays (Ar 31 a) (Ar 32 a) (Ar 31 b) (Ar 32 b))) (vB_f (fun h => v_nlt c_12 h.1)).symm ?_
    refine V_istore_n (q := 36) dX3_seemAlike_35 (Nat.le_of_ble_eq_true rfl) rfl rfl ?_
    exact st_seem2 hκ ha hb
  · refine V_aload_n (q := 16) dX3_seemAlike_15 rfl rfl ?_
    refine V_getR (q := 19) (n := 31) 5 0 kf_X3_11 (by decide) (by decide) rfl (by decide) dX3_seemAlike_16 rfl ?_
    refine V_iload_n (q := 20) dX3_seemAlike_19 rfl rfl ?_
    refine V_ild (q := 21) (b) 8 rfl hb (by decide) (by omega) (by decide) rfl (by decide) dX3_seemAlike_20 rfl ?_
    refine V_aload_n (q := 22) dX3_seemAlike_21 rfl rfl ?_
    refine V_getR (q := 25) (n := 32) 5 1 kf_X3_15 (by decide) (by decide) rfl (by decide) dX3_seemAlike_22 rfl ?_
    refine V_iload_n (q := 26) dX3_seemAlike_25 rfl rfl ?_
    refine V_ild (q := 27) (a) 8 rfl ha (by decide) (by omega) (by decide) rfl (by decide) dX3_seemAlike_26 rfl ?_
    refine V_icmp_gt (tgt := 34) (q := 30) dX3_seemAlike_27 (by decide) rfl (fun c_27 => ?_) (fun c_27 => ?_)
    · refine V_iconst (q := 35) (v := 0) dX3_seemAlike_34 (by decide) rfl ?_
      refine V_top (vB (sDays (Ar 31 a) (Ar 32 a) (Ar 31 b) (Ar 32 b))) (vB_f (fun h => v_nlt c_27 h.2)).symm ?_
      refine V_istore_n (q := 36) dX3_seemAlike_35 (Nat.le_of_ble_eq_true rfl) rfl rfl ?_
      exact st_seem2 hκ ha hb
    · refine V_iconst (q := 31) (v := 1) dX3_seemAlike_30 (by decide) rfl ?_
      refine V_goto (q := 35) dX3_seemAlike_31 (by decide) ?_
      refine V_top (vB (sDays (Ar 31 a) (Ar 32 a) (Ar 31 b) (Ar 32 b))) (vB_t ⟨v_nle c_12, v_nle c_27⟩).symm ?_
      refine V_istore_n (q := 36) dX3_seemAlike_35 (Nat.le_of_ble_eq_true rfl) rfl rfl ?_
      exact st_seem2 hκ ha hb
