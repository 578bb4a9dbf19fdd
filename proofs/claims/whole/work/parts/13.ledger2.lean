set_option maxHeartbeats 1000000 in
theorem lp_fill {F : vFt} {Ar : vAt} {x : vXt} {a n : Nat} {v : Int32} {κ : vK} (hκ : vStd κ 0 x (vEq none F (vS Ar a (vFill (Ar a) n v)))) (h9 : 9 ≤ a) (ha : a < 66 + x.1) (ht : vTyA a = 0) (hn : vLen a = n) (h31 : n < 2 ^ 31) : ∀ k i, i + k = n → V κ mJ7_fill_53178 5 [.ref a, .int v, .int (nI i), .int (nI n)] [] F (vS Ar a (vFill (Ar a) i v)) x := by
  intro k
  induction k with
  | zero =>
    intro i hi
    obtain rfl : i = n := by omega
    refine V_iload_n (q := 6) dJ7_fill_53178_5 rfl rfl ?_
    refine V_iload_n (q := 7) dJ7_fill_53178_6 rfl rfl ?_
    refine V_icmp_ge (tgt := 20) (q := 10) dJ7_fill_53178_7 (by decide) rfl (fun c_7 => ?_) (fun c_7 => absurd c_7 (v_gt h31 h31 (Nat.le_refl _)))
    exact V_vret hκ rfl dJ7_fill_53178_20 vEq.rf
  | succ k ih =>
    intro i hi
    refine V_iload_n (q := 6) dJ7_fill_53178_5 rfl rfl ?_
    refine V_iload_n (q := 7) dJ7_fill_53178_6 rfl rfl ?_
    refine V_icmp_ge (tgt := 20) (q := 10) dJ7_fill_53178_7 (by decide) rfl (fun c_7 => absurd c_7 (v_gf (by omega) h31 (by omega))) (fun c_7 => ?_)
    refine V_aload_n (q := 11) dJ7_fill_53178_10 rfl rfl ?_
    refine V_iload_n (q := 12) dJ7_fill_53178_11 rfl rfl ?_
    refine V_iload_n (q := 13) dJ7_fill_53178_12 rfl rfl ?_
    refine V_ist (q := 14) (i) n rfl (by omega) h9 ha ht hn h31 dJ7_fill_53178_13 rfl ?_
    refine V_iincN (q := 17) dJ7_fill_53178_14 rfl (Nat.le_of_ble_eq_true rfl) rfl rfl ?_
    refine V_goto (q := 5) dJ7_fill_53178_17 (by decide) ?_
    refine V_ar (vS Ar a (vFill (Ar a) (i + 1) v)) (by rw [vS_at, vS_vS, vFill_s]) ?_
    exact ih (i + 1) (by omega)
theorem tJ7_fill_53178 {F : vFt} {Ar : vAt} {x : vXt} {a n : Nat} {v : Int32} (h9 : 9 ≤ a) (ha : a < 66 + x.1) (ht : vTyA a = 0) (hn : vLen a = n) (h31 : n < 2 ^ 31) : C0 mJ7_fill_53178 0 [.ref a, .int v] F Ar x (vEq none F (vS Ar a (vFill (Ar a) n v))) := by
  refine C0_of (by decide +kernel) (Nat.le_of_ble_eq_true rfl) (fun κ hκ => ?_)
  show V κ mJ7_fill_53178 0 [.ref a, .int v, .null, .null] [] F Ar x
  refine V_iconst (q := 1) (v := 0) dJ7_fill_53178_0 (by decide) rfl ?_
  refine V_istore_n (q := 2) dJ7_fill_53178_1 (Nat.le_of_ble_eq_true rfl) rfl rfl ?_
  refine V_aload_n (q := 3) dJ7_fill_53178_2 rfl rfl ?_
  refine V_alen (q := 4) h9 ha hn dJ7_fill_53178_3 rfl ?_
  refine V_istore_n (q := 5) dJ7_fill_53178_4 (Nat.le_of_ble_eq_true rfl) rfl rfl ?_
  refine V_ar (vS Ar a (vFill (Ar a) 0 v)) (by rw [vFill_0, vS_self]) ?_
  exact lp_fill hκ h9 ha ht hn h31 n 0 (by omega)
theorem tX2_bringParts {F : vFt} {Ar : vAt} {x : vXt} {e a b : Nat} (he : e < 60) (ha : a < 40) (hb : b < 40) (h1 : Ar 25 e = nI a) (h2 : Ar 26 e = nI b) : C0 mX2_bringParts 1 [.ref 4, .int (nI e)] F Ar x (vEq (some (.int (if gCol (Ar 23) 4 e ≤ Ar 27 a - Ar 28 a then 1 else 0))) F (if gCol (Ar 23) 4 e ≤ Ar 27 a - Ar 28 a then gPut Ar (gMove (gIx (Ar 25)) (gIx (Ar 26)) e (gCol (Ar 23) 4 e) (gGet Ar)) else Ar)) := by
  refine C0_of (by decide +kernel) (Nat.le_of_ble_eq_true rfl) (fun κ hκ => ?_)
  show V κ mX2_bringParts 0 [.ref 4, .int (nI e), .null, .null] [] F Ar x
  have e1 := gIx_eq h1 (by omega)
  have e2 := gIx_eq h2 (by omega)
  have fin : vS Ar 27 (upd (upd (Ar 27) a (Ar 27 a - gCol (Ar 23) 4 e)) b (upd (Ar 27) a (Ar 27 a - gCol (Ar 23) 4 e) b + gCol (Ar 23) 4 e)) = gPut Ar (gMove (gIx (Ar 25)) (gIx (Ar 26)) e (gCol (Ar 23) 4 e) (gGet Ar)) := by
    unfold gPut gMove gGet
    simp only [e1, e2]
    funext z
    simp only [vS]
    by_cases h1 : z = 24 <;> by_cases h2 : z = 29 <;> by_cases h3 : z = 28 <;> by_cases h4 : z = 27 <;> simp_all
  refine V_aload_n (q := 1) dX2_bringParts_0 rfl rfl ?_
  refine V_getR (q := 4) (n := 25) 4 3 kf_X2_21 (by decide) (by decide) rfl (by decide) dX2_bringParts_1 rfl ?_
  refine V_iload_n (q := 5) dX2_bringParts_4 rfl rfl ?_
  refine V_ild (q := 6) (e) 60 rfl he (by decide) (by omega) (by decide) rfl (by decide) dX2_bringParts_5 rfl ?_
  rw [h1]
  refine V_istore_n (q := 7) dX2_bringParts_6 (Nat.le_of_ble_eq_true rfl) rfl rfl ?_
  refine V_aload_n (q := 8) dX2_bringParts_7 rfl rfl ?_
  refine V_iload_n (q := 9) dX2_bringParts_8 rfl rfl ?_
  refine V_iconst (q := 10) (v := 4) dX2_bringParts_9 (by decide) rfl ?_
  refine V_cV2I (q := 13) (o := 4) (N := mX2_told) (tX2_told (c := 4) he (by decide)) hκ.big (by decide) gX2_told kl_X2_50 ki_X2_told ks_X2_told (by decide) rfl (Nat.le_of_ble_eq_true rfl) dX2_bringParts_10 rfl ?_
  refine V_istore_n (q := 14) dX2_bringParts_13 (Nat.le_of_ble_eq_true rfl) rfl rfl ?_
  refine V_iload_n (q := 15) dX2_bringParts_14 rfl rfl ?_
  refine V_aload_n (q := 16) dX2_bringParts_15 rfl rfl ?_
  refine V_iload_n (q := 17) dX2_bringParts_16 rfl rfl ?_
  refine V_cV1I (q := 20) (o := 4) (N := mX2_freeOf) (tX2_freeOf ha) hκ.big (by decide) gX2_freeOf kl_X2_69 ki_X2_freeOf ks_X2_freeOf (by decide) rfl (Nat.le_of_ble_eq_true rfl) dX2_bringParts_17 rfl ?_
  refine V_icmp_le (tgt := 25) (q := 23) dX2_bringParts_20 (by decide) rfl (fun c_20 => ?_) (fun c_20 => ?_)
  · refine V_aload_n (q := 26) dX2_bringParts_25 rfl rfl ?_
    refine V_getR (q := 29) (n := 27) 4 5 kf_X2_27 (by decide) (by decide) rfl (by decide) dX2_bringParts_26 rfl ?_
    refine V_iload_n (q := 30) dX2_bringParts_29 rfl rfl ?_
    refine V_dup2 (q := 31) dX2_bringParts_30 rfl rfl rfl ?_
    refine V_ild (q := 32) (a) 40 rfl ha (by decide) (by omega) (by decide) rfl (by decide) dX2_bringParts_31 rfl ?_
    refine V_iload_n (q := 33) dX2_bringParts_32 rfl rfl ?_
    refine V_isub (q := 34) dX2_bringParts_33 rfl ?_
    refine V_ist (q := 35) (a) 40 rfl ha (by decide) (by omega) (by decide) rfl (by decide) dX2_bringParts_34 rfl ?_
    refine V_aload_n (q := 36) dX2_bringParts_35 rfl rfl ?_
    refine V_getR (q := 39) (n := 27) 4 5 kf_X2_27 (by decide) (by decide) rfl (by decide) dX2_bringParts_36 rfl ?_
    refine V_aload_n (q := 40) dX2_bringParts_39 rfl rfl ?_
    refine V_getR (q := 43) (n := 26) 4 4 kf_X2_24 (by decide) (by decide) rfl (by decide) dX2_bringParts_40 rfl ?_
    refine V_iload_n (q := 44) dX2_bringParts_43 rfl rfl ?_
    refine V_ild (q := 45) (e) 60 rfl he (by decide) (by omega) (by decide) rfl (by decide) dX2_bringParts_44 rfl ?_
    refine V_dup2 (q := 46) dX2_bringParts_45 rfl rfl rfl ?_
    refine V_ild (q := 47) (b) 40 h2 hb (by decide) (by omega) (by decide) rfl (by decide) dX2_bringParts_46 rfl ?_
    refine V_iload_n (q := 48) dX2_bringParts_47 rfl rfl ?_
    refine V_iadd (q := 49) dX2_bringParts_48 rfl ?_
    refine V_ist (q := 50) (b) 40 h2 hb (by decide) (by omega) (by decide) rfl (by decide) dX2_bringParts_49 rfl ?_
    refine V_iconst (q := 51) (v := 1) dX2_bringParts_50 (by decide) rfl ?_
    exact V_iret hκ rfl rfl dX2_bringParts_51 (by have c9 : gCol (Ar 23) 4 e ≤ Ar 27 a - Ar 28 a := c_20; rw [if_pos c9, if_pos c9]; exact ⟨rfl, rfl, by rw [← fin, vS_at, vS_vS]; rfl⟩)
  · refine V_iconst (q := 24) (v := 0) dX2_bringParts_23 (by decide) rfl ?_
    exact V_iret hκ rfl rfl dX2_bringParts_24 (by have c9 : ¬ gCol (Ar 23) 4 e ≤ Ar 27 a - Ar 28 a := c_20; rw [if_neg c9, if_neg c9]; exact vEq.rf)
theorem tX2_beginPledge {F : vFt} {Ar : vAt} {x : vXt} {e a b : Nat} (he : e < 60) (ha : a < 40) (hb : b < 40) (h1 : Ar 25 e = nI a) (h2 : Ar 26 e = nI b) : C0 mX2_beginPledge 2 [.ref 4, .int (nI e)] F Ar x (vEq (some (.int (if gCol (Ar 23) 4 e ≤ Ar 27 a - Ar 28 a then 1 else 0))) F (if gCol (Ar 23) 4 e ≤ Ar 27 a - Ar 28 a then gPut Ar (gSet (gIx (Ar 25)) (gIx (Ar 26)) e 1 (gCol (Ar 23) 4 e) (gGet Ar)) else Ar)) := by
  refine C0_of (by decide +kernel) (Nat.le_of_ble_eq_true rfl) (fun κ hκ => ?_)
  show V κ mX2_beginPledge 0 [.ref 4, .int (nI e)] [] F Ar x
  refine V_aload_n (q := 1) dX2_beginPledge_0 rfl rfl ?_
  refine V_iload_n (q := 2) dX2_beginPledge_1 rfl rfl ?_
  refine V_iconst (q := 3) (v := 4) dX2_beginPledge_2 (by decide) rfl ?_
  refine V_cV2I (q := 6) (o := 4) (N := mX2_told) (tX2_told (c := 4) he (by decide)) hκ.big (by decide) gX2_told kl_X2_50 ki_X2_told ks_X2_told (by decide) rfl (Nat.le_of_ble_eq_true rfl) dX2_beginPledge_3 rfl ?_
  refine V_aload_n (q := 7) dX2_beginPledge_6 rfl rfl ?_
  refine V_aload_n (q := 8) dX2_beginPledge_7 rfl rfl ?_
  refine V_getR (q := 11) (n := 25) 4 3 kf_X2_21 (by decide) (by decide) rfl (by decide) dX2_beginPledge_8 rfl ?_
  refine V_iload_n (q := 12) dX2_beginPledge_11 rfl rfl ?_
  refine V_ild (q := 13) (e) 60 rfl he (by decide) (by omega) (by decide) rfl (by decide) dX2_beginPledge_12 rfl ?_
  rw [h1]
  refine V_cV1I (q := 16) (o := 4) (N := mX2_freeOf) (tX2_freeOf ha) hκ.big (by decide) gX2_freeOf kl_X2_69 ki_X2_freeOf ks_X2_freeOf (by decide) rfl (Nat.le_of_ble_eq_true rfl) dX2_beginPledge_13 rfl ?_
  refine V_icmp_le (tgt := 21) (q := 19) dX2_beginPledge_16 (by decide) rfl (fun c_16 => ?_) (fun c_16 => ?_)
  · refine V_aload_n (q := 22) dX2_beginPledge_21 rfl rfl ?_
    refine V_iload_n (q := 23) dX2_beginPledge_22 rfl rfl ?_
    refine V_iconst (q := 24) (v := 1) dX2_beginPledge_23 (by decide) rfl ?_
    refine V_cV2U (q := 27) (o := 4) (N := mX2_setStanding) (tX2_setStanding (on := true) he ha hb h1 h2) hκ.big (by decide) gX2_setStanding kl_X2_103 ki_X2_setStanding ks_X2_setStanding (by decide) rfl (Nat.le_of_ble_eq_true rfl) dX2_beginPledge_24 rfl ?_
    refine V_iconst (q := 28) (v := 1) dX2_beginPledge_27 (by decide) rfl ?_
    exact V_iret hκ rfl rfl dX2_beginPledge_28 (by have c9 : gCol (Ar 23) 4 e ≤ Ar 27 a - Ar 28 a := c_16; rw [if_pos c9, if_pos c9]; exact vEq.rf)
  · refine V_iconst (q := 20) (v := 0) dX2_beginPledge_19 (by decide) rfl ?_
    exact V_iret hκ rfl rfl dX2_beginPledge_20 (by have c9 : ¬ gCol (Ar 23) 4 e ≤ Ar 27 a - Ar 28 a := c_16; rw [if_neg c9, if_neg c9]; exact vEq.rf)
theorem tX2_endPledge {F : vFt} {Ar : vAt} {x : vXt} {n e a b : Nat} (hn : F 258 = nI n) (hn60 : n ≤ 60) (he : e < n) (ha : a < 40) (hb : b < 40) (h1 : Ar 25 e = nI a) (h2 : Ar 26 e = nI b) : C0 mX2_endPledge 2 [.ref 4, .int (nI e)] F Ar x (vEq (some (.int (if Ar 24 e = 0 then 0 else 1))) F (if Ar 24 e = 0 then Ar else gPut Ar (gSet (gIx (Ar 25)) (gIx (Ar 26)) e 0 (-(gCol (Ar 23) 4 e)) (gGet Ar)))) := by
  refine C0_of (by decide +kernel) (Nat.le_of_ble_eq_true rfl) (fun κ hκ => ?_)
  show V κ mX2_endPledge 0 [.ref 4, .int (nI e)] [] F Ar x
  refine V_aload_n (q := 1) dX2_endPledge_0 rfl rfl ?_
  refine V_iload_n (q := 2) dX2_endPledge_1 rfl rfl ?_
  refine V_cV1I (q := 5) (o := 4) (N := mX2_has) tX2_has hκ.big (by decide) gX2_has kl_X2_107 ki_X2_has ks_X2_has (by decide) rfl (Nat.le_of_ble_eq_true rfl) dX2_endPledge_2 rfl ?_
  refine V_if_eq (tgt := 17) (q := 8) dX2_endPledge_5 (by decide) rfl (fun c_5 => absurd c_5 (vB_n0.mpr (by rw [hn]; exact (v_has (by omega)).mpr ⟨e, he, rfl⟩))) (fun c_5 => ?_)
  refine V_aload_n (q := 9) dX2_endPledge_8 rfl rfl ?_
  refine V_getR (q := 12) (n := 24) 4 1 kf_X2_17 (by decide) (by decide) rfl (by decide) dX2_endPledge_9 rfl ?_
  refine V_iload_n (q := 13) dX2_endPledge_12 rfl rfl ?_
  refine V_zld (q := 14) (e) 60 rfl (by omega) (by decide) (by omega) (by decide) rfl (by decide) dX2_endPledge_13 rfl ?_
  refine V_if_ne (tgt := 19) (q := 17) dX2_endPledge_14 (by decide) rfl (fun c_14 => ?_) (fun c_14 => ?_)
  · refine V_aload_n (q := 20) dX2_endPledge_19 rfl rfl ?_
    refine V_iload_n (q := 21) dX2_endPledge_20 rfl rfl ?_
    refine V_iconst (q := 22) (v := 0) dX2_endPledge_21 (by decide) rfl ?_
    refine V_cV2U (q := 25) (o := 4) (N := mX2_setStanding) (tX2_setStanding (on := false) (by omega) ha hb h1 h2) hκ.big (by decide) gX2_setStanding kl_X2_103 ki_X2_setStanding ks_X2_setStanding (by decide) rfl (Nat.le_of_ble_eq_true rfl) dX2_endPledge_22 rfl ?_
    refine V_iconst (q := 26) (v := 1) dX2_endPledge_25 (by decide) rfl ?_
    exact V_iret hκ rfl rfl dX2_endPledge_26 (by rw [if_neg c_14, if_neg c_14]; exact vEq.rf)
  · refine V_iconst (q := 18) (v := 0) dX2_endPledge_17 (by decide) rfl ?_
    exact V_iret hκ rfl rfl dX2_endPledge_18 (by rw [if_pos c_14, if_pos c_14]; exact vEq.rf)
