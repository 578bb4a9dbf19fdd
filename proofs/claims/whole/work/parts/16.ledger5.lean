/-- who has the most, of the first i -/
def vBest (f : Nat → Int32) : Nat → Nat
  | 0 => 0
  | i + 1 => if f (vBest f i) < f i then i else vBest f i
theorem vBest_lt (f : Nat → Int32) : ∀ i, 0 < i → vBest f i < i := by
  intro i
  induction i with
  | zero => intro h; omega
  | succ i ih =>
    intro _
    unfold vBest
    split
    · omega
    · rcases Nat.eq_zero_or_pos i with rfl | h
      · simp [vBest]
      · have := ih h
        omega
theorem vBest_1 (f : Nat → Int32) : vBest f 1 = 0 := by
  unfold vBest
  split <;> rfl
def vSum (f : Nat → Int32) : Nat → Int32
  | 0 => 0
  | i + 1 => vSum f i + f i
theorem lp_X2_great {F : vFt} {Ar : vAt} {x : vXt} {h : Nat} {κ : vK} (hκ : vStd κ 2 x (vEq (some (.int (nI (vBest (fun c => Ar 27 (h * 8 + c)) 8)))) F Ar)) (hh : h < 5) : ∀ k i, 0 < i → i + k = 8 → V κ mX2_greatestOwner 4 [.ref 4, .int (nI h), .int (nI (vBest (fun c => Ar 27 (h * 8 + c)) i)), .int (nI i)] [] F Ar x := by
  intro k
  induction k with
  | zero =>
    intro i h0 hi
    obtain rfl : i = 8 := by omega
    refine V_iload_n (q := 5) dX2_greatestOwner_4 rfl rfl ?_
    refine V_bipush (q := 7) (v := 8) dX2_greatestOwner_5 (by decide) rfl ?_
    refine V_icmp_ge (tgt := 33) (q := 10) dX2_greatestOwner_7 (by decide) rfl (fun c_7 => ?_) (fun c_7 => absurd c_7 (v_gt (i := 8) (n := 8) (by decide) (by decide) (Nat.le_refl _)))
    refine V_iload_n (q := 34) dX2_greatestOwner_33 rfl rfl ?_
    exact V_iret hκ rfl rfl dX2_greatestOwner_34 vEq.rf
  | succ k ih =>
    intro i h0 hi
    have hb := vBest_lt (fun c => Ar 27 (h * 8 + c)) i h0
    have ih2 := ih (i + 1) (by omega) (by omega)
    unfold vBest at ih2
    refine V_iload_n (q := 5) dX2_greatestOwner_4 rfl rfl ?_
    refine V_bipush (q := 7) (v := 8) dX2_greatestOwner_5 (by decide) rfl ?_
    refine V_icmp_ge (tgt := 33) (q := 10) dX2_greatestOwner_7 (by decide) rfl (fun c_7 => absurd c_7 (v_gf (n := 8) (by omega) (by decide) (by omega))) (fun c_7 => ?_)
    refine V_aload_n (q := 11) dX2_greatestOwner_10 rfl rfl ?_
    refine V_iload_n (q := 12) dX2_greatestOwner_11 rfl rfl ?_
    refine V_iload_n (q := 13) dX2_greatestOwner_12 rfl rfl ?_
    refine V_cV2I (q := 16) (o := 4) (N := mX2_allParts) (tX2_allParts hh (by omega)) hκ.big (by decide) gX2_allParts kl_X2_73 ki_X2_allParts ks_X2_allParts (by decide) rfl (Nat.le_of_ble_eq_true rfl) dX2_greatestOwner_13 rfl ?_
    refine V_aload_n (q := 17) dX2_greatestOwner_16 rfl rfl ?_
    refine V_iload_n (q := 18) dX2_greatestOwner_17 rfl rfl ?_
    refine V_iload_n (q := 19) dX2_greatestOwner_18 rfl rfl ?_
    refine V_cV2I (q := 22) (o := 4) (N := mX2_allParts) (tX2_allParts hh (by omega)) hκ.big (by decide) gX2_allParts kl_X2_73 ki_X2_allParts ks_X2_allParts (by decide) rfl (Nat.le_of_ble_eq_true rfl) dX2_greatestOwner_19 rfl ?_
    refine V_icmp_le (tgt := 27) (q := 25) dX2_greatestOwner_22 (by decide) rfl (fun c_22 => ?_) (fun c_22 => ?_)
    · refine V_iincN (q := 30) dX2_greatestOwner_27 rfl (Nat.le_of_ble_eq_true rfl) rfl rfl ?_
      refine V_goto (q := 4) dX2_greatestOwner_30 (by decide) ?_
      rw [if_neg (fun q => v_nlt q c_22)] at ih2
      exact ih2
    · refine V_iload_n (q := 26) dX2_greatestOwner_25 rfl rfl ?_
      refine V_istore_n (q := 27) dX2_greatestOwner_26 (Nat.le_of_ble_eq_true rfl) rfl rfl ?_
      refine V_iincN (q := 30) dX2_greatestOwner_27 rfl (Nat.le_of_ble_eq_true rfl) rfl rfl ?_
      refine V_goto (q := 4) dX2_greatestOwner_30 (by decide) ?_
      rw [if_pos (v_lt c_22)] at ih2
      exact ih2
theorem tX2_greatestOwner {F : vFt} {Ar : vAt} {x : vXt} {h : Nat} (hh : h < 5) : C0 mX2_greatestOwner 2 [.ref 4, .int (nI h)] F Ar x (vEq (some (.int (nI (vBest (fun c => Ar 27 (h * 8 + c)) 8)))) F Ar) := by
  refine C0_of (by decide +kernel) (Nat.le_of_ble_eq_true rfl) (fun κ hκ => ?_)
  show V κ mX2_greatestOwner 0 [.ref 4, .int (nI h), .null, .null] [] F Ar x
  refine V_iconst (q := 1) (v := 0) dX2_greatestOwner_0 (by decide) rfl ?_
  refine V_istore_n (q := 2) dX2_greatestOwner_1 (Nat.le_of_ble_eq_true rfl) rfl rfl ?_
  refine V_iconst (q := 3) (v := 1) dX2_greatestOwner_2 (by decide) rfl ?_
  refine V_istore_n (q := 4) dX2_greatestOwner_3 (Nat.le_of_ble_eq_true rfl) rfl rfl ?_
  have h9 := lp_X2_great (F := F) (Ar := Ar) hκ hh 7 1 (by decide) (by decide)
  rw [vBest_1] at h9
  exact h9
theorem lp_X2_sum {F : vFt} {Ar : vAt} {x : vXt} {n c : Nat} {κ : vK} (hκ : vStd κ 1 x (vEq (some (.int (vSum (gCol (Ar 23) c) n))) F Ar)) (hc : c < 9) (hn : F 258 = nI n) (hn60 : n ≤ 60) : ∀ k i, i + k = n → V κ mX2_sumOf 4 [.ref 4, .int (nI c), .int (vSum (gCol (Ar 23) c) i), .int (nI i)] [] F Ar x := by
  intro k
  induction k with
  | zero =>
    intro i hi
    obtain rfl : i = n := by omega
    refine V_iload_n (q := 5) dX2_sumOf_4 rfl rfl ?_
    refine V_aload_n (q := 6) dX2_sumOf_5 rfl rfl ?_
    refine V_getI (q := 9) (n := 258) 4 2 kf_X2_42 (by decide) (by decide) rfl rfl dX2_sumOf_6 rfl ?_
    rw [hn]
    refine V_icmp_ge (tgt := 27) (q := 12) dX2_sumOf_9 (by decide) rfl (fun c_9 => ?_) (fun c_9 => absurd c_9 (v_gt (by omega) (by omega) (Nat.le_refl _)))
    refine V_iload_n (q := 28) dX2_sumOf_27 rfl rfl ?_
    exact V_iret hκ rfl rfl dX2_sumOf_28 vEq.rf
  | succ k ih =>
    intro i hi
    refine V_iload_n (q := 5) dX2_sumOf_4 rfl rfl ?_
    refine V_aload_n (q := 6) dX2_sumOf_5 rfl rfl ?_
    refine V_getI (q := 9) (n := 258) 4 2 kf_X2_42 (by decide) (by decide) rfl rfl dX2_sumOf_6 rfl ?_
    rw [hn]
    refine V_icmp_ge (tgt := 27) (q := 12) dX2_sumOf_9 (by decide) rfl (fun c_9 => absurd c_9 (v_gf (by omega) (by omega) (by omega))) (fun c_9 => ?_)
    refine V_iload_n (q := 13) dX2_sumOf_12 rfl rfl ?_
    refine V_aload_n (q := 14) dX2_sumOf_13 rfl rfl ?_
    refine V_iload_n (q := 15) dX2_sumOf_14 rfl rfl ?_
    refine V_iload_n (q := 16) dX2_sumOf_15 rfl rfl ?_
    refine V_cV2I (q := 19) (o := 4) (N := mX2_told) (tX2_told (e := i) (by omega) hc) hκ.big (by decide) gX2_told kl_X2_50 ki_X2_told ks_X2_told (by decide) rfl (Nat.le_of_ble_eq_true rfl) dX2_sumOf_16 rfl ?_
    refine V_iadd (q := 20) dX2_sumOf_19 rfl ?_
    refine V_istore_n (q := 21) dX2_sumOf_20 (Nat.le_of_ble_eq_true rfl) rfl rfl ?_
    refine V_iincN (q := 24) dX2_sumOf_21 rfl (Nat.le_of_ble_eq_true rfl) rfl rfl ?_
    refine V_goto (q := 4) dX2_sumOf_24 (by decide) ?_
    exact ih (i + 1) (by omega)
theorem tX2_sumOf {F : vFt} {Ar : vAt} {x : vXt} {n c : Nat} (hc : c < 9) (hn : F 258 = nI n) (hn60 : n ≤ 60) : C0 mX2_sumOf 1 [.ref 4, .int (nI c)] F Ar x (vEq (some (.int (vSum (gCol (Ar 23) c) n))) F Ar) := by
  refine C0_of (by decide +kernel) (Nat.le_of_ble_eq_true rfl) (fun κ hκ => ?_)
  show V κ mX2_sumOf 0 [.ref 4, .int (nI c), .null, .null] [] F Ar x
  refine V_iconst (q := 1) (v := 0) dX2_sumOf_0 (by decide) rfl ?_
  refine V_istore_n (q := 2) dX2_sumOf_1 (Nat.le_of_ble_eq_true rfl) rfl rfl ?_
  refine V_iconst (q := 3) (v := 0) dX2_sumOf_2 (by decide) rfl ?_
  refine V_istore_n (q := 4) dX2_sumOf_3 (Nat.le_of_ble_eq_true rfl) rfl rfl ?_
  exact lp_X2_sum hκ hc hn hn60 n 0 (by omega)
theorem tX2_forgedEntries {F : vFt} {Ar : vAt} {x : vXt} {n : Nat} (hn : F 258 = nI n) (hn60 : n ≤ 60) : C0 mX2_forgedEntries 2 [.ref 4] F Ar x (vEq (some (.int (vSum (gCol (Ar 23) 5) n))) F Ar) := by
  refine C0_of (by decide +kernel) (Nat.le_of_ble_eq_true rfl) (fun κ hκ => ?_)
  show V κ mX2_forgedEntries 0 [.ref 4] [] F Ar x
  refine V_aload_n (q := 1) dX2_forgedEntries_0 rfl rfl ?_
  refine V_iconst (q := 2) (v := 5) dX2_forgedEntries_1 (by decide) rfl ?_
  refine V_cV1I (q := 5) (o := 4) (N := mX2_sumOf) (tX2_sumOf (c := 5) (by decide) hn hn60) hκ.big (by decide) gX2_sumOf kl_X2_76 ki_X2_sumOf ks_X2_sumOf (by decide) rfl (Nat.le_of_ble_eq_true rfl) dX2_forgedEntries_2 rfl ?_
  exact V_iret hκ rfl rfl dX2_forgedEntries_5 vEq.rf
theorem tX2_voidEntries {F : vFt} {Ar : vAt} {x : vXt} {n : Nat} (hn : F 258 = nI n) (hn60 : n ≤ 60) : C0 mX2_voidEntries 2 [.ref 4] F Ar x (vEq (some (.int (vSum (gCol (Ar 23) 6) n))) F Ar) := by
  refine C0_of (by decide +kernel) (Nat.le_of_ble_eq_true rfl) (fun κ hκ => ?_)
  show V κ mX2_voidEntries 0 [.ref 4] [] F Ar x
  refine V_aload_n (q := 1) dX2_voidEntries_0 rfl rfl ?_
  refine V_bipush (q := 3) (v := 6) dX2_voidEntries_1 (by decide) rfl ?_
  refine V_cV1I (q := 6) (o := 4) (N := mX2_sumOf) (tX2_sumOf (c := 6) (by decide) hn hn60) hκ.big (by decide) gX2_sumOf kl_X2_76 ki_X2_sumOf ks_X2_sumOf (by decide) rfl (Nat.le_of_ble_eq_true rfl) dX2_voidEntries_3 rfl ?_
  exact V_iret hκ rfl rfl dX2_voidEntries_6 vEq.rf
theorem lp_X2_stand {F : vFt} {Ar : vAt} {x : vXt} {n : Nat} {κ : vK} (hκ : vStd κ 0 x (vEq (some (.int (vSum (fun e => if Ar 24 e = 0 then 0 else 1) n))) F Ar)) (hn : F 258 = nI n) (hn60 : n ≤ 60) : ∀ k i, i + k = n → V κ mX2_standingPledges 4 [.ref 4, .int (vSum (fun e => if Ar 24 e = 0 then 0 else 1) i), .int (nI i)] [] F Ar x := by
  intro k
  induction k with
  | zero =>
    intro i hi
    obtain rfl : i = n := by omega
    refine V_iload_n (q := 5) dX2_standingPledges_4 rfl rfl ?_
    refine V_aload_n (q := 6) dX2_standingPledges_5 rfl rfl ?_
    refine V_getI (q := 9) (n := 258) 4 2 kf_X2_42 (by decide) (by decide) rfl rfl dX2_standingPledges_6 rfl ?_
    rw [hn]
    refine V_icmp_ge (tgt := 35) (q := 12) dX2_standingPledges_9 (by decide) rfl (fun c_9 => ?_) (fun c_9 => absurd c_9 (v_gt (by omega) (by omega) (Nat.le_refl _)))
    refine V_iload_n (q := 36) dX2_standingPledges_35 rfl rfl ?_
    exact V_iret hκ rfl rfl dX2_standingPledges_36 vEq.rf
  | succ k ih =>
    intro i hi
    have ih2 := ih (i + 1) (by omega)
    unfold vSum at ih2
    refine V_iload_n (q := 5) dX2_standingPledges_4 rfl rfl ?_
    refine V_aload_n (q := 6) dX2_standingPledges_5 rfl rfl ?_
    refine V_getI (q := 9) (n := 258) 4 2 kf_X2_42 (by decide) (by decide) rfl rfl dX2_standingPledges_6 rfl ?_
    rw [hn]
    refine V_icmp_ge (tgt := 35) (q := 12) dX2_standingPledges_9 (by decide) rfl (fun c_9 => absurd c_9 (v_gf (by omega) (by omega) (by omega))) (fun c_9 => ?_)
    refine V_iload_n (q := 13) dX2_standingPledges_12 rfl rfl ?_
    refine V_aload_n (q := 14) dX2_standingPledges_13 rfl rfl ?_
    refine V_getR (q := 17) (n := 24) 4 1 kf_X2_17 (by decide) (by decide) rfl (by decide) dX2_standingPledges_14 rfl ?_
    refine V_iload_n (q := 18) dX2_standingPledges_17 rfl rfl ?_
    refine V_zld (q := 19) (i) 60 rfl (by omega) (by decide) (by omega) (by decide) rfl (by decide) dX2_standingPledges_18 rfl ?_
    refine V_if_eq (tgt := 26) (q := 22) dX2_standingPledges_19 (by decide) rfl (fun c_19 => ?_) (fun c_19 => ?_)
    · refine V_iconst (q := 27) (v := 0) dX2_standingPledges_26 (by decide) rfl ?_
      refine V_iadd (q := 28) dX2_standingPledges_27 rfl ?_
      refine V_istore_n (q := 29) dX2_standingPledges_28 (Nat.le_of_ble_eq_true rfl) rfl rfl ?_
      refine V_iincN (q := 32) dX2_standingPledges_29 rfl (Nat.le_of_ble_eq_true rfl) rfl rfl ?_
      refine V_goto (q := 4) dX2_standingPledges_32 (by decide) ?_
      rw [if_pos c_19] at ih2
      exact ih2
    · refine V_iconst (q := 23) (v := 1) dX2_standingPledges_22 (by decide) rfl ?_
      refine V_goto (q := 27) dX2_standingPledges_23 (by decide) ?_
      refine V_iadd (q := 28) dX2_standingPledges_27 rfl ?_
      refine V_istore_n (q := 29) dX2_standingPledges_28 (Nat.le_of_ble_eq_true rfl) rfl rfl ?_
      refine V_iincN (q := 32) dX2_standingPledges_29 rfl (Nat.le_of_ble_eq_true rfl) rfl rfl ?_
      refine V_goto (q := 4) dX2_standingPledges_32 (by decide) ?_
      rw [if_neg c_19] at ih2
      exact ih2
theorem tX2_standingPledges {F : vFt} {Ar : vAt} {x : vXt} {n : Nat} (hn : F 258 = nI n) (hn60 : n ≤ 60) : C0 mX2_standingPledges 0 [.ref 4] F Ar x (vEq (some (.int (vSum (fun e => if Ar 24 e = 0 then 0 else 1) n))) F Ar) := by
  refine C0_of (by decide +kernel) (Nat.le_of_ble_eq_true rfl) (fun κ hκ => ?_)
  show V κ mX2_standingPledges 0 [.ref 4, .null, .null] [] F Ar x
  refine V_iconst (q := 1) (v := 0) dX2_standingPledges_0 (by decide) rfl ?_
  refine V_istore_n (q := 2) dX2_standingPledges_1 (Nat.le_of_ble_eq_true rfl) rfl rfl ?_
  refine V_iconst (q := 3) (v := 0) dX2_standingPledges_2 (by decide) rfl ?_
  refine V_istore_n (q := 4) dX2_standingPledges_3 (Nat.le_of_ble_eq_true rfl) rfl rfl ?_
  exact lp_X2_stand hκ hn hn60 n 0 (by omega)
def gRow (T : Nat → Int32) (e : Nat) (k h a b m r : Int32) : Nat → Int32 := upd (upd (upd (upd (upd (upd T (e * 9 + 0) k) (e * 9 + 1) h) (e * 9 + 2) a) (e * 9 + 3) b) (e * 9 + 4) m) (e * 9 + 8) r
def gAdd (Ar : vAt) (n : Nat) (k : Int32) (h a b : Nat) (m r : Int32) : vAt := vS (vS (vS Ar 25 (upd (Ar 25) n (nI (h * 8 + a)))) 26 (upd (Ar 26) n (nI (h * 8 + b)))) 23 (gRow (Ar 23) n k (nI h) (nI a) (nI b) m r)
theorem tX2_add {F : vFt} {Ar : vAt} {x : vXt} {n h a b : Nat} {k m r : Int32} (hn : F 258 = nI n) (hn60 : n ≤ 60) (hok : n < 60 → gOk (gAdd Ar n k h a b m r) (n + 1)) : C0 mX2_add 5 [.ref 4, .int k, .int (nI h), .int (nI a), .int (nI b), .int m, .int r] F Ar x (vEq (some (.int (if n < 60 then nI n else -2))) (if n < 60 then upd F 258 (nI (n + 1)) else F) (if n < 60 then gAll (gAdd Ar n k h a b m r) (n + 1) else Ar)) := by
  refine C0_of (by decide +kernel) (Nat.le_of_ble_eq_true rfl) (fun κ hκ => ?_)
  show V κ mX2_add 0 [.ref 4, .int k, .int (nI h), .int (nI a), .int (nI b), .int m, .int r] [] F Ar x
  refine V_aload_n (q := 1) dX2_add_0 rfl rfl ?_
  refine V_getI (q := 4) (n := 258) 4 2 kf_X2_42 (by decide) (by decide) rfl rfl dX2_add_1 rfl ?_
  refine V_bipush (q := 6) (v := 60) dX2_add_4 (by decide) rfl ?_
  have h6 : nI n < nI 60 ↔ n < 60 := nI_ltI (by omega) (by decide)
  rw [hn]
  refine V_icmp_lt (tgt := 12) (q := 9) dX2_add_6 (by decide) rfl (fun c_6 => ?_) (fun c_6 => ?_)
  · refine V_aload_n (q := 13) dX2_add_12 rfl rfl ?_
    refine V_getR (q := 16) (n := 25) 4 3 kf_X2_21 (by decide) (by decide) rfl (by decide) dX2_add_13 rfl ?_
    refine V_aload_n (q := 17) dX2_add_16 rfl rfl ?_
    refine V_getI (q := 20) (n := 258) 4 2 kf_X2_42 (by decide) (by decide) rfl rfl dX2_add_17 rfl ?_
    rw [hn]
    refine V_iload_n (q := 21) dX2_add_20 rfl rfl ?_
    refine V_iload_n (q := 22) dX2_add_21 rfl rfl ?_
    refine V_cS2I (q := 25) (N := mX2_account) tX2_account hκ.big (by decide) gX2_account kl_X2_58 kt_X2_account (Nat.le_of_ble_eq_true rfl) dX2_add_22 rfl ?_
    refine V_ist (q := 26) (n) 60 rfl (h6.mp c_6) (by decide) (by omega) (by decide) rfl (by decide) dX2_add_25 rfl ?_
    refine V_aload_n (q := 27) dX2_add_26 rfl rfl ?_
    refine V_getR (q := 30) (n := 26) 4 4 kf_X2_24 (by decide) (by decide) rfl (by decide) dX2_add_27 rfl ?_
    refine V_aload_n (q := 31) dX2_add_30 rfl rfl ?_
    refine V_getI (q := 34) (n := 258) 4 2 kf_X2_42 (by decide) (by decide) rfl rfl dX2_add_31 rfl ?_
    rw [hn]
    refine V_iload_n (q := 35) dX2_add_34 rfl rfl ?_
    refine V_iload (q := 37) dX2_add_35 rfl rfl ?_
    refine V_cS2I (q := 40) (N := mX2_account) tX2_account hκ.big (by decide) gX2_account kl_X2_58 kt_X2_account (Nat.le_of_ble_eq_true rfl) dX2_add_37 rfl ?_
    refine V_ist (q := 41) (n) 60 rfl (h6.mp c_6) (by decide) (by omega) (by decide) rfl (by decide) dX2_add_40 rfl ?_
    refine V_aload_n (q := 42) dX2_add_41 rfl rfl ?_
    refine V_aload_n (q := 43) dX2_add_42 rfl rfl ?_
    refine V_getI (q := 46) (n := 258) 4 2 kf_X2_42 (by decide) (by decide) rfl rfl dX2_add_43 rfl ?_
    rw [hn]
    refine V_iconst (q := 47) (v := 0) dX2_add_46 (by decide) rfl ?_
    refine V_iload_n (q := 48) dX2_add_47 rfl rfl ?_
    refine V_cV3U (q := 51) (o := 4) (N := mX2_put) (tX2_put (e := n) (c := 0) (h6.mp c_6) (by decide)) hκ.big (by decide) gX2_put kl_X2_61 ki_X2_put ks_X2_put (by decide) rfl (Nat.le_of_ble_eq_true rfl) dX2_add_48 rfl ?_
    refine V_aload_n (q := 52) dX2_add_51 rfl rfl ?_
    refine V_aload_n (q := 53) dX2_add_52 rfl rfl ?_
    refine V_getI (q := 56) (n := 258) 4 2 kf_X2_42 (by decide) (by decide) rfl rfl dX2_add_53 rfl ?_
    rw [hn]
    refine V_iconst (q := 57) (v := 1) dX2_add_56 (by decide) rfl ?_
    refine V_iload_n (q := 58) dX2_add_57 rfl rfl ?_
    refine V_cV3U (q := 61) (o := 4) (N := mX2_put) (tX2_put (e := n) (c := 1) (h6.mp c_6) (by decide)) hκ.big (by decide) gX2_put kl_X2_61 ki_X2_put ks_X2_put (by decide) rfl (Nat.le_of_ble_eq_true rfl) dX2_add_58 rfl ?_
    refine V_aload_n (q := 62) dX2_add_61 rfl rfl ?_
    refine V_aload_n (q := 63) dX2_add_62 rfl rfl ?_
    refine V_getI (q := 66) (n := 258) 4 2 kf_X2_42 (by decide) (by decide) rfl rfl dX2_add_63 rfl ?_
    rw [hn]
    refine V_iconst (q := 67) (v := 2) dX2_add_66 (by decide) rfl ?_
    refine V_iload_n (q := 68) dX2_add_67 rfl rfl ?_
    refine V_cV3U (q := 71) (o := 4) (N := mX2_put) (tX2_put (e := n) (c := 2) (h6.mp c_6) (by decide)) hκ.big (by decide) gX2_put kl_X2_61 ki_X2_put ks_X2_put (by decide) rfl (Nat.le_of_ble_eq_true rfl) dX2_add_68 rfl ?_
    refine V_aload_n (q := 72) dX2_add_71 rfl rfl ?_
    refine V_aload_n (q := 73) dX2_add_72 rfl rfl ?_
    refine V_getI (q := 76) (n := 258) 4 2 kf_X2_42 (by decide) (by decide) rfl rfl dX2_add_73 rfl ?_
    rw [hn]
    refine V_iconst (q := 77) (v := 3) dX2_add_76 (by decide) rfl ?_
    refine V_iload (q := 79) dX2_add_77 rfl rfl ?_
    refine V_cV3U (q := 82) (o := 4) (N := mX2_put) (tX2_put (e := n) (c := 3) (h6.mp c_6) (by decide)) hκ.big (by decide) gX2_put kl_X2_61 ki_X2_put ks_X2_put (by decide) rfl (Nat.le_of_ble_eq_true rfl) dX2_add_79 rfl ?_
    refine V_aload_n (q := 83) dX2_add_82 rfl rfl ?_
    refine V_aload_n (q := 84) dX2_add_83 rfl rfl ?_
    refine V_getI (q := 87) (n := 258) 4 2 kf_X2_42 (by decide) (by decide) rfl rfl dX2_add_84 rfl ?_
    rw [hn]
    refine V_iconst (q := 88) (v := 4) dX2_add_87 (by decide) rfl ?_
    refine V_iload (q := 90) dX2_add_88 rfl rfl ?_
    refine V_cV3U (q := 93) (o := 4) (N := mX2_put) (tX2_put (e := n) (c := 4) (h6.mp c_6) (by decide)) hκ.big (by decide) gX2_put kl_X2_61 ki_X2_put ks_X2_put (by decide) rfl (Nat.le_of_ble_eq_true rfl) dX2_add_90 rfl ?_
    refine V_aload_n (q := 94) dX2_add_93 rfl rfl ?_
    refine V_aload_n (q := 95) dX2_add_94 rfl rfl ?_
    refine V_getI (q := 98) (n := 258) 4 2 kf_X2_42 (by decide) (by decide) rfl rfl dX2_add_95 rfl ?_
    rw [hn]
    refine V_bipush (q := 100) (v := 8) dX2_add_98 (by decide) rfl ?_
    refine V_iload (q := 102) dX2_add_100 rfl rfl ?_
    refine V_cV3U (q := 105) (o := 4) (N := mX2_put) (tX2_put (e := n) (c := 8) (h6.mp c_6) (by decide)) hκ.big (by decide) gX2_put kl_X2_61 ki_X2_put ks_X2_put (by decide) rfl (Nat.le_of_ble_eq_true rfl) dX2_add_102 rfl ?_
    refine V_aload_n (q := 106) dX2_add_105 rfl rfl ?_
    refine V_dup (q := 107) dX2_add_106 rfl rfl ?_
    refine V_getI (q := 110) (n := 258) 4 2 kf_X2_42 (by decide) (by decide) rfl rfl dX2_add_107 rfl ?_
    refine V_iconst (q := 111) (v := 1) dX2_add_110 (by decide) rfl ?_
    refine V_iadd (q := 112) dX2_add_111 rfl ?_
    refine V_putI (q := 115) (n := 258) 4 2 kf_X2_42 (by decide) (by decide) rfl rfl dX2_add_112 rfl ?_
    refine V_fl (upd F 258 (nI (n + 1))) (by rw [hn, nI_1]) ?_
    refine V_ar (gAdd Ar n k h a b m r) (by simp only [vS_vS, vS_at]; rfl) ?_
    refine V_aload_n (q := 116) dX2_add_115 rfl rfl ?_
    refine V_cV0U (q := 119) (o := 4) (N := mX2_goThrough) (tX2_goThrough (n := n + 1) rfl (by have := h6.mp c_6; omega) (hok (h6.mp c_6))) hκ.big (by decide) gX2_goThrough kl_X2_39 ki_X2_goThrough ks_X2_goThrough (by decide) rfl (Nat.le_of_ble_eq_true rfl) dX2_add_116 rfl ?_
    refine V_aload_n (q := 120) dX2_add_119 rfl rfl ?_
    refine V_getI (q := 123) (n := 258) 4 2 kf_X2_42 (by decide) (by decide) rfl rfl dX2_add_120 rfl ?_
    refine V_iconst (q := 124) (v := 1) dX2_add_123 (by decide) rfl ?_
    refine V_isub (q := 125) dX2_add_124 rfl ?_
    exact V_iret hκ rfl rfl dX2_add_125 (by simp only [if_pos (h6.mp c_6)]; exact ⟨congrArg (fun z => some (Value.int z)) (nI_pred n), rfl, rfl⟩)
  · refine V_bipush (q := 11) (v := (-2)) dX2_add_9 (by decide) rfl ?_
    exact V_iret hκ rfl rfl dX2_add_11 (by simp only [if_neg (fun h => c_6 (h6.mpr h) : ¬ n < 60)]; exact vEq.rf)
theorem tX2_addRedeem {F : vFt} {Ar : vAt} {x : vXt} {n e h a b : Nat} (hn : F 258 = nI n) (hn60 : n ≤ 60) (he : e < n) (hh : gCol (Ar 23) 1 e = nI h) (ha : gCol (Ar 23) 2 e = nI a) (hb : gCol (Ar 23) 3 e = nI b) (hok : n < 60 → gOk (gAdd Ar n 2 h a b (gCol (Ar 23) 4 e) (nI e)) (n + 1)) : C0 mX2_addRedeem 6 [.ref 4, .int (nI e)] F Ar x (vEq (some (.int (if gCol (Ar 23) 0 e = 1 then (if n < 60 then nI n else -2) else -5))) (if gCol (Ar 23) 0 e = 1 ∧ n < 60 then upd F 258 (nI (n + 1)) else F) (if gCol (Ar 23) 0 e = 1 ∧ n < 60 then gAll (gAdd Ar n 2 h a b (gCol (Ar 23) 4 e) (nI e)) (n + 1) else Ar)) := by
  refine C0_of (by decide +kernel) (Nat.le_of_ble_eq_true rfl) (fun κ hκ => ?_)
  show V κ mX2_addRedeem 0 [.ref 4, .int (nI e)] [] F Ar x
  refine V_aload_n (q := 1) dX2_addRedeem_0 rfl rfl ?_
  refine V_iload_n (q := 2) dX2_addRedeem_1 rfl rfl ?_
  refine V_iconst (q := 3) (v := 0) dX2_addRedeem_2 (by decide) rfl ?_
  refine V_cV2I (q := 6) (o := 4) (N := mX2_told) (tX2_told (e := e) (c := 0) (by omega) (by decide)) hκ.big (by decide) gX2_told kl_X2_50 ki_X2_told ks_X2_told (by decide) rfl (Nat.le_of_ble_eq_true rfl) dX2_addRedeem_3 rfl ?_
  refine V_iconst (q := 7) (v := 1) dX2_addRedeem_6 (by decide) rfl ?_
  refine V_icmp_eq (tgt := 13) (q := 10) dX2_addRedeem_7 (by decide) rfl (fun c_7 => ?_) (fun c_7 => ?_)
  · refine V_aload_n (q := 14) dX2_addRedeem_13 rfl rfl ?_
    refine V_iconst (q := 15) (v := 2) dX2_addRedeem_14 (by decide) rfl ?_
    refine V_aload_n (q := 16) dX2_addRedeem_15 rfl rfl ?_
    refine V_iload_n (q := 17) dX2_addRedeem_16 rfl rfl ?_
    refine V_iconst (q := 18) (v := 1) dX2_addRedeem_17 (by decide) rfl ?_
    refine V_cV2I (q := 21) (o := 4) (N := mX2_told) (tX2_told (e := e) (c := 1) (by omega) (by decide)) hκ.big (by decide) gX2_told kl_X2_50 ki_X2_told ks_X2_told (by decide) rfl (Nat.le_of_ble_eq_true rfl) dX2_addRedeem_18 rfl ?_
    refine V_top (nI h) hh ?_
    refine V_aload_n (q := 22) dX2_addRedeem_21 rfl rfl ?_
    refine V_iload_n (q := 23) dX2_addRedeem_22 rfl rfl ?_
    refine V_iconst (q := 24) (v := 2) dX2_addRedeem_23 (by decide) rfl ?_
    refine V_cV2I (q := 27) (o := 4) (N := mX2_told) (tX2_told (e := e) (c := 2) (by omega) (by decide)) hκ.big (by decide) gX2_told kl_X2_50 ki_X2_told ks_X2_told (by decide) rfl (Nat.le_of_ble_eq_true rfl) dX2_addRedeem_24 rfl ?_
    refine V_top (nI a) ha ?_
    refine V_aload_n (q := 28) dX2_addRedeem_27 rfl rfl ?_
    refine V_iload_n (q := 29) dX2_addRedeem_28 rfl rfl ?_
    refine V_iconst (q := 30) (v := 3) dX2_addRedeem_29 (by decide) rfl ?_
    refine V_cV2I (q := 33) (o := 4) (N := mX2_told) (tX2_told (e := e) (c := 3) (by omega) (by decide)) hκ.big (by decide) gX2_told kl_X2_50 ki_X2_told ks_X2_told (by decide) rfl (Nat.le_of_ble_eq_true rfl) dX2_addRedeem_30 rfl ?_
    refine V_top (nI b) hb ?_
    refine V_aload_n (q := 34) dX2_addRedeem_33 rfl rfl ?_
    refine V_iload_n (q := 35) dX2_addRedeem_34 rfl rfl ?_
    refine V_iconst (q := 36) (v := 4) dX2_addRedeem_35 (by decide) rfl ?_
    refine V_cV2I (q := 39) (o := 4) (N := mX2_told) (tX2_told (e := e) (c := 4) (by omega) (by decide)) hκ.big (by decide) gX2_told kl_X2_50 ki_X2_told ks_X2_told (by decide) rfl (Nat.le_of_ble_eq_true rfl) dX2_addRedeem_36 rfl ?_
    refine V_iload_n (q := 40) dX2_addRedeem_39 rfl rfl ?_
    refine V_cV6I (q := 43) (o := 4) (N := mX2_add) (tX2_add hn hn60 hok) hκ.big (by decide) gX2_add kl_X2_54 ki_X2_add ks_X2_add (by decide) rfl (Nat.le_of_ble_eq_true rfl) dX2_addRedeem_40 rfl ?_
    exact V_iret hκ rfl rfl dX2_addRedeem_43 (by have k1 : gCol (Ar 23) 0 e = 1 := c_7; rw [if_pos k1]; by_cases h9 : n < 60; (· simp only [if_pos h9, if_pos (show gCol (Ar 23) 0 e = 1 ∧ n < 60 from ⟨k1, h9⟩)]; exact vEq.rf); (· simp only [if_neg h9, if_neg (fun q : gCol (Ar 23) 0 e = 1 ∧ n < 60 => h9 q.2)]; exact vEq.rf))
  · refine V_bipush (q := 12) (v := (-5)) dX2_addRedeem_10 (by decide) rfl ?_
    exact V_iret hκ rfl rfl dX2_addRedeem_12 (by have k1 : ¬ gCol (Ar 23) 0 e = 1 := c_7; simp only [if_neg k1, if_neg (fun q : gCol (Ar 23) 0 e = 1 ∧ n < 60 => k1 q.1)]; exact vEq.rf)
