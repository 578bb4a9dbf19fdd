/-- the ranks, in the table, and how many pledges there are of an account so far -/
def gRk (st : Nat → Int32) (a1 : Nat → Nat) (T P : Nat → Int32) : Nat → (Nat → Int32) × (Nat → Int32)
  | 0 => (T, vFill P 40 0)
  | i + 1 => if st i = 0 then (upd (gRk st a1 T P i).1 (i * 9 + 7) (-4), (gRk st a1 T P i).2)
    else (upd (gRk st a1 T P i).1 (i * 9 + 7) ((gRk st a1 T P i).2 (a1 i)), upd (gRk st a1 T P i).2 (a1 i) ((gRk st a1 T P i).2 (a1 i) + 1))
def gRank (Ar : vAt) (n : Nat) : vAt := vS (vS Ar 23 (gRk (Ar 24) (gIx (Ar 25)) (Ar 23) (Ar 30) n).1) 30 (gRk (Ar 24) (gIx (Ar 25)) (Ar 23) (Ar 30) n).2
theorem gRank_s0 {Ar : vAt} {i : Nat} (h : Ar 24 i = 0) : vS (gRank Ar i) 23 (upd (gRank Ar i 23) (i * 9 + 7) (-4)) = gRank Ar (i + 1) := by
  unfold gRank
  simp only [gRk, if_pos h]
  rw [vS_comm (a := 30) (b := 23) (by decide), vS_vS]
  rfl
theorem gRank_s1 {Ar : vAt} {i a : Nat} (h : ¬ Ar 24 i = 0) (ha : gIx (Ar 25) i = a) : vS (vS (gRank Ar i) 23 (upd (gRank Ar i 23) (i * 9 + 7) (gRank Ar i 30 a))) 30 (upd (gRank Ar i 30) a (gRank Ar i 30 a + 1)) = gRank Ar (i + 1) := by
  unfold gRank
  simp only [gRk, if_neg h, ha]
  rw [vS_comm (a := 30) (b := 23) (by decide), vS_vS, vS_vS]
  rfl
theorem lp_X2_rank {F : vFt} {Ar : vAt} {x : vXt} {n : Nat} {l2 : Value} {κ : vK} (hκ : vStd κ 1 x (vEq none F (gRank Ar n))) (hn : F 258 = nI n) (hn60 : n ≤ 60) (hok : ∀ e, e < n → ∃ a, a < 40 ∧ Ar 25 e = nI a) : ∀ k i l2, i + k = n → V κ mX2_rankPledges 10 [.ref 4, .int (nI i), l2] [] F (gRank Ar i) x := by
  intro k
  induction k with
  | zero =>
    intro i l2 hi
    obtain rfl : i = n := by omega
    refine V_iload_n (q := 11) dX2_rankPledges_10 rfl rfl ?_
    refine V_aload_n (q := 12) dX2_rankPledges_11 rfl rfl ?_
    refine V_getI (q := 15) (n := 258) 4 2 kf_X2_42 (by decide) (by decide) rfl rfl dX2_rankPledges_12 rfl ?_
    rw [hn]
    refine V_icmp_ge (tgt := 72) (q := 18) dX2_rankPledges_15 (by decide) rfl (fun c_15 => ?_) (fun c_15 => absurd c_15 (v_gt (by omega) (by omega) (Nat.le_refl _)))
    exact V_vret hκ rfl dX2_rankPledges_72 vEq.rf
  | succ k ih =>
    intro i l2 hi
    obtain ⟨a, ha, h1⟩ := hok i (by omega)
    have e1 := gIx_eq h1 (by omega)
    have h25 : gRank Ar i 25 i = nI a := h1
    refine V_iload_n (q := 11) dX2_rankPledges_10 rfl rfl ?_
    refine V_aload_n (q := 12) dX2_rankPledges_11 rfl rfl ?_
    refine V_getI (q := 15) (n := 258) 4 2 kf_X2_42 (by decide) (by decide) rfl rfl dX2_rankPledges_12 rfl ?_
    rw [hn]
    refine V_icmp_ge (tgt := 72) (q := 18) dX2_rankPledges_15 (by decide) rfl (fun c_15 => absurd c_15 (v_gf (by omega) (by omega) (by omega))) (fun c_15 => ?_)
    refine V_aload_n (q := 19) dX2_rankPledges_18 rfl rfl ?_
    refine V_iload_n (q := 20) dX2_rankPledges_19 rfl rfl ?_
    refine V_bipush (q := 22) (v := 7) dX2_rankPledges_20 (by decide) rfl ?_
    refine V_bipush (q := 24) (v := (-4)) dX2_rankPledges_22 (by decide) rfl ?_
    refine V_cV3U (q := 27) (o := 4) (N := mX2_put) (tX2_put (e := i) (c := 7) (by omega) (by decide)) hκ.big (by decide) gX2_put kl_X2_61 ki_X2_put ks_X2_put (by decide) rfl (Nat.le_of_ble_eq_true rfl) dX2_rankPledges_24 rfl ?_
    refine V_aload_n (q := 28) dX2_rankPledges_27 rfl rfl ?_
    refine V_getR (q := 31) (n := 24) 4 1 kf_X2_17 (by decide) (by decide) rfl (by decide) dX2_rankPledges_28 rfl ?_
    refine V_iload_n (q := 32) dX2_rankPledges_31 rfl rfl ?_
    refine V_zld (q := 33) (i) 60 rfl (by omega) (by decide) (by omega) (by decide) rfl (by decide) dX2_rankPledges_32 rfl ?_
    refine V_if_eq (tgt := 66) (q := 36) dX2_rankPledges_33 (by decide) rfl (fun c_33 => ?_) (fun c_33 => ?_)
    · refine V_iincN (q := 69) dX2_rankPledges_66 rfl (Nat.le_of_ble_eq_true rfl) rfl rfl ?_
      refine V_goto (q := 10) dX2_rankPledges_69 (by decide) ?_
      refine V_ar (gRank Ar (i + 1)) (gRank_s0 (c_33 : Ar 24 i = 0)) ?_
      exact ih (i + 1) l2 (by omega)
    · refine V_aload_n (q := 37) dX2_rankPledges_36 rfl rfl ?_
      refine V_getR (q := 40) (n := 25) 4 3 kf_X2_21 (by decide) (by decide) rfl (by decide) dX2_rankPledges_37 rfl ?_
      refine V_iload_n (q := 41) dX2_rankPledges_40 rfl rfl ?_
      refine V_ild (q := 42) (i) 60 rfl (by omega) (by decide) (by omega) (by decide) rfl (by decide) dX2_rankPledges_41 rfl ?_
      refine V_top (nI a) h1 ?_
      refine V_istore_n (q := 43) dX2_rankPledges_42 (Nat.le_of_ble_eq_true rfl) rfl rfl ?_
      refine V_aload_n (q := 44) dX2_rankPledges_43 rfl rfl ?_
      refine V_iload_n (q := 45) dX2_rankPledges_44 rfl rfl ?_
      refine V_bipush (q := 47) (v := 7) dX2_rankPledges_45 (by decide) rfl ?_
      refine V_aload_n (q := 48) dX2_rankPledges_47 rfl rfl ?_
      refine V_getR (q := 51) (n := 30) 4 8 kf_X2_36 (by decide) (by decide) rfl (by decide) dX2_rankPledges_48 rfl ?_
      refine V_iload_n (q := 52) dX2_rankPledges_51 rfl rfl ?_
      refine V_ild (q := 53) (a) 40 rfl ha (by decide) (by omega) (by decide) rfl (by decide) dX2_rankPledges_52 rfl ?_
      refine V_cV3U (q := 56) (o := 4) (N := mX2_put) (tX2_put (e := i) (c := 7) (by omega) (by decide)) hκ.big (by decide) gX2_put kl_X2_61 ki_X2_put ks_X2_put (by decide) rfl (Nat.le_of_ble_eq_true rfl) dX2_rankPledges_53 rfl ?_
      refine V_aload_n (q := 57) dX2_rankPledges_56 rfl rfl ?_
      refine V_getR (q := 60) (n := 30) 4 8 kf_X2_36 (by decide) (by decide) rfl (by decide) dX2_rankPledges_57 rfl ?_
      refine V_iload_n (q := 61) dX2_rankPledges_60 rfl rfl ?_
      refine V_dup2 (q := 62) dX2_rankPledges_61 rfl rfl rfl ?_
      refine V_ild (q := 63) (a) 40 rfl ha (by decide) (by omega) (by decide) rfl (by decide) dX2_rankPledges_62 rfl ?_
      refine V_iconst (q := 64) (v := 1) dX2_rankPledges_63 (by decide) rfl ?_
      refine V_iadd (q := 65) dX2_rankPledges_64 rfl ?_
      refine V_ist (q := 66) (a) 40 rfl ha (by decide) (by omega) (by decide) rfl (by decide) dX2_rankPledges_65 rfl ?_
      refine V_iincN (q := 69) dX2_rankPledges_66 rfl (Nat.le_of_ble_eq_true rfl) rfl rfl ?_
      refine V_goto (q := 10) dX2_rankPledges_69 (by decide) ?_
      refine V_ar (gRank Ar (i + 1)) (by have h9 := gRank_s1 (Ar := Ar) (i := i) c_33 e1; rw [vS_vS, vS_at, upd_upd]; exact h9) ?_
      exact ih (i + 1) (.int (nI a)) (by omega)
theorem tX2_rankPledges {F : vFt} {Ar : vAt} {x : vXt} {n : Nat} (hn : F 258 = nI n) (hn60 : n ≤ 60) (hok : ∀ e, e < n → ∃ a, a < 40 ∧ Ar 25 e = nI a) : C0 mX2_rankPledges 1 [.ref 4] F Ar x (vEq none F (gRank Ar n)) := by
  refine C0_of (by decide +kernel) (Nat.le_of_ble_eq_true rfl) (fun κ hκ => ?_)
  show V κ mX2_rankPledges 0 [.ref 4, .null, .null] [] F Ar x
  refine V_aload_n (q := 1) dX2_rankPledges_0 rfl rfl ?_
  refine V_getR (q := 4) (n := 30) 4 8 kf_X2_36 (by decide) (by decide) rfl (by decide) dX2_rankPledges_1 rfl ?_
  refine V_iconst (q := 5) (v := 0) dX2_rankPledges_4 (by decide) rfl ?_
  refine V_cS2U (q := 8) (N := mJ7_fill_53178) (tJ7_fill_53178 (n := 40) (by decide) (by omega) (by decide) rfl (by decide)) hκ.big (by decide) gJ7_fill_53178 kl_X2_88 kt_J7_fill_53178 (Nat.le_of_ble_eq_true rfl) dX2_rankPledges_5 rfl ?_
  refine V_iconst (q := 9) (v := 0) dX2_rankPledges_8 (by decide) rfl ?_
  refine V_istore_n (q := 10) dX2_rankPledges_9 (Nat.le_of_ble_eq_true rfl) rfl rfl ?_
  refine V_ar (gRank Ar 0) (by unfold gRank; simp only [gRk]; rw [vS_self]) ?_
  exact lp_X2_rank (l2 := .null) hκ hn hn60 hok n 0 .null (by omega)
/-- all entries gone through -/
def gRun (Ar : vAt) (s0 : gT) : Nat → gT
  | 0 => s0
  | i + 1 => if gCol (Ar 23) 5 i = 1 then gRun Ar s0 i else (gEf Ar i (gRun Ar s0 i)).2
def gVoid (Ar : vAt) (s0 : gT) (i : Nat) : Int32 := if gCol (Ar 23) 5 i = 1 then 0 else if (gEf Ar i (gRun Ar s0 i)).1 = true then 0 else 1
def gTv (T vd : Nat → Int32) : Nat → Nat → Int32
  | 0 => T
  | i + 1 => upd (gTv T vd i) (i * 9 + 6) (vd i)
theorem gTv_col {T vd : Nat → Int32} {c : Nat} (hc : c < 9) (h6 : c ≠ 6) : ∀ i, gCol (gTv T vd i) c = gCol T c := by
  intro i
  induction i with
  | zero => rfl
  | succ i ih =>
    rw [← ih]
    funext e
    unfold gCol
    show upd (gTv T vd i) (i * 9 + 6) (vd i) (e * 9 + c) = _
    exact upd_ne (by omega)
def gAt (Ar : vAt) (s0 : gT) (i : Nat) : vAt := vS (gPut Ar (gRun Ar s0 i)) 23 (gTv (Ar 23) (gVoid Ar s0) i)
theorem gAt_ef (Ar : vAt) (s0 : gT) (i e : Nat) (s : gT) : gEf (gAt Ar s0 i) e s = gEf Ar e s := by
  unfold gEf
  rw [show gAt Ar s0 i 23 = gTv (Ar 23) (gVoid Ar s0) i from rfl, show gAt Ar s0 i 25 = Ar 25 from rfl, show gAt Ar s0 i 26 = Ar 26 from rfl, gTv_col (by decide) (by decide), gTv_col (by decide) (by decide), gTv_col (by decide) (by decide)]
theorem gAt_ok {Ar : vAt} {s0 : gT} {i n : Nat} (h : gOk Ar n) : gOk (gAt Ar s0 i) n := by
  intro e he
  have h3 := h e he
  rw [show gAt Ar s0 i 23 = gTv (Ar 23) (gVoid Ar s0) i from rfl, gTv_col (by decide) (by decide), gTv_col (by decide) (by decide)]
  exact h3
theorem gAt_fg (Ar : vAt) (s0 : gT) (i : Nat) : gAt Ar s0 i 23 (i * 9 + 5) = gCol (Ar 23) 5 i := by
  show gCol (gTv (Ar 23) (gVoid Ar s0) i) 5 i = _
  rw [gTv_col (by decide) (by decide)]
theorem gAt_get (Ar : vAt) (s0 : gT) (i : Nat) : gGet (gAt Ar s0 i) = gRun Ar s0 i := rfl
theorem gAt_put (Ar : vAt) (s0 : gT) (i : Nat) (v : Int32) (s : gT) : vS (gPut (gAt Ar s0 i) s) 23 (upd (gPut (gAt Ar s0 i) s 23) (i * 9 + 6) v) = vS (gPut Ar s) 23 (upd (gTv (Ar 23) (gVoid Ar s0) i) (i * 9 + 6) v) := by
  rw [show gPut (gAt Ar s0 i) s 23 = gTv (Ar 23) (gVoid Ar s0) i from rfl]
  unfold gAt gPut
  funext z
  simp only [vS]
  by_cases h1 : z = 23 <;> by_cases h2 : z = 24 <;> by_cases h3 : z = 29 <;> by_cases h4 : z = 28 <;> by_cases h5 : z = 27 <;> simp_all
theorem gAt_s0 {Ar : vAt} {s0 : gT} {i : Nat} (h : gCol (Ar 23) 5 i = 1) : vS (gAt Ar s0 i) 23 (upd (gAt Ar s0 i 23) (i * 9 + 6) 0) = gAt Ar s0 (i + 1) := by
  unfold gAt
  rw [vS_vS]
  show _ = vS (gPut Ar (if gCol (Ar 23) 5 i = 1 then gRun Ar s0 i else (gEf Ar i (gRun Ar s0 i)).2)) 23 (upd (gTv (Ar 23) (gVoid Ar s0) i) (i * 9 + 6) (gVoid Ar s0 i))
  rw [if_pos h, show gVoid Ar s0 i = 0 from if_pos h]
  rfl
theorem gAt_s1 {Ar : vAt} {s0 : gT} {i : Nat} {v : Int32} (h : ¬ gCol (Ar 23) 5 i = 1) (hv : v = if (gEf Ar i (gRun Ar s0 i)).1 = true then 0 else 1) : vS (gPut (gAt Ar s0 i) (gEf Ar i (gRun Ar s0 i)).2) 23 (upd (gPut (gAt Ar s0 i) (gEf Ar i (gRun Ar s0 i)).2 23) (i * 9 + 6) v) = gAt Ar s0 (i + 1) := by
  rw [gAt_put]
  show _ = vS (gPut Ar (if gCol (Ar 23) 5 i = 1 then gRun Ar s0 i else (gEf Ar i (gRun Ar s0 i)).2)) 23 (upd (gTv (Ar 23) (gVoid Ar s0) i) (i * 9 + 6) (gVoid Ar s0 i))
  rw [if_neg h, show gVoid Ar s0 i = _ from if_neg h, hv]
def gAll (Ar : vAt) (n : Nat) : vAt := gRank (gAt Ar (gZero Ar n) n) n
theorem lp_X2_go {F : vFt} {Ar : vAt} {x : vXt} {n : Nat} {κ : vK} (hκ : vStd κ 4 x (vEq none F (gAll Ar n))) (hn : F 258 = nI n) (hn60 : n ≤ 60) (hok : gOk Ar n) : ∀ k i, i + k = n → V κ mX2_goThrough 6 [.ref 4, .int (nI i)] [] F (gAt Ar (gZero Ar n) i) x := by
  intro k
  induction k with
  | zero =>
    intro i hi
    obtain rfl : i = n := by omega
    refine V_iload_n (q := 7) dX2_goThrough_6 rfl rfl ?_
    refine V_aload_n (q := 8) dX2_goThrough_7 rfl rfl ?_
    refine V_getI (q := 11) (n := 258) 4 2 kf_X2_42 (by decide) (by decide) rfl rfl dX2_goThrough_8 rfl ?_
    rw [hn]
    refine V_icmp_ge (tgt := 48) (q := 14) dX2_goThrough_11 (by decide) rfl (fun c_11 => ?_) (fun c_11 => absurd c_11 (v_gt (by omega) (by omega) (Nat.le_refl _)))
    refine V_aload_n (q := 49) dX2_goThrough_48 rfl rfl ?_
    refine V_cV0U (q := 52) (o := 4) (N := mX2_rankPledges) (tX2_rankPledges hn hn60 (fun e he => (hok e he).1)) hκ.big (by decide) gX2_rankPledges kl_X2_85 ki_X2_rankPledges ks_X2_rankPledges (by decide) rfl (Nat.le_of_ble_eq_true rfl) dX2_goThrough_49 rfl ?_
    exact V_vret hκ rfl dX2_goThrough_52 vEq.rf
  | succ k ih =>
    intro i hi
    have hfg := gAt_fg Ar (gZero Ar n) i
    refine V_iload_n (q := 7) dX2_goThrough_6 rfl rfl ?_
    refine V_aload_n (q := 8) dX2_goThrough_7 rfl rfl ?_
    refine V_getI (q := 11) (n := 258) 4 2 kf_X2_42 (by decide) (by decide) rfl rfl dX2_goThrough_8 rfl ?_
    rw [hn]
    refine V_icmp_ge (tgt := 48) (q := 14) dX2_goThrough_11 (by decide) rfl (fun c_11 => absurd c_11 (v_gf (by omega) (by omega) (by omega))) (fun c_11 => ?_)
    refine V_aload_n (q := 15) dX2_goThrough_14 rfl rfl ?_
    refine V_iload_n (q := 16) dX2_goThrough_15 rfl rfl ?_
    refine V_bipush (q := 18) (v := 6) dX2_goThrough_16 (by decide) rfl ?_
    refine V_aload_n (q := 19) dX2_goThrough_18 rfl rfl ?_
    refine V_iload_n (q := 20) dX2_goThrough_19 rfl rfl ?_
    refine V_cV1I (q := 23) (o := 4) (N := mX2_isForged) (tX2_isForged (e := i) (by omega)) hκ.big (by decide) gX2_isForged kl_X2_65 ki_X2_isForged ks_X2_isForged (by decide) rfl (Nat.le_of_ble_eq_true rfl) dX2_goThrough_20 rfl ?_
    refine V_if_ne (tgt := 34) (q := 26) dX2_goThrough_23 (by decide) rfl (fun c_23 => ?_) (fun c_23 => ?_)
    · refine V_iconst (q := 35) (v := 0) dX2_goThrough_34 (by decide) rfl ?_
      refine V_goto (q := 39) dX2_goThrough_35 (by decide) ?_
      refine V_cV3U (q := 42) (o := 4) (N := mX2_put) (tX2_put (e := i) (c := 6) (by omega) (by decide)) hκ.big (by decide) gX2_put kl_X2_61 ki_X2_put ks_X2_put (by decide) rfl (Nat.le_of_ble_eq_true rfl) dX2_goThrough_39 rfl ?_
      refine V_iincN (q := 45) dX2_goThrough_42 rfl (Nat.le_of_ble_eq_true rfl) rfl rfl ?_
      refine V_goto (q := 6) dX2_goThrough_45 (by decide) ?_
      refine V_ar (gAt Ar (gZero Ar n) (i + 1)) (gAt_s0 (by rw [← hfg]; exact vB_n0.mp c_23)) ?_
      exact ih (i + 1) (by omega)
    · refine V_aload_n (q := 27) dX2_goThrough_26 rfl rfl ?_
      refine V_iload_n (q := 28) dX2_goThrough_27 rfl rfl ?_
      have hte := tX2_takesEffect (F := F) (Ar := gAt Ar (gZero Ar n) i) (x := x) (e := i) hn hn60 (by omega) (gAt_ok hok)
      rw [gAt_get, gAt_ef] at hte
      refine V_cV1I (q := 31) (o := 4) (N := mX2_takesEffect) hte hκ.big (by decide) gX2_takesEffect kl_X2_82 ki_X2_takesEffect ks_X2_takesEffect (by decide) rfl (Nat.le_of_ble_eq_true rfl) dX2_goThrough_28 rfl ?_
      refine V_if_eq (tgt := 38) (q := 34) dX2_goThrough_31 (by decide) rfl (fun c_31 => ?_) (fun c_31 => ?_)
      · refine V_iconst (q := 39) (v := 1) dX2_goThrough_38 (by decide) rfl ?_
        refine V_cV3U (q := 42) (o := 4) (N := mX2_put) (tX2_put (e := i) (c := 6) (by omega) (by decide)) hκ.big (by decide) gX2_put kl_X2_61 ki_X2_put ks_X2_put (by decide) rfl (Nat.le_of_ble_eq_true rfl) dX2_goThrough_39 rfl ?_
        refine V_iincN (q := 45) dX2_goThrough_42 rfl (Nat.le_of_ble_eq_true rfl) rfl rfl ?_
        refine V_goto (q := 6) dX2_goThrough_45 (by decide) ?_
        refine V_ar (gAt Ar (gZero Ar n) (i + 1)) (gAt_s1 (by rw [← hfg]; exact vB_0.mp c_23) (by rw [vB_ite] at c_31; rw [if_neg (vB_0.mp c_31)])) ?_
        exact ih (i + 1) (by omega)
      · refine V_iconst (q := 35) (v := 0) dX2_goThrough_34 (by decide) rfl ?_
        refine V_goto (q := 39) dX2_goThrough_35 (by decide) ?_
        refine V_cV3U (q := 42) (o := 4) (N := mX2_put) (tX2_put (e := i) (c := 6) (by omega) (by decide)) hκ.big (by decide) gX2_put kl_X2_61 ki_X2_put ks_X2_put (by decide) rfl (Nat.le_of_ble_eq_true rfl) dX2_goThrough_39 rfl ?_
        refine V_iincN (q := 45) dX2_goThrough_42 rfl (Nat.le_of_ble_eq_true rfl) rfl rfl ?_
        refine V_goto (q := 6) dX2_goThrough_45 (by decide) ?_
        refine V_ar (gAt Ar (gZero Ar n) (i + 1)) (gAt_s1 (by rw [← hfg]; exact vB_0.mp c_23) (by rw [vB_ite] at c_31; rw [if_pos (vB_n0.mp c_31)])) ?_
        exact ih (i + 1) (by omega)
theorem tX2_goThrough {F : vFt} {Ar : vAt} {x : vXt} {n : Nat} (hn : F 258 = nI n) (hn60 : n ≤ 60) (hok : gOk Ar n) : C0 mX2_goThrough 4 [.ref 4] F Ar x (vEq none F (gAll Ar n)) := by
  refine C0_of (by decide +kernel) (Nat.le_of_ble_eq_true rfl) (fun κ hκ => ?_)
  show V κ mX2_goThrough 0 [.ref 4, .null] [] F Ar x
  refine V_aload_n (q := 1) dX2_goThrough_0 rfl rfl ?_
  refine V_cV0U (q := 4) (o := 4) (N := mX2_beginAnew) (tX2_beginAnew hn hn60) hκ.big (by decide) gX2_beginAnew kl_X2_79 ki_X2_beginAnew ks_X2_beginAnew (by decide) rfl (Nat.le_of_ble_eq_true rfl) dX2_goThrough_1 rfl ?_
  refine V_iconst (q := 5) (v := 0) dX2_goThrough_4 (by decide) rfl ?_
  refine V_istore_n (q := 6) dX2_goThrough_5 (Nat.le_of_ble_eq_true rfl) rfl rfl ?_
  refine V_ar (gAt Ar (gZero Ar n) 0) (by unfold gAt; exact (vS_self (Ar := gPut Ar (gZero Ar n)) (a := 23)).symm) ?_
  exact lp_X2_go hκ hn hn60 hok n 0 (by omega)
