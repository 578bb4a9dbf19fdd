theorem tX5_feed {F : vFt} {Ar : vAt} {x : vXt} {v : Int32} {c : Nat} (hc : F 65 = nI c) (hc4 : c ≤ 40) : C0 mX5_feed 3 [.ref 0, .int v] F Ar x (vEq (some (.int (if c + nLet v ≤ 40 then nI (c + nLet v) else -2))) (if c + nLet v ≤ 40 then upd F 65 (nI (c + nLet v)) else F) (if c + nLet v ≤ 40 then vS Ar 9 (fdA (Ar 9) c v (nLet v)) else Ar)) := by
  refine C0_of (by decide +kernel) (Nat.le_of_ble_eq_true rfl) (fun κ hκ => ?_)
  show V κ mX5_feed 0 [.ref 0, .int v] [] F Ar x
  refine V_aload_n (q := 1) dX5_feed_0 rfl rfl ?_
  refine V_getR (q := 4) (n := 1) 0 0 kf_X5_10 (by decide) (by decide) rfl (by decide) dX5_feed_1 rfl ?_
  refine V_iload_n (q := 5) dX5_feed_4 rfl rfl ?_
  refine V_cV1I (q := 8) (o := 1) (N := mX0_takeLetters) (tX0_takeLetters hc hc4) hκ.big (by decide) gX0_takeLetters kl_X5_37 ki_X0_takeLetters ks_X0_takeLetters (by decide) rfl (Nat.le_of_ble_eq_true rfl) dX5_feed_5 rfl ?_
  exact V_iret hκ rfl rfl dX5_feed_8 vEq.rf
theorem tX5_scrap {F : vFt} {Ar : vAt} {x : vXt}   : C0 mX5_scrap 2 [.ref 0] F Ar x (vEq (some (.int (F 65))) (upd F 65 0) (vS Ar 9 (vFill (Ar 9) 40 0))) := by
  refine C0_of (by decide +kernel) (Nat.le_of_ble_eq_true rfl) (fun κ hκ => ?_)
  show V κ mX5_scrap 0 [.ref 0] [] F Ar x
  refine V_aload_n (q := 1) dX5_scrap_0 rfl rfl ?_
  refine V_getR (q := 4) (n := 1) 0 0 kf_X5_10 (by decide) (by decide) rfl (by decide) dX5_scrap_1 rfl ?_
  refine V_cV0I (q := 7) (o := 1) (N := mX0_dropLetters) tX0_dropLetters hκ.big (by decide) gX0_dropLetters kl_X5_41 ki_X0_dropLetters ks_X0_dropLetters (by decide) rfl (Nat.le_of_ble_eq_true rfl) dX5_scrap_4 rfl ?_
  exact V_iret hκ rfl rfl dX5_scrap_7 vEq.rf
theorem tX5_inForce {F : vFt} {Ar : vAt} {x : vXt} {n : Nat} {day : Int32} (hn : F 68 = nI n) (hn5 : n ≤ 5) : C0 mX5_inForce 2 [.ref 0, .int day] F Ar x (vEq (some (.int (if 0 ≤ day ∧ day ≤ 999 then oI (onD (Ar 15) day n) else -1))) F Ar) := by
  refine C0_of (by decide +kernel) (Nat.le_of_ble_eq_true rfl) (fun κ hκ => ?_)
  show V κ mX5_inForce 0 [.ref 0, .int day] [] F Ar x
  refine V_iload_n (q := 1) dX5_inForce_0 rfl rfl ?_
  refine V_cS1I (q := 4) (N := mX5_isDay) tX5_isDay hκ.big (by decide) gX5_isDay kl_X5_48 kt_X5_isDay (Nat.le_of_ble_eq_true rfl) dX5_inForce_1 rfl ?_
  refine V_if_eq (tgt := 18) (q := 7) dX5_inForce_4 (by decide) rfl (fun c_4 => ?_) (fun c_4 => ?_)
  · refine V_iconst (q := 19) (v := (-1)) dX5_inForce_18 (by decide) rfl ?_
    exact V_iret hκ rfl rfl dX5_inForce_19 ⟨by rw [if_neg (vB_0.mp c_4)], rfl, rfl⟩
  · refine V_aload_n (q := 8) dX5_inForce_7 rfl rfl ?_
    refine V_getR (q := 11) (n := 1) 0 0 kf_X5_10 (by decide) (by decide) rfl (by decide) dX5_inForce_8 rfl ?_
    refine V_iload_n (q := 12) dX5_inForce_11 rfl rfl ?_
    refine V_cV1I (q := 15) (o := 1) (N := mX0_onDay) (tX0_onDay hn hn5) hκ.big (by decide) gX0_onDay kl_X5_52 ki_X0_onDay ks_X0_onDay (by decide) rfl (Nat.le_of_ble_eq_true rfl) dX5_inForce_12 rfl ?_
    refine V_goto (q := 19) dX5_inForce_15 (by decide) ?_
    exact V_iret hκ rfl rfl dX5_inForce_19 ⟨by rw [if_pos (vB_n0.mp c_4)], rfl, rfl⟩
theorem enQ_int {c : Nat} {day : Int32} {F : vFt} {Ar : vAt} {r : Option Value} {F' : vFt} {Ar' : vAt} (h : enQ c day F Ar r F' Ar') : ∃ z, r = some (.int z) := by
  unfold enQ at h
  split at h
  · exact ⟨_, h.1⟩
  · split at h
    · exact ⟨_, h.1⟩
    · obtain ⟨s, h⟩ := h
      split at h
      · exact ⟨_, h.1⟩
      · exact ⟨_, h.1⟩
theorem tX5_act {F : vFt} {Ar : vAt} {x : vXt} {c : Nat} {day : Int32} (hc : F 68 = nI c) (hc5 : c ≤ 5) : C0 mX5_act 5 [.ref 0, .int day] F Ar x (enQ c day F Ar) := by
  refine C0_of (by decide +kernel) (Nat.le_of_ble_eq_true rfl) (fun κ hκ => ?_)
  show V κ mX5_act 0 [.ref 0, .int day] [] F Ar x
  refine V_aload_n (q := 1) dX5_act_0 rfl rfl ?_
  refine V_getR (q := 4) (n := 1) 0 0 kf_X5_10 (by decide) (by decide) rfl (by decide) dX5_act_1 rfl ?_
  refine V_iload_n (q := 5) dX5_act_4 rfl rfl ?_
  refine V_cV1 (q := 8) (o := 1) (N := mX0_enact) (tX0_enact hc hc5) hκ.big (by decide) gX0_enact kl_X5_45 ki_X0_enact ks_X0_enact (by decide) rfl (Nat.le_of_ble_eq_true rfl) dX5_act_5 rfl (fun r F9 Ar9 h9 => ?_)
  have h10 := h9
  obtain ⟨z, rfl⟩ := enQ_int h9
  show V κ mX5_act 8 [.ref 0, .int day] [.int z] _ _ x
  exact V_iret hκ rfl rfl dX5_act_8 h10
theorem tX5_tons0 {F : vFt} {Ar : vAt} {x : vXt} {i l b d r : Int32} (hb : ¬ ((0 ≤ i ∧ i ≤ F 68 - 1) ∧ vSz l b d r)) : C0 mX5_tons 5 [.ref 0, .int i, .int l, .int b, .int d, .int r] F Ar x (vEq (some (.int (-10000000))) F Ar) := by
  refine C0_of (by decide +kernel) (Nat.le_of_ble_eq_true rfl) (fun κ hκ => ?_)
  show V κ mX5_tons 0 [.ref 0, .int i, .int l, .int b, .int d, .int r] [] F Ar x
  refine V_aload_n (q := 1) dX5_tons_0 rfl rfl ?_
  refine V_getR (q := 4) (n := 1) 0 0 kf_X5_10 (by decide) (by decide) rfl (by decide) dX5_tons_1 rfl ?_
  refine V_iload_n (q := 5) dX5_tons_4 rfl rfl ?_
  refine V_cV1I (q := 8) (o := 1) (N := mX0_has) tX0_has hκ.big (by decide) gX0_has kl_X5_55 ki_X0_has ks_X0_has (by decide) rfl (Nat.le_of_ble_eq_true rfl) dX5_tons_5 rfl ?_
  refine V_if_eq (tgt := 23) (q := 11) dX5_tons_8 (by decide) rfl (fun c_8 => ?_) (fun c_8 => ?_)
  · refine V_ldc (q := 25) dX5_tons_23 kc_X5_62 rfl ?_
    exact V_iret hκ rfl rfl dX5_tons_25 vEq.rf
  · refine V_iload_n (q := 12) dX5_tons_11 rfl rfl ?_
    refine V_iload_n (q := 13) dX5_tons_12 rfl rfl ?_
    refine V_iload (q := 15) dX5_tons_13 rfl rfl ?_
    refine V_iload (q := 17) dX5_tons_15 rfl rfl ?_
    refine V_cS4I (q := 20) (N := mX5_areSizes) tX5_areSizes hκ.big (by decide) gX5_areSizes kl_X5_58 kt_X5_areSizes (Nat.le_of_ble_eq_true rfl) dX5_tons_17 rfl ?_
    refine V_if_ne (tgt := 26) (q := 23) dX5_tons_20 (by decide) rfl (fun c_20 => absurd ⟨vB_n0.mp c_8, vB_n0.mp c_20⟩ hb) (fun c_20 => ?_)
    refine V_ldc (q := 25) dX5_tons_23 kc_X5_62 rfl ?_
    exact V_iret hκ rfl rfl dX5_tons_25 vEq.rf
theorem tX5_tons1 {F : vFt} {Ar : vAt} {x : vXt} {a c : Nat} {l b d r : Int32} (hc : F 68 = nI c) (hc5 : c ≤ 5) (ha : a < c) (hs : vSz l b d r) : C0 mX5_tons 5 [.ref 0, .int (nI a), .int l, .int b, .int d, .int r] F Ar x (rkQ (tonV l b d r (Ar (10 + a)) (Ar 21)) (szF F l b d r) Ar) := by
  refine C0_of (by decide +kernel) (Nat.le_of_ble_eq_true rfl) (fun κ hκ => ?_)
  show V κ mX5_tons 0 [.ref 0, .int (nI a), .int l, .int b, .int d, .int r] [] F Ar x
  have hg : 0 ≤ nI a ∧ nI a ≤ F 68 - 1 := by rw [hc]; exact (v_has (by omega)).mpr ⟨a, ha, rfl⟩
  refine V_aload_n (q := 1) dX5_tons_0 rfl rfl ?_
  refine V_getR (q := 4) (n := 1) 0 0 kf_X5_10 (by decide) (by decide) rfl (by decide) dX5_tons_1 rfl ?_
  refine V_iload_n (q := 5) dX5_tons_4 rfl rfl ?_
  refine V_cV1I (q := 8) (o := 1) (N := mX0_has) tX0_has hκ.big (by decide) gX0_has kl_X5_55 ki_X0_has ks_X0_has (by decide) rfl (Nat.le_of_ble_eq_true rfl) dX5_tons_5 rfl ?_
  refine V_if_eq (tgt := 23) (q := 11) dX5_tons_8 (by decide) rfl (fun c_8 => absurd c_8 (vB_n0.mpr hg)) (fun c_8 => ?_)
  refine V_iload_n (q := 12) dX5_tons_11 rfl rfl ?_
  refine V_iload_n (q := 13) dX5_tons_12 rfl rfl ?_
  refine V_iload (q := 15) dX5_tons_13 rfl rfl ?_
  refine V_iload (q := 17) dX5_tons_15 rfl rfl ?_
  refine V_cS4I (q := 20) (N := mX5_areSizes) tX5_areSizes hκ.big (by decide) gX5_areSizes kl_X5_58 kt_X5_areSizes (Nat.le_of_ble_eq_true rfl) dX5_tons_17 rfl ?_
  refine V_if_ne (tgt := 26) (q := 23) dX5_tons_20 (by decide) rfl (fun c_20 => ?_) (fun c_20 => absurd c_20 (vB_n0.mpr hs))
  refine V_aload_n (q := 27) dX5_tons_26 rfl rfl ?_
  refine V_getR (q := 30) (n := 1) 0 0 kf_X5_10 (by decide) (by decide) rfl (by decide) dX5_tons_27 rfl ?_
  refine V_iload_n (q := 31) dX5_tons_30 rfl rfl ?_
  refine V_iload_n (q := 32) dX5_tons_31 rfl rfl ?_
  refine V_iload_n (q := 33) dX5_tons_32 rfl rfl ?_
  refine V_iload (q := 35) dX5_tons_33 rfl rfl ?_
  refine V_iload (q := 37) dX5_tons_35 rfl rfl ?_
  refine V_cV5 (q := 40) (o := 1) (N := mX0_tonsBy) (tX0_tonsBy (by omega)) hκ.big (by decide) gX0_tonsBy kl_X5_63 ki_X0_tonsBy ks_X0_tonsBy (by decide) rfl (Nat.le_of_ble_eq_true rfl) dX5_tons_37 rfl (fun r F9 Ar9 h9 => ?_)
  have h10 := h9
  obtain ⟨rfl, -⟩ := h9
  show V κ mX5_tons 40 [.ref 0, .int (nI a), .int l, .int b, .int d, .int r] [.int _] _ _ x
  exact V_iret hκ rfl rfl dX5_tons_40 h10
theorem tX5_shape0 {F : vFt} {Ar : vAt} {x : vXt} {i cg w : Int32} (hb : ¬ ((0 ≤ i ∧ i ≤ F 68 - 1) ∧ (1 ≤ cg ∧ cg ≤ 1728) ∧ (0 ≤ w ∧ w ≤ 3))) : C0 mX5_shape 5 [.ref 0, .int i, .int cg, .int w] F Ar x (vEq (some (.int (-10000000))) F Ar) := by
  refine C0_of (by decide +kernel) (Nat.le_of_ble_eq_true rfl) (fun κ hκ => ?_)
  show V κ mX5_shape 0 [.ref 0, .int i, .int cg, .int w] [] F Ar x
  refine V_aload_n (q := 1) dX5_shape_0 rfl rfl ?_
  refine V_getR (q := 4) (n := 1) 0 0 kf_X5_10 (by decide) (by decide) rfl (by decide) dX5_shape_1 rfl ?_
  refine V_iload_n (q := 5) dX5_shape_4 rfl rfl ?_
  refine V_cV1I (q := 8) (o := 1) (N := mX0_has) tX0_has hκ.big (by decide) gX0_has kl_X5_55 ki_X0_has ks_X0_has (by decide) rfl (Nat.le_of_ble_eq_true rfl) dX5_shape_5 rfl ?_
  refine V_if_eq (tgt := 31) (q := 11) dX5_shape_8 (by decide) rfl (fun c_8 => ?_) (fun c_8 => ?_)
  · refine V_ldc (q := 33) dX5_shape_31 kc_X5_62 rfl ?_
    exact V_iret hκ rfl rfl dX5_shape_33 vEq.rf
  · refine V_iload_n (q := 12) dX5_shape_11 rfl rfl ?_
    refine V_iconst (q := 13) (v := 1) dX5_shape_12 (by decide) rfl ?_
    refine V_sipush (q := 16) (v := 1728) dX5_shape_13 (by decide) rfl ?_
    refine V_cS3I (q := 19) (N := mX5_isWithin) tX5_isWithin hκ.big (by decide) gX5_isWithin kl_X5_67 kt_X5_isWithin (Nat.le_of_ble_eq_true rfl) dX5_shape_16 rfl ?_
    refine V_if_eq (tgt := 31) (q := 22) dX5_shape_19 (by decide) rfl (fun c_19 => ?_) (fun c_19 => ?_)
    · refine V_ldc (q := 33) dX5_shape_31 kc_X5_62 rfl ?_
      exact V_iret hκ rfl rfl dX5_shape_33 vEq.rf
    · refine V_iload_n (q := 23) dX5_shape_22 rfl rfl ?_
      refine V_iconst (q := 24) (v := 0) dX5_shape_23 (by decide) rfl ?_
      refine V_iconst (q := 25) (v := 3) dX5_shape_24 (by decide) rfl ?_
      refine V_cS3I (q := 28) (N := mX5_isWithin) tX5_isWithin hκ.big (by decide) gX5_isWithin kl_X5_67 kt_X5_isWithin (Nat.le_of_ble_eq_true rfl) dX5_shape_25 rfl ?_
      refine V_if_ne (tgt := 34) (q := 31) dX5_shape_28 (by decide) rfl (fun c_28 => absurd ⟨vB_n0.mp c_8, vB_n0.mp c_19, vB_n0.mp c_28⟩ hb) (fun c_28 => ?_)
      refine V_ldc (q := 33) dX5_shape_31 kc_X5_62 rfl ?_
      exact V_iret hκ rfl rfl dX5_shape_33 vEq.rf
theorem tX5_hull {F : vFt} {Ar : vAt} {x : vXt} {n : Nat} {l b d r : Int32} (hn : F 193 = nI n) (hn5 : n ≤ 5) : C0 mX5_hull 3 [.ref 0, .int l, .int b, .int d, .int r] F Ar x (vEq (some (.int (if vSz l b d r then (if n < 5 then nI n else -2) else -1))) (if vSz l b d r ∧ n < 5 then upd F 193 (nI (n + 1)) else F) (if vSz l b d r ∧ n < 5 then vS Ar 22 (hMs (hSz (Ar 22) n l b d r) n (-10000000) (-10000000) (-10000000)) else Ar)) := by
  refine C0_of (by decide +kernel) (Nat.le_of_ble_eq_true rfl) (fun κ hκ => ?_)
  show V κ mX5_hull 0 [.ref 0, .int l, .int b, .int d, .int r] [] F Ar x
  refine V_iload_n (q := 1) dX5_hull_0 rfl rfl ?_
  refine V_iload_n (q := 2) dX5_hull_1 rfl rfl ?_
  refine V_iload_n (q := 3) dX5_hull_2 rfl rfl ?_
  refine V_iload (q := 5) dX5_hull_3 rfl rfl ?_
  refine V_cS4I (q := 8) (N := mX5_areSizes) tX5_areSizes hκ.big (by decide) gX5_areSizes kl_X5_58 kt_X5_areSizes (Nat.le_of_ble_eq_true rfl) dX5_hull_5 rfl ?_
  refine V_if_ne (tgt := 13) (q := 11) dX5_hull_8 (by decide) rfl (fun c_8 => ?_) (fun c_8 => ?_)
  · refine V_aload_n (q := 14) dX5_hull_13 rfl rfl ?_
    refine V_getR (q := 17) (n := 3) 0 1 kf_X5_19 (by decide) (by decide) rfl (by decide) dX5_hull_14 rfl ?_
    refine V_iload_n (q := 18) dX5_hull_17 rfl rfl ?_
    refine V_iload_n (q := 19) dX5_hull_18 rfl rfl ?_
    refine V_iload_n (q := 20) dX5_hull_19 rfl rfl ?_
    refine V_iload (q := 22) dX5_hull_20 rfl rfl ?_
    refine V_cV4I (q := 25) (o := 3) (N := mX1_add) (tX1_add hn hn5) hκ.big (by decide) gX1_add kl_X5_75 ki_X1_add ks_X1_add (by decide) rfl (Nat.le_of_ble_eq_true rfl) dX5_hull_22 rfl ?_
    exact V_iret hκ rfl rfl dX5_hull_25 (by have k := vB_n0.mp c_8; by_cases h5 : n < 5; (· simp only [if_pos k, if_pos h5, if_pos (show vSz l b d r ∧ n < 5 from ⟨k, h5⟩)]; exact vEq.rf); (· simp only [if_pos k, if_neg h5, if_neg (fun q : vSz l b d r ∧ n < 5 => h5 q.2)]; exact vEq.rf))
  · refine V_iconst (q := 12) (v := (-1)) dX5_hull_11 (by decide) rfl ?_
    exact V_iret hκ rfl rfl dX5_hull_12 (by have k := vB_0.mp c_8; simp only [if_neg k, if_neg (fun q : vSz l b d r ∧ n < 5 => k q.1)]; exact vEq.rf)
theorem tX5_alter0 {F : vFt} {Ar : vAt} {x : vXt} {i l b d r : Int32} (hb : ¬ ((0 ≤ i ∧ i ≤ F 193 - 1) ∧ vSz l b d r)) : C0 mX5_alter 3 [.ref 0, .int i, .int l, .int b, .int d, .int r] F Ar x (vEq (some (.int (-1))) F Ar) := by
  refine C0_of (by decide +kernel) (Nat.le_of_ble_eq_true rfl) (fun κ hκ => ?_)
  show V κ mX5_alter 0 [.ref 0, .int i, .int l, .int b, .int d, .int r] [] F Ar x
  refine V_aload_n (q := 1) dX5_alter_0 rfl rfl ?_
  refine V_getR (q := 4) (n := 3) 0 1 kf_X5_19 (by decide) (by decide) rfl (by decide) dX5_alter_1 rfl ?_
  refine V_iload_n (q := 5) dX5_alter_4 rfl rfl ?_
  refine V_cV1I (q := 8) (o := 3) (N := mX1_has) tX1_has hκ.big (by decide) gX1_has kl_X5_79 ki_X1_has ks_X1_has (by decide) rfl (Nat.le_of_ble_eq_true rfl) dX5_alter_5 rfl ?_
  refine V_if_eq (tgt := 23) (q := 11) dX5_alter_8 (by decide) rfl (fun c_8 => ?_) (fun c_8 => ?_)
  · refine V_iconst (q := 24) (v := (-1)) dX5_alter_23 (by decide) rfl ?_
    exact V_iret hκ rfl rfl dX5_alter_24 vEq.rf
  · refine V_iload_n (q := 12) dX5_alter_11 rfl rfl ?_
    refine V_iload_n (q := 13) dX5_alter_12 rfl rfl ?_
    refine V_iload (q := 15) dX5_alter_13 rfl rfl ?_
    refine V_iload (q := 17) dX5_alter_15 rfl rfl ?_
    refine V_cS4I (q := 20) (N := mX5_areSizes) tX5_areSizes hκ.big (by decide) gX5_areSizes kl_X5_58 kt_X5_areSizes (Nat.le_of_ble_eq_true rfl) dX5_alter_17 rfl ?_
    refine V_if_ne (tgt := 25) (q := 23) dX5_alter_20 (by decide) rfl (fun c_20 => absurd ⟨vB_n0.mp c_8, vB_n0.mp c_20⟩ hb) (fun c_20 => ?_)
    refine V_iconst (q := 24) (v := (-1)) dX5_alter_23 (by decide) rfl ?_
    exact V_iret hκ rfl rfl dX5_alter_24 vEq.rf
theorem tX5_alter1 {F : vFt} {Ar : vAt} {x : vXt} {n h : Nat} {l b d r : Int32} (hn : F 193 = nI n) (hn5 : n ≤ 5) (hh : h < n) (hs : vSz l b d r) : C0 mX5_alter 3 [.ref 0, .int (nI h), .int l, .int b, .int d, .int r] F Ar x (vEq (some (.int 1)) F (vS Ar 22 (hSz (Ar 22) h l b d r))) := by
  refine C0_of (by decide +kernel) (Nat.le_of_ble_eq_true rfl) (fun κ hκ => ?_)
  show V κ mX5_alter 0 [.ref 0, .int (nI h), .int l, .int b, .int d, .int r] [] F Ar x
  have hg : 0 ≤ nI h ∧ nI h ≤ F 193 - 1 := by rw [hn]; exact (v_has (by omega)).mpr ⟨h, hh, rfl⟩
  refine V_aload_n (q := 1) dX5_alter_0 rfl rfl ?_
  refine V_getR (q := 4) (n := 3) 0 1 kf_X5_19 (by decide) (by decide) rfl (by decide) dX5_alter_1 rfl ?_
  refine V_iload_n (q := 5) dX5_alter_4 rfl rfl ?_
  refine V_cV1I (q := 8) (o := 3) (N := mX1_has) tX1_has hκ.big (by decide) gX1_has kl_X5_79 ki_X1_has ks_X1_has (by decide) rfl (Nat.le_of_ble_eq_true rfl) dX5_alter_5 rfl ?_
  refine V_if_eq (tgt := 23) (q := 11) dX5_alter_8 (by decide) rfl (fun c_8 => absurd c_8 (vB_n0.mpr hg)) (fun c_8 => ?_)
  refine V_iload_n (q := 12) dX5_alter_11 rfl rfl ?_
  refine V_iload_n (q := 13) dX5_alter_12 rfl rfl ?_
  refine V_iload (q := 15) dX5_alter_13 rfl rfl ?_
  refine V_iload (q := 17) dX5_alter_15 rfl rfl ?_
  refine V_cS4I (q := 20) (N := mX5_areSizes) tX5_areSizes hκ.big (by decide) gX5_areSizes kl_X5_58 kt_X5_areSizes (Nat.le_of_ble_eq_true rfl) dX5_alter_17 rfl ?_
  refine V_if_ne (tgt := 25) (q := 23) dX5_alter_20 (by decide) rfl (fun c_20 => ?_) (fun c_20 => absurd c_20 (vB_n0.mpr hs))
  refine V_aload_n (q := 26) dX5_alter_25 rfl rfl ?_
  refine V_getR (q := 29) (n := 3) 0 1 kf_X5_19 (by decide) (by decide) rfl (by decide) dX5_alter_26 rfl ?_
  refine V_iload_n (q := 30) dX5_alter_29 rfl rfl ?_
  refine V_iload_n (q := 31) dX5_alter_30 rfl rfl ?_
  refine V_iload_n (q := 32) dX5_alter_31 rfl rfl ?_
  refine V_iload (q := 34) dX5_alter_32 rfl rfl ?_
  refine V_iload (q := 36) dX5_alter_34 rfl rfl ?_
  refine V_cV5U (q := 39) (o := 3) (N := mX1_setSizes) (tX1_setSizes (by omega)) hκ.big (by decide) gX1_setSizes kl_X5_80 ki_X1_setSizes ks_X1_setSizes (by decide) rfl (Nat.le_of_ble_eq_true rfl) dX5_alter_36 rfl ?_
  refine V_iconst (q := 40) (v := 1) dX5_alter_39 (by decide) rfl ?_
  exact V_iret hκ rfl rfl dX5_alter_40 vEq.rf
theorem tX5_of0 {F : vFt} {Ar : vAt} {x : vXt} {i w : Int32} (hb : ¬ ((0 ≤ i ∧ i ≤ F 193 - 1) ∧ (0 ≤ w ∧ w ≤ 6))) : C0 mX5_of 2 [.ref 0, .int i, .int w] F Ar x (vEq (some (.int (-10000000))) F Ar) := by
  refine C0_of (by decide +kernel) (Nat.le_of_ble_eq_true rfl) (fun κ hκ => ?_)
  show V κ mX5_of 0 [.ref 0, .int i, .int w] [] F Ar x
  refine V_aload_n (q := 1) dX5_of_0 rfl rfl ?_
  refine V_getR (q := 4) (n := 3) 0 1 kf_X5_19 (by decide) (by decide) rfl (by decide) dX5_of_1 rfl ?_
  refine V_iload_n (q := 5) dX5_of_4 rfl rfl ?_
  refine V_cV1I (q := 8) (o := 3) (N := mX1_has) tX1_has hκ.big (by decide) gX1_has kl_X5_79 ki_X1_has ks_X1_has (by decide) rfl (Nat.le_of_ble_eq_true rfl) dX5_of_5 rfl ?_
  refine V_if_eq (tgt := 21) (q := 11) dX5_of_8 (by decide) rfl (fun c_8 => ?_) (fun c_8 => ?_)
  · refine V_ldc (q := 23) dX5_of_21 kc_X5_62 rfl ?_
    exact V_iret hκ rfl rfl dX5_of_23 vEq.rf
  · refine V_iload_n (q := 12) dX5_of_11 rfl rfl ?_
    refine V_iconst (q := 13) (v := 0) dX5_of_12 (by decide) rfl ?_
    refine V_bipush (q := 15) (v := 6) dX5_of_13 (by decide) rfl ?_
    refine V_cS3I (q := 18) (N := mX5_isWithin) tX5_isWithin hκ.big (by decide) gX5_isWithin kl_X5_67 kt_X5_isWithin (Nat.le_of_ble_eq_true rfl) dX5_of_15 rfl ?_
    refine V_if_ne (tgt := 24) (q := 21) dX5_of_18 (by decide) rfl (fun c_18 => absurd ⟨vB_n0.mp c_8, vB_n0.mp c_18⟩ hb) (fun c_18 => ?_)
    refine V_ldc (q := 23) dX5_of_21 kc_X5_62 rfl ?_
    exact V_iret hκ rfl rfl dX5_of_23 vEq.rf
theorem tX5_of1 {F : vFt} {Ar : vAt} {x : vXt} {n h w : Nat} (hn : F 193 = nI n) (hn5 : n ≤ 5) (hh : h < n) (hw : w < 7) : C0 mX5_of 2 [.ref 0, .int (nI h), .int (nI w)] F Ar x (vEq (some (.int (Ar 22 (h * 7 + w)))) F Ar) := by
  refine C0_of (by decide +kernel) (Nat.le_of_ble_eq_true rfl) (fun κ hκ => ?_)
  show V κ mX5_of 0 [.ref 0, .int (nI h), .int (nI w)] [] F Ar x
  have hg : 0 ≤ nI h ∧ nI h ≤ F 193 - 1 := by rw [hn]; exact (v_has (by omega)).mpr ⟨h, hh, rfl⟩
  have hw6 : (0 : Int32) ≤ nI w ∧ nI w ≤ 6 := (v_to (n := 6) rfl (by decide)).mpr ⟨w, by omega, rfl⟩
  refine V_aload_n (q := 1) dX5_of_0 rfl rfl ?_
  refine V_getR (q := 4) (n := 3) 0 1 kf_X5_19 (by decide) (by decide) rfl (by decide) dX5_of_1 rfl ?_
  refine V_iload_n (q := 5) dX5_of_4 rfl rfl ?_
  refine V_cV1I (q := 8) (o := 3) (N := mX1_has) tX1_has hκ.big (by decide) gX1_has kl_X5_79 ki_X1_has ks_X1_has (by decide) rfl (Nat.le_of_ble_eq_true rfl) dX5_of_5 rfl ?_
  refine V_if_eq (tgt := 21) (q := 11) dX5_of_8 (by decide) rfl (fun c_8 => absurd c_8 (vB_n0.mpr hg)) (fun c_8 => ?_)
  refine V_iload_n (q := 12) dX5_of_11 rfl rfl ?_
  refine V_iconst (q := 13) (v := 0) dX5_of_12 (by decide) rfl ?_
  refine V_bipush (q := 15) (v := 6) dX5_of_13 (by decide) rfl ?_
  refine V_cS3I (q := 18) (N := mX5_isWithin) tX5_isWithin hκ.big (by decide) gX5_isWithin kl_X5_67 kt_X5_isWithin (Nat.le_of_ble_eq_true rfl) dX5_of_15 rfl ?_
  refine V_if_ne (tgt := 24) (q := 21) dX5_of_18 (by decide) rfl (fun c_18 => ?_) (fun c_18 => absurd c_18 (vB_n0.mpr hw6))
  refine V_aload_n (q := 25) dX5_of_24 rfl rfl ?_
  refine V_getR (q := 28) (n := 3) 0 1 kf_X5_19 (by decide) (by decide) rfl (by decide) dX5_of_25 rfl ?_
  refine V_iload_n (q := 29) dX5_of_28 rfl rfl ?_
  refine V_iload_n (q := 30) dX5_of_29 rfl rfl ?_
  refine V_cV2I (q := 33) (o := 3) (N := mX1_told) (tX1_told (by omega) hw) hκ.big (by decide) gX1_told kl_X5_84 ki_X1_told ks_X1_told (by decide) rfl (Nat.le_of_ble_eq_true rfl) dX5_of_30 rfl ?_
  exact V_iret hκ rfl rfl dX5_of_33 vEq.rf
theorem tX5_measure0 {F : vFt} {Ar : vAt} {x : vXt} {i day : Int32} (hb : ¬ ((0 ≤ i ∧ i ≤ F 193 - 1) ∧ (0 ≤ day ∧ day ≤ 999))) : C0 mX5_measure 5 [.ref 0, .int i, .int day] F Ar x (vEq (some (.int (-1))) F Ar) := by
  refine C0_of (by decide +kernel) (Nat.le_of_ble_eq_true rfl) (fun κ hκ => ?_)
  show V κ mX5_measure 0 [.ref 0, .int i, .int day, .null, .null] [] F Ar x
  refine V_aload_n (q := 1) dX5_measure_0 rfl rfl ?_
  refine V_getR (q := 4) (n := 3) 0 1 kf_X5_19 (by decide) (by decide) rfl (by decide) dX5_measure_1 rfl ?_
  refine V_iload_n (q := 5) dX5_measure_4 rfl rfl ?_
  refine V_cV1I (q := 8) (o := 3) (N := mX1_has) tX1_has hκ.big (by decide) gX1_has kl_X5_79 ki_X1_has ks_X1_has (by decide) rfl (Nat.le_of_ble_eq_true rfl) dX5_measure_5 rfl ?_
  refine V_if_eq (tgt := 18) (q := 11) dX5_measure_8 (by decide) rfl (fun c_8 => ?_) (fun c_8 => ?_)
  · refine V_iconst (q := 19) (v := (-1)) dX5_measure_18 (by decide) rfl ?_
    exact V_iret hκ rfl rfl dX5_measure_19 vEq.rf
  · refine V_iload_n (q := 12) dX5_measure_11 rfl rfl ?_
    refine V_cS1I (q := 15) (N := mX5_isDay) tX5_isDay hκ.big (by decide) gX5_isDay kl_X5_48 kt_X5_isDay (Nat.le_of_ble_eq_true rfl) dX5_measure_12 rfl ?_
    refine V_if_ne (tgt := 20) (q := 18) dX5_measure_15 (by decide) rfl (fun c_15 => absurd ⟨vB_n0.mp c_8, vB_n0.mp c_15⟩ hb) (fun c_15 => ?_)
    refine V_iconst (q := 19) (v := (-1)) dX5_measure_18 (by decide) rfl ?_
    exact V_iret hκ rfl rfl dX5_measure_19 vEq.rf
theorem tX5_measure1 {F : vFt} {Ar : vAt} {x : vXt} {n h c : Nat} {day : Int32} (hn : F 193 = nI n) (hn5 : n ≤ 5) (hh : h < n) (hd : 0 ≤ day ∧ day ≤ 999) (hc : F 68 = nI c) (hc5 : c ≤ 5) (hf : onD (Ar 15) day c = none) : C0 mX5_measure 5 [.ref 0, .int (nI h), .int day] F Ar x (vEq (some (.int (-4))) F Ar) := by
  refine C0_of (by decide +kernel) (Nat.le_of_ble_eq_true rfl) (fun κ hκ => ?_)
  show V κ mX5_measure 0 [.ref 0, .int (nI h), .int day, .null, .null] [] F Ar x
  have hg : 0 ≤ nI h ∧ nI h ≤ F 193 - 1 := by rw [hn]; exact (v_has (by omega)).mpr ⟨h, hh, rfl⟩
  refine V_aload_n (q := 1) dX5_measure_0 rfl rfl ?_
  refine V_getR (q := 4) (n := 3) 0 1 kf_X5_19 (by decide) (by decide) rfl (by decide) dX5_measure_1 rfl ?_
  refine V_iload_n (q := 5) dX5_measure_4 rfl rfl ?_
  refine V_cV1I (q := 8) (o := 3) (N := mX1_has) tX1_has hκ.big (by decide) gX1_has kl_X5_79 ki_X1_has ks_X1_has (by decide) rfl (Nat.le_of_ble_eq_true rfl) dX5_measure_5 rfl ?_
  refine V_if_eq (tgt := 18) (q := 11) dX5_measure_8 (by decide) rfl (fun c_8 => absurd c_8 (vB_n0.mpr hg)) (fun c_8 => ?_)
  refine V_iload_n (q := 12) dX5_measure_11 rfl rfl ?_
  refine V_cS1I (q := 15) (N := mX5_isDay) tX5_isDay hκ.big (by decide) gX5_isDay kl_X5_48 kt_X5_isDay (Nat.le_of_ble_eq_true rfl) dX5_measure_12 rfl ?_
  refine V_if_ne (tgt := 20) (q := 18) dX5_measure_15 (by decide) rfl (fun c_15 => ?_) (fun c_15 => absurd c_15 (vB_n0.mpr hd))
  refine V_aload_n (q := 21) dX5_measure_20 rfl rfl ?_
  refine V_getR (q := 24) (n := 1) 0 0 kf_X5_10 (by decide) (by decide) rfl (by decide) dX5_measure_21 rfl ?_
  refine V_iload_n (q := 25) dX5_measure_24 rfl rfl ?_
  refine V_cV1I (q := 28) (o := 1) (N := mX0_onDay) (tX0_onDay hc hc5) hκ.big (by decide) gX0_onDay kl_X5_52 ki_X0_onDay ks_X0_onDay (by decide) rfl (Nat.le_of_ble_eq_true rfl) dX5_measure_25 rfl ?_
  rw [hf]
  refine V_istore_n (q := 29) dX5_measure_28 (Nat.le_of_ble_eq_true rfl) rfl rfl ?_
  refine V_aload_n (q := 30) dX5_measure_29 rfl rfl ?_
  refine V_getR (q := 33) (n := 1) 0 0 kf_X5_10 (by decide) (by decide) rfl (by decide) dX5_measure_30 rfl ?_
  refine V_iload_n (q := 34) dX5_measure_33 rfl rfl ?_
  refine V_cV1I (q := 37) (o := 1) (N := mX0_has) tX0_has hκ.big (by decide) gX0_has kl_X5_55 ki_X0_has ks_X0_has (by decide) rfl (Nat.le_of_ble_eq_true rfl) dX5_measure_34 rfl ?_
  refine V_if_ne (tgt := 43) (q := 40) dX5_measure_37 (by decide) rfl (fun c_37 => absurd (vB_n0.mp c_37).1 (by decide)) (fun c_37 => ?_)
  refine V_bipush (q := 42) (v := (-4)) dX5_measure_40 (by decide) rfl ?_
  exact V_iret hκ rfl rfl dX5_measure_42 vEq.rf
def cmQ (h a : Nat) (v day : Int32) (F : vFt) (Ar : vAt) : Option Value → vFt → vAt → Prop := fun r F' Ar' => r = some (.int 1) ∧ ∃ s : rS, F' = rF F s ∧ Ar' = vS (rA Ar s) 22 (hMs (Ar 22) h v day (nI a))
theorem tX5_measure2 {F : vFt} {Ar : vAt} {x : vXt} {n h c a : Nat} {day : Int32} (hn : F 193 = nI n) (hn5 : n ≤ 5) (hh : h < n) (hd : 0 ≤ day ∧ day ≤ 999) (hc : F 68 = nI c) (hc5 : c ≤ 5) (hf : onD (Ar 15) day c = some a) : C0 mX5_measure 5 [.ref 0, .int (nI h), .int day] F Ar x (cmQ h a (tonV (Ar 22 (h * 7 + 0)) (Ar 22 (h * 7 + 1)) (Ar 22 (h * 7 + 2)) (Ar 22 (h * 7 + 3)) (Ar (10 + a)) (Ar 21)) day (szF F (Ar 22 (h * 7 + 0)) (Ar 22 (h * 7 + 1)) (Ar 22 (h * 7 + 2)) (Ar 22 (h * 7 + 3))) Ar) := by
  refine C0_of (by decide +kernel) (Nat.le_of_ble_eq_true rfl) (fun κ hκ => ?_)
  show V κ mX5_measure 0 [.ref 0, .int (nI h), .int day, .null, .null] [] F Ar x
  have hg : 0 ≤ nI h ∧ nI h ≤ F 193 - 1 := by rw [hn]; exact (v_has (by omega)).mpr ⟨h, hh, rfl⟩
  have ha := onD_lt _ _ hf
  have hga : 0 ≤ nI a ∧ nI a ≤ F 68 - 1 := by rw [hc]; exact (v_has (by omega)).mpr ⟨a, ha, rfl⟩
  refine V_aload_n (q := 1) dX5_measure_0 rfl rfl ?_
  refine V_getR (q := 4) (n := 3) 0 1 kf_X5_19 (by decide) (by decide) rfl (by decide) dX5_measure_1 rfl ?_
  refine V_iload_n (q := 5) dX5_measure_4 rfl rfl ?_
  refine V_cV1I (q := 8) (o := 3) (N := mX1_has) tX1_has hκ.big (by decide) gX1_has kl_X5_79 ki_X1_has ks_X1_has (by decide) rfl (Nat.le_of_ble_eq_true rfl) dX5_measure_5 rfl ?_
  refine V_if_eq (tgt := 18) (q := 11) dX5_measure_8 (by decide) rfl (fun c_8 => absurd c_8 (vB_n0.mpr hg)) (fun c_8 => ?_)
  refine V_iload_n (q := 12) dX5_measure_11 rfl rfl ?_
  refine V_cS1I (q := 15) (N := mX5_isDay) tX5_isDay hκ.big (by decide) gX5_isDay kl_X5_48 kt_X5_isDay (Nat.le_of_ble_eq_true rfl) dX5_measure_12 rfl ?_
  refine V_if_ne (tgt := 20) (q := 18) dX5_measure_15 (by decide) rfl (fun c_15 => ?_) (fun c_15 => absurd c_15 (vB_n0.mpr hd))
  refine V_aload_n (q := 21) dX5_measure_20 rfl rfl ?_
  refine V_getR (q := 24) (n := 1) 0 0 kf_X5_10 (by decide) (by decide) rfl (by decide) dX5_measure_21 rfl ?_
  refine V_iload_n (q := 25) dX5_measure_24 rfl rfl ?_
  refine V_cV1I (q := 28) (o := 1) (N := mX0_onDay) (tX0_onDay hc hc5) hκ.big (by decide) gX0_onDay kl_X5_52 ki_X0_onDay ks_X0_onDay (by decide) rfl (Nat.le_of_ble_eq_true rfl) dX5_measure_25 rfl ?_
  rw [hf]
  refine V_top (nI a) rfl ?_
  refine V_istore_n (q := 29) dX5_measure_28 (Nat.le_of_ble_eq_true rfl) rfl rfl ?_
  refine V_aload_n (q := 30) dX5_measure_29 rfl rfl ?_
  refine V_getR (q := 33) (n := 1) 0 0 kf_X5_10 (by decide) (by decide) rfl (by decide) dX5_measure_30 rfl ?_
  refine V_iload_n (q := 34) dX5_measure_33 rfl rfl ?_
  refine V_cV1I (q := 37) (o := 1) (N := mX0_has) tX0_has hκ.big (by decide) gX0_has kl_X5_55 ki_X0_has ks_X0_has (by decide) rfl (Nat.le_of_ble_eq_true rfl) dX5_measure_34 rfl ?_
  refine V_if_ne (tgt := 43) (q := 40) dX5_measure_37 (by decide) rfl (fun c_37 => ?_) (fun c_37 => absurd c_37 (vB_n0.mpr hga))
  refine V_aload_n (q := 44) dX5_measure_43 rfl rfl ?_
  refine V_getR (q := 47) (n := 1) 0 0 kf_X5_10 (by decide) (by decide) rfl (by decide) dX5_measure_44 rfl ?_
  refine V_iload_n (q := 48) dX5_measure_47 rfl rfl ?_
  refine V_aload_n (q := 49) dX5_measure_48 rfl rfl ?_
  refine V_getR (q := 52) (n := 3) 0 1 kf_X5_19 (by decide) (by decide) rfl (by decide) dX5_measure_49 rfl ?_
  refine V_iload_n (q := 53) dX5_measure_52 rfl rfl ?_
  refine V_iconst (q := 54) (v := 0) dX5_measure_53 (by decide) rfl ?_
  refine V_cV2I (q := 57) (o := 3) (N := mX1_told) (tX1_told (h := h) (c := 0) (by omega) (by decide)) hκ.big (by decide) gX1_told kl_X5_84 ki_X1_told ks_X1_told (by decide) rfl (Nat.le_of_ble_eq_true rfl) dX5_measure_54 rfl ?_
  refine V_aload_n (q := 58) dX5_measure_57 rfl rfl ?_
  refine V_getR (q := 61) (n := 3) 0 1 kf_X5_19 (by decide) (by decide) rfl (by decide) dX5_measure_58 rfl ?_
  refine V_iload_n (q := 62) dX5_measure_61 rfl rfl ?_
  refine V_iconst (q := 63) (v := 1) dX5_measure_62 (by decide) rfl ?_
  refine V_cV2I (q := 66) (o := 3) (N := mX1_told) (tX1_told (h := h) (c := 1) (by omega) (by decide)) hκ.big (by decide) gX1_told kl_X5_84 ki_X1_told ks_X1_told (by decide) rfl (Nat.le_of_ble_eq_true rfl) dX5_measure_63 rfl ?_
  refine V_aload_n (q := 67) dX5_measure_66 rfl rfl ?_
  refine V_getR (q := 70) (n := 3) 0 1 kf_X5_19 (by decide) (by decide) rfl (by decide) dX5_measure_67 rfl ?_
  refine V_iload_n (q := 71) dX5_measure_70 rfl rfl ?_
  refine V_iconst (q := 72) (v := 2) dX5_measure_71 (by decide) rfl ?_
  refine V_cV2I (q := 75) (o := 3) (N := mX1_told) (tX1_told (h := h) (c := 2) (by omega) (by decide)) hκ.big (by decide) gX1_told kl_X5_84 ki_X1_told ks_X1_told (by decide) rfl (Nat.le_of_ble_eq_true rfl) dX5_measure_72 rfl ?_
  refine V_aload_n (q := 76) dX5_measure_75 rfl rfl ?_
  refine V_getR (q := 79) (n := 3) 0 1 kf_X5_19 (by decide) (by decide) rfl (by decide) dX5_measure_76 rfl ?_
  refine V_iload_n (q := 80) dX5_measure_79 rfl rfl ?_
  refine V_iconst (q := 81) (v := 3) dX5_measure_80 (by decide) rfl ?_
  refine V_cV2I (q := 84) (o := 3) (N := mX1_told) (tX1_told (h := h) (c := 3) (by omega) (by decide)) hκ.big (by decide) gX1_told kl_X5_84 ki_X1_told ks_X1_told (by decide) rfl (Nat.le_of_ble_eq_true rfl) dX5_measure_81 rfl ?_
  refine V_cV5 (q := 87) (o := 1) (N := mX0_tonsBy) (tX0_tonsBy (a := a) (by omega)) hκ.big (by decide) gX0_tonsBy kl_X5_63 ki_X0_tonsBy ks_X0_tonsBy (by decide) rfl (Nat.le_of_ble_eq_true rfl) dX5_measure_84 rfl (fun r F9 Ar9 h9 => ?_)
  obtain ⟨rfl, s, rfl, rfl⟩ := h9
  show V κ mX5_measure 87 [.ref 0, .int (nI h), .int day, .int (nI a), .null] [.int _] _ _ x
  refine V_istore (q := 89) dX5_measure_87 (Nat.le_of_ble_eq_true rfl) rfl rfl ?_
  refine V_aload_n (q := 90) dX5_measure_89 rfl rfl ?_
  refine V_getR (q := 93) (n := 3) 0 1 kf_X5_19 (by decide) (by decide) rfl (by decide) dX5_measure_90 rfl ?_
  refine V_iload_n (q := 94) dX5_measure_93 rfl rfl ?_
  refine V_iload (q := 96) dX5_measure_94 rfl rfl ?_
  refine V_iload_n (q := 97) dX5_measure_96 rfl rfl ?_
  refine V_iload_n (q := 98) dX5_measure_97 rfl rfl ?_
  refine V_cV4U (q := 101) (o := 3) (N := mX1_setMeasuring) (tX1_setMeasuring (h := h) (by omega)) hκ.big (by decide) gX1_setMeasuring kl_X5_88 ki_X1_setMeasuring ks_X1_setMeasuring (by decide) rfl (Nat.le_of_ble_eq_true rfl) dX5_measure_98 rfl ?_
  refine V_iconst (q := 102) (v := 1) dX5_measure_101 (by decide) rfl ?_
  exact V_iret hκ rfl rfl dX5_measure_102 ⟨rfl, s, rfl, rfl⟩
theorem tX5_enter0 {F : vFt} {Ar : vAt} {x : vXt} {k h a b m : Int32} (hb : ¬ dlOk (F 193) h a b m) : C0 mX5_enter 6 [.ref 0, .int k, .int h, .int a, .int b, .int m] F Ar x (vEq (some (.int (-1))) F Ar) := by
  refine C0_of (by decide +kernel) (Nat.le_of_ble_eq_true rfl) (fun κ hκ => ?_)
  show V κ mX5_enter 0 [.ref 0, .int k, .int h, .int a, .int b, .int m] [] F Ar x
  refine V_aload_n (q := 1) dX5_enter_0 rfl rfl ?_
  refine V_getR (q := 4) (n := 3) 0 1 kf_X5_19 (by decide) (by decide) rfl (by decide) dX5_enter_1 rfl ?_
  refine V_iload_n (q := 5) dX5_enter_4 rfl rfl ?_
  refine V_cV1I (q := 8) (o := 3) (N := mX1_has) tX1_has hκ.big (by decide) gX1_has kl_X5_79 ki_X1_has ks_X1_has (by decide) rfl (Nat.le_of_ble_eq_true rfl) dX5_enter_5 rfl ?_
  refine V_if_eq (tgt := 43) (q := 11) dX5_enter_8 (by decide) rfl (fun c_8 => ?_) (fun c_8 => ?_)
  · refine V_iconst (q := 44) (v := (-1)) dX5_enter_43 (by decide) rfl ?_
    exact V_iret hκ rfl rfl dX5_enter_44 vEq.rf
  · refine V_iload_n (q := 12) dX5_enter_11 rfl rfl ?_
    refine V_cS1I (q := 15) (N := mX5_isPerson) tX5_isPerson hκ.big (by decide) gX5_isPerson kl_X5_103 kt_X5_isPerson (Nat.le_of_ble_eq_true rfl) dX5_enter_12 rfl ?_
    refine V_if_eq (tgt := 43) (q := 18) dX5_enter_15 (by decide) rfl (fun c_15 => ?_) (fun c_15 => ?_)
    · refine V_iconst (q := 44) (v := (-1)) dX5_enter_43 (by decide) rfl ?_
      exact V_iret hκ rfl rfl dX5_enter_44 vEq.rf
    · refine V_iload (q := 20) dX5_enter_18 rfl rfl ?_
      refine V_cS1I (q := 23) (N := mX5_isPerson) tX5_isPerson hκ.big (by decide) gX5_isPerson kl_X5_103 kt_X5_isPerson (Nat.le_of_ble_eq_true rfl) dX5_enter_20 rfl ?_
      refine V_if_eq (tgt := 43) (q := 26) dX5_enter_23 (by decide) rfl (fun c_23 => ?_) (fun c_23 => ?_)
      · refine V_iconst (q := 44) (v := (-1)) dX5_enter_43 (by decide) rfl ?_
        exact V_iret hκ rfl rfl dX5_enter_44 vEq.rf
      · refine V_iload_n (q := 27) dX5_enter_26 rfl rfl ?_
        refine V_iload (q := 29) dX5_enter_27 rfl rfl ?_
        refine V_icmp_eq (tgt := 43) (q := 32) dX5_enter_29 (by decide) rfl (fun c_29 => ?_) (fun c_29 => ?_)
        · refine V_iconst (q := 44) (v := (-1)) dX5_enter_43 (by decide) rfl ?_
          exact V_iret hκ rfl rfl dX5_enter_44 vEq.rf
        · refine V_iload (q := 34) dX5_enter_32 rfl rfl ?_
          refine V_iconst (q := 35) (v := 1) dX5_enter_34 (by decide) rfl ?_
          refine V_bipush (q := 37) (v := 64) dX5_enter_35 (by decide) rfl ?_
          refine V_cS3I (q := 40) (N := mX5_isWithin) tX5_isWithin hκ.big (by decide) gX5_isWithin kl_X5_67 kt_X5_isWithin (Nat.le_of_ble_eq_true rfl) dX5_enter_37 rfl ?_
          refine V_if_ne (tgt := 45) (q := 43) dX5_enter_40 (by decide) rfl (fun c_40 => absurd ⟨vB_n0.mp c_8, vB_n0.mp c_15, vB_n0.mp c_23, c_29, vB_n0.mp c_40⟩ hb) (fun c_40 => ?_)
          refine V_iconst (q := 44) (v := (-1)) dX5_enter_43 (by decide) rfl ?_
          exact V_iret hκ rfl rfl dX5_enter_44 vEq.rf
theorem tX5_enter1 {F : vFt} {Ar : vAt} {x : vXt} {n h a b : Nat} {k m : Int32} (hg : dlOk (F 193) (nI h) (nI a) (nI b) m) (hn : F 258 = nI n) (hn60 : n ≤ 60) (hok : n < 60 → gOk (gAdd Ar n k h a b m (-4)) (n + 1)) : C0 mX5_enter 6 [.ref 0, .int k, .int (nI h), .int (nI a), .int (nI b), .int m] F Ar x (vEq (some (.int (if n < 60 then nI n else -2))) (if n < 60 then upd F 258 (nI (n + 1)) else F) (if n < 60 then gAll (gAdd Ar n k h a b m (-4)) (n + 1) else Ar)) := by
  refine C0_of (by decide +kernel) (Nat.le_of_ble_eq_true rfl) (fun κ hκ => ?_)
  show V κ mX5_enter 0 [.ref 0, .int k, .int (nI h), .int (nI a), .int (nI b), .int m] [] F Ar x
  refine V_aload_n (q := 1) dX5_enter_0 rfl rfl ?_
  refine V_getR (q := 4) (n := 3) 0 1 kf_X5_19 (by decide) (by decide) rfl (by decide) dX5_enter_1 rfl ?_
  refine V_iload_n (q := 5) dX5_enter_4 rfl rfl ?_
  refine V_cV1I (q := 8) (o := 3) (N := mX1_has) tX1_has hκ.big (by decide) gX1_has kl_X5_79 ki_X1_has ks_X1_has (by decide) rfl (Nat.le_of_ble_eq_true rfl) dX5_enter_5 rfl ?_
  refine V_if_eq (tgt := 43) (q := 11) dX5_enter_8 (by decide) rfl (fun c_8 => absurd c_8 (vB_n0.mpr hg.1)) (fun c_8 => ?_)
  refine V_iload_n (q := 12) dX5_enter_11 rfl rfl ?_
  refine V_cS1I (q := 15) (N := mX5_isPerson) tX5_isPerson hκ.big (by decide) gX5_isPerson kl_X5_103 kt_X5_isPerson (Nat.le_of_ble_eq_true rfl) dX5_enter_12 rfl ?_
  refine V_if_eq (tgt := 43) (q := 18) dX5_enter_15 (by decide) rfl (fun c_15 => absurd c_15 (vB_n0.mpr hg.2.1)) (fun c_15 => ?_)
  refine V_iload (q := 20) dX5_enter_18 rfl rfl ?_
  refine V_cS1I (q := 23) (N := mX5_isPerson) tX5_isPerson hκ.big (by decide) gX5_isPerson kl_X5_103 kt_X5_isPerson (Nat.le_of_ble_eq_true rfl) dX5_enter_20 rfl ?_
  refine V_if_eq (tgt := 43) (q := 26) dX5_enter_23 (by decide) rfl (fun c_23 => absurd c_23 (vB_n0.mpr hg.2.2.1)) (fun c_23 => ?_)
  refine V_iload_n (q := 27) dX5_enter_26 rfl rfl ?_
  refine V_iload (q := 29) dX5_enter_27 rfl rfl ?_
  refine V_icmp_eq (tgt := 43) (q := 32) dX5_enter_29 (by decide) rfl (fun c_29 => absurd c_29 hg.2.2.2.1) (fun c_29 => ?_)
  refine V_iload (q := 34) dX5_enter_32 rfl rfl ?_
  refine V_iconst (q := 35) (v := 1) dX5_enter_34 (by decide) rfl ?_
  refine V_bipush (q := 37) (v := 64) dX5_enter_35 (by decide) rfl ?_
  refine V_cS3I (q := 40) (N := mX5_isWithin) tX5_isWithin hκ.big (by decide) gX5_isWithin kl_X5_67 kt_X5_isWithin (Nat.le_of_ble_eq_true rfl) dX5_enter_37 rfl ?_
  refine V_if_ne (tgt := 45) (q := 43) dX5_enter_40 (by decide) rfl (fun c_40 => ?_) (fun c_40 => absurd c_40 (vB_n0.mpr hg.2.2.2.2))
  refine V_aload_n (q := 46) dX5_enter_45 rfl rfl ?_
  refine V_getR (q := 49) (n := 4) 0 2 kf_X5_26 (by decide) (by decide) rfl (by decide) dX5_enter_46 rfl ?_
  refine V_iload_n (q := 50) dX5_enter_49 rfl rfl ?_
  refine V_iload_n (q := 51) dX5_enter_50 rfl rfl ?_
  refine V_iload_n (q := 52) dX5_enter_51 rfl rfl ?_
  refine V_iload (q := 54) dX5_enter_52 rfl rfl ?_
  refine V_iload (q := 56) dX5_enter_54 rfl rfl ?_
  refine V_bipush (q := 58) (v := (-4)) dX5_enter_56 (by decide) rfl ?_
  refine V_cV6I (q := 61) (o := 4) (N := mX2_add) (tX2_add hn hn60 hok) hκ.big (by decide) gX2_add kl_X5_162 ki_X2_add ks_X2_add (by decide) rfl (Nat.le_of_ble_eq_true rfl) dX5_enter_58 rfl ?_
  exact V_iret hκ rfl rfl dX5_enter_61 vEq.rf
theorem tX5_sell0 {F : vFt} {Ar : vAt} {x : vXt} {h a b m : Int32} (hb : ¬ dlOk (F 193) h a b m) : C0 mX5_sell 7 [.ref 0, .int h, .int a, .int b, .int m] F Ar x (vEq (some (.int (-1))) F Ar) := by
  refine C0_of (by decide +kernel) (Nat.le_of_ble_eq_true rfl) (fun κ hκ => ?_)
  show V κ mX5_sell 0 [.ref 0, .int h, .int a, .int b, .int m] [] F Ar x
  refine V_aload_n (q := 1) dX5_sell_0 rfl rfl ?_
  refine V_iconst (q := 2) (v := 0) dX5_sell_1 (by decide) rfl ?_
  refine V_iload_n (q := 3) dX5_sell_2 rfl rfl ?_
  refine V_iload_n (q := 4) dX5_sell_3 rfl rfl ?_
  refine V_iload_n (q := 5) dX5_sell_4 rfl rfl ?_
  refine V_iload (q := 7) dX5_sell_5 rfl rfl ?_
  refine V_cV5I (q := 10) (o := 0) (N := mX5_enter) (tX5_enter0 hb) hκ.big (by decide) gX5_enter kl_X5_92 ki_X5_enter ks_X5_enter (by decide) rfl (Nat.le_of_ble_eq_true rfl) dX5_sell_7 rfl ?_
  exact V_iret hκ rfl rfl dX5_sell_10 vEq.rf
theorem tX5_sell1 {F : vFt} {Ar : vAt} {x : vXt} {n h a b : Nat} {m : Int32} (hg : dlOk (F 193) (nI h) (nI a) (nI b) m) (hn : F 258 = nI n) (hn60 : n ≤ 60) (hok : n < 60 → gOk (gAdd Ar n 0 h a b m (-4)) (n + 1)) : C0 mX5_sell 7 [.ref 0, .int (nI h), .int (nI a), .int (nI b), .int m] F Ar x (vEq (some (.int (if n < 60 then nI n else -2))) (if n < 60 then upd F 258 (nI (n + 1)) else F) (if n < 60 then gAll (gAdd Ar n 0 h a b m (-4)) (n + 1) else Ar)) := by
  refine C0_of (by decide +kernel) (Nat.le_of_ble_eq_true rfl) (fun κ hκ => ?_)
  show V κ mX5_sell 0 [.ref 0, .int (nI h), .int (nI a), .int (nI b), .int m] [] F Ar x
  refine V_aload_n (q := 1) dX5_sell_0 rfl rfl ?_
  refine V_iconst (q := 2) (v := 0) dX5_sell_1 (by decide) rfl ?_
  refine V_iload_n (q := 3) dX5_sell_2 rfl rfl ?_
  refine V_iload_n (q := 4) dX5_sell_3 rfl rfl ?_
  refine V_iload_n (q := 5) dX5_sell_4 rfl rfl ?_
  refine V_iload (q := 7) dX5_sell_5 rfl rfl ?_
  refine V_cV5I (q := 10) (o := 0) (N := mX5_enter) (tX5_enter1 hg hn hn60 hok) hκ.big (by decide) gX5_enter kl_X5_92 ki_X5_enter ks_X5_enter (by decide) rfl (Nat.le_of_ble_eq_true rfl) dX5_sell_7 rfl ?_
  exact V_iret hκ rfl rfl dX5_sell_10 vEq.rf
theorem tX5_pledge0 {F : vFt} {Ar : vAt} {x : vXt} {h a b m : Int32} (hb : ¬ dlOk (F 193) h a b m) : C0 mX5_pledge 7 [.ref 0, .int h, .int a, .int b, .int m] F Ar x (vEq (some (.int (-1))) F Ar) := by
  refine C0_of (by decide +kernel) (Nat.le_of_ble_eq_true rfl) (fun κ hκ => ?_)
  show V κ mX5_pledge 0 [.ref 0, .int h, .int a, .int b, .int m] [] F Ar x
  refine V_aload_n (q := 1) dX5_pledge_0 rfl rfl ?_
  refine V_iconst (q := 2) (v := 1) dX5_pledge_1 (by decide) rfl ?_
  refine V_iload_n (q := 3) dX5_pledge_2 rfl rfl ?_
  refine V_iload_n (q := 4) dX5_pledge_3 rfl rfl ?_
  refine V_iload_n (q := 5) dX5_pledge_4 rfl rfl ?_
  refine V_iload (q := 7) dX5_pledge_5 rfl rfl ?_
  refine V_cV5I (q := 10) (o := 0) (N := mX5_enter) (tX5_enter0 hb) hκ.big (by decide) gX5_enter kl_X5_92 ki_X5_enter ks_X5_enter (by decide) rfl (Nat.le_of_ble_eq_true rfl) dX5_pledge_7 rfl ?_
  exact V_iret hκ rfl rfl dX5_pledge_10 vEq.rf
theorem tX5_pledge1 {F : vFt} {Ar : vAt} {x : vXt} {n h a b : Nat} {m : Int32} (hg : dlOk (F 193) (nI h) (nI a) (nI b) m) (hn : F 258 = nI n) (hn60 : n ≤ 60) (hok : n < 60 → gOk (gAdd Ar n 1 h a b m (-4)) (n + 1)) : C0 mX5_pledge 7 [.ref 0, .int (nI h), .int (nI a), .int (nI b), .int m] F Ar x (vEq (some (.int (if n < 60 then nI n else -2))) (if n < 60 then upd F 258 (nI (n + 1)) else F) (if n < 60 then gAll (gAdd Ar n 1 h a b m (-4)) (n + 1) else Ar)) := by
  refine C0_of (by decide +kernel) (Nat.le_of_ble_eq_true rfl) (fun κ hκ => ?_)
  show V κ mX5_pledge 0 [.ref 0, .int (nI h), .int (nI a), .int (nI b), .int m] [] F Ar x
  refine V_aload_n (q := 1) dX5_pledge_0 rfl rfl ?_
  refine V_iconst (q := 2) (v := 1) dX5_pledge_1 (by decide) rfl ?_
  refine V_iload_n (q := 3) dX5_pledge_2 rfl rfl ?_
  refine V_iload_n (q := 4) dX5_pledge_3 rfl rfl ?_
  refine V_iload_n (q := 5) dX5_pledge_4 rfl rfl ?_
  refine V_iload (q := 7) dX5_pledge_5 rfl rfl ?_
  refine V_cV5I (q := 10) (o := 0) (N := mX5_enter) (tX5_enter1 hg hn hn60 hok) hκ.big (by decide) gX5_enter kl_X5_92 ki_X5_enter ks_X5_enter (by decide) rfl (Nat.le_of_ble_eq_true rfl) dX5_pledge_7 rfl ?_
  exact V_iret hκ rfl rfl dX5_pledge_10 vEq.rf
theorem tX5_redeem0 {F : vFt} {Ar : vAt} {x : vXt} {i : Int32} (hb : ¬ (0 ≤ i ∧ i ≤ F 258 - 1)) : C0 mX5_redeem 7 [.ref 0, .int i] F Ar x (vEq (some (.int (-1))) F Ar) := by
  refine C0_of (by decide +kernel) (Nat.le_of_ble_eq_true rfl) (fun κ hκ => ?_)
  show V κ mX5_redeem 0 [.ref 0, .int i] [] F Ar x
  refine V_aload_n (q := 1) dX5_redeem_0 rfl rfl ?_
  refine V_getR (q := 4) (n := 4) 0 2 kf_X5_26 (by decide) (by decide) rfl (by decide) dX5_redeem_1 rfl ?_
  refine V_iload_n (q := 5) dX5_redeem_4 rfl rfl ?_
  refine V_cV1I (q := 8) (o := 4) (N := mX2_has) tX2_has hκ.big (by decide) gX2_has kl_X5_95 ki_X2_has ks_X2_has (by decide) rfl (Nat.le_of_ble_eq_true rfl) dX5_redeem_5 rfl ?_
  refine V_if_eq (tgt := 22) (q := 11) dX5_redeem_8 (by decide) rfl (fun c_8 => ?_) (fun c_8 => absurd (vB_n0.mp c_8) hb)
  refine V_iconst (q := 23) (v := (-1)) dX5_redeem_22 (by decide) rfl ?_
  exact V_iret hκ rfl rfl dX5_redeem_23 vEq.rf
theorem tX5_forge0 {F : vFt} {Ar : vAt} {x : vXt} {i : Int32} (hb : ¬ (0 ≤ i ∧ i ≤ F 258 - 1)) : C0 mX5_forge 7 [.ref 0, .int i] F Ar x (vEq (some (.int (-1))) F Ar) := by
  refine C0_of (by decide +kernel) (Nat.le_of_ble_eq_true rfl) (fun κ hκ => ?_)
  show V κ mX5_forge 0 [.ref 0, .int i] [] F Ar x
  refine V_aload_n (q := 1) dX5_forge_0 rfl rfl ?_
  refine V_getR (q := 4) (n := 4) 0 2 kf_X5_26 (by decide) (by decide) rfl (by decide) dX5_forge_1 rfl ?_
  refine V_iload_n (q := 5) dX5_forge_4 rfl rfl ?_
  refine V_cV1I (q := 8) (o := 4) (N := mX2_has) tX2_has hκ.big (by decide) gX2_has kl_X5_95 ki_X2_has ks_X2_has (by decide) rfl (Nat.le_of_ble_eq_true rfl) dX5_forge_5 rfl ?_
  refine V_if_eq (tgt := 22) (q := 11) dX5_forge_8 (by decide) rfl (fun c_8 => ?_) (fun c_8 => absurd (vB_n0.mp c_8) hb)
  refine V_iconst (q := 23) (v := (-1)) dX5_forge_22 (by decide) rfl ?_
  exact V_iret hκ rfl rfl dX5_forge_23 vEq.rf
theorem tX5_redeem1 {F : vFt} {Ar : vAt} {x : vXt} {n e h a b : Nat} (hn : F 258 = nI n) (hn60 : n ≤ 60) (he : e < n) (hh : gCol (Ar 23) 1 e = nI h) (ha : gCol (Ar 23) 2 e = nI a) (hb : gCol (Ar 23) 3 e = nI b) (hok : n < 60 → gOk (gAdd Ar n 2 h a b (gCol (Ar 23) 4 e) (nI e)) (n + 1)) : C0 mX5_redeem 7 [.ref 0, .int (nI e)] F Ar x (vEq (some (.int (if gCol (Ar 23) 0 e = 1 then (if n < 60 then nI n else -2) else -5))) (if gCol (Ar 23) 0 e = 1 ∧ n < 60 then upd F 258 (nI (n + 1)) else F) (if gCol (Ar 23) 0 e = 1 ∧ n < 60 then gAll (gAdd Ar n 2 h a b (gCol (Ar 23) 4 e) (nI e)) (n + 1) else Ar)) := by
  refine C0_of (by decide +kernel) (Nat.le_of_ble_eq_true rfl) (fun κ hκ => ?_)
  show V κ mX5_redeem 0 [.ref 0, .int (nI e)] [] F Ar x
  have hg : 0 ≤ nI e ∧ nI e ≤ F 258 - 1 := by rw [hn]; exact (v_has (by omega)).mpr ⟨e, he, rfl⟩
  refine V_aload_n (q := 1) dX5_redeem_0 rfl rfl ?_
  refine V_getR (q := 4) (n := 4) 0 2 kf_X5_26 (by decide) (by decide) rfl (by decide) dX5_redeem_1 rfl ?_
  refine V_iload_n (q := 5) dX5_redeem_4 rfl rfl ?_
  refine V_cV1I (q := 8) (o := 4) (N := mX2_has) tX2_has hκ.big (by decide) gX2_has kl_X5_95 ki_X2_has ks_X2_has (by decide) rfl (Nat.le_of_ble_eq_true rfl) dX5_redeem_5 rfl ?_
  refine V_if_eq (tgt := 22) (q := 11) dX5_redeem_8 (by decide) rfl (fun c_8 => absurd c_8 (vB_n0.mpr hg)) (fun c_8 => ?_)
  refine V_aload_n (q := 12) dX5_redeem_11 rfl rfl ?_
  refine V_getR (q := 15) (n := 4) 0 2 kf_X5_26 (by decide) (by decide) rfl (by decide) dX5_redeem_12 rfl ?_
  refine V_iload_n (q := 16) dX5_redeem_15 rfl rfl ?_
  refine V_cV1I (q := 19) (o := 4) (N := mX2_addRedeem) (tX2_addRedeem hn hn60 he hh ha hb hok) hκ.big (by decide) gX2_addRedeem kl_X5_96 ki_X2_addRedeem ks_X2_addRedeem (by decide) rfl (Nat.le_of_ble_eq_true rfl) dX5_redeem_16 rfl ?_
  refine V_goto (q := 23) dX5_redeem_19 (by decide) ?_
  exact V_iret hκ rfl rfl dX5_redeem_23 vEq.rf
theorem tX5_forge1 {F : vFt} {Ar : vAt} {x : vXt} {n e : Nat} (hn : F 258 = nI n) (hn60 : n ≤ 60) (he : e < n) (hok : gOk (vS Ar 23 (upd (Ar 23) (e * 9 + 5) 1)) n) : C0 mX5_forge 7 [.ref 0, .int (nI e)] F Ar x (vEq (some (.int (if gCol (Ar 23) 5 e = 1 then -3 else 1))) F (if gCol (Ar 23) 5 e = 1 then Ar else gAll (vS Ar 23 (upd (Ar 23) (e * 9 + 5) 1)) n)) := by
  refine C0_of (by decide +kernel) (Nat.le_of_ble_eq_true rfl) (fun κ hκ => ?_)
  show V κ mX5_forge 0 [.ref 0, .int (nI e)] [] F Ar x
  have hg : 0 ≤ nI e ∧ nI e ≤ F 258 - 1 := by rw [hn]; exact (v_has (by omega)).mpr ⟨e, he, rfl⟩
  refine V_aload_n (q := 1) dX5_forge_0 rfl rfl ?_
  refine V_getR (q := 4) (n := 4) 0 2 kf_X5_26 (by decide) (by decide) rfl (by decide) dX5_forge_1 rfl ?_
  refine V_iload_n (q := 5) dX5_forge_4 rfl rfl ?_
  refine V_cV1I (q := 8) (o := 4) (N := mX2_has) tX2_has hκ.big (by decide) gX2_has kl_X5_95 ki_X2_has ks_X2_has (by decide) rfl (Nat.le_of_ble_eq_true rfl) dX5_forge_5 rfl ?_
  refine V_if_eq (tgt := 22) (q := 11) dX5_forge_8 (by decide) rfl (fun c_8 => absurd c_8 (vB_n0.mpr hg)) (fun c_8 => ?_)
  refine V_aload_n (q := 12) dX5_forge_11 rfl rfl ?_
  refine V_getR (q := 15) (n := 4) 0 2 kf_X5_26 (by decide) (by decide) rfl (by decide) dX5_forge_12 rfl ?_
  refine V_iload_n (q := 16) dX5_forge_15 rfl rfl ?_
  refine V_cV1I (q := 19) (o := 4) (N := mX2_markForged) (tX2_markForged hn hn60 he hok) hκ.big (by decide) gX2_markForged kl_X5_99 ki_X2_markForged ks_X2_markForged (by decide) rfl (Nat.le_of_ble_eq_true rfl) dX5_forge_16 rfl ?_
  refine V_goto (q := 23) dX5_forge_19 (by decide) ?_
  exact V_iret hκ rfl rfl dX5_forge_23 vEq.rf
theorem tX5_entry0 {F : vFt} {Ar : vAt} {x : vXt} {i w : Int32} (hb : ¬ ((0 ≤ i ∧ i ≤ F 258 - 1) ∧ (0 ≤ w ∧ w ≤ 8))) : C0 mX5_entry 2 [.ref 0, .int i, .int w] F Ar x (vEq (some (.int (-1))) F Ar) := by
  refine C0_of (by decide +kernel) (Nat.le_of_ble_eq_true rfl) (fun κ hκ => ?_)
  show V κ mX5_entry 0 [.ref 0, .int i, .int w] [] F Ar x
  refine V_aload_n (q := 1) dX5_entry_0 rfl rfl ?_
  refine V_getR (q := 4) (n := 4) 0 2 kf_X5_26 (by decide) (by decide) rfl (by decide) dX5_entry_1 rfl ?_
  refine V_iload_n (q := 5) dX5_entry_4 rfl rfl ?_
  refine V_cV1I (q := 8) (o := 4) (N := mX2_has) tX2_has hκ.big (by decide) gX2_has kl_X5_95 ki_X2_has ks_X2_has (by decide) rfl (Nat.le_of_ble_eq_true rfl) dX5_entry_5 rfl ?_
  refine V_if_eq (tgt := 21) (q := 11) dX5_entry_8 (by decide) rfl (fun c_8 => ?_) (fun c_8 => ?_)
  · refine V_iconst (q := 22) (v := (-1)) dX5_entry_21 (by decide) rfl ?_
    exact V_iret hκ rfl rfl dX5_entry_22 vEq.rf
  · refine V_iload_n (q := 12) dX5_entry_11 rfl rfl ?_
    refine V_iconst (q := 13) (v := 0) dX5_entry_12 (by decide) rfl ?_
    refine V_bipush (q := 15) (v := 8) dX5_entry_13 (by decide) rfl ?_
    refine V_cS3I (q := 18) (N := mX5_isWithin) tX5_isWithin hκ.big (by decide) gX5_isWithin kl_X5_67 kt_X5_isWithin (Nat.le_of_ble_eq_true rfl) dX5_entry_15 rfl ?_
    refine V_if_ne (tgt := 23) (q := 21) dX5_entry_18 (by decide) rfl (fun c_18 => absurd ⟨vB_n0.mp c_8, vB_n0.mp c_18⟩ hb) (fun c_18 => ?_)
    refine V_iconst (q := 22) (v := (-1)) dX5_entry_21 (by decide) rfl ?_
    exact V_iret hκ rfl rfl dX5_entry_22 vEq.rf
theorem tX5_entry1 {F : vFt} {Ar : vAt} {x : vXt} {n e w : Nat} (hn : F 258 = nI n) (hn60 : n ≤ 60) (he : e < n) (hw : w < 9) : C0 mX5_entry 2 [.ref 0, .int (nI e), .int (nI w)] F Ar x (vEq (some (.int (Ar 23 (e * 9 + w)))) F Ar) := by
  refine C0_of (by decide +kernel) (Nat.le_of_ble_eq_true rfl) (fun κ hκ => ?_)
  show V κ mX5_entry 0 [.ref 0, .int (nI e), .int (nI w)] [] F Ar x
  have hg : 0 ≤ nI e ∧ nI e ≤ F 258 - 1 := by rw [hn]; exact (v_has (by omega)).mpr ⟨e, he, rfl⟩
  have hw8 : (0 : Int32) ≤ nI w ∧ nI w ≤ 8 := (v_to (n := 8) rfl (by decide)).mpr ⟨w, by omega, rfl⟩
  refine V_aload_n (q := 1) dX5_entry_0 rfl rfl ?_
  refine V_getR (q := 4) (n := 4) 0 2 kf_X5_26 (by decide) (by decide) rfl (by decide) dX5_entry_1 rfl ?_
  refine V_iload_n (q := 5) dX5_entry_4 rfl rfl ?_
  refine V_cV1I (q := 8) (o := 4) (N := mX2_has) tX2_has hκ.big (by decide) gX2_has kl_X5_95 ki_X2_has ks_X2_has (by decide) rfl (Nat.le_of_ble_eq_true rfl) dX5_entry_5 rfl ?_
  refine V_if_eq (tgt := 21) (q := 11) dX5_entry_8 (by decide) rfl (fun c_8 => absurd c_8 (vB_n0.mpr hg)) (fun c_8 => ?_)
  refine V_iload_n (q := 12) dX5_entry_11 rfl rfl ?_
  refine V_iconst (q := 13) (v := 0) dX5_entry_12 (by decide) rfl ?_
  refine V_bipush (q := 15) (v := 8) dX5_entry_13 (by decide) rfl ?_
  refine V_cS3I (q := 18) (N := mX5_isWithin) tX5_isWithin hκ.big (by decide) gX5_isWithin kl_X5_67 kt_X5_isWithin (Nat.le_of_ble_eq_true rfl) dX5_entry_15 rfl ?_
  refine V_if_ne (tgt := 23) (q := 21) dX5_entry_18 (by decide) rfl (fun c_18 => ?_) (fun c_18 => absurd c_18 (vB_n0.mpr hw8))
  refine V_aload_n (q := 24) dX5_entry_23 rfl rfl ?_
  refine V_getR (q := 27) (n := 4) 0 2 kf_X5_26 (by decide) (by decide) rfl (by decide) dX5_entry_24 rfl ?_
  refine V_iload_n (q := 28) dX5_entry_27 rfl rfl ?_
  refine V_iload_n (q := 29) dX5_entry_28 rfl rfl ?_
  refine V_cV2I (q := 32) (o := 4) (N := mX2_told) (tX2_told (by omega) hw) hκ.big (by decide) gX2_told kl_X5_102 ki_X2_told ks_X2_told (by decide) rfl (Nat.le_of_ble_eq_true rfl) dX5_entry_29 rfl ?_
  exact V_iret hκ rfl rfl dX5_entry_32 vEq.rf
theorem tX5_parts0 {F : vFt} {Ar : vAt} {x : vXt} {i c : Int32} {fr : Bool} (hb : ¬ ((0 ≤ i ∧ i ≤ F 193 - 1) ∧ (0 ≤ c ∧ c ≤ 7))) : C0 mX5_parts 2 [.ref 0, .int i, .int c, .int (if fr then 1 else 0)] F Ar x (vEq (some (.int (-1))) F Ar) := by
  refine C0_of (by decide +kernel) (Nat.le_of_ble_eq_true rfl) (fun κ hκ => ?_)
  show V κ mX5_parts 0 [.ref 0, .int i, .int c, .int (if fr then 1 else 0)] [] F Ar x
  refine V_aload_n (q := 1) dX5_parts_0 rfl rfl ?_
  refine V_getR (q := 4) (n := 3) 0 1 kf_X5_19 (by decide) (by decide) rfl (by decide) dX5_parts_1 rfl ?_
  refine V_iload_n (q := 5) dX5_parts_4 rfl rfl ?_
  refine V_cV1I (q := 8) (o := 3) (N := mX1_has) tX1_has hκ.big (by decide) gX1_has kl_X5_79 ki_X1_has ks_X1_has (by decide) rfl (Nat.le_of_ble_eq_true rfl) dX5_parts_5 rfl ?_
  refine V_if_eq (tgt := 18) (q := 11) dX5_parts_8 (by decide) rfl (fun c_8 => ?_) (fun c_8 => ?_)
  · refine V_iconst (q := 19) (v := (-1)) dX5_parts_18 (by decide) rfl ?_
    exact V_iret hκ rfl rfl dX5_parts_19 vEq.rf
  · refine V_iload_n (q := 12) dX5_parts_11 rfl rfl ?_
    refine V_cS1I (q := 15) (N := mX5_isPerson) tX5_isPerson hκ.big (by decide) gX5_isPerson kl_X5_103 kt_X5_isPerson (Nat.le_of_ble_eq_true rfl) dX5_parts_12 rfl ?_
    refine V_if_ne (tgt := 20) (q := 18) dX5_parts_15 (by decide) rfl (fun c_15 => absurd ⟨vB_n0.mp c_8, vB_n0.mp c_15⟩ hb) (fun c_15 => ?_)
    refine V_iconst (q := 19) (v := (-1)) dX5_parts_18 (by decide) rfl ?_
    exact V_iret hκ rfl rfl dX5_parts_19 vEq.rf
theorem tX5_parts1 {F : vFt} {Ar : vAt} {x : vXt} {n h c : Nat} {fr : Bool} (hn : F 193 = nI n) (hn5 : n ≤ 5) (hh : h < n) (hc : c < 8) : C0 mX5_parts 2 [.ref 0, .int (nI h), .int (nI c), .int (if fr then 1 else 0)] F Ar x (vEq (some (.int (if fr then Ar 27 (h * 8 + c) - Ar 28 (h * 8 + c) else Ar 27 (h * 8 + c)))) F Ar) := by
  refine C0_of (by decide +kernel) (Nat.le_of_ble_eq_true rfl) (fun κ hκ => ?_)
  show V κ mX5_parts 0 [.ref 0, .int (nI h), .int (nI c), .int (if fr then 1 else 0)] [] F Ar x
  have hg : 0 ≤ nI h ∧ nI h ≤ F 193 - 1 := by rw [hn]; exact (v_has (by omega)).mpr ⟨h, hh, rfl⟩
  have hc7 : (0 : Int32) ≤ nI c ∧ nI c ≤ 7 := (v_to (n := 7) rfl (by decide)).mpr ⟨c, by omega, rfl⟩
  refine V_aload_n (q := 1) dX5_parts_0 rfl rfl ?_
  refine V_getR (q := 4) (n := 3) 0 1 kf_X5_19 (by decide) (by decide) rfl (by decide) dX5_parts_1 rfl ?_
  refine V_iload_n (q := 5) dX5_parts_4 rfl rfl ?_
  refine V_cV1I (q := 8) (o := 3) (N := mX1_has) tX1_has hκ.big (by decide) gX1_has kl_X5_79 ki_X1_has ks_X1_has (by decide) rfl (Nat.le_of_ble_eq_true rfl) dX5_parts_5 rfl ?_
  refine V_if_eq (tgt := 18) (q := 11) dX5_parts_8 (by decide) rfl (fun c_8 => absurd c_8 (vB_n0.mpr hg)) (fun c_8 => ?_)
  refine V_iload_n (q := 12) dX5_parts_11 rfl rfl ?_
  refine V_cS1I (q := 15) (N := mX5_isPerson) tX5_isPerson hκ.big (by decide) gX5_isPerson kl_X5_103 kt_X5_isPerson (Nat.le_of_ble_eq_true rfl) dX5_parts_12 rfl ?_
  refine V_if_ne (tgt := 20) (q := 18) dX5_parts_15 (by decide) rfl (fun c_15 => ?_) (fun c_15 => absurd c_15 (vB_n0.mpr hc7))
  refine V_iload_n (q := 21) dX5_parts_20 rfl rfl ?_
  refine V_if_eq (tgt := 36) (q := 24) dX5_parts_21 (by decide) rfl (fun c_21 => ?_) (fun c_21 => ?_)
  · refine V_aload_n (q := 37) dX5_parts_36 rfl rfl ?_
    refine V_getR (q := 40) (n := 4) 0 2 kf_X5_26 (by decide) (by decide) rfl (by decide) dX5_parts_37 rfl ?_
    refine V_iload_n (q := 41) dX5_parts_40 rfl rfl ?_
    refine V_iload_n (q := 42) dX5_parts_41 rfl rfl ?_
    refine V_cV2I (q := 45) (o := 4) (N := mX2_allParts) (tX2_allParts (by omega) hc) hκ.big (by decide) gX2_allParts kl_X5_109 ki_X2_allParts ks_X2_allParts (by decide) rfl (Nat.le_of_ble_eq_true rfl) dX5_parts_42 rfl ?_
    exact V_iret hκ rfl rfl dX5_parts_45 ⟨by cases fr; (· rfl); (· exact absurd c_21 (by decide)), rfl, rfl⟩
  · refine V_aload_n (q := 25) dX5_parts_24 rfl rfl ?_
    refine V_getR (q := 28) (n := 4) 0 2 kf_X5_26 (by decide) (by decide) rfl (by decide) dX5_parts_25 rfl ?_
    refine V_iload_n (q := 29) dX5_parts_28 rfl rfl ?_
    refine V_iload_n (q := 30) dX5_parts_29 rfl rfl ?_
    refine V_cV2I (q := 33) (o := 4) (N := mX2_freeParts) (tX2_freeParts (by omega) hc) hκ.big (by decide) gX2_freeParts kl_X5_106 ki_X2_freeParts ks_X2_freeParts (by decide) rfl (Nat.le_of_ble_eq_true rfl) dX5_parts_30 rfl ?_
    refine V_goto (q := 45) dX5_parts_33 (by decide) ?_
    exact V_iret hκ rfl rfl dX5_parts_45 ⟨by cases fr; (· exact absurd rfl c_21); (· rfl), rfl, rfl⟩
theorem tX5_held0 {F : vFt} {Ar : vAt} {x : vXt} {i c : Int32} (hb : ¬ ((0 ≤ i ∧ i ≤ F 193 - 1) ∧ (0 ≤ c ∧ c ≤ 7))) : C0 mX5_held 2 [.ref 0, .int i, .int c] F Ar x (vEq (some (.int (-1))) F Ar) := by
  refine C0_of (by decide +kernel) (Nat.le_of_ble_eq_true rfl) (fun κ hκ => ?_)
  show V κ mX5_held 0 [.ref 0, .int i, .int c] [] F Ar x
  refine V_aload_n (q := 1) dX5_held_0 rfl rfl ?_
  refine V_getR (q := 4) (n := 3) 0 1 kf_X5_19 (by decide) (by decide) rfl (by decide) dX5_held_1 rfl ?_
  refine V_iload_n (q := 5) dX5_held_4 rfl rfl ?_
  refine V_cV1I (q := 8) (o := 3) (N := mX1_has) tX1_has hκ.big (by decide) gX1_has kl_X5_79 ki_X1_has ks_X1_has (by decide) rfl (Nat.le_of_ble_eq_true rfl) dX5_held_5 rfl ?_
  refine V_if_eq (tgt := 18) (q := 11) dX5_held_8 (by decide) rfl (fun c_8 => ?_) (fun c_8 => ?_)
  · refine V_iconst (q := 19) (v := (-1)) dX5_held_18 (by decide) rfl ?_
    exact V_iret hκ rfl rfl dX5_held_19 vEq.rf
  · refine V_iload_n (q := 12) dX5_held_11 rfl rfl ?_
    refine V_cS1I (q := 15) (N := mX5_isPerson) tX5_isPerson hκ.big (by decide) gX5_isPerson kl_X5_103 kt_X5_isPerson (Nat.le_of_ble_eq_true rfl) dX5_held_12 rfl ?_
    refine V_if_ne (tgt := 20) (q := 18) dX5_held_15 (by decide) rfl (fun c_15 => absurd ⟨vB_n0.mp c_8, vB_n0.mp c_15⟩ hb) (fun c_15 => ?_)
    refine V_iconst (q := 19) (v := (-1)) dX5_held_18 (by decide) rfl ?_
    exact V_iret hκ rfl rfl dX5_held_19 vEq.rf
theorem tX5_held1 {F : vFt} {Ar : vAt} {x : vXt} {n h c : Nat} (hn : F 193 = nI n) (hn5 : n ≤ 5) (hh : h < n) (hc : c < 8) : C0 mX5_held 2 [.ref 0, .int (nI h), .int (nI c)] F Ar x (vEq (some (.int (Ar 29 (h * 8 + c)))) F Ar) := by
  refine C0_of (by decide +kernel) (Nat.le_of_ble_eq_true rfl) (fun κ hκ => ?_)
  show V κ mX5_held 0 [.ref 0, .int (nI h), .int (nI c)] [] F Ar x
  have hg : 0 ≤ nI h ∧ nI h ≤ F 193 - 1 := by rw [hn]; exact (v_has (by omega)).mpr ⟨h, hh, rfl⟩
  have hc7 : (0 : Int32) ≤ nI c ∧ nI c ≤ 7 := (v_to (n := 7) rfl (by decide)).mpr ⟨c, by omega, rfl⟩
  refine V_aload_n (q := 1) dX5_held_0 rfl rfl ?_
  refine V_getR (q := 4) (n := 3) 0 1 kf_X5_19 (by decide) (by decide) rfl (by decide) dX5_held_1 rfl ?_
  refine V_iload_n (q := 5) dX5_held_4 rfl rfl ?_
  refine V_cV1I (q := 8) (o := 3) (N := mX1_has) tX1_has hκ.big (by decide) gX1_has kl_X5_79 ki_X1_has ks_X1_has (by decide) rfl (Nat.le_of_ble_eq_true rfl) dX5_held_5 rfl ?_
  refine V_if_eq (tgt := 18) (q := 11) dX5_held_8 (by decide) rfl (fun c_8 => absurd c_8 (vB_n0.mpr hg)) (fun c_8 => ?_)
  refine V_iload_n (q := 12) dX5_held_11 rfl rfl ?_
  refine V_cS1I (q := 15) (N := mX5_isPerson) tX5_isPerson hκ.big (by decide) gX5_isPerson kl_X5_103 kt_X5_isPerson (Nat.le_of_ble_eq_true rfl) dX5_held_12 rfl ?_
  refine V_if_ne (tgt := 20) (q := 18) dX5_held_15 (by decide) rfl (fun c_15 => ?_) (fun c_15 => absurd c_15 (vB_n0.mpr hc7))
  refine V_aload_n (q := 21) dX5_held_20 rfl rfl ?_
  refine V_getR (q := 24) (n := 4) 0 2 kf_X5_26 (by decide) (by decide) rfl (by decide) dX5_held_21 rfl ?_
  refine V_iload_n (q := 25) dX5_held_24 rfl rfl ?_
  refine V_iload_n (q := 26) dX5_held_25 rfl rfl ?_
  refine V_cV2I (q := 29) (o := 4) (N := mX2_partsHeld) (tX2_partsHeld (by omega) hc) hκ.big (by decide) gX2_partsHeld kl_X5_115 ki_X2_partsHeld ks_X2_partsHeld (by decide) rfl (Nat.le_of_ble_eq_true rfl) dX5_held_26 rfl ?_
  exact V_iret hκ rfl rfl dX5_held_29 vEq.rf
theorem tX5_manager0 {F : vFt} {Ar : vAt} {x : vXt} {i : Int32} (hb : ¬ (0 ≤ i ∧ i ≤ F 193 - 1)) : C0 mX5_manager 3 [.ref 0, .int i] F Ar x (vEq (some (.int (-1))) F Ar) := by
  refine C0_of (by decide +kernel) (Nat.le_of_ble_eq_true rfl) (fun κ hκ => ?_)
  show V κ mX5_manager 0 [.ref 0, .int i] [] F Ar x
  refine V_aload_n (q := 1) dX5_manager_0 rfl rfl ?_
  refine V_getR (q := 4) (n := 3) 0 1 kf_X5_19 (by decide) (by decide) rfl (by decide) dX5_manager_1 rfl ?_
  refine V_iload_n (q := 5) dX5_manager_4 rfl rfl ?_
  refine V_cV1I (q := 8) (o := 3) (N := mX1_has) tX1_has hκ.big (by decide) gX1_has kl_X5_79 ki_X1_has ks_X1_has (by decide) rfl (Nat.le_of_ble_eq_true rfl) dX5_manager_5 rfl ?_
  refine V_if_eq (tgt := 22) (q := 11) dX5_manager_8 (by decide) rfl (fun c_8 => ?_) (fun c_8 => absurd (vB_n0.mp c_8) hb)
  refine V_iconst (q := 23) (v := (-1)) dX5_manager_22 (by decide) rfl ?_
  exact V_iret hκ rfl rfl dX5_manager_23 vEq.rf
theorem tX5_manager1 {F : vFt} {Ar : vAt} {x : vXt} {n h : Nat} (hn : F 193 = nI n) (hn5 : n ≤ 5) (hh : h < n) : C0 mX5_manager 3 [.ref 0, .int (nI h)] F Ar x (vEq (some (.int (nI (vBest (fun c => Ar 27 (h * 8 + c)) 8)))) F Ar) := by
  refine C0_of (by decide +kernel) (Nat.le_of_ble_eq_true rfl) (fun κ hκ => ?_)
  show V κ mX5_manager 0 [.ref 0, .int (nI h)] [] F Ar x
  have hg : 0 ≤ nI h ∧ nI h ≤ F 193 - 1 := by rw [hn]; exact (v_has (by omega)).mpr ⟨h, hh, rfl⟩
  refine V_aload_n (q := 1) dX5_manager_0 rfl rfl ?_
  refine V_getR (q := 4) (n := 3) 0 1 kf_X5_19 (by decide) (by decide) rfl (by decide) dX5_manager_1 rfl ?_
  refine V_iload_n (q := 5) dX5_manager_4 rfl rfl ?_
  refine V_cV1I (q := 8) (o := 3) (N := mX1_has) tX1_has hκ.big (by decide) gX1_has kl_X5_79 ki_X1_has ks_X1_has (by decide) rfl (Nat.le_of_ble_eq_true rfl) dX5_manager_5 rfl ?_
  refine V_if_eq (tgt := 22) (q := 11) dX5_manager_8 (by decide) rfl (fun c_8 => absurd c_8 (vB_n0.mpr hg)) (fun c_8 => ?_)
  refine V_aload_n (q := 12) dX5_manager_11 rfl rfl ?_
  refine V_getR (q := 15) (n := 4) 0 2 kf_X5_26 (by decide) (by decide) rfl (by decide) dX5_manager_12 rfl ?_
  refine V_iload_n (q := 16) dX5_manager_15 rfl rfl ?_
  refine V_cV1I (q := 19) (o := 4) (N := mX2_greatestOwner) (tX2_greatestOwner (by omega)) hκ.big (by decide) gX2_greatestOwner kl_X5_112 ki_X2_greatestOwner ks_X2_greatestOwner (by decide) rfl (Nat.le_of_ble_eq_true rfl) dX5_manager_16 rfl ?_
  refine V_goto (q := 23) dX5_manager_19 (by decide) ?_
  exact V_iret hκ rfl rfl dX5_manager_23 vEq.rf
abbrev pxOk (a b c d m : Int32) : Prop := (0 ≤ a ∧ a ≤ 999) ∧ (0 ≤ b ∧ b ≤ 999) ∧ ¬ b < a ∧ (1 ≤ c ∧ c ≤ 99) ∧ (1 ≤ d ∧ d ≤ 99) ∧ ¬ d < c ∧ (0 ≤ m ∧ m ≤ 9)
theorem tX5_paper0 {F : vFt} {Ar : vAt} {x : vXt} {a b c d m : Int32} (hb : ¬ pxOk a b c d m) : C0 mX5_paper 22 [.ref 0, .int a, .int b, .int c, .int d, .int m] F Ar x (vEq (some (.int (-1))) F Ar) := by
  refine C0_of (by decide +kernel) (Nat.le_of_ble_eq_true rfl) (fun κ hκ => ?_)
  show V κ mX5_paper 0 [.ref 0, .int a, .int b, .int c, .int d, .int m] [] F Ar x
  refine V_iload_n (q := 1) dX5_paper_0 rfl rfl ?_
  refine V_cS1I (q := 4) (N := mX5_isDay) tX5_isDay hκ.big (by decide) gX5_isDay kl_X5_48 kt_X5_isDay (Nat.le_of_ble_eq_true rfl) dX5_paper_1 rfl ?_
  refine V_if_eq (tgt := 51) (q := 7) dX5_paper_4 (by decide) rfl (fun c_4 => ?_) (fun c_4 => ?_)
  · refine V_iconst (q := 52) (v := (-1)) dX5_paper_51 (by decide) rfl ?_
    exact V_iret hκ rfl rfl dX5_paper_52 vEq.rf
  · refine V_iload_n (q := 8) dX5_paper_7 rfl rfl ?_
    refine V_cS1I (q := 11) (N := mX5_isDay) tX5_isDay hκ.big (by decide) gX5_isDay kl_X5_48 kt_X5_isDay (Nat.le_of_ble_eq_true rfl) dX5_paper_8 rfl ?_
    refine V_if_eq (tgt := 51) (q := 14) dX5_paper_11 (by decide) rfl (fun c_11 => ?_) (fun c_11 => ?_)
    · refine V_iconst (q := 52) (v := (-1)) dX5_paper_51 (by decide) rfl ?_
      exact V_iret hκ rfl rfl dX5_paper_52 vEq.rf
    · refine V_iload_n (q := 15) dX5_paper_14 rfl rfl ?_
      refine V_iload_n (q := 16) dX5_paper_15 rfl rfl ?_
      refine V_icmp_gt (tgt := 51) (q := 19) dX5_paper_16 (by decide) rfl (fun c_16 => ?_) (fun c_16 => ?_)
      · refine V_iconst (q := 52) (v := (-1)) dX5_paper_51 (by decide) rfl ?_
        exact V_iret hκ rfl rfl dX5_paper_52 vEq.rf
      · refine V_iload_n (q := 20) dX5_paper_19 rfl rfl ?_
        refine V_cS1I (q := 23) (N := mX5_isMeasure) tX5_isMeasure hκ.big (by decide) gX5_isMeasure kl_X5_118 kt_X5_isMeasure (Nat.le_of_ble_eq_true rfl) dX5_paper_20 rfl ?_
        refine V_if_eq (tgt := 51) (q := 26) dX5_paper_23 (by decide) rfl (fun c_23 => ?_) (fun c_23 => ?_)
        · refine V_iconst (q := 52) (v := (-1)) dX5_paper_51 (by decide) rfl ?_
          exact V_iret hκ rfl rfl dX5_paper_52 vEq.rf
        · refine V_iload (q := 28) dX5_paper_26 rfl rfl ?_
          refine V_cS1I (q := 31) (N := mX5_isMeasure) tX5_isMeasure hκ.big (by decide) gX5_isMeasure kl_X5_118 kt_X5_isMeasure (Nat.le_of_ble_eq_true rfl) dX5_paper_28 rfl ?_
          refine V_if_eq (tgt := 51) (q := 34) dX5_paper_31 (by decide) rfl (fun c_31 => ?_) (fun c_31 => ?_)
          · refine V_iconst (q := 52) (v := (-1)) dX5_paper_51 (by decide) rfl ?_
            exact V_iret hκ rfl rfl dX5_paper_52 vEq.rf
          · refine V_iload_n (q := 35) dX5_paper_34 rfl rfl ?_
            refine V_iload (q := 37) dX5_paper_35 rfl rfl ?_
            refine V_icmp_gt (tgt := 51) (q := 40) dX5_paper_37 (by decide) rfl (fun c_37 => ?_) (fun c_37 => ?_)
            · refine V_iconst (q := 52) (v := (-1)) dX5_paper_51 (by decide) rfl ?_
              exact V_iret hκ rfl rfl dX5_paper_52 vEq.rf
            · refine V_iload (q := 42) dX5_paper_40 rfl rfl ?_
              refine V_iconst (q := 43) (v := 0) dX5_paper_42 (by decide) rfl ?_
              refine V_bipush (q := 45) (v := 9) dX5_paper_43 (by decide) rfl ?_
              refine V_cS3I (q := 48) (N := mX5_isWithin) tX5_isWithin hκ.big (by decide) gX5_isWithin kl_X5_67 kt_X5_isWithin (Nat.le_of_ble_eq_true rfl) dX5_paper_45 rfl ?_
              refine V_if_ne (tgt := 53) (q := 51) dX5_paper_48 (by decide) rfl (fun c_48 => absurd ⟨vB_n0.mp c_4, vB_n0.mp c_11, c_16, vB_n0.mp c_23, vB_n0.mp c_31, c_37, vB_n0.mp c_48⟩ hb) (fun c_48 => ?_)
              refine V_iconst (q := 52) (v := (-1)) dX5_paper_51 (by decide) rfl ?_
              exact V_iret hκ rfl rfl dX5_paper_52 vEq.rf
theorem paddQ_int {n : Nat} {a b c d m : Int32} {F : vFt} {Ar : vAt} {r : Option Value} {F' : vFt} {Ar' : vAt} (h : paddQ n a b c d m F Ar r F' Ar') : ∃ z, r = some (.int z) := by
  unfold paddQ at h
  split at h
  · exact ⟨_, h.1⟩
  · exact ⟨_, h.1⟩
theorem hearQ_int {n w a b : Nat} {yes : Bool} {F : vFt} {Ar : vAt} {r : Option Value} {F' : vFt} {Ar' : vAt} (h : hearQ n w a b yes F Ar r F' Ar') : ∃ z, r = some (.int z) := by
  unfold hearQ at h
  split at h
  · exact ⟨_, h.1⟩
  · split at h
    · exact ⟨_, h.1⟩
    · exact ⟨_, h.1⟩
theorem tX5_paper1 {F : vFt} {Ar : vAt} {x : vXt} {n : Nat} {a b c d m : Int32} (hg : pxOk a b c d m) (hF : F 325 = nI n) (hn8 : n ≤ 8) : C0 mX5_paper 22 [.ref 0, .int a, .int b, .int c, .int d, .int m] F Ar x (paddQ n a b c d m F Ar) := by
  refine C0_of (by decide +kernel) (Nat.le_of_ble_eq_true rfl) (fun κ hκ => ?_)
  show V κ mX5_paper 0 [.ref 0, .int a, .int b, .int c, .int d, .int m] [] F Ar x
  refine V_iload_n (q := 1) dX5_paper_0 rfl rfl ?_
  refine V_cS1I (q := 4) (N := mX5_isDay) tX5_isDay hκ.big (by decide) gX5_isDay kl_X5_48 kt_X5_isDay (Nat.le_of_ble_eq_true rfl) dX5_paper_1 rfl ?_
  refine V_if_eq (tgt := 51) (q := 7) dX5_paper_4 (by decide) rfl (fun c_4 => absurd c_4 (vB_n0.mpr hg.1)) (fun c_4 => ?_)
  refine V_iload_n (q := 8) dX5_paper_7 rfl rfl ?_
  refine V_cS1I (q := 11) (N := mX5_isDay) tX5_isDay hκ.big (by decide) gX5_isDay kl_X5_48 kt_X5_isDay (Nat.le_of_ble_eq_true rfl) dX5_paper_8 rfl ?_
  refine V_if_eq (tgt := 51) (q := 14) dX5_paper_11 (by decide) rfl (fun c_11 => absurd c_11 (vB_n0.mpr hg.2.1)) (fun c_11 => ?_)
  refine V_iload_n (q := 15) dX5_paper_14 rfl rfl ?_
  refine V_iload_n (q := 16) dX5_paper_15 rfl rfl ?_
  refine V_icmp_gt (tgt := 51) (q := 19) dX5_paper_16 (by decide) rfl (fun c_16 => absurd c_16 hg.2.2.1) (fun c_16 => ?_)
  refine V_iload_n (q := 20) dX5_paper_19 rfl rfl ?_
  refine V_cS1I (q := 23) (N := mX5_isMeasure) tX5_isMeasure hκ.big (by decide) gX5_isMeasure kl_X5_118 kt_X5_isMeasure (Nat.le_of_ble_eq_true rfl) dX5_paper_20 rfl ?_
  refine V_if_eq (tgt := 51) (q := 26) dX5_paper_23 (by decide) rfl (fun c_23 => absurd c_23 (vB_n0.mpr hg.2.2.2.1)) (fun c_23 => ?_)
  refine V_iload (q := 28) dX5_paper_26 rfl rfl ?_
  refine V_cS1I (q := 31) (N := mX5_isMeasure) tX5_isMeasure hκ.big (by decide) gX5_isMeasure kl_X5_118 kt_X5_isMeasure (Nat.le_of_ble_eq_true rfl) dX5_paper_28 rfl ?_
  refine V_if_eq (tgt := 51) (q := 34) dX5_paper_31 (by decide) rfl (fun c_31 => absurd c_31 (vB_n0.mpr hg.2.2.2.2.1)) (fun c_31 => ?_)
  refine V_iload_n (q := 35) dX5_paper_34 rfl rfl ?_
  refine V_iload (q := 37) dX5_paper_35 rfl rfl ?_
  refine V_icmp_gt (tgt := 51) (q := 40) dX5_paper_37 (by decide) rfl (fun c_37 => absurd c_37 hg.2.2.2.2.2.1) (fun c_37 => ?_)
  refine V_iload (q := 42) dX5_paper_40 rfl rfl ?_
  refine V_iconst (q := 43) (v := 0) dX5_paper_42 (by decide) rfl ?_
  refine V_bipush (q := 45) (v := 9) dX5_paper_43 (by decide) rfl ?_
  refine V_cS3I (q := 48) (N := mX5_isWithin) tX5_isWithin hκ.big (by decide) gX5_isWithin kl_X5_67 kt_X5_isWithin (Nat.le_of_ble_eq_true rfl) dX5_paper_45 rfl ?_
  refine V_if_ne (tgt := 53) (q := 51) dX5_paper_48 (by decide) rfl (fun c_48 => ?_) (fun c_48 => absurd c_48 (vB_n0.mpr hg.2.2.2.2.2.2))
  refine V_aload_n (q := 54) dX5_paper_53 rfl rfl ?_
  refine V_getR (q := 57) (n := 5) 0 3 kf_X5_33 (by decide) (by decide) rfl (by decide) dX5_paper_54 rfl ?_
  refine V_iload_n (q := 58) dX5_paper_57 rfl rfl ?_
  refine V_iload_n (q := 59) dX5_paper_58 rfl rfl ?_
  refine V_iload_n (q := 60) dX5_paper_59 rfl rfl ?_
  refine V_iload (q := 62) dX5_paper_60 rfl rfl ?_
  refine V_iload (q := 64) dX5_paper_62 rfl rfl ?_
  refine V_cV5 (q := 67) (o := 5) (N := mX3_add) (tX3_add hF hn8) hκ.big (by decide) gX3_add kl_X5_121 ki_X3_add ks_X3_add (by decide) rfl (Nat.le_of_ble_eq_true rfl) dX5_paper_64 rfl (fun r F9 Ar9 h9 => ?_)
  have h10 := h9
  obtain ⟨z, rfl⟩ := paddQ_int h9
  show V κ mX5_paper 67 [.ref 0, .int a, .int b, .int c, .int d, .int m] [.int z] _ _ x
  exact V_iret hκ rfl rfl dX5_paper_67 h10
theorem tX5_witness0 {F : vFt} {Ar : vAt} {x : vXt} {a b : Int32} {yes : Bool} (hb : ¬ ((0 ≤ a ∧ a ≤ F 325 - 1) ∧ (0 ≤ b ∧ b ≤ F 325 - 1) ∧ ¬ a = b)) : C0 mX5_witness 22 [.ref 0, .int a, .int b, .int (if yes then 1 else 0)] F Ar x (vEq (some (.int (-1))) F Ar) := by
  refine C0_of (by decide +kernel) (Nat.le_of_ble_eq_true rfl) (fun κ hκ => ?_)
  show V κ mX5_witness 0 [.ref 0, .int a, .int b, .int (if yes then 1 else 0)] [] F Ar x
  refine V_aload_n (q := 1) dX5_witness_0 rfl rfl ?_
  refine V_getR (q := 4) (n := 5) 0 3 kf_X5_33 (by decide) (by decide) rfl (by decide) dX5_witness_1 rfl ?_
  refine V_iload_n (q := 5) dX5_witness_4 rfl rfl ?_
  refine V_iload_n (q := 6) dX5_witness_5 rfl rfl ?_
  refine V_cV2I (q := 9) (o := 5) (N := mX3_areTwo) tX3_areTwo hκ.big (by decide) gX3_areTwo kl_X5_123 ki_X3_areTwo ks_X3_areTwo (by decide) rfl (Nat.le_of_ble_eq_true rfl) dX5_witness_6 rfl ?_
  refine V_if_eq (tgt := 25) (q := 12) dX5_witness_9 (by decide) rfl (fun c_9 => ?_) (fun c_9 => absurd (vB_n0.mp c_9) hb)
  refine V_iconst (q := 26) (v := (-1)) dX5_witness_25 (by decide) rfl ?_
  exact V_iret hκ rfl rfl dX5_witness_26 vEq.rf
theorem tX5_witness1 {F : vFt} {Ar : vAt} {x : vXt} {n w a b : Nat} {yes : Bool} (hF : F 325 = nI n) (hn8 : n ≤ 8) (hw : F 328 = nI w) (hw6 : w ≤ 6) (ha : a < n) (hb : b < n) (hab : a ≠ b) : C0 mX5_witness 22 [.ref 0, .int (nI a), .int (nI b), .int (if yes then 1 else 0)] F Ar x (hearQ n w a b yes F Ar) := by
  refine C0_of (by decide +kernel) (Nat.le_of_ble_eq_true rfl) (fun κ hκ => ?_)
  show V κ mX5_witness 0 [.ref 0, .int (nI a), .int (nI b), .int (if yes then 1 else 0)] [] F Ar x
  have g1 : 0 ≤ nI a ∧ nI a ≤ F 325 - 1 := by rw [hF]; exact (v_has (by omega)).mpr ⟨a, ha, rfl⟩
  have g2 : 0 ≤ nI b ∧ nI b ≤ F 325 - 1 := by rw [hF]; exact (v_has (by omega)).mpr ⟨b, hb, rfl⟩
  have g3 : ¬ nI a = nI b := fun q => hab ((nI_eq (by omega) (by omega)).mp q)
  refine V_aload_n (q := 1) dX5_witness_0 rfl rfl ?_
  refine V_getR (q := 4) (n := 5) 0 3 kf_X5_33 (by decide) (by decide) rfl (by decide) dX5_witness_1 rfl ?_
  refine V_iload_n (q := 5) dX5_witness_4 rfl rfl ?_
  refine V_iload_n (q := 6) dX5_witness_5 rfl rfl ?_
  refine V_cV2I (q := 9) (o := 5) (N := mX3_areTwo) tX3_areTwo hκ.big (by decide) gX3_areTwo kl_X5_123 ki_X3_areTwo ks_X3_areTwo (by decide) rfl (Nat.le_of_ble_eq_true rfl) dX5_witness_6 rfl ?_
  refine V_if_eq (tgt := 25) (q := 12) dX5_witness_9 (by decide) rfl (fun c_9 => absurd c_9 (vB_n0.mpr ⟨g1, g2, g3⟩)) (fun c_9 => ?_)
  refine V_aload_n (q := 13) dX5_witness_12 rfl rfl ?_
  refine V_getR (q := 16) (n := 5) 0 3 kf_X5_33 (by decide) (by decide) rfl (by decide) dX5_witness_13 rfl ?_
  refine V_iload_n (q := 17) dX5_witness_16 rfl rfl ?_
  refine V_iload_n (q := 18) dX5_witness_17 rfl rfl ?_
  refine V_iload_n (q := 19) dX5_witness_18 rfl rfl ?_
  refine V_cV3 (q := 22) (o := 5) (N := mX3_hear) (tX3_hear hF hn8 hw hw6 ha hb hab) hκ.big (by decide) gX3_hear kl_X5_127 ki_X3_hear ks_X3_hear (by decide) rfl (Nat.le_of_ble_eq_true rfl) dX5_witness_19 rfl (fun r F9 Ar9 h9 => ?_)
  have h10 := h9
  obtain ⟨z, rfl⟩ := hearQ_int h9
  show V κ mX5_witness 22 [.ref 0, .int (nI a), .int (nI b), .int (if yes then 1 else 0)] [.int z] _ _ x
  refine V_goto (q := 26) dX5_witness_22 (by decide) ?_
  exact V_iret hκ rfl rfl dX5_witness_26 h10
theorem tX5_alike0 {F : vFt} {Ar : vAt} {x : vXt} {a b : Int32} (hb : ¬ ((0 ≤ a ∧ a ≤ F 325 - 1) ∧ (0 ≤ b ∧ b ≤ F 325 - 1) ∧ ¬ a = b)) : C0 mX5_alike 3 [.ref 0, .int a, .int b] F Ar x (vEq (some (.int (-1))) F Ar) := by
  refine C0_of (by decide +kernel) (Nat.le_of_ble_eq_true rfl) (fun κ hκ => ?_)
  show V κ mX5_alike 0 [.ref 0, .int a, .int b] [] F Ar x
  refine V_aload_n (q := 1) dX5_alike_0 rfl rfl ?_
  refine V_getR (q := 4) (n := 5) 0 3 kf_X5_33 (by decide) (by decide) rfl (by decide) dX5_alike_1 rfl ?_
  refine V_iload_n (q := 5) dX5_alike_4 rfl rfl ?_
  refine V_iload_n (q := 6) dX5_alike_5 rfl rfl ?_
  refine V_cV2I (q := 9) (o := 5) (N := mX3_areTwo) tX3_areTwo hκ.big (by decide) gX3_areTwo kl_X5_123 ki_X3_areTwo ks_X3_areTwo (by decide) rfl (Nat.le_of_ble_eq_true rfl) dX5_alike_6 rfl ?_
  refine V_if_ne (tgt := 14) (q := 12) dX5_alike_9 (by decide) rfl (fun c_9 => absurd (vB_n0.mp c_9) hb) (fun c_9 => ?_)
  refine V_iconst (q := 13) (v := (-1)) dX5_alike_12 (by decide) rfl ?_
  exact V_iret hκ rfl rfl dX5_alike_13 vEq.rf
theorem tX5_alike1 {F : vFt} {Ar : vAt} {x : vXt} {n a b : Nat} (hF : F 325 = nI n) (hn8 : n ≤ 8) (ha : a < n) (hb : b < n) (hab : a ≠ b) : C0 mX5_alike 3 [.ref 0, .int (nI a), .int (nI b)] F Ar x (vEq (some (.int (vB (bitI (Ar 36 a) b = true)))) F Ar) := by
  refine C0_of (by decide +kernel) (Nat.le_of_ble_eq_true rfl) (fun κ hκ => ?_)
  show V κ mX5_alike 0 [.ref 0, .int (nI a), .int (nI b)] [] F Ar x
  have g1 : 0 ≤ nI a ∧ nI a ≤ F 325 - 1 := by rw [hF]; exact (v_has (by omega)).mpr ⟨a, ha, rfl⟩
  have g2 : 0 ≤ nI b ∧ nI b ≤ F 325 - 1 := by rw [hF]; exact (v_has (by omega)).mpr ⟨b, hb, rfl⟩
  have g3 : ¬ nI a = nI b := fun q => hab ((nI_eq (by omega) (by omega)).mp q)
  refine V_aload_n (q := 1) dX5_alike_0 rfl rfl ?_
  refine V_getR (q := 4) (n := 5) 0 3 kf_X5_33 (by decide) (by decide) rfl (by decide) dX5_alike_1 rfl ?_
  refine V_iload_n (q := 5) dX5_alike_4 rfl rfl ?_
  refine V_iload_n (q := 6) dX5_alike_5 rfl rfl ?_
  refine V_cV2I (q := 9) (o := 5) (N := mX3_areTwo) tX3_areTwo hκ.big (by decide) gX3_areTwo kl_X5_123 ki_X3_areTwo ks_X3_areTwo (by decide) rfl (Nat.le_of_ble_eq_true rfl) dX5_alike_6 rfl ?_
  refine V_if_ne (tgt := 14) (q := 12) dX5_alike_9 (by decide) rfl (fun c_9 => ?_) (fun c_9 => absurd c_9 (vB_n0.mpr ⟨g1, g2, g3⟩))
  refine V_aload_n (q := 15) dX5_alike_14 rfl rfl ?_
  refine V_getR (q := 18) (n := 5) 0 3 kf_X5_33 (by decide) (by decide) rfl (by decide) dX5_alike_15 rfl ?_
  refine V_iload_n (q := 19) dX5_alike_18 rfl rfl ?_
  refine V_iload_n (q := 20) dX5_alike_19 rfl rfl ?_
  refine V_cV2I (q := 23) (o := 5) (N := mX3_mayBeOne) (tX3_mayBeOne (by omega) (by omega)) hκ.big (by decide) gX3_mayBeOne kl_X5_131 ki_X3_mayBeOne ks_X3_mayBeOne (by decide) rfl (Nat.le_of_ble_eq_true rfl) dX5_alike_20 rfl ?_
  refine V_if_eq (tgt := 30) (q := 26) dX5_alike_23 (by decide) rfl (fun c_23 => ?_) (fun c_23 => ?_)
  · refine V_iconst (q := 31) (v := 0) dX5_alike_30 (by decide) rfl ?_
    exact V_iret hκ rfl rfl dX5_alike_31 ⟨by rw [vB_f (vB_0.mp c_23)], rfl, rfl⟩
  · refine V_iconst (q := 27) (v := 1) dX5_alike_26 (by decide) rfl ?_
    refine V_goto (q := 31) dX5_alike_27 (by decide) ?_
    exact V_iret hκ rfl rfl dX5_alike_31 ⟨by rw [vB_t (vB_n0.mp c_23)], rfl, rfl⟩
theorem tX5_group0 {F : vFt} {Ar : vAt} {x : vXt} {i : Int32} (hb : ¬ (0 ≤ i ∧ i ≤ F 325 - 1)) : C0 mX5_group 2 [.ref 0, .int i] F Ar x (vEq (some (.int (-1))) F Ar) := by
  refine C0_of (by decide +kernel) (Nat.le_of_ble_eq_true rfl) (fun κ hκ => ?_)
  show V κ mX5_group 0 [.ref 0, .int i] [] F Ar x
  refine V_aload_n (q := 1) dX5_group_0 rfl rfl ?_
  refine V_getR (q := 4) (n := 5) 0 3 kf_X5_33 (by decide) (by decide) rfl (by decide) dX5_group_1 rfl ?_
  refine V_iload_n (q := 5) dX5_group_4 rfl rfl ?_
  refine V_cV1I (q := 8) (o := 5) (N := mX3_has) tX3_has hκ.big (by decide) gX3_has kl_X5_134 ki_X3_has ks_X3_has (by decide) rfl (Nat.le_of_ble_eq_true rfl) dX5_group_5 rfl ?_
  refine V_if_eq (tgt := 22) (q := 11) dX5_group_8 (by decide) rfl (fun c_8 => ?_) (fun c_8 => absurd (vB_n0.mp c_8) hb)
  refine V_iconst (q := 23) (v := (-1)) dX5_group_22 (by decide) rfl ?_
  exact V_iret hκ rfl rfl dX5_group_23 vEq.rf
theorem tX5_group1 {F : vFt} {Ar : vAt} {x : vXt} {n a : Nat} (hF : F 325 = nI n) (hn8 : n ≤ 8) (ha : a < n) : C0 mX5_group 2 [.ref 0, .int (nI a)] F Ar x (vEq (some (.int (Ar 38 a))) F Ar) := by
  refine C0_of (by decide +kernel) (Nat.le_of_ble_eq_true rfl) (fun κ hκ => ?_)
  show V κ mX5_group 0 [.ref 0, .int (nI a)] [] F Ar x
  have g1 : 0 ≤ nI a ∧ nI a ≤ F 325 - 1 := by rw [hF]; exact (v_has (by omega)).mpr ⟨a, ha, rfl⟩
  refine V_aload_n (q := 1) dX5_group_0 rfl rfl ?_
  refine V_getR (q := 4) (n := 5) 0 3 kf_X5_33 (by decide) (by decide) rfl (by decide) dX5_group_1 rfl ?_
  refine V_iload_n (q := 5) dX5_group_4 rfl rfl ?_
  refine V_cV1I (q := 8) (o := 5) (N := mX3_has) tX3_has hκ.big (by decide) gX3_has kl_X5_134 ki_X3_has ks_X3_has (by decide) rfl (Nat.le_of_ble_eq_true rfl) dX5_group_5 rfl ?_
  refine V_if_eq (tgt := 22) (q := 11) dX5_group_8 (by decide) rfl (fun c_8 => absurd c_8 (vB_n0.mpr g1)) (fun c_8 => ?_)
  refine V_aload_n (q := 12) dX5_group_11 rfl rfl ?_
  refine V_getR (q := 15) (n := 5) 0 3 kf_X5_33 (by decide) (by decide) rfl (by decide) dX5_group_12 rfl ?_
  refine V_iload_n (q := 16) dX5_group_15 rfl rfl ?_
  refine V_cV1I (q := 19) (o := 5) (N := mX3_joinedGroup) (tX3_joinedGroup (by omega)) hκ.big (by decide) gX3_joinedGroup kl_X5_135 ki_X3_joinedGroup ks_X3_joinedGroup (by decide) rfl (Nat.le_of_ble_eq_true rfl) dX5_group_16 rfl ?_
  refine V_goto (q := 23) dX5_group_19 (by decide) ?_
  exact V_iret hκ rfl rfl dX5_group_23 vEq.rf
theorem tX5_groups {F : vFt} {Ar : vAt} {x : vXt}   : C0 mX5_groups 1 [.ref 0] F Ar x (vEq (some (.int (F 331))) F Ar) := by
  refine C0_of (by decide +kernel) (Nat.le_of_ble_eq_true rfl) (fun κ hκ => ?_)
  show V κ mX5_groups 0 [.ref 0] [] F Ar x
  refine V_aload_n (q := 1) dX5_groups_0 rfl rfl ?_
  refine V_getR (q := 4) (n := 5) 0 3 kf_X5_33 (by decide) (by decide) rfl (by decide) dX5_groups_1 rfl ?_
  refine V_cV0I (q := 7) (o := 5) (N := mX3_joinedGroups) tX3_joinedGroups hκ.big (by decide) gX3_joinedGroups kl_X5_138 ki_X3_joinedGroups ks_X3_joinedGroups (by decide) rfl (Nat.le_of_ble_eq_true rfl) dX5_groups_4 rfl ?_
  exact V_iret hκ rfl rfl dX5_groups_7 vEq.rf
def cmV (F : vFt) (Ar : vAt) (n : Nat) (w : Int32) : Int32 := if w = 0 then F 68 else if w = 1 then F 193 else if w = 2 then F 258 else if w = 3 then vSum (gCol (Ar 23) 5) n else if w = 4 then vSum (gCol (Ar 23) 6) n
  else if w = 5 then vSum (fun e => if Ar 24 e = 0 then 0 else 1) n else if w = 6 then F 325 else if w = 7 then F 328 else if w = 8 then F 65 else -1
theorem tX5_many {F : vFt} {Ar : vAt} {x : vXt} {n : Nat} {w : Int32} (hn : F 258 = nI n) (hn60 : n ≤ 60) : C0 mX5_many 3 [.ref 0, .int w] F Ar x (vEq (some (.int (cmV F Ar n w))) F Ar) := by
  refine C0_of (by decide +kernel) (Nat.le_of_ble_eq_true rfl) (fun κ hκ => ?_)
  show V κ mX5_many 0 [.ref 0, .int w] [] F Ar x
  refine V_iload_n (q := 1) dX5_many_0 rfl rfl ?_
  by_cases e_1_0 : w = 0
  · refine V_tableIn (q := 52) (off := 51) dX5_many_1 (by rw [e_1_0]; decide) (by rw [e_1_0]; decide) (by rw [e_1_0]; decide) (by decide) ?_
    refine V_aload_n (q := 53) dX5_many_52 rfl rfl ?_
    refine V_getR (q := 56) (n := 1) 0 0 kf_X5_10 (by decide) (by decide) rfl (by decide) dX5_many_53 rfl ?_
    refine V_cV0I (q := 59) (o := 1) (N := mX0_size) tX0_size hκ.big (by decide) gX0_size kl_X5_141 ki_X0_size ks_X0_size (by decide) rfl (Nat.le_of_ble_eq_true rfl) dX5_many_56 rfl ?_
    exact V_iret hκ rfl rfl dX5_many_59 ⟨by unfold cmV; rw [if_pos e_1_0], rfl, rfl⟩
  by_cases e_1_1 : w = 1
  · refine V_tableIn (q := 60) (off := 59) dX5_many_1 (by rw [e_1_1]; decide) (by rw [e_1_1]; decide) (by rw [e_1_1]; decide) (by decide) ?_
    refine V_aload_n (q := 61) dX5_many_60 rfl rfl ?_
    refine V_getR (q := 64) (n := 3) 0 1 kf_X5_19 (by decide) (by decide) rfl (by decide) dX5_many_61 rfl ?_
    refine V_cV0I (q := 67) (o := 3) (N := mX1_size) tX1_size hκ.big (by decide) gX1_size kl_X5_144 ki_X1_size ks_X1_size (by decide) rfl (Nat.le_of_ble_eq_true rfl) dX5_many_64 rfl ?_
    exact V_iret hκ rfl rfl dX5_many_67 ⟨by unfold cmV; rw [if_neg e_1_0]; rw [if_pos e_1_1], rfl, rfl⟩
  by_cases e_1_2 : w = 2
  · refine V_tableIn (q := 68) (off := 67) dX5_many_1 (by rw [e_1_2]; decide) (by rw [e_1_2]; decide) (by rw [e_1_2]; decide) (by decide) ?_
    refine V_aload_n (q := 69) dX5_many_68 rfl rfl ?_
    refine V_getR (q := 72) (n := 4) 0 2 kf_X5_26 (by decide) (by decide) rfl (by decide) dX5_many_69 rfl ?_
    refine V_cV0I (q := 75) (o := 4) (N := mX2_size) tX2_size hκ.big (by decide) gX2_size kl_X5_145 ki_X2_size ks_X2_size (by decide) rfl (Nat.le_of_ble_eq_true rfl) dX5_many_72 rfl ?_
    exact V_iret hκ rfl rfl dX5_many_75 ⟨by unfold cmV; rw [if_neg e_1_0]; rw [if_neg e_1_1]; rw [if_pos e_1_2], rfl, rfl⟩
  by_cases e_1_3 : w = 3
  · refine V_tableIn (q := 76) (off := 75) dX5_many_1 (by rw [e_1_3]; decide) (by rw [e_1_3]; decide) (by rw [e_1_3]; decide) (by decide) ?_
    refine V_aload_n (q := 77) dX5_many_76 rfl rfl ?_
    refine V_getR (q := 80) (n := 4) 0 2 kf_X5_26 (by decide) (by decide) rfl (by decide) dX5_many_77 rfl ?_
    refine V_cV0I (q := 83) (o := 4) (N := mX2_forgedEntries) (tX2_forgedEntries hn hn60) hκ.big (by decide) gX2_forgedEntries kl_X5_146 ki_X2_forgedEntries ks_X2_forgedEntries (by decide) rfl (Nat.le_of_ble_eq_true rfl) dX5_many_80 rfl ?_
    exact V_iret hκ rfl rfl dX5_many_83 ⟨by unfold cmV; rw [if_neg e_1_0]; rw [if_neg e_1_1]; rw [if_neg e_1_2]; rw [if_pos e_1_3], rfl, rfl⟩
  by_cases e_1_4 : w = 4
  · refine V_tableIn (q := 84) (off := 83) dX5_many_1 (by rw [e_1_4]; decide) (by rw [e_1_4]; decide) (by rw [e_1_4]; decide) (by decide) ?_
    refine V_aload_n (q := 85) dX5_many_84 rfl rfl ?_
    refine V_getR (q := 88) (n := 4) 0 2 kf_X5_26 (by decide) (by decide) rfl (by decide) dX5_many_85 rfl ?_
    refine V_cV0I (q := 91) (o := 4) (N := mX2_voidEntries) (tX2_voidEntries hn hn60) hκ.big (by decide) gX2_voidEntries kl_X5_149 ki_X2_voidEntries ks_X2_voidEntries (by decide) rfl (Nat.le_of_ble_eq_true rfl) dX5_many_88 rfl ?_
    exact V_iret hκ rfl rfl dX5_many_91 ⟨by unfold cmV; rw [if_neg e_1_0]; rw [if_neg e_1_1]; rw [if_neg e_1_2]; rw [if_neg e_1_3]; rw [if_pos e_1_4], rfl, rfl⟩
  by_cases e_1_5 : w = 5
  · refine V_tableIn (q := 92) (off := 91) dX5_many_1 (by rw [e_1_5]; decide) (by rw [e_1_5]; decide) (by rw [e_1_5]; decide) (by decide) ?_
    refine V_aload_n (q := 93) dX5_many_92 rfl rfl ?_
    refine V_getR (q := 96) (n := 4) 0 2 kf_X5_26 (by decide) (by decide) rfl (by decide) dX5_many_93 rfl ?_
    refine V_cV0I (q := 99) (o := 4) (N := mX2_standingPledges) (tX2_standingPledges hn hn60) hκ.big (by decide) gX2_standingPledges kl_X5_152 ki_X2_standingPledges ks_X2_standingPledges (by decide) rfl (Nat.le_of_ble_eq_true rfl) dX5_many_96 rfl ?_
    exact V_iret hκ rfl rfl dX5_many_99 ⟨by unfold cmV; rw [if_neg e_1_0]; rw [if_neg e_1_1]; rw [if_neg e_1_2]; rw [if_neg e_1_3]; rw [if_neg e_1_4]; rw [if_pos e_1_5], rfl, rfl⟩
  by_cases e_1_6 : w = 6
  · refine V_tableIn (q := 100) (off := 99) dX5_many_1 (by rw [e_1_6]; decide) (by rw [e_1_6]; decide) (by rw [e_1_6]; decide) (by decide) ?_
    refine V_aload_n (q := 101) dX5_many_100 rfl rfl ?_
    refine V_getR (q := 104) (n := 5) 0 3 kf_X5_33 (by decide) (by decide) rfl (by decide) dX5_many_101 rfl ?_
    refine V_cV0I (q := 107) (o := 5) (N := mX3_size) tX3_size hκ.big (by decide) gX3_size kl_X5_155 ki_X3_size ks_X3_size (by decide) rfl (Nat.le_of_ble_eq_true rfl) dX5_many_104 rfl ?_
    exact V_iret hκ rfl rfl dX5_many_107 ⟨by unfold cmV; rw [if_neg e_1_0]; rw [if_neg e_1_1]; rw [if_neg e_1_2]; rw [if_neg e_1_3]; rw [if_neg e_1_4]; rw [if_neg e_1_5]; rw [if_pos e_1_6], rfl, rfl⟩
  by_cases e_1_7 : w = 7
  · refine V_tableIn (q := 108) (off := 107) dX5_many_1 (by rw [e_1_7]; decide) (by rw [e_1_7]; decide) (by rw [e_1_7]; decide) (by decide) ?_
    refine V_aload_n (q := 109) dX5_many_108 rfl rfl ?_
    refine V_getR (q := 112) (n := 5) 0 3 kf_X5_33 (by decide) (by decide) rfl (by decide) dX5_many_109 rfl ?_
    refine V_cV0I (q := 115) (o := 5) (N := mX3_witnesses) tX3_witnesses hκ.big (by decide) gX3_witnesses kl_X5_156 ki_X3_witnesses ks_X3_witnesses (by decide) rfl (Nat.le_of_ble_eq_true rfl) dX5_many_112 rfl ?_
    exact V_iret hκ rfl rfl dX5_many_115 ⟨by unfold cmV; rw [if_neg e_1_0]; rw [if_neg e_1_1]; rw [if_neg e_1_2]; rw [if_neg e_1_3]; rw [if_neg e_1_4]; rw [if_neg e_1_5]; rw [if_neg e_1_6]; rw [if_pos e_1_7], rfl, rfl⟩
  by_cases e_1_8 : w = 8
  · refine V_tableIn (q := 116) (off := 115) dX5_many_1 (by rw [e_1_8]; decide) (by rw [e_1_8]; decide) (by rw [e_1_8]; decide) (by decide) ?_
    refine V_aload_n (q := 117) dX5_many_116 rfl rfl ?_
    refine V_getR (q := 120) (n := 1) 0 0 kf_X5_10 (by decide) (by decide) rfl (by decide) dX5_many_117 rfl ?_
    refine V_cV0I (q := 123) (o := 1) (N := mX0_lettersFed) tX0_lettersFed hκ.big (by decide) gX0_lettersFed kl_X5_159 ki_X0_lettersFed ks_X0_lettersFed (by decide) rfl (Nat.le_of_ble_eq_true rfl) dX5_many_120 rfl ?_
    exact V_iret hκ rfl rfl dX5_many_123 ⟨by unfold cmV; rw [if_neg e_1_0]; rw [if_neg e_1_1]; rw [if_neg e_1_2]; rw [if_neg e_1_3]; rw [if_neg e_1_4]; rw [if_neg e_1_5]; rw [if_neg e_1_6]; rw [if_neg e_1_7]; rw [if_pos e_1_8], rfl, rfl⟩
  refine V_tableOut (q := 124) dX5_many_1 (by have h0 := lv_neT e_1_0 (a := 0) (by decide); have h1 := lv_neT e_1_1 (a := 1) (by decide); have h2 := lv_neT e_1_2 (a := 2) (by decide); have h3 := lv_neT e_1_3 (a := 3) (by decide); have h4 := lv_neT e_1_4 (a := 4) (by decide); have h5 := lv_neT e_1_5 (a := 5) (by decide); have h6 := lv_neT e_1_6 (a := 6) (by decide); have h7 := lv_neT e_1_7 (a := 7) (by decide); have h8 := lv_neT e_1_8 (a := 8) (by decide); omega) (by decide) ?_
  refine V_iconst (q := 125) (v := (-1)) dX5_many_124 (by decide) rfl ?_
  exact V_iret hκ rfl rfl dX5_many_125 ⟨by unfold cmV; rw [if_neg e_1_0]; rw [if_neg e_1_1]; rw [if_neg e_1_2]; rw [if_neg e_1_3]; rw [if_neg e_1_4]; rw [if_neg e_1_5]; rw [if_neg e_1_6]; rw [if_neg e_1_7]; rw [if_neg e_1_8]; skip, rfl, rfl⟩
