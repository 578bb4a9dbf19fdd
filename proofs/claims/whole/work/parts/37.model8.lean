def joQ (n w : Nat) (F : vFt) (Ar : vAt) : Option Value → vFt → vAt → Prop := fun r F' Ar' => r = some (.int (nI (jM (mL Ar w) n))) ∧ F' = F ∧ (∀ b, b ≠ 64 → b ≠ 65 → Ar' b = Ar b) ∧ ∀ i, i < n → Ar' 64 i = nI (jG (mL Ar w) n i)
theorem lp_X6_join {F : vFt} {Ar : vAt} {x : vXt} {n w : Nat} {κ : vK} (hκ : vStd κ 4 x (joQ n w F Ar)) (hF : F 403 = nI n) (hn1 : 1 ≤ n) (hn8 : n ≤ 8) (hw : F 405 = nI w) (hw6 : w ≤ 6) (hy : mYes Ar w) : ∀ m most (Ar' : vAt), most + m = n + 1 → 1 ≤ most → (∀ b, b ≠ 64 → b ≠ 65 → Ar' b = Ar b) → jnd (mL Ar w) n 1 n = jnd (mL Ar w) n most m → V κ mX6_join 13 [.ref 6, .int (nI most)] [] F Ar' x := by
  intro m
  induction m with
  | zero =>
    intro most Ar' hm h1 hfr hres
    have := jnd_ex (L := mL Ar w) (n := n) n 1 (by omega) (by omega)
    rw [hres] at this
    cases this
  | succ m ih =>
    intro most Ar' hm h1 hfr hres
    have hL : mL Ar' w = mL Ar w := mL_congr (hfr 56 (by decide) (by decide)) (hfr 57 (by decide) (by decide)) (hfr 58 (by decide) (by decide)) (hfr 55 (by decide) (by decide))
    have hy2 : mYes Ar' w := fun j hj => by rw [hfr 58 (by decide) (by decide)]; exact hy j hj
    refine V_aload_n (q := 14) dX6_join_13 rfl rfl ?_
    refine V_getI (q := 17) (n := 403) 6 19 kf_X6_184 (by decide) (by decide) rfl rfl dX6_join_14 rfl ?_
    rw [hF]
    refine V_if_le (tgt := 34) (q := 20) dX6_join_17 (by decide) rfl (fun c_17 => absurd c_17 (nI_nle (by omega) (by omega))) (fun c_17 => ?_)
    refine V_aload_n (q := 21) dX6_join_20 rfl rfl ?_
    refine V_iload_n (q := 22) dX6_join_21 rfl rfl ?_
    refine V_cV1 (q := 25) (o := 6) (N := mX6_findJoining) (tX6_findJoining hF hn8 h1 (by omega) hw hw6 hy2) hκ.big (by decide) gX6_findJoining kl_X6_204 ki_X6_findJoining ks_X6_findJoining (by decide) rfl (Nat.le_of_ble_eq_true rfl) dX6_join_22 rfl (fun r F9 Ar9 h9 => ?_)
    obtain ⟨rfl, hfr9, hres9⟩ := h9
    rw [hL] at hres9
    cases hs : srch (mL Ar w) most n 0 0 (fun _ => 0) with
    | none =>
      rw [hs] at hres9
      obtain rfl := hres9
      show V κ mX6_join 25 [.ref 6, .int (nI most)] [.int 0] _ _ x
      refine V_if_ne (tgt := 34) (q := 28) dX6_join_25 (by decide) rfl (fun c_25 => absurd rfl c_25) (fun c_25 => ?_)
      refine V_iincN (q := 31) dX6_join_28 rfl (Nat.le_of_ble_eq_true rfl) rfl rfl ?_
      refine V_goto (q := 13) dX6_join_31 (by decide) ?_
      exact ih (most + 1) Ar9 (by omega) (by omega) (fun b h1 h2 => by rw [hfr9 b h1 h2, hfr b h1 h2]) (by rw [hres, jnd, hs])
    | some g' =>
      rw [hs] at hres9
      obtain ⟨rfl, hg9⟩ := hres9
      have hj : jnd (mL Ar w) n 1 n = some (most, g') := by rw [hres, jnd, hs]
      have hj1 : jM (mL Ar w) n = most := by unfold jM; rw [hj]; rfl
      have hj2 : jG (mL Ar w) n = g' := by unfold jG; rw [hj]; rfl
      show V κ mX6_join 25 [.ref 6, .int (nI most)] [.int 1] _ _ x
      refine V_if_ne (tgt := 34) (q := 28) dX6_join_25 (by decide) rfl (fun c_25 => ?_) (fun c_25 => absurd c_25 (by decide))
      refine V_iload_n (q := 35) dX6_join_34 rfl rfl ?_
      exact V_iret hκ rfl rfl dX6_join_35 ⟨by rw [hj1], rfl, fun b h1 h2 => by rw [hfr9 b h1 h2, hfr b h1 h2], fun i hi => by rw [hg9 i hi, hj2]⟩
    
theorem tX6_join {F : vFt} {Ar : vAt} {x : vXt} {n w : Nat} (hF : F 403 = nI n) (hn1 : 1 ≤ n) (hn8 : n ≤ 8) (hw : F 405 = nI w) (hw6 : w ≤ 6) (hy : mYes Ar w) : C0 mX6_join 4 [.ref 6] F Ar x (joQ n w F Ar) := by
  refine C0_of (by decide +kernel) (Nat.le_of_ble_eq_true rfl) (fun κ hκ => ?_)
  show V κ mX6_join 0 [.ref 6, .null] [] F Ar x
  refine V_aload_n (q := 1) dX6_join_0 rfl rfl ?_
  refine V_getI (q := 4) (n := 403) 6 19 kf_X6_184 (by decide) (by decide) rfl rfl dX6_join_1 rfl ?_
  rw [hF]
  refine V_if_ne (tgt := 11) (q := 7) dX6_join_4 (by decide) rfl (fun c_4 => ?_) (fun c_4 => absurd c_4 (nI_ne0 (by omega) (by omega)))
  refine V_iconst (q := 12) (v := 1) dX6_join_11 (by decide) rfl ?_
  refine V_istore_n (q := 13) dX6_join_12 (Nat.le_of_ble_eq_true rfl) rfl rfl ?_
  exact lp_X6_join hκ hF hn1 hn8 hw hw6 hy n 1 Ar (by omega) (Nat.le_refl 1) (fun _ _ _ => rfl) rfl
theorem tX6_join0 {F : vFt} {Ar : vAt} {x : vXt}  (hF : F 403 = 0) : C0 mX6_join 4 [.ref 6] F Ar x (vEq (some (.int 0)) F Ar) := by
  refine C0_of (by decide +kernel) (Nat.le_of_ble_eq_true rfl) (fun κ hκ => ?_)
  show V κ mX6_join 0 [.ref 6, .null] [] F Ar x
  refine V_aload_n (q := 1) dX6_join_0 rfl rfl ?_
  refine V_getI (q := 4) (n := 403) 6 19 kf_X6_184 (by decide) (by decide) rfl rfl dX6_join_1 rfl ?_
  rw [hF]
  refine V_if_ne (tgt := 11) (q := 7) dX6_join_4 (by decide) rfl (fun c_4 => absurd rfl c_4) (fun c_4 => ?_)
  refine V_iconst (q := 8) (v := 0) dX6_join_7 (by decide) rfl ?_
  refine V_goto (q := 12) dX6_join_8 (by decide) ?_
  refine V_istore_n (q := 13) dX6_join_12 (Nat.le_of_ble_eq_true rfl) rfl rfl ?_
  refine V_aload_n (q := 14) dX6_join_13 rfl rfl ?_
  refine V_getI (q := 17) (n := 403) 6 19 kf_X6_184 (by decide) (by decide) rfl rfl dX6_join_14 rfl ?_
  rw [hF]
  refine V_if_le (tgt := 34) (q := 20) dX6_join_17 (by decide) rfl (fun c_17 => ?_) (fun c_17 => absurd (by decide : (0 : Int32) ≤ 0) c_17)
  refine V_iload_n (q := 35) dX6_join_34 rfl rfl ?_
  exact V_iret hκ rfl rfl dX6_join_35 vEq.rf
theorem tX6_groups {F : vFt} {Ar : vAt} {x : vXt} {n w : Nat} (hF : F 403 = nI n) (hn1 : 1 ≤ n) (hn8 : n ≤ 8) (hw : F 405 = nI w) (hw6 : w ≤ 6) (hy : mYes Ar w) : C0 mX6_groups 5 [.ref 6] F Ar x (joQ n w F Ar) := by
  refine C0_of (by decide +kernel) (Nat.le_of_ble_eq_true rfl) (fun κ hκ => ?_)
  show V κ mX6_groups 0 [.ref 6] [] F Ar x
  refine V_aload_n (q := 1) dX6_groups_0 rfl rfl ?_
  refine V_cV0 (q := 4) (o := 6) (N := mX6_join) (tX6_join hF hn1 hn8 hw hw6 hy) hκ.big (by decide) gX6_join kl_X6_207 ki_X6_join ks_X6_join (by decide) rfl (Nat.le_of_ble_eq_true rfl) dX6_groups_1 rfl (fun r F9 Ar9 h9 => ?_)
  have h10 := h9
  obtain ⟨rfl, -⟩ := h9
  show V κ mX6_groups 4 [.ref 6] [.int (nI (jM (mL Ar w) n))] _ _ x
  exact V_iret hκ rfl rfl dX6_groups_4 h10
theorem tX6_groups0 {F : vFt} {Ar : vAt} {x : vXt}  (hF : F 403 = 0) : C0 mX6_groups 5 [.ref 6] F Ar x (vEq (some (.int 0)) F Ar) := by
  refine C0_of (by decide +kernel) (Nat.le_of_ble_eq_true rfl) (fun κ hκ => ?_)
  show V κ mX6_groups 0 [.ref 6] [] F Ar x
  refine V_aload_n (q := 1) dX6_groups_0 rfl rfl ?_
  refine V_cV0I (q := 4) (o := 6) (N := mX6_join) (tX6_join0 hF) hκ.big (by decide) gX6_join kl_X6_207 ki_X6_join ks_X6_join (by decide) rfl (Nat.le_of_ble_eq_true rfl) dX6_groups_1 rfl ?_
  exact V_iret hκ rfl rfl dX6_groups_4 vEq.rf
theorem tX6_group0 {F : vFt} {Ar : vAt} {x : vXt} {i : Int32} (hb : ¬ (0 ≤ i ∧ i ≤ F 403 - 1)) : C0 mX6_group 5 [.ref 6, .int i] F Ar x (vEq (some (.int (-1))) F Ar) := by
  refine C0_of (by decide +kernel) (Nat.le_of_ble_eq_true rfl) (fun κ hκ => ?_)
  show V κ mX6_group 0 [.ref 6, .int i, .null] [] F Ar x
  refine V_aload_n (q := 1) dX6_group_0 rfl rfl ?_
  refine V_iload_n (q := 2) dX6_group_1 rfl rfl ?_
  refine V_cV1I (q := 5) (o := 6) (N := mX6_isPaper) tX6_isPaper hκ.big (by decide) gX6_isPaper kl_X6_190 ki_X6_isPaper ks_X6_isPaper (by decide) rfl (Nat.le_of_ble_eq_true rfl) dX6_group_2 rfl ?_
  refine V_if_ne (tgt := 10) (q := 8) dX6_group_5 (by decide) rfl (fun c_5 => absurd (vB_n0.mp c_5) hb) (fun c_5 => ?_)
  refine V_iconst (q := 9) (v := (-1)) dX6_group_8 (by decide) rfl ?_
  exact V_iret hκ rfl rfl dX6_group_9 vEq.rf
def gpQ (n w a : Nat) (F : vFt) (Ar : vAt) : Option Value → vFt → vAt → Prop := fun r F' Ar' => r = some (.int (nI (jG (mL Ar w) n a))) ∧ F' = F ∧ (∀ b, b ≠ 64 → b ≠ 65 → Ar' b = Ar b)
theorem tX6_group {F : vFt} {Ar : vAt} {x : vXt} {n w a : Nat} (hF : F 403 = nI n) (hn1 : 1 ≤ n) (hn8 : n ≤ 8) (hw : F 405 = nI w) (hw6 : w ≤ 6) (hy : mYes Ar w) (ha : a < n) : C0 mX6_group 5 [.ref 6, .int (nI a)] F Ar x (gpQ n w a F Ar) := by
  refine C0_of (by decide +kernel) (Nat.le_of_ble_eq_true rfl) (fun κ hκ => ?_)
  show V κ mX6_group 0 [.ref 6, .int (nI a), .null] [] F Ar x
  have g1 : 0 ≤ nI a ∧ nI a ≤ F 403 - 1 := by rw [hF]; exact (v_has (by omega)).mpr ⟨a, ha, rfl⟩
  refine V_aload_n (q := 1) dX6_group_0 rfl rfl ?_
  refine V_iload_n (q := 2) dX6_group_1 rfl rfl ?_
  refine V_cV1I (q := 5) (o := 6) (N := mX6_isPaper) tX6_isPaper hκ.big (by decide) gX6_isPaper kl_X6_190 ki_X6_isPaper ks_X6_isPaper (by decide) rfl (Nat.le_of_ble_eq_true rfl) dX6_group_2 rfl ?_
  refine V_if_ne (tgt := 10) (q := 8) dX6_group_5 (by decide) rfl (fun c_5 => ?_) (fun c_5 => absurd c_5 (vB_n0.mpr g1))
  refine V_aload_n (q := 11) dX6_group_10 rfl rfl ?_
  refine V_cV0 (q := 14) (o := 6) (N := mX6_join) (tX6_join hF hn1 hn8 hw hw6 hy) hκ.big (by decide) gX6_join kl_X6_207 ki_X6_join ks_X6_join (by decide) rfl (Nat.le_of_ble_eq_true rfl) dX6_group_11 rfl (fun r F9 Ar9 h9 => ?_)
  obtain ⟨rfl, rfl, hfr9, hg9⟩ := h9
  show V κ mX6_group 14 [.ref 6, .int (nI a), .null] [.int (nI (jM (mL Ar w) n))] _ _ x
  refine V_istore_n (q := 15) dX6_group_14 (Nat.le_of_ble_eq_true rfl) rfl rfl ?_
  refine V_aload_n (q := 16) dX6_group_15 rfl rfl ?_
  refine V_getR (q := 19) (n := 64) 6 31 kf_X6_83 (by decide) (by decide) rfl (by decide) dX6_group_16 rfl ?_
  refine V_iload_n (q := 20) dX6_group_19 rfl rfl ?_
  refine V_ild (q := 21) (a) 9 rfl (by omega) (by decide) (by omega) (by decide) rfl (by decide) dX6_group_20 rfl ?_
  exact V_iret hκ rfl rfl dX6_group_21 ⟨by rw [hg9 a ha], rfl, hfr9⟩
