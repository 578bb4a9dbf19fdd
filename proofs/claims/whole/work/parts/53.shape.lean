/-- the reckoner's own fields and its pile alone have changed (and the last row) -/
abbrev smF (F : vFt) : Prop := smI (F 131) ∧ smI (F 132) ∧ smI (F 133) ∧ smI (F 134)
def scF (F F' : vFt) : Prop := (∀ k, (k < 129 ∨ 134 < k) → F' k = F k) ∧ (smF F → smF F')
theorem scF_rf {F : vFt} : scF F F := ⟨fun _ _ => rfl, id⟩
theorem scF_tr {F F' F'' : vFt} (h : scF F F') (h2 : scF F' F'') : scF F F'' := ⟨fun k hk => (h2.1 k hk).trans (h.1 k hk), fun q => h2.2 (h.2 q)⟩
theorem scF_r {F : vFt} {l b d r : Int32} {s : rS} (h1 : smI l) (h2 : smI b) (h3 : smI d) (h4 : smI r) : scF F (rF (szF F l b d r) s) := by
  refine ⟨?_, fun _ => ⟨h1, h2, h3, h4⟩⟩
  intro k hk
  unfold rF szF
  rw [upd_ne (by omega), upd_ne (by omega), upd_ne (by omega), upd_ne (by omega), upd_ne (by omega), upd_ne (by omega)]
abbrev shV (i : Nat) : Int32 × Int32 × Int32 := (nI (i / 144 + 1), nI (i / 12 % 12 + 1), nI (i % 12 + 1))
/-- what the row of an act holds, if it has been made -/
def rowOk (Ar : vAt) (x : vXt) (a : Nat) (T : Nat → Int32) : Prop := (vLen (x.2 a) = 0 ∧ 9 ≤ x.2 a ∧ x.2 a < 66) ∨ (66 ≤ x.2 a ∧ ∀ i, i < 1728 → Ar (x.2 a) i = T i)
def tsQ (a : Nat) (T : Nat → Int32) (F : vFt) (Ar : vAt) (x : vXt) : Option Value → vFt → vAt → vXt → Prop := fun r F' Ar' x' => ∃ v, r = some (.ref v) ∧ 66 ≤ v ∧ v < 66 + x'.1 ∧ (∀ i, i < 1728 → Ar' v i = T i) ∧ scF F F' ∧ x.1 ≤ x'.1 ∧ (∀ b, b ≠ 21 → b < 66 + x.1 → Ar' b = Ar b) ∧ x'.2 a = v ∧ (∀ j, j ≠ a → x'.2 j = x.2 j)
theorem row_facts {v : Nat} {y : vXt} (h : 66 ≤ v) (h2 : v < 66 + y.1) : 9 ≤ v ∧ v < 66 + y.1 ∧ vTyA v = 0 ∧ vLen v = 1728 := ⟨by omega, h2, if_neg (by omega), if_neg (by omega)⟩
theorem lp_X0_shapes {F : vFt} {Ar : vAt} {x : vXt} {a : Nat} {T : Nat → Int32} {κ : vK} {ad0 : Nat → Nat} (hκ : vStd1 κ 5 ad0 x (tsQ a T F Ar x)) (ha : a < 5) (hT : ∀ i, i < 1728 → ∀ pl, tonV (nI (i / 144 + 1)) (nI (i / 12 % 12 + 1)) (nI (i % 12 + 1)) 0 (Ar (10 + a)) pl = T i) : ∀ k i (F' : vFt) (Ar' : vAt), i + k = 1728 → scF F F' → (∀ b, b ≠ 21 → b ≠ 66 + x.1 → Ar' b = Ar b) → (∀ j, j < i → Ar' (66 + x.1) j = T j) → V κ mX0_tonsOfShapes 21 [.ref 1, .int (nI a), .ref (66 + x.1), .int (nI i)] [] F' Ar' (x.1 + 1, x.2) := by
  intro k
  induction k with
  | zero =>
    intro i F' Ar' hi hF hfr hrow
    obtain rfl : i = 1728 := by omega
    refine V_iload_n (q := 22) dX0_tonsOfShapes_21 rfl rfl ?_
    refine V_sipush (q := 25) (v := 1728) dX0_tonsOfShapes_22 (by decide) rfl ?_
    refine V_icmp_ge (tgt := 55) (q := 28) dX0_tonsOfShapes_25 (by decide) rfl (fun c_25 => ?_) (fun c_25 => absurd c_25 (v_gt (i := 1728) (n := 1728) (by decide) (by decide) (Nat.le_refl _)))
    refine V_aload_n (q := 56) dX0_tonsOfShapes_55 rfl rfl ?_
    refine V_getR (q := 59) (n := 8) 1 5 kf_X0_25 (by decide) (by decide) rfl (by decide) dX0_tonsOfShapes_56 rfl ?_
    refine V_iload_n (q := 60) dX0_tonsOfShapes_59 rfl rfl ?_
    refine V_aload_n (q := 61) dX0_tonsOfShapes_60 rfl rfl ?_
    refine V_aastS (q := 62) (i := a) (v := 66 + x.1) ha (by omega) (by show 66 + x.1 < 66 + (x.1 + 1); omega) (if_neg (by omega)) dX0_tonsOfShapes_61 rfl ?_
    refine V_aload_n (q := 63) dX0_tonsOfShapes_62 rfl rfl ?_
    refine V_getR (q := 66) (n := 8) 1 5 kf_X0_25 (by decide) (by decide) rfl (by decide) dX0_tonsOfShapes_63 rfl ?_
    refine V_iload_n (q := 67) dX0_tonsOfShapes_66 rfl rfl ?_
    refine V_aaldS (q := 68) a ha dX0_tonsOfShapes_67 rfl ?_
    have e9 : updN x.2 a (66 + x.1) a = 66 + x.1 := updN_at
    refine V_aret1 hκ rfl dX0_tonsOfShapes_68 ⟨_, rfl, ?_⟩
    show 66 ≤ updN x.2 a (66 + x.1) a ∧ updN x.2 a (66 + x.1) a < 66 + (x.1 + 1) ∧ (∀ i, i < 1728 → Ar' (updN x.2 a (66 + x.1) a) i = T i) ∧ scF F F' ∧ x.1 ≤ x.1 + 1 ∧ (∀ b, b ≠ 21 → b < 66 + x.1 → Ar' b = Ar b) ∧ updN x.2 a (66 + x.1) a = updN x.2 a (66 + x.1) a ∧ (∀ j, j ≠ a → updN x.2 a (66 + x.1) j = x.2 j)
    rw [e9]
    exact ⟨by omega, by omega, hrow, hF, Nat.le_succ _, fun b h1 h2 => hfr b h1 (by omega), rfl, fun j hj => updN_ne hj⟩
  | succ k ih =>
    intro i F' Ar' hi hF hfr hrow
    refine V_iload_n (q := 22) dX0_tonsOfShapes_21 rfl rfl ?_
    refine V_sipush (q := 25) (v := 1728) dX0_tonsOfShapes_22 (by decide) rfl ?_
    refine V_icmp_ge (tgt := 55) (q := 28) dX0_tonsOfShapes_25 (by decide) rfl (fun c_25 => absurd c_25 (v_gf (n := 1728) (by omega) (by decide) (by omega))) (fun c_25 => ?_)
    refine V_aload_n (q := 29) dX0_tonsOfShapes_28 rfl rfl ?_
    refine V_iload_n (q := 30) dX0_tonsOfShapes_29 rfl rfl ?_
    refine V_aload_n (q := 31) dX0_tonsOfShapes_30 rfl rfl ?_
    refine V_iload_n (q := 32) dX0_tonsOfShapes_31 rfl rfl ?_
    refine V_iload_n (q := 33) dX0_tonsOfShapes_32 rfl rfl ?_
    refine V_cS1I (q := 36) (N := mX0_lengthOf) (tX0_lengthOf (by omega)) hκ.big (by decide) gX0_lengthOf kl_X0_89 kt_X0_lengthOf (Nat.le_of_ble_eq_true rfl) dX0_tonsOfShapes_33 rfl ?_
    refine V_iload_n (q := 37) dX0_tonsOfShapes_36 rfl rfl ?_
    refine V_cS1I (q := 40) (N := mX0_breadthOf) (tX0_breadthOf (by omega)) hκ.big (by decide) gX0_breadthOf kl_X0_92 kt_X0_breadthOf (Nat.le_of_ble_eq_true rfl) dX0_tonsOfShapes_37 rfl ?_
    refine V_iload_n (q := 41) dX0_tonsOfShapes_40 rfl rfl ?_
    refine V_cS1I (q := 44) (N := mX0_depthOf) (tX0_depthOf (by omega)) hκ.big (by decide) gX0_depthOf kl_X0_95 kt_X0_depthOf (Nat.le_of_ble_eq_true rfl) dX0_tonsOfShapes_41 rfl ?_
    refine V_iconst (q := 45) (v := 0) dX0_tonsOfShapes_44 (by decide) rfl ?_
    refine V_cV5 (q := 48) (o := 1) (N := mX0_tonsBy) (tX0_tonsBy (a := a) ha) hκ.big (by decide) gX0_tonsBy kl_X0_98 ki_X0_tonsBy ks_X0_tonsBy (by decide) rfl (Nat.le_of_ble_eq_true rfl) dX0_tonsOfShapes_45 rfl (fun r F9 Ar9 h9 => ?_)
    obtain ⟨rfl, s9, rfl, rfl⟩ := h9
    have hv9 := hT i (by omega) (Ar' 21)
    have h10 : Ar' (10 + a) = Ar (10 + a) := hfr (10 + a) (by omega) (by omega)
    rw [h10, hv9]
    show V κ mX0_tonsOfShapes 48 [.ref 1, .int (nI a), .ref (66 + x.1), .int (nI i)] [.int (T i), .int (nI i), .ref (66 + x.1)] _ _ (x.1 + 1, x.2)
    refine V_ist (q := 49) (i) 1728 rfl (by omega) (by show 9 ≤ 66 + x.1; omega) (by show 66 + x.1 < 66 + (x.1 + 1); omega) (if_neg (by omega)) (if_neg (by omega)) (by decide) dX0_tonsOfShapes_48 rfl ?_
    refine V_iincN (q := 52) dX0_tonsOfShapes_49 rfl (Nat.le_of_ble_eq_true rfl) rfl rfl ?_
    refine V_goto (q := 21) dX0_tonsOfShapes_52 (by decide) ?_
    refine ih (i + 1) _ _ (by omega) (scF_tr hF (scF_r (smI_n (by omega)) (smI_n (by omega)) (smI_n (by omega)) (by decide))) (fun b h1 h2 => ?_) (fun j hj => ?_)
    · rw [vS_ne h2, show rA Ar' s9 b = Ar' b from vS_ne h1]
      exact hfr b h1 h2
    · rw [vS_at, show rA Ar' s9 (66 + x.1) = Ar' (66 + x.1) from vS_ne (by omega)]
      by_cases e : j = i
      · subst e
        exact upd_at
      · rw [upd_ne e]
        exact hrow j (by omega)
set_option maxHeartbeats 1000000 in
theorem tX0_tonsOfShapes {F : vFt} {Ar : vAt} {x : vXt} {a : Nat} {T : Nat → Int32} (ha : a < 5) (hsh : vSh x) (hT : ∀ i, i < 1728 → ∀ pl, tonV (nI (i / 144 + 1)) (nI (i / 12 % 12 + 1)) (nI (i % 12 + 1)) 0 (Ar (10 + a)) pl = T i) (hr : rowOk Ar x a T) : C1 mX0_tonsOfShapes 5 [.ref 1, .int (nI a)] F Ar x (tsQ a T F Ar x) := by
  refine C1_of (by decide +kernel) (Nat.le_of_ble_eq_true rfl) (fun κ ad0 hκ h0 => ?_)
  show V κ mX0_tonsOfShapes 0 [.ref 1, .int (nI a), .null, .null] [] F Ar x
  refine V_aload_n (q := 1) dX0_tonsOfShapes_0 rfl rfl ?_
  refine V_getR (q := 4) (n := 8) 1 5 kf_X0_25 (by decide) (by decide) rfl (by decide) dX0_tonsOfShapes_1 rfl ?_
  refine V_iload_n (q := 5) dX0_tonsOfShapes_4 rfl rfl ?_
  refine V_aaldS (q := 6) a ha dX0_tonsOfShapes_5 rfl ?_
  have hlt := hsh a ha
  rcases hr with ⟨hl0, h9, -⟩ | ⟨h66, hrow⟩
  · refine V_alen (q := 7) (n := 0) h9 hlt hl0 dX0_tonsOfShapes_6 rfl ?_
    refine V_sipush (q := 10) (v := 1728) dX0_tonsOfShapes_7 (by decide) rfl ?_
    refine V_icmp_ge (tgt := 62) (q := 13) dX0_tonsOfShapes_10 (by decide) rfl (fun c_10 => absurd c_10 (by decide)) (fun c_10 => ?_)
    refine V_sipush (q := 16) (v := 1728) dX0_tonsOfShapes_13 (by decide) rfl ?_
    refine V_newrow (q := 18) hκ (Nat.le_refl _) h0 hsh (fun v hv k hk => ?_) (fun v hv k hk => by cases hv) dX0_tonsOfShapes_16 rfl (fun κ' hκ' => ?_)
    · subst hk
      simp at hv
      rw [hv]
      exact Nat.lt_of_lt_of_le (by decide) (Nat.le_add_right 66 _)
    refine V_astore_n (q := 19) dX0_tonsOfShapes_18 (Nat.le_of_ble_eq_true rfl) rfl rfl ?_
    refine V_iconst (q := 20) (v := 0) dX0_tonsOfShapes_19 (by decide) rfl ?_
    refine V_istore_n (q := 21) dX0_tonsOfShapes_20 (Nat.le_of_ble_eq_true rfl) rfl rfl ?_
    exact lp_X0_shapes hκ' ha hT 1728 0 F _ (by omega) scF_rf (fun b h1 h2 => vS_ne h2) (fun j hj => by omega)
  · obtain ⟨f1, f2, f3, f4⟩ := row_facts (y := x) h66 hlt
    refine V_alen (q := 7) (n := 1728) f1 f2 f4 dX0_tonsOfShapes_6 rfl ?_
    refine V_sipush (q := 10) (v := 1728) dX0_tonsOfShapes_7 (by decide) rfl ?_
    refine V_icmp_ge (tgt := 62) (q := 13) dX0_tonsOfShapes_10 (by decide) rfl (fun c_10 => ?_) (fun c_10 => absurd (by decide) c_10)
    refine V_aload_n (q := 63) dX0_tonsOfShapes_62 rfl rfl ?_
    refine V_getR (q := 66) (n := 8) 1 5 kf_X0_25 (by decide) (by decide) rfl (by decide) dX0_tonsOfShapes_63 rfl ?_
    refine V_iload_n (q := 67) dX0_tonsOfShapes_66 rfl rfl ?_
    refine V_aaldS (q := 68) a ha dX0_tonsOfShapes_67 rfl ?_
    exact V_aret1 hκ rfl dX0_tonsOfShapes_68 ⟨_, rfl, h66, hlt, hrow, scF_rf, Nat.le_refl _, fun _ _ _ => rfl, rfl, fun _ _ => rfl⟩
def olV (T : Nat → Int32) (cg w : Int32) : Int32 := if w = 0 then nI (lsD T cg 1728 1727 / 144 + 1) else if w = 1 then nI (lsD T cg 1728 1727 / 12 % 12 + 1) else if w = 2 then nI (lsD T cg 1728 1727 % 12 + 1) else T (lsD T cg 1728 1727)
theorem lsD_congr {f g : Nat → Int32} {cg : Int32} (h : ∀ i, i < 1728 → f i = g i) : ∀ k best, k ≤ 1728 → best < 1728 → lsD f cg k best = lsD g cg k best := by
  intro k
  induction k with
  | zero => intro best _ _; rfl
  | succ k ih =>
    intro best hk hb
    rw [lsD, lsD, h k (by omega), h best hb]
    refine ih _ (by omega) ?_
    split
    · omega
    · exact hb
def olQ (a : Nat) (T : Nat → Int32) (cg w : Int32) (F : vFt) (Ar : vAt) (x : vXt) : Option Value → vFt → vAt → vXt → Prop := fun r F' Ar' x' => r = some (.int (olV T cg w)) ∧ 66 ≤ x'.2 a ∧ x'.2 a < 66 + x'.1 ∧ (∀ i, i < 1728 → Ar' (x'.2 a) i = T i) ∧ scF F F' ∧ x.1 ≤ x'.1 ∧ (∀ b, b ≠ 21 → b < 66 + x.1 → Ar' b = Ar b) ∧ (∀ j, j ≠ a → x'.2 j = x.2 j)
set_option maxHeartbeats 1000000 in
theorem tX0_ofLeastShape {F : vFt} {Ar : vAt} {x : vXt} {a : Nat} {T : Nat → Int32} {cg w : Int32} (ha : a < 5) (hsh : vSh x) (hT : ∀ i, i < 1728 → ∀ pl, tonV (nI (i / 144 + 1)) (nI (i / 12 % 12 + 1)) (nI (i % 12 + 1)) 0 (Ar (10 + a)) pl = T i) (hr : rowOk Ar x a T) : C1 mX0_ofLeastShape 6 [.ref 1, .int (nI a), .int cg, .int w] F Ar x (olQ a T cg w F Ar x) := by
  refine C1_of (by decide +kernel) (Nat.le_of_ble_eq_true rfl) (fun κ ad0 hκ h0 => ?_)
  show V κ mX0_ofLeastShape 0 [.ref 1, .int (nI a), .int cg, .int w, .null, .null] [] F Ar x
  refine V_aload_n (q := 1) dX0_ofLeastShape_0 rfl rfl ?_
  refine V_iload_n (q := 2) dX0_ofLeastShape_1 rfl rfl ?_
  refine V_callA1 (q := 5) (o := 1) (N := mX0_tonsOfShapes) [.int (nI a)] (tX0_tonsOfShapes ha hsh hT hr) hκ h0 (by decide) (fun v hv k hk => ?_) (fun v hv k hk => by cases hv) gX0_tonsOfShapes kl_X0_81 ki_X0_tonsOfShapes ks_X0_tonsOfShapes (by decide) rfl rfl (Nat.le_of_ble_eq_true rfl) dX0_ofLeastShape_2 rfl (fun κ' hκ' r9 F9 Ar9 x9 h9 => ?_)
  · subst hk
    simp at hv
    rw [hv]
    exact Nat.lt_of_lt_of_le (by decide) (Nat.le_add_right 66 _)
  obtain ⟨v, rfl, h66, hv, hrow, hF, hx1, hfr, hx2, hxj⟩ := h9
  obtain ⟨f1, f2, f3, f4⟩ := row_facts (y := x9) h66 hv
  have hlt : lsD T cg 1728 1727 < 1728 := lsD_lt 1728 1727 (Nat.le_refl _) (by decide)
  show V κ' mX0_ofLeastShape 5 [.ref 1, .int (nI a), .int cg, .int w, .null, .null] [.ref v] F9 Ar9 x9
  have hls := tX0_leastShape (F := F9) (Ar := Ar9) (x := x9) (a := v) (cg := cg) f1 f2 f3 f4
  rw [lsD_congr hrow 1728 1727 (Nat.le_refl _) (by decide)] at hls
  refine V_astore (q := 7) dX0_ofLeastShape_5 (Nat.le_of_ble_eq_true rfl) rfl rfl ?_
  refine V_aload (q := 9) dX0_ofLeastShape_7 rfl rfl ?_
  refine V_iload_n (q := 10) dX0_ofLeastShape_9 rfl rfl ?_
  refine V_cS2I (q := 13) (N := mX0_leastShape) hls hκ'.big (by decide) gX0_leastShape kl_X0_85 kt_X0_leastShape (Nat.le_of_ble_eq_true rfl) dX0_ofLeastShape_10 rfl ?_
  refine V_istore (q := 15) dX0_ofLeastShape_13 (Nat.le_of_ble_eq_true rfl) rfl rfl ?_
  show V κ' mX0_ofLeastShape 15 [.ref 1, .int (nI a), .int cg, .int w, .ref v, .int (nI (lsD T cg 1728 1727))] [] F9 Ar9 x9
  refine V_iload_n (q := 16) dX0_ofLeastShape_15 rfl rfl ?_
  by_cases e_16_0 : w = 0
  · refine V_tableIn (q := 44) (off := 28) dX0_ofLeastShape_16 (by rw [e_16_0]; decide) (by rw [e_16_0]; decide) (by rw [e_16_0]; decide) (by decide) ?_
    refine V_iload (q := 46) dX0_ofLeastShape_44 rfl rfl ?_
    refine V_cS1I (q := 49) (N := mX0_lengthOf) (tX0_lengthOf hlt) hκ'.big (by decide) gX0_lengthOf kl_X0_89 kt_X0_lengthOf (Nat.le_of_ble_eq_true rfl) dX0_ofLeastShape_46 rfl ?_
    exact V_iret1 hκ' rfl dX0_ofLeastShape_49 ⟨by unfold olV; rw [if_pos e_16_0], by rw [hx2]; exact h66, by rw [hx2]; exact hv, by rw [hx2]; exact hrow, hF, hx1, hfr, hxj⟩
  by_cases e_16_1 : w = 1
  · refine V_tableIn (q := 50) (off := 34) dX0_ofLeastShape_16 (by rw [e_16_1]; decide) (by rw [e_16_1]; decide) (by rw [e_16_1]; decide) (by decide) ?_
    refine V_iload (q := 52) dX0_ofLeastShape_50 rfl rfl ?_
    refine V_cS1I (q := 55) (N := mX0_breadthOf) (tX0_breadthOf hlt) hκ'.big (by decide) gX0_breadthOf kl_X0_92 kt_X0_breadthOf (Nat.le_of_ble_eq_true rfl) dX0_ofLeastShape_52 rfl ?_
    exact V_iret1 hκ' rfl dX0_ofLeastShape_55 ⟨by unfold olV; rw [if_neg e_16_0]; rw [if_pos e_16_1], by rw [hx2]; exact h66, by rw [hx2]; exact hv, by rw [hx2]; exact hrow, hF, hx1, hfr, hxj⟩
  by_cases e_16_2 : w = 2
  · refine V_tableIn (q := 56) (off := 40) dX0_ofLeastShape_16 (by rw [e_16_2]; decide) (by rw [e_16_2]; decide) (by rw [e_16_2]; decide) (by decide) ?_
    refine V_iload (q := 58) dX0_ofLeastShape_56 rfl rfl ?_
    refine V_cS1I (q := 61) (N := mX0_depthOf) (tX0_depthOf hlt) hκ'.big (by decide) gX0_depthOf kl_X0_95 kt_X0_depthOf (Nat.le_of_ble_eq_true rfl) dX0_ofLeastShape_58 rfl ?_
    exact V_iret1 hκ' rfl dX0_ofLeastShape_61 ⟨by unfold olV; rw [if_neg e_16_0]; rw [if_neg e_16_1]; rw [if_pos e_16_2], by rw [hx2]; exact h66, by rw [hx2]; exact hv, by rw [hx2]; exact hrow, hF, hx1, hfr, hxj⟩
  refine V_tableOut (q := 62) dX0_ofLeastShape_16 (by have h0 := lv_neT e_16_0 (a := 0) (by decide); have h1 := lv_neT e_16_1 (a := 1) (by decide); have h2 := lv_neT e_16_2 (a := 2) (by decide); omega) (by decide) ?_
  refine V_aload (q := 64) dX0_ofLeastShape_62 rfl rfl ?_
  refine V_iload (q := 66) dX0_ofLeastShape_64 rfl rfl ?_
  refine V_ild (q := 67) (lsD T cg 1728 1727) 1728 rfl hlt f1 f2 f3 f4 (by decide) dX0_ofLeastShape_66 rfl ?_
  rw [hrow _ hlt]
  exact V_iret1 hκ' rfl dX0_ofLeastShape_67 ⟨by unfold olV; rw [if_neg e_16_0]; rw [if_neg e_16_1]; rw [if_neg e_16_2]; skip, by rw [hx2]; exact h66, by rw [hx2]; exact hv, by rw [hx2]; exact hrow, hF, hx1, hfr, hxj⟩
set_option maxHeartbeats 1000000 in
theorem tX5_shape1 {F : vFt} {Ar : vAt} {x : vXt} {a c : Nat} {T : Nat → Int32} {cg w : Int32} (hc : F 68 = nI c) (hc5 : c ≤ 5) (hac : a < c) (hcg : 1 ≤ cg ∧ cg ≤ 1728) (hw : 0 ≤ w ∧ w ≤ 3) (hsh : vSh x) (hT : ∀ i, i < 1728 → ∀ pl, tonV (nI (i / 144 + 1)) (nI (i / 12 % 12 + 1)) (nI (i % 12 + 1)) 0 (Ar (10 + a)) pl = T i) (hr : rowOk Ar x a T) : C1 mX5_shape 7 [.ref 0, .int (nI a), .int cg, .int w] F Ar x (olQ a T cg w F Ar x) := by
  refine C1_of (by decide +kernel) (Nat.le_of_ble_eq_true rfl) (fun κ ad0 hκ h0 => ?_)
  show V κ mX5_shape 0 [.ref 0, .int (nI a), .int cg, .int w] [] F Ar x
  have hg : 0 ≤ nI a ∧ nI a ≤ F 68 - 1 := by rw [hc]; exact (v_has (by omega)).mpr ⟨a, hac, rfl⟩
  refine V_aload_n (q := 1) dX5_shape_0 rfl rfl ?_
  refine V_getR (q := 4) (n := 1) 0 0 kf_X5_10 (by decide) (by decide) rfl (by decide) dX5_shape_1 rfl ?_
  refine V_iload_n (q := 5) dX5_shape_4 rfl rfl ?_
  refine V_cV1I (q := 8) (o := 1) (N := mX0_has) tX0_has hκ.big (by decide) gX0_has kl_X5_55 ki_X0_has ks_X0_has (by decide) rfl (Nat.le_of_ble_eq_true rfl) dX5_shape_5 rfl ?_
  refine V_if_eq (tgt := 31) (q := 11) dX5_shape_8 (by decide) rfl (fun c_8 => absurd c_8 (vB_n0.mpr hg)) (fun c_8 => ?_)
  refine V_iload_n (q := 12) dX5_shape_11 rfl rfl ?_
  refine V_iconst (q := 13) (v := 1) dX5_shape_12 (by decide) rfl ?_
  refine V_sipush (q := 16) (v := 1728) dX5_shape_13 (by decide) rfl ?_
  refine V_cS3I (q := 19) (N := mX5_isWithin) tX5_isWithin hκ.big (by decide) gX5_isWithin kl_X5_67 kt_X5_isWithin (Nat.le_of_ble_eq_true rfl) dX5_shape_16 rfl ?_
  refine V_if_eq (tgt := 31) (q := 22) dX5_shape_19 (by decide) rfl (fun c_19 => absurd c_19 (vB_n0.mpr hcg)) (fun c_19 => ?_)
  refine V_iload_n (q := 23) dX5_shape_22 rfl rfl ?_
  refine V_iconst (q := 24) (v := 0) dX5_shape_23 (by decide) rfl ?_
  refine V_iconst (q := 25) (v := 3) dX5_shape_24 (by decide) rfl ?_
  refine V_cS3I (q := 28) (N := mX5_isWithin) tX5_isWithin hκ.big (by decide) gX5_isWithin kl_X5_67 kt_X5_isWithin (Nat.le_of_ble_eq_true rfl) dX5_shape_25 rfl ?_
  refine V_if_ne (tgt := 34) (q := 31) dX5_shape_28 (by decide) rfl (fun c_28 => ?_) (fun c_28 => absurd c_28 (vB_n0.mpr hw))
  refine V_aload_n (q := 35) dX5_shape_34 rfl rfl ?_
  refine V_getR (q := 38) (n := 1) 0 0 kf_X5_10 (by decide) (by decide) rfl (by decide) dX5_shape_35 rfl ?_
  refine V_iload_n (q := 39) dX5_shape_38 rfl rfl ?_
  refine V_iload_n (q := 40) dX5_shape_39 rfl rfl ?_
  refine V_iload_n (q := 41) dX5_shape_40 rfl rfl ?_
  refine V_callA1 (q := 44) (o := 1) (N := mX0_ofLeastShape) [.int (nI a), .int cg, .int w] (tX0_ofLeastShape (by omega) hsh hT hr) hκ h0 (by decide) (fun v hv k hk => ?_) (fun v hv k hk => by cases hv) gX0_ofLeastShape kl_X5_71 ki_X0_ofLeastShape ks_X0_ofLeastShape (by decide) rfl rfl (Nat.le_of_ble_eq_true rfl) dX5_shape_41 rfl (fun κ' hκ' r9 F9 Ar9 x9 h9 => ?_)
  · subst hk
    simp at hv
    rw [hv]
    exact Nat.lt_of_lt_of_le (by decide) (Nat.le_add_right 66 _)
  have h10 := h9
  obtain ⟨rfl, -⟩ := h9
  exact V_iret1 hκ' rfl dX5_shape_44 h10
