def rStep (l b d r c : Int32) (s : rS) : Bool × rS := if 48 ≤ c ∧ c ≤ 57 then rFig (c - 48) s
  else if c = 32 then (true, s.1, s.2.1, 0)
  else if c = 33 then rLift (s.1, s.2.1, 0)
  else if c = 42 ∨ c = 43 ∨ c = 45 ∨ c = 47 then rJoin c (s.1, s.2.1, 0)
  else if c = 98 then rPush b (s.1, s.2.1, 0)
  else if c = 100 then rPush d (s.1, s.2.1, 0)
  else if c = 108 then rPush l (s.1, s.2.1, 0)
  else if c = 114 then rPush r (s.1, s.2.1, 0)
  else (false, s.1, s.2.1, 0)
theorem rPush_le {v : Int32} {s : rS} : (rPush v s).2.2.1 ≤ s.2.1 + 1 ∧ (rPush v s).2.2.2 ≤ s.2.2 := by
  unfold rPush
  split
  · exact ⟨Nat.le_refl _, Nat.le_refl _⟩
  · exact ⟨Nat.le_succ _, Nat.le_refl _⟩
theorem rStep_le {l b d r c : Int32} {s : rS} : (rStep l b d r c s).2.2.1 ≤ s.2.1 + 1 ∧ (rStep l b d r c s).2.2.2 ≤ s.2.2 + 1 := by
  have hP : ∀ v g, (rPush v (s.1, s.2.1, g)).2.2.1 ≤ s.2.1 + 1 ∧ (rPush v (s.1, s.2.1, g)).2.2.2 ≤ g := fun v g => rPush_le
  unfold rStep
  split
  · unfold rFig
    split
    · have := hP (c - 48) 1
      exact ⟨this.1, by omega⟩
    · split
      · exact ⟨Nat.le_succ _, Nat.le_refl _⟩
      · exact ⟨Nat.le_succ _, Nat.le_refl _⟩
  · split
    · exact ⟨Nat.le_succ _, Nat.zero_le _⟩
    · split
      · unfold rLift
        split <;> exact ⟨Nat.le_succ _, Nat.zero_le _⟩
      · split
        · unfold rJoin
          split
          · exact ⟨Nat.le_succ _, Nat.zero_le _⟩
          · refine ⟨?_, Nat.zero_le _⟩
            show s.2.1 - 1 ≤ s.2.1 + 1
            omega
        · split
          · have := hP b 0; exact ⟨this.1, by omega⟩
          · split
            · have := hP d 0; exact ⟨this.1, by omega⟩
            · split
              · have := hP l 0; exact ⟨this.1, by omega⟩
              · split
                · have := hP r 0; exact ⟨this.1, by omega⟩
                · exact ⟨Nat.le_succ _, Nat.zero_le _⟩
theorem tX4_read {F : vFt} {Ar : vAt} {x : vXt} {c : Int32} {s : rS} (hh : s.2.1 ≤ 40) (hg : s.2.2 ≤ 40) : C0 mX4_read 2 [.ref 2, .int c] (rF F s) (rA Ar s) x (vEq (some (.int (if (rStep (F 131) (F 132) (F 133) (F 134) c s).1 = true then 1 else 0))) (rF F (rStep (F 131) (F 132) (F 133) (F 134) c s).2) (rA Ar (rStep (F 131) (F 132) (F 133) (F 134) c s).2)) := by
  refine C0_of (by decide +kernel) (Nat.le_of_ble_eq_true rfl) (fun κ hκ => ?_)
  show V κ mX4_read 0 [.ref 2, .int c] [] (rF F s) (rA Ar s) x
  refine V_iload_n (q := 1) dX4_read_0 rfl rfl ?_
  refine V_bipush (q := 3) (v := 48) dX4_read_1 (by decide) rfl ?_
  refine V_bipush (q := 5) (v := 57) dX4_read_3 (by decide) rfl ?_
  refine V_cSN3I (q := 8) (N := mX5_isWithin) tX5_isWithin hκ.big (by decide) gX5_isWithin (by decide +kernel) kt_X5_isWithin (Nat.le_of_ble_eq_true rfl) dX4_read_5 rfl ?_
  refine V_if_eq (tgt := 20) (q := 11) dX4_read_8 (by decide) rfl (fun c_8 => ?_) (fun c_8 => ?_)
  · refine V_aload_n (q := 21) dX4_read_20 rfl rfl ?_
    refine V_iconst (q := 22) (v := 0) dX4_read_21 (by decide) rfl ?_
    refine V_putI (q := 25) (n := 130) 2 2 kf_X4_31 (by decide) (by decide) rfl rfl dX4_read_22 rfl ?_
    refine V_fl (rF F (s.1, s.2.1, 0)) (rF_g (g := 0)) ?_
    refine V_ar (rA Ar (s.1, s.2.1, 0)) rfl ?_
    refine V_iload_n (q := 26) dX4_read_25 rfl rfl ?_
    by_cases e_26_32 : c = 32
    · refine V_lookup (q := 116) (off := 90) dX4_read_26 (by decide) (by rw [e_26_32]; decide) (by decide) ?_
      refine V_iconst (q := 117) (v := 1) dX4_read_116 (by decide) rfl ?_
      exact V_iret hκ rfl rfl dX4_read_117 (by simp only [rStep, if_neg (vB_0.mp c_8), if_pos e_26_32]; exact vEq.rf)
    by_cases e_26_33 : c = 33
    · refine V_lookup (q := 154) (off := 128) dX4_read_26 (by decide) (by rw [e_26_33]; decide) (by decide) ?_
      refine V_aload_n (q := 155) dX4_read_154 rfl rfl ?_
      refine V_cV0I (q := 158) (o := 2) (N := mX4_liftToZero) (tX4_liftToZero (s := (s.1, s.2.1, 0)) hh) hκ.big (by decide) gX4_liftToZero kl_X4_49 ki_X4_liftToZero ks_X4_liftToZero (by decide) rfl (Nat.le_of_ble_eq_true rfl) dX4_read_155 rfl ?_
      exact V_iret hκ rfl (by split <;> rfl) dX4_read_158 (by simp only [rStep, if_neg (vB_0.mp c_8), if_neg e_26_32, if_pos e_26_33]; exact vEq.rf)
    by_cases e_26_42 : c = 42
    · refine V_lookup (q := 159) (off := 133) dX4_read_26 (by decide) (by rw [e_26_42]; decide) (by decide) ?_
      refine V_aload_n (q := 160) dX4_read_159 rfl rfl ?_
      refine V_iload_n (q := 161) dX4_read_160 rfl rfl ?_
      refine V_cV1I (q := 164) (o := 2) (N := mX4_joinTwo) (tX4_joinTwo (s := (s.1, s.2.1, 0)) hh) hκ.big (by decide) gX4_joinTwo kl_X4_53 ki_X4_joinTwo ks_X4_joinTwo (by decide) rfl (Nat.le_of_ble_eq_true rfl) dX4_read_161 rfl ?_
      exact V_iret hκ rfl (by split <;> rfl) dX4_read_164 (by have hj : c = 42 ∨ c = 43 ∨ c = 45 ∨ c = 47 := Or.inl e_26_42; simp only [rStep, if_neg (vB_0.mp c_8), if_neg e_26_32, if_neg e_26_33, if_pos hj]; exact vEq.rf)
    by_cases e_26_43 : c = 43
    · refine V_lookup (q := 159) (off := 133) dX4_read_26 (by decide) (by rw [e_26_43]; decide) (by decide) ?_
      refine V_aload_n (q := 160) dX4_read_159 rfl rfl ?_
      refine V_iload_n (q := 161) dX4_read_160 rfl rfl ?_
      refine V_cV1I (q := 164) (o := 2) (N := mX4_joinTwo) (tX4_joinTwo (s := (s.1, s.2.1, 0)) hh) hκ.big (by decide) gX4_joinTwo kl_X4_53 ki_X4_joinTwo ks_X4_joinTwo (by decide) rfl (Nat.le_of_ble_eq_true rfl) dX4_read_161 rfl ?_
      exact V_iret hκ rfl (by split <;> rfl) dX4_read_164 (by have hj : c = 42 ∨ c = 43 ∨ c = 45 ∨ c = 47 := Or.inr (Or.inl e_26_43); simp only [rStep, if_neg (vB_0.mp c_8), if_neg e_26_32, if_neg e_26_33, if_pos hj]; exact vEq.rf)
    by_cases e_26_45 : c = 45
    · refine V_lookup (q := 159) (off := 133) dX4_read_26 (by decide) (by rw [e_26_45]; decide) (by decide) ?_
      refine V_aload_n (q := 160) dX4_read_159 rfl rfl ?_
      refine V_iload_n (q := 161) dX4_read_160 rfl rfl ?_
      refine V_cV1I (q := 164) (o := 2) (N := mX4_joinTwo) (tX4_joinTwo (s := (s.1, s.2.1, 0)) hh) hκ.big (by decide) gX4_joinTwo kl_X4_53 ki_X4_joinTwo ks_X4_joinTwo (by decide) rfl (Nat.le_of_ble_eq_true rfl) dX4_read_161 rfl ?_
      exact V_iret hκ rfl (by split <;> rfl) dX4_read_164 (by have hj : c = 42 ∨ c = 43 ∨ c = 45 ∨ c = 47 := Or.inr (Or.inr (Or.inl e_26_45)); simp only [rStep, if_neg (vB_0.mp c_8), if_neg e_26_32, if_neg e_26_33, if_pos hj]; exact vEq.rf)
    by_cases e_26_47 : c = 47
    · refine V_lookup (q := 159) (off := 133) dX4_read_26 (by decide) (by rw [e_26_47]; decide) (by decide) ?_
      refine V_aload_n (q := 160) dX4_read_159 rfl rfl ?_
      refine V_iload_n (q := 161) dX4_read_160 rfl rfl ?_
      refine V_cV1I (q := 164) (o := 2) (N := mX4_joinTwo) (tX4_joinTwo (s := (s.1, s.2.1, 0)) hh) hκ.big (by decide) gX4_joinTwo kl_X4_53 ki_X4_joinTwo ks_X4_joinTwo (by decide) rfl (Nat.le_of_ble_eq_true rfl) dX4_read_161 rfl ?_
      exact V_iret hκ rfl (by split <;> rfl) dX4_read_164 (by have hj : c = 42 ∨ c = 43 ∨ c = 45 ∨ c = 47 := Or.inr (Or.inr (Or.inr e_26_47)); simp only [rStep, if_neg (vB_0.mp c_8), if_neg e_26_32, if_neg e_26_33, if_pos hj]; exact vEq.rf)
    by_cases e_26_98 : c = 98
    · refine V_lookup (q := 127) (off := 101) dX4_read_26 (by decide) (by rw [e_26_98]; decide) (by decide) ?_
      refine V_aload_n (q := 128) dX4_read_127 rfl rfl ?_
      refine V_aload_n (q := 129) dX4_read_128 rfl rfl ?_
      refine V_getI (q := 132) (n := 132) 2 4 kf_X4_19 (by decide) (by decide) rfl rfl dX4_read_129 rfl ?_
      refine V_cV1I (q := 135) (o := 2) (N := mX4_push) (tX4_push (s := (s.1, s.2.1, 0)) hh) hκ.big (by decide) gX4_push kl_X4_46 ki_X4_push ks_X4_push (by decide) rfl (Nat.le_of_ble_eq_true rfl) dX4_read_132 rfl ?_
      exact V_iret hκ rfl (by split <;> rfl) dX4_read_135 (by have hj : ¬ (c = 42 ∨ c = 43 ∨ c = 45 ∨ c = 47) := fun h => h.elim e_26_42 (fun h => h.elim e_26_43 (fun h => h.elim e_26_45 e_26_47)); simp only [rStep, if_neg (vB_0.mp c_8), if_neg hj, if_neg e_26_32, if_neg e_26_33, if_pos e_26_98]; exact vEq.rf)
    by_cases e_26_100 : c = 100
    · refine V_lookup (q := 136) (off := 110) dX4_read_26 (by decide) (by rw [e_26_100]; decide) (by decide) ?_
      refine V_aload_n (q := 137) dX4_read_136 rfl rfl ?_
      refine V_aload_n (q := 138) dX4_read_137 rfl rfl ?_
      refine V_getI (q := 141) (n := 133) 2 5 kf_X4_22 (by decide) (by decide) rfl rfl dX4_read_138 rfl ?_
      refine V_cV1I (q := 144) (o := 2) (N := mX4_push) (tX4_push (s := (s.1, s.2.1, 0)) hh) hκ.big (by decide) gX4_push kl_X4_46 ki_X4_push ks_X4_push (by decide) rfl (Nat.le_of_ble_eq_true rfl) dX4_read_141 rfl ?_
      exact V_iret hκ rfl (by split <;> rfl) dX4_read_144 (by have hj : ¬ (c = 42 ∨ c = 43 ∨ c = 45 ∨ c = 47) := fun h => h.elim e_26_42 (fun h => h.elim e_26_43 (fun h => h.elim e_26_45 e_26_47)); simp only [rStep, if_neg (vB_0.mp c_8), if_neg hj, if_neg e_26_32, if_neg e_26_33, if_neg e_26_98, if_pos e_26_100]; exact vEq.rf)
    by_cases e_26_108 : c = 108
    · refine V_lookup (q := 118) (off := 92) dX4_read_26 (by decide) (by rw [e_26_108]; decide) (by decide) ?_
      refine V_aload_n (q := 119) dX4_read_118 rfl rfl ?_
      refine V_aload_n (q := 120) dX4_read_119 rfl rfl ?_
      refine V_getI (q := 123) (n := 131) 2 3 kf_X4_15 (by decide) (by decide) rfl rfl dX4_read_120 rfl ?_
      refine V_cV1I (q := 126) (o := 2) (N := mX4_push) (tX4_push (s := (s.1, s.2.1, 0)) hh) hκ.big (by decide) gX4_push kl_X4_46 ki_X4_push ks_X4_push (by decide) rfl (Nat.le_of_ble_eq_true rfl) dX4_read_123 rfl ?_
      exact V_iret hκ rfl (by split <;> rfl) dX4_read_126 (by have hj : ¬ (c = 42 ∨ c = 43 ∨ c = 45 ∨ c = 47) := fun h => h.elim e_26_42 (fun h => h.elim e_26_43 (fun h => h.elim e_26_45 e_26_47)); simp only [rStep, if_neg (vB_0.mp c_8), if_neg hj, if_neg e_26_32, if_neg e_26_33, if_neg e_26_98, if_neg e_26_100, if_pos e_26_108]; exact vEq.rf)
    by_cases e_26_114 : c = 114
    · refine V_lookup (q := 145) (off := 119) dX4_read_26 (by decide) (by rw [e_26_114]; decide) (by decide) ?_
      refine V_aload_n (q := 146) dX4_read_145 rfl rfl ?_
      refine V_aload_n (q := 147) dX4_read_146 rfl rfl ?_
      refine V_getI (q := 150) (n := 134) 2 6 kf_X4_25 (by decide) (by decide) rfl rfl dX4_read_147 rfl ?_
      refine V_cV1I (q := 153) (o := 2) (N := mX4_push) (tX4_push (s := (s.1, s.2.1, 0)) hh) hκ.big (by decide) gX4_push kl_X4_46 ki_X4_push ks_X4_push (by decide) rfl (Nat.le_of_ble_eq_true rfl) dX4_read_150 rfl ?_
      exact V_iret hκ rfl (by split <;> rfl) dX4_read_153 (by have hj : ¬ (c = 42 ∨ c = 43 ∨ c = 45 ∨ c = 47) := fun h => h.elim e_26_42 (fun h => h.elim e_26_43 (fun h => h.elim e_26_45 e_26_47)); simp only [rStep, if_neg (vB_0.mp c_8), if_neg hj, if_neg e_26_32, if_neg e_26_33, if_neg e_26_98, if_neg e_26_100, if_neg e_26_108, if_pos e_26_114]; exact vEq.rf)
    refine V_lookup (q := 165) (off := 139) dX4_read_26 (by decide) (by show Op.lookupswitch.offset [(32, 90), (33, 128), (42, 133), (43, 133), (45, 133), (47, 133), (98, 101), (100, 110), (108, 92), (114, 119)] 139 _ = _; rw [lv_osw e_26_32 (by decide), lv_osw e_26_33 (by decide), lv_osw e_26_42 (by decide), lv_osw e_26_43 (by decide), lv_osw e_26_45 (by decide), lv_osw e_26_47 (by decide), lv_osw e_26_98 (by decide), lv_osw e_26_100 (by decide), lv_osw e_26_108 (by decide), lv_osw e_26_114 (by decide)]; rfl) (by decide) ?_
    refine V_iconst (q := 166) (v := 0) dX4_read_165 (by decide) rfl ?_
    exact V_iret hκ rfl rfl dX4_read_166 (by have hj : ¬ (c = 42 ∨ c = 43 ∨ c = 45 ∨ c = 47) := fun h => h.elim e_26_42 (fun h => h.elim e_26_43 (fun h => h.elim e_26_45 e_26_47)); simp only [rStep, if_neg (vB_0.mp c_8), if_neg hj, if_neg e_26_32, if_neg e_26_33, if_neg e_26_98, if_neg e_26_100, if_neg e_26_108, if_neg e_26_114]; exact vEq.rf)
  · refine V_aload_n (q := 12) dX4_read_11 rfl rfl ?_
    refine V_iload_n (q := 13) dX4_read_12 rfl rfl ?_
    refine V_bipush (q := 15) (v := 48) dX4_read_13 (by decide) rfl ?_
    refine V_isub (q := 16) dX4_read_15 rfl ?_
    refine V_cV1I (q := 19) (o := 2) (N := mX4_readFigure) (tX4_readFigure hh hg) hκ.big (by decide) gX4_readFigure kl_X4_43 ki_X4_readFigure ks_X4_readFigure (by decide) rfl (Nat.le_of_ble_eq_true rfl) dX4_read_16 rfl ?_
    exact V_iret hκ rfl (by split <;> rfl) dX4_read_19 (by simp only [rStep, if_pos (vB_n0.mp c_8)]; exact vEq.rf)
def rRun (l b d r : Int32) (t : Nat → Int32) : Nat → Nat → rS → Option rS
  | 0, _, s => some s
  | m + 1, i, s => if t i = 0 then some s else if (rStep l b d r (t i) s).1 = true then rRun l b d r t m (i + 1) (rStep l b d r (t i) s).2 else none
def rVal (o : Option rS) : Int32 := match o with
  | some s => if s.2.1 = 1 then s.1 0 else -10000000
  | none => -10000000
def rkQ (v : Int32) (F : vFt) (Ar : vAt) : Option Value → vFt → vAt → Prop := fun r F' Ar' => r = some (.int v) ∧ ∃ s : rS, F' = rF F s ∧ Ar' = rA Ar s
theorem st_reckon {F : vFt} {Ar : vAt} {x : vXt} {a : Nat} {κ : vK} (hκ : vStd κ 3 x (rkQ (rVal (rRun (F 131) (F 132) (F 133) (F 134) (Ar a) 40 0 (Ar 21, 0, 0))) F Ar)) (h9 : 9 ≤ a) (ha : a < 66 + x.1) (ht : vTyA a = 0) (hn : vLen a = 40) (h21 : a ≠ 21) (s : rS) (hs : s.2.1 ≤ 40) (l4 l5 : Value) (hv : (rVal (rRun (F 131) (F 132) (F 133) (F 134) (Ar a) 40 0 (Ar 21, 0, 0))) = rVal (some s)) : V κ mX4_reckon 56 [.ref 2, .ref a, .ref a, .int (nI 40), l4, l5] [] (rF F s) (rA Ar s) x := by
  have h1 : nI s.2.1 = nI 1 ↔ s.2.1 = 1 := nI_eq (by omega) (by decide)
  refine V_aload_n (q := 57) dX4_reckon_56 rfl rfl ?_
  refine V_getI (q := 60) (n := 129) 2 1 kf_X4_28 (by decide) (by decide) rfl rfl dX4_reckon_57 rfl ?_
  refine V_iconst (q := 61) (v := 1) dX4_reckon_60 (by decide) rfl ?_
  refine V_icmp_ne (tgt := 73) (q := 64) dX4_reckon_61 (by decide) rfl (fun c_61 => ?_) (fun c_61 => ?_)
  · refine V_ldc (q := 75) dX4_reckon_73 kc_X4_38 rfl ?_
    exact V_iret hκ rfl rfl dX4_reckon_75 ⟨by rw [hv]; unfold rVal; simp only [if_neg (fun h => c_61 (h1.mpr h))], s, rfl, rfl⟩
  · refine V_aload_n (q := 65) dX4_reckon_64 rfl rfl ?_
    refine V_getR (q := 68) (n := 21) 2 0 kf_X4_11 (by decide) (by decide) rfl (by decide) dX4_reckon_65 rfl ?_
    refine V_iconst (q := 69) (v := 0) dX4_reckon_68 (by decide) rfl ?_
    refine V_ild (q := 70) (0) 40 rfl (by decide) (by decide) (by omega) (by decide) rfl (by decide) dX4_reckon_69 rfl ?_
    refine V_goto (q := 75) dX4_reckon_70 (by decide) ?_
    exact V_iret hκ rfl rfl dX4_reckon_75 ⟨by rw [hv]; unfold rVal; simp only [if_pos (h1.mp c_61)]; rfl, s, rfl, rfl⟩
theorem lp_reckon {F : vFt} {Ar : vAt} {x : vXt} {a : Nat} {κ : vK} (hκ : vStd κ 3 x (rkQ (rVal (rRun (F 131) (F 132) (F 133) (F 134) (Ar a) 40 0 (Ar 21, 0, 0))) F Ar)) (h9 : 9 ≤ a) (ha : a < 66 + x.1) (ht : vTyA a = 0) (hn : vLen a = 40) (h21 : a ≠ 21) : ∀ m i (s : rS) (l5 : Value), i + m = 40 → s.2.1 ≤ i → s.2.2 ≤ i → (rVal (rRun (F 131) (F 132) (F 133) (F 134) (Ar a) 40 0 (Ar 21, 0, 0))) = rVal (rRun (F 131) (F 132) (F 133) (F 134) (Ar a) m i s) → V κ mX4_reckon 18 [.ref 2, .ref a, .ref a, .int (nI 40), .int (nI i), l5] [] (rF F s) (rA Ar s) x := by
  intro m
  induction m with
  | zero =>
    intro i s l5 hi h1 h2 hv
    obtain rfl : i = 40 := by omega
    refine V_iload (q := 20) dX4_reckon_18 rfl rfl ?_
    refine V_iload_n (q := 21) dX4_reckon_20 rfl rfl ?_
    refine V_icmp_ge (tgt := 56) (q := 24) dX4_reckon_21 (by decide) rfl (fun c_21 => ?_) (fun c_21 => absurd c_21 (v_gt (i := 40) (n := 40) (by decide) (by decide) (Nat.le_refl _)))
    exact st_reckon hκ h9 ha ht hn h21 s h1 _ _ hv
  | succ m ih =>
    intro i s l5 hi h1 h2 hv
    have hra : rA Ar s a = Ar a := vS_ne h21
    have hle := rStep_le (l := F 131) (b := F 132) (d := F 133) (r := F 134) (c := Ar a i) (s := s)
    refine V_iload (q := 20) dX4_reckon_18 rfl rfl ?_
    refine V_iload_n (q := 21) dX4_reckon_20 rfl rfl ?_
    refine V_icmp_ge (tgt := 56) (q := 24) dX4_reckon_21 (by decide) rfl (fun c_21 => absurd c_21 (v_gf (n := 40) (by omega) (by decide) (by omega))) (fun c_21 => ?_)
    refine V_aload_n (q := 25) dX4_reckon_24 rfl rfl ?_
    refine V_iload (q := 27) dX4_reckon_25 rfl rfl ?_
    refine V_ild (q := 28) (i) 40 rfl (by omega) h9 ha ht hn (by decide) dX4_reckon_27 rfl ?_
    rw [hra]
    refine V_istore (q := 30) dX4_reckon_28 (Nat.le_of_ble_eq_true rfl) rfl rfl ?_
    refine V_iload (q := 32) dX4_reckon_30 rfl rfl ?_
    refine V_if_ne (tgt := 38) (q := 35) dX4_reckon_32 (by decide) rfl (fun c_32 => ?_) (fun c_32 => ?_)
    · have k0 : ¬ Ar a i = 0 := c_32
      refine V_aload_n (q := 39) dX4_reckon_38 rfl rfl ?_
      refine V_iload (q := 41) dX4_reckon_39 rfl rfl ?_
      refine V_cV1I (q := 44) (o := 2) (N := mX4_read) (tX4_read (c := Ar a i) (s := s) (by omega) (by omega)) hκ.big (by decide) gX4_read kl_X4_34 ki_X4_read ks_X4_read (by decide) rfl (Nat.le_of_ble_eq_true rfl) dX4_reckon_41 rfl ?_
      refine V_if_ne (tgt := 50) (q := 47) dX4_reckon_44 (by decide) rfl (fun c_44 => ?_) (fun c_44 => ?_)
      · refine V_iincN (q := 53) dX4_reckon_50 rfl (Nat.le_of_ble_eq_true rfl) rfl rfl ?_
        refine V_goto (q := 18) dX4_reckon_53 (by decide) ?_
        rw [vB_ite] at c_44
        exact ih (i + 1) _ _ (by omega) (by omega) (by omega) (by rw [hv, rRun, if_neg k0, if_pos (vB_n0.mp c_44)])
      · refine V_ldc (q := 49) dX4_reckon_47 kc_X4_38 rfl ?_
        exact V_iret hκ rfl rfl dX4_reckon_49 (by rw [vB_ite] at c_44; exact ⟨by rw [hv, rRun, if_neg k0, if_neg (vB_0.mp c_44)]; rfl, _, rfl, rfl⟩)
    · have k0 : Ar a i = 0 := c_32
      refine V_goto (q := 56) dX4_reckon_35 (by decide) ?_
      exact st_reckon hκ h9 ha ht hn h21 s (by omega) _ _ (by rw [hv, rRun, if_pos k0])
theorem tX4_reckon {F : vFt} {Ar : vAt} {x : vXt} {a : Nat} (h9 : 9 ≤ a) (ha : a < 66 + x.1) (ht : vTyA a = 0) (hn : vLen a = 40) (h21 : a ≠ 21) : C0 mX4_reckon 3 [.ref 2, .ref a] F Ar x (rkQ (rVal (rRun (F 131) (F 132) (F 133) (F 134) (Ar a) 40 0 (Ar 21, 0, 0))) F Ar) := by
  refine C0_of (by decide +kernel) (Nat.le_of_ble_eq_true rfl) (fun κ hκ => ?_)
  show V κ mX4_reckon 0 [.ref 2, .ref a, .null, .null, .null, .null] [] F Ar x
  refine V_aload_n (q := 1) dX4_reckon_0 rfl rfl ?_
  refine V_iconst (q := 2) (v := 0) dX4_reckon_1 (by decide) rfl ?_
  refine V_putI (q := 5) (n := 129) 2 1 kf_X4_28 (by decide) (by decide) rfl rfl dX4_reckon_2 rfl ?_
  refine V_aload_n (q := 6) dX4_reckon_5 rfl rfl ?_
  refine V_iconst (q := 7) (v := 0) dX4_reckon_6 (by decide) rfl ?_
  refine V_putI (q := 10) (n := 130) 2 2 kf_X4_31 (by decide) (by decide) rfl rfl dX4_reckon_7 rfl ?_
  refine V_aload_n (q := 11) dX4_reckon_10 rfl rfl ?_
  refine V_astore_n (q := 12) dX4_reckon_11 (Nat.le_of_ble_eq_true rfl) rfl rfl ?_
  refine V_aload_n (q := 13) dX4_reckon_12 rfl rfl ?_
  refine V_alen (q := 14) h9 ha hn dX4_reckon_13 rfl ?_
  refine V_istore_n (q := 15) dX4_reckon_14 (Nat.le_of_ble_eq_true rfl) rfl rfl ?_
  refine V_iconst (q := 16) (v := 0) dX4_reckon_15 (by decide) rfl ?_
  refine V_istore (q := 18) dX4_reckon_16 (Nat.le_of_ble_eq_true rfl) rfl rfl ?_
  refine V_ar (rA Ar (Ar 21, 0, 0)) (vS_self (Ar := Ar) (a := 21)).symm ?_
  exact lp_reckon hκ h9 ha ht hn h21 40 0 (Ar 21, 0, 0) .null rfl (Nat.le_refl 0) (Nat.le_refl 0) rfl
theorem tX4_setSizes {F : vFt} {Ar : vAt} {x : vXt} {l b d r : Int32}  : C0 mX4_setSizes 0 [.ref 2, .int l, .int b, .int d, .int r] F Ar x (vEq none (upd (upd (upd (upd F 131 l) 132 b) 133 d) 134 r) Ar) := by
  refine C0_of (by decide +kernel) (Nat.le_of_ble_eq_true rfl) (fun κ hκ => ?_)
  show V κ mX4_setSizes 0 [.ref 2, .int l, .int b, .int d, .int r] [] F Ar x
  refine V_aload_n (q := 1) dX4_setSizes_0 rfl rfl ?_
  refine V_iload_n (q := 2) dX4_setSizes_1 rfl rfl ?_
  refine V_putI (q := 5) (n := 131) 2 3 kf_X4_15 (by decide) (by decide) rfl rfl dX4_setSizes_2 rfl ?_
  refine V_aload_n (q := 6) dX4_setSizes_5 rfl rfl ?_
  refine V_iload_n (q := 7) dX4_setSizes_6 rfl rfl ?_
  refine V_putI (q := 10) (n := 132) 2 4 kf_X4_19 (by decide) (by decide) rfl rfl dX4_setSizes_7 rfl ?_
  refine V_aload_n (q := 11) dX4_setSizes_10 rfl rfl ?_
  refine V_iload_n (q := 12) dX4_setSizes_11 rfl rfl ?_
  refine V_putI (q := 15) (n := 133) 2 5 kf_X4_22 (by decide) (by decide) rfl rfl dX4_setSizes_12 rfl ?_
  refine V_aload_n (q := 16) dX4_setSizes_15 rfl rfl ?_
  refine V_iload (q := 18) dX4_setSizes_16 rfl rfl ?_
  refine V_putI (q := 21) (n := 134) 2 6 kf_X4_25 (by decide) (by decide) rfl rfl dX4_setSizes_18 rfl ?_
  exact V_vret hκ rfl dX4_setSizes_21 vEq.rf
