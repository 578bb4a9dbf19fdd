def gOk (Ar : vAt) (n : Nat) : Prop := ∀ e, e < n → (∃ a, a < 40 ∧ Ar 25 e = nI a) ∧ (∃ b, b < 40 ∧ Ar 26 e = nI b) ∧ (gCol (Ar 23) 0 e = 0 ∨ gCol (Ar 23) 0 e = 1 ∨ ∃ q, q < n ∧ gCol (Ar 23) 8 e = nI q)
def gEf (Ar : vAt) (e : Nat) (s : gT) : Bool × gT := gEff (gCol (Ar 23) 0) (gCol (Ar 23) 4) (gIx (gCol (Ar 23) 8)) (gIx (Ar 25)) (gIx (Ar 26)) e s
theorem gEff_0 {kd am : Nat → Int32} {rd a1 a2 : Nat → Nat} {e : Nat} {s : gT} (h : kd e = 0) : gEff kd am rd a1 a2 e s = if am e ≤ s.1 (a1 e) - s.2.1 (a1 e) then (true, gMove a1 a2 e (am e) s) else (false, s) := if_pos h
theorem gEff_1 {kd am : Nat → Int32} {rd a1 a2 : Nat → Nat} {e : Nat} {s : gT} (h0 : ¬ kd e = 0) (h : kd e = 1) : gEff kd am rd a1 a2 e s = if am e ≤ s.1 (a1 e) - s.2.1 (a1 e) then (true, gSet a1 a2 e 1 (am e) s) else (false, s) := (if_neg h0).trans (if_pos h)
theorem gEff_2 {kd am : Nat → Int32} {rd a1 a2 : Nat → Nat} {e : Nat} {s : gT} (h0 : ¬ kd e = 0) (h : ¬ kd e = 1) : gEff kd am rd a1 a2 e s = if s.2.2.2 (rd e) = 0 then (false, s) else (true, gSet a1 a2 (rd e) 0 (-(am (rd e))) s) := (if_neg h0).trans (if_neg h)
theorem vB_ite (b : Bool) : (if b = true then (1 : Int32) else 0) = vB (b = true) := rfl
theorem tX2_takesEffect {F : vFt} {Ar : vAt} {x : vXt} {n e : Nat} (hn : F 258 = nI n) (hn60 : n ≤ 60) (he0 : e < n) (hok : gOk Ar n) : C0 mX2_takesEffect 3 [.ref 4, .int (nI e)] F Ar x (vEq (some (.int (if (gEf Ar e (gGet Ar)).1 = true then 1 else 0))) F (gPut Ar (gEf Ar e (gGet Ar)).2)) := by
  refine C0_of (by decide +kernel) (Nat.le_of_ble_eq_true rfl) (fun κ hκ => ?_)
  show V κ mX2_takesEffect 0 [.ref 4, .int (nI e)] [] F Ar x
  have he : e < 60 := by omega
  obtain ⟨⟨a, ha, h1⟩, ⟨b, hb, h2⟩, h3⟩ := hok e he0
  have e1 := gIx_eq h1 (by omega)
  have e2 := gIx_eq h2 (by omega)
  refine V_aload_n (q := 1) dX2_takesEffect_0 rfl rfl ?_
  refine V_iload_n (q := 2) dX2_takesEffect_1 rfl rfl ?_
  refine V_iconst (q := 3) (v := 0) dX2_takesEffect_2 (by decide) rfl ?_
  refine V_cV2I (q := 6) (o := 4) (N := mX2_told) (tX2_told (c := 0) he (by decide)) hκ.big (by decide) gX2_told kl_X2_50 ki_X2_told ks_X2_told (by decide) rfl (Nat.le_of_ble_eq_true rfl) dX2_takesEffect_3 rfl ?_
  by_cases e_6_0 : Ar 23 (e * 9 + 0) = 0
  · refine V_lookup (q := 32) (off := 26) dX2_takesEffect_6 (by decide) (by rw [e_6_0]; decide) (by decide) ?_
    refine V_aload_n (q := 33) dX2_takesEffect_32 rfl rfl ?_
    refine V_iload_n (q := 34) dX2_takesEffect_33 rfl rfl ?_
    refine V_cV1I (q := 37) (o := 4) (N := mX2_bringParts) (tX2_bringParts he ha hb h1 h2) hκ.big (by decide) gX2_bringParts kl_X2_94 ki_X2_bringParts ks_X2_bringParts (by decide) rfl (Nat.le_of_ble_eq_true rfl) dX2_takesEffect_34 rfl ?_
    exact V_iret hκ rfl (by split <;> rfl) dX2_takesEffect_37 (by have k0 : gCol (Ar 23) 0 e = 0 := e_6_0; rw [gEf, gEff_0 k0, show (gGet Ar).1 = Ar 27 from rfl, show (gGet Ar).2.1 = Ar 28 from rfl, e1]; by_cases c9 : gCol (Ar 23) 4 e ≤ Ar 27 a - Ar 28 a; (· rw [if_pos c9, if_pos c9, if_pos c9]; exact vEq.rf); (· rw [if_neg c9, if_neg c9, if_neg c9]; exact ⟨rfl, rfl, (gPut_get Ar).symm⟩))
  by_cases e_6_1 : Ar 23 (e * 9 + 0) = 1
  · refine V_lookup (q := 38) (off := 32) dX2_takesEffect_6 (by decide) (by rw [e_6_1]; decide) (by decide) ?_
    refine V_aload_n (q := 39) dX2_takesEffect_38 rfl rfl ?_
    refine V_iload_n (q := 40) dX2_takesEffect_39 rfl rfl ?_
    refine V_cV1I (q := 43) (o := 4) (N := mX2_beginPledge) (tX2_beginPledge he ha hb h1 h2) hκ.big (by decide) gX2_beginPledge kl_X2_97 ki_X2_beginPledge ks_X2_beginPledge (by decide) rfl (Nat.le_of_ble_eq_true rfl) dX2_takesEffect_40 rfl ?_
    exact V_iret hκ rfl (by split <;> rfl) dX2_takesEffect_43 (by have k0 : ¬ gCol (Ar 23) 0 e = 0 := e_6_0; have k1 : gCol (Ar 23) 0 e = 1 := e_6_1; rw [gEf, gEff_1 k0 k1, show (gGet Ar).1 = Ar 27 from rfl, show (gGet Ar).2.1 = Ar 28 from rfl, e1]; by_cases c9 : gCol (Ar 23) 4 e ≤ Ar 27 a - Ar 28 a; (· rw [if_pos c9, if_pos c9, if_pos c9]; exact vEq.rf); (· rw [if_neg c9, if_neg c9, if_neg c9]; exact ⟨rfl, rfl, (gPut_get Ar).symm⟩))
  refine V_lookup (q := 44) (off := 38) dX2_takesEffect_6 (by decide) (by show Op.lookupswitch.offset [(0, 26), (1, 32)] 38 _ = _; rw [lv_osw e_6_0 (by decide), lv_osw e_6_1 (by decide)]; rfl) (by decide) ?_
  have k0 : ¬ gCol (Ar 23) 0 e = 0 := e_6_0
  have k1 : ¬ gCol (Ar 23) 0 e = 1 := e_6_1
  obtain ⟨q, hp, hpe⟩ : ∃ q, q < n ∧ gCol (Ar 23) 8 e = nI q := by
    rcases h3 with h3 | h3 | h3
    · exact absurd h3 k0
    · exact absurd h3 k1
    · exact h3
  obtain ⟨⟨ap, hap, h1p⟩, ⟨bp, hbp, h2p⟩, -⟩ := hok q hp
  have hpe2 : Ar 23 (e * 9 + 8) = nI q := hpe
  have e3 : gIx (gCol (Ar 23) 8) e = q := gIx_eq hpe (by omega)
  refine V_aload_n (q := 45) dX2_takesEffect_44 rfl rfl ?_
  refine V_aload_n (q := 46) dX2_takesEffect_45 rfl rfl ?_
  refine V_iload_n (q := 47) dX2_takesEffect_46 rfl rfl ?_
  refine V_bipush (q := 49) (v := 8) dX2_takesEffect_47 (by decide) rfl ?_
  refine V_cV2I (q := 52) (o := 4) (N := mX2_told) (tX2_told (c := 8) he (by decide)) hκ.big (by decide) gX2_told kl_X2_50 ki_X2_told ks_X2_told (by decide) rfl (Nat.le_of_ble_eq_true rfl) dX2_takesEffect_49 rfl ?_
  rw [hpe2]
  refine V_cV1I (q := 55) (o := 4) (N := mX2_endPledge) (tX2_endPledge hn hn60 hp hap hbp h1p h2p) hκ.big (by decide) gX2_endPledge kl_X2_100 ki_X2_endPledge ks_X2_endPledge (by decide) rfl (Nat.le_of_ble_eq_true rfl) dX2_takesEffect_52 rfl ?_
  exact V_iret hκ rfl (by split <;> rfl) dX2_takesEffect_55 (by rw [gEf, gEff_2 k0 k1, show (gGet Ar).2.2.2 = Ar 24 from rfl, e3]; by_cases c9 : Ar 24 q = 0; (· rw [if_pos c9, if_pos c9, if_pos c9]; exact ⟨rfl, rfl, (gPut_get Ar).symm⟩); (· rw [if_neg c9, if_neg c9, if_neg c9]; exact vEq.rf))
/-- at first person 0 has all parts of each hull -/
def gOw (f : Nat → Int32) : Nat → Nat → Int32
  | 0 => vFill f 40 0
  | h + 1 => upd (gOw f h) (h * 8 + 0) 64
def gZero (Ar : vAt) (n : Nat) : gT := (gOw (Ar 27) 5, vFill (Ar 28) 40 0, vFill (Ar 29) 40 0, vFill (Ar 24) n 0)
theorem lp_X2_begin2 {F : vFt} {Ar : vAt} {x : vXt} {n : Nat} {κ : vK} (hκ : vStd κ 1 x (vEq none F (gPut Ar (gZero Ar n)))) (hn : F 258 = nI n) (hn60 : n ≤ 60) : ∀ k i, i + k = n → V κ mX2_beginAnew 51 [.ref 4, .int (nI i)] [] F (vS (vS (vS (vS Ar 27 (gOw (Ar 27) 5)) 28 (vFill (Ar 28) 40 0)) 29 (vFill (Ar 29) 40 0)) 24 (vFill (Ar 24) i 0)) x := by
  intro k
  induction k with
  | zero =>
    intro i hi
    obtain rfl : i = n := by omega
    refine V_iload_n (q := 52) dX2_beginAnew_51 rfl rfl ?_
    refine V_aload_n (q := 53) dX2_beginAnew_52 rfl rfl ?_
    refine V_getI (q := 56) (n := 258) 4 2 kf_X2_42 (by decide) (by decide) rfl rfl dX2_beginAnew_53 rfl ?_
    rw [hn]
    refine V_icmp_ge (tgt := 72) (q := 59) dX2_beginAnew_56 (by decide) rfl (fun c_56 => ?_) (fun c_56 => absurd c_56 (v_gt (by omega) (by omega) (Nat.le_refl _)))
    exact V_vret hκ rfl dX2_beginAnew_72 ⟨rfl, rfl, rfl⟩
  | succ k ih =>
    intro i hi
    refine V_iload_n (q := 52) dX2_beginAnew_51 rfl rfl ?_
    refine V_aload_n (q := 53) dX2_beginAnew_52 rfl rfl ?_
    refine V_getI (q := 56) (n := 258) 4 2 kf_X2_42 (by decide) (by decide) rfl rfl dX2_beginAnew_53 rfl ?_
    rw [hn]
    refine V_icmp_ge (tgt := 72) (q := 59) dX2_beginAnew_56 (by decide) rfl (fun c_56 => absurd c_56 (v_gf (by omega) (by omega) (by omega))) (fun c_56 => ?_)
    refine V_aload_n (q := 60) dX2_beginAnew_59 rfl rfl ?_
    refine V_getR (q := 63) (n := 24) 4 1 kf_X2_17 (by decide) (by decide) rfl (by decide) dX2_beginAnew_60 rfl ?_
    refine V_iload_n (q := 64) dX2_beginAnew_63 rfl rfl ?_
    refine V_iconst (q := 65) (v := 0) dX2_beginAnew_64 (by decide) rfl ?_
    refine V_zst (q := 66) (i) 60 rfl (by omega) (by decide) (by omega) (by decide) rfl (by decide) dX2_beginAnew_65 rfl ?_
    refine V_iincN (q := 69) dX2_beginAnew_66 rfl (Nat.le_of_ble_eq_true rfl) rfl rfl ?_
    refine V_goto (q := 51) dX2_beginAnew_69 (by decide) ?_
    refine V_ar (vS (vS (vS (vS Ar 27 (gOw (Ar 27) 5)) 28 (vFill (Ar 28) 40 0)) 29 (vFill (Ar 29) 40 0)) 24 (vFill (Ar 24) (i + 1) 0)) (by rw [vS_at, vS_vS, show vp_nar .boolean 0 = 0 from rfl, vFill_s]) ?_
    exact ih (i + 1) (by omega)
theorem lp_X2_begin1 {F : vFt} {Ar : vAt} {x : vXt} {n : Nat} {κ : vK} (hκ : vStd κ 1 x (vEq none F (gPut Ar (gZero Ar n)))) (hn : F 258 = nI n) (hn60 : n ≤ 60) : ∀ k h, h + k = 5 → V κ mX2_beginAnew 26 [.ref 4, .int (nI h)] [] F (vS (vS (vS Ar 27 (gOw (Ar 27) h)) 28 (vFill (Ar 28) 40 0)) 29 (vFill (Ar 29) 40 0)) x := by
  intro k
  induction k with
  | zero =>
    intro h hi
    obtain rfl : h = 5 := by omega
    refine V_iload_n (q := 27) dX2_beginAnew_26 rfl rfl ?_
    refine V_iconst (q := 28) (v := 5) dX2_beginAnew_27 (by decide) rfl ?_
    refine V_icmp_ge (tgt := 49) (q := 31) dX2_beginAnew_28 (by decide) rfl (fun c_28 => ?_) (fun c_28 => absurd c_28 (v_gt (i := 5) (n := 5) (by decide) (by decide) (Nat.le_refl _)))
    refine V_iconst (q := 50) (v := 0) dX2_beginAnew_49 (by decide) rfl ?_
    refine V_istore_n (q := 51) dX2_beginAnew_50 (Nat.le_of_ble_eq_true rfl) rfl rfl ?_
    refine V_ar (vS (vS (vS (vS Ar 27 (gOw (Ar 27) 5)) 28 (vFill (Ar 28) 40 0)) 29 (vFill (Ar 29) 40 0)) 24 (vFill (Ar 24) 0 0)) (by rw [vFill_0]; exact vS_self.symm) ?_
    exact lp_X2_begin2 hκ hn hn60 n 0 (by omega)
  | succ k ih =>
    intro h hi
    refine V_iload_n (q := 27) dX2_beginAnew_26 rfl rfl ?_
    refine V_iconst (q := 28) (v := 5) dX2_beginAnew_27 (by decide) rfl ?_
    refine V_icmp_ge (tgt := 49) (q := 31) dX2_beginAnew_28 (by decide) rfl (fun c_28 => absurd c_28 (v_gf (n := 5) (by omega) (by decide) (by omega))) (fun c_28 => ?_)
    refine V_aload_n (q := 32) dX2_beginAnew_31 rfl rfl ?_
    refine V_getR (q := 35) (n := 27) 4 5 kf_X2_27 (by decide) (by decide) rfl (by decide) dX2_beginAnew_32 rfl ?_
    refine V_iload_n (q := 36) dX2_beginAnew_35 rfl rfl ?_
    refine V_iconst (q := 37) (v := 0) dX2_beginAnew_36 (by decide) rfl ?_
    refine V_cS2I (q := 40) (N := mX2_account) (tX2_account (c := 0)) hκ.big (by decide) gX2_account kl_X2_58 kt_X2_account (Nat.le_of_ble_eq_true rfl) dX2_beginAnew_37 rfl ?_
    refine V_bipush (q := 42) (v := 64) dX2_beginAnew_40 (by decide) rfl ?_
    refine V_ist (q := 43) (h * 8 + 0) 40 rfl (by omega) (by decide) (by omega) (by decide) rfl (by decide) dX2_beginAnew_42 rfl ?_
    refine V_iincN (q := 46) dX2_beginAnew_43 rfl (Nat.le_of_ble_eq_true rfl) rfl rfl ?_
    refine V_goto (q := 26) dX2_beginAnew_46 (by decide) ?_
    refine V_ar (vS (vS (vS Ar 27 (gOw (Ar 27) (h + 1))) 28 (vFill (Ar 28) 40 0)) 29 (vFill (Ar 29) 40 0)) (by rw [vS_comm (a := 29) (b := 27) (by decide), vS_comm (a := 28) (b := 27) (by decide), vS_vS]; rfl) ?_
    exact ih (h + 1) (by omega)
theorem tX2_beginAnew {F : vFt} {Ar : vAt} {x : vXt} {n : Nat} (hn : F 258 = nI n) (hn60 : n ≤ 60) : C0 mX2_beginAnew 1 [.ref 4] F Ar x (vEq none F (gPut Ar (gZero Ar n))) := by
  refine C0_of (by decide +kernel) (Nat.le_of_ble_eq_true rfl) (fun κ hκ => ?_)
  show V κ mX2_beginAnew 0 [.ref 4, .null] [] F Ar x
  refine V_aload_n (q := 1) dX2_beginAnew_0 rfl rfl ?_
  refine V_getR (q := 4) (n := 27) 4 5 kf_X2_27 (by decide) (by decide) rfl (by decide) dX2_beginAnew_1 rfl ?_
  refine V_iconst (q := 5) (v := 0) dX2_beginAnew_4 (by decide) rfl ?_
  refine V_cS2U (q := 8) (N := mJ7_fill_53178) (tJ7_fill_53178 (n := 40) (by decide) (by omega) (by decide) rfl (by decide)) hκ.big (by decide) gJ7_fill_53178 kl_X2_88 kt_J7_fill_53178 (Nat.le_of_ble_eq_true rfl) dX2_beginAnew_5 rfl ?_
  refine V_aload_n (q := 9) dX2_beginAnew_8 rfl rfl ?_
  refine V_getR (q := 12) (n := 28) 4 6 kf_X2_30 (by decide) (by decide) rfl (by decide) dX2_beginAnew_9 rfl ?_
  refine V_iconst (q := 13) (v := 0) dX2_beginAnew_12 (by decide) rfl ?_
  refine V_cS2U (q := 16) (N := mJ7_fill_53178) (tJ7_fill_53178 (n := 40) (by decide) (by omega) (by decide) rfl (by decide)) hκ.big (by decide) gJ7_fill_53178 kl_X2_88 kt_J7_fill_53178 (Nat.le_of_ble_eq_true rfl) dX2_beginAnew_13 rfl ?_
  refine V_aload_n (q := 17) dX2_beginAnew_16 rfl rfl ?_
  refine V_getR (q := 20) (n := 29) 4 7 kf_X2_33 (by decide) (by decide) rfl (by decide) dX2_beginAnew_17 rfl ?_
  refine V_iconst (q := 21) (v := 0) dX2_beginAnew_20 (by decide) rfl ?_
  refine V_cS2U (q := 24) (N := mJ7_fill_53178) (tJ7_fill_53178 (n := 40) (by decide) (by omega) (by decide) rfl (by decide)) hκ.big (by decide) gJ7_fill_53178 kl_X2_88 kt_J7_fill_53178 (Nat.le_of_ble_eq_true rfl) dX2_beginAnew_21 rfl ?_
  refine V_iconst (q := 25) (v := 0) dX2_beginAnew_24 (by decide) rfl ?_
  refine V_istore_n (q := 26) dX2_beginAnew_25 (Nat.le_of_ble_eq_true rfl) rfl rfl ?_
  exact lp_X2_begin1 hκ hn hn60 5 0 rfl
