def padA (Ar : vAt) (n : Nat) (a b c d m : Int32) : vAt := vS (vS (vS (vS (vS Ar 31 (upd (Ar 31) n a)) 32 (upd (Ar 32) n b)) 33 (upd (Ar 33) n c)) 34 (upd (Ar 34) n d)) 35 (upd (Ar 35) n m)
/-- who is alike with paper n, of the first i -/
def adLk (Ar : vAt) (n : Nat) : Nat → Nat → Int32
  | 0 => Ar 36
  | i + 1 => lSet (adLk Ar n i) i n (decide (sAl Ar i n))
def addP (Ar : vAt) (n : Nat) (a b c d m : Int32) (i : Nat) : vAt := vS (padA Ar n a b c d m) 36 (adLk (padA Ar n a b c d m) n i)
def paddQ (n : Nat) (a b c d m : Int32) (F : vFt) (Ar : vAt) : Option Value → vFt → vAt → Prop := fun r F' Ar' =>
  if ¬ n < 8 then vEq (some (.int (-2))) F Ar r F' Ar'
  else r = some (.int (nI n)) ∧ F' = upd (upd F 325 (nI (n + 1))) 331 (nI (jM (Lk (addP Ar n a b c d m n)) (n + 1))) ∧ (∀ z, z ≠ 38 → z ≠ 39 → Ar' z = addP Ar n a b c d m n z) ∧ ∀ i, i < n + 1 → Ar' 38 i = nI (jG (Lk (addP Ar n a b c d m n)) (n + 1) i)
theorem vB_dec {p : Prop} [Decidable p] : vB p = (if decide p = true then 1 else 0) := by
  unfold vB
  by_cases h : p <;> simp [h]
theorem lp_X3_add {F : vFt} {Ar : vAt} {x : vXt} {n : Nat} {a b c d m : Int32} {κ : vK} (hκ : vStd κ 21 x (paddQ n a b c d m F Ar)) (hF : F 325 = nI n) (hn8 : n < 8) : ∀ k i, i + k = n → V κ mX3_add 67 [.ref 5, .int a, .int b, .int c, .int d, .int m, .int (nI i)] [] F (addP Ar n a b c d m i) x := by
  intro k
  induction k with
  | zero =>
    intro i hi
    obtain rfl : i = n := by omega
    refine V_iload (q := 69) dX3_add_67 rfl rfl ?_
    refine V_aload_n (q := 70) dX3_add_69 rfl rfl ?_
    refine V_getI (q := 73) (n := 325) 5 5 kf_X3_39 (by decide) (by decide) rfl rfl dX3_add_70 rfl ?_
    rw [hF]
    refine V_icmp_ge (tgt := 102) (q := 76) dX3_add_73 (by decide) rfl (fun c_73 => ?_) (fun c_73 => absurd c_73 (v_gt (by omega) (by omega) (Nat.le_refl _)))
    refine V_aload_n (q := 103) dX3_add_102 rfl rfl ?_
    refine V_dup (q := 104) dX3_add_103 rfl rfl ?_
    refine V_getI (q := 107) (n := 325) 5 5 kf_X3_39 (by decide) (by decide) rfl rfl dX3_add_104 rfl ?_
    refine V_iconst (q := 108) (v := 1) dX3_add_107 (by decide) rfl ?_
    refine V_iadd (q := 109) dX3_add_108 rfl ?_
    refine V_putI (q := 112) (n := 325) 5 5 kf_X3_39 (by decide) (by decide) rfl rfl dX3_add_109 rfl ?_
    refine V_fl (upd F 325 (nI (i + 1))) (by rw [hF, nI_1]) ?_
    refine V_aload_n (q := 113) dX3_add_112 rfl rfl ?_
    refine V_cV0 (q := 116) (o := 5) (N := mX3_joinAnew) (tX3_joinAnew (n := i + 1) rfl (by omega) (by omega)) hκ.big (by decide) gX3_joinAnew kl_X3_68 ki_X3_joinAnew ks_X3_joinAnew (by decide) rfl (Nat.le_of_ble_eq_true rfl) dX3_add_113 rfl (fun r F9 Ar9 h9 => ?_)
    obtain ⟨rfl, rfl, hfr9, hg9⟩ := h9
    show V κ mX3_add 116 [.ref 5, .int a, .int b, .int c, .int d, .int m, .int (nI i)] [] _ _ x
    refine V_aload_n (q := 117) dX3_add_116 rfl rfl ?_
    refine V_getI (q := 120) (n := 325) 5 5 kf_X3_39 (by decide) (by decide) rfl rfl dX3_add_117 rfl ?_
    refine V_iconst (q := 121) (v := 1) dX3_add_120 (by decide) rfl ?_
    refine V_isub (q := 122) dX3_add_121 rfl ?_
    exact V_iret hκ rfl rfl dX3_add_122 (by unfold paddQ; rw [if_neg (fun h => h hn8)]; exact ⟨congrArg (fun z => some (Value.int z)) (nI_pred i), rfl, hfr9, hg9⟩)
  | succ k ih =>
    intro i hi
    refine V_iload (q := 69) dX3_add_67 rfl rfl ?_
    refine V_aload_n (q := 70) dX3_add_69 rfl rfl ?_
    refine V_getI (q := 73) (n := 325) 5 5 kf_X3_39 (by decide) (by decide) rfl rfl dX3_add_70 rfl ?_
    rw [hF]
    refine V_icmp_ge (tgt := 102) (q := 76) dX3_add_73 (by decide) rfl (fun c_73 => absurd c_73 (v_gf (by omega) (by omega) (by omega))) (fun c_73 => ?_)
    refine V_aload_n (q := 77) dX3_add_76 rfl rfl ?_
    refine V_iload (q := 79) dX3_add_77 rfl rfl ?_
    refine V_aload_n (q := 80) dX3_add_79 rfl rfl ?_
    refine V_getI (q := 83) (n := 325) 5 5 kf_X3_39 (by decide) (by decide) rfl rfl dX3_add_80 rfl ?_
    rw [hF]
    refine V_aload_n (q := 84) dX3_add_83 rfl rfl ?_
    refine V_iload (q := 86) dX3_add_84 rfl rfl ?_
    refine V_aload_n (q := 87) dX3_add_86 rfl rfl ?_
    refine V_getI (q := 90) (n := 325) 5 5 kf_X3_39 (by decide) (by decide) rfl rfl dX3_add_87 rfl ?_
    rw [hF]
    refine V_cV2I (q := 93) (o := 5) (N := mX3_seemAlike) (tX3_seemAlike (a := i) (b := n) (by omega) (by omega)) hκ.big (by decide) gX3_seemAlike kl_X3_61 ki_X3_seemAlike ks_X3_seemAlike (by decide) rfl (Nat.le_of_ble_eq_true rfl) dX3_add_90 rfl ?_
    refine V_top (if decide (sAl (padA Ar n a b c d m) i n) = true then 1 else 0) vB_dec ?_
    refine V_cV3U (q := 96) (o := 5) (N := mX3_setLike) (tX3_setLike (a := i) (b := n) (yes := decide (sAl (padA Ar n a b c d m) i n)) (by omega) (by omega) (by omega)) hκ.big (by decide) gX3_setLike kl_X3_64 ki_X3_setLike ks_X3_setLike (by decide) rfl (Nat.le_of_ble_eq_true rfl) dX3_add_93 rfl ?_
    refine V_iincN (q := 99) dX3_add_96 rfl (Nat.le_of_ble_eq_true rfl) rfl rfl ?_
    refine V_goto (q := 67) dX3_add_99 (by decide) ?_
    refine V_ar (addP Ar n a b c d m (i + 1)) (by unfold addP; rw [vS_vS, vS_at]; rfl) ?_
    exact ih (i + 1) (by omega)
theorem tX3_add {F : vFt} {Ar : vAt} {x : vXt} {n : Nat} {a b c d m : Int32} (hF : F 325 = nI n) (hn8 : n ≤ 8) : C0 mX3_add 21 [.ref 5, .int a, .int b, .int c, .int d, .int m] F Ar x (paddQ n a b c d m F Ar) := by
  refine C0_of (by decide +kernel) (Nat.le_of_ble_eq_true rfl) (fun κ hκ => ?_)
  show V κ mX3_add 0 [.ref 5, .int a, .int b, .int c, .int d, .int m, .null] [] F Ar x
  refine V_aload_n (q := 1) dX3_add_0 rfl rfl ?_
  refine V_getI (q := 4) (n := 325) 5 5 kf_X3_39 (by decide) (by decide) rfl rfl dX3_add_1 rfl ?_
  refine V_bipush (q := 6) (v := 8) dX3_add_4 (by decide) rfl ?_
  have h6 : nI n < nI 8 ↔ n < 8 := nI_ltI (by omega) (by decide)
  rw [hF]
  refine V_icmp_lt (tgt := 12) (q := 9) dX3_add_6 (by decide) rfl (fun c_6 => ?_) (fun c_6 => ?_)
  · refine V_aload_n (q := 13) dX3_add_12 rfl rfl ?_
    refine V_getR (q := 16) (n := 31) 5 0 kf_X3_11 (by decide) (by decide) rfl (by decide) dX3_add_13 rfl ?_
    refine V_aload_n (q := 17) dX3_add_16 rfl rfl ?_
    refine V_getI (q := 20) (n := 325) 5 5 kf_X3_39 (by decide) (by decide) rfl rfl dX3_add_17 rfl ?_
    rw [hF]
    refine V_iload_n (q := 21) dX3_add_20 rfl rfl ?_
    refine V_ist (q := 22) (n) 8 rfl (h6.mp c_6) (by decide) (by omega) (by decide) rfl (by decide) dX3_add_21 rfl ?_
    refine V_aload_n (q := 23) dX3_add_22 rfl rfl ?_
    refine V_getR (q := 26) (n := 32) 5 1 kf_X3_15 (by decide) (by decide) rfl (by decide) dX3_add_23 rfl ?_
    refine V_aload_n (q := 27) dX3_add_26 rfl rfl ?_
    refine V_getI (q := 30) (n := 325) 5 5 kf_X3_39 (by decide) (by decide) rfl rfl dX3_add_27 rfl ?_
    rw [hF]
    refine V_iload_n (q := 31) dX3_add_30 rfl rfl ?_
    refine V_ist (q := 32) (n) 8 rfl (h6.mp c_6) (by decide) (by omega) (by decide) rfl (by decide) dX3_add_31 rfl ?_
    refine V_aload_n (q := 33) dX3_add_32 rfl rfl ?_
    refine V_getR (q := 36) (n := 33) 5 2 kf_X3_18 (by decide) (by decide) rfl (by decide) dX3_add_33 rfl ?_
    refine V_aload_n (q := 37) dX3_add_36 rfl rfl ?_
    refine V_getI (q := 40) (n := 325) 5 5 kf_X3_39 (by decide) (by decide) rfl rfl dX3_add_37 rfl ?_
    rw [hF]
    refine V_iload_n (q := 41) dX3_add_40 rfl rfl ?_
    refine V_ist (q := 42) (n) 8 rfl (h6.mp c_6) (by decide) (by omega) (by decide) rfl (by decide) dX3_add_41 rfl ?_
    refine V_aload_n (q := 43) dX3_add_42 rfl rfl ?_
    refine V_getR (q := 46) (n := 34) 5 3 kf_X3_21 (by decide) (by decide) rfl (by decide) dX3_add_43 rfl ?_
    refine V_aload_n (q := 47) dX3_add_46 rfl rfl ?_
    refine V_getI (q := 50) (n := 325) 5 5 kf_X3_39 (by decide) (by decide) rfl rfl dX3_add_47 rfl ?_
    rw [hF]
    refine V_iload (q := 52) dX3_add_50 rfl rfl ?_
    refine V_ist (q := 53) (n) 8 rfl (h6.mp c_6) (by decide) (by omega) (by decide) rfl (by decide) dX3_add_52 rfl ?_
    refine V_aload_n (q := 54) dX3_add_53 rfl rfl ?_
    refine V_getR (q := 57) (n := 35) 5 4 kf_X3_24 (by decide) (by decide) rfl (by decide) dX3_add_54 rfl ?_
    refine V_aload_n (q := 58) dX3_add_57 rfl rfl ?_
    refine V_getI (q := 61) (n := 325) 5 5 kf_X3_39 (by decide) (by decide) rfl rfl dX3_add_58 rfl ?_
    rw [hF]
    refine V_iload (q := 63) dX3_add_61 rfl rfl ?_
    refine V_ist (q := 64) (n) 8 rfl (h6.mp c_6) (by decide) (by omega) (by decide) rfl (by decide) dX3_add_63 rfl ?_
    refine V_iconst (q := 65) (v := 0) dX3_add_64 (by decide) rfl ?_
    refine V_istore (q := 67) dX3_add_65 (Nat.le_of_ble_eq_true rfl) rfl rfl ?_
    refine V_ar (addP Ar n a b c d m 0) (by unfold addP adLk; exact (vS_self (Ar := padA Ar n a b c d m) (a := 36)).symm) ?_
    exact lp_X3_add hκ hF (h6.mp c_6) n 0 (by omega)
  · refine V_bipush (q := 11) (v := (-2)) dX3_add_9 (by decide) rfl ?_
    exact V_iret hκ rfl rfl dX3_add_11 (by unfold paddQ; rw [if_pos (fun h => c_6 (h6.mpr h))]; exact vEq.rf)
