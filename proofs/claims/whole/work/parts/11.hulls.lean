/-- a hull's numbers in its row; its measuring -/
def hSz (f : Nat → Int32) (h : Nat) (l b d r : Int32) : Nat → Int32 := upd (upd (upd (upd f (h * 7 + 0) l) (h * 7 + 1) b) (h * 7 + 2) d) (h * 7 + 3) r
def hMs (f : Nat → Int32) (h : Nat) (t d a : Int32) : Nat → Int32 := upd (upd (upd f (h * 7 + 4) t) (h * 7 + 5) d) (h * 7 + 6) a
theorem tX1_told {F : vFt} {Ar : vAt} {x : vXt} {h c : Nat} (hh : h < 5) (hc : c < 7) : C0 mX1_told 0 [.ref 3, .int (nI h), .int (nI c)] F Ar x (vEq (some (.int (Ar 22 (h * 7 + c)))) F Ar) := by
  refine C0_of (by decide +kernel) (Nat.le_of_ble_eq_true rfl) (fun κ hκ => ?_)
  show V κ mX1_told 0 [.ref 3, .int (nI h), .int (nI c)] [] F Ar x
  refine V_aload_n (q := 1) dX1_told_0 rfl rfl ?_
  refine V_getR (q := 4) (n := 22) 3 0 kf_X1_11 (by decide) (by decide) rfl (by decide) dX1_told_1 rfl ?_
  refine V_iload_n (q := 5) dX1_told_4 rfl rfl ?_
  refine V_bipush (q := 7) (v := 7) dX1_told_5 (by decide) rfl ?_
  refine V_imul (q := 8) dX1_told_7 rfl ?_
  refine V_iload_n (q := 9) dX1_told_8 rfl rfl ?_
  refine V_iadd (q := 10) dX1_told_9 rfl ?_
  refine V_ild (q := 11) (h * 7 + c) 35 (v_ma h 7 c) (by omega) (by decide) (by omega) (by decide) rfl (by decide) dX1_told_10 rfl ?_
  exact V_iret hκ rfl rfl dX1_told_11 vEq.rf
theorem tX1_setSizes {F : vFt} {Ar : vAt} {x : vXt} {h : Nat} {l b d r : Int32} (hh : h < 5) : C0 mX1_setSizes 0 [.ref 3, .int (nI h), .int l, .int b, .int d, .int r] F Ar x (vEq none F (vS Ar 22 (hSz (Ar 22) h l b d r))) := by
  refine C0_of (by decide +kernel) (Nat.le_of_ble_eq_true rfl) (fun κ hκ => ?_)
  show V κ mX1_setSizes 0 [.ref 3, .int (nI h), .int l, .int b, .int d, .int r, .null] [] F Ar x
  refine V_iload_n (q := 1) dX1_setSizes_0 rfl rfl ?_
  refine V_bipush (q := 3) (v := 7) dX1_setSizes_1 (by decide) rfl ?_
  refine V_imul (q := 4) dX1_setSizes_3 rfl ?_
  refine V_istore (q := 6) dX1_setSizes_4 (Nat.le_of_ble_eq_true rfl) rfl rfl ?_
  refine V_aload_n (q := 7) dX1_setSizes_6 rfl rfl ?_
  refine V_getR (q := 10) (n := 22) 3 0 kf_X1_11 (by decide) (by decide) rfl (by decide) dX1_setSizes_7 rfl ?_
  refine V_iload (q := 12) dX1_setSizes_10 rfl rfl ?_
  refine V_iconst (q := 13) (v := 0) dX1_setSizes_12 (by decide) rfl ?_
  refine V_iadd (q := 14) dX1_setSizes_13 rfl ?_
  refine V_iload_n (q := 15) dX1_setSizes_14 rfl rfl ?_
  refine V_ist (q := 16) (h * 7 + 0) 35 (v_ma h 7 0) (by omega) (by decide) (by omega) (by decide) rfl (by decide) dX1_setSizes_15 rfl ?_
  refine V_aload_n (q := 17) dX1_setSizes_16 rfl rfl ?_
  refine V_getR (q := 20) (n := 22) 3 0 kf_X1_11 (by decide) (by decide) rfl (by decide) dX1_setSizes_17 rfl ?_
  refine V_iload (q := 22) dX1_setSizes_20 rfl rfl ?_
  refine V_iconst (q := 23) (v := 1) dX1_setSizes_22 (by decide) rfl ?_
  refine V_iadd (q := 24) dX1_setSizes_23 rfl ?_
  refine V_iload_n (q := 25) dX1_setSizes_24 rfl rfl ?_
  refine V_ist (q := 26) (h * 7 + 1) 35 (v_ma h 7 1) (by omega) (by decide) (by omega) (by decide) rfl (by decide) dX1_setSizes_25 rfl ?_
  refine V_aload_n (q := 27) dX1_setSizes_26 rfl rfl ?_
  refine V_getR (q := 30) (n := 22) 3 0 kf_X1_11 (by decide) (by decide) rfl (by decide) dX1_setSizes_27 rfl ?_
  refine V_iload (q := 32) dX1_setSizes_30 rfl rfl ?_
  refine V_iconst (q := 33) (v := 2) dX1_setSizes_32 (by decide) rfl ?_
  refine V_iadd (q := 34) dX1_setSizes_33 rfl ?_
  refine V_iload (q := 36) dX1_setSizes_34 rfl rfl ?_
  refine V_ist (q := 37) (h * 7 + 2) 35 (v_ma h 7 2) (by omega) (by decide) (by omega) (by decide) rfl (by decide) dX1_setSizes_36 rfl ?_
  refine V_aload_n (q := 38) dX1_setSizes_37 rfl rfl ?_
  refine V_getR (q := 41) (n := 22) 3 0 kf_X1_11 (by decide) (by decide) rfl (by decide) dX1_setSizes_38 rfl ?_
  refine V_iload (q := 43) dX1_setSizes_41 rfl rfl ?_
  refine V_iconst (q := 44) (v := 3) dX1_setSizes_43 (by decide) rfl ?_
  refine V_iadd (q := 45) dX1_setSizes_44 rfl ?_
  refine V_iload (q := 47) dX1_setSizes_45 rfl rfl ?_
  refine V_ist (q := 48) (h * 7 + 3) 35 (v_ma h 7 3) (by omega) (by decide) (by omega) (by decide) rfl (by decide) dX1_setSizes_47 rfl ?_
  exact V_vret hκ rfl dX1_setSizes_48 ⟨rfl, rfl, by simp only [vS_vS, vS_at]; rfl⟩
theorem tX1_setMeasuring {F : vFt} {Ar : vAt} {x : vXt} {h : Nat} {t d a : Int32} (hh : h < 5) : C0 mX1_setMeasuring 0 [.ref 3, .int (nI h), .int t, .int d, .int a] F Ar x (vEq none F (vS Ar 22 (hMs (Ar 22) h t d a))) := by
  refine C0_of (by decide +kernel) (Nat.le_of_ble_eq_true rfl) (fun κ hκ => ?_)
  show V κ mX1_setMeasuring 0 [.ref 3, .int (nI h), .int t, .int d, .int a, .null] [] F Ar x
  refine V_iload_n (q := 1) dX1_setMeasuring_0 rfl rfl ?_
  refine V_bipush (q := 3) (v := 7) dX1_setMeasuring_1 (by decide) rfl ?_
  refine V_imul (q := 4) dX1_setMeasuring_3 rfl ?_
  refine V_istore (q := 6) dX1_setMeasuring_4 (Nat.le_of_ble_eq_true rfl) rfl rfl ?_
  refine V_aload_n (q := 7) dX1_setMeasuring_6 rfl rfl ?_
  refine V_getR (q := 10) (n := 22) 3 0 kf_X1_11 (by decide) (by decide) rfl (by decide) dX1_setMeasuring_7 rfl ?_
  refine V_iload (q := 12) dX1_setMeasuring_10 rfl rfl ?_
  refine V_iconst (q := 13) (v := 4) dX1_setMeasuring_12 (by decide) rfl ?_
  refine V_iadd (q := 14) dX1_setMeasuring_13 rfl ?_
  refine V_iload_n (q := 15) dX1_setMeasuring_14 rfl rfl ?_
  refine V_ist (q := 16) (h * 7 + 4) 35 (v_ma h 7 4) (by omega) (by decide) (by omega) (by decide) rfl (by decide) dX1_setMeasuring_15 rfl ?_
  refine V_aload_n (q := 17) dX1_setMeasuring_16 rfl rfl ?_
  refine V_getR (q := 20) (n := 22) 3 0 kf_X1_11 (by decide) (by decide) rfl (by decide) dX1_setMeasuring_17 rfl ?_
  refine V_iload (q := 22) dX1_setMeasuring_20 rfl rfl ?_
  refine V_iconst (q := 23) (v := 5) dX1_setMeasuring_22 (by decide) rfl ?_
  refine V_iadd (q := 24) dX1_setMeasuring_23 rfl ?_
  refine V_iload_n (q := 25) dX1_setMeasuring_24 rfl rfl ?_
  refine V_ist (q := 26) (h * 7 + 5) 35 (v_ma h 7 5) (by omega) (by decide) (by omega) (by decide) rfl (by decide) dX1_setMeasuring_25 rfl ?_
  refine V_aload_n (q := 27) dX1_setMeasuring_26 rfl rfl ?_
  refine V_getR (q := 30) (n := 22) 3 0 kf_X1_11 (by decide) (by decide) rfl (by decide) dX1_setMeasuring_27 rfl ?_
  refine V_iload (q := 32) dX1_setMeasuring_30 rfl rfl ?_
  refine V_bipush (q := 34) (v := 6) dX1_setMeasuring_32 (by decide) rfl ?_
  refine V_iadd (q := 35) dX1_setMeasuring_34 rfl ?_
  refine V_iload (q := 37) dX1_setMeasuring_35 rfl rfl ?_
  refine V_ist (q := 38) (h * 7 + 6) 35 (v_ma h 7 6) (by omega) (by decide) (by omega) (by decide) rfl (by decide) dX1_setMeasuring_37 rfl ?_
  exact V_vret hκ rfl dX1_setMeasuring_38 ⟨rfl, rfl, by simp only [vS_vS, vS_at]; rfl⟩
theorem tX1_add {F : vFt} {Ar : vAt} {x : vXt} {n : Nat} {l b d r : Int32} (hn : F 193 = nI n) (hn5 : n ≤ 5) : C0 mX1_add 1 [.ref 3, .int l, .int b, .int d, .int r] F Ar x (vEq (some (.int (if n < 5 then nI n else -2))) (if n < 5 then upd F 193 (nI (n + 1)) else F) (if n < 5 then vS Ar 22 (hMs (hSz (Ar 22) n l b d r) n (-10000000) (-10000000) (-10000000)) else Ar)) := by
  refine C0_of (by decide +kernel) (Nat.le_of_ble_eq_true rfl) (fun κ hκ => ?_)
  show V κ mX1_add 0 [.ref 3, .int l, .int b, .int d, .int r] [] F Ar x
  refine V_aload_n (q := 1) dX1_add_0 rfl rfl ?_
  refine V_getI (q := 4) (n := 193) 3 1 kf_X1_15 (by decide) (by decide) rfl rfl dX1_add_1 rfl ?_
  refine V_iconst (q := 5) (v := 5) dX1_add_4 (by decide) rfl ?_
  have h5 : nI n < nI 5 ↔ n < 5 := nI_ltI (by omega) (by decide)
  rw [hn]
  refine V_icmp_lt (tgt := 11) (q := 8) dX1_add_5 (by decide) rfl (fun c_5 => ?_) (fun c_5 => ?_)
  · refine V_aload_n (q := 12) dX1_add_11 rfl rfl ?_
    refine V_aload_n (q := 13) dX1_add_12 rfl rfl ?_
    refine V_getI (q := 16) (n := 193) 3 1 kf_X1_15 (by decide) (by decide) rfl rfl dX1_add_13 rfl ?_
    rw [hn]
    refine V_iload_n (q := 17) dX1_add_16 rfl rfl ?_
    refine V_iload_n (q := 18) dX1_add_17 rfl rfl ?_
    refine V_iload_n (q := 19) dX1_add_18 rfl rfl ?_
    refine V_iload (q := 21) dX1_add_19 rfl rfl ?_
    refine V_cV5U (q := 24) (o := 3) (N := mX1_setSizes) (tX1_setSizes (h5.mp c_5)) hκ.big (by decide) gX1_setSizes kl_X1_23 ki_X1_setSizes ks_X1_setSizes (by decide) rfl (Nat.le_of_ble_eq_true rfl) dX1_add_21 rfl ?_
    refine V_aload_n (q := 25) dX1_add_24 rfl rfl ?_
    refine V_aload_n (q := 26) dX1_add_25 rfl rfl ?_
    refine V_getI (q := 29) (n := 193) 3 1 kf_X1_15 (by decide) (by decide) rfl rfl dX1_add_26 rfl ?_
    rw [hn]
    refine V_ldc (q := 31) dX1_add_29 kc_X1_27 rfl ?_
    refine V_ldc (q := 33) dX1_add_31 kc_X1_27 rfl ?_
    refine V_ldc (q := 35) dX1_add_33 kc_X1_27 rfl ?_
    refine V_cV4U (q := 38) (o := 3) (N := mX1_setMeasuring) (tX1_setMeasuring (h5.mp c_5)) hκ.big (by decide) gX1_setMeasuring kl_X1_28 ki_X1_setMeasuring ks_X1_setMeasuring (by decide) rfl (Nat.le_of_ble_eq_true rfl) dX1_add_35 rfl ?_
    refine V_aload_n (q := 39) dX1_add_38 rfl rfl ?_
    refine V_dup (q := 40) dX1_add_39 rfl rfl ?_
    refine V_getI (q := 43) (n := 193) 3 1 kf_X1_15 (by decide) (by decide) rfl rfl dX1_add_40 rfl ?_
    refine V_iconst (q := 44) (v := 1) dX1_add_43 (by decide) rfl ?_
    refine V_iadd (q := 45) dX1_add_44 rfl ?_
    refine V_putI (q := 48) (n := 193) 3 1 kf_X1_15 (by decide) (by decide) rfl rfl dX1_add_45 rfl ?_
    refine V_aload_n (q := 49) dX1_add_48 rfl rfl ?_
    refine V_getI (q := 52) (n := 193) 3 1 kf_X1_15 (by decide) (by decide) rfl rfl dX1_add_49 rfl ?_
    refine V_iconst (q := 53) (v := 1) dX1_add_52 (by decide) rfl ?_
    refine V_isub (q := 54) dX1_add_53 rfl ?_
    exact V_iret hκ rfl rfl dX1_add_54 (by simp only [if_pos (h5.mp c_5)]; refine ⟨?_, ?_, ?_⟩; (· show some (Value.int (F 193 + 1 - 1)) = _; rw [hn, nI_1]; exact congrArg (fun z => some (Value.int z)) (nI_pred n)); (· rw [hn, nI_1]); (· rw [vS_vS, vS_at]))
  · refine V_bipush (q := 10) (v := (-2)) dX1_add_8 (by decide) rfl ?_
    exact V_iret hκ rfl rfl dX1_add_10 (by simp only [if_neg (fun h => c_5 (h5.mpr h) : ¬ n < 5)]; exact vEq.rf)
