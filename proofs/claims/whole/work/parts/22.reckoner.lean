def jn (c : Int32) (a b : Int64) : Int64 := if c = 43 then a + b else if c = 45 then a - b else if c = 42 then a * b else if b = 0 then 0 else a / b
def bnd (v : Int64) : Int32 := if v ≤ 999999 then (if -999999 ≤ v then v.toInt32 else -999999) else 999999
theorem lg_cmp_z (x y : Int64) : lg_cmp x y = 0 ↔ x = y := by
  unfold lg_cmp
  split
  · rename_i h
    constructor
    · intro q; exact absurd q (by decide)
    · intro q; subst q; exact absurd h (by rw [gt_iff_lt, Int64.lt_iff_toInt_lt]; omega)
  · split
    · simp_all
    · simp_all
theorem tX4_joined {F : vFt} {Ar : vAt} {x : vXt} {c : Int32} {a b : Int64}  : C0 mX4_joined 0 [.int c, .long a, .long b] F Ar x (vEq (some (.long (jn c a b))) F Ar) := by
  refine C0_of (by decide +kernel) (Nat.le_of_ble_eq_true rfl) (fun κ hκ => ?_)
  show V κ mX4_joined 0 [.int c, .long a, .null, .long b, .null] [] F Ar x
  refine V_iload_n (q := 1) dX4_joined_0 rfl rfl ?_
  by_cases e_1_42 : c = 42
  · refine V_tableIn (q := 40) (off := 39) dX4_joined_1 (by rw [e_1_42]; decide) (by rw [e_1_42]; decide) (by rw [e_1_42]; decide) (by decide) ?_
    refine V_lload_n (q := 41) dX4_joined_40 rfl rfl ?_
    refine V_lload_n (q := 42) dX4_joined_41 rfl rfl ?_
    refine V_lmul (q := 43) dX4_joined_42 rfl ?_
    exact V_lret hκ rfl dX4_joined_43 ⟨by simp [jn, e_1_42], rfl, rfl⟩
  by_cases e_1_43 : c = 43
  · refine V_tableIn (q := 32) (off := 31) dX4_joined_1 (by rw [e_1_43]; decide) (by rw [e_1_43]; decide) (by rw [e_1_43]; decide) (by decide) ?_
    refine V_lload_n (q := 33) dX4_joined_32 rfl rfl ?_
    refine V_lload_n (q := 34) dX4_joined_33 rfl rfl ?_
    refine V_ladd (q := 35) dX4_joined_34 rfl ?_
    exact V_lret hκ rfl dX4_joined_35 ⟨by simp [jn, e_1_43], rfl, rfl⟩
  by_cases e_1_44 : c = 44
  · refine V_tableIn (q := 44) (off := 43) dX4_joined_1 (by rw [e_1_44]; decide) (by rw [e_1_44]; decide) (by rw [e_1_44]; decide) (by decide) ?_
    refine V_lload_n (q := 45) dX4_joined_44 rfl rfl ?_
    refine V_lconst (q := 46) (v := 0) dX4_joined_45 (by decide) rfl ?_
    refine V_lcmp (q := 47) dX4_joined_46 rfl ?_
    refine V_if_ne (tgt := 54) (q := 50) dX4_joined_47 (by decide) rfl (fun c_47 => ?_) (fun c_47 => ?_)
    · refine V_lload_n (q := 55) dX4_joined_54 rfl rfl ?_
      refine V_lload_n (q := 56) dX4_joined_55 rfl rfl ?_
      refine V_ldiv (q := 57) dX4_joined_56 (fun q => c_47 ((lg_cmp_z b 0).mpr q)) rfl ?_
      exact V_lret hκ rfl dX4_joined_57 ⟨by simp [jn, e_1_44, show ¬ b = 0 from fun q => c_47 ((lg_cmp_z b 0).mpr q)], rfl, rfl⟩
    · refine V_lconst (q := 51) (v := 0) dX4_joined_50 (by decide) rfl ?_
      refine V_goto (q := 57) dX4_joined_51 (by decide) ?_
      exact V_lret hκ rfl dX4_joined_57 ⟨by simp [jn, e_1_44, (lg_cmp_z b 0).mp c_47], rfl, rfl⟩
  by_cases e_1_45 : c = 45
  · refine V_tableIn (q := 36) (off := 35) dX4_joined_1 (by rw [e_1_45]; decide) (by rw [e_1_45]; decide) (by rw [e_1_45]; decide) (by decide) ?_
    refine V_lload_n (q := 37) dX4_joined_36 rfl rfl ?_
    refine V_lload_n (q := 38) dX4_joined_37 rfl rfl ?_
    refine V_lsub (q := 39) dX4_joined_38 rfl ?_
    exact V_lret hκ rfl dX4_joined_39 ⟨by simp [jn, e_1_45], rfl, rfl⟩
  refine V_tableOut (q := 44) dX4_joined_1 (by have h42 := lv_neT e_1_42 (a := 42) (by decide); have h43 := lv_neT e_1_43 (a := 43) (by decide); have h44 := lv_neT e_1_44 (a := 44) (by decide); have h45 := lv_neT e_1_45 (a := 45) (by decide); omega) (by decide) ?_
  refine V_lload_n (q := 45) dX4_joined_44 rfl rfl ?_
  refine V_lconst (q := 46) (v := 0) dX4_joined_45 (by decide) rfl ?_
  refine V_lcmp (q := 47) dX4_joined_46 rfl ?_
  refine V_if_ne (tgt := 54) (q := 50) dX4_joined_47 (by decide) rfl (fun c_47 => ?_) (fun c_47 => ?_)
  · refine V_lload_n (q := 55) dX4_joined_54 rfl rfl ?_
    refine V_lload_n (q := 56) dX4_joined_55 rfl rfl ?_
    refine V_ldiv (q := 57) dX4_joined_56 (fun q => c_47 ((lg_cmp_z b 0).mpr q)) rfl ?_
    exact V_lret hκ rfl dX4_joined_57 ⟨by simp [jn, e_1_42, e_1_43, e_1_45, show ¬ b = 0 from fun q => c_47 ((lg_cmp_z b 0).mpr q)], rfl, rfl⟩
  · refine V_lconst (q := 51) (v := 0) dX4_joined_50 (by decide) rfl ?_
    refine V_goto (q := 57) dX4_joined_51 (by decide) ?_
    exact V_lret hκ rfl dX4_joined_57 ⟨by simp [jn, e_1_42, e_1_43, e_1_45, (lg_cmp_z b 0).mp c_47], rfl, rfl⟩
theorem tX4_bounded {F : vFt} {Ar : vAt} {x : vXt} {v : Int64}  : C0 mX4_bounded 0 [.long v] F Ar x (vEq (some (.int (bnd v))) F Ar) := by
  refine C0_of (by decide +kernel) (Nat.le_of_ble_eq_true rfl) (fun κ hκ => ?_)
  show V κ mX4_bounded 0 [.long v, .null] [] F Ar x
  refine V_lload_n (q := 1) dX4_bounded_0 rfl rfl ?_
  refine V_ldc2 (q := 4) dX4_bounded_1 kc_X4_70 rfl ?_
  refine V_lcmp (q := 5) dX4_bounded_4 rfl ?_
  refine V_if_le (tgt := 11) (q := 8) dX4_bounded_5 (by decide) rfl (fun c_5 => ?_) (fun c_5 => ?_)
  · refine V_lload_n (q := 12) dX4_bounded_11 rfl rfl ?_
    refine V_ldc2 (q := 15) dX4_bounded_12 kc_X4_73 rfl ?_
    refine V_lcmp (q := 16) dX4_bounded_15 rfl ?_
    refine V_if_ge (tgt := 24) (q := 19) dX4_bounded_16 (by decide) rfl (fun c_16 => ?_) (fun c_16 => ?_)
    · refine V_lload_n (q := 25) dX4_bounded_24 rfl rfl ?_
      refine V_l2i (q := 26) dX4_bounded_25 rfl ?_
      exact V_iret hκ rfl rfl dX4_bounded_26 ⟨by rw [lg_cmp_le] at c_5; rw [lg_cmp_ge] at c_16; simp only [bnd, if_pos c_5, if_pos c_16], rfl, rfl⟩
    · refine V_ldc (q := 21) dX4_bounded_19 kc_X4_75 rfl ?_
      refine V_goto (q := 26) dX4_bounded_21 (by decide) ?_
      exact V_iret hκ rfl rfl dX4_bounded_26 ⟨by rw [lg_cmp_le] at c_5; rw [lg_cmp_ge] at c_16; simp only [bnd, if_pos c_5, if_neg c_16], rfl, rfl⟩
  · refine V_ldc (q := 10) dX4_bounded_8 kc_X4_72 rfl ?_
    exact V_iret hκ rfl rfl dX4_bounded_10 ⟨by rw [lg_cmp_le] at c_5; simp only [bnd, if_neg c_5], rfl, rfl⟩
abbrev rS : Type := (Nat → Int32) × Nat × Nat
def rF (F : vFt) (s : rS) : vFt := upd (upd F 129 (nI s.2.1)) 130 (nI s.2.2)
def rA (Ar : vAt) (s : rS) : vAt := vS Ar 21 s.1
theorem rF_h {F : vFt} {s : rS} {h : Nat} : upd (rF F s) 129 (nI h) = rF F (s.1, h, s.2.2) := by
  unfold rF
  rw [upd_comm (by decide), upd_upd]
theorem rF_g {F : vFt} {s : rS} {g : Nat} : upd (rF F s) 130 (nI g) = rF F (s.1, s.2.1, g) := by
  unfold rF
  rw [upd_upd]
theorem rA_p {Ar : vAt} {s : rS} {f : Nat → Int32} : vS (rA Ar s) 21 f = rA Ar (f, s.2) := by
  unfold rA
  rw [vS_vS]
def rPush (v : Int32) (s : rS) : Bool × rS := if s.2.1 < 40 then (true, upd s.1 s.2.1 v, s.2.1 + 1, s.2.2) else (false, s)
def rFig (v : Int32) (s : rS) : Bool × rS := if s.2.2 = 0 then rPush v (s.1, s.2.1, 1) else if 4 < s.2.2 + 1 ∨ s.2.1 = 0 then (false, s.1, s.2.1, s.2.2 + 1) else (true, upd s.1 (s.2.1 - 1) (s.1 (s.2.1 - 1) * 10 + v), s.2.1, s.2.2 + 1)
def rLift (s : rS) : Bool × rS := if s.2.1 = 0 then (false, s) else (true, upd s.1 (s.2.1 - 1) (if s.1 (s.2.1 - 1) < 0 then 0 else s.1 (s.2.1 - 1)), s.2.1, s.2.2)
def rJoin (c : Int32) (s : rS) : Bool × rS := if s.2.1 < 2 then (false, s) else (true, upd s.1 (s.2.1 - 2) (bnd (jn c (s.1 (s.2.1 - 2)).toInt64 (s.1 (s.2.1 - 1)).toInt64)), s.2.1 - 1, s.2.2)
theorem tX4_push {F : vFt} {Ar : vAt} {x : vXt} {v : Int32} {s : rS} (hh : s.2.1 ≤ 40) : C0 mX4_push 0 [.ref 2, .int v] (rF F s) (rA Ar s) x (vEq (some (.int (if (rPush v s).1 = true then 1 else 0))) (rF F (rPush v s).2) (rA Ar (rPush v s).2)) := by
  refine C0_of (by decide +kernel) (Nat.le_of_ble_eq_true rfl) (fun κ hκ => ?_)
  show V κ mX4_push 0 [.ref 2, .int v] [] (rF F s) (rA Ar s) x
  have h40 : nI s.2.1 < nI 40 ↔ s.2.1 < 40 := nI_ltI (by omega) (by decide)
  refine V_aload_n (q := 1) dX4_push_0 rfl rfl ?_
  refine V_getI (q := 4) (n := 129) 2 1 kf_X4_28 (by decide) (by decide) rfl rfl dX4_push_1 rfl ?_
  refine V_aload_n (q := 5) dX4_push_4 rfl rfl ?_
  refine V_getR (q := 8) (n := 21) 2 0 kf_X4_11 (by decide) (by decide) rfl (by decide) dX4_push_5 rfl ?_
  refine V_alen (q := 9) (by decide) (by omega) rfl dX4_push_8 rfl ?_
  refine V_icmp_lt (tgt := 14) (q := 12) dX4_push_9 (by decide) rfl (fun c_9 => ?_) (fun c_9 => ?_)
  · refine V_aload_n (q := 15) dX4_push_14 rfl rfl ?_
    refine V_getR (q := 18) (n := 21) 2 0 kf_X4_11 (by decide) (by decide) rfl (by decide) dX4_push_15 rfl ?_
    refine V_aload_n (q := 19) dX4_push_18 rfl rfl ?_
    refine V_getI (q := 22) (n := 129) 2 1 kf_X4_28 (by decide) (by decide) rfl rfl dX4_push_19 rfl ?_
    refine V_iload_n (q := 23) dX4_push_22 rfl rfl ?_
    refine V_ist (q := 24) (s.2.1) 40 rfl (h40.mp c_9) (by decide) (by omega) (by decide) rfl (by decide) dX4_push_23 rfl ?_
    refine V_aload_n (q := 25) dX4_push_24 rfl rfl ?_
    refine V_dup (q := 26) dX4_push_25 rfl rfl ?_
    refine V_getI (q := 29) (n := 129) 2 1 kf_X4_28 (by decide) (by decide) rfl rfl dX4_push_26 rfl ?_
    refine V_iconst (q := 30) (v := 1) dX4_push_29 (by decide) rfl ?_
    refine V_iadd (q := 31) dX4_push_30 rfl ?_
    refine V_putI (q := 34) (n := 129) 2 1 kf_X4_28 (by decide) (by decide) rfl rfl dX4_push_31 rfl ?_
    refine V_iconst (q := 35) (v := 1) dX4_push_34 (by decide) rfl ?_
    exact V_iret hκ rfl rfl dX4_push_35 (by have k := h40.mp c_9; simp only [rPush, if_pos k]; exact ⟨rfl, (congrArg (upd (rF F s) 129) (nI_1 s.2.1)).trans rF_h, rA_p⟩)
  · refine V_iconst (q := 13) (v := 0) dX4_push_12 (by decide) rfl ?_
    exact V_iret hκ rfl rfl dX4_push_13 (by have k : ¬ s.2.1 < 40 := fun h => c_9 (h40.mpr h); simp only [rPush, if_neg k]; exact vEq.rf)
theorem tX4_readFigure {F : vFt} {Ar : vAt} {x : vXt} {v : Int32} {s : rS} (hh : s.2.1 ≤ 40) (hg : s.2.2 ≤ 40) : C0 mX4_readFigure 1 [.ref 2, .int v] (rF F s) (rA Ar s) x (vEq (some (.int (if (rFig v s).1 = true then 1 else 0))) (rF F (rFig v s).2) (rA Ar (rFig v s).2)) := by
  refine C0_of (by decide +kernel) (Nat.le_of_ble_eq_true rfl) (fun κ hκ => ?_)
  show V κ mX4_readFigure 0 [.ref 2, .int v] [] (rF F s) (rA Ar s) x
  refine V_aload_n (q := 1) dX4_readFigure_0 rfl rfl ?_
  refine V_dup (q := 2) dX4_readFigure_1 rfl rfl ?_
  refine V_getI (q := 5) (n := 130) 2 2 kf_X4_31 (by decide) (by decide) rfl rfl dX4_readFigure_2 rfl ?_
  refine V_iconst (q := 6) (v := 1) dX4_readFigure_5 (by decide) rfl ?_
  refine V_iadd (q := 7) dX4_readFigure_6 rfl ?_
  refine V_putI (q := 10) (n := 130) 2 2 kf_X4_31 (by decide) (by decide) rfl rfl dX4_readFigure_7 rfl ?_
  refine V_fl (rF F (s.1, s.2.1, s.2.2 + 1)) ((congrArg (upd (rF F s) 130) (nI_1 s.2.2)).trans rF_g) ?_
  have g1 : nI (s.2.2 + 1) = nI 1 ↔ s.2.2 + 1 = 1 := nI_eq (by omega) (by decide)
  have g4 : nI 4 < nI (s.2.2 + 1) ↔ 4 < s.2.2 + 1 := nI_ltI (by decide) (by omega)
  have h1 : nI 1 ≤ nI s.2.1 ↔ 1 ≤ s.2.1 := nI_leI (by decide) (by omega)
  refine V_aload_n (q := 11) dX4_readFigure_10 rfl rfl ?_
  refine V_getI (q := 14) (n := 130) 2 2 kf_X4_31 (by decide) (by decide) rfl rfl dX4_readFigure_11 rfl ?_
  refine V_iconst (q := 15) (v := 1) dX4_readFigure_14 (by decide) rfl ?_
  refine V_icmp_ne (tgt := 24) (q := 18) dX4_readFigure_15 (by decide) rfl (fun c_15 => ?_) (fun c_15 => ?_)
  · refine V_aload_n (q := 25) dX4_readFigure_24 rfl rfl ?_
    refine V_getI (q := 28) (n := 130) 2 2 kf_X4_31 (by decide) (by decide) rfl rfl dX4_readFigure_25 rfl ?_
    refine V_iconst (q := 29) (v := 4) dX4_readFigure_28 (by decide) rfl ?_
    refine V_icmp_gt (tgt := 40) (q := 32) dX4_readFigure_29 (by decide) rfl (fun c_29 => ?_) (fun c_29 => ?_)
    · refine V_iconst (q := 41) (v := 0) dX4_readFigure_40 (by decide) rfl ?_
      exact V_iret hκ rfl rfl dX4_readFigure_41 (by have k0 : ¬ s.2.2 = 0 := fun h => c_15 (g1.mpr (by omega)); simp only [rFig, if_neg k0, if_pos (show 4 < s.2.2 + 1 ∨ s.2.1 = 0 from Or.inl (g4.mp c_29))]; exact vEq.rf)
    · refine V_aload_n (q := 33) dX4_readFigure_32 rfl rfl ?_
      refine V_getI (q := 36) (n := 129) 2 1 kf_X4_28 (by decide) (by decide) rfl rfl dX4_readFigure_33 rfl ?_
      refine V_iconst (q := 37) (v := 1) dX4_readFigure_36 (by decide) rfl ?_
      refine V_icmp_ge (tgt := 42) (q := 40) dX4_readFigure_37 (by decide) rfl (fun c_37 => ?_) (fun c_37 => ?_)
      · refine V_aload_n (q := 43) dX4_readFigure_42 rfl rfl ?_
        refine V_getR (q := 46) (n := 21) 2 0 kf_X4_11 (by decide) (by decide) rfl (by decide) dX4_readFigure_43 rfl ?_
        refine V_aload_n (q := 47) dX4_readFigure_46 rfl rfl ?_
        refine V_getI (q := 50) (n := 129) 2 1 kf_X4_28 (by decide) (by decide) rfl rfl dX4_readFigure_47 rfl ?_
        refine V_iconst (q := 51) (v := 1) dX4_readFigure_50 (by decide) rfl ?_
        refine V_isub (q := 52) dX4_readFigure_51 rfl ?_
        refine V_aload_n (q := 53) dX4_readFigure_52 rfl rfl ?_
        refine V_getR (q := 56) (n := 21) 2 0 kf_X4_11 (by decide) (by decide) rfl (by decide) dX4_readFigure_53 rfl ?_
        refine V_aload_n (q := 57) dX4_readFigure_56 rfl rfl ?_
        refine V_getI (q := 60) (n := 129) 2 1 kf_X4_28 (by decide) (by decide) rfl rfl dX4_readFigure_57 rfl ?_
        refine V_iconst (q := 61) (v := 1) dX4_readFigure_60 (by decide) rfl ?_
        refine V_isub (q := 62) dX4_readFigure_61 rfl ?_
        refine V_ild (q := 63) (s.2.1 - 1) 40 (v_sub1 (h1.mp c_37)) (by have := h1.mp c_37; show s.2.1 - 1 < 40; omega) (by decide) (by omega) (by decide) rfl (by decide) dX4_readFigure_62 rfl ?_
        refine V_bipush (q := 65) (v := 10) dX4_readFigure_63 (by decide) rfl ?_
        refine V_imul (q := 66) dX4_readFigure_65 rfl ?_
        refine V_iload_n (q := 67) dX4_readFigure_66 rfl rfl ?_
        refine V_iadd (q := 68) dX4_readFigure_67 rfl ?_
        refine V_ist (q := 69) (s.2.1 - 1) 40 (v_sub1 (h1.mp c_37)) (by have := h1.mp c_37; show s.2.1 - 1 < 40; omega) (by decide) (by omega) (by decide) rfl (by decide) dX4_readFigure_68 rfl ?_
        refine V_iconst (q := 70) (v := 1) dX4_readFigure_69 (by decide) rfl ?_
        exact V_iret hκ rfl rfl dX4_readFigure_70 (by have k0 : ¬ s.2.2 = 0 := fun h => c_15 (g1.mpr (by omega)); have k1 : ¬ (4 < s.2.2 + 1 ∨ s.2.1 = 0) := fun h => h.elim (fun q => c_29 (g4.mpr q)) (fun q => by have := h1.mp c_37; omega); simp only [rFig, if_neg k0, if_neg k1]; exact ⟨rfl, rfl, rA_p⟩)
      · refine V_iconst (q := 41) (v := 0) dX4_readFigure_40 (by decide) rfl ?_
        exact V_iret hκ rfl rfl dX4_readFigure_41 (by have k0 : ¬ s.2.2 = 0 := fun h => c_15 (g1.mpr (by omega)); have k1 : s.2.1 = 0 := (by have : ¬ 1 ≤ s.2.1 := fun h => c_37 (h1.mpr h); omega); simp only [rFig, if_neg k0, if_pos (show 4 < s.2.2 + 1 ∨ s.2.1 = 0 from Or.inr k1)]; exact vEq.rf)
  · refine V_aload_n (q := 19) dX4_readFigure_18 rfl rfl ?_
    refine V_iload_n (q := 20) dX4_readFigure_19 rfl rfl ?_
    have k0 : s.2.2 = 0 := by have := g1.mp c_15; omega
    refine V_fl (rF F (s.1, s.2.1, 1)) (by rw [k0]) ?_
    refine V_cV1I (q := 23) (o := 2) (N := mX4_push) (tX4_push (s := (s.1, s.2.1, 1)) hh) hκ.big (by decide) gX4_push kl_X4_46 ki_X4_push ks_X4_push (by decide) rfl (Nat.le_of_ble_eq_true rfl) dX4_readFigure_20 rfl ?_
    exact V_iret hκ rfl (by split <;> rfl) dX4_readFigure_23 (by simp only [rFig, if_pos k0]; exact vEq.rf)
theorem tX4_liftToZero {F : vFt} {Ar : vAt} {x : vXt} {s : rS} (hh : s.2.1 ≤ 40) : C0 mX4_liftToZero 1 [.ref 2] (rF F s) (rA Ar s) x (vEq (some (.int (if (rLift s).1 = true then 1 else 0))) (rF F (rLift s).2) (rA Ar (rLift s).2)) := by
  refine C0_of (by decide +kernel) (Nat.le_of_ble_eq_true rfl) (fun κ hκ => ?_)
  show V κ mX4_liftToZero 0 [.ref 2] [] (rF F s) (rA Ar s) x
  have h1 : nI 1 ≤ nI s.2.1 ↔ 1 ≤ s.2.1 := nI_leI (by decide) (by omega)
  refine V_aload_n (q := 1) dX4_liftToZero_0 rfl rfl ?_
  refine V_getI (q := 4) (n := 129) 2 1 kf_X4_28 (by decide) (by decide) rfl rfl dX4_liftToZero_1 rfl ?_
  refine V_iconst (q := 5) (v := 1) dX4_liftToZero_4 (by decide) rfl ?_
  refine V_icmp_ge (tgt := 10) (q := 8) dX4_liftToZero_5 (by decide) rfl (fun c_5 => ?_) (fun c_5 => ?_)
  · refine V_aload_n (q := 11) dX4_liftToZero_10 rfl rfl ?_
    refine V_getR (q := 14) (n := 21) 2 0 kf_X4_11 (by decide) (by decide) rfl (by decide) dX4_liftToZero_11 rfl ?_
    refine V_aload_n (q := 15) dX4_liftToZero_14 rfl rfl ?_
    refine V_getI (q := 18) (n := 129) 2 1 kf_X4_28 (by decide) (by decide) rfl rfl dX4_liftToZero_15 rfl ?_
    refine V_iconst (q := 19) (v := 1) dX4_liftToZero_18 (by decide) rfl ?_
    refine V_isub (q := 20) dX4_liftToZero_19 rfl ?_
    refine V_aload_n (q := 21) dX4_liftToZero_20 rfl rfl ?_
    refine V_getR (q := 24) (n := 21) 2 0 kf_X4_11 (by decide) (by decide) rfl (by decide) dX4_liftToZero_21 rfl ?_
    refine V_aload_n (q := 25) dX4_liftToZero_24 rfl rfl ?_
    refine V_getI (q := 28) (n := 129) 2 1 kf_X4_28 (by decide) (by decide) rfl rfl dX4_liftToZero_25 rfl ?_
    refine V_iconst (q := 29) (v := 1) dX4_liftToZero_28 (by decide) rfl ?_
    refine V_isub (q := 30) dX4_liftToZero_29 rfl ?_
    refine V_ild (q := 31) (s.2.1 - 1) 40 (v_sub1 (h1.mp c_5)) (by have := h1.mp c_5; show s.2.1 - 1 < 40; omega) (by decide) (by omega) (by decide) rfl (by decide) dX4_liftToZero_30 rfl ?_
    refine V_iconst (q := 32) (v := 0) dX4_liftToZero_31 (by decide) rfl ?_
    refine V_max (q := 35) hκ.big (by decide) kl_X4_56 (Nat.le_of_ble_eq_true rfl) dX4_liftToZero_32 rfl ?_
    refine V_ist (q := 36) (s.2.1 - 1) 40 (v_sub1 (h1.mp c_5)) (by have := h1.mp c_5; show s.2.1 - 1 < 40; omega) (by decide) (by omega) (by decide) rfl (by decide) dX4_liftToZero_35 rfl ?_
    refine V_iconst (q := 37) (v := 1) dX4_liftToZero_36 (by decide) rfl ?_
    exact V_iret hκ rfl rfl dX4_liftToZero_37 (by have k : ¬ s.2.1 = 0 := (by have := h1.mp c_5; omega); simp only [rLift, if_neg k]; exact ⟨rfl, rfl, rA_p⟩)
  · refine V_iconst (q := 9) (v := 0) dX4_liftToZero_8 (by decide) rfl ?_
    exact V_iret hκ rfl rfl dX4_liftToZero_9 (by have k : s.2.1 = 0 := (by have : ¬ 1 ≤ s.2.1 := fun h => c_5 (h1.mpr h); omega); simp only [rLift, if_pos k]; exact vEq.rf)
theorem tX4_joinTwo {F : vFt} {Ar : vAt} {x : vXt} {c : Int32} {s : rS} (hh : s.2.1 ≤ 40) : C0 mX4_joinTwo 1 [.ref 2, .int c] (rF F s) (rA Ar s) x (vEq (some (.int (if (rJoin c s).1 = true then 1 else 0))) (rF F (rJoin c s).2) (rA Ar (rJoin c s).2)) := by
  refine C0_of (by decide +kernel) (Nat.le_of_ble_eq_true rfl) (fun κ hκ => ?_)
  show V κ mX4_joinTwo 0 [.ref 2, .int c] [] (rF F s) (rA Ar s) x
  have h2 : nI 2 ≤ nI s.2.1 ↔ 2 ≤ s.2.1 := nI_leI (by decide) (by omega)
  refine V_aload_n (q := 1) dX4_joinTwo_0 rfl rfl ?_
  refine V_getI (q := 4) (n := 129) 2 1 kf_X4_28 (by decide) (by decide) rfl rfl dX4_joinTwo_1 rfl ?_
  refine V_iconst (q := 5) (v := 2) dX4_joinTwo_4 (by decide) rfl ?_
  refine V_icmp_ge (tgt := 10) (q := 8) dX4_joinTwo_5 (by decide) rfl (fun c_5 => ?_) (fun c_5 => ?_)
  · refine V_aload_n (q := 11) dX4_joinTwo_10 rfl rfl ?_
    refine V_dup (q := 12) dX4_joinTwo_11 rfl rfl ?_
    refine V_getI (q := 15) (n := 129) 2 1 kf_X4_28 (by decide) (by decide) rfl rfl dX4_joinTwo_12 rfl ?_
    refine V_iconst (q := 16) (v := 1) dX4_joinTwo_15 (by decide) rfl ?_
    refine V_isub (q := 17) dX4_joinTwo_16 rfl ?_
    refine V_putI (q := 20) (n := 129) 2 1 kf_X4_28 (by decide) (by decide) rfl rfl dX4_joinTwo_17 rfl ?_
    have k := h2.mp c_5
    have e1 : nI (s.2.1 - 1) - 1 = nI (s.2.1 - 2) := v_sub1 (by omega)
    refine V_fl (rF F (s.1, s.2.1 - 1, s.2.2)) ((congrArg (upd (rF F s) 129) (v_sub1 (by omega : 0 < s.2.1))).trans rF_h) ?_
    refine V_aload_n (q := 21) dX4_joinTwo_20 rfl rfl ?_
    refine V_getR (q := 24) (n := 21) 2 0 kf_X4_11 (by decide) (by decide) rfl (by decide) dX4_joinTwo_21 rfl ?_
    refine V_aload_n (q := 25) dX4_joinTwo_24 rfl rfl ?_
    refine V_getI (q := 28) (n := 129) 2 1 kf_X4_28 (by decide) (by decide) rfl rfl dX4_joinTwo_25 rfl ?_
    refine V_iconst (q := 29) (v := 1) dX4_joinTwo_28 (by decide) rfl ?_
    refine V_isub (q := 30) dX4_joinTwo_29 rfl ?_
    refine V_iload_n (q := 31) dX4_joinTwo_30 rfl rfl ?_
    refine V_aload_n (q := 32) dX4_joinTwo_31 rfl rfl ?_
    refine V_getR (q := 35) (n := 21) 2 0 kf_X4_11 (by decide) (by decide) rfl (by decide) dX4_joinTwo_32 rfl ?_
    refine V_aload_n (q := 36) dX4_joinTwo_35 rfl rfl ?_
    refine V_getI (q := 39) (n := 129) 2 1 kf_X4_28 (by decide) (by decide) rfl rfl dX4_joinTwo_36 rfl ?_
    refine V_iconst (q := 40) (v := 1) dX4_joinTwo_39 (by decide) rfl ?_
    refine V_isub (q := 41) dX4_joinTwo_40 rfl ?_
    refine V_ild (q := 42) (s.2.1 - 2) 40 e1 (by show s.2.1 - 2 < 40; omega) (by decide) (by omega) (by decide) rfl (by decide) dX4_joinTwo_41 rfl ?_
    refine V_i2l (q := 43) dX4_joinTwo_42 rfl ?_
    refine V_aload_n (q := 44) dX4_joinTwo_43 rfl rfl ?_
    refine V_getR (q := 47) (n := 21) 2 0 kf_X4_11 (by decide) (by decide) rfl (by decide) dX4_joinTwo_44 rfl ?_
    refine V_aload_n (q := 48) dX4_joinTwo_47 rfl rfl ?_
    refine V_getI (q := 51) (n := 129) 2 1 kf_X4_28 (by decide) (by decide) rfl rfl dX4_joinTwo_48 rfl ?_
    refine V_ild (q := 52) (s.2.1 - 1) 40 rfl (by show s.2.1 - 1 < 40; omega) (by decide) (by omega) (by decide) rfl (by decide) dX4_joinTwo_51 rfl ?_
    refine V_i2l (q := 53) dX4_joinTwo_52 rfl ?_
    refine V_cS3L (q := 56) (N := mX4_joined) tX4_joined hκ.big (by decide) gX4_joined kl_X4_62 kt_X4_joined (Nat.le_of_ble_eq_true rfl) dX4_joinTwo_53 rfl ?_
    refine V_cS1I (q := 59) (N := mX4_bounded) tX4_bounded hκ.big (by decide) gX4_bounded kl_X4_66 kt_X4_bounded (Nat.le_of_ble_eq_true rfl) dX4_joinTwo_56 rfl ?_
    refine V_ist (q := 60) (s.2.1 - 2) 40 e1 (by show s.2.1 - 2 < 40; omega) (by decide) (by omega) (by decide) rfl (by decide) dX4_joinTwo_59 rfl ?_
    refine V_iconst (q := 61) (v := 1) dX4_joinTwo_60 (by decide) rfl ?_
    exact V_iret hκ rfl rfl dX4_joinTwo_61 (by simp only [rJoin, if_neg (show ¬ s.2.1 < 2 by omega)]; exact ⟨rfl, rfl, rA_p⟩)
  · refine V_iconst (q := 9) (v := 0) dX4_joinTwo_8 (by decide) rfl ?_
    exact V_iret hκ rfl rfl dX4_joinTwo_9 (by have k : s.2.1 < 2 := (by have : ¬ 2 ≤ s.2.1 := fun h => c_5 (h2.mpr h); omega); simp only [rJoin, if_pos k]; exact vEq.rf)
