theorem lp_X6_good {F : vFt} {Ar : vAt} {x : vXt} {n : Nat} {l b d r : Int32} {R : Bool} {κ : vK} (hκ : vStd κ 2 x (vEq (some (.int (vB (R = true)))) F Ar)) (hn : F 384 = nI n) (hn40 : n ≤ 40) : ∀ m i (q : sQ) (l4 l5 : Value), i + m = n → q.1.length ≤ i → sSm q → R = sGd (sRun l b d r (Ar 40) m i q) → V κ mX6_isGood 6 [.ref 6, .int (nI q.1.length), .int (nI q.2), .int (nI i), l4, l5] [] F Ar x := by
  intro m
  induction m with
  | zero =>
    intro i q l4 l5 hi hl hsm hR
    obtain rfl : i = n := by omega
    have h1 : nI q.1.length = nI 1 ↔ q.1.length = 1 := nI_eq (by omega) (by decide)
    refine V_iload_n (q := 7) dX6_isGood_6 rfl rfl ?_
    refine V_aload_n (q := 8) dX6_isGood_7 rfl rfl ?_
    refine V_getI (q := 11) (n := 384) 6 0 kf_X6_89 (by decide) (by decide) rfl rfl dX6_isGood_8 rfl ?_
    rw [hn]
    refine V_icmp_ge (tgt := 103) (q := 14) dX6_isGood_11 (by decide) rfl (fun c_11 => ?_) (fun c_11 => absurd c_11 (v_gt (by omega) (by omega) (Nat.le_refl _)))
    refine V_iload_n (q := 104) dX6_isGood_103 rfl rfl ?_
    refine V_iconst (q := 105) (v := 1) dX6_isGood_104 (by decide) rfl ?_
    refine V_icmp_ne (tgt := 112) (q := 108) dX6_isGood_105 (by decide) rfl (fun c_105 => ?_) (fun c_105 => ?_)
    · refine V_iconst (q := 113) (v := 0) dX6_isGood_112 (by decide) rfl ?_
      exact V_iret hκ rfl (by first | rfl | exact vB_nar) dX6_isGood_113 ⟨by rw [vB_f (fun h => c_105 (h1.mpr (by rw [hR] at h; simpa [sRun, sGd] using h)))], rfl, rfl⟩
    · refine V_iconst (q := 109) (v := 1) dX6_isGood_108 (by decide) rfl ?_
      refine V_goto (q := 113) dX6_isGood_109 (by decide) ?_
      exact V_iret hκ rfl (by first | rfl | exact vB_nar) dX6_isGood_113 ⟨by rw [vB_t (by rw [hR]; simpa [sRun, sGd] using h1.mp c_105)], rfl, rfl⟩
  | succ m ih =>
    intro i q l4 l5 hi hl hsm hR
    have h4 := hsm.1
    rcases lcls (Ar 40 i) with hc | hc | hc | hc | hc | hc
    · refine V_iload_n (q := 7) dX6_isGood_6 rfl rfl ?_
      refine V_aload_n (q := 8) dX6_isGood_7 rfl rfl ?_
      refine V_getI (q := 11) (n := 384) 6 0 kf_X6_89 (by decide) (by decide) rfl rfl dX6_isGood_8 rfl ?_
      rw [hn]
      refine V_icmp_ge (tgt := 103) (q := 14) dX6_isGood_11 (by decide) rfl (fun c_11 => absurd c_11 (v_gf (by omega) (by omega) (by omega))) (fun c_11 => ?_)
      refine V_aload_n (q := 15) dX6_isGood_14 rfl rfl ?_
      refine V_getR (q := 18) (n := 40) 6 1 kf_X6_7 (by decide) (by decide) rfl (by decide) dX6_isGood_15 rfl ?_
      refine V_iload_n (q := 19) dX6_isGood_18 rfl rfl ?_
      refine V_ild (q := 20) (i) 40 rfl (by omega) (by decide) (by omega) (by decide) rfl (by decide) dX6_isGood_19 rfl ?_
      refine V_istore (q := 22) dX6_isGood_20 (Nat.le_of_ble_eq_true rfl) rfl rfl ?_
      refine V_iload (q := 24) dX6_isGood_22 rfl rfl ?_
      refine V_cS1I (q := 27) (N := mX6_takes) tX6_takes hκ.big (by decide) gX6_takes kl_X6_97 kt_X6_takes (Nat.le_of_ble_eq_true rfl) dX6_isGood_24 rfl ?_
      refine V_top 0 (tk_fig hc) ?_
      refine V_istore (q := 29) dX6_isGood_27 (Nat.le_of_ble_eq_true rfl) rfl rfl ?_
      refine V_iload (q := 31) dX6_isGood_29 rfl rfl ?_
      refine V_if_lt (tgt := 40) (q := 34) dX6_isGood_31 (by decide) rfl (fun c_31 => absurd c_31 (by decide)) (fun c_31 => ?_)
      refine V_iload (q := 36) dX6_isGood_34 rfl rfl ?_
      refine V_iload_n (q := 37) dX6_isGood_36 rfl rfl ?_
      refine V_icmp_le (tgt := 42) (q := 40) dX6_isGood_37 (by decide) rfl (fun c_37 => ?_) (fun c_37 => absurd (nI_pos' (by omega)) c_37)
      refine V_iload (q := 44) dX6_isGood_42 rfl rfl ?_
      refine V_cS1I (q := 47) (N := mX6_isFigure) tX6_isFigure hκ.big (by decide) gX6_isFigure kl_X6_93 kt_X6_isFigure (Nat.le_of_ble_eq_true rfl) dX6_isGood_44 rfl ?_
      refine V_if_eq (tgt := 56) (q := 50) dX6_isGood_47 (by decide) rfl (fun c_47 => absurd c_47 (vB_n0.mpr hc)) (fun c_47 => ?_)
      refine V_iload_n (q := 51) dX6_isGood_50 rfl rfl ?_
      refine V_iconst (q := 52) (v := 1) dX6_isGood_51 (by decide) rfl ?_
      refine V_iadd (q := 53) dX6_isGood_52 rfl ?_
      refine V_goto (q := 57) dX6_isGood_53 (by decide) ?_
      refine V_istore_n (q := 58) dX6_isGood_57 (Nat.le_of_ble_eq_true rfl) rfl rfl ?_
      refine V_ls [.ref 6, .int (nI q.1.length), .int (nI (q.2 + 1)), .int (nI i), .int (Ar 40 i), .int 0] (by rw [← nI_1 q.2]; rfl) ?_
      have g4 : nI (q.2 + 1) ≤ nI 4 ↔ q.2 + 1 ≤ 4 := nI_leI (by omega) (by decide)
      have g2 : nI 2 ≤ nI (q.2 + 1) ↔ 2 ≤ q.2 + 1 := nI_leI (by decide) (by omega)
      refine V_iload_n (q := 59) dX6_isGood_58 rfl rfl ?_
      refine V_iconst (q := 60) (v := 4) dX6_isGood_59 (by decide) rfl ?_
      refine V_icmp_le (tgt := 65) (q := 63) dX6_isGood_60 (by decide) rfl (fun c_60 => ?_) (fun c_60 => ?_)
      · refine V_iload (q := 67) dX6_isGood_65 rfl rfl ?_
        refine V_iconst (q := 68) (v := 2) dX6_isGood_67 (by decide) rfl ?_
        refine V_icmp_ne (tgt := 77) (q := 71) dX6_isGood_68 (by decide) rfl (fun c_68 => ?_) (fun c_68 => absurd c_68 (by decide))
        refine V_iload (q := 79) dX6_isGood_77 rfl rfl ?_
        refine V_if_ne (tgt := 97) (q := 82) dX6_isGood_79 (by decide) rfl (fun c_79 => absurd rfl c_79) (fun c_79 => ?_)
        refine V_iload (q := 84) dX6_isGood_82 rfl rfl ?_
        refine V_bipush (q := 86) (v := 32) dX6_isGood_84 (by decide) rfl ?_
        refine V_icmp_eq (tgt := 97) (q := 89) dX6_isGood_86 (by decide) rfl (fun c_86 => absurd hc (nfig (Or.inl c_86))) (fun c_86 => ?_)
        refine V_iload_n (q := 90) dX6_isGood_89 rfl rfl ?_
        refine V_iconst (q := 91) (v := 2) dX6_isGood_90 (by decide) rfl ?_
        refine V_icmp_ge (tgt := 97) (q := 94) dX6_isGood_91 (by decide) rfl (fun c_91 => ?_) (fun c_91 => ?_)
        · refine V_iinc (q := 100) (w := 1) dX6_isGood_97 rfl (by decide) (Nat.le_of_ble_eq_true rfl) rfl rfl ?_
          refine V_goto (q := 6) dX6_isGood_100 (by decide) ?_
          have h2 := g2.mp c_91
          obtain ⟨t, st, m9, e1, e2, hm9⟩ := hsm.2 (by omega)
          have hs : sStep l b d r (Ar 40 i) q = some ((t * 10 + (Ar 40 i - 48)) :: st, q.2 + 1) := by rw [sStep_fig hc, sFig, if_neg (by omega), if_neg (by have := g4.mp c_60; omega), e1]
          refine V_ls [.ref 6, .int (nI (((t * 10 + (Ar 40 i - 48)) :: st, q.2 + 1)).1.length), .int (nI (((t * 10 + (Ar 40 i - 48)) :: st, q.2 + 1)).2), .int (nI (i + 1)), .int (Ar 40 i), .int 0] (by rw [← nI_1 i, e1]; rfl) ?_
          exact ih (i + 1) (((t * 10 + (Ar 40 i - 48)) :: st, q.2 + 1)) _ _ (by omega) (by rw [e1] at hl; exact Nat.le_succ_of_le hl) (sStep_sm hsm hs) (by rw [hR, sRun, hs])
        · refine V_iinc (q := 97) (w := 1) dX6_isGood_94 rfl (by decide) (Nat.le_of_ble_eq_true rfl) rfl rfl ?_
          refine V_iinc (q := 100) (w := 1) dX6_isGood_97 rfl (by decide) (Nat.le_of_ble_eq_true rfl) rfl rfl ?_
          refine V_goto (q := 6) dX6_isGood_100 (by decide) ?_
          have hq0 : q.2 = 0 := (by have : ¬ 2 ≤ q.2 + 1 := fun h => c_91 (g2.mpr h); omega)
          have hs : sStep l b d r (Ar 40 i) q = some ((Ar 40 i - 48) :: q.1, 1) := by rw [sStep_fig hc, sFig, if_pos hq0]
          refine V_ls [.ref 6, .int (nI (((Ar 40 i - 48) :: q.1, 1)).1.length), .int (nI (((Ar 40 i - 48) :: q.1, 1)).2), .int (nI (i + 1)), .int (Ar 40 i), .int 0] (by rw [List.length_cons, ← nI_1 q.1.length, ← nI_1 i, hq0]; rfl) ?_
          exact ih (i + 1) (((Ar 40 i - 48) :: q.1, 1)) _ _ (by omega) (by rw [List.length_cons]; omega) (sStep_sm hsm hs) (by rw [hR, sRun, hs])
      · refine V_iconst (q := 64) (v := 0) dX6_isGood_63 (by decide) rfl ?_
        exact V_iret hκ rfl (by first | rfl | exact vB_nar) dX6_isGood_64 (by have h4 : ¬ q.2 + 1 ≤ 4 := fun h => c_60 (g4.mpr h); have hs : sStep l b d r (Ar 40 i) q = none := by { rw [sStep_fig hc, sFig, if_neg (by omega), if_pos (by omega)] }; exact ⟨by rw [vB_f (by rw [hR, sRun, hs]; exact Bool.false_ne_true)], rfl, rfl⟩)
    · have hnf : ¬ cFig (Ar 40 i) := nfig (by rcases hc with h | h | h | h <;> simp [h])
      refine V_iload_n (q := 7) dX6_isGood_6 rfl rfl ?_
      refine V_aload_n (q := 8) dX6_isGood_7 rfl rfl ?_
      refine V_getI (q := 11) (n := 384) 6 0 kf_X6_89 (by decide) (by decide) rfl rfl dX6_isGood_8 rfl ?_
      rw [hn]
      refine V_icmp_ge (tgt := 103) (q := 14) dX6_isGood_11 (by decide) rfl (fun c_11 => absurd c_11 (v_gf (by omega) (by omega) (by omega))) (fun c_11 => ?_)
      refine V_aload_n (q := 15) dX6_isGood_14 rfl rfl ?_
      refine V_getR (q := 18) (n := 40) 6 1 kf_X6_7 (by decide) (by decide) rfl (by decide) dX6_isGood_15 rfl ?_
      refine V_iload_n (q := 19) dX6_isGood_18 rfl rfl ?_
      refine V_ild (q := 20) (i) 40 rfl (by omega) (by decide) (by omega) (by decide) rfl (by decide) dX6_isGood_19 rfl ?_
      refine V_istore (q := 22) dX6_isGood_20 (Nat.le_of_ble_eq_true rfl) rfl rfl ?_
      refine V_iload (q := 24) dX6_isGood_22 rfl rfl ?_
      refine V_cS1I (q := 27) (N := mX6_takes) tX6_takes hκ.big (by decide) gX6_takes kl_X6_97 kt_X6_takes (Nat.le_of_ble_eq_true rfl) dX6_isGood_24 rfl ?_
      refine V_top 0 (tk_sz hc) ?_
      refine V_istore (q := 29) dX6_isGood_27 (Nat.le_of_ble_eq_true rfl) rfl rfl ?_
      refine V_iload (q := 31) dX6_isGood_29 rfl rfl ?_
      refine V_if_lt (tgt := 40) (q := 34) dX6_isGood_31 (by decide) rfl (fun c_31 => absurd c_31 (by decide)) (fun c_31 => ?_)
      refine V_iload (q := 36) dX6_isGood_34 rfl rfl ?_
      refine V_iload_n (q := 37) dX6_isGood_36 rfl rfl ?_
      refine V_icmp_le (tgt := 42) (q := 40) dX6_isGood_37 (by decide) rfl (fun c_37 => ?_) (fun c_37 => absurd (nI_pos' (by omega)) c_37)
      refine V_iload (q := 44) dX6_isGood_42 rfl rfl ?_
      refine V_cS1I (q := 47) (N := mX6_isFigure) tX6_isFigure hκ.big (by decide) gX6_isFigure kl_X6_93 kt_X6_isFigure (Nat.le_of_ble_eq_true rfl) dX6_isGood_44 rfl ?_
      refine V_if_eq (tgt := 56) (q := 50) dX6_isGood_47 (by decide) rfl (fun c_47 => ?_) (fun c_47 => absurd (vB_n0.mp c_47) hnf)
      refine V_iconst (q := 57) (v := 0) dX6_isGood_56 (by decide) rfl ?_
      refine V_istore_n (q := 58) dX6_isGood_57 (Nat.le_of_ble_eq_true rfl) rfl rfl ?_
      refine V_iload_n (q := 59) dX6_isGood_58 rfl rfl ?_
      refine V_iconst (q := 60) (v := 4) dX6_isGood_59 (by decide) rfl ?_
      refine V_icmp_le (tgt := 65) (q := 63) dX6_isGood_60 (by decide) rfl (fun c_60 => ?_) (fun c_60 => absurd (by decide : (0 : Int32) ≤ 4) c_60)
      refine V_iload (q := 67) dX6_isGood_65 rfl rfl ?_
      refine V_iconst (q := 68) (v := 2) dX6_isGood_67 (by decide) rfl ?_
      refine V_icmp_ne (tgt := 77) (q := 71) dX6_isGood_68 (by decide) rfl (fun c_68 => ?_) (fun c_68 => absurd c_68 (by decide))
      refine V_iload (q := 79) dX6_isGood_77 rfl rfl ?_
      refine V_if_ne (tgt := 97) (q := 82) dX6_isGood_79 (by decide) rfl (fun c_79 => absurd rfl c_79) (fun c_79 => ?_)
      refine V_iload (q := 84) dX6_isGood_82 rfl rfl ?_
      refine V_bipush (q := 86) (v := 32) dX6_isGood_84 (by decide) rfl ?_
      refine V_icmp_eq (tgt := 97) (q := 89) dX6_isGood_86 (by decide) rfl (fun c_86 => absurd c_86 (by rcases hc with h | h | h | h <;> rw [h] <;> decide)) (fun c_86 => ?_)
      refine V_iload_n (q := 90) dX6_isGood_89 rfl rfl ?_
      refine V_iconst (q := 91) (v := 2) dX6_isGood_90 (by decide) rfl ?_
      refine V_icmp_ge (tgt := 97) (q := 94) dX6_isGood_91 (by decide) rfl (fun c_91 => absurd c_91 (by decide)) (fun c_91 => ?_)
      refine V_iinc (q := 97) (w := 1) dX6_isGood_94 rfl (by decide) (Nat.le_of_ble_eq_true rfl) rfl rfl ?_
      refine V_iinc (q := 100) (w := 1) dX6_isGood_97 rfl (by decide) (Nat.le_of_ble_eq_true rfl) rfl rfl ?_
      refine V_goto (q := 6) dX6_isGood_100 (by decide) ?_
      obtain ⟨v, hs, -⟩ := sStep_sz (l := l) (b := b) (d := d) (r := r) (q := q) hc
      refine V_ls [.ref 6, .int (nI ((v :: q.1, 0)).1.length), .int (nI ((v :: q.1, 0)).2), .int (nI (i + 1)), .int (Ar 40 i), .int 0] (by rw [List.length_cons, ← nI_1 q.1.length, ← nI_1 i]; rfl) ?_
      exact ih (i + 1) ((v :: q.1, 0)) _ _ (by omega) (by rw [List.length_cons]; omega) (sStep_sm hsm hs) (by rw [hR, sRun, hs])
    · have hnf : ¬ cFig (Ar 40 i) := nfig (Or.inl hc)
      refine V_iload_n (q := 7) dX6_isGood_6 rfl rfl ?_
      refine V_aload_n (q := 8) dX6_isGood_7 rfl rfl ?_
      refine V_getI (q := 11) (n := 384) 6 0 kf_X6_89 (by decide) (by decide) rfl rfl dX6_isGood_8 rfl ?_
      rw [hn]
      refine V_icmp_ge (tgt := 103) (q := 14) dX6_isGood_11 (by decide) rfl (fun c_11 => absurd c_11 (v_gf (by omega) (by omega) (by omega))) (fun c_11 => ?_)
      refine V_aload_n (q := 15) dX6_isGood_14 rfl rfl ?_
      refine V_getR (q := 18) (n := 40) 6 1 kf_X6_7 (by decide) (by decide) rfl (by decide) dX6_isGood_15 rfl ?_
      refine V_iload_n (q := 19) dX6_isGood_18 rfl rfl ?_
      refine V_ild (q := 20) (i) 40 rfl (by omega) (by decide) (by omega) (by decide) rfl (by decide) dX6_isGood_19 rfl ?_
      refine V_istore (q := 22) dX6_isGood_20 (Nat.le_of_ble_eq_true rfl) rfl rfl ?_
      refine V_iload (q := 24) dX6_isGood_22 rfl rfl ?_
      refine V_cS1I (q := 27) (N := mX6_takes) tX6_takes hκ.big (by decide) gX6_takes kl_X6_97 kt_X6_takes (Nat.le_of_ble_eq_true rfl) dX6_isGood_24 rfl ?_
      refine V_top 0 (by rw [hc]; rfl) ?_
      refine V_istore (q := 29) dX6_isGood_27 (Nat.le_of_ble_eq_true rfl) rfl rfl ?_
      refine V_iload (q := 31) dX6_isGood_29 rfl rfl ?_
      refine V_if_lt (tgt := 40) (q := 34) dX6_isGood_31 (by decide) rfl (fun c_31 => absurd c_31 (by decide)) (fun c_31 => ?_)
      refine V_iload (q := 36) dX6_isGood_34 rfl rfl ?_
      refine V_iload_n (q := 37) dX6_isGood_36 rfl rfl ?_
      refine V_icmp_le (tgt := 42) (q := 40) dX6_isGood_37 (by decide) rfl (fun c_37 => ?_) (fun c_37 => absurd (nI_pos' (by omega)) c_37)
      refine V_iload (q := 44) dX6_isGood_42 rfl rfl ?_
      refine V_cS1I (q := 47) (N := mX6_isFigure) tX6_isFigure hκ.big (by decide) gX6_isFigure kl_X6_93 kt_X6_isFigure (Nat.le_of_ble_eq_true rfl) dX6_isGood_44 rfl ?_
      refine V_if_eq (tgt := 56) (q := 50) dX6_isGood_47 (by decide) rfl (fun c_47 => ?_) (fun c_47 => absurd (vB_n0.mp c_47) hnf)
      refine V_iconst (q := 57) (v := 0) dX6_isGood_56 (by decide) rfl ?_
      refine V_istore_n (q := 58) dX6_isGood_57 (Nat.le_of_ble_eq_true rfl) rfl rfl ?_
      refine V_iload_n (q := 59) dX6_isGood_58 rfl rfl ?_
      refine V_iconst (q := 60) (v := 4) dX6_isGood_59 (by decide) rfl ?_
      refine V_icmp_le (tgt := 65) (q := 63) dX6_isGood_60 (by decide) rfl (fun c_60 => ?_) (fun c_60 => absurd (by decide : (0 : Int32) ≤ 4) c_60)
      refine V_iload (q := 67) dX6_isGood_65 rfl rfl ?_
      refine V_iconst (q := 68) (v := 2) dX6_isGood_67 (by decide) rfl ?_
      refine V_icmp_ne (tgt := 77) (q := 71) dX6_isGood_68 (by decide) rfl (fun c_68 => ?_) (fun c_68 => absurd c_68 (by decide))
      refine V_iload (q := 79) dX6_isGood_77 rfl rfl ?_
      refine V_if_ne (tgt := 97) (q := 82) dX6_isGood_79 (by decide) rfl (fun c_79 => absurd rfl c_79) (fun c_79 => ?_)
      refine V_iload (q := 84) dX6_isGood_82 rfl rfl ?_
      refine V_bipush (q := 86) (v := 32) dX6_isGood_84 (by decide) rfl ?_
      refine V_icmp_eq (tgt := 97) (q := 89) dX6_isGood_86 (by decide) rfl (fun c_86 => ?_) (fun c_86 => absurd hc c_86)
      refine V_iinc (q := 100) (w := 1) dX6_isGood_97 rfl (by decide) (Nat.le_of_ble_eq_true rfl) rfl rfl ?_
      refine V_goto (q := 6) dX6_isGood_100 (by decide) ?_
      have hs : sStep l b d r (Ar 40 i) q = some (q.1, 0) := by rw [hc]; rfl
      refine V_ls [.ref 6, .int (nI ((q.1, 0)).1.length), .int (nI ((q.1, 0)).2), .int (nI (i + 1)), .int (Ar 40 i), .int 0] (by rw [← nI_1 i]; rfl) ?_
      exact ih (i + 1) ((q.1, 0)) _ _ (by omega) (by exact Nat.le_succ_of_le hl) (sStep_sm hsm hs) (by rw [hR, sRun, hs])
    · have hnf : ¬ cFig (Ar 40 i) := nfig (Or.inr (Or.inl hc))
      refine V_iload_n (q := 7) dX6_isGood_6 rfl rfl ?_
      refine V_aload_n (q := 8) dX6_isGood_7 rfl rfl ?_
      refine V_getI (q := 11) (n := 384) 6 0 kf_X6_89 (by decide) (by decide) rfl rfl dX6_isGood_8 rfl ?_
      rw [hn]
      refine V_icmp_ge (tgt := 103) (q := 14) dX6_isGood_11 (by decide) rfl (fun c_11 => absurd c_11 (v_gf (by omega) (by omega) (by omega))) (fun c_11 => ?_)
      refine V_aload_n (q := 15) dX6_isGood_14 rfl rfl ?_
      refine V_getR (q := 18) (n := 40) 6 1 kf_X6_7 (by decide) (by decide) rfl (by decide) dX6_isGood_15 rfl ?_
      refine V_iload_n (q := 19) dX6_isGood_18 rfl rfl ?_
      refine V_ild (q := 20) (i) 40 rfl (by omega) (by decide) (by omega) (by decide) rfl (by decide) dX6_isGood_19 rfl ?_
      refine V_istore (q := 22) dX6_isGood_20 (Nat.le_of_ble_eq_true rfl) rfl rfl ?_
      refine V_iload (q := 24) dX6_isGood_22 rfl rfl ?_
      refine V_cS1I (q := 27) (N := mX6_takes) tX6_takes hκ.big (by decide) gX6_takes kl_X6_97 kt_X6_takes (Nat.le_of_ble_eq_true rfl) dX6_isGood_24 rfl ?_
      refine V_top 1 (by rw [hc]; rfl) ?_
      refine V_istore (q := 29) dX6_isGood_27 (Nat.le_of_ble_eq_true rfl) rfl rfl ?_
      refine V_iload (q := 31) dX6_isGood_29 rfl rfl ?_
      refine V_if_lt (tgt := 40) (q := 34) dX6_isGood_31 (by decide) rfl (fun c_31 => absurd c_31 (by decide)) (fun c_31 => ?_)
      have g1 : nI 1 ≤ nI q.1.length ↔ 1 ≤ q.1.length := nI_leI (by decide) (by omega)
      refine V_iload (q := 36) dX6_isGood_34 rfl rfl ?_
      refine V_iload_n (q := 37) dX6_isGood_36 rfl rfl ?_
      refine V_icmp_le (tgt := 42) (q := 40) dX6_isGood_37 (by decide) rfl (fun c_37 => ?_) (fun c_37 => ?_)
      · refine V_iload (q := 44) dX6_isGood_42 rfl rfl ?_
        refine V_cS1I (q := 47) (N := mX6_isFigure) tX6_isFigure hκ.big (by decide) gX6_isFigure kl_X6_93 kt_X6_isFigure (Nat.le_of_ble_eq_true rfl) dX6_isGood_44 rfl ?_
        refine V_if_eq (tgt := 56) (q := 50) dX6_isGood_47 (by decide) rfl (fun c_47 => ?_) (fun c_47 => absurd (vB_n0.mp c_47) hnf)
        refine V_iconst (q := 57) (v := 0) dX6_isGood_56 (by decide) rfl ?_
        refine V_istore_n (q := 58) dX6_isGood_57 (Nat.le_of_ble_eq_true rfl) rfl rfl ?_
        refine V_iload_n (q := 59) dX6_isGood_58 rfl rfl ?_
        refine V_iconst (q := 60) (v := 4) dX6_isGood_59 (by decide) rfl ?_
        refine V_icmp_le (tgt := 65) (q := 63) dX6_isGood_60 (by decide) rfl (fun c_60 => ?_) (fun c_60 => absurd (by decide : (0 : Int32) ≤ 4) c_60)
        refine V_iload (q := 67) dX6_isGood_65 rfl rfl ?_
        refine V_iconst (q := 68) (v := 2) dX6_isGood_67 (by decide) rfl ?_
        refine V_icmp_ne (tgt := 77) (q := 71) dX6_isGood_68 (by decide) rfl (fun c_68 => ?_) (fun c_68 => absurd c_68 (by decide))
        refine V_iload (q := 79) dX6_isGood_77 rfl rfl ?_
        refine V_if_ne (tgt := 97) (q := 82) dX6_isGood_79 (by decide) rfl (fun c_79 => ?_) (fun c_79 => absurd c_79 (by decide))
        refine V_iinc (q := 100) (w := 1) dX6_isGood_97 rfl (by decide) (Nat.le_of_ble_eq_true rfl) rfl rfl ?_
        refine V_goto (q := 6) dX6_isGood_100 (by decide) ?_
        have h1 := g1.mp c_37
        obtain ⟨t, st, e1⟩ : ∃ t st, q.1 = t :: st := by
          cases hq : q.1 with
          | nil => rw [hq] at h1; exact absurd h1 (by decide)
          | cons t st => exact ⟨t, st, rfl⟩
        have hs : sStep l b d r (Ar 40 i) q = some ((if t < 0 then 0 else t) :: st, 0) := by rw [hc, sStep_ba, sLift, e1]
        refine V_ls [.ref 6, .int (nI (((if t < 0 then 0 else t) :: st, 0)).1.length), .int (nI (((if t < 0 then 0 else t) :: st, 0)).2), .int (nI (i + 1)), .int (Ar 40 i), .int 1] (by rw [← nI_1 i, e1]; rfl) ?_
        exact ih (i + 1) (((if t < 0 then 0 else t) :: st, 0)) _ _ (by omega) (by rw [e1] at hl; exact Nat.le_succ_of_le hl) (sStep_sm hsm hs) (by rw [hR, sRun, hs])
      · refine V_iconst (q := 41) (v := 0) dX6_isGood_40 (by decide) rfl ?_
        exact V_iret hκ rfl (by first | rfl | exact vB_nar) dX6_isGood_41 (by have h1 : q.1 = [] := (by cases hq : q.1 with | nil => rfl | cons t st => exact absurd (g1.mpr (by rw [hq, List.length_cons]; omega)) c_37); have hs : sStep l b d r (Ar 40 i) q = none := by { rw [hc, sStep_ba, sLift, h1] }; exact ⟨by rw [vB_f (by rw [hR, sRun, hs]; exact Bool.false_ne_true)], rfl, rfl⟩)
    · have hnf : ¬ cFig (Ar 40 i) := nfig (Or.inr (Or.inr (Or.inl hc)))
      refine V_iload_n (q := 7) dX6_isGood_6 rfl rfl ?_
      refine V_aload_n (q := 8) dX6_isGood_7 rfl rfl ?_
      refine V_getI (q := 11) (n := 384) 6 0 kf_X6_89 (by decide) (by decide) rfl rfl dX6_isGood_8 rfl ?_
      rw [hn]
      refine V_icmp_ge (tgt := 103) (q := 14) dX6_isGood_11 (by decide) rfl (fun c_11 => absurd c_11 (v_gf (by omega) (by omega) (by omega))) (fun c_11 => ?_)
      refine V_aload_n (q := 15) dX6_isGood_14 rfl rfl ?_
      refine V_getR (q := 18) (n := 40) 6 1 kf_X6_7 (by decide) (by decide) rfl (by decide) dX6_isGood_15 rfl ?_
      refine V_iload_n (q := 19) dX6_isGood_18 rfl rfl ?_
      refine V_ild (q := 20) (i) 40 rfl (by omega) (by decide) (by omega) (by decide) rfl (by decide) dX6_isGood_19 rfl ?_
      refine V_istore (q := 22) dX6_isGood_20 (Nat.le_of_ble_eq_true rfl) rfl rfl ?_
      refine V_iload (q := 24) dX6_isGood_22 rfl rfl ?_
      refine V_cS1I (q := 27) (N := mX6_takes) tX6_takes hκ.big (by decide) gX6_takes kl_X6_97 kt_X6_takes (Nat.le_of_ble_eq_true rfl) dX6_isGood_24 rfl ?_
      refine V_top 2 (tk_op hc) ?_
      refine V_istore (q := 29) dX6_isGood_27 (Nat.le_of_ble_eq_true rfl) rfl rfl ?_
      refine V_iload (q := 31) dX6_isGood_29 rfl rfl ?_
      refine V_if_lt (tgt := 40) (q := 34) dX6_isGood_31 (by decide) rfl (fun c_31 => absurd c_31 (by decide)) (fun c_31 => ?_)
      have g1 : nI 2 ≤ nI q.1.length ↔ 2 ≤ q.1.length := nI_leI (by decide) (by omega)
      refine V_iload (q := 36) dX6_isGood_34 rfl rfl ?_
      refine V_iload_n (q := 37) dX6_isGood_36 rfl rfl ?_
      refine V_icmp_le (tgt := 42) (q := 40) dX6_isGood_37 (by decide) rfl (fun c_37 => ?_) (fun c_37 => ?_)
      · refine V_iload (q := 44) dX6_isGood_42 rfl rfl ?_
        refine V_cS1I (q := 47) (N := mX6_isFigure) tX6_isFigure hκ.big (by decide) gX6_isFigure kl_X6_93 kt_X6_isFigure (Nat.le_of_ble_eq_true rfl) dX6_isGood_44 rfl ?_
        refine V_if_eq (tgt := 56) (q := 50) dX6_isGood_47 (by decide) rfl (fun c_47 => ?_) (fun c_47 => absurd (vB_n0.mp c_47) hnf)
        refine V_iconst (q := 57) (v := 0) dX6_isGood_56 (by decide) rfl ?_
        refine V_istore_n (q := 58) dX6_isGood_57 (Nat.le_of_ble_eq_true rfl) rfl rfl ?_
        refine V_iload_n (q := 59) dX6_isGood_58 rfl rfl ?_
        refine V_iconst (q := 60) (v := 4) dX6_isGood_59 (by decide) rfl ?_
        refine V_icmp_le (tgt := 65) (q := 63) dX6_isGood_60 (by decide) rfl (fun c_60 => ?_) (fun c_60 => absurd (by decide : (0 : Int32) ≤ 4) c_60)
        refine V_iload (q := 67) dX6_isGood_65 rfl rfl ?_
        refine V_iconst (q := 68) (v := 2) dX6_isGood_67 (by decide) rfl ?_
        refine V_icmp_ne (tgt := 77) (q := 71) dX6_isGood_68 (by decide) rfl (fun c_68 => absurd rfl c_68) (fun c_68 => ?_)
        refine V_iinc (q := 74) (w := (-1)) dX6_isGood_71 rfl (by decide) (Nat.le_of_ble_eq_true rfl) rfl rfl ?_
        refine V_goto (q := 97) dX6_isGood_74 (by decide) ?_
        refine V_iinc (q := 100) (w := 1) dX6_isGood_97 rfl (by decide) (Nat.le_of_ble_eq_true rfl) rfl rfl ?_
        refine V_goto (q := 6) dX6_isGood_100 (by decide) ?_
        have h1 := g1.mp c_37
        obtain ⟨t2, t1, st, e1⟩ : ∃ t2 t1 st, q.1 = t2 :: t1 :: st := by
          match hq : q.1, h1 with
          | t2 :: t1 :: st, _ => exact ⟨t2, t1, st, rfl⟩
          | [_], h => exact absurd h (by simp)
          | [], h => exact absurd h (by decide)
        have hs : sStep l b d r (Ar 40 i) q = some (bnd (jn (Ar 40 i) t1.toInt64 t2.toInt64) :: st, 0) := by rw [sStep_op hc, sJoin, e1]
        refine V_ls [.ref 6, .int (nI ((bnd (jn (Ar 40 i) t1.toInt64 t2.toInt64) :: st, 0)).1.length), .int (nI ((bnd (jn (Ar 40 i) t1.toInt64 t2.toInt64) :: st, 0)).2), .int (nI (i + 1)), .int (Ar 40 i), .int 2] (by rw [← nI_1 i, List.length_cons, e1, List.length_cons, List.length_cons, ← pk_m1 (st.length + 1)]; rfl) ?_
        exact ih (i + 1) ((bnd (jn (Ar 40 i) t1.toInt64 t2.toInt64) :: st, 0)) _ _ (by omega) (by rw [e1, List.length_cons, List.length_cons] at hl; rw [List.length_cons]; omega) (sStep_sm hsm hs) (by rw [hR, sRun, hs])
      · refine V_iconst (q := 41) (v := 0) dX6_isGood_40 (by decide) rfl ?_
        exact V_iret hκ rfl (by first | rfl | exact vB_nar) dX6_isGood_41 (by have h1 : ¬ 2 ≤ q.1.length := fun h => c_37 (g1.mpr h); have hs : sStep l b d r (Ar 40 i) q = none := by { rw [sStep_op hc, sJoin]; match hq : q.1, h1 with | [], _ => rfl | [_], _ => rfl | _ :: _ :: st, h => exact absurd (by simp only [List.length_cons]; omega) h }; exact ⟨by rw [vB_f (by rw [hR, sRun, hs]; exact Bool.false_ne_true)], rfl, rfl⟩)
    · refine V_iload_n (q := 7) dX6_isGood_6 rfl rfl ?_
      refine V_aload_n (q := 8) dX6_isGood_7 rfl rfl ?_
      refine V_getI (q := 11) (n := 384) 6 0 kf_X6_89 (by decide) (by decide) rfl rfl dX6_isGood_8 rfl ?_
      rw [hn]
      refine V_icmp_ge (tgt := 103) (q := 14) dX6_isGood_11 (by decide) rfl (fun c_11 => absurd c_11 (v_gf (by omega) (by omega) (by omega))) (fun c_11 => ?_)
      refine V_aload_n (q := 15) dX6_isGood_14 rfl rfl ?_
      refine V_getR (q := 18) (n := 40) 6 1 kf_X6_7 (by decide) (by decide) rfl (by decide) dX6_isGood_15 rfl ?_
      refine V_iload_n (q := 19) dX6_isGood_18 rfl rfl ?_
      refine V_ild (q := 20) (i) 40 rfl (by omega) (by decide) (by omega) (by decide) rfl (by decide) dX6_isGood_19 rfl ?_
      refine V_istore (q := 22) dX6_isGood_20 (Nat.le_of_ble_eq_true rfl) rfl rfl ?_
      refine V_iload (q := 24) dX6_isGood_22 rfl rfl ?_
      refine V_cS1I (q := 27) (N := mX6_takes) tX6_takes hκ.big (by decide) gX6_takes kl_X6_97 kt_X6_takes (Nat.le_of_ble_eq_true rfl) dX6_isGood_24 rfl ?_
      refine V_top (-1) (tk_bad hc) ?_
      refine V_istore (q := 29) dX6_isGood_27 (Nat.le_of_ble_eq_true rfl) rfl rfl ?_
      refine V_iload (q := 31) dX6_isGood_29 rfl rfl ?_
      refine V_if_lt (tgt := 40) (q := 34) dX6_isGood_31 (by decide) rfl (fun c_31 => ?_) (fun c_31 => absurd (by decide : (-1 : Int32) < 0) c_31)
      refine V_iconst (q := 41) (v := 0) dX6_isGood_40 (by decide) rfl ?_
      exact V_iret hκ rfl (by first | rfl | exact vB_nar) dX6_isGood_41 (by have hs : sStep l b d r (Ar 40 i) q = none := sStep_bad hc; exact ⟨by rw [vB_f (by rw [hR, sRun, hs]; exact Bool.false_ne_true)], rfl, rfl⟩)
theorem tX6_isGood {F : vFt} {Ar : vAt} {x : vXt} {n : Nat} (l b d r : Int32) (hn : F 384 = nI n) (hn40 : n ≤ 40) : C0 mX6_isGood 2 [.ref 6] F Ar x (vEq (some (.int (vB (sGd (sRun l b d r (Ar 40) n 0 ([], 0)) = true)))) F Ar) := by
  refine C0_of (by decide +kernel) (Nat.le_of_ble_eq_true rfl) (fun κ hκ => ?_)
  show V κ mX6_isGood 0 [.ref 6, .null, .null, .null, .null, .null] [] F Ar x
  refine V_iconst (q := 1) (v := 0) dX6_isGood_0 (by decide) rfl ?_
  refine V_istore_n (q := 2) dX6_isGood_1 (Nat.le_of_ble_eq_true rfl) rfl rfl ?_
  refine V_iconst (q := 3) (v := 0) dX6_isGood_2 (by decide) rfl ?_
  refine V_istore_n (q := 4) dX6_isGood_3 (Nat.le_of_ble_eq_true rfl) rfl rfl ?_
  refine V_iconst (q := 5) (v := 0) dX6_isGood_4 (by decide) rfl ?_
  refine V_istore_n (q := 6) dX6_isGood_5 (Nat.le_of_ble_eq_true rfl) rfl rfl ?_
  exact lp_X6_good hκ hn hn40 n 0 ([], 0) .null .null (by omega) (Nat.le_refl 0) sSm_0 rfl
