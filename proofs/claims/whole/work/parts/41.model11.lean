abbrev smI (v : Int32) : Prop := -999999 ≤ v.toInt ∧ v.toInt ≤ 999999
def mtQ (v : Int32) (F : vFt) (Ar : vAt) : Option Value → vFt → vAt → Prop := fun r F' Ar' => r = some (.int v) ∧ ∃ (h : Nat) (pl : Nat → Int32), F' = mF F h ∧ Ar' = mP Ar pl
theorem v_m40 (a c : Nat) : 40 * nI a + nI c = nI (40 * a + c) := v_ma 40 a c
theorem fig_val {c t : Int32} {m v : Nat} (e1 : c = nI (48 + v)) (e2 : c - 48 = nI v) (e3 : t = nI m) (hm : m < 1000) (hv : v < 10) : bnd (10 * t.toInt64 + c.toInt64 - 48) = t * 10 + (c - 48) := by
  rw [e2, e3, e1, nI_l (by omega), nI_l (by omega)]
  rw [show (10 : Int64) = lN 10 from rfl, show (48 : Int64) = lN 48 from rfl, lN_mul, lN_add, lN_sub (by omega), bnd_nI (by omega)]
  rw [show nI m * 10 + nI v = nI (m * 10 + v) from v_ma m 10 v]
  congr 1
  omega
theorem dig_val {c : Int32} (h : cFig c) : bnd (c - 48).toInt64 = c - 48 := by
  obtain ⟨v, hv, -, e⟩ := dig_of h
  rw [e, nI_l (by omega), bnd_nI (by omega)]
theorem mF_mF {F : vFt} {h : Nat} {v : Int32} : upd (mF F h) 410 v = upd F 410 v := upd_upd
theorem lenFig {q : sQ} {st : List Int32} {t : Int32} (e : q.1 = t :: st) : q.1.length = st.length + 1 := by rw [e]; rfl
set_option maxHeartbeats 4000000 in
theorem lp_X6_tons {F : vFt} {Ar : vAt} {x : vXt} {a len fz : Nat} {l b d r v : Int32} {κ : vK} (hκ : vStd κ 2 x (mtQ v F Ar)) (ha : a < 5) (hlen : Ar 42 a = nI len) (hl40 : len ≤ 40) (hsl : smI l) (hsb : smI b) (hsd : smI d) (hsr : smI r) : ∀ m i (q : sQ) (pl : Nat → Int32) (l8 : Value), i + m = len → q.1.length ≤ i → sSm q → rel pl q.1 → sRun l b d r (fun i => Ar 43 (40 * a + i)) m i q = some ([v], fz) → V κ mX6_tonsBy 11 [.ref 6, .int (nI a), .int l, .int b, .int d, .int r, .int (if q.2 = 0 then (0 : Int32) else 1), .int (nI i), l8] [] (mF F q.1.length) (mP Ar pl) x := by
  intro m
  induction m with
  | zero =>
    intro i q pl l8 hi hl hsm hrel hrun
    obtain rfl : i = len := by omega
    cases hrun
    have hlen2 : mP Ar pl 42 a = nI i := hlen
    refine V_iload (q := 13) dX6_tonsBy_11 rfl rfl ?_
    refine V_aload_n (q := 14) dX6_tonsBy_13 rfl rfl ?_
    refine V_getR (q := 17) (n := 42) 6 4 kf_X6_16 (by decide) (by decide) rfl (by decide) dX6_tonsBy_14 rfl ?_
    refine V_iload_n (q := 18) dX6_tonsBy_17 rfl rfl ?_
    refine V_ild (q := 19) (a) 5 rfl ha (by decide) (by omega) (by decide) rfl (by decide) dX6_tonsBy_18 rfl ?_
    rw [hlen2]
    refine V_icmp_ge (tgt := 252) (q := 22) dX6_tonsBy_19 (by decide) rfl (fun c_19 => ?_) (fun c_19 => absurd c_19 (v_gt (by omega) (by omega) (Nat.le_refl _)))
    refine V_aload_n (q := 253) dX6_tonsBy_252 rfl rfl ?_
    refine V_getR (q := 256) (n := 59) 6 25 kf_X6_68 (by decide) (by decide) rfl (by decide) dX6_tonsBy_253 rfl ?_
    refine V_iconst (q := 257) (v := 0) dX6_tonsBy_256 (by decide) rfl ?_
    refine V_ild (q := 258) (0) 41 rfl (by decide) (by decide) (by omega) (by decide) rfl (by decide) dX6_tonsBy_257 rfl ?_
    exact V_iret hκ rfl rfl dX6_tonsBy_258 ⟨congrArg (fun z => some (Value.int z)) (rel_one hrel), _, _, rfl, rfl⟩
  | succ m ih =>
    intro i q pl l8 hi hl hsm hrel hrun
    have hlen2 : mP Ar pl 42 a = nI len := hlen
    have h43 : mP Ar pl 43 = Ar 43 := rfl
    rw [sRun] at hrun
    rcases lcls (Ar 43 (40 * a + i)) with hc | hc | hc | hc | hc | hc
    · by_cases hq0 : q.2 = 0
      · have hs : sStep l b d r (Ar 43 (40 * a + i)) q = some (((Ar 43 (40 * a + i)) - 48) :: q.1, 1) := by rw [sStep_fig hc, sFig, if_pos hq0]
        rw [hs] at hrun
        have hrest := hrun
        refine V_iload (q := 13) dX6_tonsBy_11 rfl rfl ?_
        refine V_aload_n (q := 14) dX6_tonsBy_13 rfl rfl ?_
        refine V_getR (q := 17) (n := 42) 6 4 kf_X6_16 (by decide) (by decide) rfl (by decide) dX6_tonsBy_14 rfl ?_
        refine V_iload_n (q := 18) dX6_tonsBy_17 rfl rfl ?_
        refine V_ild (q := 19) (a) 5 rfl ha (by decide) (by omega) (by decide) rfl (by decide) dX6_tonsBy_18 rfl ?_
        rw [hlen2]
        refine V_icmp_ge (tgt := 252) (q := 22) dX6_tonsBy_19 (by decide) rfl (fun c_19 => absurd c_19 (v_gf (by omega) (by omega) (by omega))) (fun c_19 => ?_)
        refine V_aload_n (q := 23) dX6_tonsBy_22 rfl rfl ?_
        refine V_getR (q := 26) (n := 43) 6 5 kf_X6_19 (by decide) (by decide) rfl (by decide) dX6_tonsBy_23 rfl ?_
        refine V_bipush (q := 28) (v := 40) dX6_tonsBy_26 (by decide) rfl ?_
        refine V_iload_n (q := 29) dX6_tonsBy_28 rfl rfl ?_
        refine V_imul (q := 30) dX6_tonsBy_29 rfl ?_
        refine V_iload (q := 32) dX6_tonsBy_30 rfl rfl ?_
        refine V_iadd (q := 33) dX6_tonsBy_32 rfl ?_
        refine V_ild (q := 34) (40 * a + i) 200 (v_m40 a i) (by omega) (by decide) (by omega) (by decide) rfl (by decide) dX6_tonsBy_33 rfl ?_
        rw [h43]
        refine V_istore (q := 36) dX6_tonsBy_34 (Nat.le_of_ble_eq_true rfl) rfl rfl ?_
        refine V_iload (q := 38) dX6_tonsBy_36 rfl rfl ?_
        refine V_cS1I (q := 41) (N := mX6_isFigure) tX6_isFigure hκ.big (by decide) gX6_isFigure kl_X6_93 kt_X6_isFigure (Nat.le_of_ble_eq_true rfl) dX6_tonsBy_38 rfl ?_
        refine V_if_eq (tgt := 101) (q := 44) dX6_tonsBy_41 (by decide) rfl (fun c_41 => absurd c_41 (vB_n0.mpr hc)) (fun c_41 => ?_)
        refine V_iload (q := 46) dX6_tonsBy_44 rfl rfl ?_
        refine V_if_eq (tgt := 88) (q := 49) dX6_tonsBy_46 (by decide) rfl (fun c_46 => ?_) (fun c_46 => absurd (if_pos hq0) c_46)
        refine V_aload_n (q := 89) dX6_tonsBy_88 rfl rfl ?_
        refine V_iload (q := 91) dX6_tonsBy_89 rfl rfl ?_
        refine V_bipush (q := 93) (v := 48) dX6_tonsBy_91 (by decide) rfl ?_
        refine V_isub (q := 94) dX6_tonsBy_93 rfl ?_
        refine V_i2l (q := 95) dX6_tonsBy_94 rfl ?_
        refine V_cV1U (q := 98) (o := 6) (N := mX6_push) (tX6_push (F := F) (Ar := Ar) (pl := pl) (h := q.1.length) (by omega)) hκ.big (by decide) gX6_push kl_X6_124 ki_X6_push ks_X6_push (by decide) rfl (Nat.le_of_ble_eq_true rfl) dX6_tonsBy_95 rfl ?_
        refine V_goto (q := 239) dX6_tonsBy_98 (by decide) ?_
        refine V_iload (q := 241) dX6_tonsBy_239 rfl rfl ?_
        refine V_cS1I (q := 244) (N := mX6_isFigure) tX6_isFigure hκ.big (by decide) gX6_isFigure kl_X6_93 kt_X6_isFigure (Nat.le_of_ble_eq_true rfl) dX6_tonsBy_241 rfl ?_
        refine V_istore (q := 246) dX6_tonsBy_244 (Nat.le_of_ble_eq_true rfl) rfl rfl ?_
        refine V_iincN (q := 249) dX6_tonsBy_246 rfl (Nat.le_of_ble_eq_true rfl) rfl rfl ?_
        refine V_goto (q := 11) dX6_tonsBy_249 (by decide) ?_
        refine V_ls [.ref 6, .int (nI a), .int l, .int b, .int d, .int r, .int (if (((Ar 43 (40 * a + i)) - 48) :: q.1, 1).2 = 0 then (0 : Int32) else 1), .int (nI (i + 1)), .int (Ar 43 (40 * a + i))] (by rw [← nI_1 i, show (if (((Ar 43 (40 * a + i)) - 48) :: q.1, 1).2 = 0 then (0 : Int32) else 1) = vB (48 ≤ (Ar 43 (40 * a + i)) ∧ (Ar 43 (40 * a + i)) ≤ 57) from by rw [vB_t hc]; exact if_neg (Nat.succ_ne_zero _)]; rfl) ?_
        refine V_fl (mF F (((Ar 43 (40 * a + i)) - 48) :: q.1, 1).1.length) (by rfl) ?_
        refine V_ar (mP Ar (upd pl q.1.length ((Ar 43 (40 * a + i)) - 48))) (by rw [dig_val hc]) ?_
        exact ih (i + 1) (((Ar 43 (40 * a + i)) - 48) :: q.1, 1) (upd pl q.1.length ((Ar 43 (40 * a + i)) - 48)) _ (by omega) (by show q.1.length + 1 ≤ i + 1; omega) (sStep_sm hsm hs) (rel_push hrel) hrest
      · obtain ⟨v9, hv9, w1, w2⟩ := dig_of hc
        obtain ⟨tt, st, m9, e1, e2, hm9⟩ := hsm.2 (Nat.pos_of_ne_zero hq0)
        have hlen3 : q.1.length = st.length + 1 := lenFig e1
        have hr2 : rel pl (tt :: st) := by rw [← e1]; exact hrel
        by_cases h5 : 4 < q.2 + 1
        · have hs : sStep l b d r (Ar 43 (40 * a + i)) q = none := by rw [sStep_fig hc, sFig, if_neg hq0, if_pos h5]
          rw [hs] at hrun
          cases hrun
        · have hs : sStep l b d r (Ar 43 (40 * a + i)) q = some ((tt * 10 + ((Ar 43 (40 * a + i)) - 48)) :: st, q.2 + 1) := by rw [sStep_fig hc, sFig, if_neg hq0, if_neg h5, e1]
          rw [hs] at hrun
          have hrest := hrun
          have hp9 : 10 ^ q.2 ≤ 1000 := by
            have : 10 ^ q.2 ≤ 10 ^ 3 := Nat.pow_le_pow_right (by decide) (by omega)
            exact this
          have hfv := fig_val (t := tt) w1 w2 e2 (by omega) hv9
          refine V_iload (q := 13) dX6_tonsBy_11 rfl rfl ?_
          refine V_aload_n (q := 14) dX6_tonsBy_13 rfl rfl ?_
          refine V_getR (q := 17) (n := 42) 6 4 kf_X6_16 (by decide) (by decide) rfl (by decide) dX6_tonsBy_14 rfl ?_
          refine V_iload_n (q := 18) dX6_tonsBy_17 rfl rfl ?_
          refine V_ild (q := 19) (a) 5 rfl ha (by decide) (by omega) (by decide) rfl (by decide) dX6_tonsBy_18 rfl ?_
          rw [hlen2]
          refine V_icmp_ge (tgt := 252) (q := 22) dX6_tonsBy_19 (by decide) rfl (fun c_19 => absurd c_19 (v_gf (by omega) (by omega) (by omega))) (fun c_19 => ?_)
          refine V_aload_n (q := 23) dX6_tonsBy_22 rfl rfl ?_
          refine V_getR (q := 26) (n := 43) 6 5 kf_X6_19 (by decide) (by decide) rfl (by decide) dX6_tonsBy_23 rfl ?_
          refine V_bipush (q := 28) (v := 40) dX6_tonsBy_26 (by decide) rfl ?_
          refine V_iload_n (q := 29) dX6_tonsBy_28 rfl rfl ?_
          refine V_imul (q := 30) dX6_tonsBy_29 rfl ?_
          refine V_iload (q := 32) dX6_tonsBy_30 rfl rfl ?_
          refine V_iadd (q := 33) dX6_tonsBy_32 rfl ?_
          refine V_ild (q := 34) (40 * a + i) 200 (v_m40 a i) (by omega) (by decide) (by omega) (by decide) rfl (by decide) dX6_tonsBy_33 rfl ?_
          rw [h43]
          refine V_istore (q := 36) dX6_tonsBy_34 (Nat.le_of_ble_eq_true rfl) rfl rfl ?_
          refine V_iload (q := 38) dX6_tonsBy_36 rfl rfl ?_
          refine V_cS1I (q := 41) (N := mX6_isFigure) tX6_isFigure hκ.big (by decide) gX6_isFigure kl_X6_93 kt_X6_isFigure (Nat.le_of_ble_eq_true rfl) dX6_tonsBy_38 rfl ?_
          refine V_if_eq (tgt := 101) (q := 44) dX6_tonsBy_41 (by decide) rfl (fun c_41 => absurd c_41 (vB_n0.mpr hc)) (fun c_41 => ?_)
          refine V_iload (q := 46) dX6_tonsBy_44 rfl rfl ?_
          refine V_if_eq (tgt := 88) (q := 49) dX6_tonsBy_46 (by decide) rfl (fun c_46 => absurd c_46 (by rw [if_neg hq0]; decide)) (fun c_46 => ?_)
          refine V_aload_n (q := 50) dX6_tonsBy_49 rfl rfl ?_
          refine V_dup (q := 51) dX6_tonsBy_50 rfl rfl ?_
          refine V_getI (q := 54) (n := 410) 6 26 kf_X6_115 (by decide) (by decide) rfl rfl dX6_tonsBy_51 rfl ?_
          refine V_iconst (q := 55) (v := 1) dX6_tonsBy_54 (by decide) rfl ?_
          refine V_isub (q := 56) dX6_tonsBy_55 rfl ?_
          refine V_putI (q := 59) (n := 410) 6 26 kf_X6_115 (by decide) (by decide) rfl rfl dX6_tonsBy_56 rfl ?_
          refine V_fl (mF F st.length) (by rw [mF_mF]; unfold mF; congr 1; show nI q.1.length - 1 = nI st.length; rw [hlen3]; exact nI_pred st.length) ?_
          refine V_aload_n (q := 60) dX6_tonsBy_59 rfl rfl ?_
          refine V_ldc2 (q := 63) dX6_tonsBy_60 kc_X6_128 rfl ?_
          refine V_aload_n (q := 64) dX6_tonsBy_63 rfl rfl ?_
          refine V_getR (q := 67) (n := 59) 6 25 kf_X6_68 (by decide) (by decide) rfl (by decide) dX6_tonsBy_64 rfl ?_
          refine V_aload_n (q := 68) dX6_tonsBy_67 rfl rfl ?_
          refine V_getI (q := 71) (n := 410) 6 26 kf_X6_115 (by decide) (by decide) rfl rfl dX6_tonsBy_68 rfl ?_
          refine V_ild (q := 72) (st.length) 41 rfl (by omega) (by decide) (by omega) (by decide) rfl (by decide) dX6_tonsBy_71 rfl ?_
          refine V_top tt (rel_pop hr2).2 ?_
          refine V_i2l (q := 73) dX6_tonsBy_72 rfl ?_
          refine V_lmul (q := 74) dX6_tonsBy_73 rfl ?_
          refine V_iload (q := 76) dX6_tonsBy_74 rfl rfl ?_
          refine V_i2l (q := 77) dX6_tonsBy_76 rfl ?_
          refine V_ladd (q := 78) dX6_tonsBy_77 rfl ?_
          refine V_ldc2 (q := 81) dX6_tonsBy_78 kc_X6_130 rfl ?_
          refine V_lsub (q := 82) dX6_tonsBy_81 rfl ?_
          refine V_cV1U (q := 85) (o := 6) (N := mX6_push) (tX6_push (F := F) (Ar := Ar) (pl := pl) (h := st.length) (by omega)) hκ.big (by decide) gX6_push kl_X6_124 ki_X6_push ks_X6_push (by decide) rfl (Nat.le_of_ble_eq_true rfl) dX6_tonsBy_82 rfl ?_
          refine V_goto (q := 239) dX6_tonsBy_85 (by decide) ?_
          refine V_iload (q := 241) dX6_tonsBy_239 rfl rfl ?_
          refine V_cS1I (q := 244) (N := mX6_isFigure) tX6_isFigure hκ.big (by decide) gX6_isFigure kl_X6_93 kt_X6_isFigure (Nat.le_of_ble_eq_true rfl) dX6_tonsBy_241 rfl ?_
          refine V_istore (q := 246) dX6_tonsBy_244 (Nat.le_of_ble_eq_true rfl) rfl rfl ?_
          refine V_iincN (q := 249) dX6_tonsBy_246 rfl (Nat.le_of_ble_eq_true rfl) rfl rfl ?_
          refine V_goto (q := 11) dX6_tonsBy_249 (by decide) ?_
          refine V_ls [.ref 6, .int (nI a), .int l, .int b, .int d, .int r, .int (if ((tt * 10 + ((Ar 43 (40 * a + i)) - 48)) :: st, q.2 + 1).2 = 0 then (0 : Int32) else 1), .int (nI (i + 1)), .int (Ar 43 (40 * a + i))] (by rw [← nI_1 i, show (if ((tt * 10 + ((Ar 43 (40 * a + i)) - 48)) :: st, q.2 + 1).2 = 0 then (0 : Int32) else 1) = vB (48 ≤ (Ar 43 (40 * a + i)) ∧ (Ar 43 (40 * a + i)) ≤ 57) from by rw [vB_t hc]; exact if_neg (Nat.succ_ne_zero _)]; rfl) ?_
          refine V_fl (mF F ((tt * 10 + ((Ar 43 (40 * a + i)) - 48)) :: st, q.2 + 1).1.length) (by rfl) ?_
          refine V_ar (mP Ar (upd pl st.length (tt * 10 + ((Ar 43 (40 * a + i)) - 48)))) (by rw [hfv]) ?_
          exact ih (i + 1) ((tt * 10 + ((Ar 43 (40 * a + i)) - 48)) :: st, q.2 + 1) (upd pl st.length (tt * 10 + ((Ar 43 (40 * a + i)) - 48))) _ (by omega) (by show st.length + 1 ≤ i + 1; omega) (sStep_sm hsm hs) (rel_push (rel_pop hr2).1) hrest
    · have hnf : ¬ cFig (Ar 43 (40 * a + i)) := nfig (by rcases hc with h | h | h | h <;> simp [h])
      rcases hc with hc | hc | hc | hc
      · have hs : sStep l b d r (Ar 43 (40 * a + i)) q = some (l :: q.1, 0) := by rw [hc]; rfl
        rw [hs] at hrun
        have hrest := hrun
        refine V_iload (q := 13) dX6_tonsBy_11 rfl rfl ?_
        refine V_aload_n (q := 14) dX6_tonsBy_13 rfl rfl ?_
        refine V_getR (q := 17) (n := 42) 6 4 kf_X6_16 (by decide) (by decide) rfl (by decide) dX6_tonsBy_14 rfl ?_
        refine V_iload_n (q := 18) dX6_tonsBy_17 rfl rfl ?_
        refine V_ild (q := 19) (a) 5 rfl ha (by decide) (by omega) (by decide) rfl (by decide) dX6_tonsBy_18 rfl ?_
        rw [hlen2]
        refine V_icmp_ge (tgt := 252) (q := 22) dX6_tonsBy_19 (by decide) rfl (fun c_19 => absurd c_19 (v_gf (by omega) (by omega) (by omega))) (fun c_19 => ?_)
        refine V_aload_n (q := 23) dX6_tonsBy_22 rfl rfl ?_
        refine V_getR (q := 26) (n := 43) 6 5 kf_X6_19 (by decide) (by decide) rfl (by decide) dX6_tonsBy_23 rfl ?_
        refine V_bipush (q := 28) (v := 40) dX6_tonsBy_26 (by decide) rfl ?_
        refine V_iload_n (q := 29) dX6_tonsBy_28 rfl rfl ?_
        refine V_imul (q := 30) dX6_tonsBy_29 rfl ?_
        refine V_iload (q := 32) dX6_tonsBy_30 rfl rfl ?_
        refine V_iadd (q := 33) dX6_tonsBy_32 rfl ?_
        refine V_ild (q := 34) (40 * a + i) 200 (v_m40 a i) (by omega) (by decide) (by omega) (by decide) rfl (by decide) dX6_tonsBy_33 rfl ?_
        rw [h43]
        refine V_istore (q := 36) dX6_tonsBy_34 (Nat.le_of_ble_eq_true rfl) rfl rfl ?_
        refine V_iload (q := 38) dX6_tonsBy_36 rfl rfl ?_
        refine V_cS1I (q := 41) (N := mX6_isFigure) tX6_isFigure hκ.big (by decide) gX6_isFigure kl_X6_93 kt_X6_isFigure (Nat.le_of_ble_eq_true rfl) dX6_tonsBy_38 rfl ?_
        refine V_if_eq (tgt := 101) (q := 44) dX6_tonsBy_41 (by decide) rfl (fun c_41 => ?_) (fun c_41 => absurd (vB_n0.mp c_41) hnf)
        refine V_iload (q := 103) dX6_tonsBy_101 rfl rfl ?_
        refine V_bipush (q := 105) (v := 33) dX6_tonsBy_103 (by decide) rfl ?_
        refine V_icmp_ne (tgt := 151) (q := 108) dX6_tonsBy_105 (by decide) rfl (fun c_105 => ?_) (fun c_105 => absurd c_105 (by rw [hc]; decide))
        refine V_iload (q := 153) dX6_tonsBy_151 rfl rfl ?_
        refine V_bipush (q := 155) (v := 108) dX6_tonsBy_153 (by decide) rfl ?_
        refine V_icmp_eq (tgt := 179) (q := 158) dX6_tonsBy_155 (by decide) rfl (fun c_155 => ?_) (fun c_155 => absurd hc c_155)
        refine V_aload_n (q := 180) dX6_tonsBy_179 rfl rfl ?_
        refine V_iload (q := 182) dX6_tonsBy_180 rfl rfl ?_
        refine V_bipush (q := 184) (v := 108) dX6_tonsBy_182 (by decide) rfl ?_
        refine V_icmp_ne (tgt := 192) (q := 187) dX6_tonsBy_184 (by decide) rfl (fun c_184 => absurd hc c_184) (fun c_184 => ?_)
        refine V_iload_n (q := 188) dX6_tonsBy_187 rfl rfl ?_
        refine V_i2l (q := 189) dX6_tonsBy_188 rfl ?_
        refine V_goto (q := 220) dX6_tonsBy_189 (by decide) ?_
        refine V_cV1U (q := 223) (o := 6) (N := mX6_push) (tX6_push (F := F) (Ar := Ar) (pl := pl) (h := q.1.length) (by omega)) hκ.big (by decide) gX6_push kl_X6_124 ki_X6_push ks_X6_push (by decide) rfl (Nat.le_of_ble_eq_true rfl) dX6_tonsBy_220 rfl ?_
        refine V_goto (q := 239) dX6_tonsBy_223 (by decide) ?_
        refine V_iload (q := 241) dX6_tonsBy_239 rfl rfl ?_
        refine V_cS1I (q := 244) (N := mX6_isFigure) tX6_isFigure hκ.big (by decide) gX6_isFigure kl_X6_93 kt_X6_isFigure (Nat.le_of_ble_eq_true rfl) dX6_tonsBy_241 rfl ?_
        refine V_istore (q := 246) dX6_tonsBy_244 (Nat.le_of_ble_eq_true rfl) rfl rfl ?_
        refine V_iincN (q := 249) dX6_tonsBy_246 rfl (Nat.le_of_ble_eq_true rfl) rfl rfl ?_
        refine V_goto (q := 11) dX6_tonsBy_249 (by decide) ?_
        refine V_ls [.ref 6, .int (nI a), .int l, .int b, .int d, .int r, .int (if (l :: q.1, 0).2 = 0 then (0 : Int32) else 1), .int (nI (i + 1)), .int (Ar 43 (40 * a + i))] (by rw [← nI_1 i, show (if (l :: q.1, 0).2 = 0 then (0 : Int32) else 1) = vB (48 ≤ (Ar 43 (40 * a + i)) ∧ (Ar 43 (40 * a + i)) ≤ 57) from by rw [vB_f hnf]; rfl]; rfl) ?_
        refine V_fl (mF F (l :: q.1, 0).1.length) (by rfl) ?_
        refine V_ar (mP Ar (upd pl q.1.length l)) (by rw [bnd_id hsl.1 hsl.2]) ?_
        exact ih (i + 1) (l :: q.1, 0) (upd pl q.1.length l) _ (by omega) (by show q.1.length + 1 ≤ i + 1; omega) (sStep_sm hsm hs) (rel_push hrel) hrest
      · have hs : sStep l b d r (Ar 43 (40 * a + i)) q = some (b :: q.1, 0) := by rw [hc]; rfl
        rw [hs] at hrun
        have hrest := hrun
        refine V_iload (q := 13) dX6_tonsBy_11 rfl rfl ?_
        refine V_aload_n (q := 14) dX6_tonsBy_13 rfl rfl ?_
        refine V_getR (q := 17) (n := 42) 6 4 kf_X6_16 (by decide) (by decide) rfl (by decide) dX6_tonsBy_14 rfl ?_
        refine V_iload_n (q := 18) dX6_tonsBy_17 rfl rfl ?_
        refine V_ild (q := 19) (a) 5 rfl ha (by decide) (by omega) (by decide) rfl (by decide) dX6_tonsBy_18 rfl ?_
        rw [hlen2]
        refine V_icmp_ge (tgt := 252) (q := 22) dX6_tonsBy_19 (by decide) rfl (fun c_19 => absurd c_19 (v_gf (by omega) (by omega) (by omega))) (fun c_19 => ?_)
        refine V_aload_n (q := 23) dX6_tonsBy_22 rfl rfl ?_
        refine V_getR (q := 26) (n := 43) 6 5 kf_X6_19 (by decide) (by decide) rfl (by decide) dX6_tonsBy_23 rfl ?_
        refine V_bipush (q := 28) (v := 40) dX6_tonsBy_26 (by decide) rfl ?_
        refine V_iload_n (q := 29) dX6_tonsBy_28 rfl rfl ?_
        refine V_imul (q := 30) dX6_tonsBy_29 rfl ?_
        refine V_iload (q := 32) dX6_tonsBy_30 rfl rfl ?_
        refine V_iadd (q := 33) dX6_tonsBy_32 rfl ?_
        refine V_ild (q := 34) (40 * a + i) 200 (v_m40 a i) (by omega) (by decide) (by omega) (by decide) rfl (by decide) dX6_tonsBy_33 rfl ?_
        rw [h43]
        refine V_istore (q := 36) dX6_tonsBy_34 (Nat.le_of_ble_eq_true rfl) rfl rfl ?_
        refine V_iload (q := 38) dX6_tonsBy_36 rfl rfl ?_
        refine V_cS1I (q := 41) (N := mX6_isFigure) tX6_isFigure hκ.big (by decide) gX6_isFigure kl_X6_93 kt_X6_isFigure (Nat.le_of_ble_eq_true rfl) dX6_tonsBy_38 rfl ?_
        refine V_if_eq (tgt := 101) (q := 44) dX6_tonsBy_41 (by decide) rfl (fun c_41 => ?_) (fun c_41 => absurd (vB_n0.mp c_41) hnf)
        refine V_iload (q := 103) dX6_tonsBy_101 rfl rfl ?_
        refine V_bipush (q := 105) (v := 33) dX6_tonsBy_103 (by decide) rfl ?_
        refine V_icmp_ne (tgt := 151) (q := 108) dX6_tonsBy_105 (by decide) rfl (fun c_105 => ?_) (fun c_105 => absurd c_105 (by rw [hc]; decide))
        refine V_iload (q := 153) dX6_tonsBy_151 rfl rfl ?_
        refine V_bipush (q := 155) (v := 108) dX6_tonsBy_153 (by decide) rfl ?_
        refine V_icmp_eq (tgt := 179) (q := 158) dX6_tonsBy_155 (by decide) rfl (fun c_155 => absurd c_155 (by rw [hc]; decide)) (fun c_155 => ?_)
        refine V_iload (q := 160) dX6_tonsBy_158 rfl rfl ?_
        refine V_bipush (q := 162) (v := 98) dX6_tonsBy_160 (by decide) rfl ?_
        refine V_icmp_eq (tgt := 179) (q := 165) dX6_tonsBy_162 (by decide) rfl (fun c_162 => ?_) (fun c_162 => absurd hc c_162)
        refine V_aload_n (q := 180) dX6_tonsBy_179 rfl rfl ?_
        refine V_iload (q := 182) dX6_tonsBy_180 rfl rfl ?_
        refine V_bipush (q := 184) (v := 108) dX6_tonsBy_182 (by decide) rfl ?_
        refine V_icmp_ne (tgt := 192) (q := 187) dX6_tonsBy_184 (by decide) rfl (fun c_184 => ?_) (fun c_184 => absurd c_184 (by rw [hc]; decide))
        refine V_iload (q := 194) dX6_tonsBy_192 rfl rfl ?_
        refine V_bipush (q := 196) (v := 98) dX6_tonsBy_194 (by decide) rfl ?_
        refine V_icmp_ne (tgt := 204) (q := 199) dX6_tonsBy_196 (by decide) rfl (fun c_196 => absurd hc c_196) (fun c_196 => ?_)
        refine V_iload_n (q := 200) dX6_tonsBy_199 rfl rfl ?_
        refine V_i2l (q := 201) dX6_tonsBy_200 rfl ?_
        refine V_goto (q := 220) dX6_tonsBy_201 (by decide) ?_
        refine V_cV1U (q := 223) (o := 6) (N := mX6_push) (tX6_push (F := F) (Ar := Ar) (pl := pl) (h := q.1.length) (by omega)) hκ.big (by decide) gX6_push kl_X6_124 ki_X6_push ks_X6_push (by decide) rfl (Nat.le_of_ble_eq_true rfl) dX6_tonsBy_220 rfl ?_
        refine V_goto (q := 239) dX6_tonsBy_223 (by decide) ?_
        refine V_iload (q := 241) dX6_tonsBy_239 rfl rfl ?_
        refine V_cS1I (q := 244) (N := mX6_isFigure) tX6_isFigure hκ.big (by decide) gX6_isFigure kl_X6_93 kt_X6_isFigure (Nat.le_of_ble_eq_true rfl) dX6_tonsBy_241 rfl ?_
        refine V_istore (q := 246) dX6_tonsBy_244 (Nat.le_of_ble_eq_true rfl) rfl rfl ?_
        refine V_iincN (q := 249) dX6_tonsBy_246 rfl (Nat.le_of_ble_eq_true rfl) rfl rfl ?_
        refine V_goto (q := 11) dX6_tonsBy_249 (by decide) ?_
        refine V_ls [.ref 6, .int (nI a), .int l, .int b, .int d, .int r, .int (if (b :: q.1, 0).2 = 0 then (0 : Int32) else 1), .int (nI (i + 1)), .int (Ar 43 (40 * a + i))] (by rw [← nI_1 i, show (if (b :: q.1, 0).2 = 0 then (0 : Int32) else 1) = vB (48 ≤ (Ar 43 (40 * a + i)) ∧ (Ar 43 (40 * a + i)) ≤ 57) from by rw [vB_f hnf]; rfl]; rfl) ?_
        refine V_fl (mF F (b :: q.1, 0).1.length) (by rfl) ?_
        refine V_ar (mP Ar (upd pl q.1.length b)) (by rw [bnd_id hsb.1 hsb.2]) ?_
        exact ih (i + 1) (b :: q.1, 0) (upd pl q.1.length b) _ (by omega) (by show q.1.length + 1 ≤ i + 1; omega) (sStep_sm hsm hs) (rel_push hrel) hrest
      · have hs : sStep l b d r (Ar 43 (40 * a + i)) q = some (d :: q.1, 0) := by rw [hc]; rfl
        rw [hs] at hrun
        have hrest := hrun
        refine V_iload (q := 13) dX6_tonsBy_11 rfl rfl ?_
        refine V_aload_n (q := 14) dX6_tonsBy_13 rfl rfl ?_
        refine V_getR (q := 17) (n := 42) 6 4 kf_X6_16 (by decide) (by decide) rfl (by decide) dX6_tonsBy_14 rfl ?_
        refine V_iload_n (q := 18) dX6_tonsBy_17 rfl rfl ?_
        refine V_ild (q := 19) (a) 5 rfl ha (by decide) (by omega) (by decide) rfl (by decide) dX6_tonsBy_18 rfl ?_
        rw [hlen2]
        refine V_icmp_ge (tgt := 252) (q := 22) dX6_tonsBy_19 (by decide) rfl (fun c_19 => absurd c_19 (v_gf (by omega) (by omega) (by omega))) (fun c_19 => ?_)
        refine V_aload_n (q := 23) dX6_tonsBy_22 rfl rfl ?_
        refine V_getR (q := 26) (n := 43) 6 5 kf_X6_19 (by decide) (by decide) rfl (by decide) dX6_tonsBy_23 rfl ?_
        refine V_bipush (q := 28) (v := 40) dX6_tonsBy_26 (by decide) rfl ?_
        refine V_iload_n (q := 29) dX6_tonsBy_28 rfl rfl ?_
        refine V_imul (q := 30) dX6_tonsBy_29 rfl ?_
        refine V_iload (q := 32) dX6_tonsBy_30 rfl rfl ?_
        refine V_iadd (q := 33) dX6_tonsBy_32 rfl ?_
        refine V_ild (q := 34) (40 * a + i) 200 (v_m40 a i) (by omega) (by decide) (by omega) (by decide) rfl (by decide) dX6_tonsBy_33 rfl ?_
        rw [h43]
        refine V_istore (q := 36) dX6_tonsBy_34 (Nat.le_of_ble_eq_true rfl) rfl rfl ?_
        refine V_iload (q := 38) dX6_tonsBy_36 rfl rfl ?_
        refine V_cS1I (q := 41) (N := mX6_isFigure) tX6_isFigure hκ.big (by decide) gX6_isFigure kl_X6_93 kt_X6_isFigure (Nat.le_of_ble_eq_true rfl) dX6_tonsBy_38 rfl ?_
        refine V_if_eq (tgt := 101) (q := 44) dX6_tonsBy_41 (by decide) rfl (fun c_41 => ?_) (fun c_41 => absurd (vB_n0.mp c_41) hnf)
        refine V_iload (q := 103) dX6_tonsBy_101 rfl rfl ?_
        refine V_bipush (q := 105) (v := 33) dX6_tonsBy_103 (by decide) rfl ?_
        refine V_icmp_ne (tgt := 151) (q := 108) dX6_tonsBy_105 (by decide) rfl (fun c_105 => ?_) (fun c_105 => absurd c_105 (by rw [hc]; decide))
        refine V_iload (q := 153) dX6_tonsBy_151 rfl rfl ?_
        refine V_bipush (q := 155) (v := 108) dX6_tonsBy_153 (by decide) rfl ?_
        refine V_icmp_eq (tgt := 179) (q := 158) dX6_tonsBy_155 (by decide) rfl (fun c_155 => absurd c_155 (by rw [hc]; decide)) (fun c_155 => ?_)
        refine V_iload (q := 160) dX6_tonsBy_158 rfl rfl ?_
        refine V_bipush (q := 162) (v := 98) dX6_tonsBy_160 (by decide) rfl ?_
        refine V_icmp_eq (tgt := 179) (q := 165) dX6_tonsBy_162 (by decide) rfl (fun c_162 => absurd c_162 (by rw [hc]; decide)) (fun c_162 => ?_)
        refine V_iload (q := 167) dX6_tonsBy_165 rfl rfl ?_
        refine V_bipush (q := 169) (v := 100) dX6_tonsBy_167 (by decide) rfl ?_
        refine V_icmp_eq (tgt := 179) (q := 172) dX6_tonsBy_169 (by decide) rfl (fun c_169 => ?_) (fun c_169 => absurd hc c_169)
        refine V_aload_n (q := 180) dX6_tonsBy_179 rfl rfl ?_
        refine V_iload (q := 182) dX6_tonsBy_180 rfl rfl ?_
        refine V_bipush (q := 184) (v := 108) dX6_tonsBy_182 (by decide) rfl ?_
        refine V_icmp_ne (tgt := 192) (q := 187) dX6_tonsBy_184 (by decide) rfl (fun c_184 => ?_) (fun c_184 => absurd c_184 (by rw [hc]; decide))
        refine V_iload (q := 194) dX6_tonsBy_192 rfl rfl ?_
        refine V_bipush (q := 196) (v := 98) dX6_tonsBy_194 (by decide) rfl ?_
        refine V_icmp_ne (tgt := 204) (q := 199) dX6_tonsBy_196 (by decide) rfl (fun c_196 => ?_) (fun c_196 => absurd c_196 (by rw [hc]; decide))
        refine V_iload (q := 206) dX6_tonsBy_204 rfl rfl ?_
        refine V_bipush (q := 208) (v := 100) dX6_tonsBy_206 (by decide) rfl ?_
        refine V_icmp_ne (tgt := 217) (q := 211) dX6_tonsBy_208 (by decide) rfl (fun c_208 => absurd hc c_208) (fun c_208 => ?_)
        refine V_iload (q := 213) dX6_tonsBy_211 rfl rfl ?_
        refine V_i2l (q := 214) dX6_tonsBy_213 rfl ?_
        refine V_goto (q := 220) dX6_tonsBy_214 (by decide) ?_
        refine V_cV1U (q := 223) (o := 6) (N := mX6_push) (tX6_push (F := F) (Ar := Ar) (pl := pl) (h := q.1.length) (by omega)) hκ.big (by decide) gX6_push kl_X6_124 ki_X6_push ks_X6_push (by decide) rfl (Nat.le_of_ble_eq_true rfl) dX6_tonsBy_220 rfl ?_
        refine V_goto (q := 239) dX6_tonsBy_223 (by decide) ?_
        refine V_iload (q := 241) dX6_tonsBy_239 rfl rfl ?_
        refine V_cS1I (q := 244) (N := mX6_isFigure) tX6_isFigure hκ.big (by decide) gX6_isFigure kl_X6_93 kt_X6_isFigure (Nat.le_of_ble_eq_true rfl) dX6_tonsBy_241 rfl ?_
        refine V_istore (q := 246) dX6_tonsBy_244 (Nat.le_of_ble_eq_true rfl) rfl rfl ?_
        refine V_iincN (q := 249) dX6_tonsBy_246 rfl (Nat.le_of_ble_eq_true rfl) rfl rfl ?_
        refine V_goto (q := 11) dX6_tonsBy_249 (by decide) ?_
        refine V_ls [.ref 6, .int (nI a), .int l, .int b, .int d, .int r, .int (if (d :: q.1, 0).2 = 0 then (0 : Int32) else 1), .int (nI (i + 1)), .int (Ar 43 (40 * a + i))] (by rw [← nI_1 i, show (if (d :: q.1, 0).2 = 0 then (0 : Int32) else 1) = vB (48 ≤ (Ar 43 (40 * a + i)) ∧ (Ar 43 (40 * a + i)) ≤ 57) from by rw [vB_f hnf]; rfl]; rfl) ?_
        refine V_fl (mF F (d :: q.1, 0).1.length) (by rfl) ?_
        refine V_ar (mP Ar (upd pl q.1.length d)) (by rw [bnd_id hsd.1 hsd.2]) ?_
        exact ih (i + 1) (d :: q.1, 0) (upd pl q.1.length d) _ (by omega) (by show q.1.length + 1 ≤ i + 1; omega) (sStep_sm hsm hs) (rel_push hrel) hrest
      · have hs : sStep l b d r (Ar 43 (40 * a + i)) q = some (r :: q.1, 0) := by rw [hc]; rfl
        rw [hs] at hrun
        have hrest := hrun
        refine V_iload (q := 13) dX6_tonsBy_11 rfl rfl ?_
        refine V_aload_n (q := 14) dX6_tonsBy_13 rfl rfl ?_
        refine V_getR (q := 17) (n := 42) 6 4 kf_X6_16 (by decide) (by decide) rfl (by decide) dX6_tonsBy_14 rfl ?_
        refine V_iload_n (q := 18) dX6_tonsBy_17 rfl rfl ?_
        refine V_ild (q := 19) (a) 5 rfl ha (by decide) (by omega) (by decide) rfl (by decide) dX6_tonsBy_18 rfl ?_
        rw [hlen2]
        refine V_icmp_ge (tgt := 252) (q := 22) dX6_tonsBy_19 (by decide) rfl (fun c_19 => absurd c_19 (v_gf (by omega) (by omega) (by omega))) (fun c_19 => ?_)
        refine V_aload_n (q := 23) dX6_tonsBy_22 rfl rfl ?_
        refine V_getR (q := 26) (n := 43) 6 5 kf_X6_19 (by decide) (by decide) rfl (by decide) dX6_tonsBy_23 rfl ?_
        refine V_bipush (q := 28) (v := 40) dX6_tonsBy_26 (by decide) rfl ?_
        refine V_iload_n (q := 29) dX6_tonsBy_28 rfl rfl ?_
        refine V_imul (q := 30) dX6_tonsBy_29 rfl ?_
        refine V_iload (q := 32) dX6_tonsBy_30 rfl rfl ?_
        refine V_iadd (q := 33) dX6_tonsBy_32 rfl ?_
        refine V_ild (q := 34) (40 * a + i) 200 (v_m40 a i) (by omega) (by decide) (by omega) (by decide) rfl (by decide) dX6_tonsBy_33 rfl ?_
        rw [h43]
        refine V_istore (q := 36) dX6_tonsBy_34 (Nat.le_of_ble_eq_true rfl) rfl rfl ?_
        refine V_iload (q := 38) dX6_tonsBy_36 rfl rfl ?_
        refine V_cS1I (q := 41) (N := mX6_isFigure) tX6_isFigure hκ.big (by decide) gX6_isFigure kl_X6_93 kt_X6_isFigure (Nat.le_of_ble_eq_true rfl) dX6_tonsBy_38 rfl ?_
        refine V_if_eq (tgt := 101) (q := 44) dX6_tonsBy_41 (by decide) rfl (fun c_41 => ?_) (fun c_41 => absurd (vB_n0.mp c_41) hnf)
        refine V_iload (q := 103) dX6_tonsBy_101 rfl rfl ?_
        refine V_bipush (q := 105) (v := 33) dX6_tonsBy_103 (by decide) rfl ?_
        refine V_icmp_ne (tgt := 151) (q := 108) dX6_tonsBy_105 (by decide) rfl (fun c_105 => ?_) (fun c_105 => absurd c_105 (by rw [hc]; decide))
        refine V_iload (q := 153) dX6_tonsBy_151 rfl rfl ?_
        refine V_bipush (q := 155) (v := 108) dX6_tonsBy_153 (by decide) rfl ?_
        refine V_icmp_eq (tgt := 179) (q := 158) dX6_tonsBy_155 (by decide) rfl (fun c_155 => absurd c_155 (by rw [hc]; decide)) (fun c_155 => ?_)
        refine V_iload (q := 160) dX6_tonsBy_158 rfl rfl ?_
        refine V_bipush (q := 162) (v := 98) dX6_tonsBy_160 (by decide) rfl ?_
        refine V_icmp_eq (tgt := 179) (q := 165) dX6_tonsBy_162 (by decide) rfl (fun c_162 => absurd c_162 (by rw [hc]; decide)) (fun c_162 => ?_)
        refine V_iload (q := 167) dX6_tonsBy_165 rfl rfl ?_
        refine V_bipush (q := 169) (v := 100) dX6_tonsBy_167 (by decide) rfl ?_
        refine V_icmp_eq (tgt := 179) (q := 172) dX6_tonsBy_169 (by decide) rfl (fun c_169 => absurd c_169 (by rw [hc]; decide)) (fun c_169 => ?_)
        refine V_iload (q := 174) dX6_tonsBy_172 rfl rfl ?_
        refine V_bipush (q := 176) (v := 114) dX6_tonsBy_174 (by decide) rfl ?_
        refine V_icmp_ne (tgt := 226) (q := 179) dX6_tonsBy_176 (by decide) rfl (fun c_176 => absurd hc c_176) (fun c_176 => ?_)
        refine V_aload_n (q := 180) dX6_tonsBy_179 rfl rfl ?_
        refine V_iload (q := 182) dX6_tonsBy_180 rfl rfl ?_
        refine V_bipush (q := 184) (v := 108) dX6_tonsBy_182 (by decide) rfl ?_
        refine V_icmp_ne (tgt := 192) (q := 187) dX6_tonsBy_184 (by decide) rfl (fun c_184 => ?_) (fun c_184 => absurd c_184 (by rw [hc]; decide))
        refine V_iload (q := 194) dX6_tonsBy_192 rfl rfl ?_
        refine V_bipush (q := 196) (v := 98) dX6_tonsBy_194 (by decide) rfl ?_
        refine V_icmp_ne (tgt := 204) (q := 199) dX6_tonsBy_196 (by decide) rfl (fun c_196 => ?_) (fun c_196 => absurd c_196 (by rw [hc]; decide))
        refine V_iload (q := 206) dX6_tonsBy_204 rfl rfl ?_
        refine V_bipush (q := 208) (v := 100) dX6_tonsBy_206 (by decide) rfl ?_
        refine V_icmp_ne (tgt := 217) (q := 211) dX6_tonsBy_208 (by decide) rfl (fun c_208 => ?_) (fun c_208 => absurd c_208 (by rw [hc]; decide))
        refine V_iload (q := 219) dX6_tonsBy_217 rfl rfl ?_
        refine V_i2l (q := 220) dX6_tonsBy_219 rfl ?_
        refine V_cV1U (q := 223) (o := 6) (N := mX6_push) (tX6_push (F := F) (Ar := Ar) (pl := pl) (h := q.1.length) (by omega)) hκ.big (by decide) gX6_push kl_X6_124 ki_X6_push ks_X6_push (by decide) rfl (Nat.le_of_ble_eq_true rfl) dX6_tonsBy_220 rfl ?_
        refine V_goto (q := 239) dX6_tonsBy_223 (by decide) ?_
        refine V_iload (q := 241) dX6_tonsBy_239 rfl rfl ?_
        refine V_cS1I (q := 244) (N := mX6_isFigure) tX6_isFigure hκ.big (by decide) gX6_isFigure kl_X6_93 kt_X6_isFigure (Nat.le_of_ble_eq_true rfl) dX6_tonsBy_241 rfl ?_
        refine V_istore (q := 246) dX6_tonsBy_244 (Nat.le_of_ble_eq_true rfl) rfl rfl ?_
        refine V_iincN (q := 249) dX6_tonsBy_246 rfl (Nat.le_of_ble_eq_true rfl) rfl rfl ?_
        refine V_goto (q := 11) dX6_tonsBy_249 (by decide) ?_
        refine V_ls [.ref 6, .int (nI a), .int l, .int b, .int d, .int r, .int (if (r :: q.1, 0).2 = 0 then (0 : Int32) else 1), .int (nI (i + 1)), .int (Ar 43 (40 * a + i))] (by rw [← nI_1 i, show (if (r :: q.1, 0).2 = 0 then (0 : Int32) else 1) = vB (48 ≤ (Ar 43 (40 * a + i)) ∧ (Ar 43 (40 * a + i)) ≤ 57) from by rw [vB_f hnf]; rfl]; rfl) ?_
        refine V_fl (mF F (r :: q.1, 0).1.length) (by rfl) ?_
        refine V_ar (mP Ar (upd pl q.1.length r)) (by rw [bnd_id hsr.1 hsr.2]) ?_
        exact ih (i + 1) (r :: q.1, 0) (upd pl q.1.length r) _ (by omega) (by show q.1.length + 1 ≤ i + 1; omega) (sStep_sm hsm hs) (rel_push hrel) hrest
    · have hnf : ¬ cFig (Ar 43 (40 * a + i)) := nfig (Or.inl hc)
      have hs : sStep l b d r (Ar 43 (40 * a + i)) q = some (q.1, 0) := by rw [hc]; rfl
      rw [hs] at hrun
      have hrest := hrun
      refine V_iload (q := 13) dX6_tonsBy_11 rfl rfl ?_
      refine V_aload_n (q := 14) dX6_tonsBy_13 rfl rfl ?_
      refine V_getR (q := 17) (n := 42) 6 4 kf_X6_16 (by decide) (by decide) rfl (by decide) dX6_tonsBy_14 rfl ?_
      refine V_iload_n (q := 18) dX6_tonsBy_17 rfl rfl ?_
      refine V_ild (q := 19) (a) 5 rfl ha (by decide) (by omega) (by decide) rfl (by decide) dX6_tonsBy_18 rfl ?_
      rw [hlen2]
      refine V_icmp_ge (tgt := 252) (q := 22) dX6_tonsBy_19 (by decide) rfl (fun c_19 => absurd c_19 (v_gf (by omega) (by omega) (by omega))) (fun c_19 => ?_)
      refine V_aload_n (q := 23) dX6_tonsBy_22 rfl rfl ?_
      refine V_getR (q := 26) (n := 43) 6 5 kf_X6_19 (by decide) (by decide) rfl (by decide) dX6_tonsBy_23 rfl ?_
      refine V_bipush (q := 28) (v := 40) dX6_tonsBy_26 (by decide) rfl ?_
      refine V_iload_n (q := 29) dX6_tonsBy_28 rfl rfl ?_
      refine V_imul (q := 30) dX6_tonsBy_29 rfl ?_
      refine V_iload (q := 32) dX6_tonsBy_30 rfl rfl ?_
      refine V_iadd (q := 33) dX6_tonsBy_32 rfl ?_
      refine V_ild (q := 34) (40 * a + i) 200 (v_m40 a i) (by omega) (by decide) (by omega) (by decide) rfl (by decide) dX6_tonsBy_33 rfl ?_
      rw [h43]
      refine V_istore (q := 36) dX6_tonsBy_34 (Nat.le_of_ble_eq_true rfl) rfl rfl ?_
      refine V_iload (q := 38) dX6_tonsBy_36 rfl rfl ?_
      refine V_cS1I (q := 41) (N := mX6_isFigure) tX6_isFigure hκ.big (by decide) gX6_isFigure kl_X6_93 kt_X6_isFigure (Nat.le_of_ble_eq_true rfl) dX6_tonsBy_38 rfl ?_
      refine V_if_eq (tgt := 101) (q := 44) dX6_tonsBy_41 (by decide) rfl (fun c_41 => ?_) (fun c_41 => absurd (vB_n0.mp c_41) hnf)
      refine V_iload (q := 103) dX6_tonsBy_101 rfl rfl ?_
      refine V_bipush (q := 105) (v := 33) dX6_tonsBy_103 (by decide) rfl ?_
      refine V_icmp_ne (tgt := 151) (q := 108) dX6_tonsBy_105 (by decide) rfl (fun c_105 => ?_) (fun c_105 => absurd c_105 (by rw [hc]; decide))
      refine V_iload (q := 153) dX6_tonsBy_151 rfl rfl ?_
      refine V_bipush (q := 155) (v := 108) dX6_tonsBy_153 (by decide) rfl ?_
      refine V_icmp_eq (tgt := 179) (q := 158) dX6_tonsBy_155 (by decide) rfl (fun c_155 => absurd c_155 (by rw [hc]; decide)) (fun c_155 => ?_)
      refine V_iload (q := 160) dX6_tonsBy_158 rfl rfl ?_
      refine V_bipush (q := 162) (v := 98) dX6_tonsBy_160 (by decide) rfl ?_
      refine V_icmp_eq (tgt := 179) (q := 165) dX6_tonsBy_162 (by decide) rfl (fun c_162 => absurd c_162 (by rw [hc]; decide)) (fun c_162 => ?_)
      refine V_iload (q := 167) dX6_tonsBy_165 rfl rfl ?_
      refine V_bipush (q := 169) (v := 100) dX6_tonsBy_167 (by decide) rfl ?_
      refine V_icmp_eq (tgt := 179) (q := 172) dX6_tonsBy_169 (by decide) rfl (fun c_169 => absurd c_169 (by rw [hc]; decide)) (fun c_169 => ?_)
      refine V_iload (q := 174) dX6_tonsBy_172 rfl rfl ?_
      refine V_bipush (q := 176) (v := 114) dX6_tonsBy_174 (by decide) rfl ?_
      refine V_icmp_ne (tgt := 226) (q := 179) dX6_tonsBy_176 (by decide) rfl (fun c_176 => ?_) (fun c_176 => absurd c_176 (by rw [hc]; decide))
      refine V_iload (q := 228) dX6_tonsBy_226 rfl rfl ?_
      refine V_bipush (q := 230) (v := 32) dX6_tonsBy_228 (by decide) rfl ?_
      refine V_icmp_eq (tgt := 239) (q := 233) dX6_tonsBy_230 (by decide) rfl (fun c_230 => ?_) (fun c_230 => absurd hc c_230)
      refine V_iload (q := 241) dX6_tonsBy_239 rfl rfl ?_
      refine V_cS1I (q := 244) (N := mX6_isFigure) tX6_isFigure hκ.big (by decide) gX6_isFigure kl_X6_93 kt_X6_isFigure (Nat.le_of_ble_eq_true rfl) dX6_tonsBy_241 rfl ?_
      refine V_istore (q := 246) dX6_tonsBy_244 (Nat.le_of_ble_eq_true rfl) rfl rfl ?_
      refine V_iincN (q := 249) dX6_tonsBy_246 rfl (Nat.le_of_ble_eq_true rfl) rfl rfl ?_
      refine V_goto (q := 11) dX6_tonsBy_249 (by decide) ?_
      refine V_ls [.ref 6, .int (nI a), .int l, .int b, .int d, .int r, .int (if (q.1, 0).2 = 0 then (0 : Int32) else 1), .int (nI (i + 1)), .int (Ar 43 (40 * a + i))] (by rw [← nI_1 i, show (if (q.1, 0).2 = 0 then (0 : Int32) else 1) = vB (48 ≤ (Ar 43 (40 * a + i)) ∧ (Ar 43 (40 * a + i)) ≤ 57) from by rw [vB_f hnf]; rfl]; rfl) ?_
      refine V_fl (mF F (q.1, 0).1.length) (by rfl) ?_
      refine V_ar (mP Ar (pl)) (by rfl) ?_
      exact ih (i + 1) (q.1, 0) (pl) _ (by omega) (by exact Nat.le_succ_of_le hl) (sStep_sm hsm hs) hrel hrest
    · have hnf : ¬ cFig (Ar 43 (40 * a + i)) := nfig (Or.inr (Or.inl hc))
      cases hq : q.1 with
      | nil =>
        have hs : sStep l b d r (Ar 43 (40 * a + i)) q = none := by rw [hc, sStep_ba, sLift, hq]
        rw [hs] at hrun
        cases hrun
      | cons tt st =>
        have hs : sStep l b d r (Ar 43 (40 * a + i)) q = some ((if tt < 0 then 0 else tt) :: st, 0) := by rw [hc, sStep_ba, sLift, hq]
        rw [hs] at hrun
        have hrest := hrun
        have hlen3 : q.1.length = st.length + 1 := lenFig hq
        have hr2 : rel pl (tt :: st) := by rw [← hq]; exact hrel
        rw [← hq]
        refine V_iload (q := 13) dX6_tonsBy_11 rfl rfl ?_
        refine V_aload_n (q := 14) dX6_tonsBy_13 rfl rfl ?_
        refine V_getR (q := 17) (n := 42) 6 4 kf_X6_16 (by decide) (by decide) rfl (by decide) dX6_tonsBy_14 rfl ?_
        refine V_iload_n (q := 18) dX6_tonsBy_17 rfl rfl ?_
        refine V_ild (q := 19) (a) 5 rfl ha (by decide) (by omega) (by decide) rfl (by decide) dX6_tonsBy_18 rfl ?_
        rw [hlen2]
        refine V_icmp_ge (tgt := 252) (q := 22) dX6_tonsBy_19 (by decide) rfl (fun c_19 => absurd c_19 (v_gf (by omega) (by omega) (by omega))) (fun c_19 => ?_)
        refine V_aload_n (q := 23) dX6_tonsBy_22 rfl rfl ?_
        refine V_getR (q := 26) (n := 43) 6 5 kf_X6_19 (by decide) (by decide) rfl (by decide) dX6_tonsBy_23 rfl ?_
        refine V_bipush (q := 28) (v := 40) dX6_tonsBy_26 (by decide) rfl ?_
        refine V_iload_n (q := 29) dX6_tonsBy_28 rfl rfl ?_
        refine V_imul (q := 30) dX6_tonsBy_29 rfl ?_
        refine V_iload (q := 32) dX6_tonsBy_30 rfl rfl ?_
        refine V_iadd (q := 33) dX6_tonsBy_32 rfl ?_
        refine V_ild (q := 34) (40 * a + i) 200 (v_m40 a i) (by omega) (by decide) (by omega) (by decide) rfl (by decide) dX6_tonsBy_33 rfl ?_
        rw [h43]
        refine V_istore (q := 36) dX6_tonsBy_34 (Nat.le_of_ble_eq_true rfl) rfl rfl ?_
        refine V_iload (q := 38) dX6_tonsBy_36 rfl rfl ?_
        refine V_cS1I (q := 41) (N := mX6_isFigure) tX6_isFigure hκ.big (by decide) gX6_isFigure kl_X6_93 kt_X6_isFigure (Nat.le_of_ble_eq_true rfl) dX6_tonsBy_38 rfl ?_
        refine V_if_eq (tgt := 101) (q := 44) dX6_tonsBy_41 (by decide) rfl (fun c_41 => ?_) (fun c_41 => absurd (vB_n0.mp c_41) hnf)
        refine V_iload (q := 103) dX6_tonsBy_101 rfl rfl ?_
        refine V_bipush (q := 105) (v := 33) dX6_tonsBy_103 (by decide) rfl ?_
        refine V_icmp_ne (tgt := 151) (q := 108) dX6_tonsBy_105 (by decide) rfl (fun c_105 => absurd hc c_105) (fun c_105 => ?_)
        refine V_aload_n (q := 109) dX6_tonsBy_108 rfl rfl ?_
        refine V_getR (q := 112) (n := 59) 6 25 kf_X6_68 (by decide) (by decide) rfl (by decide) dX6_tonsBy_109 rfl ?_
        refine V_aload_n (q := 113) dX6_tonsBy_112 rfl rfl ?_
        refine V_getI (q := 116) (n := 410) 6 26 kf_X6_115 (by decide) (by decide) rfl rfl dX6_tonsBy_113 rfl ?_
        refine V_iconst (q := 117) (v := 1) dX6_tonsBy_116 (by decide) rfl ?_
        refine V_isub (q := 118) dX6_tonsBy_117 rfl ?_
        refine V_aload_n (q := 119) dX6_tonsBy_118 rfl rfl ?_
        refine V_getR (q := 122) (n := 59) 6 25 kf_X6_68 (by decide) (by decide) rfl (by decide) dX6_tonsBy_119 rfl ?_
        refine V_aload_n (q := 123) dX6_tonsBy_122 rfl rfl ?_
        refine V_getI (q := 126) (n := 410) 6 26 kf_X6_115 (by decide) (by decide) rfl rfl dX6_tonsBy_123 rfl ?_
        refine V_iconst (q := 127) (v := 1) dX6_tonsBy_126 (by decide) rfl ?_
        refine V_isub (q := 128) dX6_tonsBy_127 rfl ?_
        refine V_ild (q := 129) (st.length) 41 (by show nI q.1.length - 1 = nI st.length; rw [hlen3]; exact nI_pred st.length) (by omega) (by decide) (by omega) (by decide) rfl (by decide) dX6_tonsBy_128 rfl ?_
        refine V_if_ge (tgt := 136) (q := 132) dX6_tonsBy_129 (by decide) rfl (fun c_129 => ?_) (fun c_129 => ?_)
        · refine V_aload_n (q := 137) dX6_tonsBy_136 rfl rfl ?_
          refine V_getR (q := 140) (n := 59) 6 25 kf_X6_68 (by decide) (by decide) rfl (by decide) dX6_tonsBy_137 rfl ?_
          refine V_aload_n (q := 141) dX6_tonsBy_140 rfl rfl ?_
          refine V_getI (q := 144) (n := 410) 6 26 kf_X6_115 (by decide) (by decide) rfl rfl dX6_tonsBy_141 rfl ?_
          refine V_iconst (q := 145) (v := 1) dX6_tonsBy_144 (by decide) rfl ?_
          refine V_isub (q := 146) dX6_tonsBy_145 rfl ?_
          refine V_ild (q := 147) (st.length) 41 (by show nI q.1.length - 1 = nI st.length; rw [hlen3]; exact nI_pred st.length) (by omega) (by decide) (by omega) (by decide) rfl (by decide) dX6_tonsBy_146 rfl ?_
          refine V_ist (q := 148) (st.length) 41 (by show nI q.1.length - 1 = nI st.length; rw [hlen3]; exact nI_pred st.length) (by omega) (by decide) (by omega) (by decide) rfl (by decide) dX6_tonsBy_147 rfl ?_
          refine V_goto (q := 239) dX6_tonsBy_148 (by decide) ?_
          refine V_iload (q := 241) dX6_tonsBy_239 rfl rfl ?_
          refine V_cS1I (q := 244) (N := mX6_isFigure) tX6_isFigure hκ.big (by decide) gX6_isFigure kl_X6_93 kt_X6_isFigure (Nat.le_of_ble_eq_true rfl) dX6_tonsBy_241 rfl ?_
          refine V_istore (q := 246) dX6_tonsBy_244 (Nat.le_of_ble_eq_true rfl) rfl rfl ?_
          refine V_iincN (q := 249) dX6_tonsBy_246 rfl (Nat.le_of_ble_eq_true rfl) rfl rfl ?_
          refine V_goto (q := 11) dX6_tonsBy_249 (by decide) ?_
          refine V_ls [.ref 6, .int (nI a), .int l, .int b, .int d, .int r, .int (if ((if tt < 0 then 0 else tt) :: st, 0).2 = 0 then (0 : Int32) else 1), .int (nI (i + 1)), .int (Ar 43 (40 * a + i))] (by rw [← nI_1 i, show (if ((if tt < 0 then 0 else tt) :: st, 0).2 = 0 then (0 : Int32) else 1) = vB (48 ≤ (Ar 43 (40 * a + i)) ∧ (Ar 43 (40 * a + i)) ≤ 57) from by rw [vB_f hnf]; rfl]; rfl) ?_
          refine V_fl (mF F ((if tt < 0 then 0 else tt) :: st, 0).1.length) (by rw [hlen3]; rfl) ?_
          refine V_ar (mP Ar (upd pl st.length (if tt < 0 then 0 else tt))) (by rw [if_neg (by rw [← (rel_pop hr2).2]; exact fun z => v_nlt z c_129), ← (rel_pop hr2).2]; exact vS_vS) ?_
          exact ih (i + 1) ((if tt < 0 then 0 else tt) :: st, 0) (upd pl st.length (if tt < 0 then 0 else tt)) _ (by omega) (by show st.length + 1 ≤ i + 1; omega) (sStep_sm hsm hs) (rel_push (rel_pop hr2).1) hrest
        · refine V_iconst (q := 133) (v := 0) dX6_tonsBy_132 (by decide) rfl ?_
          refine V_goto (q := 147) dX6_tonsBy_133 (by decide) ?_
          refine V_ist (q := 148) (st.length) 41 (by show nI q.1.length - 1 = nI st.length; rw [hlen3]; exact nI_pred st.length) (by omega) (by decide) (by omega) (by decide) rfl (by decide) dX6_tonsBy_147 rfl ?_
          refine V_goto (q := 239) dX6_tonsBy_148 (by decide) ?_
          refine V_iload (q := 241) dX6_tonsBy_239 rfl rfl ?_
          refine V_cS1I (q := 244) (N := mX6_isFigure) tX6_isFigure hκ.big (by decide) gX6_isFigure kl_X6_93 kt_X6_isFigure (Nat.le_of_ble_eq_true rfl) dX6_tonsBy_241 rfl ?_
          refine V_istore (q := 246) dX6_tonsBy_244 (Nat.le_of_ble_eq_true rfl) rfl rfl ?_
          refine V_iincN (q := 249) dX6_tonsBy_246 rfl (Nat.le_of_ble_eq_true rfl) rfl rfl ?_
          refine V_goto (q := 11) dX6_tonsBy_249 (by decide) ?_
          refine V_ls [.ref 6, .int (nI a), .int l, .int b, .int d, .int r, .int (if ((if tt < 0 then 0 else tt) :: st, 0).2 = 0 then (0 : Int32) else 1), .int (nI (i + 1)), .int (Ar 43 (40 * a + i))] (by rw [← nI_1 i, show (if ((if tt < 0 then 0 else tt) :: st, 0).2 = 0 then (0 : Int32) else 1) = vB (48 ≤ (Ar 43 (40 * a + i)) ∧ (Ar 43 (40 * a + i)) ≤ 57) from by rw [vB_f hnf]; rfl]; rfl) ?_
          refine V_fl (mF F ((if tt < 0 then 0 else tt) :: st, 0).1.length) (by rw [hlen3]; rfl) ?_
          refine V_ar (mP Ar (upd pl st.length (if tt < 0 then 0 else tt))) (by rw [if_pos (by rw [← (rel_pop hr2).2]; exact v_lt c_129)]; exact vS_vS) ?_
          exact ih (i + 1) ((if tt < 0 then 0 else tt) :: st, 0) (upd pl st.length (if tt < 0 then 0 else tt)) _ (by omega) (by show st.length + 1 ≤ i + 1; omega) (sStep_sm hsm hs) (rel_push (rel_pop hr2).1) hrest
    · have hnf : ¬ cFig (Ar 43 (40 * a + i)) := nfig (Or.inr (Or.inr (Or.inl hc)))
      match hq : q.1 with
      | [] =>
        have hs : sStep l b d r (Ar 43 (40 * a + i)) q = none := by rw [sStep_op hc, sJoin, hq]
        rw [hs] at hrun
        cases hrun
      | [_] =>
        have hs : sStep l b d r (Ar 43 (40 * a + i)) q = none := by rw [sStep_op hc, sJoin, hq]
        rw [hs] at hrun
        cases hrun
      | t2 :: t1 :: st =>
        have hs : sStep l b d r (Ar 43 (40 * a + i)) q = some (bnd (jn (Ar 43 (40 * a + i)) t1.toInt64 t2.toInt64) :: st, 0) := by rw [sStep_op hc, sJoin, hq]
        rw [hs] at hrun
        have hrest := hrun
        have hlen3 : q.1.length = st.length + 2 := by rw [hq]; rfl
        have hr2 : rel pl (t2 :: t1 :: st) := by rw [← hq]; exact hrel
        rw [← hq]
        refine V_iload (q := 13) dX6_tonsBy_11 rfl rfl ?_
        refine V_aload_n (q := 14) dX6_tonsBy_13 rfl rfl ?_
        refine V_getR (q := 17) (n := 42) 6 4 kf_X6_16 (by decide) (by decide) rfl (by decide) dX6_tonsBy_14 rfl ?_
        refine V_iload_n (q := 18) dX6_tonsBy_17 rfl rfl ?_
        refine V_ild (q := 19) (a) 5 rfl ha (by decide) (by omega) (by decide) rfl (by decide) dX6_tonsBy_18 rfl ?_
        rw [hlen2]
        refine V_icmp_ge (tgt := 252) (q := 22) dX6_tonsBy_19 (by decide) rfl (fun c_19 => absurd c_19 (v_gf (by omega) (by omega) (by omega))) (fun c_19 => ?_)
        refine V_aload_n (q := 23) dX6_tonsBy_22 rfl rfl ?_
        refine V_getR (q := 26) (n := 43) 6 5 kf_X6_19 (by decide) (by decide) rfl (by decide) dX6_tonsBy_23 rfl ?_
        refine V_bipush (q := 28) (v := 40) dX6_tonsBy_26 (by decide) rfl ?_
        refine V_iload_n (q := 29) dX6_tonsBy_28 rfl rfl ?_
        refine V_imul (q := 30) dX6_tonsBy_29 rfl ?_
        refine V_iload (q := 32) dX6_tonsBy_30 rfl rfl ?_
        refine V_iadd (q := 33) dX6_tonsBy_32 rfl ?_
        refine V_ild (q := 34) (40 * a + i) 200 (v_m40 a i) (by omega) (by decide) (by omega) (by decide) rfl (by decide) dX6_tonsBy_33 rfl ?_
        rw [h43]
        refine V_istore (q := 36) dX6_tonsBy_34 (Nat.le_of_ble_eq_true rfl) rfl rfl ?_
        refine V_iload (q := 38) dX6_tonsBy_36 rfl rfl ?_
        refine V_cS1I (q := 41) (N := mX6_isFigure) tX6_isFigure hκ.big (by decide) gX6_isFigure kl_X6_93 kt_X6_isFigure (Nat.le_of_ble_eq_true rfl) dX6_tonsBy_38 rfl ?_
        refine V_if_eq (tgt := 101) (q := 44) dX6_tonsBy_41 (by decide) rfl (fun c_41 => ?_) (fun c_41 => absurd (vB_n0.mp c_41) hnf)
        refine V_iload (q := 103) dX6_tonsBy_101 rfl rfl ?_
        refine V_bipush (q := 105) (v := 33) dX6_tonsBy_103 (by decide) rfl ?_
        refine V_icmp_ne (tgt := 151) (q := 108) dX6_tonsBy_105 (by decide) rfl (fun c_105 => ?_) (fun c_105 => absurd c_105 (by rcases hc with h | h | h | h <;> rw [h] <;> decide))
        refine V_iload (q := 153) dX6_tonsBy_151 rfl rfl ?_
        refine V_bipush (q := 155) (v := 108) dX6_tonsBy_153 (by decide) rfl ?_
        refine V_icmp_eq (tgt := 179) (q := 158) dX6_tonsBy_155 (by decide) rfl (fun c_155 => absurd c_155 (by rcases hc with h | h | h | h <;> rw [h] <;> decide)) (fun c_155 => ?_)
        refine V_iload (q := 160) dX6_tonsBy_158 rfl rfl ?_
        refine V_bipush (q := 162) (v := 98) dX6_tonsBy_160 (by decide) rfl ?_
        refine V_icmp_eq (tgt := 179) (q := 165) dX6_tonsBy_162 (by decide) rfl (fun c_162 => absurd c_162 (by rcases hc with h | h | h | h <;> rw [h] <;> decide)) (fun c_162 => ?_)
        refine V_iload (q := 167) dX6_tonsBy_165 rfl rfl ?_
        refine V_bipush (q := 169) (v := 100) dX6_tonsBy_167 (by decide) rfl ?_
        refine V_icmp_eq (tgt := 179) (q := 172) dX6_tonsBy_169 (by decide) rfl (fun c_169 => absurd c_169 (by rcases hc with h | h | h | h <;> rw [h] <;> decide)) (fun c_169 => ?_)
        refine V_iload (q := 174) dX6_tonsBy_172 rfl rfl ?_
        refine V_bipush (q := 176) (v := 114) dX6_tonsBy_174 (by decide) rfl ?_
        refine V_icmp_ne (tgt := 226) (q := 179) dX6_tonsBy_176 (by decide) rfl (fun c_176 => ?_) (fun c_176 => absurd c_176 (by rcases hc with h | h | h | h <;> rw [h] <;> decide))
        refine V_iload (q := 228) dX6_tonsBy_226 rfl rfl ?_
        refine V_bipush (q := 230) (v := 32) dX6_tonsBy_228 (by decide) rfl ?_
        refine V_icmp_eq (tgt := 239) (q := 233) dX6_tonsBy_230 (by decide) rfl (fun c_230 => absurd c_230 (by rcases hc with h | h | h | h <;> rw [h] <;> decide)) (fun c_230 => ?_)
        refine V_aload_n (q := 234) dX6_tonsBy_233 rfl rfl ?_
        refine V_iload (q := 236) dX6_tonsBy_234 rfl rfl ?_
        refine V_fl (mF F (st.length + 2)) (by rw [hlen3]) ?_
        refine V_cV1U (q := 239) (o := 6) (N := mX6_combine) (tX6_combine (F := F) (Ar := Ar) (pl := pl) (h := st.length + 2) (by omega) (by omega)) hκ.big (by decide) gX6_combine kl_X6_132 ki_X6_combine ks_X6_combine (by decide) rfl (Nat.le_of_ble_eq_true rfl) dX6_tonsBy_236 rfl ?_
        refine V_iload (q := 241) dX6_tonsBy_239 rfl rfl ?_
        refine V_cS1I (q := 244) (N := mX6_isFigure) tX6_isFigure hκ.big (by decide) gX6_isFigure kl_X6_93 kt_X6_isFigure (Nat.le_of_ble_eq_true rfl) dX6_tonsBy_241 rfl ?_
        refine V_istore (q := 246) dX6_tonsBy_244 (Nat.le_of_ble_eq_true rfl) rfl rfl ?_
        refine V_iincN (q := 249) dX6_tonsBy_246 rfl (Nat.le_of_ble_eq_true rfl) rfl rfl ?_
        refine V_goto (q := 11) dX6_tonsBy_249 (by decide) ?_
        refine V_ls [.ref 6, .int (nI a), .int l, .int b, .int d, .int r, .int (if (bnd (jn (Ar 43 (40 * a + i)) t1.toInt64 t2.toInt64) :: st, 0).2 = 0 then (0 : Int32) else 1), .int (nI (i + 1)), .int (Ar 43 (40 * a + i))] (by rw [← nI_1 i, show (if (bnd (jn (Ar 43 (40 * a + i)) t1.toInt64 t2.toInt64) :: st, 0).2 = 0 then (0 : Int32) else 1) = vB (48 ≤ (Ar 43 (40 * a + i)) ∧ (Ar 43 (40 * a + i)) ≤ 57) from by rw [vB_f hnf]; rfl]; rfl) ?_
        refine V_fl (mF F (bnd (jn (Ar 43 (40 * a + i)) t1.toInt64 t2.toInt64) :: st, 0).1.length) (by rfl) ?_
        refine V_ar (mP Ar (upd pl st.length (bnd (jn (Ar 43 (40 * a + i)) t1.toInt64 t2.toInt64)))) (by rw [show st.length + 2 - 2 = st.length by omega, show st.length + 2 - 1 = st.length + 1 by omega, (rel_pop (rel_pop hr2).1).2, show pl (st.length + 1) = t2 from (rel_pop hr2).2, jnM_eq hc]) ?_
        exact ih (i + 1) (bnd (jn (Ar 43 (40 * a + i)) t1.toInt64 t2.toInt64) :: st, 0) (upd pl st.length (bnd (jn (Ar 43 (40 * a + i)) t1.toInt64 t2.toInt64))) _ (by omega) (by show st.length + 1 ≤ i + 1; omega) (sStep_sm hsm hs) (rel_push (rel_pop (rel_pop hr2).1).1) hrest
    · have hs : sStep l b d r (Ar 43 (40 * a + i)) q = none := sStep_bad hc
      rw [hs] at hrun
      cases hrun
theorem tX6_tonsBy {F : vFt} {Ar : vAt} {x : vXt} {a len fz : Nat} {l b d r v : Int32} (ha : a < 5) (hlen : Ar 42 a = nI len) (hl40 : len ≤ 40) (hsl : smI l) (hsb : smI b) (hsd : smI d) (hsr : smI r) (hrun : sRun l b d r (fun i => Ar 43 (40 * a + i)) len 0 ([], 0) = some ([v], fz)) : C0 mX6_tonsBy 2 [.ref 6, .int (nI a), .int l, .int b, .int d, .int r] F Ar x (mtQ v F Ar) := by
  refine C0_of (by decide +kernel) (Nat.le_of_ble_eq_true rfl) (fun κ hκ => ?_)
  show V κ mX6_tonsBy 0 [.ref 6, .int (nI a), .int l, .int b, .int d, .int r, .null, .null, .null] [] F Ar x
  refine V_aload_n (q := 1) dX6_tonsBy_0 rfl rfl ?_
  refine V_iconst (q := 2) (v := 0) dX6_tonsBy_1 (by decide) rfl ?_
  refine V_putI (q := 5) (n := 410) 6 26 kf_X6_115 (by decide) (by decide) rfl rfl dX6_tonsBy_2 rfl ?_
  refine V_iconst (q := 6) (v := 0) dX6_tonsBy_5 (by decide) rfl ?_
  refine V_istore (q := 8) dX6_tonsBy_6 (Nat.le_of_ble_eq_true rfl) rfl rfl ?_
  refine V_iconst (q := 9) (v := 0) dX6_tonsBy_8 (by decide) rfl ?_
  refine V_istore (q := 11) dX6_tonsBy_9 (Nat.le_of_ble_eq_true rfl) rfl rfl ?_
  refine V_ar (mP Ar (Ar 59)) (vS_self (Ar := Ar) (a := 59)).symm ?_
  exact lp_X6_tons hκ ha hlen hl40 hsl hsb hsd hsr len 0 ([], 0) (Ar 59) .null (by omega) (Nat.le_refl 0) sSm_0 rel_nil hrun
