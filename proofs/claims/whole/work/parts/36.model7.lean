theorem fj_16 {F : vFt} {Ar : vAt} {x : vXt} {n most w : Nat} {R : Option (Nat → Nat)} {κ : vK} (hκ : vStd κ 3 x (fjQ n F Ar R)) (hF : F 403 = nI n) (hn8 : n ≤ 8) (hm1 : 1 ≤ most) (hm8 : most ≤ 8) (hw : F 405 = nI w) (hw6 : w ≤ 6) (hy : mYes Ar w) {q : Nat} {g : Nat → Nat} {Ar' : vAt} {l3 : Value} (hq : q < n) (hS : fjS Ar q g Ar') (hk : V κ mX6_findJoining 51 [.ref 6, .int (nI most), .int (nI q), .int (nI (min (usd g q) (most - 1)))] [] F Ar' x) : V κ mX6_findJoining 16 [.ref 6, .int (nI most), .int (nI q), l3] [] F Ar' x := by
  have hu := hS.2.2.1 q (Nat.le_refl q)
  have hul := usd_le q hS.2.2.2
  have hcmp : nI most ≤ nI (usd g q) ↔ most ≤ usd g q := nI_leI (by omega) (by omega)
  refine V_iload_n (q := 17) dX6_findJoining_16 rfl rfl ?_
  refine V_if_lt (tgt := 165) (q := 20) dX6_findJoining_17 (by decide) rfl (fun c_17 => absurd c_17 (nI_pos (by omega))) (fun c_17 => ?_)
  refine V_iload_n (q := 21) dX6_findJoining_20 rfl rfl ?_
  refine V_aload_n (q := 22) dX6_findJoining_21 rfl rfl ?_
  refine V_getI (q := 25) (n := 403) 6 19 kf_X6_184 (by decide) (by decide) rfl rfl dX6_findJoining_22 rfl ?_
  rw [hF]
  refine V_icmp_ge (tgt := 165) (q := 28) dX6_findJoining_25 (by decide) rfl (fun c_25 => absurd c_25 (v_gf (by omega) (by omega) hq)) (fun c_25 => ?_)
  refine V_aload_n (q := 29) dX6_findJoining_28 rfl rfl ?_
  refine V_getR (q := 32) (n := 65) 6 32 kf_X6_86 (by decide) (by decide) rfl (by decide) dX6_findJoining_29 rfl ?_
  refine V_iload_n (q := 33) dX6_findJoining_32 rfl rfl ?_
  refine V_ild (q := 34) (q) 10 rfl (by omega) (by decide) (by omega) (by decide) rfl (by decide) dX6_findJoining_33 rfl ?_
  rw [hu]
  refine V_iload_n (q := 35) dX6_findJoining_34 rfl rfl ?_
  refine V_icmp_ge (tgt := 47) (q := 38) dX6_findJoining_35 (by decide) rfl (fun c_35 => ?_) (fun c_35 => ?_)
  · refine V_iload_n (q := 48) dX6_findJoining_47 rfl rfl ?_
    refine V_iconst (q := 49) (v := 1) dX6_findJoining_48 (by decide) rfl ?_
    refine V_isub (q := 50) dX6_findJoining_49 rfl ?_
    refine V_istore_n (q := 51) dX6_findJoining_50 (Nat.le_of_ble_eq_true rfl) rfl rfl ?_
    have e : min (usd g q) (most - 1) = most - 1 := (by have := hcmp.mp c_35; omega)
    rw [e] at hk
    refine V_ls [.ref 6, .int (nI most), .int (nI q), .int (nI (most - 1))] (by rw [← v_sub1 hm1]; rfl) ?_
    exact hk
  · refine V_aload_n (q := 39) dX6_findJoining_38 rfl rfl ?_
    refine V_getR (q := 42) (n := 65) 6 32 kf_X6_86 (by decide) (by decide) rfl (by decide) dX6_findJoining_39 rfl ?_
    refine V_iload_n (q := 43) dX6_findJoining_42 rfl rfl ?_
    refine V_ild (q := 44) (q) 10 rfl (by omega) (by decide) (by omega) (by decide) rfl (by decide) dX6_findJoining_43 rfl ?_
    refine V_goto (q := 50) dX6_findJoining_44 (by decide) ?_
    refine V_istore_n (q := 51) dX6_findJoining_50 (Nat.le_of_ble_eq_true rfl) rfl rfl ?_
    have e : min (usd g q) (most - 1) = usd g q := (by have : ¬ most ≤ usd g q := fun h => c_35 (hcmp.mpr h); omega)
    rw [e] at hk
    refine V_ls [.ref 6, .int (nI most), .int (nI q), .int (nI (usd g q))] (by rw [← hu]; rfl) ?_
    exact hk
theorem fj_145 {F : vFt} {Ar : vAt} {x : vXt} {n most w : Nat} {R : Option (Nat → Nat)} {κ : vK} (hκ : vStd κ 3 x (fjQ n F Ar R)) (hF : F 403 = nI n) (hn8 : n ≤ 8) (hm1 : 1 ≤ most) (hm8 : most ≤ 8) (hw : F 405 = nI w) (hw6 : w ≤ 6) (hy : mYes Ar w) {q c : Nat} {g : Nat → Nat} {Ar' : vAt} {l3 : Value} (hq : q < n) (hS : fjS Ar (q + 1) (updN g q c) Ar') (hk : V κ mX6_findJoining 16 [.ref 6, .int (nI most), .int (nI q), l3] [] F (vS Ar' 64 (upd (Ar' 64) q (nI (c + 1)))) x) : V κ mX6_findJoining 145 [.ref 6, .int (nI most), .int (nI (q + 1)), l3] [] F Ar' x := by
  have hc : Ar' 64 q = nI c := by rw [hS.2.1 q (by omega), updN_at]
  refine V_iinc (q := 148) (w := (-1)) dX6_findJoining_145 rfl (by decide) (Nat.le_of_ble_eq_true rfl) rfl rfl ?_
  refine V_ls [.ref 6, .int (nI most), .int (nI q), l3] (by rw [← pk_m1 q]; rfl) ?_
  refine V_iload_n (q := 149) dX6_findJoining_148 rfl rfl ?_
  refine V_if_lt (tgt := 162) (q := 152) dX6_findJoining_149 (by decide) rfl (fun c_149 => absurd c_149 (nI_pos (by omega))) (fun c_149 => ?_)
  refine V_aload_n (q := 153) dX6_findJoining_152 rfl rfl ?_
  refine V_getR (q := 156) (n := 64) 6 31 kf_X6_83 (by decide) (by decide) rfl (by decide) dX6_findJoining_153 rfl ?_
  refine V_iload_n (q := 157) dX6_findJoining_156 rfl rfl ?_
  refine V_dup2 (q := 158) dX6_findJoining_157 rfl rfl rfl ?_
  refine V_ild (q := 159) (q) 9 rfl (by omega) (by decide) (by omega) (by decide) rfl (by decide) dX6_findJoining_158 rfl ?_
  refine V_iconst (q := 160) (v := 1) dX6_findJoining_159 (by decide) rfl ?_
  refine V_iadd (q := 161) dX6_findJoining_160 rfl ?_
  refine V_ist (q := 162) (q) 9 rfl (by omega) (by decide) (by omega) (by decide) rfl (by decide) dX6_findJoining_161 rfl ?_
  refine V_goto (q := 16) dX6_findJoining_162 (by decide) ?_
  refine V_ar (vS Ar' 64 (upd (Ar' 64) q (nI (c + 1)))) (by rw [hc, nI_1]) ?_
  exact hk
def fjA (κ : vK) (F : vFt) (Ar : vAt) (x : vXt) (n most w : Nat) (R : Option (Nat → Nat)) (k : Nat) : Prop := ∀ (q : Nat) (g : Nat → Nat) (c : Nat) (Ar' : vAt) (l3 : Value), q + k = n → fjS Ar q g Ar' → Ar' 64 q = nI c → c ≤ min (usd g q) (most - 1) + 1 → (∀ g', srC (mL Ar w) most k q g c = some g' → R = some g') →
  (srC (mL Ar w) most k q g c = none → ∀ (Ar'' : vAt) (l3' : Value), fjS Ar q g Ar'' → V κ mX6_findJoining 145 [.ref 6, .int (nI most), .int (nI q), l3'] [] F Ar'' x) → V κ mX6_findJoining 16 [.ref 6, .int (nI most), .int (nI q), l3] [] F Ar' x
theorem fjS_put {Ar Ar' : vAt} {q : Nat} {g : Nat → Nat} {v : Int32} (h : fjS Ar q g Ar') : fjS Ar q g (vS Ar' 64 (upd (Ar' 64) q v)) := by
  refine ⟨fun b h1 h2 => by rw [vS_ne h1]; exact h.1 b h1 h2, fun i hi => ?_, fun j hj => by rw [vS_ne (by decide)]; exact h.2.2.1 j hj, h.2.2.2⟩
  rw [vS_at, upd_ne (by omega)]
  exact h.2.1 i hi
theorem fjS_in {Ar Ar' : vAt} {q c : Nat} {g : Nat → Nat} (h : fjS Ar q g Ar') (hc : Ar' 64 q = nI c) (hcu : c ≤ usd g q) : fjS Ar (q + 1) (updN g q c) (vS (vS Ar' 65 (upd (Ar' 65) (q + 1) (nI (max (usd g q) (c + 1))))) 64 (upd (Ar' 64) (q + 1) 0)) := by
  have hu : ∀ j, j ≤ q → usd (updN g q c) j = usd g j := fun j hj => usd_congr j (fun i hi => updN_ne (by omega))
  refine ⟨fun b h1 h2 => by rw [vS_ne h1, vS_ne h2]; exact h.1 b h1 h2, fun i hi => ?_, fun j hj => ?_, fun i hi => ?_⟩
  · rw [vS_at, upd_ne (by omega)]
    by_cases e : i = q
    · subst e
      rw [hc, updN_at]
    · rw [updN_ne e]
      exact h.2.1 i (by omega)
  · rw [vS_ne (by decide), vS_at]
    by_cases e : j = q + 1
    · subst e
      rw [upd_at, usd, hu q (Nat.le_refl q), updN_at]
    · rw [upd_ne e, hu j (by omega)]
      exact h.2.2.1 j (by omega)
  · rw [hu i (by omega)]
    by_cases e : i = q
    · subst e
      rw [updN_at]
      exact hcu
    · rw [updN_ne e]
      exact h.2.2.2 i (by omega)
theorem fjS_out {Ar Ar' : vAt} {q c : Nat} {g : Nat → Nat} (h : fjS Ar (q + 1) (updN g q c) Ar') (hg : ∀ i, i < q → g i ≤ usd g i) : fjS Ar q g Ar' := by
  have hu : ∀ j, j ≤ q → usd (updN g q c) j = usd g j := fun j hj => usd_congr j (fun i hi => updN_ne (by omega))
  refine ⟨h.1, fun i hi => ?_, fun j hj => ?_, hg⟩
  · rw [h.2.1 i (by omega), updN_ne (by omega)]
  · rw [h.2.2.1 j (by omega), hu j hj]
theorem fj_A0 {F : vFt} {Ar : vAt} {x : vXt} {n most w : Nat} {R : Option (Nat → Nat)} {κ : vK} (hκ : vStd κ 3 x (fjQ n F Ar R)) (hF : F 403 = nI n) (hn8 : n ≤ 8) (hm1 : 1 ≤ most) (hm8 : most ≤ 8) (hw : F 405 = nI w) (hw6 : w ≤ 6) (hy : mYes Ar w) : fjA κ F Ar x n most w R 0 := by
  intro q g c Ar' l3 hq hS hc hcl hs hf
  have hR : R = some g := hs g rfl
  refine V_iload_n (q := 17) dX6_findJoining_16 rfl rfl ?_
  refine V_if_lt (tgt := 165) (q := 20) dX6_findJoining_17 (by decide) rfl (fun c_17 => absurd c_17 (nI_pos (by omega))) (fun c_17 => ?_)
  refine V_iload_n (q := 21) dX6_findJoining_20 rfl rfl ?_
  refine V_aload_n (q := 22) dX6_findJoining_21 rfl rfl ?_
  refine V_getI (q := 25) (n := 403) 6 19 kf_X6_184 (by decide) (by decide) rfl rfl dX6_findJoining_22 rfl ?_
  rw [hF]
  refine V_icmp_ge (tgt := 165) (q := 28) dX6_findJoining_25 (by decide) rfl (fun c_25 => ?_) (fun c_25 => absurd c_25 (v_gt (by omega) (by omega) (by omega)))
  refine V_iload_n (q := 166) dX6_findJoining_165 rfl rfl ?_
  refine V_if_lt (tgt := 173) (q := 169) dX6_findJoining_166 (by decide) rfl (fun c_166 => absurd c_166 (nI_pos (by omega))) (fun c_166 => ?_)
  refine V_iconst (q := 170) (v := 1) dX6_findJoining_169 (by decide) rfl ?_
  refine V_goto (q := 174) dX6_findJoining_170 (by decide) ?_
  exact V_iret hκ rfl (by first | rfl | exact vB_nar) dX6_findJoining_174 ⟨rfl, hS.1, by rw [hR]; exact ⟨rfl, fun i hi => hS.2.1 i (by omega)⟩⟩
set_option maxHeartbeats 4000000 in
theorem fj_B {F : vFt} {Ar : vAt} {x : vXt} {n most w : Nat} {R : Option (Nat → Nat)} {κ : vK} (hκ : vStd κ 3 x (fjQ n F Ar R)) (hF : F 403 = nI n) (hn8 : n ≤ 8) (hm1 : 1 ≤ most) (hm8 : most ≤ 8) (hw : F 405 = nI w) (hw6 : w ≤ 6) (hy : mYes Ar w) {k q : Nat} {g : Nat → Nat} (ihA : fjA κ F Ar x n most w R k) (hq : q + (k + 1) = n) : ∀ m c (Ar' : vAt), c + m = (min (usd g q) (most - 1)) + 1 → fjS Ar q g Ar' → Ar' 64 q = nI c → (∀ g', vFst (fun c => if srOk (mL Ar w) g q c = true then srch (mL Ar w) most k (q + 1) (max (usd g q) (c + 1)) (updN g q c) else none) c m = some g' → R = some g') → (vFst (fun c => if srOk (mL Ar w) g q c = true then srch (mL Ar w) most k (q + 1) (max (usd g q) (c + 1)) (updN g q c) else none) c m = none → ∀ (Ar'' : vAt) (l3' : Value), fjS Ar q g Ar'' → V κ mX6_findJoining 145 [.ref 6, .int (nI most), .int (nI q), l3'] [] F Ar'' x) → V κ mX6_findJoining 51 [.ref 6, .int (nI most), .int (nI q), .int (nI (min (usd g q) (most - 1)))] [] F Ar' x := by
  intro m
  induction m with
  | zero =>
    intro c Ar' hm hS hc hs hf
    have hul := usd_le q hS.2.2.2
    have hgt : nI (min (usd g q) (most - 1)) < nI c := nI_lt (by omega) (by omega)
    refine V_aload_n (q := 52) dX6_findJoining_51 rfl rfl ?_
    refine V_getR (q := 55) (n := 64) 6 31 kf_X6_83 (by decide) (by decide) rfl (by decide) dX6_findJoining_52 rfl ?_
    refine V_iload_n (q := 56) dX6_findJoining_55 rfl rfl ?_
    refine V_ild (q := 57) (q) 9 rfl (by omega) (by decide) (by omega) (by decide) rfl (by decide) dX6_findJoining_56 rfl ?_
    rw [hc]
    refine V_iload_n (q := 58) dX6_findJoining_57 rfl rfl ?_
    refine V_icmp_gt (tgt := 82) (q := 61) dX6_findJoining_58 (by decide) rfl (fun c_58 => ?_) (fun c_58 => absurd hgt c_58)
    refine V_aload_n (q := 83) dX6_findJoining_82 rfl rfl ?_
    refine V_getR (q := 86) (n := 64) 6 31 kf_X6_83 (by decide) (by decide) rfl (by decide) dX6_findJoining_83 rfl ?_
    refine V_iload_n (q := 87) dX6_findJoining_86 rfl rfl ?_
    refine V_ild (q := 88) (q) 9 rfl (by omega) (by decide) (by omega) (by decide) rfl (by decide) dX6_findJoining_87 rfl ?_
    rw [hc]
    refine V_iload_n (q := 89) dX6_findJoining_88 rfl rfl ?_
    refine V_icmp_gt (tgt := 145) (q := 92) dX6_findJoining_89 (by decide) rfl (fun c_89 => ?_) (fun c_89 => absurd hgt c_89)
    exact hf rfl Ar' _ hS
  | succ m ihm =>
    intro c Ar' hm hS hc hs hf
    have hul := usd_le q hS.2.2.2
    have hngt : ¬ nI (min (usd g q) (most - 1)) < nI c := nI_nlt (by omega) (by omega)
    have hu := hS.2.2.1 q (Nat.le_refl q)
    have hL := fjS_mL (w := w) hS
    have hcu : nI c = nI (usd g q) ↔ c = usd g q := nI_eq (by omega) (by omega)
    have hu9 : usd (updN g q c) (q + 1) = max (usd g q) (c + 1) := by rw [usd, updN_at, usd_congr (g := updN g q c) (g' := g) q (fun i hi => updN_ne (by omega))]
    have hmay := tX6_mayJoin (F := F) (Ar := Ar') (x := x) (q := q) (c := c) (w := w) (g := g) hw hw6 (fjS_yes hS hy) (by omega) hS.2.1 (fun i hi => by have h1 := hS.2.2.2 i hi; have h2 := usd_le i (fun j hj => hS.2.2.2 j (by omega)); omega) hc (by omega)
    rw [hL] at hmay
    refine V_aload_n (q := 52) dX6_findJoining_51 rfl rfl ?_
    refine V_getR (q := 55) (n := 64) 6 31 kf_X6_83 (by decide) (by decide) rfl (by decide) dX6_findJoining_52 rfl ?_
    refine V_iload_n (q := 56) dX6_findJoining_55 rfl rfl ?_
    refine V_ild (q := 57) (q) 9 rfl (by omega) (by decide) (by omega) (by decide) rfl (by decide) dX6_findJoining_56 rfl ?_
    rw [hc]
    refine V_iload_n (q := 58) dX6_findJoining_57 rfl rfl ?_
    refine V_icmp_gt (tgt := 82) (q := 61) dX6_findJoining_58 (by decide) rfl (fun c_58 => absurd c_58 hngt) (fun c_58 => ?_)
    refine V_aload_n (q := 62) dX6_findJoining_61 rfl rfl ?_
    refine V_iload_n (q := 63) dX6_findJoining_62 rfl rfl ?_
    refine V_cV1I (q := 66) (o := 6) (N := mX6_mayJoin) hmay hκ.big (by decide) gX6_mayJoin kl_X6_201 ki_X6_mayJoin ks_X6_mayJoin (by decide) rfl (Nat.le_of_ble_eq_true rfl) dX6_findJoining_63 rfl ?_
    refine V_if_ne (tgt := 82) (q := 69) dX6_findJoining_66 (by decide) rfl (fun c_66 => ?_) (fun c_66 => ?_)
    · have hok := vB_n0.mp c_66
      refine V_aload_n (q := 83) dX6_findJoining_82 rfl rfl ?_
      refine V_getR (q := 86) (n := 64) 6 31 kf_X6_83 (by decide) (by decide) rfl (by decide) dX6_findJoining_83 rfl ?_
      refine V_iload_n (q := 87) dX6_findJoining_86 rfl rfl ?_
      refine V_ild (q := 88) (q) 9 rfl (by omega) (by decide) (by omega) (by decide) rfl (by decide) dX6_findJoining_87 rfl ?_
      rw [hc]
      refine V_iload_n (q := 89) dX6_findJoining_88 rfl rfl ?_
      refine V_icmp_gt (tgt := 145) (q := 92) dX6_findJoining_89 (by decide) rfl (fun c_89 => absurd c_89 hngt) (fun c_89 => ?_)
      refine V_aload_n (q := 93) dX6_findJoining_92 rfl rfl ?_
      refine V_getR (q := 96) (n := 65) 6 32 kf_X6_86 (by decide) (by decide) rfl (by decide) dX6_findJoining_93 rfl ?_
      refine V_iload_n (q := 97) dX6_findJoining_96 rfl rfl ?_
      refine V_iconst (q := 98) (v := 1) dX6_findJoining_97 (by decide) rfl ?_
      refine V_iadd (q := 99) dX6_findJoining_98 rfl ?_
      refine V_aload_n (q := 100) dX6_findJoining_99 rfl rfl ?_
      refine V_getR (q := 103) (n := 64) 6 31 kf_X6_83 (by decide) (by decide) rfl (by decide) dX6_findJoining_100 rfl ?_
      refine V_iload_n (q := 104) dX6_findJoining_103 rfl rfl ?_
      refine V_ild (q := 105) (q) 9 rfl (by omega) (by decide) (by omega) (by decide) rfl (by decide) dX6_findJoining_104 rfl ?_
      refine V_aload_n (q := 106) dX6_findJoining_105 rfl rfl ?_
      refine V_getR (q := 109) (n := 65) 6 32 kf_X6_86 (by decide) (by decide) rfl (by decide) dX6_findJoining_106 rfl ?_
      refine V_iload_n (q := 110) dX6_findJoining_109 rfl rfl ?_
      refine V_ild (q := 111) (q) 10 rfl (by omega) (by decide) (by omega) (by decide) rfl (by decide) dX6_findJoining_110 rfl ?_
      rw [hc, hu]
      refine V_icmp_ne (tgt := 125) (q := 114) dX6_findJoining_111 (by decide) rfl (fun c_111 => ?_) (fun c_111 => ?_)
      · refine V_aload_n (q := 126) dX6_findJoining_125 rfl rfl ?_
        refine V_getR (q := 129) (n := 65) 6 32 kf_X6_86 (by decide) (by decide) rfl (by decide) dX6_findJoining_126 rfl ?_
        refine V_iload_n (q := 130) dX6_findJoining_129 rfl rfl ?_
        refine V_ild (q := 131) (q) 10 rfl (by omega) (by decide) (by omega) (by decide) rfl (by decide) dX6_findJoining_130 rfl ?_
        refine V_top (nI (usd g q)) hu ?_
        have hne : ¬ c = usd g q := fun h => c_111 (hcu.mpr h)
        refine V_ist (q := 132) (q + 1) 10 (nI_1 q) (by omega) (by decide) (by omega) (by decide) rfl (by decide) dX6_findJoining_131 rfl ?_
        refine V_iinc (q := 135) (w := 1) dX6_findJoining_132 rfl (by decide) (Nat.le_of_ble_eq_true rfl) rfl rfl ?_
        refine V_ls [.ref 6, .int (nI most), .int (nI (q + 1)), .int (nI (min (usd g q) (most - 1)))] (by rw [← nI_1 q]; rfl) ?_
        refine V_aload_n (q := 136) dX6_findJoining_135 rfl rfl ?_
        refine V_getR (q := 139) (n := 64) 6 31 kf_X6_83 (by decide) (by decide) rfl (by decide) dX6_findJoining_136 rfl ?_
        refine V_iload_n (q := 140) dX6_findJoining_139 rfl rfl ?_
        refine V_iconst (q := 141) (v := 0) dX6_findJoining_140 (by decide) rfl ?_
        refine V_ist (q := 142) (q + 1) 9 rfl (by omega) (by decide) (by omega) (by decide) rfl (by decide) dX6_findJoining_141 rfl ?_
        refine V_goto (q := 162) dX6_findJoining_142 (by decide) ?_
        refine V_goto (q := 16) dX6_findJoining_162 (by decide) ?_
        have hmx : max (usd g q) (c + 1) = usd g q := by omega
        refine ihA (q + 1) (updN g q c) 0 _ _ (by omega) (by
          have h9 := fjS_in hS hc (by omega)
          rw [hmx] at h9
          exact h9) (by rw [vS_at]; exact upd_at) (Nat.zero_le _) (fun g' hg' => ?_) (fun hn9 Ar9 l9 hS9 => ?_)
        · refine hs g' (vFst_some (f := (fun c => if srOk (mL Ar w) g q c = true then srch (mL Ar w) most k (q + 1) (max (usd g q) (c + 1)) (updN g q c) else none)) ?_)
          show (if srOk (mL Ar w) g q c = true then _ else none) = some g'
          rw [if_pos hok, ← hu9]
          rw [srC_0] at hg'
          exact hg'
        · have hnone : (fun c => if srOk (mL Ar w) g q c = true then srch (mL Ar w) most k (q + 1) (max (usd g q) (c + 1)) (updN g q c) else none) c = none := by
            show (if srOk (mL Ar w) g q c = true then _ else none) = none
            rw [if_pos hok, ← hu9]
            rw [srC_0] at hn9
            exact hn9
          have hS8 := fjS_put (v := nI (c + 1)) (fjS_out hS9 hS.2.2.2)
          refine fj_145 hκ hF hn8 hm1 hm8 hw hw6 hy (by omega) hS9 ?_
          refine fj_16 hκ hF hn8 hm1 hm8 hw hw6 hy (by omega) hS8 ?_
          exact ihm (c + 1) _ (by omega) hS8 (by rw [vS_at]; exact upd_at) (fun g' h => hs g' (by rw [vFst_none (f := (fun c => if srOk (mL Ar w) g q c = true then srch (mL Ar w) most k (q + 1) (max (usd g q) (c + 1)) (updN g q c) else none)) hnone]; exact h)) (fun h => hf (by rw [vFst_none (f := (fun c => if srOk (mL Ar w) g q c = true then srch (mL Ar w) most k (q + 1) (max (usd g q) (c + 1)) (updN g q c) else none)) hnone]; exact h))
      · refine V_aload_n (q := 115) dX6_findJoining_114 rfl rfl ?_
        refine V_getR (q := 118) (n := 65) 6 32 kf_X6_86 (by decide) (by decide) rfl (by decide) dX6_findJoining_115 rfl ?_
        refine V_iload_n (q := 119) dX6_findJoining_118 rfl rfl ?_
        refine V_ild (q := 120) (q) 10 rfl (by omega) (by decide) (by omega) (by decide) rfl (by decide) dX6_findJoining_119 rfl ?_
        refine V_iconst (q := 121) (v := 1) dX6_findJoining_120 (by decide) rfl ?_
        refine V_iadd (q := 122) dX6_findJoining_121 rfl ?_
        refine V_goto (q := 131) dX6_findJoining_122 (by decide) ?_
        refine V_top (nI (usd g q + 1)) (by rw [hu, nI_1]) ?_
        have heq : c = usd g q := hcu.mp c_111
        refine V_ist (q := 132) (q + 1) 10 (nI_1 q) (by omega) (by decide) (by omega) (by decide) rfl (by decide) dX6_findJoining_131 rfl ?_
        refine V_iinc (q := 135) (w := 1) dX6_findJoining_132 rfl (by decide) (Nat.le_of_ble_eq_true rfl) rfl rfl ?_
        refine V_ls [.ref 6, .int (nI most), .int (nI (q + 1)), .int (nI (min (usd g q) (most - 1)))] (by rw [← nI_1 q]; rfl) ?_
        refine V_aload_n (q := 136) dX6_findJoining_135 rfl rfl ?_
        refine V_getR (q := 139) (n := 64) 6 31 kf_X6_83 (by decide) (by decide) rfl (by decide) dX6_findJoining_136 rfl ?_
        refine V_iload_n (q := 140) dX6_findJoining_139 rfl rfl ?_
        refine V_iconst (q := 141) (v := 0) dX6_findJoining_140 (by decide) rfl ?_
        refine V_ist (q := 142) (q + 1) 9 rfl (by omega) (by decide) (by omega) (by decide) rfl (by decide) dX6_findJoining_141 rfl ?_
        refine V_goto (q := 162) dX6_findJoining_142 (by decide) ?_
        refine V_goto (q := 16) dX6_findJoining_162 (by decide) ?_
        have hmx : max (usd g q) (c + 1) = usd g q + 1 := by omega
        refine ihA (q + 1) (updN g q c) 0 _ _ (by omega) (by
          have h9 := fjS_in hS hc (by omega)
          rw [hmx] at h9
          exact h9) (by rw [vS_at]; exact upd_at) (Nat.zero_le _) (fun g' hg' => ?_) (fun hn9 Ar9 l9 hS9 => ?_)
        · refine hs g' (vFst_some (f := (fun c => if srOk (mL Ar w) g q c = true then srch (mL Ar w) most k (q + 1) (max (usd g q) (c + 1)) (updN g q c) else none)) ?_)
          show (if srOk (mL Ar w) g q c = true then _ else none) = some g'
          rw [if_pos hok, ← hu9]
          rw [srC_0] at hg'
          exact hg'
        · have hnone : (fun c => if srOk (mL Ar w) g q c = true then srch (mL Ar w) most k (q + 1) (max (usd g q) (c + 1)) (updN g q c) else none) c = none := by
            show (if srOk (mL Ar w) g q c = true then _ else none) = none
            rw [if_pos hok, ← hu9]
            rw [srC_0] at hn9
            exact hn9
          have hS8 := fjS_put (v := nI (c + 1)) (fjS_out hS9 hS.2.2.2)
          refine fj_145 hκ hF hn8 hm1 hm8 hw hw6 hy (by omega) hS9 ?_
          refine fj_16 hκ hF hn8 hm1 hm8 hw hw6 hy (by omega) hS8 ?_
          exact ihm (c + 1) _ (by omega) hS8 (by rw [vS_at]; exact upd_at) (fun g' h => hs g' (by rw [vFst_none (f := (fun c => if srOk (mL Ar w) g q c = true then srch (mL Ar w) most k (q + 1) (max (usd g q) (c + 1)) (updN g q c) else none)) hnone]; exact h)) (fun h => hf (by rw [vFst_none (f := (fun c => if srOk (mL Ar w) g q c = true then srch (mL Ar w) most k (q + 1) (max (usd g q) (c + 1)) (updN g q c) else none)) hnone]; exact h))
    · refine V_aload_n (q := 70) dX6_findJoining_69 rfl rfl ?_
      refine V_getR (q := 73) (n := 64) 6 31 kf_X6_83 (by decide) (by decide) rfl (by decide) dX6_findJoining_70 rfl ?_
      refine V_iload_n (q := 74) dX6_findJoining_73 rfl rfl ?_
      refine V_dup2 (q := 75) dX6_findJoining_74 rfl rfl rfl ?_
      refine V_ild (q := 76) (q) 9 rfl (by omega) (by decide) (by omega) (by decide) rfl (by decide) dX6_findJoining_75 rfl ?_
      refine V_iconst (q := 77) (v := 1) dX6_findJoining_76 (by decide) rfl ?_
      refine V_iadd (q := 78) dX6_findJoining_77 rfl ?_
      refine V_ist (q := 79) (q) 9 rfl (by omega) (by decide) (by omega) (by decide) rfl (by decide) dX6_findJoining_78 rfl ?_
      refine V_goto (q := 51) dX6_findJoining_79 (by decide) ?_
      refine V_ar (vS Ar' 64 (upd (Ar' 64) q (nI (c + 1)))) (by rw [hc, nI_1]) ?_
      have hnone : (fun c => if srOk (mL Ar w) g q c = true then srch (mL Ar w) most k (q + 1) (max (usd g q) (c + 1)) (updN g q c) else none) c = none := if_neg (vB_0.mp c_66)
      exact ihm (c + 1) _ (by omega) (fjS_put hS) (by rw [vS_at]; exact upd_at) (fun g' h => hs g' (by rw [vFst_none (f := (fun c => if srOk (mL Ar w) g q c = true then srch (mL Ar w) most k (q + 1) (max (usd g q) (c + 1)) (updN g q c) else none)) hnone]; exact h)) (fun h => hf (by rw [vFst_none (f := (fun c => if srOk (mL Ar w) g q c = true then srch (mL Ar w) most k (q + 1) (max (usd g q) (c + 1)) (updN g q c) else none)) hnone]; exact h))
theorem fj_A {F : vFt} {Ar : vAt} {x : vXt} {n most w : Nat} {R : Option (Nat → Nat)} {κ : vK} (hκ : vStd κ 3 x (fjQ n F Ar R)) (hF : F 403 = nI n) (hn8 : n ≤ 8) (hm1 : 1 ≤ most) (hm8 : most ≤ 8) (hw : F 405 = nI w) (hw6 : w ≤ 6) (hy : mYes Ar w) : ∀ k, fjA κ F Ar x n most w R k := by
  intro k
  induction k with
  | zero => exact fj_A0 hκ hF hn8 hm1 hm8 hw hw6 hy
  | succ k ih =>
    intro q g c Ar' l3 hq hS hc hcl hs hf
    refine fj_16 hκ hF hn8 hm1 hm8 hw hw6 hy (by omega) hS ?_
    exact fj_B hκ hF hn8 hm1 hm8 hw hw6 hy ih hq ((min (usd g q) (most - 1)) + 1 - c) c Ar' (by omega) hS hc hs hf
theorem tX6_findJoining {F : vFt} {Ar : vAt} {x : vXt} {n most w : Nat} (hF : F 403 = nI n) (hn8 : n ≤ 8) (hm1 : 1 ≤ most) (hm8 : most ≤ 8) (hw : F 405 = nI w) (hw6 : w ≤ 6) (hy : mYes Ar w) : C0 mX6_findJoining 3 [.ref 6, .int (nI most)] F Ar x (fjQ n F Ar (srch (mL Ar w) most n 0 0 (fun _ => 0))) := by
  refine C0_of (by decide +kernel) (Nat.le_of_ble_eq_true rfl) (fun κ hκ => ?_)
  show V κ mX6_findJoining 0 [.ref 6, .int (nI most), .null, .null] [] F Ar x
  refine V_iconst (q := 1) (v := 0) dX6_findJoining_0 (by decide) rfl ?_
  refine V_istore_n (q := 2) dX6_findJoining_1 (Nat.le_of_ble_eq_true rfl) rfl rfl ?_
  refine V_aload_n (q := 3) dX6_findJoining_2 rfl rfl ?_
  refine V_getR (q := 6) (n := 64) 6 31 kf_X6_83 (by decide) (by decide) rfl (by decide) dX6_findJoining_3 rfl ?_
  refine V_iconst (q := 7) (v := 0) dX6_findJoining_6 (by decide) rfl ?_
  refine V_iconst (q := 8) (v := 0) dX6_findJoining_7 (by decide) rfl ?_
  refine V_ist (q := 9) (0) 9 rfl (by decide) (by decide) (by omega) (by decide) rfl (by decide) dX6_findJoining_8 rfl ?_
  refine V_aload_n (q := 10) dX6_findJoining_9 rfl rfl ?_
  refine V_getR (q := 13) (n := 65) 6 32 kf_X6_86 (by decide) (by decide) rfl (by decide) dX6_findJoining_10 rfl ?_
  refine V_iconst (q := 14) (v := 0) dX6_findJoining_13 (by decide) rfl ?_
  refine V_iconst (q := 15) (v := 0) dX6_findJoining_14 (by decide) rfl ?_
  refine V_ist (q := 16) (0) 10 rfl (by decide) (by decide) (by omega) (by decide) rfl (by decide) dX6_findJoining_15 rfl ?_
  have hS0 : fjS Ar 0 (fun _ => 0) (vS (vS Ar 64 (upd (Ar 64) 0 0)) 65 (upd (Ar 65) 0 0)) := by
    refine ⟨fun b h1 h2 => by rw [vS_ne h2, vS_ne h1], fun i hi => by omega, fun j hj => ?_, fun i hi => by omega⟩
    obtain rfl : j = 0 := by omega
    rw [vS_at, upd_at]
    rfl
  refine fj_A hκ hF hn8 hm1 hm8 hw hw6 hy n 0 (fun _ => 0) 0 _ .null (by omega) hS0 ?_ (Nat.zero_le _) (fun g' h => ?_) (fun h Ar9 l9 hS9 => ?_)
  · rw [vS_ne (by decide), vS_at]
    exact upd_at
  · rw [srC_0] at h
    exact h
  · rw [srC_0] at h
    have hR : srch (mL Ar w) most n 0 0 (fun _ => 0) = none := h
    refine V_iinc (q := 148) (w := (-1)) dX6_findJoining_145 rfl (by decide) (Nat.le_of_ble_eq_true rfl) rfl rfl ?_
    refine V_iload_n (q := 149) dX6_findJoining_148 rfl rfl ?_
    refine V_if_lt (tgt := 162) (q := 152) dX6_findJoining_149 (by decide) rfl (fun c_149 => ?_) (fun c_149 => absurd (by decide : nI 0 + (-1) < 0) c_149)
    refine V_goto (q := 16) dX6_findJoining_162 (by decide) ?_
    refine V_iload_n (q := 17) dX6_findJoining_16 rfl rfl ?_
    refine V_if_lt (tgt := 165) (q := 20) dX6_findJoining_17 (by decide) rfl (fun c_17 => ?_) (fun c_17 => absurd (by decide : nI 0 + (-1) < 0) c_17)
    refine V_iload_n (q := 166) dX6_findJoining_165 rfl rfl ?_
    refine V_if_lt (tgt := 173) (q := 169) dX6_findJoining_166 (by decide) rfl (fun c_166 => ?_) (fun c_166 => absurd (by decide : nI 0 + (-1) < 0) c_166)
    refine V_iconst (q := 174) (v := 0) dX6_findJoining_173 (by decide) rfl ?_
    exact V_iret hκ rfl (by first | rfl | exact vB_nar) dX6_findJoining_174 ⟨rfl, hS9.1, by rw [hR]⟩
