def ansV (w : Int32) (i : Nat) (t : Int32) : Int32 := if w = 0 then nI (i / 144 + 1) else if w = 1 then nI (i / 12 % 12 + 1) else if w = 2 then nI (i % 12 + 1) else t
def shT (T : Nat → Int32) (cg : Int32) (i : Nat) : Int32 := if nI (shP i) < cg then 10000000 else T i
def shF (T : Nat → Int32) (cg w : Int32) : Nat → Int32 × Int32
  | 0 => (10000000, 0)
  | i + 1 => if shT T cg i < (shF T cg w i).1 then (shT T cg i, ansV w i (shT T cg i)) else shF T cg w i
theorem shF_lt {T : Nat → Int32} {cg w : Int32} {i : Nat} (h : shT T cg i < (shF T cg w i).1) : shF T cg w (i + 1) = (shT T cg i, ansV w i (shT T cg i)) := if_pos h
theorem shF_ge {T : Nat → Int32} {cg w : Int32} {i : Nat} (h : ¬ shT T cg i < (shF T cg w i).1) : shF T cg w (i + 1) = shF T cg w i := if_neg h
theorem upd_mF {F : vFt} {z : Int32} {h : Nat} : mF (upd F 410 z) h = upd F 410 (nI h) := upd_upd
theorem mP_mP {Ar : vAt} {p q : Nat → Int32} : mP (mP Ar p) q = mP Ar q := vS_vS
theorem smI_n {n : Nat} (h : n ≤ 999999) : smI (nI n) := by
  unfold smI
  rw [nI_toInt (by omega)]
  omega
set_option maxHeartbeats 4000000 in
theorem lp_X6_sh3 {F : vFt} {Ar : vAt} {x : vXt} {a len : Nat} {cg w : Int32} {T : Nat → Int32} {κ : vK} (hκ : vStd κ 3 x (fun r F' Ar' => r = some (.int (shF T cg w 1728).2) ∧ ∃ (z : Int32) (pl : Nat → Int32), F' = upd F 410 z ∧ Ar' = mP Ar pl)) (ha : a < 5) (hlen : Ar 42 a = nI len) (hl40 : len ≤ 40) (hT : (∀ i, i < 1728 → ∃ fz, sRun (nI (i / 144 + 1)) (nI (i / 12 % 12 + 1)) (nI (i % 12 + 1)) 0 (fun i => Ar 43 (40 * a + i)) len 0 ([], 0) = some ([T i], fz))) {l b : Nat} (hl : l < 12) (hb : b < 12) (cont : ∀ (z : Int32) (pl : Nat → Int32) (l9 : Value), V κ mX6_shape 149 [.ref 6, .int (nI a), .int cg, .int w, .int (shF T cg w (l * 144 + b * 12 + 12)).1, .int (shF T cg w (l * 144 + b * 12 + 12)).2, .int (nI (l + 1)), .int (nI (b + 1)), .int (nI 13), l9] [] (upd F 410 z) (mP Ar pl) x) : ∀ k d (z : Int32) (pl : Nat → Int32) (l9 : Value), d + k = 12 → V κ mX6_shape 61 [.ref 6, .int (nI a), .int cg, .int w, .int (shF T cg w (l * 144 + b * 12 + d)).1, .int (shF T cg w (l * 144 + b * 12 + d)).2, .int (nI (l + 1)), .int (nI (b + 1)), .int (nI (d + 1)), l9] [] (upd F 410 z) (mP Ar pl) x := by
  intro k
  induction k with
  | zero =>
    intro d z pl l9 hd
    obtain rfl : d = 12 := by omega
    refine V_iload (q := 63) dX6_shape_61 rfl rfl ?_
    refine V_bipush (q := 65) (v := 12) dX6_shape_63 (by decide) rfl ?_
    refine V_icmp_gt (tgt := 149) (q := 68) dX6_shape_65 (by decide) rfl (fun c_65 => ?_) (fun c_65 => absurd (by decide : (12 : Int32) < nI (12 + 1)) c_65)
    exact cont z pl l9
  | succ k ih =>
    intro d z pl l9 hd
    have hi1n : (l * 144 + b * 12 + d) / 144 + 1 = l + 1 := by omega
    have hi2n : (l * 144 + b * 12 + d) / 12 % 12 + 1 = b + 1 := by omega
    have hi3n : (l * 144 + b * 12 + d) % 12 + 1 = d + 1 := by omega
    have hi1 : nI ((l * 144 + b * 12 + d) / 144 + 1) = nI (l + 1) := by rw [hi1n]
    have hi2 : nI ((l * 144 + b * 12 + d) / 12 % 12 + 1) = nI (b + 1) := by rw [hi2n]
    have hi3 : nI ((l * 144 + b * 12 + d) % 12 + 1) = nI (d + 1) := by rw [hi3n]
    refine V_iload (q := 63) dX6_shape_61 rfl rfl ?_
    refine V_bipush (q := 65) (v := 12) dX6_shape_63 (by decide) rfl ?_
    refine V_icmp_gt (tgt := 149) (q := 68) dX6_shape_65 (by decide) rfl (fun c_65 => absurd c_65 (nI_nlt (a := 12) (by omega) (by decide))) (fun c_65 => ?_)
    refine V_iload (q := 70) dX6_shape_68 rfl rfl ?_
    refine V_iload (q := 72) dX6_shape_70 rfl rfl ?_
    refine V_imul (q := 73) dX6_shape_72 rfl ?_
    refine V_iload (q := 75) dX6_shape_73 rfl rfl ?_
    refine V_imul (q := 76) dX6_shape_75 rfl ?_
    refine V_top (nI (shP (l * 144 + b * 12 + d))) (by unfold shP; rw [hi1n, hi2n, hi3n, ← pk_mul, ← pk_mul]) ?_
    refine V_iload_n (q := 77) dX6_shape_76 rfl rfl ?_
    refine V_icmp_ge (tgt := 85) (q := 80) dX6_shape_77 (by decide) rfl (fun c_77 => ?_) (fun c_77 => ?_)
    · have hst : shT T cg (l * 144 + b * 12 + d) = T (l * 144 + b * 12 + d) := if_neg (fun z => v_nlt z c_77)
      obtain ⟨fz, hrun⟩ := hT (l * 144 + b * 12 + d) (by omega)
      rw [hi1, hi2, hi3] at hrun
      refine V_aload_n (q := 86) dX6_shape_85 rfl rfl ?_
      refine V_iload_n (q := 87) dX6_shape_86 rfl rfl ?_
      refine V_iload (q := 89) dX6_shape_87 rfl rfl ?_
      refine V_iload (q := 91) dX6_shape_89 rfl rfl ?_
      refine V_iload (q := 93) dX6_shape_91 rfl rfl ?_
      refine V_iconst (q := 94) (v := 0) dX6_shape_93 (by decide) rfl ?_
      refine V_cV5 (q := 97) (o := 6) (N := mX6_tonsBy) (tX6_tonsBy (F := upd F 410 z) (Ar := mP Ar pl) (a := a) ha hlen hl40 (smI_n (by omega)) (smI_n (by omega)) (smI_n (by omega)) (by decide) hrun) hκ.big (by decide) gX6_tonsBy kl_X6_143 ki_X6_tonsBy ks_X6_tonsBy (by decide) rfl (Nat.le_of_ble_eq_true rfl) dX6_shape_94 rfl (fun r F9 Ar9 h9 => ?_)
      obtain ⟨rfl, k9, pl9, rfl, rfl⟩ := h9
      rw [upd_mF, mP_mP]
      show V κ mX6_shape 97 [.ref 6, .int (nI a), .int cg, .int w, .int (shF T cg w (l * 144 + b * 12 + d)).1, .int (shF T cg w (l * 144 + b * 12 + d)).2, .int (nI (l + 1)), .int (nI (b + 1)), .int (nI (d + 1)), l9] [.int (T (l * 144 + b * 12 + d))] _ _ x
      refine V_istore (q := 99) dX6_shape_97 (Nat.le_of_ble_eq_true rfl) rfl rfl ?_
      refine V_iload (q := 101) dX6_shape_99 rfl rfl ?_
      refine V_iload (q := 103) dX6_shape_101 rfl rfl ?_
      refine V_icmp_ge (tgt := 143) (q := 106) dX6_shape_103 (by decide) rfl (fun c_103 => ?_) (fun c_103 => ?_)
      · refine V_iincN (q := 146) dX6_shape_143 rfl (Nat.le_of_ble_eq_true rfl) rfl rfl ?_
        refine V_goto (q := 61) dX6_shape_146 (by decide) ?_
        have ih2 := ih (d + 1) (nI k9) pl9 (.int (T (l * 144 + b * 12 + d))) (by omega)
        rw [show l * 144 + b * 12 + (d + 1) = (l * 144 + b * 12 + d) + 1 by omega, shF_ge (by rw [hst]; exact fun z => v_nlt z c_103)] at ih2
        exact ih2
      · refine V_iload (q := 108) dX6_shape_106 rfl rfl ?_
        refine V_istore (q := 110) dX6_shape_108 (Nat.le_of_ble_eq_true rfl) rfl rfl ?_
        refine V_iload_n (q := 111) dX6_shape_110 rfl rfl ?_
        refine V_if_ne (tgt := 119) (q := 114) dX6_shape_111 (by decide) rfl (fun c_111 => ?_) (fun c_111 => ?_)
        · refine V_iload_n (q := 120) dX6_shape_119 rfl rfl ?_
          refine V_iconst (q := 121) (v := 1) dX6_shape_120 (by decide) rfl ?_
          refine V_icmp_ne (tgt := 129) (q := 124) dX6_shape_121 (by decide) rfl (fun c_121 => ?_) (fun c_121 => ?_)
          · refine V_iload_n (q := 130) dX6_shape_129 rfl rfl ?_
            refine V_iconst (q := 131) (v := 2) dX6_shape_130 (by decide) rfl ?_
            refine V_icmp_ne (tgt := 139) (q := 134) dX6_shape_131 (by decide) rfl (fun c_131 => ?_) (fun c_131 => ?_)
            · refine V_iload (q := 141) dX6_shape_139 rfl rfl ?_
              refine V_istore (q := 143) dX6_shape_141 (Nat.le_of_ble_eq_true rfl) rfl rfl ?_
              refine V_iincN (q := 146) dX6_shape_143 rfl (Nat.le_of_ble_eq_true rfl) rfl rfl ?_
              refine V_goto (q := 61) dX6_shape_146 (by decide) ?_
              have ih2 := ih (d + 1) (nI k9) pl9 (.int (T (l * 144 + b * 12 + d))) (by omega)
              rw [show l * 144 + b * 12 + (d + 1) = (l * 144 + b * 12 + d) + 1 by omega, shF_lt (by rw [hst]; exact v_lt c_103), hst, ansV, if_neg c_111, if_neg c_121, if_neg c_131] at ih2
              exact ih2
            · refine V_iload (q := 136) dX6_shape_134 rfl rfl ?_
              refine V_goto (q := 141) dX6_shape_136 (by decide) ?_
              refine V_istore (q := 143) dX6_shape_141 (Nat.le_of_ble_eq_true rfl) rfl rfl ?_
              refine V_iincN (q := 146) dX6_shape_143 rfl (Nat.le_of_ble_eq_true rfl) rfl rfl ?_
              refine V_goto (q := 61) dX6_shape_146 (by decide) ?_
              have ih2 := ih (d + 1) (nI k9) pl9 (.int (T (l * 144 + b * 12 + d))) (by omega)
              rw [show l * 144 + b * 12 + (d + 1) = (l * 144 + b * 12 + d) + 1 by omega, shF_lt (by rw [hst]; exact v_lt c_103), hst, ansV, if_neg c_111, if_neg c_121, if_pos c_131, hi3] at ih2
              exact ih2
          · refine V_iload (q := 126) dX6_shape_124 rfl rfl ?_
            refine V_goto (q := 141) dX6_shape_126 (by decide) ?_
            refine V_istore (q := 143) dX6_shape_141 (Nat.le_of_ble_eq_true rfl) rfl rfl ?_
            refine V_iincN (q := 146) dX6_shape_143 rfl (Nat.le_of_ble_eq_true rfl) rfl rfl ?_
            refine V_goto (q := 61) dX6_shape_146 (by decide) ?_
            have ih2 := ih (d + 1) (nI k9) pl9 (.int (T (l * 144 + b * 12 + d))) (by omega)
            rw [show l * 144 + b * 12 + (d + 1) = (l * 144 + b * 12 + d) + 1 by omega, shF_lt (by rw [hst]; exact v_lt c_103), hst, ansV, if_neg c_111, if_pos c_121, hi2] at ih2
            exact ih2
        · refine V_iload (q := 116) dX6_shape_114 rfl rfl ?_
          refine V_goto (q := 141) dX6_shape_116 (by decide) ?_
          refine V_istore (q := 143) dX6_shape_141 (Nat.le_of_ble_eq_true rfl) rfl rfl ?_
          refine V_iincN (q := 146) dX6_shape_143 rfl (Nat.le_of_ble_eq_true rfl) rfl rfl ?_
          refine V_goto (q := 61) dX6_shape_146 (by decide) ?_
          have ih2 := ih (d + 1) (nI k9) pl9 (.int (T (l * 144 + b * 12 + d))) (by omega)
          rw [show l * 144 + b * 12 + (d + 1) = (l * 144 + b * 12 + d) + 1 by omega, shF_lt (by rw [hst]; exact v_lt c_103), hst, ansV, if_pos c_111, hi1] at ih2
          exact ih2
    · have hst : shT T cg (l * 144 + b * 12 + d) = 10000000 := if_pos (v_lt c_77)
      refine V_ldc (q := 82) dX6_shape_80 kc_X6_148 rfl ?_
      refine V_goto (q := 97) dX6_shape_82 (by decide) ?_
      refine V_istore (q := 99) dX6_shape_97 (Nat.le_of_ble_eq_true rfl) rfl rfl ?_
      refine V_iload (q := 101) dX6_shape_99 rfl rfl ?_
      refine V_iload (q := 103) dX6_shape_101 rfl rfl ?_
      refine V_icmp_ge (tgt := 143) (q := 106) dX6_shape_103 (by decide) rfl (fun c_103 => ?_) (fun c_103 => ?_)
      · refine V_iincN (q := 146) dX6_shape_143 rfl (Nat.le_of_ble_eq_true rfl) rfl rfl ?_
        refine V_goto (q := 61) dX6_shape_146 (by decide) ?_
        have ih2 := ih (d + 1) z pl (.int (10000000)) (by omega)
        rw [show l * 144 + b * 12 + (d + 1) = (l * 144 + b * 12 + d) + 1 by omega, shF_ge (by rw [hst]; exact fun z => v_nlt z c_103)] at ih2
        exact ih2
      · refine V_iload (q := 108) dX6_shape_106 rfl rfl ?_
        refine V_istore (q := 110) dX6_shape_108 (Nat.le_of_ble_eq_true rfl) rfl rfl ?_
        refine V_iload_n (q := 111) dX6_shape_110 rfl rfl ?_
        refine V_if_ne (tgt := 119) (q := 114) dX6_shape_111 (by decide) rfl (fun c_111 => ?_) (fun c_111 => ?_)
        · refine V_iload_n (q := 120) dX6_shape_119 rfl rfl ?_
          refine V_iconst (q := 121) (v := 1) dX6_shape_120 (by decide) rfl ?_
          refine V_icmp_ne (tgt := 129) (q := 124) dX6_shape_121 (by decide) rfl (fun c_121 => ?_) (fun c_121 => ?_)
          · refine V_iload_n (q := 130) dX6_shape_129 rfl rfl ?_
            refine V_iconst (q := 131) (v := 2) dX6_shape_130 (by decide) rfl ?_
            refine V_icmp_ne (tgt := 139) (q := 134) dX6_shape_131 (by decide) rfl (fun c_131 => ?_) (fun c_131 => ?_)
            · refine V_iload (q := 141) dX6_shape_139 rfl rfl ?_
              refine V_istore (q := 143) dX6_shape_141 (Nat.le_of_ble_eq_true rfl) rfl rfl ?_
              refine V_iincN (q := 146) dX6_shape_143 rfl (Nat.le_of_ble_eq_true rfl) rfl rfl ?_
              refine V_goto (q := 61) dX6_shape_146 (by decide) ?_
              have ih2 := ih (d + 1) z pl (.int (10000000)) (by omega)
              rw [show l * 144 + b * 12 + (d + 1) = (l * 144 + b * 12 + d) + 1 by omega, shF_lt (by rw [hst]; exact v_lt c_103), hst, ansV, if_neg c_111, if_neg c_121, if_neg c_131] at ih2
              exact ih2
            · refine V_iload (q := 136) dX6_shape_134 rfl rfl ?_
              refine V_goto (q := 141) dX6_shape_136 (by decide) ?_
              refine V_istore (q := 143) dX6_shape_141 (Nat.le_of_ble_eq_true rfl) rfl rfl ?_
              refine V_iincN (q := 146) dX6_shape_143 rfl (Nat.le_of_ble_eq_true rfl) rfl rfl ?_
              refine V_goto (q := 61) dX6_shape_146 (by decide) ?_
              have ih2 := ih (d + 1) z pl (.int (10000000)) (by omega)
              rw [show l * 144 + b * 12 + (d + 1) = (l * 144 + b * 12 + d) + 1 by omega, shF_lt (by rw [hst]; exact v_lt c_103), hst, ansV, if_neg c_111, if_neg c_121, if_pos c_131, hi3] at ih2
              exact ih2
          · refine V_iload (q := 126) dX6_shape_124 rfl rfl ?_
            refine V_goto (q := 141) dX6_shape_126 (by decide) ?_
            refine V_istore (q := 143) dX6_shape_141 (Nat.le_of_ble_eq_true rfl) rfl rfl ?_
            refine V_iincN (q := 146) dX6_shape_143 rfl (Nat.le_of_ble_eq_true rfl) rfl rfl ?_
            refine V_goto (q := 61) dX6_shape_146 (by decide) ?_
            have ih2 := ih (d + 1) z pl (.int (10000000)) (by omega)
            rw [show l * 144 + b * 12 + (d + 1) = (l * 144 + b * 12 + d) + 1 by omega, shF_lt (by rw [hst]; exact v_lt c_103), hst, ansV, if_neg c_111, if_pos c_121, hi2] at ih2
            exact ih2
        · refine V_iload (q := 116) dX6_shape_114 rfl rfl ?_
          refine V_goto (q := 141) dX6_shape_116 (by decide) ?_
          refine V_istore (q := 143) dX6_shape_141 (Nat.le_of_ble_eq_true rfl) rfl rfl ?_
          refine V_iincN (q := 146) dX6_shape_143 rfl (Nat.le_of_ble_eq_true rfl) rfl rfl ?_
          refine V_goto (q := 61) dX6_shape_146 (by decide) ?_
          have ih2 := ih (d + 1) z pl (.int (10000000)) (by omega)
          rw [show l * 144 + b * 12 + (d + 1) = (l * 144 + b * 12 + d) + 1 by omega, shF_lt (by rw [hst]; exact v_lt c_103), hst, ansV, if_pos c_111, hi1] at ih2
          exact ih2
theorem lp_X6_sh2 {F : vFt} {Ar : vAt} {x : vXt} {a len : Nat} {cg w : Int32} {T : Nat → Int32} {κ : vK} (hκ : vStd κ 3 x (fun r F' Ar' => r = some (.int (shF T cg w 1728).2) ∧ ∃ (z : Int32) (pl : Nat → Int32), F' = upd F 410 z ∧ Ar' = mP Ar pl)) (ha : a < 5) (hlen : Ar 42 a = nI len) (hl40 : len ≤ 40) (hT : (∀ i, i < 1728 → ∃ fz, sRun (nI (i / 144 + 1)) (nI (i / 12 % 12 + 1)) (nI (i % 12 + 1)) 0 (fun i => Ar 43 (40 * a + i)) len 0 ([], 0) = some ([T i], fz))) {l : Nat} (hl : l < 12) (cont : ∀ (z : Int32) (pl : Nat → Int32) (l8 l9 : Value), V κ mX6_shape 155 [.ref 6, .int (nI a), .int cg, .int w, .int (shF T cg w (l * 144 + 144)).1, .int (shF T cg w (l * 144 + 144)).2, .int (nI (l + 1)), .int (nI 13), l8, l9] [] (upd F 410 z) (mP Ar pl) x) : ∀ k b (z : Int32) (pl : Nat → Int32) (l8 l9 : Value), b + k = 12 → V κ mX6_shape 51 [.ref 6, .int (nI a), .int cg, .int w, .int (shF T cg w (l * 144 + b * 12)).1, .int (shF T cg w (l * 144 + b * 12)).2, .int (nI (l + 1)), .int (nI (b + 1)), l8, l9] [] (upd F 410 z) (mP Ar pl) x := by
  intro k
  induction k with
  | zero =>
    intro b z pl l8 l9 hd
    obtain rfl : b = 12 := by omega
    refine V_iload (q := 53) dX6_shape_51 rfl rfl ?_
    refine V_bipush (q := 55) (v := 12) dX6_shape_53 (by decide) rfl ?_
    refine V_icmp_gt (tgt := 155) (q := 58) dX6_shape_55 (by decide) rfl (fun c_55 => ?_) (fun c_55 => absurd (by decide : (12 : Int32) < nI (12 + 1)) c_55)
    exact cont z pl l8 l9
  | succ k ih =>
    intro b z pl l8 l9 hd
    refine V_iload (q := 53) dX6_shape_51 rfl rfl ?_
    refine V_bipush (q := 55) (v := 12) dX6_shape_53 (by decide) rfl ?_
    refine V_icmp_gt (tgt := 155) (q := 58) dX6_shape_55 (by decide) rfl (fun c_55 => absurd c_55 (nI_nlt (a := 12) (by omega) (by decide))) (fun c_55 => ?_)
    refine V_iconst (q := 59) (v := 1) dX6_shape_58 (by decide) rfl ?_
    refine V_istore (q := 61) dX6_shape_59 (Nat.le_of_ble_eq_true rfl) rfl rfl ?_
    refine lp_X6_sh3 hκ ha hlen hl40 hT hl (b := b) (by omega) (fun z9 pl9 l99 => ?_) 12 0 z pl l9 rfl
    refine V_iincN (q := 152) dX6_shape_149 rfl (Nat.le_of_ble_eq_true rfl) rfl rfl ?_
    refine V_goto (q := 51) dX6_shape_152 (by decide) ?_
    have ih2 := ih (b + 1) z9 pl9 (.int (nI 13)) l99 (by omega)
    rw [show l * 144 + (b + 1) * 12 = l * 144 + b * 12 + 12 by omega] at ih2
    exact ih2
theorem lp_X6_sh1 {F : vFt} {Ar : vAt} {x : vXt} {a len : Nat} {cg w : Int32} {T : Nat → Int32} {κ : vK} (hκ : vStd κ 3 x (fun r F' Ar' => r = some (.int (shF T cg w 1728).2) ∧ ∃ (z : Int32) (pl : Nat → Int32), F' = upd F 410 z ∧ Ar' = mP Ar pl)) (ha : a < 5) (hlen : Ar 42 a = nI len) (hl40 : len ≤ 40) (hT : (∀ i, i < 1728 → ∃ fz, sRun (nI (i / 144 + 1)) (nI (i / 12 % 12 + 1)) (nI (i % 12 + 1)) 0 (fun i => Ar 43 (40 * a + i)) len 0 ([], 0) = some ([T i], fz))) : ∀ k l (z : Int32) (pl : Nat → Int32) (l7 l8 l9 : Value), l + k = 12 → V κ mX6_shape 41 [.ref 6, .int (nI a), .int cg, .int w, .int (shF T cg w (l * 144)).1, .int (shF T cg w (l * 144)).2, .int (nI (l + 1)), l7, l8, l9] [] (upd F 410 z) (mP Ar pl) x := by
  intro k
  induction k with
  | zero =>
    intro l z pl l7 l8 l9 hd
    obtain rfl : l = 12 := by omega
    refine V_iload (q := 43) dX6_shape_41 rfl rfl ?_
    refine V_bipush (q := 45) (v := 12) dX6_shape_43 (by decide) rfl ?_
    refine V_icmp_gt (tgt := 161) (q := 48) dX6_shape_45 (by decide) rfl (fun c_45 => ?_) (fun c_45 => absurd (by decide : (12 : Int32) < nI (12 + 1)) c_45)
    refine V_iload (q := 163) dX6_shape_161 rfl rfl ?_
    exact V_iret hκ rfl rfl dX6_shape_163 ⟨rfl, z, pl, rfl, rfl⟩
  | succ k ih =>
    intro l z pl l7 l8 l9 hd
    refine V_iload (q := 43) dX6_shape_41 rfl rfl ?_
    refine V_bipush (q := 45) (v := 12) dX6_shape_43 (by decide) rfl ?_
    refine V_icmp_gt (tgt := 161) (q := 48) dX6_shape_45 (by decide) rfl (fun c_45 => absurd c_45 (nI_nlt (a := 12) (by omega) (by decide))) (fun c_45 => ?_)
    refine V_iconst (q := 49) (v := 1) dX6_shape_48 (by decide) rfl ?_
    refine V_istore (q := 51) dX6_shape_49 (Nat.le_of_ble_eq_true rfl) rfl rfl ?_
    refine lp_X6_sh2 hκ ha hlen hl40 hT (l := l) (by omega) (fun z9 pl9 l89 l99 => ?_) 12 0 z pl l8 l9 rfl
    refine V_iincN (q := 158) dX6_shape_155 rfl (Nat.le_of_ble_eq_true rfl) rfl rfl ?_
    refine V_goto (q := 41) dX6_shape_158 (by decide) ?_
    have ih2 := ih (l + 1) z9 pl9 (.int (nI 13)) l89 l99 (by omega)
    rw [show (l + 1) * 144 = l * 144 + 144 by omega] at ih2
    exact ih2
theorem tX6_shape0 {F : vFt} {Ar : vAt} {x : vXt} {i cg w : Int32} (hb : ¬ ((0 ≤ i ∧ i ≤ F 386 - 1) ∧ (1 ≤ cg ∧ cg ≤ 1728) ∧ (0 ≤ w ∧ w ≤ 3))) : C0 mX6_shape 3 [.ref 6, .int i, .int cg, .int w] F Ar x (vEq (some (.int (-10000000))) F Ar) := by
  refine C0_of (by decide +kernel) (Nat.le_of_ble_eq_true rfl) (fun κ hκ => ?_)
  show V κ mX6_shape 0 [.ref 6, .int i, .int cg, .int w, .null, .null, .null, .null, .null, .null] [] F Ar x
  refine V_aload_n (q := 1) dX6_shape_0 rfl rfl ?_
  refine V_iload_n (q := 2) dX6_shape_1 rfl rfl ?_
  refine V_cV1I (q := 5) (o := 6) (N := mX6_isAct) tX6_isAct hκ.big (by decide) gX6_isAct kl_X6_136 ki_X6_isAct ks_X6_isAct (by decide) rfl (Nat.le_of_ble_eq_true rfl) dX6_shape_2 rfl ?_
  refine V_if_eq (tgt := 28) (q := 8) dX6_shape_5 (by decide) rfl (fun c_5 => ?_) (fun c_5 => ?_)
  · refine V_ldc (q := 30) dX6_shape_28 kc_X6_147 rfl ?_
    exact V_iret hκ rfl rfl dX6_shape_30 vEq.rf
  · refine V_iload_n (q := 9) dX6_shape_8 rfl rfl ?_
    refine V_iconst (q := 10) (v := 1) dX6_shape_9 (by decide) rfl ?_
    refine V_sipush (q := 13) (v := 1728) dX6_shape_10 (by decide) rfl ?_
    refine V_cS3I (q := 16) (N := mX6_in) tX6_in hκ.big (by decide) gX6_in kl_X6_101 kt_X6_in (Nat.le_of_ble_eq_true rfl) dX6_shape_13 rfl ?_
    refine V_if_eq (tgt := 28) (q := 19) dX6_shape_16 (by decide) rfl (fun c_16 => ?_) (fun c_16 => ?_)
    · refine V_ldc (q := 30) dX6_shape_28 kc_X6_147 rfl ?_
      exact V_iret hκ rfl rfl dX6_shape_30 vEq.rf
    · refine V_iload_n (q := 20) dX6_shape_19 rfl rfl ?_
      refine V_iconst (q := 21) (v := 0) dX6_shape_20 (by decide) rfl ?_
      refine V_iconst (q := 22) (v := 3) dX6_shape_21 (by decide) rfl ?_
      refine V_cS3I (q := 25) (N := mX6_in) tX6_in hκ.big (by decide) gX6_in kl_X6_101 kt_X6_in (Nat.le_of_ble_eq_true rfl) dX6_shape_22 rfl ?_
      refine V_if_ne (tgt := 31) (q := 28) dX6_shape_25 (by decide) rfl (fun c_25 => absurd ⟨vB_n0.mp c_5, vB_n0.mp c_16, vB_n0.mp c_25⟩ hb) (fun c_25 => ?_)
      refine V_ldc (q := 30) dX6_shape_28 kc_X6_147 rfl ?_
      exact V_iret hκ rfl rfl dX6_shape_30 vEq.rf
theorem tX6_shape1 {F : vFt} {Ar : vAt} {x : vXt} {a c len : Nat} {cg w : Int32} {T : Nat → Int32} (hc : F 386 = nI c) (hc5 : c ≤ 5) (ha : a < c) (hcg : 1 ≤ cg ∧ cg ≤ 1728) (hw : 0 ≤ w ∧ w ≤ 3) (hlen : Ar 42 a = nI len) (hl40 : len ≤ 40) (hT : (∀ i, i < 1728 → ∃ fz, sRun (nI (i / 144 + 1)) (nI (i / 12 % 12 + 1)) (nI (i % 12 + 1)) 0 (fun i => Ar 43 (40 * a + i)) len 0 ([], 0) = some ([T i], fz))) : C0 mX6_shape 3 [.ref 6, .int (nI a), .int cg, .int w] F Ar x (fun r F' Ar' => r = some (.int (shF T cg w 1728).2) ∧ ∃ (z : Int32) (pl : Nat → Int32), F' = upd F 410 z ∧ Ar' = mP Ar pl) := by
  refine C0_of (by decide +kernel) (Nat.le_of_ble_eq_true rfl) (fun κ hκ => ?_)
  show V κ mX6_shape 0 [.ref 6, .int (nI a), .int cg, .int w, .null, .null, .null, .null, .null, .null] [] F Ar x
  have hg : 0 ≤ nI a ∧ nI a ≤ F 386 - 1 := by rw [hc]; exact (v_has (by omega)).mpr ⟨a, ha, rfl⟩
  refine V_aload_n (q := 1) dX6_shape_0 rfl rfl ?_
  refine V_iload_n (q := 2) dX6_shape_1 rfl rfl ?_
  refine V_cV1I (q := 5) (o := 6) (N := mX6_isAct) tX6_isAct hκ.big (by decide) gX6_isAct kl_X6_136 ki_X6_isAct ks_X6_isAct (by decide) rfl (Nat.le_of_ble_eq_true rfl) dX6_shape_2 rfl ?_
  refine V_if_eq (tgt := 28) (q := 8) dX6_shape_5 (by decide) rfl (fun c_5 => absurd c_5 (vB_n0.mpr hg)) (fun c_5 => ?_)
  refine V_iload_n (q := 9) dX6_shape_8 rfl rfl ?_
  refine V_iconst (q := 10) (v := 1) dX6_shape_9 (by decide) rfl ?_
  refine V_sipush (q := 13) (v := 1728) dX6_shape_10 (by decide) rfl ?_
  refine V_cS3I (q := 16) (N := mX6_in) tX6_in hκ.big (by decide) gX6_in kl_X6_101 kt_X6_in (Nat.le_of_ble_eq_true rfl) dX6_shape_13 rfl ?_
  refine V_if_eq (tgt := 28) (q := 19) dX6_shape_16 (by decide) rfl (fun c_16 => absurd c_16 (vB_n0.mpr hcg)) (fun c_16 => ?_)
  refine V_iload_n (q := 20) dX6_shape_19 rfl rfl ?_
  refine V_iconst (q := 21) (v := 0) dX6_shape_20 (by decide) rfl ?_
  refine V_iconst (q := 22) (v := 3) dX6_shape_21 (by decide) rfl ?_
  refine V_cS3I (q := 25) (N := mX6_in) tX6_in hκ.big (by decide) gX6_in kl_X6_101 kt_X6_in (Nat.le_of_ble_eq_true rfl) dX6_shape_22 rfl ?_
  refine V_if_ne (tgt := 31) (q := 28) dX6_shape_25 (by decide) rfl (fun c_25 => ?_) (fun c_25 => absurd c_25 (vB_n0.mpr hw))
  refine V_ldc (q := 33) dX6_shape_31 kc_X6_148 rfl ?_
  refine V_istore (q := 35) dX6_shape_33 (Nat.le_of_ble_eq_true rfl) rfl rfl ?_
  refine V_iconst (q := 36) (v := 0) dX6_shape_35 (by decide) rfl ?_
  refine V_istore (q := 38) dX6_shape_36 (Nat.le_of_ble_eq_true rfl) rfl rfl ?_
  refine V_iconst (q := 39) (v := 1) dX6_shape_38 (by decide) rfl ?_
  refine V_istore (q := 41) dX6_shape_39 (Nat.le_of_ble_eq_true rfl) rfl rfl ?_
  refine V_fl (upd F 410 (F 410)) upd_self.symm ?_
  refine V_ar (mP Ar (Ar 59)) (vS_self (Ar := Ar) (a := 59)).symm ?_
  exact lp_X6_sh1 hκ (by omega) hlen hl40 hT 12 0 (F 410) (Ar 59) .null .null .null rfl
