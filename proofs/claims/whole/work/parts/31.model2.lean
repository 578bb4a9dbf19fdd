def mA1 (Ar : vAt) (e : Nat) : Nat := (8 * Ar 49 e + Ar 50 e).toNatClampNeg
def mA2 (Ar : vAt) (e : Nat) : Nat := (8 * Ar 49 e + Ar 51 e).toNatClampNeg
def mOk (Ar : vAt) (n : Nat) : Prop := ∀ e, e < n → (∃ h a b, h < 5 ∧ a < 8 ∧ b < 8 ∧ Ar 49 e = nI h ∧ Ar 50 e = nI a ∧ Ar 51 e = nI b) ∧ (Ar 48 e = 0 ∨ Ar 48 e = 1 ∨ (Ar 48 e = 2 ∧ ∃ q, q < e ∧ Ar 53 e = nI q ∧ Ar 49 q = Ar 49 e ∧ Ar 50 q = Ar 50 e ∧ Ar 51 q = Ar 51 e ∧ Ar 52 q = Ar 52 e))
def mEf (Ar : vAt) (e : Nat) (s : gT) : Bool × gT := gEff (Ar 48) (Ar 52) (gIx (Ar 53)) (mA1 Ar) (mA2 Ar) e s
/-- own, bound and stands of the model; what is held is told in the spec alone -/
def mPut (Ar : vAt) (s : gT) (vd : Nat → Int32) : vAt := vS (vS (vS (vS Ar 60 s.1) 61 s.2.1) 62 s.2.2.2) 63 vd
theorem mPut_get (Ar : vAt) (hd : Nat → Int32) : mPut Ar (Ar 60, Ar 61, hd, Ar 62) (Ar 63) = Ar := by
  unfold mPut
  funext b
  simp only [vS]
  by_cases h1 : b = 63 <;> by_cases h2 : b = 62 <;> by_cases h3 : b = 61 <;> by_cases h4 : b = 60 <;> simp_all
theorem v_m8 (h c : Nat) : 8 * nI h + nI c = nI (8 * h + c) := v_ma 8 h c
set_option maxHeartbeats 4000000 in
set_option maxRecDepth 100000 in
theorem tX6_does {F : vFt} {Ar : vAt} {x : vXt} {e n : Nat} {hd : Nat → Int32} (he : e < n) (hn : n ≤ 60) (hok : mOk Ar n) (h0 : Ar 63 e = 0) : C0 mX6_does 0 [.ref 6, .int (nI e)] F Ar x (vEq none F (mPut Ar (mEf Ar e (Ar 60, Ar 61, hd, Ar 62)).2 (upd (Ar 63) e (if (mEf Ar e (Ar 60, Ar 61, hd, Ar 62)).1 = true then 0 else 1)))) := by
  refine C0_of (by decide +kernel) (Nat.le_of_ble_eq_true rfl) (fun κ hκ => ?_)
  show V κ mX6_does 0 [.ref 6, .int (nI e), .null, .null, .null] [] F Ar x
  obtain ⟨⟨h, a, b, hh, ha, hb, hE, aE, bE⟩, hk⟩ := hok e he
  have w1 : 8 * Ar 49 e + Ar 50 e = nI (8 * h + a) := by rw [hE, aE]; exact v_m8 h a
  have w2 : 8 * Ar 49 e + Ar 51 e = nI (8 * h + b) := by rw [hE, bE]; exact v_m8 h b
  have e1 : mA1 Ar e = 8 * h + a := v_cl _ w1 (by omega)
  have e2 : mA2 Ar e = 8 * h + b := v_cl _ w2 (by omega)
  have u0 : upd (Ar 63) e 0 = Ar 63 := by rw [← h0]; exact upd_self
  have n0 : vp_nar .boolean 0 = 0 := rfl
  have n1 : vp_nar .boolean 1 = 1 := rfl
  refine V_bipush (q := 2) (v := 8) dX6_does_0 (by decide) rfl ?_
  refine V_aload_n (q := 3) dX6_does_2 rfl rfl ?_
  refine V_getR (q := 6) (n := 49) 6 13 kf_X6_37 (by decide) (by decide) rfl (by decide) dX6_does_3 rfl ?_
  refine V_iload_n (q := 7) dX6_does_6 rfl rfl ?_
  refine V_ild (q := 8) (e) 60 rfl (by omega) (by decide) (by omega) (by decide) rfl (by decide) dX6_does_7 rfl ?_
  refine V_imul (q := 9) dX6_does_8 rfl ?_
  refine V_aload_n (q := 10) dX6_does_9 rfl rfl ?_
  refine V_getR (q := 13) (n := 50) 6 14 kf_X6_40 (by decide) (by decide) rfl (by decide) dX6_does_10 rfl ?_
  refine V_iload_n (q := 14) dX6_does_13 rfl rfl ?_
  refine V_ild (q := 15) (e) 60 rfl (by omega) (by decide) (by omega) (by decide) rfl (by decide) dX6_does_14 rfl ?_
  refine V_iadd (q := 16) dX6_does_15 rfl ?_
  refine V_top (nI (8 * h + a)) w1 ?_
  refine V_istore_n (q := 17) dX6_does_16 (Nat.le_of_ble_eq_true rfl) rfl rfl ?_
  refine V_aload_n (q := 18) dX6_does_17 rfl rfl ?_
  refine V_getR (q := 21) (n := 52) 6 16 kf_X6_46 (by decide) (by decide) rfl (by decide) dX6_does_18 rfl ?_
  refine V_iload_n (q := 22) dX6_does_21 rfl rfl ?_
  refine V_ild (q := 23) (e) 60 rfl (by omega) (by decide) (by omega) (by decide) rfl (by decide) dX6_does_22 rfl ?_
  refine V_istore_n (q := 24) dX6_does_23 (Nat.le_of_ble_eq_true rfl) rfl rfl ?_
  refine V_aload_n (q := 25) dX6_does_24 rfl rfl ?_
  refine V_getR (q := 28) (n := 48) 6 12 kf_X6_34 (by decide) (by decide) rfl (by decide) dX6_does_25 rfl ?_
  refine V_iload_n (q := 29) dX6_does_28 rfl rfl ?_
  refine V_ild (q := 30) (e) 60 rfl (by omega) (by decide) (by omega) (by decide) rfl (by decide) dX6_does_29 rfl ?_
  refine V_iconst (q := 31) (v := 2) dX6_does_30 (by decide) rfl ?_
  refine V_icmp_ne (tgt := 92) (q := 34) dX6_does_31 (by decide) rfl (fun c_31 => ?_) (fun c_31 => ?_)
  · refine V_aload_n (q := 93) dX6_does_92 rfl rfl ?_
    refine V_getR (q := 96) (n := 60) 6 27 kf_X6_71 (by decide) (by decide) rfl (by decide) dX6_does_93 rfl ?_
    refine V_iload_n (q := 97) dX6_does_96 rfl rfl ?_
    refine V_ild (q := 98) (8 * h + a) 40 rfl (by omega) (by decide) (by omega) (by decide) rfl (by decide) dX6_does_97 rfl ?_
    refine V_aload_n (q := 99) dX6_does_98 rfl rfl ?_
    refine V_getR (q := 102) (n := 61) 6 28 kf_X6_74 (by decide) (by decide) rfl (by decide) dX6_does_99 rfl ?_
    refine V_iload_n (q := 103) dX6_does_102 rfl rfl ?_
    refine V_ild (q := 104) (8 * h + a) 40 rfl (by omega) (by decide) (by omega) (by decide) rfl (by decide) dX6_does_103 rfl ?_
    refine V_isub (q := 105) dX6_does_104 rfl ?_
    refine V_iload_n (q := 106) dX6_does_105 rfl rfl ?_
    refine V_icmp_ge (tgt := 119) (q := 109) dX6_does_106 (by decide) rfl (fun c_106 => ?_) (fun c_106 => ?_)
    · refine V_aload_n (q := 120) dX6_does_119 rfl rfl ?_
      refine V_getR (q := 123) (n := 48) 6 12 kf_X6_34 (by decide) (by decide) rfl (by decide) dX6_does_120 rfl ?_
      refine V_iload_n (q := 124) dX6_does_123 rfl rfl ?_
      refine V_ild (q := 125) (e) 60 rfl (by omega) (by decide) (by omega) (by decide) rfl (by decide) dX6_does_124 rfl ?_
      refine V_if_ne (tgt := 166) (q := 128) dX6_does_125 (by decide) rfl (fun c_125 => ?_) (fun c_125 => ?_)
      · refine V_aload_n (q := 167) dX6_does_166 rfl rfl ?_
        refine V_getR (q := 170) (n := 62) 6 29 kf_X6_77 (by decide) (by decide) rfl (by decide) dX6_does_167 rfl ?_
        refine V_iload_n (q := 171) dX6_does_170 rfl rfl ?_
        refine V_iconst (q := 172) (v := 1) dX6_does_171 (by decide) rfl ?_
        refine V_zst (q := 173) (e) 60 rfl (by omega) (by decide) (by omega) (by decide) rfl (by decide) dX6_does_172 rfl ?_
        refine V_aload_n (q := 174) dX6_does_173 rfl rfl ?_
        refine V_getR (q := 177) (n := 61) 6 28 kf_X6_74 (by decide) (by decide) rfl (by decide) dX6_does_174 rfl ?_
        refine V_iload_n (q := 178) dX6_does_177 rfl rfl ?_
        refine V_dup2 (q := 179) dX6_does_178 rfl rfl rfl ?_
        refine V_ild (q := 180) (8 * h + a) 40 rfl (by omega) (by decide) (by omega) (by decide) rfl (by decide) dX6_does_179 rfl ?_
        refine V_iload_n (q := 181) dX6_does_180 rfl rfl ?_
        refine V_iadd (q := 182) dX6_does_181 rfl ?_
        refine V_ist (q := 183) (8 * h + a) 40 rfl (by omega) (by decide) (by omega) (by decide) rfl (by decide) dX6_does_182 rfl ?_
        exact V_vret hκ rfl dX6_does_183 ⟨rfl, rfl, by
          have k0 : ¬ Ar 48 e = 0 := c_125
          have k1 : Ar 48 e = 1 := by
            rcases hk with h | h | h
            · exact absurd h k0
            · exact h
            · exact absurd h.1 c_31
          rw [mEf, gEff_1 k0 k1, e1, if_pos (c_106 : Ar 52 e ≤ Ar 60 _ - Ar 61 _), if_pos rfl, u0]
          simp only [n1]
          unfold mPut gSet
          simp only [e1]
          funext z
          simp only [vS]
          by_cases h1 : z = 63 <;> by_cases h2 : z = 62 <;> by_cases h3 : z = 61 <;> by_cases h4 : z = 60 <;> simp_all⟩
      · refine V_aload_n (q := 129) dX6_does_128 rfl rfl ?_
        refine V_getR (q := 132) (n := 60) 6 27 kf_X6_71 (by decide) (by decide) rfl (by decide) dX6_does_129 rfl ?_
        refine V_iload_n (q := 133) dX6_does_132 rfl rfl ?_
        refine V_dup2 (q := 134) dX6_does_133 rfl rfl rfl ?_
        refine V_ild (q := 135) (8 * h + a) 40 rfl (by omega) (by decide) (by omega) (by decide) rfl (by decide) dX6_does_134 rfl ?_
        refine V_iload_n (q := 136) dX6_does_135 rfl rfl ?_
        refine V_isub (q := 137) dX6_does_136 rfl ?_
        refine V_ist (q := 138) (8 * h + a) 40 rfl (by omega) (by decide) (by omega) (by decide) rfl (by decide) dX6_does_137 rfl ?_
        refine V_aload_n (q := 139) dX6_does_138 rfl rfl ?_
        refine V_getR (q := 142) (n := 60) 6 27 kf_X6_71 (by decide) (by decide) rfl (by decide) dX6_does_139 rfl ?_
        refine V_bipush (q := 144) (v := 8) dX6_does_142 (by decide) rfl ?_
        refine V_aload_n (q := 145) dX6_does_144 rfl rfl ?_
        refine V_getR (q := 148) (n := 49) 6 13 kf_X6_37 (by decide) (by decide) rfl (by decide) dX6_does_145 rfl ?_
        refine V_iload_n (q := 149) dX6_does_148 rfl rfl ?_
        refine V_ild (q := 150) (e) 60 rfl (by omega) (by decide) (by omega) (by decide) rfl (by decide) dX6_does_149 rfl ?_
        refine V_imul (q := 151) dX6_does_150 rfl ?_
        refine V_aload_n (q := 152) dX6_does_151 rfl rfl ?_
        refine V_getR (q := 155) (n := 51) 6 15 kf_X6_43 (by decide) (by decide) rfl (by decide) dX6_does_152 rfl ?_
        refine V_iload_n (q := 156) dX6_does_155 rfl rfl ?_
        refine V_ild (q := 157) (e) 60 rfl (by omega) (by decide) (by omega) (by decide) rfl (by decide) dX6_does_156 rfl ?_
        refine V_iadd (q := 158) dX6_does_157 rfl ?_
        refine V_dup2 (q := 159) dX6_does_158 rfl rfl rfl ?_
        refine V_ild (q := 160) (8 * h + b) 40 w2 (by omega) (by decide) (by omega) (by decide) rfl (by decide) dX6_does_159 rfl ?_
        refine V_iload_n (q := 161) dX6_does_160 rfl rfl ?_
        refine V_iadd (q := 162) dX6_does_161 rfl ?_
        refine V_ist (q := 163) (8 * h + b) 40 w2 (by omega) (by decide) (by omega) (by decide) rfl (by decide) dX6_does_162 rfl ?_
        refine V_goto (q := 183) dX6_does_163 (by decide) ?_
        exact V_vret hκ rfl dX6_does_183 ⟨rfl, rfl, by
          have k0 : Ar 48 e = 0 := c_125
          rw [mEf, gEff_0 k0, e1, if_pos (c_106 : Ar 52 e ≤ Ar 60 _ - Ar 61 _), if_pos rfl, u0]
          unfold mPut gMove
          simp only [e1, e2]
          funext z
          simp only [vS]
          by_cases h1 : z = 63 <;> by_cases h2 : z = 62 <;> by_cases h3 : z = 61 <;> by_cases h4 : z = 60 <;> simp_all⟩
    · refine V_aload_n (q := 110) dX6_does_109 rfl rfl ?_
      refine V_getR (q := 113) (n := 63) 6 30 kf_X6_80 (by decide) (by decide) rfl (by decide) dX6_does_110 rfl ?_
      refine V_iload_n (q := 114) dX6_does_113 rfl rfl ?_
      refine V_iconst (q := 115) (v := 1) dX6_does_114 (by decide) rfl ?_
      refine V_zst (q := 116) (e) 60 rfl (by omega) (by decide) (by omega) (by decide) rfl (by decide) dX6_does_115 rfl ?_
      refine V_goto (q := 183) dX6_does_116 (by decide) ?_
      exact V_vret hκ rfl dX6_does_183 ⟨rfl, rfl, by
        have kk : mEf Ar e (Ar 60, Ar 61, hd, Ar 62) = (false, Ar 60, Ar 61, hd, Ar 62) := by
          rcases hk with h | h | h
          · rw [mEf, gEff_0 h, e1, if_neg c_106]
          · rw [mEf, gEff_1 (by rw [h]; decide) h, e1, if_neg c_106]
          · exact absurd h.1 c_31
        rw [kk, if_neg (Bool.false_ne_true)]
        simp only [n1]
        unfold mPut
        funext z
        simp only [vS]
        by_cases h1 : z = 63 <;> by_cases h2 : z = 62 <;> by_cases h3 : z = 61 <;> by_cases h4 : z = 60 <;> simp_all⟩
  · obtain ⟨q, hq, hqe, q1, q2, q3, q4⟩ : ∃ q, q < e ∧ Ar 53 e = nI q ∧ Ar 49 q = Ar 49 e ∧ Ar 50 q = Ar 50 e ∧ Ar 51 q = Ar 51 e ∧ Ar 52 q = Ar 52 e := by
      rcases hk with h | h | h
      · rw [h] at c_31; exact absurd c_31 (by decide)
      · rw [h] at c_31; exact absurd c_31 (by decide)
      · exact h.2
    have e3 : gIx (Ar 53) e = q := gIx_eq hqe (by omega)
    have e4 : mA1 Ar q = 8 * h + a := by unfold mA1; rw [q1, q2]; exact e1
    have k0 : ¬ Ar 48 e = 0 := by rw [c_31]; decide
    have k1 : ¬ Ar 48 e = 1 := by rw [c_31]; decide
    refine V_aload_n (q := 35) dX6_does_34 rfl rfl ?_
    refine V_getR (q := 38) (n := 53) 6 17 kf_X6_49 (by decide) (by decide) rfl (by decide) dX6_does_35 rfl ?_
    refine V_iload_n (q := 39) dX6_does_38 rfl rfl ?_
    refine V_ild (q := 40) (e) 60 rfl (by omega) (by decide) (by omega) (by decide) rfl (by decide) dX6_does_39 rfl ?_
    refine V_top (nI q) hqe ?_
    refine V_istore (q := 42) dX6_does_40 (Nat.le_of_ble_eq_true rfl) rfl rfl ?_
    refine V_aload_n (q := 43) dX6_does_42 rfl rfl ?_
    refine V_getR (q := 46) (n := 63) 6 30 kf_X6_80 (by decide) (by decide) rfl (by decide) dX6_does_43 rfl ?_
    refine V_iload_n (q := 47) dX6_does_46 rfl rfl ?_
    refine V_aload_n (q := 48) dX6_does_47 rfl rfl ?_
    refine V_getR (q := 51) (n := 62) 6 29 kf_X6_77 (by decide) (by decide) rfl (by decide) dX6_does_48 rfl ?_
    refine V_iload (q := 53) dX6_does_51 rfl rfl ?_
    refine V_zld (q := 54) (q) 60 rfl (by omega) (by decide) (by omega) (by decide) rfl (by decide) dX6_does_53 rfl ?_
    refine V_if_ne (tgt := 61) (q := 57) dX6_does_54 (by decide) rfl (fun c_54 => ?_) (fun c_54 => ?_)
    · refine V_iconst (q := 62) (v := 0) dX6_does_61 (by decide) rfl ?_
      refine V_zst (q := 63) (e) 60 rfl (by omega) (by decide) (by omega) (by decide) rfl (by decide) dX6_does_62 rfl ?_
      refine V_aload_n (q := 64) dX6_does_63 rfl rfl ?_
      refine V_getR (q := 67) (n := 62) 6 29 kf_X6_77 (by decide) (by decide) rfl (by decide) dX6_does_64 rfl ?_
      refine V_iload (q := 69) dX6_does_67 rfl rfl ?_
      refine V_zld (q := 70) (q) 60 rfl (by omega) (by decide) (by omega) (by decide) rfl (by decide) dX6_does_69 rfl ?_
      refine V_if_eq (tgt := 91) (q := 73) dX6_does_70 (by decide) rfl (fun c_70 => absurd c_70 c_54) (fun c_70 => ?_)
      refine V_aload_n (q := 74) dX6_does_73 rfl rfl ?_
      refine V_getR (q := 77) (n := 62) 6 29 kf_X6_77 (by decide) (by decide) rfl (by decide) dX6_does_74 rfl ?_
      refine V_iload (q := 79) dX6_does_77 rfl rfl ?_
      refine V_iconst (q := 80) (v := 0) dX6_does_79 (by decide) rfl ?_
      refine V_zst (q := 81) (q) 60 rfl (by omega) (by decide) (by omega) (by decide) rfl (by decide) dX6_does_80 rfl ?_
      refine V_aload_n (q := 82) dX6_does_81 rfl rfl ?_
      refine V_getR (q := 85) (n := 61) 6 28 kf_X6_74 (by decide) (by decide) rfl (by decide) dX6_does_82 rfl ?_
      refine V_iload_n (q := 86) dX6_does_85 rfl rfl ?_
      refine V_dup2 (q := 87) dX6_does_86 rfl rfl rfl ?_
      refine V_ild (q := 88) (8 * h + a) 40 rfl (by omega) (by decide) (by omega) (by decide) rfl (by decide) dX6_does_87 rfl ?_
      refine V_iload_n (q := 89) dX6_does_88 rfl rfl ?_
      refine V_isub (q := 90) dX6_does_89 rfl ?_
      refine V_ist (q := 91) (8 * h + a) 40 rfl (by omega) (by decide) (by omega) (by decide) rfl (by decide) dX6_does_90 rfl ?_
      exact V_vret hκ rfl dX6_does_91 ⟨rfl, rfl, by
        rw [mEf, gEff_2 k0 k1, e3, if_neg (c_54 : ¬ Ar 62 q = 0), if_pos rfl, u0, q4]
        simp only [n0]
        unfold mPut gSet
        simp only [e4, Int32.sub_eq_add_neg]
        funext z
        simp only [vS]
        by_cases h1 : z = 63 <;> by_cases h2 : z = 62 <;> by_cases h3 : z = 61 <;> by_cases h4 : z = 60 <;> simp_all⟩
    · refine V_iconst (q := 58) (v := 1) dX6_does_57 (by decide) rfl ?_
      refine V_goto (q := 62) dX6_does_58 (by decide) ?_
      refine V_zst (q := 63) (e) 60 rfl (by omega) (by decide) (by omega) (by decide) rfl (by decide) dX6_does_62 rfl ?_
      refine V_aload_n (q := 64) dX6_does_63 rfl rfl ?_
      refine V_getR (q := 67) (n := 62) 6 29 kf_X6_77 (by decide) (by decide) rfl (by decide) dX6_does_64 rfl ?_
      refine V_iload (q := 69) dX6_does_67 rfl rfl ?_
      refine V_zld (q := 70) (q) 60 rfl (by omega) (by decide) (by omega) (by decide) rfl (by decide) dX6_does_69 rfl ?_
      refine V_if_eq (tgt := 91) (q := 73) dX6_does_70 (by decide) rfl (fun c_70 => ?_) (fun c_70 => absurd c_54 c_70)
      exact V_vret hκ rfl dX6_does_91 ⟨rfl, rfl, by
        rw [mEf, gEff_2 k0 k1, e3, if_pos (c_54 : Ar 62 q = 0), if_neg (Bool.false_ne_true)]
        simp only [n1]
        unfold mPut
        funext z
        simp only [vS]
        by_cases h1 : z = 63 <;> by_cases h2 : z = 62 <;> by_cases h3 : z = 61 <;> by_cases h4 : z = 60 <;> simp_all⟩
def mOw (f : Nat → Int32) : Nat → Nat → Int32
  | 0 => f
  | k + 1 => upd (mOw f k) k (if k % 8 = 0 then 64 else 0)
def mStep (Ar : vAt) (e : Nat) (q : gT × (Nat → Int32)) : gT × (Nat → Int32) :=
  if Ar 54 e = 0 then ((mEf Ar e (q.1.1, q.1.2.1, q.1.2.2.1, upd q.1.2.2.2 e 0)).2, upd q.2 e (if (mEf Ar e (q.1.1, q.1.2.1, q.1.2.2.1, upd q.1.2.2.2 e 0)).1 = true then 0 else 1))
  else ((q.1.1, q.1.2.1, q.1.2.2.1, upd q.1.2.2.2 e 0), upd q.2 e 0)
def mRn (Ar : vAt) : Nat → gT × (Nat → Int32)
  | 0 => ((mOw (Ar 60) 40, vFill (Ar 61) 40 0, fun _ => 0, Ar 62), Ar 63)
  | i + 1 => mStep Ar i (mRn Ar i)
def mAt (Ar : vAt) (i : Nat) : vAt := mPut Ar (mRn Ar i).1 (mRn Ar i).2
theorem mAt_ok {Ar : vAt} {i n : Nat} (h : mOk Ar n) : mOk (mAt Ar i) n := h
theorem mPut_vS {Ar : vAt} {s : gT} {vd st' vd' : Nat → Int32} : vS (vS (mPut Ar s vd) 62 st') 63 vd' = mPut Ar (s.1, s.2.1, s.2.2.1, st') vd' := by
  unfold mPut
  funext z
  simp only [vS]
  by_cases h1 : z = 63 <;> by_cases h2 : z = 62 <;> by_cases h3 : z = 61 <;> by_cases h4 : z = 60 <;> simp_all
theorem mPut_mPut {Ar : vAt} {s s' : gT} {vd vd' : Nat → Int32} : mPut (mPut Ar s vd) s' vd' = mPut Ar s' vd' := by
  unfold mPut
  funext z
  simp only [vS]
  by_cases h1 : z = 63 <;> by_cases h2 : z = 62 <;> by_cases h3 : z = 61 <;> by_cases h4 : z = 60 <;> simp_all
theorem mEf_put (Ar : vAt) (s : gT) (vd : Nat → Int32) (e : Nat) (s' : gT) : mEf (mPut Ar s vd) e s' = mEf Ar e s' := rfl
theorem lp_X6_go2 {F : vFt} {Ar : vAt} {x : vXt} {n : Nat} {κ : vK} (hκ : vStd κ 1 x (vEq none F (mAt Ar n))) (hn : F 395 = nI n) (hn60 : n ≤ 60) (hok : mOk Ar n) : ∀ k i, i + k = n → V κ mX6_goThrough 42 [.ref 6, .int (nI i)] [] F (mAt Ar i) x := by
  intro k
  induction k with
  | zero =>
    intro i hi
    obtain rfl : i = n := by omega
    refine V_iload_n (q := 43) dX6_goThrough_42 rfl rfl ?_
    refine V_aload_n (q := 44) dX6_goThrough_43 rfl rfl ?_
    refine V_getI (q := 47) (n := 395) 6 11 kf_X6_159 (by decide) (by decide) rfl rfl dX6_goThrough_44 rfl ?_
    rw [hn]
    refine V_icmp_ge (tgt := 84) (q := 50) dX6_goThrough_47 (by decide) rfl (fun c_47 => ?_) (fun c_47 => absurd c_47 (v_gt (by omega) (by omega) (Nat.le_refl _)))
    exact V_vret hκ rfl dX6_goThrough_84 vEq.rf
  | succ k ih =>
    intro i hi
    have n0 : vp_nar .boolean 0 = 0 := rfl
    refine V_iload_n (q := 43) dX6_goThrough_42 rfl rfl ?_
    refine V_aload_n (q := 44) dX6_goThrough_43 rfl rfl ?_
    refine V_getI (q := 47) (n := 395) 6 11 kf_X6_159 (by decide) (by decide) rfl rfl dX6_goThrough_44 rfl ?_
    rw [hn]
    refine V_icmp_ge (tgt := 84) (q := 50) dX6_goThrough_47 (by decide) rfl (fun c_47 => absurd c_47 (v_gf (by omega) (by omega) (by omega))) (fun c_47 => ?_)
    refine V_aload_n (q := 51) dX6_goThrough_50 rfl rfl ?_
    refine V_getR (q := 54) (n := 62) 6 29 kf_X6_77 (by decide) (by decide) rfl (by decide) dX6_goThrough_51 rfl ?_
    refine V_iload_n (q := 55) dX6_goThrough_54 rfl rfl ?_
    refine V_iconst (q := 56) (v := 0) dX6_goThrough_55 (by decide) rfl ?_
    refine V_zst (q := 57) (i) 60 rfl (by omega) (by decide) (by omega) (by decide) rfl (by decide) dX6_goThrough_56 rfl ?_
    refine V_aload_n (q := 58) dX6_goThrough_57 rfl rfl ?_
    refine V_getR (q := 61) (n := 63) 6 30 kf_X6_80 (by decide) (by decide) rfl (by decide) dX6_goThrough_58 rfl ?_
    refine V_iload_n (q := 62) dX6_goThrough_61 rfl rfl ?_
    refine V_iconst (q := 63) (v := 0) dX6_goThrough_62 (by decide) rfl ?_
    refine V_zst (q := 64) (i) 60 rfl (by omega) (by decide) (by omega) (by decide) rfl (by decide) dX6_goThrough_63 rfl ?_
    refine V_ar (mPut Ar ((mRn Ar i).1.1, (mRn Ar i).1.2.1, (mRn Ar i).1.2.2.1, upd (mRn Ar i).1.2.2.2 i 0) (upd (mRn Ar i).2 i 0)) (by rw [n0]; exact mPut_vS) ?_
    refine V_aload_n (q := 65) dX6_goThrough_64 rfl rfl ?_
    refine V_getR (q := 68) (n := 54) 6 18 kf_X6_52 (by decide) (by decide) rfl (by decide) dX6_goThrough_65 rfl ?_
    refine V_iload_n (q := 69) dX6_goThrough_68 rfl rfl ?_
    refine V_zld (q := 70) (i) 60 rfl (by omega) (by decide) (by omega) (by decide) rfl (by decide) dX6_goThrough_69 rfl ?_
    refine V_if_ne (tgt := 78) (q := 73) dX6_goThrough_70 (by decide) rfl (fun c_70 => ?_) (fun c_70 => ?_)
    · refine V_iincN (q := 81) dX6_goThrough_78 rfl (Nat.le_of_ble_eq_true rfl) rfl rfl ?_
      refine V_goto (q := 42) dX6_goThrough_81 (by decide) ?_
      refine V_ar (mAt Ar (i + 1)) (by have k70 : ¬ Ar 54 i = 0 := c_70; unfold mAt; rw [mRn, mStep, if_neg k70]) ?_
      exact ih (i + 1) (by omega)
    · refine V_aload_n (q := 74) dX6_goThrough_73 rfl rfl ?_
      refine V_iload_n (q := 75) dX6_goThrough_74 rfl rfl ?_
      refine V_cV1U (q := 78) (o := 6) (N := mX6_does) (tX6_does (n := n) (hd := (mRn Ar i).1.2.2.1) (by omega) hn60 hok (upd_at (f := (mRn Ar i).2))) hκ.big (by decide) gX6_does kl_X6_175 ki_X6_does ks_X6_does (by decide) rfl (Nat.le_of_ble_eq_true rfl) dX6_goThrough_75 rfl ?_
      refine V_iincN (q := 81) dX6_goThrough_78 rfl (Nat.le_of_ble_eq_true rfl) rfl rfl ?_
      refine V_goto (q := 42) dX6_goThrough_81 (by decide) ?_
      refine V_ar (mAt Ar (i + 1)) (by have k70 : Ar 54 i = 0 := c_70; unfold mAt; rw [mRn, mStep, if_pos k70, mEf_put, mPut_mPut]; show mPut Ar _ (upd (upd (mRn Ar i).2 i 0) i _) = _; rw [upd_upd]; rfl) ?_
      exact ih (i + 1) (by omega)
theorem lp_X6_go1 {F : vFt} {Ar : vAt} {x : vXt} {n : Nat} {κ : vK} (hκ : vStd κ 1 x (vEq none F (mAt Ar n))) (hn : F 395 = nI n) (hn60 : n ≤ 60) (hok : mOk Ar n) : ∀ k i, i + k = 40 → V κ mX6_goThrough 2 [.ref 6, .int (nI i)] [] F (vS (vS Ar 60 (mOw (Ar 60) i)) 61 (vFill (Ar 61) i 0)) x := by
  intro k
  induction k with
  | zero =>
    intro i hi
    obtain rfl : i = 40 := by omega
    refine V_iload_n (q := 3) dX6_goThrough_2 rfl rfl ?_
    refine V_bipush (q := 5) (v := 40) dX6_goThrough_3 (by decide) rfl ?_
    refine V_icmp_ge (tgt := 40) (q := 8) dX6_goThrough_5 (by decide) rfl (fun c_5 => ?_) (fun c_5 => absurd c_5 (v_gt (i := 40) (n := 40) (by decide) (by decide) (Nat.le_refl _)))
    refine V_iconst (q := 41) (v := 0) dX6_goThrough_40 (by decide) rfl ?_
    refine V_istore_n (q := 42) dX6_goThrough_41 (Nat.le_of_ble_eq_true rfl) rfl rfl ?_
    refine V_ar (mAt Ar 0) (by
      unfold mAt mRn mPut
      funext z
      simp only [vS]
      by_cases h1 : z = 63 <;> by_cases h2 : z = 62 <;> by_cases h3 : z = 61 <;> by_cases h4 : z = 60 <;> simp_all) ?_
    exact lp_X6_go2 hκ hn hn60 hok n 0 (by omega)
  | succ k ih =>
    intro i hi
    have h8 : nI (i % 8) = 0 ↔ i % 8 = 0 := nI_eq (b := 0) (by omega) (by decide)
    refine V_iload_n (q := 3) dX6_goThrough_2 rfl rfl ?_
    refine V_bipush (q := 5) (v := 40) dX6_goThrough_3 (by decide) rfl ?_
    refine V_icmp_ge (tgt := 40) (q := 8) dX6_goThrough_5 (by decide) rfl (fun c_5 => absurd c_5 (v_gf (n := 40) (by omega) (by decide) (by omega))) (fun c_5 => ?_)
    refine V_aload_n (q := 9) dX6_goThrough_8 rfl rfl ?_
    refine V_getR (q := 12) (n := 60) 6 27 kf_X6_71 (by decide) (by decide) rfl (by decide) dX6_goThrough_9 rfl ?_
    refine V_iload_n (q := 13) dX6_goThrough_12 rfl rfl ?_
    refine V_iload_n (q := 14) dX6_goThrough_13 rfl rfl ?_
    refine V_bipush (q := 16) (v := 8) dX6_goThrough_14 (by decide) rfl ?_
    refine V_irem (q := 17) dX6_goThrough_16 (by decide) rfl ?_
    refine V_top (nI (i % 8)) (pk_rem (a := i) (d := 8) (by omega) (by decide) (by decide)) ?_
    refine V_if_ne (tgt := 25) (q := 20) dX6_goThrough_17 (by decide) rfl (fun c_17 => ?_) (fun c_17 => ?_)
    · refine V_iconst (q := 26) (v := 0) dX6_goThrough_25 (by decide) rfl ?_
      refine V_ist (q := 27) (i) 40 rfl (by omega) (by decide) (by omega) (by decide) rfl (by decide) dX6_goThrough_26 rfl ?_
      refine V_aload_n (q := 28) dX6_goThrough_27 rfl rfl ?_
      refine V_getR (q := 31) (n := 61) 6 28 kf_X6_74 (by decide) (by decide) rfl (by decide) dX6_goThrough_28 rfl ?_
      refine V_iload_n (q := 32) dX6_goThrough_31 rfl rfl ?_
      refine V_iconst (q := 33) (v := 0) dX6_goThrough_32 (by decide) rfl ?_
      refine V_ist (q := 34) (i) 40 rfl (by omega) (by decide) (by omega) (by decide) rfl (by decide) dX6_goThrough_33 rfl ?_
      refine V_iincN (q := 37) dX6_goThrough_34 rfl (Nat.le_of_ble_eq_true rfl) rfl rfl ?_
      refine V_goto (q := 2) dX6_goThrough_37 (by decide) ?_
      refine V_ar (vS (vS Ar 60 (mOw (Ar 60) (i + 1))) 61 (vFill (Ar 61) (i + 1) 0)) (by rw [mOw, if_neg (fun h => c_17 (h8.mpr h)), ← vFill_s, vS_comm (a := 61) (b := 60) (by decide), vS_vS, vS_vS]; rfl) ?_
      exact ih (i + 1) (by omega)
    · refine V_bipush (q := 22) (v := 64) dX6_goThrough_20 (by decide) rfl ?_
      refine V_goto (q := 26) dX6_goThrough_22 (by decide) ?_
      refine V_ist (q := 27) (i) 40 rfl (by omega) (by decide) (by omega) (by decide) rfl (by decide) dX6_goThrough_26 rfl ?_
      refine V_aload_n (q := 28) dX6_goThrough_27 rfl rfl ?_
      refine V_getR (q := 31) (n := 61) 6 28 kf_X6_74 (by decide) (by decide) rfl (by decide) dX6_goThrough_28 rfl ?_
      refine V_iload_n (q := 32) dX6_goThrough_31 rfl rfl ?_
      refine V_iconst (q := 33) (v := 0) dX6_goThrough_32 (by decide) rfl ?_
      refine V_ist (q := 34) (i) 40 rfl (by omega) (by decide) (by omega) (by decide) rfl (by decide) dX6_goThrough_33 rfl ?_
      refine V_iincN (q := 37) dX6_goThrough_34 rfl (Nat.le_of_ble_eq_true rfl) rfl rfl ?_
      refine V_goto (q := 2) dX6_goThrough_37 (by decide) ?_
      refine V_ar (vS (vS Ar 60 (mOw (Ar 60) (i + 1))) 61 (vFill (Ar 61) (i + 1) 0)) (by rw [mOw, if_pos (h8.mp c_17), ← vFill_s, vS_comm (a := 61) (b := 60) (by decide), vS_vS, vS_vS]; rfl) ?_
      exact ih (i + 1) (by omega)
theorem tX6_goThrough {F : vFt} {Ar : vAt} {x : vXt} {n : Nat} (hn : F 395 = nI n) (hn60 : n ≤ 60) (hok : mOk Ar n) : C0 mX6_goThrough 1 [.ref 6] F Ar x (vEq none F (mAt Ar n)) := by
  refine C0_of (by decide +kernel) (Nat.le_of_ble_eq_true rfl) (fun κ hκ => ?_)
  show V κ mX6_goThrough 0 [.ref 6, .null] [] F Ar x
  refine V_iconst (q := 1) (v := 0) dX6_goThrough_0 (by decide) rfl ?_
  refine V_istore_n (q := 2) dX6_goThrough_1 (Nat.le_of_ble_eq_true rfl) rfl rfl ?_
  refine V_ar (vS (vS Ar 60 (mOw (Ar 60) 0)) 61 (vFill (Ar 61) 0 0)) (by rw [vFill_0, mOw, vS_self, vS_self]) ?_
  exact lp_X6_go1 hκ hn hn60 hok 40 0 rfl
