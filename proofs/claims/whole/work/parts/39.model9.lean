def tkI (c : Int32) : Int32 := if c = 108 ∨ c = 98 ∨ c = 100 ∨ c = 114 ∨ c = 32 ∨ cFig c then 0 else if c = 33 then 1 else if cOp c then 2 else -1
theorem tX6_takes {F : vFt} {Ar : vAt} {x : vXt} {c : Int32}  : C0 mX6_takes 1 [.int c] F Ar x (vEq (some (.int (tkI c))) F Ar) := by
  refine C0_of (by decide +kernel) (Nat.le_of_ble_eq_true rfl) (fun κ hκ => ?_)
  show V κ mX6_takes 0 [.int c] [] F Ar x
  refine V_iload_n (q := 1) dX6_takes_0 rfl rfl ?_
  refine V_bipush (q := 3) (v := 108) dX6_takes_1 (by decide) rfl ?_
  refine V_icmp_eq (tgt := 37) (q := 6) dX6_takes_3 (by decide) rfl (fun c_3 => ?_) (fun c_3 => ?_)
  · refine V_iconst (q := 38) (v := 0) dX6_takes_37 (by decide) rfl ?_
    exact V_iret hκ rfl rfl dX6_takes_38 ⟨by rw [tkI, if_pos (Or.inl c_3)], rfl, rfl⟩
  · refine V_iload_n (q := 7) dX6_takes_6 rfl rfl ?_
    refine V_bipush (q := 9) (v := 98) dX6_takes_7 (by decide) rfl ?_
    refine V_icmp_eq (tgt := 37) (q := 12) dX6_takes_9 (by decide) rfl (fun c_9 => ?_) (fun c_9 => ?_)
    · refine V_iconst (q := 38) (v := 0) dX6_takes_37 (by decide) rfl ?_
      exact V_iret hκ rfl rfl dX6_takes_38 ⟨by rw [tkI, if_pos (Or.inr (Or.inl c_9))], rfl, rfl⟩
    · refine V_iload_n (q := 13) dX6_takes_12 rfl rfl ?_
      refine V_bipush (q := 15) (v := 100) dX6_takes_13 (by decide) rfl ?_
      refine V_icmp_eq (tgt := 37) (q := 18) dX6_takes_15 (by decide) rfl (fun c_15 => ?_) (fun c_15 => ?_)
      · refine V_iconst (q := 38) (v := 0) dX6_takes_37 (by decide) rfl ?_
        exact V_iret hκ rfl rfl dX6_takes_38 ⟨by rw [tkI, if_pos (Or.inr (Or.inr (Or.inl c_15)))], rfl, rfl⟩
      · refine V_iload_n (q := 19) dX6_takes_18 rfl rfl ?_
        refine V_bipush (q := 21) (v := 114) dX6_takes_19 (by decide) rfl ?_
        refine V_icmp_eq (tgt := 37) (q := 24) dX6_takes_21 (by decide) rfl (fun c_21 => ?_) (fun c_21 => ?_)
        · refine V_iconst (q := 38) (v := 0) dX6_takes_37 (by decide) rfl ?_
          exact V_iret hκ rfl rfl dX6_takes_38 ⟨by rw [tkI, if_pos (Or.inr (Or.inr (Or.inr (Or.inl c_21))))], rfl, rfl⟩
        · refine V_iload_n (q := 25) dX6_takes_24 rfl rfl ?_
          refine V_bipush (q := 27) (v := 32) dX6_takes_25 (by decide) rfl ?_
          refine V_icmp_eq (tgt := 37) (q := 30) dX6_takes_27 (by decide) rfl (fun c_27 => ?_) (fun c_27 => ?_)
          · refine V_iconst (q := 38) (v := 0) dX6_takes_37 (by decide) rfl ?_
            exact V_iret hκ rfl rfl dX6_takes_38 ⟨by rw [tkI, if_pos (Or.inr (Or.inr (Or.inr (Or.inr (Or.inl c_27)))))], rfl, rfl⟩
          · refine V_iload_n (q := 31) dX6_takes_30 rfl rfl ?_
            refine V_cS1I (q := 34) (N := mX6_isFigure) tX6_isFigure hκ.big (by decide) gX6_isFigure kl_X6_93 kt_X6_isFigure (Nat.le_of_ble_eq_true rfl) dX6_takes_31 rfl ?_
            refine V_if_eq (tgt := 39) (q := 37) dX6_takes_34 (by decide) rfl (fun c_34 => ?_) (fun c_34 => ?_)
            · refine V_iload_n (q := 40) dX6_takes_39 rfl rfl ?_
              refine V_bipush (q := 42) (v := 33) dX6_takes_40 (by decide) rfl ?_
              refine V_icmp_ne (tgt := 49) (q := 45) dX6_takes_42 (by decide) rfl (fun c_42 => ?_) (fun c_42 => ?_)
              · refine V_iload_n (q := 50) dX6_takes_49 rfl rfl ?_
                refine V_bipush (q := 52) (v := 43) dX6_takes_50 (by decide) rfl ?_
                refine V_icmp_eq (tgt := 73) (q := 55) dX6_takes_52 (by decide) rfl (fun c_52 => ?_) (fun c_52 => ?_)
                · refine V_iconst (q := 74) (v := 2) dX6_takes_73 (by decide) rfl ?_
                  refine V_goto (q := 78) dX6_takes_74 (by decide) ?_
                  exact V_iret hκ rfl rfl dX6_takes_78 ⟨by have hz : ¬ (c = 108 ∨ c = 98 ∨ c = 100 ∨ c = 114 ∨ c = 32 ∨ cFig c) := fun h => h.elim c_3 (fun h => h.elim c_9 (fun h => h.elim c_15 (fun h => h.elim c_21 (fun h => h.elim c_27 (vB_0.mp c_34))))); rw [tkI, if_neg hz, if_neg c_42, if_pos (Or.inr (Or.inl c_52))], rfl, rfl⟩
                · refine V_iload_n (q := 56) dX6_takes_55 rfl rfl ?_
                  refine V_bipush (q := 58) (v := 45) dX6_takes_56 (by decide) rfl ?_
                  refine V_icmp_eq (tgt := 73) (q := 61) dX6_takes_58 (by decide) rfl (fun c_58 => ?_) (fun c_58 => ?_)
                  · refine V_iconst (q := 74) (v := 2) dX6_takes_73 (by decide) rfl ?_
                    refine V_goto (q := 78) dX6_takes_74 (by decide) ?_
                    exact V_iret hκ rfl rfl dX6_takes_78 ⟨by have hz : ¬ (c = 108 ∨ c = 98 ∨ c = 100 ∨ c = 114 ∨ c = 32 ∨ cFig c) := fun h => h.elim c_3 (fun h => h.elim c_9 (fun h => h.elim c_15 (fun h => h.elim c_21 (fun h => h.elim c_27 (vB_0.mp c_34))))); rw [tkI, if_neg hz, if_neg c_42, if_pos (Or.inr (Or.inr (Or.inl c_58)))], rfl, rfl⟩
                  · refine V_iload_n (q := 62) dX6_takes_61 rfl rfl ?_
                    refine V_bipush (q := 64) (v := 42) dX6_takes_62 (by decide) rfl ?_
                    refine V_icmp_eq (tgt := 73) (q := 67) dX6_takes_64 (by decide) rfl (fun c_64 => ?_) (fun c_64 => ?_)
                    · refine V_iconst (q := 74) (v := 2) dX6_takes_73 (by decide) rfl ?_
                      refine V_goto (q := 78) dX6_takes_74 (by decide) ?_
                      exact V_iret hκ rfl rfl dX6_takes_78 ⟨by have hz : ¬ (c = 108 ∨ c = 98 ∨ c = 100 ∨ c = 114 ∨ c = 32 ∨ cFig c) := fun h => h.elim c_3 (fun h => h.elim c_9 (fun h => h.elim c_15 (fun h => h.elim c_21 (fun h => h.elim c_27 (vB_0.mp c_34))))); rw [tkI, if_neg hz, if_neg c_42, if_pos (Or.inl c_64)], rfl, rfl⟩
                    · refine V_iload_n (q := 68) dX6_takes_67 rfl rfl ?_
                      refine V_bipush (q := 70) (v := 47) dX6_takes_68 (by decide) rfl ?_
                      refine V_icmp_ne (tgt := 77) (q := 73) dX6_takes_70 (by decide) rfl (fun c_70 => ?_) (fun c_70 => ?_)
                      · refine V_iconst (q := 78) (v := (-1)) dX6_takes_77 (by decide) rfl ?_
                        exact V_iret hκ rfl rfl dX6_takes_78 ⟨by have hz : ¬ (c = 108 ∨ c = 98 ∨ c = 100 ∨ c = 114 ∨ c = 32 ∨ cFig c) := fun h => h.elim c_3 (fun h => h.elim c_9 (fun h => h.elim c_15 (fun h => h.elim c_21 (fun h => h.elim c_27 (vB_0.mp c_34))))); rw [tkI, if_neg hz, if_neg c_42, if_neg (fun h => h.elim c_64 (fun h => h.elim c_52 (fun h => h.elim c_58 c_70)))], rfl, rfl⟩
                      · refine V_iconst (q := 74) (v := 2) dX6_takes_73 (by decide) rfl ?_
                        refine V_goto (q := 78) dX6_takes_74 (by decide) ?_
                        exact V_iret hκ rfl rfl dX6_takes_78 ⟨by have hz : ¬ (c = 108 ∨ c = 98 ∨ c = 100 ∨ c = 114 ∨ c = 32 ∨ cFig c) := fun h => h.elim c_3 (fun h => h.elim c_9 (fun h => h.elim c_15 (fun h => h.elim c_21 (fun h => h.elim c_27 (vB_0.mp c_34))))); rw [tkI, if_neg hz, if_neg c_42, if_pos (Or.inr (Or.inr (Or.inr c_70)))], rfl, rfl⟩
              · refine V_iconst (q := 46) (v := 1) dX6_takes_45 (by decide) rfl ?_
                refine V_goto (q := 78) dX6_takes_46 (by decide) ?_
                exact V_iret hκ rfl rfl dX6_takes_78 ⟨by have hz : ¬ (c = 108 ∨ c = 98 ∨ c = 100 ∨ c = 114 ∨ c = 32 ∨ cFig c) := fun h => h.elim c_3 (fun h => h.elim c_9 (fun h => h.elim c_15 (fun h => h.elim c_21 (fun h => h.elim c_27 (vB_0.mp c_34))))); rw [tkI, if_neg hz, if_pos c_42], rfl, rfl⟩
            · refine V_iconst (q := 38) (v := 0) dX6_takes_37 (by decide) rfl ?_
              exact V_iret hκ rfl rfl dX6_takes_38 ⟨by rw [tkI, if_pos (Or.inr (Or.inr (Or.inr (Or.inr (Or.inr (vB_n0.mp c_34))))))], rfl, rfl⟩
def mF (F : vFt) (h : Nat) : vFt := upd F 410 (nI h)
def mP (Ar : vAt) (pl : Nat → Int32) : vAt := vS Ar 59 pl
def jnM (c : Int32) (a b : Int64) : Int64 := if c = 47 then (if b = 0 then 0 else a / b) else if c = 43 then a + b else if c = 45 then a - b else a * b
theorem jnM_eq {c : Int32} {a b : Int64} (h : cOp c) : jnM c a b = jn c a b := by
  rcases h with h | h | h | h <;> subst h <;> rfl
theorem tX6_push {F : vFt} {Ar : vAt} {x : vXt} {h : Nat} {pl : Nat → Int32} {v : Int64} (hh : h < 41) : C0 mX6_push 0 [.ref 6, .long v] (mF F h) (mP Ar pl) x (vEq none (mF F (h + 1)) (mP Ar (upd pl h (bnd v)))) := by
  refine C0_of (by decide +kernel) (Nat.le_of_ble_eq_true rfl) (fun κ hκ => ?_)
  show V κ mX6_push 0 [.ref 6, .long v, .null] [] (mF F h) (mP Ar pl) x
  refine V_aload_n (q := 1) dX6_push_0 rfl rfl ?_
  refine V_getR (q := 4) (n := 59) 6 25 kf_X6_68 (by decide) (by decide) rfl (by decide) dX6_push_1 rfl ?_
  refine V_aload_n (q := 5) dX6_push_4 rfl rfl ?_
  refine V_getI (q := 8) (n := 410) 6 26 kf_X6_115 (by decide) (by decide) rfl rfl dX6_push_5 rfl ?_
  refine V_lload_n (q := 9) dX6_push_8 rfl rfl ?_
  refine V_ldc2 (q := 12) dX6_push_9 kc_X6_118 rfl ?_
  refine V_lcmp (q := 13) dX6_push_12 rfl ?_
  refine V_if_le (tgt := 21) (q := 16) dX6_push_13 (by decide) rfl (fun c_13 => ?_) (fun c_13 => ?_)
  · refine V_lload_n (q := 22) dX6_push_21 rfl rfl ?_
    refine V_ldc2 (q := 25) dX6_push_22 kc_X6_121 rfl ?_
    refine V_lcmp (q := 26) dX6_push_25 rfl ?_
    refine V_if_ge (tgt := 34) (q := 29) dX6_push_26 (by decide) rfl (fun c_26 => ?_) (fun c_26 => ?_)
    · refine V_lload_n (q := 35) dX6_push_34 rfl rfl ?_
      refine V_l2i (q := 36) dX6_push_35 rfl ?_
      refine V_top (bnd v) (by rw [lg_cmp_le] at c_13; rw [lg_cmp_ge] at c_26; simp only [bnd, if_pos c_13, if_pos c_26]) ?_
      refine V_ist (q := 37) (h) 41 rfl (by omega) (by decide) (by omega) (by decide) rfl (by decide) dX6_push_36 rfl ?_
      refine V_aload_n (q := 38) dX6_push_37 rfl rfl ?_
      refine V_dup (q := 39) dX6_push_38 rfl rfl ?_
      refine V_getI (q := 42) (n := 410) 6 26 kf_X6_115 (by decide) (by decide) rfl rfl dX6_push_39 rfl ?_
      refine V_iconst (q := 43) (v := 1) dX6_push_42 (by decide) rfl ?_
      refine V_iadd (q := 44) dX6_push_43 rfl ?_
      refine V_putI (q := 47) (n := 410) 6 26 kf_X6_115 (by decide) (by decide) rfl rfl dX6_push_44 rfl ?_
      exact V_vret hκ rfl dX6_push_47 ⟨rfl, (congrArg (upd (mF F h) 410) (nI_1 h)).trans upd_upd, vS_vS⟩
    · refine V_ldc (q := 31) dX6_push_29 kc_X6_123 rfl ?_
      refine V_goto (q := 36) dX6_push_31 (by decide) ?_
      refine V_top (bnd v) (by rw [lg_cmp_le] at c_13; rw [lg_cmp_ge] at c_26; simp only [bnd, if_pos c_13, if_neg c_26]) ?_
      refine V_ist (q := 37) (h) 41 rfl (by omega) (by decide) (by omega) (by decide) rfl (by decide) dX6_push_36 rfl ?_
      refine V_aload_n (q := 38) dX6_push_37 rfl rfl ?_
      refine V_dup (q := 39) dX6_push_38 rfl rfl ?_
      refine V_getI (q := 42) (n := 410) 6 26 kf_X6_115 (by decide) (by decide) rfl rfl dX6_push_39 rfl ?_
      refine V_iconst (q := 43) (v := 1) dX6_push_42 (by decide) rfl ?_
      refine V_iadd (q := 44) dX6_push_43 rfl ?_
      refine V_putI (q := 47) (n := 410) 6 26 kf_X6_115 (by decide) (by decide) rfl rfl dX6_push_44 rfl ?_
      exact V_vret hκ rfl dX6_push_47 ⟨rfl, (congrArg (upd (mF F h) 410) (nI_1 h)).trans upd_upd, vS_vS⟩
  · refine V_ldc (q := 18) dX6_push_16 kc_X6_120 rfl ?_
    refine V_goto (q := 36) dX6_push_18 (by decide) ?_
    refine V_top (bnd v) (by rw [lg_cmp_le] at c_13; simp only [bnd, if_neg c_13]) ?_
    refine V_ist (q := 37) (h) 41 rfl (by omega) (by decide) (by omega) (by decide) rfl (by decide) dX6_push_36 rfl ?_
    refine V_aload_n (q := 38) dX6_push_37 rfl rfl ?_
    refine V_dup (q := 39) dX6_push_38 rfl rfl ?_
    refine V_getI (q := 42) (n := 410) 6 26 kf_X6_115 (by decide) (by decide) rfl rfl dX6_push_39 rfl ?_
    refine V_iconst (q := 43) (v := 1) dX6_push_42 (by decide) rfl ?_
    refine V_iadd (q := 44) dX6_push_43 rfl ?_
    refine V_putI (q := 47) (n := 410) 6 26 kf_X6_115 (by decide) (by decide) rfl rfl dX6_push_44 rfl ?_
    exact V_vret hκ rfl dX6_push_47 ⟨rfl, (congrArg (upd (mF F h) 410) (nI_1 h)).trans upd_upd, vS_vS⟩
theorem tX6_combine {F : vFt} {Ar : vAt} {x : vXt} {h : Nat} {pl : Nat → Int32} {c : Int32} (h2 : 2 ≤ h) (hh : h ≤ 41) : C0 mX6_combine 1 [.ref 6, .int c] (mF F h) (mP Ar pl) x (vEq none (mF F (h - 1)) (mP Ar (upd pl (h - 2) (bnd (jnM c (pl (h - 2)).toInt64 (pl (h - 1)).toInt64))))) := by
  refine C0_of (by decide +kernel) (Nat.le_of_ble_eq_true rfl) (fun κ hκ => ?_)
  show V κ mX6_combine 0 [.ref 6, .int c, .null, .null, .null, .null] [] (mF F h) (mP Ar pl) x
  have s1 : nI h - 1 = nI (h - 1) := v_sub1 (by omega)
  have s2 : nI h - 2 = nI (h - 2) := pk_sub (a := h) (b := 2) h2
  refine V_aload_n (q := 1) dX6_combine_0 rfl rfl ?_
  refine V_getR (q := 4) (n := 59) 6 25 kf_X6_68 (by decide) (by decide) rfl (by decide) dX6_combine_1 rfl ?_
  refine V_aload_n (q := 5) dX6_combine_4 rfl rfl ?_
  refine V_getI (q := 8) (n := 410) 6 26 kf_X6_115 (by decide) (by decide) rfl rfl dX6_combine_5 rfl ?_
  refine V_iconst (q := 9) (v := 2) dX6_combine_8 (by decide) rfl ?_
  refine V_isub (q := 10) dX6_combine_9 rfl ?_
  refine V_ild (q := 11) (h - 2) 41 s2 (by omega) (by decide) (by omega) (by decide) rfl (by decide) dX6_combine_10 rfl ?_
  refine V_i2l (q := 12) dX6_combine_11 rfl ?_
  refine V_lstore_n (q := 13) dX6_combine_12 (Nat.le_of_ble_eq_true rfl) rfl rfl ?_
  refine V_aload_n (q := 14) dX6_combine_13 rfl rfl ?_
  refine V_getR (q := 17) (n := 59) 6 25 kf_X6_68 (by decide) (by decide) rfl (by decide) dX6_combine_14 rfl ?_
  refine V_aload_n (q := 18) dX6_combine_17 rfl rfl ?_
  refine V_getI (q := 21) (n := 410) 6 26 kf_X6_115 (by decide) (by decide) rfl rfl dX6_combine_18 rfl ?_
  refine V_iconst (q := 22) (v := 1) dX6_combine_21 (by decide) rfl ?_
  refine V_isub (q := 23) dX6_combine_22 rfl ?_
  refine V_ild (q := 24) (h - 1) 41 s1 (by omega) (by decide) (by omega) (by decide) rfl (by decide) dX6_combine_23 rfl ?_
  refine V_i2l (q := 25) dX6_combine_24 rfl ?_
  refine V_lstore (q := 27) dX6_combine_25 (Nat.le_of_ble_eq_true rfl) rfl rfl ?_
  refine V_aload_n (q := 28) dX6_combine_27 rfl rfl ?_
  refine V_dup (q := 29) dX6_combine_28 rfl rfl ?_
  refine V_getI (q := 32) (n := 410) 6 26 kf_X6_115 (by decide) (by decide) rfl rfl dX6_combine_29 rfl ?_
  refine V_iconst (q := 33) (v := 2) dX6_combine_32 (by decide) rfl ?_
  refine V_isub (q := 34) dX6_combine_33 rfl ?_
  refine V_putI (q := 37) (n := 410) 6 26 kf_X6_115 (by decide) (by decide) rfl rfl dX6_combine_34 rfl ?_
  refine V_fl (mF F (h - 2)) ((congrArg (upd (mF F h) 410) s2).trans upd_upd) ?_
  refine V_iload_n (q := 38) dX6_combine_37 rfl rfl ?_
  refine V_bipush (q := 40) (v := 47) dX6_combine_38 (by decide) rfl ?_
  refine V_icmp_ne (tgt := 65) (q := 43) dX6_combine_40 (by decide) rfl (fun c_40 => ?_) (fun c_40 => ?_)
  · refine V_aload_n (q := 66) dX6_combine_65 rfl rfl ?_
    refine V_iload_n (q := 67) dX6_combine_66 rfl rfl ?_
    refine V_bipush (q := 69) (v := 43) dX6_combine_67 (by decide) rfl ?_
    refine V_icmp_ne (tgt := 79) (q := 72) dX6_combine_69 (by decide) rfl (fun c_69 => ?_) (fun c_69 => ?_)
    · refine V_iload_n (q := 80) dX6_combine_79 rfl rfl ?_
      refine V_bipush (q := 82) (v := 45) dX6_combine_80 (by decide) rfl ?_
      refine V_icmp_ne (tgt := 92) (q := 85) dX6_combine_82 (by decide) rfl (fun c_82 => ?_) (fun c_82 => ?_)
      · refine V_lload_n (q := 93) dX6_combine_92 rfl rfl ?_
        refine V_lload (q := 95) dX6_combine_93 rfl rfl ?_
        refine V_lmul (q := 96) dX6_combine_95 rfl ?_
        refine V_cV1U (q := 99) (o := 6) (N := mX6_push) (tX6_push (F := F) (Ar := Ar) (pl := pl) (h := h - 2) (by omega)) hκ.big (by decide) gX6_push kl_X6_124 ki_X6_push ks_X6_push (by decide) rfl (Nat.le_of_ble_eq_true rfl) dX6_combine_96 rfl ?_
        exact V_vret hκ rfl dX6_combine_99 ⟨rfl, by rw [show h - 2 + 1 = h - 1 by omega], by rw [show jnM c (pl (h - 2)).toInt64 (pl (h - 1)).toInt64 = _ from (if_neg c_40).trans ((if_neg c_69).trans (if_neg c_82))]; try rfl⟩
      · refine V_lload_n (q := 86) dX6_combine_85 rfl rfl ?_
        refine V_lload (q := 88) dX6_combine_86 rfl rfl ?_
        refine V_lsub (q := 89) dX6_combine_88 rfl ?_
        refine V_goto (q := 96) dX6_combine_89 (by decide) ?_
        refine V_cV1U (q := 99) (o := 6) (N := mX6_push) (tX6_push (F := F) (Ar := Ar) (pl := pl) (h := h - 2) (by omega)) hκ.big (by decide) gX6_push kl_X6_124 ki_X6_push ks_X6_push (by decide) rfl (Nat.le_of_ble_eq_true rfl) dX6_combine_96 rfl ?_
        exact V_vret hκ rfl dX6_combine_99 ⟨rfl, by rw [show h - 2 + 1 = h - 1 by omega], by rw [show jnM c (pl (h - 2)).toInt64 (pl (h - 1)).toInt64 = _ from (if_neg c_40).trans ((if_neg c_69).trans (if_pos c_82))]; try rfl⟩
    · refine V_lload_n (q := 73) dX6_combine_72 rfl rfl ?_
      refine V_lload (q := 75) dX6_combine_73 rfl rfl ?_
      refine V_ladd (q := 76) dX6_combine_75 rfl ?_
      refine V_goto (q := 96) dX6_combine_76 (by decide) ?_
      refine V_cV1U (q := 99) (o := 6) (N := mX6_push) (tX6_push (F := F) (Ar := Ar) (pl := pl) (h := h - 2) (by omega)) hκ.big (by decide) gX6_push kl_X6_124 ki_X6_push ks_X6_push (by decide) rfl (Nat.le_of_ble_eq_true rfl) dX6_combine_96 rfl ?_
      exact V_vret hκ rfl dX6_combine_99 ⟨rfl, by rw [show h - 2 + 1 = h - 1 by omega], by rw [show jnM c (pl (h - 2)).toInt64 (pl (h - 1)).toInt64 = _ from (if_neg c_40).trans (if_pos c_69)]; try rfl⟩
  · refine V_aload_n (q := 44) dX6_combine_43 rfl rfl ?_
    refine V_lload (q := 46) dX6_combine_44 rfl rfl ?_
    refine V_lconst (q := 47) (v := 0) dX6_combine_46 (by decide) rfl ?_
    refine V_lcmp (q := 48) dX6_combine_47 rfl ?_
    refine V_if_ne (tgt := 55) (q := 51) dX6_combine_48 (by decide) rfl (fun c_48 => ?_) (fun c_48 => ?_)
    · refine V_lload_n (q := 56) dX6_combine_55 rfl rfl ?_
      refine V_lload (q := 58) dX6_combine_56 rfl rfl ?_
      refine V_ldiv (q := 59) dX6_combine_58 (fun q => c_48 ((lg_cmp_z _ 0).mpr q)) rfl ?_
      refine V_cV1U (q := 62) (o := 6) (N := mX6_push) (tX6_push (F := F) (Ar := Ar) (pl := pl) (h := h - 2) (by omega)) hκ.big (by decide) gX6_push kl_X6_124 ki_X6_push ks_X6_push (by decide) rfl (Nat.le_of_ble_eq_true rfl) dX6_combine_59 rfl ?_
      refine V_goto (q := 99) dX6_combine_62 (by decide) ?_
      exact V_vret hκ rfl dX6_combine_99 ⟨rfl, by rw [show h - 2 + 1 = h - 1 by omega], by rw [show jnM c (pl (h - 2)).toInt64 (pl (h - 1)).toInt64 = _ from (if_pos c_40).trans (if_neg (fun q => c_48 ((lg_cmp_z _ 0).mpr q)))]; try rfl⟩
    · refine V_lconst (q := 52) (v := 0) dX6_combine_51 (by decide) rfl ?_
      refine V_goto (q := 59) dX6_combine_52 (by decide) ?_
      refine V_cV1U (q := 62) (o := 6) (N := mX6_push) (tX6_push (F := F) (Ar := Ar) (pl := pl) (h := h - 2) (by omega)) hκ.big (by decide) gX6_push kl_X6_124 ki_X6_push ks_X6_push (by decide) rfl (Nat.le_of_ble_eq_true rfl) dX6_combine_59 rfl ?_
      refine V_goto (q := 99) dX6_combine_62 (by decide) ?_
      exact V_vret hκ rfl dX6_combine_99 ⟨rfl, by rw [show h - 2 + 1 = h - 1 by omega], by rw [show jnM c (pl (h - 2)).toInt64 (pl (h - 1)).toInt64 = _ from (if_pos c_40).trans (if_pos ((lg_cmp_z _ 0).mp c_48))]; try rfl⟩
def sGd (o : Option sQ) : Bool := match o with
  | some q => q.1.length == 1
  | none => false
theorem sStep_fig {l b d r c : Int32} {q : sQ} (h : cFig c) : sStep l b d r c q = sFig (c - 48) q := if_pos h
theorem nfig {c : Int32} (h : c = 32 ∨ c = 33 ∨ cOp c ∨ c = 98 ∨ c = 100 ∨ c = 108 ∨ c = 114) : ¬ cFig c := by
  rintro ⟨h1, h2⟩
  rcases h with h | h | (h | h | h | h) | h | h | h | h <;> subst h <;> revert h1 h2 <;> decide
theorem sStep_bl {l b d r : Int32} {q : sQ} : sStep l b d r 32 q = some (q.1, 0) := rfl
theorem sStep_ba {l b d r : Int32} {q : sQ} : sStep l b d r 33 q = sLift q := rfl
theorem sStep_op {l b d r c : Int32} {q : sQ} (h : cOp c) : sStep l b d r c q = sJoin c q := by
  rcases h with h | h | h | h <;> subst h <;> rfl
/-- the kinds of letters -/
theorem lcls (c : Int32) : cFig c ∨ (c = 108 ∨ c = 98 ∨ c = 100 ∨ c = 114) ∨ c = 32 ∨ c = 33 ∨ cOp c ∨ (¬ cFig c ∧ ¬ (c = 108 ∨ c = 98 ∨ c = 100 ∨ c = 114) ∧ ¬ c = 32 ∧ ¬ c = 33 ∧ ¬ cOp c) := by
  by_cases h1 : cFig c
  · exact Or.inl h1
  · by_cases h2 : c = 108 ∨ c = 98 ∨ c = 100 ∨ c = 114
    · exact Or.inr (Or.inl h2)
    · by_cases h3 : c = 32
      · exact Or.inr (Or.inr (Or.inl h3))
      · by_cases h4 : c = 33
        · exact Or.inr (Or.inr (Or.inr (Or.inl h4)))
        · by_cases h5 : cOp c
          · exact Or.inr (Or.inr (Or.inr (Or.inr (Or.inl h5))))
          · exact Or.inr (Or.inr (Or.inr (Or.inr (Or.inr ⟨h1, h2, h3, h4, h5⟩))))
theorem sStep_sz {l b d r c : Int32} {q : sQ} (h : c = 108 ∨ c = 98 ∨ c = 100 ∨ c = 114) : ∃ v, sStep l b d r c q = some (v :: q.1, 0) ∧ ((c = 108 ∧ v = l) ∨ (c = 98 ∧ v = b) ∨ (c = 100 ∧ v = d) ∨ (c = 114 ∧ v = r)) := by
  rcases h with h | h | h | h <;> subst h
  · exact ⟨l, rfl, Or.inl ⟨rfl, rfl⟩⟩
  · exact ⟨b, rfl, Or.inr (Or.inl ⟨rfl, rfl⟩)⟩
  · exact ⟨d, rfl, Or.inr (Or.inr (Or.inl ⟨rfl, rfl⟩))⟩
  · exact ⟨r, rfl, Or.inr (Or.inr (Or.inr ⟨rfl, rfl⟩))⟩
theorem sStep_bad {l b d r c : Int32} {q : sQ} (h : ¬ cFig c ∧ ¬ (c = 108 ∨ c = 98 ∨ c = 100 ∨ c = 114) ∧ ¬ c = 32 ∧ ¬ c = 33 ∧ ¬ cOp c) : sStep l b d r c q = none := by
  obtain ⟨h1, h2, h3, h4, h5⟩ := h
  unfold sStep
  rw [if_neg h1, if_neg h3, if_neg h4, if_neg h5, if_neg (fun e => h2 (Or.inr (Or.inl e))), if_neg (fun e => h2 (Or.inr (Or.inr (Or.inl e)))), if_neg (fun e => h2 (Or.inl e)), if_neg (fun e => h2 (Or.inr (Or.inr (Or.inr e))))]
theorem tk_fig {c : Int32} (h : cFig c) : tkI c = 0 := if_pos (Or.inr (Or.inr (Or.inr (Or.inr (Or.inr h)))))
theorem tk_sz {c : Int32} (h : c = 108 ∨ c = 98 ∨ c = 100 ∨ c = 114) : tkI c = 0 := by
  rcases h with h | h | h | h <;> subst h <;> rfl
theorem tk_op {c : Int32} (h : cOp c) : tkI c = 2 := by
  rcases h with h | h | h | h <;> subst h <;> rfl
theorem tk_bad {c : Int32} (h : ¬ cFig c ∧ ¬ (c = 108 ∨ c = 98 ∨ c = 100 ∨ c = 114) ∧ ¬ c = 32 ∧ ¬ c = 33 ∧ ¬ cOp c) : tkI c = -1 := by
  obtain ⟨h1, h2, h3, h4, h5⟩ := h
  unfold tkI
  rw [if_neg (fun q => q.elim (fun e => h2 (Or.inl e)) (fun q => q.elim (fun e => h2 (Or.inr (Or.inl e))) (fun q => q.elim (fun e => h2 (Or.inr (Or.inr (Or.inl e)))) (fun q => q.elim (fun e => h2 (Or.inr (Or.inr (Or.inr e)))) (fun q => q.elim h3 h1))))), if_neg h4, if_neg h5]
