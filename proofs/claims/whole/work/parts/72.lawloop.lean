/-! the law's loop -/
theorem six_le {n i : Nat} (hn : n ≤ 3072) (hi : i ≤ n) (h : ¬ nI n - 6 < nI i) : i + 6 ≤ n := by
  by_cases h6 : 6 ≤ n
  · have e : nI n - 6 = nI (n - 6) := pk_sub (a := n) (b := 6) h6
    rw [e] at h
    rcases Nat.lt_or_ge (n - 6) i with q | q
    · exact absurd (nI_lt q (by omega)) h
    · omega
  · exfalso
    apply h
    have h0 : nI n - 6 < 0 := by
      rcases (show n = 0 ∨ n = 1 ∨ n = 2 ∨ n = 3 ∨ n = 4 ∨ n = 5 by omega) with rfl | rfl | rfl | rfl | rfl | rfl <;> decide
    have h1 : 0 ≤ nI i := nI_pos' (by omega)
    rw [Int32.lt_iff_toInt_lt] at h0 ⊢
    rw [Int32.le_iff_toInt_le] at h1
    omega
set_option maxHeartbeats 4000000 in
theorem law_body {κ : vK} {la : Array Slot} {b n i k : Nat} {xs : Nat → Int32} {F : vFt} {Ar : vAt} {x : vXt} (hκ : jwC κ la b n xs i k) (hn : n ≤ 3072) (hi : i + 6 ≤ n) (hk : k ≤ 3072) (hI : IX F Ar x) (kk : ∀ κ' F' Ar' x', jwC κ' la b n xs i (k + 1) → IX F' Ar' x' → Jw κ' la 1028 [] F' Ar' x') (v : Int32) : Jw κ la 33 [.int v] F Ar x := by
  by_cases e_0 : v = 0
  · refine Jw_tabIn (tgt := 144) (off := 111) dL_law_33 (by rw [e_0]; decide) (by rw [e_0]; decide) (by rw [e_0]; decide) (by decide) ?_
    exact cs_feed hκ hn hi hk hI kk
  by_cases e_1 : v = 1
  · refine Jw_tabIn (tgt := 167) (off := 134) dL_law_33 (by rw [e_1]; decide) (by rw [e_1]; decide) (by rw [e_1]; decide) (by decide) ?_
    exact cs_scrap hκ hn hi hk hI kk
  by_cases e_2 : v = 2
  · refine Jw_tabIn (tgt := 180) (off := 147) dL_law_33 (by rw [e_2]; decide) (by rw [e_2]; decide) (by rw [e_2]; decide) (by decide) ?_
    exact cs_act hκ hn hi hk hI kk
  by_cases e_3 : v = 3
  · refine Jw_tabIn (tgt := 203) (off := 170) dL_law_33 (by rw [e_3]; decide) (by rw [e_3]; decide) (by rw [e_3]; decide) (by decide) ?_
    exact cs_inForce hκ hn hi hk hI kk
  by_cases e_4 : v = 4
  · refine Jw_tabIn (tgt := 226) (off := 193) dL_law_33 (by rw [e_4]; decide) (by rw [e_4]; decide) (by rw [e_4]; decide) (by decide) ?_
    exact cs_tons hκ hn hi hk hI kk
  by_cases e_5 : v = 5
  · refine Jw_tabIn (tgt := 289) (off := 256) dL_law_33 (by rw [e_5]; decide) (by rw [e_5]; decide) (by rw [e_5]; decide) (by decide) ?_
    exact cs_shape hκ hn hi hk hI kk
  by_cases e_6 : v = 6
  · refine Jw_tabIn (tgt := 332) (off := 299) dL_law_33 (by rw [e_6]; decide) (by rw [e_6]; decide) (by rw [e_6]; decide) (by decide) ?_
    exact cs_hull hκ hn hi hk hI kk
  by_cases e_7 : v = 7
  · refine Jw_tabIn (tgt := 385) (off := 352) dL_law_33 (by rw [e_7]; decide) (by rw [e_7]; decide) (by rw [e_7]; decide) (by decide) ?_
    exact cs_alter hκ hn hi hk hI kk
  by_cases e_8 : v = 8
  · refine Jw_tabIn (tgt := 448) (off := 415) dL_law_33 (by rw [e_8]; decide) (by rw [e_8]; decide) (by rw [e_8]; decide) (by decide) ?_
    exact cs_measure hκ hn hi hk hI kk
  by_cases e_9 : v = 9
  · refine Jw_tabIn (tgt := 481) (off := 448) dL_law_33 (by rw [e_9]; decide) (by rw [e_9]; decide) (by rw [e_9]; decide) (by decide) ?_
    exact cs_of hκ hn hi hk hI kk
  by_cases e_10 : v = 10
  · refine Jw_tabIn (tgt := 514) (off := 481) dL_law_33 (by rw [e_10]; decide) (by rw [e_10]; decide) (by rw [e_10]; decide) (by decide) ?_
    exact cs_sell hκ hn hi hk hI kk
  by_cases e_11 : v = 11
  · refine Jw_tabIn (tgt := 567) (off := 534) dL_law_33 (by rw [e_11]; decide) (by rw [e_11]; decide) (by rw [e_11]; decide) (by decide) ?_
    exact cs_pledge hκ hn hi hk hI kk
  by_cases e_12 : v = 12
  · refine Jw_tabIn (tgt := 620) (off := 587) dL_law_33 (by rw [e_12]; decide) (by rw [e_12]; decide) (by rw [e_12]; decide) (by decide) ?_
    exact cs_redeem hκ hn hi hk hI kk
  by_cases e_13 : v = 13
  · refine Jw_tabIn (tgt := 643) (off := 610) dL_law_33 (by rw [e_13]; decide) (by rw [e_13]; decide) (by rw [e_13]; decide) (by decide) ?_
    exact cs_forge hκ hn hi hk hI kk
  by_cases e_14 : v = 14
  · refine Jw_tabIn (tgt := 666) (off := 633) dL_law_33 (by rw [e_14]; decide) (by rw [e_14]; decide) (by rw [e_14]; decide) (by decide) ?_
    exact cs_entry hκ hn hi hk hI kk
  by_cases e_15 : v = 15
  · refine Jw_tabIn (tgt := 699) (off := 666) dL_law_33 (by rw [e_15]; decide) (by rw [e_15]; decide) (by rw [e_15]; decide) (by decide) ?_
    exact cs_parts hκ hn hi hk hI kk
  by_cases e_16 : v = 16
  · refine Jw_tabIn (tgt := 758) (off := 725) dL_law_33 (by rw [e_16]; decide) (by rw [e_16]; decide) (by rw [e_16]; decide) (by decide) ?_
    exact cs_manager hκ hn hi hk hI kk
  by_cases e_17 : v = 17
  · refine Jw_tabIn (tgt := 781) (off := 748) dL_law_33 (by rw [e_17]; decide) (by rw [e_17]; decide) (by rw [e_17]; decide) (by decide) ?_
    exact cs_held hκ hn hi hk hI kk
  by_cases e_18 : v = 18
  · refine Jw_tabIn (tgt := 814) (off := 781) dL_law_33 (by rw [e_18]; decide) (by rw [e_18]; decide) (by rw [e_18]; decide) (by decide) ?_
    exact cs_paper hκ hn hi hk hI kk
  by_cases e_19 : v = 19
  · refine Jw_tabIn (tgt := 877) (off := 844) dL_law_33 (by rw [e_19]; decide) (by rw [e_19]; decide) (by rw [e_19]; decide) (by decide) ?_
    exact cs_witness hκ hn hi hk hI kk
  by_cases e_20 : v = 20
  · refine Jw_tabIn (tgt := 936) (off := 903) dL_law_33 (by rw [e_20]; decide) (by rw [e_20]; decide) (by rw [e_20]; decide) (by decide) ?_
    exact cs_alike hκ hn hi hk hI kk
  by_cases e_21 : v = 21
  · refine Jw_tabIn (tgt := 969) (off := 936) dL_law_33 (by rw [e_21]; decide) (by rw [e_21]; decide) (by rw [e_21]; decide) (by decide) ?_
    exact cs_group hκ hn hi hk hI kk
  by_cases e_22 : v = 22
  · refine Jw_tabIn (tgt := 992) (off := 959) dL_law_33 (by rw [e_22]; decide) (by rw [e_22]; decide) (by rw [e_22]; decide) (by decide) ?_
    exact cs_groups hκ hn hi hk hI kk
  by_cases e_23 : v = 23
  · refine Jw_tabIn (tgt := 1005) (off := 972) dL_law_33 (by rw [e_23]; decide) (by rw [e_23]; decide) (by rw [e_23]; decide) (by decide) ?_
    exact cs_many hκ hn hi hk hI kk
  refine Jw_tabOut (tgt := 1028) dL_law_33 (by have h0 := lv_neT e_0 (a := 0) (by decide); have h1 := lv_neT e_1 (a := 1) (by decide); have h2 := lv_neT e_2 (a := 2) (by decide); have h3 := lv_neT e_3 (a := 3) (by decide); have h4 := lv_neT e_4 (a := 4) (by decide); have h5 := lv_neT e_5 (a := 5) (by decide); have h6 := lv_neT e_6 (a := 6) (by decide); have h7 := lv_neT e_7 (a := 7) (by decide); have h8 := lv_neT e_8 (a := 8) (by decide); have h9 := lv_neT e_9 (a := 9) (by decide); have h10 := lv_neT e_10 (a := 10) (by decide); have h11 := lv_neT e_11 (a := 11) (by decide); have h12 := lv_neT e_12 (a := 12) (by decide); have h13 := lv_neT e_13 (a := 13) (by decide); have h14 := lv_neT e_14 (a := 14) (by decide); have h15 := lv_neT e_15 (a := 15) (by decide); have h16 := lv_neT e_16 (a := 16) (by decide); have h17 := lv_neT e_17 (a := 17) (by decide); have h18 := lv_neT e_18 (a := 18) (by decide); have h19 := lv_neT e_19 (a := 19) (by decide); have h20 := lv_neT e_20 (a := 20) (by decide); have h21 := lv_neT e_21 (a := 21) (by decide); have h22 := lv_neT e_22 (a := 22) (by decide); have h23 := lv_neT e_23 (a := 23) (by decide); omega) (by decide) ?_
  exact kk κ F Ar x (hκ.mono (by omega)) hI
set_option maxHeartbeats 4000000 in
theorem law_step {κ : vK} {la : Array Slot} {b n i k : Nat} {xs : Nat → Int32} {F : vFt} {Ar : vAt} {x : vXt} (hκ : jwC κ la b n xs i k) (hk : k ≤ i + 6) (kk : ∀ la', jwC κ la' b n xs (i + 6) (i + 6) → Jw κ la' 18 [] F Ar x) : Jw κ la 1028 [] F Ar x := by
  have hm := hκ.mono hk
  obtain ⟨p, l, e, R, s, m, args, below, meth, c, D, cA, ad, A, H0, cells, slots, QW⟩ := κ
  obtain ⟨hl, hX, hbl, h4, h5, h6, h7, h8, h9, h10⟩ := hm
  intro H locs C hP hD hS
  refine lv_iinc (v := nI (i + 6)) (lv' := [(3, .int (nI (i + 6))), (0, .ref b), (1, .ref (ad 0)), (2, .ref (ad 6))]) C.1 C.2.1 dL_law_1028 hl (k := 3) rfl (by rw [show Int32.ofInt 6 = nI 6 from rfl, nI_add]) (by decide) rfl (fun la' h' => ?_)
  refine lv_goto (tgt := 18) C.1 C.2.1 dL_law_1031 (by decide) ?_
  exact kk la' ⟨lv_sub h' [1, 2, 3, 0] rfl, hX, hbl, h4, h5, h6, h7, h8, h9, h10⟩ H locs C hP hD hS
set_option maxHeartbeats 4000000 in
theorem law_head {κ : vK} {la : Array Slot} {b n i : Nat} {xs : Nat → Int32} {F : vFt} {Ar : vAt} {x : vXt} (hκ : jwC κ la b n xs i i) (hn : n ≤ 3072) (hi : i ≤ n) (kk : i + 6 ≤ n → ∀ v, Jw κ la 33 [.int v] F Ar x) : Jw κ la 18 [] F Ar x := by
  obtain ⟨p, l, e, R, s, m, args, below, meth, c, D, cA, ad, A, H0, cells, slots, QW⟩ := κ
  have hκ2 := hκ
  obtain ⟨hl, hX, hbl, rfl, rfl, rfl, rfl, rfl, hc, hs⟩ := hκ
  intro H locs C hP hD hS
  refine lv_iload_n C.1 C.2.1 dL_law_18 rfl (hl.2.2 (3, .int (nI i)) (by simp)) ?_
  refine lv_aload_n C.1 C.2.1 dL_law_19 rfl (hl.2.2 (0, .ref b) (by simp)) ?_
  refine va_slen C.1 C.2.1 hX hbl (Nat.not_le.mpr hbl) hS dL_law_20 ?_
  refine lv_bipush (v := 6) C.1 C.2.1 dL_law_21 (by decide) ?_
  refine lv_isub C.1 C.2.1 dL_law_23 ?_
  refine lv_icmp_gt (tgt := 1034) C.1 C.2.1 dL_law_24 (by decide) (fun h => ?_) (fun h => ?_)
  · refine lv_iconst (v := 1) C.1 C.2.1 dL_law_1034 (by decide) ?_
    refine va_forget (fun q hq => hS.2.2 q hq) ?_
    refine W.widen (k := 600000) (n := 7302250) (by omega) (by omega) ?_
    exact lw_ret C.1 C.2.1 C.2.2.2.2.2.2.2.1 C.2.2.2.2.2.2.2.2.1 dL_law_1035
  · have h6 : i + 6 ≤ n := six_le hn hi h
    refine lv_aload_n C.1 C.2.1 dL_law_27 rfl (hl.2.2 (0, .ref b) (by simp)) ?_
    refine lv_iload_n C.1 C.2.1 dL_law_28 rfl (hl.2.2 (3, .int (nI i)) (by simp)) ?_
    refine va_sld C.1 C.2.1 hX hbl (Nat.not_le.mpr hbl) hS (vp_in_nI (show i < n by omega) (by omega)) dL_law_29 ?_
    refine lv_bipush (v := 31) C.1 C.2.1 dL_law_30 (by decide) ?_
    refine lv_iand C.1 C.2.1 dL_law_32 ?_
    exact kk h6 _ H locs C hP hD hS
theorem law_loop {b n : Nat} {xs : Nat → Int32} (hn : n ≤ 3072) : ∀ (f i : Nat) (κ : vK) (la : Array Slot) (F : vFt) (Ar : vAt) (x : vXt), n < i + f → i ≤ n → jwC κ la b n xs i i → IX F Ar x → Jw κ la 18 [] F Ar x := by
  intro f
  induction f with
  | zero =>
    intro i κ la F Ar x h1 h2
    omega
  | succ f ih =>
    intro i κ la F Ar x h1 h2 hκ hI
    refine law_head hκ hn h2 (fun h6 v => ?_)
    refine law_body hκ hn h6 (by omega) hI (fun κ' F' Ar' x' hκ' hI' => ?_) v
    exact law_step hκ' (by omega) (fun la' h' => ih (i + 6) κ' la' F' Ar' x' (by omega) h6 h' hI')
