/-! the calls that write entries: both sides -/
theorem mOk_add {Ar : vAt} {n h a b : Nat} {k m r : Int32} (hok : mOk Ar n) (hh : h < 5) (ha : a < 8) (hb : b < 8) (hk : k = 0 ∨ k = 1 ∨ (k = 2 ∧ ∃ q, q < n ∧ r = nI q ∧ Ar 49 q = nI h ∧ Ar 50 q = nI a ∧ Ar 51 q = nI b ∧ Ar 52 q = m)) : mOk (mAdd Ar n k (nI h) (nI a) (nI b) m r) (n + 1) := by
  intro e he
  show (∃ h' a' b', h' < 5 ∧ a' < 8 ∧ b' < 8 ∧ upd (Ar 49) n (nI h) e = nI h' ∧ upd (Ar 50) n (nI a) e = nI a' ∧ upd (Ar 51) n (nI b) e = nI b') ∧ (upd (Ar 48) n k e = 0 ∨ upd (Ar 48) n k e = 1 ∨ (upd (Ar 48) n k e = 2 ∧ ∃ q, q < e ∧ upd (Ar 53) n r e = nI q ∧ upd (Ar 49) n (nI h) q = upd (Ar 49) n (nI h) e ∧ upd (Ar 50) n (nI a) q = upd (Ar 50) n (nI a) e ∧ upd (Ar 51) n (nI b) q = upd (Ar 51) n (nI b) e ∧ upd (Ar 52) n m q = upd (Ar 52) n m e))
  by_cases ee : e = n
  · subst ee
    rw [upd_at, upd_at, upd_at, upd_at, upd_at, upd_at]
    refine ⟨⟨h, a, b, hh, ha, hb, rfl, rfl, rfl⟩, ?_⟩
    rcases hk with hk | hk | ⟨hk, q, h1, h2, h3, h4, h5, h6⟩
    · exact Or.inl hk
    · exact Or.inr (Or.inl hk)
    · refine Or.inr (Or.inr ⟨hk, q, h1, h2, ?_, ?_, ?_, ?_⟩)
      · rw [upd_ne (by omega)]; exact h3
      · rw [upd_ne (by omega)]; exact h4
      · rw [upd_ne (by omega)]; exact h5
      · rw [upd_ne (by omega)]; exact h6
  · rw [upd_ne ee, upd_ne ee, upd_ne ee, upd_ne ee, upd_ne ee, upd_ne ee]
    obtain ⟨h1, h2⟩ := hok e (by omega)
    refine ⟨h1, ?_⟩
    rcases h2 with h2 | h2 | ⟨h2, q, h3, h4, h5, h6, h7, h8⟩
    · exact Or.inl h2
    · exact Or.inr (Or.inl h2)
    · refine Or.inr (Or.inr ⟨h2, q, h3, h4, ?_, ?_, ?_, ?_⟩)
      · rw [upd_ne (by omega)]; exact h5
      · rw [upd_ne (by omega)]; exact h6
      · rw [upd_ne (by omega)]; exact h7
      · rw [upd_ne (by omega)]; exact h8
theorem gRow_ne {T : Nat → Int32} {e n c : Nat} {k h a b m r : Int32} (hc : c < 9) (he : e ≠ n) : gCol (gRow T n k h a b m r) c e = gCol T c e := by
  unfold gCol gRow
  rw [upd_ne (by omega), upd_ne (by omega), upd_ne (by omega), upd_ne (by omega), upd_ne (by omega), upd_ne (by omega)]
theorem gRow_5 {T : Nat → Int32} {e n : Nat} {k h a b m r : Int32} : gCol (gRow T n k h a b m r) 5 e = gCol T 5 e := by
  unfold gCol gRow
  rw [upd_ne (by omega), upd_ne (by omega), upd_ne (by omega), upd_ne (by omega), upd_ne (by omega), upd_ne (by omega)]
theorem ceq_add {Ar : vAt} {n h a b : Nat} {k m r : Int32} (hc : ∀ e, e < n → ceq Ar e) (hz : gCol (Ar 23) 5 n = 0) : ∀ e, e < n + 1 → ceqX (gAdd Ar n k h a b m r) (mAdd Ar n k (nI h) (nI a) (nI b) m r) e := by
  intro e he
  show gCol (gRow (Ar 23) n k (nI h) (nI a) (nI b) m r) 0 e = upd (Ar 48) n k e ∧ gCol (gRow (Ar 23) n k (nI h) (nI a) (nI b) m r) 1 e = upd (Ar 49) n (nI h) e ∧ gCol (gRow (Ar 23) n k (nI h) (nI a) (nI b) m r) 2 e = upd (Ar 50) n (nI a) e ∧ gCol (gRow (Ar 23) n k (nI h) (nI a) (nI b) m r) 3 e = upd (Ar 51) n (nI b) e ∧ gCol (gRow (Ar 23) n k (nI h) (nI a) (nI b) m r) 4 e = upd (Ar 52) n m e ∧ gCol (gRow (Ar 23) n k (nI h) (nI a) (nI b) m r) 8 e = upd (Ar 53) n r e ∧ gCol (gRow (Ar 23) n k (nI h) (nI a) (nI b) m r) 5 e = (if upd (Ar 54) n 0 e = 0 then 0 else 1) ∧ upd (Ar 25) n (nI (h * 8 + a)) e = 8 * upd (Ar 49) n (nI h) e + upd (Ar 50) n (nI a) e ∧ upd (Ar 26) n (nI (h * 8 + b)) e = 8 * upd (Ar 49) n (nI h) e + upd (Ar 51) n (nI b) e
  by_cases ee : e = n
  · subst ee
    rw [upd_at, upd_at, upd_at, upd_at, upd_at, upd_at, upd_at, upd_at, upd_at, gRow_5, hz]
    refine ⟨?_, ?_, ?_, ?_, ?_, ?_, rfl, ?_, ?_⟩
    · unfold gCol gRow
      rw [upd_ne (by omega), upd_ne (by omega), upd_ne (by omega), upd_ne (by omega), upd_ne (by omega), upd_at]
    · unfold gCol gRow
      rw [upd_ne (by omega), upd_ne (by omega), upd_ne (by omega), upd_ne (by omega), upd_at]
    · unfold gCol gRow
      rw [upd_ne (by omega), upd_ne (by omega), upd_ne (by omega), upd_at]
    · unfold gCol gRow
      rw [upd_ne (by omega), upd_ne (by omega), upd_at]
    · unfold gCol gRow
      rw [upd_ne (by omega), upd_at]
    · unfold gCol gRow
      rw [upd_at]
    · rw [Nat.mul_comm]
      exact (v_ma 8 h a).symm
    · rw [Nat.mul_comm]
      exact (v_ma 8 h b).symm
  · rw [upd_ne ee, upd_ne ee, upd_ne ee, upd_ne ee, upd_ne ee, upd_ne ee, upd_ne ee, upd_ne ee, upd_ne ee, gRow_ne (by omega) ee, gRow_ne (by omega) ee, gRow_ne (by omega) ee, gRow_ne (by omega) ee, gRow_ne (by omega) ee, gRow_ne (by omega) ee, gRow_ne (by omega) ee]
    exact hc e (by omega)
theorem gOk_of {X A : vAt} {n : Nat} (hc : ∀ e, e < n → ceqX X A e) (hok : mOk A n) : gOk X n := by
  intro e he
  obtain ⟨c0, c1, c2, c3, c4, c8, c5, c6, c7⟩ := hc e he
  obtain ⟨⟨h, a, b, hh, ha, hb, e1, e2, e3⟩, hk⟩ := hok e he
  refine ⟨⟨8 * h + a, by omega, ?_⟩, ⟨8 * h + b, by omega, ?_⟩, ?_⟩
  · rw [c6, e1, e2]
    exact v_ma 8 h a
  · rw [c7, e1, e3]
    exact v_ma 8 h b
  · rw [c0, c8]
    rcases hk with hk | hk | ⟨hk, q, hq, h4, -⟩
    · exact Or.inl hk
    · exact Or.inr (Or.inl hk)
    · exact Or.inr (Or.inr ⟨q, by omega, h4⟩)
theorem gAll_k {l : List Nat} {X : vAt} {n : Nat} (h3 : ¬ 23 ∈ l) (h4 : ¬ 24 ∈ l) (h7 : ¬ 27 ∈ l) (h8 : ¬ 28 ∈ l) (h9 : ¬ 29 ∈ l) (h0 : ¬ 30 ∈ l) : kA l X (gAll X n) := kA_vS (kA_vS (kA_vS (kA_vS (kA_vS (kA_vS (kA_vS kA_rf h7) h8) h9) h4) h3) h3) h0
theorem gAll_B {X : vAt} {n : Nat} : kB X (gAll X n) := kB_vS (kB_vS (kB_vS (kB_vS (kB_vS (kB_vS (kB_vS kB_rf (by omega)) (by omega)) (by omega)) (by omega)) (by omega)) (by omega)) (by omega)
theorem gAdd_k {l : List Nat} {Ar : vAt} {n h a b : Nat} {k m r : Int32} (h3 : ¬ 23 ∈ l) (h5 : ¬ 25 ∈ l) (h6 : ¬ 26 ∈ l) : kA l Ar (gAdd Ar n k h a b m r) := kA_vS (kA_vS (kA_vS kA_rf h5) h6) h3
theorem gAdd_B {Ar : vAt} {n h a b : Nat} {k m r : Int32} : kB Ar (gAdd Ar n k h a b m r) := kB_vS (kB_vS (kB_vS kB_rf (by omega)) (by omega)) (by omega)
theorem mAdd_k {l : List Nat} {Ar : vAt} {n : Nat} {k h a b m r : Int32} (h1 : ¬ 48 ∈ l) (h2 : ¬ 49 ∈ l) (h3 : ¬ 50 ∈ l) (h4 : ¬ 51 ∈ l) (h5 : ¬ 52 ∈ l) (h6 : ¬ 53 ∈ l) (h7 : ¬ 54 ∈ l) : kA l Ar (mAdd Ar n k h a b m r) := kA_vS (kA_vS (kA_vS (kA_vS (kA_vS (kA_vS (kA_vS kA_rf h1) h2) h3) h4) h5) h6) h7
theorem mAdd_B {Ar : vAt} {n : Nat} {k h a b m r : Int32} : kB Ar (mAdd Ar n k h a b m r) := kB_vS (kB_vS (kB_vS (kB_vS (kB_vS (kB_vS (kB_vS kB_rf (by omega)) (by omega)) (by omega)) (by omega)) (by omega)) (by omega)) (by omega)
theorem IX_add {F : vFt} {Ar : vAt} {x : vXt} {n h a b : Nat} {k m r : Int32} (hI : IX F Ar x) (hn : n < 60) (hc : ∀ e, e < n → ceq Ar e) (hz : ∀ e, n ≤ e → e < 60 → gCol (Ar 23) 5 e = 0) (hok : mOk (mAdd Ar n k (nI h) (nI a) (nI b) m r) (n + 1)) : IX (upd (upd F 258 (nI (n + 1))) 395 (nI (n + 1))) (mAdd (gAll (gAdd Ar n k h a b m r) (n + 1)) n k (nI h) (nI a) (nI b) m r) x := by
  refine IX_L hI (IL_mk (X := gAdd Ar n k h a b m r) (n := n + 1) rfl rfl (by omega) hok rfl rfl rfl rfl rfl rfl rfl (ceq_add hc (hz n (Nat.le_refl n) hn)) (fun e h1 h2 => ?_)) (kF_upd (kF_upd kF_rf (by decide)) (by decide)) (kA_tr (kA_tr (gAdd_k (by decide) (by decide) (by decide)) (gAll_k (by decide) (by decide) (by decide) (by decide) (by decide) (by decide))) (mAdd_k (by decide) (by decide) (by decide) (by decide) (by decide) (by decide) (by decide))) (kB_tr (kB_tr gAdd_B gAll_B) mAdd_B)
  show gCol (gRow (Ar 23) n k (nI h) (nI a) (nI b) m r) 5 e = 0
  rw [gRow_5]
  exact hz e (by omega) h2
theorem dl_nats {F : vFt} {m : Nat} {h a b k : Int32} (hF : F 193 = nI m) (hm : m ≤ 5) (hd : dlOk (F 193) h a b k) : ∃ h' a' b', h' < 5 ∧ a' < 8 ∧ b' < 8 ∧ h = nI h' ∧ a = nI a' ∧ b = nI b' := by
  obtain ⟨d1, d2, d3, -, -⟩ := hd
  rw [hF] at d1
  obtain ⟨h', q1, rfl⟩ := (v_has (by omega)).mp d1
  obtain ⟨a', q2, rfl⟩ := (v_to (M := 7) (n := 7) rfl (by omega)).mp d2
  obtain ⟨b', q3, rfl⟩ := (v_to (M := 7) (n := 7) rfl (by omega)).mp d3
  exact ⟨h', a', b', by omega, by omega, by omega, rfl, rfl, rfl⟩
theorem st_sell {F : vFt} {Ar : vAt} {x : vXt} {h a b k : Int32} (hI : IX F Ar x) : St0 mX5_sell mX6_sell 7 3 [.int h, .int a, .int b, .int k] F Ar x := by
  obtain ⟨n, e1, e2, e3, e4, e5, e6, e7⟩ := hI.2.2.1
  obtain ⟨m, f1, f2, f3, f4⟩ := hI.2.1
  have hcnt : F 390 = F 193 := f2.trans f1.symm
  by_cases hd : dlOk (F 193) h a b k
  · obtain ⟨h', a', b', q1, q2, q3, rfl, rfl, rfl⟩ := dl_nats f1 f3 hd
    have hok := mOk_add (r := -4) (m := k) (k := 0) e4 q1 q2 q3 (Or.inl rfl)
    have h5 := tX5_sell1 (Ar := Ar) (x := x) hd e1 e3 (fun hn => gOk_of (ceq_add e5 (e6 n (Nat.le_refl n) hn)) hok)
    by_cases hn : n < 60
    · rw [if_pos hn, if_pos hn, if_pos hn] at h5
      exact St_two h5 (tX6_sell2 (n := n) (show dlOk (F 390) _ _ _ _ by rw [hcnt]; exact hd) e2 hn) (IX_add hI hn e5 e6 hok)
    · rw [if_neg hn, if_neg hn, if_neg hn] at h5
      exact St_two h5 (tX6_sell1 (by rw [hcnt]; exact hd) (by rw [e2]; congr 1; omega)) hI
  · exact St_two (tX5_sell0 hd) (tX6_sell0 (by rw [hcnt]; exact hd)) hI
theorem st_pledge {F : vFt} {Ar : vAt} {x : vXt} {h a b k : Int32} (hI : IX F Ar x) : St0 mX5_pledge mX6_pledge 7 3 [.int h, .int a, .int b, .int k] F Ar x := by
  obtain ⟨n, e1, e2, e3, e4, e5, e6, e7⟩ := hI.2.2.1
  obtain ⟨m, f1, f2, f3, f4⟩ := hI.2.1
  have hcnt : F 390 = F 193 := f2.trans f1.symm
  by_cases hd : dlOk (F 193) h a b k
  · obtain ⟨h', a', b', q1, q2, q3, rfl, rfl, rfl⟩ := dl_nats f1 f3 hd
    have hok := mOk_add (r := -4) (m := k) (k := 1) e4 q1 q2 q3 (Or.inr (Or.inl rfl))
    have h5 := tX5_pledge1 (Ar := Ar) (x := x) hd e1 e3 (fun hn => gOk_of (ceq_add e5 (e6 n (Nat.le_refl n) hn)) hok)
    by_cases hn : n < 60
    · rw [if_pos hn, if_pos hn, if_pos hn] at h5
      exact St_two h5 (tX6_pledge2 (n := n) (show dlOk (F 390) _ _ _ _ by rw [hcnt]; exact hd) e2 hn) (IX_add hI hn e5 e6 hok)
    · rw [if_neg hn, if_neg hn, if_neg hn] at h5
      exact St_two h5 (tX6_pledge1 (by rw [hcnt]; exact hd) (by rw [e2]; congr 1; omega)) hI
  · exact St_two (tX5_pledge0 hd) (tX6_pledge0 (by rw [hcnt]; exact hd)) hI
theorem st_redeem {F : vFt} {Ar : vAt} {x : vXt} {i : Int32} (hI : IX F Ar x) : St0 mX5_redeem mX6_redeem 7 2 [.int i] F Ar x := by
  obtain ⟨n, e1, e2, e3, e4, e5, e6, e7⟩ := hI.2.2.1
  by_cases hi : 0 ≤ i ∧ i ≤ F 258 - 1
  · rw [e1] at hi
    obtain ⟨e, he, rfl⟩ := (v_has (by omega)).mp hi
    obtain ⟨c0, c1, c2, c3, c4, c8, c5, -, -⟩ := e5 e he
    obtain ⟨⟨h, a, b, hh, ha, hb, g1, g2, g3⟩, -⟩ := e4 e he
    have hok := mOk_add (r := nI e) (m := Ar 52 e) (k := 2) e4 hh ha hb (Or.inr (Or.inr ⟨rfl, e, he, rfl, g1, g2, g3, rfl⟩))
    have h5 := tX5_redeem1 (Ar := Ar) (x := x) e1 e3 he (c1.trans g1) (c2.trans g2) (c3.trans g3) (fun hn => by rw [c4]; exact gOk_of (ceq_add e5 (e6 n (Nat.le_refl n) hn)) hok)
    rw [c4, c0] at h5
    by_cases hk : Ar 48 e = 1
    · by_cases hn : n < 60
      · rw [if_pos hk, if_pos hn, if_pos ⟨hk, hn⟩, if_pos ⟨hk, hn⟩] at h5
        have h6 := tX6_redeem3 (F := upd F 258 (nI (n + 1))) (Ar := gAll (gAdd Ar n 2 h a b (Ar 52 e) (nI e)) (n + 1)) (x := x) (n := n) e2 hn he hk
        have h6' : C0 mX6_redeem 2 [.ref 6, .int (nI e)] (upd F 258 (nI (n + 1))) (gAll (gAdd Ar n 2 h a b (Ar 52 e) (nI e)) (n + 1)) x (vEq (some (.int (nI n))) (upd (upd F 258 (nI (n + 1))) 395 (nI (n + 1))) (mAdd (gAll (gAdd Ar n 2 h a b (Ar 52 e) (nI e)) (n + 1)) n 2 (Ar 49 e) (Ar 50 e) (Ar 51 e) (Ar 52 e) (nI e))) := h6
        rw [g1, g2, g3] at h6'
        exact St_two h5 h6' (IX_add hI hn e5 e6 hok)
      · rw [if_pos hk, if_neg hn, if_neg (fun z => hn z.2), if_neg (fun z => hn z.2)] at h5
        exact St_two h5 (tX6_redeem2 (by rw [e2]; congr 1; omega) (by omega) hk) hI
    · rw [if_neg hk, if_neg (fun z => hk z.1), if_neg (fun z => hk z.1)] at h5
      exact St_two h5 (tX6_redeem1 e2 e3 he hk) hI
  · exact St_two (tX5_redeem0 hi) (tX6_redeem0 (by rw [e2, ← e1]; exact hi)) hI
theorem st_forge {F : vFt} {Ar : vAt} {x : vXt} {i : Int32} (hI : IX F Ar x) : St0 mX5_forge mX6_forge 7 2 [.int i] F Ar x := by
  obtain ⟨n, e1, e2, e3, e4, e5, e6, e7⟩ := hI.2.2.1
  by_cases hi : 0 ≤ i ∧ i ≤ F 258 - 1
  · rw [e1] at hi
    obtain ⟨e, he, rfl⟩ := (v_has (by omega)).mp hi
    have hc : ∀ j, j < n → ceqX (vS Ar 23 (upd (Ar 23) (e * 9 + 5) 1)) (vS Ar 54 (upd (Ar 54) e 1)) j := by
      intro j hj
      obtain ⟨c0, c1, c2, c3, c4, c8, c5, c6, c7⟩ := e5 j hj
      refine ⟨?_, ?_, ?_, ?_, ?_, ?_, ?_, c6, c7⟩
      · exact (upd_ne (by omega)).trans c0
      · exact (upd_ne (by omega)).trans c1
      · exact (upd_ne (by omega)).trans c2
      · exact (upd_ne (by omega)).trans c3
      · exact (upd_ne (by omega)).trans c4
      · exact (upd_ne (by omega)).trans c8
      · show upd (Ar 23) (e * 9 + 5) 1 (j * 9 + 5) = if upd (Ar 54) e 1 j = 0 then 0 else 1
        by_cases ej : j = e
        · subst ej
          rw [upd_at, upd_at]
          rfl
        · rw [upd_ne (by omega), upd_ne ej]
          exact c5
    have hok : mOk (vS Ar 54 (upd (Ar 54) e 1)) n := e4
    have h5 := tX5_forge1 (Ar := Ar) (x := x) e1 e3 he (gOk_of hc hok)
    obtain ⟨c0, c1, c2, c3, c4, c8, c5, -, -⟩ := e5 e he
    by_cases hf : Ar 54 e = 0
    · rw [if_pos hf] at c5
      rw [if_neg (by rw [c5]; decide), if_neg (by rw [c5]; decide)] at h5
      refine St_two h5 (tX6_forge2 (n := n) e2 e3 he hf) ?_
      refine IX_L hI (IL_mk (X := vS Ar 23 (upd (Ar 23) (e * 9 + 5) 1)) (n := n) e1 e2 e3 hok rfl rfl rfl rfl rfl rfl rfl hc (fun j h1 h2 => ?_)) kF_rf (kA_vS (kA_tr (kA_vS kA_rf (by decide)) (gAll_k (by decide) (by decide) (by decide) (by decide) (by decide) (by decide))) (by decide)) (kB_vS (kB_tr (kB_vS kB_rf (by omega)) gAll_B) (by omega))
      show upd (Ar 23) (e * 9 + 5) 1 (j * 9 + 5) = 0
      rw [upd_ne (by omega)]
      exact e6 j h1 h2
    · rw [if_neg hf] at c5
      rw [if_pos c5, if_pos c5] at h5
      exact St_two h5 (tX6_forge1 e2 e3 he hf) hI
  · exact St_two (tX5_forge0 hi) (tX6_forge0 (by rw [e2, ← e1]; exact hi)) hI
