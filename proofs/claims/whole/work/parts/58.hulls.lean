/-! the four calls on hulls: both sides -/
theorem hullOk_congr {Ar Ar' : vAt} {h : Nat} (k : hullOk Ar h) (h1 : ∀ w, w < 7 → Ar' 22 (h * 7 + w) = Ar 22 (h * 7 + w)) (h2 : ∀ w, w < 4 → Ar' 44 (4 * h + w) = Ar 44 (4 * h + w)) (h3 : Ar' 45 h = Ar 45 h) (h4 : Ar' 46 h = Ar 46 h) (h5 : Ar' 47 h = Ar 47 h) : hullOk Ar' h := by
  obtain ⟨a1, a2, a3⟩ := k
  refine ⟨fun w hw => ?_, ?_, ?_⟩
  · rw [h1 w (by omega), h2 w hw]
    exact a1 w hw
  · have q0 := h2 0 (by omega)
    rw [Nat.add_zero] at q0
    rw [q0, h2 1 (by omega), h2 2 (by omega), h2 3 (by omega)]
    exact a2
  · rw [h3, h4, h5, h1 4 (by omega), h1 5 (by omega), h1 6 (by omega)]
    rcases a3 with ⟨b1, b2⟩ | b
    · exact Or.inl ⟨b1, fun w hw hw2 => by rw [h1 w hw2]; exact b2 w hw hw2⟩
    · exact Or.inr b
theorem hSz_ne {f : Nat → Int32} {h j : Nat} {l b d r : Int32} (hj : j < h * 7 ∨ h * 7 + 3 < j) : hSz f h l b d r j = f j := by
  unfold hSz
  rw [upd_ne (by omega), upd_ne (by omega), upd_ne (by omega), upd_ne (by omega)]
theorem hMs_ne {f : Nat → Int32} {h j : Nat} {l b d : Int32} (hj : j < h * 7 + 4 ∨ h * 7 + 6 < j) : hMs f h l b d j = f j := by
  unfold hMs
  rw [upd_ne (by omega), upd_ne (by omega), upd_ne (by omega)]
theorem mSz_ne {f : Nat → Int32} {h j : Nat} {l b d r : Int32} (hj : j < 4 * h ∨ 4 * h + 3 < j) : mSz f h l b d r j = f j := by
  unfold mSz
  rw [upd_ne (by omega), upd_ne (by omega), upd_ne (by omega), upd_ne (by omega)]
theorem hSz_0 {f : Nat → Int32} {h : Nat} {l b d r : Int32} : hSz f h l b d r (h * 7 + 0) = l := by
  unfold hSz
  rw [upd_ne (by omega), upd_ne (by omega), upd_ne (by omega), upd_at]
theorem hSz_1 {f : Nat → Int32} {h : Nat} {l b d r : Int32} : hSz f h l b d r (h * 7 + 1) = b := by
  unfold hSz
  rw [upd_ne (by omega), upd_ne (by omega), upd_at]
theorem hSz_2 {f : Nat → Int32} {h : Nat} {l b d r : Int32} : hSz f h l b d r (h * 7 + 2) = d := by
  unfold hSz
  rw [upd_ne (by omega), upd_at]
theorem hSz_3 {f : Nat → Int32} {h : Nat} {l b d r : Int32} : hSz f h l b d r (h * 7 + 3) = r := by
  unfold hSz
  rw [upd_at]
theorem mSz_0 {f : Nat → Int32} {h : Nat} {l b d r : Int32} : mSz f h l b d r (4 * h) = l := by
  unfold mSz
  rw [upd_ne (by omega), upd_ne (by omega), upd_ne (by omega), upd_at]
theorem mSz_1 {f : Nat → Int32} {h : Nat} {l b d r : Int32} : mSz f h l b d r (4 * h + 1) = b := by
  unfold mSz
  rw [upd_ne (by omega), upd_ne (by omega), upd_at]
theorem mSz_2 {f : Nat → Int32} {h : Nat} {l b d r : Int32} : mSz f h l b d r (4 * h + 2) = d := by
  unfold mSz
  rw [upd_ne (by omega), upd_at]
theorem mSz_3 {f : Nat → Int32} {h : Nat} {l b d r : Int32} : mSz f h l b d r (4 * h + 3) = r := by
  unfold mSz
  rw [upd_at]
theorem sz_all {f g : Nat → Int32} {h : Nat} {l b d r : Int32} : ∀ w, w < 4 → hSz f h l b d r (h * 7 + w) = mSz g h l b d r (4 * h + w) := by
  intro w hw
  match w, hw with
  | 0, _ => rw [hSz_0]; exact mSz_0.symm
  | 1, _ => rw [hSz_1, mSz_1]
  | 2, _ => rw [hSz_2, mSz_2]
  | 3, _ => rw [hSz_3, mSz_3]
theorem st_hull {F : vFt} {Ar : vAt} {x : vXt} {l b d r : Int32} (h : IX F Ar x) : St0 mX5_hull mX6_hull 3 2 [.int l, .int b, .int d, .int r] F Ar x := by
  obtain ⟨m, e1, e2, e3, e4⟩ := h.2.1
  have h5 := tX5_hull (Ar := Ar) (x := x) (l := l) (b := b) (d := d) (r := r) e1 e3
  by_cases hs : vSz l b d r ∧ m < 5
  · rw [if_pos hs, if_pos hs, if_pos hs.1, if_pos hs.2] at h5
    have h6 := tX6_hull (F := upd F 193 (nI (m + 1))) (Ar := vS Ar 22 (hMs (hSz (Ar 22) m l b d r) m (-10000000) (-10000000) (-10000000))) (x := x) (l := l) (b := b) (d := d) (r := r) (show _ = nI m from e2) e3
    rw [if_pos hs, if_pos hs, if_pos hs.1, if_pos hs.2] at h6
    refine St_two h5 h6 (IX_H h ?_ (kF_upd (kF_upd kF_rf (by decide)) (by decide)) (kA_vS (kA_vS (kA_vS kA_rf (by decide)) (by decide)) (by decide)) (kB_vS (kB_vS (kB_vS kB_rf (by omega)) (by omega)) (by omega)))
    refine ⟨m + 1, rfl, rfl, by omega, fun k hk => ?_⟩
    by_cases e : k = m
    · subst e
      refine ⟨fun w hw => ?_, ?_, Or.inl ⟨upd_at, fun w hw hw2 => ?_⟩⟩
      · show hMs (hSz (Ar 22) k l b d r) k (-10000000) (-10000000) (-10000000) (k * 7 + w) = mSz (Ar 44) k l b d r (4 * k + w)
        rw [hMs_ne (by omega)]
        exact sz_all w hw
      · show vSz (mSz (Ar 44) k l b d r (4 * k)) (mSz (Ar 44) k l b d r (4 * k + 1)) (mSz (Ar 44) k l b d r (4 * k + 2)) (mSz (Ar 44) k l b d r (4 * k + 3))
        rw [mSz_0, mSz_1, mSz_2, mSz_3]
        exact hs.1
      · show hMs (hSz (Ar 22) k l b d r) k (-10000000) (-10000000) (-10000000) (k * 7 + w) = -10000000
        unfold hMs upd
        split
        · rfl
        · split
          · rfl
          · rw [if_pos (by omega)]
    · refine hullOk_congr (e4 k (by omega)) (fun w hw => ?_) (fun w hw => ?_) rfl ?_ rfl
      · show hMs (hSz (Ar 22) m l b d r) m (-10000000) (-10000000) (-10000000) (k * 7 + w) = Ar 22 (k * 7 + w)
        rw [hMs_ne (by omega), hSz_ne (by omega)]
      · show mSz (Ar 44) m l b d r (4 * k + w) = Ar 44 (4 * k + w)
        rw [mSz_ne (by omega)]
      · exact upd_ne e
  · rw [if_neg hs, if_neg hs] at h5
    have h6 := tX6_hull (F := F) (Ar := Ar) (x := x) (l := l) (b := b) (d := d) (r := r) e2 e3
    rw [if_neg hs, if_neg hs] at h6
    exact St_two h5 h6 h
theorem st_alter {F : vFt} {Ar : vAt} {x : vXt} {i l b d r : Int32} (h : IX F Ar x) : St0 mX5_alter mX6_alter 3 2 [.int i, .int l, .int b, .int d, .int r] F Ar x := by
  obtain ⟨m, e1, e2, e3, e4⟩ := h.2.1
  by_cases hb : (0 ≤ i ∧ i ≤ F 193 - 1) ∧ vSz l b d r
  · obtain ⟨hi, hs⟩ := hb
    rw [e1] at hi
    obtain ⟨a, ha, rfl⟩ := (v_has (by omega)).mp hi
    refine St_two (tX5_alter1 e1 e3 ha hs) (tX6_alter1 (n := m) e2 e3 ha hs) (IX_H h ?_ kF_rf (kA_vS (kA_vS kA_rf (by decide)) (by decide)) (kB_vS (kB_vS kB_rf (by omega)) (by omega)))
    refine ⟨m, e1, e2, e3, fun k hk => ?_⟩
    by_cases e : k = a
    · subst e
      obtain ⟨a1, a2, a3⟩ := e4 k hk
      refine ⟨fun w hw => sz_all w hw, ?_, ?_⟩
      · show vSz (mSz (Ar 44) k l b d r (4 * k)) (mSz (Ar 44) k l b d r (4 * k + 1)) (mSz (Ar 44) k l b d r (4 * k + 2)) (mSz (Ar 44) k l b d r (4 * k + 3))
        rw [mSz_0, mSz_1, mSz_2, mSz_3]
        exact hs
      · show (Ar 46 k = -1 ∧ ∀ w, 4 ≤ w → w < 7 → hSz (Ar 22) k l b d r (k * 7 + w) = -10000000) ∨ (0 ≤ Ar 46 k ∧ hSz (Ar 22) k l b d r (k * 7 + 4) = Ar 45 k ∧ hSz (Ar 22) k l b d r (k * 7 + 5) = Ar 46 k ∧ hSz (Ar 22) k l b d r (k * 7 + 6) = Ar 47 k)
        rw [hSz_ne (by omega), hSz_ne (by omega), hSz_ne (by omega)]
        rcases a3 with ⟨b1, b2⟩ | b3
        · exact Or.inl ⟨b1, fun w hw hw2 => by rw [hSz_ne (by omega)]; exact b2 w hw hw2⟩
        · exact Or.inr b3
    · refine hullOk_congr (e4 k hk) (fun w hw => ?_) (fun w hw => ?_) rfl rfl rfl
      · show hSz (Ar 22) a l b d r (k * 7 + w) = Ar 22 (k * 7 + w)
        rw [hSz_ne (by omega)]
      · show mSz (Ar 44) a l b d r (4 * k + w) = Ar 44 (4 * k + w)
        rw [mSz_ne (by omega)]
  · exact St_two (tX5_alter0 hb) (tX6_alter0 (by rw [e2, ← e1]; exact hb)) h
theorem onD_lt2 {d : Nat → Int32} {day : Int32} : ∀ m j, onD d day m = some j → j < m := by
  intro m
  induction m with
  | zero => intro j hj; cases hj
  | succ m ihm =>
    intro j hj
    rw [onD] at hj
    split at hj
    · split at hj
      · cases hj; omega
      · rename_i k hk
        have := ihm k hk
        split at hj <;> (cases hj; omega)
    · have := ihm j hj
      omega
theorem st_measure {F : vFt} {Ar : vAt} {x : vXt} {i day : Int32} (h : IX F Ar x) : St0 mX5_measure mX6_measure 5 3 [.int i, .int day] F Ar x := by
  obtain ⟨m, e1, e2, e3, e4⟩ := h.2.1
  obtain ⟨c, f, a1, a2, a3, -, -, -, -, a8, -, -, -⟩ := h.1
  have hon : onD (Ar 15) day c = onD (Ar 41) day c := onD_congr c (fun i hi => by obtain ⟨len, -, -, -, q, -⟩ := a8 i hi; exact q)
  by_cases hb : (0 ≤ i ∧ i ≤ F 193 - 1) ∧ (0 ≤ day ∧ day ≤ 999)
  · obtain ⟨hi, hd⟩ := hb
    rw [e1] at hi
    obtain ⟨k, hk, rfl⟩ := (v_has (by omega)).mp hi
    cases hf : onD (Ar 15) day c with
    | none => exact St_two (tX5_measure1 e1 e3 hk hd a1 a3 hf) (tX6_measure1 e2 e3 hk hd a2 a3 (hon.symm.trans hf)) h
    | some a =>
      have hac := onD_lt2 c a hf
      obtain ⟨b1, b2, b3⟩ := e4 k hk
      have w0 : Ar 22 (k * 7 + 0) = Ar 44 (4 * k) := b1 0 (by omega)
      have w1 : Ar 22 (k * 7 + 1) = Ar 44 (4 * k + 1) := b1 1 (by omega)
      have w2 : Ar 22 (k * 7 + 2) = Ar 44 (4 * k + 2) := b1 2 (by omega)
      have w3 : Ar 22 (k * 7 + 3) = Ar 44 (4 * k + 3) := b1 3 (by omega)
      obtain ⟨s1, s2, s3, s4⟩ := vSz_sm b2
      obtain ⟨len, v, fz, k1, k2, k3, k4, k5⟩ := act_run (a8 a hac) s1 s2 s3 s4
      have h5 := tX5_measure2 (Ar := Ar) (x := x) e1 e3 hk hd a1 a3 hf
      rw [w0, w1, w2, w3, k5] at h5
      refine ⟨_, h5, ?_⟩
      rintro r F1 Ar1 ⟨rfl, s, rfl, rfl⟩
      refine ⟨_, rfl, _, tX6_measure2 (m := m) (h := k) (c := c) (a := a) (len := len) (fz := fz) (v := v) (show _ = nI m from e2) e3 hk hd (show _ = nI c from a2) a3 (hon.symm.trans hf) (show _ = nI len from k1) k2 s1 s2 s3 s4 k4, ?_⟩
      rintro r' F2 Ar2 ⟨rfl, z, pl, rfl, rfl⟩
      refine ⟨rfl, IX_H (IX_sc h (scF_r (s := s) s1 s2 s3 s4) (rA_kA (s := s) (by decide)) rA_kB) ?_ (kF_upd kF_rf (by decide)) (kA_vS (kA_vS (kA_vS (kA_vS (kA_vS kA_rf (by decide)) (by decide)) (by decide)) (by decide)) (by decide)) (kB_vS (kB_vS (kB_vS (kB_vS (kB_vS kB_rf (by omega)) (by omega)) (by omega)) (by omega)) (by omega))⟩
      refine ⟨m, e1, e2, e3, fun q hq => ?_⟩
      by_cases e : q = k
      · subst e
        refine ⟨fun w hw => ?_, b2, Or.inr ⟨?_, ?_, ?_, ?_⟩⟩
        · show hMs (Ar 22) q v day (nI a) (q * 7 + w) = Ar 44 (4 * q + w)
          rw [hMs_ne (by omega)]
          exact b1 w hw
        · show 0 ≤ upd (Ar 46) q day q
          rw [upd_at]
          exact hd.1
        · show hMs (Ar 22) q v day (nI a) (q * 7 + 4) = upd (Ar 45) q v q
          unfold hMs
          rw [upd_ne (by omega), upd_ne (by omega), upd_at, upd_at]
        · show hMs (Ar 22) q v day (nI a) (q * 7 + 5) = upd (Ar 46) q day q
          unfold hMs
          rw [upd_ne (by omega), upd_at, upd_at]
        · show hMs (Ar 22) q v day (nI a) (q * 7 + 6) = upd (Ar 47) q (nI a) q
          unfold hMs
          rw [upd_at, upd_at]
      · refine hullOk_congr (e4 q hq) (fun w hw => ?_) (fun _ _ => rfl) (upd_ne e) (upd_ne e) (upd_ne e)
        show hMs (Ar 22) k v day (nI a) (q * 7 + w) = Ar 22 (q * 7 + w)
        rw [hMs_ne (by omega)]
  · exact St_two (tX5_measure0 hb) (tX6_measure0 (by rw [e2, ← e1]; exact hb)) h
theorem st_of {F : vFt} {Ar : vAt} {x : vXt} {i w : Int32} (h : IX F Ar x) : St0 mX5_of mX6_of 2 2 [.int i, .int w] F Ar x := by
  obtain ⟨m, e1, e2, e3, e4⟩ := h.2.1
  by_cases hb : (0 ≤ i ∧ i ≤ F 193 - 1) ∧ (0 ≤ w ∧ w ≤ 6)
  · obtain ⟨hi, hw⟩ := hb
    rw [e1] at hi
    obtain ⟨k, hk, rfl⟩ := (v_has (by omega)).mp hi
    obtain ⟨u, hu, rfl⟩ := (v_to (M := 6) (n := 6) rfl (by omega)).mp hw
    obtain ⟨b1, b2, b3⟩ := e4 k hk
    have h5 := tX5_of1 (Ar := Ar) (x := x) (w := u) e1 e3 hk (by omega)
    have h6 := tX6_of1 (Ar := Ar) (x := x) (w := u) e2 e3 hk (by omega)
    have he : Ar 22 (k * 7 + u) = ofV Ar k u := by
      unfold ofV
      by_cases h4 : u < 4
      · rw [if_pos h4]
        exact b1 u h4
      · rw [if_neg h4]
        rcases b3 with ⟨c1, c2⟩ | ⟨c1, c2, c3, c4⟩
        · rw [if_pos (by rw [c1]; decide)]
          exact c2 u (by omega) (by omega)
        · rw [if_neg (fun z => by rw [Int32.lt_iff_toInt_lt] at z; rw [Int32.le_iff_toInt_le] at c1; omega)]
          by_cases u4 : u = 4
          · subst u4
            exact c2
          · rw [if_neg u4]
            by_cases u5 : u = 5
            · subst u5
              exact c3
            · rw [if_neg u5]
              have u6 : u = 6 := by omega
              subst u6
              exact c4
    rw [← he] at h6
    exact St_two h5 h6 h
  · exact St_two (tX5_of0 hb) (tX6_of0 (by rw [e2, ← e1]; exact hb)) h
