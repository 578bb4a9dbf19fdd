/-! the calls on entries: both sides -/
theorem vSum_one {f g : Nat → Int32} {p : Nat} : ∀ n, p < n → (∀ j, j < n → j ≠ p → f j = g j) → vSum f n + g p = vSum g n + f p := by
  intro n
  induction n with
  | zero => intro h; omega
  | succ n ih =>
    intro hp h
    rw [vSum, vSum]
    by_cases e : p = n
    · subst e
      rw [vSum_congr p (fun i hi => h i (by omega) (by omega)), Int32.add_assoc, Int32.add_comm (f p), ← Int32.add_assoc]
    · have := ih (by omega) (fun j hj => h j (by omega))
      rw [h n (by omega) (fun z => e z.symm), Int32.add_assoc, Int32.add_comm (g n), ← Int32.add_assoc, this, Int32.add_assoc, Int32.add_comm (f p), ← Int32.add_assoc]
theorem i32_mv {a b c : Int32} (h : a + b = c) : a = c + -b := by
  rw [← h, Int32.add_assoc, Int32.add_right_neg, Int32.add_zero]
def hC (q : gC) (st : Nat → Int32) (k : Nat) : Nat → Int32 := fun e => if ¬ st e = 0 ∧ q.2.2.2.2.2 e = k then q.2.1 e else 0
theorem hC_0 {q : gC} {st : Nat → Int32} {k e : Nat} (h : st e = 0) : hC q st k e = 0 := if_neg (fun z => z.1 h)
theorem pRun_h {q : gC} {n : Nat} (hok : pOk q n) : ∀ i, i ≤ n → ∀ k, (pRun q i).1.2.2.1 k = vSum (hC q (pRun q i).1.2.2.2 k) i := by
  intro i
  induction i with
  | zero => intro _ k; rfl
  | succ i ih =>
    intro hi k
    have h1 := ih (by omega)
    have hz := (pRun_z hok i (by omega) i (Nat.le_refl i)).1
    have hsame : (pRun q i).1.2.2.1 k = vSum (hC q (pRun q i).1.2.2.2 k) (i + 1) := by
      rw [vSum, hC_0 hz, Int32.add_zero]
      exact h1 k
    rw [pRun]
    split
    · show (pEf q i (pRun q i).1).2.2.2.1 k = vSum (hC q (pEf q i (pRun q i).1).2.2.2.2 k) (i + 1)
      unfold pEf gEff
      split
      · split
        · exact hsame
        · exact hsame
      · split
        · split
          · show upd (pRun q i).1.2.2.1 (q.2.2.2.2.2 i) ((pRun q i).1.2.2.1 (q.2.2.2.2.2 i) + q.2.1 i) k = vSum (hC q (upd (pRun q i).1.2.2.2 i 1) k) (i + 1)
            rw [vSum, vSum_congr (g := hC q (pRun q i).1.2.2.2 k) i (fun j hj => by unfold hC; rw [upd_ne (by omega)])]
            by_cases e : k = q.2.2.2.2.2 i
            · rw [← e, upd_at, h1 k]
              congr 1
              unfold hC
              rw [upd_at, if_pos ⟨by decide, e.symm⟩]
            · rw [upd_ne e, h1 k]
              unfold hC
              rw [if_neg (fun z : ¬ upd (pRun q i).1.2.2.2 i 1 i = 0 ∧ q.2.2.2.2.2 i = k => e z.2.symm), Int32.add_zero]
          · exact hsame
        · rename_i k0 k1
          split
          · exact hsame
          · rename_i hs
            have hr : q.2.2.2.1 i < i := by
              obtain ⟨-, -, hk⟩ := hok i (by omega)
              rcases hk with hk | hk | hk
              · exact absurd hk k0
              · exact absurd hk k1
              · exact hk.2.2
            show upd (pRun q i).1.2.2.1 (q.2.2.2.2.2 (q.2.2.2.1 i)) ((pRun q i).1.2.2.1 (q.2.2.2.2.2 (q.2.2.2.1 i)) + -(q.2.1 (q.2.2.2.1 i))) k = vSum (hC q (upd (pRun q i).1.2.2.2 (q.2.2.2.1 i) 0) k) (i + 1)
            generalize q.2.2.2.1 i = p at *
            have hv := vSum_one (f := hC q (upd (pRun q i).1.2.2.2 p 0) k) (g := hC q (pRun q i).1.2.2.2 k) (p := p) i hr (fun j hj hjp => by unfold hC; rw [upd_ne hjp])
            rw [hC_0 (st := upd (pRun q i).1.2.2.2 p 0) (e := p) upd_at, Int32.add_zero] at hv
            rw [vSum, hC_0 (st := upd (pRun q i).1.2.2.2 p 0) (e := i) (by rw [upd_ne (by omega)]; exact hz), Int32.add_zero]
            by_cases e : k = q.2.2.2.2.2 p
            · rw [← e, upd_at, h1 k]
              have hp : hC q (pRun q i).1.2.2.2 k p = q.2.1 p := if_pos ⟨hs, e.symm⟩
              rw [hp] at hv
              exact (i32_mv hv).symm
            · rw [upd_ne e, h1 k]
              have hp : hC q (pRun q i).1.2.2.2 k p = 0 := if_neg (fun z => e z.2.symm)
              rw [hp, Int32.add_zero] at hv
              exact hv.symm
    · exact hsame
theorem mAt_k {l : List Nat} {Ar : vAt} {n : Nat} (h0 : ¬ 60 ∈ l) (h1 : ¬ 61 ∈ l) (h2 : ¬ 62 ∈ l) (h3 : ¬ 63 ∈ l) : kA l Ar (mAt Ar n) := kA_vS (kA_vS (kA_vS (kA_vS kA_rf h0) h1) h2) h3
theorem IX_mAt {F : vFt} {Ar : vAt} {x : vXt} {n : Nat} (h : IX F Ar x) : IX F (mAt Ar n) x := IX_0 h kF_rf (mAt_k (by decide) (by decide) (by decide) (by decide)) (kB_vS (kB_vS (kB_vS (kB_vS kB_rf (by omega)) (by omega)) (by omega)) (by omega))
theorem ite_iff {α : Type} {p q : Prop} [Decidable p] [Decidable q] {a b : α} (h : p ↔ q) : (if p then a else b) = if q then a else b := by
  by_cases hp : p
  · rw [if_pos hp, if_pos (h.mp hp)]
  · rw [if_neg hp, if_neg (fun z => hp (h.mpr z))]
theorem acc_eq {h a h' a' : Nat} (ha : a < 8) (ha' : a' < 8) : 8 * h + a = 8 * h' + a' ↔ h = h' ∧ a = a' := by omega
theorem ent_eq {Ar : vAt} {n e : Nat} (hn : n ≤ 60) (hok : mOk Ar n) (hc : ceq Ar e) (hl : lst Ar n) (he : e < n) : ∀ u, u < 9 → Ar 23 (e * 9 + u) = entV (mAt Ar n) e (nI u) := by
  obtain ⟨c0, c1, c2, c3, c4, c8, c5, -, -⟩ := hc
  obtain ⟨hr, hv⟩ := mRn_p hn hok n (Nat.le_refl n)
  obtain ⟨l1, l2, l3⟩ := hl.2 e he
  have hp := pOk_m hn hok
  intro u hu
  match u, hu with
  | 0, _ => exact c0
  | 1, _ => exact c1
  | 2, _ => exact c2
  | 3, _ => exact c3
  | 4, _ => exact c4
  | 5, _ => exact c5
  | 6, _ =>
    show gCol (Ar 23) 6 e = if (mRn Ar n).2 e = 0 then 0 else 1
    rw [l2, hv e he, pRun_v hp n (Nat.le_refl n) e he]
    rcases vdV_01 (pM Ar) e with z | z
    · rw [z]; rfl
    · rw [z]; rfl
  | 7, _ =>
    show gCol (Ar 23) 7 e = rkV (mAt Ar n) e
    rw [l3]
    unfold pRk rkV
    have hst : ∀ o, o < n → mAt Ar n 62 o = (pRun (pM Ar) n).1.2.2.2 o := fun o ho => hr.2 o ho
    rw [hst e he]
    split
    · rfl
    · apply vSum_congr
      intro o ho
      unfold rkC
      rw [hst o (by omega)]
      obtain ⟨⟨k, a, b, hk, ha, hb, e1, e2, e3⟩, -⟩ := hok e he
      obtain ⟨⟨k', a', b', hk', ha', hb', e1', e2', e3'⟩, -⟩ := hok o (by omega)
      have q1 : (pM Ar).2.2.2.2.1 e = 8 * k + a := a1_val e1 e2 hk ha
      have q2 : (pM Ar).2.2.2.2.1 o = 8 * k' + a' := a1_val e1' e2' hk' ha'
      have q3 : mAt Ar n 49 = Ar 49 := rfl
      have q4 : mAt Ar n 50 = Ar 50 := rfl
      rw [q1, q2, q3, q4, e1, e2, e1', e2']
      exact ite_iff (and_congr Iff.rfl (by rw [acc_eq ha' ha, v_eq_of (by omega) (by omega), v_eq_of (by omega) (by omega)]))
  | 8, _ => exact c8
theorem entV_out {Ar : vAt} {e : Nat} {w : Int32} (h : ¬ (0 ≤ w ∧ w ≤ 8)) : entV Ar e w = -1 := by
  unfold entV
  rw [if_neg, if_neg, if_neg, if_neg, if_neg, if_neg, if_neg, if_neg, if_neg]
  all_goals (intro z; subst z; exact h (by decide))
theorem st_entry {F : vFt} {Ar : vAt} {x : vXt} {i w : Int32} (h : IX F Ar x) : St0 mX5_entry mX6_entry 2 2 [.int i, .int w] F Ar x := by
  obtain ⟨n, e1, e2, e3, e4, e5, e6, e7⟩ := h.2.2.1
  by_cases hi : 0 ≤ i ∧ i ≤ F 258 - 1
  · have hi' := hi
    rw [e1] at hi
    obtain ⟨e, he, rfl⟩ := (v_has (by omega)).mp hi
    have h6 := tX6_entry (x := x) (w := w) e2 e3 e4 he
    by_cases hw : 0 ≤ w ∧ w ≤ 8
    · obtain ⟨u, hu, rfl⟩ := (v_to (M := 8) (n := 8) rfl (by omega)).mp hw
      rw [← ent_eq e3 e4 (e5 e he) e7 he u (by omega)] at h6
      exact St_two (tX5_entry1 e1 e3 he (by omega)) h6 (IX_mAt h)
    · rw [entV_out hw] at h6
      exact St_two (tX5_entry0 (fun z => hw z.2)) h6 (IX_mAt h)
  · exact St_two (tX5_entry0 (fun z => hi z.1)) (tX6_entry0 (n := n) (by rw [e2, ← e1]; exact hi)) h
theorem st_parts {F : vFt} {Ar : vAt} {x : vXt} {i c : Int32} {fr : Bool} (h : IX F Ar x) : St0 mX5_parts mX6_parts 2 2 [.int i, .int c, .int (if fr then 1 else 0)] F Ar x := by
  obtain ⟨n, e1, e2, e3, e4, e5, e6, e7⟩ := h.2.2.1
  obtain ⟨m, f1, f2, f3, f4⟩ := h.2.1
  by_cases hb : (0 ≤ i ∧ i ≤ F 193 - 1) ∧ (0 ≤ c ∧ c ≤ 7)
  · obtain ⟨hi, hc⟩ := hb
    rw [f1] at hi
    obtain ⟨k, hk, rfl⟩ := (v_has (by omega)).mp hi
    obtain ⟨u, hu, rfl⟩ := (v_to (M := 7) (n := 7) rfl (by omega)).mp hc
    have h6 := tX6_parts (x := x) (fr := fr) e2 e3 e4 f2 f3 hk (show u < 8 by omega)
    obtain ⟨hr, -⟩ := mRn_p e3 e4 n (Nat.le_refl n)
    have q0 : mAt Ar n 60 (8 * k + u) = Ar 27 (k * 8 + u) := by
      rw [show k * 8 + u = 8 * k + u by omega, (e7.1 (8 * k + u) (by omega)).1]
      exact (hr.1 (8 * k + u) (by omega)).1
    have q1 : mAt Ar n 61 (8 * k + u) = Ar 28 (k * 8 + u) := by
      rw [show k * 8 + u = 8 * k + u by omega, (e7.1 (8 * k + u) (by omega)).2.1]
      exact (hr.1 (8 * k + u) (by omega)).2.1
    rw [q0, q1] at h6
    exact St_two (tX5_parts1 f1 f3 hk (by omega)) h6 (IX_mAt h)
  · exact St_two (tX5_parts0 hb) (tX6_parts0 (by rw [f2, ← f1]; exact hb)) h
theorem vBest_congr {f g : Nat → Int32} {N : Nat} (h : ∀ c, c < N → f c = g c) : ∀ n, n ≤ N → vBest f n = vBest g n := by
  intro n
  induction n with
  | zero => intro _; rfl
  | succ n ih =>
    intro hn
    rw [vBest, vBest, ih (by omega), h n (by omega)]
    have : vBest g n < N := by
      rcases Nat.eq_zero_or_pos n with e | e
      · subst e
        show 0 < N
        omega
      · have := vBest_lt g n e
        omega
    rw [h _ this]
theorem st_manager {F : vFt} {Ar : vAt} {x : vXt} {i : Int32} (h : IX F Ar x) : St0 mX5_manager mX6_manager 3 2 [.int i] F Ar x := by
  obtain ⟨n, e1, e2, e3, e4, e5, e6, e7⟩ := h.2.2.1
  obtain ⟨m, f1, f2, f3, f4⟩ := h.2.1
  by_cases hi : 0 ≤ i ∧ i ≤ F 193 - 1
  · rw [f1] at hi
    obtain ⟨k, hk, rfl⟩ := (v_has (by omega)).mp hi
    have h6 := tX6_manager (x := x) e2 e3 e4 f2 f3 hk
    obtain ⟨hr, -⟩ := mRn_p e3 e4 n (Nat.le_refl n)
    rw [vBest_congr (N := 8) (g := fun c => Ar 27 (k * 8 + c)) (fun c hc => by
      show mAt Ar n 60 (8 * k + c) = Ar 27 (k * 8 + c)
      rw [show k * 8 + c = 8 * k + c by omega, (e7.1 (8 * k + c) (by omega)).1]
      exact (hr.1 (8 * k + c) (by omega)).1) 8 (Nat.le_refl 8)] at h6
    exact St_two (tX5_manager1 f1 f3 hk) h6 (IX_mAt h)
  · exact St_two (tX5_manager0 hi) (tX6_manager0 (by rw [f2, ← f1]; exact hi)) h
theorem st_held {F : vFt} {Ar : vAt} {x : vXt} {i c : Int32} (h : IX F Ar x) : St0 mX5_held mX6_held 2 2 [.int i, .int c] F Ar x := by
  obtain ⟨n, e1, e2, e3, e4, e5, e6, e7⟩ := h.2.2.1
  obtain ⟨m, f1, f2, f3, f4⟩ := h.2.1
  by_cases hb : (0 ≤ i ∧ i ≤ F 193 - 1) ∧ (0 ≤ c ∧ c ≤ 7)
  · obtain ⟨hi, hc⟩ := hb
    rw [f1] at hi
    obtain ⟨k, hk, rfl⟩ := (v_has (by omega)).mp hi
    obtain ⟨u, hu, rfl⟩ := (v_to (M := 7) (n := 7) rfl (by omega)).mp hc
    have h6 := tX6_held (x := x) e2 e3 e4 f2 f3 hk (show u < 8 by omega)
    obtain ⟨hr, -⟩ := mRn_p e3 e4 n (Nat.le_refl n)
    have hq : vSum (hdC (mAt Ar n) k u) n = Ar 29 (k * 8 + u) := by
      rw [show k * 8 + u = 8 * k + u by omega, (e7.1 (8 * k + u) (by omega)).2.2, pRun_h (pOk_m e3 e4) n (Nat.le_refl n)]
      apply vSum_congr
      intro o ho
      unfold hdC hC
      obtain ⟨⟨k', a', b', hk', ha', hb', e1', e2', e3'⟩, -⟩ := e4 o ho
      have q2 : (pM Ar).2.2.2.2.2 o = 8 * k' + b' := a1_val e1' e3' hk' hb'
      have q3 : mAt Ar n 49 = Ar 49 := rfl
      have q4 : mAt Ar n 51 = Ar 51 := rfl
      have q5 : mAt Ar n 62 o = (pRun (pM Ar) n).1.2.2.2 o := hr.2 o ho
      rw [q2, q3, q4, q5, e1', e3']
      exact ite_iff (and_congr Iff.rfl (by rw [acc_eq hb' (by omega), v_eq_of (by omega) (by omega), v_eq_of (by omega) (by omega)]))
    rw [hq] at h6
    exact St_two (tX5_held1 f1 f3 hk (by omega)) h6 (IX_mAt h)
  · exact St_two (tX5_held0 hb) (tX6_held0 (by rw [f2, ← f1]; exact hb)) h
theorem st_many {F : vFt} {Ar : vAt} {x : vXt} {w : Int32} (h : IX F Ar x) : St0 mX5_many mX6_many 3 2 [.int w] F Ar x := by
  obtain ⟨n, e1, e2, e3, e4, e5, e6, e7⟩ := h.2.2.1
  obtain ⟨m, f1, f2, f3, f4⟩ := h.2.1
  obtain ⟨c, f, a1, a2, a3, a4, a5, -⟩ := h.1
  obtain ⟨p, q, p1, p2, p3, p4, p5, -⟩ := h.2.2.2
  obtain ⟨hr, hv⟩ := mRn_p e3 e4 n (Nat.le_refl n)
  have h6 := tX6_many (x := x) (w := w) e2 e3 e4
  have hp := pOk_m e3 e4
  have he : manV F (mAt Ar n) n w = cmV F Ar n w := by
    unfold manV cmV
    rw [a2, a1, f2, f1, e2, e1, p2, p1, p5, p4, a5, a4]
    have s1 : vSum (fun e => if mAt Ar n 54 e = 0 then 0 else 1) n = vSum (gCol (Ar 23) 5) n := vSum_congr n (fun i hi => (e5 i hi).2.2.2.2.2.2.1.symm)
    have s2 : vSum (fun e => if mAt Ar n 63 e = 0 then 0 else 1) n = vSum (gCol (Ar 23) 6) n := vSum_congr n (fun i hi => by
      show (if (mRn Ar n).2 i = 0 then 0 else 1) = _
      rw [(e7.2 i hi).2.1, hv i hi, pRun_v hp n (Nat.le_refl n) i hi]
      rcases vdV_01 (pM Ar) i with z | z
      · rw [z]; rfl
      · rw [z]; rfl)
    have s3 : vSum (fun e => if mAt Ar n 62 e = 0 then (0 : Int32) else 1) n = vSum (fun e => if Ar 24 e = 0 then 0 else 1) n := vSum_congr n (fun i hi => by
      show (if (mRn Ar n).1.2.2.2 i = 0 then (0 : Int32) else 1) = if Ar 24 i = 0 then 0 else 1
      rw [(e7.2 i hi).1, hr.2 i hi])
    rw [s1, s2, s3]
  rw [he] at h6
  exact St_two (tX5_many e1 e3) h6 (IX_mAt h)
