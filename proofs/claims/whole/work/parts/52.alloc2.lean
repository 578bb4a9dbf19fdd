section
variable {p : Program} {l : Launch} {e : Env} {R : Room} {s : State} {m : MethodId} {args : Array Value} {below : List Frame} {meth : Method} {c : Code} {H : Heap} {locs : List Loc} {cells slots : Nat} {QW : State → Prop}
variable {pc : Nat} {la : Array Slot} {rest st0 : List Value} {a : Array Value} {A0 A1 : Nat → Prop} {H0 : Heap} {free : Addr → Prop} {D : va_G} {cA : Nat → ClassId} {ad : Nat → Nat} {x : vXt} {Q : Option Value → vFt → vAt → vXt → Prop}
theorem v_cont1 (hr : va_Run p l e R s m args below meth c H locs cells slots 1 1728 (F0 m pc la st0) rest (vQ1 D cA ad A1 x Q a) free) (hS : va_S A0 H0 H locs) (hA : ∀ q, q < H.size → A1 q → A0 q) (hf : ∀ q, free q → A0 q)
    (kk : ∀ (r : Option Value) (F' : vFt) (Ar' : vAt) (x' : vXt) (ad' : Nat → Nat) (H1 : Heap) (locs1 : List Loc), vAg x ad ad' → Q r F' Ar' x' → va_P D vCl (vW ad' cA F' Ar' x') H1 → va_D A1 (vW ad' cA F' Ar' x') → va_S A0 H0 H1 locs1 → W p l e R s m args below meth c H1 locs1 (cells + 1) (slots + 1728) QW (F0 m (pc + 3) la ((r.map (vV ad')).toList ++ rest))) : W p l e R s m args below meth c H locs cells slots QW (F0 m pc la st0) := by
  intro T hT X
  obtain ⟨v, st₀, t, T', L, h0, X', hL, e1, e2, ⟨⟨r, F', Ar', x', ad', hg, hv, hq, hb, -, hd⟩, hz, hk⟩, st⟩ := hr T hT X
  cases hv
  rw [h0] at hz hk
  obtain ⟨t2, a1, b1⟩ := kk r F' Ar' x' ad' T'.heap (locs ++ L) hg hq (by rw [e1]; exact hb) hd
    ⟨Nat.le_trans hS.1 (by rw [e1]; exact hz), fun q h1 h2 => by rw [e1, hk q (Nat.lt_of_lt_of_le h1 hS.1) (fun z => h2 (hA q (Nat.lt_of_lt_of_le h1 hS.1) z))]; exact hS.2.1 q h1 h2, fun q hq => by
      rcases List.mem_append.mp hq with h | h
      · exact hS.2.2 q h
      · exact hf _ (hL q h)⟩ T' rfl X'
  exact ⟨t2, st t2 a1, b1⟩
end
theorem vRm1_fit {d d' maxL : Nat} {R : Room} (h : d ≤ R.frames ∧ 60 * d ≤ R.locals) (hd : d' < d) (hm : maxL ≤ 40) : (vRm1 d').frames + 1 ≤ R.frames ∧ 8 + (maxL + 11) + (vRm1 d').locals ≤ R.locals := by
  constructor
  · show d' + 1 ≤ R.frames
    omega
  · show 8 + (maxL + 11) + 60 * d' ≤ R.locals
    omega
section
variable {p : Program} {l : Launch} {e : Env} {R : Room} {s : State} {m : MethodId} {args : Array Value} {below : List Frame} {meth : Method} {c : Code} {cells slots : Nat} {QW : State → Prop} {A : Nat → Prop} {H0 : Heap} {D : va_G} {cA : Nat → ClassId} {ad : Nat → Nat}
variable {M N : vMx} {pc : Nat} {ls rest As : List Value} {F : vFt} {Ar : vAt} {x : vXt} {Q : Option Value → vFt → vAt → vXt → Prop} {dd d' o n index : Nat}
set_option maxHeartbeats 4000000 in
theorem V_callA (hC : C1 N d' (.ref o :: As) F Ar x Q) (hB : vBig (p, l, e, R, s, m, args, below, meth, c, D, cA, ad, A, H0, cells, slots, QW) dd) (hd : d' < dd) (hf : cells + 1 ≤ R.cells ∧ slots + 1728 ≤ R.slots) (hls : vRefs x ls) (hrs : vRefs x rest) (hG : vGood N n) (hl : Cond.methodLink M.1.cls index N.1 ∈ lw_good) (hi : Cond.instanceMethod N.1 ∈ lw_good) (hs : Cond.selects N.1.cls N.1 N.1 ∈ lw_good) (ho : o < 7) (hcls : vR o = N.1.cls) (hn : As.length = n) (hW : (rest.map fun v => v.category).sum ≤ 8) (d : decode M.2.1 pc = .ok (.invokevirtual index, 3))
    (k : ∀ r F' Ar' x' ad', vAg x ad ad' → Q r F' Ar' x' → V (p, l, e, R, s, m, args, below, meth, c, D, cA, ad', A, H0, cells + 1, slots + 1728, QW) M (pc + 3) ls (r.toList ++ rest) F' Ar' x') : V (p, l, e, R, s, m, args, below, meth, c, D, cA, ad, A, H0, cells, slots, QW) M pc ls (As.reverse ++ .ref o :: rest) F Ar x := by
  intro H locs la C hP hD hS hl0
  have hts := C.2.2.2.2.1
  have hK := C.2.2.2.2.2.1
  have hFc := vW_free hD hS C.2.2.2.2.2.2.1
  have cw : CallW R s args M.1.cls N.1.cls index N.1 N.2.1 N.2.2.1 N.2.2.2 (.code N.1 N.2.1 N.2.2.1 N.2.2.2 :: lw_good) (vRm1 d') 1 1728 n := ⟨callB_of n hts hG.words rfl rfl rfl (hts _ hG.2.1) (hts _ hl) hG.2.2.1 (vRm1_fit hB hd hG.2.2.2), hts _ hi, hts _ hs⟩
  refine v_cont1 (va_runV (As := As.map (vV ad)) (rest := rest.map (vV ad)) ⟨C.1, C.2.1, C.2.2.1, C.2.2.2.1, hts⟩ (hC l D cA ad H.size) cw ⟨vPc_blind, ?_, fun U hU hW => ⟨rfl, by rw [hU], by rw [hU]; exact hP, va_K.moved hW.alike hK, hD.weaken (fun _ _ _ _ => trivial), vNs_warm hW C.2.2.2.2.2.2.2.2.2.2.2⟩⟩ rfl (by rw [List.length_map]; exact hn) hl0.1 (by simp [vV]) (lv_room (by rw [vCat]; exact hW)) d hf) hS (fun q _ h => hFc q h) hFc (fun r F' Ar' x' ad' H1 locs1 hg hq hP1 hD1 hS1 => ?_)
  · rw [← hcls]
    exact va_recv hK hP (vCl_at o ho) (vW_obj ho)
  · have h9 := k r F' Ar' x' ad' hg hq H1 locs1 la ⟨C.1, C.2.1, C.2.2.1, C.2.2.2.1, hts, hK, C.2.2.2.2.2.2.1, C.2.2.2.2.2.2.2.1, C.2.2.2.2.2.2.2.2.1, hf.1, hf.2, C.2.2.2.2.2.2.2.2.2.2.2⟩ hP1 (hD1.weaken (fun _ _ _ h => hFc _ h)) hS1 (vLs_ag hg hls hl0)
    rw [List.map_append, vMap_ag hg hrs] at h9
    cases r with
    | none => exact h9
    | some v => exact h9
end
section
variable {κ : vK} {M N : vMx} {pc q : Nat} {ls rest : List Value} {F : vFt} {Ar : vAt} {x x0 : vXt} {Q Q' : Option Value → vFt → vAt → vXt → Prop} {dd d' o n index : Nat} {ad0 : Nat → Nat}
theorem V_callA1 (As : List Value) (hC : C1 N d' (.ref o :: As) F Ar x0 Q') (hκ : vStd1 κ dd ad0 x0 Q) (h0 : vNone κ) (hd : d' < dd) (hls : vRefs x0 ls) (hrs : vRefs x0 rest) (hG : vGood N n) (hl : Cond.methodLink M.1.cls index N.1 ∈ lw_good) (hi : Cond.instanceMethod N.1 ∈ lw_good) (hs : Cond.selects N.1.cls N.1 N.1 ∈ lw_good) (ho : o < 7) (hcls : vR o = N.1.cls) (hn : As.length = n) (hW : (rest.map fun v => v.category).sum ≤ 8) (d : decode M.2.1 pc = .ok (.invokevirtual index, 3)) (hq : pc + 3 = q)
    (k : ∀ κ', vStd1 κ' dd ad0 x0 Q → ∀ r F' Ar' x', Q' r F' Ar' x' → V κ' M q ls (r.toList ++ rest) F' Ar' x') : V κ M pc ls (As.reverse ++ .ref o :: rest) F Ar x0 := by
  subst hq
  have hB := hκ.big
  obtain ⟨p, l, e, R, s, m, args, below, meth, c, D, cA, ad, A, H0, cells, slots, QW⟩ := κ
  obtain ⟨rfl, hc1, hs1, rfl, hg, rfl⟩ := hκ
  obtain ⟨rfl, rfl⟩ := h0
  refine V_callA hC hB hd ⟨Nat.le_refl 1, Nat.le_refl 1728⟩ hls hrs hG hl hi hs ho hcls hn hW d (fun r F' Ar' x' ad' hg2 hq => ?_)
  exact k (p, l, e, vRm1 dd, s, m, args, below, meth, c, D, cA, ad', A, s.heap, 0 + 1, 0 + 1728, MQ below (vQ1 D cA ad0 A x0 Q) args s 1 1728 A) ⟨rfl, Nat.le_refl 1, Nat.le_refl 1728, rfl, fun i hi => by rw [hg2 i hi, hg i hi], rfl⟩ r F' Ar' x' hq
end
