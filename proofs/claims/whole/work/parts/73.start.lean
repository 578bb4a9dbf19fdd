/-! at the start all holds -/
def F00 : vFt := fun _ => 0
def u00 : Nat → Int32 := upd (upd (upd (upd (upd (vFill (fun _ => 0) 40 (nI 0)) 0 (nI 64)) 8 (nI 64)) 16 (nI 64)) 24 (nI 64)) 32 (nI 64)
def w00 : Nat → Int32 := vFill (fun _ => 0) 40 (nI 0)
def Ar00 : vAt := vS (vS (vS (vS (fun _ _ => 0) 27 u00) 28 w00) 29 w00) 30 w00
def x00 : vXt := (0, fun j => 16 + j)
theorem u00_at : ∀ k, k < 40 → u00 k = (if k % 8 = 0 then 64 else 0) := by decide +kernel
theorem w00_at : ∀ k, k < 40 → w00 k = 0 := by decide +kernel
theorem norow_00 : ∀ a, a < 5 → noRow x00 a := by
  intro a ha
  match a, ha with
  | 0, _ => exact ⟨by decide, by decide, by decide⟩
  | 1, _ => exact ⟨by decide, by decide, by decide⟩
  | 2, _ => exact ⟨by decide, by decide, by decide⟩
  | 3, _ => exact ⟨by decide, by decide, by decide⟩
  | 4, _ => exact ⟨by decide, by decide, by decide⟩
theorem IX_start : IX F00 Ar00 x00 := by
  refine ⟨⟨0, 0, nI_0.symm, nI_0.symm, by omega, nI_0.symm, nI_0.symm, ⟨by omega, fun i h => absurd h (by omega), fun i _ _ => rfl⟩, fun i h => absurd h (by omega), fun a h => absurd h (by omega), ?_, ?_, fun a _ h => norow_00 a h⟩, ⟨0, nI_0.symm, nI_0.symm, by omega, fun h hh => absurd hh (by omega)⟩, ⟨0, nI_0.symm, nI_0.symm, by omega, fun e h => absurd h (by omega), fun e h => absurd h (by omega), fun e _ _ => rfl, ?_, fun e h => absurd h (by omega)⟩, ⟨0, 0, nI_0.symm, nI_0.symm, by omega, nI_0.symm, nI_0.symm, by omega, fun j h => absurd h (by omega), fun p h => absurd h (by omega), ⟨fun p q h => absurd h (by omega), fun p q _ _ _ => ?_, fun j h => absurd h (by omega)⟩, nI_0.symm, fun i h => absurd h (by omega)⟩⟩
  · exact ⟨⟨by decide, by decide⟩, ⟨by decide, by decide⟩, ⟨by decide, by decide⟩, ⟨by decide, by decide⟩⟩
  · intro j hj
    show 16 + j < 66 + 0
    omega
  · intro k hk
    exact ⟨u00_at k hk, w00_at k hk, w00_at k hk⟩
  · show bitI 0 q = false
    exact bitI_0 q
theorem v66 {P : Nat → Prop} (h0 : P 0) (h1 : P 1) (h2 : P 2) (h3 : P 3) (h4 : P 4) (h5 : P 5) (h6 : P 6) (h7 : P 7) (h8 : P 8) (h9 : P 9) (h10 : P 10) (h11 : P 11) (h12 : P 12) (h13 : P 13) (h14 : P 14) (h15 : P 15) (h16 : P 16) (h17 : P 17) (h18 : P 18) (h19 : P 19) (h20 : P 20) (h21 : P 21) (h22 : P 22) (h23 : P 23) (h24 : P 24) (h25 : P 25) (h26 : P 26) (h27 : P 27) (h28 : P 28) (h29 : P 29) (h30 : P 30) (h31 : P 31) (h32 : P 32) (h33 : P 33) (h34 : P 34) (h35 : P 35) (h36 : P 36) (h37 : P 37) (h38 : P 38) (h39 : P 39) (h40 : P 40) (h41 : P 41) (h42 : P 42) (h43 : P 43) (h44 : P 44) (h45 : P 45) (h46 : P 46) (h47 : P 47) (h48 : P 48) (h49 : P 49) (h50 : P 50) (h51 : P 51) (h52 : P 52) (h53 : P 53) (h54 : P 54) (h55 : P 55) (h56 : P 56) (h57 : P 57) (h58 : P 58) (h59 : P 59) (h60 : P 60) (h61 : P 61) (h62 : P 62) (h63 : P 63) (h64 : P 64) (h65 : P 65) : ∀ i, i < 66 → P i := by
  intro i h
  match i, h with
  | 0, _ => exact h0
  | 1, _ => exact h1
  | 2, _ => exact h2
  | 3, _ => exact h3
  | 4, _ => exact h4
  | 5, _ => exact h5
  | 6, _ => exact h6
  | 7, _ => exact h7
  | 8, _ => exact h8
  | 9, _ => exact h9
  | 10, _ => exact h10
  | 11, _ => exact h11
  | 12, _ => exact h12
  | 13, _ => exact h13
  | 14, _ => exact h14
  | 15, _ => exact h15
  | 16, _ => exact h16
  | 17, _ => exact h17
  | 18, _ => exact h18
  | 19, _ => exact h19
  | 20, _ => exact h20
  | 21, _ => exact h21
  | 22, _ => exact h22
  | 23, _ => exact h23
  | 24, _ => exact h24
  | 25, _ => exact h25
  | 26, _ => exact h26
  | 27, _ => exact h27
  | 28, _ => exact h28
  | 29, _ => exact h29
  | 30, _ => exact h30
  | 31, _ => exact h31
  | 32, _ => exact h32
  | 33, _ => exact h33
  | 34, _ => exact h34
  | 35, _ => exact h35
  | 36, _ => exact h36
  | 37, _ => exact h37
  | 38, _ => exact h38
  | 39, _ => exact h39
  | 40, _ => exact h40
  | 41, _ => exact h41
  | 42, _ => exact h42
  | 43, _ => exact h43
  | 44, _ => exact h44
  | 45, _ => exact h45
  | 46, _ => exact h46
  | 47, _ => exact h47
  | 48, _ => exact h48
  | 49, _ => exact h49
  | 50, _ => exact h50
  | 51, _ => exact h51
  | 52, _ => exact h52
  | 53, _ => exact h53
  | 54, _ => exact h54
  | 55, _ => exact h55
  | 56, _ => exact h56
  | 57, _ => exact h57
  | 58, _ => exact h58
  | 59, _ => exact h59
  | 60, _ => exact h60
  | 61, _ => exact h61
  | 62, _ => exact h62
  | 63, _ => exact h63
  | 64, _ => exact h64
  | 65, _ => exact h65
  | i + 66, h => exact absurd h (by omega)
def pi00 : List Nat := [0, 1, 16, 18, 20, 29, 39, 3, 10, 2, 4, 5, 6, 7, 8, 9, 11, 12, 13, 14, 15, 17, 19, 21, 22, 23, 24, 25, 26, 27, 28, 30, 31, 32, 33, 34, 35, 36, 37, 38, 40, 41, 42, 43, 44, 45, 46, 47, 48, 49, 50, 51, 52, 53, 54, 55, 56, 57, 58, 59, 60, 61, 62, 63, 64, 65]
theorem pi00_inj : ∀ i, i < 66 → ∀ j, j < 66 → pi00.getD i 0 = pi00.getD j 0 → i = j := by decide +kernel
def ad00 (b0 a5 a7_9 a16_9 a25_9 a33_9 a41_9 a7_45_9 a16 a7_20 a27 a8_31 a16_31 a24_31 a32_31 a40_31 a48_31 a56_31 a64_31 a38 a7_42 a15_42 a23_42 a31_42 a39_42 a47_42 a55_42 a63_42 a71_42 b6 m7 m14 m21 m30 m38 m45 m52 m59 m67 m75 m83 m91 m99 m107 m115 m123 m131 m139 m147 m155 m163 m171 m179 m187 m195 m203 : Nat) (r16_9 r33_9 : Nat → Nat) : Nat → Nat := fun i => [b0, a5, a41_9, a16, a27, a38, b6, a16_9, a33_9, a7_9, (r16_9 0), (r16_9 1), (r16_9 2), (r16_9 3), (r16_9 4), a25_9, (r33_9 0), (r33_9 1), (r33_9 2), (r33_9 3), (r33_9 4), a7_45_9, a7_20, a8_31, a16_31, a24_31, a32_31, a40_31, a48_31, a56_31, a64_31, a7_42, a15_42, a23_42, a31_42, a39_42, a47_42, a55_42, a63_42, a71_42, m7, m14, m21, m30, m38, m45, m52, m59, m67, m75, m83, m91, m99, m107, m115, m123, m131, m139, m147, m155, m163, m171, m179, m187, m195, m203].getD i 0
def ws00 (cA : Nat → ClassId) (b0 a5 a7_9 a16_9 a25_9 a33_9 a41_9 a7_45_9 a16 a7_20 a27 a8_31 a16_31 a24_31 a32_31 a40_31 a48_31 a56_31 a64_31 a38 a7_42 a15_42 a23_42 a31_42 a39_42 a47_42 a55_42 a63_42 a71_42 b6 m7 m14 m21 m30 m38 m45 m52 m59 m67 m75 m83 m91 m99 m107 m115 m123 m131 m139 m147 m155 m163 m171 m179 m187 m195 m203 : Nat) (r16_9 r33_9 : Nat → Nat) : va_W := [(b0, .inr (0, [.ref a5, .ref a16, .ref a27, .ref a38])), (a5, .inr (1, [.ref a7_9, .int 0, .ref a16_9, .ref a25_9, .int 0, .ref a33_9, .ref a41_9])), (a7_9, .inl (cA 0, 40, .inl (fun _ => 0))), (a16_9, .inl (cA 2, 5, .inr (.inr (.inr (.inr (fun j => if j < 5 then some (r16_9 j) else none)))))), ((r16_9 0), .inl (cA 0, 40, .inl (fun _ => 0))), ((r16_9 1), .inl (cA 0, 40, .inl (fun _ => 0))), ((r16_9 2), .inl (cA 0, 40, .inl (fun _ => 0))), ((r16_9 3), .inl (cA 0, 40, .inl (fun _ => 0))), ((r16_9 4), .inl (cA 0, 40, .inl (fun _ => 0))), (a25_9, .inl (cA 0, 5, .inl (fun _ => 0))), (a33_9, .inl (cA 2, 5, .inr (.inr (.inr (.inr (fun j => if j < 5 then some (r33_9 j) else none)))))), ((r33_9 0), .inl (cA 0, 0, .inl (fun _ => 0))), ((r33_9 1), .inl (cA 0, 0, .inl (fun _ => 0))), ((r33_9 2), .inl (cA 0, 0, .inl (fun _ => 0))), ((r33_9 3), .inl (cA 0, 0, .inl (fun _ => 0))), ((r33_9 4), .inl (cA 0, 0, .inl (fun _ => 0))), (a41_9, .inr (2, [.ref a7_45_9, .int 0, .int 0, .int 0, .int 0, .int 0, .int 0])), (a7_45_9, .inl (cA 0, 40, .inl (fun _ => 0))), (a16, .inr (3, [.ref a7_20, .int 0])), (a7_20, .inl (cA 0, 35, .inl (fun _ => 0))), (a27, .inr (4, [.ref a8_31, .ref a16_31, .int 0, .ref a24_31, .ref a32_31, .ref a40_31, .ref a48_31, .ref a56_31, .ref a64_31])), (a8_31, .inl (cA 0, 540, .inl (fun _ => 0))), (a16_31, .inl (cA 1, 60, .inl (fun _ => 0))), (a24_31, .inl (cA 0, 60, .inl (fun _ => 0))), (a32_31, .inl (cA 0, 60, .inl (fun _ => 0))), (a40_31, .inl (cA 0, 40, .inl (upd (upd (upd (upd (upd (vFill (fun _ => 0) 40 (nI 0)) 0 (nI 64)) 8 (nI 64)) 16 (nI 64)) 24 (nI 64)) 32 (nI 64)))), (a48_31, .inl (cA 0, 40, .inl (vFill (fun _ => 0) 40 (nI 0)))), (a56_31, .inl (cA 0, 40, .inl (vFill (fun _ => 0) 40 (nI 0)))), (a64_31, .inl (cA 0, 40, .inl (vFill (fun _ => 0) 40 (nI 0)))), (a38, .inr (5, [.ref a7_42, .ref a15_42, .ref a23_42, .ref a31_42, .ref a39_42, .int 0, .ref a47_42, .ref a55_42, .int 0, .ref a63_42, .ref a71_42, .int 0])), (a7_42, .inl (cA 0, 8, .inl (fun _ => 0))), (a15_42, .inl (cA 0, 8, .inl (fun _ => 0))), (a23_42, .inl (cA 0, 8, .inl (fun _ => 0))), (a31_42, .inl (cA 0, 8, .inl (fun _ => 0))), (a39_42, .inl (cA 0, 8, .inl (fun _ => 0))), (a47_42, .inl (cA 0, 8, .inl (fun _ => 0))), (a55_42, .inl (cA 0, 8, .inl (fun _ => 0))), (a63_42, .inl (cA 0, 8, .inl (fun _ => 0))), (a71_42, .inl (cA 0, 8, .inl (fun _ => 0))), (b6, .inr (6, [.int (nI 0), .ref m7, .int 0, .ref m14, .ref m21, .ref m30, .int 0, .ref m38, .ref m45, .ref m52, .ref m59, .int 0, .ref m67, .ref m75, .ref m83, .ref m91, .ref m99, .ref m107, .ref m115, .int 0, .ref m123, .int 0, .ref m131, .ref m139, .ref m147, .ref m155, .int 0, .ref m163, .ref m171, .ref m179, .ref m187, .ref m195, .ref m203])), (m7, .inl (cA 0, 40, .inl (fun _ => 0))), (m14, .inl (cA 0, 5, .inl (fun _ => 0))), (m21, .inl (cA 0, 5, .inl (fun _ => 0))), (m30, .inl (cA 0, 200, .inl (fun _ => 0))), (m38, .inl (cA 0, 20, .inl (fun _ => 0))), (m45, .inl (cA 0, 5, .inl (fun _ => 0))), (m52, .inl (cA 0, 5, .inl (fun _ => 0))), (m59, .inl (cA 0, 5, .inl (fun _ => 0))), (m67, .inl (cA 0, 60, .inl (fun _ => 0))), (m75, .inl (cA 0, 60, .inl (fun _ => 0))), (m83, .inl (cA 0, 60, .inl (fun _ => 0))), (m91, .inl (cA 0, 60, .inl (fun _ => 0))), (m99, .inl (cA 0, 60, .inl (fun _ => 0))), (m107, .inl (cA 0, 60, .inl (fun _ => 0))), (m115, .inl (cA 1, 60, .inl (fun _ => 0))), (m123, .inl (cA 0, 40, .inl (fun _ => 0))), (m131, .inl (cA 0, 6, .inl (fun _ => 0))), (m139, .inl (cA 0, 6, .inl (fun _ => 0))), (m147, .inl (cA 1, 6, .inl (fun _ => 0))), (m155, .inl (cA 0, 41, .inl (fun _ => 0))), (m163, .inl (cA 0, 40, .inl (fun _ => 0))), (m171, .inl (cA 0, 40, .inl (fun _ => 0))), (m179, .inl (cA 1, 60, .inl (fun _ => 0))), (m187, .inl (cA 1, 60, .inl (fun _ => 0))), (m195, .inl (cA 0, 9, .inl (fun _ => 0))), (m203, .inl (cA 0, 10, .inl (fun _ => 0)))]
set_option maxHeartbeats 8000000 in
set_option maxRecDepth 100000 in
theorem v00_P {D : va_G} {cA : Nat → ClassId} {b0 a5 a7_9 a16_9 a25_9 a33_9 a41_9 a7_45_9 a16 a7_20 a27 a8_31 a16_31 a24_31 a32_31 a40_31 a48_31 a56_31 a64_31 a38 a7_42 a15_42 a23_42 a31_42 a39_42 a47_42 a55_42 a63_42 a71_42 b6 m7 m14 m21 m30 m38 m45 m52 m59 m67 m75 m83 m91 m99 m107 m115 m123 m131 m139 m147 m155 m163 m171 m179 m187 m195 m203 : Nat} {r16_9 r33_9 : Nat → Nat} {H : Heap} (hP : va_P D vCl (ws00 cA b0 a5 a7_9 a16_9 a25_9 a33_9 a41_9 a7_45_9 a16 a7_20 a27 a8_31 a16_31 a24_31 a32_31 a40_31 a48_31 a56_31 a64_31 a38 a7_42 a15_42 a23_42 a31_42 a39_42 a47_42 a55_42 a63_42 a71_42 b6 m7 m14 m21 m30 m38 m45 m52 m59 m67 m75 m83 m91 m99 m107 m115 m123 m131 m139 m147 m155 m163 m171 m179 m187 m195 m203 r16_9 r33_9) H) : va_P D vCl (vW (ad00 b0 a5 a7_9 a16_9 a25_9 a33_9 a41_9 a7_45_9 a16 a7_20 a27 a8_31 a16_31 a24_31 a32_31 a40_31 a48_31 a56_31 a64_31 a38 a7_42 a15_42 a23_42 a31_42 a39_42 a47_42 a55_42 a63_42 a71_42 b6 m7 m14 m21 m30 m38 m45 m52 m59 m67 m75 m83 m91 m99 m107 m115 m123 m131 m139 m147 m155 m163 m171 m179 m187 m195 m203 r16_9 r33_9) cA F00 Ar00 x00) H := by
  have h7 : va_at D vCl (ad00 b0 a5 a7_9 a16_9 a25_9 a33_9 a41_9 a7_45_9 a16 a7_20 a27 a8_31 a16_31 a24_31 a32_31 a40_31 a48_31 a56_31 a64_31 a38 a7_42 a15_42 a23_42 a31_42 a39_42 a47_42 a55_42 a63_42 a71_42 b6 m7 m14 m21 m30 m38 m45 m52 m59 m67 m75 m83 m91 m99 m107 m115 m123 m131 m139 m147 m155 m163 m171 m179 m187 m195 m203 r16_9 r33_9 7, vCell (ad00 b0 a5 a7_9 a16_9 a25_9 a33_9 a41_9 a7_45_9 a16 a7_20 a27 a8_31 a16_31 a24_31 a32_31 a40_31 a48_31 a56_31 a64_31 a38 a7_42 a15_42 a23_42 a31_42 a39_42 a47_42 a55_42 a63_42 a71_42 b6 m7 m14 m21 m30 m38 m45 m52 m59 m67 m75 m83 m91 m99 m107 m115 m123 m131 m139 m147 m155 m163 m171 m179 m187 m195 m203 r16_9 r33_9) cA F00 Ar00 x00.2 7) H := by
    have h : H[a16_9]? = some (vp_cell (cA 2) (5, .inr (.inr (.inr (.inr (fun j => if j < 5 then some (r16_9 j) else none)))))) := hP 3 _ rfl
    show H[a16_9]? = some (vp_cell (cA 2) (5, .inr (.inr (.inr (.inr (fun j => some (ad00 b0 a5 a7_9 a16_9 a25_9 a33_9 a41_9 a7_45_9 a16 a7_20 a27 a8_31 a16_31 a24_31 a32_31 a40_31 a48_31 a56_31 a64_31 a38 a7_42 a15_42 a23_42 a31_42 a39_42 a47_42 a55_42 a63_42 a71_42 b6 m7 m14 m21 m30 m38 m45 m52 m59 m67 m75 m83 m91 m99 m107 m115 m123 m131 m139 m147 m155 m163 m171 m179 m187 m195 m203 r16_9 r33_9 (10 + j))))))))
    rw [h, vp_cell_q, vp_cell_q]
    congr 1
  have h8 : va_at D vCl (ad00 b0 a5 a7_9 a16_9 a25_9 a33_9 a41_9 a7_45_9 a16 a7_20 a27 a8_31 a16_31 a24_31 a32_31 a40_31 a48_31 a56_31 a64_31 a38 a7_42 a15_42 a23_42 a31_42 a39_42 a47_42 a55_42 a63_42 a71_42 b6 m7 m14 m21 m30 m38 m45 m52 m59 m67 m75 m83 m91 m99 m107 m115 m123 m131 m139 m147 m155 m163 m171 m179 m187 m195 m203 r16_9 r33_9 8, vCell (ad00 b0 a5 a7_9 a16_9 a25_9 a33_9 a41_9 a7_45_9 a16 a7_20 a27 a8_31 a16_31 a24_31 a32_31 a40_31 a48_31 a56_31 a64_31 a38 a7_42 a15_42 a23_42 a31_42 a39_42 a47_42 a55_42 a63_42 a71_42 b6 m7 m14 m21 m30 m38 m45 m52 m59 m67 m75 m83 m91 m99 m107 m115 m123 m131 m139 m147 m155 m163 m171 m179 m187 m195 m203 r16_9 r33_9) cA F00 Ar00 x00.2 8) H := by
    have h : H[a33_9]? = some (vp_cell (cA 2) (5, .inr (.inr (.inr (.inr (fun j => if j < 5 then some (r33_9 j) else none)))))) := hP 10 _ rfl
    show H[a33_9]? = some (vp_cell (cA 2) (5, .inr (.inr (.inr (.inr (fun j => some (ad00 b0 a5 a7_9 a16_9 a25_9 a33_9 a41_9 a7_45_9 a16 a7_20 a27 a8_31 a16_31 a24_31 a32_31 a40_31 a48_31 a56_31 a64_31 a38 a7_42 a15_42 a23_42 a31_42 a39_42 a47_42 a55_42 a63_42 a71_42 b6 m7 m14 m21 m30 m38 m45 m52 m59 m67 m75 m83 m91 m99 m107 m115 m123 m131 m139 m147 m155 m163 m171 m179 m187 m195 m203 r16_9 r33_9 (16 + j))))))))
    rw [h, vp_cell_q, vp_cell_q]
    congr 1
  intro i q hq
  obtain ⟨hi, rfl⟩ := vW_get hq
  exact v66 (P := fun i => va_at D vCl (ad00 b0 a5 a7_9 a16_9 a25_9 a33_9 a41_9 a7_45_9 a16 a7_20 a27 a8_31 a16_31 a24_31 a32_31 a40_31 a48_31 a56_31 a64_31 a38 a7_42 a15_42 a23_42 a31_42 a39_42 a47_42 a55_42 a63_42 a71_42 b6 m7 m14 m21 m30 m38 m45 m52 m59 m67 m75 m83 m91 m99 m107 m115 m123 m131 m139 m147 m155 m163 m171 m179 m187 m195 m203 r16_9 r33_9 i, vCell (ad00 b0 a5 a7_9 a16_9 a25_9 a33_9 a41_9 a7_45_9 a16 a7_20 a27 a8_31 a16_31 a24_31 a32_31 a40_31 a48_31 a56_31 a64_31 a38 a7_42 a15_42 a23_42 a31_42 a39_42 a47_42 a55_42 a63_42 a71_42 b6 m7 m14 m21 m30 m38 m45 m52 m59 m67 m75 m83 m91 m99 m107 m115 m123 m131 m139 m147 m155 m163 m171 m179 m187 m195 m203 r16_9 r33_9) cA F00 Ar00 x00.2 i) H) (hP 0 _ rfl) (hP 1 _ rfl) (hP 16 _ rfl) (hP 18 _ rfl) (hP 20 _ rfl) (hP 29 _ rfl) (hP 39 _ rfl) h7 h8 (hP 2 _ rfl) (hP 4 _ rfl) (hP 5 _ rfl) (hP 6 _ rfl) (hP 7 _ rfl) (hP 8 _ rfl) (hP 9 _ rfl) (hP 11 _ rfl) (hP 12 _ rfl) (hP 13 _ rfl) (hP 14 _ rfl) (hP 15 _ rfl) (hP 17 _ rfl) (hP 19 _ rfl) (hP 21 _ rfl) (hP 22 _ rfl) (hP 23 _ rfl) (hP 24 _ rfl) (hP 25 _ rfl) (hP 26 _ rfl) (hP 27 _ rfl) (hP 28 _ rfl) (hP 30 _ rfl) (hP 31 _ rfl) (hP 32 _ rfl) (hP 33 _ rfl) (hP 34 _ rfl) (hP 35 _ rfl) (hP 36 _ rfl) (hP 37 _ rfl) (hP 38 _ rfl) (hP 40 _ rfl) (hP 41 _ rfl) (hP 42 _ rfl) (hP 43 _ rfl) (hP 44 _ rfl) (hP 45 _ rfl) (hP 46 _ rfl) (hP 47 _ rfl) (hP 48 _ rfl) (hP 49 _ rfl) (hP 50 _ rfl) (hP 51 _ rfl) (hP 52 _ rfl) (hP 53 _ rfl) (hP 54 _ rfl) (hP 55 _ rfl) (hP 56 _ rfl) (hP 57 _ rfl) (hP 58 _ rfl) (hP 59 _ rfl) (hP 60 _ rfl) (hP 61 _ rfl) (hP 62 _ rfl) (hP 63 _ rfl) (hP 64 _ rfl) (hP 65 _ rfl) i hi
set_option maxHeartbeats 8000000 in
set_option maxRecDepth 100000 in
theorem v00_D {A : Nat → Prop} {cA : Nat → ClassId} {b0 a5 a7_9 a16_9 a25_9 a33_9 a41_9 a7_45_9 a16 a7_20 a27 a8_31 a16_31 a24_31 a32_31 a40_31 a48_31 a56_31 a64_31 a38 a7_42 a15_42 a23_42 a31_42 a39_42 a47_42 a55_42 a63_42 a71_42 b6 m7 m14 m21 m30 m38 m45 m52 m59 m67 m75 m83 m91 m99 m107 m115 m123 m131 m139 m147 m155 m163 m171 m179 m187 m195 m203 : Nat} {r16_9 r33_9 : Nat → Nat} (hD : va_D A (ws00 cA b0 a5 a7_9 a16_9 a25_9 a33_9 a41_9 a7_45_9 a16 a7_20 a27 a8_31 a16_31 a24_31 a32_31 a40_31 a48_31 a56_31 a64_31 a38 a7_42 a15_42 a23_42 a31_42 a39_42 a47_42 a55_42 a63_42 a71_42 b6 m7 m14 m21 m30 m38 m45 m52 m59 m67 m75 m83 m91 m99 m107 m115 m123 m131 m139 m147 m155 m163 m171 m179 m187 m195 m203 r16_9 r33_9)) : va_D A (vW (ad00 b0 a5 a7_9 a16_9 a25_9 a33_9 a41_9 a7_45_9 a16 a7_20 a27 a8_31 a16_31 a24_31 a32_31 a40_31 a48_31 a56_31 a64_31 a38 a7_42 a15_42 a23_42 a31_42 a39_42 a47_42 a55_42 a63_42 a71_42 b6 m7 m14 m21 m30 m38 m45 m52 m59 m67 m75 m83 m91 m99 m107 m115 m123 m131 m139 m147 m155 m163 m171 m179 m187 m195 m203 r16_9 r33_9) cA F00 Ar00 x00) := by
  have key : ∀ i, i < 66 → ∃ e, (ws00 cA b0 a5 a7_9 a16_9 a25_9 a33_9 a41_9 a7_45_9 a16 a7_20 a27 a8_31 a16_31 a24_31 a32_31 a40_31 a48_31 a56_31 a64_31 a38 a7_42 a15_42 a23_42 a31_42 a39_42 a47_42 a55_42 a63_42 a71_42 b6 m7 m14 m21 m30 m38 m45 m52 m59 m67 m75 m83 m91 m99 m107 m115 m123 m131 m139 m147 m155 m163 m171 m179 m187 m195 m203 r16_9 r33_9)[pi00.getD i 0]? = some (ad00 b0 a5 a7_9 a16_9 a25_9 a33_9 a41_9 a7_45_9 a16 a7_20 a27 a8_31 a16_31 a24_31 a32_31 a40_31 a48_31 a56_31 a64_31 a38 a7_42 a15_42 a23_42 a31_42 a39_42 a47_42 a55_42 a63_42 a71_42 b6 m7 m14 m21 m30 m38 m45 m52 m59 m67 m75 m83 m91 m99 m107 m115 m123 m131 m139 m147 m155 m163 m171 m179 m187 m195 m203 r16_9 r33_9 i, e) := v66 ⟨_, rfl⟩ ⟨_, rfl⟩ ⟨_, rfl⟩ ⟨_, rfl⟩ ⟨_, rfl⟩ ⟨_, rfl⟩ ⟨_, rfl⟩ ⟨_, rfl⟩ ⟨_, rfl⟩ ⟨_, rfl⟩ ⟨_, rfl⟩ ⟨_, rfl⟩ ⟨_, rfl⟩ ⟨_, rfl⟩ ⟨_, rfl⟩ ⟨_, rfl⟩ ⟨_, rfl⟩ ⟨_, rfl⟩ ⟨_, rfl⟩ ⟨_, rfl⟩ ⟨_, rfl⟩ ⟨_, rfl⟩ ⟨_, rfl⟩ ⟨_, rfl⟩ ⟨_, rfl⟩ ⟨_, rfl⟩ ⟨_, rfl⟩ ⟨_, rfl⟩ ⟨_, rfl⟩ ⟨_, rfl⟩ ⟨_, rfl⟩ ⟨_, rfl⟩ ⟨_, rfl⟩ ⟨_, rfl⟩ ⟨_, rfl⟩ ⟨_, rfl⟩ ⟨_, rfl⟩ ⟨_, rfl⟩ ⟨_, rfl⟩ ⟨_, rfl⟩ ⟨_, rfl⟩ ⟨_, rfl⟩ ⟨_, rfl⟩ ⟨_, rfl⟩ ⟨_, rfl⟩ ⟨_, rfl⟩ ⟨_, rfl⟩ ⟨_, rfl⟩ ⟨_, rfl⟩ ⟨_, rfl⟩ ⟨_, rfl⟩ ⟨_, rfl⟩ ⟨_, rfl⟩ ⟨_, rfl⟩ ⟨_, rfl⟩ ⟨_, rfl⟩ ⟨_, rfl⟩ ⟨_, rfl⟩ ⟨_, rfl⟩ ⟨_, rfl⟩ ⟨_, rfl⟩ ⟨_, rfl⟩ ⟨_, rfl⟩ ⟨_, rfl⟩ ⟨_, rfl⟩ ⟨_, rfl⟩
  constructor
  · intro i j p q hp hq e
    obtain ⟨hi, rfl⟩ := vW_get hp
    obtain ⟨hj, rfl⟩ := vW_get hq
    obtain ⟨e1, h1⟩ := key i hi
    obtain ⟨e2, h2⟩ := key j hj
    exact pi00_inj i hi j hj (hD.1 _ _ _ _ h1 h2 e)
  · intro i q hq
    obtain ⟨hi, rfl⟩ := vW_get hq
    obtain ⟨e1, h1⟩ := key i hi
    have h2 := hD.2 _ _ h1
    exact h2
