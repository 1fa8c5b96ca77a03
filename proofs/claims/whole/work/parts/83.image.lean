/-! IMAGES: the reference keeps one and goes back to it -/
theorem carS11 {B : Nat} {s : ST} (hB : B + 993 ≤ 6000) (h81 : gi s 0 81 = 0) (h80 : gi s 0 80 = nI B) :
    ∃ z1 z2 z3 z4 z5 z6 z7 z8 z9 z10 z11, fX12_carryRow_2 s = some z1 ∧ fX12_carryRow_7 z1 = some z2 ∧ fX12_carryRow_8 z2 = some z3 ∧ fX12_carryRow_10 z3 = some z4 ∧ fX12_carryRow_13 z4 = some z5 ∧ fX12_carryRow_14 z5 = some z6 ∧ fX12_carryRow_15 z6 = some z7 ∧ fX12_carryRow_16 z7 = some z8 ∧ fX12_carryRow_17 z8 = some z9 ∧ fX12_carryRow_18 z9 = some z10 ∧ fX12_carryRow_46 z10 = some z11 ∧ gi z11 0 80 = nI (B + 993) ∧ (∀ j, j ≠ 80 → gi z11 0 j = gi s 0 j) ∧ (∀ j, j < 5 → gi z11 54 (B + j) = gi s 2 j) ∧ (∀ j, j < 8 → gi z11 54 (B + 5 + j) = gi s 7 j) ∧ (∀ j, j < 8 → gi z11 54 (B + 13 + j) = gi s 8 j) ∧ (∀ j, j < 8 → gi z11 54 (B + 21 + j) = gi s 10 j) ∧ (∀ j, j < 10 → gi z11 54 (B + 29 + j) = gi s 13 j) ∧ (∀ j, j < 10 → gi z11 54 (B + 39 + j) = gi s 14 j) ∧ (∀ j, j < 10 → gi z11 54 (B + 49 + j) = gi s 15 j) ∧ (∀ j, j < 5 → gi z11 54 (B + 59 + j) = gi s 16 j) ∧ (∀ j, j < 8 → gi z11 54 (B + 64 + j) = gi s 17 j) ∧ (∀ j, j < 1 → gi z11 54 (B + 72 + j) = gi s 18 j) ∧ (∀ j, j < 920 → gi z11 54 (B + 73 + j) = gi s 46 j) ∧ (∀ j, j < B ∨ B + 993 ≤ j → gi z11 54 j = gi s 54 j) ∧ Fr [0, 54] s z11 := by
  obtain ⟨z1, a1, b1, c1, d1, e1, f1⟩ := cs2 (p := B) (s := s) (by omega) h81 h80
  obtain ⟨z2, a2, b2, c2, d2, e2, f2⟩ := cs7 (p := (B + 5)) (s := z1) (by omega) (by rw [e1 81 (by decide)]; exact h81) b1
  obtain ⟨z3, a3, b3, c3, d3, e3, f3⟩ := cs8 (p := (B + 13)) (s := z2) (by omega) (by rw [e2 81 (by decide), e1 81 (by decide)]; exact h81) b2
  obtain ⟨z4, a4, b4, c4, d4, e4, f4⟩ := cs10 (p := (B + 21)) (s := z3) (by omega) (by rw [e3 81 (by decide), e2 81 (by decide), e1 81 (by decide)]; exact h81) b3
  obtain ⟨z5, a5, b5, c5, d5, e5, f5⟩ := cs13 (p := (B + 29)) (s := z4) (by omega) (by rw [e4 81 (by decide), e3 81 (by decide), e2 81 (by decide), e1 81 (by decide)]; exact h81) b4
  obtain ⟨z6, a6, b6, c6, d6, e6, f6⟩ := cs14 (p := (B + 39)) (s := z5) (by omega) (by rw [e5 81 (by decide), e4 81 (by decide), e3 81 (by decide), e2 81 (by decide), e1 81 (by decide)]; exact h81) b5
  obtain ⟨z7, a7, b7, c7, d7, e7, f7⟩ := cs15 (p := (B + 49)) (s := z6) (by omega) (by rw [e6 81 (by decide), e5 81 (by decide), e4 81 (by decide), e3 81 (by decide), e2 81 (by decide), e1 81 (by decide)]; exact h81) b6
  obtain ⟨z8, a8, b8, c8, d8, e8, f8⟩ := cs16 (p := (B + 59)) (s := z7) (by omega) (by rw [e7 81 (by decide), e6 81 (by decide), e5 81 (by decide), e4 81 (by decide), e3 81 (by decide), e2 81 (by decide), e1 81 (by decide)]; exact h81) b7
  obtain ⟨z9, a9, b9, c9, d9, e9, f9⟩ := cs17 (p := (B + 64)) (s := z8) (by omega) (by rw [e8 81 (by decide), e7 81 (by decide), e6 81 (by decide), e5 81 (by decide), e4 81 (by decide), e3 81 (by decide), e2 81 (by decide), e1 81 (by decide)]; exact h81) b8
  obtain ⟨z10, a10, b10, c10, d10, e10, f10⟩ := cs18 (p := (B + 72)) (s := z9) (by omega) (by rw [e9 81 (by decide), e8 81 (by decide), e7 81 (by decide), e6 81 (by decide), e5 81 (by decide), e4 81 (by decide), e3 81 (by decide), e2 81 (by decide), e1 81 (by decide)]; exact h81) b9
  obtain ⟨z11, a11, b11, c11, d11, e11, f11⟩ := cs46 (p := (B + 73)) (s := z10) (by omega) (by rw [e10 81 (by decide), e9 81 (by decide), e8 81 (by decide), e7 81 (by decide), e6 81 (by decide), e5 81 (by decide), e4 81 (by decide), e3 81 (by decide), e2 81 (by decide), e1 81 (by decide)]; exact h81) b10
  refine ⟨z1, z2, z3, z4, z5, z6, z7, z8, z9, z10, z11, a1, a2, a3, a4, a5, a6, a7, a8, a9, a10, a11, b11, fun j hj => ?_, fun j hj => ?_, fun j hj => ?_, fun j hj => ?_, fun j hj => ?_, fun j hj => ?_, fun j hj => ?_, fun j hj => ?_, fun j hj => ?_, fun j hj => ?_, fun j hj => ?_, fun j hj => ?_, fun j hj => ?_, ?_⟩
  · rw [e11 j hj, e10 j hj, e9 j hj, e8 j hj, e7 j hj, e6 j hj, e5 j hj, e4 j hj, e3 j hj, e2 j hj, e1 j hj]
  · rw [d11 _ (by omega), d10 _ (by omega), d9 _ (by omega), d8 _ (by omega), d7 _ (by omega), d6 _ (by omega), d5 _ (by omega), d4 _ (by omega), d3 _ (by omega), d2 _ (by omega), c1 j hj]
  · rw [d11 _ (by omega), d10 _ (by omega), d9 _ (by omega), d8 _ (by omega), d7 _ (by omega), d6 _ (by omega), d5 _ (by omega), d4 _ (by omega), d3 _ (by omega), c2 j hj, f1.gi (by decide)]
  · rw [d11 _ (by omega), d10 _ (by omega), d9 _ (by omega), d8 _ (by omega), d7 _ (by omega), d6 _ (by omega), d5 _ (by omega), d4 _ (by omega), c3 j hj, f2.gi (by decide), f1.gi (by decide)]
  · rw [d11 _ (by omega), d10 _ (by omega), d9 _ (by omega), d8 _ (by omega), d7 _ (by omega), d6 _ (by omega), d5 _ (by omega), c4 j hj, f3.gi (by decide), f2.gi (by decide), f1.gi (by decide)]
  · rw [d11 _ (by omega), d10 _ (by omega), d9 _ (by omega), d8 _ (by omega), d7 _ (by omega), d6 _ (by omega), c5 j hj, f4.gi (by decide), f3.gi (by decide), f2.gi (by decide), f1.gi (by decide)]
  · rw [d11 _ (by omega), d10 _ (by omega), d9 _ (by omega), d8 _ (by omega), d7 _ (by omega), c6 j hj, f5.gi (by decide), f4.gi (by decide), f3.gi (by decide), f2.gi (by decide), f1.gi (by decide)]
  · rw [d11 _ (by omega), d10 _ (by omega), d9 _ (by omega), d8 _ (by omega), c7 j hj, f6.gi (by decide), f5.gi (by decide), f4.gi (by decide), f3.gi (by decide), f2.gi (by decide), f1.gi (by decide)]
  · rw [d11 _ (by omega), d10 _ (by omega), d9 _ (by omega), c8 j hj, f7.gi (by decide), f6.gi (by decide), f5.gi (by decide), f4.gi (by decide), f3.gi (by decide), f2.gi (by decide), f1.gi (by decide)]
  · rw [d11 _ (by omega), d10 _ (by omega), c9 j hj, f8.gi (by decide), f7.gi (by decide), f6.gi (by decide), f5.gi (by decide), f4.gi (by decide), f3.gi (by decide), f2.gi (by decide), f1.gi (by decide)]
  · rw [d11 _ (by omega), c10 j hj, f9.gi (by decide), f8.gi (by decide), f7.gi (by decide), f6.gi (by decide), f5.gi (by decide), f4.gi (by decide), f3.gi (by decide), f2.gi (by decide), f1.gi (by decide)]
  · rw [c11 j hj, f10.gi (by decide), f9.gi (by decide), f8.gi (by decide), f7.gi (by decide), f6.gi (by decide), f5.gi (by decide), f4.gi (by decide), f3.gi (by decide), f2.gi (by decide), f1.gi (by decide)]
  · rw [d11 j (by omega), d10 j (by omega), d9 j (by omega), d8 j (by omega), d7 j (by omega), d6 j (by omega), d5 j (by omega), d4 j (by omega), d3 j (by omega), d2 j (by omega), d1 j (by omega)]
  · exact ((((((((((f1.mono (by decide)).trans (f2.mono (by decide))).trans (f3.mono (by decide))).trans (f4.mono (by decide))).trans (f5.mono (by decide))).trans (f6.mono (by decide))).trans (f7.mono (by decide))).trans (f8.mono (by decide))).trans (f9.mono (by decide))).trans (f10.mono (by decide))).trans (f11.mono (by decide))

theorem carL11 {B : Nat} {s : ST} (hB : B + 993 ≤ 6000) (h81 : gi s 0 81 = 1) (h80 : gi s 0 80 = nI B) :
    ∃ z1 z2 z3 z4 z5 z6 z7 z8 z9 z10 z11, fX12_carryRow_2 s = some z1 ∧ fX12_carryRow_7 z1 = some z2 ∧ fX12_carryRow_8 z2 = some z3 ∧ fX12_carryRow_10 z3 = some z4 ∧ fX12_carryRow_13 z4 = some z5 ∧ fX12_carryRow_14 z5 = some z6 ∧ fX12_carryRow_15 z6 = some z7 ∧ fX12_carryRow_16 z7 = some z8 ∧ fX12_carryRow_17 z8 = some z9 ∧ fX12_carryRow_18 z9 = some z10 ∧ fX12_carryRow_46 z10 = some z11 ∧ gi z11 0 80 = nI (B + 993) ∧ (∀ j, j ≠ 80 → gi z11 0 j = gi s 0 j) ∧ (∀ j, j < 5 → gi z11 2 j = gi s 54 (B + j)) ∧ (∀ j, j < 8 → gi z11 7 j = gi s 54 (B + 5 + j)) ∧ (∀ j, j < 8 → gi z11 8 j = gi s 54 (B + 13 + j)) ∧ (∀ j, j < 8 → gi z11 10 j = gi s 54 (B + 21 + j)) ∧ (∀ j, j < 10 → gi z11 13 j = gi s 54 (B + 29 + j)) ∧ (∀ j, j < 10 → gi z11 14 j = gi s 54 (B + 39 + j)) ∧ (∀ j, j < 10 → gi z11 15 j = gi s 54 (B + 49 + j)) ∧ (∀ j, j < 5 → gi z11 16 j = gi s 54 (B + 59 + j)) ∧ (∀ j, j < 8 → gi z11 17 j = gi s 54 (B + 64 + j)) ∧ (∀ j, j < 1 → gi z11 18 j = gi s 54 (B + 72 + j)) ∧ (∀ j, j < 920 → gi z11 46 j = gi s 54 (B + 73 + j)) ∧ (∀ j, 5 ≤ j → gi z11 2 j = gi s 2 j) ∧ (∀ j, 8 ≤ j → gi z11 7 j = gi s 7 j) ∧ (∀ j, 8 ≤ j → gi z11 8 j = gi s 8 j) ∧ (∀ j, 8 ≤ j → gi z11 10 j = gi s 10 j) ∧ (∀ j, 10 ≤ j → gi z11 13 j = gi s 13 j) ∧ (∀ j, 10 ≤ j → gi z11 14 j = gi s 14 j) ∧ (∀ j, 10 ≤ j → gi z11 15 j = gi s 15 j) ∧ (∀ j, 5 ≤ j → gi z11 16 j = gi s 16 j) ∧ (∀ j, 8 ≤ j → gi z11 17 j = gi s 17 j) ∧ (∀ j, 1 ≤ j → gi z11 18 j = gi s 18 j) ∧ (∀ j, 920 ≤ j → gi z11 46 j = gi s 46 j) ∧ Fr [0, 2, 7, 8, 10, 13, 14, 15, 16, 17, 18, 46] s z11 := by
  obtain ⟨z1, a1, b1, c1, d1, e1, f1⟩ := cl2 (p := B) (s := s) (by omega) h81 h80
  obtain ⟨z2, a2, b2, c2, d2, e2, f2⟩ := cl7 (p := (B + 5)) (s := z1) (by omega) (by rw [e1 81 (by decide)]; exact h81) b1
  obtain ⟨z3, a3, b3, c3, d3, e3, f3⟩ := cl8 (p := (B + 13)) (s := z2) (by omega) (by rw [e2 81 (by decide), e1 81 (by decide)]; exact h81) b2
  obtain ⟨z4, a4, b4, c4, d4, e4, f4⟩ := cl10 (p := (B + 21)) (s := z3) (by omega) (by rw [e3 81 (by decide), e2 81 (by decide), e1 81 (by decide)]; exact h81) b3
  obtain ⟨z5, a5, b5, c5, d5, e5, f5⟩ := cl13 (p := (B + 29)) (s := z4) (by omega) (by rw [e4 81 (by decide), e3 81 (by decide), e2 81 (by decide), e1 81 (by decide)]; exact h81) b4
  obtain ⟨z6, a6, b6, c6, d6, e6, f6⟩ := cl14 (p := (B + 39)) (s := z5) (by omega) (by rw [e5 81 (by decide), e4 81 (by decide), e3 81 (by decide), e2 81 (by decide), e1 81 (by decide)]; exact h81) b5
  obtain ⟨z7, a7, b7, c7, d7, e7, f7⟩ := cl15 (p := (B + 49)) (s := z6) (by omega) (by rw [e6 81 (by decide), e5 81 (by decide), e4 81 (by decide), e3 81 (by decide), e2 81 (by decide), e1 81 (by decide)]; exact h81) b6
  obtain ⟨z8, a8, b8, c8, d8, e8, f8⟩ := cl16 (p := (B + 59)) (s := z7) (by omega) (by rw [e7 81 (by decide), e6 81 (by decide), e5 81 (by decide), e4 81 (by decide), e3 81 (by decide), e2 81 (by decide), e1 81 (by decide)]; exact h81) b7
  obtain ⟨z9, a9, b9, c9, d9, e9, f9⟩ := cl17 (p := (B + 64)) (s := z8) (by omega) (by rw [e8 81 (by decide), e7 81 (by decide), e6 81 (by decide), e5 81 (by decide), e4 81 (by decide), e3 81 (by decide), e2 81 (by decide), e1 81 (by decide)]; exact h81) b8
  obtain ⟨z10, a10, b10, c10, d10, e10, f10⟩ := cl18 (p := (B + 72)) (s := z9) (by omega) (by rw [e9 81 (by decide), e8 81 (by decide), e7 81 (by decide), e6 81 (by decide), e5 81 (by decide), e4 81 (by decide), e3 81 (by decide), e2 81 (by decide), e1 81 (by decide)]; exact h81) b9
  obtain ⟨z11, a11, b11, c11, d11, e11, f11⟩ := cl46 (p := (B + 73)) (s := z10) (by omega) (by rw [e10 81 (by decide), e9 81 (by decide), e8 81 (by decide), e7 81 (by decide), e6 81 (by decide), e5 81 (by decide), e4 81 (by decide), e3 81 (by decide), e2 81 (by decide), e1 81 (by decide)]; exact h81) b10
  refine ⟨z1, z2, z3, z4, z5, z6, z7, z8, z9, z10, z11, a1, a2, a3, a4, a5, a6, a7, a8, a9, a10, a11, b11, fun j hj => ?_, fun j hj => ?_, fun j hj => ?_, fun j hj => ?_, fun j hj => ?_, fun j hj => ?_, fun j hj => ?_, fun j hj => ?_, fun j hj => ?_, fun j hj => ?_, fun j hj => ?_, fun j hj => ?_, fun j hj => ?_, fun j hj => ?_, fun j hj => ?_, fun j hj => ?_, fun j hj => ?_, fun j hj => ?_, fun j hj => ?_, fun j hj => ?_, fun j hj => ?_, fun j hj => ?_, fun j hj => ?_, ?_⟩
  · rw [e11 j hj, e10 j hj, e9 j hj, e8 j hj, e7 j hj, e6 j hj, e5 j hj, e4 j hj, e3 j hj, e2 j hj, e1 j hj]
  · rw [f11.gi (by decide), f10.gi (by decide), f9.gi (by decide), f8.gi (by decide), f7.gi (by decide), f6.gi (by decide), f5.gi (by decide), f4.gi (by decide), f3.gi (by decide), f2.gi (by decide), c1 j hj]
  · rw [f11.gi (by decide), f10.gi (by decide), f9.gi (by decide), f8.gi (by decide), f7.gi (by decide), f6.gi (by decide), f5.gi (by decide), f4.gi (by decide), f3.gi (by decide), c2 j hj, f1.gi (by decide)]
  · rw [f11.gi (by decide), f10.gi (by decide), f9.gi (by decide), f8.gi (by decide), f7.gi (by decide), f6.gi (by decide), f5.gi (by decide), f4.gi (by decide), c3 j hj, f2.gi (by decide), f1.gi (by decide)]
  · rw [f11.gi (by decide), f10.gi (by decide), f9.gi (by decide), f8.gi (by decide), f7.gi (by decide), f6.gi (by decide), f5.gi (by decide), c4 j hj, f3.gi (by decide), f2.gi (by decide), f1.gi (by decide)]
  · rw [f11.gi (by decide), f10.gi (by decide), f9.gi (by decide), f8.gi (by decide), f7.gi (by decide), f6.gi (by decide), c5 j hj, f4.gi (by decide), f3.gi (by decide), f2.gi (by decide), f1.gi (by decide)]
  · rw [f11.gi (by decide), f10.gi (by decide), f9.gi (by decide), f8.gi (by decide), f7.gi (by decide), c6 j hj, f5.gi (by decide), f4.gi (by decide), f3.gi (by decide), f2.gi (by decide), f1.gi (by decide)]
  · rw [f11.gi (by decide), f10.gi (by decide), f9.gi (by decide), f8.gi (by decide), c7 j hj, f6.gi (by decide), f5.gi (by decide), f4.gi (by decide), f3.gi (by decide), f2.gi (by decide), f1.gi (by decide)]
  · rw [f11.gi (by decide), f10.gi (by decide), f9.gi (by decide), c8 j hj, f7.gi (by decide), f6.gi (by decide), f5.gi (by decide), f4.gi (by decide), f3.gi (by decide), f2.gi (by decide), f1.gi (by decide)]
  · rw [f11.gi (by decide), f10.gi (by decide), c9 j hj, f8.gi (by decide), f7.gi (by decide), f6.gi (by decide), f5.gi (by decide), f4.gi (by decide), f3.gi (by decide), f2.gi (by decide), f1.gi (by decide)]
  · rw [f11.gi (by decide), c10 j hj, f9.gi (by decide), f8.gi (by decide), f7.gi (by decide), f6.gi (by decide), f5.gi (by decide), f4.gi (by decide), f3.gi (by decide), f2.gi (by decide), f1.gi (by decide)]
  · rw [c11 j hj, f10.gi (by decide), f9.gi (by decide), f8.gi (by decide), f7.gi (by decide), f6.gi (by decide), f5.gi (by decide), f4.gi (by decide), f3.gi (by decide), f2.gi (by decide), f1.gi (by decide)]
  · rw [f11.gi (by decide), f10.gi (by decide), f9.gi (by decide), f8.gi (by decide), f7.gi (by decide), f6.gi (by decide), f5.gi (by decide), f4.gi (by decide), f3.gi (by decide), f2.gi (by decide), d1 j hj]
  · rw [f11.gi (by decide), f10.gi (by decide), f9.gi (by decide), f8.gi (by decide), f7.gi (by decide), f6.gi (by decide), f5.gi (by decide), f4.gi (by decide), f3.gi (by decide), d2 j hj, f1.gi (by decide)]
  · rw [f11.gi (by decide), f10.gi (by decide), f9.gi (by decide), f8.gi (by decide), f7.gi (by decide), f6.gi (by decide), f5.gi (by decide), f4.gi (by decide), d3 j hj, f2.gi (by decide), f1.gi (by decide)]
  · rw [f11.gi (by decide), f10.gi (by decide), f9.gi (by decide), f8.gi (by decide), f7.gi (by decide), f6.gi (by decide), f5.gi (by decide), d4 j hj, f3.gi (by decide), f2.gi (by decide), f1.gi (by decide)]
  · rw [f11.gi (by decide), f10.gi (by decide), f9.gi (by decide), f8.gi (by decide), f7.gi (by decide), f6.gi (by decide), d5 j hj, f4.gi (by decide), f3.gi (by decide), f2.gi (by decide), f1.gi (by decide)]
  · rw [f11.gi (by decide), f10.gi (by decide), f9.gi (by decide), f8.gi (by decide), f7.gi (by decide), d6 j hj, f5.gi (by decide), f4.gi (by decide), f3.gi (by decide), f2.gi (by decide), f1.gi (by decide)]
  · rw [f11.gi (by decide), f10.gi (by decide), f9.gi (by decide), f8.gi (by decide), d7 j hj, f6.gi (by decide), f5.gi (by decide), f4.gi (by decide), f3.gi (by decide), f2.gi (by decide), f1.gi (by decide)]
  · rw [f11.gi (by decide), f10.gi (by decide), f9.gi (by decide), d8 j hj, f7.gi (by decide), f6.gi (by decide), f5.gi (by decide), f4.gi (by decide), f3.gi (by decide), f2.gi (by decide), f1.gi (by decide)]
  · rw [f11.gi (by decide), f10.gi (by decide), d9 j hj, f8.gi (by decide), f7.gi (by decide), f6.gi (by decide), f5.gi (by decide), f4.gi (by decide), f3.gi (by decide), f2.gi (by decide), f1.gi (by decide)]
  · rw [f11.gi (by decide), d10 j hj, f9.gi (by decide), f8.gi (by decide), f7.gi (by decide), f6.gi (by decide), f5.gi (by decide), f4.gi (by decide), f3.gi (by decide), f2.gi (by decide), f1.gi (by decide)]
  · rw [d11 j hj, f10.gi (by decide), f9.gi (by decide), f8.gi (by decide), f7.gi (by decide), f6.gi (by decide), f5.gi (by decide), f4.gi (by decide), f3.gi (by decide), f2.gi (by decide), f1.gi (by decide)]
  · exact ((((((((((f1.mono (by decide)).trans (f2.mono (by decide))).trans (f3.mono (by decide))).trans (f4.mono (by decide))).trans (f5.mono (by decide))).trans (f6.mono (by decide))).trans (f7.mono (by decide))).trans (f8.mono (by decide))).trans (f9.mono (by decide))).trans (f10.mono (by decide))).trans (f11.mono (by decide))

theorem imS {k : Nat} {s : ST} (hk : k < 4) : ∃ z, fX12_carriesAll (nI k) 0 s = some z ∧ EqV (gi s) (IVf (gi z) k) ∧ gi z 54 (1200 * k + 57) = gi s 0 66 ∧ (∀ j, j < 1200 * k ∨ 1200 * k + 1051 ≤ j → gi z 54 j = gi s 54 j) ∧ (∀ j, j ≠ 80 → j ≠ 81 → gi z 0 j = gi s 0 j) ∧ (∀ a j, a ≠ 0 → a ≠ 54 → a ≠ 47 → gi z a j = gi s a j) := by
  obtain ⟨z1, z2, z3, z4, z5, z6, z7, z8, a1, a2, a3, a4, a5, a6, a7, a8, b, c, d1, d2, d3, d4, d5, d6, d7, d8, e, f⟩ := carS8 (B := 1200 * k) (s := si (si s 0 80 (nI (1200 * k))) 0 81 0) (by omega) (gi_same _ _ _ _) (by rw [gi_dif (by decide), gi_same])
  have f' : ∀ a j, a ≠ 0 → a ≠ 54 → gi z8 a j = gi s a j := fun a j h1 h2 => by
    rw [f.gi (by simp only [List.mem_cons, List.not_mem_nil, or_false]; omega), gi_ne h1, gi_ne h1]
  have c0 : ∀ j, j ≠ 80 → j ≠ 81 → gi z8 0 j = gi s 0 j := fun j h1 h2 => by rw [c j h1, gi_dif h2, gi_dif h1]
  obtain ⟨y1, g1, g2, g3, g4, g5, g6⟩ := cs47 (p := 1200 * k + 57) (s := si z8 47 0 (gi z8 0 66)) (by omega) (by rw [gi_ne (by decide), c _ (by decide), gi_same]) (by rw [gi_ne (by decide), b])
  have y66 : gi y1 47 0 = gi y1 0 66 := by
    rw [g6.gi (by decide), gi_same, g5 _ (by decide), gi_ne (by decide)]
  have hself : si y1 0 66 (gi y1 47 0) = y1 := by rw [y66]; exact si_self y1 0 66
  obtain ⟨w1, w2, w3, w4, w5, w6, w7, w8, w9, w10, w11, h1, h2, h3, h4, h5, h6, h7, h8, h9, h10, h11, k1, k2, k3, k4, k5, k6, k7, k8, k9, k10, k11, k12, k13, k14, k15⟩ := carS11 (B := 1200 * k + 58) (s := y1) (by omega) (by rw [g5 _ (by decide), gi_ne (by decide), c _ (by decide), gi_same]) g2
  have y' : ∀ a j, a ≠ 0 → a ≠ 54 → a ≠ 47 → gi y1 a j = gi s a j := fun a j x1 x2 x3 => by
    rw [g6.gi (by simp only [List.mem_cons, List.not_mem_nil, or_false]; omega), gi_ne x3, f' a j x1 x2]
  have low : ∀ j, j < 1200 * k + 57 → gi w11 54 j = gi z8 54 j := fun j hj => by
    rw [k14 _ (by omega), g4 _ (by omega), gi_ne (by decide)]
  refine ⟨w11, ?_, ⟨fun j hj => ?_, fun j hj => ?_, fun j hj => ?_, fun j hj => ?_, fun j hj => ?_, fun j hj => ?_, fun j hj => ?_, fun j hj => ?_, fun j hj => ?_, fun j hj => ?_, fun j hj => ?_, fun j hj => ?_, fun j hj => ?_, fun j hj => ?_, fun j hj => ?_, fun j hj => ?_, fun j hj => ?_, fun j hj => ?_, fun j hj => ?_⟩, ?_, fun j hj => ?_, fun j x1 x2 => ?_, fun a j x1 x2 x3 => ?_⟩
  · unfold fX12_carriesAll
    rw [nj_mull]
    simp only [lt_v, ck_t (show bz 0 = true by decide), a1, a2, a3, a4, a5, a6, a7, a8, bd_s]
    rw [if_neg (show ¬ nI k = 4 by rw [nj_eqr (by omega) (by decide)]; omega), ck_t (by decide), ix_lit (by decide), g1, bd_s, ck_t (by decide)]
    simp only [hself, h1, h2, h3, h4, h5, h6, h7, h8, h9, h10, h11, bd_s]
  · show gi w11 54 (1200 * k + 0 + j) = _
    rw [show 1200 * k + 0 + j = 1200 * k + j from rfl, low _ (by omega), d1 j hj, gi_ne (by decide), gi_ne (by decide)]
  · show gi w11 54 (1200 * k + 58 + j) = _
    rw [k3 j hj, y' _ _ (by decide) (by decide) (by decide)]
  · show gi w11 54 (1200 * k + 13 + j) = _
    rw [low _ (by omega), d2 j hj, gi_ne (by decide), gi_ne (by decide)]
  · show gi w11 54 (1200 * k + 18 + j) = _
    rw [low _ (by omega), d3 j hj, gi_ne (by decide), gi_ne (by decide)]
  · show gi w11 54 (1200 * k + 23 + j) = _
    rw [low _ (by omega), d4 j hj, gi_ne (by decide), gi_ne (by decide)]
  · show gi w11 54 (1200 * k + 28 + j) = _
    rw [low _ (by omega), d5 j hj, gi_ne (by decide), gi_ne (by decide)]
  · show gi w11 54 (1200 * k + 63 + j) = _
    rw [show 1200 * k + 63 + j = 1200 * k + 58 + 5 + j by omega, k4 j hj, y' _ _ (by decide) (by decide) (by decide)]
  · show gi w11 54 (1200 * k + 71 + j) = _
    rw [show 1200 * k + 71 + j = 1200 * k + 58 + 13 + j by omega, k5 j hj, y' _ _ (by decide) (by decide) (by decide)]
  · show gi w11 54 (1200 * k + 33 + j) = _
    rw [low _ (by omega), d6 j hj, gi_ne (by decide), gi_ne (by decide)]
  · show gi w11 54 (1200 * k + 79 + j) = _
    rw [show 1200 * k + 79 + j = 1200 * k + 58 + 21 + j by omega, k6 j hj, y' _ _ (by decide) (by decide) (by decide)]
  · show gi w11 54 (1200 * k + 41 + j) = _
    rw [low _ (by omega), d7 j hj, gi_ne (by decide), gi_ne (by decide)]
  · show gi w11 54 (1200 * k + 49 + j) = _
    rw [low _ (by omega), d8 j hj, gi_ne (by decide), gi_ne (by decide)]
  · show gi w11 54 (1200 * k + 87 + j) = _
    rw [show 1200 * k + 87 + j = 1200 * k + 58 + 29 + j by omega, k7 j hj, y' _ _ (by decide) (by decide) (by decide)]
  · show gi w11 54 (1200 * k + 97 + j) = _
    rw [show 1200 * k + 97 + j = 1200 * k + 58 + 39 + j by omega, k8 j hj, y' _ _ (by decide) (by decide) (by decide)]
  · show gi w11 54 (1200 * k + 107 + j) = _
    rw [show 1200 * k + 107 + j = 1200 * k + 58 + 49 + j by omega, k9 j hj, y' _ _ (by decide) (by decide) (by decide)]
  · show gi w11 54 (1200 * k + 117 + j) = _
    rw [show 1200 * k + 117 + j = 1200 * k + 58 + 59 + j by omega, k10 j hj, y' _ _ (by decide) (by decide) (by decide)]
  · show gi w11 54 (1200 * k + 122 + j) = _
    rw [show 1200 * k + 122 + j = 1200 * k + 58 + 64 + j by omega, k11 j hj, y' _ _ (by decide) (by decide) (by decide)]
  · show gi w11 54 (1200 * k + 130 + j) = _
    rw [show 1200 * k + 130 + j = 1200 * k + 58 + 72 + j by omega, k12 j hj, y' _ _ (by decide) (by decide) (by decide)]
  · show gi w11 54 (1200 * k + 131 + j) = _
    rw [show 1200 * k + 131 + j = 1200 * k + 58 + 73 + j by omega, k13 j hj, y' _ _ (by decide) (by decide) (by decide)]
  · rw [k14 _ (by omega), g3 0 (by omega), gi_same, c0 _ (by decide) (by decide)]
  · rw [k14 _ (by omega), g4 _ (by omega), gi_ne (by decide), e _ (by omega), gi_ne (by decide), gi_ne (by decide)]
  · rw [k2 j x1, g5 j x1, gi_ne (by decide), c0 j x1 x2]
  · rw [k15.gi (by simp only [List.mem_cons, List.not_mem_nil, or_false]; omega), y' a j x1 x2 x3]
theorem imL {k : Nat} {s : ST} (hk : k < 4) : ∃ z, fX12_carriesAll (nI k) 1 s = some z ∧ EqV (IVf (gi s) k) (gi z) ∧ gi z 0 66 = gi s 54 (1200 * k + 57) ∧ (∀ j, j ≠ 66 → j ≠ 80 → j ≠ 81 → gi z 0 j = gi s 0 j) ∧ (∀ a j, 19 ≤ a → a ≠ 46 → a ≠ 47 → gi z a j = gi s a j) := by
  obtain ⟨z1, z2, z3, z4, z5, z6, z7, z8, a1, a2, a3, a4, a5, a6, a7, a8, b, c, d1, d2, d3, d4, d5, d6, d7, d8, -, -, -, -, -, -, -, -, f⟩ := carL8 (B := 1200 * k) (s := si (si s 0 80 (nI (1200 * k))) 0 81 1) (by omega) (gi_same _ _ _ _) (by rw [gi_dif (by decide), gi_same])
  have c0 : ∀ j, j ≠ 80 → j ≠ 81 → gi z8 0 j = gi s 0 j := fun j h1 h2 => by rw [c j h1, gi_dif h2, gi_dif h1]
  have z54 : ∀ j, gi z8 54 j = gi s 54 j := fun j => by rw [f.gi (by decide), gi_ne (by decide), gi_ne (by decide)]
  obtain ⟨y1, g1, g2, g3, g4, g5, g6⟩ := cl47 (p := 1200 * k + 57) (s := si z8 47 0 (gi z8 0 66)) (by omega) (by rw [gi_ne (by decide), c _ (by decide), gi_same]) (by rw [gi_ne (by decide), b])
  have y47 : gi y1 47 0 = gi s 54 (1200 * k + 57) := by rw [g3 0 (by omega), gi_ne (by decide)]; exact z54 _
  obtain ⟨y2, hy2⟩ : ∃ y, si y1 0 66 (gi y1 47 0) = y := ⟨_, rfl⟩
  have y54 : ∀ j, gi y2 54 j = gi s 54 j := fun j => by rw [← hy2, gi_ne (by decide), g6.gi (by decide), gi_ne (by decide), z54]
  obtain ⟨w1, w2, w3, w4, w5, w6, w7, w8, w9, w10, w11, h1, h2, h3, h4, h5, h6, h7, h8, h9, h10, h11, k1, k2, k3, k4, k5, k6, k7, k8, k9, k10, k11, k12, k13, -, -, -, -, -, -, -, -, -, -, -, k15⟩ := carL11 (B := 1200 * k + 58) (s := y2) (by omega) (by rw [← hy2, gi_dif (by decide), g5 _ (by decide), gi_ne (by decide), c _ (by decide), gi_same]) (by rw [← hy2, gi_dif (by decide)]; exact g2)
  have r8 : ∀ a j, a ≠ 0 → a ≠ 47 → a ∉ [0, 2, 7, 8, 10, 13, 14, 15, 16, 17, 18, 46] → gi w11 a j = gi z8 a j := fun a j x1 x2 x3 => by
    rw [k15.gi x3, ← hy2, gi_ne x1, g6.gi (by simp only [List.mem_cons, List.not_mem_nil, or_false]; omega), gi_ne x2]
  refine ⟨w11, ?_, ⟨fun j hj => ?_, fun j hj => ?_, fun j hj => ?_, fun j hj => ?_, fun j hj => ?_, fun j hj => ?_, fun j hj => ?_, fun j hj => ?_, fun j hj => ?_, fun j hj => ?_, fun j hj => ?_, fun j hj => ?_, fun j hj => ?_, fun j hj => ?_, fun j hj => ?_, fun j hj => ?_, fun j hj => ?_, fun j hj => ?_, fun j hj => ?_⟩, ?_, fun j x1 x2 x3 => ?_, fun a j x1 x2 x3 => ?_⟩
  · unfold fX12_carriesAll
    rw [nj_mull]
    simp only [lt_v, ck_t (show bz 1 = true by decide), a1, a2, a3, a4, a5, a6, a7, a8, bd_s]
    rw [if_neg (show ¬ nI k = 4 by rw [nj_eqr (by omega) (by decide)]; omega), ck_t (by decide), ix_lit (by decide), g1, bd_s, ck_t (by decide)]
    simp only [hy2, h1, h2, h3, h4, h5, h6, h7, h8, h9, h10, h11, bd_s]
  · show _ = gi s 54 (1200 * k + j)
    rw [r8 _ _ (by decide) (by decide) (by decide), d1 j hj, gi_ne (by decide), gi_ne (by decide)]
  · show _ = gi s 54 (1200 * k + 58 + j)
    rw [k3 j hj, y54]
  · show _ = gi s 54 (1200 * k + 13 + j)
    rw [r8 _ _ (by decide) (by decide) (by decide), d2 j hj, gi_ne (by decide), gi_ne (by decide)]
  · show _ = gi s 54 (1200 * k + 18 + j)
    rw [r8 _ _ (by decide) (by decide) (by decide), d3 j hj, gi_ne (by decide), gi_ne (by decide)]
  · show _ = gi s 54 (1200 * k + 23 + j)
    rw [r8 _ _ (by decide) (by decide) (by decide), d4 j hj, gi_ne (by decide), gi_ne (by decide)]
  · show _ = gi s 54 (1200 * k + 28 + j)
    rw [r8 _ _ (by decide) (by decide) (by decide), d5 j hj, gi_ne (by decide), gi_ne (by decide)]
  · show _ = gi s 54 (1200 * k + 63 + j)
    rw [k4 j hj, y54, show 1200 * k + 58 + 5 + j = 1200 * k + 63 + j by omega]
  · show _ = gi s 54 (1200 * k + 71 + j)
    rw [k5 j hj, y54, show 1200 * k + 58 + 13 + j = 1200 * k + 71 + j by omega]
  · show _ = gi s 54 (1200 * k + 33 + j)
    rw [r8 _ _ (by decide) (by decide) (by decide), d6 j hj, gi_ne (by decide), gi_ne (by decide)]
  · show _ = gi s 54 (1200 * k + 79 + j)
    rw [k6 j hj, y54, show 1200 * k + 58 + 21 + j = 1200 * k + 79 + j by omega]
  · show _ = gi s 54 (1200 * k + 41 + j)
    rw [r8 _ _ (by decide) (by decide) (by decide), d7 j hj, gi_ne (by decide), gi_ne (by decide)]
  · show _ = gi s 54 (1200 * k + 49 + j)
    rw [r8 _ _ (by decide) (by decide) (by decide), d8 j hj, gi_ne (by decide), gi_ne (by decide)]
  · show _ = gi s 54 (1200 * k + 87 + j)
    rw [k7 j hj, y54, show 1200 * k + 58 + 29 + j = 1200 * k + 87 + j by omega]
  · show _ = gi s 54 (1200 * k + 97 + j)
    rw [k8 j hj, y54, show 1200 * k + 58 + 39 + j = 1200 * k + 97 + j by omega]
  · show _ = gi s 54 (1200 * k + 107 + j)
    rw [k9 j hj, y54, show 1200 * k + 58 + 49 + j = 1200 * k + 107 + j by omega]
  · show _ = gi s 54 (1200 * k + 117 + j)
    rw [k10 j hj, y54, show 1200 * k + 58 + 59 + j = 1200 * k + 117 + j by omega]
  · show _ = gi s 54 (1200 * k + 122 + j)
    rw [k11 j hj, y54, show 1200 * k + 58 + 64 + j = 1200 * k + 122 + j by omega]
  · show _ = gi s 54 (1200 * k + 130 + j)
    rw [k12 j hj, y54, show 1200 * k + 58 + 72 + j = 1200 * k + 130 + j by omega]
  · show _ = gi s 54 (1200 * k + 131 + j)
    rw [k13 j hj, y54, show 1200 * k + 58 + 73 + j = 1200 * k + 131 + j by omega]
  · rw [k2 _ (by decide), ← hy2, gi_same, y47]
  · rw [k2 j x2, ← hy2, gi_dif x1, g5 j x2, gi_ne (by decide), c0 j x2 x3]
  · rw [r8 a j (by omega) x3 (by simp only [List.mem_cons, List.not_mem_nil, or_false]; omega), f.gi (by simp only [List.mem_cons, List.not_mem_nil, or_false]; omega), gi_ne (by omega), gi_ne (by omega)]
def EqX (C : Vw) (w : Nat) (C' : Vw) (w' : Nat) : Prop := (∀ j, (j = 2 ∨ j = 3 ∨ j = 4 ∨ j = 7 ∨ j = 8) → C' w' j = C w j) ∧ (∀ j, j < 9 → C' (w' + 1) j = C (w + 1) j) ∧ (∀ j, j < 5 → C' (w' + 2) j = C (w + 2) j) ∧ (∀ j, j < 5 → C' (w' + 3) j = C (w + 3) j) ∧ (∀ j, j < 8 → C' (w' + 4) j = C (w + 4) j) ∧ (∀ j, j < 8 → C' (w' + 5) j = C (w + 5) j) ∧ (∀ j, j < 8 → C' (w' + 6) j = C (w + 6) j) ∧ (∀ j, j < 8 → C' (w' + 7) j = C (w + 7) j) ∧ (∀ j, j < 46 → C' (w' + 9) j = C (w + 9) j) ∧ (∀ j, j < 30 → C' (w' + 10) j = C (w + 10) j) ∧ (∀ j, j < 920 → C' (w' + 11) j = C (w + 11) j)
theorem WhR_eqx {C C' V V' : Vw} {w w' R R' d d' : Nat} {pm pm' : Int32} (hC : EqX C w C' w') (hV : EqV V V') (hp : pm' = pm) (hR : R ≤ R') (hd : d ≤ d') (h : WhR C V w pm R d) : WhR C' V' w' pm' R' d' := by
  obtain ⟨np, nm, ⟨t1, t2, t3, t4, t5, t6, t7, t8, t9, t10, t11, t12, t13, t14, t15⟩, s1, s2, r1, r2, x1, ⟨nl, l1, l2, l3, l4⟩, na, ap, a1, a2, a3, a4, a5, a6⟩ := h
  have hV0 := hV
  obtain ⟨c0, c1, c2, c3, c4, c5, c6, c7, c9, c10, c11⟩ := hC
  obtain ⟨h1, h2, h3, h4, h5, h6, h7, h8, h9, h10, h11, h12, h13, h14, h15, h16, h17, h18, h46⟩ := hV
  refine ⟨np, nm, ⟨t1, t2, ?_, ?_, ?_, ?_, ?_, ?_, ?_, ?_, ?_, ?_, ?_, ?_, ?_⟩, ?_, ?_, ?_, ?_, ?_, ⟨nl, l1, ?_, ?_, ?_⟩, na, ap, a1, a2, ?_, ?_, ?_, ?_⟩
  · rw [c1 7 (by omega)]; exact t3
  · rw [h1 3 (by omega)]; exact t4
  · rw [c1 8 (by omega)]; exact t5
  · rw [h1 4 (by omega)]; exact t6
  · rw [c1 3 (by omega), h1 2 (by omega)]; exact t7
  · rw [h1 2 (by omega)]; exact t8
  · rw [c1 0 (by omega), h1 2 (by omega)]; exact t9
  · rw [c1 1 (by omega), h1 0 (by omega)]; exact t10
  · rw [c1 2 (by omega), h1 1 (by omega)]; exact t11
  · rw [c1 4 (by omega), c1 5 (by omega), h1 5 (by omega), h1 6 (by omega)]; exact t12
  · rw [c1 6 (by omega), h18 0 (by omega)]; exact t13
  · intro q hq
    rw [show w' + 1 + 1 = w' + 2 from rfl, show w' + 1 + 2 = w' + 3 from rfl, c2 q (by omega), c3 q (by omega), h2 q (by omega), h16 q (by omega)]; exact t14 q hq
  · intro m hm
    rw [show w' + 1 + 3 = w' + 4 from rfl, show w' + 1 + 4 = w' + 5 from rfl, show w' + 1 + 5 = w' + 6 from rfl, show w' + 1 + 6 = w' + 7 from rfl, c4 m (by omega), c5 m (by omega), c6 m (by omega), c7 m (by omega), h7 m (by omega), h8 m (by omega), h10 m (by omega), h17 m (by omega)]; exact t15 m hm
  · exact SR_eq s1 t1 t2 c9 (fun j hj => LVf_eq hV0 hj)
  · exact SB_mono (SB_eq s2 t1 t2 (fun j hj => LVf_eq hV0 hj)) hd
  · rw [c0 2 (by decide), h1 12 (by omega)]; exact r1
  · rw [h1 12 (by omega)]
    rcases r2 with r2 | ⟨r, r3, r4⟩
    · exact Or.inl r2
    · exact Or.inr ⟨r, by omega, r4⟩
  · rw [c0 3 (by decide), h1 11 (by omega)]; exact x1
  · rw [c0 4 (by decide)]; exact l2
  · rw [h1 10 (by omega)]; exact l3
  · intro i hi
    rw [c10 _ (by omega), c10 _ (by omega), c10 _ (by omega), h13 i (by omega), h14 i (by omega), h15 i (by omega)]; exact l4 i hi
  · rw [c0 8 (by decide)]; exact a3
  · rw [hp]; exact a4
  · rw [c0 7 (by decide)]; exact a5
  · intro i hi
    obtain ⟨b1, b2⟩ := a6 i hi
    have e : ∀ j, j < 46 → PVf V' (na - 1 - i) j = PVf V (na - 1 - i) j := fun j hj => PVf_eq h46 (by omega) hj
    refine ⟨SR_eq b1 t1 t2 (fun j hj => c11 _ (by omega)) e, SB_mono (SB_eq b2 t1 t2 e) hd⟩
