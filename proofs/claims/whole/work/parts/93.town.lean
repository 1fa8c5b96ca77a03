/-! TOWN -/
theorem town_ok {t : PH} {s s' : ST} {d : Nat} (h : INV t s s' d) : A2 t (d + 1) (fX11_town s) (fX12_town s') := by
  obtain ⟨B, n, tc, tv⟩ := TpR_T h.1.1
  have hn := tc.1
  -- the beginning of both
  obtain ⟨s1, hs1⟩ : ∃ z, si (si (si (si (si (si (si (si (si (si (si (si s 4 0 0) 4 1 0) 4 2 0) 4 3 0) 4 4 1) 4 5 1) 4 6 0) 4 7 0) 4 8 0) 3 2 0) 1 2 0) 1 3 0 = z := ⟨_, rfl⟩
  have c1 : FCt s s1 := fun a j e1 e2 e3 => by
    rw [← hs1, si_x _ _ (by omega), si_x _ _ (by omega), gi_ne (by omega), gi_ne (by omega), gi_ne (by omega), gi_ne (by omega), gi_ne (by omega), gi_ne (by omega), gi_ne (by omega), gi_ne (by omega), gi_ne (by omega), gi_ne (by omega)]
  obtain ⟨y1, hy1⟩ : ∃ z, si (si (si (si (si s' 0 27 0) 0 28 0) 0 31 0) 0 32 0) 0 33 0 = z := ⟨_, rfl⟩
  obtain ⟨s1', b1, b2, b3⟩ := nsL 9 0 FUEL y1 (by omega) (by rw [FUEL_eq]; omega)
  have b1 : fX12_readsAll_L6 FUEL 0 y1 = some (nI 9, s1') := b1
  have v1 : ∀ a j, ¬ (a = 0 ∧ (j = 27 ∨ j = 28 ∨ 31 ≤ j ∧ j ≤ 33)) → ¬ (19 ≤ a ∧ a ≤ 25) → gi s1' a j = gi s' a j := fun a j e1 e2 => by
    rw [b3.gi (by simp only [List.mem_cons, List.not_mem_nil, or_false]; omega), ← hy1, si_x _ _ (by omega), si_x _ _ (by omega), si_x _ _ (by omega), si_x _ _ (by omega), si_x _ _ (by omega)]
  have m1 : MR B n s1 s1' := by
    refine ⟨⟨hn, by rw [c1 _ _ (by omega) (by omega) (by omega)]; exact tc.2.1, fun i hi => by rw [c1 _ _ (by omega) (by omega) (by omega)]; exact tc.2.2 i hi⟩, ⟨hn, by rw [v1 _ _ (by omega) (by omega)]; exact tv.2.1, fun i hi => by rw [v1 _ _ (by omega) (by omega)]; exact tv.2.2 i hi⟩, Or.inr ⟨by rw [← hs1, gi_same], ?_, 0, 0, by omega, by omega, rfl, ?_, ?_⟩⟩
    · rw [b3.gi (by decide), ← hy1]
      simp (disch := omega) only [gi_dif, gi_same]
    · rw [← hs1, gi_dif (by decide), gi_same]; rfl
    · rw [b3.gi (by decide), ← hy1]
      simp (disch := omega) only [gi_dif, gi_same]
      rfl
  have r4 : gi s1 4 0 = 0 ∧ gi s1 4 1 = 0 ∧ gi s1 4 2 = 0 ∧ gi s1 4 3 = 0 ∧ gi s1 4 4 = 1 ∧ gi s1 4 5 = 1 ∧ gi s1 4 6 = 0 ∧ gi s1 4 7 = 0 ∧ gi s1 4 8 = 0 ∧ gi s1 3 2 = 0 := by
    rw [← hs1]
    simp only [gi_si, Nat.reduceEqDiff, if_true, if_false, and_self]
  obtain ⟨q0, q1, q2, q3, q4, q5, q6, q7, q8, q9⟩ := r4
  have r19 : ∀ j, j < 9 → gi s1' 19 j = if j = 5 ∨ j = 6 then 1 else 0 := fun j hj => by rw [b2, if_pos (show 0 ≤ j ∧ j < 9 by omega)]
  have tt : TT s1 s1' 0 0 0 := by
    refine ⟨⟨by omega, by omega, q7, r19 3 (by omega), q8, r19 4 (by omega)⟩, ⟨?_, ?_, ?_, Or.inl ⟨rfl, q0, rfl, rfl⟩⟩, ⟨?_, ?_, ?_, ?_, Or.inl ⟨q9, r19 7 (by omega)⟩⟩, ?_, fun q hq => absurd hq (by omega), fun m hm => absurd hm (by omega)⟩
    · rw [q1, r19 0 (by omega)]; rfl
    · rw [q2, r19 1 (by omega)]; rfl
    · rw [q3, r19 2 (by omega)]; rfl
    · rw [q4, r19 5 (by omega)]; rfl
    · rw [r19 5 (by omega)]; decide
    · rw [q5, r19 6 (by omega)]; rfl
    · rw [r19 6 (by omega)]; decide
    · rw [q6, r19 8 (by omega)]; rfl
  obtain ⟨z, z', x, x', g, d1, d2, d3, d4, d5, d6, d7, d8⟩ := read_L 40 0 FUEL FUEL s1 s1' 0 0 (by omega) (by rw [FUEL_eq]; omega) (by rw [FUEL_eq]; omega) m1 (by rw [← hs1, gi_same]) tt
  have d1 : fX8_read_L23 FUEL 1 1 s1 = some (0, x, z) := d1
  have d2 : fX12_readsAll_L44 FUEL 0 1 s1' = some (x', 0, z') := d2
  have hread : fX8_read s = some (nI g, z) := by
    unfold fX8_read fX7_clear_4 fX6_rewind
    simp only [lt_v, bd_s, hs1, d1, d4]
  have hall : fX12_readsAll s' = some (si z' 0 26 0) := by
    unfold fX12_readsAll fX12_starts
    simp only [lt_v, bd_s, hy1, b1, d2]
  have cz : FCt s z := c1.trans d6
  have vz : ∀ a j, ¬ (a = 0 ∧ (j = 27 ∨ j = 28 ∨ 31 ≤ j ∧ j ≤ 33)) → ¬ (19 ≤ a ∧ a ≤ 25) → gi z' a j = gi s' a j := fun a j e1 e2 => (d7 a j (by omega) e2).trans (v1 a j e1 e2)
  have f56 : ∀ j, 34 ≤ j → gi z' 0 j = gi s' 0 j := fun j hj => vz 0 j (by omega) (by omega)
  unfold fX11_town fX12_town
  rw [hread, bd_s, lt_v, hall, bd_s]
  have g28 : gi (si z' 0 26 0) 0 28 = nI g := by rw [gi_dif (by decide)]; exact d5
  by_cases cg : g = 0
  · subst cg
    obtain ⟨np, nm, k2, hk2, T⟩ := d8 rfl
    obtain ⟨⟨n2, n3, n4, n5, n6, n7⟩, ⟨l1, l2, l3, l4⟩, ⟨f1, f2, f3, f4, f5⟩, e1, p1, t1⟩ := T
    have l5 : gi z 4 0 = 1 ∧ 1 ≤ gi z' 19 2 ∧ gi z' 19 2 ≤ 99 := by
      rcases l4 with ⟨e, _⟩ | ⟨_, e⟩
      · omega
      · exact e
    -- the class
    have hb : bz (gi (si z 1 1 0) 4 0) = true := by rw [gi_ne (by decide), l5.1]; rfl
    have htw := tw_eq (a := 18) (p := 4) (s := si z 1 1 0) (by omega) hb
    obtain ⟨w, hw⟩ : ∃ w, twE 18 4 (si z 1 1 0) = w := ⟨_, rfl⟩
    rw [hw] at htw
    have wo : ∀ a j, ¬ (18 ≤ a ∧ a ≤ 24) → ¬ (a = 1 ∧ j = 1) → gi w a j = gi z a j := fun a j e1 e2 => by rw [← hw, twE_o (by omega), si_x _ _ e2]
    have w18 : ∀ j, j < 9 → gi w 18 j = gi z 4 j := fun j hj => by rw [← hw, twE_0 hj, gi_ne (by decide)]
    have w19 : ∀ j, j < 5 → gi w 19 j = gi z 5 j := fun j hj => by rw [← hw, show 19 = 18 + 1 from rfl, twE_1 hj, gi_ne (by decide)]
    have w20 : ∀ j, j < 5 → gi w 20 j = gi z 6 j := fun j hj => by rw [← hw, show 20 = 18 + 2 from rfl, twE_2 hj, gi_ne (by decide)]
    have w21 : ∀ j, j < 8 → gi w 21 j = gi z 7 j := fun j hj => by rw [← hw, show 21 = 18 + 3 from rfl, twE_3 hj, gi_ne (by decide)]
    have w22 : ∀ j, j < 8 → gi w 22 j = gi z 8 j := fun j hj => by rw [← hw, show 22 = 18 + 4 from rfl, twE_4 hj, gi_ne (by decide)]
    have w23 : ∀ j, j < 8 → gi w 23 j = gi z 9 j := fun j hj => by rw [← hw, show 23 = 18 + 5 from rfl, twE_5 hj, gi_ne (by decide)]
    have w24 : ∀ j, j < 8 → gi w 24 j = gi z 10 j := fun j hj => by rw [← hw, show 24 = 18 + 6 from rfl, twE_6 hj, gi_ne (by decide)]
    obtain ⟨y, a1, a2, a3, a4, a5, a6, a7⟩ := begN (u := w) n2 n3 (by rw [w18 _ (by omega)]; exact n4) (by rw [w18 _ (by omega)]; exact n6)
    obtain ⟨zc, hzc⟩ : ∃ q, si (si y 17 4 0) 17 8 0 = q := ⟨_, rfl⟩
    have yo : ∀ a j, a ≠ 26 → gi y a j = gi w a j := fun a j e => a2.gi (by simp only [List.mem_cons, List.not_mem_nil, or_false]; exact e) j
    have C : ∀ a j, ¬ (a = 17 ∧ (j = 4 ∨ j = 8)) → gi zc a j = gi y a j := fun a j e => by rw [← hzc, si_x _ _ (by omega), si_x _ _ (by omega)]
    have C0 : ∀ a j, ¬ (a = 17 ∧ (j = 4 ∨ j = 8)) → a ≠ 26 → ¬ (18 ≤ a ∧ a ≤ 24) → ¬ (a = 1 ∧ 1 ≤ j ∧ j ≤ 6) → a ≠ 3 → ¬ (4 ≤ a ∧ a ≤ 10) → gi zc a j = gi s a j := fun a j e1 e2 e3 e4 e5 e6 => by
      rw [C a j e1, yo a j e2, wo a j e3 (by omega), cz a j (by omega) e5 e6]
    -- the reference
    obtain ⟨u1, h1, h2, h3⟩ := scL 11 0 FUEL (si z' 0 26 0) (by omega) (by rw [FUEL_eq]; omega)
    have h1 : fX12_town_L21 FUEL 0 (si z' 0 26 0) = some (nI 11, u1) := h1
    obtain ⟨u2, i1, i2, i3⟩ := cp20_2 u1
    obtain ⟨u3, j1, j2, j3⟩ := cp21_16 u2
    obtain ⟨u4, k1, k3, k4⟩ := cp22_7 u3
    obtain ⟨u5, o1, o2, o3⟩ := cp23_8 u4
    obtain ⟨u6, r1, r2, r3⟩ := cp24_17 u5
    obtain ⟨u7, x1, x2, x3⟩ := cp25_10 u6
    have fu : ∀ a j, a ∉ [1, 2, 16, 7, 8, 17, 10] → gi u7 a j = gi (si z' 0 26 0) a j := fun a j e => by
      simp only [List.mem_cons, List.not_mem_nil, or_false, not_or] at e
      rw [x3.gi (by simp; omega), r3.gi (by simp; omega), o3.gi (by simp; omega), k4.gi (by simp; omega), j3.gi (by simp; omega), i3.gi (by simp; omega), h3.gi (by simp; omega)]
    have u19 : ∀ a j, 19 ≤ a → a ≤ 25 → gi u7 a j = gi z' a j := fun a j e1 e2 => by rw [fu a j (by simp; omega), gi_ne (by omega)]
    obtain ⟨u8, hu8⟩ : ∃ q, si u7 18 0 (gi z' 19 8) = q := ⟨_, rfl⟩
    obtain ⟨u9, g1, g2, g3, g4, g5, g6, g7⟩ := begM u8
    obtain ⟨zv, hzv⟩ : ∃ q, si u9 0 66 0 = q := ⟨_, rfl⟩
    have V9 : ∀ a j, ¬ (a = 0 ∧ j = 66) → gi zv a j = gi u9 a j := fun a j e => by rw [← hzv, si_x _ _ e]
    have e8 : ∀ a j, a ≠ 18 → gi u8 a j = gi u7 a j := fun a j e => by rw [← hu8, gi_ne e]
    have e9 : ∀ a j, a ∉ [1, 3, 4, 5, 6, 9, 11, 12] → gi u9 a j = gi u8 a j := fun a j e => g2.gi e j
    have s1v : ∀ j, j < 9 → gi u7 1 j = gi z' 19 j := fun j hj => by
      rw [x3.gi (by decide), r3.gi (by decide), o3.gi (by decide), k4.gi (by decide), j3.gi (by decide), i3.gi (by decide), h2, if_pos (by omega), if_pos hj, gi_ne (by decide)]
    have s1w : ∀ j, 11 ≤ j → gi u7 1 j = gi s' 1 j := fun j hj => by
      rw [x3.gi (by decide), r3.gi (by decide), o3.gi (by decide), k4.gi (by decide), j3.gi (by decide), i3.gi (by decide), h2, if_neg (by omega), gi_ne (by decide), vz _ _ (by omega) (by omega)]
    have s10 : gi u7 1 10 = 0 := by
      rw [x3.gi (by decide), r3.gi (by decide), o3.gi (by decide), k4.gi (by decide), j3.gi (by decide), i3.gi (by decide), h2, if_pos (by omega), if_neg (by omega)]
    have z1 : ∀ j, j < 9 → gi zv 1 j = gi z' 19 j := fun j hj => by
      rw [V9 _ _ (by omega)]
      by_cases e : j = 8
      · subst e; rw [g4, ← hu8, gi_same]
      · rw [g3 j e (by omega), e8 _ _ (by decide), s1v j hj]
    have z1w : ∀ j, 11 ≤ j → gi zv 1 j = gi s' 1 j := fun j hj => by rw [V9 _ _ (by omega), g3 j (by omega) (by omega), e8 _ _ (by decide), s1w j hj]
    have v2 : ∀ j, j < 5 → gi zv 2 j = gi z' 20 j := fun j hj => by
      rw [V9 _ _ (by omega), e9 _ _ (by decide), e8 _ _ (by decide), x3.gi (by decide), r3.gi (by decide), o3.gi (by decide), k4.gi (by decide), j3.gi (by decide), i2 j hj, h3.gi (by decide), gi_ne (by decide)]
    have v16 : ∀ j, j < 5 → gi zv 16 j = gi z' 21 j := fun j hj => by
      rw [V9 _ _ (by omega), e9 _ _ (by decide), e8 _ _ (by decide), x3.gi (by decide), r3.gi (by decide), o3.gi (by decide), k4.gi (by decide), j2 j hj, i3.gi (by decide), h3.gi (by decide), gi_ne (by decide)]
    have v7 : ∀ j, j < 8 → gi zv 7 j = gi z' 22 j := fun j hj => by
      rw [V9 _ _ (by omega), e9 _ _ (by decide), e8 _ _ (by decide), x3.gi (by decide), r3.gi (by decide), o3.gi (by decide), k3 j hj, j3.gi (by decide), i3.gi (by decide), h3.gi (by decide), gi_ne (by decide)]
    have v8 : ∀ j, j < 8 → gi zv 8 j = gi z' 23 j := fun j hj => by
      rw [V9 _ _ (by omega), e9 _ _ (by decide), e8 _ _ (by decide), x3.gi (by decide), r3.gi (by decide), o2 j hj, k4.gi (by decide), j3.gi (by decide), i3.gi (by decide), h3.gi (by decide), gi_ne (by decide)]
    have v17 : ∀ j, j < 8 → gi zv 17 j = gi z' 24 j := fun j hj => by
      rw [V9 _ _ (by omega), e9 _ _ (by decide), e8 _ _ (by decide), x3.gi (by decide), r2 j hj, o3.gi (by decide), k4.gi (by decide), j3.gi (by decide), i3.gi (by decide), h3.gi (by decide), gi_ne (by decide)]
    have v10 : ∀ j, j < 8 → gi zv 10 j = gi z' 25 j := fun j hj => by
      rw [V9 _ _ (by omega), e9 _ _ (by decide), e8 _ _ (by decide), x2 j hj, r3.gi (by decide), o3.gi (by decide), k4.gi (by decide), j3.gi (by decide), i3.gi (by decide), h3.gi (by decide), gi_ne (by decide)]
    have v18 : gi zv 18 0 = gi z' 19 8 := by rw [V9 _ _ (by omega), e9 _ _ (by decide), ← hu8, gi_same]
    have vo : ∀ a j, ¬ (a = 0 ∧ (26 ≤ j ∧ j ≤ 28 ∨ 31 ≤ j ∧ j ≤ 33 ∨ j = 66)) → a ∉ [1, 2, 3, 4, 5, 6, 7, 8, 9, 10, 11, 12, 16, 17, 18] → ¬ (19 ≤ a ∧ a ≤ 25) → gi zv a j = gi s' a j := fun a j e1 e2 e3 => by
      simp only [List.mem_cons, List.not_mem_nil, or_false, not_or] at e2
      rw [V9 _ _ (by omega), e9 _ _ (by simp; omega), e8 _ _ (by omega), fu a j (by simp; omega), si_x _ _ (by omega), vz a j (by omega) e3]
    have u9r : ∀ q, q < 5 → gi u8 16 q = gi zv 16 q ∧ gi u8 2 q = gi zv 2 q := fun q hq => ⟨by rw [V9 _ _ (by omega), e9 _ _ (by decide)], by rw [V9 _ _ (by omega), e9 _ _ (by decide)]⟩
    have hnm18 : gi zc 18 8 = nI nm := by rw [C _ _ (by omega), yo _ _ (by decide), w18 _ (by omega)]; exact n6
    refine ⟨nI nm, zc, zv, ?_, ?_, IN0_w h.1 (by omega) (fun _ => ⟨0, by omega, ?_, ?_, fun i hi => absurd hi (by omega)⟩) (vo _ _ (by omega) (by decide) (by omega)) (fun a j ha => C0 _ _ (by omega) (by omega) (by omega) (by omega) (by omega) (by omega)) (C0 _ _ (by omega) (by omega) (by omega) (by omega) (by omega) (by omega)) (vo _ _ (by omega) (by decide) (by omega)) (fun a j ha => vo a j (by omega) (by simp; omega) (by omega)) (fun R r1 r2 r0 hwh => ?_), ?_, ?_, ?_⟩
    · rw [if_pos (show nI 0 = 0 from rfl)]
      unfold fX10_moveInto_17_4
      rw [htw, bd_s, a1, bd_s, lt_v, lt_v, hzc, bd_s, hnm18]
    · rw [g28, if_pos (show nI 0 ≤ 0 by decide), h1, bd_s, i1, bd_s, j1, bd_s, k1, bd_s, o1, bd_s, r1, bd_s, x1, bd_s, ck_t (by decide), ck_t (by decide), lt_v, ix_lit (by decide), ix_lit (by decide), u19 _ _ (by omega) (by omega), hu8, g1, bd_s, lt_v, hzv, ck_t (by decide), ix_lit (by decide), z1 _ (by omega), n7]
    · rw [C _ _ (by omega), yo _ _ (by decide), ← hw, twE_o (by omega), gi_same]; rfl
    · rw [V9 _ _ (by omega), e9 _ _ (by decide), e8 _ _ (by decide), fu _ _ (by decide), gi_same]; rfl
    · obtain ⟨np0, nm0, _, _, _, s4, s5, s6, _, na, ap, _, s9, _, _, s12, _⟩ := hwh
      have cr : ∀ a j, 18 ≤ a → a ≤ 24 → gi zc a j = gi w a j := fun a j e1 e2 => by rw [C _ _ (by omega), yo _ _ (by omega)]
      refine ⟨np, nm, ⟨n2, n3, ?_, ?_, hnm18, ?_, ?_, ?_, Or.inr ⟨?_, ?_⟩, ?_, ?_, fun _ => ⟨?_, ?_, ?_, ?_⟩, ?_, fun q hq => ?_, fun m hm => ?_⟩, fun j hj => ?_, ⟨fun q hq => ?_, fun m hm => ?_, 0, by omega, ?_⟩, ?_, ?_, ?_, ⟨0, by omega, ?_, ?_, fun i hi => absurd hi (by omega)⟩, 0, ap, by omega, s9, ?_, ?_, ?_, fun i hi => absurd hi (by omega)⟩
      · rw [cr _ _ (by omega) (by omega), w18 _ (by omega)]; exact n4
      · rw [z1 _ (by omega)]; exact n5
      · rw [z1 _ (by omega)]; exact n7
      · rw [cr _ _ (by omega) (by omega), w18 _ (by omega), z1 _ (by omega)]; exact l3
      · rw [z1 _ (by omega)]; exact ⟨by have := l5.2.1; grind, l5.2.2⟩
      · rw [cr _ _ (by omega) (by omega), w18 _ (by omega)]; exact l5.1
      · rw [z1 _ (by omega)]; exact l5.2.1
      · rw [cr _ _ (by omega) (by omega), w18 _ (by omega), z1 _ (by omega)]; exact l1
      · rw [cr _ _ (by omega) (by omega), w18 _ (by omega), z1 _ (by omega)]; exact l2
      · rw [cr _ _ (by omega) (by omega), w18 _ (by omega), z1 _ (by omega)]; exact f1
      · rw [cr _ _ (by omega) (by omega), w18 _ (by omega), z1 _ (by omega)]; exact f3
      · rw [z1 _ (by omega)]; exact f2
      · rw [z1 _ (by omega)]; exact f4
      · rw [cr _ _ (by omega) (by omega), w18 _ (by omega), v18]; exact e1
      · obtain ⟨y1, y2, y3, y4⟩ := p1 q hq
        rw [show 17 + 1 + 1 = 19 from rfl, show 17 + 1 + 2 = 20 from rfl, cr 19 _ (by omega) (by omega), cr 20 _ (by omega) (by omega), w19 _ (by omega), w20 _ (by omega), v2 _ (by omega), v16 _ (by omega)]
        exact ⟨y1, y2, y3, y4⟩
      · obtain ⟨a, b, y1, y2, y3, y4, y5, y6, y7, y8, y9, y10, y11⟩ := t1 m hm
        rw [show 17 + 1 + 3 = 21 from rfl, show 17 + 1 + 4 = 22 from rfl, show 17 + 1 + 5 = 23 from rfl, show 17 + 1 + 6 = 24 from rfl, cr 21 _ (by omega) (by omega), cr 22 _ (by omega) (by omega), cr 23 _ (by omega) (by omega), cr 24 _ (by omega) (by omega), w21 _ (by omega), w22 _ (by omega), w23 _ (by omega), w24 _ (by omega), v7 _ (by omega), v8 _ (by omega), v17 _ (by omega), v10 _ (by omega)]
        exact ⟨a, b, y1, y2, y3, y4, y5, y6, y7, y8, y9, y10, y11⟩
      · rw [LVf_lv, show 17 + 9 = 26 from rfl, C _ _ (by omega)]
        unfold vis at hj
        have lz : lv zv = lv u9 := funext (fun i => by unfold lv; rw [V9 _ _ (by omega), V9 _ _ (by omega), V9 _ _ (by omega), V9 _ _ (by omega), V9 _ _ (by omega), V9 _ _ (by omega), V9 _ _ (by omega), V9 _ _ (by omega), V9 _ _ (by omega)])
        rw [lz]
        by_cases e1' : j < np
        · rw [← lv_clock _ (by omega), (a3 j e1').1, (g6 j (by omega)).1, w20 _ (by omega), (u9r j (by omega)).1, v16 _ (by omega)]
          exact (p1 j e1').2.2.1
        by_cases e2 : 5 ≤ j ∧ j < 5 + np
        · obtain ⟨q, rfl⟩ : ∃ q, j = 5 + q := ⟨j - 5, by omega⟩
          rw [← lv_last _ (by omega), (a3 q (by omega)).2, (g6 q (by omega)).2.1, w19 _ (by omega), (u9r q (by omega)).2, v2 _ (by omega)]
          exact (p1 q (by omega)).1
        by_cases e3 : 10 ≤ j ∧ j < 15
        · obtain ⟨q, rfl⟩ : ∃ q, j = 10 + q := ⟨j - 10, by omega⟩
          rw [← lv_fined _ (by omega), a5 _ (by omega) (by omega), (g6 q (by omega)).2.2.1]
        by_cases e4 : 15 ≤ j ∧ j < 20
        · obtain ⟨q, rfl⟩ : ∃ q, j = 15 + q := ⟨j - 15, by omega⟩
          rw [← lv_waited _ (by omega), a5 _ (by omega) (by omega), (g6 q (by omega)).2.2.2]
        by_cases e5 : 20 ≤ j ∧ j < 20 + nm
        · obtain ⟨m, rfl⟩ : ∃ m, j = 20 + m := ⟨j - 20, by omega⟩
          rw [← lv_minute _ (by omega), (a4 m (by omega)).1, (g7 m (by omega)).1, w23 _ (by omega), show gi u8 17 m = gi zv 17 m by rw [V9 _ _ (by omega), e9 _ _ (by decide)], v17 _ (by omega)]
          obtain ⟨_, _, _, _, _, _, _, _, _, _, _, y10, _⟩ := t1 m (by omega)
          exact y10
        by_cases e6 : 28 ≤ j ∧ j < 28 + nm
        · obtain ⟨m, rfl⟩ : ∃ m, j = 28 + m := ⟨j - 28, by omega⟩
          rw [← lv_held _ (by omega), (a4 m (by omega)).2.1, (g7 m (by omega)).2.1]
        by_cases e7 : 36 ≤ j ∧ j < 36 + nm
        · obtain ⟨m, rfl⟩ : ∃ m, j = 36 + m := ⟨j - 36, by omega⟩
          rw [← lv_missed _ (by omega), (a4 m (by omega)).2.2, (g7 m (by omega)).2.2]
        by_cases e8' : j = 44
        · subst e8'
          rw [← lv_exempt, a6, g4, w18 _ (by omega), ← hu8, gi_same]; exact e1
        · obtain rfl : j = 45 := by omega
          rw [← lv_day0, a7, g5]
      · rw [LVf_lv, ← lv_clock _ (by omega), V9 _ _ (by omega), (g6 q (by omega)).1, (u9r q (by omega)).1, v16 _ (by omega)]
        exact (p1 q hq).2.2.2
      · rw [LVf_lv, ← lv_minute _ (by omega), V9 _ _ (by omega), (g7 m (by omega)).1, show gi u8 17 m = gi zv 17 m by rw [V9 _ _ (by omega), e9 _ _ (by decide)], v17 _ (by omega)]
        obtain ⟨_, _, _, _, _, _, _, _, _, _, _, _, y11⟩ := t1 m hm
        exact y11
      · rw [LVf_lv, ← lv_day0, V9 _ _ (by omega), g5]; rfl
      · rw [C0 _ _ (by omega) (by omega) (by omega) (by omega) (by omega) (by omega), z1w _ (by omega)]; exact s4
      · rw [z1w _ (by omega)]; exact s5
      · rw [C0 _ _ (by omega) (by omega) (by omega) (by omega) (by omega) (by omega), z1w _ (by omega)]; exact s6
      · rw [← hzc, gi_dif (by decide), gi_same]; rfl
      · rw [V9 _ _ (by omega), g3 _ (by decide) (by decide), e8 _ _ (by decide), s10]; rfl
      · rw [← hzc, gi_same]; rfl
      · rw [← hzv, gi_same]; rfl
      · rw [C0 _ _ (by omega) (by omega) (by omega) (by omega) (by omega) (by omega)]; exact s12
    · rw [vo _ _ (by omega) (by decide) (by omega)]; exact h.2.1
    · rw [vo _ _ (by omega) (by decide) (by omega)]; exact h.2.2.1
    · rw [vo _ _ (by omega) (by decide) (by omega)]; exact h.2.2.2
  · have ng : ¬ nI g = 0 := by rw [nj_eqr (by omega) (by decide)]; exact cg
    have nl : ¬ nI g ≤ 0 := by rw [nj_ler (by omega) (by decide)]; omega
    have C : ∀ a j, ¬ (a = 1 ∧ 1 ≤ j ∧ j ≤ 6) → a ≠ 3 → ¬ (4 ≤ a ∧ a ≤ 10) → gi (si z 1 1 0) a j = gi s a j := fun a j e1 e2 e3 => by rw [si_x _ _ (by omega), cz a j (by omega) e2 e3]
    have V : ∀ a j, ¬ (a = 0 ∧ (26 ≤ j ∧ j ≤ 28 ∨ 31 ≤ j ∧ j ≤ 33)) → ¬ (19 ≤ a ∧ a ≤ 25) → gi (si z' 0 26 0) a j = gi s' a j := fun a j e1 e2 => by rw [si_x _ _ (by omega), vz a j (by omega) e2]
    refine ⟨(-2) - nI g, si z 1 1 0, si z' 0 26 0, by rw [if_neg ng], by rw [g28, if_neg nl], IN0_w h.1 (by omega) (fun _ => ⟨0, by omega, by rw [gi_same]; rfl, by rw [gi_same]; rfl, fun i hi => absurd hi (by omega)⟩) (V _ _ (by omega) (by omega)) (fun a j ha => C _ _ (by omega) (by omega) (by omega)) (C _ _ (by omega) (by omega) (by omega)) (V _ _ (by omega) (by omega)) (fun a j ha => V a j (by omega) (by omega)) (fun R _ _ _ hw => ?_), ?_, ?_, ?_⟩
    · exact WhR_eq (EqW_row (fun i hi => funext (fun j => C _ _ (by omega) (by omega) (by omega)))) ⟨fun j _ => V _ _ (by omega) (by omega), fun j _ => V _ _ (by omega) (by omega), fun j _ => V _ _ (by omega) (by omega), fun j _ => V _ _ (by omega) (by omega), fun j _ => V _ _ (by omega) (by omega), fun j _ => V _ _ (by omega) (by omega), fun j _ => V _ _ (by omega) (by omega), fun j _ => V _ _ (by omega) (by omega), fun j _ => V _ _ (by omega) (by omega), fun j _ => V _ _ (by omega) (by omega), fun j _ => V _ _ (by omega) (by omega), fun j _ => V _ _ (by omega) (by omega), fun j _ => V _ _ (by omega) (by omega), fun j _ => V _ _ (by omega) (by omega), fun j _ => V _ _ (by omega) (by omega), fun j _ => V _ _ (by omega) (by omega), fun j _ => V _ _ (by omega) (by omega), fun j _ => V _ _ (by omega) (by omega), fun j _ => V _ _ (by omega) (by omega)⟩ (V _ _ (by omega) (by omega)) (Nat.le_refl _) (by omega) hw
    · rw [V _ _ (by omega) (by omega)]; exact h.2.1
    · rw [V _ _ (by omega) (by omega)]; exact h.2.2.1
    · rw [V _ _ (by omega) (by omega)]; exact h.2.2.2
