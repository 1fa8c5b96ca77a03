/-! A TOWN'S CLAUSES BY BOTH: fines, meetings, a clause -/
section TB1
variable {B : Nat → Nat} {n : Nat}
theorem fines_p {s s' : ST} {np nm k : Nat} (h : MR B n s s') (tt : TT s s' np nm k) (hk : 1 ≤ k) (h32 : gi s 3 2 = 0) : ∃ z z', fX8_readFines s = some z ∧ fX12_townPart 4 s' = some z' ∧ MR B n z z' ∧ FCt s z ∧ FVt s' z' ∧ (gi z 1 3 = 0 → TT z z' np nm (k + 1)) := by
  obtain ⟨n1, l1, f1, e1, p1, t1⟩ := tt
  obtain ⟨n2, n3, n4, n5, n6, n7⟩ := n1
  have m0 : MR B n (si s 3 2 1) s' := MR_w h (fun _ => gi_ne (by decide)) (fun _ => gi_ne (by decide)) (fun _ _ => rfl) (fun _ => rfl)
  obtain ⟨v1, v1', z1, z1', a1, b1, m1, c1, w1, i1⟩ := num_both (lo := 0) (hi := 9) (lo' := 0) (hi' := 9) m0 (fun _ => ⟨rfl, rfl⟩)
  have m1' := MR_si (a := 4) (j := 4) (b := 19) (i := 5) (x := v1) (y := v1') m1 (by omega) (by omega)
  obtain ⟨v2, v2', z2, z2', a2, b2, m2, c2, w2, i2⟩ := num_both (lo := 0) (hi := 9) (lo' := 0) (hi' := 9) m1' (fun _ => ⟨rfl, rfl⟩)
  have m2' := MR_si (a := 4) (j := 5) (b := 19) (i := 6) (x := v2) (y := v2') m2 (by omega) (by omega)
  refine ⟨si z2 4 5 v2, si (si z2' 19 6 v2') 19 7 1, ?_, ?_, MR_w m2' (fun _ => rfl) (fun _ => rfl) (fun _ _ => gi_ne (by decide)) (fun _ => gi_ne (by decide)), ((((FCt.si (by omega)).trans c1.t).trans (FCt.si (by omega))).trans c2.t).trans (FCt.si (by omega)), (((w1.t.trans (FVt.si (by omega))).trans w2.t).trans (FVt.si (by omega))).trans (FVt.si (by omega)), fun e => ?_⟩
  · unfold fX8_readFines
    rw [if_pos h32, lt_v, a1, bd_s, lt_v, a2, bd_s, lt_v]
  · unfold fX12_townPart
    rw [if_neg (by decide), if_neg (by decide), if_neg (by decide), if_neg (by decide), b1, bd_s, ck_t (by decide), lt_v, ix_lit (by decide), b2, bd_s, ck_t (by decide), lt_v, ix_lit (by decide), ck_t (by decide), lt_v, ix_lit (by decide), bd_s]
  · have e3 : gi z2 1 3 = 0 := by rw [gi_ne (by decide)] at e; exact e
    obtain ⟨p2, q2, ⟨k2, y2, r2⟩, lo2, hi2, -⟩ := i2 e3
    rw [gi_ne (by decide)] at p2
    obtain ⟨-, q1, ⟨k1, y1, r1⟩, lo1, hi1, -⟩ := i1 p2
    have C : ∀ a j, ¬ (a = 1 ∧ 2 ≤ j ∧ j ≤ 6) → ¬ (a = 4 ∧ (j = 4 ∨ j = 5)) → ¬ (a = 3 ∧ j = 2) → gi (si z2 4 5 v2) a j = gi s a j := fun a j x1 x2 x3 => by
      rw [si_x _ _ (by omega), c2 _ _ x1, si_x _ _ (by omega), c1 _ _ x1, si_x _ _ (by omega)]
    have V : ∀ a j, ¬ (a = 0 ∧ (j = 27 ∨ j = 28)) → ¬ (a = 19 ∧ (j = 5 ∨ j = 6 ∨ j = 7)) → gi (si (si z2' 19 6 v2') 19 7 1) a j = gi s' a j := fun a j x1 x2 => by
      rw [si_x _ _ (by omega), si_x _ _ (by omega), w2 _ _ x1, si_x _ _ (by omega), w1 _ _ x1]
    refine ⟨⟨n2, n3, by rw [C _ _ (by omega) (by omega) (by omega)]; exact n4, by rw [V _ _ (by omega) (by omega)]; exact n5, by rw [C _ _ (by omega) (by omega) (by omega)]; exact n6, by rw [V _ _ (by omega) (by omega)]; exact n7⟩, ?_, ?_, ?_, fun q hq => ?_, fun m hm => ?_⟩
    · obtain ⟨x1, x2, x3, x4⟩ := l1
      unfold Tl
      rw [C _ _ (by omega) (by omega) (by omega), C _ _ (by omega) (by omega) (by omega), C _ _ (by omega) (by omega) (by omega), C _ _ (by omega) (by omega) (by omega), V _ _ (by omega) (by omega), V _ _ (by omega) (by omega), V _ _ (by omega) (by omega)]
      refine ⟨x1, x2, x3, Or.inr ?_⟩
      rcases x4 with ⟨x5, -⟩ | ⟨-, x5⟩
      · omega
      · exact ⟨by omega, x5⟩
    · refine ⟨?_, ⟨?_, ?_⟩, ?_, ⟨?_, ?_⟩, Or.inr ⟨?_, gi_same _ _ _ _⟩⟩
      · rw [gi_dif (by decide), c2 _ _ (by omega), gi_same, gi_dif (by decide), gi_dif (by decide), w2 _ _ (by omega), gi_same, q1]
      · rw [gi_dif (by decide), gi_dif (by decide), w2 _ _ (by omega), gi_same, q1]; exact lo1
      · rw [gi_dif (by decide), gi_dif (by decide), w2 _ _ (by omega), gi_same, q1]; exact hi1
      · rw [gi_same, gi_dif (by decide), gi_same, q2]
      · rw [gi_dif (by decide), gi_same, q2]; exact lo2
      · rw [gi_dif (by decide), gi_same, q2]; exact hi2
      · rw [gi_ne (by decide), c2 _ _ (by omega), gi_ne (by decide), c1 _ _ (by omega), gi_same]
    · rw [C _ _ (by omega) (by omega) (by omega), V _ _ (by omega) (by omega)]; exact e1
    · rw [C _ _ (by omega) (by omega) (by omega), C _ _ (by omega) (by omega) (by omega), V _ _ (by omega) (by omega), V _ _ (by omega) (by omega)]
      exact p1 q (by omega)
    · rw [C _ _ (by omega) (by omega) (by omega), C _ _ (by omega) (by omega) (by omega), C _ _ (by omega) (by omega) (by omega), C _ _ (by omega) (by omega) (by omega), V _ _ (by omega) (by omega), V _ _ (by omega) (by omega), V _ _ (by omega) (by omega), V _ _ (by omega) (by omega)]
      exact t1 m hm
theorem bl_500 {p : Nat} (hp : p ≤ 500) (hn : n ≤ 400) : bl B n p ≤ 500 := by
  by_cases c : p ≤ n
  · have : bl B n p ≤ n := ru_le c
    omega
  · have : bl B n p = p := by unfold bl; exact ru_e (by omega)
    omega
theorem MR_bl {s s' : ST} (h : MR B n s s') : ∃ p, p ≤ 500 ∧ gi s' 0 27 = nI p ∧ fX12_blanks s' = some (si s' 0 27 (nI (bl B n p))) ∧ MR B n s (si s' 0 27 (nI (bl B n p))) := by
  obtain ⟨t1, t2, t3⟩ := h
  have hn := t1.1
  rcases t3 with ⟨f, f1, f2, f3, f4, p, f5, f6⟩ | ⟨f3, f4, x, x', g1, g2, g3, g4, g5⟩
  · exact ⟨p, f5, f6, blanks_ev t2 f6 (by omega), t1, TV_si t2 (by decide), Or.inl ⟨f, f1, f2, f3, by rw [gi_dif (by decide)]; exact f4, _, bl_500 f5 hn, gi_same _ _ _ _⟩⟩
  · exact ⟨x', by omega, g5, blanks_ev t2 g5 (by omega), t1, TV_si t2 (by decide), Or.inr ⟨f3, by rw [gi_dif (by decide)]; exact f4, x, bl B n x', g1, ru_le g2, by rw [bl_bl]; exact g3, g4, gi_same _ _ _ _⟩⟩
theorem MR_f {s s' : ST} (h : MR B n s s') : (gi s 1 3 = 0) = (gi s' 0 28 = 0) := by
  have hn := h.1.1
  rcases h.2.2 with ⟨f, f1, f2, f3, f4, _⟩ | ⟨f3, f4, _⟩
  · rw [f3, f4]
  · rw [f3, f4]
/-- a fault told by both at the same place -/
theorem MR_fail {s s' : ST} {c p : Nat} (h : MR B n s s') (h0 : gi s 1 3 = 0) (h5 : gi s 1 5 = nI p) (hp : p ≤ 400) (hc : c ≤ 4) : fX6_blame (nI c) s = some (si s 1 3 (nI (1 + 8 * p + c))) ∧ fX12_fails (nI c) (nI p) s' = some (si s' 0 28 (nI (1 + 8 * p + c))) ∧ MR B n (si s 1 3 (nI (1 + 8 * p + c))) (si s' 0 28 (nI (1 + 8 * p + c))) ∧ ¬ gi (si s 1 3 (nI (1 + 8 * p + c))) 1 3 = 0 := by
  have h0' : gi s' 0 28 = 0 := by rw [← MR_f h]; exact h0
  have hn := h.1.1
  refine ⟨blame0 h0 h5, fail0 h0', ⟨(FC1.si (by omega)).TC h.1, TV_si h.2.1 (by decide), Or.inl ⟨1 + 8 * p + c, by omega, by omega, gi_same _ _ _ _, gi_same _ _ _ _, ?_⟩⟩, by rw [gi_same, nj_eqr (by omega) (by decide)]; omega⟩
  rcases h.2.2 with ⟨f, f1, f2, f3, _⟩ | ⟨_, _, x, x', g1, g2, g3, g4, g5⟩
  · rw [f3, nj_eqr (by omega) (by decide)] at h0; omega
  · exact ⟨x', by omega, by rw [gi_dif (by decide)]; exact g5⟩
theorem meeting_p {s s' : ST} {np nm k : Nat} (h : MR B n s s') (tt : TT s s' np nm k) (hk : 1 ≤ k) (hnm : nm < 8) : ∃ z z', fX8_readMeeting s = some z ∧ fX12_townPart 3 s' = some z' ∧ MR B n z z' ∧ FCt s z ∧ FVt s' z' ∧ (gi z 1 3 = 0 → TT z z' np (nm + 1) (k + 1)) := by
  obtain ⟨n1, l1, f1, e1, p1, t1⟩ := tt
  obtain ⟨n2, n3, n4, n5, n6, n7⟩ := n1
  obtain ⟨v1, v1', z1, z1', a1, b1, m1, c1, w1, i1⟩ := num_both (lo := 0) (hi := nI np - 1) (lo' := 0) (hi' := nI np - 1) h (fun _ => ⟨rfl, rfl⟩)
  have o1 : fX12_onePerson s' = some (v1', z1') := by
    unfold fX12_onePerson
    rw [ck_t (by decide), ix_lit (by decide), n5, b1, bd_s]
  have m1a : MR B n (si z1 7 nm v1) z1' := MR_w m1 (fun _ => gi_ne (by decide)) (fun _ => gi_ne (by decide)) (fun _ _ => rfl) (fun _ => rfl)
  obtain ⟨p, hp, hp27, hbl, m1b⟩ := MR_bl m1a
  obtain ⟨v2, v2', z2, z2', a2, b2, m2, c2, w2, i2⟩ := num_both (lo := 0) (hi := nI np - 1) (lo' := 0) (hi' := nI np - 1) m1b (fun _ => ⟨rfl, rfl⟩)
  have o2 : fX12_onePerson (si z1' 0 27 (nI (bl B n p))) = some (v2', z2') := by
    unfold fX12_onePerson
    rw [ck_t (by decide), ix_lit (by decide), gi_ne (by decide), w1 _ _ (by omega), n5, b2, bd_s]
  -- the two alike
  have hn := h.1.1
  have hz8 : gi (si z2 8 nm v2) 8 nm = v2 := gi_same _ _ _ _
  have hz7 : gi (si z2 8 nm v2) 7 nm = v1 := by rw [gi_ne (by decide), c2 _ _ (by omega), gi_same]
  have mm : ∃ z3 z3', (if v2 = v1 then (fX6_blame 1 (si z2 8 nm v2)).bind (fun q16 => some q16) else some (si z2 8 nm v2) : Option ST) = some z3 ∧ ((if gi z2' 0 28 = 0 then if v1' = v2' then some true else some false else some false : Option Bool).bind (fun b10 => (if b10 = true then (fX12_fails 1 (nI (bl B n p)) z2').bind (fun q17 => some q17) else some z2' : Option ST))) = some z3' ∧ MR B n z3 z3' ∧ FC1 (si z2 8 nm v2) z3 ∧ FV1 z2' z3' ∧ (gi z3 1 3 = 0 → gi z2 1 3 = 0 ∧ v1 ≠ v2) := by
    have m2a : MR B n (si z2 8 nm v2) z2' := MR_w m2 (fun _ => gi_ne (by decide)) (fun _ => gi_ne (by decide)) (fun _ _ => rfl) (fun _ => rfl)
    by_cases c : gi z2 1 3 = 0
    · have c' : gi z2' 0 28 = 0 := by rw [← MR_f m2]; exact c
      obtain ⟨p2, q2, -, -, -, x', x1, x2, x3⟩ := i2 c
      rw [gi_ne (by decide)] at p2
      obtain ⟨-, q1, -⟩ := i1 p2
      rw [gi_same] at x2
      have hx : x' = bl B n p := by
        have := bl_500 (B := B) (n := n) hp hn
        rw [nj_eq (by omega) (by omega)] at x2
        exact x2.symm
      rw [hx, bl_bl] at x3
      rw [hx] at x1
      rw [q1, q2, if_pos c']
      by_cases e : v2 = v1
      · obtain ⟨g1, g2, g3, g4⟩ := MR_fail (c := 1) (p := bl B n p) m2a (by rw [gi_ne (by decide)]; exact c) (by rw [gi_ne (by decide)]; exact x3) (by omega) (by omega)
        have g1 : fX6_blame 1 (si z2 8 nm v2) = _ := g1
        have g2 : fX12_fails 1 (nI (bl B n p)) z2' = _ := g2
        exact ⟨_, _, by rw [if_pos e, g1, bd_s], by rw [if_pos e.symm, bd_s, if_pos rfl, g2, bd_s], g3, FC1.si (by omega), FV1.si (by omega), fun x => absurd x g4⟩
      · exact ⟨_, _, by rw [if_neg e], by rw [if_neg (Ne.symm e), bd_s, if_neg nft], m2a, fun _ _ _ => rfl, fun _ _ _ => rfl, fun x => ⟨c, fun x => e x.symm⟩⟩
    · have c' : ¬ gi z2' 0 28 = 0 := by rw [← MR_f m2]; exact c
      refine ⟨si z2 8 nm v2, z2', ?_, by rw [if_neg c', bd_s, if_neg nft], m2a, fun _ _ _ => rfl, fun _ _ _ => rfl, fun x => ?_⟩
      · by_cases e : v2 = v1
        · rw [if_pos e, blameN (by rw [gi_ne (by decide)]; exact c), bd_s]
        · rw [if_neg e]
      · rw [gi_ne (by decide)] at x; exact absurd x c
  obtain ⟨z3, z3', d1, d2, m3, c3, w3, i3⟩ := mm
  have m3' : MR B n z3 (si (si z3' 22 nm v1') 23 nm v2') := MR_w m3 (fun _ => rfl) (fun _ => rfl) (fun _ _ => by rw [gi_ne (by decide), gi_ne (by decide)]) (fun _ => by rw [gi_ne (by decide), gi_ne (by decide)])
  obtain ⟨v4, v4', z4, z4', a4, b4, m4, c4, w4, i4⟩ := num_both (lo := 0) (hi := 600) (lo' := 0) (hi' := 600) m3' (fun _ => ⟨rfl, rfl⟩)
  have m4' := MR_si (a := 9) (j := nm) (b := 24) (i := nm) (x := v4) (y := v4') m4 (by omega) (by omega)
  obtain ⟨v5, v5', z5, z5', a5, b5, m5, c5, w5, i5⟩ := num_both (lo := 1) (hi := 60) (lo' := 1) (hi' := 60) m4' (fun _ => ⟨rfl, rfl⟩)
  have m5' := MR_si (a := 4) (j := 8) (b := 19) (i := 4) (x := nI (nm + 1)) (y := nI (nm + 1)) (MR_si (a := 10) (j := nm) (b := 25) (i := nm) (x := v5) (y := v5') m5 (by omega) (by omega)) (by omega) (by omega)
  have C5 : ∀ a j, ¬ (a = 1 ∧ 2 ≤ j ∧ j ≤ 6) → ¬ ((a = 7 ∨ a = 8 ∨ a = 9) ∧ j = nm) → gi z5 a j = gi s a j := fun a j x1 x2 => by
    rw [c5 _ _ x1, si_x _ _ (by omega), c4 _ _ x1, c3 _ _ x1, si_x _ _ (by omega), c2 _ _ x1, si_x _ _ (by omega), c1 _ _ x1]
  have V5 : ∀ a j, ¬ (a = 0 ∧ (j = 27 ∨ j = 28)) → ¬ ((a = 22 ∨ a = 23 ∨ a = 24) ∧ j = nm) → gi z5' a j = gi s' a j := fun a j x1 x2 => by
    rw [w5 _ _ x1, si_x _ _ (by omega), w4 _ _ x1, si_x _ _ (by omega), si_x _ _ (by omega), w3 _ _ x1, w2 _ _ x1, si_x _ _ (by omega), w1 _ _ x1]
  refine ⟨si (si z5 10 nm v5) 4 8 (nI (nm + 1)), si (si z5' 25 nm v5') 19 4 (nI (nm + 1)), ?_, ?_, m5', ?_, ?_, fun e => ?_⟩
  · unfold fX8_readMeeting
    rw [n6, if_pos (by rw [nj_ltr (by omega) (by decide)]; exact hnm), lt_v, n4, a1, bd_s, ck_t (inb_t (by omega) (by omega)), lt_v, ix_nI (by omega), gi_ne (by decide), c1 _ _ (by omega), n4, a2, bd_s, ck_t (inb_t (by omega) (by omega)), lt_v, ck_t (inb_t (by omega) (by omega)), ck_t (inb_t (by omega) (by omega)), hz8, hz7, d1, bd_s, a4, bd_s, ck_t (inb_t (by omega) (by omega)), lt_v, a5, bd_s, ck_t (inb_t (by omega) (by omega)), lt_v, lt_v, gi_ne (by decide), C5 _ _ (by omega) (by omega), n6, nj_addr]
  · unfold fX12_townPart fX12_readsMeeting
    have d2' : ∀ {α : Type} (K : ST → Option α), (if gi z2' 0 28 = 0 then if v1' = v2' then some true else some false else some false : Option Bool).bind (fun b10 => (if b10 = true then (fX12_fails 1 (nI (bl B n p)) z2').bind (fun q17 => some q17) else some z2' : Option ST).bind K) = K z3' := fun K => by
      rw [← Option.bind_assoc, d2, bd_s]
    rw [if_neg (by decide), if_neg (by decide), if_neg (by decide), if_pos rfl, ck_t (by decide), lt_v, ix_lit (by decide), n7, o1, bd_s, hbl, bd_s, lt_v, gi_same, o2, bd_s, d2', ck_t (inb_t (by omega) (by omega)), lt_v, ix_nI (by omega), ck_t (inb_t (by omega) (by omega)), lt_v, b4, bd_s, ck_t (inb_t (by omega) (by omega)), lt_v, b5, bd_s, ck_t (inb_t (by omega) (by omega)), lt_v, ck_t (by decide), ck_t (by decide), lt_v, gi_ne (by decide), V5 _ _ (by omega) (by omega), n7, nj_addr, bd_s, bd_s]
  · intro a j x1 x2 x3
    rw [si_x _ _ (by omega), si_x _ _ (by omega), C5 _ _ x1 (by omega)]
  · intro a j x1 x2
    rw [si_x _ _ (by omega), si_x _ _ (by omega), V5 _ _ x1 (by omega)]
  · have y5 : gi z5 1 3 = 0 := by rw [gi_ne (by decide), gi_ne (by decide)] at e; exact e
    obtain ⟨y4, q5, -, lo5, hi5, -⟩ := i5 y5
    rw [gi_ne (by decide)] at y4
    obtain ⟨y3, q4, -, lo4, hi4, -⟩ := i4 y4
    obtain ⟨y2, hne⟩ := i3 y3
    obtain ⟨y1, q2, ⟨k2, kk2, r2⟩, lo2, hi2, -⟩ := i2 y2
    rw [gi_ne (by decide)] at y1
    obtain ⟨-, q1, ⟨k1, kk1, r1⟩, lo1, hi1, -⟩ := i1 y1
    have lt1 : k1 < np := by
      rw [r1] at hi1
      have : ¬ (nI np - 1 < nI k1) := by grind
      rw [pm1 (by omega), nj_le (by omega) (by omega)] at this
      omega
    have lt2 : k2 < np := by
      rw [r2] at hi2
      have : ¬ (nI np - 1 < nI k2) := by grind
      rw [pm1 (by omega), nj_le (by omega) (by omega)] at this
      omega
    have C : ∀ a j, ¬ (a = 1 ∧ 2 ≤ j ∧ j ≤ 6) → ¬ (a = 4 ∧ j = 8) → ¬ ((7 ≤ a ∧ a ≤ 10) ∧ j = nm) → gi (si (si z5 10 nm v5) 4 8 (nI (nm + 1))) a j = gi s a j := fun a j x1 x2 x3 => by
      rw [si_x _ _ (by omega), si_x _ _ (by omega), C5 _ _ x1 (by omega)]
    have V : ∀ a j, ¬ (a = 0 ∧ (j = 27 ∨ j = 28)) → ¬ (a = 19 ∧ j = 4) → ¬ ((22 ≤ a ∧ a ≤ 25) ∧ j = nm) → gi (si (si z5' 25 nm v5') 19 4 (nI (nm + 1))) a j = gi s' a j := fun a j x1 x2 x3 => by
      rw [si_x _ _ (by omega), si_x _ _ (by omega), V5 _ _ x1 (by omega)]
    refine ⟨⟨n2, by omega, by rw [C _ _ (by omega) (by omega) (by omega)]; exact n4, by rw [V _ _ (by omega) (by omega) (by omega)]; exact n5, gi_same _ _ _ _, gi_same _ _ _ _⟩, ?_, ?_, ?_, fun q hq => ?_, fun m hm => ?_⟩
    · obtain ⟨x1, x2, x3, x4⟩ := l1
      unfold Tl
      rw [C _ _ (by omega) (by omega) (by omega), C _ _ (by omega) (by omega) (by omega), C _ _ (by omega) (by omega) (by omega), C _ _ (by omega) (by omega) (by omega), V _ _ (by omega) (by omega) (by omega), V _ _ (by omega) (by omega) (by omega), V _ _ (by omega) (by omega) (by omega)]
      refine ⟨x1, x2, x3, Or.inr ?_⟩
      rcases x4 with ⟨x5, -⟩ | ⟨-, x5⟩
      · omega
      · exact ⟨by omega, x5⟩
    · unfold Tf
      rw [C _ _ (by omega) (by omega) (by omega), C _ _ (by omega) (by omega) (by omega), C _ _ (by omega) (by omega) (by omega), V _ _ (by omega) (by omega) (by omega), V _ _ (by omega) (by omega) (by omega), V _ _ (by omega) (by omega) (by omega)]
      exact f1
    · rw [C _ _ (by omega) (by omega) (by omega), V _ _ (by omega) (by omega) (by omega)]; exact e1
    · rw [C _ _ (by omega) (by omega) (by omega), C _ _ (by omega) (by omega) (by omega), V _ _ (by omega) (by omega) (by omega), V _ _ (by omega) (by omega) (by omega)]
      exact p1 q (by omega)
    · by_cases em : m = nm
      · subst em
        refine ⟨k1, k2, lt1, lt2, fun x => hne (by rw [r1, r2, x]), ?_, ?_, ?_, ?_, ?_, ⟨?_, ?_⟩, ?_, ?_, ?_⟩
        · rw [gi_ne (by decide), gi_ne (by decide), c5 _ _ (by omega), gi_ne (by decide), c4 _ _ (by omega), c3 _ _ (by omega), hz7, r1]
        · rw [gi_ne (by decide), gi_ne (by decide), w5 _ _ (by omega), gi_ne (by decide), w4 _ _ (by omega), gi_ne (by decide), gi_same, q1, r1]
        · rw [gi_ne (by decide), gi_ne (by decide), c5 _ _ (by omega), gi_ne (by decide), c4 _ _ (by omega), c3 _ _ (by omega), hz8, r2]
        · rw [gi_ne (by decide), gi_ne (by decide), w5 _ _ (by omega), gi_ne (by decide), w4 _ _ (by omega), gi_same, q2, r2]
        · rw [gi_ne (by decide), gi_same, gi_ne (by decide), gi_same, q5]
        · rw [gi_ne (by decide), gi_same, q5]; exact lo5
        · rw [gi_ne (by decide), gi_same, q5]; exact hi5
        · rw [gi_ne (by decide), gi_ne (by decide), c5 _ _ (by omega), gi_same, gi_ne (by decide), gi_ne (by decide), w5 _ _ (by omega), gi_same, q4]
        · rw [gi_ne (by decide), gi_ne (by decide), w5 _ _ (by omega), gi_same, q4]; exact lo4
        · rw [gi_ne (by decide), gi_ne (by decide), w5 _ _ (by omega), gi_same, q4]; exact hi4
      · rw [C _ _ (by omega) (by omega) (by omega), C _ _ (by omega) (by omega) (by omega), C _ _ (by omega) (by omega) (by omega), C _ _ (by omega) (by omega) (by omega), V _ _ (by omega) (by omega) (by omega), V _ _ (by omega) (by omega) (by omega), V _ _ (by omega) (by omega) (by omega), V _ _ (by omega) (by omega) (by omega)]
        exact t1 m (by omega)
end TB1
