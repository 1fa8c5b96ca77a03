/-! A TOWN'S CLAUSES BY BOTH -/
def Tn (s s' : ST) (np nm : Nat) : Prop := np ≤ 5 ∧ nm ≤ 8 ∧ gi s 4 7 = nI np ∧ gi s' 19 3 = nI np ∧ gi s 4 8 = nI nm ∧ gi s' 19 4 = nI nm
def Tl (s s' : ST) (np nm k : Nat) : Prop := gi s 4 1 = gi s' 19 0 ∧ gi s 4 2 = gi s' 19 1 ∧ gi s 4 3 = gi s' 19 2 ∧ ((k = 0 ∧ gi s 4 0 = 0 ∧ np = 0 ∧ nm = 0) ∨ (1 ≤ k ∧ gi s 4 0 = 1 ∧ 1 ≤ gi s' 19 2 ∧ gi s' 19 2 ≤ 99))
def Tf (s s' : ST) : Prop := gi s 4 4 = gi s' 19 5 ∧ (0 ≤ gi s' 19 5 ∧ gi s' 19 5 ≤ 9) ∧ gi s 4 5 = gi s' 19 6 ∧ (0 ≤ gi s' 19 6 ∧ gi s' 19 6 ≤ 9) ∧ ((gi s 3 2 = 0 ∧ gi s' 19 7 = 0) ∨ (gi s 3 2 = 1 ∧ gi s' 19 7 = 1))
def Tp (s s' : ST) (np : Nat) : Prop := ∀ q, q < np → gi s 5 q = gi s' 20 q ∧ (-20 ≤ gi s' 20 q ∧ gi s' 20 q ≤ 60) ∧ gi s 6 q = gi s' 21 q ∧ -20 ≤ gi s' 21 q ∧ gi s' 21 q ≤ 20
def Tm (s s' : ST) (np nm : Nat) : Prop := ∀ m, m < nm → ∃ x y, x < np ∧ y < np ∧ x ≠ y ∧ gi s 7 m = nI x ∧ gi s' 22 m = nI x ∧ gi s 8 m = nI y ∧ gi s' 23 m = nI y ∧ gi s 10 m = gi s' 25 m ∧ (1 ≤ gi s' 25 m ∧ gi s' 25 m ≤ 60) ∧ gi s 9 m = gi s' 24 m ∧ 0 ≤ gi s' 24 m ∧ gi s' 24 m ≤ 600
def TT (s s' : ST) (np nm k : Nat) : Prop := Tn s s' np nm ∧ Tl s s' np nm k ∧ Tf s s' ∧ gi s 4 6 = gi s' 19 8 ∧ Tp s s' np ∧ Tm s s' np nm
def FCt (s z : ST) : Prop := ∀ a j, ¬ (a = 1 ∧ 2 ≤ j ∧ j ≤ 6) → a ≠ 3 → ¬ (4 ≤ a ∧ a ≤ 10) → gi z a j = gi s a j
def FVt (s z : ST) : Prop := ∀ a j, ¬ (a = 0 ∧ (j = 27 ∨ j = 28)) → ¬ (19 ≤ a ∧ a ≤ 25) → gi z a j = gi s a j
theorem FCt.trans {a b c : ST} (h : FCt a b) (k : FCt b c) : FCt a c := fun x j e1 e2 e3 => (k x j e1 e2 e3).trans (h x j e1 e2 e3)
theorem FVt.trans {a b c : ST} (h : FVt a b) (k : FVt b c) : FVt a c := fun x j e1 e2 => (k x j e1 e2).trans (h x j e1 e2)
theorem FC1.t {a b : ST} (h : FC1 a b) : FCt a b := fun x j e1 _ _ => h x j e1
theorem FV1.t {a b : ST} (h : FV1 a b) : FVt a b := fun x j e1 _ => h x j e1
theorem FCt.si {s : ST} {a j : Nat} {x : Int32} (h : a = 3 ∨ (4 ≤ a ∧ a ≤ 10)) : FCt s (si s a j x) := fun b i e1 e2 e3 => gi_ne (by omega)
theorem FVt.si {s : ST} {a j : Nat} {x : Int32} (h : 19 ≤ a ∧ a ≤ 25) : FVt s (si s a j x) := fun b i e1 e2 => gi_ne (by omega)
section TB0
variable {B : Nat → Nat} {n : Nat}
theorem MR_si {s s' : ST} {a j b i : Nat} {x y : Int32} (h : MR B n s s') (ha : 3 ≤ a) (hb : 1 ≤ b ∧ b ≠ 26) : MR B n (si s a j x) (si s' b i y) := MR_w h (fun _ => gi_ne (by omega)) (fun _ => gi_ne (by omega)) (fun _ _ => gi_ne (by omega)) (fun _ => gi_ne (by omega))
theorem law_p {s s' : ST} (h : MR B n s s') (tt : TT s s' 0 0 0) : ∃ z z', fX8_readLaw s = some z ∧ fX12_townPart 0 s' = some z' ∧ MR B n z z' ∧ FCt s z ∧ FVt s' z' ∧ (gi z 1 3 = 0 → TT z z' 0 0 1) := by
  obtain ⟨v1, v1', z1, z1', a1, b1, m1, c1, w1, i1⟩ := num_both (lo := 0) (hi := 59) (lo' := 0) (hi' := 59) h (fun _ => ⟨rfl, rfl⟩)
  have m1' := MR_si (a := 4) (j := 1) (b := 19) (i := 0) (x := v1) (y := v1') m1 (by omega) (by omega)
  obtain ⟨v2, v2', z2, z2', a2, b2, m2, c2, w2, i2⟩ := num_both (lo := imx 1 v1) (hi := 60) (lo' := if v1' ≤ 1 then 1 else v1') (hi' := 60) m1' (fun e => by
    rw [gi_ne (by decide)] at e
    obtain ⟨-, e2, -⟩ := i1 e
    rw [e2]
    unfold imx
    refine ⟨?_, rfl⟩
    by_cases c : v1 ≤ 1
    · rw [if_pos c, if_neg (by grind)]
    · rw [if_neg c, if_pos (by grind)])
  have m2' := MR_si (a := 4) (j := 2) (b := 19) (i := 1) (x := v2) (y := v2') m2 (by omega) (by omega)
  obtain ⟨v3, v3', z3, z3', a3, b3, m3, c3, w3, i3⟩ := num_both (lo := 1) (hi := 99) (lo' := 1) (hi' := 99) m2' (fun _ => ⟨rfl, rfl⟩)
  have m3' := MR_si (a := 4) (j := 3) (b := 19) (i := 2) (x := v3) (y := v3') m3 (by omega) (by omega)
  have zf : gi (si z3 4 3 v3) 1 3 = gi z3 1 3 := gi_ne (by decide)
  obtain ⟨w, hw, hwb⟩ : ∃ w, (if gi z3 1 3 = 0 then some 1 else some 0 : Option Int32) = some w ∧ (bz w = true ∧ (gi z3 1 3 = 0 → w = 1)) := by
    by_cases c : gi z3 1 3 = 0
    · exact ⟨1, by rw [if_pos c], rfl, fun _ => rfl⟩
    · exact ⟨0, by rw [if_neg c], rfl, fun e => absurd e c⟩
  refine ⟨si (si z3 4 3 v3) 4 0 w, si z3' 19 2 v3', ?_, ?_, MR_w m3' (fun _ => gi_ne (by decide)) (fun _ => gi_ne (by decide)) (fun _ _ => rfl) (fun _ => rfl), ((((c1.t.trans (FCt.si (by omega))).trans (c2.t.trans (FCt.si (by omega)))).trans (c3.t.trans (FCt.si (by omega))))).trans (FCt.si (by omega)), ((w1.t.trans (FVt.si (by omega))).trans (w2.t.trans (FVt.si (by omega)))).trans (w3.t.trans (FVt.si (by omega))), fun e => ?_⟩
  · unfold fX8_readLaw
    rw [a1, bd_s, lt_v, gi_same, a2, bd_s, lt_v, a3, bd_s, lt_v, zf, hw, bd_s, ck_t hwb.1, lt_v]
  · unfold fX12_townPart
    have b1 : fX12_amount 0 59 s' = some (v1', z1') := b1
    have hc : (if v1' ≤ 1 then some 1 else some v1' : Option Int32) = some (if v1' ≤ 1 then 1 else v1') := ite_some _ _
    rw [if_pos rfl, b1, bd_s, ck_t (by decide), lt_v, ck_t (by decide), ix_lit (by decide), gi_same, ck_t (show inb 0 9 = true by decide), hc, bd_s, b2, bd_s, ck_t (by decide), lt_v, ix_lit (by decide), b3, bd_s, ck_t (by decide), lt_v, ix_lit (by decide), bd_s]
  · have e3 : gi z3 1 3 = 0 := by rw [gi_ne (by decide), gi_ne (by decide)] at e; exact e
    obtain ⟨p3, q3, ⟨k3, r3, u3⟩, lo3, hi3, -⟩ := i3 e3
    rw [gi_ne (by decide)] at p3
    obtain ⟨p2, q2, -⟩ := i2 p3
    rw [gi_ne (by decide)] at p2
    obtain ⟨p1, q1, -⟩ := i1 p2
    obtain ⟨n1, l1, f1, e1, -, -⟩ := tt
    have C : ∀ a j, ¬ (a = 1 ∧ 2 ≤ j ∧ j ≤ 6) → ¬ (a = 4 ∧ j < 4) → gi (si (si z3 4 3 v3) 4 0 w) a j = gi s a j := fun a j x1 x2 => by
      rw [si_x _ _ (by omega), si_x _ _ (by omega), c3 _ _ x1, si_x _ _ (by omega), c2 _ _ x1, si_x _ _ (by omega), c1 _ _ x1]
    have V : ∀ a j, ¬ (a = 0 ∧ (j = 27 ∨ j = 28)) → ¬ (a = 19 ∧ j < 3) → gi (si z3' 19 2 v3') a j = gi s' a j := fun a j x1 x2 => by
      rw [si_x _ _ (by omega), w3 _ _ x1, si_x _ _ (by omega), w2 _ _ x1, si_x _ _ (by omega), w1 _ _ x1]
    refine ⟨⟨by omega, by omega, by rw [C _ _ (by omega) (by omega)]; exact n1.2.2.1, by rw [V _ _ (by omega) (by omega)]; exact n1.2.2.2.1, by rw [C _ _ (by omega) (by omega)]; exact n1.2.2.2.2.1, by rw [V _ _ (by omega) (by omega)]; exact n1.2.2.2.2.2⟩, ⟨?_, ?_, ?_, Or.inr ⟨by omega, ?_, ?_, ?_⟩⟩, ?_, ?_, fun q hq => absurd hq (by omega), fun m hm => absurd hm (by omega)⟩
    · rw [gi_dif (by decide), gi_dif (by decide), c3 _ _ (by omega), gi_dif (by decide), c2 _ _ (by omega), gi_same, gi_dif (by decide), w3 _ _ (by omega), gi_dif (by decide), w2 _ _ (by omega), gi_same, q1]
    · rw [gi_dif (by decide), gi_dif (by decide), c3 _ _ (by omega), gi_same, gi_dif (by decide), w3 _ _ (by omega), gi_same, q2]
    · rw [gi_dif (by decide), gi_same, gi_same, q3]
    · rw [gi_same]; exact hwb.2 e3
    · rw [gi_same, q3]; exact lo3
    · rw [gi_same, q3]; exact hi3
    · obtain ⟨g1, g2, g3, g4, g5⟩ := f1
      unfold Tf
      rw [C _ _ (by omega) (by omega), C _ _ (by omega) (by omega), C _ _ (by omega) (by omega), V _ _ (by omega) (by omega), V _ _ (by omega) (by omega), V _ _ (by omega) (by omega)]
      exact ⟨g1, g2, g3, g4, g5⟩
    · rw [C _ _ (by omega) (by omega), V _ _ (by omega) (by omega)]; exact e1
theorem s20 {v : Int32} {k : Nat} (hv : ∃ j, j ≤ 99999 ∧ v = nI j) (h : v ≤ nI k) (hk : k ≤ 80) : -20 ≤ v - 20 ∧ v - 20 ≤ nI k - 20 := by
  obtain ⟨j, j1, j2⟩ := hv
  have h0 : (0 : Int32) ≤ v := by rw [j2, nj_lel (by decide) (by omega)]; omega
  have h1 : nI k ≤ 80 := by rw [nj_ler (by omega) (by decide)]; omega
  generalize nI k = y at *
  grind
theorem person_p {s s' : ST} {np nm k : Nat} (h : MR B n s s') (tt : TT s s' np nm k) (hk : 1 ≤ k) (hnp : np < 5) : ∃ z z', fX8_readPerson s = some z ∧ fX12_townPart 1 s' = some z' ∧ MR B n z z' ∧ FCt s z ∧ FVt s' z' ∧ (gi z 1 3 = 0 → TT z z' (np + 1) nm (k + 1)) := by
  obtain ⟨n1, l1, f1, e1, p1, t1⟩ := tt
  obtain ⟨n2, n3, n4, n5, n6, n7⟩ := n1
  obtain ⟨v1, v1', z1, z1', a1, b1, m1, c1, w1, i1⟩ := num_both (lo := 0) (hi := 80) (lo' := 0) (hi' := 80) h (fun _ => ⟨rfl, rfl⟩)
  have m1' := MR_si (a := 5) (j := np) (b := 20) (i := np) (x := v1 - 20) (y := v1' - 20) m1 (by omega) (by omega)
  obtain ⟨v2, v2', z2, z2', a2, b2, m2, c2, w2, i2⟩ := num_both (lo := 0) (hi := 40) (lo' := 0) (hi' := 40) m1' (fun _ => ⟨rfl, rfl⟩)
  have m2' := MR_si (a := 4) (j := 7) (b := 19) (i := 3) (x := nI (np + 1)) (y := nI (np + 1)) (MR_si (a := 6) (j := np) (b := 21) (i := np) (x := v2 - 20) (y := v2' - 20) m2 (by omega) (by omega)) (by omega) (by omega)
  have g7 : gi z2 4 7 = nI np := by rw [c2 _ _ (by omega), gi_ne (by decide), c1 _ _ (by omega)]; exact n4
  have g3 : gi z2' 19 3 = nI np := by rw [w2 _ _ (by omega), gi_ne (by decide), w1 _ _ (by omega)]; exact n5
  refine ⟨si (si z2 6 np (v2 - 20)) 4 7 (nI (np + 1)), si (si z2' 21 np (v2' - 20)) 19 3 (nI (np + 1)), ?_, ?_, m2', (((c1.t.trans (FCt.si (by omega))).trans c2.t).trans (FCt.si (by omega))).trans (FCt.si (by omega)), (((w1.t.trans (FVt.si (by omega))).trans w2.t).trans (FVt.si (by omega))).trans (FVt.si (by omega)), fun e => ?_⟩
  · unfold fX8_readPerson
    rw [n4, if_pos (by rw [nj_ltr (by omega) (by decide)]; exact hnp), a1, bd_s, ck_t (inb_t (by omega) (by omega)), lt_v, ix_nI (by omega), a2, bd_s, gi_ne (by decide), c1 _ _ (by omega), n4, ck_t (inb_t (by omega) (by omega)), lt_v, ix_nI (by omega), lt_v, gi_ne (by decide), g7, nj_addr]
  · unfold fX12_townPart
    rw [if_neg n10, if_pos rfl, ck_t (by decide), lt_v, ix_lit (by decide), n5, b1, bd_s, ck_t (inb_t (by omega) (by omega)), lt_v, ix_nI (by omega), b2, bd_s, ck_t (inb_t (by omega) (by omega)), lt_v, ck_t (by decide), ck_t (by decide), lt_v, gi_ne (by decide), g3, nj_addr, bd_s]
  · have e3 : gi z2 1 3 = 0 := by rw [gi_ne (by decide), gi_ne (by decide)] at e; exact e
    obtain ⟨p2, q2, r2, lo2, hi2, -⟩ := i2 e3
    rw [gi_ne (by decide)] at p2
    obtain ⟨-, q1, r1, lo1, hi1, -⟩ := i1 p2
    have C : ∀ a j, ¬ (a = 1 ∧ 2 ≤ j ∧ j ≤ 6) → ¬ (a = 4 ∧ j = 7) → ¬ (a = 5 ∧ j = np) → ¬ (a = 6 ∧ j = np) → gi (si (si z2 6 np (v2 - 20)) 4 7 (nI (np + 1))) a j = gi s a j := fun a j x1 x2 x3 x4 => by
      rw [si_x _ _ (by omega), si_x _ _ (by omega), c2 _ _ x1, si_x _ _ (by omega), c1 _ _ x1]
    have V : ∀ a j, ¬ (a = 0 ∧ (j = 27 ∨ j = 28)) → ¬ (a = 19 ∧ j = 3) → ¬ (a = 20 ∧ j = np) → ¬ (a = 21 ∧ j = np) → gi (si (si z2' 21 np (v2' - 20)) 19 3 (nI (np + 1))) a j = gi s' a j := fun a j x1 x2 x3 x4 => by
      rw [si_x _ _ (by omega), si_x _ _ (by omega), w2 _ _ x1, si_x _ _ (by omega), w1 _ _ x1]
    refine ⟨⟨by omega, n3, gi_same _ _ _ _, gi_same _ _ _ _, by rw [C _ _ (by omega) (by omega) (by omega) (by omega)]; exact n6, by rw [V _ _ (by omega) (by omega) (by omega) (by omega)]; exact n7⟩, ?_, ?_, ?_, fun q hq => ?_, fun m hm => ?_⟩
    · obtain ⟨x1, x2, x3, x4⟩ := l1
      unfold Tl
      rw [C _ _ (by omega) (by omega) (by omega) (by omega), C _ _ (by omega) (by omega) (by omega) (by omega), C _ _ (by omega) (by omega) (by omega) (by omega), C _ _ (by omega) (by omega) (by omega) (by omega), V _ _ (by omega) (by omega) (by omega) (by omega), V _ _ (by omega) (by omega) (by omega) (by omega), V _ _ (by omega) (by omega) (by omega) (by omega)]
      refine ⟨x1, x2, x3, Or.inr ?_⟩
      rcases x4 with ⟨x5, -⟩ | ⟨-, x5⟩
      · omega
      · exact ⟨by omega, x5⟩
    · unfold Tf
      rw [C _ _ (by omega) (by omega) (by omega) (by omega), C _ _ (by omega) (by omega) (by omega) (by omega), C _ _ (by omega) (by omega) (by omega) (by omega), V _ _ (by omega) (by omega) (by omega) (by omega), V _ _ (by omega) (by omega) (by omega) (by omega), V _ _ (by omega) (by omega) (by omega) (by omega)]
      exact f1
    · rw [C _ _ (by omega) (by omega) (by omega) (by omega), V _ _ (by omega) (by omega) (by omega) (by omega)]; exact e1
    · by_cases eq : q = np
      · subst eq
        rw [gi_ne (by decide), gi_ne (by decide), c2 _ _ (by omega), gi_same, gi_ne (by decide), gi_ne (by decide), w2 _ _ (by omega), gi_same, gi_ne (by decide), gi_same, gi_ne (by decide), gi_same, q1, q2]
        obtain ⟨y1, y2⟩ := s20 (k := 80) r1 hi1 (by omega)
        obtain ⟨y3, y4⟩ := s20 (k := 40) r2 hi2 (by omega)
        exact ⟨rfl, ⟨y1, y2⟩, rfl, y3, y4⟩
      · rw [C _ _ (by omega) (by omega) (by omega) (by omega), C _ _ (by omega) (by omega) (by omega) (by omega), V _ _ (by omega) (by omega) (by omega) (by omega), V _ _ (by omega) (by omega) (by omega) (by omega)]
        exact p1 q (by omega)
    · rw [C _ _ (by omega) (by omega) (by omega) (by omega), C _ _ (by omega) (by omega) (by omega) (by omega), C _ _ (by omega) (by omega) (by omega) (by omega), C _ _ (by omega) (by omega) (by omega) (by omega), V _ _ (by omega) (by omega) (by omega) (by omega), V _ _ (by omega) (by omega) (by omega) (by omega), V _ _ (by omega) (by omega) (by omega) (by omega), V _ _ (by omega) (by omega) (by omega) (by omega)]
      obtain ⟨x, y, x1, x2, x3⟩ := t1 m hm
      exact ⟨x, y, by omega, by omega, x3⟩
theorem exempt_p {s s' : ST} {np nm k : Nat} (h : MR B n s s') (tt : TT s s' np nm k) (hk : 1 ≤ k) : ∃ z z', fX8_readExempt s = some z ∧ fX12_townPart 2 s' = some z' ∧ MR B n z z' ∧ FCt s z ∧ FVt s' z' ∧ (gi z 1 3 = 0 → TT z z' np nm (k + 1)) := by
  obtain ⟨n1, l1, f1, e1, p1, t1⟩ := tt
  obtain ⟨n2, n3, n4, n5, n6, n7⟩ := n1
  obtain ⟨v1, v1', z1, z1', a1, b1, m1, c1, w1, i1⟩ := num_both (lo := 0) (hi := nI np - 1) (lo' := 0) (hi' := nI np - 1) h (fun _ => ⟨rfl, rfl⟩)
  have o1 : fX12_onePerson s' = some (v1', z1') := by
    unfold fX12_onePerson
    rw [ck_t (by decide), ix_lit (by decide), n5, b1, bd_s]
  have hl : ∀ z z', (∀ a j, ¬ (a = 1 ∧ 2 ≤ j ∧ j ≤ 6) → ¬ (a = 4 ∧ j = 6) → gi z a j = gi s a j) → (∀ a j, ¬ (a = 0 ∧ (j = 27 ∨ j = 28)) → ¬ (a = 19 ∧ j = 8) → gi z' a j = gi s' a j) → gi z 4 6 = gi z' 19 8 → TT z z' np nm (k + 1) := fun z z' C V e6 => by
    refine ⟨⟨n2, n3, by rw [C _ _ (by omega) (by omega)]; exact n4, by rw [V _ _ (by omega) (by omega)]; exact n5, by rw [C _ _ (by omega) (by omega)]; exact n6, by rw [V _ _ (by omega) (by omega)]; exact n7⟩, ?_, ?_, e6, fun q hq => ?_, fun m hm => ?_⟩
    · obtain ⟨x1, x2, x3, x4⟩ := l1
      unfold Tl
      rw [C _ _ (by omega) (by omega), C _ _ (by omega) (by omega), C _ _ (by omega) (by omega), C _ _ (by omega) (by omega), V _ _ (by omega) (by omega), V _ _ (by omega) (by omega), V _ _ (by omega) (by omega)]
      refine ⟨x1, x2, x3, Or.inr ?_⟩
      rcases x4 with ⟨x5, -⟩ | ⟨-, x5⟩
      · omega
      · exact ⟨by omega, x5⟩
    · unfold Tf
      rw [C _ _ (by omega) (by omega), C _ _ (by omega) (by omega), C _ _ (by omega) (by omega), V _ _ (by omega) (by omega), V _ _ (by omega) (by omega), V _ _ (by omega) (by omega)]
      exact f1
    · rw [C _ _ (by omega) (by omega), C _ _ (by omega) (by omega), V _ _ (by omega) (by omega), V _ _ (by omega) (by omega)]
      exact p1 q (by omega)
    · rw [C _ _ (by omega) (by omega), C _ _ (by omega) (by omega), C _ _ (by omega) (by omega), C _ _ (by omega) (by omega), V _ _ (by omega) (by omega), V _ _ (by omega) (by omega), V _ _ (by omega) (by omega), V _ _ (by omega) (by omega)]
      exact t1 m hm
  by_cases c : gi z1 1 3 = 0
  · obtain ⟨-, q1, -⟩ := i1 c
    have c' : gi z1' 0 28 = 0 := by
      rcases m1.2.2 with ⟨f, x1, x2, x3, _⟩ | ⟨_, x, _⟩
      · rw [x3, nj_eqr (by omega) (by decide)] at c; omega
      · exact x
    have e46 : gi z1 4 6 = gi z1' 19 8 := by rw [c1 _ _ (by omega), w1 _ _ (by omega)]; exact e1
    refine ⟨si z1 4 6 (gi z1' 19 8 ||| (1 <<< (v1 &&& 31))), si z1' 19 8 (gi z1' 19 8 ||| (1 <<< (v1 &&& 31))), ?_, ?_, MR_si m1 (by omega) (by omega), c1.t.trans (FCt.si (by omega)), w1.t.trans (FVt.si (by omega)), fun _ => hl _ _ (fun a j x1 x2 => by rw [si_x _ _ x2, c1 _ _ x1]) (fun a j x1 x2 => by rw [si_x _ _ x2, w1 _ _ x1]) (by rw [gi_same, gi_same])⟩
    · unfold fX8_readExempt
      rw [n4, a1, bd_s, if_pos c, lt_v, bd_s, e46]
    · unfold fX12_townPart
      rw [if_neg (by decide), if_neg (by decide), if_pos rfl, o1, bd_s, ck_t (by decide), if_pos c', bd_s, ck_t (by decide), lt_v, ix_lit (by decide), bd_s, q1]
  · have c' : ¬ gi z1' 0 28 = 0 := by
      rcases m1.2.2 with ⟨f, x1, x2, x3, x4, _⟩ | ⟨x, _⟩
      · rw [x4, nj_eqr (by omega) (by decide)]; omega
      · exact absurd x c
    refine ⟨z1, si z1' 19 8 (gi z1' 19 8 ||| 0), ?_, ?_, MR_w m1 (fun _ => rfl) (fun _ => rfl) (fun _ _ => gi_ne (by decide)) (fun _ => gi_ne (by decide)), c1.t, w1.t.trans (FVt.si (by omega)), fun e => absurd e c⟩
    · unfold fX8_readExempt
      rw [n4, a1, bd_s, if_neg c, bd_s]
    · unfold fX12_townPart
      rw [if_neg (by decide), if_neg (by decide), if_pos rfl, o1, bd_s, ck_t (by decide), if_neg c', bd_s, ck_t (by decide), lt_v, ix_lit (by decide), bd_s]
end TB0
