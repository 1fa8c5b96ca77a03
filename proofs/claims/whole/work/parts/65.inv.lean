/-! WHAT HOLDS BETWEEN CALLS -/
abbrev Vw : Type := Nat → Nat → Int32
def LVf (V : Vw) (j : Nat) : Int32 :=
  if j < 5 then V 3 j else if j < 10 then V 4 (j - 5) else if j < 15 then V 5 (j - 10) else if j < 20 then V 6 (j - 15)
  else if j < 28 then V 9 (j - 20) else if j < 36 then V 11 (j - 28) else if j < 44 then V 12 (j - 36) else if j = 44 then V 1 8 else V 1 9
theorem LVf_lv (s : ST) : LVf (gi s) = lv s := rfl
/-- a state that was put aside: exempt, day, then the rows -/
def PVf (V : Vw) (k j : Nat) : Int32 := if j = 44 then V 46 (46 * k) else if j = 45 then V 46 (46 * k + 1) else V 46 (46 * k + (2 + j))
def TwR (C V : Vw) (b np nm : Nat) : Prop :=
  np ≤ 5 ∧ nm ≤ 8 ∧ C b 7 = nI np ∧ V 1 3 = nI np ∧ C b 8 = nI nm ∧ V 1 4 = nI nm ∧ C b 3 = V 1 2 ∧ (0 ≤ V 1 2 ∧ V 1 2 ≤ 99) ∧ ((C b 0 = 0 ∧ V 1 2 = 0 ∧ np = 0 ∧ nm = 0) ∨ (C b 0 = 1 ∧ 1 ≤ V 1 2)) ∧ C b 1 = V 1 0 ∧ C b 2 = V 1 1 ∧ (0 < nm → C b 4 = V 1 5 ∧ C b 5 = V 1 6 ∧ (0 ≤ V 1 5 ∧ V 1 5 ≤ 9) ∧ 0 ≤ V 1 6 ∧ V 1 6 ≤ 9) ∧ C b 6 = V 18 0 ∧
  (∀ q, q < np → C (b + 1) q = V 2 q ∧ (-20 ≤ V 2 q ∧ V 2 q ≤ 60) ∧ C (b + 2) q = V 16 q ∧ -20 ≤ V 16 q ∧ V 16 q ≤ 20) ∧
  (∀ m, m < nm → ∃ x y, x < np ∧ y < np ∧ x ≠ y ∧ C (b + 3) m = nI x ∧ V 7 m = nI x ∧ C (b + 4) m = nI y ∧ V 8 m = nI y ∧ C (b + 6) m = V 10 m ∧ (1 ≤ V 10 m ∧ V 10 m ≤ 60) ∧ C (b + 5) m = V 17 m ∧ 0 ≤ V 17 m ∧ V 17 m ≤ 600)
def LgR (C V : Vw) (w : Nat) : Prop := ∃ nl, nl ≤ 10 ∧ C w 4 = nI nl ∧ V 1 10 = nI nl ∧ ∀ i, i < nl → C (w + 10) (3 * i) = V 13 i ∧ C (w + 10) (3 * i + 1) = V 14 i ∧ C (w + 10) (3 * i + 2) = V 15 i ∧ ∃ y, y ≤ 30 ∧ V 13 i = nI y
def AcR (C V : Vw) (w np nm d : Nat) (pm : Int32) : Prop := ∃ na ap, na ≤ 20 ∧ ap < 20 ∧ C w 8 = nI na ∧ pm = nI na ∧ C w 7 = nI ap ∧ ∀ i, i < na → SR np nm (fun j => C (w + 11) (46 * ((ap + 19 - i) % 20) + j)) (PVf V (na - 1 - i)) ∧ SB np nm d (PVf V (na - 1 - i))
def WhR (C V : Vw) (w : Nat) (pm : Int32) (R d : Nat) : Prop := ∃ np nm, TwR C V (w + 1) np nm ∧ SR np nm (C (w + 9)) (LVf V) ∧ SB np nm d (LVf V) ∧ C w 2 = V 1 12 ∧ (V 1 12 = -1 ∨ ∃ r, r < R ∧ V 1 12 = nI r) ∧ C w 3 = V 1 11 ∧ LgR C V w ∧ AcR C V w np nm d pm
def TpR (C V : Vw) : Prop := ∃ n, n ≤ 400 ∧ C 1 1 = nI n ∧ V 0 26 = nI n ∧ ∀ i, i < n → ∃ b, b < 256 ∧ C 2 i = nI b ∧ V 26 i = (nI b).toInt8.toInt32
def ofs (a : Nat) : Nat := match a with
  | 1 => 0 | 3 => 13 | 4 => 18 | 5 => 23 | 6 => 28 | 9 => 33 | 11 => 41 | 12 => 49 | 2 => 58 | 7 => 63 | 8 => 71 | 10 => 79 | 13 => 87 | 14 => 97 | 15 => 107 | 16 => 117 | 17 => 122 | 18 => 130 | 46 => 131 | _ => 57
def IVf (V : Vw) (k a j : Nat) : Int32 := V 54 (1200 * k + ofs a + j)
def IN0 (t : PH) (C V : Vw) (d : Nat) : Prop :=
  TpR C V ∧ V 0 35 = 14 ∧ ∃ (R : Nat) (own : Nat → Nat), R ≤ 6 ∧ C 0 4 = nI R ∧ V 0 30 = nI R ∧ (∀ r, r < R → ∃ q, rR t 16 r = some q ∧ RlS t C V q r ∧ ∀ i, i < 4 → own (q + i) = r) ∧
    WhR C V 17 (V 0 66) R d ∧ ∀ k, k < 4 → (rR t 29 k = none ∧ V 55 k = 0) ∨ ∃ w, rR t 29 k = some w ∧ V 55 k = 1 ∧ isWh t w ∧ 48 ≤ w ∧ (∀ i, i < 12 → own (w + i) = 6 + k) ∧ WhR C (IVf V k) w (V 54 (1200 * k + 57)) R d
def INV (t : PH) (s s' : ST) (d : Nat) : Prop := IN0 t (gi s) (gi s') d ∧ gi s' 0 56 = -1 ∧ gi s' 0 57 = -1 ∧ gi s' 0 63 = 0
/-! alike in what is looked at -/
def EqW (C : Vw) (w : Nat) (C' : Vw) (w' : Nat) : Prop := (∀ j, j < 9 → C' w' j = C w j) ∧ (∀ j, j < 9 → C' (w' + 1) j = C (w + 1) j) ∧ (∀ j, j < 5 → C' (w' + 2) j = C (w + 2) j) ∧ (∀ j, j < 5 → C' (w' + 3) j = C (w + 3) j) ∧ (∀ j, j < 8 → C' (w' + 4) j = C (w + 4) j) ∧ (∀ j, j < 8 → C' (w' + 5) j = C (w + 5) j) ∧ (∀ j, j < 8 → C' (w' + 6) j = C (w + 6) j) ∧ (∀ j, j < 8 → C' (w' + 7) j = C (w + 7) j) ∧ (∀ j, j < 46 → C' (w' + 9) j = C (w + 9) j) ∧ (∀ j, j < 30 → C' (w' + 10) j = C (w + 10) j) ∧ (∀ j, j < 920 → C' (w' + 11) j = C (w + 11) j)
def EqV (V V' : Vw) : Prop := (∀ j, j < 13 → V' 1 j = V 1 j) ∧ (∀ j, j < 5 → V' 2 j = V 2 j) ∧ (∀ j, j < 5 → V' 3 j = V 3 j) ∧ (∀ j, j < 5 → V' 4 j = V 4 j) ∧ (∀ j, j < 5 → V' 5 j = V 5 j) ∧ (∀ j, j < 5 → V' 6 j = V 6 j) ∧ (∀ j, j < 8 → V' 7 j = V 7 j) ∧ (∀ j, j < 8 → V' 8 j = V 8 j) ∧ (∀ j, j < 8 → V' 9 j = V 9 j) ∧ (∀ j, j < 8 → V' 10 j = V 10 j) ∧ (∀ j, j < 8 → V' 11 j = V 11 j) ∧ (∀ j, j < 8 → V' 12 j = V 12 j) ∧ (∀ j, j < 10 → V' 13 j = V 13 j) ∧ (∀ j, j < 10 → V' 14 j = V 14 j) ∧ (∀ j, j < 10 → V' 15 j = V 15 j) ∧ (∀ j, j < 5 → V' 16 j = V 16 j) ∧ (∀ j, j < 8 → V' 17 j = V 17 j) ∧ (∀ j, j < 1 → V' 18 j = V 18 j) ∧ (∀ j, j < 920 → V' 46 j = V 46 j)
theorem SR_eq {np nm : Nat} {c c' r r' : Nat → Int32} (h : SR np nm c r) (hn : np ≤ 5) (hm : nm ≤ 8) (e1 : ∀ j, j < 46 → c' j = c j) (e2 : ∀ j, j < 46 → r' j = r j) : SR np nm c' r' := by
  intro j hj
  have : j < 46 := by unfold vis at hj; omega
  rw [e1 j this, e2 j this]; exact h j hj
theorem SB_eq {np nm d : Nat} {r r' : Nat → Int32} (h : SB np nm d r) (hn : np ≤ 5) (hm : nm ≤ 8) (e2 : ∀ j, j < 46 → r' j = r j) : SB np nm d r' := by
  obtain ⟨h1, h2, y, h3, h4⟩ := h
  exact ⟨fun q hq => by rw [e2 q (by omega)]; exact h1 q hq, fun m hm => by rw [e2 _ (by omega)]; exact h2 m hm, y, h3, by rw [e2 45 (by omega)]; exact h4⟩
theorem SB_mono {np nm d d' : Nat} {r : Nat → Int32} (h : SB np nm d r) (hd : d ≤ d') : SB np nm d' r := by
  obtain ⟨h1, h2, y, h3, h4⟩ := h
  exact ⟨h1, h2, y, by omega, h4⟩
theorem LVf_eq {V V' : Vw} (h : EqV V V') {j : Nat} (hj : j < 46) : LVf V' j = LVf V j := by
  obtain ⟨h1, h2, h3, h4, h5, h6, h7, h8, h9, h10, h11, h12, h13, h14, h15, h16, h17, h18, h46⟩ := h
  unfold LVf
  by_cases c1 : j < 5
  · rw [if_pos c1, if_pos c1]; exact h3 _ (by omega)
  rw [if_neg c1, if_neg c1]
  by_cases c2 : j < 10
  · rw [if_pos c2, if_pos c2]; exact h4 _ (by omega)
  rw [if_neg c2, if_neg c2]
  by_cases c3 : j < 15
  · rw [if_pos c3, if_pos c3]; exact h5 _ (by omega)
  rw [if_neg c3, if_neg c3]
  by_cases c4 : j < 20
  · rw [if_pos c4, if_pos c4]; exact h6 _ (by omega)
  rw [if_neg c4, if_neg c4]
  by_cases c5 : j < 28
  · rw [if_pos c5, if_pos c5]; exact h9 _ (by omega)
  rw [if_neg c5, if_neg c5]
  by_cases c6 : j < 36
  · rw [if_pos c6, if_pos c6]; exact h11 _ (by omega)
  rw [if_neg c6, if_neg c6]
  by_cases c7 : j < 44
  · rw [if_pos c7, if_pos c7]; exact h12 _ (by omega)
  rw [if_neg c7, if_neg c7]
  by_cases c8 : j = 44
  · rw [if_pos c8, if_pos c8]; exact h1 8 (by omega)
  · rw [if_neg c8, if_neg c8]; exact h1 9 (by omega)
theorem PVf_eq {V V' : Vw} (h : ∀ j, j < 920 → V' 46 j = V 46 j) {k j : Nat} (hk : k < 20) (hj : j < 46) : PVf V' k j = PVf V k j := by
  unfold PVf
  by_cases c8 : j = 44
  · rw [if_pos c8, if_pos c8]; exact h _ (by omega)
  rw [if_neg c8, if_neg c8]
  by_cases c9 : j = 45
  · rw [if_pos c9, if_pos c9]; exact h _ (by omega)
  · rw [if_neg c9, if_neg c9]; exact h _ (by omega)
theorem WhR_eq {C C' V V' : Vw} {w w' R R' d d' : Nat} {pm pm' : Int32} (hC : EqW C w C' w') (hV : EqV V V') (hp : pm' = pm) (hR : R ≤ R') (hd : d ≤ d') (h : WhR C V w pm R d) : WhR C' V' w' pm' R' d' := by
  obtain ⟨np, nm, ⟨t1, t2, t3, t4, t5, t6, t7, t8, t9, t10, t11, t12, t13, t14, t15⟩, s1, s2, r1, r2, x1, ⟨nl, l1, l2, l3, l4⟩, na, ap, a1, a2, a3, a4, a5, a6⟩ := h
  have hV0 := hV
  obtain ⟨c0, c1, c2, c3, c4, c5, c6, c7, c9, c10, c11⟩ := hC
  obtain ⟨h1, h2, h3, h4, h5, h6, h7, h8, h9, h10, h11, h12, h13, h14, h15, h16, h17, h18, h46⟩ := hV
  refine ⟨np, nm, ⟨t1, t2, ?_, ?_, ?_, ?_, ?_, ?_, ?_, ?_, ?_, ?_, ?_, ?_, ?_⟩, ?_, ?_, ?_, ?_, ?_, ⟨nl, l1, ?_, ?_, ?_⟩, na, ap, a1, a2, ?_, ?_, ?_, ?_⟩
  · rw [c1 7 (by omega)]; exact t3
  · rw [h1 3 (by omega)]; exact t4
  · rw [c1 8 (by omega)]; exact t5
  · rw [h1 4 (by omega)]; exact t6
  · rw [c1 3 (by omega), h1 2 (by omega)]; exact t7
  · rw [h1 2 (by omega)]; exact t8
  · rw [c1 0 (by omega), h1 2 (by omega)]; exact t9
  · rw [c1 1 (by omega), h1 0 (by omega)]; exact t10
  · rw [c1 2 (by omega), h1 1 (by omega)]; exact t11
  · rw [c1 4 (by omega), c1 5 (by omega), h1 5 (by omega), h1 6 (by omega)]; exact t12
  · rw [c1 6 (by omega), h18 0 (by omega)]; exact t13
  · intro q hq
    rw [show w' + 1 + 1 = w' + 2 from rfl, show w' + 1 + 2 = w' + 3 from rfl, c2 q (by omega), c3 q (by omega), h2 q (by omega), h16 q (by omega)]; exact t14 q hq
  · intro m hm
    rw [show w' + 1 + 3 = w' + 4 from rfl, show w' + 1 + 4 = w' + 5 from rfl, show w' + 1 + 5 = w' + 6 from rfl, show w' + 1 + 6 = w' + 7 from rfl, c4 m (by omega), c5 m (by omega), c6 m (by omega), c7 m (by omega), h7 m (by omega), h8 m (by omega), h10 m (by omega), h17 m (by omega)]; exact t15 m hm
  · exact SR_eq s1 t1 t2 c9 (fun j hj => LVf_eq hV0 hj)
  · exact SB_mono (SB_eq s2 t1 t2 (fun j hj => LVf_eq hV0 hj)) hd
  · rw [c0 2 (by omega), h1 12 (by omega)]; exact r1
  · rw [h1 12 (by omega)]
    rcases r2 with r2 | ⟨r, r3, r4⟩
    · exact Or.inl r2
    · exact Or.inr ⟨r, by omega, r4⟩
  · rw [c0 3 (by omega), h1 11 (by omega)]; exact x1
  · rw [c0 4 (by omega)]; exact l2
  · rw [h1 10 (by omega)]; exact l3
  · intro i hi
    rw [c10 _ (by omega), c10 _ (by omega), c10 _ (by omega), h13 i (by omega), h14 i (by omega), h15 i (by omega)]; exact l4 i hi
  · rw [c0 8 (by omega)]; exact a3
  · rw [hp]; exact a4
  · rw [c0 7 (by omega)]; exact a5
  · intro i hi
    obtain ⟨b1, b2⟩ := a6 i hi
    have e : ∀ j, j < 46 → PVf V' (na - 1 - i) j = PVf V (na - 1 - i) j := fun j hj => PVf_eq h46 (by omega) hj
    refine ⟨SR_eq b1 t1 t2 (fun j hj => c11 _ (by omega)) e, SB_mono (SB_eq b2 t1 t2 e) hd⟩
theorem RlS_eq {t t' : PH} {C C' V V' : Vw} {q r : Nat} (hs : ∀ x, 48 ≤ x → x < 48 + t.1 → cSh t' x = cSh t x ∧ ∀ k, cRf t' x k = cRf t x k) (ht : t.1 ≤ t'.1) (hC : ∀ i, i < 4 → C' (q + i) = C (q + i)) (h27 : ∀ i, i < 300 → V' 27 (300 * r + i) = V 27 (300 * r + i)) (h28 : ∀ i, i < 300 → V' 28 (300 * r + i) = V 28 (300 * r + i)) (h29 : V' 29 r = V 29 r) (h30 : ∀ i, i < 12 → V' 30 (12 * r + i) = V 30 (12 * r + i)) (h31 : ∀ i, i < 12 → V' 31 (12 * r + i) = V 31 (12 * r + i)) (h32 : ∀ i, i < 12 → V' 32 (12 * r + i) = V 32 (12 * r + i)) (h : RlS t C V q r) : RlS t' C' V' q r := by
  obtain ⟨q0, ⟨z1, z2, ⟨z3, z4, z5⟩, z6, z7, z8⟩, q2, n, L, S, T, e, a1, a2, a3, a4, a5, a6, a7, a8, a9, a10⟩ := h
  have y0 := hs q q0 (by omega)
  have y1 := hs (q + 1) (by omega) (by omega)
  have y2 := hs (q + 2) (by omega) (by omega)
  have y3 := hs (q + 3) (by omega) (by omega)
  have w1 : alT t' (q + 1) = alT t (q + 1) := by unfold alT; rw [y1.1]
  have w2 : alT t' (q + 2) = alT t (q + 2) := by unfold alT; rw [y2.1]
  have w3 : alT t' (q + 3) = alT t (q + 3) := by unfold alT; rw [y3.1]
  have d0 : C' q = C q := hC 0 (by omega)
  have d1 : C' (q + 1) = C (q + 1) := hC 1 (by omega)
  have d2 : C' (q + 2) = C (q + 2) := hC 2 (by omega)
  have d3 : C' (q + 3) = C (q + 3) := hC 3 (by omega)
  refine ⟨q0, ⟨by omega, by rw [y0.1]; exact z2, ⟨by rw [y0.2]; exact z3, by rw [y0.2]; exact z4, by rw [y0.2]; exact z5⟩, by rw [y1.1, w1]; exact z6, by rw [y2.1, w2]; exact z7, by rw [y3.1, w3]; exact z8⟩, q2, n, L, S, T, e, a1, a2, w1.trans a3, w2.trans a4, w3.trans a5, by rw [d0]; exact a6, by rw [h29]; exact a7, fun c hc => ?_, fun c hc => ?_, fun i hi => ?_⟩
  · rw [d2]; exact a8 c hc
  · rw [d3, h30 c (by omega), h31 c (by omega), h32 c (by omega)]; exact a9 c hc
  · rw [d1, h27 i (by omega), h28 i (by omega)]; exact a10 i hi
theorem EqW_row {C C' : Vw} {w : Nat} (h : ∀ i, i < 12 → C' (w + i) = C (w + i)) : EqW C w C' w := by
  have h0 : C' w = C w := h 0 (by omega)
  exact ⟨fun j _ => by rw [h0], fun j _ => by rw [h 1 (by omega)], fun j _ => by rw [h 2 (by omega)], fun j _ => by rw [h 3 (by omega)], fun j _ => by rw [h 4 (by omega)], fun j _ => by rw [h 5 (by omega)], fun j _ => by rw [h 6 (by omega)], fun j _ => by rw [h 7 (by omega)], fun j _ => by rw [h 9 (by omega)], fun j _ => by rw [h 10 (by omega)], fun j _ => by rw [h 11 (by omega)]⟩
theorem EqV_kR {s z : ST} (h : kR z = kR s) : EqV (gi s) (gi z) := by
  refine ⟨fun j hj => ?_, fun j hj => ?_, fun j hj => ?_, fun j hj => ?_, fun j hj => ?_, fun j hj => ?_, fun j hj => ?_, fun j hj => ?_, fun j hj => ?_, fun j hj => ?_, fun j hj => ?_, fun j hj => ?_, fun j hj => ?_, fun j hj => ?_, fun j hj => ?_, fun j hj => ?_, fun j hj => ?_, fun j hj => ?_, fun j hj => ?_⟩ <;> exact kR_g h (by unfold scr svr svn; simp <;> omega)
theorem EqV_im {V V' : Vw} {k : Nat} (h : ∀ j, j < 1051 → V' 54 (1200 * k + j) = V 54 (1200 * k + j)) : EqV (IVf V k) (IVf V' k) := by
  have H : ∀ a j, ofs a + j < 1051 → IVf V' k a j = IVf V k a j := fun a j hj => by unfold IVf; rw [Nat.add_assoc]; exact h _ hj
  exact ⟨fun j hj => H 1 j (by show 0 + j < 1051; omega), fun j hj => H 2 j (by show 58 + j < 1051; omega), fun j hj => H 3 j (by show 13 + j < 1051; omega), fun j hj => H 4 j (by show 18 + j < 1051; omega), fun j hj => H 5 j (by show 23 + j < 1051; omega), fun j hj => H 6 j (by show 28 + j < 1051; omega), fun j hj => H 7 j (by show 63 + j < 1051; omega), fun j hj => H 8 j (by show 71 + j < 1051; omega), fun j hj => H 9 j (by show 33 + j < 1051; omega), fun j hj => H 10 j (by show 79 + j < 1051; omega), fun j hj => H 11 j (by show 41 + j < 1051; omega), fun j hj => H 12 j (by show 49 + j < 1051; omega), fun j hj => H 13 j (by show 87 + j < 1051; omega), fun j hj => H 14 j (by show 97 + j < 1051; omega), fun j hj => H 15 j (by show 107 + j < 1051; omega), fun j hj => H 16 j (by show 117 + j < 1051; omega), fun j hj => H 17 j (by show 122 + j < 1051; omega), fun j hj => H 18 j (by show 130 + j < 1051; omega), fun j hj => H 46 j (by show 131 + j < 1051; omega)⟩
/-- a question's end: nothing that is looked at has changed -/
theorem IN0_k {t : PH} {s z s' z' : ST} {d d' : Nat} (hC : kN z = kN s) (hV : kR z' = kR s') (hd : d ≤ d') (h : IN0 t (gi s) (gi s') d) : IN0 t (gi z) (gi z') d' := by
  obtain ⟨⟨n, n1, n2, n3, n4⟩, w, R, own, r0, r1, r2, r3, r4, r5⟩ := h
  have g : ∀ a j, ¬ (30 ≤ a ∧ a ≤ 47) → gi z a j = gi s a j := fun a j h => kN_g hC h
  have gr : ∀ a, ¬ (30 ≤ a ∧ a ≤ 47) → gi z a = gi s a := fun a h => funext (fun j => g a j h)
  have v : ∀ a j, (scr a j || (svr a && decide (svn a ≤ j))) = false → gi z' a j = gi s' a j := fun a j h => kR_g hV h
  have v27 : ∀ a, a = 26 ∨ a = 27 ∨ a = 28 ∨ a = 29 ∨ a = 30 ∨ a = 31 ∨ a = 32 ∨ a = 55 → ∀ j, gi z' a j = gi s' a j := by
    intro a ha j
    rcases ha with rfl | rfl | rfl | rfl | rfl | rfl | rfl | rfl <;> exact v _ j (by unfold scr svr; simp)
  have v54 : ∀ j, j < 4800 → gi z' 54 j = gi s' 54 j := fun j hj => v 54 j (by unfold scr svr; simp; omega)
  refine ⟨⟨n, n1, by rw [g _ _ (by omega)]; exact n2, by rw [v _ _ (by decide)]; exact n3, fun i hi => ?_⟩, by rw [v _ _ (by decide)]; exact w, R, own, r0, by rw [g _ _ (by omega)]; exact r1, by rw [v _ _ (by decide)]; exact r2, fun r hr => ?_, ?_, fun k hk => ?_⟩
  · rw [g 2 i (by omega), v27 26 (by omega)]; exact n4 i hi
  · obtain ⟨q, q1, q2, q3⟩ := r3 r hr
    have := q2.1
    exact ⟨q, q1, RlS_eq (fun x _ _ => ⟨rfl, fun _ => rfl⟩) (Nat.le_refl _) (fun i hi => gr _ (by omega)) (fun i _ => v27 27 (by omega) _) (fun i _ => v27 28 (by omega) _) (v27 29 (by omega) _) (fun i _ => v27 30 (by omega) _) (fun i _ => v27 31 (by omega) _) (fun i _ => v27 32 (by omega) _) q2, q3⟩
  · exact WhR_eq (EqW_row (fun i hi => gr _ (by omega))) (EqV_kR hV) (v _ _ (by decide)) (Nat.le_refl _) hd r4
  · rcases r5 k hk with ⟨q1, q2⟩ | ⟨w0, q1, q2, q3, q4, q5, q6⟩
    · exact Or.inl ⟨q1, by rw [v27 55 (by omega)]; exact q2⟩
    · refine Or.inr ⟨w0, q1, by rw [v27 55 (by omega)]; exact q2, q3, q4, q5, ?_⟩
      exact WhR_eq (EqW_row (fun i hi => gr _ (by omega))) (EqV_im (fun j hj => v54 _ (by omega))) (v54 _ (by omega)) (Nat.le_refl _) hd q6
theorem INV_k {t : PH} {s z s' z' : ST} {d d' : Nat} (hC : kN z = kN s) (hV : kR z' = kR s') (hd : d ≤ d') (h : INV t s s' d) (h1 : gi z' 0 56 = -1) (h2 : gi z' 0 57 = -1) (h3 : gi z' 0 63 = 0) : INV t z z' d' := ⟨IN0_k hC hV hd h.1, h1, h2, h3⟩
