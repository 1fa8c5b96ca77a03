/-! a meeting in the class -/
def chR (c : Nat → Int32) (p : Nat) (l w f : Int32) (j : Nat) : Int32 := if j = 15 + p then c (15 + p) + w else if j = 10 + p then c (10 + p) + f else if j = 5 + p then l else c j
section CH
variable {s : ST} {sd p j : Nat} {l w f g : Int32}
theorem chS_32 : gi (chS sd p l w f g s) 32 j = chR (s.1 32) p l w f j := by
  unfold chS chR; simp only [gi_si, ↓reduceIte, Nat.reduceEqDiff]; rfl
theorem chS_40 : gi (chS sd p l w f g s) 40 j = if j = p then g else gi s 40 j := by
  unfold chS; simp only [gi_si, ↓reduceIte, Nat.reduceEqDiff]
theorem chS_37 : gi (chS sd p l w f g s) 37 j = if j = sd then l else gi s 37 j := by
  unfold chS; simp only [gi_si, ↓reduceIte, Nat.reduceEqDiff]
theorem chS_38 : gi (chS sd p l w f g s) 38 j = if j = sd then f + w else gi s 38 j := by
  unfold chS; simp only [gi_si, ↓reduceIte, Nat.reduceEqDiff]
theorem chS_c : gi (chS sd p l w f g s) 30 16 = gi s 30 16 + (f + w) := by
  unfold chS; simp only [gi_si, ↓reduceIte, Nat.reduceEqDiff]
theorem chS_w : gi (chS sd p l w f g s) 30 17 = gi s 30 17 + w := by
  unfold chS; simp only [gi_si, ↓reduceIte, Nat.reduceEqDiff]
theorem chS_30 (h : j ≠ 16 ∧ j ≠ 17) : gi (chS sd p l w f g s) 30 j = gi s 30 j := by
  unfold chS; rw [gi_dif h.2, gi_dif h.1]; simp only [gi_si, ↓reduceIte, Nat.reduceEqDiff]
theorem chS_o {x : Nat} (h : x ≠ 30 ∧ x ≠ 32 ∧ x ≠ 37 ∧ x ≠ 38 ∧ x ≠ 40) : gi (chS sd p l w f g s) x j = gi s x j := by
  unfold chS; simp (disch := omega) only [gi_ne]
theorem chS_22 : (chS sd p l w f g s).2.2 = s.2.2 := rfl
theorem chS_mr : mr (chS sd p l w f g s) j = mr s j := rfl
theorem chS_kC : kC (chS sd p l w f g s) = kC s := by
  unfold chS
  rw [kC_si rfl, kC_si rfl, kC_si rfl, kC_si rfl, kC_si rfl, kC_si rfl, kC_si rfl, kC_si rfl]
end CH
theorem chR_rwM {c M : Nat → Int32} {a b m N j : Nat} {lA lB fA fB w1 w2 : Int32} {hd : Bool} (ha : a < 5) (hb : b < 5) (hab : a ≠ b) (hm : m < 8) (hN : (N = 28 + m ∧ hd = true) ∨ (N = 36 + m ∧ hd = false)) (hM : ∀ k, M k = if k = N then c k + 1 else c k) :
    chR (chR M a lA w1 fA) b lB w2 fB j = rwM c a b m lA lB fA fB w1 w2 hd j := by
  have : j = 5 + a ∨ j = 5 + b ∨ j = 10 + a ∨ j = 10 + b ∨ j = 15 + a ∨ j = 15 + b ∨ j = 28 + m ∨ j = 36 + m ∨ (j ≠ 5 + a ∧ j ≠ 5 + b ∧ j ≠ 10 + a ∧ j ≠ 10 + b ∧ j ≠ 15 + a ∧ j ≠ 15 + b ∧ j ≠ 28 + m ∧ j ≠ 36 + m) := by omega
  unfold chR rwM
  rcases hN with ⟨rfl, rfl⟩ | ⟨rfl, rfl⟩
  · rcases this with rfl | rfl | rfl | rfl | rfl | rfl | rfl | rfl | h <;> simp (disch := omega) only [if_pos, if_neg, hM, eq_self, if_true]
  · rcases this with rfl | rfl | rfl | rfl | rfl | rfl | rfl | rfl | h <;> simp (disch := omega) only [if_pos, if_neg, hM, eq_self, if_true, Bool.false_eq_true, if_false]
theorem goC {t : PH} {s s1 s2 : ST} {m a b : Nat} {vA vB uA uB x2 X Y w1 w2 fA fB gA gB mi : Int32} {hd : Bool} (hm : m < 8) (ha : a < 5) (hb : b < 5) (hab : a ≠ b)
    (h18 : mr s 0 = some 18) (ha1 : gi s 21 m = nI a) (hb1 : gi s 22 m = nI b)
    (e1 : fX0_minutesMeant (nI a) (nI b) (nI m) t s = some (vA, s1)) (e2 : fX0_minutesMeant (nI b) (nI a) (nI m) t s1 = some (vB, s2)) (F : FC s s2)
    (hA : drU (gi s 30 13) (if nI m = gi s 30 10 then gi s 30 11 else vA) (gi s 30 14) = uA)
    (hB : drU (gi s 30 13) (if nI m = gi s 30 10 then gi s 30 12 else vB) (drX (gi s 30 13) (gi s 30 14)) = uB)
    (hx : drX (gi s 30 13) (drX (gi s 30 13) (gi s 30 14)) = x2)
    (hmi : gi s 32 (20 + m) = mi)
    (hX : imx ((mi + uA) - gi s 32 a) (gi s 39 a) = X) (hY : imx ((mi + uB) - gi s 32 b) (gi s 39 b) = Y)
    (hw1 : imx 0 (imn (gi s 18 3) (Y - X)) = w1) (hw2 : imx 0 (imn (gi s 18 3) (X - Y)) = w2) (hh : decide (iab (X - Y) ≤ gi s 18 3) = hd)
    (hfA : fnV (exB (gi s 32 44) a) (X - mi) (gi s 30 7) (gi s 30 8) (gi s 18 4) (gi s 18 5) = fA)
    (hfB : fnV (exB (gi s 32 44) b) (Y - mi) (gi s 30 7) (gi s 30 8) (gi s 18 4) (gi s 18 5) = fB)
    (hgA : guV (exB (gi s 32 44) a) (X - mi) (gi s 30 7) (gi s 30 8) (gi s 40 a) = gA)
    (hgB : guV (exB (gi s 32 44) b) (Y - mi) (gi s 30 7) (gi s 30 8) (gi s 40 b) = gB) :
    ∃ z, fX0_goThrough (nI m) t s = some z ∧ kC z = kC s ∧ z.2.2 = s.2.2 ∧
      (∀ j, gi z 32 j = rwM (s.1 32) a b m (X - mi) (Y - mi) fA fB w1 w2 hd j) ∧
      (∀ j, gi z 39 j = tw (s.1 39) a b (if hd = true then X + w1 + gi s 24 m else X + w1) (if hd = true then X + w1 + gi s 24 m else Y + w2) j) ∧
      (∀ j, gi z 40 j = tw (s.1 40) a b gA gB j) ∧
      (∀ j, gi z 35 j = if j = m then (if hd = true then X + w1 else -1) else gi s 35 j) ∧
      (∀ j, gi z 36 j = if j = m then w1 + w2 else gi s 36 j) ∧
      (∀ j, gi z 37 j = if j = 2 * m + 1 then Y - mi else if j = 2 * m then X - mi else gi s 37 j) ∧
      (∀ j, gi z 38 j = if j = 2 * m + 1 then fB + w2 else if j = 2 * m then fA + w1 else gi s 38 j) ∧
      (∀ j, gi z 34 j = gi s 34 j) ∧
      gi z 30 14 = x2 ∧ gi z 30 15 = (if hd = true then gi s 30 15 else gi s 30 15 + 1) ∧ gi z 30 16 = gi s 30 16 + (fA + w1) + (fB + w2) ∧ gi z 30 17 = gi s 30 17 + w1 + w2 := by
  have g32 : ∀ j, gi s2 32 j = gi s 32 j := F.gi (by decide)
  have g30 : ∀ j, gi s2 30 j = gi s 30 j := F.gi (by decide)
  have g18 : ∀ j, gi s2 18 j = gi s 18 j := F.gi (by decide)
  have g39 : ∀ j, gi s2 39 j = gi s 39 j := F.gi (by decide)
  have g40 : ∀ j, gi s2 40 j = gi s 40 j := F.gi (by decide)
  have g24 : ∀ j, gi s2 24 j = gi s 24 j := F.gi (by decide)
  have g34 : ∀ j, gi s2 34 j = gi s 34 j := F.gi (by decide)
  have g35 : ∀ j, gi s2 35 j = gi s 35 j := F.gi (by decide)
  have g36 : ∀ j, gi s2 36 j = gi s 36 j := F.gi (by decide)
  have g37 : ∀ j, gi s2 37 j = gi s 37 j := F.gi (by decide)
  have g38 : ∀ j, gi s2 38 j = gi s 38 j := F.gi (by decide)
  have m18 : mr s2 0 = some 18 := by rw [F.mr]; exact h18
  have k1 : (20 + m = 28 + m) = False := eq_false (by omega)
  have k2 : (20 + m = 36 + m) = False := eq_false (by omega)
  have k44a : (44 = 28 + m) = False := eq_false (by omega)
  have k44b : (44 = 36 + m) = False := eq_false (by omega)
  have kba : (b = a) = False := eq_false (fun h => hab h.symm)
  have kab : (a = b) = False := eq_false hab
  have q1 : (44 = 5 + a) = False := eq_false (by omega)
  have q2 : (44 = 10 + a) = False := eq_false (by omega)
  have q3 : (44 = 15 + a) = False := eq_false (by omega)
  have F2 : kC s2 = kC s := F.kC
  have M2 : s2.2.2 = s.2.2 := F.2
  have c1 : ∀ j, chC 32 j = true := fun j => rfl
  cases hd
  · have hh : ¬ iab (X - Y) ≤ gi s 18 3 := of_decide_eq_false hh
    have E : fX0_goThrough (nI m) t s = (fX0_charge (nI (2 * m)) (nI a) (X - mi) w1 (si (si (si (si (si (si (si s2 30 14 x2) 35 m (-1)) 39 a (X + w1)) 39 b (Y + w2)) 32 (36 + m) (gi s 32 (36 + m) + 1)) 30 15 (gi s 30 15 + 1)) 36 m (w1 + w2))).bind (fun q63 => (fX0_charge (nI (2 * m + 1)) (nI b) (Y - mi) w2 q63).bind (fun q65 => some q65)) := by
      unfold fX0_goThrough
      simp (disch := omega) only [↓fixC, ↓drawC, ↓ck_bind, ↓lt_bind, ↓Option.bind_assoc, ↓bd_s, ↓lt_v, ↓ck_v, ↓reduceIte, bd_s, nj_add, nj_addl, nj_addr, nj_mull, nj_mulr, nj_subr, nj_pred, ix_nI, ix_lit, inb_t, inb_l, gi_si, gi_sl, gl_si, gl_sl, gi_sAr, gl_sAr, mr_si, mr_sl, mr_sm, gi_sm, gl_sm, mr_sAr, Nat.reduceEqDiff, ha1, hb1, e1, e2, when_ev, g32, g30, g18, g39, g40, g24, hA, hB, hx, hmi, hX, hY, hw1, hw2, h18, m18, decide_true, hh, if_false, k1, k2, Bool.false_eq_true]
    obtain ⟨MS, hMS⟩ : ∃ u, u = (si (si (si (si (si (si (si s2 30 14 x2) 35 m (-1)) 39 a (X + w1)) 39 b (Y + w2)) 32 (36 + m) (gi s 32 (36 + m) + 1)) 30 15 (gi s 30 15 + 1)) 36 m (w1 + w2)) := ⟨_, rfl⟩
    rw [← hMS] at E
    have m0 : mr MS 0 = some 18 := by rw [hMS]; simp only [mr_si, m18]
    have mk : kC MS = kC s := by rw [hMS, kC_si rfl, kC_si rfl, kC_si rfl, kC_si rfl, kC_si rfl, kC_si rfl, kC_si rfl, F2]
    have m2 : MS.2.2 = s.2.2 := by rw [hMS]; exact M2
    have m32 : ∀ k, MS.1 32 k = if k = 36 + m then s.1 32 k + 1 else s.1 32 k := by
      intro k
      rw [show MS.1 32 k = gi MS 32 k from rfl, hMS]
      simp only [gi_si, ↓reduceIte, Nat.reduceEqDiff, g32]
      by_cases e : k = 36 + m
      · rw [if_pos e, if_pos e, e]; rfl
      · rw [if_neg e, if_neg e]; rfl
    have m44 : gi MS 32 44 = gi s 32 44 := by rw [hMS]; simp only [gi_si, ↓reduceIte, Nat.reduceEqDiff, g32, k44a, k44b]
    have m30 : gi MS 30 7 = gi s 30 7 ∧ gi MS 30 8 = gi s 30 8 ∧ gi MS 30 14 = x2 ∧ gi MS 30 15 = gi s 30 15 + 1 ∧ gi MS 30 16 = gi s 30 16 ∧ gi MS 30 17 = gi s 30 17 := by
      rw [hMS]; simp only [gi_si, ↓reduceIte, Nat.reduceEqDiff, g30, and_self]
    have m18b : gi MS 18 4 = gi s 18 4 ∧ gi MS 18 5 = gi s 18 5 := by
      rw [hMS]; simp only [gi_si, ↓reduceIte, Nat.reduceEqDiff, g18, and_self]
    have m40 : ∀ k, gi MS 40 k = gi s 40 k := by intro k; rw [hMS]; simp only [gi_si, ↓reduceIte, Nat.reduceEqDiff, g40]
    have m39 : ∀ k, gi MS 39 k = tw (s.1 39) a b (X + w1) (Y + w2) k := by
      intro k; rw [hMS]; simp only [gi_si, ↓reduceIte, Nat.reduceEqDiff, g39]; unfold tw
      by_cases e1 : k = a
      · rw [if_neg (by omega), if_pos e1, if_pos e1]
      · rw [if_neg e1, if_neg e1]; rfl
    have m35 : ∀ k, gi MS 35 k = if k = m then -1 else gi s 35 k := by intro k; rw [hMS]; simp only [gi_si, ↓reduceIte, Nat.reduceEqDiff, g35]
    have m36 : ∀ k, gi MS 36 k = if k = m then w1 + w2 else gi s 36 k := by intro k; rw [hMS]; simp only [gi_si, ↓reduceIte, Nat.reduceEqDiff, g36]
    have m34 : ∀ k, gi MS 34 k = gi s 34 k := by intro k; rw [hMS]; simp only [gi_si, ↓reduceIte, Nat.reduceEqDiff, g34]
    have m37 : ∀ k, gi MS 37 k = gi s 37 k := by intro k; rw [hMS]; simp only [gi_si, ↓reduceIte, Nat.reduceEqDiff, g37]
    have m38 : ∀ k, gi MS 38 k = gi s 38 k := by intro k; rw [hMS]; simp only [gi_si, ↓reduceIte, Nat.reduceEqDiff, g38]
    clear hMS
    obtain ⟨n1, n2, n3, n4, n5, n6⟩ := m30
    obtain ⟨n7, n8⟩ := m18b
    have C1 := charge_ev (s := MS) (sd := 2 * m) (p := a) (l := X - mi) (w := w1) ha (by omega) m0
    rw [m44, n1, n2, n7, n8, m40, hfA, hgA] at C1
    obtain ⟨S1, hS1⟩ : ∃ u, u = chS (2 * m) a (X - mi) w1 fA gA MS := ⟨_, rfl⟩
    rw [← hS1] at C1
    have C2 := charge_ev (s := S1) (sd := 2 * m + 1) (p := b) (l := Y - mi) (w := w2) hb (by omega) (by rw [hS1]; exact m0)
    have o44 : gi S1 32 44 = gi s 32 44 := by
      rw [hS1, chS_32]; unfold chR; rw [if_neg (by omega), if_neg (by omega), if_neg (by omega)]; exact m44
    have o40 : gi S1 40 b = gi s 40 b := by rw [hS1, chS_40, if_neg (fun h => hab h.symm)]; exact m40 b
    have o7 : gi S1 30 7 = gi s 30 7 := by rw [hS1, chS_30 (by decide), n1]
    have o8 : gi S1 30 8 = gi s 30 8 := by rw [hS1, chS_30 (by decide), n2]
    have o4 : gi S1 18 4 = gi s 18 4 := by rw [hS1, chS_o (by decide), n7]
    have o5 : gi S1 18 5 = gi s 18 5 := by rw [hS1, chS_o (by decide), n8]
    rw [o44, o7, o8, o4, o5, o40, hfB, hgB] at C2
    rw [E, C1, bd_s, C2, bd_s]
    have S32 : S1.1 32 = chR (MS.1 32) a (X - mi) w1 fA := by funext k; rw [hS1]; exact chS_32
    refine ⟨_, rfl, ?_, ?_, fun j => ?_, fun j => ?_, fun j => ?_, fun j => ?_, fun j => ?_, fun j => ?_, fun j => ?_, fun j => ?_, ?_, ?_, ?_, ?_⟩
    · rw [chS_kC, hS1, chS_kC, mk]
    · rw [chS_22, hS1, chS_22, m2]
    · rw [chS_32, S32]
      exact chR_rwM ha hb hab hm (Or.inr ⟨rfl, rfl⟩) m32
    · rw [chS_o (by decide), hS1, chS_o (by decide), m39]; rfl
    · rw [chS_40, hS1, chS_40, m40]; unfold tw
      by_cases e1 : j = a
      · rw [if_neg (by omega), if_pos e1, if_pos e1]
      · rw [if_neg e1, if_neg e1]; rfl
    · rw [chS_o (by decide), hS1, chS_o (by decide), m35]; rfl
    · rw [chS_o (by decide), hS1, chS_o (by decide), m36]
    · rw [chS_37, hS1, chS_37, m37]
    · rw [chS_38, hS1, chS_38, m38]
    · rw [chS_o (by decide), hS1, chS_o (by decide), m34]
    · rw [chS_30 (by decide), hS1, chS_30 (by decide), n3]
    · rw [chS_30 (by decide), hS1, chS_30 (by decide), n4]; rfl
    · rw [chS_c, hS1, chS_c, n5]
    · rw [chS_w, hS1, chS_w, n6]
  · have hh : iab (X - Y) ≤ gi s 18 3 := of_decide_eq_true hh
    have E : fX0_goThrough (nI m) t s = (fX0_charge (nI (2 * m)) (nI a) (X - mi) w1 (si (si (si (si (si (si s2 30 14 x2) 35 m (X + w1)) 39 a (X + w1 + gi s 24 m)) 39 b (X + w1 + gi s 24 m)) 32 (28 + m) (gi s 32 (28 + m) + 1)) 36 m (w1 + w2))).bind (fun q63 => (fX0_charge (nI (2 * m + 1)) (nI b) (Y - mi) w2 q63).bind (fun q65 => some q65)) := by
      unfold fX0_goThrough
      simp (disch := omega) only [↓fixC, ↓drawC, ↓ck_bind, ↓lt_bind, ↓Option.bind_assoc, ↓bd_s, ↓lt_v, ↓ck_v, ↓reduceIte, bd_s, nj_add, nj_addl, nj_addr, nj_mull, nj_mulr, nj_subr, nj_pred, ix_nI, ix_lit, inb_t, inb_l, gi_si, gi_sl, gl_si, gl_sl, gi_sAr, gl_sAr, mr_si, mr_sl, mr_sm, gi_sm, gl_sm, mr_sAr, Nat.reduceEqDiff, ha1, hb1, e1, e2, when_ev, g32, g30, g18, g39, g40, g24, hA, hB, hx, hmi, hX, hY, hw1, hw2, h18, m18, decide_true, hh, if_true, k1, k2, Bool.false_eq_true]
    obtain ⟨MS, hMS⟩ : ∃ u, u = (si (si (si (si (si (si s2 30 14 x2) 35 m (X + w1)) 39 a (X + w1 + gi s 24 m)) 39 b (X + w1 + gi s 24 m)) 32 (28 + m) (gi s 32 (28 + m) + 1)) 36 m (w1 + w2)) := ⟨_, rfl⟩
    rw [← hMS] at E
    have m0 : mr MS 0 = some 18 := by rw [hMS]; simp only [mr_si, m18]
    have mk : kC MS = kC s := by rw [hMS, kC_si rfl, kC_si rfl, kC_si rfl, kC_si rfl, kC_si rfl, kC_si rfl, F2]
    have m2 : MS.2.2 = s.2.2 := by rw [hMS]; exact M2
    have m32 : ∀ k, MS.1 32 k = if k = 28 + m then s.1 32 k + 1 else s.1 32 k := by
      intro k
      rw [show MS.1 32 k = gi MS 32 k from rfl, hMS]
      simp only [gi_si, ↓reduceIte, Nat.reduceEqDiff, g32]
      by_cases e : k = 28 + m
      · rw [if_pos e, if_pos e, e]; rfl
      · rw [if_neg e, if_neg e]; rfl
    have m44 : gi MS 32 44 = gi s 32 44 := by rw [hMS]; simp only [gi_si, ↓reduceIte, Nat.reduceEqDiff, g32, k44a, k44b]
    have m30 : gi MS 30 7 = gi s 30 7 ∧ gi MS 30 8 = gi s 30 8 ∧ gi MS 30 14 = x2 ∧ gi MS 30 15 = gi s 30 15 ∧ gi MS 30 16 = gi s 30 16 ∧ gi MS 30 17 = gi s 30 17 := by
      rw [hMS]; simp only [gi_si, ↓reduceIte, Nat.reduceEqDiff, g30, and_self]
    have m18b : gi MS 18 4 = gi s 18 4 ∧ gi MS 18 5 = gi s 18 5 := by
      rw [hMS]; simp only [gi_si, ↓reduceIte, Nat.reduceEqDiff, g18, and_self]
    have m40 : ∀ k, gi MS 40 k = gi s 40 k := by intro k; rw [hMS]; simp only [gi_si, ↓reduceIte, Nat.reduceEqDiff, g40]
    have m39 : ∀ k, gi MS 39 k = tw (s.1 39) a b (X + w1 + gi s 24 m) (X + w1 + gi s 24 m) k := by
      intro k; rw [hMS]; simp only [gi_si, ↓reduceIte, Nat.reduceEqDiff, g39]; unfold tw
      by_cases e1 : k = a
      · rw [if_neg (by omega), if_pos e1, if_pos e1]
      · rw [if_neg e1, if_neg e1]; rfl
    have m35 : ∀ k, gi MS 35 k = if k = m then X + w1 else gi s 35 k := by intro k; rw [hMS]; simp only [gi_si, ↓reduceIte, Nat.reduceEqDiff, g35]
    have m36 : ∀ k, gi MS 36 k = if k = m then w1 + w2 else gi s 36 k := by intro k; rw [hMS]; simp only [gi_si, ↓reduceIte, Nat.reduceEqDiff, g36]
    have m34 : ∀ k, gi MS 34 k = gi s 34 k := by intro k; rw [hMS]; simp only [gi_si, ↓reduceIte, Nat.reduceEqDiff, g34]
    have m37 : ∀ k, gi MS 37 k = gi s 37 k := by intro k; rw [hMS]; simp only [gi_si, ↓reduceIte, Nat.reduceEqDiff, g37]
    have m38 : ∀ k, gi MS 38 k = gi s 38 k := by intro k; rw [hMS]; simp only [gi_si, ↓reduceIte, Nat.reduceEqDiff, g38]
    clear hMS
    obtain ⟨n1, n2, n3, n4, n5, n6⟩ := m30
    obtain ⟨n7, n8⟩ := m18b
    have C1 := charge_ev (s := MS) (sd := 2 * m) (p := a) (l := X - mi) (w := w1) ha (by omega) m0
    rw [m44, n1, n2, n7, n8, m40, hfA, hgA] at C1
    obtain ⟨S1, hS1⟩ : ∃ u, u = chS (2 * m) a (X - mi) w1 fA gA MS := ⟨_, rfl⟩
    rw [← hS1] at C1
    have C2 := charge_ev (s := S1) (sd := 2 * m + 1) (p := b) (l := Y - mi) (w := w2) hb (by omega) (by rw [hS1]; exact m0)
    have o44 : gi S1 32 44 = gi s 32 44 := by
      rw [hS1, chS_32]; unfold chR; rw [if_neg (by omega), if_neg (by omega), if_neg (by omega)]; exact m44
    have o40 : gi S1 40 b = gi s 40 b := by rw [hS1, chS_40, if_neg (fun h => hab h.symm)]; exact m40 b
    have o7 : gi S1 30 7 = gi s 30 7 := by rw [hS1, chS_30 (by decide), n1]
    have o8 : gi S1 30 8 = gi s 30 8 := by rw [hS1, chS_30 (by decide), n2]
    have o4 : gi S1 18 4 = gi s 18 4 := by rw [hS1, chS_o (by decide), n7]
    have o5 : gi S1 18 5 = gi s 18 5 := by rw [hS1, chS_o (by decide), n8]
    rw [o44, o7, o8, o4, o5, o40, hfB, hgB] at C2
    rw [E, C1, bd_s, C2, bd_s]
    have S32 : S1.1 32 = chR (MS.1 32) a (X - mi) w1 fA := by funext k; rw [hS1]; exact chS_32
    refine ⟨_, rfl, ?_, ?_, fun j => ?_, fun j => ?_, fun j => ?_, fun j => ?_, fun j => ?_, fun j => ?_, fun j => ?_, fun j => ?_, ?_, ?_, ?_, ?_⟩
    · rw [chS_kC, hS1, chS_kC, mk]
    · rw [chS_22, hS1, chS_22, m2]
    · rw [chS_32, S32]
      exact chR_rwM ha hb hab hm (Or.inl ⟨rfl, rfl⟩) m32
    · rw [chS_o (by decide), hS1, chS_o (by decide), m39]; rfl
    · rw [chS_40, hS1, chS_40, m40]; unfold tw
      by_cases e1 : j = a
      · rw [if_neg (by omega), if_pos e1, if_pos e1]
      · rw [if_neg e1, if_neg e1]; rfl
    · rw [chS_o (by decide), hS1, chS_o (by decide), m35]; rfl
    · rw [chS_o (by decide), hS1, chS_o (by decide), m36]
    · rw [chS_37, hS1, chS_37, m37]
    · rw [chS_38, hS1, chS_38, m38]
    · rw [chS_o (by decide), hS1, chS_o (by decide), m34]
    · rw [chS_30 (by decide), hS1, chS_30 (by decide), n3]
    · rw [chS_30 (by decide), hS1, chS_30 (by decide), n4]; rfl
    · rw [chS_c, hS1, chS_c, n5]
    · rw [chS_w, hS1, chS_w, n6]
