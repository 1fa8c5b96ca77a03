/-! QUESTIONS: what a course needs of now -/
theorem n10 : ¬ (1 : Int32) = 0 := by decide
theorem nft : ¬ (false = true) := by decide
theorem si_x {s : ST} {b k : Nat} {x : Int32} (a j : Nat) (h : ¬ (a = b ∧ j = k)) : gi (si s b k x) a j = gi s a j := by
  rw [gi_si]
  by_cases e : a = b
  · rw [if_pos e, if_neg (by omega), e]
  · rw [if_neg e]
def NW (t : PH) (s s' : ST) (d np nm R : Nat) : Prop :=
  TwR (gi s) (gi s') 18 np nm ∧ SR np nm (gi s 26) (lv s') ∧ SB np nm d (lv s') ∧ gi s 17 2 = gi s' 1 12 ∧ (gi s' 1 12 = -1 ∨ ∃ r, r < R ∧ gi s' 1 12 = nI r) ∧ gi s 17 3 = gi s' 1 11 ∧ R ≤ 6 ∧ gi s 0 4 = nI R ∧ gi s' 0 30 = nI R ∧ (∀ r, r < R → ∃ q, rR t 16 r = some q ∧ RlS t (gi s) (gi s') q r) ∧ LgR (gi s) (gi s') 17
theorem IN0_nw {t : PH} {s s' : ST} {d : Nat} (h : IN0 t (gi s) (gi s') d) : ∃ np nm R, NW t s s' d np nm R := by
  obtain ⟨-, -, R, own, r0, r1, r2, r3, ⟨np, nm, w1, w2, w3, w4, w5, w6, w7, w8⟩, -⟩ := h
  exact ⟨np, nm, R, w1, w2, w3, w4, w5, w6, r0, r1, r2, fun r hr => by obtain ⟨q, q1, q2, q3⟩ := r3 r hr; exact ⟨q, q1, q2⟩, w7⟩
theorem NW_k {t : PH} {s s' u v : ST} {d np nm R : Nat} (h : IN0 t (gi s) (gi s') d) (hn : NW t s s' d np nm R) (hu : kN u = kN s) (hv : kR v = kR s') : NW t u v d np nm R := by
  obtain ⟨np2, nm2, R2, k⟩ := IN0_nw (IN0_k hu hv (Nat.le_refl d) h)
  have e1 : np2 = np := by
    have a := k.1.2.2.1
    rw [kN_g hu (by omega), hn.1.2.2.1] at a
    have := k.1.1
    have := hn.1.1
    rw [nj_eq (by omega) (by omega)] at a
    exact a.symm
  have e2 : nm2 = nm := by
    have a := k.1.2.2.2.2.1
    rw [kN_g hu (by omega), hn.1.2.2.2.2.1] at a
    have := k.1.2.1
    have := hn.1.2.1
    rw [nj_eq (by omega) (by omega)] at a
    exact a.symm
  have e3 : R2 = R := by
    have a := k.2.2.2.2.2.2.2.1
    rw [kN_g hu (by omega), hn.2.2.2.2.2.2.2.1] at a
    have := k.2.2.2.2.2.2.1
    have := hn.2.2.2.2.2.2.1
    rw [nj_eq (by omega) (by omega)] at a
    exact a.symm
  subst e1 e2 e3
  exact k
theorem DRp_ch {t : PH} {C C' V V' : Vw} {g g' : Nat → Option Nat} {np nm : Nat} (h : DRp t C g V np nm) (eg : g' = g)
    (eC : ∀ a j, ¬ (a = 30 ∧ 7 ≤ j ∧ j ≤ 13) → a ≠ 41 → C' a j = C a j)
    (eV : ∀ a j, ¬ (a = 1 ∧ j < 2) → ¬ (a = 0 ∧ 56 ≤ j ∧ j ≤ 71) → a ≠ 2 → V' a j = V a j)
    (h7 : C' 30 7 = V' 1 0) (h8 : C' 30 8 = V' 1 1)
    (hh : ∀ q, q < np → C' 41 q = V' 2 q ∧ -20 ≤ V' 2 q ∧ V' 2 q ≤ 60)
    (h9 : C' 30 9 = V' 0 56) (h10 : C' 30 10 = V' 0 57)
    (h11 : V' 0 57 ≠ -1 → C' 30 11 = V' 0 58 ∧ C' 30 12 = V' 0 59 ∧ (0 ≤ V' 0 58 ∧ V' 0 58 ≤ 60) ∧ 0 ≤ V' 0 59 ∧ V' 0 59 ≤ 60)
    (h13 : C' 30 13 = V' 0 63) : DRp t C' g' V' np nm := by
  obtain ⟨a1, a2, a3, a4, a5, a6, a7, a8, a9, a10, a11, a12, a13, a14, a15, a16, a17, a18, a19⟩ := h
  refine ⟨a1, a2, by rw [eg]; exact a3, ?_, ?_, ?_, ?_, h7, h8, ?_, ?_, ?_, hh, ?_, h9, h10, h11, h13, ?_⟩
  · rw [eC _ _ (by omega) (by omega)]; exact a4
  · rw [eV _ _ (by omega) (by omega) (by omega)]; exact a5
  · rw [eC _ _ (by omega) (by omega)]; exact a6
  · rw [eV _ _ (by omega) (by omega) (by omega)]; exact a7
  · rw [eC _ _ (by omega) (by omega), eV _ _ (by omega) (by omega) (by omega)]; exact a10
  · rw [eV _ _ (by omega) (by omega) (by omega)]; exact a11
  · rw [eC _ _ (by omega) (by omega), eC _ _ (by omega) (by omega), eV _ _ (by omega) (by omega) (by omega), eV _ _ (by omega) (by omega) (by omega)]; exact a12
  · intro m hm
    rw [eC _ _ (by omega) (by omega), eC _ _ (by omega) (by omega), eC _ _ (by omega) (by omega), eV _ _ (by omega) (by omega) (by omega), eV _ _ (by omega) (by omega) (by omega), eV _ _ (by omega) (by omega) (by omega)]; exact a14 m hm
  · rw [eg, eV 1 12 (by omega) (by omega) (by omega)]
    rcases a19 with x | ⟨q, r, x1, x2, x3⟩
    · exact Or.inl x
    · have := x3.1
      refine Or.inr ⟨q, r, x1, x2, RlS_eq (fun x _ _ => ⟨rfl, fun _ => rfl⟩) (Nat.le_refl _) (fun i hi => funext (fun j => eC _ _ (by omega) (by omega))) (fun i hi => eV _ _ (by omega) (by omega) (by omega)) (fun i hi => eV _ _ (by omega) (by omega) (by omega)) (eV _ _ (by omega) (by omega) (by omega)) (fun i hi => eV _ _ (by omega) (by omega) (by omega)) (fun i hi => eV _ _ (by omega) (by omega) (by omega)) (fun i hi => eV _ _ (by omega) (by omega) (by omega)) x3⟩
/-- ready for days -/
def CRs (t : PH) (u v : ST) (np nm y : Nat) : Prop := DRp t (kC u) (mr u) (kM v) np nm ∧ SR np nm (u.1 32) (lv v) ∧ SB np nm y (lv v) ∧ (gi v 0 63 ≠ 0 → gi u 30 14 = gi v 1 11)
theorem DRp_v {t : PH} {C V V' : Vw} {g : Nat → Option Nat} {np nm : Nat} (h : DRp t C g V np nm) (eV : ∀ a j, ¬ (a = 0 ∧ 69 ≤ j ∧ j ≤ 71) → V' a j = V a j) : DRp t C g V' np nm := by
  have k := h
  obtain ⟨a1, a2, a3, a4, a5, a6, a7, a8, a9, a10, a11, a12, a13, a14, a15, a16, a17, a18, a19⟩ := h
  exact DRp_ch k rfl (fun a j _ _ => rfl) (fun a j _ h2 _ => eV a j (by omega)) (by rw [eV _ _ (by omega)]; exact a8) (by rw [eV _ _ (by omega)]; exact a9) (fun q hq => by rw [eV _ _ (by omega)]; exact a13 q hq) (by rw [eV _ _ (by omega)]; exact a15) (by rw [eV _ _ (by omega)]; exact a16) (by rw [eV 0 57 (by omega), eV 0 58 (by omega), eV 0 59 (by omega)]; exact a17) (by rw [eV _ _ (by omega)]; exact a18)
theorem kM_x {v : ST} {j : Nat} {x : Int32} {a k : Nat} (h : ¬ (a = 0 ∧ 69 ≤ k ∧ k ≤ 71)) (hj : 69 ≤ j ∧ j ≤ 71) : kM (si v 0 j x) a k = kM v a k := by
  have e : gi (si v 0 j x) a k = gi v a k := si_x _ _ (by omega)
  unfold kM
  rw [e]
theorem CRs_x {t : PH} {u v : ST} {np nm y j : Nat} {x : Int32} (h : CRs t u v np nm y) (hj : 69 ≤ j ∧ j ≤ 71) : CRs t u (si v 0 j x) np nm y := by
  obtain ⟨h1, h2, h3, h4⟩ := h
  have e : lv (si v 0 j x) = lv v := lv_si_o _ (by omega)
  refine ⟨DRp_v h1 (fun a k hk => kM_x hk hj), by rw [e]; exact h2, by rw [e]; exact h3, ?_⟩
  rw [gi_si, if_pos rfl, if_neg (by omega), gi_si, if_neg (by omega)]
  exact h4
/-- what days leave in the reference -/
def XM (s z : ST) : Prop := ∀ a j, chM a j = false → ¬ (a = 0 ∧ 69 ≤ j ∧ j ≤ 71) → gi z a j = gi s a j
theorem XM.trans {a b c : ST} (h : XM a b) (k : XM b c) : XM a c := fun x j h1 h2 => (k x j h1 h2).trans (h x j h1 h2)
theorem XM_kM {s z : ST} (h : kM z = kM s) : XM s z := fun a j h1 _ => kM_g h h1
theorem XM_si {s : ST} {j : Nat} {x : Int32} (hj : 69 ≤ j ∧ j ≤ 71) : XM s (si s 0 j x) := fun a k _ h2 => by
  rw [gi_si]
  by_cases e : a = 0
  · subst e; rw [if_pos rfl, if_neg (by omega)]
  · rw [if_neg e]
def DYl (np nm : Nat) (s z z' : ST) : Prop := (∀ q, q < np → gi z 39 q = gi z' 37 q) ∧ ∀ m, m < nm → nI m ≠ gi s 30 9 → Bk z z' m
theorem days_both {t : PH} {np nm n : Nat} (hn : n < 10000) : ∀ (k i f f' y B : Nat) (s s' : ST), i + k = n → k < f → k < f' → CRs t s s' np nm y → y + k ≤ 999 → gi s 30 15 = gi s' 0 71 → gi s 30 16 = gi s' 0 69 → gi s 30 17 = gi s' 0 70 → (∃ c, c ≤ B ∧ gi s' 0 69 = nI c) →
    ∃ z z', fX0_goDays_L2 (nI n) t f (nI i) s = some (nI n, z) ∧ fX12_goes_L17 (nI n) f' (nI i) s' = some (nI n, z') ∧ CRs t z z' np nm (y + k) ∧ kC z = kC s ∧ z.2.2 = s.2.2 ∧ XM s' z' ∧ gi z 30 15 = gi z' 0 71 ∧ gi z 30 16 = gi z' 0 69 ∧ gi z 30 17 = gi z' 0 70 ∧ (0 < k → DYl np nm s z z') ∧ (∀ j, ¬ vis np nm j → gi z 32 j = gi s 32 j) ∧ ∃ c, c ≤ B + 1600 * k ∧ gi z' 0 69 = nI c := by
  intro k
  induction k with
  | zero =>
    intro i f f' y B s s' hi hf hf' hc hy g1 g2 g3 g4
    obtain ⟨f, rfl⟩ : ∃ m, f = m + 1 := ⟨f - 1, by omega⟩
    obtain ⟨f', rfl⟩ : ∃ m, f' = m + 1 := ⟨f' - 1, by omega⟩
    obtain rfl : i = n := by omega
    refine ⟨s, s', ?_, ?_, hc, rfl, rfl, fun _ _ _ _ => rfl, g1, g2, g3, fun h => absurd h (by omega), fun _ _ => rfl, by rw [Nat.mul_zero]; exact g4⟩
    · rw [fX0_goDays_L2, if_pos (Int32.le_refl _)]
    · rw [fX12_goes_L17, if_pos (Int32.le_refl _)]
  | succ k ih =>
    intro i f f' y B s s' hi hf hf' hc hy g1 g2 g3 g4
    obtain ⟨f, rfl⟩ : ∃ m, f = m + 1 := ⟨f - 1, by omega⟩
    obtain ⟨f', rfl⟩ : ∃ m, f' = m + 1 := ⟨f' - 1, by omega⟩
    obtain ⟨z, z', a1, a2, a3, a4, a5, a6, a7, a8, a9, a10, a11, a12, a13, a14, a15, a16, cd, a17, a18⟩ := day_both hc.1 hc.2.1 hc.2.2.1 (by omega) hc.2.2.2
    have x0 : XM s' z' := XM_kM a7
    have e71 : gi z' 0 71 = gi s' 0 71 := kM_g a7 rfl
    have e69 : gi z' 0 69 = gi s' 0 69 := kM_g a7 rfl
    have e70 : gi z' 0 70 = gi s' 0 70 := kM_g a7 rfl
    have c0 : CRs t z z' np nm (y + 1) := ⟨by rw [a5, a7, show mr z = mr s from funext (fun j => by unfold mr; rw [a6])]; exact hc.1, a3, a4, a8⟩
    obtain ⟨w, w', b1, b2, b3, b4, b5, b6, b7, b8, b9, b10, b11, ce, b12, b13⟩ := ih (i + 1) f f' (y + 1) (B + 1600) z (si (si (si z' 0 71 (gi s' 0 71 + gi z' 0 60)) 0 69 (gi z' 0 69 + gi z' 0 61)) 0 70 (gi z' 0 70 + gi z' 0 62)) (by omega) (by omega) (by omega) (CRs_x (CRs_x (CRs_x c0 (by omega)) (by omega)) (by omega)) (by omega)
      (by rw [gi_dif (by decide), gi_dif (by decide), gi_same, a9, g1])
      (by rw [gi_dif (by decide), gi_same, a10, g2, e69])
      (by rw [gi_same, a11, g3, e70])
      (by
        obtain ⟨c, c1, c2⟩ := g4
        exact ⟨c + cd, by omega, by rw [gi_dif (by decide), gi_same, e69, c2, a18, nj_add]⟩)
    refine ⟨w, w', ?_, ?_, ?_, b4.trans a5, b5.trans a6, (x0.trans ((XM_si (by omega)).trans ((XM_si (by omega)).trans (XM_si (by omega))))).trans b6, b7, b8, b9, fun _ => ?_, fun j hj => (b11 j hj).trans (a14 j hj), ce, by omega, b13⟩
    · rw [fX0_goDays_L2, if_neg (by rw [nj_le (by omega) (by omega)]; omega), a1, bd_s, lt_v, nj_addr]
      exact b1
    · rw [fX12_goes_L17, if_neg (by rw [nj_le (by omega) (by omega)]; omega), a2, bd_s]
      simp only [lt_v, nj_addr, gi_si, Nat.reduceEqDiff, if_true, if_false]
      exact b2
    · rw [show y + (k + 1) = y + 1 + k by omega]; exact b3
    · by_cases hk : 0 < k
      · have q := b10 hk
        refine ⟨q.1, fun m hm hne => q.2 m hm ?_⟩
        rw [← kC_v (s := z) (a := 30) (j := 9) rfl, a5, kC_v rfl]
        exact hne
      · obtain rfl : k = 0 := by omega
        obtain ⟨f, rfl⟩ : ∃ m, f = m + 1 := ⟨f - 1, by omega⟩
        obtain ⟨f', rfl⟩ : ∃ m, f' = m + 1 := ⟨f' - 1, by omega⟩
        rw [fX0_goDays_L2, if_pos (by rw [show i + 1 = n by omega]; exact Int32.le_refl _)] at b1
        rw [fX12_goes_L17, if_pos (by rw [show i + 1 = n by omega]; exact Int32.le_refl _)] at b2
        obtain ⟨-, rfl⟩ := Prod.mk.inj (Option.some.inj b1)
        obtain ⟨-, rfl⟩ := Prod.mk.inj (Option.some.inj b2)
        refine ⟨fun q hq => ?_, fun m hm hne => ?_⟩
        · rw [gi_ne (by decide), gi_ne (by decide), gi_ne (by decide)]; exact a12 q hq
        · have := a13 m hm hne
          unfold Bk at this ⊢
          simp only [gi_si, Nat.reduceEqDiff, if_false]
          exact this
theorem go_both {t : PH} {np nm n y : Nat} {s s' : ST} (hn : n ≤ 100) (hc : CRs t s s' np nm y) (hy : y + n ≤ 999) (g1 : gi s 30 15 = 0) (g2 : gi s 30 16 = 0) (g3 : gi s 30 17 = 0) :
    ∃ z z', fX0_goDays (nI n) t s = some z ∧ fX12_goes (nI n) s' = some z' ∧ CRs t z z' np nm (y + n) ∧ kC z = kC s ∧ z.2.2 = s.2.2 ∧ XM s' z' ∧ gi z 30 15 = gi z' 0 71 ∧ gi z 30 16 = gi z' 0 69 ∧ gi z 30 17 = gi z' 0 70 ∧ (0 < n → DYl np nm s z z') ∧ (∀ j, ¬ vis np nm j → gi z 32 j = gi s 32 j) ∧ ∃ c, c ≤ 1600 * n ∧ gi z' 0 69 = nI c := by
  obtain ⟨z, z', a1, a2, a3, a4, a5, a6, a7⟩ := days_both (t := t) (np := np) (nm := nm) (n := n) (by omega) n 0 FUEL FUEL y 0 s (si (si (si s' 0 69 0) 0 70 0) 0 71 0) (by omega) (by rw [FUEL_eq]; omega) (by rw [FUEL_eq]; omega) (CRs_x (CRs_x (CRs_x hc (by omega)) (by omega)) (by omega)) hy
    (by rw [gi_same, g1]) (by rw [gi_dif (by decide), gi_dif (by decide), gi_same, g2]) (by rw [gi_dif (by decide), gi_same, g3]) ⟨0, by omega, by rw [gi_dif (by decide), gi_dif (by decide), gi_same]; rfl⟩
  rw [Nat.zero_add] at a7
  refine ⟨z, z', ?_, ?_, a3, a4, a5, ((XM_si (by omega)).trans ((XM_si (by omega)).trans (XM_si (by omega)))).trans a6, a7⟩
  · unfold fX0_goDays
    rw [show (0 : Int32) = nI 0 from rfl, a1, bd_s]
  · unfold fX12_goes
    simp only [lt_v]
    rw [show fX12_goes_L17 (nI n) FUEL 0 = fX12_goes_L17 (nI n) FUEL (nI 0) from rfl, a2, bd_s]
/-- a course from now -/
def stS (p : Option Nat) (u : ST) : ST := sAr (si (si (si (si (si (si (si (si (sAr (sm (sm u 0 (some 18)) 1 p) 41 (va_cpy (u.1 19) (u.1 41) 0 0 5)) 30 7 (gi u 18 1)) 30 8 (gi u 18 2)) 30 9 (-1)) 30 10 (-1)) 30 13 0) 30 15 0) 30 16 0) 30 17 0) 32 (va_cpy (u.1 26) (u.1 32) 0 0 46)
theorem stS_o {p : Option Nat} {u : ST} {a : Nat} (h : a ≠ 30 ∧ a ≠ 32 ∧ a ≠ 41) (j : Nat) : gi (stS p u) a j = gi u a j := by
  unfold stS
  rw [gi_sAr, if_neg h.2.1, gi_ne h.1, gi_ne h.1, gi_ne h.1, gi_ne h.1, gi_ne h.1, gi_ne h.1, gi_ne h.1, gi_ne h.1, gi_sAr, if_neg h.2.2, gi_sm, gi_sm]
theorem stS_32 {p : Option Nat} {u : ST} {j : Nat} (h : j < 46) : (stS p u).1 32 j = gi u 26 j := by
  show gi (stS p u) 32 j = _
  unfold stS va_cpy
  rw [gi_sAr, if_pos rfl, if_pos (by omega)]
  show u.1 26 (0 + (j - 0)) = u.1 26 j
  rw [show 0 + (j - 0) = j by omega]
theorem stS_41 {p : Option Nat} {u : ST} {j : Nat} (h : j < 5) : gi (stS p u) 41 j = gi u 19 j := by
  unfold stS va_cpy
  rw [gi_sAr, if_neg (by decide)]
  simp only [gi_si, Nat.reduceEqDiff, if_false]
  rw [gi_sAr, if_pos rfl, if_pos (by omega)]
  show u.1 19 (0 + (j - 0)) = u.1 19 j
  rw [show 0 + (j - 0) = j by omega]
theorem stS_30 {p : Option Nat} {u : ST} : gi (stS p u) 30 7 = gi u 18 1 ∧ gi (stS p u) 30 8 = gi u 18 2 ∧ gi (stS p u) 30 9 = -1 ∧ gi (stS p u) 30 10 = -1 ∧ gi (stS p u) 30 13 = 0 ∧ gi (stS p u) 30 15 = 0 ∧ gi (stS p u) 30 16 = 0 ∧ gi (stS p u) 30 17 = 0 := by
  unfold stS
  simp only [gi_sAr, gi_si, gi_sm, Nat.reduceEqDiff, if_true, if_false, and_self]
theorem stS_mr {p : Option Nat} {u : ST} : mr (stS p u) 0 = some 18 ∧ mr (stS p u) 1 = p := by
  unfold stS
  simp only [mr_sAr, mr_si, mr_sm, Nat.reduceEqDiff, if_true, if_false, and_self]
theorem rule_ev {t : PH} {u v : ST} {d np nm R : Nat} (h : NW t u v d np nm R) : ∃ p, fX11_ruleThatIsInForce t u = some p ∧ okO t p = true ∧ ((p = none ∧ gi v 1 12 = -1) ∨ ∃ q r, p = some q ∧ gi v 1 12 = nI r ∧ RlS t (gi u) (gi v) q r) := by
  obtain ⟨h1, h2, h3, h4, h5, h6, h7, h8, h9, h10, h11⟩ := h
  unfold fX11_ruleThatIsInForce
  rw [lt_v, h4, h8]
  rcases h5 with h5 | ⟨r, hr, h5⟩
  · rw [h5]
    exact ⟨none, by simp only [show ((-1 : Int32) < 0) = True from eq_true (by decide), if_true, bd_s, Bool.false_eq_true, if_false], rfl, Or.inl ⟨rfl, rfl⟩⟩
  · rw [h5]
    obtain ⟨q, q1, q2⟩ := h10 r hr
    refine ⟨some q, ?_, decide_eq_true (by have := q2.2.1.1; omega), Or.inr ⟨q, r, rfl, rfl, q2⟩⟩
    rw [if_neg (nj_nn (by omega)), if_neg (by rw [nj_le (by omega) (by omega)]; omega), bd_s, if_pos rfl, ck_t (inb_t (by omega) (by omega)), bd_s, ix_nI (by omega), q1]
theorem start_eq {t : PH} {u : ST} {p : Option Nat} (h : fX11_ruleThatIsInForce t u = some p) (ho : okO t p = true) : fX11_startFromNow t u = some (stS p u) := by
  unfold fX11_startFromNow fX0_start_18 fX5_copyFrom_St_St
  rw [h, bd_s]
  simp only [lt_v, ck_t ho, ck_t (show okO t (some 18) = true from decide_eq_true (by omega)), mr_si, mr_sAr, mr_sm, Nat.reduceEqDiff, if_true, if_false, decide_true, ck_t (rfl : true = true), ck_t (show cpB 0 0 5 5 5 = true by decide), ck_t (show cpB 0 0 46 46 46 = true by decide), bd_s]
  rfl
theorem CRs_of {t : PH} {u v m m' : ST} {d np nm R : Nat} {p : Option Nat} (h : NW t u v d np nm R)
    (hp : (p = none ∧ gi v 1 12 = -1) ∨ ∃ q r, p = some q ∧ gi v 1 12 = nI r ∧ RlS t (gi u) (gi v) q r) (hm0 : mr m 0 = some 18) (hm1 : mr m 1 = p)
    (hmC : ∀ a j, a ≠ 30 → a ≠ 32 → a ≠ 41 → (a < 33 ∨ 48 ≤ a) → gi m a j = gi u a j)
    (hmV : ∀ a j, ((a = 1 ∧ 2 ≤ j ∧ j ≤ 7) ∨ (a = 1 ∧ j = 12) ∨ a = 7 ∨ a = 8 ∨ a = 10 ∨ (27 ≤ a ∧ a ≤ 32)) → gi m' a j = gi v a j)
    (h7 : gi m 30 7 = gi m' 1 0) (h8 : gi m 30 8 = gi m' 1 1) (hh : ∀ q, q < np → gi m 41 q = gi m' 2 q ∧ -20 ≤ gi m' 2 q ∧ gi m' 2 q ≤ 60)
    (h9 : gi m 30 9 = gi m' 0 56) (h10 : gi m 30 10 = gi m' 0 57)
    (h11 : gi m' 0 57 ≠ -1 → gi m 30 11 = gi m' 0 58 ∧ gi m 30 12 = gi m' 0 59 ∧ (0 ≤ gi m' 0 58 ∧ gi m' 0 58 ≤ 60) ∧ 0 ≤ gi m' 0 59 ∧ gi m' 0 59 ≤ 60)
    (h13 : gi m 30 13 = gi m' 0 63) (hs : SR np nm (m.1 32) (lv m')) (hb : SB np nm d (lv m')) (hx : gi m' 0 63 ≠ 0 → gi m 30 14 = gi m' 1 11) : CRs t m m' np nm d := by
  refine ⟨?_, hs, hb, hx⟩
  obtain ⟨⟨t1, t2, t3, t4, t5, t6, t7, t8, t9, t10, t11, t12, t13, t14, t15⟩, -⟩ := h
  have o18 : ∀ j, kC m 18 j = gi u 18 j := fun j => by rw [kC_v rfl, hmC _ _ (by decide) (by decide) (by decide) (by decide)]
  have v1 : ∀ j, 2 ≤ j → j ≤ 7 → kM m' 1 j = gi v 1 j := fun j hj hj2 => by rw [kM_v (by unfold chM; simp; omega), hmV _ _ (by omega)]
  refine ⟨t1, t2, hm0, by rw [o18]; exact t3, by rw [v1 _ (by omega) (by omega)]; exact t4, by rw [o18]; exact t5, by rw [v1 _ (by omega) (by omega)]; exact t6, by rw [kC_v rfl, kM_v rfl]; exact h7, by rw [kC_v rfl, kM_v rfl]; exact h8, by rw [o18, v1 _ (by omega) (by omega)]; exact t7, by rw [v1 _ (by omega) (by omega)]; exact t8, by rw [o18, o18, v1 _ (by omega) (by omega), v1 _ (by omega) (by omega)]; exact t12, fun q hq => ?_, fun k hk => ?_, by rw [kC_v rfl, kM_v rfl]; exact h9, by rw [kC_v rfl, kM_v rfl]; exact h10, by rw [kC_v rfl, kC_v rfl, kM_v rfl, kM_v rfl, kM_v rfl]; exact h11, by rw [kC_v rfl, kM_v rfl]; exact h13, ?_⟩
  · rw [kC_v rfl, kM_v rfl]; exact hh q hq
  · rw [kC_v rfl, kC_v rfl, kC_v rfl, kM_v rfl, kM_v rfl, kM_v rfl, hmC _ _ (by decide) (by decide) (by decide) (by decide), hmC _ _ (by decide) (by decide) (by decide) (by decide), hmC _ _ (by decide) (by decide) (by decide) (by decide), hmV _ _ (by omega), hmV _ _ (by omega), hmV _ _ (by omega)]
    obtain ⟨x, y, e1, e2, e3, e4, e5, e6, e7, e8, e9, e10⟩ := t15 k hk
    exact ⟨x, y, e1, e2, e3, e4, e5, e6, e7, e8, e9⟩
  · rw [hm1, kM_v rfl, hmV _ _ (by omega)]
    rcases hp with x | ⟨q, r, x1, x2, x3⟩
    · exact Or.inl x
    · have hq := x3.1
      refine Or.inr ⟨q, r, x1, x2, RlS_eq (fun x _ _ => ⟨rfl, fun _ => rfl⟩) (Nat.le_refl _) (fun i hi => funext (fun j => ?_)) (fun i hi => (kM_v rfl).trans (hmV _ _ (by omega))) (fun i hi => (kM_v rfl).trans (hmV _ _ (by omega))) ((kM_v rfl).trans (hmV _ _ (by omega))) (fun i hi => (kM_v rfl).trans (hmV _ _ (by omega))) (fun i hi => (kM_v rfl).trans (hmV _ _ (by omega))) (fun i hi => (kM_v rfl).trans (hmV _ _ (by omega))) x3⟩
      rw [kC_v (by unfold chC; simp; omega), hmC _ _ (by omega) (by omega) (by omega) (by omega)]
theorem stS_kN {p : Option Nat} {u : ST} : kN (stS p u) = kN u := kN_of (fun a j h => stS_o (by omega) j)
/-- the reference: back where it was kept -/
theorem kQ_XM {s z : ST} (h : XM s z) : kQ z = kQ s := kQ_of (fun a j e => h a j (by
  simp only [Bool.or_eq_false_iff] at e
  obtain ⟨e1, e2⟩ := e
  unfold scr at e1
  unfold svr at e2
  unfold chM
  simp at e1 e2 ⊢
  grind) (by
  simp only [Bool.or_eq_false_iff] at e
  obtain ⟨e1, e2⟩ := e
  unfold scr at e1
  simp at e1
  omega))
/-- n days of both, and the reference's way back -/
theorem kN_si {u : ST} {a j : Nat} {x : Int32} (h : 30 ≤ a ∧ a ≤ 47) : kN (si u a j x) = kN u := kN_of (fun b k hb => gi_ne (by omega))
theorem iter {t : PH} {s s' m m' : ST} {np nm d n : Nat} (hn : n ≤ 100) (hd : d + n ≤ 999) (hc : CRs t m m' np nm d) (g1 : gi m 30 15 = 0) (g2 : gi m 30 16 = 0) (g3 : gi m 30 17 = 0) (hm : kN m = kN s) (hm' : kQ m' = kQ s') (hs' : SvK s' m') :
    ∃ z z' w', fX0_goDays (nI n) t m = some z ∧ fX12_goes (nI n) m' = some z' ∧ fX12_laysBack z' = some w' ∧ kN z = kN s ∧ kR w' = kR s' ∧ SvK s' w' ∧ gi z 30 15 = gi w' 0 71 ∧ gi z 30 16 = gi w' 0 69 ∧ gi z 30 17 = gi w' 0 70 ∧ (∀ j, 56 ≤ j ∧ j ≤ 59 ∨ j = 63 → gi w' 0 j = gi m' 0 j) ∧ (∀ a j, 48 ≤ a → a ≤ 53 → gi w' a j = gi m' a j) ∧ (∀ a j, 44 ≤ a → a ≤ 47 → gi z a j = gi m a j) ∧ (0 < n → DYl np nm m z w') ∧ CRs t z z' np nm (d + n) ∧ gi z' 0 71 = gi w' 0 71 ∧ gi z' 0 69 = gi w' 0 69 ∧ (∃ c, c ≤ 1600 * n ∧ gi w' 0 69 = nI c) ∧ gi z' 0 63 = gi m' 0 63 := by
  obtain ⟨z, z', a1, a2, a3, a4, a5, a6, a7, a8, a9, a10, a11, cc, a12, a13⟩ := go_both hn hc hd g1 g2 g3
  obtain ⟨w', b1, b2, b3, b4, b5⟩ := lays_ev (s0 := s') (s := z') ((kQ_XM a6).trans hm') (SvK_54 hs' (fun j => a6 54 j rfl (by omega)))
  refine ⟨z, z', w', a1, a2, b1, (kN_kC a4).trans hm, b2, b3, by rw [b4 _ (by decide) (by decide)]; exact a7, by rw [b4 _ (by decide) (by decide)]; exact a8, by rw [b4 _ (by decide) (by decide)]; exact a9, fun j hj => ?_, fun a j h1 h2 => ?_, fun a j h1 h2 => ?_, fun h => ?_, a3, (b4 _ (by decide) (by decide)).symm, (b4 _ (by decide) (by decide)).symm, ⟨cc, a12, by rw [b4 _ (by decide) (by decide)]; exact a13⟩, a6 0 63 rfl (by omega)⟩
  · rw [b4 j (by omega) (by omega)]
    exact a6 0 j (by unfold chM; simp; omega) (by omega)
  · rw [b5.gi (by simp only [List.mem_cons, List.not_mem_nil, or_false]; omega)]
    exact a6 a j (by unfold chM; simp; omega) (by omega)
  · exact kC_g a4 (by unfold chC; simp; omega)
  · obtain ⟨c1, c2⟩ := a10 h
    refine ⟨fun q hq => by rw [b5.gi (by decide)]; exact c1 q hq, fun k hk hne => ?_⟩
    have := c2 k hk hne
    unfold Bk at this ⊢
    rw [b5.gi (by decide), b5.gi (by decide), b5.gi (by decide), b5.gi (by decide), b5.gi (by decide), b5.gi (by decide)]
    exact this
theorem iter1 {t : PH} {s s' m m' : ST} {np nm d : Nat} (hd : d + 1 ≤ 999) (hc : CRs t m m' np nm d) (g1 : gi m 30 15 = 0) (g2 : gi m 30 16 = 0) (g3 : gi m 30 17 = 0) (hm : kN m = kN s) (hm' : kQ m' = kQ s') (hs' : SvK s' m') :
    ∃ z z' w', fX0_goDay t m = some z ∧ fX12_goes 1 m' = some z' ∧ fX12_laysBack z' = some w' ∧ kN z = kN s ∧ kR w' = kR s' ∧ SvK s' w' ∧ gi z 30 15 = gi w' 0 71 ∧ gi z 30 16 = gi w' 0 69 ∧ gi z 30 17 = gi w' 0 70 ∧ (∀ j, 56 ≤ j ∧ j ≤ 59 ∨ j = 63 → gi w' 0 j = gi m' 0 j) ∧ (∀ a j, 48 ≤ a → a ≤ 53 → gi w' a j = gi m' a j) ∧ (∀ a j, 44 ≤ a → a ≤ 47 → gi z a j = gi m a j) ∧ DYl np nm m z w' := by
  obtain ⟨z, z', w', a1, a2, a3, a4, a5, a6, a7, a8, a9, a10, a11, a12, a13, -⟩ := iter (n := 1) (by omega) hd hc g1 g2 g3 hm hm' hs'
  refine ⟨z, z', w', ?_, a2, a3, a4, a5, a6, a7, a8, a9, a10, a11, a12, a13 (by omega)⟩
  unfold fX0_goDays at a1
  rw [show FUEL = 4998 + 1 + 1 from rfl, fX0_goDays_L2, if_neg (by decide)] at a1
  cases e : fX0_goDay t m with
  | none => rw [e] at a1; cases a1
  | some q =>
    rw [e, bd_s, lt_v, fX0_goDays_L2, if_pos (by decide), bd_s] at a1
    exact a1
