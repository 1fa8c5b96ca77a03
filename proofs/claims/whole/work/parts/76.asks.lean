/-! LAW, MINUTE, RESTS -/
theorem CRs_law {t : PH} {u v : ST} {d np nm R : Nat} {p : Option Nat} {l x : Int32} (nz : NW t u v d np nm R) (p3 : RlP t u v p) (f56 : gi v 0 56 = -1) (f57 : gi v 0 57 = -1) (f63 : gi v 0 63 = 0) : CRs t (si (si (stS p u) 30 7 l) 30 8 x) (si (si v 1 0 l) 1 1 x) np nm d := by
  obtain ⟨s7, s8, s9, s10, s13, s15, s16, s17⟩ := stS_30 (p := p) (u := u)
  have := nz.1.1
  have := nz.1.2.1
  have el : lv (si (si v 1 0 l) 1 1 x) = lv v := by rw [lv_si_o _ (by omega), lv_si_o _ (by omega)]
  refine CRs_of nz p3 (by rw [mr_si, mr_si]; exact stS_mr.1) (by rw [mr_si, mr_si]; exact stS_mr.2) (fun a j h1 h2 h3 _ => by rw [gi_ne h1, gi_ne h1]; exact stS_o ⟨h1, h2, h3⟩ j) (fun a j hh => by rw [si_x _ _ (by omega), si_x _ _ (by omega)]) (by rw [gi_dif (by decide), gi_same, gi_dif (by decide), gi_same]) (by rw [gi_same, gi_same])
    (fun q hq => by
      rw [gi_ne (by decide), gi_ne (by decide), gi_ne (by decide), gi_ne (by decide), stS_41 (by omega)]
      obtain ⟨q1, q2, q3⟩ := nz.1.2.2.2.2.2.2.2.2.2.2.2.2.2.1 q hq
      exact ⟨q1, q2⟩) (by rw [gi_dif (by decide), gi_dif (by decide), gi_ne (by decide), gi_ne (by decide)]; exact s9.trans f56.symm) (by rw [gi_dif (by decide), gi_dif (by decide), gi_ne (by decide), gi_ne (by decide)]; exact s10.trans f57.symm) (fun e => absurd (by rw [gi_ne (by decide), gi_ne (by decide)]; exact f57) e) (by rw [gi_dif (by decide), gi_dif (by decide), gi_ne (by decide), gi_ne (by decide)]; exact s13.trans f63.symm)
    (fun j hj => ?_) (by rw [el]; exact nz.2.2.1) (fun e => absurd (by rw [gi_ne (by decide), gi_ne (by decide)]; exact f63) e)
  rw [el, show (si (si (stS p u) 30 7 l) 30 8 x).1 32 j = gi (si (si (stS p u) 30 7 l) 30 8 x) 32 j from rfl, gi_ne (by decide), gi_ne (by decide)]
  exact (stS_32 (by unfold vis at hj; omega)).trans (nz.2.1 j hj)
theorem law_it {t : PH} {s s' u v : ST} {d np nm R n : Nat} (h : INV t s s' d) (hn : NW t s s' d np nm R) (q : QS s s' u v) (hk : n ≤ 100) (hd : d ≤ 600) (l x : Int32) :
    ∃ m z w', fX11_startFromNow t u = some m ∧ fX0_goDays (nI n) t (si (si m 30 7 l) 30 8 x) = some z ∧ fX12_costsOf (nI n) (si (si v 1 0 l) 1 1 x) = some (gi w' 0 69, w') ∧ QS s s' z w' ∧ gi z 30 16 = gi w' 0 69 ∧ ∃ c, c ≤ 160000 ∧ gi w' 0 69 = nI c := by
  have nz := NW_k h.1 hn q.1 q.2.1
  obtain ⟨p, p1, p2, p3⟩ := rule_ev nz
  obtain ⟨s7, s8, s9, s10, s13, s15, s16, s17⟩ := stS_30 (p := p) (u := u)
  obtain ⟨z, z', w', a1, a2, a3, a4, a5, a6, a7, a8, a9, a10, a11, a12, a13, a14, a15, a16, ⟨cc, a17, a18⟩, a19⟩ := iter (s := s) (s' := s') (n := n) hk (by omega) (CRs_law (l := l) (x := x) nz p3 q.2.2.2.1 q.2.2.2.2.1 q.2.2.2.2.2) (by rw [gi_dif (by decide), gi_dif (by decide)]; exact s15) (by rw [gi_dif (by decide), gi_dif (by decide)]; exact s16) (by rw [gi_dif (by decide), gi_dif (by decide)]; exact s17) ((kN_si (by omega)).trans ((kN_si (by omega)).trans (stS_kN.trans q.1))) ((kQ_si rfl).trans ((kQ_si rfl).trans (kQ_kR q.2.1))) (SvK_si (SvK_si q.2.2.1 (by decide)) (by decide))
  refine ⟨_, z, w', start_eq p1 p2, a1, ?_, ⟨a4, a5, a6, ?_, ?_, ?_⟩, a8, cc, by omega, a18⟩
  · unfold fX12_costsOf
    rw [a2, bd_s, a3, bd_s]
  · rw [a10 _ (by omega), gi_ne (by decide), gi_ne (by decide)]; exact q.2.2.2.1
  · rw [a10 _ (by omega), gi_ne (by decide), gi_ne (by decide)]; exact q.2.2.2.2.1
  · rw [a10 _ (by omega), gi_ne (by decide), gi_ne (by decide)]; exact q.2.2.2.2.2
def L2 (x3 x4 x5 y3 y4 y5 : Int32) : Prop := y3 = x3 ∧ y4 = x4 ∧ y5 = x5 ∧ (∃ b, b ≤ 100 ∧ x3 = nI b) ∧ ∃ c, c ≤ 160000 ∧ x5 = nI c
def LR (x3 x4 x5 y3 y4 y5 : Int32) : Prop := (x3 = -1 ∧ y5 = -1) ∨ L2 x3 x4 x5 y3 y4 y5
theorem law_in {t : PH} {s s' : ST} {d np nm R n i : Nat} {p : Int32} (h : INV t s s' d) (hn : NW t s s' d np nm R) (hd : d ≤ 600) (hk : n ≤ 100) (hi : i ≤ 5) : ∀ (k j f f' : Nat) (x3 x4 x5 y3 y4 y5 : Int32) (u v : ST), j + k = 7 → i ≤ j → 1 ≤ j → k < f → k < f' → (k = 0 → L2 x3 x4 x5 y3 y4 y5) → LR x3 x4 x5 y3 y4 y5 → QS s s' u v →
    ∃ a b c u2 v2, fX11_law_L46 (nI n) p (nI (10 * i)) t f x3 x4 x5 (nI (10 * j)) u = some (a, b, c, nI 70, u2) ∧ fX12_law_L59 (nI n) p (nI (10 * i)) f' y3 y4 y5 (nI (10 * j)) v = some (a, b, c, nI 70, v2) ∧ QS s s' u2 v2 ∧ L2 a b c a b c := by
  intro k
  induction k with
  | zero =>
    intro j f f' x3 x4 x5 y3 y4 y5 u v hj h1 h2 hf hf' h3 hl q
    obtain ⟨f, rfl⟩ : ∃ m, f = m + 1 := ⟨f - 1, by omega⟩
    obtain ⟨f', rfl⟩ : ∃ m, f' = m + 1 := ⟨f' - 1, by omega⟩
    obtain rfl : j = 7 := by omega
    obtain ⟨rfl, rfl, rfl, e4, e5⟩ := h3 rfl
    refine ⟨y3, y4, y5, u, v, ?_, ?_, q, rfl, rfl, rfl, e4, e5⟩
    · rw [fX11_law_L46, if_pos (by decide)]
    · rw [fX12_law_L59, if_pos (by decide)]
  | succ k ih =>
    intro j f f' x3 x4 x5 y3 y4 y5 u v hj h1 h2 hf hf' h3 hl q
    obtain ⟨f, rfl⟩ : ∃ m, f = m + 1 := ⟨f - 1, by omega⟩
    obtain ⟨f', rfl⟩ : ∃ m, f' = m + 1 := ⟨f' - 1, by omega⟩
    obtain ⟨m, z, w', a1, a2, a3, a4, a5, cc, a6, a7⟩ := law_it (n := n) h hn q hk hd (nI (10 * i)) (nI (10 * j))
    have hst : 10 * j + 10 = 10 * (j + 1) := by omega
    have hL2 : L2 (nI (10 * i)) (nI (10 * j)) (gi w' 0 69) (nI (10 * i)) (nI (10 * j)) (gi w' 0 69) := ⟨rfl, rfl, rfl, ⟨_, by omega, rfl⟩, cc, a6, a7⟩
    rw [fX11_law_L46, fX12_law_L59]
    rcases hl with ⟨e1, e2⟩ | ⟨rfl, rfl, rfl, ⟨b, b1, b2⟩, c, c1, c2⟩
    · simp (disch := omega) only [↓ite_bind, ↓ck_bind, ↓lt_bind, ↓Option.bind_assoc, ↓bd_s, ↓lt_v, ↓ck_v, ↓reduceIte, Bool.false_eq_true, Bool.true_eq_false, nj_add, nj_addl, nj_addr, nj_mull, nj_mulr, nj_subr, nj_pred, ix_nI, ix_lit, inb_t, inb_l, nj_le_t, nj_le_f, nj_lel_t, nj_lel_f, nj_ler_t, nj_ler_f, nj_lt_t, nj_lt_f, nj_ltl_t, nj_ltl_f, nj_ltr_t, nj_ltr_f, nj_eq_t, nj_eq_f, nj_eqr_t, nj_eqr_f, nj_m1, nj_m2, hst, a1, a2, a3, a5, e1, e2]
      exact ih (j + 1) f f' _ _ _ _ _ _ _ _ (by omega) (by omega) (by omega) (by omega) (by omega) (fun _ => hL2) (Or.inr hL2) a4
    · have n3 : ¬ y3 = -1 := by rw [b2]; exact nj_nm (by omega) (by decide) (by decide)
      have n5 : ¬ y5 = -1 := by rw [c2]; exact nj_nm (by omega) (by decide) (by decide)
      by_cases c3 : y5 ≤ gi w' 0 69
      · simp (disch := omega) only [↓ite_bind, ↓ck_bind, ↓lt_bind, ↓Option.bind_assoc, ↓bd_s, ↓lt_v, ↓ck_v, ↓reduceIte, Bool.false_eq_true, Bool.true_eq_false, nj_add, nj_addl, nj_addr, nj_mull, nj_mulr, nj_subr, nj_pred, ix_nI, ix_lit, inb_t, inb_l, nj_le_t, nj_le_f, nj_lel_t, nj_lel_f, nj_ler_t, nj_ler_f, nj_lt_t, nj_lt_f, nj_ltl_t, nj_ltl_f, nj_ltr_t, nj_ltr_f, nj_eq_t, nj_eq_f, nj_eqr_t, nj_eqr_f, nj_m1, nj_m2, hst, a1, a2, a3, a5, n3, n5, c3]
        exact ih (j + 1) f f' _ _ _ _ _ _ _ _ (by omega) (by omega) (by omega) (by omega) (by omega) (fun _ => ⟨rfl, rfl, rfl, ⟨b, b1, b2⟩, c, c1, c2⟩) (Or.inr ⟨rfl, rfl, rfl, ⟨b, b1, b2⟩, c, c1, c2⟩) a4
      · simp (disch := omega) only [↓ite_bind, ↓ck_bind, ↓lt_bind, ↓Option.bind_assoc, ↓bd_s, ↓lt_v, ↓ck_v, ↓reduceIte, Bool.false_eq_true, Bool.true_eq_false, nj_add, nj_addl, nj_addr, nj_mull, nj_mulr, nj_subr, nj_pred, ix_nI, ix_lit, inb_t, inb_l, nj_le_t, nj_le_f, nj_lel_t, nj_lel_f, nj_ler_t, nj_ler_f, nj_lt_t, nj_lt_f, nj_ltl_t, nj_ltl_f, nj_ltr_t, nj_ltr_f, nj_eq_t, nj_eq_f, nj_eqr_t, nj_eqr_f, nj_m1, nj_m2, hst, a1, a2, a3, a5, n3, n5, c3]
        exact ih (j + 1) f f' _ _ _ _ _ _ _ _ (by omega) (by omega) (by omega) (by omega) (by omega) (fun _ => hL2) (Or.inr hL2) a4
theorem law_skip {n p y3 y4 y5 : Int32} {i : Nat} {v : ST} (hi : i ≤ 5) : ∀ (k j f' : Nat), j + k = i → 1 ≤ j → fX12_law_L59 n p (nI (10 * i)) (f' + k) y3 y4 y5 (nI (10 * j)) v = fX12_law_L59 n p (nI (10 * i)) f' y3 y4 y5 (nI (10 * i)) v := by
  intro k
  induction k with
  | zero =>
    intro j f' hj h1
    obtain rfl : j = i := by omega
    rfl
  | succ k ih =>
    intro j f' hj h1
    have hst : 10 * j + 10 = 10 * (j + 1) := by omega
    rw [show f' + (k + 1) = (f' + k) + 1 by omega, fX12_law_L59]
    simp (disch := omega) only [↓ite_bind, ↓ck_bind, ↓lt_bind, ↓Option.bind_assoc, ↓bd_s, ↓lt_v, ↓ck_v, ↓reduceIte, Bool.false_eq_true, Bool.true_eq_false, nj_add, nj_addl, nj_addr, nj_mull, nj_mulr, nj_subr, nj_pred, ix_nI, ix_lit, inb_t, inb_l, nj_le_t, nj_le_f, nj_lel_t, nj_lel_f, nj_ler_t, nj_ler_f, nj_lt_t, nj_lt_f, nj_ltl_t, nj_ltl_f, nj_ltr_t, nj_ltr_f, nj_eq_t, nj_eq_f, nj_eqr_t, nj_eqr_f, nj_m1, nj_m2, hst]
    exact ih (j + 1) f' (by omega) (by omega)
theorem law_out {t : PH} {s s' : ST} {d np nm R n : Nat} {p : Int32} (h : INV t s s' d) (hn : NW t s s' d np nm R) (hd : d ≤ 600) (hk : n ≤ 100) : ∀ (k i f f' : Nat) (x3 x4 x5 y3 y4 y5 : Int32) (u v : ST), i + k = 6 → k < f → k < f' → (k = 0 → L2 x3 x4 x5 y3 y4 y5) → LR x3 x4 x5 y3 y4 y5 → QS s s' u v →
    ∃ a b c u2 v2, fX11_law_L30 (nI n) p t f x3 x4 x5 (nI (10 * i)) u = some (a, b, c, nI 60, u2) ∧ fX12_law_L48 (nI n) p f' y3 y4 y5 (nI (10 * i)) v = some (a, b, c, nI 60, v2) ∧ QS s s' u2 v2 := by
  intro k
  induction k with
  | zero =>
    intro i f f' x3 x4 x5 y3 y4 y5 u v hi hf hf' h3 hl q
    obtain ⟨f, rfl⟩ : ∃ m, f = m + 1 := ⟨f - 1, by omega⟩
    obtain ⟨f', rfl⟩ : ∃ m, f' = m + 1 := ⟨f' - 1, by omega⟩
    obtain rfl : i = 6 := by omega
    obtain ⟨rfl, rfl, rfl, e4, e5⟩ := h3 rfl
    refine ⟨y3, y4, y5, u, v, ?_, ?_, q⟩
    · rw [fX11_law_L30, if_pos (by decide)]
    · rw [fX12_law_L48, if_pos (by decide)]
  | succ k ih =>
    intro i f f' x3 x4 x5 y3 y4 y5 u v hi hf hf' h3 hl q
    obtain ⟨f, rfl⟩ : ∃ m, f = m + 1 := ⟨f - 1, by omega⟩
    obtain ⟨f', rfl⟩ : ∃ m, f' = m + 1 := ⟨f' - 1, by omega⟩
    have hst : 10 * i + 10 = 10 * (i + 1) := by omega
    have hmx : imx 10 (nI (10 * i)) = nI (10 * (if i = 0 then 1 else i)) := by
      unfold imx
      by_cases e : i = 0
      · subst e; decide
      · rw [if_neg e]
        by_cases e1 : i = 1
        · subst e1; decide
        · rw [if_pos (by rw [nj_ltl (by decide) (by omega)]; omega)]
    obtain ⟨a, b, c, u2, v2, a1, a2, a3, a4⟩ := law_in (p := p) (n := n) (i := i) h hn hd hk (by omega) (7 - (if i = 0 then 1 else i)) (if i = 0 then 1 else i) FUEL (FUEL - ((if i = 0 then 1 else i) - 1)) x3 x4 x5 y3 y4 y5 u v (by split <;> omega) (by split <;> omega) (by split <;> omega) (by rw [FUEL_eq]; omega) (by rw [FUEL_eq]; split <;> omega) (fun e => absurd e (by split <;> omega)) hl q
    have a2' : fX12_law_L59 (nI n) p (nI (10 * i)) FUEL y3 y4 y5 10 v = some (a, b, c, nI 70, v2) := by
      by_cases e : i = 0
      · rw [if_pos e] at a2; exact a2
      · rw [if_neg e] at a2
        rw [← a2]
        have := law_skip (n := nI n) (p := p) (y3 := y3) (y4 := y4) (y5 := y5) (v := v) (i := i) (by omega) (i - 1) 1 (FUEL - (i - 1)) (by omega) (by omega)
        rw [show FUEL - (i - 1) + (i - 1) = FUEL by rw [FUEL_eq]; omega] at this
        exact this
    rw [fX11_law_L30, fX12_law_L48]
    simp (disch := omega) only [↓ite_bind, ↓ck_bind, ↓lt_bind, ↓Option.bind_assoc, ↓bd_s, ↓lt_v, ↓ck_v, ↓reduceIte, Bool.false_eq_true, Bool.true_eq_false, nj_add, nj_addl, nj_addr, nj_mull, nj_mulr, nj_subr, nj_pred, ix_nI, ix_lit, inb_t, inb_l, nj_le_t, nj_le_f, nj_lel_t, nj_lel_f, nj_ler_t, nj_ler_f, nj_lt_t, nj_lt_f, nj_ltl_t, nj_ltl_f, nj_ltr_t, nj_ltr_f, nj_eq_t, nj_eq_f, nj_eqr_t, nj_eqr_f, nj_m1, nj_m2, hst, hmx, a1, a2']
    exact ih (i + 1) f f' _ _ _ _ _ _ _ _ (by omega) (by omega) (by omega) (fun _ => a4) (Or.inr a4) a3
theorem law_ok {t : PH} {s s' : ST} {d : Nat} (h : INV t s s' d) (hd : d ≤ 600) (x p : Int32) : A2 t (d + 1) (fX11_law x p t s) (fX12_law x p s') := by
  obtain ⟨np, nm, R, n⟩ := IN0_nw h.1
  unfold fX11_law fX12_law
  rcases g_span n.1 x with ⟨c1, c2⟩ | ⟨k, k1, k2, rfl, k4, k5, k6⟩
  · refine ⟨-1, s, s', by rw [c1, bd_s, if_pos rfl, bd_s, if_pos rfl], ?_, INV_mono h (by omega)⟩
    rcases c2 with c2 | ⟨c2, c3⟩
    · rw [c2, bd_s, if_pos rfl, bd_s, if_pos rfl]
    · rw [c2, bd_s, if_neg n10, c3, bd_s, if_pos rfl, bd_s, if_pos rfl]
  rw [k4, k5, k6, bd_s, bd_s, bd_s, if_neg n10, if_neg n10, if_neg n10]
  rcases g_in p (l := 0) (h := 2) (a := 0) (b := 2) (show (0 : Int64) = _ from rfl) (show (2 : Int64) = _ from rfl) rfl rfl (by omega) (by omega) with ⟨c1, c2⟩ | ⟨j, j1, j2, rfl, j4⟩
  · refine ⟨-1, s, s', ?_, by rw [c1, bd_s, if_pos rfl, bd_s, if_pos rfl], INV_mono h (by omega)⟩
    rcases c2 with c2 | ⟨c2, c3, c4⟩
    · simp only [c2, if_true, bd_s]
    · simp only [c2, c4, if_true, bd_s, if_false]
  rw [j4, bd_s, if_neg n10, if_neg (nj_nn (by omega)), if_pos (show nI j ≤ (2 : Int32) by rw [nj_ler (by omega) (by decide)]; omega), bd_s, bd_s, if_neg nft, if_neg nft]
  obtain ⟨v, v1, v2⟩ := q_begin h
  obtain ⟨a, b, c, u2, v3, b1, b2, b3⟩ := law_out (p := nI j) (n := k) h n hd (by omega) 6 0 FUEL FUEL (-1) (-1) 0 (-1) (-1) (-1) s v (by omega) (by rw [FUEL_eq]; omega) (by rw [FUEL_eq]; omega) (fun e => absurd e (by omega)) (Or.inl ⟨rfl, rfl⟩) v2
  have b1 : fX11_law_L30 (nI k) (nI j) t FUEL (-1) (-1) 0 0 s = some (a, b, c, nI 60, u2) := b1
  have b2 : fX12_law_L48 (nI k) (nI j) FUEL (-1) (-1) (-1) 0 v = some (a, b, c, nI 60, v3) := b2
  rw [v1, bd_s, b1, bd_s, b2, bd_s]
  have hj : j = 0 ∨ j = 1 ∨ j = 2 := by omega
  rcases hj with rfl | rfl | rfl
  · refine ⟨a, u2, v3, ?_, ?_, q_end h b3⟩
    · rw [if_pos (show nI 0 = 0 from rfl)]
    · rw [if_pos (show nI 0 = 0 from rfl), bd_s]
  · refine ⟨b, u2, v3, ?_, ?_, q_end h b3⟩ <;> rw [if_neg (show ¬ nI 1 = 0 by decide), if_pos (show nI 1 = 1 from rfl), bd_s]
  · refine ⟨c, u2, v3, ?_, ?_, q_end h b3⟩ <;> rw [if_neg (show ¬ nI 2 = 0 by decide), if_neg (show ¬ nI 2 = 1 by decide), bd_s]
/-! minute -/
theorem CRs_minute {t : PH} {u v : ST} {d np nm R k a : Nat} {p : Option Nat} (nz : NW t u v d np nm R) (p3 : RlP t u v p) (hk : k < nm) (ha : a ≤ 600) (f56 : gi v 0 56 = -1) (f57 : gi v 0 57 = -1) (f63 : gi v 0 63 = 0) : CRs t (si (stS p u) 32 (20 + k) (nI a)) (si v 9 k (nI a)) np nm d := by
  obtain ⟨s7, s8, s9, s10, s13, s15, s16, s17⟩ := stS_30 (p := p) (u := u)
  have := nz.1.1
  have := nz.1.2.1
  have el : lv (si v 9 k (nI a)) = upd (lv v) (20 + k) (nI a) := lv_si9 _ (by omega)
  refine CRs_of nz p3 (by rw [mr_si]; exact stS_mr.1) (by rw [mr_si]; exact stS_mr.2) (fun a j h1 h2 h3 _ => by rw [gi_ne h2]; exact stS_o ⟨h1, h2, h3⟩ j) (fun a j hh => gi_ne (by omega)) (by rw [gi_ne (by decide), gi_ne (by decide)]; exact s7.trans nz.1.2.2.2.2.2.2.2.2.2.1) (by rw [gi_ne (by decide), gi_ne (by decide)]; exact s8.trans nz.1.2.2.2.2.2.2.2.2.2.2.1)
    (fun q hq => by
      rw [gi_ne (by decide), gi_ne (by decide), stS_41 (by omega)]
      obtain ⟨q1, q2, q3⟩ := nz.1.2.2.2.2.2.2.2.2.2.2.2.2.2.1 q hq
      exact ⟨q1, q2⟩) (by rw [gi_ne (by decide), gi_ne (by decide)]; exact s9.trans f56.symm) (by rw [gi_ne (by decide), gi_ne (by decide)]; exact s10.trans f57.symm) (fun e => absurd (by rw [gi_ne (by decide)]; exact f57) e) (by rw [gi_ne (by decide), gi_ne (by decide)]; exact s13.trans f63.symm)
    (fun j hj => ?_) ⟨fun q hq => ?_, fun q hq => ?_, ?_⟩ (fun e => absurd (by rw [gi_ne (by decide)]; exact f63) e)
  · rw [el, upd_eq, show (si (stS p u) 32 (20 + k) (nI a)).1 32 j = gi (si (stS p u) 32 (20 + k) (nI a)) 32 j from rfl, gi_si, if_pos rfl]
    by_cases e : j = 20 + k
    · rw [if_pos e, if_pos e]
    · rw [if_neg e, if_neg e]
      exact (stS_32 (by unfold vis at hj; omega)).trans (nz.2.1 j hj)
  · rw [el, upd_eq, if_neg (by omega)]; exact nz.2.2.1.1 q hq
  · rw [el, upd_eq]
    by_cases e : 20 + q = 20 + k
    · rw [if_pos e, nj_lel (by decide) (by omega), nj_ler (by omega) (by decide)]; omega
    · rw [if_neg e]; exact nz.2.2.1.2.1 q hq
  · obtain ⟨y, y1, y2⟩ := nz.2.2.1.2.2
    exact ⟨y, y1, by rw [el, upd_eq, if_neg (by omega)]; exact y2⟩
theorem minute_it {t : PH} {s s' u v : ST} {d np nm R k a : Nat} (h : INV t s s' d) (hn : NW t s s' d np nm R) (q : QS s s' u v) (hd : d ≤ 600) (hk : k < nm) (ha : a ≤ 600) :
    ∃ m z z' w', fX11_startFromNow t u = some m ∧ fX0_goDay t (si m 32 (20 + k) (nI a)) = some z ∧ fX12_goes 1 (si v 9 k (nI a)) = some z' ∧ fX12_laysBack z' = some w' ∧ QS s s' z w' ∧ gi z 30 15 = gi w' 0 71 ∧ gi z 30 16 = gi w' 0 69 := by
  have nz := NW_k h.1 hn q.1 q.2.1
  obtain ⟨p, p1, p2, p3⟩ := rule_ev nz
  obtain ⟨s7, s8, s9, s10, s13, s15, s16, s17⟩ := stS_30 (p := p) (u := u)
  obtain ⟨z, z', w', a1, a2, a3, a4, a5, a6, a7, a8, a9, a10, a11, a12, a13⟩ := iter1 (s := s) (s' := s') (by omega) (CRs_minute nz p3 hk ha q.2.2.2.1 q.2.2.2.2.1 q.2.2.2.2.2) (by rw [gi_ne (by decide)]; exact s15) (by rw [gi_ne (by decide)]; exact s16) (by rw [gi_ne (by decide)]; exact s17) ((kN_si (by omega)).trans (stS_kN.trans q.1)) ((kQ_si rfl).trans (kQ_kR q.2.1)) (SvK_si q.2.2.1 (by decide))
  refine ⟨_, z, z', w', start_eq p1 p2, a1, a2, a3, ⟨a4, a5, a6, ?_, ?_, ?_⟩, a7, a8⟩
  · rw [a10 _ (by omega), gi_ne (by decide)]; exact q.2.2.2.1
  · rw [a10 _ (by omega), gi_ne (by decide)]; exact q.2.2.2.2.1
  · rw [a10 _ (by omega), gi_ne (by decide)]; exact q.2.2.2.2.2
theorem minute_tail {a m : Nat} {p x y z : Int32} {v : ST} (ha : a ≤ 600) : ∀ (k i f' : Nat), i + k = a + 61 → 601 ≤ i → k < f' → fX12_minute_L48 (nI m) p (nI a) f' x y z (nI i) v = some (x, y, z, nI (a + 61), v) := by
  intro k
  induction k with
  | zero =>
    intro i f' hi h6 hf'
    obtain ⟨f', rfl⟩ : ∃ m, f' = m + 1 := ⟨f' - 1, by omega⟩
    obtain rfl : i = a + 61 := by omega
    rw [fX12_minute_L48]
    simp (disch := omega) only [↓ite_bind, ↓ck_bind, ↓lt_bind, ↓Option.bind_assoc, ↓bd_s, ↓lt_v, ↓ck_v, ↓reduceIte, Bool.false_eq_true, Bool.true_eq_false, nj_add, nj_addl, nj_addr, nj_mull, nj_mulr, nj_subr, nj_pred, ix_nI, ix_lit, inb_t, inb_l, nj_le_t, nj_le_f, nj_lel_t, nj_lel_f, nj_ler_t, nj_ler_f, nj_lt_t, nj_lt_f, nj_ltl_t, nj_ltl_f, nj_ltr_t, nj_ltr_f, nj_eq_t, nj_eq_f, nj_eqr_t, nj_eqr_f, nj_m1, nj_m2]
  | succ k ih =>
    intro i f' hi h6 hf'
    obtain ⟨f', rfl⟩ : ∃ m, f' = m + 1 := ⟨f' - 1, by omega⟩
    rw [fX12_minute_L48, in_ev (nI i) (l := 0) (h := 600) (L := 0) (H := 600) rfl rfl]
    simp (disch := omega) only [↓ite_bind, ↓ck_bind, ↓lt_bind, ↓Option.bind_assoc, ↓bd_s, ↓lt_v, ↓ck_v, ↓reduceIte, Bool.false_eq_true, Bool.true_eq_false, nj_add, nj_addl, nj_addr, nj_mull, nj_mulr, nj_subr, nj_pred, ix_nI, ix_lit, inb_t, inb_l, nj_le_t, nj_le_f, nj_lel_t, nj_lel_f, nj_ler_t, nj_ler_f, nj_lt_t, nj_lt_f, nj_ltl_t, nj_ltl_f, nj_ltr_t, nj_ltr_f, nj_eq_t, nj_eq_f, nj_eqr_t, nj_eqr_f, nj_m1, nj_m2]
    exact ih (i + 1) f' (by omega) (by omega) (by omega)
theorem ng_s (k : Nat) : -(nI (k + 1)) + 1 = -(nI k) := by
  rw [← nj_addr]; grind
theorem ng_lt {k : Nat} (hk : k < 1000) : -(nI (k + 1)) < 0 := by
  have : (0 : Int32) < nI (k + 1) := by rw [nj_ltl (by decide) (by omega)]; omega
  have h2 : nI (k + 1) ≤ 2000 := by rw [nj_ler (by omega) (by decide)]; omega
  generalize nI (k + 1) = x at *
  grind
theorem ng_cm {a k : Nat} (ha : a ≤ 600) (hk : k < 1000) : ¬ nI (a + 60) < -(nI (k + 1)) := by
  have h1 := ng_lt hk
  have h2 : (0 : Int32) ≤ nI (a + 60) := by rw [nj_lel (by decide) (by omega)]; omega
  generalize nI (a + 60) = y at *
  generalize -(nI (k + 1)) = x at *
  grind
theorem minute_head {a m : Nat} {p x y z : Int32} {v : ST} (ha : a ≤ 600) : ∀ (k f' : Nat), k ≤ 60 → fX12_minute_L48 (nI m) p (nI a) (f' + k) x y z (-(nI k)) v = fX12_minute_L48 (nI m) p (nI a) f' x y z (nI 0) v := by
  intro k
  induction k with
  | zero =>
    intro f' hk
    rw [show -(nI 0) = nI 0 from rfl]
    rfl
  | succ k ih =>
    intro f' hk
    rw [show f' + (k + 1) = (f' + k) + 1 by omega, fX12_minute_L48, in_ev (-(nI (k + 1))) (l := 0) (h := 600) (L := 0) (H := 600) rfl rfl, nj_addr, if_neg (ng_cm ha (by omega)), if_pos (ng_lt (by omega)), bd_s, if_pos rfl, bd_s, lt_v, ng_s]
    exact ih f' (by omega)
theorem minute_L {t : PH} {s s' : ST} {d np nm R a m H : Nat} {p : Int32} (h : INV t s s' d) (hn : NW t s s' d np nm R) (hd : d ≤ 600) (hm : m < nm) (ha : a ≤ 600) (hH : H ≤ 601 ∧ H ≤ a + 61 ∧ (H = 601 ∨ H = a + 61)) : ∀ (k i f f' : Nat) (x y z : Int32) (u v : ST), i + k = H → k < f → k + 100 < f' → QS s s' u v →
    ∃ b1 b2 b3 u2 v2, fX11_minute_L66 (nI m) p (nI (H - 1)) t f x y z (nI i) u = some (b1, b2, b3, nI H, u2) ∧ fX12_minute_L48 (nI m) p (nI a) f' x y z (nI i) v = some (b1, b2, b3, nI (a + 61), v2) ∧ QS s s' u2 v2 := by
  have hnm := hn.1.2.1
  intro k
  induction k with
  | zero =>
    intro i f f' x y z u v hi hf hf' q
    obtain ⟨f, rfl⟩ : ∃ m, f = m + 1 := ⟨f - 1, by omega⟩
    obtain rfl : i = H := by omega
    refine ⟨x, y, z, u, v, ?_, ?_, q⟩
    · rw [fX11_minute_L66, if_pos (by rw [nj_lt (by omega) (by omega)]; omega)]
    · by_cases e : i = a + 61
      · obtain ⟨f', rfl⟩ : ∃ m, f' = m + 1 := ⟨f' - 1, by omega⟩
        subst e
        rw [fX12_minute_L48]
        simp (disch := omega) only [↓ite_bind, ↓ck_bind, ↓lt_bind, ↓Option.bind_assoc, ↓bd_s, ↓lt_v, ↓ck_v, ↓reduceIte, Bool.false_eq_true, Bool.true_eq_false, nj_add, nj_addl, nj_addr, nj_mull, nj_mulr, nj_subr, nj_pred, ix_nI, ix_lit, inb_t, inb_l, nj_le_t, nj_le_f, nj_lel_t, nj_lel_f, nj_ler_t, nj_ler_f, nj_lt_t, nj_lt_f, nj_ltl_t, nj_ltl_f, nj_ltr_t, nj_ltr_f, nj_eq_t, nj_eq_f, nj_eqr_t, nj_eqr_f, nj_m1, nj_m2]
      · exact minute_tail ha (a + 61 - i) i f' (by omega) (by omega) (by omega)
  | succ k ih =>
    intro i f f' x y z u v hi hf hf' q
    obtain ⟨f, rfl⟩ : ∃ m, f = m + 1 := ⟨f - 1, by omega⟩
    obtain ⟨f', rfl⟩ : ∃ m, f' = m + 1 := ⟨f' - 1, by omega⟩
    obtain ⟨mm, zz, z', w', a1, a2, a3, a4, a5, a6, a7⟩ := minute_it (k := m) (a := i) h hn q hd hm (by omega)
    rw [fX11_minute_L66, fX12_minute_L48, in_ev (nI i) (l := 0) (h := 600) (L := 0) (H := 600) rfl rfl]
    by_cases c1 : x = -1
    · simp (disch := omega) only [↓ite_bind, ↓ck_bind, ↓lt_bind, ↓Option.bind_assoc, ↓bd_s, ↓lt_v, ↓ck_v, ↓reduceIte, Bool.false_eq_true, Bool.true_eq_false, nj_add, nj_addl, nj_addr, nj_mull, nj_mulr, nj_subr, nj_pred, ix_nI, ix_lit, inb_t, inb_l, nj_le_t, nj_le_f, nj_lel_t, nj_lel_f, nj_ler_t, nj_ler_f, nj_lt_t, nj_lt_f, nj_ltl_t, nj_ltl_f, nj_ltr_t, nj_ltr_f, nj_eq_t, nj_eq_f, nj_eqr_t, nj_eqr_f, nj_m1, nj_m2, i10, a1, a2, a3, a4, a6, a7, c1]
      exact ih (i + 1) f f' _ _ _ _ _ (by omega) (by omega) (by omega) a5
    · by_cases c2 : gi w' 0 71 < y
      · simp (disch := omega) only [↓ite_bind, ↓ck_bind, ↓lt_bind, ↓Option.bind_assoc, ↓bd_s, ↓lt_v, ↓ck_v, ↓reduceIte, Bool.false_eq_true, Bool.true_eq_false, nj_add, nj_addl, nj_addr, nj_mull, nj_mulr, nj_subr, nj_pred, ix_nI, ix_lit, inb_t, inb_l, nj_le_t, nj_le_f, nj_lel_t, nj_lel_f, nj_ler_t, nj_ler_f, nj_lt_t, nj_lt_f, nj_ltl_t, nj_ltl_f, nj_ltr_t, nj_ltr_f, nj_eq_t, nj_eq_f, nj_eqr_t, nj_eqr_f, nj_m1, nj_m2, i10, a1, a2, a3, a4, a6, a7, c1, c2]
        exact ih (i + 1) f f' _ _ _ _ _ (by omega) (by omega) (by omega) a5
      · by_cases c3 : gi w' 0 71 = y
        · by_cases c4 : z ≤ gi w' 0 69
          · simp (disch := omega) only [↓ite_bind, ↓ck_bind, ↓lt_bind, ↓Option.bind_assoc, ↓bd_s, ↓lt_v, ↓ck_v, ↓reduceIte, Bool.false_eq_true, Bool.true_eq_false, nj_add, nj_addl, nj_addr, nj_mull, nj_mulr, nj_subr, nj_pred, ix_nI, ix_lit, inb_t, inb_l, nj_le_t, nj_le_f, nj_lel_t, nj_lel_f, nj_ler_t, nj_ler_f, nj_lt_t, nj_lt_f, nj_ltl_t, nj_ltl_f, nj_ltr_t, nj_ltr_f, nj_eq_t, nj_eq_f, nj_eqr_t, nj_eqr_f, nj_m1, nj_m2, i10, a1, a2, a3, a4, a6, a7, c1, c2, c3, c4]
            have c2' : ¬ y < y := by grind
            simp (disch := omega) only [↓ite_bind, ↓ck_bind, ↓lt_bind, ↓Option.bind_assoc, ↓bd_s, ↓lt_v, ↓ck_v, ↓reduceIte, Bool.false_eq_true, Bool.true_eq_false, nj_add, nj_addl, nj_addr, nj_mull, nj_mulr, nj_subr, nj_pred, ix_nI, ix_lit, inb_t, inb_l, nj_le_t, nj_le_f, nj_lel_t, nj_lel_f, nj_ler_t, nj_ler_f, nj_lt_t, nj_lt_f, nj_ltl_t, nj_ltl_f, nj_ltr_t, nj_ltr_f, nj_eq_t, nj_eq_f, nj_eqr_t, nj_eqr_f, nj_m1, nj_m2, c2', c4, bd_s]
            exact ih (i + 1) f f' _ _ _ _ _ (by omega) (by omega) (by omega) a5
          · simp (disch := omega) only [↓ite_bind, ↓ck_bind, ↓lt_bind, ↓Option.bind_assoc, ↓bd_s, ↓lt_v, ↓ck_v, ↓reduceIte, Bool.false_eq_true, Bool.true_eq_false, nj_add, nj_addl, nj_addr, nj_mull, nj_mulr, nj_subr, nj_pred, ix_nI, ix_lit, inb_t, inb_l, nj_le_t, nj_le_f, nj_lel_t, nj_lel_f, nj_ler_t, nj_ler_f, nj_lt_t, nj_lt_f, nj_ltl_t, nj_ltl_f, nj_ltr_t, nj_ltr_f, nj_eq_t, nj_eq_f, nj_eqr_t, nj_eqr_f, nj_m1, nj_m2, i10, a1, a2, a3, a4, a6, a7, c1, c2, c3, c4]
            have c2' : ¬ y < y := by grind
            simp (disch := omega) only [↓ite_bind, ↓ck_bind, ↓lt_bind, ↓Option.bind_assoc, ↓bd_s, ↓lt_v, ↓ck_v, ↓reduceIte, Bool.false_eq_true, Bool.true_eq_false, nj_add, nj_addl, nj_addr, nj_mull, nj_mulr, nj_subr, nj_pred, ix_nI, ix_lit, inb_t, inb_l, nj_le_t, nj_le_f, nj_lel_t, nj_lel_f, nj_ler_t, nj_ler_f, nj_lt_t, nj_lt_f, nj_ltl_t, nj_ltl_f, nj_ltr_t, nj_ltr_f, nj_eq_t, nj_eq_f, nj_eqr_t, nj_eqr_f, nj_m1, nj_m2, c2', c4, bd_s]
            exact ih (i + 1) f f' _ _ _ _ _ (by omega) (by omega) (by omega) a5
        · simp (disch := omega) only [↓ite_bind, ↓ck_bind, ↓lt_bind, ↓Option.bind_assoc, ↓bd_s, ↓lt_v, ↓ck_v, ↓reduceIte, Bool.false_eq_true, Bool.true_eq_false, nj_add, nj_addl, nj_addr, nj_mull, nj_mulr, nj_subr, nj_pred, ix_nI, ix_lit, inb_t, inb_l, nj_le_t, nj_le_f, nj_lel_t, nj_lel_f, nj_ler_t, nj_ler_f, nj_lt_t, nj_lt_f, nj_ltl_t, nj_ltl_f, nj_ltr_t, nj_ltr_f, nj_eq_t, nj_eq_f, nj_eqr_t, nj_eqr_f, nj_m1, nj_m2, i10, a1, a2, a3, a4, a6, a7, c1, c2, c3]
          exact ih (i + 1) f f' _ _ _ _ _ (by omega) (by omega) (by omega) a5
theorem minute_ok {t : PH} {s s' : ST} {d : Nat} (h : INV t s s' d) (hd : d ≤ 600) (p w : Int32) : A2 t (d + 1) (fX11_minute p w t s) (fX12_minute p w s') := by
  obtain ⟨np, nm, R, n⟩ := IN0_nw h.1
  have hnm := n.1.2.1
  unfold fX11_minute fX12_minute
  rcases g_meet n.1.2.2.2.2.1 n.1.2.2.2.2.2.1 n.1.2.1 p with ⟨a, b⟩ | ⟨q, hq, rfl, a, b⟩
  · exact ⟨-1, s, s', by rw [a, bd_s, if_pos rfl, bd_s, if_pos rfl], by rw [b, bd_s, if_pos rfl, bd_s, if_pos rfl], INV_mono h (by omega)⟩
  rw [a, b, bd_s, bd_s, if_neg n10, if_neg n10]
  rcases g_in w (l := 0) (h := 2) (a := 0) (b := 2) (show (0 : Int64) = _ from rfl) (show (2 : Int64) = _ from rfl) rfl rfl (by omega) (by omega) with ⟨c1, c2⟩ | ⟨j, j1, j2, rfl, j4⟩
  · refine ⟨-1, s, s', ?_, by rw [c1, bd_s, if_pos rfl, bd_s, if_pos rfl], INV_mono h (by omega)⟩
    rcases c2 with c2 | ⟨c2, c3, c4⟩
    · simp only [c2, if_true, bd_s]
    · simp only [c2, c4, if_true, bd_s, if_false]
  rw [j4, bd_s, if_neg n10, if_neg (nj_nn (by omega)), if_pos (show nI j ≤ (2 : Int32) by rw [nj_ler (by omega) (by decide)]; omega), bd_s, bd_s, if_neg nft, if_neg nft]
  obtain ⟨v, v1, v2⟩ := q_begin h
  have hb := n.2.2.1.2.1 q hq
  obtain ⟨aa, ha1, ha2⟩ := nj_ofl hb.1 (show lv s' (20 + q) ≤ nI 600 from hb.2) (by omega)
  have e9 : gi s' 9 q = nI aa := by rw [lv_minute _ (by omega)]; exact ha2
  have ev : gi v 9 q = nI aa := by
    rw [← e9]
    exact kR_g v2.2.1 (by unfold scr svr svn; simp; omega)
  have e26 : gi s 26 (20 + q) = nI aa := (n.2.1 _ (by unfold vis; omega)).trans ha2
  obtain ⟨H, hH⟩ : ∃ H, H = (if aa ≤ 540 then aa + 61 else 601) := ⟨_, rfl⟩
  have hH2 : H ≤ 601 ∧ H ≤ aa + 61 ∧ (H = 601 ∨ H = aa + 61) := by rw [hH]; split <;> omega
  have hmn : imn 600 (nI aa + 60) = nI (H - 1) := by
    unfold imn
    rw [nj_addr]
    by_cases e : aa + 60 < 600
    · rw [if_pos (by rw [nj_ltr (by omega) (by decide)]; exact e), hH, if_pos (by omega)]; rfl
    · rw [if_neg (by rw [nj_ltr (by omega) (by decide)]; exact e)]
      have : H - 1 = 600 := by rw [hH]; split <;> omega
      rw [this]; rfl
  have hlo : imx 0 (nI aa - 60) = nI (aa - 60) := by
    unfold imx
    by_cases e : 60 ≤ aa
    · rw [nj_subr (by omega)]
      by_cases e2 : 0 < aa - 60
      · rw [if_pos (by rw [nj_ltl (by decide) (by omega)]; exact e2)]
      · rw [if_neg (by rw [nj_ltl (by decide) (by omega)]; exact e2), show aa - 60 = 0 by omega]; rfl
    · have e3 : nI aa - 60 = -(nI ((60 - aa - 1) + 1)) := by
        have : nI aa + nI ((60 - aa - 1) + 1) = 60 := by rw [nj_add, show aa + (60 - aa - 1 + 1) = 60 by omega]; rfl
        rw [← this]; grind
      have := ng_lt (k := 60 - aa - 1) (by omega)
      rw [e3, if_neg (by grind), show aa - 60 = 0 by omega]; rfl
  obtain ⟨b1, b2, b3, u2, w2, d1, d2, d3⟩ := minute_L (p := nI j) (a := aa) (m := q) (H := H) h n hd hq ha1 hH2 (H - (aa - 60)) (aa - 60) FUEL (FUEL - (60 - aa)) (-1) 0 0 s v (by omega) (by rw [FUEL_eq]; omega) (by rw [FUEL_eq]; omega) v2
  have d2' : fX12_minute_L48 (nI q) (nI j) (nI aa) FUEL (-1) 0 0 (nI aa - 60) v = some (b1, b2, b3, nI (aa + 61), w2) := by
    by_cases e : 60 ≤ aa
    · rw [nj_subr (by omega)]
      rw [show 60 - aa = 0 by omega] at d2
      exact d2
    · have e3 : nI aa - 60 = -(nI (60 - aa)) := by
        have : nI aa + nI (60 - aa) = 60 := by rw [nj_add, show aa + (60 - aa) = 60 by omega]; rfl
        rw [← this]; grind
      have := minute_head (p := nI j) (m := q) (a := aa) (x := -1) (y := 0) (z := 0) (v := v) ha1 (60 - aa) (FUEL - (60 - aa)) (by omega)
      rw [show FUEL - (60 - aa) + (60 - aa) = FUEL by rw [FUEL_eq]; omega] at this
      rw [e3, this]
      rw [show aa - 60 = 0 by omega] at d2
      exact d2
  have hs : si w2 9 q (nI aa) = w2 := by
    have : gi w2 9 q = nI aa := by
      rw [← e9]
      exact kR_g d3.2.1 (by unfold scr svr svn; simp; omega)
    rw [← this]
    exact si_self w2 9 q
  rw [nj_addl, ck_t (show inb (nI (20 + q)) 46 = true from inb_t (by omega) (by omega)), lt_v, lt_v, lt_v, ix_nI (by omega), e26, hmn, hlo, d1, bd_s, v1, bd_s, ck_t (show inb (nI q) 8 = true from inb_t (by omega) (by omega)), lt_v, lt_v, ix_nI (by omega), ev, d2', bd_s, ck_t (show inb (nI q) 8 = true from inb_t (by omega) (by omega)), lt_v]
  simp only [hs]
  have hj : j = 0 ∨ j = 1 ∨ j = 2 := by omega
  rcases hj with rfl | rfl | rfl
  · refine ⟨b1, u2, w2, ?_, ?_, q_end h d3⟩
    · rw [if_pos (show nI 0 = 0 from rfl)]
    · rw [if_pos (show nI 0 = 0 from rfl), bd_s]
  · refine ⟨b2, u2, w2, ?_, ?_, q_end h d3⟩ <;> rw [if_neg (show ¬ nI 1 = 0 by decide), if_pos (show nI 1 = 1 from rfl), bd_s]
  · refine ⟨b3, u2, w2, ?_, ?_, q_end h d3⟩ <;> rw [if_neg (show ¬ nI 2 = 0 by decide), if_neg (show ¬ nI 2 = 1 by decide), bd_s]
