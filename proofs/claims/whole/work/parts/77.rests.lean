/-! RESTS -/
theorem dv7 {n : Nat} (h : n < 1000) : nI n / 7 = nI (n / 7) := by
  apply Int32.toInt_inj.mp
  rw [nj_toInt (by omega), Int32.toInt_div_of_ne_right _ _ (by decide), nj_toInt (by omega)]
  show (n : Int).tdiv 7 = _
  rw [Int.tdiv_eq_ediv_of_nonneg (by omega)]
  omega
theorem md7 {n : Nat} (h : n < 1000) : nI n - nI n / 7 * 7 = nI (n % 7) := by
  rw [dv7 h, nj_mulr, nj_sub (by omega)]
  congr 1
  omega
theorem md7b {n : Nat} (h : n < 1000) : nI n - nI (n / 7 * 7) = nI (n % 7) := by
  rw [nj_sub (by omega)]
  congr 1
  omega
theorem CRs_rest {t : PH} {u v : ST} {d np nm R q x y : Nat} {p : Option Nat} (nz : NW t u v d np nm R) (p3 : RlP t u v p) (hx : x ≤ 60) (hy : y ≤ 60) (f56 : gi v 0 56 = -1) (f57 : gi v 0 57 = nI q) (f63 : gi v 0 63 = 0) : CRs t (si (si (si (stS p u) 30 10 (nI q)) 30 11 (nI x)) 30 12 (nI y)) (si (si v 0 58 (nI x)) 0 59 (nI y)) np nm d := by
  obtain ⟨s7, s8, s9, s10, s13, s15, s16, s17⟩ := stS_30 (p := p) (u := u)
  have := nz.1.1
  have := nz.1.2.1
  have el : lv (si (si v 0 58 (nI x)) 0 59 (nI y)) = lv v := by rw [lv_si_o _ (by omega), lv_si_o _ (by omega)]
  refine CRs_of nz p3 (by rw [mr_si, mr_si, mr_si]; exact stS_mr.1) (by rw [mr_si, mr_si, mr_si]; exact stS_mr.2) (fun a j h1 h2 h3 _ => by rw [gi_ne h1, gi_ne h1, gi_ne h1]; exact stS_o ⟨h1, h2, h3⟩ j) (fun a j hh => by rw [si_x _ _ (by omega), si_x _ _ (by omega)]) (by rw [gi_dif (by decide), gi_dif (by decide), gi_dif (by decide), gi_ne (by decide), gi_ne (by decide)]; exact s7.trans nz.1.2.2.2.2.2.2.2.2.2.1) (by rw [gi_dif (by decide), gi_dif (by decide), gi_dif (by decide), gi_ne (by decide), gi_ne (by decide)]; exact s8.trans nz.1.2.2.2.2.2.2.2.2.2.2.1)
    (fun q hq => by
      rw [gi_ne (by decide), gi_ne (by decide), gi_ne (by decide), gi_ne (by decide), gi_ne (by decide), stS_41 (by omega)]
      obtain ⟨q1, q2, q3⟩ := nz.1.2.2.2.2.2.2.2.2.2.2.2.2.2.1 q hq
      exact ⟨q1, q2⟩) (by rw [gi_dif (by decide), gi_dif (by decide), gi_dif (by decide), gi_dif (by decide), gi_dif (by decide)]; exact s9.trans f56.symm) (by rw [gi_dif (by decide), gi_dif (by decide), gi_same, gi_dif (by decide), gi_dif (by decide)]; exact f57.symm) (fun _ => ?_) (by rw [gi_dif (by decide), gi_dif (by decide), gi_dif (by decide), gi_dif (by decide), gi_dif (by decide)]; exact s13.trans f63.symm)
    (fun j hj => ?_) (by rw [el]; exact nz.2.2.1) (fun e => absurd (by rw [gi_dif (by decide), gi_dif (by decide)]; exact f63) e)
  · refine ⟨by rw [gi_dif (by decide), gi_same, gi_dif (by decide), gi_same], by rw [gi_same, gi_same], ?_, ?_⟩
    · rw [gi_dif (by decide), gi_same, nj_lel (by decide) (by omega), nj_ler (by omega) (by decide)]; omega
    · rw [gi_same, nj_lel (by decide) (by omega), nj_ler (by omega) (by decide)]; omega
  rw [el, show (si (si (si (stS p u) 30 10 (nI q)) 30 11 (nI x)) 30 12 (nI y)).1 32 j = gi (si (si (si (stS p u) 30 10 (nI q)) 30 11 (nI x)) 30 12 (nI y)) 32 j from rfl, gi_ne (by decide), gi_ne (by decide), gi_ne (by decide)]
  exact (stS_32 (by unfold vis at hj; omega)).trans (nz.2.1 j hj)
def QR (s s' u v : ST) (q : Nat) : Prop := kN u = kN s ∧ kR v = kR s' ∧ SvK s' v ∧ gi v 0 56 = -1 ∧ gi v 0 57 = nI q ∧ gi v 0 63 = 0
theorem kR_scr {v : ST} {a j : Nat} {x : Int32} (h : scr a j = true) : kR (si v a j x) = kR v := kR_of (fun b k hb => si_x _ _ (by
  rintro ⟨rfl, rfl⟩
  rw [h] at hb
  cases hb))
theorem rests_it {t : PH} {s s' u v : ST} {d np nm R q x y : Nat} (h : INV t s s' d) (hn : NW t s s' d np nm R) (qq : QR s s' u v q) (hd : d ≤ 600) (hx : x ≤ 60) (hy : y ≤ 60) (hq : q < nm) :
    ∃ m z z' w', fX11_startFromNow t u = some m ∧ fX0_goDay t (si (si (si m 30 10 (nI q)) 30 11 (nI x)) 30 12 (nI y)) = some z ∧ fX12_goes 1 (si (si v 0 58 (nI x)) 0 59 (nI y)) = some z' ∧ fX12_laysBack z' = some w' ∧ QR s s' z w' q ∧ gi z 38 (2 * q) = gi w' 44 q ∧ gi z 38 (2 * q + 1) = gi w' 45 q ∧ (∀ j, gi z 45 j = gi u 45 j) ∧ (∀ a j, 48 ≤ a → a ≤ 49 → gi w' a j = gi v a j) := by
  have nz := NW_k h.1 hn qq.1 qq.2.1
  have hnm := nz.1.2.1
  obtain ⟨p, p1, p2, p3⟩ := rule_ev nz
  obtain ⟨s7, s8, s9, s10, s13, s15, s16, s17⟩ := stS_30 (p := p) (u := u)
  obtain ⟨z, z', w', a1, a2, a3, a4, a5, a6, a7, a8, a9, a10, a11, a12, a13, a14⟩ := iter1 (s := s) (s' := s') (by omega) (CRs_rest (q := q) nz p3 hx hy qq.2.2.2.1 qq.2.2.2.2.1 qq.2.2.2.2.2) (by rw [gi_dif (by decide), gi_dif (by decide), gi_dif (by decide)]; exact s15) (by rw [gi_dif (by decide), gi_dif (by decide), gi_dif (by decide)]; exact s16) (by rw [gi_dif (by decide), gi_dif (by decide), gi_dif (by decide)]; exact s17) ((kN_si (by omega)).trans ((kN_si (by omega)).trans ((kN_si (by omega)).trans (stS_kN.trans qq.1)))) ((kQ_si rfl).trans ((kQ_si rfl).trans (kQ_kR qq.2.1))) (SvK_si (SvK_si qq.2.2.1 (by decide)) (by decide))
  obtain ⟨b1, b2, b3, b4, b5, b6⟩ := a14 q hq (by rw [gi_dif (by decide), gi_dif (by decide), gi_dif (by decide), s9]; exact nj_nm (by omega) (by decide) (by decide))
  refine ⟨_, z, z', w', start_eq p1 p2, a1, a2, a3, ⟨a4, a5, a6, ?_, ?_, ?_⟩, b5, b6, fun j => ?_, fun a j h1 h2 => ?_⟩
  · rw [a10 _ (by omega), gi_dif (by decide), gi_dif (by decide)]; exact qq.2.2.2.1
  · rw [a10 _ (by omega), gi_dif (by decide), gi_dif (by decide)]; exact qq.2.2.2.2.1
  · rw [a10 _ (by omega), gi_dif (by decide), gi_dif (by decide)]; exact qq.2.2.2.2.2
  · rw [a12 45 j (by omega) (by omega), gi_ne (by decide), gi_ne (by decide), gi_ne (by decide), stS_o (by decide)]
  · rw [a11 a j h1 (by omega), gi_ne (by omega), gi_ne (by omega)]
def TW (u v : ST) (i : Nat) : Prop := ∀ j, j < i → gi u 45 (2 * j) = gi v 48 j ∧ gi u 45 (2 * j + 1) = gi v 49 j
theorem rests_L {t : PH} {s s' : ST} {d np nm R q : Nat} {p : Int32} (h : INV t s s' d) (hn : NW t s s' d np nm R) (hd : d ≤ 600) (hq : q < nm) : ∀ (k i f f' : Nat) (u v : ST), i + k = 49 → k < f → k < f' → QR s s' u v q → TW u v i →
    ∃ u2 v2, fX11_rests_L21 (nI q) p t f (nI i) u = some (nI 49, u2) ∧ fX12_laysRests_L11 (nI q) f' (nI i) v = some (nI 49, v2) ∧ QR s s' u2 v2 q ∧ TW u2 v2 49 := by
  have hnm := hn.1.2.1
  intro k
  induction k with
  | zero =>
    intro i f f' u v hi hf hf' qq tw
    obtain ⟨f, rfl⟩ : ∃ m, f = m + 1 := ⟨f - 1, by omega⟩
    obtain ⟨f', rfl⟩ : ∃ m, f' = m + 1 := ⟨f' - 1, by omega⟩
    obtain rfl : i = 49 := by omega
    refine ⟨u, v, ?_, ?_, qq, tw⟩
    · rw [fX11_rests_L21, if_pos (by decide)]
    · rw [fX12_laysRests_L11, if_pos (by decide)]
  | succ k ih =>
    intro i f f' u v hi hf hf' qq tw
    obtain ⟨f, rfl⟩ : ∃ m, f = m + 1 := ⟨f - 1, by omega⟩
    obtain ⟨f', rfl⟩ : ∃ m, f' = m + 1 := ⟨f' - 1, by omega⟩
    obtain ⟨m, z, z', w', a1, a2, a3, a4, a5, a6, a7, a8, a9⟩ := rests_it (x := i / 7 * 10) (y := i % 7 * 10) h hn qq hd (by omega) (by omega) hq
    have e1 : 10 * (i / 7) = i / 7 * 10 := by omega
    have e2 : 10 * (i % 7) = i % 7 * 10 := by omega
    have q2 : QR s s' (si (si z 45 (2 * i) (gi w' 44 q)) 45 (2 * i + 1) (gi w' 45 q)) (si (si w' 48 i (gi w' 44 q)) 49 i (gi w' 45 q)) q := by
      refine ⟨(kN_si (by omega)).trans ((kN_si (by omega)).trans a5.1), (kR_scr rfl).trans ((kR_scr rfl).trans a5.2.1), SvK_si (SvK_si a5.2.2.1 (by decide)) (by decide), ?_, ?_, ?_⟩
      · rw [gi_ne (by decide), gi_ne (by decide)]; exact a5.2.2.2.1
      · rw [gi_ne (by decide), gi_ne (by decide)]; exact a5.2.2.2.2.1
      · rw [gi_ne (by decide), gi_ne (by decide)]; exact a5.2.2.2.2.2
    have tw2 : TW (si (si z 45 (2 * i) (gi w' 44 q)) 45 (2 * i + 1) (gi w' 45 q)) (si (si w' 48 i (gi w' 44 q)) 49 i (gi w' 45 q)) (i + 1) := by
      intro j hj
      by_cases e : j = i
      · subst e
        rw [gi_dif (by omega), gi_same, gi_ne (by decide), gi_same, gi_same, gi_same]
        exact ⟨rfl, rfl⟩
      · rw [gi_dif (by omega), gi_dif (by omega), gi_dif (by omega), gi_dif (by omega), gi_ne (by decide), gi_dif e, gi_dif e, gi_ne (by decide), a8, a8, a9 _ _ (by omega) (by omega), a9 _ _ (by omega) (by omega)]
        exact tw j (by omega)
    obtain ⟨u2, v2, b1, b2, b3, b4⟩ := ih (i + 1) f f' _ _ (by omega) (by omega) (by omega) q2 tw2
    refine ⟨u2, v2, ?_, ?_, b3, b4⟩
    · rw [fX11_rests_L21]
      unfold fX9_meantByFirst fX9_meantBySecond fX0_fixMeant fX9_keepTwo
      simp (disch := omega) only [↓ite_bind, ↓ck_bind, ↓lt_bind, ↓Option.bind_assoc, ↓bd_s, ↓lt_v, ↓ck_v, ↓reduceIte, Bool.false_eq_true, Bool.true_eq_false, nj_add, nj_addl, nj_addr, nj_mull, nj_mulr, nj_subr, nj_pred, ix_nI, ix_lit, inb_t, inb_l, nj_le_t, nj_le_f, nj_lel_t, nj_lel_f, nj_ler_t, nj_ler_f, nj_lt_t, nj_lt_f, nj_ltl_t, nj_ltl_f, nj_ltr_t, nj_ltr_f, nj_eq_t, nj_eq_f, nj_eqr_t, nj_eqr_f, nj_m1, nj_m2, md7b, dv7, a1, a2, a6, a7]
      exact b1
    · rw [fX12_laysRests_L11]
      simp (disch := omega) only [↓ite_bind, ↓ck_bind, ↓lt_bind, ↓Option.bind_assoc, ↓bd_s, ↓lt_v, ↓ck_v, ↓reduceIte, Bool.false_eq_true, Bool.true_eq_false, nj_add, nj_addl, nj_addr, nj_mull, nj_mulr, nj_subr, nj_pred, ix_nI, ix_lit, inb_t, inb_l, nj_le_t, nj_le_f, nj_lel_t, nj_lel_f, nj_ler_t, nj_ler_f, nj_lt_t, nj_lt_f, nj_ltl_t, nj_ltl_f, nj_ltr_t, nj_ltr_f, nj_eq_t, nj_eq_f, nj_eqr_t, nj_eqr_f, nj_m1, nj_m2, md7b, dv7, e1, e2, a3, a4, gi_si, Nat.reduceEqDiff]
      exact b2
theorem isRest_L {u v : ST} {j : Nat} (tw : TW u v 49) (hj : j < 49) : ∀ (k i f f' : Nat), i + k = 7 → k < f → k < f' → ∃ r, (r = 0 ∨ r = 1) ∧ fX9_neitherParts_L13 (nI j) (nI (j / 7)) (nI (j % 7)) f (nI i) u = some r ∧ fX12_isRest_L2 (nI j) f' (nI i) v = some r := by
  intro k
  induction k with
  | zero =>
    intro i f f' hi hf hf'
    obtain ⟨f, rfl⟩ : ∃ m, f = m + 1 := ⟨f - 1, by omega⟩
    obtain ⟨f', rfl⟩ : ∃ m, f' = m + 1 := ⟨f' - 1, by omega⟩
    obtain rfl : i = 7 := by omega
    refine ⟨1, Or.inr rfl, ?_, ?_⟩
    · rw [fX9_neitherParts_L13, if_pos (by decide)]
    · rw [fX12_isRest_L2, if_pos (by decide)]
  | succ k ih =>
    intro i f f' hi hf hf'
    obtain ⟨f, rfl⟩ : ∃ m, f = m + 1 := ⟨f - 1, by omega⟩
    obtain ⟨f', rfl⟩ : ∃ m, f' = m + 1 := ⟨f' - 1, by omega⟩
    have w1 := (tw j hj).1
    have w2 := (tw j hj).2
    have w3 := (tw (i * 7 + j % 7) (by omega)).1
    have w4 := (tw (j / 7 * 7 + i) (by omega)).2
    have e1 : 7 * i + j % 7 = i * 7 + j % 7 := by omega
    have e2 : nI j - nI (j % 7) = nI (j / 7 * 7) := by rw [nj_sub (by omega)]; congr 1; omega
    by_cases c1 : gi v 48 (i * 7 + j % 7) < gi v 48 j
    · refine ⟨0, Or.inl rfl, ?_, ?_⟩
      · rw [fX9_neitherParts_L13]
        simp (disch := omega) only [↓ite_bind, ↓ck_bind, ↓lt_bind, ↓Option.bind_assoc, ↓bd_s, ↓lt_v, ↓ck_v, ↓reduceIte, Bool.false_eq_true, Bool.true_eq_false, nj_add, nj_addl, nj_addr, nj_mull, nj_mulr, nj_subr, nj_pred, ix_nI, ix_lit, inb_t, inb_l, nj_le_t, nj_le_f, nj_lel_t, nj_lel_f, nj_ler_t, nj_ler_f, nj_lt_t, nj_lt_f, nj_ltl_t, nj_ltl_f, nj_ltr_t, nj_ltr_f, nj_eq_t, nj_eq_f, nj_eqr_t, nj_eqr_f, nj_m1, nj_m2, w1, w3, c1]
      · rw [fX12_isRest_L2]
        simp (disch := omega) only [↓ite_bind, ↓ck_bind, ↓lt_bind, ↓Option.bind_assoc, ↓bd_s, ↓lt_v, ↓ck_v, ↓reduceIte, Bool.false_eq_true, Bool.true_eq_false, nj_add, nj_addl, nj_addr, nj_mull, nj_mulr, nj_subr, nj_pred, ix_nI, ix_lit, inb_t, inb_l, nj_le_t, nj_le_f, nj_lel_t, nj_lel_f, nj_ler_t, nj_ler_f, nj_lt_t, nj_lt_f, nj_ltl_t, nj_ltl_f, nj_ltr_t, nj_ltr_f, nj_eq_t, nj_eq_f, nj_eqr_t, nj_eqr_f, nj_m1, nj_m2, md7, e1, c1]
    · by_cases c2 : gi v 49 j ≤ gi v 49 (j / 7 * 7 + i)
      · obtain ⟨r, r1, r2, r3⟩ := ih (i + 1) f f' (by omega) (by omega) (by omega)
        refine ⟨r, r1, ?_, ?_⟩
        · rw [fX9_neitherParts_L13]
          simp (disch := omega) only [↓ite_bind, ↓ck_bind, ↓lt_bind, ↓Option.bind_assoc, ↓bd_s, ↓lt_v, ↓ck_v, ↓reduceIte, Bool.false_eq_true, Bool.true_eq_false, nj_add, nj_addl, nj_addr, nj_mull, nj_mulr, nj_subr, nj_pred, ix_nI, ix_lit, inb_t, inb_l, nj_le_t, nj_le_f, nj_lel_t, nj_lel_f, nj_ler_t, nj_ler_f, nj_lt_t, nj_lt_f, nj_ltl_t, nj_ltl_f, nj_ltr_t, nj_ltr_f, nj_eq_t, nj_eq_f, nj_eqr_t, nj_eqr_f, nj_m1, nj_m2, w1, w2, w3, w4, c1, c2]
          exact r2
        · rw [fX12_isRest_L2]
          simp (disch := omega) only [↓ite_bind, ↓ck_bind, ↓lt_bind, ↓Option.bind_assoc, ↓bd_s, ↓lt_v, ↓ck_v, ↓reduceIte, Bool.false_eq_true, Bool.true_eq_false, nj_add, nj_addl, nj_addr, nj_mull, nj_mulr, nj_subr, nj_pred, ix_nI, ix_lit, inb_t, inb_l, nj_le_t, nj_le_f, nj_lel_t, nj_lel_f, nj_ler_t, nj_ler_f, nj_lt_t, nj_lt_f, nj_ltl_t, nj_ltl_f, nj_ltr_t, nj_ltr_f, nj_eq_t, nj_eq_f, nj_eqr_t, nj_eqr_f, nj_m1, nj_m2, md7, e1, e2, c1, c2]
          exact r3
      · refine ⟨0, Or.inl rfl, ?_, ?_⟩
        · rw [fX9_neitherParts_L13]
          simp (disch := omega) only [↓ite_bind, ↓ck_bind, ↓lt_bind, ↓Option.bind_assoc, ↓bd_s, ↓lt_v, ↓ck_v, ↓reduceIte, Bool.false_eq_true, Bool.true_eq_false, nj_add, nj_addl, nj_addr, nj_mull, nj_mulr, nj_subr, nj_pred, ix_nI, ix_lit, inb_t, inb_l, nj_le_t, nj_le_f, nj_lel_t, nj_lel_f, nj_ler_t, nj_ler_f, nj_lt_t, nj_lt_f, nj_ltl_t, nj_ltl_f, nj_ltr_t, nj_ltr_f, nj_eq_t, nj_eq_f, nj_eqr_t, nj_eqr_f, nj_m1, nj_m2, w1, w2, w3, w4, c1, c2]
        · rw [fX12_isRest_L2]
          simp (disch := omega) only [↓ite_bind, ↓ck_bind, ↓lt_bind, ↓Option.bind_assoc, ↓bd_s, ↓lt_v, ↓ck_v, ↓reduceIte, Bool.false_eq_true, Bool.true_eq_false, nj_add, nj_addl, nj_addr, nj_mull, nj_mulr, nj_subr, nj_pred, ix_nI, ix_lit, inb_t, inb_l, nj_le_t, nj_le_f, nj_lel_t, nj_lel_f, nj_ler_t, nj_ler_f, nj_lt_t, nj_lt_f, nj_ltl_t, nj_ltl_f, nj_ltr_t, nj_ltr_f, nj_eq_t, nj_eq_f, nj_eqr_t, nj_eqr_f, nj_m1, nj_m2, md7, e1, e2, c1, c2]
theorem isRest_ev {u v : ST} {j : Nat} (tw : TW u v 49) (hj : j < 49) : ∃ r, (r = 0 ∨ r = 1) ∧ fX9_neitherParts (nI j) u = some r ∧ fX12_isRest (nI j) v = some r := by
  obtain ⟨r, r1, r2, r3⟩ := isRest_L tw hj 7 0 FUEL FUEL (by omega) (by rw [FUEL_eq]; omega) (by rw [FUEL_eq]; omega)
  refine ⟨r, r1, ?_, ?_⟩
  · unfold fX9_neitherParts
    rw [lt_v, lt_v, md7 (by omega), dv7 (by omega)]
    exact r2
  · unfold fX12_isRest
    exact r3
theorem rests_M {t : PH} {u v : ST} {p : Int32} (tw : TW u v 49) : ∀ (k i f f' : Nat) (x y x' y' : Int32), i + k = 49 → k < f → k < f' → (x = 0 ∧ y = -1 ∧ x' = 0 ∧ y' = -2 ∨ ∃ c b, 1 ≤ c ∧ c ≤ i ∧ b < 49 ∧ x = nI c ∧ x' = nI c ∧ y = nI b ∧ y' = nI b) →
    ∃ a b b', fX11_rests_L102 p t f x y (nI i) u = some (a, b, nI 49) ∧ fX12_rests_L36 p f' x' y' (nI i) v = some (a, b', nI 49) ∧ (b = -1 ∧ b' = -2 ∨ ∃ c, c < 49 ∧ b = nI c ∧ b' = nI c) := by
  intro k
  induction k with
  | zero =>
    intro i f f' x y x' y' hi hf hf' hr
    obtain ⟨f, rfl⟩ : ∃ m, f = m + 1 := ⟨f - 1, by omega⟩
    obtain ⟨f', rfl⟩ : ∃ m, f' = m + 1 := ⟨f' - 1, by omega⟩
    obtain rfl : i = 49 := by omega
    have hx : x' = x := by
      rcases hr with ⟨e1, e2, e3, e4⟩ | ⟨c, b, e1, e2, e3, e4, e5, e6, e7⟩
      · rw [e1, e3]
      · rw [e4, e5]
    refine ⟨x, y, y', ?_, ?_, ?_⟩
    · rw [fX11_rests_L102, if_pos (by decide)]
    · rw [fX12_rests_L36, if_pos (by decide), hx]
    · rcases hr with ⟨e1, e2, e3, e4⟩ | ⟨c, b, e1, e2, e3, e4, e5, e6, e7⟩
      · exact Or.inl ⟨e2, e4⟩
      · exact Or.inr ⟨b, e3, e6, e7⟩
  | succ k ih =>
    intro i f f' x y x' y' hi hf hf' hr
    obtain ⟨f, rfl⟩ : ∃ m, f = m + 1 := ⟨f - 1, by omega⟩
    obtain ⟨f', rfl⟩ : ∃ m, f' = m + 1 := ⟨f' - 1, by omega⟩
    obtain ⟨r, r1, r2, r3⟩ := isRest_ev tw (j := i) (by omega)
    rw [fX11_rests_L102, fX12_rests_L36]
    rcases r1 with rfl | rfl
    · simp (disch := omega) only [↓ite_bind, ↓ck_bind, ↓lt_bind, ↓Option.bind_assoc, ↓bd_s, ↓lt_v, ↓ck_v, ↓reduceIte, Bool.false_eq_true, Bool.true_eq_false, nj_add, nj_addl, nj_addr, nj_mull, nj_mulr, nj_subr, nj_pred, ix_nI, ix_lit, inb_t, inb_l, nj_le_t, nj_le_f, nj_lel_t, nj_lel_f, nj_ler_t, nj_ler_f, nj_lt_t, nj_lt_f, nj_ltl_t, nj_ltl_f, nj_ltr_t, nj_ltr_f, nj_eq_t, nj_eq_f, nj_eqr_t, nj_eqr_f, nj_m1, nj_m2, r2, r3]
      refine ih (i + 1) f f' _ _ _ _ (by omega) (by omega) (by omega) ?_
      rcases hr with hr | ⟨c, b, e1, e2, e3, e4⟩
      · exact Or.inl hr
      · exact Or.inr ⟨c, b, e1, by omega, e3, e4⟩
    · rcases hr with ⟨e1, e2, e3, e4⟩ | ⟨c, b, e1, e2, e3, e4, e5, e6, e7⟩
      · simp (disch := omega) only [↓ite_bind, ↓ck_bind, ↓lt_bind, ↓Option.bind_assoc, ↓bd_s, ↓lt_v, ↓ck_v, ↓reduceIte, Bool.false_eq_true, Bool.true_eq_false, nj_add, nj_addl, nj_addr, nj_mull, nj_mulr, nj_subr, nj_pred, ix_nI, ix_lit, inb_t, inb_l, nj_le_t, nj_le_f, nj_lel_t, nj_lel_f, nj_ler_t, nj_ler_f, nj_lt_t, nj_lt_f, nj_ltl_t, nj_ltl_f, nj_ltr_t, nj_ltr_f, nj_eq_t, nj_eq_f, nj_eqr_t, nj_eqr_f, nj_m1, nj_m2, r2, r3, i10, e1, e2, e3, e4]
        exact ih (i + 1) f f' _ _ _ _ (by omega) (by omega) (by omega) (Or.inr ⟨1, i, by omega, by omega, by omega, rfl, rfl, rfl, rfl⟩)
      · have n0 : ¬ nI c = 0 := by rw [nj_eqr (by omega) (by decide)]; omega
        simp (disch := omega) only [↓ite_bind, ↓ck_bind, ↓lt_bind, ↓Option.bind_assoc, ↓bd_s, ↓lt_v, ↓ck_v, ↓reduceIte, Bool.false_eq_true, Bool.true_eq_false, nj_add, nj_addl, nj_addr, nj_mull, nj_mulr, nj_subr, nj_pred, ix_nI, ix_lit, inb_t, inb_l, nj_le_t, nj_le_f, nj_lel_t, nj_lel_f, nj_ler_t, nj_ler_f, nj_lt_t, nj_lt_f, nj_ltl_t, nj_ltl_f, nj_ltr_t, nj_ltr_f, nj_eq_t, nj_eq_f, nj_eqr_t, nj_eqr_f, nj_m1, nj_m2, r2, r3, i10, e4, e5, e6, e7, n0]
        exact ih (i + 1) f f' _ _ _ _ (by omega) (by omega) (by omega) (Or.inr ⟨c + 1, b, by omega, by omega, e3, rfl, rfl, rfl, rfl⟩)
theorem rests_ok {t : PH} {s s' : ST} {d : Nat} (h : INV t s s' d) (hd : d ≤ 600) (p w : Int32) : A2 t (d + 1) (fX11_rests p w t s) (fX12_rests p w s') := by
  obtain ⟨np, nm, R, n⟩ := IN0_nw h.1
  have hnm := n.1.2.1
  unfold fX11_rests fX12_rests fX12_laysRests
  rcases g_meet n.1.2.2.2.2.1 n.1.2.2.2.2.2.1 n.1.2.1 p with ⟨a, b⟩ | ⟨q, hq, rfl, a, b⟩
  · exact ⟨-1, s, s', by rw [a, bd_s, if_pos rfl, bd_s, if_pos rfl], by rw [b, bd_s, if_pos rfl, bd_s, if_pos rfl], INV_mono h (by omega)⟩
  rw [a, b, bd_s, bd_s, if_neg n10, if_neg n10]
  rcases g_in w (l := 0) (h := 2) (a := 0) (b := 2) (show (0 : Int64) = _ from rfl) (show (2 : Int64) = _ from rfl) rfl rfl (by omega) (by omega) with ⟨c1, c2⟩ | ⟨j, j1, j2, rfl, j4⟩
  · refine ⟨-1, s, s', ?_, by rw [c1, bd_s, if_pos rfl, bd_s, if_pos rfl], INV_mono h (by omega)⟩
    rcases c2 with c2 | ⟨c2, c3, c4⟩
    · simp only [c2, if_true, bd_s]
    · simp only [c2, c4, if_true, bd_s, if_false]
  rw [j4, bd_s, if_neg n10, if_neg (nj_nn (by omega)), if_pos (show nI j ≤ (2 : Int32) by rw [nj_ler (by omega) (by decide)]; omega), bd_s, bd_s, if_neg nft, if_neg nft]
  obtain ⟨v, v1, v2⟩ := q_begin h
  have q0 : QR s s' s (si v 0 57 (nI q)) q := ⟨rfl, (kR_scr rfl).trans v2.2.1, SvK_si v2.2.2.1 (by decide), by rw [gi_dif (by decide)]; exact v2.2.2.2.1, gi_same _ _ _ _, by rw [gi_dif (by decide)]; exact v2.2.2.2.2.2⟩
  obtain ⟨u2, w2, a1, a2, a3, a4⟩ := rests_L (p := nI j) h n hd hq 49 0 FUEL FUEL s (si v 0 57 (nI q)) (by omega) (by rw [FUEL_eq]; omega) (by rw [FUEL_eq]; omega) q0 (fun j hj => absurd hj (by omega))
  have a1 : fX11_rests_L21 (nI q) (nI j) t FUEL 0 s = some (nI 49, u2) := a1
  have a2 : fX12_laysRests_L11 (nI q) FUEL 0 (si v 0 57 (nI q)) = some (nI 49, w2) := a2
  have tw : TW u2 (si w2 0 57 (-1)) 49 := fun j hj => by rw [gi_ne (by decide), gi_ne (by decide)]; exact a4 j hj
  have qe : QS s s' u2 (si w2 0 57 (-1)) := ⟨a3.1, (kR_scr rfl).trans a3.2.1, SvK_si a3.2.2.1 (by decide), by rw [gi_dif (by decide)]; exact a3.2.2.2.1, gi_same _ _ _ _, by rw [gi_dif (by decide)]; exact a3.2.2.2.2.2⟩
  obtain ⟨x, y, y', b1, b2, b3⟩ := rests_M (t := t) (p := nI j) tw 49 0 FUEL FUEL 0 (-1) 0 (-2) (by omega) (by rw [FUEL_eq]; omega) (by rw [FUEL_eq]; omega) (Or.inl ⟨rfl, rfl, rfl, rfl⟩)
  have b1 : fX11_rests_L102 (nI j) t FUEL 0 (-1) 0 u2 = some (x, y, nI 49) := b1
  have b2 : fX12_rests_L36 (nI j) FUEL 0 (-2) 0 (si w2 0 57 (-1)) = some (x, y', nI 49) := b2
  rw [a1, bd_s, b1, bd_s, v1, bd_s, lt_v, a2, bd_s, lt_v, bd_s, b2, bd_s]
  have hj : j = 0 ∨ j = 1 ∨ j = 2 := by omega
  rcases hj with rfl | rfl | rfl
  · refine ⟨x, u2, _, ?_, ?_, q_end h qe⟩
    · rw [if_pos (show nI 0 = 0 from rfl)]
    · simp only [show (nI 0 = 0) = True from eq_true rfl, if_true, bd_s]
  · rcases b3 with ⟨e1, e2⟩ | ⟨c, c1, e1, e2⟩
    · refine ⟨-2, u2, _, ?_, ?_, q_end h qe⟩
      · simp only [show (nI 1 = 0) = False from eq_false (by decide), e1, if_true, if_false]
      · simp only [show (nI 1 = 0) = False from eq_false (by decide), e2, if_true, if_false, bd_s]
    · refine ⟨nI (c / 7 * 10), u2, _, ?_, ?_, q_end h qe⟩
      · unfold fX9_meantByFirst fX9_meantBySecond
        simp (disch := omega) only [show (nI 1 = 0) = False from eq_false (by decide), show (nI 1 = 1) = True from eq_true rfl, e1, if_true, if_false, nj_add, nj_addl, nj_addr, nj_mull, nj_mulr, nj_subr, nj_pred, ix_nI, ix_lit, inb_t, inb_l, nj_le_t, nj_le_f, nj_lel_t, nj_lel_f, nj_ler_t, nj_ler_f, nj_lt_t, nj_lt_f, nj_ltl_t, nj_ltl_f, nj_ltr_t, nj_ltr_f, nj_eq_t, nj_eq_f, nj_eqr_t, nj_eqr_f, nj_m1, nj_m2, bd_s, dv7]
      · simp (disch := omega) only [show (nI 1 = 0) = False from eq_false (by decide), show (nI 1 = 1) = True from eq_true rfl, e2, if_true, if_false, Bool.false_eq_true, nj_add, nj_addl, nj_addr, nj_mull, nj_mulr, nj_subr, nj_pred, ix_nI, ix_lit, inb_t, inb_l, nj_le_t, nj_le_f, nj_lel_t, nj_lel_f, nj_ler_t, nj_ler_f, nj_lt_t, nj_lt_f, nj_ltl_t, nj_ltl_f, nj_ltr_t, nj_ltr_f, nj_eq_t, nj_eq_f, nj_eqr_t, nj_eqr_f, nj_m1, nj_m2, bd_s, dv7]
        rw [show 10 * (c / 7) = c / 7 * 10 by omega]
  · rcases b3 with ⟨e1, e2⟩ | ⟨c, c1, e1, e2⟩
    · refine ⟨-2, u2, _, ?_, ?_, q_end h qe⟩
      · simp only [show (nI 2 = 0) = False from eq_false (by decide), e1, if_true, if_false]
      · simp only [show (nI 2 = 0) = False from eq_false (by decide), e2, if_true, if_false, bd_s]
    · refine ⟨nI (c % 7 * 10), u2, _, ?_, ?_, q_end h qe⟩
      · unfold fX9_meantByFirst fX9_meantBySecond
        simp (disch := omega) only [show (nI 2 = 0) = False from eq_false (by decide), show (nI 2 = 1) = False from eq_false (by decide), e1, if_true, if_false, nj_le_t, nj_le_f, nj_lel_t, nj_lel_f, nj_ler_t, nj_ler_f, nj_lt_t, nj_lt_f, nj_ltl_t, nj_ltl_f, nj_ltr_t, nj_ltr_f, nj_eq_t, nj_eq_f, nj_eqr_t, nj_eqr_f, nj_m1, nj_m2, bd_s, md7, nj_mulr]
      · simp (disch := omega) only [show (nI 2 = 0) = False from eq_false (by decide), show (nI 2 = 1) = False from eq_false (by decide), e2, if_true, if_false, Bool.false_eq_true, nj_le_t, nj_le_f, nj_lel_t, nj_lel_f, nj_ler_t, nj_ler_f, nj_lt_t, nj_lt_f, nj_ltl_t, nj_ltl_f, nj_ltr_t, nj_ltr_f, nj_eq_t, nj_eq_f, nj_eqr_t, nj_eqr_f, nj_m1, nj_m2, bd_s, md7, nj_mull]
        rw [show 10 * (c % 7) = c % 7 * 10 by omega]
