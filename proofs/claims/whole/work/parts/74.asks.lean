/-! QUESTIONS THAT TRY OTHERS -/
theorem kQ_si {v : ST} {a j : Nat} {x : Int32} (h : (scr a j || svr a) = true) : kQ (si v a j x) = kQ v := kQ_of (fun b k hb => si_x _ _ (by
  rintro ⟨rfl, rfl⟩
  rw [h] at hb
  cases hb))
theorem SvK_si {s0 v : ST} {a j : Nat} {x : Int32} (h : SvK s0 v) (ha : a ≠ 54) : SvK s0 (si v a j x) := SvK_54 h (fun j => gi_ne (Ne.symm ha))
def RlP (t : PH) (u v : ST) (p : Option Nat) : Prop := (p = none ∧ gi v 1 12 = -1) ∨ ∃ q r, p = some q ∧ gi v 1 12 = nI r ∧ RlS t (gi u) (gi v) q r
def QL (s s' u v : ST) : Prop := kN u = kN s ∧ kR v = kR s' ∧ SvK s' v ∧ gi v 0 57 = -1 ∧ gi v 0 63 = 0
theorem CRs_leave {t : PH} {u v : ST} {d np nm R : Nat} {p : Option Nat} (nz : NW t u v d np nm R) (p3 : RlP t u v p) (x : Int32) (f57 : gi v 0 57 = -1) (f63 : gi v 0 63 = 0) : CRs t (si (stS p u) 30 9 x) (si v 0 56 x) np nm d := by
  obtain ⟨s7, s8, s9, s10, s13, s15, s16, s17⟩ := stS_30 (p := p) (u := u)
  have := nz.1.1
  have := nz.1.2.1
  have el : lv (si v 0 56 x) = lv v := lv_si_o _ (by omega)
  exact CRs_of nz p3 (by rw [mr_si]; exact stS_mr.1) (by rw [mr_si]; exact stS_mr.2) (fun a j h1 h2 h3 _ => by rw [gi_ne h1]; exact stS_o ⟨h1, h2, h3⟩ j) (fun a j hh => gi_ne (by omega)) (by rw [gi_dif (by decide), gi_ne (by decide)]; exact s7.trans nz.1.2.2.2.2.2.2.2.2.2.1) (by rw [gi_dif (by decide), gi_ne (by decide)]; exact s8.trans nz.1.2.2.2.2.2.2.2.2.2.2.1)
    (fun q hq => by
      rw [gi_ne (by decide), gi_ne (by decide), stS_41 (by omega)]
      obtain ⟨q1, q2, q3⟩ := nz.1.2.2.2.2.2.2.2.2.2.2.2.2.2.1 q hq
      exact ⟨q1, q2⟩) (by rw [gi_same, gi_same]) (by rw [gi_dif (by decide), gi_dif (by decide)]; exact s10.trans f57.symm) (fun e => absurd (by rw [gi_dif (by decide)]; exact f57) e) (by rw [gi_dif (by decide), gi_dif (by decide)]; exact s13.trans f63.symm)
    (fun j hj => by rw [el, show (si (stS p u) 30 9 x).1 32 j = gi (si (stS p u) 30 9 x) 32 j from rfl, gi_ne (by decide)]; exact (stS_32 (by unfold vis at hj; omega)).trans (nz.2.1 j hj)) (by rw [el]; exact nz.2.2.1) (fun e => absurd (by rw [gi_dif (by decide)]; exact f63) e)
theorem leave_it {t : PH} {s s' u v : ST} {d np nm R n : Nat} (h : INV t s s' d) (hn : NW t s s' d np nm R) (q : QL s s' u v) (hk : n ≤ 100) (hd : d ≤ 600) (x : Int32) :
    ∃ m z w', fX11_startFromNow t u = some m ∧ fX0_goDays (nI n) t (si m 30 9 x) = some z ∧ fX12_costsOf (nI n) (si v 0 56 x) = some (gi w' 0 69, w') ∧ QL s s' z w' ∧ gi z 30 16 = gi w' 0 69 ∧ (n = 1 → fX0_goDay t (si m 30 9 x) = some z) := by
  have nz := NW_k h.1 hn q.1 q.2.1
  obtain ⟨p, p1, p2, p3⟩ := rule_ev nz
  obtain ⟨s7, s8, s9, s10, s13, s15, s16, s17⟩ := stS_30 (p := p) (u := u)
  obtain ⟨z, z', w', a1, a2, a3, a4, a5, a6, a7, a8, a9, a10, a11, a12, a13, -⟩ := iter (s := s) (s' := s') (n := n) hk (by omega) (CRs_leave nz p3 x q.2.2.2.1 q.2.2.2.2) (by rw [gi_dif (by decide)]; exact s15) (by rw [gi_dif (by decide)]; exact s16) (by rw [gi_dif (by decide)]; exact s17) ((kN_si (by omega)).trans (stS_kN.trans q.1)) ((kQ_si (by decide)).trans (kQ_kR q.2.1)) (SvK_si q.2.2.1 (by decide))
  refine ⟨_, z, w', start_eq p1 p2, a1, ?_, ⟨a4, a5, a6, ?_, ?_⟩, a8, ?_⟩
  · unfold fX12_costsOf
    rw [a2, bd_s, a3, bd_s]
  · rw [a10 _ (by omega), gi_dif (by decide)]; exact q.2.2.2.1
  · rw [a10 _ (by omega), gi_dif (by decide)]; exact q.2.2.2.2
  · intro e
    subst e
    unfold fX0_goDays at a1
    rw [show FUEL = 4998 + 1 + 1 from rfl, fX0_goDays_L2, if_neg (by decide)] at a1
    cases e : fX0_goDay t (si (stS p u) 30 9 x) with
    | none => rw [e] at a1; cases a1
    | some q =>
      rw [e, bd_s, lt_v, fX0_goDays_L2, if_pos (by decide), bd_s] at a1
      exact a1
theorem leave_L {t : PH} {s s' : ST} {d np nm R : Nat} {p : Int32} (h : INV t s s' d) (hn : NW t s s' d np nm R) (hd : d ≤ 600) : ∀ (k i f f' : Nat) (x y : Int32) (u v : ST), i + k = nm → k < f → k < f' → QL s s' u v →
    ∃ a b u2 v2, fX11_leave_L33 p t f x y (nI i) u = some (a, b, nI nm, u2) ∧ fX12_leave_L32 p f' x y (nI i) v = some (a, b, nI nm, v2) ∧ QL s s' u2 v2 := by
  have hnm := hn.1.2.1
  intro k
  induction k with
  | zero =>
    intro i f f' x y u v hi hf hf' q
    obtain ⟨f, rfl⟩ : ∃ m, f = m + 1 := ⟨f - 1, by omega⟩
    obtain ⟨f', rfl⟩ : ∃ m, f' = m + 1 := ⟨f' - 1, by omega⟩
    obtain rfl : i = nm := by omega
    have nz := NW_k h.1 hn q.1 q.2.1
    have h8 : gi u 18 8 = nI i := nz.1.2.2.2.2.1
    have h4 : gi v 1 4 = nI i := nz.1.2.2.2.2.2.1
    refine ⟨x, y, u, v, ?_, ?_, q⟩
    · rw [fX11_leave_L33, h8, if_pos (Int32.le_refl _)]
    · rw [fX12_leave_L32, ck_t (by decide), ix_lit (by decide), h4, if_pos (Int32.le_refl _)]
  | succ k ih =>
    intro i f f' x y u v hi hf hf' q
    obtain ⟨f, rfl⟩ : ∃ m, f = m + 1 := ⟨f - 1, by omega⟩
    obtain ⟨f', rfl⟩ : ∃ m, f' = m + 1 := ⟨f' - 1, by omega⟩
    have nz := NW_k h.1 hn q.1 q.2.1
    have h8 : gi u 18 8 = nI nm := nz.1.2.2.2.2.1
    have h4 : gi v 1 4 = nI nm := nz.1.2.2.2.2.2.1
    obtain ⟨m, z, w', a1, a2, a3, a4, a5, a6⟩ := leave_it (n := 1) h hn q (by omega) hd (nI i)
    have a6 := a6 rfl
    have a3 : fX12_costsOf 1 (si v 0 56 (nI i)) = some (gi w' 0 69, w') := a3
    rw [fX11_leave_L33, fX12_leave_L32]
    by_cases c1 : x = -2
    · simp (disch := omega) only [↓ite_bind, ↓ck_bind, ↓lt_bind, ↓Option.bind_assoc, ↓bd_s, ↓lt_v, ↓ck_v, ↓reduceIte, Bool.false_eq_true, Bool.true_eq_false, nj_add, nj_addl, nj_addr, nj_mull, nj_mulr, nj_subr, nj_pred, ix_nI, ix_lit, inb_t, inb_l, nj_le_t, nj_le_f, nj_lel_t, nj_lel_f, nj_ler_t, nj_ler_f, nj_lt_t, nj_lt_f, nj_ltl_t, nj_ltl_f, nj_ltr_t, nj_ltr_f, nj_eq_t, nj_eq_f, nj_eqr_t, nj_eqr_f, nj_m1, nj_m2, h8, h4, a1, a3, a6, a5, c1]
      exact ih (i + 1) f f' _ _ _ _ (by omega) (by omega) (by omega) a4
    · by_cases c2 : y ≤ gi w' 0 69
      · simp (disch := omega) only [↓ite_bind, ↓ck_bind, ↓lt_bind, ↓Option.bind_assoc, ↓bd_s, ↓lt_v, ↓ck_v, ↓reduceIte, Bool.false_eq_true, Bool.true_eq_false, nj_add, nj_addl, nj_addr, nj_mull, nj_mulr, nj_subr, nj_pred, ix_nI, ix_lit, inb_t, inb_l, nj_le_t, nj_le_f, nj_lel_t, nj_lel_f, nj_ler_t, nj_ler_f, nj_lt_t, nj_lt_f, nj_ltl_t, nj_ltl_f, nj_ltr_t, nj_ltr_f, nj_eq_t, nj_eq_f, nj_eqr_t, nj_eqr_f, nj_m1, nj_m2, h8, h4, a1, a3, a6, a5, c1, c2]
        exact ih (i + 1) f f' _ _ _ _ (by omega) (by omega) (by omega) a4
      · simp (disch := omega) only [↓ite_bind, ↓ck_bind, ↓lt_bind, ↓Option.bind_assoc, ↓bd_s, ↓lt_v, ↓ck_v, ↓reduceIte, Bool.false_eq_true, Bool.true_eq_false, nj_add, nj_addl, nj_addr, nj_mull, nj_mulr, nj_subr, nj_pred, ix_nI, ix_lit, inb_t, inb_l, nj_le_t, nj_le_f, nj_lel_t, nj_lel_f, nj_ler_t, nj_ler_f, nj_lt_t, nj_lt_f, nj_ltl_t, nj_ltl_f, nj_ltr_t, nj_ltr_f, nj_eq_t, nj_eq_f, nj_eqr_t, nj_eqr_f, nj_m1, nj_m2, h8, h4, a1, a3, a6, a5, c1, c2]
        exact ih (i + 1) f f' _ _ _ _ (by omega) (by omega) (by omega) a4
theorem QL_QS {s s' u v : ST} (q : QL s s' u v) : QS s s' u (si v 0 56 (-1)) := by
  refine ⟨q.1, ?_, SvK_si q.2.2.1 (by decide), gi_same _ _ _ _, by rw [gi_dif (by decide)]; exact q.2.2.2.1, by rw [gi_dif (by decide)]; exact q.2.2.2.2⟩
  rw [← q.2.1]
  exact kR_of (fun a j e => si_x _ _ (by
    rintro ⟨rfl, rfl⟩
    cases e))
theorem QS_QL {s s' u v : ST} (q : QS s s' u v) : QL s s' u v := ⟨q.1, q.2.1, q.2.2.1, q.2.2.2.2⟩
theorem leave_ok {t : PH} {s s' : ST} {d : Nat} (h : INV t s s' d) (hd : d ≤ 600) (p : Int32) : A2 t (d + 1) (fX11_leave p t s) (fX12_leave p s') := by
  obtain ⟨np, nm, R, n⟩ := IN0_nw h.1
  have hnm := n.1.2.1
  unfold fX11_leave fX12_leave
  rcases g_town n.1 with ⟨a, b⟩ | ⟨a, b⟩
  · exact ⟨-1, s, s', by rw [if_pos a, bd_s, if_pos rfl], by rw [b, bd_s, if_pos rfl, bd_s, if_pos rfl], INV_mono h (by omega)⟩
  rw [b, bd_s, if_neg n10, if_neg (show ¬ gi s 18 0 = 0 by rw [a]; decide)]
  rcases g_in p (l := 0) (h := 1) (a := 0) (b := 1) (show (0 : Int64) = _ from rfl) (show (1 : Int64) = _ from rfl) rfl rfl (by omega) (by omega) with ⟨c1, c2⟩ | ⟨j, j1, j2, rfl, j4⟩
  · refine ⟨-1, s, s', ?_, by rw [c1, bd_s, if_pos rfl, bd_s, if_pos rfl], INV_mono h (by omega)⟩
    rcases c2 with c2 | ⟨c2, c3, c4⟩
    · simp only [c2, if_true, bd_s]
    · simp only [c2, c4, if_true, bd_s, if_false]
  rw [j4, bd_s, if_neg n10, if_neg (nj_nn (by omega)), if_pos (show nI j ≤ (1 : Int32) by rw [nj_ler (by omega) (by decide)]; omega), bd_s, bd_s, if_neg nft, if_neg nft]
  obtain ⟨v, v1, v2⟩ := q_begin h
  obtain ⟨x, y, u2, v3, b1, b2, b3⟩ := leave_L (p := nI j) h n hd nm 0 FUEL FUEL (-2) (-2) s v (by omega) (by rw [FUEL_eq]; omega) (by rw [FUEL_eq]; omega) (QS_QL v2)
  rw [v1, bd_s, show fX11_leave_L33 (nI j) t FUEL (-2) (-2) 0 s = fX11_leave_L33 (nI j) t FUEL (-2) (-2) (nI 0) s from rfl, b1, bd_s, show fX12_leave_L32 (nI j) FUEL (-2) (-2) 0 v = fX12_leave_L32 (nI j) FUEL (-2) (-2) (nI 0) v from rfl, b2, bd_s, lt_v]
  have hj : j = 0 ∨ j = 1 := by omega
  rcases hj with rfl | rfl
  · refine ⟨x, u2, si v3 0 56 (-1), ?_, ?_, q_end h (QL_QS b3)⟩ <;> rw [if_pos (show nI 0 = 0 from rfl), bd_s]
  · refine ⟨y, u2, si v3 0 56 (-1), ?_, ?_, q_end h (QL_QS b3)⟩ <;> rw [if_neg (show ¬ nI 1 = 0 by decide), bd_s]
theorem costs_ev {t : PH} {s s' u v : ST} {d np nm R n : Nat} (h : INV t s s' d) (hn : NW t s s' d np nm R) (q : QS s s' u v) (hk : n ≤ 100) (hd : d ≤ 600) :
    ∃ m z w', fX11_startFromNow t u = some m ∧ fX0_goDays (nI n) t m = some z ∧ fX12_costsOf (nI n) v = some (gi w' 0 69, w') ∧ QS s s' z w' ∧ gi z 30 16 = gi w' 0 69 ∧ gi z 30 17 = gi w' 0 70 := by
  obtain ⟨m, z, z', w', a1, a2, a3, a4, a5, a6, a7, a8, a9, a10⟩ := q_days h hn q hk hd
  refine ⟨m, z, w', a1, a2, ?_, a5, a7, a8⟩
  unfold fX12_costsOf
  rw [a3, bd_s, a4, bd_s]
theorem worth_ok {t : PH} {s s' : ST} {d : Nat} (h : INV t s s' d) (hd : d ≤ 600) (p x : Int32) : A2 t (d + 1) (fX11_worth p x t s) (fX12_worth p x s') := by
  obtain ⟨np, nm, R, n⟩ := IN0_nw h.1
  have hnm := n.1.2.1
  unfold fX11_worth fX12_worth
  rcases g_meet n.1.2.2.2.2.1 n.1.2.2.2.2.2.1 n.1.2.1 p with ⟨a, b⟩ | ⟨q, hq, rfl, a, b⟩
  · exact ⟨-1000000, s, s', by rw [a, bd_s, if_pos rfl, bd_s, if_pos rfl], by rw [b, bd_s, if_pos rfl, bd_s, if_pos rfl], INV_mono h (by omega)⟩
  rw [a, b, bd_s, bd_s, if_neg n10, if_neg n10]
  have hsp : (fX11_isSpan x s = some 0 ∧ ∀ s, fX12_in x.toInt64 1 20 s = some 0) ∨ ∃ n, 1 ≤ n ∧ n ≤ 20 ∧ x = nI n ∧ fX11_isSpan (nI n) s = some 1 ∧ ∀ s, fX12_in (nI n).toInt64 1 20 s = some 1 := by
    rcases g_span n.1 x with ⟨a, b⟩ | ⟨k, k1, k2, k3, k4, k5, k6⟩
    · refine Or.inl ⟨a, ?_⟩
      rcases b with b | b
      · exfalso
        have t9 := n.1.2.2.2.2.2.2.2.2.1
        rcases t9 with ⟨e1, e2, e3, e4⟩ | ⟨e1, e2⟩
        · omega
        · rcases g_town n.1 with ⟨c, -⟩ | ⟨-, c⟩
          · rw [c] at e1; cases e1
          · rw [c] at b; cases b
      · exact b.2
    · exact Or.inr ⟨k, k1, k2, k3, k4, k6⟩
  rcases hsp with ⟨c1, c2⟩ | ⟨k, k1, k2, rfl, k4, k5⟩
  · exact ⟨-1000000, s, s', by rw [c1, bd_s, if_pos rfl, bd_s, if_pos rfl], by rw [c2, bd_s, if_pos rfl, bd_s, if_pos rfl], INV_mono h (by omega)⟩
  rw [k4, k5, bd_s, if_neg n10, bd_s, bd_s, if_neg nft, if_neg nft]
  obtain ⟨v, v1, v2⟩ := q_begin h
  obtain ⟨m, z, w', a1, a2, a3, a4, a5, a6⟩ := costs_ev (n := k) h n v2 (by omega) hd
  obtain ⟨m2, z2, w2, b1, b2, b3, b4, b5, b6⟩ := leave_it (n := k) h n (QS_QL a4) (by omega) hd (nI q)
  refine ⟨gi w' 0 69 - gi w2 0 69, z2, si w2 0 56 (-1), ?_, ?_, q_end h (QL_QS b4)⟩
  · rw [a1, bd_s, a2, bd_s, lt_v, b1, bd_s, lt_v, b2, bd_s, a5, b5]
  · rw [v1, bd_s, a3, bd_s, lt_v, b3, bd_s, lt_v, lt_v]
theorem CRs_clock {t : PH} {u v : ST} {d np nm R i : Nat} {p : Option Nat} (nz : NW t u v d np nm R) (p3 : RlP t u v p) (hi : i < np) (f56 : gi v 0 56 = -1) (f57 : gi v 0 57 = -1) (f63 : gi v 0 63 = 0) : CRs t (si (stS p u) 32 i 0) (si v 3 i 0) np nm d := by
  obtain ⟨s7, s8, s9, s10, s13, s15, s16, s17⟩ := stS_30 (p := p) (u := u)
  have := nz.1.1
  have := nz.1.2.1
  have el : lv (si v 3 i 0) = upd (lv v) i 0 := lv_si3 _ (by omega)
  refine CRs_of nz p3 (by rw [mr_si]; exact stS_mr.1) (by rw [mr_si]; exact stS_mr.2) (fun a j h1 h2 h3 _ => by rw [gi_ne h2]; exact stS_o ⟨h1, h2, h3⟩ j) (fun a j hh => gi_ne (by omega)) (by rw [gi_ne (by decide), gi_ne (by decide)]; exact s7.trans nz.1.2.2.2.2.2.2.2.2.2.1) (by rw [gi_ne (by decide), gi_ne (by decide)]; exact s8.trans nz.1.2.2.2.2.2.2.2.2.2.2.1)
    (fun q hq => by
      rw [gi_ne (by decide), gi_ne (by decide), stS_41 (by omega)]
      obtain ⟨q1, q2, q3⟩ := nz.1.2.2.2.2.2.2.2.2.2.2.2.2.2.1 q hq
      exact ⟨q1, q2⟩) (by rw [gi_ne (by decide), gi_ne (by decide)]; exact s9.trans f56.symm) (by rw [gi_ne (by decide), gi_ne (by decide)]; exact s10.trans f57.symm) (fun e => absurd (by rw [gi_ne (by decide)]; exact f57) e) (by rw [gi_ne (by decide), gi_ne (by decide)]; exact s13.trans f63.symm)
    (fun j hj => ?_) ⟨fun q hq => ?_, fun q hq => ?_, ?_⟩ (fun e => absurd (by rw [gi_ne (by decide)]; exact f63) e)
  · rw [el, upd_eq, show (si (stS p u) 32 i 0).1 32 j = gi (si (stS p u) 32 i 0) 32 j from rfl, gi_si, if_pos rfl]
    by_cases e : j = i
    · rw [if_pos e, if_pos e]
    · rw [if_neg e, if_neg e]
      exact (stS_32 (by unfold vis at hj; omega)).trans (nz.2.1 j hj)
  · rw [el, upd_eq]
    by_cases e : q = i
    · rw [if_pos e]; decide
    · rw [if_neg e]; exact nz.2.2.1.1 q hq
  · rw [el, upd_eq, if_neg (by omega)]; exact nz.2.2.1.2.1 q hq
  · obtain ⟨y, y1, y2⟩ := nz.2.2.1.2.2
    exact ⟨y, y1, by rw [el, upd_eq, if_neg (by omega)]; exact y2⟩
theorem clocks_it {t : PH} {s s' u v : ST} {d np nm R n i : Nat} (h : INV t s s' d) (hn : NW t s s' d np nm R) (q : QS s s' u v) (hk : n ≤ 100) (hd : d ≤ 600) (hi : i < np) :
    ∃ m z w', fX11_startFromNow t u = some m ∧ fX0_goDays (nI n) t (si m 32 i 0) = some z ∧ fX12_costsOf (nI n) (si v 3 i 0) = some (gi w' 0 69, w') ∧ QS s s' z w' ∧ gi z 30 16 = gi w' 0 69 := by
  have nz := NW_k h.1 hn q.1 q.2.1
  obtain ⟨p, p1, p2, p3⟩ := rule_ev nz
  obtain ⟨s7, s8, s9, s10, s13, s15, s16, s17⟩ := stS_30 (p := p) (u := u)
  obtain ⟨z, z', w', a1, a2, a3, a4, a5, a6, a7, a8, a9, a10, a11, a12, a13, -⟩ := iter (s := s) (s' := s') (n := n) hk (by omega) (CRs_clock nz p3 hi q.2.2.2.1 q.2.2.2.2.1 q.2.2.2.2.2) (by rw [gi_ne (by decide)]; exact s15) (by rw [gi_ne (by decide)]; exact s16) (by rw [gi_ne (by decide)]; exact s17) ((kN_si (by omega)).trans (stS_kN.trans q.1)) ((kQ_si rfl).trans (kQ_kR q.2.1)) (SvK_si q.2.2.1 (by decide))
  refine ⟨_, z, w', start_eq p1 p2, a1, ?_, ⟨a4, a5, a6, ?_, ?_, ?_⟩, a8⟩
  · unfold fX12_costsOf
    rw [a2, bd_s, a3, bd_s]
  · rw [a10 _ (by omega), gi_ne (by decide)]; exact q.2.2.2.1
  · rw [a10 _ (by omega), gi_ne (by decide)]; exact q.2.2.2.2.1
  · rw [a10 _ (by omega), gi_ne (by decide)]; exact q.2.2.2.2.2
theorem clocks_L {t : PH} {s s' : ST} {d np nm R n : Nat} {p : Int32} (h : INV t s s' d) (hn : NW t s s' d np nm R) (hd : d ≤ 600) (hk : n ≤ 100) : ∀ (k i f f' : Nat) (x y : Int32) (u v : ST), i + k = np → k < f → k < f' → QS s s' u v →
    ∃ a b u2 v2, fX11_clocks_L46 (nI n) p t f x y (nI i) u = some (a, b, nI np, u2) ∧ fX12_clocks_L48 (nI n) p f' x y (nI i) v = some (a, b, nI np, v2) ∧ QS s s' u2 v2 := by
  have hnp := hn.1.1
  intro k
  induction k with
  | zero =>
    intro i f f' x y u v hi hf hf' q
    obtain ⟨f, rfl⟩ : ∃ m, f = m + 1 := ⟨f - 1, by omega⟩
    obtain ⟨f', rfl⟩ : ∃ m, f' = m + 1 := ⟨f' - 1, by omega⟩
    obtain rfl : i = np := by omega
    have nz := NW_k h.1 hn q.1 q.2.1
    have h8 : gi u 18 7 = nI i := nz.1.2.2.1
    have h4 : gi v 1 3 = nI i := nz.1.2.2.2.1
    refine ⟨x, y, u, v, ?_, ?_, q⟩
    · rw [fX11_clocks_L46, h8, if_pos (Int32.le_refl _)]
    · rw [fX12_clocks_L48, ck_t (by decide), ix_lit (by decide), h4, if_pos (Int32.le_refl _)]
  | succ k ih =>
    intro i f f' x y u v hi hf hf' q
    obtain ⟨f, rfl⟩ : ∃ m, f = m + 1 := ⟨f - 1, by omega⟩
    obtain ⟨f', rfl⟩ : ∃ m, f' = m + 1 := ⟨f' - 1, by omega⟩
    have nz := NW_k h.1 hn q.1 q.2.1
    have h8 : gi u 18 7 = nI np := nz.1.2.2.1
    have h4 : gi v 1 3 = nI np := nz.1.2.2.2.1
    obtain ⟨m, z, w', a1, a2, a3, a4, a5⟩ := clocks_it (n := n) (i := i) h hn q hk hd (by omega)
    rw [fX11_clocks_L46, fX12_clocks_L48]
    by_cases c2 : y ≤ gi w' 0 69
    · simp (disch := omega) only [↓ite_bind, ↓ck_bind, ↓lt_bind, ↓Option.bind_assoc, ↓bd_s, ↓lt_v, ↓ck_v, ↓reduceIte, Bool.false_eq_true, Bool.true_eq_false, nj_add, nj_addl, nj_addr, nj_mull, nj_mulr, nj_subr, nj_pred, ix_nI, ix_lit, inb_t, inb_l, nj_le_t, nj_le_f, nj_lel_t, nj_lel_f, nj_ler_t, nj_ler_f, nj_lt_t, nj_lt_f, nj_ltl_t, nj_ltl_f, nj_ltr_t, nj_ltr_f, nj_eq_t, nj_eq_f, nj_eqr_t, nj_eqr_f, nj_m1, nj_m2, Nat.zero_add, h8, h4, a1, a2, a3, a5, c2]
      exact ih (i + 1) f f' _ _ _ _ (by omega) (by omega) (by omega) a4
    · simp (disch := omega) only [↓ite_bind, ↓ck_bind, ↓lt_bind, ↓Option.bind_assoc, ↓bd_s, ↓lt_v, ↓ck_v, ↓reduceIte, Bool.false_eq_true, Bool.true_eq_false, nj_add, nj_addl, nj_addr, nj_mull, nj_mulr, nj_subr, nj_pred, ix_nI, ix_lit, inb_t, inb_l, nj_le_t, nj_le_f, nj_lel_t, nj_lel_f, nj_ler_t, nj_ler_f, nj_lt_t, nj_lt_f, nj_ltl_t, nj_ltl_f, nj_ltr_t, nj_ltr_f, nj_eq_t, nj_eq_f, nj_eqr_t, nj_eqr_f, nj_m1, nj_m2, Nat.zero_add, h8, h4, a1, a2, a3, a5, c2]
      exact ih (i + 1) f f' _ _ _ _ (by omega) (by omega) (by omega) a4
theorem clocks_ok {t : PH} {s s' : ST} {d : Nat} (h : INV t s s' d) (hd : d ≤ 600) (x p : Int32) : A2 t (d + 1) (fX11_clocks x p t s) (fX12_clocks x p s') := by
  obtain ⟨np, nm, R, n⟩ := IN0_nw h.1
  have hnp := n.1.1
  unfold fX11_clocks fX12_clocks
  rcases g_span n.1 x with ⟨c1, c2⟩ | ⟨k, k1, k2, rfl, k4, k5, k6⟩
  · refine ⟨-2, s, s', by rw [c1, bd_s, if_pos rfl, bd_s, if_pos rfl], ?_, INV_mono h (by omega)⟩
    rcases c2 with c2 | ⟨c2, c3⟩
    · rw [c2, bd_s, if_pos rfl, bd_s, if_pos rfl]
    · rw [c2, bd_s, if_neg n10, c3, bd_s, if_pos rfl, bd_s, if_pos rfl]
  rw [k4, k5, k6, bd_s, bd_s, bd_s, if_neg n10, if_neg n10, if_neg n10]
  rcases g_in p (l := 0) (h := 1) (a := 0) (b := 1) (show (0 : Int64) = _ from rfl) (show (1 : Int64) = _ from rfl) rfl rfl (by omega) (by omega) with ⟨c1, c2⟩ | ⟨j, j1, j2, rfl, j4⟩
  · refine ⟨-2, s, s', ?_, by rw [c1, bd_s, if_pos rfl, bd_s, if_pos rfl], INV_mono h (by omega)⟩
    rcases c2 with c2 | ⟨c2, c3, c4⟩
    · simp only [c2, if_true, bd_s]
    · simp only [c2, c4, if_true, bd_s, if_false]
  rw [j4, bd_s, if_neg n10, if_neg (nj_nn (by omega)), if_pos (show nI j ≤ (1 : Int32) by rw [nj_ler (by omega) (by decide)]; omega), bd_s, bd_s, if_neg nft, if_neg nft]
  obtain ⟨v, v1, v2⟩ := q_begin h
  obtain ⟨m, z, w', a1, a2, a3, a4, a5, a6⟩ := costs_ev (n := k) h n v2 (by omega) hd
  obtain ⟨x, y, u2, v3, b1, b2, b3⟩ := clocks_L (p := nI j) (n := k) h n hd (by omega) np 0 FUEL FUEL (-1) (gi w' 0 69) z w' (by omega) (by rw [FUEL_eq]; omega) (by rw [FUEL_eq]; omega) a4
  have b1 : fX11_clocks_L46 (nI k) (nI j) t FUEL (-1) (gi w' 0 69) 0 z = some (x, y, nI np, u2) := b1
  have b2 : fX12_clocks_L48 (nI k) (nI j) FUEL (-1) (gi w' 0 69) 0 w' = some (x, y, nI np, v3) := b2
  rw [v1, bd_s, a1, bd_s, a2, bd_s, lt_v, a5, b1, bd_s, a3, bd_s, b2, bd_s]
  have hj : j = 0 ∨ j = 1 := by omega
  rcases hj with rfl | rfl
  · refine ⟨x, u2, v3, ?_, ?_, q_end h b3⟩ <;> rw [if_pos (show nI 0 = 0 from rfl), bd_s]
  · refine ⟨y, u2, v3, ?_, ?_, q_end h b3⟩ <;> rw [if_neg (show ¬ nI 1 = 0 by decide), bd_s]
