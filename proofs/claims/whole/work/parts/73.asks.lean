/-! QUESTIONS -/
def QS (s s' u v : ST) : Prop := kN u = kN s ∧ kR v = kR s' ∧ SvK s' v ∧ gi v 0 56 = -1 ∧ gi v 0 57 = -1 ∧ gi v 0 63 = 0
theorem q_begin {t : PH} {s s' : ST} {d : Nat} (h : INV t s s' d) : ∃ v, fX12_keepsAll s' = some v ∧ QS s s' s v := by
  obtain ⟨v, a1, a2, a3, a4, a5⟩ := keeps_ev s'
  exact ⟨v, a1, rfl, a2, a3, by rw [a4 _ (by decide) (by decide)]; exact h.2.1, by rw [a4 _ (by decide) (by decide)]; exact h.2.2.1, by rw [a4 _ (by decide) (by decide)]; exact h.2.2.2⟩
theorem q_end {t : PH} {s s' u v : ST} {d : Nat} (h : INV t s s' d) (q : QS s s' u v) : INV t u v (d + 1) := INV_k q.1 q.2.1 (by omega) h q.2.2.2.1 q.2.2.2.2.1 q.2.2.2.2.2
theorem CRs_base {t : PH} {u v : ST} {d np nm R : Nat} {p : Option Nat} (nz : NW t u v d np nm R) (p3 : (p = none ∧ gi v 1 12 = -1) ∨ ∃ q r, p = some q ∧ gi v 1 12 = nI r ∧ RlS t (gi u) (gi v) q r) (f56 : gi v 0 56 = -1) (f57 : gi v 0 57 = -1) (f63 : gi v 0 63 = 0) : CRs t (stS p u) v np nm d := by
  obtain ⟨s7, s8, s9, s10, s13, s15, s16, s17⟩ := stS_30 (p := p) (u := u)
  have := nz.1.1
  have := nz.1.2.1
  exact CRs_of nz p3 stS_mr.1 stS_mr.2 (fun a j h1 h2 h3 _ => stS_o ⟨h1, h2, h3⟩ j) (fun _ _ _ => rfl) (s7.trans nz.1.2.2.2.2.2.2.2.2.2.1) (s8.trans nz.1.2.2.2.2.2.2.2.2.2.2.1)
    (fun q hq => by
      rw [stS_41 (by omega)]
      obtain ⟨q1, q2, q3⟩ := nz.1.2.2.2.2.2.2.2.2.2.2.2.2.2.1 q hq
      exact ⟨q1, q2⟩) (s9.trans f56.symm) (s10.trans f57.symm) (fun e => absurd f57 e) (s13.trans f63.symm)
    (fun j hj => by rw [stS_32 (by unfold vis at hj; omega)]; exact nz.2.1 j hj) nz.2.2.1 (fun e => absurd f63 e)
/-- n days from now -/
theorem q_days {t : PH} {s s' u v : ST} {d np nm R n : Nat} (h : INV t s s' d) (hn : NW t s s' d np nm R) (q : QS s s' u v) (hk : n ≤ 100) (hd : d ≤ 600) :
    ∃ m z z' w', fX11_startFromNow t u = some m ∧ fX0_goDays (nI n) t m = some z ∧ fX12_goes (nI n) v = some z' ∧ fX12_laysBack z' = some w' ∧ QS s s' z w' ∧ gi z 30 15 = gi w' 0 71 ∧ gi z 30 16 = gi w' 0 69 ∧ gi z 30 17 = gi w' 0 70 ∧ SR np nm (z.1 32) (lv z') ∧ (0 < n → DYl np nm m z w') ∧ gi m 30 9 = -1 := by
  have nz := NW_k h.1 hn q.1 q.2.1
  obtain ⟨p, p1, p2, p3⟩ := rule_ev nz
  obtain ⟨s7, s8, s9, s10, s13, s15, s16, s17⟩ := stS_30 (p := p) (u := u)
  obtain ⟨z, z', w', a1, a2, a3, a4, a5, a6, a7, a8, a9, a10, a11, a12, a13, a14, -⟩ := iter (s := s) (s' := s') (n := n) hk (by omega) (CRs_base nz p3 q.2.2.2.1 q.2.2.2.2.1 q.2.2.2.2.2) s15 s16 s17 (stS_kN.trans q.1) (kQ_kR q.2.1) q.2.2.1
  exact ⟨_, z, z', w', start_eq p1 p2, a1, a2, a3, ⟨a4, a5, a6, by rw [a10 _ (by omega)]; exact q.2.2.2.1, by rw [a10 _ (by omega)]; exact q.2.2.2.2.1, by rw [a10 _ (by omega)]; exact q.2.2.2.2.2⟩, a7, a8, a9, a14.2.1, a13, s9⟩
theorem q_day {t : PH} {s s' u v : ST} {d np nm R : Nat} (h : INV t s s' d) (hn : NW t s s' d np nm R) (q : QS s s' u v) (hd : d ≤ 600) :
    ∃ m z z' w', fX11_startFromNow t u = some m ∧ fX0_goDay t m = some z ∧ fX12_goes 1 v = some z' ∧ fX12_laysBack z' = some w' ∧ QS s s' z w' ∧ (∀ q, q < np → gi z 39 q = gi w' 37 q) ∧ ∀ m, m < nm → Bk z w' m := by
  have nz := NW_k h.1 hn q.1 q.2.1
  obtain ⟨p, p1, p2, p3⟩ := rule_ev nz
  obtain ⟨s7, s8, s9, s10, s13, s15, s16, s17⟩ := stS_30 (p := p) (u := u)
  obtain ⟨z, z', w', a1, a2, a3, a4, a5, a6, a7, a8, a9, a10, a11, a12, a13, a14⟩ := iter1 (s := s) (s' := s') (by omega) (CRs_base nz p3 q.2.2.2.1 q.2.2.2.2.1 q.2.2.2.2.2) s15 s16 s17 (stS_kN.trans q.1) (kQ_kR q.2.1) q.2.2.1
  have := nz.1.2.1
  exact ⟨_, z, z', w', start_eq p1 p2, a1, a2, a3, ⟨a4, a5, a6, by rw [a10 _ (by omega)]; exact q.2.2.2.1, by rw [a10 _ (by omega)]; exact q.2.2.2.2.1, by rw [a10 _ (by omega)]; exact q.2.2.2.2.2⟩, a13, fun m hm => a14 m hm (by rw [s9]; intro e; exact absurd e (nj_nm (by omega) (by decide) (by decide)))⟩
theorem ahead_ok {t : PH} {s s' : ST} {d : Nat} (h : INV t s s' d) (hd : d ≤ 600) (p x w : Int32) : A2 t (d + 1) (fX11_ahead p x w t s) (fX12_ahead p x w s') := by
  obtain ⟨np, nm, R, n⟩ := IN0_nw h.1
  have hnp := n.1.1
  unfold fX11_ahead fX12_ahead
  rcases g_pers n.1.2.2.1 n.1.2.2.2.1 n.1.1 p with ⟨a, b⟩ | ⟨q, hq, rfl, a, b⟩
  · exact ⟨-1000, s, s', by rw [a, bd_s, if_pos rfl, bd_s, if_pos rfl], by rw [b, bd_s, if_pos rfl, bd_s, if_pos rfl], INV_mono h (by omega)⟩
  rw [a, b, bd_s, bd_s, if_neg n10, if_neg n10]
  rcases g_in x (l := 0) (h := 100) (a := 0) (b := 100) (show (0 : Int64) = _ from rfl) (show (100 : Int64) = _ from rfl) rfl rfl (by omega) (by omega) with ⟨c1, c2⟩ | ⟨k, k1, k2, rfl, k4⟩
  · refine ⟨-1000, s, s', ?_, by rw [c1, bd_s, if_pos rfl, bd_s, if_pos rfl], INV_mono h (by omega)⟩
    rcases c2 with c2 | ⟨c2, c3, c4⟩
    · simp only [c2, if_true, bd_s]
    · simp only [c2, c3, if_true, bd_s, if_false]
  rw [k4, bd_s, if_neg n10, if_neg (nj_nn (by omega)), if_neg (show ¬ (100 : Int32) < nI k by rw [nj_ltl (by decide) (by omega)]; omega)]
  rcases g_in w (l := 0) (h := 2) (a := 0) (b := 2) (show (0 : Int64) = _ from rfl) (show (2 : Int64) = _ from rfl) rfl rfl (by omega) (by omega) with ⟨c1, c2⟩ | ⟨j, j1, j2, rfl, j4⟩
  · refine ⟨-1000, s, s', ?_, by rw [c1, bd_s, if_pos rfl, bd_s, if_pos rfl], INV_mono h (by omega)⟩
    rcases c2 with c2 | ⟨c2, c3, c4⟩
    · simp only [c2, if_true, bd_s]
    · simp only [c2, c4, if_true, bd_s, if_false]
  rw [j4, bd_s, if_neg n10, if_neg (nj_nn (by omega)), if_pos (show nI j ≤ (2 : Int32) by rw [nj_ler (by omega) (by decide)]; omega), bd_s, bd_s, if_neg nft, if_neg nft]
  obtain ⟨v, v1, v2⟩ := q_begin h
  obtain ⟨m, z, z', w', a1, a2, a3, a4, a5, a6, a7, a8, a9, a10⟩ := q_days h n v2 k2 hd
  rw [v1, bd_s, a1, bd_s, a2, bd_s, a3, bd_s]
  have e0 : gi z 32 q = gi z' 3 q := by rw [lv_clock _ (by omega)]; exact a9 _ (by unfold vis; omega)
  have e1 : gi z 32 (10 + q) = gi z' 5 q := by rw [lv_fined _ (by omega)]; exact a9 _ (by unfold vis; omega)
  have e2 : gi z 32 (15 + q) = gi z' 6 q := by rw [lv_waited _ (by omega)]; exact a9 _ (by unfold vis; omega)
  have hj : j = 0 ∨ j = 1 ∨ j = 2 := by omega
  rcases hj with rfl | rfl | rfl
  · refine ⟨gi z' 3 q, z, w', ?_, ?_, q_end h a5⟩
    · rw [if_pos (show nI 0 = 0 from rfl), nj_addl, Nat.zero_add, ck_t (inb_t (by omega) (by omega)), ix_nI (by omega), e0]
    · rw [if_pos (show nI 0 = 0 from rfl), ck_t (inb_t (by omega) (by omega)), bd_s, a4, bd_s, ix_nI (by omega)]
  · refine ⟨gi z' 5 q, z, w', ?_, ?_, q_end h a5⟩
    · rw [if_neg (show ¬ nI 1 = 0 by decide), if_pos (show nI 1 = 1 from rfl), nj_addl, ck_t (inb_t (by omega) (by omega)), ix_nI (by omega), e1]
    · rw [if_neg (show ¬ nI 1 = 0 by decide), if_pos (show nI 1 = 1 from rfl), ck_t (inb_t (by omega) (by omega)), bd_s, a4, bd_s, ix_nI (by omega)]
  · refine ⟨gi z' 6 q, z, w', ?_, ?_, q_end h a5⟩
    · rw [if_neg (show ¬ nI 2 = 0 by decide), if_neg (show ¬ nI 2 = 1 by decide), nj_addl, ck_t (inb_t (by omega) (by omega)), ix_nI (by omega), e2]
    · rw [if_neg (show ¬ nI 2 = 0 by decide), if_neg (show ¬ nI 2 = 1 by decide), ck_t (inb_t (by omega) (by omega)), bd_s, a4, bd_s, ix_nI (by omega)]
theorem looks_ev {t : PH} {s s' : ST} {d np nm R : Nat} (h : INV t s s' d) (hn : NW t s s' d np nm R) (hd : d ≤ 600) :
    ∃ m z w', fX11_startFromNow t s = some m ∧ fX0_goDay t m = some z ∧ fX12_looksToday s' = some w' ∧ QS s s' z w' ∧ (∀ q, q < np → gi z 39 q = gi w' 37 q) ∧ ∀ m, m < nm → Bk z w' m := by
  obtain ⟨v, v1, v2⟩ := q_begin h
  obtain ⟨m, z, z', w', a1, a2, a3, a4, a5, a6, a7⟩ := q_day h hn v2 hd
  refine ⟨m, z, w', a1, a2, ?_, a5, a6, a7⟩
  unfold fX12_looksToday
  rw [v1, bd_s, a3, bd_s, a4, bd_s]
theorem today_ok {t : PH} {s s' : ST} {d : Nat} (h : INV t s s' d) (hd : d ≤ 600) (p w : Int32) : A2 t (d + 1) (fX11_today p w t s) (fX12_today p w s') := by
  obtain ⟨np, nm, R, n⟩ := IN0_nw h.1
  have hnm := n.1.2.1
  unfold fX11_today fX12_today
  rcases g_meet n.1.2.2.2.2.1 n.1.2.2.2.2.2.1 n.1.2.1 p with ⟨a, b⟩ | ⟨q, hq, rfl, a, b⟩
  · exact ⟨-1000, s, s', by rw [a, bd_s, if_pos rfl, bd_s, if_pos rfl], by rw [b, bd_s, if_pos rfl, bd_s, if_pos rfl], INV_mono h (by omega)⟩
  rw [a, b, bd_s, bd_s, if_neg n10, if_neg n10]
  rcases g_in w (l := 0) (h := 3) (a := 0) (b := 3) (show (0 : Int64) = _ from rfl) (show (3 : Int64) = _ from rfl) rfl rfl (by omega) (by omega) with ⟨c1, c2⟩ | ⟨j, j1, j2, rfl, j4⟩
  · refine ⟨-1000, s, s', ?_, by rw [c1, bd_s, if_pos rfl, bd_s, if_pos rfl], INV_mono h (by omega)⟩
    rcases c2 with c2 | ⟨c2, c3, c4⟩
    · simp only [c2, if_true, bd_s]
    · simp only [c2, c4, if_true, bd_s, if_false]
  rw [j4, bd_s, if_neg n10, if_neg (nj_nn (by omega)), if_pos (show nI j ≤ (3 : Int32) by rw [nj_ler (by omega) (by decide)]; omega), bd_s, bd_s, if_neg nft, if_neg nft]
  obtain ⟨m, z, w', a1, a2, a3, a5, a6, a7⟩ := looks_ev h n hd
  rw [a1, bd_s, a2, bd_s, a3, bd_s]
  obtain ⟨b1, b2, b3, b4, b5, b6⟩ := a7 q hq
  have hj : j = 0 ∨ j = 1 ∨ j = 2 ∨ j = 3 := by omega
  rcases hj with rfl | rfl | rfl | rfl
  · refine ⟨gi w' 40 q, z, w', ?_, ?_, q_end h a5⟩
    · rw [if_pos (show nI 0 = 0 from rfl), ck_t (inb_t (by omega) (by omega)), ix_nI (by omega), b1]
    · rw [if_pos (show nI 0 = 0 from rfl), ck_t (inb_t (by omega) (by omega)), bd_s, ix_nI (by omega)]
  · refine ⟨gi w' 41 q, z, w', ?_, ?_, q_end h a5⟩
    · rw [if_neg (show ¬ nI 1 = 0 by decide), if_pos (show nI 1 = 1 from rfl), nj_mull, ck_t (inb_t (by omega) (by omega)), ix_nI (by omega), b2]
    · rw [if_neg (show ¬ nI 1 = 0 by decide), if_pos (show nI 1 = 1 from rfl), ck_t (inb_t (by omega) (by omega)), bd_s, ix_nI (by omega)]
  · refine ⟨gi w' 42 q, z, w', ?_, ?_, q_end h a5⟩
    · rw [if_neg (show ¬ nI 2 = 0 by decide), if_neg (show ¬ nI 2 = 1 by decide), if_pos (show nI 2 = 2 from rfl), nj_mull, nj_addr, ck_t (inb_t (by omega) (by omega)), ix_nI (by omega), b3]
    · rw [if_neg (show ¬ nI 2 = 0 by decide), if_neg (show ¬ nI 2 = 1 by decide), if_pos (show nI 2 = 2 from rfl), ck_t (inb_t (by omega) (by omega)), bd_s, ix_nI (by omega)]
  · refine ⟨gi w' 43 q, z, w', ?_, ?_, q_end h a5⟩
    · rw [if_neg (show ¬ nI 3 = 0 by decide), if_neg (show ¬ nI 3 = 1 by decide), if_neg (show ¬ nI 3 = 2 by decide), ck_t (inb_t (by omega) (by omega)), ix_nI (by omega), b4]
    · rw [if_neg (show ¬ nI 3 = 0 by decide), if_neg (show ¬ nI 3 = 1 by decide), if_neg (show ¬ nI 3 = 2 by decide), ck_t (inb_t (by omega) (by omega)), bd_s, ix_nI (by omega)]
theorem ends_ok {t : PH} {s s' : ST} {d : Nat} (h : INV t s s' d) (hd : d ≤ 600) (p : Int32) : A2 t (d + 1) (fX11_ends p t s) (fX12_ends p s') := by
  obtain ⟨np, nm, R, n⟩ := IN0_nw h.1
  have hnp := n.1.1
  unfold fX11_ends fX12_ends
  rcases g_pers n.1.2.2.1 n.1.2.2.2.1 n.1.1 p with ⟨a, b⟩ | ⟨q, hq, rfl, a, b⟩
  · exact ⟨-1000, s, s', by rw [a, bd_s, if_pos rfl], by rw [b, bd_s, if_pos rfl], INV_mono h (by omega)⟩
  rw [a, b, bd_s, bd_s, if_neg n10, if_neg n10]
  obtain ⟨m, z, w', a1, a2, a3, a5, a6, a7⟩ := looks_ev h n hd
  have nz := NW_k h.1 n (rfl : kN s = kN s) a5.2.1
  obtain ⟨y, y1, y2⟩ := mo_ev nz.1 q
  rw [a3, bd_s, y1, y2, bd_s, bd_s]
  by_cases c : y = 0
  · refine ⟨-1, s, w', by rw [if_pos c], by rw [if_pos c, bd_s], INV_k rfl a5.2.1 (by omega) h a5.2.2.2.1 a5.2.2.2.2.1 a5.2.2.2.2.2⟩
  · refine ⟨gi w' 37 q, z, w', ?_, ?_, q_end h a5⟩
    · rw [if_neg c, a1, bd_s, a2, bd_s, ck_t (inb_t (by omega) (by omega)), ix_nI (by omega), a6 q hq]
    · rw [if_neg c, ck_t (inb_t (by omega) (by omega)), bd_s, ix_nI (by omega)]
theorem chain_L {t : PH} {z w' : ST} {np nm : Nat} {p : Int32} (ht : TwR (gi z) (gi w') 18 np nm) (he : ∀ q, q < np → gi z 39 q = gi w' 37 q) : ∀ (k i f f' : Nat) (x y x' : Int32), i + k = np → k < f → k < f' → (x = -1 ∧ y = -1 ∧ x' = -1 ∨ ∃ b, b < np ∧ x = nI b ∧ x' = nI b ∧ y = gi w' 37 b) →
    ∃ a y2, fX11_chain_L44 p t f x y (nI i) z = some (a, y2, nI np) ∧ fX12_chain_L29 p f' x' (nI i) w' = some (a, nI np) ∧ (a = -1 ∧ y2 = -1 ∨ ∃ b, b < np ∧ a = nI b ∧ y2 = gi w' 37 b) := by
  have hnp := ht.1
  have h7 : gi z 18 7 = nI np := ht.2.2.1
  have h3 : gi w' 1 3 = nI np := ht.2.2.2.1
  intro k
  induction k with
  | zero =>
    intro i f f' x y x' hi hf hf' hx
    obtain ⟨f, rfl⟩ : ∃ m, f = m + 1 := ⟨f - 1, by omega⟩
    obtain ⟨f', rfl⟩ : ∃ m, f' = m + 1 := ⟨f' - 1, by omega⟩
    obtain rfl : i = np := by omega
    have hx2 : x' = x ∧ (x = -1 ∧ y = -1 ∨ ∃ b, b < i ∧ x = nI b ∧ y = gi w' 37 b) := by
      rcases hx with ⟨e1, e2, e3⟩ | ⟨b, e1, e2, e3, e4⟩
      · exact ⟨by rw [e1, e3], Or.inl ⟨e1, e2⟩⟩
      · exact ⟨by rw [e2, e3], Or.inr ⟨b, e1, e2, e4⟩⟩
    refine ⟨x, y, ?_, ?_, hx2.2⟩
    · rw [fX11_chain_L44, h7, if_pos (Int32.le_refl _)]
    · rw [fX12_chain_L29, ck_t (by decide), ix_lit (by decide), h3, if_pos (Int32.le_refl _), hx2.1]
  | succ k ih =>
    intro i f f' x y x' hi hf hf' hx
    obtain ⟨f, rfl⟩ : ∃ m, f = m + 1 := ⟨f - 1, by omega⟩
    obtain ⟨f', rfl⟩ : ∃ m, f' = m + 1 := ⟨f' - 1, by omega⟩
    obtain ⟨g, g1, g2⟩ := mo_ev ht i
    have hei := he i (by omega)
    rw [fX11_chain_L44, fX12_chain_L29]
    by_cases c : g = 0
    · simp (disch := omega) only [↓ite_bind, ↓ck_bind, ↓lt_bind, ↓Option.bind_assoc, ↓bd_s, ↓lt_v, ↓ck_v, ↓reduceIte, Bool.false_eq_true, Bool.true_eq_false, nj_add, nj_addl, nj_addr, nj_mull, nj_mulr, nj_subr, nj_pred, ix_nI, ix_lit, inb_t, inb_l, nj_le_t, nj_le_f, nj_lel_t, nj_lel_f, nj_ler_t, nj_ler_f, nj_lt_t, nj_lt_f, nj_ltl_t, nj_ltl_f, nj_ltr_t, nj_ltr_f, nj_eq_t, nj_eq_f, nj_eqr_t, nj_eqr_f, nj_m1, nj_m2, h7, h3, g1, g2, c]
      exact ih (i + 1) f f' x y x' (by omega) (by omega) (by omega) hx
    · rcases hx with ⟨e1, e2, e3⟩ | ⟨b, e1, e2, e3, e4⟩
      · simp (disch := omega) only [↓ite_bind, ↓ck_bind, ↓lt_bind, ↓Option.bind_assoc, ↓bd_s, ↓lt_v, ↓ck_v, ↓reduceIte, Bool.false_eq_true, Bool.true_eq_false, nj_add, nj_addl, nj_addr, nj_mull, nj_mulr, nj_subr, nj_pred, ix_nI, ix_lit, inb_t, inb_l, nj_le_t, nj_le_f, nj_lel_t, nj_lel_f, nj_ler_t, nj_ler_f, nj_lt_t, nj_lt_f, nj_ltl_t, nj_ltl_f, nj_ltr_t, nj_ltr_f, nj_eq_t, nj_eq_f, nj_eqr_t, nj_eqr_f, nj_m1, nj_m2, h7, h3, g1, g2, c, e1, e3, hei]
        exact ih (i + 1) f f' (nI i) _ (nI i) (by omega) (by omega) (by omega) (Or.inr ⟨i, by omega, rfl, rfl, rfl⟩)
      · by_cases c2 : gi w' 37 i ≤ gi w' 37 b
        · simp (disch := omega) only [↓ite_bind, ↓ck_bind, ↓lt_bind, ↓Option.bind_assoc, ↓bd_s, ↓lt_v, ↓ck_v, ↓reduceIte, Bool.false_eq_true, Bool.true_eq_false, nj_add, nj_addl, nj_addr, nj_mull, nj_mulr, nj_subr, nj_pred, ix_nI, ix_lit, inb_t, inb_l, nj_le_t, nj_le_f, nj_lel_t, nj_lel_f, nj_ler_t, nj_ler_f, nj_lt_t, nj_lt_f, nj_ltl_t, nj_ltl_f, nj_ltr_t, nj_ltr_f, nj_eq_t, nj_eq_f, nj_eqr_t, nj_eqr_f, nj_m1, nj_m2, h7, h3, g1, g2, c, e2, e3, e4, hei, c2]
          exact ih (i + 1) f f' (nI b) _ (nI b) (by omega) (by omega) (by omega) (Or.inr ⟨b, e1, rfl, rfl, rfl⟩)
        · simp (disch := omega) only [↓ite_bind, ↓ck_bind, ↓lt_bind, ↓Option.bind_assoc, ↓bd_s, ↓lt_v, ↓ck_v, ↓reduceIte, Bool.false_eq_true, Bool.true_eq_false, nj_add, nj_addl, nj_addr, nj_mull, nj_mulr, nj_subr, nj_pred, ix_nI, ix_lit, inb_t, inb_l, nj_le_t, nj_le_f, nj_lel_t, nj_lel_f, nj_ler_t, nj_ler_f, nj_lt_t, nj_lt_f, nj_ltl_t, nj_ltl_f, nj_ltr_t, nj_ltr_f, nj_eq_t, nj_eq_f, nj_eqr_t, nj_eqr_f, nj_m1, nj_m2, h7, h3, g1, g2, c, e2, e3, e4, hei, c2]
          exact ih (i + 1) f f' (nI i) _ (nI i) (by omega) (by omega) (by omega) (Or.inr ⟨i, by omega, rfl, rfl, rfl⟩)
theorem chain_ok {t : PH} {s s' : ST} {d : Nat} (h : INV t s s' d) (hd : d ≤ 600) (p : Int32) : A2 t (d + 1) (fX11_chain p t s) (fX12_chain p s') := by
  obtain ⟨np, nm, R, n⟩ := IN0_nw h.1
  have hnp := n.1.1
  unfold fX11_chain fX12_chain
  rcases g_town n.1 with ⟨a, b⟩ | ⟨a, b⟩
  · exact ⟨-1000, s, s', by rw [if_pos a, bd_s, if_pos rfl], by rw [b, bd_s, if_pos rfl, bd_s, if_pos rfl], INV_mono h (by omega)⟩
  rw [b, bd_s, if_neg n10, if_neg (show ¬ gi s 18 0 = 0 by rw [a]; decide)]
  rcases g_in p (l := 0) (h := 1) (a := 0) (b := 1) (show (0 : Int64) = _ from rfl) (show (1 : Int64) = _ from rfl) rfl rfl (by omega) (by omega) with ⟨c1, c2⟩ | ⟨j, j1, j2, rfl, j4⟩
  · refine ⟨-1000, s, s', ?_, by rw [c1, bd_s, if_pos rfl, bd_s, if_pos rfl], INV_mono h (by omega)⟩
    rcases c2 with c2 | ⟨c2, c3, c4⟩
    · simp only [c2, if_true, bd_s]
    · simp only [c2, c4, if_true, bd_s, if_false]
  rw [j4, bd_s, if_neg n10, if_neg (nj_nn (by omega)), if_pos (show nI j ≤ (1 : Int32) by rw [nj_ler (by omega) (by decide)]; omega), bd_s, bd_s, if_neg nft, if_neg nft]
  obtain ⟨m, z, w', a1, a2, a3, a5, a6, a7⟩ := looks_ev h n hd
  have nz := NW_k h.1 n a5.1 a5.2.1
  obtain ⟨x, y, x1, x2, x3⟩ := chain_L (t := t) (p := nI j) nz.1 a6 np 0 FUEL FUEL (-1) (-1) (-1) (by omega) (by rw [FUEL_eq]; omega) (by rw [FUEL_eq]; omega) (Or.inl ⟨rfl, rfl, rfl⟩)
  rw [a1, bd_s, a2, bd_s, a3, bd_s, show fX11_chain_L44 (nI j) t FUEL (-1) (-1) 0 z = fX11_chain_L44 (nI j) t FUEL (-1) (-1) (nI 0) z from rfl, x1, bd_s, show fX12_chain_L29 (nI j) FUEL (-1) 0 w' = fX12_chain_L29 (nI j) FUEL (-1) (nI 0) w' from rfl, x2, bd_s]
  have hj : j = 0 ∨ j = 1 := by omega
  rcases hj with rfl | rfl
  · refine ⟨x, z, w', ?_, ?_, q_end h a5⟩
    · rw [if_pos (show nI 0 = 0 from rfl), bd_s]
    · by_cases c : x = -1
      · simp only [c, if_true, bd_s]
      · simp only [c, if_false, show (nI 0 = 0) = True from eq_true rfl, if_true, bd_s]
  · refine ⟨y, z, w', ?_, ?_, q_end h a5⟩
    · rw [if_neg (show ¬ nI 1 = 0 by decide), bd_s]
    · rcases x3 with ⟨e1, e2⟩ | ⟨b, e1, e2, e3⟩
      · simp only [e1, e2, if_true, bd_s]
      · have hb0 : ¬ nI b = -1 := nj_nm (by omega) (by decide) (by decide)
        simp only [e2, hb0, if_false, show (nI 1 = 0) = False from eq_false (by decide), bd_s, Bool.false_eq_true]
        rw [ck_t (inb_t (by omega) (by omega)), bd_s, ix_nI (by omega), e3]
