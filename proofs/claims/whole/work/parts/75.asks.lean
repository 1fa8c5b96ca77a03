/-! PARDON, YEARS, LAW -/
theorem or_bit {x y : Int32} {n : Nat} (hn : n < 32) (hy : (y &&& 31).toBitVec.smod 32 = BitVec.ofNat 32 n) (h : ((x >>> (y &&& 31)) &&& 1) = 1) : x ||| (1 <<< (y &&& 31)) = x := by
  have hN : (BitVec.ofNat 32 n).toNat = n := by rw [BitVec.toNat_ofNat]; omega
  have h1 := congrArg Int32.toBitVec h
  rw [Int32.toBitVec_and, Int32.toBitVec_shiftRight, hy, BitVec.sshiftRight_eq', hN] at h1
  have h2 := congrArg (fun b => b.getLsbD 0) h1
  simp only [BitVec.getLsbD_and, BitVec.getLsbD_sshiftRight] at h2
  have h3 : x.toBitVec.getLsbD n = true := by
    have e1 : (Int32.toBitVec 1).getLsbD 0 = true := by decide
    rw [e1, Bool.and_true] at h2
    simpa [hn] using h2
  apply Int32.toBitVec_inj.mp
  rw [Int32.toBitVec_or, Int32.toBitVec_shiftLeft, hy, BitVec.shiftLeft_eq', hN]
  apply BitVec.eq_of_getLsbD_eq
  intro i hi
  rw [BitVec.getLsbD_or, BitVec.getLsbD_shiftLeft]
  by_cases e : i = n
  · rw [e, h3, Bool.true_or]
  · by_cases e2 : i < n
    · simp [e2]
    · have : (Int32.toBitVec 1).getLsbD (i - n) = false := by
        show (1#32).getLsbD (i - n) = false
        rw [BitVec.getLsbD_one]
        simp
        omega
      rw [this, Bool.and_false, Bool.or_false]
theorem ex_or {x : Int32} {q : Nat} (hq : q < 5) (h : exB x q = true) : x ||| (1 <<< (nI q &&& 31)) = x := by
  have h : ((x >>> (nI q &&& 31)) &&& 1) = 1 := of_decide_eq_true h
  have : q = 0 ∨ q = 1 ∨ q = 2 ∨ q = 3 ∨ q = 4 := by omega
  rcases this with rfl | rfl | rfl | rfl | rfl
  · exact or_bit (n := 0) (by omega) (by decide) h
  · exact or_bit (n := 1) (by omega) (by decide) h
  · exact or_bit (n := 2) (by omega) (by decide) h
  · exact or_bit (n := 3) (by omega) (by decide) h
  · exact or_bit (n := 4) (by omega) (by decide) h
theorem CRs_ex {t : PH} {u v : ST} {d np nm R : Nat} {p : Option Nat} {x : Int32} (nz : NW t u v d np nm R) (p3 : RlP t u v p) (f56 : gi v 0 56 = -1) (f57 : gi v 0 57 = -1) (f63 : gi v 0 63 = 0) : CRs t (si (stS p u) 32 44 x) (si v 1 8 x) np nm d := by
  obtain ⟨s7, s8, s9, s10, s13, s15, s16, s17⟩ := stS_30 (p := p) (u := u)
  have := nz.1.1
  have := nz.1.2.1
  have el : lv (si v 1 8 x) = upd (lv v) 44 x := lv_si8 _
  refine CRs_of nz p3 (by rw [mr_si]; exact stS_mr.1) (by rw [mr_si]; exact stS_mr.2) (fun a j h1 h2 h3 _ => by rw [gi_ne h2]; exact stS_o ⟨h1, h2, h3⟩ j) (fun a j hh => si_x _ _ (by omega)) (by rw [gi_ne (by decide), gi_dif (by decide)]; exact s7.trans nz.1.2.2.2.2.2.2.2.2.2.1) (by rw [gi_ne (by decide), gi_dif (by decide)]; exact s8.trans nz.1.2.2.2.2.2.2.2.2.2.2.1)
    (fun q hq => by
      rw [gi_ne (by decide), gi_ne (by decide), stS_41 (by omega)]
      obtain ⟨q1, q2, q3⟩ := nz.1.2.2.2.2.2.2.2.2.2.2.2.2.2.1 q hq
      exact ⟨q1, q2⟩) (by rw [gi_ne (by decide), gi_ne (by decide)]; exact s9.trans f56.symm) (by rw [gi_ne (by decide), gi_ne (by decide)]; exact s10.trans f57.symm) (fun e => absurd (by rw [gi_ne (by decide)]; exact f57) e) (by rw [gi_ne (by decide), gi_ne (by decide)]; exact s13.trans f63.symm)
    (fun j hj => ?_) ⟨fun q hq => ?_, fun q hq => ?_, ?_⟩ (fun e => absurd (by rw [gi_ne (by decide)]; exact f63) e)
  · rw [el, upd_eq, show (si (stS p u) 32 44 x).1 32 j = gi (si (stS p u) 32 44 x) 32 j from rfl, gi_si, if_pos rfl]
    by_cases e : j = 44
    · rw [if_pos e, if_pos e]
    · rw [if_neg e, if_neg e]
      exact (stS_32 (by unfold vis at hj; omega)).trans (nz.2.1 j hj)
  · rw [el, upd_eq, if_neg (by omega)]; exact nz.2.2.1.1 q hq
  · rw [el, upd_eq, if_neg (by omega)]; exact nz.2.2.1.2.1 q hq
  · obtain ⟨y, y1, y2⟩ := nz.2.2.1.2.2
    exact ⟨y, y1, by rw [el, upd_eq, if_neg (by omega)]; exact y2⟩
theorem pardon_it {t : PH} {s s' u v : ST} {d np nm R n : Nat} (h : INV t s s' d) (hn : NW t s s' d np nm R) (q : QS s s' u v) (hk : n ≤ 100) (hd : d ≤ 600) (x : Int32) :
    ∃ m z w', fX11_startFromNow t u = some m ∧ gi m 32 44 = gi v 1 8 ∧ fX0_goDays (nI n) t (si m 32 44 x) = some z ∧ fX12_costsOf (nI n) (si v 1 8 x) = some (gi w' 0 69, w') ∧ QS s s' z w' ∧ gi z 30 17 = gi w' 0 70 := by
  have nz := NW_k h.1 hn q.1 q.2.1
  obtain ⟨p, p1, p2, p3⟩ := rule_ev nz
  obtain ⟨s7, s8, s9, s10, s13, s15, s16, s17⟩ := stS_30 (p := p) (u := u)
  obtain ⟨z, z', w', a1, a2, a3, a4, a5, a6, a7, a8, a9, a10, a11, a12, a13, -⟩ := iter (s := s) (s' := s') (n := n) hk (by omega) (CRs_ex (x := x) nz p3 q.2.2.2.1 q.2.2.2.2.1 q.2.2.2.2.2) (by rw [gi_ne (by decide)]; exact s15) (by rw [gi_ne (by decide)]; exact s16) (by rw [gi_ne (by decide)]; exact s17) ((kN_si (by omega)).trans (stS_kN.trans q.1)) ((kQ_si rfl).trans (kQ_kR q.2.1)) (SvK_si q.2.2.1 (by decide))
  refine ⟨_, z, w', start_eq p1 p2, (stS_32 (by omega)).trans (nz.2.1 44 (by unfold vis; omega)), a1, ?_, ⟨a4, a5, a6, ?_, ?_, ?_⟩, a9⟩
  · unfold fX12_costsOf
    rw [a2, bd_s, a3, bd_s]
  · rw [a10 _ (by omega), gi_ne (by decide)]; exact q.2.2.2.1
  · rw [a10 _ (by omega), gi_ne (by decide)]; exact q.2.2.2.2.1
  · rw [a10 _ (by omega), gi_ne (by decide)]; exact q.2.2.2.2.2
/-- a second course of the class beside the same one of the reference -/
theorem pardon_same {t : PH} {s s' u v w0 : ST} {d np nm R n : Nat} {x : Int32} (h : INV t s s' d) (hn : NW t s s' d np nm R) (q : QS s s' u v) (hk : n ≤ 100) (hd : d ≤ 600) (hw : fX12_costsOf (nI n) v = some (gi w0 0 69, w0)) (hx : x = gi v 1 8) :
    ∃ m z, fX11_startFromNow t u = some m ∧ gi m 32 44 = gi v 1 8 ∧ fX0_goDays (nI n) t (si m 32 44 x) = some z ∧ kN z = kN s ∧ gi z 30 17 = gi w0 0 70 := by
  obtain ⟨m, z, w', a1, a2, a3, a4, a5, a6⟩ := pardon_it (n := n) h hn q hk hd x
  rw [hx, si_self v 1 8, hw] at a4
  obtain ⟨-, e⟩ := Prod.mk.inj (Option.some.inj a4)
  subst e
  exact ⟨m, z, a1, a2, a3, a5.1, a6⟩
theorem pardon_L {t : PH} {s s' v0 w0 : ST} {d np nm R n : Nat} {p : Int32} (h : INV t s s' d) (hn : NW t s s' d np nm R) (hd : d ≤ 600) (hk : n ≤ 100) (hv0 : ∀ u, kN u = kN s → QS s s' u v0) (hw : fX12_costsOf (nI n) v0 = some (gi w0 0 69, w0)) : ∀ (k i f f' : Nat) (x y : Int32) (u v : ST), i + k = np → k < f → k < f' → QS s s' u v → y ≤ gi w0 0 70 →
    ∃ a b u2 v2, fX11_pardon_L46 (nI n) p t f x y (nI i) u = some (a, b, nI np, u2) ∧ fX12_pardon_L53 (nI n) p f' x y (nI i) v = some (a, b, nI np, v2) ∧ QS s s' u2 v2 := by
  have hnp := hn.1.1
  intro k
  induction k with
  | zero =>
    intro i f f' x y u v hi hf hf' q hy
    obtain ⟨f, rfl⟩ : ∃ m, f = m + 1 := ⟨f - 1, by omega⟩
    obtain ⟨f', rfl⟩ : ∃ m, f' = m + 1 := ⟨f' - 1, by omega⟩
    obtain rfl : i = np := by omega
    have nz := NW_k h.1 hn q.1 q.2.1
    have h8 : gi u 18 7 = nI i := nz.1.2.2.1
    have h4 : gi v 1 3 = nI i := nz.1.2.2.2.1
    refine ⟨x, y, u, v, ?_, ?_, q⟩
    · rw [fX11_pardon_L46, h8, if_pos (Int32.le_refl _)]
    · rw [fX12_pardon_L53, ck_t (by decide), ix_lit (by decide), h4, if_pos (Int32.le_refl _)]
  | succ k ih =>
    intro i f f' x y u v hi hf hf' q hy
    obtain ⟨f, rfl⟩ : ∃ m, f = m + 1 := ⟨f - 1, by omega⟩
    obtain ⟨f', rfl⟩ : ∃ m, f' = m + 1 := ⟨f' - 1, by omega⟩
    have nz := NW_k h.1 hn q.1 q.2.1
    have h8 : gi u 18 7 = nI np := nz.1.2.2.1
    have h4 : gi v 1 3 = nI np := nz.1.2.2.2.1
    have hb := hasB (gi v 1 8) i v
    by_cases c : exB (gi v 1 8) i = true
    · have q0 := hv0 u q.1
      have e0 : gi v0 1 8 = gi v 1 8 := (kR_g q0.2.1 rfl).trans (kR_g q.2.1 rfl).symm
      obtain ⟨m, z, a1, a2, a3, a4, a5⟩ := pardon_same (n := n) (x := gi v0 1 8) h hn q0 hk hd hw rfl
      rw [fX11_pardon_L46, fX12_pardon_L53]
      have e1 : gi v0 1 8 ||| (1 <<< (nI i &&& 31)) = gi v0 1 8 := by rw [e0]; exact ex_or (by omega) c
      rw [c, if_pos rfl] at hb
      simp (disch := omega) only [↓ite_bind, ↓ck_bind, ↓lt_bind, ↓Option.bind_assoc, ↓bd_s, ↓lt_v, ↓ck_v, ↓reduceIte, Bool.false_eq_true, Bool.true_eq_false, nj_add, nj_addl, nj_addr, nj_mull, nj_mulr, nj_subr, nj_pred, ix_nI, ix_lit, inb_t, inb_l, nj_le_t, nj_le_f, nj_lel_t, nj_lel_f, nj_ler_t, nj_ler_f, nj_lt_t, nj_lt_f, nj_ltl_t, nj_ltl_f, nj_ltr_t, nj_ltr_f, nj_eq_t, nj_eq_f, nj_eqr_t, nj_eqr_f, nj_m1, nj_m2, h8, h4, hb, i10, a1, a2, e1, a3, a5, hy]
      exact ih (i + 1) f f' _ _ _ _ (by omega) (by omega) (by omega) ⟨a4, q.2⟩ hy
    · obtain ⟨m, z, w', a1, a2, a3, a4, a5, a6⟩ := pardon_it (n := n) h hn q hk hd (gi v 1 8 ||| (1 <<< (nI i &&& 31)))
      rw [fX11_pardon_L46, fX12_pardon_L53]
      rw [if_neg c] at hb
      by_cases c2 : y ≤ gi w' 0 70
      · simp (disch := omega) only [↓ite_bind, ↓ck_bind, ↓lt_bind, ↓Option.bind_assoc, ↓bd_s, ↓lt_v, ↓ck_v, ↓reduceIte, Bool.false_eq_true, Bool.true_eq_false, nj_add, nj_addl, nj_addr, nj_mull, nj_mulr, nj_subr, nj_pred, ix_nI, ix_lit, inb_t, inb_l, nj_le_t, nj_le_f, nj_lel_t, nj_lel_f, nj_ler_t, nj_ler_f, nj_lt_t, nj_lt_f, nj_ltl_t, nj_ltl_f, nj_ltr_t, nj_ltr_f, nj_eq_t, nj_eq_f, nj_eqr_t, nj_eqr_f, nj_m1, nj_m2, h8, h4, hb, i00, a1, a2, a3, a4, a6, c2]
        exact ih (i + 1) f f' _ _ _ _ (by omega) (by omega) (by omega) a5 hy
      · simp (disch := omega) only [↓ite_bind, ↓ck_bind, ↓lt_bind, ↓Option.bind_assoc, ↓bd_s, ↓lt_v, ↓ck_v, ↓reduceIte, Bool.false_eq_true, Bool.true_eq_false, nj_add, nj_addl, nj_addr, nj_mull, nj_mulr, nj_subr, nj_pred, ix_nI, ix_lit, inb_t, inb_l, nj_le_t, nj_le_f, nj_lel_t, nj_lel_f, nj_ler_t, nj_ler_f, nj_lt_t, nj_lt_f, nj_ltl_t, nj_ltl_f, nj_ltr_t, nj_ltr_f, nj_eq_t, nj_eq_f, nj_eqr_t, nj_eqr_f, nj_m1, nj_m2, h8, h4, hb, i00, a1, a2, a3, a4, a6, c2]
        exact ih (i + 1) f f' _ _ _ _ (by omega) (by omega) (by omega) a5 (by grind)
theorem pardon_ok {t : PH} {s s' : ST} {d : Nat} (h : INV t s s' d) (hd : d ≤ 600) (x p : Int32) : A2 t (d + 1) (fX11_pardon x p t s) (fX12_pardon x p s') := by
  obtain ⟨np, nm, R, n⟩ := IN0_nw h.1
  have hnp := n.1.1
  unfold fX11_pardon fX12_pardon
  rcases g_span n.1 x with ⟨c1, c2⟩ | ⟨k, k1, k2, rfl, k4, k5, k6⟩
  · refine ⟨-2, s, s', by rw [c1, bd_s, if_pos rfl, bd_s, if_pos rfl], ?_, INV_mono h (by omega)⟩
    rcases c2 with c2 | ⟨c2, c3⟩
    · rw [c2, bd_s, if_pos rfl, bd_s, if_pos rfl]
    · rw [c2, bd_s, if_neg n10, c3, bd_s, if_pos rfl, bd_s, if_pos rfl]
  rw [k4, k5, k6, bd_s, bd_s, bd_s, if_neg n10, if_neg n10, if_neg n10]
  rcases g_in p (l := 0) (h := 1) (a := 0) (b := 1) (show (0 : Int64) = _ from rfl) (show (1 : Int64) = _ from rfl) rfl rfl (by omega) (by omega) with ⟨c1, c2⟩ | ⟨j, j1, j2, rfl, j4⟩
  · refine ⟨-2, s, s', ?_, by rw [c1, bd_s, if_pos rfl, bd_s, if_pos rfl], INV_mono h (by omega)⟩
    rcases c2 with c2 | ⟨c2, c3, c4⟩
    · simp only [c2, if_true, bd_s]
    · simp only [c2, c4, if_true, bd_s, if_false]
  rw [j4, bd_s, if_neg n10, if_neg (nj_nn (by omega)), if_pos (show nI j ≤ (1 : Int32) by rw [nj_ler (by omega) (by decide)]; omega), bd_s, bd_s, if_neg nft, if_neg nft]
  obtain ⟨v, v1, v2⟩ := q_begin h
  obtain ⟨m, z, w', a1, a2, a3, a4, a5, a6⟩ := costs_ev (n := k) h n v2 (by omega) hd
  obtain ⟨x, y, u2, v3, b1, b2, b3⟩ := pardon_L (p := nI j) (n := k) (v0 := v) (w0 := w') h n hd (by omega) (fun u hu => ⟨hu, v2.2⟩) a3 np 0 FUEL FUEL (-1) (gi w' 0 70) z w' (by omega) (by rw [FUEL_eq]; omega) (by rw [FUEL_eq]; omega) a4 (Int32.le_refl _)
  have b1 : fX11_pardon_L46 (nI k) (nI j) t FUEL (-1) (gi w' 0 70) 0 z = some (x, y, nI np, u2) := b1
  have b2 : fX12_pardon_L53 (nI k) (nI j) FUEL (-1) (gi w' 0 70) 0 w' = some (x, y, nI np, v3) := b2
  rw [v1, bd_s, a1, bd_s, a2, bd_s, lt_v, a6, b1, bd_s, a3, bd_s, lt_v, b2, bd_s]
  have hj : j = 0 ∨ j = 1 := by omega
  rcases hj with rfl | rfl
  · refine ⟨x, u2, v3, ?_, ?_, q_end h b3⟩ <;> rw [if_pos (show nI 0 = 0 from rfl), bd_s]
  · refine ⟨y, u2, v3, ?_, ?_, q_end h b3⟩ <;> rw [if_neg (show ¬ nI 1 = 0 by decide), bd_s]
/-! years -/
def QY (s s' u v : ST) : Prop := kN u = kN s ∧ kR v = kR s' ∧ SvK s' v ∧ gi v 0 56 = -1 ∧ gi v 0 57 = -1 ∧ gi v 0 63 = 1
theorem CRs_year {t : PH} {u v : ST} {d np nm R : Nat} {p : Option Nat} {x : Int32} (nz : NW t u v d np nm R) (p3 : RlP t u v p) (f56 : gi v 0 56 = -1) (f57 : gi v 0 57 = -1) (f63 : gi v 0 63 = 1) : CRs t (si (si (stS p u) 30 13 1) 30 14 x) (si v 1 11 x) np nm d := by
  obtain ⟨s7, s8, s9, s10, s13, s15, s16, s17⟩ := stS_30 (p := p) (u := u)
  have := nz.1.1
  have := nz.1.2.1
  have el : lv (si v 1 11 x) = lv v := lv_si_o _ (by omega)
  refine CRs_of nz p3 (by rw [mr_si, mr_si]; exact stS_mr.1) (by rw [mr_si, mr_si]; exact stS_mr.2) (fun a j h1 h2 h3 _ => by rw [gi_ne h1, gi_ne h1]; exact stS_o ⟨h1, h2, h3⟩ j) (fun a j hh => si_x _ _ (by omega)) (by rw [gi_dif (by decide), gi_dif (by decide), gi_dif (by decide)]; exact s7.trans nz.1.2.2.2.2.2.2.2.2.2.1) (by rw [gi_dif (by decide), gi_dif (by decide), gi_dif (by decide)]; exact s8.trans nz.1.2.2.2.2.2.2.2.2.2.2.1)
    (fun q hq => by
      rw [gi_ne (by decide), gi_ne (by decide), gi_ne (by decide), stS_41 (by omega)]
      obtain ⟨q1, q2, q3⟩ := nz.1.2.2.2.2.2.2.2.2.2.2.2.2.2.1 q hq
      exact ⟨q1, q2⟩) (by rw [gi_dif (by decide), gi_dif (by decide), gi_ne (by decide)]; exact s9.trans f56.symm) (by rw [gi_dif (by decide), gi_dif (by decide), gi_ne (by decide)]; exact s10.trans f57.symm) (fun e => absurd (by rw [gi_ne (by decide)]; exact f57) e) (by rw [gi_dif (by decide), gi_same, gi_ne (by decide)]; exact f63.symm)
    (fun j hj => ?_) (by rw [el]; exact nz.2.2.1) (fun e => by rw [gi_same, gi_same])
  rw [el, show (si (si (stS p u) 30 13 1) 30 14 x).1 32 j = gi (si (si (stS p u) 30 13 1) 30 14 x) 32 j from rfl, gi_ne (by decide), gi_ne (by decide)]
  exact (stS_32 (by unfold vis at hj; omega)).trans (nz.2.1 j hj)
theorem years_it {t : PH} {s s' u v : ST} {d np nm R n : Nat} (h : INV t s s' d) (hn : NW t s s' d np nm R) (q : QY s s' u v) (hk : n ≤ 100) (hd : d ≤ 600) (x : Int32) :
    ∃ m z z' w', fX11_startFromNow t u = some m ∧ fX0_goDays (nI n) t (si (si m 30 13 1) 30 14 x) = some z ∧ fX12_goes (nI n) (si v 1 11 x) = some z' ∧ fX12_laysBack z' = some w' ∧ QY s s' z w' ∧ gi z 30 15 = gi z' 0 71 ∧ gi z 30 16 = gi z' 0 69 ∧ gi z 30 14 = gi z' 1 11 := by
  have nz := NW_k h.1 hn q.1 q.2.1
  obtain ⟨p, p1, p2, p3⟩ := rule_ev nz
  obtain ⟨s7, s8, s9, s10, s13, s15, s16, s17⟩ := stS_30 (p := p) (u := u)
  obtain ⟨z, z', w', a1, a2, a3, a4, a5, a6, a7, a8, a9, a10, a11, a12, a13, a14, a15, a16, a17, a18⟩ := iter (s := s) (s' := s') (n := n) hk (by omega) (CRs_year (x := x) nz p3 q.2.2.2.1 q.2.2.2.2.1 q.2.2.2.2.2) (by rw [gi_dif (by decide), gi_dif (by decide)]; exact s15) (by rw [gi_dif (by decide), gi_dif (by decide)]; exact s16) (by rw [gi_dif (by decide), gi_dif (by decide)]; exact s17) ((kN_si (by omega)).trans ((kN_si (by omega)).trans (stS_kN.trans q.1))) ((kQ_si rfl).trans (kQ_kR q.2.1)) (SvK_si q.2.2.1 (by decide))
  refine ⟨_, z, z', w', start_eq p1 p2, a1, a2, a3, ⟨a4, a5, a6, ?_, ?_, ?_⟩, by rw [a15]; exact a7, by rw [a16]; exact a8, a14.2.2.2 ?_⟩
  · rw [a10 _ (by omega), gi_ne (by decide)]; exact q.2.2.2.1
  · rw [a10 _ (by omega), gi_ne (by decide)]; exact q.2.2.2.2.1
  · rw [a10 _ (by omega), gi_ne (by decide)]; exact q.2.2.2.2.2
  · rw [a18, gi_ne (by decide), q.2.2.2.2.2]; decide
theorem years_L {t : PH} {s s' : ST} {d np nm R n m : Nat} {p a4 : Int32} (h : INV t s s' d) (hn : NW t s s' d np nm R) (hd : d ≤ 600) (hk : n ≤ 100) (hm : m ≤ 100) : ∀ (k i f f' : Nat) (x y z : Int32) (u v : ST), i + k = m → k < f → k < f' → QY s s' u v →
    ∃ a b c u2 v2, fX11_years_L64 (nI m) (nI n) p t f x y z (nI i) u = some (a, b, c, nI m, u2) ∧ fX12_years_L74 (nI m) (nI n) p a4 f' z x y (nI i) v = some (c, a, b, nI m, v2) ∧ QY s s' u2 v2 := by
  intro k
  induction k with
  | zero =>
    intro i f f' x y z u v hi hf hf' q
    obtain ⟨f, rfl⟩ : ∃ m, f = m + 1 := ⟨f - 1, by omega⟩
    obtain ⟨f', rfl⟩ : ∃ m, f' = m + 1 := ⟨f' - 1, by omega⟩
    obtain rfl : i = m := by omega
    refine ⟨x, y, z, u, v, ?_, ?_, q⟩
    · rw [fX11_years_L64, if_pos (Int32.le_refl _)]
    · rw [fX12_years_L74, if_pos (Int32.le_refl _)]
  | succ k ih =>
    intro i f f' x y z u v hi hf hf' q
    obtain ⟨f, rfl⟩ : ∃ m, f = m + 1 := ⟨f - 1, by omega⟩
    obtain ⟨f', rfl⟩ : ∃ m, f' = m + 1 := ⟨f' - 1, by omega⟩
    obtain ⟨mm, zz, zz', w', a1, a2, a3, a4, a5, a6, a7, a8⟩ := years_it (n := n) h hn q hk hd z
    rw [fX11_years_L64, fX12_years_L74]
    unfold fX0_drawFrom
    simp (disch := omega) only [↓ite_bind, ↓ck_bind, ↓lt_bind, ↓Option.bind_assoc, ↓bd_s, ↓lt_v, ↓ck_v, ↓reduceIte, Bool.false_eq_true, Bool.true_eq_false, nj_add, nj_addl, nj_addr, nj_mull, nj_mulr, nj_subr, nj_pred, ix_nI, ix_lit, inb_t, inb_l, nj_le_t, nj_le_f, nj_lel_t, nj_lel_f, nj_ler_t, nj_ler_f, nj_lt_t, nj_lt_f, nj_ltl_t, nj_ltl_f, nj_ltr_t, nj_ltr_f, nj_eq_t, nj_eq_f, nj_eqr_t, nj_eqr_f, nj_m1, nj_m2, a1, a2, a3, a4, a6, a7, a8]
    exact ih (i + 1) f f' _ _ _ _ _ (by omega) (by omega) (by omega) a5
theorem years_ok {t : PH} {s s' : ST} {d : Nat} (h : INV t s s' d) (hd : d ≤ 600) (x y p : Int32) : A2 t (d + 1) (fX11_years x y p t s) (fX12_years x y p s') := by
  obtain ⟨np, nm, R, n⟩ := IN0_nw h.1
  have hnp := n.1.1
  unfold fX11_years fX12_years
  rcases g_town n.1 with ⟨a, b⟩ | ⟨a, b⟩
  · exact ⟨-1, s, s', by rw [if_pos a, bd_s, if_pos rfl], by rw [b, bd_s, if_pos rfl, bd_s, if_pos rfl], INV_mono h (by omega)⟩
  rw [b, bd_s, if_neg n10, if_neg (show ¬ gi s 18 0 = 0 by rw [a]; decide)]
  rcases g_in x (l := 1) (h := 10) (a := 1) (b := 10) (show (1 : Int64) = _ from rfl) (show (10 : Int64) = _ from rfl) rfl rfl (by omega) (by omega) with ⟨c1, c2⟩ | ⟨m, m1, m2, rfl, m4⟩
  · refine ⟨-1, s, s', ?_, by rw [c1, bd_s, if_pos rfl, bd_s, if_pos rfl], INV_mono h (by omega)⟩
    rcases c2 with c2 | ⟨c2, c3, c4⟩
    · simp only [c2, if_true, bd_s]
    · simp only [c2, c3, if_true, bd_s, if_false]
  rw [m4, bd_s, if_neg n10, if_neg (show ¬ nI m < (1 : Int32) by rw [nj_ltr (by omega) (by decide)]; omega), if_neg (show ¬ (10 : Int32) < nI m by rw [nj_ltl (by decide) (by omega)]; omega)]
  rcases g_in y (l := 1) (h := 60) (a := 1) (b := 60) (show (1 : Int64) = _ from rfl) (show (60 : Int64) = _ from rfl) rfl rfl (by omega) (by omega) with ⟨c1, c2⟩ | ⟨k, k1, k2, rfl, k4⟩
  · refine ⟨-1, s, s', ?_, by rw [c1, bd_s, if_pos rfl, bd_s, if_pos rfl], INV_mono h (by omega)⟩
    rcases c2 with c2 | ⟨c2, c3, c4⟩
    · simp only [c2, if_true, bd_s]
    · simp only [c2, c3, if_true, bd_s, if_false]
  rw [k4, bd_s, if_neg n10, if_neg (show ¬ nI k < (1 : Int32) by rw [nj_ltr (by omega) (by decide)]; omega), if_neg (show ¬ (60 : Int32) < nI k by rw [nj_ltl (by decide) (by omega)]; omega)]
  rcases g_in p (l := 0) (h := 1) (a := 0) (b := 1) (show (0 : Int64) = _ from rfl) (show (1 : Int64) = _ from rfl) rfl rfl (by omega) (by omega) with ⟨c1, c2⟩ | ⟨j, j1, j2, rfl, j4⟩
  · refine ⟨-1, s, s', ?_, by rw [c1, bd_s, if_pos rfl, bd_s, if_pos rfl], INV_mono h (by omega)⟩
    rcases c2 with c2 | ⟨c2, c3, c4⟩
    · simp only [c2, if_true, bd_s]
    · simp only [c2, c4, if_true, bd_s, if_false]
  rw [j4, bd_s, if_neg n10, if_neg (nj_nn (by omega)), if_pos (show nI j ≤ (1 : Int32) by rw [nj_ler (by omega) (by decide)]; omega), bd_s, bd_s, if_neg nft, if_neg nft]
  obtain ⟨v, v1, v2⟩ := q_begin h
  have qy : QY s s' s (si v 0 63 1) := by
    refine ⟨rfl, ?_, SvK_si v2.2.2.1 (by decide), by rw [gi_dif (by decide)]; exact v2.2.2.2.1, by rw [gi_dif (by decide)]; exact v2.2.2.2.2.1, gi_same _ _ _ _⟩
    rw [← v2.2.1]
    exact kR_of (fun a j e => si_x _ _ (by
      rintro ⟨rfl, rfl⟩
      cases e))
  obtain ⟨aa, bb, cc, u2, w2, b1, b2, b3⟩ := years_L (p := nI j) (a4 := gi s' 1 11) (n := k) (m := m) h n hd (by omega) (by omega) m 0 FUEL FUEL 0 0 (gi s' 1 11) s (si v 0 63 1) (by omega) (by rw [FUEL_eq]; omega) (by rw [FUEL_eq]; omega) qy
  have b1 : fX11_years_L64 (nI m) (nI k) (nI j) t FUEL 0 0 (gi s' 1 11) 0 s = some (aa, bb, cc, nI m, u2) := b1
  have b2 : fX12_years_L74 (nI m) (nI k) (nI j) (gi s' 1 11) FUEL (gi s' 1 11) 0 0 0 (si v 0 63 1) = some (cc, aa, bb, nI m, w2) := b2
  have e11 : gi s 17 3 = gi s' 1 11 := n.2.2.2.2.2.1
  have qe : QS s s' u2 (si (si w2 0 63 0) 1 11 (gi s' 1 11)) := by
    refine ⟨b3.1, ?_, SvK_si (SvK_si b3.2.2.1 (by decide)) (by decide), by rw [gi_ne (by decide), gi_dif (by decide)]; exact b3.2.2.2.1, by rw [gi_ne (by decide), gi_dif (by decide)]; exact b3.2.2.2.2.1, by rw [gi_ne (by decide), gi_same]⟩
    refine kR_of (fun a j e => ?_)
    rw [gi_si]
    by_cases e1 : a = 1
    · subst e1
      rw [if_pos rfl]
      by_cases e2 : j = 11
      · rw [if_pos e2, e2]
      · rw [if_neg e2, gi_ne (by decide)]; exact kR_g b3.2.1 e
    · rw [if_neg e1, si_x _ _ (by
        rintro ⟨rfl, rfl⟩
        cases e)]
      exact kR_g b3.2.1 e
  rw [ck_t (show inb 11 13 = true by decide), lt_v, lt_v, ix_lit (by decide), e11, b1, bd_s, v1, bd_s, lt_v, b2, bd_s, lt_v, ck_t (show inb 11 13 = true by decide), lt_v]
  have hj : j = 0 ∨ j = 1 := by omega
  rcases hj with rfl | rfl
  · refine ⟨aa, u2, _, ?_, ?_, q_end h qe⟩ <;> rw [if_pos (show nI 0 = 0 from rfl), bd_s]
  · refine ⟨bb, u2, _, ?_, ?_, q_end h qe⟩ <;> rw [if_neg (show ¬ nI 1 = 0 by decide), bd_s]
