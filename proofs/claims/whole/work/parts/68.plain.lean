/-! WHAT HOLDS, CHANGED IN PLACES -/
theorem TwR_eq {C C' V V' : Vw} {b np nm : Nat} (h : TwR C V b np nm) (hC : ∀ a j, b ≤ a → a ≤ b + 6 → C' a j = C a j) (hV : ∀ a j, ((a = 1 ∧ j ≤ 6) ∨ a = 2 ∨ a = 7 ∨ a = 8 ∨ a = 10 ∨ a = 16 ∨ a = 17 ∨ a = 18) → V' a j = V a j) : TwR C' V' b np nm := by
  obtain ⟨t1, t2, t3, t4, t5, t6, t7, t8, t9, t10, t11, t12, t13, t14, t15⟩ := h
  refine ⟨t1, t2, ?_, ?_, ?_, ?_, ?_, ?_, ?_, ?_, ?_, ?_, ?_, fun q hq => ?_, fun m hm => ?_⟩
  · rw [hC _ _ (by omega) (by omega)]; exact t3
  · rw [hV _ _ (by omega)]; exact t4
  · rw [hC _ _ (by omega) (by omega)]; exact t5
  · rw [hV _ _ (by omega)]; exact t6
  · rw [hC _ _ (by omega) (by omega), hV _ _ (by omega)]; exact t7
  · rw [hV _ _ (by omega)]; exact t8
  · rw [hC _ _ (by omega) (by omega), hV _ _ (by omega)]; exact t9
  · rw [hC _ _ (by omega) (by omega), hV _ _ (by omega)]; exact t10
  · rw [hC _ _ (by omega) (by omega), hV _ _ (by omega)]; exact t11
  · rw [hC _ _ (by omega) (by omega), hC _ _ (by omega) (by omega), hV _ _ (by omega), hV _ _ (by omega)]; exact t12
  · rw [hC _ _ (by omega) (by omega), hV _ _ (by omega)]; exact t13
  · rw [hC _ _ (by omega) (by omega), hC _ _ (by omega) (by omega), hV _ _ (by omega), hV _ _ (by omega)]; exact t14 q hq
  · rw [hC _ _ (by omega) (by omega), hC _ _ (by omega) (by omega), hC _ _ (by omega) (by omega), hC _ _ (by omega) (by omega), hV _ _ (by omega), hV _ _ (by omega), hV _ _ (by omega), hV _ _ (by omega)]; exact t15 m hm
theorem LgR_eq {C C' V V' : Vw} {w : Nat} (h : LgR C V w) (h4 : C' w 4 = C w 4) (hC : ∀ j, C' (w + 10) j = C (w + 10) j) (h10 : V' 1 10 = V 1 10) (hV : ∀ a j, a = 13 ∨ a = 14 ∨ a = 15 → V' a j = V a j) : LgR C' V' w := by
  obtain ⟨nl, l1, l2, l3, l4⟩ := h
  refine ⟨nl, l1, h4.trans l2, h10.trans l3, fun i hi => ?_⟩
  rw [hC, hC, hC, hV _ _ (by omega), hV _ _ (by omega), hV _ _ (by omega)]
  exact l4 i hi
theorem AcR_eq {C C' V V' : Vw} {w np nm d d' : Nat} {pm pm' : Int32} (h : AcR C V w np nm d pm) (hd : d ≤ d') (h7 : C' w 7 = C w 7) (h8 : C' w 8 = C w 8) (hp : pm' = pm) (hC : ∀ j, C' (w + 11) j = C (w + 11) j) (hV : ∀ j, V' 46 j = V 46 j) : AcR C' V' w np nm d' pm' := by
  obtain ⟨na, ap, a1, a2, a3, a4, a5, a6⟩ := h
  have e : ∀ k, PVf V' k = PVf V k := fun k => funext (fun j => by unfold PVf; rw [hV, hV, hV])
  refine ⟨na, ap, a1, a2, h8.trans a3, hp.trans a4, h7.trans a5, fun i hi => ?_⟩
  obtain ⟨b1, b2⟩ := a6 i hi
  rw [e]
  refine ⟨fun j hj => ?_, SB_mono b2 hd⟩
  show C' (w + 11) _ = _
  rw [hC]; exact b1 j hj
theorem TpR_eq {C C' V V' : Vw} (h : TpR C V) (h1 : C' 1 1 = C 1 1) (h2 : ∀ j, C' 2 j = C 2 j) (h3 : V' 0 26 = V 0 26) (h4 : ∀ j, V' 26 j = V 26 j) : TpR C' V' := by
  obtain ⟨n, n1, n2, n3, n4⟩ := h
  exact ⟨n, n1, h1.trans n2, h3.trans n3, fun i hi => by rw [h2, h4]; exact n4 i hi⟩
theorem IN0_w {t : PH} {C C' V V' : Vw} {d d' : Nat} (h : IN0 t C V d) (hd : d ≤ d') (eT : TpR C V → TpR C' V') (e35 : V' 0 35 = V 0 35)
    (eC : ∀ a j, 48 ≤ a → C' a j = C a j) (e04 : C' 0 4 = C 0 4) (e30 : V' 0 30 = V 0 30)
    (eV : ∀ a j, ((27 ≤ a ∧ a ≤ 32) ∨ a = 55 ∨ (a = 54 ∧ j < 4800)) → V' a j = V a j)
    (hW : ∀ R, C 0 4 = nI R → V 0 30 = nI R → R ≤ 6 → WhR C V 17 (V 0 66) R d → WhR C' V' 17 (V' 0 66) R d') : IN0 t C' V' d' := by
  obtain ⟨tp, w, R, own, r0, r1, r2, r3, r4, r5⟩ := h
  have gr : ∀ a, 48 ≤ a → C' a = C a := fun a h => funext (fun j => eC a j h)
  refine ⟨eT tp, e35.trans w, R, own, r0, e04.trans r1, e30.trans r2, fun r hr => ?_, hW R r1 r2 r0 r4, fun k hk => ?_⟩
  · obtain ⟨q, q1, q2, q3⟩ := r3 r hr
    have := q2.1
    exact ⟨q, q1, RlS_eq (fun x _ _ => ⟨rfl, fun _ => rfl⟩) (Nat.le_refl _) (fun i hi => gr _ (by omega)) (fun i _ => eV _ _ (by omega)) (fun i _ => eV _ _ (by omega)) (eV _ _ (by omega)) (fun i _ => eV _ _ (by omega)) (fun i _ => eV _ _ (by omega)) (fun i _ => eV _ _ (by omega)) q2, q3⟩
  · rcases r5 k hk with ⟨q1, q2⟩ | ⟨w0, q1, q2, q3, q4, q5, q6⟩
    · exact Or.inl ⟨q1, by rw [eV _ _ (by omega)]; exact q2⟩
    · refine Or.inr ⟨w0, q1, by rw [eV _ _ (by omega)]; exact q2, q3, q4, q5, ?_⟩
      exact WhR_eq (EqW_row (fun i hi => gr _ (by omega))) (EqV_im (fun j hj => eV _ _ (by omega))) (eV _ _ (by omega)) (Nat.le_refl _) hd q6
/-! PLAIN CALLS -/
theorem sum_L {s s' : ST} (h : ∀ j, j < 5 → gi s 26 (10 + j) = gi s' 5 j) : ∀ (k i f f' : Nat) (x : Int32), i + k = 5 → k < f → k < f' → ∃ y, fX5_sumOfPeople_25_L4 10 f x (nI i) s = some (y, nI 5) ∧ fX12_allOf_5_L4 f' x (nI i) s' = some (y, nI 5) := by
  intro k
  induction k with
  | zero =>
    intro i f f' x hi hf hf'
    obtain ⟨f, rfl⟩ : ∃ m, f = m + 1 := ⟨f - 1, by omega⟩
    obtain ⟨f', rfl⟩ : ∃ m, f' = m + 1 := ⟨f' - 1, by omega⟩
    obtain rfl : i = 5 := by omega
    exact ⟨x, by rw [fX5_sumOfPeople_25_L4, if_pos (show (5 : Int32) ≤ nI 5 by decide)], by rw [fX12_allOf_5_L4, if_pos (show (5 : Int32) ≤ nI 5 by decide)]⟩
  | succ k ih =>
    intro i f f' x hi hf hf'
    obtain ⟨f, rfl⟩ : ∃ m, f = m + 1 := ⟨f - 1, by omega⟩
    obtain ⟨f', rfl⟩ : ∃ m, f' = m + 1 := ⟨f' - 1, by omega⟩
    obtain ⟨y, y1, y2⟩ := ih (i + 1) f f' (x + gi s' 5 i) (by omega) (by omega) (by omega)
    refine ⟨y, ?_, ?_⟩
    · rw [fX5_sumOfPeople_25_L4]
      simp (disch := omega) only [↓ite_bind, ↓ck_bind, ↓lt_bind, ↓Option.bind_assoc, ↓bd_s, ↓lt_v, ↓ck_v, ↓reduceIte, Bool.false_eq_true, Bool.true_eq_false, nj_add, nj_addl, nj_addr, nj_mull, nj_mulr, nj_subr, nj_pred, ix_nI, ix_lit, inb_t, inb_l, nj_le_t, nj_le_f, nj_lel_t, nj_lel_f, nj_ler_t, nj_ler_f, nj_lt_t, nj_lt_f, nj_ltl_t, nj_ltl_f, nj_ltr_t, nj_ltr_f, nj_eq_t, nj_eq_f, nj_eqr_t, nj_eqr_f, nj_m1, nj_m2, h]
      exact y1
    · rw [fX12_allOf_5_L4]
      simp (disch := omega) only [↓ite_bind, ↓ck_bind, ↓lt_bind, ↓Option.bind_assoc, ↓bd_s, ↓lt_v, ↓ck_v, ↓reduceIte, Bool.false_eq_true, Bool.true_eq_false, nj_add, nj_addl, nj_addr, nj_mull, nj_mulr, nj_subr, nj_pred, ix_nI, ix_lit, inb_t, inb_l, nj_le_t, nj_le_f, nj_lel_t, nj_lel_f, nj_ler_t, nj_ler_f, nj_lt_t, nj_lt_f, nj_ltl_t, nj_ltl_f, nj_ltr_t, nj_ltr_f, nj_eq_t, nj_eq_f, nj_eqr_t, nj_eqr_f, nj_m1, nj_m2]
      exact y2
theorem sum_L6 {s s' : ST} (h : ∀ j, j < 5 → gi s 26 (15 + j) = gi s' 6 j) : ∀ (k i f f' : Nat) (x : Int32), i + k = 5 → k < f → k < f' → ∃ y, fX5_sumOfPeople_25_L4 15 f x (nI i) s = some (y, nI 5) ∧ fX12_allOf_6_L4 f' x (nI i) s' = some (y, nI 5) := by
  intro k
  induction k with
  | zero =>
    intro i f f' x hi hf hf'
    obtain ⟨f, rfl⟩ : ∃ m, f = m + 1 := ⟨f - 1, by omega⟩
    obtain ⟨f', rfl⟩ : ∃ m, f' = m + 1 := ⟨f' - 1, by omega⟩
    obtain rfl : i = 5 := by omega
    exact ⟨x, by rw [fX5_sumOfPeople_25_L4, if_pos (show (5 : Int32) ≤ nI 5 by decide)], by rw [fX12_allOf_6_L4, if_pos (show (5 : Int32) ≤ nI 5 by decide)]⟩
  | succ k ih =>
    intro i f f' x hi hf hf'
    obtain ⟨f, rfl⟩ : ∃ m, f = m + 1 := ⟨f - 1, by omega⟩
    obtain ⟨f', rfl⟩ : ∃ m, f' = m + 1 := ⟨f' - 1, by omega⟩
    obtain ⟨y, y1, y2⟩ := ih (i + 1) f f' (x + gi s' 6 i) (by omega) (by omega) (by omega)
    refine ⟨y, ?_, ?_⟩
    · rw [fX5_sumOfPeople_25_L4]
      simp (disch := omega) only [↓ite_bind, ↓ck_bind, ↓lt_bind, ↓Option.bind_assoc, ↓bd_s, ↓lt_v, ↓ck_v, ↓reduceIte, Bool.false_eq_true, Bool.true_eq_false, nj_add, nj_addl, nj_addr, nj_mull, nj_mulr, nj_subr, nj_pred, ix_nI, ix_lit, inb_t, inb_l, nj_le_t, nj_le_f, nj_lel_t, nj_lel_f, nj_ler_t, nj_ler_f, nj_lt_t, nj_lt_f, nj_ltl_t, nj_ltl_f, nj_ltr_t, nj_ltr_f, nj_eq_t, nj_eq_f, nj_eqr_t, nj_eqr_f, nj_m1, nj_m2, h]
      exact y1
    · rw [fX12_allOf_6_L4]
      simp (disch := omega) only [↓ite_bind, ↓ck_bind, ↓lt_bind, ↓Option.bind_assoc, ↓bd_s, ↓lt_v, ↓ck_v, ↓reduceIte, Bool.false_eq_true, Bool.true_eq_false, nj_add, nj_addl, nj_addr, nj_mull, nj_mulr, nj_subr, nj_pred, ix_nI, ix_lit, inb_t, inb_l, nj_le_t, nj_le_f, nj_lel_t, nj_lel_f, nj_ler_t, nj_ler_f, nj_lt_t, nj_lt_f, nj_ltl_t, nj_ltl_f, nj_ltr_t, nj_ltr_f, nj_eq_t, nj_eq_f, nj_eqr_t, nj_eqr_f, nj_m1, nj_m2]
      exact y2
theorem count_ok {t : PH} {s s' : ST} {d : Nat} (h : INV t s s' d) (w : Int32) : ∃ a, fX11_count w s = some a ∧ fX12_count w s' = some a := by
  obtain ⟨⟨⟨n, n1, n2, n3, n4⟩, -, R, own, r0, r1, r2, r3, ⟨np, nm, ⟨t1, t2, t3, t4, t5, t6, t7, t8, t9, t10, t11, -⟩, hs, -, w4, w5, w6, ⟨nl, l1, l2, l3, -⟩, na, ap, a1, a2, a3, a4, -⟩, -⟩, -⟩ := h
  have e45 : gi s 26 45 = gi s' 1 9 := hs 45 (by unfold vis; omega)
  have e44 : gi s 26 44 = gi s' 1 8 := hs 44 (by unfold vis; omega)
  obtain ⟨y, y1, y2⟩ := sum_L (s := s) (s' := s') (fun j hj => by rw [lv_fined _ hj]; exact hs _ (by unfold vis; omega)) 5 0 FUEL FUEL 0 (by omega) (by rw [FUEL_eq]; omega) (by rw [FUEL_eq]; omega)
  obtain ⟨x, x1, x2⟩ := sum_L6 (s := s) (s' := s') (fun j hj => by rw [lv_waited _ hj]; exact hs _ (by unfold vis; omega)) 5 0 FUEL FUEL 0 (by omega) (by rw [FUEL_eq]; omega) (by rw [FUEL_eq]; omega)
  unfold fX11_count fX12_count
  by_cases c0 : w = 0
  · exact ⟨gi s' 1 0, by rw [if_pos c0]; exact congrArg some t10, by rw [if_pos c0, ck_t (by decide), ix_lit (by decide)]⟩
  rw [if_neg c0, if_neg c0]
  by_cases c1 : w = 1
  · exact ⟨gi s' 1 1, by rw [if_pos c1]; exact congrArg some t11, by rw [if_pos c1, ck_t (by decide), ix_lit (by decide)]⟩
  rw [if_neg c1, if_neg c1]
  by_cases c2 : w = 2
  · exact ⟨gi s' 1 2, by rw [if_pos c2]; exact congrArg some t7, by rw [if_pos c2, ck_t (by decide), ix_lit (by decide)]⟩
  rw [if_neg c2, if_neg c2]
  by_cases c3 : w = 3
  · exact ⟨nI np, by rw [if_pos c3]; exact congrArg some t3, by rw [if_pos c3, ck_t (by decide), ix_lit (by decide)]; exact congrArg some t4⟩
  rw [if_neg c3, if_neg c3]
  by_cases c4 : w = 4
  · exact ⟨nI nm, by rw [if_pos c4]; exact congrArg some t5, by rw [if_pos c4, ck_t (by decide), ix_lit (by decide)]; exact congrArg some t6⟩
  rw [if_neg c4, if_neg c4]
  by_cases c5 : w = 5
  · exact ⟨nI R, by rw [if_pos c5]; exact congrArg some r1, by rw [if_pos c5]; exact congrArg some r2⟩
  rw [if_neg c5, if_neg c5]
  by_cases c6 : w = 6
  · exact ⟨gi s' 1 12, by rw [if_pos c6]; exact congrArg some w4, by rw [if_pos c6, ck_t (by decide), ix_lit (by decide)]⟩
  rw [if_neg c6, if_neg c6]
  by_cases c7 : w = 7
  · exact ⟨gi s' 1 9, by rw [if_pos c7, ck_t (by decide), ix_lit (by decide), e45], by rw [if_pos c7, ck_t (by decide), ix_lit (by decide)]⟩
  rw [if_neg c7, if_neg c7]
  by_cases c8 : w = 8
  · exact ⟨gi s' 1 8, by rw [if_pos c8, ck_t (by decide), ix_lit (by decide), e44], by rw [if_pos c8, ck_t (by decide), ix_lit (by decide)]⟩
  rw [if_neg c8, if_neg c8]
  by_cases c9 : w = 9
  · refine ⟨y, ?_, ?_⟩
    · unfold fX5_sumOfPeople_25
      rw [if_pos c9, show fX5_sumOfPeople_25_L4 10 FUEL 0 0 s = fX5_sumOfPeople_25_L4 10 FUEL 0 (nI 0) s from rfl, y1, bd_s, bd_s]
    · unfold fX12_allOf_5
      rw [if_pos c9, show fX12_allOf_5_L4 FUEL 0 0 s' = fX12_allOf_5_L4 FUEL 0 (nI 0) s' from rfl, y2, bd_s, bd_s]
  rw [if_neg c9, if_neg c9]
  by_cases c10 : w = 10
  · refine ⟨x, ?_, ?_⟩
    · unfold fX5_sumOfPeople_25
      rw [if_pos c10, show fX5_sumOfPeople_25_L4 15 FUEL 0 0 s = fX5_sumOfPeople_25_L4 15 FUEL 0 (nI 0) s from rfl, x1, bd_s, bd_s]
    · unfold fX12_allOf_6
      rw [if_pos c10, show fX12_allOf_6_L4 FUEL 0 0 s' = fX12_allOf_6_L4 FUEL 0 (nI 0) s' from rfl, x2, bd_s, bd_s]
  rw [if_neg c10, if_neg c10]
  by_cases c11 : w = 11
  · exact ⟨nI nl, by rw [if_pos c11]; exact congrArg some l2, by rw [if_pos c11, ck_t (by decide), ix_lit (by decide)]; exact congrArg some l3⟩
  rw [if_neg c11, if_neg c11]
  by_cases c12 : w = 12
  · exact ⟨nI na, by rw [if_pos c12]; exact congrArg some a3, by rw [if_pos c12]; exact congrArg some a4⟩
  rw [if_neg c12, if_neg c12]
  by_cases c13 : w = 13
  · exact ⟨gi s' 1 11, by rw [if_pos c13]; exact congrArg some w6, by rw [if_pos c13, ck_t (by decide), ix_lit (by decide)]⟩
  rw [if_neg c13, if_neg c13]
  by_cases c14 : w = 14
  · exact ⟨nI n, by rw [if_pos c14]; exact congrArg some n2, by rw [if_pos c14]; exact congrArg some n3⟩
  exact ⟨-1, by rw [if_neg c14], by rw [if_neg c14]⟩
theorem end_ok {t : PH} {s s' : ST} {d : Nat} (h : INV t s s' d) (p : Int32) : A2 t (d + 1) (fX11_end p s) (fX12_end p s') := by
  obtain ⟨n, n1, n2, n3, n4⟩ := h.1.1
  unfold fX11_end fX12_end
  rw [n2, n3]
  by_cases c : p < 0
  · exact ⟨-1, s, s', by rw [if_pos c, bd_s, if_pos rfl], by rw [if_pos c, bd_s, if_pos rfl], INV_mono h (by omega)⟩
  · by_cases c2 : p ≤ nI n
    · obtain ⟨k, k1, rfl⟩ := nj_ofl (show 0 ≤ p by grind) c2 (by omega)
      refine ⟨nI k, si s 1 1 (nI k), si s' 0 26 (nI k), by rw [if_neg c, if_pos c2, bd_s, if_neg nft, lt_v], by rw [if_neg c, if_pos c2, bd_s, if_neg nft, lt_v], ?_, ?_, ?_, ?_⟩
      · have g : ∀ a j, ¬ (a = 1 ∧ j = 1) → gi (si s 1 1 (nI k)) a j = gi s a j := fun a j hh => by
          rw [gi_si]
          by_cases e : a = 1
          · rw [if_pos e, if_neg (by omega), e]
          · rw [if_neg e]
        have v : ∀ a j, ¬ (a = 0 ∧ j = 26) → gi (si s' 0 26 (nI k)) a j = gi s' a j := fun a j hh => by
          rw [gi_si]
          by_cases e : a = 0
          · rw [if_pos e, if_neg (by omega), e]
          · rw [if_neg e]
        refine IN0_w h.1 (by omega) (fun _ => ⟨k, by omega, gi_same _ _ _ _, gi_same _ _ _ _, fun i hi => ?_⟩) (v _ _ (by omega)) (fun a j ha => g a j (by omega)) (g _ _ (by omega)) (v _ _ (by omega)) (fun a j ha => v a j (by omega)) (fun R _ _ _ hw => ?_)
        · rw [g _ _ (by omega), v _ _ (by omega)]; exact n4 i (by omega)
        · exact WhR_eq (EqW_row (fun i hi => funext (fun j => g _ _ (by omega)))) ⟨fun j _ => v _ _ (by omega), fun j _ => v _ _ (by omega), fun j _ => v _ _ (by omega), fun j _ => v _ _ (by omega), fun j _ => v _ _ (by omega), fun j _ => v _ _ (by omega), fun j _ => v _ _ (by omega), fun j _ => v _ _ (by omega), fun j _ => v _ _ (by omega), fun j _ => v _ _ (by omega), fun j _ => v _ _ (by omega), fun j _ => v _ _ (by omega), fun j _ => v _ _ (by omega), fun j _ => v _ _ (by omega), fun j _ => v _ _ (by omega), fun j _ => v _ _ (by omega), fun j _ => v _ _ (by omega), fun j _ => v _ _ (by omega), fun j _ => v _ _ (by omega)⟩ (v _ _ (by omega)) (Nat.le_refl _) (by omega) hw
      · rw [gi_dif (by decide)]; exact h.2.1
      · rw [gi_dif (by decide)]; exact h.2.2.1
      · rw [gi_dif (by decide)]; exact h.2.2.2
    · exact ⟨-1, s, s', by rw [if_neg c, if_neg c2, bd_s, if_pos rfl], by rw [if_neg c, if_neg c2, bd_s, if_pos rfl], INV_mono h (by omega)⟩
theorem force_ok {t : PH} {s s' : ST} {d : Nat} (h : INV t s s' d) (p : Int32) : A2 t (d + 1) (fX11_force p s) (fX12_force p s') := by
  obtain ⟨np, nm, R, n⟩ := IN0_nw h.1
  obtain ⟨-, -, -, w4, w5, -, r0, r1, r2, -⟩ := n
  have hin : fX12_in p.toInt64 (-1) ((nI R - 1).toInt64) s' = some (if p < -1 then 0 else if nI R ≤ p then 0 else 1) := by
    rw [in_ev p (l := -1) (L := -1) (by decide) rfl]
    simp only [pm1 (show R ≤ 100 by omega)]
  unfold fX11_force fX12_force
  rw [r1, r2, hin, bd_s]
  by_cases c : p < -1
  · exact ⟨-2, s, s', by rw [if_pos c, bd_s, if_pos rfl], by rw [if_pos c, if_pos rfl], INV_mono h (by omega)⟩
  · by_cases c2 : p < nI R
    · have c3 : ¬ nI R ≤ p := by grind
      have hp : p = -1 ∨ ∃ r, r < R ∧ p = nI r := by
        by_cases e : p < 0
        · exact Or.inl (by grind)
        · exact Or.inr (nj_of e c2 (by omega))
      refine ⟨gi s' 1 12, si s 17 2 p, si s' 1 12 p, by rw [if_neg c, if_pos c2, bd_s, if_neg nft, lt_v, lt_v, w4], by rw [if_neg c, if_neg c3, if_neg n10, ck_t (by decide), ix_lit (by decide), lt_v, ck_t (by decide), lt_v], ?_, ?_, ?_, ?_⟩
      · refine IN0_w h.1 (by omega) (fun q => TpR_eq q (si_x _ _ (by omega)) (fun j => si_x _ _ (by omega)) (si_x _ _ (by omega)) (fun j => si_x _ _ (by omega))) (si_x _ _ (by omega)) (fun a j ha => si_x a j (by omega)) (si_x _ _ (by omega)) (si_x _ _ (by omega)) (fun a j ha => si_x a j (by omega)) (fun R2 q1 q2 q3 hw => ?_)
        obtain ⟨np, nm, e1, e2, e3, e4, e5, e6, e7, e8⟩ := hw
        obtain rfl : R2 = R := by rw [r1, nj_eq (by omega) (by omega)] at q1; exact q1.symm
        have el : LVf (gi (si s' 1 12 p)) = LVf (gi s') := by
          rw [LVf_lv, LVf_lv]; exact lv_si_o _ (by omega)
        refine ⟨np, nm, TwR_eq e1 (fun a j _ _ => si_x _ _ (by omega)) (fun a j _ => si_x _ _ (by omega)), ?_, by rw [el]; exact SB_mono e3 (by omega), by rw [gi_same, gi_same], by rw [gi_same]; exact hp, by rw [si_x _ _ (by omega), si_x _ _ (by omega)]; exact e6, LgR_eq e7 (si_x _ _ (by omega)) (fun j => si_x _ _ (by omega)) (si_x _ _ (by omega)) (fun a j _ => si_x _ _ (by omega)), AcR_eq e8 (by omega) (si_x _ _ (by omega)) (si_x _ _ (by omega)) (si_x _ _ (by omega)) (fun j => si_x _ _ (by omega)) (fun j => si_x _ _ (by omega))⟩
        rw [el]; intro j hj; rw [si_x _ _ (by omega)]; exact e2 j hj
      · rw [gi_ne (by decide)]; exact h.2.1
      · rw [gi_ne (by decide)]; exact h.2.2.1
      · rw [gi_ne (by decide)]; exact h.2.2.2
    · have c3 : nI R ≤ p := by grind
      exact ⟨-2, s, s', by rw [if_neg c, if_neg c2, bd_s, if_pos rfl], by rw [if_neg c, if_pos c3, if_pos rfl], INV_mono h (by omega)⟩
theorem seed_ok {t : PH} {s s' : ST} {d : Nat} (h : INV t s s' d) (p : Int32) : A2 t (d + 1) (fX11_seed p s) (fX12_seed p s') := by
  obtain ⟨np, nm, R, n⟩ := IN0_nw h.1
  obtain ⟨-, -, -, w4, w5, w6, r0, r1, r2, -⟩ := n
  unfold fX11_seed fX12_seed
  by_cases c : 0 ≤ p
  · refine ⟨gi s' 1 11, si s 17 3 p, si s' 1 11 p, by rw [if_pos c, lt_v, lt_v, w6], by rw [if_pos c, ck_t (by decide), ix_lit (by decide), lt_v, ck_t (by decide), lt_v], ?_, ?_, ?_, ?_⟩
    · refine IN0_w h.1 (by omega) (fun q => TpR_eq q (si_x _ _ (by omega)) (fun j => si_x _ _ (by omega)) (si_x _ _ (by omega)) (fun j => si_x _ _ (by omega))) (si_x _ _ (by omega)) (fun a j ha => si_x a j (by omega)) (si_x _ _ (by omega)) (si_x _ _ (by omega)) (fun a j ha => si_x a j (by omega)) (fun R2 q1 q2 q3 hw => ?_)
      obtain ⟨np, nm, e1, e2, e3, e4, e5, e6, e7, e8⟩ := hw
      have el : LVf (gi (si s' 1 11 p)) = LVf (gi s') := by
        rw [LVf_lv, LVf_lv]; exact lv_si_o _ (by omega)
      refine ⟨np, nm, TwR_eq e1 (fun a j _ _ => si_x _ _ (by omega)) (fun a j _ => si_x _ _ (by omega)), ?_, by rw [el]; exact SB_mono e3 (by omega), by rw [si_x _ _ (by omega), si_x _ _ (by omega)]; exact e4, by rw [si_x _ _ (by omega)]; exact e5, by rw [gi_same, gi_same], LgR_eq e7 (si_x _ _ (by omega)) (fun j => si_x _ _ (by omega)) (si_x _ _ (by omega)) (fun a j _ => si_x _ _ (by omega)), AcR_eq e8 (by omega) (si_x _ _ (by omega)) (si_x _ _ (by omega)) (si_x _ _ (by omega)) (fun j => si_x _ _ (by omega)) (fun j => si_x _ _ (by omega))⟩
      rw [el]; intro j hj; rw [si_x _ _ (by omega)]; exact e2 j hj
    · rw [gi_ne (by decide)]; exact h.2.1
    · rw [gi_ne (by decide)]; exact h.2.2.1
    · rw [gi_ne (by decide)]; exact h.2.2.2
  · exact ⟨-1, s, s', by rw [if_neg c], by rw [if_neg c], INV_mono h (by omega)⟩
