/-! TOWN BY BOTH -/
theorem nb10 {np : Nat} (hnp : np ≤ 5) : ∀ (m i f : Nat) (u : ST), i + m = np → m < f → gi u 18 7 = nI np → ∃ z, fX5_begin_25_18_19_L10 f (nI i) u = some (nI np, z) ∧ (∀ j, gi z 26 j = if i ≤ j ∧ j < np then gi u 20 j else if 5 + i ≤ j ∧ j < 5 + np then gi u 19 (j - 5) else gi u 26 j) ∧ Fr [26] u z := by
  intro m
  induction m with
  | zero =>
    intro i f u hi hf h7
    obtain ⟨f, rfl⟩ : ∃ m, f = m + 1 := ⟨f - 1, by omega⟩
    obtain rfl : i = np := by omega
    refine ⟨u, ?_, fun j => ?_, Fr.rfl⟩
    · rw [fX5_begin_25_18_19_L10, h7, if_pos (Int32.le_refl _)]
    · rw [if_neg (by omega), if_neg (by omega)]
  | succ m ih =>
    intro i f u hi hf h7
    obtain ⟨f, rfl⟩ : ∃ m, f = m + 1 := ⟨f - 1, by omega⟩
    obtain ⟨z, b1, b2, b3⟩ := ih (i + 1) f (si (si u 26 i (gi u 20 i)) 26 (5 + i) (gi u 19 i)) (by omega) (by omega) (by rw [gi_ne (by decide), gi_ne (by decide)]; exact h7)
    refine ⟨z, ?_, fun j => ?_, ((Fr.si (by decide)).trans (Fr.si (by decide))).trans b3⟩
    · rw [fX5_begin_25_18_19_L10]
      simp (disch := omega) only [↓ite_bind, ↓ck_bind, ↓lt_bind, ↓Option.bind_assoc, ↓bd_s, ↓lt_v, ↓ck_v, ↓reduceIte, Bool.false_eq_true, Bool.true_eq_false, nj_add, nj_addl, nj_addr, nj_mull, nj_mulr, nj_subr, nj_pred, ix_nI, ix_lit, inb_t, inb_l, nj_le_t, nj_le_f, nj_lel_t, nj_lel_f, nj_ler_t, nj_ler_f, nj_lt_t, nj_lt_f, nj_ltl_t, nj_ltl_f, nj_ltr_t, nj_ltr_f, nj_eq_t, nj_eq_f, nj_eqr_t, nj_eqr_f, nj_m1, nj_m2, Nat.zero_add, h7, gi_si, Nat.reduceEqDiff]
      exact b1
    · rw [b2, gi_ne (by decide), gi_ne (by decide), gi_ne (by decide), gi_ne (by decide)]
      by_cases e : j = i
      · rw [if_neg (by omega), if_neg (by omega), if_pos (by omega), e, gi_dif (by omega), gi_same]
      · by_cases e2 : j = 5 + i
        · rw [if_neg (by omega), if_neg (by omega), if_neg (by omega), if_pos (by omega), e2, gi_same, show 5 + i - 5 = i by omega]
        · rw [gi_dif e2, gi_dif e]
          by_cases e3 : i + 1 ≤ j ∧ j < np
          · rw [if_pos e3, if_pos (by omega)]
          · rw [if_neg e3, if_neg (show ¬ (i ≤ j ∧ j < np) by omega)]
            by_cases e4 : 5 + (i + 1) ≤ j ∧ j < 5 + np
            · rw [if_pos e4, if_pos (by omega)]
            · rw [if_neg e4, if_neg (by omega)]
theorem nb51 {nm : Nat} (hnm : nm ≤ 8) : ∀ (m i f : Nat) (u : ST), i + m = nm → m < f → gi u 18 8 = nI nm → ∃ z, fX5_begin_25_18_19_L51 f (nI i) u = some (nI nm, z) ∧ (∀ j, gi z 26 j = if 20 + i ≤ j ∧ j < 20 + nm then gi u 23 (j - 20) else gi u 26 j) ∧ Fr [26] u z := by
  intro m
  induction m with
  | zero =>
    intro i f u hi hf h7
    obtain ⟨f, rfl⟩ : ∃ m, f = m + 1 := ⟨f - 1, by omega⟩
    obtain rfl : i = nm := by omega
    refine ⟨u, ?_, fun j => ?_, Fr.rfl⟩
    · rw [fX5_begin_25_18_19_L51, h7, if_pos (Int32.le_refl _)]
    · rw [if_neg (by omega)]
  | succ m ih =>
    intro i f u hi hf h7
    obtain ⟨f, rfl⟩ : ∃ m, f = m + 1 := ⟨f - 1, by omega⟩
    obtain ⟨z, b1, b2, b3⟩ := ih (i + 1) f (si u 26 (20 + i) (gi u 23 i)) (by omega) (by omega) (by rw [gi_ne (by decide)]; exact h7)
    refine ⟨z, ?_, fun j => ?_, (Fr.si (by decide)).trans b3⟩
    · rw [fX5_begin_25_18_19_L51]
      simp (disch := omega) only [↓ite_bind, ↓ck_bind, ↓lt_bind, ↓Option.bind_assoc, ↓bd_s, ↓lt_v, ↓ck_v, ↓reduceIte, Bool.false_eq_true, Bool.true_eq_false, nj_add, nj_addl, nj_addr, nj_mull, nj_mulr, nj_subr, nj_pred, ix_nI, ix_lit, inb_t, inb_l, nj_le_t, nj_le_f, nj_lel_t, nj_lel_f, nj_ler_t, nj_ler_f, nj_lt_t, nj_lt_f, nj_ltl_t, nj_ltl_f, nj_ltr_t, nj_ltr_f, nj_eq_t, nj_eq_f, nj_eqr_t, nj_eqr_f, nj_m1, nj_m2, h7]
      exact b1
    · rw [b2, gi_ne (by decide)]
      by_cases e : j = 20 + i
      · rw [if_neg (by omega), if_pos (by omega), e, gi_same, show 20 + i - 20 = i by omega]
      · rw [gi_dif e]
        by_cases e3 : 20 + (i + 1) ≤ j ∧ j < 20 + nm
        · rw [if_pos e3, if_pos (by omega)]
        · rw [if_neg e3, if_neg (by omega)]
/-- day 0 of a course -/
theorem begN {u : ST} {np nm : Nat} (hnp : np ≤ 5) (hnm : nm ≤ 8) (h7 : gi u 18 7 = nI np) (h8 : gi u 18 8 = nI nm) : ∃ z, fX5_begin_25_18_19 u = some z ∧ Fr [26] u z ∧ (∀ q, q < np → gi z 26 q = gi u 20 q ∧ gi z 26 (5 + q) = gi u 19 q) ∧ (∀ m, m < nm → gi z 26 (20 + m) = gi u 23 m ∧ gi z 26 (28 + m) = 0 ∧ gi z 26 (36 + m) = 0) ∧ (∀ j, 10 ≤ j → j < 20 → gi z 26 j = 0) ∧ gi z 26 44 = gi u 18 6 ∧ gi z 26 45 = 0 := by
  obtain ⟨f1, a1, a2, a3⟩ := fill_26 0 u
  obtain ⟨z1, b1, b2, b3⟩ := nb10 hnp np 0 FUEL f1 (by omega) (by rw [FUEL_eq]; omega) (by rw [a3.gi (by decide)]; exact h7)
  obtain ⟨z2, c1, c2, c3⟩ := nb51 hnm nm 0 FUEL z1 (by omega) (by rw [FUEL_eq]; omega) (by rw [b3.gi (by decide), a3.gi (by decide)]; exact h8)
  have c1 : fX5_begin_25_18_19_L51 FUEL 0 z1 = some (nI nm, z2) := c1
  have b1 : fX5_begin_25_18_19_L10 FUEL 0 f1 = some (nI np, z1) := b1
  have hz : ∀ j, j < 46 → gi z2 26 j = if 20 + 0 ≤ j ∧ j < 20 + nm then gi u 23 (j - 20) else if 0 ≤ j ∧ j < np then gi u 20 j else if 5 + 0 ≤ j ∧ j < 5 + np then gi u 19 (j - 5) else 0 := fun j hj => by
    rw [c2, b3.gi (by decide), a3.gi (by decide), b2, a3.gi (by decide), a3.gi (by decide), a2, if_pos hj]
  refine ⟨si z2 26 44 (gi u 18 6), ?_, ((a3.trans b3).trans c3).trans (Fr.si (by decide)), fun q hq => ⟨?_, ?_⟩, fun m hm => ⟨?_, ?_, ?_⟩, fun j h1 h2 => ?_, gi_same _ _ _ _, ?_⟩
  · unfold fX5_begin_25_18_19
    rw [a1, bd_s, b1, bd_s, c1, bd_s, ck_t (by decide), lt_v, ix_lit (by decide), c3.gi (by decide), b3.gi (by decide), a3.gi (by decide)]
  · rw [gi_dif (by omega), hz _ (by omega), if_neg (by omega), if_pos (by omega)]
  · rw [gi_dif (by omega), hz _ (by omega), if_neg (by omega), if_neg (by omega), if_pos (by omega), show 5 + q - 5 = q by omega]
  · rw [gi_dif (by omega), hz _ (by omega), if_pos (by omega), show 20 + m - 20 = m by omega]
  · rw [gi_dif (by omega), hz _ (by omega), if_neg (by omega), if_neg (by omega), if_neg (by omega)]
  · rw [gi_dif (by omega), hz _ (by omega), if_neg (by omega), if_neg (by omega), if_neg (by omega)]
  · rw [gi_dif (by omega), hz _ (by omega), if_neg (by omega), if_neg (by omega), if_neg (by omega)]
  · rw [gi_dif (by omega), hz _ (by omega), if_neg (by omega), if_neg (by omega), if_neg (by omega)]
section TB3
variable {B : Nat → Nat} {n : Nat}
theorem behind_both {s s' : ST} (h : MR B n s s') : ∃ o z z', (if gi s 1 3 = 0 then (fX8_isClauseBehind s).bind (fun q15 => if q15.1 = 0 then some (0, q15.2) else some (1, q15.2)) else some (0, s) : Option (Int32 × ST)) = some (o, z) ∧ fX12_goesOn s' = some (o, z') ∧ FC1 s z ∧ FV1 s' z' ∧ (∃ f, f ≤ 4000 ∧ gi z 1 3 = nI f ∧ gi z' 0 28 = nI f ∧ (f = 0 → gi s 1 3 = 0)) ∧ (o = 0 ∨ (o = 1 ∧ MR B n z z' ∧ gi z 1 3 = 0 ∧ gi s 1 3 = 0)) := by
  obtain ⟨t1, t2, t3⟩ := h
  have hn := t1.1
  rcases t3 with ⟨f, f1, f2, f3, f4, p, f5, f6⟩ | ⟨f3, f4, x, x', g1, g2, g3, g4, g5⟩
  · have nf : ¬ nI f = 0 := by rw [nj_eqr (by omega) (by decide)]; omega
    have hb := bl_500 (B := B) f5 hn
    refine ⟨0, s, si s' 0 27 (nI (bl B n p + 1)), by rw [f3, if_neg nf], ?_, fun _ _ _ => rfl, FV1.si (by omega), ⟨f, f2, f3, by rw [gi_dif (by decide)]; exact f4, fun e => by omega⟩, Or.inl rfl⟩
    unfold fX12_goesOn
    rw [blanks_ev t2 f6 (by omega), bd_s]
    simp only [gi_si, Nat.reduceEqDiff, if_true, if_false, f4, nf, bd_s, Bool.false_eq_true, lt_v]
    rw [ck_t (show bz 0 = true from rfl), nj_addr, si_si]
  · rw [if_pos f3]
    obtain ⟨z, pl, a1, a2, a3, a4, a5, a6, a7, a8⟩ := step_ev t1 g1 g4
    rw [g3] at a3 a5 a7 a8
    obtain ⟨st, hst⟩ : ∃ st, bl B n x' = st := ⟨_, rfl⟩
    rw [hst] at a3 a5 a7 a8
    have hsn : st ≤ n := by rw [← hst]; exact ru_le g2
    have z3 : gi z 1 3 = 0 := by rw [a2.1 _ _ (by omega)]; exact f3
    have tz := a2.TC t1
    have tv : TV (si s' 0 27 (nI st)) B n := TV_si t2 (by decide)
    have v28 : gi (si s' 0 27 (nI st)) 0 28 = 0 := by rw [gi_dif (by decide)]; exact f4
    have hbl : fX12_blanks s' = some (si s' 0 27 (nI st)) := by rw [blanks_ev t2 g5 (by omega), hst]
    have hsg := sg_ev tv (gi_same _ _ _ _) (show st < 1000000 by omega)
    have h26 : gi (si s' 0 27 (nI st)) 0 26 = nI n := tv.2.1
    unfold fX8_isClauseBehind fX12_goesOn
    rw [a1, bd_s, hbl, bd_s]
    by_cases ce : st = n
    · -- the end
      have htok : gi z 1 4 = -1 := by
        rcases a8 with ⟨e1, e2, e3⟩ | ⟨e1, _⟩ | ⟨e1, _⟩ | ⟨e1, _⟩
        · exact e2
        · omega
        · omega
        · omega
      have m59 : ((-1 : Int32) = 59) = False := eq_false (by decide)
      have hle : (nI n ≤ nI st) = True := by rw [nj_le (by omega) (by omega)]; exact eq_true (by omega)
      refine ⟨0, z, si s' 0 27 (nI (st + 1)), ?_, ?_, a2.c1, FV1.si (by omega), ⟨0, by omega, z3, by rw [gi_dif (by decide)]; exact f4, fun _ => f3⟩, Or.inl rfl⟩
      · simp only [htok, m59, if_false, if_true, bd_s, Bool.false_eq_true]
        rw [ck_t (show bz 0 = true from rfl), bd_s, if_pos rfl]
      · simp only [v28, if_true, h26, gi_same, hle, bd_s, Bool.false_eq_true, if_false, lt_v]
        rw [ck_t (show bz 0 = true from rfl), nj_addr, si_si]
    · have hlt : st < n := by omega
      have b1 := (t1.2.2 st hlt).1
      rw [if_pos hlt] at hsg
      have hle : (nI n ≤ nI st) = False := by rw [nj_le (by omega) (by omega)]; exact eq_false (by omega)
      by_cases cs : B st = 59
      · have hnd : isD (B st) = false ∧ isL (B st) = false := by rw [cs]; decide
        have htok : gi z 1 4 = 59 ∧ pl = st + 1 := by
          rcases a8 with ⟨e1, e2, e3⟩ | ⟨e1, e2, _⟩ | ⟨e1, _, e2, _⟩ | ⟨e1, e2, e3, e4⟩
          · omega
          · rw [hnd.1] at e2; cases e2
          · rw [hnd.2] at e2; cases e2
          · rcases e4 with ⟨⟨e5, _⟩, _⟩ | ⟨_, e5, e6⟩
            · omega
            · exact ⟨by rw [e5, cs]; rfl, e6⟩
        have b59 : (nI (B st) = 59) = True := by rw [cs]; exact eq_true rfl
        refine ⟨1, z, si s' 0 27 (nI (st + 1)), ?_, ?_, a2.c1, FV1.si (by omega), ⟨0, by omega, z3, by rw [gi_dif (by decide)]; exact f4, fun _ => f3⟩, Or.inr ⟨rfl, ⟨tz, TV_si t2 (by decide), Or.inr ⟨z3, by rw [gi_dif (by decide)]; exact f4, st + 1, st + 1, by omega, by omega, rfl, by rw [a4, htok.2], gi_same _ _ _ _⟩⟩, z3, f3⟩⟩
        · simp only [htok.1, if_true, if_false, bd_s, Bool.false_eq_true]
          rw [ck_t (show bz 1 = true from rfl), bd_s, if_neg n10]
        · simp only [v28, if_true, h26, gi_same, hle, hsg, b59, bd_s, Bool.false_eq_true, if_false, lt_v]
          rw [ck_t (show bz 1 = true from rfl), nj_addr, si_si]
      · have b59 : (nI (B st) = 59) = False := by rw [nj_eqr (by omega) (by decide)]; exact eq_false cs
        have htok : (gi z 1 4 = 59) = False ∧ (gi z 1 4 = -1) = False := by
          rcases a8 with ⟨e1, e2, e3⟩ | ⟨e1, e2, e3, _⟩ | ⟨e1, _, e2, e3, _⟩ | ⟨e1, e2, e3, e4⟩
          · omega
          · rw [e3]; exact ⟨eq_false (by decide), eq_false (by decide)⟩
          · rw [e3]; exact ⟨eq_false (by decide), eq_false (by decide)⟩
          · rcases e4 with ⟨e5, e6, e7⟩ | ⟨_, e6, e7⟩
            · rw [e6]
              refine ⟨?_, nj_m1 (by omega)⟩
              rw [nj_eqr (by omega) (by decide)]; exact eq_false (by omega)
            · rw [e6]
              exact ⟨b59, nj_m1 (by omega)⟩
        obtain ⟨y1, y2, y3, y4⟩ := mf (c := 0) (p := st) (p' := st) tz tv z3 v28 a3 (by omega) (by omega) (gi_same _ _ _ _) (by omega)
        have y1 : fX6_blame 0 z = some (si z 1 3 (nI (1 + 8 * st))) := y1
        have y2 : fX12_fails 0 (nI st) (si s' 0 27 (nI st)) = some (si (si s' 0 27 (nI st)) 0 28 (nI (1 + 8 * st))) := y2
        have nf : (nI (1 + 8 * st) = 0) = False := by rw [nj_eqr (by omega) (by decide)]; exact eq_false (by omega)
        have h4 : gi (si z 1 3 (nI (1 + 8 * st))) 1 4 = gi z 1 4 := gi_dif (by decide)
        refine ⟨0, si z 1 3 (nI (1 + 8 * st)), si (si (si s' 0 27 (nI st)) 0 28 (nI (1 + 8 * st))) 0 27 (nI (st + 1)), ?_, ?_, a2.c1.trans (FC1.si (by omega)), ((FV1.si (by omega)).trans (FV1.si (by omega))).trans (FV1.si (by omega)), ⟨1 + 8 * st, by omega, gi_same _ _ _ _, by rw [gi_dif (by decide), gi_same], fun e => by omega⟩, Or.inl rfl⟩
        · simp only [htok.1, htok.2, if_true, if_false, bd_s, y1, h4]
          rw [ck_t (show bz 0 = true from rfl), bd_s, if_pos rfl]
        · simp only [v28, if_true, h26, gi_same, hle, hsg, b59, bd_s, if_false, y2, nf, lt_v, Bool.false_eq_true, gi_dif (show (27 : Nat) ≠ 28 by decide)]
          rw [ck_t (show bz 0 = true from rfl), nj_addr]
theorem read_L : ∀ (m k f f' : Nat) (s s' : ST) (np nm : Nat), k + m = 40 → m + 2 < f → m + 2 < f' → MR B n s s' → gi s 1 3 = 0 → TT s s' np nm k →
    ∃ z z' x x' g, fX8_read_L23 f 1 (nI (k + 1)) s = some (0, x, z) ∧ fX12_readsAll_L44 f' (nI k) 1 s' = some (x', 0, z') ∧ g ≤ 4000 ∧ gi z 1 3 = nI g ∧ gi z' 0 28 = nI g ∧ FCt s z ∧ FVt s' z' ∧ (g = 0 → ∃ np nm k2, 1 ≤ k2 ∧ TT z z' np nm k2) := by
  intro m
  induction m with
  | zero =>
    intro k f f' s s' np nm hk hf hf' h h0 tt
    obtain ⟨f, rfl⟩ : ∃ m, f = m + 1 + 1 := ⟨f - 2, by omega⟩
    obtain ⟨f', rfl⟩ : ∃ m, f' = m + 1 + 1 := ⟨f' - 2, by omega⟩
    obtain ⟨z, z', a1, a2, a3, a4, a5, a6⟩ := clause_both h h0 tt (by omega)
    obtain ⟨o, y, y', b1, b2, b3, b4, ⟨g, g1, g2, g3, g4⟩, b6⟩ := behind_both a3
    have ho : o = 0 := by
      rcases b6 with e | ⟨_, _, _, e⟩
      · exact e
      · have := (a6 e).1; omega
    subst ho
    have c1 : (1 : Int32) = 0 ↔ False := by decide
    have c4 : (400 < nI (k + 1)) = False := by rw [nj_ltl (by decide) (by omega)]; exact eq_false (by omega)
    refine ⟨y, y', nI (k + 1) + 1, nI k + 1, g, ?_, ?_, g1, g2, g3, a4.trans b3.t, a5.trans b4.t, fun e => ?_⟩
    · rw [fX8_read_L23]
      simp only [i10, if_false, c4, bd_s, if_true, a1, b1, lt_v]
      rw [fX8_read_L23, if_pos rfl, bd_s, if_neg nft]
    · rw [fX12_readsAll_L44, if_neg n10, a2, bd_s, lt_v, b2, bd_s, fX12_readsAll_L44, if_pos rfl]
    · have := (a6 (g4 e)).1; omega
  | succ m ih =>
    intro k f f' s s' np nm hk hf hf' h h0 tt
    obtain ⟨f, rfl⟩ : ∃ m, f = m + 1 + 1 := ⟨f - 2, by omega⟩
    obtain ⟨f', rfl⟩ : ∃ m, f' = m + 1 + 1 := ⟨f' - 2, by omega⟩
    obtain ⟨z, z', a1, a2, a3, a4, a5, a6⟩ := clause_both h h0 tt (by omega)
    obtain ⟨o, y, y', b1, b2, b3, b4, ⟨g, g1, g2, g3, g4⟩, b6⟩ := behind_both a3
    have c4 : (400 < nI (k + 1)) = False := by rw [nj_ltl (by decide) (by omega)]; exact eq_false (by omega)
    rcases b6 with rfl | ⟨rfl, e1, e2, e3⟩
    · refine ⟨y, y', nI (k + 1) + 1, nI k + 1, g, ?_, ?_, g1, g2, g3, a4.trans b3.t, a5.trans b4.t, fun e => ?_⟩
      · rw [fX8_read_L23]
        simp only [i10, if_false, c4, bd_s, if_true, a1, b1, lt_v]
        rw [fX8_read_L23, if_pos rfl, bd_s, if_neg nft]
      · rw [fX12_readsAll_L44, if_neg n10, a2, bd_s, lt_v, b2, bd_s, fX12_readsAll_L44, if_pos rfl]
      · obtain ⟨_, np', nm', t⟩ := a6 (g4 e)
        exact ⟨np', nm', k + 1, by omega, TT_w t (fun a j x1 x2 => b3 a j (by omega)) (fun a j x1 x2 => b4 a j (by omega))⟩
    · obtain ⟨_, np', nm', t⟩ := a6 e3
      obtain ⟨w, w', x, x', g', d1, d2, d3, d4, d5, d6, d7, d8⟩ := ih (k + 1) (f + 1) (f' + 1) y y' np' nm' (by omega) (by omega) (by omega) e1 e2 (TT_w t (fun a j x1 x2 => b3 a j (by omega)) (fun a j x1 x2 => b4 a j (by omega)))
      refine ⟨w, w', x, x', g', ?_, ?_, d3, d4, d5, (a4.trans b3.t).trans d6, (a5.trans b4.t).trans d7, d8⟩
      · rw [fX8_read_L23]
        simp only [i10, if_false, c4, bd_s, if_true, a1, b1, lt_v, nj_addr]
        exact d1
      · rw [fX12_readsAll_L44, if_neg n10, a2, bd_s, lt_v, b2, bd_s, nj_addr]
        exact d2
theorem nsL : ∀ (m i f : Nat) (v : ST), i + m = 9 → m < f → ∃ z, fX12_readsAll_L6 f (nI i) v = some (nI 9, z) ∧ (∀ j, gi z 19 j = if i ≤ j ∧ j < 9 then (if j = 5 ∨ j = 6 then 1 else 0) else gi v 19 j) ∧ Fr [19] v z := by
  intro m
  induction m with
  | zero =>
    intro i f v hi hf
    obtain ⟨f, rfl⟩ : ∃ m, f = m + 1 := ⟨f - 1, by omega⟩
    obtain rfl : i = 9 := by omega
    refine ⟨v, ?_, fun j => ?_, Fr.rfl⟩
    · rw [fX12_readsAll_L6, if_pos (by decide)]
    · rw [if_neg (by omega)]
  | succ m ih =>
    intro i f v hi hf
    obtain ⟨f, rfl⟩ : ∃ m, f = m + 1 := ⟨f - 1, by omega⟩
    obtain ⟨z, b1, b2, b3⟩ := ih (i + 1) f (si v 19 i (if i = 5 ∨ i = 6 then 1 else 0)) (by omega) (by omega)
    refine ⟨z, ?_, fun j => ?_, (Fr.si (by decide)).trans b3⟩
    · rw [fX12_readsAll_L6]
      by_cases c5 : i = 5
      · subst c5
        simp (disch := omega) only [↓ite_bind, ↓ck_bind, ↓lt_bind, ↓Option.bind_assoc, ↓bd_s, ↓lt_v, ↓ck_v, ↓reduceIte, Bool.false_eq_true, Bool.true_eq_false, nj_add, nj_addl, nj_addr, nj_mull, nj_mulr, nj_subr, nj_pred, ix_nI, ix_lit, inb_t, inb_l, nj_le_t, nj_le_f, nj_lel_t, nj_lel_f, nj_ler_t, nj_ler_f, nj_lt_t, nj_lt_f, nj_ltl_t, nj_ltl_f, nj_ltr_t, nj_ltr_f, nj_eq_t, nj_eq_f, nj_eqr_t, nj_eqr_f, nj_m1, nj_m2]
        exact b1
      · by_cases c6 : i = 6
        · subst c6
          simp (disch := omega) only [↓ite_bind, ↓ck_bind, ↓lt_bind, ↓Option.bind_assoc, ↓bd_s, ↓lt_v, ↓ck_v, ↓reduceIte, Bool.false_eq_true, Bool.true_eq_false, nj_add, nj_addl, nj_addr, nj_mull, nj_mulr, nj_subr, nj_pred, ix_nI, ix_lit, inb_t, inb_l, nj_le_t, nj_le_f, nj_lel_t, nj_lel_f, nj_ler_t, nj_ler_f, nj_lt_t, nj_lt_f, nj_ltl_t, nj_ltl_f, nj_ltr_t, nj_ltr_f, nj_eq_t, nj_eq_f, nj_eqr_t, nj_eqr_f, nj_m1, nj_m2]
          exact b1
        · simp (disch := omega) only [↓ite_bind, ↓ck_bind, ↓lt_bind, ↓Option.bind_assoc, ↓bd_s, ↓lt_v, ↓ck_v, ↓reduceIte, Bool.false_eq_true, Bool.true_eq_false, nj_add, nj_addl, nj_addr, nj_mull, nj_mulr, nj_subr, nj_pred, ix_nI, ix_lit, inb_t, inb_l, nj_le_t, nj_le_f, nj_lel_t, nj_lel_f, nj_ler_t, nj_ler_f, nj_lt_t, nj_lt_f, nj_ltl_t, nj_ltl_f, nj_ltr_t, nj_ltr_f, nj_eq_t, nj_eq_f, nj_eqr_t, nj_eqr_f, nj_m1, nj_m2]
          rw [if_neg (by omega)] at b1
          exact b1
    · rw [b2]
      by_cases e : j = i
      · rw [if_neg (show ¬ (i + 1 ≤ j ∧ j < 9) by omega), if_pos (show i ≤ j ∧ j < 9 by omega), e, gi_same]
      · rw [gi_dif e]
        by_cases e2 : i + 1 ≤ j ∧ j < 9
        · rw [if_pos e2, if_pos (show i ≤ j ∧ j < 9 by omega)]
        · rw [if_neg e2, if_neg (show ¬ (i ≤ j ∧ j < 9) by omega)]
theorem scL : ∀ (m i f : Nat) (v : ST), i + m = 11 → m < f → ∃ z, fX12_town_L21 f (nI i) v = some (nI 11, z) ∧ (∀ j, gi z 1 j = if i ≤ j ∧ j < 11 then (if j < 9 then gi v 19 j else 0) else gi v 1 j) ∧ Fr [1] v z := by
  intro m
  induction m with
  | zero =>
    intro i f v hi hf
    obtain ⟨f, rfl⟩ : ∃ m, f = m + 1 := ⟨f - 1, by omega⟩
    obtain rfl : i = 11 := by omega
    refine ⟨v, ?_, fun j => ?_, Fr.rfl⟩
    · rw [fX12_town_L21, if_pos (by decide)]
    · rw [if_neg (by omega)]
  | succ m ih =>
    intro i f v hi hf
    obtain ⟨f, rfl⟩ : ∃ m, f = m + 1 := ⟨f - 1, by omega⟩
    obtain ⟨z, b1, b2, b3⟩ := ih (i + 1) f (si v 1 i (if i < 9 then gi v 19 i else 0)) (by omega) (by omega)
    refine ⟨z, ?_, fun j => ?_, (Fr.si (by decide)).trans b3⟩
    · rw [fX12_town_L21]
      by_cases c : i < 9
      · rw [if_pos c] at b1
        simp (disch := omega) only [↓ite_bind, ↓ck_bind, ↓lt_bind, ↓Option.bind_assoc, ↓bd_s, ↓lt_v, ↓ck_v, ↓reduceIte, Bool.false_eq_true, Bool.true_eq_false, nj_add, nj_addl, nj_addr, nj_mull, nj_mulr, nj_subr, nj_pred, ix_nI, ix_lit, inb_t, inb_l, nj_le_t, nj_le_f, nj_lel_t, nj_lel_f, nj_ler_t, nj_ler_f, nj_lt_t, nj_lt_f, nj_ltl_t, nj_ltl_f, nj_ltr_t, nj_ltr_f, nj_eq_t, nj_eq_f, nj_eqr_t, nj_eqr_f, nj_m1, nj_m2]
        exact b1
      · rw [if_neg c] at b1
        simp (disch := omega) only [↓ite_bind, ↓ck_bind, ↓lt_bind, ↓Option.bind_assoc, ↓bd_s, ↓lt_v, ↓ck_v, ↓reduceIte, Bool.false_eq_true, Bool.true_eq_false, nj_add, nj_addl, nj_addr, nj_mull, nj_mulr, nj_subr, nj_pred, ix_nI, ix_lit, inb_t, inb_l, nj_le_t, nj_le_f, nj_lel_t, nj_lel_f, nj_ler_t, nj_ler_f, nj_lt_t, nj_lt_f, nj_ltl_t, nj_ltl_f, nj_ltr_t, nj_ltr_f, nj_eq_t, nj_eq_f, nj_eqr_t, nj_eqr_f, nj_m1, nj_m2]
        exact b1
    · rw [b2, gi_ne (by decide)]
      by_cases e : j = i
      · rw [if_neg (show ¬ (i + 1 ≤ j ∧ j < 11) by omega), if_pos (show i ≤ j ∧ j < 11 by omega), e, gi_same]
      · rw [gi_dif e]
        by_cases e2 : i + 1 ≤ j ∧ j < 11
        · rw [if_pos e2, if_pos (show i ≤ j ∧ j < 11 by omega)]
        · rw [if_neg e2, if_neg (show ¬ (i ≤ j ∧ j < 11) by omega)]
end TB3
