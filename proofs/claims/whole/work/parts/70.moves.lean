/-! THE REFERENCE'S ROWS MOVED TO WHAT IS PAST AND BACK -/
theorem mvS {v : Int32} {s : ST} {p : Nat} (hp : p < 920) (h68 : gi s 0 68 = 0) (h67 : gi s 0 67 = nI p) : fX12_moves v s = some (v, si (si s 46 p v) 0 67 (nI (p + 1))) := by
  unfold fX12_moves
  simp (disch := omega) only [↓ite_bind, ↓ck_bind, ↓lt_bind, ↓Option.bind_assoc, ↓bd_s, ↓lt_v, ↓ck_v, ↓reduceIte, Bool.false_eq_true, Bool.true_eq_false, bd_s, nj_add, nj_addl, nj_addr, nj_mull, nj_mulr, nj_subr, nj_pred, ix_nI, ix_lit, inb_t, inb_l, h68, h67, gi_si, gi_sl, gl_si, gl_sl, gi_sAr, gl_sAr, mr_si, mr_sl, mr_sm, gi_sm, gl_sm, mr_sAr, Nat.reduceEqDiff]
theorem mvL {v : Int32} {s : ST} {p : Nat} (hp : p < 920) (h68 : gi s 0 68 = 1) (h67 : gi s 0 67 = nI p) : fX12_moves v s = some (gi s 46 p, si (si s 46 p (gi s 46 p)) 0 67 (nI (p + 1))) := by
  unfold fX12_moves
  simp (disch := omega) only [↓ite_bind, ↓ck_bind, ↓lt_bind, ↓Option.bind_assoc, ↓bd_s, ↓lt_v, ↓ck_v, ↓reduceIte, Bool.false_eq_true, Bool.true_eq_false, bd_s, nj_add, nj_addl, nj_addr, nj_mull, nj_mulr, nj_subr, nj_pred, ix_nI, ix_lit, inb_t, inb_l, h68, i10, h67, gi_si, gi_sl, gl_si, gl_sl, gi_sAr, gl_sAr, mr_si, mr_sl, mr_sm, gi_sm, gl_sm, mr_sAr, Nat.reduceEqDiff]
theorem ms3L {p : Nat} (hp : p + 5 ≤ 920) : ∀ (k i f : Nat) (s : ST), i + k = 5 → k < f → gi s 0 68 = 0 → gi s 0 67 = nI (p + i) →
    ∃ z, fX12_movesRow_3_L2 f (nI i) s = some (nI 5, z) ∧ gi z 0 67 = nI (p + 5) ∧ (∀ j, i ≤ j → j < 5 → gi z 46 (p + j) = gi s 3 j) ∧ (∀ j, j < p + i ∨ p + 5 ≤ j → gi z 46 j = gi s 46 j) ∧ (∀ j, j ≠ 67 → gi z 0 j = gi s 0 j) ∧ (∀ x j, x ≠ 0 → x ≠ 46 → gi z x j = gi s x j) := by
  intro k
  induction k with
  | zero =>
    intro i f s hi hf h81 h80
    obtain ⟨f, rfl⟩ : ∃ m, f = m + 1 := ⟨f - 1, by omega⟩
    obtain rfl : i = 5 := by omega
    refine ⟨s, ?_, h80, fun j h1 h2 => absurd h1 (by omega), fun _ _ => rfl, fun _ _ => rfl, fun _ _ _ _ => rfl⟩
    rw [fX12_movesRow_3_L2]
    simp (disch := omega) only [↓ite_bind, ↓ck_bind, ↓lt_bind, ↓Option.bind_assoc, ↓bd_s, ↓lt_v, ↓ck_v, ↓reduceIte, Bool.false_eq_true, Bool.true_eq_false, bd_s, nj_add, nj_addl, nj_addr, nj_mull, nj_mulr, nj_subr, nj_pred, ix_nI, ix_lit, inb_t, inb_l, nj_le_t, nj_le_f, nj_lel_t, nj_lel_f, nj_ler_t, nj_ler_f, nj_lt_t, nj_lt_f, nj_ltl_t, nj_ltl_f, nj_ltr_t, nj_ltr_f, nj_eq_t, nj_eq_f, nj_eqr_t, nj_eqr_f, nj_m1, nj_m2]
  | succ k ih =>
    intro i f s hi hf h81 h80
    obtain ⟨f, rfl⟩ : ∃ m, f = m + 1 := ⟨f - 1, by omega⟩
    obtain ⟨z, a1, a2, a3, a4, a5, a6⟩ := ih (i + 1) f (si (si (si s 46 (p + i) (gi s 3 i)) 0 67 (nI (p + i + 1))) 3 i (gi s 3 i)) (by omega) (by omega) (by rw [gi_ne (by decide), gi_dif (by decide), gi_ne (by decide)]; exact h81) (by rw [gi_ne (by decide), gi_same]; rfl)
    have hs : ∀ x j, x ≠ 0 → x ≠ 46 → gi (si (si (si s 46 (p + i) (gi s 3 i)) 0 67 (nI (p + i + 1))) 3 i (gi s 3 i)) x j = gi s x j := by
      intro x j h1 h2
      rw [gi_si]
      by_cases e : x = 3
      · rw [if_pos e, e]
        by_cases e2 : j = i
        · rw [if_pos e2, e2]
        · rw [if_neg e2, gi_ne (by decide), gi_ne (by decide)]
      · rw [if_neg e, gi_ne h1, gi_ne h2]
    refine ⟨z, ?_, a2, fun j h1 h2 => ?_, fun j hj => ?_, fun j hj => ?_, fun x j h1 h2 => (a6 x j h1 h2).trans (hs x j h1 h2)⟩
    · rw [fX12_movesRow_3_L2]
      simp (disch := omega) only [↓ite_bind, ↓ck_bind, ↓lt_bind, ↓Option.bind_assoc, ↓bd_s, ↓lt_v, ↓ck_v, ↓reduceIte, Bool.false_eq_true, Bool.true_eq_false, bd_s, nj_add, nj_addl, nj_addr, nj_mull, nj_mulr, nj_subr, nj_pred, ix_nI, ix_lit, inb_t, inb_l, nj_le_t, nj_le_f, nj_lel_t, nj_lel_f, nj_ler_t, nj_ler_f, nj_lt_t, nj_lt_f, nj_ltl_t, nj_ltl_f, nj_ltr_t, nj_ltr_f, nj_eq_t, nj_eq_f, nj_eqr_t, nj_eqr_f, nj_m1, nj_m2, mvS (p := p + i) (by omega) h81 h80]
      exact a1
    · by_cases e : j = i
      · rw [e, a4 _ (by omega), gi_ne (by decide), gi_ne (by decide), gi_same]
      · rw [a3 j (by omega) h2]; exact hs _ _ (by decide) (by decide)
    · rw [a4 j (by omega), gi_ne (by decide), gi_ne (by decide), gi_dif (by omega)]
    · rw [a5 j hj, gi_ne (by decide), gi_dif hj, gi_ne (by decide)]
theorem ms3 {p : Nat} {s : ST} (hp : p + 5 ≤ 920) (h81 : gi s 0 68 = 0) (h80 : gi s 0 67 = nI p) : ∃ z, fX12_movesRow_3 s = some z ∧ gi z 0 67 = nI (p + 5) ∧ (∀ j, j < 5 → gi z 46 (p + j) = gi s 3 j) ∧ (∀ j, j < p ∨ p + 5 ≤ j → gi z 46 j = gi s 46 j) ∧ (∀ j, j ≠ 67 → gi z 0 j = gi s 0 j) ∧ (∀ x j, x ≠ 0 → x ≠ 46 → gi z x j = gi s x j) := by
  obtain ⟨z, a1, a2, a3, a4, a5, a6⟩ := ms3L hp 5 0 FUEL s (by omega) (by rw [FUEL_eq]; omega) h81 h80
  refine ⟨z, ?_, a2, fun j hj => a3 j (by omega) hj, fun j hj => a4 j (by omega), a5, a6⟩
  unfold fX12_movesRow_3
  rw [show (0 : Int32) = nI 0 from rfl, a1]
  exact id (Eq.refl _)
theorem ml3L {p : Nat} (hp : p + 5 ≤ 920) : ∀ (k i f : Nat) (s : ST), i + k = 5 → k < f → gi s 0 68 = 1 → gi s 0 67 = nI (p + i) →
    ∃ z, fX12_movesRow_3_L2 f (nI i) s = some (nI 5, z) ∧ gi z 0 67 = nI (p + 5) ∧ (∀ j, i ≤ j → j < 5 → gi z 3 j = gi s 46 (p + j)) ∧ (∀ j, j < i ∨ 5 ≤ j → gi z 3 j = gi s 3 j) ∧ (∀ j, j ≠ 67 → gi z 0 j = gi s 0 j) ∧ (∀ x j, x ≠ 0 → x ≠ 3 → gi z x j = gi s x j) := by
  intro k
  induction k with
  | zero =>
    intro i f s hi hf h81 h80
    obtain ⟨f, rfl⟩ : ∃ m, f = m + 1 := ⟨f - 1, by omega⟩
    obtain rfl : i = 5 := by omega
    refine ⟨s, ?_, h80, fun j h1 h2 => absurd h1 (by omega), fun _ _ => rfl, fun _ _ => rfl, fun _ _ _ _ => rfl⟩
    rw [fX12_movesRow_3_L2]
    simp (disch := omega) only [↓ite_bind, ↓ck_bind, ↓lt_bind, ↓Option.bind_assoc, ↓bd_s, ↓lt_v, ↓ck_v, ↓reduceIte, Bool.false_eq_true, Bool.true_eq_false, bd_s, nj_add, nj_addl, nj_addr, nj_mull, nj_mulr, nj_subr, nj_pred, ix_nI, ix_lit, inb_t, inb_l, nj_le_t, nj_le_f, nj_lel_t, nj_lel_f, nj_ler_t, nj_ler_f, nj_lt_t, nj_lt_f, nj_ltl_t, nj_ltl_f, nj_ltr_t, nj_ltr_f, nj_eq_t, nj_eq_f, nj_eqr_t, nj_eqr_f, nj_m1, nj_m2]
  | succ k ih =>
    intro i f s hi hf h81 h80
    obtain ⟨f, rfl⟩ : ∃ m, f = m + 1 := ⟨f - 1, by omega⟩
    obtain ⟨z, a1, a2, a3, a4, a5, a6⟩ := ih (i + 1) f (si (si (si s 46 (p + i) (gi s 46 (p + i))) 0 67 (nI (p + i + 1))) 3 i (gi s 46 (p + i))) (by omega) (by omega) (by rw [gi_ne (by decide), gi_dif (by decide), gi_ne (by decide)]; exact h81) (by rw [gi_ne (by decide), gi_same]; rfl)
    have hs : ∀ x j, x ≠ 0 → x ≠ 3 → gi (si (si (si s 46 (p + i) (gi s 46 (p + i))) 0 67 (nI (p + i + 1))) 3 i (gi s 46 (p + i))) x j = gi s x j := by
      intro x j h1 h2
      rw [gi_ne h2, gi_ne h1, gi_si]
      by_cases e : x = 46
      · rw [if_pos e, e]
        by_cases e2 : j = p + i
        · rw [if_pos e2, e2]
        · rw [if_neg e2]
      · rw [if_neg e]
    refine ⟨z, ?_, a2, fun j h1 h2 => ?_, fun j hj => ?_, fun j hj => ?_, fun x j h1 h2 => (a6 x j h1 h2).trans (hs x j h1 h2)⟩
    · rw [fX12_movesRow_3_L2]
      simp (disch := omega) only [↓ite_bind, ↓ck_bind, ↓lt_bind, ↓Option.bind_assoc, ↓bd_s, ↓lt_v, ↓ck_v, ↓reduceIte, Bool.false_eq_true, Bool.true_eq_false, bd_s, nj_add, nj_addl, nj_addr, nj_mull, nj_mulr, nj_subr, nj_pred, ix_nI, ix_lit, inb_t, inb_l, nj_le_t, nj_le_f, nj_lel_t, nj_lel_f, nj_ler_t, nj_ler_f, nj_lt_t, nj_lt_f, nj_ltl_t, nj_ltl_f, nj_ltr_t, nj_ltr_f, nj_eq_t, nj_eq_f, nj_eqr_t, nj_eqr_f, nj_m1, nj_m2, mvL (p := p + i) (by omega) h81 h80]
      exact a1
    · by_cases e : j = i
      · rw [e, a4 _ (by omega), gi_same]
      · rw [a3 j (by omega) h2]; exact hs _ _ (by decide) (by decide)
    · rw [a4 j (by omega), gi_dif (by omega), gi_ne (by decide), gi_ne (by decide)]
    · rw [a5 j hj, gi_ne (by decide), gi_dif hj, gi_ne (by decide)]
theorem ml3 {p : Nat} {s : ST} (hp : p + 5 ≤ 920) (h81 : gi s 0 68 = 1) (h80 : gi s 0 67 = nI p) : ∃ z, fX12_movesRow_3 s = some z ∧ gi z 0 67 = nI (p + 5) ∧ (∀ j, j < 5 → gi z 3 j = gi s 46 (p + j)) ∧ (∀ j, 5 ≤ j → gi z 3 j = gi s 3 j) ∧ (∀ j, j ≠ 67 → gi z 0 j = gi s 0 j) ∧ (∀ x j, x ≠ 0 → x ≠ 3 → gi z x j = gi s x j) := by
  obtain ⟨z, a1, a2, a3, a4, a5, a6⟩ := ml3L hp 5 0 FUEL s (by omega) (by rw [FUEL_eq]; omega) h81 h80
  refine ⟨z, ?_, a2, fun j hj => a3 j (by omega) hj, fun j hj => a4 j (by omega), a5, a6⟩
  unfold fX12_movesRow_3
  rw [show (0 : Int32) = nI 0 from rfl, a1]
  exact id (Eq.refl _)
theorem ms4L {p : Nat} (hp : p + 5 ≤ 920) : ∀ (k i f : Nat) (s : ST), i + k = 5 → k < f → gi s 0 68 = 0 → gi s 0 67 = nI (p + i) →
    ∃ z, fX12_movesRow_4_L2 f (nI i) s = some (nI 5, z) ∧ gi z 0 67 = nI (p + 5) ∧ (∀ j, i ≤ j → j < 5 → gi z 46 (p + j) = gi s 4 j) ∧ (∀ j, j < p + i ∨ p + 5 ≤ j → gi z 46 j = gi s 46 j) ∧ (∀ j, j ≠ 67 → gi z 0 j = gi s 0 j) ∧ (∀ x j, x ≠ 0 → x ≠ 46 → gi z x j = gi s x j) := by
  intro k
  induction k with
  | zero =>
    intro i f s hi hf h81 h80
    obtain ⟨f, rfl⟩ : ∃ m, f = m + 1 := ⟨f - 1, by omega⟩
    obtain rfl : i = 5 := by omega
    refine ⟨s, ?_, h80, fun j h1 h2 => absurd h1 (by omega), fun _ _ => rfl, fun _ _ => rfl, fun _ _ _ _ => rfl⟩
    rw [fX12_movesRow_4_L2]
    simp (disch := omega) only [↓ite_bind, ↓ck_bind, ↓lt_bind, ↓Option.bind_assoc, ↓bd_s, ↓lt_v, ↓ck_v, ↓reduceIte, Bool.false_eq_true, Bool.true_eq_false, bd_s, nj_add, nj_addl, nj_addr, nj_mull, nj_mulr, nj_subr, nj_pred, ix_nI, ix_lit, inb_t, inb_l, nj_le_t, nj_le_f, nj_lel_t, nj_lel_f, nj_ler_t, nj_ler_f, nj_lt_t, nj_lt_f, nj_ltl_t, nj_ltl_f, nj_ltr_t, nj_ltr_f, nj_eq_t, nj_eq_f, nj_eqr_t, nj_eqr_f, nj_m1, nj_m2]
  | succ k ih =>
    intro i f s hi hf h81 h80
    obtain ⟨f, rfl⟩ : ∃ m, f = m + 1 := ⟨f - 1, by omega⟩
    obtain ⟨z, a1, a2, a3, a4, a5, a6⟩ := ih (i + 1) f (si (si (si s 46 (p + i) (gi s 4 i)) 0 67 (nI (p + i + 1))) 4 i (gi s 4 i)) (by omega) (by omega) (by rw [gi_ne (by decide), gi_dif (by decide), gi_ne (by decide)]; exact h81) (by rw [gi_ne (by decide), gi_same]; rfl)
    have hs : ∀ x j, x ≠ 0 → x ≠ 46 → gi (si (si (si s 46 (p + i) (gi s 4 i)) 0 67 (nI (p + i + 1))) 4 i (gi s 4 i)) x j = gi s x j := by
      intro x j h1 h2
      rw [gi_si]
      by_cases e : x = 4
      · rw [if_pos e, e]
        by_cases e2 : j = i
        · rw [if_pos e2, e2]
        · rw [if_neg e2, gi_ne (by decide), gi_ne (by decide)]
      · rw [if_neg e, gi_ne h1, gi_ne h2]
    refine ⟨z, ?_, a2, fun j h1 h2 => ?_, fun j hj => ?_, fun j hj => ?_, fun x j h1 h2 => (a6 x j h1 h2).trans (hs x j h1 h2)⟩
    · rw [fX12_movesRow_4_L2]
      simp (disch := omega) only [↓ite_bind, ↓ck_bind, ↓lt_bind, ↓Option.bind_assoc, ↓bd_s, ↓lt_v, ↓ck_v, ↓reduceIte, Bool.false_eq_true, Bool.true_eq_false, bd_s, nj_add, nj_addl, nj_addr, nj_mull, nj_mulr, nj_subr, nj_pred, ix_nI, ix_lit, inb_t, inb_l, nj_le_t, nj_le_f, nj_lel_t, nj_lel_f, nj_ler_t, nj_ler_f, nj_lt_t, nj_lt_f, nj_ltl_t, nj_ltl_f, nj_ltr_t, nj_ltr_f, nj_eq_t, nj_eq_f, nj_eqr_t, nj_eqr_f, nj_m1, nj_m2, mvS (p := p + i) (by omega) h81 h80]
      exact a1
    · by_cases e : j = i
      · rw [e, a4 _ (by omega), gi_ne (by decide), gi_ne (by decide), gi_same]
      · rw [a3 j (by omega) h2]; exact hs _ _ (by decide) (by decide)
    · rw [a4 j (by omega), gi_ne (by decide), gi_ne (by decide), gi_dif (by omega)]
    · rw [a5 j hj, gi_ne (by decide), gi_dif hj, gi_ne (by decide)]
theorem ms4 {p : Nat} {s : ST} (hp : p + 5 ≤ 920) (h81 : gi s 0 68 = 0) (h80 : gi s 0 67 = nI p) : ∃ z, fX12_movesRow_4 s = some z ∧ gi z 0 67 = nI (p + 5) ∧ (∀ j, j < 5 → gi z 46 (p + j) = gi s 4 j) ∧ (∀ j, j < p ∨ p + 5 ≤ j → gi z 46 j = gi s 46 j) ∧ (∀ j, j ≠ 67 → gi z 0 j = gi s 0 j) ∧ (∀ x j, x ≠ 0 → x ≠ 46 → gi z x j = gi s x j) := by
  obtain ⟨z, a1, a2, a3, a4, a5, a6⟩ := ms4L hp 5 0 FUEL s (by omega) (by rw [FUEL_eq]; omega) h81 h80
  refine ⟨z, ?_, a2, fun j hj => a3 j (by omega) hj, fun j hj => a4 j (by omega), a5, a6⟩
  unfold fX12_movesRow_4
  rw [show (0 : Int32) = nI 0 from rfl, a1]
  exact id (Eq.refl _)
theorem ml4L {p : Nat} (hp : p + 5 ≤ 920) : ∀ (k i f : Nat) (s : ST), i + k = 5 → k < f → gi s 0 68 = 1 → gi s 0 67 = nI (p + i) →
    ∃ z, fX12_movesRow_4_L2 f (nI i) s = some (nI 5, z) ∧ gi z 0 67 = nI (p + 5) ∧ (∀ j, i ≤ j → j < 5 → gi z 4 j = gi s 46 (p + j)) ∧ (∀ j, j < i ∨ 5 ≤ j → gi z 4 j = gi s 4 j) ∧ (∀ j, j ≠ 67 → gi z 0 j = gi s 0 j) ∧ (∀ x j, x ≠ 0 → x ≠ 4 → gi z x j = gi s x j) := by
  intro k
  induction k with
  | zero =>
    intro i f s hi hf h81 h80
    obtain ⟨f, rfl⟩ : ∃ m, f = m + 1 := ⟨f - 1, by omega⟩
    obtain rfl : i = 5 := by omega
    refine ⟨s, ?_, h80, fun j h1 h2 => absurd h1 (by omega), fun _ _ => rfl, fun _ _ => rfl, fun _ _ _ _ => rfl⟩
    rw [fX12_movesRow_4_L2]
    simp (disch := omega) only [↓ite_bind, ↓ck_bind, ↓lt_bind, ↓Option.bind_assoc, ↓bd_s, ↓lt_v, ↓ck_v, ↓reduceIte, Bool.false_eq_true, Bool.true_eq_false, bd_s, nj_add, nj_addl, nj_addr, nj_mull, nj_mulr, nj_subr, nj_pred, ix_nI, ix_lit, inb_t, inb_l, nj_le_t, nj_le_f, nj_lel_t, nj_lel_f, nj_ler_t, nj_ler_f, nj_lt_t, nj_lt_f, nj_ltl_t, nj_ltl_f, nj_ltr_t, nj_ltr_f, nj_eq_t, nj_eq_f, nj_eqr_t, nj_eqr_f, nj_m1, nj_m2]
  | succ k ih =>
    intro i f s hi hf h81 h80
    obtain ⟨f, rfl⟩ : ∃ m, f = m + 1 := ⟨f - 1, by omega⟩
    obtain ⟨z, a1, a2, a3, a4, a5, a6⟩ := ih (i + 1) f (si (si (si s 46 (p + i) (gi s 46 (p + i))) 0 67 (nI (p + i + 1))) 4 i (gi s 46 (p + i))) (by omega) (by omega) (by rw [gi_ne (by decide), gi_dif (by decide), gi_ne (by decide)]; exact h81) (by rw [gi_ne (by decide), gi_same]; rfl)
    have hs : ∀ x j, x ≠ 0 → x ≠ 4 → gi (si (si (si s 46 (p + i) (gi s 46 (p + i))) 0 67 (nI (p + i + 1))) 4 i (gi s 46 (p + i))) x j = gi s x j := by
      intro x j h1 h2
      rw [gi_ne h2, gi_ne h1, gi_si]
      by_cases e : x = 46
      · rw [if_pos e, e]
        by_cases e2 : j = p + i
        · rw [if_pos e2, e2]
        · rw [if_neg e2]
      · rw [if_neg e]
    refine ⟨z, ?_, a2, fun j h1 h2 => ?_, fun j hj => ?_, fun j hj => ?_, fun x j h1 h2 => (a6 x j h1 h2).trans (hs x j h1 h2)⟩
    · rw [fX12_movesRow_4_L2]
      simp (disch := omega) only [↓ite_bind, ↓ck_bind, ↓lt_bind, ↓Option.bind_assoc, ↓bd_s, ↓lt_v, ↓ck_v, ↓reduceIte, Bool.false_eq_true, Bool.true_eq_false, bd_s, nj_add, nj_addl, nj_addr, nj_mull, nj_mulr, nj_subr, nj_pred, ix_nI, ix_lit, inb_t, inb_l, nj_le_t, nj_le_f, nj_lel_t, nj_lel_f, nj_ler_t, nj_ler_f, nj_lt_t, nj_lt_f, nj_ltl_t, nj_ltl_f, nj_ltr_t, nj_ltr_f, nj_eq_t, nj_eq_f, nj_eqr_t, nj_eqr_f, nj_m1, nj_m2, mvL (p := p + i) (by omega) h81 h80]
      exact a1
    · by_cases e : j = i
      · rw [e, a4 _ (by omega), gi_same]
      · rw [a3 j (by omega) h2]; exact hs _ _ (by decide) (by decide)
    · rw [a4 j (by omega), gi_dif (by omega), gi_ne (by decide), gi_ne (by decide)]
    · rw [a5 j hj, gi_ne (by decide), gi_dif hj, gi_ne (by decide)]
theorem ml4 {p : Nat} {s : ST} (hp : p + 5 ≤ 920) (h81 : gi s 0 68 = 1) (h80 : gi s 0 67 = nI p) : ∃ z, fX12_movesRow_4 s = some z ∧ gi z 0 67 = nI (p + 5) ∧ (∀ j, j < 5 → gi z 4 j = gi s 46 (p + j)) ∧ (∀ j, 5 ≤ j → gi z 4 j = gi s 4 j) ∧ (∀ j, j ≠ 67 → gi z 0 j = gi s 0 j) ∧ (∀ x j, x ≠ 0 → x ≠ 4 → gi z x j = gi s x j) := by
  obtain ⟨z, a1, a2, a3, a4, a5, a6⟩ := ml4L hp 5 0 FUEL s (by omega) (by rw [FUEL_eq]; omega) h81 h80
  refine ⟨z, ?_, a2, fun j hj => a3 j (by omega) hj, fun j hj => a4 j (by omega), a5, a6⟩
  unfold fX12_movesRow_4
  rw [show (0 : Int32) = nI 0 from rfl, a1]
  exact id (Eq.refl _)
theorem ms5L {p : Nat} (hp : p + 5 ≤ 920) : ∀ (k i f : Nat) (s : ST), i + k = 5 → k < f → gi s 0 68 = 0 → gi s 0 67 = nI (p + i) →
    ∃ z, fX12_movesRow_5_L2 f (nI i) s = some (nI 5, z) ∧ gi z 0 67 = nI (p + 5) ∧ (∀ j, i ≤ j → j < 5 → gi z 46 (p + j) = gi s 5 j) ∧ (∀ j, j < p + i ∨ p + 5 ≤ j → gi z 46 j = gi s 46 j) ∧ (∀ j, j ≠ 67 → gi z 0 j = gi s 0 j) ∧ (∀ x j, x ≠ 0 → x ≠ 46 → gi z x j = gi s x j) := by
  intro k
  induction k with
  | zero =>
    intro i f s hi hf h81 h80
    obtain ⟨f, rfl⟩ : ∃ m, f = m + 1 := ⟨f - 1, by omega⟩
    obtain rfl : i = 5 := by omega
    refine ⟨s, ?_, h80, fun j h1 h2 => absurd h1 (by omega), fun _ _ => rfl, fun _ _ => rfl, fun _ _ _ _ => rfl⟩
    rw [fX12_movesRow_5_L2]
    simp (disch := omega) only [↓ite_bind, ↓ck_bind, ↓lt_bind, ↓Option.bind_assoc, ↓bd_s, ↓lt_v, ↓ck_v, ↓reduceIte, Bool.false_eq_true, Bool.true_eq_false, bd_s, nj_add, nj_addl, nj_addr, nj_mull, nj_mulr, nj_subr, nj_pred, ix_nI, ix_lit, inb_t, inb_l, nj_le_t, nj_le_f, nj_lel_t, nj_lel_f, nj_ler_t, nj_ler_f, nj_lt_t, nj_lt_f, nj_ltl_t, nj_ltl_f, nj_ltr_t, nj_ltr_f, nj_eq_t, nj_eq_f, nj_eqr_t, nj_eqr_f, nj_m1, nj_m2]
  | succ k ih =>
    intro i f s hi hf h81 h80
    obtain ⟨f, rfl⟩ : ∃ m, f = m + 1 := ⟨f - 1, by omega⟩
    obtain ⟨z, a1, a2, a3, a4, a5, a6⟩ := ih (i + 1) f (si (si (si s 46 (p + i) (gi s 5 i)) 0 67 (nI (p + i + 1))) 5 i (gi s 5 i)) (by omega) (by omega) (by rw [gi_ne (by decide), gi_dif (by decide), gi_ne (by decide)]; exact h81) (by rw [gi_ne (by decide), gi_same]; rfl)
    have hs : ∀ x j, x ≠ 0 → x ≠ 46 → gi (si (si (si s 46 (p + i) (gi s 5 i)) 0 67 (nI (p + i + 1))) 5 i (gi s 5 i)) x j = gi s x j := by
      intro x j h1 h2
      rw [gi_si]
      by_cases e : x = 5
      · rw [if_pos e, e]
        by_cases e2 : j = i
        · rw [if_pos e2, e2]
        · rw [if_neg e2, gi_ne (by decide), gi_ne (by decide)]
      · rw [if_neg e, gi_ne h1, gi_ne h2]
    refine ⟨z, ?_, a2, fun j h1 h2 => ?_, fun j hj => ?_, fun j hj => ?_, fun x j h1 h2 => (a6 x j h1 h2).trans (hs x j h1 h2)⟩
    · rw [fX12_movesRow_5_L2]
      simp (disch := omega) only [↓ite_bind, ↓ck_bind, ↓lt_bind, ↓Option.bind_assoc, ↓bd_s, ↓lt_v, ↓ck_v, ↓reduceIte, Bool.false_eq_true, Bool.true_eq_false, bd_s, nj_add, nj_addl, nj_addr, nj_mull, nj_mulr, nj_subr, nj_pred, ix_nI, ix_lit, inb_t, inb_l, nj_le_t, nj_le_f, nj_lel_t, nj_lel_f, nj_ler_t, nj_ler_f, nj_lt_t, nj_lt_f, nj_ltl_t, nj_ltl_f, nj_ltr_t, nj_ltr_f, nj_eq_t, nj_eq_f, nj_eqr_t, nj_eqr_f, nj_m1, nj_m2, mvS (p := p + i) (by omega) h81 h80]
      exact a1
    · by_cases e : j = i
      · rw [e, a4 _ (by omega), gi_ne (by decide), gi_ne (by decide), gi_same]
      · rw [a3 j (by omega) h2]; exact hs _ _ (by decide) (by decide)
    · rw [a4 j (by omega), gi_ne (by decide), gi_ne (by decide), gi_dif (by omega)]
    · rw [a5 j hj, gi_ne (by decide), gi_dif hj, gi_ne (by decide)]
theorem ms5 {p : Nat} {s : ST} (hp : p + 5 ≤ 920) (h81 : gi s 0 68 = 0) (h80 : gi s 0 67 = nI p) : ∃ z, fX12_movesRow_5 s = some z ∧ gi z 0 67 = nI (p + 5) ∧ (∀ j, j < 5 → gi z 46 (p + j) = gi s 5 j) ∧ (∀ j, j < p ∨ p + 5 ≤ j → gi z 46 j = gi s 46 j) ∧ (∀ j, j ≠ 67 → gi z 0 j = gi s 0 j) ∧ (∀ x j, x ≠ 0 → x ≠ 46 → gi z x j = gi s x j) := by
  obtain ⟨z, a1, a2, a3, a4, a5, a6⟩ := ms5L hp 5 0 FUEL s (by omega) (by rw [FUEL_eq]; omega) h81 h80
  refine ⟨z, ?_, a2, fun j hj => a3 j (by omega) hj, fun j hj => a4 j (by omega), a5, a6⟩
  unfold fX12_movesRow_5
  rw [show (0 : Int32) = nI 0 from rfl, a1]
  exact id (Eq.refl _)
theorem ml5L {p : Nat} (hp : p + 5 ≤ 920) : ∀ (k i f : Nat) (s : ST), i + k = 5 → k < f → gi s 0 68 = 1 → gi s 0 67 = nI (p + i) →
    ∃ z, fX12_movesRow_5_L2 f (nI i) s = some (nI 5, z) ∧ gi z 0 67 = nI (p + 5) ∧ (∀ j, i ≤ j → j < 5 → gi z 5 j = gi s 46 (p + j)) ∧ (∀ j, j < i ∨ 5 ≤ j → gi z 5 j = gi s 5 j) ∧ (∀ j, j ≠ 67 → gi z 0 j = gi s 0 j) ∧ (∀ x j, x ≠ 0 → x ≠ 5 → gi z x j = gi s x j) := by
  intro k
  induction k with
  | zero =>
    intro i f s hi hf h81 h80
    obtain ⟨f, rfl⟩ : ∃ m, f = m + 1 := ⟨f - 1, by omega⟩
    obtain rfl : i = 5 := by omega
    refine ⟨s, ?_, h80, fun j h1 h2 => absurd h1 (by omega), fun _ _ => rfl, fun _ _ => rfl, fun _ _ _ _ => rfl⟩
    rw [fX12_movesRow_5_L2]
    simp (disch := omega) only [↓ite_bind, ↓ck_bind, ↓lt_bind, ↓Option.bind_assoc, ↓bd_s, ↓lt_v, ↓ck_v, ↓reduceIte, Bool.false_eq_true, Bool.true_eq_false, bd_s, nj_add, nj_addl, nj_addr, nj_mull, nj_mulr, nj_subr, nj_pred, ix_nI, ix_lit, inb_t, inb_l, nj_le_t, nj_le_f, nj_lel_t, nj_lel_f, nj_ler_t, nj_ler_f, nj_lt_t, nj_lt_f, nj_ltl_t, nj_ltl_f, nj_ltr_t, nj_ltr_f, nj_eq_t, nj_eq_f, nj_eqr_t, nj_eqr_f, nj_m1, nj_m2]
  | succ k ih =>
    intro i f s hi hf h81 h80
    obtain ⟨f, rfl⟩ : ∃ m, f = m + 1 := ⟨f - 1, by omega⟩
    obtain ⟨z, a1, a2, a3, a4, a5, a6⟩ := ih (i + 1) f (si (si (si s 46 (p + i) (gi s 46 (p + i))) 0 67 (nI (p + i + 1))) 5 i (gi s 46 (p + i))) (by omega) (by omega) (by rw [gi_ne (by decide), gi_dif (by decide), gi_ne (by decide)]; exact h81) (by rw [gi_ne (by decide), gi_same]; rfl)
    have hs : ∀ x j, x ≠ 0 → x ≠ 5 → gi (si (si (si s 46 (p + i) (gi s 46 (p + i))) 0 67 (nI (p + i + 1))) 5 i (gi s 46 (p + i))) x j = gi s x j := by
      intro x j h1 h2
      rw [gi_ne h2, gi_ne h1, gi_si]
      by_cases e : x = 46
      · rw [if_pos e, e]
        by_cases e2 : j = p + i
        · rw [if_pos e2, e2]
        · rw [if_neg e2]
      · rw [if_neg e]
    refine ⟨z, ?_, a2, fun j h1 h2 => ?_, fun j hj => ?_, fun j hj => ?_, fun x j h1 h2 => (a6 x j h1 h2).trans (hs x j h1 h2)⟩
    · rw [fX12_movesRow_5_L2]
      simp (disch := omega) only [↓ite_bind, ↓ck_bind, ↓lt_bind, ↓Option.bind_assoc, ↓bd_s, ↓lt_v, ↓ck_v, ↓reduceIte, Bool.false_eq_true, Bool.true_eq_false, bd_s, nj_add, nj_addl, nj_addr, nj_mull, nj_mulr, nj_subr, nj_pred, ix_nI, ix_lit, inb_t, inb_l, nj_le_t, nj_le_f, nj_lel_t, nj_lel_f, nj_ler_t, nj_ler_f, nj_lt_t, nj_lt_f, nj_ltl_t, nj_ltl_f, nj_ltr_t, nj_ltr_f, nj_eq_t, nj_eq_f, nj_eqr_t, nj_eqr_f, nj_m1, nj_m2, mvL (p := p + i) (by omega) h81 h80]
      exact a1
    · by_cases e : j = i
      · rw [e, a4 _ (by omega), gi_same]
      · rw [a3 j (by omega) h2]; exact hs _ _ (by decide) (by decide)
    · rw [a4 j (by omega), gi_dif (by omega), gi_ne (by decide), gi_ne (by decide)]
    · rw [a5 j hj, gi_ne (by decide), gi_dif hj, gi_ne (by decide)]
theorem ml5 {p : Nat} {s : ST} (hp : p + 5 ≤ 920) (h81 : gi s 0 68 = 1) (h80 : gi s 0 67 = nI p) : ∃ z, fX12_movesRow_5 s = some z ∧ gi z 0 67 = nI (p + 5) ∧ (∀ j, j < 5 → gi z 5 j = gi s 46 (p + j)) ∧ (∀ j, 5 ≤ j → gi z 5 j = gi s 5 j) ∧ (∀ j, j ≠ 67 → gi z 0 j = gi s 0 j) ∧ (∀ x j, x ≠ 0 → x ≠ 5 → gi z x j = gi s x j) := by
  obtain ⟨z, a1, a2, a3, a4, a5, a6⟩ := ml5L hp 5 0 FUEL s (by omega) (by rw [FUEL_eq]; omega) h81 h80
  refine ⟨z, ?_, a2, fun j hj => a3 j (by omega) hj, fun j hj => a4 j (by omega), a5, a6⟩
  unfold fX12_movesRow_5
  rw [show (0 : Int32) = nI 0 from rfl, a1]
  exact id (Eq.refl _)
theorem ms6L {p : Nat} (hp : p + 5 ≤ 920) : ∀ (k i f : Nat) (s : ST), i + k = 5 → k < f → gi s 0 68 = 0 → gi s 0 67 = nI (p + i) →
    ∃ z, fX12_movesRow_6_L2 f (nI i) s = some (nI 5, z) ∧ gi z 0 67 = nI (p + 5) ∧ (∀ j, i ≤ j → j < 5 → gi z 46 (p + j) = gi s 6 j) ∧ (∀ j, j < p + i ∨ p + 5 ≤ j → gi z 46 j = gi s 46 j) ∧ (∀ j, j ≠ 67 → gi z 0 j = gi s 0 j) ∧ (∀ x j, x ≠ 0 → x ≠ 46 → gi z x j = gi s x j) := by
  intro k
  induction k with
  | zero =>
    intro i f s hi hf h81 h80
    obtain ⟨f, rfl⟩ : ∃ m, f = m + 1 := ⟨f - 1, by omega⟩
    obtain rfl : i = 5 := by omega
    refine ⟨s, ?_, h80, fun j h1 h2 => absurd h1 (by omega), fun _ _ => rfl, fun _ _ => rfl, fun _ _ _ _ => rfl⟩
    rw [fX12_movesRow_6_L2]
    simp (disch := omega) only [↓ite_bind, ↓ck_bind, ↓lt_bind, ↓Option.bind_assoc, ↓bd_s, ↓lt_v, ↓ck_v, ↓reduceIte, Bool.false_eq_true, Bool.true_eq_false, bd_s, nj_add, nj_addl, nj_addr, nj_mull, nj_mulr, nj_subr, nj_pred, ix_nI, ix_lit, inb_t, inb_l, nj_le_t, nj_le_f, nj_lel_t, nj_lel_f, nj_ler_t, nj_ler_f, nj_lt_t, nj_lt_f, nj_ltl_t, nj_ltl_f, nj_ltr_t, nj_ltr_f, nj_eq_t, nj_eq_f, nj_eqr_t, nj_eqr_f, nj_m1, nj_m2]
  | succ k ih =>
    intro i f s hi hf h81 h80
    obtain ⟨f, rfl⟩ : ∃ m, f = m + 1 := ⟨f - 1, by omega⟩
    obtain ⟨z, a1, a2, a3, a4, a5, a6⟩ := ih (i + 1) f (si (si (si s 46 (p + i) (gi s 6 i)) 0 67 (nI (p + i + 1))) 6 i (gi s 6 i)) (by omega) (by omega) (by rw [gi_ne (by decide), gi_dif (by decide), gi_ne (by decide)]; exact h81) (by rw [gi_ne (by decide), gi_same]; rfl)
    have hs : ∀ x j, x ≠ 0 → x ≠ 46 → gi (si (si (si s 46 (p + i) (gi s 6 i)) 0 67 (nI (p + i + 1))) 6 i (gi s 6 i)) x j = gi s x j := by
      intro x j h1 h2
      rw [gi_si]
      by_cases e : x = 6
      · rw [if_pos e, e]
        by_cases e2 : j = i
        · rw [if_pos e2, e2]
        · rw [if_neg e2, gi_ne (by decide), gi_ne (by decide)]
      · rw [if_neg e, gi_ne h1, gi_ne h2]
    refine ⟨z, ?_, a2, fun j h1 h2 => ?_, fun j hj => ?_, fun j hj => ?_, fun x j h1 h2 => (a6 x j h1 h2).trans (hs x j h1 h2)⟩
    · rw [fX12_movesRow_6_L2]
      simp (disch := omega) only [↓ite_bind, ↓ck_bind, ↓lt_bind, ↓Option.bind_assoc, ↓bd_s, ↓lt_v, ↓ck_v, ↓reduceIte, Bool.false_eq_true, Bool.true_eq_false, bd_s, nj_add, nj_addl, nj_addr, nj_mull, nj_mulr, nj_subr, nj_pred, ix_nI, ix_lit, inb_t, inb_l, nj_le_t, nj_le_f, nj_lel_t, nj_lel_f, nj_ler_t, nj_ler_f, nj_lt_t, nj_lt_f, nj_ltl_t, nj_ltl_f, nj_ltr_t, nj_ltr_f, nj_eq_t, nj_eq_f, nj_eqr_t, nj_eqr_f, nj_m1, nj_m2, mvS (p := p + i) (by omega) h81 h80]
      exact a1
    · by_cases e : j = i
      · rw [e, a4 _ (by omega), gi_ne (by decide), gi_ne (by decide), gi_same]
      · rw [a3 j (by omega) h2]; exact hs _ _ (by decide) (by decide)
    · rw [a4 j (by omega), gi_ne (by decide), gi_ne (by decide), gi_dif (by omega)]
    · rw [a5 j hj, gi_ne (by decide), gi_dif hj, gi_ne (by decide)]
theorem ms6 {p : Nat} {s : ST} (hp : p + 5 ≤ 920) (h81 : gi s 0 68 = 0) (h80 : gi s 0 67 = nI p) : ∃ z, fX12_movesRow_6 s = some z ∧ gi z 0 67 = nI (p + 5) ∧ (∀ j, j < 5 → gi z 46 (p + j) = gi s 6 j) ∧ (∀ j, j < p ∨ p + 5 ≤ j → gi z 46 j = gi s 46 j) ∧ (∀ j, j ≠ 67 → gi z 0 j = gi s 0 j) ∧ (∀ x j, x ≠ 0 → x ≠ 46 → gi z x j = gi s x j) := by
  obtain ⟨z, a1, a2, a3, a4, a5, a6⟩ := ms6L hp 5 0 FUEL s (by omega) (by rw [FUEL_eq]; omega) h81 h80
  refine ⟨z, ?_, a2, fun j hj => a3 j (by omega) hj, fun j hj => a4 j (by omega), a5, a6⟩
  unfold fX12_movesRow_6
  rw [show (0 : Int32) = nI 0 from rfl, a1]
  exact id (Eq.refl _)
theorem ml6L {p : Nat} (hp : p + 5 ≤ 920) : ∀ (k i f : Nat) (s : ST), i + k = 5 → k < f → gi s 0 68 = 1 → gi s 0 67 = nI (p + i) →
    ∃ z, fX12_movesRow_6_L2 f (nI i) s = some (nI 5, z) ∧ gi z 0 67 = nI (p + 5) ∧ (∀ j, i ≤ j → j < 5 → gi z 6 j = gi s 46 (p + j)) ∧ (∀ j, j < i ∨ 5 ≤ j → gi z 6 j = gi s 6 j) ∧ (∀ j, j ≠ 67 → gi z 0 j = gi s 0 j) ∧ (∀ x j, x ≠ 0 → x ≠ 6 → gi z x j = gi s x j) := by
  intro k
  induction k with
  | zero =>
    intro i f s hi hf h81 h80
    obtain ⟨f, rfl⟩ : ∃ m, f = m + 1 := ⟨f - 1, by omega⟩
    obtain rfl : i = 5 := by omega
    refine ⟨s, ?_, h80, fun j h1 h2 => absurd h1 (by omega), fun _ _ => rfl, fun _ _ => rfl, fun _ _ _ _ => rfl⟩
    rw [fX12_movesRow_6_L2]
    simp (disch := omega) only [↓ite_bind, ↓ck_bind, ↓lt_bind, ↓Option.bind_assoc, ↓bd_s, ↓lt_v, ↓ck_v, ↓reduceIte, Bool.false_eq_true, Bool.true_eq_false, bd_s, nj_add, nj_addl, nj_addr, nj_mull, nj_mulr, nj_subr, nj_pred, ix_nI, ix_lit, inb_t, inb_l, nj_le_t, nj_le_f, nj_lel_t, nj_lel_f, nj_ler_t, nj_ler_f, nj_lt_t, nj_lt_f, nj_ltl_t, nj_ltl_f, nj_ltr_t, nj_ltr_f, nj_eq_t, nj_eq_f, nj_eqr_t, nj_eqr_f, nj_m1, nj_m2]
  | succ k ih =>
    intro i f s hi hf h81 h80
    obtain ⟨f, rfl⟩ : ∃ m, f = m + 1 := ⟨f - 1, by omega⟩
    obtain ⟨z, a1, a2, a3, a4, a5, a6⟩ := ih (i + 1) f (si (si (si s 46 (p + i) (gi s 46 (p + i))) 0 67 (nI (p + i + 1))) 6 i (gi s 46 (p + i))) (by omega) (by omega) (by rw [gi_ne (by decide), gi_dif (by decide), gi_ne (by decide)]; exact h81) (by rw [gi_ne (by decide), gi_same]; rfl)
    have hs : ∀ x j, x ≠ 0 → x ≠ 6 → gi (si (si (si s 46 (p + i) (gi s 46 (p + i))) 0 67 (nI (p + i + 1))) 6 i (gi s 46 (p + i))) x j = gi s x j := by
      intro x j h1 h2
      rw [gi_ne h2, gi_ne h1, gi_si]
      by_cases e : x = 46
      · rw [if_pos e, e]
        by_cases e2 : j = p + i
        · rw [if_pos e2, e2]
        · rw [if_neg e2]
      · rw [if_neg e]
    refine ⟨z, ?_, a2, fun j h1 h2 => ?_, fun j hj => ?_, fun j hj => ?_, fun x j h1 h2 => (a6 x j h1 h2).trans (hs x j h1 h2)⟩
    · rw [fX12_movesRow_6_L2]
      simp (disch := omega) only [↓ite_bind, ↓ck_bind, ↓lt_bind, ↓Option.bind_assoc, ↓bd_s, ↓lt_v, ↓ck_v, ↓reduceIte, Bool.false_eq_true, Bool.true_eq_false, bd_s, nj_add, nj_addl, nj_addr, nj_mull, nj_mulr, nj_subr, nj_pred, ix_nI, ix_lit, inb_t, inb_l, nj_le_t, nj_le_f, nj_lel_t, nj_lel_f, nj_ler_t, nj_ler_f, nj_lt_t, nj_lt_f, nj_ltl_t, nj_ltl_f, nj_ltr_t, nj_ltr_f, nj_eq_t, nj_eq_f, nj_eqr_t, nj_eqr_f, nj_m1, nj_m2, mvL (p := p + i) (by omega) h81 h80]
      exact a1
    · by_cases e : j = i
      · rw [e, a4 _ (by omega), gi_same]
      · rw [a3 j (by omega) h2]; exact hs _ _ (by decide) (by decide)
    · rw [a4 j (by omega), gi_dif (by omega), gi_ne (by decide), gi_ne (by decide)]
    · rw [a5 j hj, gi_ne (by decide), gi_dif hj, gi_ne (by decide)]
theorem ml6 {p : Nat} {s : ST} (hp : p + 5 ≤ 920) (h81 : gi s 0 68 = 1) (h80 : gi s 0 67 = nI p) : ∃ z, fX12_movesRow_6 s = some z ∧ gi z 0 67 = nI (p + 5) ∧ (∀ j, j < 5 → gi z 6 j = gi s 46 (p + j)) ∧ (∀ j, 5 ≤ j → gi z 6 j = gi s 6 j) ∧ (∀ j, j ≠ 67 → gi z 0 j = gi s 0 j) ∧ (∀ x j, x ≠ 0 → x ≠ 6 → gi z x j = gi s x j) := by
  obtain ⟨z, a1, a2, a3, a4, a5, a6⟩ := ml6L hp 5 0 FUEL s (by omega) (by rw [FUEL_eq]; omega) h81 h80
  refine ⟨z, ?_, a2, fun j hj => a3 j (by omega) hj, fun j hj => a4 j (by omega), a5, a6⟩
  unfold fX12_movesRow_6
  rw [show (0 : Int32) = nI 0 from rfl, a1]
  exact id (Eq.refl _)
theorem ms9L {p : Nat} (hp : p + 8 ≤ 920) : ∀ (k i f : Nat) (s : ST), i + k = 8 → k < f → gi s 0 68 = 0 → gi s 0 67 = nI (p + i) →
    ∃ z, fX12_movesRow_9_L2 f (nI i) s = some (nI 8, z) ∧ gi z 0 67 = nI (p + 8) ∧ (∀ j, i ≤ j → j < 8 → gi z 46 (p + j) = gi s 9 j) ∧ (∀ j, j < p + i ∨ p + 8 ≤ j → gi z 46 j = gi s 46 j) ∧ (∀ j, j ≠ 67 → gi z 0 j = gi s 0 j) ∧ (∀ x j, x ≠ 0 → x ≠ 46 → gi z x j = gi s x j) := by
  intro k
  induction k with
  | zero =>
    intro i f s hi hf h81 h80
    obtain ⟨f, rfl⟩ : ∃ m, f = m + 1 := ⟨f - 1, by omega⟩
    obtain rfl : i = 8 := by omega
    refine ⟨s, ?_, h80, fun j h1 h2 => absurd h1 (by omega), fun _ _ => rfl, fun _ _ => rfl, fun _ _ _ _ => rfl⟩
    rw [fX12_movesRow_9_L2]
    simp (disch := omega) only [↓ite_bind, ↓ck_bind, ↓lt_bind, ↓Option.bind_assoc, ↓bd_s, ↓lt_v, ↓ck_v, ↓reduceIte, Bool.false_eq_true, Bool.true_eq_false, bd_s, nj_add, nj_addl, nj_addr, nj_mull, nj_mulr, nj_subr, nj_pred, ix_nI, ix_lit, inb_t, inb_l, nj_le_t, nj_le_f, nj_lel_t, nj_lel_f, nj_ler_t, nj_ler_f, nj_lt_t, nj_lt_f, nj_ltl_t, nj_ltl_f, nj_ltr_t, nj_ltr_f, nj_eq_t, nj_eq_f, nj_eqr_t, nj_eqr_f, nj_m1, nj_m2]
  | succ k ih =>
    intro i f s hi hf h81 h80
    obtain ⟨f, rfl⟩ : ∃ m, f = m + 1 := ⟨f - 1, by omega⟩
    obtain ⟨z, a1, a2, a3, a4, a5, a6⟩ := ih (i + 1) f (si (si (si s 46 (p + i) (gi s 9 i)) 0 67 (nI (p + i + 1))) 9 i (gi s 9 i)) (by omega) (by omega) (by rw [gi_ne (by decide), gi_dif (by decide), gi_ne (by decide)]; exact h81) (by rw [gi_ne (by decide), gi_same]; rfl)
    have hs : ∀ x j, x ≠ 0 → x ≠ 46 → gi (si (si (si s 46 (p + i) (gi s 9 i)) 0 67 (nI (p + i + 1))) 9 i (gi s 9 i)) x j = gi s x j := by
      intro x j h1 h2
      rw [gi_si]
      by_cases e : x = 9
      · rw [if_pos e, e]
        by_cases e2 : j = i
        · rw [if_pos e2, e2]
        · rw [if_neg e2, gi_ne (by decide), gi_ne (by decide)]
      · rw [if_neg e, gi_ne h1, gi_ne h2]
    refine ⟨z, ?_, a2, fun j h1 h2 => ?_, fun j hj => ?_, fun j hj => ?_, fun x j h1 h2 => (a6 x j h1 h2).trans (hs x j h1 h2)⟩
    · rw [fX12_movesRow_9_L2]
      simp (disch := omega) only [↓ite_bind, ↓ck_bind, ↓lt_bind, ↓Option.bind_assoc, ↓bd_s, ↓lt_v, ↓ck_v, ↓reduceIte, Bool.false_eq_true, Bool.true_eq_false, bd_s, nj_add, nj_addl, nj_addr, nj_mull, nj_mulr, nj_subr, nj_pred, ix_nI, ix_lit, inb_t, inb_l, nj_le_t, nj_le_f, nj_lel_t, nj_lel_f, nj_ler_t, nj_ler_f, nj_lt_t, nj_lt_f, nj_ltl_t, nj_ltl_f, nj_ltr_t, nj_ltr_f, nj_eq_t, nj_eq_f, nj_eqr_t, nj_eqr_f, nj_m1, nj_m2, mvS (p := p + i) (by omega) h81 h80]
      exact a1
    · by_cases e : j = i
      · rw [e, a4 _ (by omega), gi_ne (by decide), gi_ne (by decide), gi_same]
      · rw [a3 j (by omega) h2]; exact hs _ _ (by decide) (by decide)
    · rw [a4 j (by omega), gi_ne (by decide), gi_ne (by decide), gi_dif (by omega)]
    · rw [a5 j hj, gi_ne (by decide), gi_dif hj, gi_ne (by decide)]
theorem ms9 {p : Nat} {s : ST} (hp : p + 8 ≤ 920) (h81 : gi s 0 68 = 0) (h80 : gi s 0 67 = nI p) : ∃ z, fX12_movesRow_9 s = some z ∧ gi z 0 67 = nI (p + 8) ∧ (∀ j, j < 8 → gi z 46 (p + j) = gi s 9 j) ∧ (∀ j, j < p ∨ p + 8 ≤ j → gi z 46 j = gi s 46 j) ∧ (∀ j, j ≠ 67 → gi z 0 j = gi s 0 j) ∧ (∀ x j, x ≠ 0 → x ≠ 46 → gi z x j = gi s x j) := by
  obtain ⟨z, a1, a2, a3, a4, a5, a6⟩ := ms9L hp 8 0 FUEL s (by omega) (by rw [FUEL_eq]; omega) h81 h80
  refine ⟨z, ?_, a2, fun j hj => a3 j (by omega) hj, fun j hj => a4 j (by omega), a5, a6⟩
  unfold fX12_movesRow_9
  rw [show (0 : Int32) = nI 0 from rfl, a1]
  exact id (Eq.refl _)
theorem ml9L {p : Nat} (hp : p + 8 ≤ 920) : ∀ (k i f : Nat) (s : ST), i + k = 8 → k < f → gi s 0 68 = 1 → gi s 0 67 = nI (p + i) →
    ∃ z, fX12_movesRow_9_L2 f (nI i) s = some (nI 8, z) ∧ gi z 0 67 = nI (p + 8) ∧ (∀ j, i ≤ j → j < 8 → gi z 9 j = gi s 46 (p + j)) ∧ (∀ j, j < i ∨ 8 ≤ j → gi z 9 j = gi s 9 j) ∧ (∀ j, j ≠ 67 → gi z 0 j = gi s 0 j) ∧ (∀ x j, x ≠ 0 → x ≠ 9 → gi z x j = gi s x j) := by
  intro k
  induction k with
  | zero =>
    intro i f s hi hf h81 h80
    obtain ⟨f, rfl⟩ : ∃ m, f = m + 1 := ⟨f - 1, by omega⟩
    obtain rfl : i = 8 := by omega
    refine ⟨s, ?_, h80, fun j h1 h2 => absurd h1 (by omega), fun _ _ => rfl, fun _ _ => rfl, fun _ _ _ _ => rfl⟩
    rw [fX12_movesRow_9_L2]
    simp (disch := omega) only [↓ite_bind, ↓ck_bind, ↓lt_bind, ↓Option.bind_assoc, ↓bd_s, ↓lt_v, ↓ck_v, ↓reduceIte, Bool.false_eq_true, Bool.true_eq_false, bd_s, nj_add, nj_addl, nj_addr, nj_mull, nj_mulr, nj_subr, nj_pred, ix_nI, ix_lit, inb_t, inb_l, nj_le_t, nj_le_f, nj_lel_t, nj_lel_f, nj_ler_t, nj_ler_f, nj_lt_t, nj_lt_f, nj_ltl_t, nj_ltl_f, nj_ltr_t, nj_ltr_f, nj_eq_t, nj_eq_f, nj_eqr_t, nj_eqr_f, nj_m1, nj_m2]
  | succ k ih =>
    intro i f s hi hf h81 h80
    obtain ⟨f, rfl⟩ : ∃ m, f = m + 1 := ⟨f - 1, by omega⟩
    obtain ⟨z, a1, a2, a3, a4, a5, a6⟩ := ih (i + 1) f (si (si (si s 46 (p + i) (gi s 46 (p + i))) 0 67 (nI (p + i + 1))) 9 i (gi s 46 (p + i))) (by omega) (by omega) (by rw [gi_ne (by decide), gi_dif (by decide), gi_ne (by decide)]; exact h81) (by rw [gi_ne (by decide), gi_same]; rfl)
    have hs : ∀ x j, x ≠ 0 → x ≠ 9 → gi (si (si (si s 46 (p + i) (gi s 46 (p + i))) 0 67 (nI (p + i + 1))) 9 i (gi s 46 (p + i))) x j = gi s x j := by
      intro x j h1 h2
      rw [gi_ne h2, gi_ne h1, gi_si]
      by_cases e : x = 46
      · rw [if_pos e, e]
        by_cases e2 : j = p + i
        · rw [if_pos e2, e2]
        · rw [if_neg e2]
      · rw [if_neg e]
    refine ⟨z, ?_, a2, fun j h1 h2 => ?_, fun j hj => ?_, fun j hj => ?_, fun x j h1 h2 => (a6 x j h1 h2).trans (hs x j h1 h2)⟩
    · rw [fX12_movesRow_9_L2]
      simp (disch := omega) only [↓ite_bind, ↓ck_bind, ↓lt_bind, ↓Option.bind_assoc, ↓bd_s, ↓lt_v, ↓ck_v, ↓reduceIte, Bool.false_eq_true, Bool.true_eq_false, bd_s, nj_add, nj_addl, nj_addr, nj_mull, nj_mulr, nj_subr, nj_pred, ix_nI, ix_lit, inb_t, inb_l, nj_le_t, nj_le_f, nj_lel_t, nj_lel_f, nj_ler_t, nj_ler_f, nj_lt_t, nj_lt_f, nj_ltl_t, nj_ltl_f, nj_ltr_t, nj_ltr_f, nj_eq_t, nj_eq_f, nj_eqr_t, nj_eqr_f, nj_m1, nj_m2, mvL (p := p + i) (by omega) h81 h80]
      exact a1
    · by_cases e : j = i
      · rw [e, a4 _ (by omega), gi_same]
      · rw [a3 j (by omega) h2]; exact hs _ _ (by decide) (by decide)
    · rw [a4 j (by omega), gi_dif (by omega), gi_ne (by decide), gi_ne (by decide)]
    · rw [a5 j hj, gi_ne (by decide), gi_dif hj, gi_ne (by decide)]
theorem ml9 {p : Nat} {s : ST} (hp : p + 8 ≤ 920) (h81 : gi s 0 68 = 1) (h80 : gi s 0 67 = nI p) : ∃ z, fX12_movesRow_9 s = some z ∧ gi z 0 67 = nI (p + 8) ∧ (∀ j, j < 8 → gi z 9 j = gi s 46 (p + j)) ∧ (∀ j, 8 ≤ j → gi z 9 j = gi s 9 j) ∧ (∀ j, j ≠ 67 → gi z 0 j = gi s 0 j) ∧ (∀ x j, x ≠ 0 → x ≠ 9 → gi z x j = gi s x j) := by
  obtain ⟨z, a1, a2, a3, a4, a5, a6⟩ := ml9L hp 8 0 FUEL s (by omega) (by rw [FUEL_eq]; omega) h81 h80
  refine ⟨z, ?_, a2, fun j hj => a3 j (by omega) hj, fun j hj => a4 j (by omega), a5, a6⟩
  unfold fX12_movesRow_9
  rw [show (0 : Int32) = nI 0 from rfl, a1]
  exact id (Eq.refl _)
theorem ms11L {p : Nat} (hp : p + 8 ≤ 920) : ∀ (k i f : Nat) (s : ST), i + k = 8 → k < f → gi s 0 68 = 0 → gi s 0 67 = nI (p + i) →
    ∃ z, fX12_movesRow_11_L2 f (nI i) s = some (nI 8, z) ∧ gi z 0 67 = nI (p + 8) ∧ (∀ j, i ≤ j → j < 8 → gi z 46 (p + j) = gi s 11 j) ∧ (∀ j, j < p + i ∨ p + 8 ≤ j → gi z 46 j = gi s 46 j) ∧ (∀ j, j ≠ 67 → gi z 0 j = gi s 0 j) ∧ (∀ x j, x ≠ 0 → x ≠ 46 → gi z x j = gi s x j) := by
  intro k
  induction k with
  | zero =>
    intro i f s hi hf h81 h80
    obtain ⟨f, rfl⟩ : ∃ m, f = m + 1 := ⟨f - 1, by omega⟩
    obtain rfl : i = 8 := by omega
    refine ⟨s, ?_, h80, fun j h1 h2 => absurd h1 (by omega), fun _ _ => rfl, fun _ _ => rfl, fun _ _ _ _ => rfl⟩
    rw [fX12_movesRow_11_L2]
    simp (disch := omega) only [↓ite_bind, ↓ck_bind, ↓lt_bind, ↓Option.bind_assoc, ↓bd_s, ↓lt_v, ↓ck_v, ↓reduceIte, Bool.false_eq_true, Bool.true_eq_false, bd_s, nj_add, nj_addl, nj_addr, nj_mull, nj_mulr, nj_subr, nj_pred, ix_nI, ix_lit, inb_t, inb_l, nj_le_t, nj_le_f, nj_lel_t, nj_lel_f, nj_ler_t, nj_ler_f, nj_lt_t, nj_lt_f, nj_ltl_t, nj_ltl_f, nj_ltr_t, nj_ltr_f, nj_eq_t, nj_eq_f, nj_eqr_t, nj_eqr_f, nj_m1, nj_m2]
  | succ k ih =>
    intro i f s hi hf h81 h80
    obtain ⟨f, rfl⟩ : ∃ m, f = m + 1 := ⟨f - 1, by omega⟩
    obtain ⟨z, a1, a2, a3, a4, a5, a6⟩ := ih (i + 1) f (si (si (si s 46 (p + i) (gi s 11 i)) 0 67 (nI (p + i + 1))) 11 i (gi s 11 i)) (by omega) (by omega) (by rw [gi_ne (by decide), gi_dif (by decide), gi_ne (by decide)]; exact h81) (by rw [gi_ne (by decide), gi_same]; rfl)
    have hs : ∀ x j, x ≠ 0 → x ≠ 46 → gi (si (si (si s 46 (p + i) (gi s 11 i)) 0 67 (nI (p + i + 1))) 11 i (gi s 11 i)) x j = gi s x j := by
      intro x j h1 h2
      rw [gi_si]
      by_cases e : x = 11
      · rw [if_pos e, e]
        by_cases e2 : j = i
        · rw [if_pos e2, e2]
        · rw [if_neg e2, gi_ne (by decide), gi_ne (by decide)]
      · rw [if_neg e, gi_ne h1, gi_ne h2]
    refine ⟨z, ?_, a2, fun j h1 h2 => ?_, fun j hj => ?_, fun j hj => ?_, fun x j h1 h2 => (a6 x j h1 h2).trans (hs x j h1 h2)⟩
    · rw [fX12_movesRow_11_L2]
      simp (disch := omega) only [↓ite_bind, ↓ck_bind, ↓lt_bind, ↓Option.bind_assoc, ↓bd_s, ↓lt_v, ↓ck_v, ↓reduceIte, Bool.false_eq_true, Bool.true_eq_false, bd_s, nj_add, nj_addl, nj_addr, nj_mull, nj_mulr, nj_subr, nj_pred, ix_nI, ix_lit, inb_t, inb_l, nj_le_t, nj_le_f, nj_lel_t, nj_lel_f, nj_ler_t, nj_ler_f, nj_lt_t, nj_lt_f, nj_ltl_t, nj_ltl_f, nj_ltr_t, nj_ltr_f, nj_eq_t, nj_eq_f, nj_eqr_t, nj_eqr_f, nj_m1, nj_m2, mvS (p := p + i) (by omega) h81 h80]
      exact a1
    · by_cases e : j = i
      · rw [e, a4 _ (by omega), gi_ne (by decide), gi_ne (by decide), gi_same]
      · rw [a3 j (by omega) h2]; exact hs _ _ (by decide) (by decide)
    · rw [a4 j (by omega), gi_ne (by decide), gi_ne (by decide), gi_dif (by omega)]
    · rw [a5 j hj, gi_ne (by decide), gi_dif hj, gi_ne (by decide)]
theorem ms11 {p : Nat} {s : ST} (hp : p + 8 ≤ 920) (h81 : gi s 0 68 = 0) (h80 : gi s 0 67 = nI p) : ∃ z, fX12_movesRow_11 s = some z ∧ gi z 0 67 = nI (p + 8) ∧ (∀ j, j < 8 → gi z 46 (p + j) = gi s 11 j) ∧ (∀ j, j < p ∨ p + 8 ≤ j → gi z 46 j = gi s 46 j) ∧ (∀ j, j ≠ 67 → gi z 0 j = gi s 0 j) ∧ (∀ x j, x ≠ 0 → x ≠ 46 → gi z x j = gi s x j) := by
  obtain ⟨z, a1, a2, a3, a4, a5, a6⟩ := ms11L hp 8 0 FUEL s (by omega) (by rw [FUEL_eq]; omega) h81 h80
  refine ⟨z, ?_, a2, fun j hj => a3 j (by omega) hj, fun j hj => a4 j (by omega), a5, a6⟩
  unfold fX12_movesRow_11
  rw [show (0 : Int32) = nI 0 from rfl, a1]
  exact id (Eq.refl _)
theorem ml11L {p : Nat} (hp : p + 8 ≤ 920) : ∀ (k i f : Nat) (s : ST), i + k = 8 → k < f → gi s 0 68 = 1 → gi s 0 67 = nI (p + i) →
    ∃ z, fX12_movesRow_11_L2 f (nI i) s = some (nI 8, z) ∧ gi z 0 67 = nI (p + 8) ∧ (∀ j, i ≤ j → j < 8 → gi z 11 j = gi s 46 (p + j)) ∧ (∀ j, j < i ∨ 8 ≤ j → gi z 11 j = gi s 11 j) ∧ (∀ j, j ≠ 67 → gi z 0 j = gi s 0 j) ∧ (∀ x j, x ≠ 0 → x ≠ 11 → gi z x j = gi s x j) := by
  intro k
  induction k with
  | zero =>
    intro i f s hi hf h81 h80
    obtain ⟨f, rfl⟩ : ∃ m, f = m + 1 := ⟨f - 1, by omega⟩
    obtain rfl : i = 8 := by omega
    refine ⟨s, ?_, h80, fun j h1 h2 => absurd h1 (by omega), fun _ _ => rfl, fun _ _ => rfl, fun _ _ _ _ => rfl⟩
    rw [fX12_movesRow_11_L2]
    simp (disch := omega) only [↓ite_bind, ↓ck_bind, ↓lt_bind, ↓Option.bind_assoc, ↓bd_s, ↓lt_v, ↓ck_v, ↓reduceIte, Bool.false_eq_true, Bool.true_eq_false, bd_s, nj_add, nj_addl, nj_addr, nj_mull, nj_mulr, nj_subr, nj_pred, ix_nI, ix_lit, inb_t, inb_l, nj_le_t, nj_le_f, nj_lel_t, nj_lel_f, nj_ler_t, nj_ler_f, nj_lt_t, nj_lt_f, nj_ltl_t, nj_ltl_f, nj_ltr_t, nj_ltr_f, nj_eq_t, nj_eq_f, nj_eqr_t, nj_eqr_f, nj_m1, nj_m2]
  | succ k ih =>
    intro i f s hi hf h81 h80
    obtain ⟨f, rfl⟩ : ∃ m, f = m + 1 := ⟨f - 1, by omega⟩
    obtain ⟨z, a1, a2, a3, a4, a5, a6⟩ := ih (i + 1) f (si (si (si s 46 (p + i) (gi s 46 (p + i))) 0 67 (nI (p + i + 1))) 11 i (gi s 46 (p + i))) (by omega) (by omega) (by rw [gi_ne (by decide), gi_dif (by decide), gi_ne (by decide)]; exact h81) (by rw [gi_ne (by decide), gi_same]; rfl)
    have hs : ∀ x j, x ≠ 0 → x ≠ 11 → gi (si (si (si s 46 (p + i) (gi s 46 (p + i))) 0 67 (nI (p + i + 1))) 11 i (gi s 46 (p + i))) x j = gi s x j := by
      intro x j h1 h2
      rw [gi_ne h2, gi_ne h1, gi_si]
      by_cases e : x = 46
      · rw [if_pos e, e]
        by_cases e2 : j = p + i
        · rw [if_pos e2, e2]
        · rw [if_neg e2]
      · rw [if_neg e]
    refine ⟨z, ?_, a2, fun j h1 h2 => ?_, fun j hj => ?_, fun j hj => ?_, fun x j h1 h2 => (a6 x j h1 h2).trans (hs x j h1 h2)⟩
    · rw [fX12_movesRow_11_L2]
      simp (disch := omega) only [↓ite_bind, ↓ck_bind, ↓lt_bind, ↓Option.bind_assoc, ↓bd_s, ↓lt_v, ↓ck_v, ↓reduceIte, Bool.false_eq_true, Bool.true_eq_false, bd_s, nj_add, nj_addl, nj_addr, nj_mull, nj_mulr, nj_subr, nj_pred, ix_nI, ix_lit, inb_t, inb_l, nj_le_t, nj_le_f, nj_lel_t, nj_lel_f, nj_ler_t, nj_ler_f, nj_lt_t, nj_lt_f, nj_ltl_t, nj_ltl_f, nj_ltr_t, nj_ltr_f, nj_eq_t, nj_eq_f, nj_eqr_t, nj_eqr_f, nj_m1, nj_m2, mvL (p := p + i) (by omega) h81 h80]
      exact a1
    · by_cases e : j = i
      · rw [e, a4 _ (by omega), gi_same]
      · rw [a3 j (by omega) h2]; exact hs _ _ (by decide) (by decide)
    · rw [a4 j (by omega), gi_dif (by omega), gi_ne (by decide), gi_ne (by decide)]
    · rw [a5 j hj, gi_ne (by decide), gi_dif hj, gi_ne (by decide)]
theorem ml11 {p : Nat} {s : ST} (hp : p + 8 ≤ 920) (h81 : gi s 0 68 = 1) (h80 : gi s 0 67 = nI p) : ∃ z, fX12_movesRow_11 s = some z ∧ gi z 0 67 = nI (p + 8) ∧ (∀ j, j < 8 → gi z 11 j = gi s 46 (p + j)) ∧ (∀ j, 8 ≤ j → gi z 11 j = gi s 11 j) ∧ (∀ j, j ≠ 67 → gi z 0 j = gi s 0 j) ∧ (∀ x j, x ≠ 0 → x ≠ 11 → gi z x j = gi s x j) := by
  obtain ⟨z, a1, a2, a3, a4, a5, a6⟩ := ml11L hp 8 0 FUEL s (by omega) (by rw [FUEL_eq]; omega) h81 h80
  refine ⟨z, ?_, a2, fun j hj => a3 j (by omega) hj, fun j hj => a4 j (by omega), a5, a6⟩
  unfold fX12_movesRow_11
  rw [show (0 : Int32) = nI 0 from rfl, a1]
  exact id (Eq.refl _)
theorem ms12L {p : Nat} (hp : p + 8 ≤ 920) : ∀ (k i f : Nat) (s : ST), i + k = 8 → k < f → gi s 0 68 = 0 → gi s 0 67 = nI (p + i) →
    ∃ z, fX12_movesRow_12_L2 f (nI i) s = some (nI 8, z) ∧ gi z 0 67 = nI (p + 8) ∧ (∀ j, i ≤ j → j < 8 → gi z 46 (p + j) = gi s 12 j) ∧ (∀ j, j < p + i ∨ p + 8 ≤ j → gi z 46 j = gi s 46 j) ∧ (∀ j, j ≠ 67 → gi z 0 j = gi s 0 j) ∧ (∀ x j, x ≠ 0 → x ≠ 46 → gi z x j = gi s x j) := by
  intro k
  induction k with
  | zero =>
    intro i f s hi hf h81 h80
    obtain ⟨f, rfl⟩ : ∃ m, f = m + 1 := ⟨f - 1, by omega⟩
    obtain rfl : i = 8 := by omega
    refine ⟨s, ?_, h80, fun j h1 h2 => absurd h1 (by omega), fun _ _ => rfl, fun _ _ => rfl, fun _ _ _ _ => rfl⟩
    rw [fX12_movesRow_12_L2]
    simp (disch := omega) only [↓ite_bind, ↓ck_bind, ↓lt_bind, ↓Option.bind_assoc, ↓bd_s, ↓lt_v, ↓ck_v, ↓reduceIte, Bool.false_eq_true, Bool.true_eq_false, bd_s, nj_add, nj_addl, nj_addr, nj_mull, nj_mulr, nj_subr, nj_pred, ix_nI, ix_lit, inb_t, inb_l, nj_le_t, nj_le_f, nj_lel_t, nj_lel_f, nj_ler_t, nj_ler_f, nj_lt_t, nj_lt_f, nj_ltl_t, nj_ltl_f, nj_ltr_t, nj_ltr_f, nj_eq_t, nj_eq_f, nj_eqr_t, nj_eqr_f, nj_m1, nj_m2]
  | succ k ih =>
    intro i f s hi hf h81 h80
    obtain ⟨f, rfl⟩ : ∃ m, f = m + 1 := ⟨f - 1, by omega⟩
    obtain ⟨z, a1, a2, a3, a4, a5, a6⟩ := ih (i + 1) f (si (si (si s 46 (p + i) (gi s 12 i)) 0 67 (nI (p + i + 1))) 12 i (gi s 12 i)) (by omega) (by omega) (by rw [gi_ne (by decide), gi_dif (by decide), gi_ne (by decide)]; exact h81) (by rw [gi_ne (by decide), gi_same]; rfl)
    have hs : ∀ x j, x ≠ 0 → x ≠ 46 → gi (si (si (si s 46 (p + i) (gi s 12 i)) 0 67 (nI (p + i + 1))) 12 i (gi s 12 i)) x j = gi s x j := by
      intro x j h1 h2
      rw [gi_si]
      by_cases e : x = 12
      · rw [if_pos e, e]
        by_cases e2 : j = i
        · rw [if_pos e2, e2]
        · rw [if_neg e2, gi_ne (by decide), gi_ne (by decide)]
      · rw [if_neg e, gi_ne h1, gi_ne h2]
    refine ⟨z, ?_, a2, fun j h1 h2 => ?_, fun j hj => ?_, fun j hj => ?_, fun x j h1 h2 => (a6 x j h1 h2).trans (hs x j h1 h2)⟩
    · rw [fX12_movesRow_12_L2]
      simp (disch := omega) only [↓ite_bind, ↓ck_bind, ↓lt_bind, ↓Option.bind_assoc, ↓bd_s, ↓lt_v, ↓ck_v, ↓reduceIte, Bool.false_eq_true, Bool.true_eq_false, bd_s, nj_add, nj_addl, nj_addr, nj_mull, nj_mulr, nj_subr, nj_pred, ix_nI, ix_lit, inb_t, inb_l, nj_le_t, nj_le_f, nj_lel_t, nj_lel_f, nj_ler_t, nj_ler_f, nj_lt_t, nj_lt_f, nj_ltl_t, nj_ltl_f, nj_ltr_t, nj_ltr_f, nj_eq_t, nj_eq_f, nj_eqr_t, nj_eqr_f, nj_m1, nj_m2, mvS (p := p + i) (by omega) h81 h80]
      exact a1
    · by_cases e : j = i
      · rw [e, a4 _ (by omega), gi_ne (by decide), gi_ne (by decide), gi_same]
      · rw [a3 j (by omega) h2]; exact hs _ _ (by decide) (by decide)
    · rw [a4 j (by omega), gi_ne (by decide), gi_ne (by decide), gi_dif (by omega)]
    · rw [a5 j hj, gi_ne (by decide), gi_dif hj, gi_ne (by decide)]
theorem ms12 {p : Nat} {s : ST} (hp : p + 8 ≤ 920) (h81 : gi s 0 68 = 0) (h80 : gi s 0 67 = nI p) : ∃ z, fX12_movesRow_12 s = some z ∧ gi z 0 67 = nI (p + 8) ∧ (∀ j, j < 8 → gi z 46 (p + j) = gi s 12 j) ∧ (∀ j, j < p ∨ p + 8 ≤ j → gi z 46 j = gi s 46 j) ∧ (∀ j, j ≠ 67 → gi z 0 j = gi s 0 j) ∧ (∀ x j, x ≠ 0 → x ≠ 46 → gi z x j = gi s x j) := by
  obtain ⟨z, a1, a2, a3, a4, a5, a6⟩ := ms12L hp 8 0 FUEL s (by omega) (by rw [FUEL_eq]; omega) h81 h80
  refine ⟨z, ?_, a2, fun j hj => a3 j (by omega) hj, fun j hj => a4 j (by omega), a5, a6⟩
  unfold fX12_movesRow_12
  rw [show (0 : Int32) = nI 0 from rfl, a1]
  exact id (Eq.refl _)
theorem ml12L {p : Nat} (hp : p + 8 ≤ 920) : ∀ (k i f : Nat) (s : ST), i + k = 8 → k < f → gi s 0 68 = 1 → gi s 0 67 = nI (p + i) →
    ∃ z, fX12_movesRow_12_L2 f (nI i) s = some (nI 8, z) ∧ gi z 0 67 = nI (p + 8) ∧ (∀ j, i ≤ j → j < 8 → gi z 12 j = gi s 46 (p + j)) ∧ (∀ j, j < i ∨ 8 ≤ j → gi z 12 j = gi s 12 j) ∧ (∀ j, j ≠ 67 → gi z 0 j = gi s 0 j) ∧ (∀ x j, x ≠ 0 → x ≠ 12 → gi z x j = gi s x j) := by
  intro k
  induction k with
  | zero =>
    intro i f s hi hf h81 h80
    obtain ⟨f, rfl⟩ : ∃ m, f = m + 1 := ⟨f - 1, by omega⟩
    obtain rfl : i = 8 := by omega
    refine ⟨s, ?_, h80, fun j h1 h2 => absurd h1 (by omega), fun _ _ => rfl, fun _ _ => rfl, fun _ _ _ _ => rfl⟩
    rw [fX12_movesRow_12_L2]
    simp (disch := omega) only [↓ite_bind, ↓ck_bind, ↓lt_bind, ↓Option.bind_assoc, ↓bd_s, ↓lt_v, ↓ck_v, ↓reduceIte, Bool.false_eq_true, Bool.true_eq_false, bd_s, nj_add, nj_addl, nj_addr, nj_mull, nj_mulr, nj_subr, nj_pred, ix_nI, ix_lit, inb_t, inb_l, nj_le_t, nj_le_f, nj_lel_t, nj_lel_f, nj_ler_t, nj_ler_f, nj_lt_t, nj_lt_f, nj_ltl_t, nj_ltl_f, nj_ltr_t, nj_ltr_f, nj_eq_t, nj_eq_f, nj_eqr_t, nj_eqr_f, nj_m1, nj_m2]
  | succ k ih =>
    intro i f s hi hf h81 h80
    obtain ⟨f, rfl⟩ : ∃ m, f = m + 1 := ⟨f - 1, by omega⟩
    obtain ⟨z, a1, a2, a3, a4, a5, a6⟩ := ih (i + 1) f (si (si (si s 46 (p + i) (gi s 46 (p + i))) 0 67 (nI (p + i + 1))) 12 i (gi s 46 (p + i))) (by omega) (by omega) (by rw [gi_ne (by decide), gi_dif (by decide), gi_ne (by decide)]; exact h81) (by rw [gi_ne (by decide), gi_same]; rfl)
    have hs : ∀ x j, x ≠ 0 → x ≠ 12 → gi (si (si (si s 46 (p + i) (gi s 46 (p + i))) 0 67 (nI (p + i + 1))) 12 i (gi s 46 (p + i))) x j = gi s x j := by
      intro x j h1 h2
      rw [gi_ne h2, gi_ne h1, gi_si]
      by_cases e : x = 46
      · rw [if_pos e, e]
        by_cases e2 : j = p + i
        · rw [if_pos e2, e2]
        · rw [if_neg e2]
      · rw [if_neg e]
    refine ⟨z, ?_, a2, fun j h1 h2 => ?_, fun j hj => ?_, fun j hj => ?_, fun x j h1 h2 => (a6 x j h1 h2).trans (hs x j h1 h2)⟩
    · rw [fX12_movesRow_12_L2]
      simp (disch := omega) only [↓ite_bind, ↓ck_bind, ↓lt_bind, ↓Option.bind_assoc, ↓bd_s, ↓lt_v, ↓ck_v, ↓reduceIte, Bool.false_eq_true, Bool.true_eq_false, bd_s, nj_add, nj_addl, nj_addr, nj_mull, nj_mulr, nj_subr, nj_pred, ix_nI, ix_lit, inb_t, inb_l, nj_le_t, nj_le_f, nj_lel_t, nj_lel_f, nj_ler_t, nj_ler_f, nj_lt_t, nj_lt_f, nj_ltl_t, nj_ltl_f, nj_ltr_t, nj_ltr_f, nj_eq_t, nj_eq_f, nj_eqr_t, nj_eqr_f, nj_m1, nj_m2, mvL (p := p + i) (by omega) h81 h80]
      exact a1
    · by_cases e : j = i
      · rw [e, a4 _ (by omega), gi_same]
      · rw [a3 j (by omega) h2]; exact hs _ _ (by decide) (by decide)
    · rw [a4 j (by omega), gi_dif (by omega), gi_ne (by decide), gi_ne (by decide)]
    · rw [a5 j hj, gi_ne (by decide), gi_dif hj, gi_ne (by decide)]
theorem ml12 {p : Nat} {s : ST} (hp : p + 8 ≤ 920) (h81 : gi s 0 68 = 1) (h80 : gi s 0 67 = nI p) : ∃ z, fX12_movesRow_12 s = some z ∧ gi z 0 67 = nI (p + 8) ∧ (∀ j, j < 8 → gi z 12 j = gi s 46 (p + j)) ∧ (∀ j, 8 ≤ j → gi z 12 j = gi s 12 j) ∧ (∀ j, j ≠ 67 → gi z 0 j = gi s 0 j) ∧ (∀ x j, x ≠ 0 → x ≠ 12 → gi z x j = gi s x j) := by
  obtain ⟨z, a1, a2, a3, a4, a5, a6⟩ := ml12L hp 8 0 FUEL s (by omega) (by rw [FUEL_eq]; omega) h81 h80
  refine ⟨z, ?_, a2, fun j hj => a3 j (by omega) hj, fun j hj => a4 j (by omega), a5, a6⟩
  unfold fX12_movesRow_12
  rw [show (0 : Int32) = nI 0 from rfl, a1]
  exact id (Eq.refl _)
theorem movS {k : Nat} {s : ST} (hk : k < 20) : ∃ z, fX12_movesAll (nI k) 0 s = some z ∧ (∀ j, j < 46 → PVf (gi z) k j = lv s j) ∧ (∀ j, j < 46 * k ∨ 46 * k + 46 ≤ j → gi z 46 j = gi s 46 j) ∧ (∀ j, j ≠ 67 → j ≠ 68 → gi z 0 j = gi s 0 j) ∧ (∀ x j, x ≠ 0 → x ≠ 46 → gi z x j = gi s x j) := by
  have m1 := mvS (v := gi s 1 8) (s := si (si s 0 67 (nI (46 * k))) 0 68 0) (p := 46 * k) (by omega) (gi_same _ _ _ _) (by rw [gi_dif (by decide), gi_same])
  obtain ⟨y1, hy1⟩ : ∃ y, si (si (si (si s 0 67 (nI (46 * k))) 0 68 0) 46 (46 * k) (gi s 1 8)) 0 67 (nI (46 * k + 1)) = y := ⟨_, rfl⟩
  rw [hy1] at m1
  have m2 := mvS (v := gi s 1 9) (s := si y1 1 8 (gi s 1 8)) (p := 46 * k + 1) (by omega) (by rw [gi_ne (by decide), ← hy1, gi_dif (by decide), gi_ne (by decide), gi_same]) (by rw [gi_ne (by decide), ← hy1, gi_same])
  obtain ⟨y2, hy2⟩ : ∃ y, si (si (si y1 1 8 (gi s 1 8)) 46 (46 * k + 1) (gi s 1 9)) 0 67 (nI (46 * k + 1 + 1)) = y := ⟨_, rfl⟩
  rw [hy2] at m2
  obtain ⟨z0, hz0⟩ : ∃ y, si y2 1 9 (gi s 1 9) = y := ⟨_, rfl⟩
  have f0 : ∀ x j, x ≠ 0 → x ≠ 46 → gi z0 x j = gi s x j := by
    intro x j h1 h2
    rw [← hz0, gi_si]
    by_cases e : x = 1
    · subst e
      rw [if_pos rfl]
      by_cases e2 : j = 9
      · rw [if_pos e2, e2]
      · rw [if_neg e2, ← hy2, gi_ne (by decide), gi_ne (by decide), gi_si, if_pos rfl]
        by_cases e3 : j = 8
        · rw [if_pos e3, e3]
        · rw [if_neg e3, ← hy1, gi_ne (by decide), gi_ne (by decide), gi_ne (by decide), gi_ne (by decide)]
    · rw [if_neg e, ← hy2, gi_ne h1, gi_ne h2, gi_ne e, ← hy1, gi_ne h1, gi_ne h2, gi_ne h1, gi_ne h1]
  have g0 : ∀ j, j ≠ 67 → j ≠ 68 → gi z0 0 j = gi s 0 j := by
    intro j h1 h2
    rw [← hz0, gi_ne (by decide), ← hy2, gi_dif h1, gi_ne (by decide), gi_ne (by decide), ← hy1, gi_dif h1, gi_ne (by decide), gi_dif h2, gi_dif h1]
  have p0 : gi z0 0 67 = nI (46 * k + 2) := by rw [← hz0, gi_ne (by decide), ← hy2, gi_same]
  have q0 : gi z0 0 68 = 0 := by rw [← hz0, gi_ne (by decide), ← hy2, gi_dif (by decide), gi_ne (by decide), gi_ne (by decide), ← hy1, gi_dif (by decide), gi_ne (by decide), gi_same]
  have r0 : ∀ j, gi z0 46 j = if j = 46 * k + 1 then gi s 1 9 else if j = 46 * k then gi s 1 8 else gi s 46 j := by
    intro j
    rw [← hz0, gi_ne (by decide), ← hy2, gi_ne (by decide), gi_si, if_pos rfl, gi_ne (by decide), ← hy1, gi_ne (by decide), gi_si, if_pos rfl, gi_ne (by decide), gi_ne (by decide)]
  obtain ⟨z1, a1, b1, c1, d1, e1, f1⟩ := ms3 (p := 46 * k + 2) (s := z0) (by omega) q0 p0
  obtain ⟨z2, a2, b2, c2, d2, e2, f2⟩ := ms4 (p := 46 * k + 7) (s := z1) (by omega) (by rw [e1 68 (by decide)]; exact q0) b1
  obtain ⟨z3, a3, b3, c3, d3, e3, f3⟩ := ms5 (p := 46 * k + 12) (s := z2) (by omega) (by rw [e2 68 (by decide), e1 68 (by decide)]; exact q0) b2
  obtain ⟨z4, a4, b4, c4, d4, e4, f4⟩ := ms6 (p := 46 * k + 17) (s := z3) (by omega) (by rw [e3 68 (by decide), e2 68 (by decide), e1 68 (by decide)]; exact q0) b3
  obtain ⟨z5, a5, b5, c5, d5, e5, f5⟩ := ms9 (p := 46 * k + 22) (s := z4) (by omega) (by rw [e4 68 (by decide), e3 68 (by decide), e2 68 (by decide), e1 68 (by decide)]; exact q0) b4
  obtain ⟨z6, a6, b6, c6, d6, e6, f6⟩ := ms11 (p := 46 * k + 30) (s := z5) (by omega) (by rw [e5 68 (by decide), e4 68 (by decide), e3 68 (by decide), e2 68 (by decide), e1 68 (by decide)]; exact q0) b5
  obtain ⟨z7, a7, b7, c7, d7, e7, f7⟩ := ms12 (p := 46 * k + 38) (s := z6) (by omega) (by rw [e6 68 (by decide), e5 68 (by decide), e4 68 (by decide), e3 68 (by decide), e2 68 (by decide), e1 68 (by decide)]; exact q0) b6
  refine ⟨z7, ?_, fun j hj => ?_, fun j hj => ?_, fun j h1 h2 => ?_, fun x j h1 h2 => ?_⟩
  · unfold fX12_movesAll
    rw [lt_v, ck_t (by decide), lt_v, ck_t (by decide), ix_lit (by decide), nj_mull]
    rw [show gi (si (si s 0 67 (nI (46 * k))) 0 68 0) 1 8 = gi s 1 8 by rw [gi_ne (by decide), gi_ne (by decide)], m1, bd_s, ck_t (by decide), lt_v, ck_t (by decide), ix_lit (by decide)]
    rw [show gi (si y1 1 8 (gi s 1 8)) 1 9 = gi s 1 9 by rw [gi_dif (by decide), ← hy1, gi_ne (by decide), gi_ne (by decide), gi_ne (by decide), gi_ne (by decide)], m2, bd_s, ck_t (by decide), lt_v, hz0]
    simp only [a1, a2, a3, a4, a5, a6, a7, bd_s]
  · have back : ∀ j, j < 46 * k + 2 → gi z7 46 j = gi z0 46 j := fun j hj => by rw [d7 j (by omega), d6 j (by omega), d5 j (by omega), d4 j (by omega), d3 j (by omega), d2 j (by omega), d1 j (by omega)]
    unfold PVf
    by_cases c44 : j = 44
    · rw [if_pos c44, back _ (by omega), r0, if_neg (by omega), if_pos rfl, c44]; rfl
    rw [if_neg c44]
    by_cases c45 : j = 45
    · rw [if_pos c45, back _ (by omega), r0, if_pos rfl, c45]; rfl
    rw [if_neg c45]
    by_cases c3x : j < 5
    · rw [show 46 * k + (2 + j) = 46 * k + 2 + (j - 0) by omega, d7 _ (by omega), d6 _ (by omega), d5 _ (by omega), d4 _ (by omega), d3 _ (by omega), d2 _ (by omega), c1 _ (by omega), f0 _ _ (by decide) (by decide), lv_clock _ (by omega), show j - 0 = j by omega]
    by_cases c4x : j < 10
    · rw [show 46 * k + (2 + j) = 46 * k + 7 + (j - 5) by omega, d7 _ (by omega), d6 _ (by omega), d5 _ (by omega), d4 _ (by omega), d3 _ (by omega), c2 _ (by omega), f1 _ _ (by decide) (by decide), f0 _ _ (by decide) (by decide), lv_last _ (by omega), show 5 + (j - 5) = j by omega]
    by_cases c5x : j < 15
    · rw [show 46 * k + (2 + j) = 46 * k + 12 + (j - 10) by omega, d7 _ (by omega), d6 _ (by omega), d5 _ (by omega), d4 _ (by omega), c3 _ (by omega), f2 _ _ (by decide) (by decide), f1 _ _ (by decide) (by decide), f0 _ _ (by decide) (by decide), lv_fined _ (by omega), show 10 + (j - 10) = j by omega]
    by_cases c6x : j < 20
    · rw [show 46 * k + (2 + j) = 46 * k + 17 + (j - 15) by omega, d7 _ (by omega), d6 _ (by omega), d5 _ (by omega), c4 _ (by omega), f3 _ _ (by decide) (by decide), f2 _ _ (by decide) (by decide), f1 _ _ (by decide) (by decide), f0 _ _ (by decide) (by decide), lv_waited _ (by omega), show 15 + (j - 15) = j by omega]
    by_cases c9x : j < 28
    · rw [show 46 * k + (2 + j) = 46 * k + 22 + (j - 20) by omega, d7 _ (by omega), d6 _ (by omega), c5 _ (by omega), f4 _ _ (by decide) (by decide), f3 _ _ (by decide) (by decide), f2 _ _ (by decide) (by decide), f1 _ _ (by decide) (by decide), f0 _ _ (by decide) (by decide), lv_minute _ (by omega), show 20 + (j - 20) = j by omega]
    by_cases c11x : j < 36
    · rw [show 46 * k + (2 + j) = 46 * k + 30 + (j - 28) by omega, d7 _ (by omega), c6 _ (by omega), f5 _ _ (by decide) (by decide), f4 _ _ (by decide) (by decide), f3 _ _ (by decide) (by decide), f2 _ _ (by decide) (by decide), f1 _ _ (by decide) (by decide), f0 _ _ (by decide) (by decide), lv_held _ (by omega), show 28 + (j - 28) = j by omega]
    rw [show 46 * k + (2 + j) = 46 * k + 38 + (j - 36) by omega, c7 _ (by omega), f6 _ _ (by decide) (by decide), f5 _ _ (by decide) (by decide), f4 _ _ (by decide) (by decide), f3 _ _ (by decide) (by decide), f2 _ _ (by decide) (by decide), f1 _ _ (by decide) (by decide), f0 _ _ (by decide) (by decide), lv_missed _ (by omega), show 36 + (j - 36) = j by omega]
  · rw [d7 j (by omega), d6 j (by omega), d5 j (by omega), d4 j (by omega), d3 j (by omega), d2 j (by omega), d1 j (by omega), r0, if_neg (by omega), if_neg (by omega)]
  · rw [e7 j h1, e6 j h1, e5 j h1, e4 j h1, e3 j h1, e2 j h1, e1 j h1, g0 j h1 h2]
  · rw [f7 x j h1 h2, f6 x j h1 h2, f5 x j h1 h2, f4 x j h1 h2, f3 x j h1 h2, f2 x j h1 h2, f1 x j h1 h2, f0 x j h1 h2]
theorem movL {k : Nat} {s : ST} (hk : k < 20) : ∃ z, fX12_movesAll (nI k) 1 s = some z ∧ (∀ j, j < 46 → lv z j = PVf (gi s) k j) ∧ (∀ j, j ≠ 8 → j ≠ 9 → gi z 1 j = gi s 1 j) ∧ (∀ j, j ≠ 67 → j ≠ 68 → gi z 0 j = gi s 0 j) ∧ (∀ x j, x ≠ 0 → x ≠ 1 → x ≠ 3 → x ≠ 4 → x ≠ 5 → x ≠ 6 → x ≠ 9 → x ≠ 11 → x ≠ 12 → gi z x j = gi s x j) := by
  have m1 := mvL (v := gi s 1 8) (s := si (si s 0 67 (nI (46 * k))) 0 68 1) (p := 46 * k) (by omega) (gi_same _ _ _ _) (by rw [gi_dif (by decide), gi_same])
  rw [show gi (si (si s 0 67 (nI (46 * k))) 0 68 1) 46 (46 * k) = gi s 46 (46 * k) by rw [gi_ne (by decide), gi_ne (by decide)]] at m1
  obtain ⟨y1, hy1⟩ : ∃ y, si (si (si (si s 0 67 (nI (46 * k))) 0 68 1) 46 (46 * k) (gi s 46 (46 * k))) 0 67 (nI (46 * k + 1)) = y := ⟨_, rfl⟩
  rw [hy1] at m1
  have w1 : gi (si y1 1 8 (gi s 46 (46 * k))) 46 (46 * k + 1) = gi s 46 (46 * k + 1) := by rw [gi_ne (by decide), ← hy1, gi_ne (by decide), gi_dif (by omega), gi_ne (by decide), gi_ne (by decide)]
  have m2 := mvL (v := gi s 1 9) (s := si y1 1 8 (gi s 46 (46 * k))) (p := 46 * k + 1) (by omega) (by rw [gi_ne (by decide), ← hy1, gi_dif (by decide), gi_ne (by decide), gi_same]) (by rw [gi_ne (by decide), ← hy1, gi_same])
  rw [w1] at m2
  obtain ⟨y2, hy2⟩ : ∃ y, si (si (si y1 1 8 (gi s 46 (46 * k))) 46 (46 * k + 1) (gi s 46 (46 * k + 1))) 0 67 (nI (46 * k + 1 + 1)) = y := ⟨_, rfl⟩
  rw [hy2] at m2
  obtain ⟨z0, hz0⟩ : ∃ y, si y2 1 9 (gi s 46 (46 * k + 1)) = y := ⟨_, rfl⟩
  have f0 : ∀ x j, x ≠ 0 → x ≠ 1 → gi z0 x j = gi s x j := by
    intro x j h1 h2
    rw [← hz0, gi_ne h2, ← hy2, gi_ne h1, gi_si]
    by_cases e : x = 46
    · subst e
      rw [if_pos rfl]
      by_cases e2 : j = 46 * k + 1
      · rw [if_pos e2, e2]
      · rw [if_neg e2, gi_ne (by decide), ← hy1, gi_ne (by decide), gi_si, if_pos rfl]
        by_cases e3 : j = 46 * k
        · rw [if_pos e3, e3]
        · rw [if_neg e3, gi_ne (by decide), gi_ne (by decide)]
    · rw [if_neg e, gi_ne h2, ← hy1, gi_ne h1, gi_ne e, gi_ne h1, gi_ne h1]
  have o0 : ∀ j, gi z0 1 j = if j = 9 then gi s 46 (46 * k + 1) else if j = 8 then gi s 46 (46 * k) else gi s 1 j := by
    intro j
    rw [← hz0, gi_si, if_pos rfl, ← hy2, gi_ne (by decide), gi_ne (by decide), gi_si, if_pos rfl, ← hy1, gi_ne (by decide), gi_ne (by decide), gi_ne (by decide), gi_ne (by decide)]
  have g0 : ∀ j, j ≠ 67 → j ≠ 68 → gi z0 0 j = gi s 0 j := by
    intro j h1 h2
    rw [← hz0, gi_ne (by decide), ← hy2, gi_dif h1, gi_ne (by decide), gi_ne (by decide), ← hy1, gi_dif h1, gi_ne (by decide), gi_dif h2, gi_dif h1]
  have p0 : gi z0 0 67 = nI (46 * k + 2) := by rw [← hz0, gi_ne (by decide), ← hy2, gi_same]
  have q0 : gi z0 0 68 = 1 := by rw [← hz0, gi_ne (by decide), ← hy2, gi_dif (by decide), gi_ne (by decide), gi_ne (by decide), ← hy1, gi_dif (by decide), gi_ne (by decide), gi_same]
  obtain ⟨z1, a1, b1, c1, d1, e1, f1⟩ := ml3 (p := 46 * k + 2) (s := z0) (by omega) q0 p0
  obtain ⟨z2, a2, b2, c2, d2, e2, f2⟩ := ml4 (p := 46 * k + 7) (s := z1) (by omega) (by rw [e1 68 (by decide)]; exact q0) b1
  obtain ⟨z3, a3, b3, c3, d3, e3, f3⟩ := ml5 (p := 46 * k + 12) (s := z2) (by omega) (by rw [e2 68 (by decide), e1 68 (by decide)]; exact q0) b2
  obtain ⟨z4, a4, b4, c4, d4, e4, f4⟩ := ml6 (p := 46 * k + 17) (s := z3) (by omega) (by rw [e3 68 (by decide), e2 68 (by decide), e1 68 (by decide)]; exact q0) b3
  obtain ⟨z5, a5, b5, c5, d5, e5, f5⟩ := ml9 (p := 46 * k + 22) (s := z4) (by omega) (by rw [e4 68 (by decide), e3 68 (by decide), e2 68 (by decide), e1 68 (by decide)]; exact q0) b4
  obtain ⟨z6, a6, b6, c6, d6, e6, f6⟩ := ml11 (p := 46 * k + 30) (s := z5) (by omega) (by rw [e5 68 (by decide), e4 68 (by decide), e3 68 (by decide), e2 68 (by decide), e1 68 (by decide)]; exact q0) b5
  obtain ⟨z7, a7, b7, c7, d7, e7, f7⟩ := ml12 (p := 46 * k + 38) (s := z6) (by omega) (by rw [e6 68 (by decide), e5 68 (by decide), e4 68 (by decide), e3 68 (by decide), e2 68 (by decide), e1 68 (by decide)]; exact q0) b6
  have z71 : ∀ j, gi z7 1 j = gi z0 1 j := fun j => by rw [f7 _ _ (by decide) (by decide), f6 _ _ (by decide) (by decide), f5 _ _ (by decide) (by decide), f4 _ _ (by decide) (by decide), f3 _ _ (by decide) (by decide), f2 _ _ (by decide) (by decide), f1 _ _ (by decide) (by decide)]
  refine ⟨z7, ?_, fun j hj => ?_, fun j h1 h2 => ?_, fun j h1 h2 => ?_, fun x j h0 h1 h3 h4 h5 h6 h9 h11 h12 => ?_⟩
  · unfold fX12_movesAll
    rw [lt_v, ck_t (by decide), lt_v, ck_t (by decide), ix_lit (by decide), nj_mull]
    rw [show gi (si (si s 0 67 (nI (46 * k))) 0 68 1) 1 8 = gi s 1 8 by rw [gi_ne (by decide), gi_ne (by decide)], m1, bd_s, ck_t (by decide), lt_v, ck_t (by decide), ix_lit (by decide)]
    rw [show gi (si y1 1 8 (gi s 46 (46 * k))) 1 9 = gi s 1 9 by rw [gi_dif (by decide), ← hy1, gi_ne (by decide), gi_ne (by decide), gi_ne (by decide), gi_ne (by decide)], m2, bd_s, ck_t (by decide), lt_v, hz0]
    simp only [a1, a2, a3, a4, a5, a6, a7, bd_s]
  · unfold PVf lv
    by_cases c3x : j < 5
    · rw [if_pos c3x, if_neg (by omega), if_neg (by omega), f7 _ _ (by decide) (by decide), f6 _ _ (by decide) (by decide), f5 _ _ (by decide) (by decide), f4 _ _ (by decide) (by decide), f3 _ _ (by decide) (by decide), f2 _ _ (by decide) (by decide), c1 _ (by omega), f0 _ _ (by decide) (by decide), show 46 * k + 2 + j = 46 * k + (2 + j) by omega]
    rw [if_neg c3x]
    by_cases c4x : j < 10
    · rw [if_pos c4x, if_neg (by omega), if_neg (by omega), f7 _ _ (by decide) (by decide), f6 _ _ (by decide) (by decide), f5 _ _ (by decide) (by decide), f4 _ _ (by decide) (by decide), f3 _ _ (by decide) (by decide), c2 _ (by omega), f1 _ _ (by decide) (by decide), f0 _ _ (by decide) (by decide), show 46 * k + 7 + (j - 5) = 46 * k + (2 + j) by omega]
    rw [if_neg c4x]
    by_cases c5x : j < 15
    · rw [if_pos c5x, if_neg (by omega), if_neg (by omega), f7 _ _ (by decide) (by decide), f6 _ _ (by decide) (by decide), f5 _ _ (by decide) (by decide), f4 _ _ (by decide) (by decide), c3 _ (by omega), f2 _ _ (by decide) (by decide), f1 _ _ (by decide) (by decide), f0 _ _ (by decide) (by decide), show 46 * k + 12 + (j - 10) = 46 * k + (2 + j) by omega]
    rw [if_neg c5x]
    by_cases c6x : j < 20
    · rw [if_pos c6x, if_neg (by omega), if_neg (by omega), f7 _ _ (by decide) (by decide), f6 _ _ (by decide) (by decide), f5 _ _ (by decide) (by decide), c4 _ (by omega), f3 _ _ (by decide) (by decide), f2 _ _ (by decide) (by decide), f1 _ _ (by decide) (by decide), f0 _ _ (by decide) (by decide), show 46 * k + 17 + (j - 15) = 46 * k + (2 + j) by omega]
    rw [if_neg c6x]
    by_cases c9x : j < 28
    · rw [if_pos c9x, if_neg (by omega), if_neg (by omega), f7 _ _ (by decide) (by decide), f6 _ _ (by decide) (by decide), c5 _ (by omega), f4 _ _ (by decide) (by decide), f3 _ _ (by decide) (by decide), f2 _ _ (by decide) (by decide), f1 _ _ (by decide) (by decide), f0 _ _ (by decide) (by decide), show 46 * k + 22 + (j - 20) = 46 * k + (2 + j) by omega]
    rw [if_neg c9x]
    by_cases c11x : j < 36
    · rw [if_pos c11x, if_neg (by omega), if_neg (by omega), f7 _ _ (by decide) (by decide), c6 _ (by omega), f5 _ _ (by decide) (by decide), f4 _ _ (by decide) (by decide), f3 _ _ (by decide) (by decide), f2 _ _ (by decide) (by decide), f1 _ _ (by decide) (by decide), f0 _ _ (by decide) (by decide), show 46 * k + 30 + (j - 28) = 46 * k + (2 + j) by omega]
    rw [if_neg c11x]
    by_cases c12x : j < 44
    · rw [if_pos c12x, if_neg (by omega), if_neg (by omega), c7 _ (by omega), f6 _ _ (by decide) (by decide), f5 _ _ (by decide) (by decide), f4 _ _ (by decide) (by decide), f3 _ _ (by decide) (by decide), f2 _ _ (by decide) (by decide), f1 _ _ (by decide) (by decide), f0 _ _ (by decide) (by decide), show 46 * k + 38 + (j - 36) = 46 * k + (2 + j) by omega]
    rw [if_neg c12x]
    by_cases c44 : j = 44
    · rw [if_pos c44, if_pos c44, z71, o0, if_neg (by decide), if_pos rfl]
    rw [if_neg c44, if_neg c44, if_pos (by omega), z71, o0, if_pos rfl]
  · rw [z71, o0, if_neg h2, if_neg h1]
  · rw [e7 j h1, e6 j h1, e5 j h1, e4 j h1, e3 j h1, e2 j h1, e1 j h1, g0 j h1 h2]
  · rw [f7 x j h0 h12, f6 x j h0 h11, f5 x j h0 h9, f4 x j h0 h6, f3 x j h0 h5, f2 x j h0 h4, f1 x j h0 h3, f0 x j h0 h1]
theorem shiftL : ∀ (k i f : Nat) (s : ST), i + k = 920 → 46 ≤ i → k < f → ∃ z, fX12_keepsAct_L12 f (nI i) s = some (nI 920, z) ∧ (∀ j, i - 46 ≤ j → j < 874 → gi z 46 j = gi s 46 (j + 46)) ∧ (∀ j, j < i - 46 ∨ 874 ≤ j → gi z 46 j = gi s 46 j) ∧ Fr [46] s z := by
  intro k
  induction k with
  | zero =>
    intro i f s hi h46 hf
    obtain ⟨f, rfl⟩ : ∃ m, f = m + 1 := ⟨f - 1, by omega⟩
    obtain rfl : i = 920 := by omega
    refine ⟨s, ?_, fun j h1 h2 => absurd h1 (by omega), fun _ _ => rfl, Fr.rfl⟩
    rw [fX12_keepsAct_L12]
    simp (disch := omega) only [↓ite_bind, ↓ck_bind, ↓lt_bind, ↓Option.bind_assoc, ↓bd_s, ↓lt_v, ↓ck_v, ↓reduceIte, Bool.false_eq_true, Bool.true_eq_false, bd_s, nj_add, nj_addl, nj_addr, nj_mull, nj_mulr, nj_subr, nj_pred, ix_nI, ix_lit, inb_t, inb_l, nj_le_t, nj_le_f, nj_lel_t, nj_lel_f, nj_ler_t, nj_ler_f, nj_lt_t, nj_lt_f, nj_ltl_t, nj_ltl_f, nj_ltr_t, nj_ltr_f, nj_eq_t, nj_eq_f, nj_eqr_t, nj_eqr_f, nj_m1, nj_m2]
  | succ k ih =>
    intro i f s hi h46 hf
    obtain ⟨f, rfl⟩ : ∃ m, f = m + 1 := ⟨f - 1, by omega⟩
    obtain ⟨z, a1, a2, a3, a4⟩ := ih (i + 1) f (si s 46 (i - 46) (gi s 46 i)) (by omega) (by omega) (by omega)
    refine ⟨z, ?_, fun j h1 h2 => ?_, fun j hj => ?_, (Fr.si (by decide)).trans a4⟩
    · rw [fX12_keepsAct_L12]
      simp (disch := omega) only [↓ite_bind, ↓ck_bind, ↓lt_bind, ↓Option.bind_assoc, ↓bd_s, ↓lt_v, ↓ck_v, ↓reduceIte, Bool.false_eq_true, Bool.true_eq_false, bd_s, nj_add, nj_addl, nj_addr, nj_mull, nj_mulr, nj_subr, nj_pred, ix_nI, ix_lit, inb_t, inb_l, nj_le_t, nj_le_f, nj_lel_t, nj_lel_f, nj_ler_t, nj_ler_f, nj_lt_t, nj_lt_f, nj_ltl_t, nj_ltl_f, nj_ltr_t, nj_ltr_f, nj_eq_t, nj_eq_f, nj_eqr_t, nj_eqr_f, nj_m1, nj_m2]
      exact a1
    · by_cases e : j = i - 46
      · rw [a3 j (by omega), e, gi_same, show i - 46 + 46 = i by omega]
      · rw [a2 j (by omega) h2, gi_dif (by omega)]
    · rw [a3 j (by omega), gi_dif (by omega)]
