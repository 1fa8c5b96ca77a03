/-! THE REFERENCE'S ROWS CARRIED TO ITS IMAGES AND BACK -/
theorem cs1L {p : Nat} (hp : p + 13 ≤ 6000) : ∀ (k i f : Nat) (s : ST), i + k = 13 → k < f → gi s 0 81 = 0 → gi s 0 80 = nI (p + i) →
    ∃ z, fX12_carryRow_1_L2 f (nI i) s = some (nI 13, z) ∧ gi z 0 80 = nI (p + 13) ∧ (∀ j, i ≤ j → j < 13 → gi z 54 (p + j) = gi s 1 j) ∧ (∀ j, j < p + i ∨ p + 13 ≤ j → gi z 54 j = gi s 54 j) ∧ (∀ j, j ≠ 80 → gi z 0 j = gi s 0 j) ∧ Fr [0, 54] s z := by
  intro k
  induction k with
  | zero =>
    intro i f s hi hf h81 h80
    obtain ⟨f, rfl⟩ : ∃ m, f = m + 1 := ⟨f - 1, by omega⟩
    obtain rfl : i = 13 := by omega
    refine ⟨s, ?_, h80, fun j h1 h2 => absurd h1 (by omega), fun _ _ => rfl, fun _ _ => rfl, Fr.rfl⟩
    rw [fX12_carryRow_1_L2]
    simp (disch := omega) only [↓ite_bind, ↓ck_bind, ↓lt_bind, ↓Option.bind_assoc, ↓bd_s, ↓lt_v, ↓ck_v, ↓reduceIte, Bool.false_eq_true, Bool.true_eq_false, bd_s, nj_add, nj_addl, nj_addr, nj_mull, nj_mulr, nj_subr, nj_pred, ix_nI, ix_lit, inb_t, inb_l, nj_le_t, nj_le_f, nj_lel_t, nj_lel_f, nj_ler_t, nj_ler_f, nj_lt_t, nj_lt_f, nj_ltl_t, nj_ltl_f, nj_ltr_t, nj_ltr_f, nj_eq_t, nj_eq_f, nj_eqr_t, nj_eqr_f, nj_m1, nj_m2]
  | succ k ih =>
    intro i f s hi hf h81 h80
    obtain ⟨f, rfl⟩ : ∃ m, f = m + 1 := ⟨f - 1, by omega⟩
    obtain ⟨z, a1, a2, a3, a4, a5, a6⟩ := ih (i + 1) f (si (si s 54 (p + i) (gi s 1 i)) 0 80 (nI (p + i + 1))) (by omega) (by omega) (by rw [gi_dif (by decide), gi_ne (by decide)]; exact h81) (gi_same _ _ _ _)
    refine ⟨z, ?_, a2, fun j h1 h2 => ?_, fun j hj => ?_, fun j hj => ?_, ((Fr.si (by decide)).trans (Fr.si (by decide))).trans a6⟩
    · rw [fX12_carryRow_1_L2]
      simp (disch := omega) only [↓ite_bind, ↓ck_bind, ↓lt_bind, ↓Option.bind_assoc, ↓bd_s, ↓lt_v, ↓ck_v, ↓reduceIte, Bool.false_eq_true, Bool.true_eq_false, bd_s, nj_add, nj_addl, nj_addr, nj_mull, nj_mulr, nj_subr, nj_pred, ix_nI, ix_lit, inb_t, inb_l, nj_le_t, nj_le_f, nj_lel_t, nj_lel_f, nj_ler_t, nj_ler_f, nj_lt_t, nj_lt_f, nj_ltl_t, nj_ltl_f, nj_ltr_t, nj_ltr_f, nj_eq_t, nj_eq_f, nj_eqr_t, nj_eqr_f, nj_m1, nj_m2, h81, h80, gi_si, gi_sl, gl_si, gl_sl, gi_sAr, gl_sAr, mr_si, mr_sl, mr_sm, gi_sm, gl_sm, mr_sAr, Nat.reduceEqDiff]
      exact a1
    · by_cases e : j = i
      · rw [e, a4 _ (by omega), gi_ne (by decide), gi_same]
      · rw [a3 j (by omega) h2, gi_ne (by decide), gi_ne (by decide)]
    · rw [a4 j (by omega), gi_ne (by decide), gi_dif (by omega)]
    · rw [a5 j hj, gi_dif hj, gi_ne (by decide)]
theorem cs1 {p : Nat} {s : ST} (hp : p + 13 ≤ 6000) (h81 : gi s 0 81 = 0) (h80 : gi s 0 80 = nI p) : ∃ z, fX12_carryRow_1 s = some z ∧ gi z 0 80 = nI (p + 13) ∧ (∀ j, j < 13 → gi z 54 (p + j) = gi s 1 j) ∧ (∀ j, j < p ∨ p + 13 ≤ j → gi z 54 j = gi s 54 j) ∧ (∀ j, j ≠ 80 → gi z 0 j = gi s 0 j) ∧ Fr [0, 54] s z := by
  obtain ⟨z, a1, a2, a3, a4, a5, a6⟩ := cs1L hp 13 0 FUEL s (by omega) (by rw [FUEL_eq]; omega) h81 h80
  refine ⟨z, ?_, a2, fun j hj => a3 j (by omega) hj, fun j hj => a4 j (by omega), a5, a6⟩
  unfold fX12_carryRow_1
  rw [show (0 : Int32) = nI 0 from rfl, a1]
  exact id (Eq.refl _)
theorem cl1L {p : Nat} (hp : p + 13 ≤ 6000) : ∀ (k i f : Nat) (s : ST), i + k = 13 → k < f → gi s 0 81 = 1 → gi s 0 80 = nI (p + i) →
    ∃ z, fX12_carryRow_1_L2 f (nI i) s = some (nI 13, z) ∧ gi z 0 80 = nI (p + 13) ∧ (∀ j, i ≤ j → j < 13 → gi z 1 j = gi s 54 (p + j)) ∧ (∀ j, j < i ∨ 13 ≤ j → gi z 1 j = gi s 1 j) ∧ (∀ j, j ≠ 80 → gi z 0 j = gi s 0 j) ∧ Fr [0, 1] s z := by
  intro k
  induction k with
  | zero =>
    intro i f s hi hf h81 h80
    obtain ⟨f, rfl⟩ : ∃ m, f = m + 1 := ⟨f - 1, by omega⟩
    obtain rfl : i = 13 := by omega
    refine ⟨s, ?_, h80, fun j h1 h2 => absurd h1 (by omega), fun _ _ => rfl, fun _ _ => rfl, Fr.rfl⟩
    rw [fX12_carryRow_1_L2]
    simp (disch := omega) only [↓ite_bind, ↓ck_bind, ↓lt_bind, ↓Option.bind_assoc, ↓bd_s, ↓lt_v, ↓ck_v, ↓reduceIte, Bool.false_eq_true, Bool.true_eq_false, bd_s, nj_add, nj_addl, nj_addr, nj_mull, nj_mulr, nj_subr, nj_pred, ix_nI, ix_lit, inb_t, inb_l, nj_le_t, nj_le_f, nj_lel_t, nj_lel_f, nj_ler_t, nj_ler_f, nj_lt_t, nj_lt_f, nj_ltl_t, nj_ltl_f, nj_ltr_t, nj_ltr_f, nj_eq_t, nj_eq_f, nj_eqr_t, nj_eqr_f, nj_m1, nj_m2]
  | succ k ih =>
    intro i f s hi hf h81 h80
    obtain ⟨f, rfl⟩ : ∃ m, f = m + 1 := ⟨f - 1, by omega⟩
    obtain ⟨z, a1, a2, a3, a4, a5, a6⟩ := ih (i + 1) f (si (si s 1 i (gi s 54 (p + i))) 0 80 (nI (p + i + 1))) (by omega) (by omega) (by rw [gi_dif (by decide), gi_ne (by decide)]; exact h81) (gi_same _ _ _ _)
    refine ⟨z, ?_, a2, fun j h1 h2 => ?_, fun j hj => ?_, fun j hj => ?_, ((Fr.si (by decide)).trans (Fr.si (by decide))).trans a6⟩
    · rw [fX12_carryRow_1_L2]
      simp (disch := omega) only [↓ite_bind, ↓ck_bind, ↓lt_bind, ↓Option.bind_assoc, ↓bd_s, ↓lt_v, ↓ck_v, ↓reduceIte, Bool.false_eq_true, Bool.true_eq_false, bd_s, nj_add, nj_addl, nj_addr, nj_mull, nj_mulr, nj_subr, nj_pred, ix_nI, ix_lit, inb_t, inb_l, nj_le_t, nj_le_f, nj_lel_t, nj_lel_f, nj_ler_t, nj_ler_f, nj_lt_t, nj_lt_f, nj_ltl_t, nj_ltl_f, nj_ltr_t, nj_ltr_f, nj_eq_t, nj_eq_f, nj_eqr_t, nj_eqr_f, nj_m1, nj_m2, h81, i10, h80, gi_si, gi_sl, gl_si, gl_sl, gi_sAr, gl_sAr, mr_si, mr_sl, mr_sm, gi_sm, gl_sm, mr_sAr, Nat.reduceEqDiff]
      exact a1
    · by_cases e : j = i
      · rw [e, a4 _ (by omega), gi_ne (by decide), gi_same]
      · rw [a3 j (by omega) h2, gi_ne (by decide), gi_ne (by decide)]
    · rw [a4 j (by omega), gi_ne (by decide), gi_dif (by omega)]
    · rw [a5 j hj, gi_dif hj, gi_ne (by decide)]
theorem cl1 {p : Nat} {s : ST} (hp : p + 13 ≤ 6000) (h81 : gi s 0 81 = 1) (h80 : gi s 0 80 = nI p) : ∃ z, fX12_carryRow_1 s = some z ∧ gi z 0 80 = nI (p + 13) ∧ (∀ j, j < 13 → gi z 1 j = gi s 54 (p + j)) ∧ (∀ j, 13 ≤ j → gi z 1 j = gi s 1 j) ∧ (∀ j, j ≠ 80 → gi z 0 j = gi s 0 j) ∧ Fr [0, 1] s z := by
  obtain ⟨z, a1, a2, a3, a4, a5, a6⟩ := cl1L hp 13 0 FUEL s (by omega) (by rw [FUEL_eq]; omega) h81 h80
  refine ⟨z, ?_, a2, fun j hj => a3 j (by omega) hj, fun j hj => a4 j (by omega), a5, a6⟩
  unfold fX12_carryRow_1
  rw [show (0 : Int32) = nI 0 from rfl, a1]
  exact id (Eq.refl _)
theorem cs3L {p : Nat} (hp : p + 5 ≤ 6000) : ∀ (k i f : Nat) (s : ST), i + k = 5 → k < f → gi s 0 81 = 0 → gi s 0 80 = nI (p + i) →
    ∃ z, fX12_carryRow_3_L2 f (nI i) s = some (nI 5, z) ∧ gi z 0 80 = nI (p + 5) ∧ (∀ j, i ≤ j → j < 5 → gi z 54 (p + j) = gi s 3 j) ∧ (∀ j, j < p + i ∨ p + 5 ≤ j → gi z 54 j = gi s 54 j) ∧ (∀ j, j ≠ 80 → gi z 0 j = gi s 0 j) ∧ Fr [0, 54] s z := by
  intro k
  induction k with
  | zero =>
    intro i f s hi hf h81 h80
    obtain ⟨f, rfl⟩ : ∃ m, f = m + 1 := ⟨f - 1, by omega⟩
    obtain rfl : i = 5 := by omega
    refine ⟨s, ?_, h80, fun j h1 h2 => absurd h1 (by omega), fun _ _ => rfl, fun _ _ => rfl, Fr.rfl⟩
    rw [fX12_carryRow_3_L2]
    simp (disch := omega) only [↓ite_bind, ↓ck_bind, ↓lt_bind, ↓Option.bind_assoc, ↓bd_s, ↓lt_v, ↓ck_v, ↓reduceIte, Bool.false_eq_true, Bool.true_eq_false, bd_s, nj_add, nj_addl, nj_addr, nj_mull, nj_mulr, nj_subr, nj_pred, ix_nI, ix_lit, inb_t, inb_l, nj_le_t, nj_le_f, nj_lel_t, nj_lel_f, nj_ler_t, nj_ler_f, nj_lt_t, nj_lt_f, nj_ltl_t, nj_ltl_f, nj_ltr_t, nj_ltr_f, nj_eq_t, nj_eq_f, nj_eqr_t, nj_eqr_f, nj_m1, nj_m2]
  | succ k ih =>
    intro i f s hi hf h81 h80
    obtain ⟨f, rfl⟩ : ∃ m, f = m + 1 := ⟨f - 1, by omega⟩
    obtain ⟨z, a1, a2, a3, a4, a5, a6⟩ := ih (i + 1) f (si (si s 54 (p + i) (gi s 3 i)) 0 80 (nI (p + i + 1))) (by omega) (by omega) (by rw [gi_dif (by decide), gi_ne (by decide)]; exact h81) (gi_same _ _ _ _)
    refine ⟨z, ?_, a2, fun j h1 h2 => ?_, fun j hj => ?_, fun j hj => ?_, ((Fr.si (by decide)).trans (Fr.si (by decide))).trans a6⟩
    · rw [fX12_carryRow_3_L2]
      simp (disch := omega) only [↓ite_bind, ↓ck_bind, ↓lt_bind, ↓Option.bind_assoc, ↓bd_s, ↓lt_v, ↓ck_v, ↓reduceIte, Bool.false_eq_true, Bool.true_eq_false, bd_s, nj_add, nj_addl, nj_addr, nj_mull, nj_mulr, nj_subr, nj_pred, ix_nI, ix_lit, inb_t, inb_l, nj_le_t, nj_le_f, nj_lel_t, nj_lel_f, nj_ler_t, nj_ler_f, nj_lt_t, nj_lt_f, nj_ltl_t, nj_ltl_f, nj_ltr_t, nj_ltr_f, nj_eq_t, nj_eq_f, nj_eqr_t, nj_eqr_f, nj_m1, nj_m2, h81, h80, gi_si, gi_sl, gl_si, gl_sl, gi_sAr, gl_sAr, mr_si, mr_sl, mr_sm, gi_sm, gl_sm, mr_sAr, Nat.reduceEqDiff]
      exact a1
    · by_cases e : j = i
      · rw [e, a4 _ (by omega), gi_ne (by decide), gi_same]
      · rw [a3 j (by omega) h2, gi_ne (by decide), gi_ne (by decide)]
    · rw [a4 j (by omega), gi_ne (by decide), gi_dif (by omega)]
    · rw [a5 j hj, gi_dif hj, gi_ne (by decide)]
theorem cs3 {p : Nat} {s : ST} (hp : p + 5 ≤ 6000) (h81 : gi s 0 81 = 0) (h80 : gi s 0 80 = nI p) : ∃ z, fX12_carryRow_3 s = some z ∧ gi z 0 80 = nI (p + 5) ∧ (∀ j, j < 5 → gi z 54 (p + j) = gi s 3 j) ∧ (∀ j, j < p ∨ p + 5 ≤ j → gi z 54 j = gi s 54 j) ∧ (∀ j, j ≠ 80 → gi z 0 j = gi s 0 j) ∧ Fr [0, 54] s z := by
  obtain ⟨z, a1, a2, a3, a4, a5, a6⟩ := cs3L hp 5 0 FUEL s (by omega) (by rw [FUEL_eq]; omega) h81 h80
  refine ⟨z, ?_, a2, fun j hj => a3 j (by omega) hj, fun j hj => a4 j (by omega), a5, a6⟩
  unfold fX12_carryRow_3
  rw [show (0 : Int32) = nI 0 from rfl, a1]
  exact id (Eq.refl _)
theorem cl3L {p : Nat} (hp : p + 5 ≤ 6000) : ∀ (k i f : Nat) (s : ST), i + k = 5 → k < f → gi s 0 81 = 1 → gi s 0 80 = nI (p + i) →
    ∃ z, fX12_carryRow_3_L2 f (nI i) s = some (nI 5, z) ∧ gi z 0 80 = nI (p + 5) ∧ (∀ j, i ≤ j → j < 5 → gi z 3 j = gi s 54 (p + j)) ∧ (∀ j, j < i ∨ 5 ≤ j → gi z 3 j = gi s 3 j) ∧ (∀ j, j ≠ 80 → gi z 0 j = gi s 0 j) ∧ Fr [0, 3] s z := by
  intro k
  induction k with
  | zero =>
    intro i f s hi hf h81 h80
    obtain ⟨f, rfl⟩ : ∃ m, f = m + 1 := ⟨f - 1, by omega⟩
    obtain rfl : i = 5 := by omega
    refine ⟨s, ?_, h80, fun j h1 h2 => absurd h1 (by omega), fun _ _ => rfl, fun _ _ => rfl, Fr.rfl⟩
    rw [fX12_carryRow_3_L2]
    simp (disch := omega) only [↓ite_bind, ↓ck_bind, ↓lt_bind, ↓Option.bind_assoc, ↓bd_s, ↓lt_v, ↓ck_v, ↓reduceIte, Bool.false_eq_true, Bool.true_eq_false, bd_s, nj_add, nj_addl, nj_addr, nj_mull, nj_mulr, nj_subr, nj_pred, ix_nI, ix_lit, inb_t, inb_l, nj_le_t, nj_le_f, nj_lel_t, nj_lel_f, nj_ler_t, nj_ler_f, nj_lt_t, nj_lt_f, nj_ltl_t, nj_ltl_f, nj_ltr_t, nj_ltr_f, nj_eq_t, nj_eq_f, nj_eqr_t, nj_eqr_f, nj_m1, nj_m2]
  | succ k ih =>
    intro i f s hi hf h81 h80
    obtain ⟨f, rfl⟩ : ∃ m, f = m + 1 := ⟨f - 1, by omega⟩
    obtain ⟨z, a1, a2, a3, a4, a5, a6⟩ := ih (i + 1) f (si (si s 3 i (gi s 54 (p + i))) 0 80 (nI (p + i + 1))) (by omega) (by omega) (by rw [gi_dif (by decide), gi_ne (by decide)]; exact h81) (gi_same _ _ _ _)
    refine ⟨z, ?_, a2, fun j h1 h2 => ?_, fun j hj => ?_, fun j hj => ?_, ((Fr.si (by decide)).trans (Fr.si (by decide))).trans a6⟩
    · rw [fX12_carryRow_3_L2]
      simp (disch := omega) only [↓ite_bind, ↓ck_bind, ↓lt_bind, ↓Option.bind_assoc, ↓bd_s, ↓lt_v, ↓ck_v, ↓reduceIte, Bool.false_eq_true, Bool.true_eq_false, bd_s, nj_add, nj_addl, nj_addr, nj_mull, nj_mulr, nj_subr, nj_pred, ix_nI, ix_lit, inb_t, inb_l, nj_le_t, nj_le_f, nj_lel_t, nj_lel_f, nj_ler_t, nj_ler_f, nj_lt_t, nj_lt_f, nj_ltl_t, nj_ltl_f, nj_ltr_t, nj_ltr_f, nj_eq_t, nj_eq_f, nj_eqr_t, nj_eqr_f, nj_m1, nj_m2, h81, i10, h80, gi_si, gi_sl, gl_si, gl_sl, gi_sAr, gl_sAr, mr_si, mr_sl, mr_sm, gi_sm, gl_sm, mr_sAr, Nat.reduceEqDiff]
      exact a1
    · by_cases e : j = i
      · rw [e, a4 _ (by omega), gi_ne (by decide), gi_same]
      · rw [a3 j (by omega) h2, gi_ne (by decide), gi_ne (by decide)]
    · rw [a4 j (by omega), gi_ne (by decide), gi_dif (by omega)]
    · rw [a5 j hj, gi_dif hj, gi_ne (by decide)]
theorem cl3 {p : Nat} {s : ST} (hp : p + 5 ≤ 6000) (h81 : gi s 0 81 = 1) (h80 : gi s 0 80 = nI p) : ∃ z, fX12_carryRow_3 s = some z ∧ gi z 0 80 = nI (p + 5) ∧ (∀ j, j < 5 → gi z 3 j = gi s 54 (p + j)) ∧ (∀ j, 5 ≤ j → gi z 3 j = gi s 3 j) ∧ (∀ j, j ≠ 80 → gi z 0 j = gi s 0 j) ∧ Fr [0, 3] s z := by
  obtain ⟨z, a1, a2, a3, a4, a5, a6⟩ := cl3L hp 5 0 FUEL s (by omega) (by rw [FUEL_eq]; omega) h81 h80
  refine ⟨z, ?_, a2, fun j hj => a3 j (by omega) hj, fun j hj => a4 j (by omega), a5, a6⟩
  unfold fX12_carryRow_3
  rw [show (0 : Int32) = nI 0 from rfl, a1]
  exact id (Eq.refl _)
theorem cs4L {p : Nat} (hp : p + 5 ≤ 6000) : ∀ (k i f : Nat) (s : ST), i + k = 5 → k < f → gi s 0 81 = 0 → gi s 0 80 = nI (p + i) →
    ∃ z, fX12_carryRow_4_L2 f (nI i) s = some (nI 5, z) ∧ gi z 0 80 = nI (p + 5) ∧ (∀ j, i ≤ j → j < 5 → gi z 54 (p + j) = gi s 4 j) ∧ (∀ j, j < p + i ∨ p + 5 ≤ j → gi z 54 j = gi s 54 j) ∧ (∀ j, j ≠ 80 → gi z 0 j = gi s 0 j) ∧ Fr [0, 54] s z := by
  intro k
  induction k with
  | zero =>
    intro i f s hi hf h81 h80
    obtain ⟨f, rfl⟩ : ∃ m, f = m + 1 := ⟨f - 1, by omega⟩
    obtain rfl : i = 5 := by omega
    refine ⟨s, ?_, h80, fun j h1 h2 => absurd h1 (by omega), fun _ _ => rfl, fun _ _ => rfl, Fr.rfl⟩
    rw [fX12_carryRow_4_L2]
    simp (disch := omega) only [↓ite_bind, ↓ck_bind, ↓lt_bind, ↓Option.bind_assoc, ↓bd_s, ↓lt_v, ↓ck_v, ↓reduceIte, Bool.false_eq_true, Bool.true_eq_false, bd_s, nj_add, nj_addl, nj_addr, nj_mull, nj_mulr, nj_subr, nj_pred, ix_nI, ix_lit, inb_t, inb_l, nj_le_t, nj_le_f, nj_lel_t, nj_lel_f, nj_ler_t, nj_ler_f, nj_lt_t, nj_lt_f, nj_ltl_t, nj_ltl_f, nj_ltr_t, nj_ltr_f, nj_eq_t, nj_eq_f, nj_eqr_t, nj_eqr_f, nj_m1, nj_m2]
  | succ k ih =>
    intro i f s hi hf h81 h80
    obtain ⟨f, rfl⟩ : ∃ m, f = m + 1 := ⟨f - 1, by omega⟩
    obtain ⟨z, a1, a2, a3, a4, a5, a6⟩ := ih (i + 1) f (si (si s 54 (p + i) (gi s 4 i)) 0 80 (nI (p + i + 1))) (by omega) (by omega) (by rw [gi_dif (by decide), gi_ne (by decide)]; exact h81) (gi_same _ _ _ _)
    refine ⟨z, ?_, a2, fun j h1 h2 => ?_, fun j hj => ?_, fun j hj => ?_, ((Fr.si (by decide)).trans (Fr.si (by decide))).trans a6⟩
    · rw [fX12_carryRow_4_L2]
      simp (disch := omega) only [↓ite_bind, ↓ck_bind, ↓lt_bind, ↓Option.bind_assoc, ↓bd_s, ↓lt_v, ↓ck_v, ↓reduceIte, Bool.false_eq_true, Bool.true_eq_false, bd_s, nj_add, nj_addl, nj_addr, nj_mull, nj_mulr, nj_subr, nj_pred, ix_nI, ix_lit, inb_t, inb_l, nj_le_t, nj_le_f, nj_lel_t, nj_lel_f, nj_ler_t, nj_ler_f, nj_lt_t, nj_lt_f, nj_ltl_t, nj_ltl_f, nj_ltr_t, nj_ltr_f, nj_eq_t, nj_eq_f, nj_eqr_t, nj_eqr_f, nj_m1, nj_m2, h81, h80, gi_si, gi_sl, gl_si, gl_sl, gi_sAr, gl_sAr, mr_si, mr_sl, mr_sm, gi_sm, gl_sm, mr_sAr, Nat.reduceEqDiff]
      exact a1
    · by_cases e : j = i
      · rw [e, a4 _ (by omega), gi_ne (by decide), gi_same]
      · rw [a3 j (by omega) h2, gi_ne (by decide), gi_ne (by decide)]
    · rw [a4 j (by omega), gi_ne (by decide), gi_dif (by omega)]
    · rw [a5 j hj, gi_dif hj, gi_ne (by decide)]
theorem cs4 {p : Nat} {s : ST} (hp : p + 5 ≤ 6000) (h81 : gi s 0 81 = 0) (h80 : gi s 0 80 = nI p) : ∃ z, fX12_carryRow_4 s = some z ∧ gi z 0 80 = nI (p + 5) ∧ (∀ j, j < 5 → gi z 54 (p + j) = gi s 4 j) ∧ (∀ j, j < p ∨ p + 5 ≤ j → gi z 54 j = gi s 54 j) ∧ (∀ j, j ≠ 80 → gi z 0 j = gi s 0 j) ∧ Fr [0, 54] s z := by
  obtain ⟨z, a1, a2, a3, a4, a5, a6⟩ := cs4L hp 5 0 FUEL s (by omega) (by rw [FUEL_eq]; omega) h81 h80
  refine ⟨z, ?_, a2, fun j hj => a3 j (by omega) hj, fun j hj => a4 j (by omega), a5, a6⟩
  unfold fX12_carryRow_4
  rw [show (0 : Int32) = nI 0 from rfl, a1]
  exact id (Eq.refl _)
theorem cl4L {p : Nat} (hp : p + 5 ≤ 6000) : ∀ (k i f : Nat) (s : ST), i + k = 5 → k < f → gi s 0 81 = 1 → gi s 0 80 = nI (p + i) →
    ∃ z, fX12_carryRow_4_L2 f (nI i) s = some (nI 5, z) ∧ gi z 0 80 = nI (p + 5) ∧ (∀ j, i ≤ j → j < 5 → gi z 4 j = gi s 54 (p + j)) ∧ (∀ j, j < i ∨ 5 ≤ j → gi z 4 j = gi s 4 j) ∧ (∀ j, j ≠ 80 → gi z 0 j = gi s 0 j) ∧ Fr [0, 4] s z := by
  intro k
  induction k with
  | zero =>
    intro i f s hi hf h81 h80
    obtain ⟨f, rfl⟩ : ∃ m, f = m + 1 := ⟨f - 1, by omega⟩
    obtain rfl : i = 5 := by omega
    refine ⟨s, ?_, h80, fun j h1 h2 => absurd h1 (by omega), fun _ _ => rfl, fun _ _ => rfl, Fr.rfl⟩
    rw [fX12_carryRow_4_L2]
    simp (disch := omega) only [↓ite_bind, ↓ck_bind, ↓lt_bind, ↓Option.bind_assoc, ↓bd_s, ↓lt_v, ↓ck_v, ↓reduceIte, Bool.false_eq_true, Bool.true_eq_false, bd_s, nj_add, nj_addl, nj_addr, nj_mull, nj_mulr, nj_subr, nj_pred, ix_nI, ix_lit, inb_t, inb_l, nj_le_t, nj_le_f, nj_lel_t, nj_lel_f, nj_ler_t, nj_ler_f, nj_lt_t, nj_lt_f, nj_ltl_t, nj_ltl_f, nj_ltr_t, nj_ltr_f, nj_eq_t, nj_eq_f, nj_eqr_t, nj_eqr_f, nj_m1, nj_m2]
  | succ k ih =>
    intro i f s hi hf h81 h80
    obtain ⟨f, rfl⟩ : ∃ m, f = m + 1 := ⟨f - 1, by omega⟩
    obtain ⟨z, a1, a2, a3, a4, a5, a6⟩ := ih (i + 1) f (si (si s 4 i (gi s 54 (p + i))) 0 80 (nI (p + i + 1))) (by omega) (by omega) (by rw [gi_dif (by decide), gi_ne (by decide)]; exact h81) (gi_same _ _ _ _)
    refine ⟨z, ?_, a2, fun j h1 h2 => ?_, fun j hj => ?_, fun j hj => ?_, ((Fr.si (by decide)).trans (Fr.si (by decide))).trans a6⟩
    · rw [fX12_carryRow_4_L2]
      simp (disch := omega) only [↓ite_bind, ↓ck_bind, ↓lt_bind, ↓Option.bind_assoc, ↓bd_s, ↓lt_v, ↓ck_v, ↓reduceIte, Bool.false_eq_true, Bool.true_eq_false, bd_s, nj_add, nj_addl, nj_addr, nj_mull, nj_mulr, nj_subr, nj_pred, ix_nI, ix_lit, inb_t, inb_l, nj_le_t, nj_le_f, nj_lel_t, nj_lel_f, nj_ler_t, nj_ler_f, nj_lt_t, nj_lt_f, nj_ltl_t, nj_ltl_f, nj_ltr_t, nj_ltr_f, nj_eq_t, nj_eq_f, nj_eqr_t, nj_eqr_f, nj_m1, nj_m2, h81, i10, h80, gi_si, gi_sl, gl_si, gl_sl, gi_sAr, gl_sAr, mr_si, mr_sl, mr_sm, gi_sm, gl_sm, mr_sAr, Nat.reduceEqDiff]
      exact a1
    · by_cases e : j = i
      · rw [e, a4 _ (by omega), gi_ne (by decide), gi_same]
      · rw [a3 j (by omega) h2, gi_ne (by decide), gi_ne (by decide)]
    · rw [a4 j (by omega), gi_ne (by decide), gi_dif (by omega)]
    · rw [a5 j hj, gi_dif hj, gi_ne (by decide)]
theorem cl4 {p : Nat} {s : ST} (hp : p + 5 ≤ 6000) (h81 : gi s 0 81 = 1) (h80 : gi s 0 80 = nI p) : ∃ z, fX12_carryRow_4 s = some z ∧ gi z 0 80 = nI (p + 5) ∧ (∀ j, j < 5 → gi z 4 j = gi s 54 (p + j)) ∧ (∀ j, 5 ≤ j → gi z 4 j = gi s 4 j) ∧ (∀ j, j ≠ 80 → gi z 0 j = gi s 0 j) ∧ Fr [0, 4] s z := by
  obtain ⟨z, a1, a2, a3, a4, a5, a6⟩ := cl4L hp 5 0 FUEL s (by omega) (by rw [FUEL_eq]; omega) h81 h80
  refine ⟨z, ?_, a2, fun j hj => a3 j (by omega) hj, fun j hj => a4 j (by omega), a5, a6⟩
  unfold fX12_carryRow_4
  rw [show (0 : Int32) = nI 0 from rfl, a1]
  exact id (Eq.refl _)
theorem cs5L {p : Nat} (hp : p + 5 ≤ 6000) : ∀ (k i f : Nat) (s : ST), i + k = 5 → k < f → gi s 0 81 = 0 → gi s 0 80 = nI (p + i) →
    ∃ z, fX12_carryRow_5_L2 f (nI i) s = some (nI 5, z) ∧ gi z 0 80 = nI (p + 5) ∧ (∀ j, i ≤ j → j < 5 → gi z 54 (p + j) = gi s 5 j) ∧ (∀ j, j < p + i ∨ p + 5 ≤ j → gi z 54 j = gi s 54 j) ∧ (∀ j, j ≠ 80 → gi z 0 j = gi s 0 j) ∧ Fr [0, 54] s z := by
  intro k
  induction k with
  | zero =>
    intro i f s hi hf h81 h80
    obtain ⟨f, rfl⟩ : ∃ m, f = m + 1 := ⟨f - 1, by omega⟩
    obtain rfl : i = 5 := by omega
    refine ⟨s, ?_, h80, fun j h1 h2 => absurd h1 (by omega), fun _ _ => rfl, fun _ _ => rfl, Fr.rfl⟩
    rw [fX12_carryRow_5_L2]
    simp (disch := omega) only [↓ite_bind, ↓ck_bind, ↓lt_bind, ↓Option.bind_assoc, ↓bd_s, ↓lt_v, ↓ck_v, ↓reduceIte, Bool.false_eq_true, Bool.true_eq_false, bd_s, nj_add, nj_addl, nj_addr, nj_mull, nj_mulr, nj_subr, nj_pred, ix_nI, ix_lit, inb_t, inb_l, nj_le_t, nj_le_f, nj_lel_t, nj_lel_f, nj_ler_t, nj_ler_f, nj_lt_t, nj_lt_f, nj_ltl_t, nj_ltl_f, nj_ltr_t, nj_ltr_f, nj_eq_t, nj_eq_f, nj_eqr_t, nj_eqr_f, nj_m1, nj_m2]
  | succ k ih =>
    intro i f s hi hf h81 h80
    obtain ⟨f, rfl⟩ : ∃ m, f = m + 1 := ⟨f - 1, by omega⟩
    obtain ⟨z, a1, a2, a3, a4, a5, a6⟩ := ih (i + 1) f (si (si s 54 (p + i) (gi s 5 i)) 0 80 (nI (p + i + 1))) (by omega) (by omega) (by rw [gi_dif (by decide), gi_ne (by decide)]; exact h81) (gi_same _ _ _ _)
    refine ⟨z, ?_, a2, fun j h1 h2 => ?_, fun j hj => ?_, fun j hj => ?_, ((Fr.si (by decide)).trans (Fr.si (by decide))).trans a6⟩
    · rw [fX12_carryRow_5_L2]
      simp (disch := omega) only [↓ite_bind, ↓ck_bind, ↓lt_bind, ↓Option.bind_assoc, ↓bd_s, ↓lt_v, ↓ck_v, ↓reduceIte, Bool.false_eq_true, Bool.true_eq_false, bd_s, nj_add, nj_addl, nj_addr, nj_mull, nj_mulr, nj_subr, nj_pred, ix_nI, ix_lit, inb_t, inb_l, nj_le_t, nj_le_f, nj_lel_t, nj_lel_f, nj_ler_t, nj_ler_f, nj_lt_t, nj_lt_f, nj_ltl_t, nj_ltl_f, nj_ltr_t, nj_ltr_f, nj_eq_t, nj_eq_f, nj_eqr_t, nj_eqr_f, nj_m1, nj_m2, h81, h80, gi_si, gi_sl, gl_si, gl_sl, gi_sAr, gl_sAr, mr_si, mr_sl, mr_sm, gi_sm, gl_sm, mr_sAr, Nat.reduceEqDiff]
      exact a1
    · by_cases e : j = i
      · rw [e, a4 _ (by omega), gi_ne (by decide), gi_same]
      · rw [a3 j (by omega) h2, gi_ne (by decide), gi_ne (by decide)]
    · rw [a4 j (by omega), gi_ne (by decide), gi_dif (by omega)]
    · rw [a5 j hj, gi_dif hj, gi_ne (by decide)]
theorem cs5 {p : Nat} {s : ST} (hp : p + 5 ≤ 6000) (h81 : gi s 0 81 = 0) (h80 : gi s 0 80 = nI p) : ∃ z, fX12_carryRow_5 s = some z ∧ gi z 0 80 = nI (p + 5) ∧ (∀ j, j < 5 → gi z 54 (p + j) = gi s 5 j) ∧ (∀ j, j < p ∨ p + 5 ≤ j → gi z 54 j = gi s 54 j) ∧ (∀ j, j ≠ 80 → gi z 0 j = gi s 0 j) ∧ Fr [0, 54] s z := by
  obtain ⟨z, a1, a2, a3, a4, a5, a6⟩ := cs5L hp 5 0 FUEL s (by omega) (by rw [FUEL_eq]; omega) h81 h80
  refine ⟨z, ?_, a2, fun j hj => a3 j (by omega) hj, fun j hj => a4 j (by omega), a5, a6⟩
  unfold fX12_carryRow_5
  rw [show (0 : Int32) = nI 0 from rfl, a1]
  exact id (Eq.refl _)
theorem cl5L {p : Nat} (hp : p + 5 ≤ 6000) : ∀ (k i f : Nat) (s : ST), i + k = 5 → k < f → gi s 0 81 = 1 → gi s 0 80 = nI (p + i) →
    ∃ z, fX12_carryRow_5_L2 f (nI i) s = some (nI 5, z) ∧ gi z 0 80 = nI (p + 5) ∧ (∀ j, i ≤ j → j < 5 → gi z 5 j = gi s 54 (p + j)) ∧ (∀ j, j < i ∨ 5 ≤ j → gi z 5 j = gi s 5 j) ∧ (∀ j, j ≠ 80 → gi z 0 j = gi s 0 j) ∧ Fr [0, 5] s z := by
  intro k
  induction k with
  | zero =>
    intro i f s hi hf h81 h80
    obtain ⟨f, rfl⟩ : ∃ m, f = m + 1 := ⟨f - 1, by omega⟩
    obtain rfl : i = 5 := by omega
    refine ⟨s, ?_, h80, fun j h1 h2 => absurd h1 (by omega), fun _ _ => rfl, fun _ _ => rfl, Fr.rfl⟩
    rw [fX12_carryRow_5_L2]
    simp (disch := omega) only [↓ite_bind, ↓ck_bind, ↓lt_bind, ↓Option.bind_assoc, ↓bd_s, ↓lt_v, ↓ck_v, ↓reduceIte, Bool.false_eq_true, Bool.true_eq_false, bd_s, nj_add, nj_addl, nj_addr, nj_mull, nj_mulr, nj_subr, nj_pred, ix_nI, ix_lit, inb_t, inb_l, nj_le_t, nj_le_f, nj_lel_t, nj_lel_f, nj_ler_t, nj_ler_f, nj_lt_t, nj_lt_f, nj_ltl_t, nj_ltl_f, nj_ltr_t, nj_ltr_f, nj_eq_t, nj_eq_f, nj_eqr_t, nj_eqr_f, nj_m1, nj_m2]
  | succ k ih =>
    intro i f s hi hf h81 h80
    obtain ⟨f, rfl⟩ : ∃ m, f = m + 1 := ⟨f - 1, by omega⟩
    obtain ⟨z, a1, a2, a3, a4, a5, a6⟩ := ih (i + 1) f (si (si s 5 i (gi s 54 (p + i))) 0 80 (nI (p + i + 1))) (by omega) (by omega) (by rw [gi_dif (by decide), gi_ne (by decide)]; exact h81) (gi_same _ _ _ _)
    refine ⟨z, ?_, a2, fun j h1 h2 => ?_, fun j hj => ?_, fun j hj => ?_, ((Fr.si (by decide)).trans (Fr.si (by decide))).trans a6⟩
    · rw [fX12_carryRow_5_L2]
      simp (disch := omega) only [↓ite_bind, ↓ck_bind, ↓lt_bind, ↓Option.bind_assoc, ↓bd_s, ↓lt_v, ↓ck_v, ↓reduceIte, Bool.false_eq_true, Bool.true_eq_false, bd_s, nj_add, nj_addl, nj_addr, nj_mull, nj_mulr, nj_subr, nj_pred, ix_nI, ix_lit, inb_t, inb_l, nj_le_t, nj_le_f, nj_lel_t, nj_lel_f, nj_ler_t, nj_ler_f, nj_lt_t, nj_lt_f, nj_ltl_t, nj_ltl_f, nj_ltr_t, nj_ltr_f, nj_eq_t, nj_eq_f, nj_eqr_t, nj_eqr_f, nj_m1, nj_m2, h81, i10, h80, gi_si, gi_sl, gl_si, gl_sl, gi_sAr, gl_sAr, mr_si, mr_sl, mr_sm, gi_sm, gl_sm, mr_sAr, Nat.reduceEqDiff]
      exact a1
    · by_cases e : j = i
      · rw [e, a4 _ (by omega), gi_ne (by decide), gi_same]
      · rw [a3 j (by omega) h2, gi_ne (by decide), gi_ne (by decide)]
    · rw [a4 j (by omega), gi_ne (by decide), gi_dif (by omega)]
    · rw [a5 j hj, gi_dif hj, gi_ne (by decide)]
theorem cl5 {p : Nat} {s : ST} (hp : p + 5 ≤ 6000) (h81 : gi s 0 81 = 1) (h80 : gi s 0 80 = nI p) : ∃ z, fX12_carryRow_5 s = some z ∧ gi z 0 80 = nI (p + 5) ∧ (∀ j, j < 5 → gi z 5 j = gi s 54 (p + j)) ∧ (∀ j, 5 ≤ j → gi z 5 j = gi s 5 j) ∧ (∀ j, j ≠ 80 → gi z 0 j = gi s 0 j) ∧ Fr [0, 5] s z := by
  obtain ⟨z, a1, a2, a3, a4, a5, a6⟩ := cl5L hp 5 0 FUEL s (by omega) (by rw [FUEL_eq]; omega) h81 h80
  refine ⟨z, ?_, a2, fun j hj => a3 j (by omega) hj, fun j hj => a4 j (by omega), a5, a6⟩
  unfold fX12_carryRow_5
  rw [show (0 : Int32) = nI 0 from rfl, a1]
  exact id (Eq.refl _)
theorem cs6L {p : Nat} (hp : p + 5 ≤ 6000) : ∀ (k i f : Nat) (s : ST), i + k = 5 → k < f → gi s 0 81 = 0 → gi s 0 80 = nI (p + i) →
    ∃ z, fX12_carryRow_6_L2 f (nI i) s = some (nI 5, z) ∧ gi z 0 80 = nI (p + 5) ∧ (∀ j, i ≤ j → j < 5 → gi z 54 (p + j) = gi s 6 j) ∧ (∀ j, j < p + i ∨ p + 5 ≤ j → gi z 54 j = gi s 54 j) ∧ (∀ j, j ≠ 80 → gi z 0 j = gi s 0 j) ∧ Fr [0, 54] s z := by
  intro k
  induction k with
  | zero =>
    intro i f s hi hf h81 h80
    obtain ⟨f, rfl⟩ : ∃ m, f = m + 1 := ⟨f - 1, by omega⟩
    obtain rfl : i = 5 := by omega
    refine ⟨s, ?_, h80, fun j h1 h2 => absurd h1 (by omega), fun _ _ => rfl, fun _ _ => rfl, Fr.rfl⟩
    rw [fX12_carryRow_6_L2]
    simp (disch := omega) only [↓ite_bind, ↓ck_bind, ↓lt_bind, ↓Option.bind_assoc, ↓bd_s, ↓lt_v, ↓ck_v, ↓reduceIte, Bool.false_eq_true, Bool.true_eq_false, bd_s, nj_add, nj_addl, nj_addr, nj_mull, nj_mulr, nj_subr, nj_pred, ix_nI, ix_lit, inb_t, inb_l, nj_le_t, nj_le_f, nj_lel_t, nj_lel_f, nj_ler_t, nj_ler_f, nj_lt_t, nj_lt_f, nj_ltl_t, nj_ltl_f, nj_ltr_t, nj_ltr_f, nj_eq_t, nj_eq_f, nj_eqr_t, nj_eqr_f, nj_m1, nj_m2]
  | succ k ih =>
    intro i f s hi hf h81 h80
    obtain ⟨f, rfl⟩ : ∃ m, f = m + 1 := ⟨f - 1, by omega⟩
    obtain ⟨z, a1, a2, a3, a4, a5, a6⟩ := ih (i + 1) f (si (si s 54 (p + i) (gi s 6 i)) 0 80 (nI (p + i + 1))) (by omega) (by omega) (by rw [gi_dif (by decide), gi_ne (by decide)]; exact h81) (gi_same _ _ _ _)
    refine ⟨z, ?_, a2, fun j h1 h2 => ?_, fun j hj => ?_, fun j hj => ?_, ((Fr.si (by decide)).trans (Fr.si (by decide))).trans a6⟩
    · rw [fX12_carryRow_6_L2]
      simp (disch := omega) only [↓ite_bind, ↓ck_bind, ↓lt_bind, ↓Option.bind_assoc, ↓bd_s, ↓lt_v, ↓ck_v, ↓reduceIte, Bool.false_eq_true, Bool.true_eq_false, bd_s, nj_add, nj_addl, nj_addr, nj_mull, nj_mulr, nj_subr, nj_pred, ix_nI, ix_lit, inb_t, inb_l, nj_le_t, nj_le_f, nj_lel_t, nj_lel_f, nj_ler_t, nj_ler_f, nj_lt_t, nj_lt_f, nj_ltl_t, nj_ltl_f, nj_ltr_t, nj_ltr_f, nj_eq_t, nj_eq_f, nj_eqr_t, nj_eqr_f, nj_m1, nj_m2, h81, h80, gi_si, gi_sl, gl_si, gl_sl, gi_sAr, gl_sAr, mr_si, mr_sl, mr_sm, gi_sm, gl_sm, mr_sAr, Nat.reduceEqDiff]
      exact a1
    · by_cases e : j = i
      · rw [e, a4 _ (by omega), gi_ne (by decide), gi_same]
      · rw [a3 j (by omega) h2, gi_ne (by decide), gi_ne (by decide)]
    · rw [a4 j (by omega), gi_ne (by decide), gi_dif (by omega)]
    · rw [a5 j hj, gi_dif hj, gi_ne (by decide)]
theorem cs6 {p : Nat} {s : ST} (hp : p + 5 ≤ 6000) (h81 : gi s 0 81 = 0) (h80 : gi s 0 80 = nI p) : ∃ z, fX12_carryRow_6 s = some z ∧ gi z 0 80 = nI (p + 5) ∧ (∀ j, j < 5 → gi z 54 (p + j) = gi s 6 j) ∧ (∀ j, j < p ∨ p + 5 ≤ j → gi z 54 j = gi s 54 j) ∧ (∀ j, j ≠ 80 → gi z 0 j = gi s 0 j) ∧ Fr [0, 54] s z := by
  obtain ⟨z, a1, a2, a3, a4, a5, a6⟩ := cs6L hp 5 0 FUEL s (by omega) (by rw [FUEL_eq]; omega) h81 h80
  refine ⟨z, ?_, a2, fun j hj => a3 j (by omega) hj, fun j hj => a4 j (by omega), a5, a6⟩
  unfold fX12_carryRow_6
  rw [show (0 : Int32) = nI 0 from rfl, a1]
  exact id (Eq.refl _)
theorem cl6L {p : Nat} (hp : p + 5 ≤ 6000) : ∀ (k i f : Nat) (s : ST), i + k = 5 → k < f → gi s 0 81 = 1 → gi s 0 80 = nI (p + i) →
    ∃ z, fX12_carryRow_6_L2 f (nI i) s = some (nI 5, z) ∧ gi z 0 80 = nI (p + 5) ∧ (∀ j, i ≤ j → j < 5 → gi z 6 j = gi s 54 (p + j)) ∧ (∀ j, j < i ∨ 5 ≤ j → gi z 6 j = gi s 6 j) ∧ (∀ j, j ≠ 80 → gi z 0 j = gi s 0 j) ∧ Fr [0, 6] s z := by
  intro k
  induction k with
  | zero =>
    intro i f s hi hf h81 h80
    obtain ⟨f, rfl⟩ : ∃ m, f = m + 1 := ⟨f - 1, by omega⟩
    obtain rfl : i = 5 := by omega
    refine ⟨s, ?_, h80, fun j h1 h2 => absurd h1 (by omega), fun _ _ => rfl, fun _ _ => rfl, Fr.rfl⟩
    rw [fX12_carryRow_6_L2]
    simp (disch := omega) only [↓ite_bind, ↓ck_bind, ↓lt_bind, ↓Option.bind_assoc, ↓bd_s, ↓lt_v, ↓ck_v, ↓reduceIte, Bool.false_eq_true, Bool.true_eq_false, bd_s, nj_add, nj_addl, nj_addr, nj_mull, nj_mulr, nj_subr, nj_pred, ix_nI, ix_lit, inb_t, inb_l, nj_le_t, nj_le_f, nj_lel_t, nj_lel_f, nj_ler_t, nj_ler_f, nj_lt_t, nj_lt_f, nj_ltl_t, nj_ltl_f, nj_ltr_t, nj_ltr_f, nj_eq_t, nj_eq_f, nj_eqr_t, nj_eqr_f, nj_m1, nj_m2]
  | succ k ih =>
    intro i f s hi hf h81 h80
    obtain ⟨f, rfl⟩ : ∃ m, f = m + 1 := ⟨f - 1, by omega⟩
    obtain ⟨z, a1, a2, a3, a4, a5, a6⟩ := ih (i + 1) f (si (si s 6 i (gi s 54 (p + i))) 0 80 (nI (p + i + 1))) (by omega) (by omega) (by rw [gi_dif (by decide), gi_ne (by decide)]; exact h81) (gi_same _ _ _ _)
    refine ⟨z, ?_, a2, fun j h1 h2 => ?_, fun j hj => ?_, fun j hj => ?_, ((Fr.si (by decide)).trans (Fr.si (by decide))).trans a6⟩
    · rw [fX12_carryRow_6_L2]
      simp (disch := omega) only [↓ite_bind, ↓ck_bind, ↓lt_bind, ↓Option.bind_assoc, ↓bd_s, ↓lt_v, ↓ck_v, ↓reduceIte, Bool.false_eq_true, Bool.true_eq_false, bd_s, nj_add, nj_addl, nj_addr, nj_mull, nj_mulr, nj_subr, nj_pred, ix_nI, ix_lit, inb_t, inb_l, nj_le_t, nj_le_f, nj_lel_t, nj_lel_f, nj_ler_t, nj_ler_f, nj_lt_t, nj_lt_f, nj_ltl_t, nj_ltl_f, nj_ltr_t, nj_ltr_f, nj_eq_t, nj_eq_f, nj_eqr_t, nj_eqr_f, nj_m1, nj_m2, h81, i10, h80, gi_si, gi_sl, gl_si, gl_sl, gi_sAr, gl_sAr, mr_si, mr_sl, mr_sm, gi_sm, gl_sm, mr_sAr, Nat.reduceEqDiff]
      exact a1
    · by_cases e : j = i
      · rw [e, a4 _ (by omega), gi_ne (by decide), gi_same]
      · rw [a3 j (by omega) h2, gi_ne (by decide), gi_ne (by decide)]
    · rw [a4 j (by omega), gi_ne (by decide), gi_dif (by omega)]
    · rw [a5 j hj, gi_dif hj, gi_ne (by decide)]
theorem cl6 {p : Nat} {s : ST} (hp : p + 5 ≤ 6000) (h81 : gi s 0 81 = 1) (h80 : gi s 0 80 = nI p) : ∃ z, fX12_carryRow_6 s = some z ∧ gi z 0 80 = nI (p + 5) ∧ (∀ j, j < 5 → gi z 6 j = gi s 54 (p + j)) ∧ (∀ j, 5 ≤ j → gi z 6 j = gi s 6 j) ∧ (∀ j, j ≠ 80 → gi z 0 j = gi s 0 j) ∧ Fr [0, 6] s z := by
  obtain ⟨z, a1, a2, a3, a4, a5, a6⟩ := cl6L hp 5 0 FUEL s (by omega) (by rw [FUEL_eq]; omega) h81 h80
  refine ⟨z, ?_, a2, fun j hj => a3 j (by omega) hj, fun j hj => a4 j (by omega), a5, a6⟩
  unfold fX12_carryRow_6
  rw [show (0 : Int32) = nI 0 from rfl, a1]
  exact id (Eq.refl _)
theorem cs9L {p : Nat} (hp : p + 8 ≤ 6000) : ∀ (k i f : Nat) (s : ST), i + k = 8 → k < f → gi s 0 81 = 0 → gi s 0 80 = nI (p + i) →
    ∃ z, fX12_carryRow_9_L2 f (nI i) s = some (nI 8, z) ∧ gi z 0 80 = nI (p + 8) ∧ (∀ j, i ≤ j → j < 8 → gi z 54 (p + j) = gi s 9 j) ∧ (∀ j, j < p + i ∨ p + 8 ≤ j → gi z 54 j = gi s 54 j) ∧ (∀ j, j ≠ 80 → gi z 0 j = gi s 0 j) ∧ Fr [0, 54] s z := by
  intro k
  induction k with
  | zero =>
    intro i f s hi hf h81 h80
    obtain ⟨f, rfl⟩ : ∃ m, f = m + 1 := ⟨f - 1, by omega⟩
    obtain rfl : i = 8 := by omega
    refine ⟨s, ?_, h80, fun j h1 h2 => absurd h1 (by omega), fun _ _ => rfl, fun _ _ => rfl, Fr.rfl⟩
    rw [fX12_carryRow_9_L2]
    simp (disch := omega) only [↓ite_bind, ↓ck_bind, ↓lt_bind, ↓Option.bind_assoc, ↓bd_s, ↓lt_v, ↓ck_v, ↓reduceIte, Bool.false_eq_true, Bool.true_eq_false, bd_s, nj_add, nj_addl, nj_addr, nj_mull, nj_mulr, nj_subr, nj_pred, ix_nI, ix_lit, inb_t, inb_l, nj_le_t, nj_le_f, nj_lel_t, nj_lel_f, nj_ler_t, nj_ler_f, nj_lt_t, nj_lt_f, nj_ltl_t, nj_ltl_f, nj_ltr_t, nj_ltr_f, nj_eq_t, nj_eq_f, nj_eqr_t, nj_eqr_f, nj_m1, nj_m2]
  | succ k ih =>
    intro i f s hi hf h81 h80
    obtain ⟨f, rfl⟩ : ∃ m, f = m + 1 := ⟨f - 1, by omega⟩
    obtain ⟨z, a1, a2, a3, a4, a5, a6⟩ := ih (i + 1) f (si (si s 54 (p + i) (gi s 9 i)) 0 80 (nI (p + i + 1))) (by omega) (by omega) (by rw [gi_dif (by decide), gi_ne (by decide)]; exact h81) (gi_same _ _ _ _)
    refine ⟨z, ?_, a2, fun j h1 h2 => ?_, fun j hj => ?_, fun j hj => ?_, ((Fr.si (by decide)).trans (Fr.si (by decide))).trans a6⟩
    · rw [fX12_carryRow_9_L2]
      simp (disch := omega) only [↓ite_bind, ↓ck_bind, ↓lt_bind, ↓Option.bind_assoc, ↓bd_s, ↓lt_v, ↓ck_v, ↓reduceIte, Bool.false_eq_true, Bool.true_eq_false, bd_s, nj_add, nj_addl, nj_addr, nj_mull, nj_mulr, nj_subr, nj_pred, ix_nI, ix_lit, inb_t, inb_l, nj_le_t, nj_le_f, nj_lel_t, nj_lel_f, nj_ler_t, nj_ler_f, nj_lt_t, nj_lt_f, nj_ltl_t, nj_ltl_f, nj_ltr_t, nj_ltr_f, nj_eq_t, nj_eq_f, nj_eqr_t, nj_eqr_f, nj_m1, nj_m2, h81, h80, gi_si, gi_sl, gl_si, gl_sl, gi_sAr, gl_sAr, mr_si, mr_sl, mr_sm, gi_sm, gl_sm, mr_sAr, Nat.reduceEqDiff]
      exact a1
    · by_cases e : j = i
      · rw [e, a4 _ (by omega), gi_ne (by decide), gi_same]
      · rw [a3 j (by omega) h2, gi_ne (by decide), gi_ne (by decide)]
    · rw [a4 j (by omega), gi_ne (by decide), gi_dif (by omega)]
    · rw [a5 j hj, gi_dif hj, gi_ne (by decide)]
theorem cs9 {p : Nat} {s : ST} (hp : p + 8 ≤ 6000) (h81 : gi s 0 81 = 0) (h80 : gi s 0 80 = nI p) : ∃ z, fX12_carryRow_9 s = some z ∧ gi z 0 80 = nI (p + 8) ∧ (∀ j, j < 8 → gi z 54 (p + j) = gi s 9 j) ∧ (∀ j, j < p ∨ p + 8 ≤ j → gi z 54 j = gi s 54 j) ∧ (∀ j, j ≠ 80 → gi z 0 j = gi s 0 j) ∧ Fr [0, 54] s z := by
  obtain ⟨z, a1, a2, a3, a4, a5, a6⟩ := cs9L hp 8 0 FUEL s (by omega) (by rw [FUEL_eq]; omega) h81 h80
  refine ⟨z, ?_, a2, fun j hj => a3 j (by omega) hj, fun j hj => a4 j (by omega), a5, a6⟩
  unfold fX12_carryRow_9
  rw [show (0 : Int32) = nI 0 from rfl, a1]
  exact id (Eq.refl _)
theorem cl9L {p : Nat} (hp : p + 8 ≤ 6000) : ∀ (k i f : Nat) (s : ST), i + k = 8 → k < f → gi s 0 81 = 1 → gi s 0 80 = nI (p + i) →
    ∃ z, fX12_carryRow_9_L2 f (nI i) s = some (nI 8, z) ∧ gi z 0 80 = nI (p + 8) ∧ (∀ j, i ≤ j → j < 8 → gi z 9 j = gi s 54 (p + j)) ∧ (∀ j, j < i ∨ 8 ≤ j → gi z 9 j = gi s 9 j) ∧ (∀ j, j ≠ 80 → gi z 0 j = gi s 0 j) ∧ Fr [0, 9] s z := by
  intro k
  induction k with
  | zero =>
    intro i f s hi hf h81 h80
    obtain ⟨f, rfl⟩ : ∃ m, f = m + 1 := ⟨f - 1, by omega⟩
    obtain rfl : i = 8 := by omega
    refine ⟨s, ?_, h80, fun j h1 h2 => absurd h1 (by omega), fun _ _ => rfl, fun _ _ => rfl, Fr.rfl⟩
    rw [fX12_carryRow_9_L2]
    simp (disch := omega) only [↓ite_bind, ↓ck_bind, ↓lt_bind, ↓Option.bind_assoc, ↓bd_s, ↓lt_v, ↓ck_v, ↓reduceIte, Bool.false_eq_true, Bool.true_eq_false, bd_s, nj_add, nj_addl, nj_addr, nj_mull, nj_mulr, nj_subr, nj_pred, ix_nI, ix_lit, inb_t, inb_l, nj_le_t, nj_le_f, nj_lel_t, nj_lel_f, nj_ler_t, nj_ler_f, nj_lt_t, nj_lt_f, nj_ltl_t, nj_ltl_f, nj_ltr_t, nj_ltr_f, nj_eq_t, nj_eq_f, nj_eqr_t, nj_eqr_f, nj_m1, nj_m2]
  | succ k ih =>
    intro i f s hi hf h81 h80
    obtain ⟨f, rfl⟩ : ∃ m, f = m + 1 := ⟨f - 1, by omega⟩
    obtain ⟨z, a1, a2, a3, a4, a5, a6⟩ := ih (i + 1) f (si (si s 9 i (gi s 54 (p + i))) 0 80 (nI (p + i + 1))) (by omega) (by omega) (by rw [gi_dif (by decide), gi_ne (by decide)]; exact h81) (gi_same _ _ _ _)
    refine ⟨z, ?_, a2, fun j h1 h2 => ?_, fun j hj => ?_, fun j hj => ?_, ((Fr.si (by decide)).trans (Fr.si (by decide))).trans a6⟩
    · rw [fX12_carryRow_9_L2]
      simp (disch := omega) only [↓ite_bind, ↓ck_bind, ↓lt_bind, ↓Option.bind_assoc, ↓bd_s, ↓lt_v, ↓ck_v, ↓reduceIte, Bool.false_eq_true, Bool.true_eq_false, bd_s, nj_add, nj_addl, nj_addr, nj_mull, nj_mulr, nj_subr, nj_pred, ix_nI, ix_lit, inb_t, inb_l, nj_le_t, nj_le_f, nj_lel_t, nj_lel_f, nj_ler_t, nj_ler_f, nj_lt_t, nj_lt_f, nj_ltl_t, nj_ltl_f, nj_ltr_t, nj_ltr_f, nj_eq_t, nj_eq_f, nj_eqr_t, nj_eqr_f, nj_m1, nj_m2, h81, i10, h80, gi_si, gi_sl, gl_si, gl_sl, gi_sAr, gl_sAr, mr_si, mr_sl, mr_sm, gi_sm, gl_sm, mr_sAr, Nat.reduceEqDiff]
      exact a1
    · by_cases e : j = i
      · rw [e, a4 _ (by omega), gi_ne (by decide), gi_same]
      · rw [a3 j (by omega) h2, gi_ne (by decide), gi_ne (by decide)]
    · rw [a4 j (by omega), gi_ne (by decide), gi_dif (by omega)]
    · rw [a5 j hj, gi_dif hj, gi_ne (by decide)]
theorem cl9 {p : Nat} {s : ST} (hp : p + 8 ≤ 6000) (h81 : gi s 0 81 = 1) (h80 : gi s 0 80 = nI p) : ∃ z, fX12_carryRow_9 s = some z ∧ gi z 0 80 = nI (p + 8) ∧ (∀ j, j < 8 → gi z 9 j = gi s 54 (p + j)) ∧ (∀ j, 8 ≤ j → gi z 9 j = gi s 9 j) ∧ (∀ j, j ≠ 80 → gi z 0 j = gi s 0 j) ∧ Fr [0, 9] s z := by
  obtain ⟨z, a1, a2, a3, a4, a5, a6⟩ := cl9L hp 8 0 FUEL s (by omega) (by rw [FUEL_eq]; omega) h81 h80
  refine ⟨z, ?_, a2, fun j hj => a3 j (by omega) hj, fun j hj => a4 j (by omega), a5, a6⟩
  unfold fX12_carryRow_9
  rw [show (0 : Int32) = nI 0 from rfl, a1]
  exact id (Eq.refl _)
theorem cs11L {p : Nat} (hp : p + 8 ≤ 6000) : ∀ (k i f : Nat) (s : ST), i + k = 8 → k < f → gi s 0 81 = 0 → gi s 0 80 = nI (p + i) →
    ∃ z, fX12_carryRow_11_L2 f (nI i) s = some (nI 8, z) ∧ gi z 0 80 = nI (p + 8) ∧ (∀ j, i ≤ j → j < 8 → gi z 54 (p + j) = gi s 11 j) ∧ (∀ j, j < p + i ∨ p + 8 ≤ j → gi z 54 j = gi s 54 j) ∧ (∀ j, j ≠ 80 → gi z 0 j = gi s 0 j) ∧ Fr [0, 54] s z := by
  intro k
  induction k with
  | zero =>
    intro i f s hi hf h81 h80
    obtain ⟨f, rfl⟩ : ∃ m, f = m + 1 := ⟨f - 1, by omega⟩
    obtain rfl : i = 8 := by omega
    refine ⟨s, ?_, h80, fun j h1 h2 => absurd h1 (by omega), fun _ _ => rfl, fun _ _ => rfl, Fr.rfl⟩
    rw [fX12_carryRow_11_L2]
    simp (disch := omega) only [↓ite_bind, ↓ck_bind, ↓lt_bind, ↓Option.bind_assoc, ↓bd_s, ↓lt_v, ↓ck_v, ↓reduceIte, Bool.false_eq_true, Bool.true_eq_false, bd_s, nj_add, nj_addl, nj_addr, nj_mull, nj_mulr, nj_subr, nj_pred, ix_nI, ix_lit, inb_t, inb_l, nj_le_t, nj_le_f, nj_lel_t, nj_lel_f, nj_ler_t, nj_ler_f, nj_lt_t, nj_lt_f, nj_ltl_t, nj_ltl_f, nj_ltr_t, nj_ltr_f, nj_eq_t, nj_eq_f, nj_eqr_t, nj_eqr_f, nj_m1, nj_m2]
  | succ k ih =>
    intro i f s hi hf h81 h80
    obtain ⟨f, rfl⟩ : ∃ m, f = m + 1 := ⟨f - 1, by omega⟩
    obtain ⟨z, a1, a2, a3, a4, a5, a6⟩ := ih (i + 1) f (si (si s 54 (p + i) (gi s 11 i)) 0 80 (nI (p + i + 1))) (by omega) (by omega) (by rw [gi_dif (by decide), gi_ne (by decide)]; exact h81) (gi_same _ _ _ _)
    refine ⟨z, ?_, a2, fun j h1 h2 => ?_, fun j hj => ?_, fun j hj => ?_, ((Fr.si (by decide)).trans (Fr.si (by decide))).trans a6⟩
    · rw [fX12_carryRow_11_L2]
      simp (disch := omega) only [↓ite_bind, ↓ck_bind, ↓lt_bind, ↓Option.bind_assoc, ↓bd_s, ↓lt_v, ↓ck_v, ↓reduceIte, Bool.false_eq_true, Bool.true_eq_false, bd_s, nj_add, nj_addl, nj_addr, nj_mull, nj_mulr, nj_subr, nj_pred, ix_nI, ix_lit, inb_t, inb_l, nj_le_t, nj_le_f, nj_lel_t, nj_lel_f, nj_ler_t, nj_ler_f, nj_lt_t, nj_lt_f, nj_ltl_t, nj_ltl_f, nj_ltr_t, nj_ltr_f, nj_eq_t, nj_eq_f, nj_eqr_t, nj_eqr_f, nj_m1, nj_m2, h81, h80, gi_si, gi_sl, gl_si, gl_sl, gi_sAr, gl_sAr, mr_si, mr_sl, mr_sm, gi_sm, gl_sm, mr_sAr, Nat.reduceEqDiff]
      exact a1
    · by_cases e : j = i
      · rw [e, a4 _ (by omega), gi_ne (by decide), gi_same]
      · rw [a3 j (by omega) h2, gi_ne (by decide), gi_ne (by decide)]
    · rw [a4 j (by omega), gi_ne (by decide), gi_dif (by omega)]
    · rw [a5 j hj, gi_dif hj, gi_ne (by decide)]
theorem cs11 {p : Nat} {s : ST} (hp : p + 8 ≤ 6000) (h81 : gi s 0 81 = 0) (h80 : gi s 0 80 = nI p) : ∃ z, fX12_carryRow_11 s = some z ∧ gi z 0 80 = nI (p + 8) ∧ (∀ j, j < 8 → gi z 54 (p + j) = gi s 11 j) ∧ (∀ j, j < p ∨ p + 8 ≤ j → gi z 54 j = gi s 54 j) ∧ (∀ j, j ≠ 80 → gi z 0 j = gi s 0 j) ∧ Fr [0, 54] s z := by
  obtain ⟨z, a1, a2, a3, a4, a5, a6⟩ := cs11L hp 8 0 FUEL s (by omega) (by rw [FUEL_eq]; omega) h81 h80
  refine ⟨z, ?_, a2, fun j hj => a3 j (by omega) hj, fun j hj => a4 j (by omega), a5, a6⟩
  unfold fX12_carryRow_11
  rw [show (0 : Int32) = nI 0 from rfl, a1]
  exact id (Eq.refl _)
theorem cl11L {p : Nat} (hp : p + 8 ≤ 6000) : ∀ (k i f : Nat) (s : ST), i + k = 8 → k < f → gi s 0 81 = 1 → gi s 0 80 = nI (p + i) →
    ∃ z, fX12_carryRow_11_L2 f (nI i) s = some (nI 8, z) ∧ gi z 0 80 = nI (p + 8) ∧ (∀ j, i ≤ j → j < 8 → gi z 11 j = gi s 54 (p + j)) ∧ (∀ j, j < i ∨ 8 ≤ j → gi z 11 j = gi s 11 j) ∧ (∀ j, j ≠ 80 → gi z 0 j = gi s 0 j) ∧ Fr [0, 11] s z := by
  intro k
  induction k with
  | zero =>
    intro i f s hi hf h81 h80
    obtain ⟨f, rfl⟩ : ∃ m, f = m + 1 := ⟨f - 1, by omega⟩
    obtain rfl : i = 8 := by omega
    refine ⟨s, ?_, h80, fun j h1 h2 => absurd h1 (by omega), fun _ _ => rfl, fun _ _ => rfl, Fr.rfl⟩
    rw [fX12_carryRow_11_L2]
    simp (disch := omega) only [↓ite_bind, ↓ck_bind, ↓lt_bind, ↓Option.bind_assoc, ↓bd_s, ↓lt_v, ↓ck_v, ↓reduceIte, Bool.false_eq_true, Bool.true_eq_false, bd_s, nj_add, nj_addl, nj_addr, nj_mull, nj_mulr, nj_subr, nj_pred, ix_nI, ix_lit, inb_t, inb_l, nj_le_t, nj_le_f, nj_lel_t, nj_lel_f, nj_ler_t, nj_ler_f, nj_lt_t, nj_lt_f, nj_ltl_t, nj_ltl_f, nj_ltr_t, nj_ltr_f, nj_eq_t, nj_eq_f, nj_eqr_t, nj_eqr_f, nj_m1, nj_m2]
  | succ k ih =>
    intro i f s hi hf h81 h80
    obtain ⟨f, rfl⟩ : ∃ m, f = m + 1 := ⟨f - 1, by omega⟩
    obtain ⟨z, a1, a2, a3, a4, a5, a6⟩ := ih (i + 1) f (si (si s 11 i (gi s 54 (p + i))) 0 80 (nI (p + i + 1))) (by omega) (by omega) (by rw [gi_dif (by decide), gi_ne (by decide)]; exact h81) (gi_same _ _ _ _)
    refine ⟨z, ?_, a2, fun j h1 h2 => ?_, fun j hj => ?_, fun j hj => ?_, ((Fr.si (by decide)).trans (Fr.si (by decide))).trans a6⟩
    · rw [fX12_carryRow_11_L2]
      simp (disch := omega) only [↓ite_bind, ↓ck_bind, ↓lt_bind, ↓Option.bind_assoc, ↓bd_s, ↓lt_v, ↓ck_v, ↓reduceIte, Bool.false_eq_true, Bool.true_eq_false, bd_s, nj_add, nj_addl, nj_addr, nj_mull, nj_mulr, nj_subr, nj_pred, ix_nI, ix_lit, inb_t, inb_l, nj_le_t, nj_le_f, nj_lel_t, nj_lel_f, nj_ler_t, nj_ler_f, nj_lt_t, nj_lt_f, nj_ltl_t, nj_ltl_f, nj_ltr_t, nj_ltr_f, nj_eq_t, nj_eq_f, nj_eqr_t, nj_eqr_f, nj_m1, nj_m2, h81, i10, h80, gi_si, gi_sl, gl_si, gl_sl, gi_sAr, gl_sAr, mr_si, mr_sl, mr_sm, gi_sm, gl_sm, mr_sAr, Nat.reduceEqDiff]
      exact a1
    · by_cases e : j = i
      · rw [e, a4 _ (by omega), gi_ne (by decide), gi_same]
      · rw [a3 j (by omega) h2, gi_ne (by decide), gi_ne (by decide)]
    · rw [a4 j (by omega), gi_ne (by decide), gi_dif (by omega)]
    · rw [a5 j hj, gi_dif hj, gi_ne (by decide)]
theorem cl11 {p : Nat} {s : ST} (hp : p + 8 ≤ 6000) (h81 : gi s 0 81 = 1) (h80 : gi s 0 80 = nI p) : ∃ z, fX12_carryRow_11 s = some z ∧ gi z 0 80 = nI (p + 8) ∧ (∀ j, j < 8 → gi z 11 j = gi s 54 (p + j)) ∧ (∀ j, 8 ≤ j → gi z 11 j = gi s 11 j) ∧ (∀ j, j ≠ 80 → gi z 0 j = gi s 0 j) ∧ Fr [0, 11] s z := by
  obtain ⟨z, a1, a2, a3, a4, a5, a6⟩ := cl11L hp 8 0 FUEL s (by omega) (by rw [FUEL_eq]; omega) h81 h80
  refine ⟨z, ?_, a2, fun j hj => a3 j (by omega) hj, fun j hj => a4 j (by omega), a5, a6⟩
  unfold fX12_carryRow_11
  rw [show (0 : Int32) = nI 0 from rfl, a1]
  exact id (Eq.refl _)
theorem cs12L {p : Nat} (hp : p + 8 ≤ 6000) : ∀ (k i f : Nat) (s : ST), i + k = 8 → k < f → gi s 0 81 = 0 → gi s 0 80 = nI (p + i) →
    ∃ z, fX12_carryRow_12_L2 f (nI i) s = some (nI 8, z) ∧ gi z 0 80 = nI (p + 8) ∧ (∀ j, i ≤ j → j < 8 → gi z 54 (p + j) = gi s 12 j) ∧ (∀ j, j < p + i ∨ p + 8 ≤ j → gi z 54 j = gi s 54 j) ∧ (∀ j, j ≠ 80 → gi z 0 j = gi s 0 j) ∧ Fr [0, 54] s z := by
  intro k
  induction k with
  | zero =>
    intro i f s hi hf h81 h80
    obtain ⟨f, rfl⟩ : ∃ m, f = m + 1 := ⟨f - 1, by omega⟩
    obtain rfl : i = 8 := by omega
    refine ⟨s, ?_, h80, fun j h1 h2 => absurd h1 (by omega), fun _ _ => rfl, fun _ _ => rfl, Fr.rfl⟩
    rw [fX12_carryRow_12_L2]
    simp (disch := omega) only [↓ite_bind, ↓ck_bind, ↓lt_bind, ↓Option.bind_assoc, ↓bd_s, ↓lt_v, ↓ck_v, ↓reduceIte, Bool.false_eq_true, Bool.true_eq_false, bd_s, nj_add, nj_addl, nj_addr, nj_mull, nj_mulr, nj_subr, nj_pred, ix_nI, ix_lit, inb_t, inb_l, nj_le_t, nj_le_f, nj_lel_t, nj_lel_f, nj_ler_t, nj_ler_f, nj_lt_t, nj_lt_f, nj_ltl_t, nj_ltl_f, nj_ltr_t, nj_ltr_f, nj_eq_t, nj_eq_f, nj_eqr_t, nj_eqr_f, nj_m1, nj_m2]
  | succ k ih =>
    intro i f s hi hf h81 h80
    obtain ⟨f, rfl⟩ : ∃ m, f = m + 1 := ⟨f - 1, by omega⟩
    obtain ⟨z, a1, a2, a3, a4, a5, a6⟩ := ih (i + 1) f (si (si s 54 (p + i) (gi s 12 i)) 0 80 (nI (p + i + 1))) (by omega) (by omega) (by rw [gi_dif (by decide), gi_ne (by decide)]; exact h81) (gi_same _ _ _ _)
    refine ⟨z, ?_, a2, fun j h1 h2 => ?_, fun j hj => ?_, fun j hj => ?_, ((Fr.si (by decide)).trans (Fr.si (by decide))).trans a6⟩
    · rw [fX12_carryRow_12_L2]
      simp (disch := omega) only [↓ite_bind, ↓ck_bind, ↓lt_bind, ↓Option.bind_assoc, ↓bd_s, ↓lt_v, ↓ck_v, ↓reduceIte, Bool.false_eq_true, Bool.true_eq_false, bd_s, nj_add, nj_addl, nj_addr, nj_mull, nj_mulr, nj_subr, nj_pred, ix_nI, ix_lit, inb_t, inb_l, nj_le_t, nj_le_f, nj_lel_t, nj_lel_f, nj_ler_t, nj_ler_f, nj_lt_t, nj_lt_f, nj_ltl_t, nj_ltl_f, nj_ltr_t, nj_ltr_f, nj_eq_t, nj_eq_f, nj_eqr_t, nj_eqr_f, nj_m1, nj_m2, h81, h80, gi_si, gi_sl, gl_si, gl_sl, gi_sAr, gl_sAr, mr_si, mr_sl, mr_sm, gi_sm, gl_sm, mr_sAr, Nat.reduceEqDiff]
      exact a1
    · by_cases e : j = i
      · rw [e, a4 _ (by omega), gi_ne (by decide), gi_same]
      · rw [a3 j (by omega) h2, gi_ne (by decide), gi_ne (by decide)]
    · rw [a4 j (by omega), gi_ne (by decide), gi_dif (by omega)]
    · rw [a5 j hj, gi_dif hj, gi_ne (by decide)]
theorem cs12 {p : Nat} {s : ST} (hp : p + 8 ≤ 6000) (h81 : gi s 0 81 = 0) (h80 : gi s 0 80 = nI p) : ∃ z, fX12_carryRow_12 s = some z ∧ gi z 0 80 = nI (p + 8) ∧ (∀ j, j < 8 → gi z 54 (p + j) = gi s 12 j) ∧ (∀ j, j < p ∨ p + 8 ≤ j → gi z 54 j = gi s 54 j) ∧ (∀ j, j ≠ 80 → gi z 0 j = gi s 0 j) ∧ Fr [0, 54] s z := by
  obtain ⟨z, a1, a2, a3, a4, a5, a6⟩ := cs12L hp 8 0 FUEL s (by omega) (by rw [FUEL_eq]; omega) h81 h80
  refine ⟨z, ?_, a2, fun j hj => a3 j (by omega) hj, fun j hj => a4 j (by omega), a5, a6⟩
  unfold fX12_carryRow_12
  rw [show (0 : Int32) = nI 0 from rfl, a1]
  exact id (Eq.refl _)
theorem cl12L {p : Nat} (hp : p + 8 ≤ 6000) : ∀ (k i f : Nat) (s : ST), i + k = 8 → k < f → gi s 0 81 = 1 → gi s 0 80 = nI (p + i) →
    ∃ z, fX12_carryRow_12_L2 f (nI i) s = some (nI 8, z) ∧ gi z 0 80 = nI (p + 8) ∧ (∀ j, i ≤ j → j < 8 → gi z 12 j = gi s 54 (p + j)) ∧ (∀ j, j < i ∨ 8 ≤ j → gi z 12 j = gi s 12 j) ∧ (∀ j, j ≠ 80 → gi z 0 j = gi s 0 j) ∧ Fr [0, 12] s z := by
  intro k
  induction k with
  | zero =>
    intro i f s hi hf h81 h80
    obtain ⟨f, rfl⟩ : ∃ m, f = m + 1 := ⟨f - 1, by omega⟩
    obtain rfl : i = 8 := by omega
    refine ⟨s, ?_, h80, fun j h1 h2 => absurd h1 (by omega), fun _ _ => rfl, fun _ _ => rfl, Fr.rfl⟩
    rw [fX12_carryRow_12_L2]
    simp (disch := omega) only [↓ite_bind, ↓ck_bind, ↓lt_bind, ↓Option.bind_assoc, ↓bd_s, ↓lt_v, ↓ck_v, ↓reduceIte, Bool.false_eq_true, Bool.true_eq_false, bd_s, nj_add, nj_addl, nj_addr, nj_mull, nj_mulr, nj_subr, nj_pred, ix_nI, ix_lit, inb_t, inb_l, nj_le_t, nj_le_f, nj_lel_t, nj_lel_f, nj_ler_t, nj_ler_f, nj_lt_t, nj_lt_f, nj_ltl_t, nj_ltl_f, nj_ltr_t, nj_ltr_f, nj_eq_t, nj_eq_f, nj_eqr_t, nj_eqr_f, nj_m1, nj_m2]
  | succ k ih =>
    intro i f s hi hf h81 h80
    obtain ⟨f, rfl⟩ : ∃ m, f = m + 1 := ⟨f - 1, by omega⟩
    obtain ⟨z, a1, a2, a3, a4, a5, a6⟩ := ih (i + 1) f (si (si s 12 i (gi s 54 (p + i))) 0 80 (nI (p + i + 1))) (by omega) (by omega) (by rw [gi_dif (by decide), gi_ne (by decide)]; exact h81) (gi_same _ _ _ _)
    refine ⟨z, ?_, a2, fun j h1 h2 => ?_, fun j hj => ?_, fun j hj => ?_, ((Fr.si (by decide)).trans (Fr.si (by decide))).trans a6⟩
    · rw [fX12_carryRow_12_L2]
      simp (disch := omega) only [↓ite_bind, ↓ck_bind, ↓lt_bind, ↓Option.bind_assoc, ↓bd_s, ↓lt_v, ↓ck_v, ↓reduceIte, Bool.false_eq_true, Bool.true_eq_false, bd_s, nj_add, nj_addl, nj_addr, nj_mull, nj_mulr, nj_subr, nj_pred, ix_nI, ix_lit, inb_t, inb_l, nj_le_t, nj_le_f, nj_lel_t, nj_lel_f, nj_ler_t, nj_ler_f, nj_lt_t, nj_lt_f, nj_ltl_t, nj_ltl_f, nj_ltr_t, nj_ltr_f, nj_eq_t, nj_eq_f, nj_eqr_t, nj_eqr_f, nj_m1, nj_m2, h81, i10, h80, gi_si, gi_sl, gl_si, gl_sl, gi_sAr, gl_sAr, mr_si, mr_sl, mr_sm, gi_sm, gl_sm, mr_sAr, Nat.reduceEqDiff]
      exact a1
    · by_cases e : j = i
      · rw [e, a4 _ (by omega), gi_ne (by decide), gi_same]
      · rw [a3 j (by omega) h2, gi_ne (by decide), gi_ne (by decide)]
    · rw [a4 j (by omega), gi_ne (by decide), gi_dif (by omega)]
    · rw [a5 j hj, gi_dif hj, gi_ne (by decide)]
theorem cl12 {p : Nat} {s : ST} (hp : p + 8 ≤ 6000) (h81 : gi s 0 81 = 1) (h80 : gi s 0 80 = nI p) : ∃ z, fX12_carryRow_12 s = some z ∧ gi z 0 80 = nI (p + 8) ∧ (∀ j, j < 8 → gi z 12 j = gi s 54 (p + j)) ∧ (∀ j, 8 ≤ j → gi z 12 j = gi s 12 j) ∧ (∀ j, j ≠ 80 → gi z 0 j = gi s 0 j) ∧ Fr [0, 12] s z := by
  obtain ⟨z, a1, a2, a3, a4, a5, a6⟩ := cl12L hp 8 0 FUEL s (by omega) (by rw [FUEL_eq]; omega) h81 h80
  refine ⟨z, ?_, a2, fun j hj => a3 j (by omega) hj, fun j hj => a4 j (by omega), a5, a6⟩
  unfold fX12_carryRow_12
  rw [show (0 : Int32) = nI 0 from rfl, a1]
  exact id (Eq.refl _)
theorem cs47L {p : Nat} (hp : p + 1 ≤ 6000) : ∀ (k i f : Nat) (s : ST), i + k = 1 → k < f → gi s 0 81 = 0 → gi s 0 80 = nI (p + i) →
    ∃ z, fX12_carryRow_47_L2 f (nI i) s = some (nI 1, z) ∧ gi z 0 80 = nI (p + 1) ∧ (∀ j, i ≤ j → j < 1 → gi z 54 (p + j) = gi s 47 j) ∧ (∀ j, j < p + i ∨ p + 1 ≤ j → gi z 54 j = gi s 54 j) ∧ (∀ j, j ≠ 80 → gi z 0 j = gi s 0 j) ∧ Fr [0, 54] s z := by
  intro k
  induction k with
  | zero =>
    intro i f s hi hf h81 h80
    obtain ⟨f, rfl⟩ : ∃ m, f = m + 1 := ⟨f - 1, by omega⟩
    obtain rfl : i = 1 := by omega
    refine ⟨s, ?_, h80, fun j h1 h2 => absurd h1 (by omega), fun _ _ => rfl, fun _ _ => rfl, Fr.rfl⟩
    rw [fX12_carryRow_47_L2]
    simp (disch := omega) only [↓ite_bind, ↓ck_bind, ↓lt_bind, ↓Option.bind_assoc, ↓bd_s, ↓lt_v, ↓ck_v, ↓reduceIte, Bool.false_eq_true, Bool.true_eq_false, bd_s, nj_add, nj_addl, nj_addr, nj_mull, nj_mulr, nj_subr, nj_pred, ix_nI, ix_lit, inb_t, inb_l, nj_le_t, nj_le_f, nj_lel_t, nj_lel_f, nj_ler_t, nj_ler_f, nj_lt_t, nj_lt_f, nj_ltl_t, nj_ltl_f, nj_ltr_t, nj_ltr_f, nj_eq_t, nj_eq_f, nj_eqr_t, nj_eqr_f, nj_m1, nj_m2]
  | succ k ih =>
    intro i f s hi hf h81 h80
    obtain ⟨f, rfl⟩ : ∃ m, f = m + 1 := ⟨f - 1, by omega⟩
    obtain ⟨z, a1, a2, a3, a4, a5, a6⟩ := ih (i + 1) f (si (si s 54 (p + i) (gi s 47 i)) 0 80 (nI (p + i + 1))) (by omega) (by omega) (by rw [gi_dif (by decide), gi_ne (by decide)]; exact h81) (gi_same _ _ _ _)
    refine ⟨z, ?_, a2, fun j h1 h2 => ?_, fun j hj => ?_, fun j hj => ?_, ((Fr.si (by decide)).trans (Fr.si (by decide))).trans a6⟩
    · rw [fX12_carryRow_47_L2]
      simp (disch := omega) only [↓ite_bind, ↓ck_bind, ↓lt_bind, ↓Option.bind_assoc, ↓bd_s, ↓lt_v, ↓ck_v, ↓reduceIte, Bool.false_eq_true, Bool.true_eq_false, bd_s, nj_add, nj_addl, nj_addr, nj_mull, nj_mulr, nj_subr, nj_pred, ix_nI, ix_lit, inb_t, inb_l, nj_le_t, nj_le_f, nj_lel_t, nj_lel_f, nj_ler_t, nj_ler_f, nj_lt_t, nj_lt_f, nj_ltl_t, nj_ltl_f, nj_ltr_t, nj_ltr_f, nj_eq_t, nj_eq_f, nj_eqr_t, nj_eqr_f, nj_m1, nj_m2, h81, h80, gi_si, gi_sl, gl_si, gl_sl, gi_sAr, gl_sAr, mr_si, mr_sl, mr_sm, gi_sm, gl_sm, mr_sAr, Nat.reduceEqDiff]
      exact a1
    · by_cases e : j = i
      · rw [e, a4 _ (by omega), gi_ne (by decide), gi_same]
      · rw [a3 j (by omega) h2, gi_ne (by decide), gi_ne (by decide)]
    · rw [a4 j (by omega), gi_ne (by decide), gi_dif (by omega)]
    · rw [a5 j hj, gi_dif hj, gi_ne (by decide)]
theorem cs47 {p : Nat} {s : ST} (hp : p + 1 ≤ 6000) (h81 : gi s 0 81 = 0) (h80 : gi s 0 80 = nI p) : ∃ z, fX12_carryRow_47 s = some z ∧ gi z 0 80 = nI (p + 1) ∧ (∀ j, j < 1 → gi z 54 (p + j) = gi s 47 j) ∧ (∀ j, j < p ∨ p + 1 ≤ j → gi z 54 j = gi s 54 j) ∧ (∀ j, j ≠ 80 → gi z 0 j = gi s 0 j) ∧ Fr [0, 54] s z := by
  obtain ⟨z, a1, a2, a3, a4, a5, a6⟩ := cs47L hp 1 0 FUEL s (by omega) (by rw [FUEL_eq]; omega) h81 h80
  refine ⟨z, ?_, a2, fun j hj => a3 j (by omega) hj, fun j hj => a4 j (by omega), a5, a6⟩
  unfold fX12_carryRow_47
  rw [show (0 : Int32) = nI 0 from rfl, a1]
  exact id (Eq.refl _)
theorem cl47L {p : Nat} (hp : p + 1 ≤ 6000) : ∀ (k i f : Nat) (s : ST), i + k = 1 → k < f → gi s 0 81 = 1 → gi s 0 80 = nI (p + i) →
    ∃ z, fX12_carryRow_47_L2 f (nI i) s = some (nI 1, z) ∧ gi z 0 80 = nI (p + 1) ∧ (∀ j, i ≤ j → j < 1 → gi z 47 j = gi s 54 (p + j)) ∧ (∀ j, j < i ∨ 1 ≤ j → gi z 47 j = gi s 47 j) ∧ (∀ j, j ≠ 80 → gi z 0 j = gi s 0 j) ∧ Fr [0, 47] s z := by
  intro k
  induction k with
  | zero =>
    intro i f s hi hf h81 h80
    obtain ⟨f, rfl⟩ : ∃ m, f = m + 1 := ⟨f - 1, by omega⟩
    obtain rfl : i = 1 := by omega
    refine ⟨s, ?_, h80, fun j h1 h2 => absurd h1 (by omega), fun _ _ => rfl, fun _ _ => rfl, Fr.rfl⟩
    rw [fX12_carryRow_47_L2]
    simp (disch := omega) only [↓ite_bind, ↓ck_bind, ↓lt_bind, ↓Option.bind_assoc, ↓bd_s, ↓lt_v, ↓ck_v, ↓reduceIte, Bool.false_eq_true, Bool.true_eq_false, bd_s, nj_add, nj_addl, nj_addr, nj_mull, nj_mulr, nj_subr, nj_pred, ix_nI, ix_lit, inb_t, inb_l, nj_le_t, nj_le_f, nj_lel_t, nj_lel_f, nj_ler_t, nj_ler_f, nj_lt_t, nj_lt_f, nj_ltl_t, nj_ltl_f, nj_ltr_t, nj_ltr_f, nj_eq_t, nj_eq_f, nj_eqr_t, nj_eqr_f, nj_m1, nj_m2]
  | succ k ih =>
    intro i f s hi hf h81 h80
    obtain ⟨f, rfl⟩ : ∃ m, f = m + 1 := ⟨f - 1, by omega⟩
    obtain ⟨z, a1, a2, a3, a4, a5, a6⟩ := ih (i + 1) f (si (si s 47 i (gi s 54 (p + i))) 0 80 (nI (p + i + 1))) (by omega) (by omega) (by rw [gi_dif (by decide), gi_ne (by decide)]; exact h81) (gi_same _ _ _ _)
    refine ⟨z, ?_, a2, fun j h1 h2 => ?_, fun j hj => ?_, fun j hj => ?_, ((Fr.si (by decide)).trans (Fr.si (by decide))).trans a6⟩
    · rw [fX12_carryRow_47_L2]
      simp (disch := omega) only [↓ite_bind, ↓ck_bind, ↓lt_bind, ↓Option.bind_assoc, ↓bd_s, ↓lt_v, ↓ck_v, ↓reduceIte, Bool.false_eq_true, Bool.true_eq_false, bd_s, nj_add, nj_addl, nj_addr, nj_mull, nj_mulr, nj_subr, nj_pred, ix_nI, ix_lit, inb_t, inb_l, nj_le_t, nj_le_f, nj_lel_t, nj_lel_f, nj_ler_t, nj_ler_f, nj_lt_t, nj_lt_f, nj_ltl_t, nj_ltl_f, nj_ltr_t, nj_ltr_f, nj_eq_t, nj_eq_f, nj_eqr_t, nj_eqr_f, nj_m1, nj_m2, h81, i10, h80, gi_si, gi_sl, gl_si, gl_sl, gi_sAr, gl_sAr, mr_si, mr_sl, mr_sm, gi_sm, gl_sm, mr_sAr, Nat.reduceEqDiff]
      exact a1
    · by_cases e : j = i
      · rw [e, a4 _ (by omega), gi_ne (by decide), gi_same]
      · rw [a3 j (by omega) h2, gi_ne (by decide), gi_ne (by decide)]
    · rw [a4 j (by omega), gi_ne (by decide), gi_dif (by omega)]
    · rw [a5 j hj, gi_dif hj, gi_ne (by decide)]
theorem cl47 {p : Nat} {s : ST} (hp : p + 1 ≤ 6000) (h81 : gi s 0 81 = 1) (h80 : gi s 0 80 = nI p) : ∃ z, fX12_carryRow_47 s = some z ∧ gi z 0 80 = nI (p + 1) ∧ (∀ j, j < 1 → gi z 47 j = gi s 54 (p + j)) ∧ (∀ j, 1 ≤ j → gi z 47 j = gi s 47 j) ∧ (∀ j, j ≠ 80 → gi z 0 j = gi s 0 j) ∧ Fr [0, 47] s z := by
  obtain ⟨z, a1, a2, a3, a4, a5, a6⟩ := cl47L hp 1 0 FUEL s (by omega) (by rw [FUEL_eq]; omega) h81 h80
  refine ⟨z, ?_, a2, fun j hj => a3 j (by omega) hj, fun j hj => a4 j (by omega), a5, a6⟩
  unfold fX12_carryRow_47
  rw [show (0 : Int32) = nI 0 from rfl, a1]
  exact id (Eq.refl _)
theorem cs2L {p : Nat} (hp : p + 5 ≤ 6000) : ∀ (k i f : Nat) (s : ST), i + k = 5 → k < f → gi s 0 81 = 0 → gi s 0 80 = nI (p + i) →
    ∃ z, fX12_carryRow_2_L2 f (nI i) s = some (nI 5, z) ∧ gi z 0 80 = nI (p + 5) ∧ (∀ j, i ≤ j → j < 5 → gi z 54 (p + j) = gi s 2 j) ∧ (∀ j, j < p + i ∨ p + 5 ≤ j → gi z 54 j = gi s 54 j) ∧ (∀ j, j ≠ 80 → gi z 0 j = gi s 0 j) ∧ Fr [0, 54] s z := by
  intro k
  induction k with
  | zero =>
    intro i f s hi hf h81 h80
    obtain ⟨f, rfl⟩ : ∃ m, f = m + 1 := ⟨f - 1, by omega⟩
    obtain rfl : i = 5 := by omega
    refine ⟨s, ?_, h80, fun j h1 h2 => absurd h1 (by omega), fun _ _ => rfl, fun _ _ => rfl, Fr.rfl⟩
    rw [fX12_carryRow_2_L2]
    simp (disch := omega) only [↓ite_bind, ↓ck_bind, ↓lt_bind, ↓Option.bind_assoc, ↓bd_s, ↓lt_v, ↓ck_v, ↓reduceIte, Bool.false_eq_true, Bool.true_eq_false, bd_s, nj_add, nj_addl, nj_addr, nj_mull, nj_mulr, nj_subr, nj_pred, ix_nI, ix_lit, inb_t, inb_l, nj_le_t, nj_le_f, nj_lel_t, nj_lel_f, nj_ler_t, nj_ler_f, nj_lt_t, nj_lt_f, nj_ltl_t, nj_ltl_f, nj_ltr_t, nj_ltr_f, nj_eq_t, nj_eq_f, nj_eqr_t, nj_eqr_f, nj_m1, nj_m2]
  | succ k ih =>
    intro i f s hi hf h81 h80
    obtain ⟨f, rfl⟩ : ∃ m, f = m + 1 := ⟨f - 1, by omega⟩
    obtain ⟨z, a1, a2, a3, a4, a5, a6⟩ := ih (i + 1) f (si (si s 54 (p + i) (gi s 2 i)) 0 80 (nI (p + i + 1))) (by omega) (by omega) (by rw [gi_dif (by decide), gi_ne (by decide)]; exact h81) (gi_same _ _ _ _)
    refine ⟨z, ?_, a2, fun j h1 h2 => ?_, fun j hj => ?_, fun j hj => ?_, ((Fr.si (by decide)).trans (Fr.si (by decide))).trans a6⟩
    · rw [fX12_carryRow_2_L2]
      simp (disch := omega) only [↓ite_bind, ↓ck_bind, ↓lt_bind, ↓Option.bind_assoc, ↓bd_s, ↓lt_v, ↓ck_v, ↓reduceIte, Bool.false_eq_true, Bool.true_eq_false, bd_s, nj_add, nj_addl, nj_addr, nj_mull, nj_mulr, nj_subr, nj_pred, ix_nI, ix_lit, inb_t, inb_l, nj_le_t, nj_le_f, nj_lel_t, nj_lel_f, nj_ler_t, nj_ler_f, nj_lt_t, nj_lt_f, nj_ltl_t, nj_ltl_f, nj_ltr_t, nj_ltr_f, nj_eq_t, nj_eq_f, nj_eqr_t, nj_eqr_f, nj_m1, nj_m2, h81, h80, gi_si, gi_sl, gl_si, gl_sl, gi_sAr, gl_sAr, mr_si, mr_sl, mr_sm, gi_sm, gl_sm, mr_sAr, Nat.reduceEqDiff]
      exact a1
    · by_cases e : j = i
      · rw [e, a4 _ (by omega), gi_ne (by decide), gi_same]
      · rw [a3 j (by omega) h2, gi_ne (by decide), gi_ne (by decide)]
    · rw [a4 j (by omega), gi_ne (by decide), gi_dif (by omega)]
    · rw [a5 j hj, gi_dif hj, gi_ne (by decide)]
theorem cs2 {p : Nat} {s : ST} (hp : p + 5 ≤ 6000) (h81 : gi s 0 81 = 0) (h80 : gi s 0 80 = nI p) : ∃ z, fX12_carryRow_2 s = some z ∧ gi z 0 80 = nI (p + 5) ∧ (∀ j, j < 5 → gi z 54 (p + j) = gi s 2 j) ∧ (∀ j, j < p ∨ p + 5 ≤ j → gi z 54 j = gi s 54 j) ∧ (∀ j, j ≠ 80 → gi z 0 j = gi s 0 j) ∧ Fr [0, 54] s z := by
  obtain ⟨z, a1, a2, a3, a4, a5, a6⟩ := cs2L hp 5 0 FUEL s (by omega) (by rw [FUEL_eq]; omega) h81 h80
  refine ⟨z, ?_, a2, fun j hj => a3 j (by omega) hj, fun j hj => a4 j (by omega), a5, a6⟩
  unfold fX12_carryRow_2
  rw [show (0 : Int32) = nI 0 from rfl, a1]
  exact id (Eq.refl _)
theorem cl2L {p : Nat} (hp : p + 5 ≤ 6000) : ∀ (k i f : Nat) (s : ST), i + k = 5 → k < f → gi s 0 81 = 1 → gi s 0 80 = nI (p + i) →
    ∃ z, fX12_carryRow_2_L2 f (nI i) s = some (nI 5, z) ∧ gi z 0 80 = nI (p + 5) ∧ (∀ j, i ≤ j → j < 5 → gi z 2 j = gi s 54 (p + j)) ∧ (∀ j, j < i ∨ 5 ≤ j → gi z 2 j = gi s 2 j) ∧ (∀ j, j ≠ 80 → gi z 0 j = gi s 0 j) ∧ Fr [0, 2] s z := by
  intro k
  induction k with
  | zero =>
    intro i f s hi hf h81 h80
    obtain ⟨f, rfl⟩ : ∃ m, f = m + 1 := ⟨f - 1, by omega⟩
    obtain rfl : i = 5 := by omega
    refine ⟨s, ?_, h80, fun j h1 h2 => absurd h1 (by omega), fun _ _ => rfl, fun _ _ => rfl, Fr.rfl⟩
    rw [fX12_carryRow_2_L2]
    simp (disch := omega) only [↓ite_bind, ↓ck_bind, ↓lt_bind, ↓Option.bind_assoc, ↓bd_s, ↓lt_v, ↓ck_v, ↓reduceIte, Bool.false_eq_true, Bool.true_eq_false, bd_s, nj_add, nj_addl, nj_addr, nj_mull, nj_mulr, nj_subr, nj_pred, ix_nI, ix_lit, inb_t, inb_l, nj_le_t, nj_le_f, nj_lel_t, nj_lel_f, nj_ler_t, nj_ler_f, nj_lt_t, nj_lt_f, nj_ltl_t, nj_ltl_f, nj_ltr_t, nj_ltr_f, nj_eq_t, nj_eq_f, nj_eqr_t, nj_eqr_f, nj_m1, nj_m2]
  | succ k ih =>
    intro i f s hi hf h81 h80
    obtain ⟨f, rfl⟩ : ∃ m, f = m + 1 := ⟨f - 1, by omega⟩
    obtain ⟨z, a1, a2, a3, a4, a5, a6⟩ := ih (i + 1) f (si (si s 2 i (gi s 54 (p + i))) 0 80 (nI (p + i + 1))) (by omega) (by omega) (by rw [gi_dif (by decide), gi_ne (by decide)]; exact h81) (gi_same _ _ _ _)
    refine ⟨z, ?_, a2, fun j h1 h2 => ?_, fun j hj => ?_, fun j hj => ?_, ((Fr.si (by decide)).trans (Fr.si (by decide))).trans a6⟩
    · rw [fX12_carryRow_2_L2]
      simp (disch := omega) only [↓ite_bind, ↓ck_bind, ↓lt_bind, ↓Option.bind_assoc, ↓bd_s, ↓lt_v, ↓ck_v, ↓reduceIte, Bool.false_eq_true, Bool.true_eq_false, bd_s, nj_add, nj_addl, nj_addr, nj_mull, nj_mulr, nj_subr, nj_pred, ix_nI, ix_lit, inb_t, inb_l, nj_le_t, nj_le_f, nj_lel_t, nj_lel_f, nj_ler_t, nj_ler_f, nj_lt_t, nj_lt_f, nj_ltl_t, nj_ltl_f, nj_ltr_t, nj_ltr_f, nj_eq_t, nj_eq_f, nj_eqr_t, nj_eqr_f, nj_m1, nj_m2, h81, i10, h80, gi_si, gi_sl, gl_si, gl_sl, gi_sAr, gl_sAr, mr_si, mr_sl, mr_sm, gi_sm, gl_sm, mr_sAr, Nat.reduceEqDiff]
      exact a1
    · by_cases e : j = i
      · rw [e, a4 _ (by omega), gi_ne (by decide), gi_same]
      · rw [a3 j (by omega) h2, gi_ne (by decide), gi_ne (by decide)]
    · rw [a4 j (by omega), gi_ne (by decide), gi_dif (by omega)]
    · rw [a5 j hj, gi_dif hj, gi_ne (by decide)]
theorem cl2 {p : Nat} {s : ST} (hp : p + 5 ≤ 6000) (h81 : gi s 0 81 = 1) (h80 : gi s 0 80 = nI p) : ∃ z, fX12_carryRow_2 s = some z ∧ gi z 0 80 = nI (p + 5) ∧ (∀ j, j < 5 → gi z 2 j = gi s 54 (p + j)) ∧ (∀ j, 5 ≤ j → gi z 2 j = gi s 2 j) ∧ (∀ j, j ≠ 80 → gi z 0 j = gi s 0 j) ∧ Fr [0, 2] s z := by
  obtain ⟨z, a1, a2, a3, a4, a5, a6⟩ := cl2L hp 5 0 FUEL s (by omega) (by rw [FUEL_eq]; omega) h81 h80
  refine ⟨z, ?_, a2, fun j hj => a3 j (by omega) hj, fun j hj => a4 j (by omega), a5, a6⟩
  unfold fX12_carryRow_2
  rw [show (0 : Int32) = nI 0 from rfl, a1]
  exact id (Eq.refl _)
theorem cs7L {p : Nat} (hp : p + 8 ≤ 6000) : ∀ (k i f : Nat) (s : ST), i + k = 8 → k < f → gi s 0 81 = 0 → gi s 0 80 = nI (p + i) →
    ∃ z, fX12_carryRow_7_L2 f (nI i) s = some (nI 8, z) ∧ gi z 0 80 = nI (p + 8) ∧ (∀ j, i ≤ j → j < 8 → gi z 54 (p + j) = gi s 7 j) ∧ (∀ j, j < p + i ∨ p + 8 ≤ j → gi z 54 j = gi s 54 j) ∧ (∀ j, j ≠ 80 → gi z 0 j = gi s 0 j) ∧ Fr [0, 54] s z := by
  intro k
  induction k with
  | zero =>
    intro i f s hi hf h81 h80
    obtain ⟨f, rfl⟩ : ∃ m, f = m + 1 := ⟨f - 1, by omega⟩
    obtain rfl : i = 8 := by omega
    refine ⟨s, ?_, h80, fun j h1 h2 => absurd h1 (by omega), fun _ _ => rfl, fun _ _ => rfl, Fr.rfl⟩
    rw [fX12_carryRow_7_L2]
    simp (disch := omega) only [↓ite_bind, ↓ck_bind, ↓lt_bind, ↓Option.bind_assoc, ↓bd_s, ↓lt_v, ↓ck_v, ↓reduceIte, Bool.false_eq_true, Bool.true_eq_false, bd_s, nj_add, nj_addl, nj_addr, nj_mull, nj_mulr, nj_subr, nj_pred, ix_nI, ix_lit, inb_t, inb_l, nj_le_t, nj_le_f, nj_lel_t, nj_lel_f, nj_ler_t, nj_ler_f, nj_lt_t, nj_lt_f, nj_ltl_t, nj_ltl_f, nj_ltr_t, nj_ltr_f, nj_eq_t, nj_eq_f, nj_eqr_t, nj_eqr_f, nj_m1, nj_m2]
  | succ k ih =>
    intro i f s hi hf h81 h80
    obtain ⟨f, rfl⟩ : ∃ m, f = m + 1 := ⟨f - 1, by omega⟩
    obtain ⟨z, a1, a2, a3, a4, a5, a6⟩ := ih (i + 1) f (si (si s 54 (p + i) (gi s 7 i)) 0 80 (nI (p + i + 1))) (by omega) (by omega) (by rw [gi_dif (by decide), gi_ne (by decide)]; exact h81) (gi_same _ _ _ _)
    refine ⟨z, ?_, a2, fun j h1 h2 => ?_, fun j hj => ?_, fun j hj => ?_, ((Fr.si (by decide)).trans (Fr.si (by decide))).trans a6⟩
    · rw [fX12_carryRow_7_L2]
      simp (disch := omega) only [↓ite_bind, ↓ck_bind, ↓lt_bind, ↓Option.bind_assoc, ↓bd_s, ↓lt_v, ↓ck_v, ↓reduceIte, Bool.false_eq_true, Bool.true_eq_false, bd_s, nj_add, nj_addl, nj_addr, nj_mull, nj_mulr, nj_subr, nj_pred, ix_nI, ix_lit, inb_t, inb_l, nj_le_t, nj_le_f, nj_lel_t, nj_lel_f, nj_ler_t, nj_ler_f, nj_lt_t, nj_lt_f, nj_ltl_t, nj_ltl_f, nj_ltr_t, nj_ltr_f, nj_eq_t, nj_eq_f, nj_eqr_t, nj_eqr_f, nj_m1, nj_m2, h81, h80, gi_si, gi_sl, gl_si, gl_sl, gi_sAr, gl_sAr, mr_si, mr_sl, mr_sm, gi_sm, gl_sm, mr_sAr, Nat.reduceEqDiff]
      exact a1
    · by_cases e : j = i
      · rw [e, a4 _ (by omega), gi_ne (by decide), gi_same]
      · rw [a3 j (by omega) h2, gi_ne (by decide), gi_ne (by decide)]
    · rw [a4 j (by omega), gi_ne (by decide), gi_dif (by omega)]
    · rw [a5 j hj, gi_dif hj, gi_ne (by decide)]
theorem cs7 {p : Nat} {s : ST} (hp : p + 8 ≤ 6000) (h81 : gi s 0 81 = 0) (h80 : gi s 0 80 = nI p) : ∃ z, fX12_carryRow_7 s = some z ∧ gi z 0 80 = nI (p + 8) ∧ (∀ j, j < 8 → gi z 54 (p + j) = gi s 7 j) ∧ (∀ j, j < p ∨ p + 8 ≤ j → gi z 54 j = gi s 54 j) ∧ (∀ j, j ≠ 80 → gi z 0 j = gi s 0 j) ∧ Fr [0, 54] s z := by
  obtain ⟨z, a1, a2, a3, a4, a5, a6⟩ := cs7L hp 8 0 FUEL s (by omega) (by rw [FUEL_eq]; omega) h81 h80
  refine ⟨z, ?_, a2, fun j hj => a3 j (by omega) hj, fun j hj => a4 j (by omega), a5, a6⟩
  unfold fX12_carryRow_7
  rw [show (0 : Int32) = nI 0 from rfl, a1]
  exact id (Eq.refl _)
theorem cl7L {p : Nat} (hp : p + 8 ≤ 6000) : ∀ (k i f : Nat) (s : ST), i + k = 8 → k < f → gi s 0 81 = 1 → gi s 0 80 = nI (p + i) →
    ∃ z, fX12_carryRow_7_L2 f (nI i) s = some (nI 8, z) ∧ gi z 0 80 = nI (p + 8) ∧ (∀ j, i ≤ j → j < 8 → gi z 7 j = gi s 54 (p + j)) ∧ (∀ j, j < i ∨ 8 ≤ j → gi z 7 j = gi s 7 j) ∧ (∀ j, j ≠ 80 → gi z 0 j = gi s 0 j) ∧ Fr [0, 7] s z := by
  intro k
  induction k with
  | zero =>
    intro i f s hi hf h81 h80
    obtain ⟨f, rfl⟩ : ∃ m, f = m + 1 := ⟨f - 1, by omega⟩
    obtain rfl : i = 8 := by omega
    refine ⟨s, ?_, h80, fun j h1 h2 => absurd h1 (by omega), fun _ _ => rfl, fun _ _ => rfl, Fr.rfl⟩
    rw [fX12_carryRow_7_L2]
    simp (disch := omega) only [↓ite_bind, ↓ck_bind, ↓lt_bind, ↓Option.bind_assoc, ↓bd_s, ↓lt_v, ↓ck_v, ↓reduceIte, Bool.false_eq_true, Bool.true_eq_false, bd_s, nj_add, nj_addl, nj_addr, nj_mull, nj_mulr, nj_subr, nj_pred, ix_nI, ix_lit, inb_t, inb_l, nj_le_t, nj_le_f, nj_lel_t, nj_lel_f, nj_ler_t, nj_ler_f, nj_lt_t, nj_lt_f, nj_ltl_t, nj_ltl_f, nj_ltr_t, nj_ltr_f, nj_eq_t, nj_eq_f, nj_eqr_t, nj_eqr_f, nj_m1, nj_m2]
  | succ k ih =>
    intro i f s hi hf h81 h80
    obtain ⟨f, rfl⟩ : ∃ m, f = m + 1 := ⟨f - 1, by omega⟩
    obtain ⟨z, a1, a2, a3, a4, a5, a6⟩ := ih (i + 1) f (si (si s 7 i (gi s 54 (p + i))) 0 80 (nI (p + i + 1))) (by omega) (by omega) (by rw [gi_dif (by decide), gi_ne (by decide)]; exact h81) (gi_same _ _ _ _)
    refine ⟨z, ?_, a2, fun j h1 h2 => ?_, fun j hj => ?_, fun j hj => ?_, ((Fr.si (by decide)).trans (Fr.si (by decide))).trans a6⟩
    · rw [fX12_carryRow_7_L2]
      simp (disch := omega) only [↓ite_bind, ↓ck_bind, ↓lt_bind, ↓Option.bind_assoc, ↓bd_s, ↓lt_v, ↓ck_v, ↓reduceIte, Bool.false_eq_true, Bool.true_eq_false, bd_s, nj_add, nj_addl, nj_addr, nj_mull, nj_mulr, nj_subr, nj_pred, ix_nI, ix_lit, inb_t, inb_l, nj_le_t, nj_le_f, nj_lel_t, nj_lel_f, nj_ler_t, nj_ler_f, nj_lt_t, nj_lt_f, nj_ltl_t, nj_ltl_f, nj_ltr_t, nj_ltr_f, nj_eq_t, nj_eq_f, nj_eqr_t, nj_eqr_f, nj_m1, nj_m2, h81, i10, h80, gi_si, gi_sl, gl_si, gl_sl, gi_sAr, gl_sAr, mr_si, mr_sl, mr_sm, gi_sm, gl_sm, mr_sAr, Nat.reduceEqDiff]
      exact a1
    · by_cases e : j = i
      · rw [e, a4 _ (by omega), gi_ne (by decide), gi_same]
      · rw [a3 j (by omega) h2, gi_ne (by decide), gi_ne (by decide)]
    · rw [a4 j (by omega), gi_ne (by decide), gi_dif (by omega)]
    · rw [a5 j hj, gi_dif hj, gi_ne (by decide)]
theorem cl7 {p : Nat} {s : ST} (hp : p + 8 ≤ 6000) (h81 : gi s 0 81 = 1) (h80 : gi s 0 80 = nI p) : ∃ z, fX12_carryRow_7 s = some z ∧ gi z 0 80 = nI (p + 8) ∧ (∀ j, j < 8 → gi z 7 j = gi s 54 (p + j)) ∧ (∀ j, 8 ≤ j → gi z 7 j = gi s 7 j) ∧ (∀ j, j ≠ 80 → gi z 0 j = gi s 0 j) ∧ Fr [0, 7] s z := by
  obtain ⟨z, a1, a2, a3, a4, a5, a6⟩ := cl7L hp 8 0 FUEL s (by omega) (by rw [FUEL_eq]; omega) h81 h80
  refine ⟨z, ?_, a2, fun j hj => a3 j (by omega) hj, fun j hj => a4 j (by omega), a5, a6⟩
  unfold fX12_carryRow_7
  rw [show (0 : Int32) = nI 0 from rfl, a1]
  exact id (Eq.refl _)
theorem cs8L {p : Nat} (hp : p + 8 ≤ 6000) : ∀ (k i f : Nat) (s : ST), i + k = 8 → k < f → gi s 0 81 = 0 → gi s 0 80 = nI (p + i) →
    ∃ z, fX12_carryRow_8_L2 f (nI i) s = some (nI 8, z) ∧ gi z 0 80 = nI (p + 8) ∧ (∀ j, i ≤ j → j < 8 → gi z 54 (p + j) = gi s 8 j) ∧ (∀ j, j < p + i ∨ p + 8 ≤ j → gi z 54 j = gi s 54 j) ∧ (∀ j, j ≠ 80 → gi z 0 j = gi s 0 j) ∧ Fr [0, 54] s z := by
  intro k
  induction k with
  | zero =>
    intro i f s hi hf h81 h80
    obtain ⟨f, rfl⟩ : ∃ m, f = m + 1 := ⟨f - 1, by omega⟩
    obtain rfl : i = 8 := by omega
    refine ⟨s, ?_, h80, fun j h1 h2 => absurd h1 (by omega), fun _ _ => rfl, fun _ _ => rfl, Fr.rfl⟩
    rw [fX12_carryRow_8_L2]
    simp (disch := omega) only [↓ite_bind, ↓ck_bind, ↓lt_bind, ↓Option.bind_assoc, ↓bd_s, ↓lt_v, ↓ck_v, ↓reduceIte, Bool.false_eq_true, Bool.true_eq_false, bd_s, nj_add, nj_addl, nj_addr, nj_mull, nj_mulr, nj_subr, nj_pred, ix_nI, ix_lit, inb_t, inb_l, nj_le_t, nj_le_f, nj_lel_t, nj_lel_f, nj_ler_t, nj_ler_f, nj_lt_t, nj_lt_f, nj_ltl_t, nj_ltl_f, nj_ltr_t, nj_ltr_f, nj_eq_t, nj_eq_f, nj_eqr_t, nj_eqr_f, nj_m1, nj_m2]
  | succ k ih =>
    intro i f s hi hf h81 h80
    obtain ⟨f, rfl⟩ : ∃ m, f = m + 1 := ⟨f - 1, by omega⟩
    obtain ⟨z, a1, a2, a3, a4, a5, a6⟩ := ih (i + 1) f (si (si s 54 (p + i) (gi s 8 i)) 0 80 (nI (p + i + 1))) (by omega) (by omega) (by rw [gi_dif (by decide), gi_ne (by decide)]; exact h81) (gi_same _ _ _ _)
    refine ⟨z, ?_, a2, fun j h1 h2 => ?_, fun j hj => ?_, fun j hj => ?_, ((Fr.si (by decide)).trans (Fr.si (by decide))).trans a6⟩
    · rw [fX12_carryRow_8_L2]
      simp (disch := omega) only [↓ite_bind, ↓ck_bind, ↓lt_bind, ↓Option.bind_assoc, ↓bd_s, ↓lt_v, ↓ck_v, ↓reduceIte, Bool.false_eq_true, Bool.true_eq_false, bd_s, nj_add, nj_addl, nj_addr, nj_mull, nj_mulr, nj_subr, nj_pred, ix_nI, ix_lit, inb_t, inb_l, nj_le_t, nj_le_f, nj_lel_t, nj_lel_f, nj_ler_t, nj_ler_f, nj_lt_t, nj_lt_f, nj_ltl_t, nj_ltl_f, nj_ltr_t, nj_ltr_f, nj_eq_t, nj_eq_f, nj_eqr_t, nj_eqr_f, nj_m1, nj_m2, h81, h80, gi_si, gi_sl, gl_si, gl_sl, gi_sAr, gl_sAr, mr_si, mr_sl, mr_sm, gi_sm, gl_sm, mr_sAr, Nat.reduceEqDiff]
      exact a1
    · by_cases e : j = i
      · rw [e, a4 _ (by omega), gi_ne (by decide), gi_same]
      · rw [a3 j (by omega) h2, gi_ne (by decide), gi_ne (by decide)]
    · rw [a4 j (by omega), gi_ne (by decide), gi_dif (by omega)]
    · rw [a5 j hj, gi_dif hj, gi_ne (by decide)]
theorem cs8 {p : Nat} {s : ST} (hp : p + 8 ≤ 6000) (h81 : gi s 0 81 = 0) (h80 : gi s 0 80 = nI p) : ∃ z, fX12_carryRow_8 s = some z ∧ gi z 0 80 = nI (p + 8) ∧ (∀ j, j < 8 → gi z 54 (p + j) = gi s 8 j) ∧ (∀ j, j < p ∨ p + 8 ≤ j → gi z 54 j = gi s 54 j) ∧ (∀ j, j ≠ 80 → gi z 0 j = gi s 0 j) ∧ Fr [0, 54] s z := by
  obtain ⟨z, a1, a2, a3, a4, a5, a6⟩ := cs8L hp 8 0 FUEL s (by omega) (by rw [FUEL_eq]; omega) h81 h80
  refine ⟨z, ?_, a2, fun j hj => a3 j (by omega) hj, fun j hj => a4 j (by omega), a5, a6⟩
  unfold fX12_carryRow_8
  rw [show (0 : Int32) = nI 0 from rfl, a1]
  exact id (Eq.refl _)
theorem cl8L {p : Nat} (hp : p + 8 ≤ 6000) : ∀ (k i f : Nat) (s : ST), i + k = 8 → k < f → gi s 0 81 = 1 → gi s 0 80 = nI (p + i) →
    ∃ z, fX12_carryRow_8_L2 f (nI i) s = some (nI 8, z) ∧ gi z 0 80 = nI (p + 8) ∧ (∀ j, i ≤ j → j < 8 → gi z 8 j = gi s 54 (p + j)) ∧ (∀ j, j < i ∨ 8 ≤ j → gi z 8 j = gi s 8 j) ∧ (∀ j, j ≠ 80 → gi z 0 j = gi s 0 j) ∧ Fr [0, 8] s z := by
  intro k
  induction k with
  | zero =>
    intro i f s hi hf h81 h80
    obtain ⟨f, rfl⟩ : ∃ m, f = m + 1 := ⟨f - 1, by omega⟩
    obtain rfl : i = 8 := by omega
    refine ⟨s, ?_, h80, fun j h1 h2 => absurd h1 (by omega), fun _ _ => rfl, fun _ _ => rfl, Fr.rfl⟩
    rw [fX12_carryRow_8_L2]
    simp (disch := omega) only [↓ite_bind, ↓ck_bind, ↓lt_bind, ↓Option.bind_assoc, ↓bd_s, ↓lt_v, ↓ck_v, ↓reduceIte, Bool.false_eq_true, Bool.true_eq_false, bd_s, nj_add, nj_addl, nj_addr, nj_mull, nj_mulr, nj_subr, nj_pred, ix_nI, ix_lit, inb_t, inb_l, nj_le_t, nj_le_f, nj_lel_t, nj_lel_f, nj_ler_t, nj_ler_f, nj_lt_t, nj_lt_f, nj_ltl_t, nj_ltl_f, nj_ltr_t, nj_ltr_f, nj_eq_t, nj_eq_f, nj_eqr_t, nj_eqr_f, nj_m1, nj_m2]
  | succ k ih =>
    intro i f s hi hf h81 h80
    obtain ⟨f, rfl⟩ : ∃ m, f = m + 1 := ⟨f - 1, by omega⟩
    obtain ⟨z, a1, a2, a3, a4, a5, a6⟩ := ih (i + 1) f (si (si s 8 i (gi s 54 (p + i))) 0 80 (nI (p + i + 1))) (by omega) (by omega) (by rw [gi_dif (by decide), gi_ne (by decide)]; exact h81) (gi_same _ _ _ _)
    refine ⟨z, ?_, a2, fun j h1 h2 => ?_, fun j hj => ?_, fun j hj => ?_, ((Fr.si (by decide)).trans (Fr.si (by decide))).trans a6⟩
    · rw [fX12_carryRow_8_L2]
      simp (disch := omega) only [↓ite_bind, ↓ck_bind, ↓lt_bind, ↓Option.bind_assoc, ↓bd_s, ↓lt_v, ↓ck_v, ↓reduceIte, Bool.false_eq_true, Bool.true_eq_false, bd_s, nj_add, nj_addl, nj_addr, nj_mull, nj_mulr, nj_subr, nj_pred, ix_nI, ix_lit, inb_t, inb_l, nj_le_t, nj_le_f, nj_lel_t, nj_lel_f, nj_ler_t, nj_ler_f, nj_lt_t, nj_lt_f, nj_ltl_t, nj_ltl_f, nj_ltr_t, nj_ltr_f, nj_eq_t, nj_eq_f, nj_eqr_t, nj_eqr_f, nj_m1, nj_m2, h81, i10, h80, gi_si, gi_sl, gl_si, gl_sl, gi_sAr, gl_sAr, mr_si, mr_sl, mr_sm, gi_sm, gl_sm, mr_sAr, Nat.reduceEqDiff]
      exact a1
    · by_cases e : j = i
      · rw [e, a4 _ (by omega), gi_ne (by decide), gi_same]
      · rw [a3 j (by omega) h2, gi_ne (by decide), gi_ne (by decide)]
    · rw [a4 j (by omega), gi_ne (by decide), gi_dif (by omega)]
    · rw [a5 j hj, gi_dif hj, gi_ne (by decide)]
theorem cl8 {p : Nat} {s : ST} (hp : p + 8 ≤ 6000) (h81 : gi s 0 81 = 1) (h80 : gi s 0 80 = nI p) : ∃ z, fX12_carryRow_8 s = some z ∧ gi z 0 80 = nI (p + 8) ∧ (∀ j, j < 8 → gi z 8 j = gi s 54 (p + j)) ∧ (∀ j, 8 ≤ j → gi z 8 j = gi s 8 j) ∧ (∀ j, j ≠ 80 → gi z 0 j = gi s 0 j) ∧ Fr [0, 8] s z := by
  obtain ⟨z, a1, a2, a3, a4, a5, a6⟩ := cl8L hp 8 0 FUEL s (by omega) (by rw [FUEL_eq]; omega) h81 h80
  refine ⟨z, ?_, a2, fun j hj => a3 j (by omega) hj, fun j hj => a4 j (by omega), a5, a6⟩
  unfold fX12_carryRow_8
  rw [show (0 : Int32) = nI 0 from rfl, a1]
  exact id (Eq.refl _)
theorem cs10L {p : Nat} (hp : p + 8 ≤ 6000) : ∀ (k i f : Nat) (s : ST), i + k = 8 → k < f → gi s 0 81 = 0 → gi s 0 80 = nI (p + i) →
    ∃ z, fX12_carryRow_10_L2 f (nI i) s = some (nI 8, z) ∧ gi z 0 80 = nI (p + 8) ∧ (∀ j, i ≤ j → j < 8 → gi z 54 (p + j) = gi s 10 j) ∧ (∀ j, j < p + i ∨ p + 8 ≤ j → gi z 54 j = gi s 54 j) ∧ (∀ j, j ≠ 80 → gi z 0 j = gi s 0 j) ∧ Fr [0, 54] s z := by
  intro k
  induction k with
  | zero =>
    intro i f s hi hf h81 h80
    obtain ⟨f, rfl⟩ : ∃ m, f = m + 1 := ⟨f - 1, by omega⟩
    obtain rfl : i = 8 := by omega
    refine ⟨s, ?_, h80, fun j h1 h2 => absurd h1 (by omega), fun _ _ => rfl, fun _ _ => rfl, Fr.rfl⟩
    rw [fX12_carryRow_10_L2]
    simp (disch := omega) only [↓ite_bind, ↓ck_bind, ↓lt_bind, ↓Option.bind_assoc, ↓bd_s, ↓lt_v, ↓ck_v, ↓reduceIte, Bool.false_eq_true, Bool.true_eq_false, bd_s, nj_add, nj_addl, nj_addr, nj_mull, nj_mulr, nj_subr, nj_pred, ix_nI, ix_lit, inb_t, inb_l, nj_le_t, nj_le_f, nj_lel_t, nj_lel_f, nj_ler_t, nj_ler_f, nj_lt_t, nj_lt_f, nj_ltl_t, nj_ltl_f, nj_ltr_t, nj_ltr_f, nj_eq_t, nj_eq_f, nj_eqr_t, nj_eqr_f, nj_m1, nj_m2]
  | succ k ih =>
    intro i f s hi hf h81 h80
    obtain ⟨f, rfl⟩ : ∃ m, f = m + 1 := ⟨f - 1, by omega⟩
    obtain ⟨z, a1, a2, a3, a4, a5, a6⟩ := ih (i + 1) f (si (si s 54 (p + i) (gi s 10 i)) 0 80 (nI (p + i + 1))) (by omega) (by omega) (by rw [gi_dif (by decide), gi_ne (by decide)]; exact h81) (gi_same _ _ _ _)
    refine ⟨z, ?_, a2, fun j h1 h2 => ?_, fun j hj => ?_, fun j hj => ?_, ((Fr.si (by decide)).trans (Fr.si (by decide))).trans a6⟩
    · rw [fX12_carryRow_10_L2]
      simp (disch := omega) only [↓ite_bind, ↓ck_bind, ↓lt_bind, ↓Option.bind_assoc, ↓bd_s, ↓lt_v, ↓ck_v, ↓reduceIte, Bool.false_eq_true, Bool.true_eq_false, bd_s, nj_add, nj_addl, nj_addr, nj_mull, nj_mulr, nj_subr, nj_pred, ix_nI, ix_lit, inb_t, inb_l, nj_le_t, nj_le_f, nj_lel_t, nj_lel_f, nj_ler_t, nj_ler_f, nj_lt_t, nj_lt_f, nj_ltl_t, nj_ltl_f, nj_ltr_t, nj_ltr_f, nj_eq_t, nj_eq_f, nj_eqr_t, nj_eqr_f, nj_m1, nj_m2, h81, h80, gi_si, gi_sl, gl_si, gl_sl, gi_sAr, gl_sAr, mr_si, mr_sl, mr_sm, gi_sm, gl_sm, mr_sAr, Nat.reduceEqDiff]
      exact a1
    · by_cases e : j = i
      · rw [e, a4 _ (by omega), gi_ne (by decide), gi_same]
      · rw [a3 j (by omega) h2, gi_ne (by decide), gi_ne (by decide)]
    · rw [a4 j (by omega), gi_ne (by decide), gi_dif (by omega)]
    · rw [a5 j hj, gi_dif hj, gi_ne (by decide)]
theorem cs10 {p : Nat} {s : ST} (hp : p + 8 ≤ 6000) (h81 : gi s 0 81 = 0) (h80 : gi s 0 80 = nI p) : ∃ z, fX12_carryRow_10 s = some z ∧ gi z 0 80 = nI (p + 8) ∧ (∀ j, j < 8 → gi z 54 (p + j) = gi s 10 j) ∧ (∀ j, j < p ∨ p + 8 ≤ j → gi z 54 j = gi s 54 j) ∧ (∀ j, j ≠ 80 → gi z 0 j = gi s 0 j) ∧ Fr [0, 54] s z := by
  obtain ⟨z, a1, a2, a3, a4, a5, a6⟩ := cs10L hp 8 0 FUEL s (by omega) (by rw [FUEL_eq]; omega) h81 h80
  refine ⟨z, ?_, a2, fun j hj => a3 j (by omega) hj, fun j hj => a4 j (by omega), a5, a6⟩
  unfold fX12_carryRow_10
  rw [show (0 : Int32) = nI 0 from rfl, a1]
  exact id (Eq.refl _)
theorem cl10L {p : Nat} (hp : p + 8 ≤ 6000) : ∀ (k i f : Nat) (s : ST), i + k = 8 → k < f → gi s 0 81 = 1 → gi s 0 80 = nI (p + i) →
    ∃ z, fX12_carryRow_10_L2 f (nI i) s = some (nI 8, z) ∧ gi z 0 80 = nI (p + 8) ∧ (∀ j, i ≤ j → j < 8 → gi z 10 j = gi s 54 (p + j)) ∧ (∀ j, j < i ∨ 8 ≤ j → gi z 10 j = gi s 10 j) ∧ (∀ j, j ≠ 80 → gi z 0 j = gi s 0 j) ∧ Fr [0, 10] s z := by
  intro k
  induction k with
  | zero =>
    intro i f s hi hf h81 h80
    obtain ⟨f, rfl⟩ : ∃ m, f = m + 1 := ⟨f - 1, by omega⟩
    obtain rfl : i = 8 := by omega
    refine ⟨s, ?_, h80, fun j h1 h2 => absurd h1 (by omega), fun _ _ => rfl, fun _ _ => rfl, Fr.rfl⟩
    rw [fX12_carryRow_10_L2]
    simp (disch := omega) only [↓ite_bind, ↓ck_bind, ↓lt_bind, ↓Option.bind_assoc, ↓bd_s, ↓lt_v, ↓ck_v, ↓reduceIte, Bool.false_eq_true, Bool.true_eq_false, bd_s, nj_add, nj_addl, nj_addr, nj_mull, nj_mulr, nj_subr, nj_pred, ix_nI, ix_lit, inb_t, inb_l, nj_le_t, nj_le_f, nj_lel_t, nj_lel_f, nj_ler_t, nj_ler_f, nj_lt_t, nj_lt_f, nj_ltl_t, nj_ltl_f, nj_ltr_t, nj_ltr_f, nj_eq_t, nj_eq_f, nj_eqr_t, nj_eqr_f, nj_m1, nj_m2]
  | succ k ih =>
    intro i f s hi hf h81 h80
    obtain ⟨f, rfl⟩ : ∃ m, f = m + 1 := ⟨f - 1, by omega⟩
    obtain ⟨z, a1, a2, a3, a4, a5, a6⟩ := ih (i + 1) f (si (si s 10 i (gi s 54 (p + i))) 0 80 (nI (p + i + 1))) (by omega) (by omega) (by rw [gi_dif (by decide), gi_ne (by decide)]; exact h81) (gi_same _ _ _ _)
    refine ⟨z, ?_, a2, fun j h1 h2 => ?_, fun j hj => ?_, fun j hj => ?_, ((Fr.si (by decide)).trans (Fr.si (by decide))).trans a6⟩
    · rw [fX12_carryRow_10_L2]
      simp (disch := omega) only [↓ite_bind, ↓ck_bind, ↓lt_bind, ↓Option.bind_assoc, ↓bd_s, ↓lt_v, ↓ck_v, ↓reduceIte, Bool.false_eq_true, Bool.true_eq_false, bd_s, nj_add, nj_addl, nj_addr, nj_mull, nj_mulr, nj_subr, nj_pred, ix_nI, ix_lit, inb_t, inb_l, nj_le_t, nj_le_f, nj_lel_t, nj_lel_f, nj_ler_t, nj_ler_f, nj_lt_t, nj_lt_f, nj_ltl_t, nj_ltl_f, nj_ltr_t, nj_ltr_f, nj_eq_t, nj_eq_f, nj_eqr_t, nj_eqr_f, nj_m1, nj_m2, h81, i10, h80, gi_si, gi_sl, gl_si, gl_sl, gi_sAr, gl_sAr, mr_si, mr_sl, mr_sm, gi_sm, gl_sm, mr_sAr, Nat.reduceEqDiff]
      exact a1
    · by_cases e : j = i
      · rw [e, a4 _ (by omega), gi_ne (by decide), gi_same]
      · rw [a3 j (by omega) h2, gi_ne (by decide), gi_ne (by decide)]
    · rw [a4 j (by omega), gi_ne (by decide), gi_dif (by omega)]
    · rw [a5 j hj, gi_dif hj, gi_ne (by decide)]
theorem cl10 {p : Nat} {s : ST} (hp : p + 8 ≤ 6000) (h81 : gi s 0 81 = 1) (h80 : gi s 0 80 = nI p) : ∃ z, fX12_carryRow_10 s = some z ∧ gi z 0 80 = nI (p + 8) ∧ (∀ j, j < 8 → gi z 10 j = gi s 54 (p + j)) ∧ (∀ j, 8 ≤ j → gi z 10 j = gi s 10 j) ∧ (∀ j, j ≠ 80 → gi z 0 j = gi s 0 j) ∧ Fr [0, 10] s z := by
  obtain ⟨z, a1, a2, a3, a4, a5, a6⟩ := cl10L hp 8 0 FUEL s (by omega) (by rw [FUEL_eq]; omega) h81 h80
  refine ⟨z, ?_, a2, fun j hj => a3 j (by omega) hj, fun j hj => a4 j (by omega), a5, a6⟩
  unfold fX12_carryRow_10
  rw [show (0 : Int32) = nI 0 from rfl, a1]
  exact id (Eq.refl _)
theorem cs13L {p : Nat} (hp : p + 10 ≤ 6000) : ∀ (k i f : Nat) (s : ST), i + k = 10 → k < f → gi s 0 81 = 0 → gi s 0 80 = nI (p + i) →
    ∃ z, fX12_carryRow_13_L2 f (nI i) s = some (nI 10, z) ∧ gi z 0 80 = nI (p + 10) ∧ (∀ j, i ≤ j → j < 10 → gi z 54 (p + j) = gi s 13 j) ∧ (∀ j, j < p + i ∨ p + 10 ≤ j → gi z 54 j = gi s 54 j) ∧ (∀ j, j ≠ 80 → gi z 0 j = gi s 0 j) ∧ Fr [0, 54] s z := by
  intro k
  induction k with
  | zero =>
    intro i f s hi hf h81 h80
    obtain ⟨f, rfl⟩ : ∃ m, f = m + 1 := ⟨f - 1, by omega⟩
    obtain rfl : i = 10 := by omega
    refine ⟨s, ?_, h80, fun j h1 h2 => absurd h1 (by omega), fun _ _ => rfl, fun _ _ => rfl, Fr.rfl⟩
    rw [fX12_carryRow_13_L2]
    simp (disch := omega) only [↓ite_bind, ↓ck_bind, ↓lt_bind, ↓Option.bind_assoc, ↓bd_s, ↓lt_v, ↓ck_v, ↓reduceIte, Bool.false_eq_true, Bool.true_eq_false, bd_s, nj_add, nj_addl, nj_addr, nj_mull, nj_mulr, nj_subr, nj_pred, ix_nI, ix_lit, inb_t, inb_l, nj_le_t, nj_le_f, nj_lel_t, nj_lel_f, nj_ler_t, nj_ler_f, nj_lt_t, nj_lt_f, nj_ltl_t, nj_ltl_f, nj_ltr_t, nj_ltr_f, nj_eq_t, nj_eq_f, nj_eqr_t, nj_eqr_f, nj_m1, nj_m2]
  | succ k ih =>
    intro i f s hi hf h81 h80
    obtain ⟨f, rfl⟩ : ∃ m, f = m + 1 := ⟨f - 1, by omega⟩
    obtain ⟨z, a1, a2, a3, a4, a5, a6⟩ := ih (i + 1) f (si (si s 54 (p + i) (gi s 13 i)) 0 80 (nI (p + i + 1))) (by omega) (by omega) (by rw [gi_dif (by decide), gi_ne (by decide)]; exact h81) (gi_same _ _ _ _)
    refine ⟨z, ?_, a2, fun j h1 h2 => ?_, fun j hj => ?_, fun j hj => ?_, ((Fr.si (by decide)).trans (Fr.si (by decide))).trans a6⟩
    · rw [fX12_carryRow_13_L2]
      simp (disch := omega) only [↓ite_bind, ↓ck_bind, ↓lt_bind, ↓Option.bind_assoc, ↓bd_s, ↓lt_v, ↓ck_v, ↓reduceIte, Bool.false_eq_true, Bool.true_eq_false, bd_s, nj_add, nj_addl, nj_addr, nj_mull, nj_mulr, nj_subr, nj_pred, ix_nI, ix_lit, inb_t, inb_l, nj_le_t, nj_le_f, nj_lel_t, nj_lel_f, nj_ler_t, nj_ler_f, nj_lt_t, nj_lt_f, nj_ltl_t, nj_ltl_f, nj_ltr_t, nj_ltr_f, nj_eq_t, nj_eq_f, nj_eqr_t, nj_eqr_f, nj_m1, nj_m2, h81, h80, gi_si, gi_sl, gl_si, gl_sl, gi_sAr, gl_sAr, mr_si, mr_sl, mr_sm, gi_sm, gl_sm, mr_sAr, Nat.reduceEqDiff]
      exact a1
    · by_cases e : j = i
      · rw [e, a4 _ (by omega), gi_ne (by decide), gi_same]
      · rw [a3 j (by omega) h2, gi_ne (by decide), gi_ne (by decide)]
    · rw [a4 j (by omega), gi_ne (by decide), gi_dif (by omega)]
    · rw [a5 j hj, gi_dif hj, gi_ne (by decide)]
theorem cs13 {p : Nat} {s : ST} (hp : p + 10 ≤ 6000) (h81 : gi s 0 81 = 0) (h80 : gi s 0 80 = nI p) : ∃ z, fX12_carryRow_13 s = some z ∧ gi z 0 80 = nI (p + 10) ∧ (∀ j, j < 10 → gi z 54 (p + j) = gi s 13 j) ∧ (∀ j, j < p ∨ p + 10 ≤ j → gi z 54 j = gi s 54 j) ∧ (∀ j, j ≠ 80 → gi z 0 j = gi s 0 j) ∧ Fr [0, 54] s z := by
  obtain ⟨z, a1, a2, a3, a4, a5, a6⟩ := cs13L hp 10 0 FUEL s (by omega) (by rw [FUEL_eq]; omega) h81 h80
  refine ⟨z, ?_, a2, fun j hj => a3 j (by omega) hj, fun j hj => a4 j (by omega), a5, a6⟩
  unfold fX12_carryRow_13
  rw [show (0 : Int32) = nI 0 from rfl, a1]
  exact id (Eq.refl _)
theorem cl13L {p : Nat} (hp : p + 10 ≤ 6000) : ∀ (k i f : Nat) (s : ST), i + k = 10 → k < f → gi s 0 81 = 1 → gi s 0 80 = nI (p + i) →
    ∃ z, fX12_carryRow_13_L2 f (nI i) s = some (nI 10, z) ∧ gi z 0 80 = nI (p + 10) ∧ (∀ j, i ≤ j → j < 10 → gi z 13 j = gi s 54 (p + j)) ∧ (∀ j, j < i ∨ 10 ≤ j → gi z 13 j = gi s 13 j) ∧ (∀ j, j ≠ 80 → gi z 0 j = gi s 0 j) ∧ Fr [0, 13] s z := by
  intro k
  induction k with
  | zero =>
    intro i f s hi hf h81 h80
    obtain ⟨f, rfl⟩ : ∃ m, f = m + 1 := ⟨f - 1, by omega⟩
    obtain rfl : i = 10 := by omega
    refine ⟨s, ?_, h80, fun j h1 h2 => absurd h1 (by omega), fun _ _ => rfl, fun _ _ => rfl, Fr.rfl⟩
    rw [fX12_carryRow_13_L2]
    simp (disch := omega) only [↓ite_bind, ↓ck_bind, ↓lt_bind, ↓Option.bind_assoc, ↓bd_s, ↓lt_v, ↓ck_v, ↓reduceIte, Bool.false_eq_true, Bool.true_eq_false, bd_s, nj_add, nj_addl, nj_addr, nj_mull, nj_mulr, nj_subr, nj_pred, ix_nI, ix_lit, inb_t, inb_l, nj_le_t, nj_le_f, nj_lel_t, nj_lel_f, nj_ler_t, nj_ler_f, nj_lt_t, nj_lt_f, nj_ltl_t, nj_ltl_f, nj_ltr_t, nj_ltr_f, nj_eq_t, nj_eq_f, nj_eqr_t, nj_eqr_f, nj_m1, nj_m2]
  | succ k ih =>
    intro i f s hi hf h81 h80
    obtain ⟨f, rfl⟩ : ∃ m, f = m + 1 := ⟨f - 1, by omega⟩
    obtain ⟨z, a1, a2, a3, a4, a5, a6⟩ := ih (i + 1) f (si (si s 13 i (gi s 54 (p + i))) 0 80 (nI (p + i + 1))) (by omega) (by omega) (by rw [gi_dif (by decide), gi_ne (by decide)]; exact h81) (gi_same _ _ _ _)
    refine ⟨z, ?_, a2, fun j h1 h2 => ?_, fun j hj => ?_, fun j hj => ?_, ((Fr.si (by decide)).trans (Fr.si (by decide))).trans a6⟩
    · rw [fX12_carryRow_13_L2]
      simp (disch := omega) only [↓ite_bind, ↓ck_bind, ↓lt_bind, ↓Option.bind_assoc, ↓bd_s, ↓lt_v, ↓ck_v, ↓reduceIte, Bool.false_eq_true, Bool.true_eq_false, bd_s, nj_add, nj_addl, nj_addr, nj_mull, nj_mulr, nj_subr, nj_pred, ix_nI, ix_lit, inb_t, inb_l, nj_le_t, nj_le_f, nj_lel_t, nj_lel_f, nj_ler_t, nj_ler_f, nj_lt_t, nj_lt_f, nj_ltl_t, nj_ltl_f, nj_ltr_t, nj_ltr_f, nj_eq_t, nj_eq_f, nj_eqr_t, nj_eqr_f, nj_m1, nj_m2, h81, i10, h80, gi_si, gi_sl, gl_si, gl_sl, gi_sAr, gl_sAr, mr_si, mr_sl, mr_sm, gi_sm, gl_sm, mr_sAr, Nat.reduceEqDiff]
      exact a1
    · by_cases e : j = i
      · rw [e, a4 _ (by omega), gi_ne (by decide), gi_same]
      · rw [a3 j (by omega) h2, gi_ne (by decide), gi_ne (by decide)]
    · rw [a4 j (by omega), gi_ne (by decide), gi_dif (by omega)]
    · rw [a5 j hj, gi_dif hj, gi_ne (by decide)]
theorem cl13 {p : Nat} {s : ST} (hp : p + 10 ≤ 6000) (h81 : gi s 0 81 = 1) (h80 : gi s 0 80 = nI p) : ∃ z, fX12_carryRow_13 s = some z ∧ gi z 0 80 = nI (p + 10) ∧ (∀ j, j < 10 → gi z 13 j = gi s 54 (p + j)) ∧ (∀ j, 10 ≤ j → gi z 13 j = gi s 13 j) ∧ (∀ j, j ≠ 80 → gi z 0 j = gi s 0 j) ∧ Fr [0, 13] s z := by
  obtain ⟨z, a1, a2, a3, a4, a5, a6⟩ := cl13L hp 10 0 FUEL s (by omega) (by rw [FUEL_eq]; omega) h81 h80
  refine ⟨z, ?_, a2, fun j hj => a3 j (by omega) hj, fun j hj => a4 j (by omega), a5, a6⟩
  unfold fX12_carryRow_13
  rw [show (0 : Int32) = nI 0 from rfl, a1]
  exact id (Eq.refl _)
theorem cs14L {p : Nat} (hp : p + 10 ≤ 6000) : ∀ (k i f : Nat) (s : ST), i + k = 10 → k < f → gi s 0 81 = 0 → gi s 0 80 = nI (p + i) →
    ∃ z, fX12_carryRow_14_L2 f (nI i) s = some (nI 10, z) ∧ gi z 0 80 = nI (p + 10) ∧ (∀ j, i ≤ j → j < 10 → gi z 54 (p + j) = gi s 14 j) ∧ (∀ j, j < p + i ∨ p + 10 ≤ j → gi z 54 j = gi s 54 j) ∧ (∀ j, j ≠ 80 → gi z 0 j = gi s 0 j) ∧ Fr [0, 54] s z := by
  intro k
  induction k with
  | zero =>
    intro i f s hi hf h81 h80
    obtain ⟨f, rfl⟩ : ∃ m, f = m + 1 := ⟨f - 1, by omega⟩
    obtain rfl : i = 10 := by omega
    refine ⟨s, ?_, h80, fun j h1 h2 => absurd h1 (by omega), fun _ _ => rfl, fun _ _ => rfl, Fr.rfl⟩
    rw [fX12_carryRow_14_L2]
    simp (disch := omega) only [↓ite_bind, ↓ck_bind, ↓lt_bind, ↓Option.bind_assoc, ↓bd_s, ↓lt_v, ↓ck_v, ↓reduceIte, Bool.false_eq_true, Bool.true_eq_false, bd_s, nj_add, nj_addl, nj_addr, nj_mull, nj_mulr, nj_subr, nj_pred, ix_nI, ix_lit, inb_t, inb_l, nj_le_t, nj_le_f, nj_lel_t, nj_lel_f, nj_ler_t, nj_ler_f, nj_lt_t, nj_lt_f, nj_ltl_t, nj_ltl_f, nj_ltr_t, nj_ltr_f, nj_eq_t, nj_eq_f, nj_eqr_t, nj_eqr_f, nj_m1, nj_m2]
  | succ k ih =>
    intro i f s hi hf h81 h80
    obtain ⟨f, rfl⟩ : ∃ m, f = m + 1 := ⟨f - 1, by omega⟩
    obtain ⟨z, a1, a2, a3, a4, a5, a6⟩ := ih (i + 1) f (si (si s 54 (p + i) (gi s 14 i)) 0 80 (nI (p + i + 1))) (by omega) (by omega) (by rw [gi_dif (by decide), gi_ne (by decide)]; exact h81) (gi_same _ _ _ _)
    refine ⟨z, ?_, a2, fun j h1 h2 => ?_, fun j hj => ?_, fun j hj => ?_, ((Fr.si (by decide)).trans (Fr.si (by decide))).trans a6⟩
    · rw [fX12_carryRow_14_L2]
      simp (disch := omega) only [↓ite_bind, ↓ck_bind, ↓lt_bind, ↓Option.bind_assoc, ↓bd_s, ↓lt_v, ↓ck_v, ↓reduceIte, Bool.false_eq_true, Bool.true_eq_false, bd_s, nj_add, nj_addl, nj_addr, nj_mull, nj_mulr, nj_subr, nj_pred, ix_nI, ix_lit, inb_t, inb_l, nj_le_t, nj_le_f, nj_lel_t, nj_lel_f, nj_ler_t, nj_ler_f, nj_lt_t, nj_lt_f, nj_ltl_t, nj_ltl_f, nj_ltr_t, nj_ltr_f, nj_eq_t, nj_eq_f, nj_eqr_t, nj_eqr_f, nj_m1, nj_m2, h81, h80, gi_si, gi_sl, gl_si, gl_sl, gi_sAr, gl_sAr, mr_si, mr_sl, mr_sm, gi_sm, gl_sm, mr_sAr, Nat.reduceEqDiff]
      exact a1
    · by_cases e : j = i
      · rw [e, a4 _ (by omega), gi_ne (by decide), gi_same]
      · rw [a3 j (by omega) h2, gi_ne (by decide), gi_ne (by decide)]
    · rw [a4 j (by omega), gi_ne (by decide), gi_dif (by omega)]
    · rw [a5 j hj, gi_dif hj, gi_ne (by decide)]
theorem cs14 {p : Nat} {s : ST} (hp : p + 10 ≤ 6000) (h81 : gi s 0 81 = 0) (h80 : gi s 0 80 = nI p) : ∃ z, fX12_carryRow_14 s = some z ∧ gi z 0 80 = nI (p + 10) ∧ (∀ j, j < 10 → gi z 54 (p + j) = gi s 14 j) ∧ (∀ j, j < p ∨ p + 10 ≤ j → gi z 54 j = gi s 54 j) ∧ (∀ j, j ≠ 80 → gi z 0 j = gi s 0 j) ∧ Fr [0, 54] s z := by
  obtain ⟨z, a1, a2, a3, a4, a5, a6⟩ := cs14L hp 10 0 FUEL s (by omega) (by rw [FUEL_eq]; omega) h81 h80
  refine ⟨z, ?_, a2, fun j hj => a3 j (by omega) hj, fun j hj => a4 j (by omega), a5, a6⟩
  unfold fX12_carryRow_14
  rw [show (0 : Int32) = nI 0 from rfl, a1]
  exact id (Eq.refl _)
theorem cl14L {p : Nat} (hp : p + 10 ≤ 6000) : ∀ (k i f : Nat) (s : ST), i + k = 10 → k < f → gi s 0 81 = 1 → gi s 0 80 = nI (p + i) →
    ∃ z, fX12_carryRow_14_L2 f (nI i) s = some (nI 10, z) ∧ gi z 0 80 = nI (p + 10) ∧ (∀ j, i ≤ j → j < 10 → gi z 14 j = gi s 54 (p + j)) ∧ (∀ j, j < i ∨ 10 ≤ j → gi z 14 j = gi s 14 j) ∧ (∀ j, j ≠ 80 → gi z 0 j = gi s 0 j) ∧ Fr [0, 14] s z := by
  intro k
  induction k with
  | zero =>
    intro i f s hi hf h81 h80
    obtain ⟨f, rfl⟩ : ∃ m, f = m + 1 := ⟨f - 1, by omega⟩
    obtain rfl : i = 10 := by omega
    refine ⟨s, ?_, h80, fun j h1 h2 => absurd h1 (by omega), fun _ _ => rfl, fun _ _ => rfl, Fr.rfl⟩
    rw [fX12_carryRow_14_L2]
    simp (disch := omega) only [↓ite_bind, ↓ck_bind, ↓lt_bind, ↓Option.bind_assoc, ↓bd_s, ↓lt_v, ↓ck_v, ↓reduceIte, Bool.false_eq_true, Bool.true_eq_false, bd_s, nj_add, nj_addl, nj_addr, nj_mull, nj_mulr, nj_subr, nj_pred, ix_nI, ix_lit, inb_t, inb_l, nj_le_t, nj_le_f, nj_lel_t, nj_lel_f, nj_ler_t, nj_ler_f, nj_lt_t, nj_lt_f, nj_ltl_t, nj_ltl_f, nj_ltr_t, nj_ltr_f, nj_eq_t, nj_eq_f, nj_eqr_t, nj_eqr_f, nj_m1, nj_m2]
  | succ k ih =>
    intro i f s hi hf h81 h80
    obtain ⟨f, rfl⟩ : ∃ m, f = m + 1 := ⟨f - 1, by omega⟩
    obtain ⟨z, a1, a2, a3, a4, a5, a6⟩ := ih (i + 1) f (si (si s 14 i (gi s 54 (p + i))) 0 80 (nI (p + i + 1))) (by omega) (by omega) (by rw [gi_dif (by decide), gi_ne (by decide)]; exact h81) (gi_same _ _ _ _)
    refine ⟨z, ?_, a2, fun j h1 h2 => ?_, fun j hj => ?_, fun j hj => ?_, ((Fr.si (by decide)).trans (Fr.si (by decide))).trans a6⟩
    · rw [fX12_carryRow_14_L2]
      simp (disch := omega) only [↓ite_bind, ↓ck_bind, ↓lt_bind, ↓Option.bind_assoc, ↓bd_s, ↓lt_v, ↓ck_v, ↓reduceIte, Bool.false_eq_true, Bool.true_eq_false, bd_s, nj_add, nj_addl, nj_addr, nj_mull, nj_mulr, nj_subr, nj_pred, ix_nI, ix_lit, inb_t, inb_l, nj_le_t, nj_le_f, nj_lel_t, nj_lel_f, nj_ler_t, nj_ler_f, nj_lt_t, nj_lt_f, nj_ltl_t, nj_ltl_f, nj_ltr_t, nj_ltr_f, nj_eq_t, nj_eq_f, nj_eqr_t, nj_eqr_f, nj_m1, nj_m2, h81, i10, h80, gi_si, gi_sl, gl_si, gl_sl, gi_sAr, gl_sAr, mr_si, mr_sl, mr_sm, gi_sm, gl_sm, mr_sAr, Nat.reduceEqDiff]
      exact a1
    · by_cases e : j = i
      · rw [e, a4 _ (by omega), gi_ne (by decide), gi_same]
      · rw [a3 j (by omega) h2, gi_ne (by decide), gi_ne (by decide)]
    · rw [a4 j (by omega), gi_ne (by decide), gi_dif (by omega)]
    · rw [a5 j hj, gi_dif hj, gi_ne (by decide)]
theorem cl14 {p : Nat} {s : ST} (hp : p + 10 ≤ 6000) (h81 : gi s 0 81 = 1) (h80 : gi s 0 80 = nI p) : ∃ z, fX12_carryRow_14 s = some z ∧ gi z 0 80 = nI (p + 10) ∧ (∀ j, j < 10 → gi z 14 j = gi s 54 (p + j)) ∧ (∀ j, 10 ≤ j → gi z 14 j = gi s 14 j) ∧ (∀ j, j ≠ 80 → gi z 0 j = gi s 0 j) ∧ Fr [0, 14] s z := by
  obtain ⟨z, a1, a2, a3, a4, a5, a6⟩ := cl14L hp 10 0 FUEL s (by omega) (by rw [FUEL_eq]; omega) h81 h80
  refine ⟨z, ?_, a2, fun j hj => a3 j (by omega) hj, fun j hj => a4 j (by omega), a5, a6⟩
  unfold fX12_carryRow_14
  rw [show (0 : Int32) = nI 0 from rfl, a1]
  exact id (Eq.refl _)
theorem cs15L {p : Nat} (hp : p + 10 ≤ 6000) : ∀ (k i f : Nat) (s : ST), i + k = 10 → k < f → gi s 0 81 = 0 → gi s 0 80 = nI (p + i) →
    ∃ z, fX12_carryRow_15_L2 f (nI i) s = some (nI 10, z) ∧ gi z 0 80 = nI (p + 10) ∧ (∀ j, i ≤ j → j < 10 → gi z 54 (p + j) = gi s 15 j) ∧ (∀ j, j < p + i ∨ p + 10 ≤ j → gi z 54 j = gi s 54 j) ∧ (∀ j, j ≠ 80 → gi z 0 j = gi s 0 j) ∧ Fr [0, 54] s z := by
  intro k
  induction k with
  | zero =>
    intro i f s hi hf h81 h80
    obtain ⟨f, rfl⟩ : ∃ m, f = m + 1 := ⟨f - 1, by omega⟩
    obtain rfl : i = 10 := by omega
    refine ⟨s, ?_, h80, fun j h1 h2 => absurd h1 (by omega), fun _ _ => rfl, fun _ _ => rfl, Fr.rfl⟩
    rw [fX12_carryRow_15_L2]
    simp (disch := omega) only [↓ite_bind, ↓ck_bind, ↓lt_bind, ↓Option.bind_assoc, ↓bd_s, ↓lt_v, ↓ck_v, ↓reduceIte, Bool.false_eq_true, Bool.true_eq_false, bd_s, nj_add, nj_addl, nj_addr, nj_mull, nj_mulr, nj_subr, nj_pred, ix_nI, ix_lit, inb_t, inb_l, nj_le_t, nj_le_f, nj_lel_t, nj_lel_f, nj_ler_t, nj_ler_f, nj_lt_t, nj_lt_f, nj_ltl_t, nj_ltl_f, nj_ltr_t, nj_ltr_f, nj_eq_t, nj_eq_f, nj_eqr_t, nj_eqr_f, nj_m1, nj_m2]
  | succ k ih =>
    intro i f s hi hf h81 h80
    obtain ⟨f, rfl⟩ : ∃ m, f = m + 1 := ⟨f - 1, by omega⟩
    obtain ⟨z, a1, a2, a3, a4, a5, a6⟩ := ih (i + 1) f (si (si s 54 (p + i) (gi s 15 i)) 0 80 (nI (p + i + 1))) (by omega) (by omega) (by rw [gi_dif (by decide), gi_ne (by decide)]; exact h81) (gi_same _ _ _ _)
    refine ⟨z, ?_, a2, fun j h1 h2 => ?_, fun j hj => ?_, fun j hj => ?_, ((Fr.si (by decide)).trans (Fr.si (by decide))).trans a6⟩
    · rw [fX12_carryRow_15_L2]
      simp (disch := omega) only [↓ite_bind, ↓ck_bind, ↓lt_bind, ↓Option.bind_assoc, ↓bd_s, ↓lt_v, ↓ck_v, ↓reduceIte, Bool.false_eq_true, Bool.true_eq_false, bd_s, nj_add, nj_addl, nj_addr, nj_mull, nj_mulr, nj_subr, nj_pred, ix_nI, ix_lit, inb_t, inb_l, nj_le_t, nj_le_f, nj_lel_t, nj_lel_f, nj_ler_t, nj_ler_f, nj_lt_t, nj_lt_f, nj_ltl_t, nj_ltl_f, nj_ltr_t, nj_ltr_f, nj_eq_t, nj_eq_f, nj_eqr_t, nj_eqr_f, nj_m1, nj_m2, h81, h80, gi_si, gi_sl, gl_si, gl_sl, gi_sAr, gl_sAr, mr_si, mr_sl, mr_sm, gi_sm, gl_sm, mr_sAr, Nat.reduceEqDiff]
      exact a1
    · by_cases e : j = i
      · rw [e, a4 _ (by omega), gi_ne (by decide), gi_same]
      · rw [a3 j (by omega) h2, gi_ne (by decide), gi_ne (by decide)]
    · rw [a4 j (by omega), gi_ne (by decide), gi_dif (by omega)]
    · rw [a5 j hj, gi_dif hj, gi_ne (by decide)]
theorem cs15 {p : Nat} {s : ST} (hp : p + 10 ≤ 6000) (h81 : gi s 0 81 = 0) (h80 : gi s 0 80 = nI p) : ∃ z, fX12_carryRow_15 s = some z ∧ gi z 0 80 = nI (p + 10) ∧ (∀ j, j < 10 → gi z 54 (p + j) = gi s 15 j) ∧ (∀ j, j < p ∨ p + 10 ≤ j → gi z 54 j = gi s 54 j) ∧ (∀ j, j ≠ 80 → gi z 0 j = gi s 0 j) ∧ Fr [0, 54] s z := by
  obtain ⟨z, a1, a2, a3, a4, a5, a6⟩ := cs15L hp 10 0 FUEL s (by omega) (by rw [FUEL_eq]; omega) h81 h80
  refine ⟨z, ?_, a2, fun j hj => a3 j (by omega) hj, fun j hj => a4 j (by omega), a5, a6⟩
  unfold fX12_carryRow_15
  rw [show (0 : Int32) = nI 0 from rfl, a1]
  exact id (Eq.refl _)
theorem cl15L {p : Nat} (hp : p + 10 ≤ 6000) : ∀ (k i f : Nat) (s : ST), i + k = 10 → k < f → gi s 0 81 = 1 → gi s 0 80 = nI (p + i) →
    ∃ z, fX12_carryRow_15_L2 f (nI i) s = some (nI 10, z) ∧ gi z 0 80 = nI (p + 10) ∧ (∀ j, i ≤ j → j < 10 → gi z 15 j = gi s 54 (p + j)) ∧ (∀ j, j < i ∨ 10 ≤ j → gi z 15 j = gi s 15 j) ∧ (∀ j, j ≠ 80 → gi z 0 j = gi s 0 j) ∧ Fr [0, 15] s z := by
  intro k
  induction k with
  | zero =>
    intro i f s hi hf h81 h80
    obtain ⟨f, rfl⟩ : ∃ m, f = m + 1 := ⟨f - 1, by omega⟩
    obtain rfl : i = 10 := by omega
    refine ⟨s, ?_, h80, fun j h1 h2 => absurd h1 (by omega), fun _ _ => rfl, fun _ _ => rfl, Fr.rfl⟩
    rw [fX12_carryRow_15_L2]
    simp (disch := omega) only [↓ite_bind, ↓ck_bind, ↓lt_bind, ↓Option.bind_assoc, ↓bd_s, ↓lt_v, ↓ck_v, ↓reduceIte, Bool.false_eq_true, Bool.true_eq_false, bd_s, nj_add, nj_addl, nj_addr, nj_mull, nj_mulr, nj_subr, nj_pred, ix_nI, ix_lit, inb_t, inb_l, nj_le_t, nj_le_f, nj_lel_t, nj_lel_f, nj_ler_t, nj_ler_f, nj_lt_t, nj_lt_f, nj_ltl_t, nj_ltl_f, nj_ltr_t, nj_ltr_f, nj_eq_t, nj_eq_f, nj_eqr_t, nj_eqr_f, nj_m1, nj_m2]
  | succ k ih =>
    intro i f s hi hf h81 h80
    obtain ⟨f, rfl⟩ : ∃ m, f = m + 1 := ⟨f - 1, by omega⟩
    obtain ⟨z, a1, a2, a3, a4, a5, a6⟩ := ih (i + 1) f (si (si s 15 i (gi s 54 (p + i))) 0 80 (nI (p + i + 1))) (by omega) (by omega) (by rw [gi_dif (by decide), gi_ne (by decide)]; exact h81) (gi_same _ _ _ _)
    refine ⟨z, ?_, a2, fun j h1 h2 => ?_, fun j hj => ?_, fun j hj => ?_, ((Fr.si (by decide)).trans (Fr.si (by decide))).trans a6⟩
    · rw [fX12_carryRow_15_L2]
      simp (disch := omega) only [↓ite_bind, ↓ck_bind, ↓lt_bind, ↓Option.bind_assoc, ↓bd_s, ↓lt_v, ↓ck_v, ↓reduceIte, Bool.false_eq_true, Bool.true_eq_false, bd_s, nj_add, nj_addl, nj_addr, nj_mull, nj_mulr, nj_subr, nj_pred, ix_nI, ix_lit, inb_t, inb_l, nj_le_t, nj_le_f, nj_lel_t, nj_lel_f, nj_ler_t, nj_ler_f, nj_lt_t, nj_lt_f, nj_ltl_t, nj_ltl_f, nj_ltr_t, nj_ltr_f, nj_eq_t, nj_eq_f, nj_eqr_t, nj_eqr_f, nj_m1, nj_m2, h81, i10, h80, gi_si, gi_sl, gl_si, gl_sl, gi_sAr, gl_sAr, mr_si, mr_sl, mr_sm, gi_sm, gl_sm, mr_sAr, Nat.reduceEqDiff]
      exact a1
    · by_cases e : j = i
      · rw [e, a4 _ (by omega), gi_ne (by decide), gi_same]
      · rw [a3 j (by omega) h2, gi_ne (by decide), gi_ne (by decide)]
    · rw [a4 j (by omega), gi_ne (by decide), gi_dif (by omega)]
    · rw [a5 j hj, gi_dif hj, gi_ne (by decide)]
theorem cl15 {p : Nat} {s : ST} (hp : p + 10 ≤ 6000) (h81 : gi s 0 81 = 1) (h80 : gi s 0 80 = nI p) : ∃ z, fX12_carryRow_15 s = some z ∧ gi z 0 80 = nI (p + 10) ∧ (∀ j, j < 10 → gi z 15 j = gi s 54 (p + j)) ∧ (∀ j, 10 ≤ j → gi z 15 j = gi s 15 j) ∧ (∀ j, j ≠ 80 → gi z 0 j = gi s 0 j) ∧ Fr [0, 15] s z := by
  obtain ⟨z, a1, a2, a3, a4, a5, a6⟩ := cl15L hp 10 0 FUEL s (by omega) (by rw [FUEL_eq]; omega) h81 h80
  refine ⟨z, ?_, a2, fun j hj => a3 j (by omega) hj, fun j hj => a4 j (by omega), a5, a6⟩
  unfold fX12_carryRow_15
  rw [show (0 : Int32) = nI 0 from rfl, a1]
  exact id (Eq.refl _)
theorem cs16L {p : Nat} (hp : p + 5 ≤ 6000) : ∀ (k i f : Nat) (s : ST), i + k = 5 → k < f → gi s 0 81 = 0 → gi s 0 80 = nI (p + i) →
    ∃ z, fX12_carryRow_16_L2 f (nI i) s = some (nI 5, z) ∧ gi z 0 80 = nI (p + 5) ∧ (∀ j, i ≤ j → j < 5 → gi z 54 (p + j) = gi s 16 j) ∧ (∀ j, j < p + i ∨ p + 5 ≤ j → gi z 54 j = gi s 54 j) ∧ (∀ j, j ≠ 80 → gi z 0 j = gi s 0 j) ∧ Fr [0, 54] s z := by
  intro k
  induction k with
  | zero =>
    intro i f s hi hf h81 h80
    obtain ⟨f, rfl⟩ : ∃ m, f = m + 1 := ⟨f - 1, by omega⟩
    obtain rfl : i = 5 := by omega
    refine ⟨s, ?_, h80, fun j h1 h2 => absurd h1 (by omega), fun _ _ => rfl, fun _ _ => rfl, Fr.rfl⟩
    rw [fX12_carryRow_16_L2]
    simp (disch := omega) only [↓ite_bind, ↓ck_bind, ↓lt_bind, ↓Option.bind_assoc, ↓bd_s, ↓lt_v, ↓ck_v, ↓reduceIte, Bool.false_eq_true, Bool.true_eq_false, bd_s, nj_add, nj_addl, nj_addr, nj_mull, nj_mulr, nj_subr, nj_pred, ix_nI, ix_lit, inb_t, inb_l, nj_le_t, nj_le_f, nj_lel_t, nj_lel_f, nj_ler_t, nj_ler_f, nj_lt_t, nj_lt_f, nj_ltl_t, nj_ltl_f, nj_ltr_t, nj_ltr_f, nj_eq_t, nj_eq_f, nj_eqr_t, nj_eqr_f, nj_m1, nj_m2]
  | succ k ih =>
    intro i f s hi hf h81 h80
    obtain ⟨f, rfl⟩ : ∃ m, f = m + 1 := ⟨f - 1, by omega⟩
    obtain ⟨z, a1, a2, a3, a4, a5, a6⟩ := ih (i + 1) f (si (si s 54 (p + i) (gi s 16 i)) 0 80 (nI (p + i + 1))) (by omega) (by omega) (by rw [gi_dif (by decide), gi_ne (by decide)]; exact h81) (gi_same _ _ _ _)
    refine ⟨z, ?_, a2, fun j h1 h2 => ?_, fun j hj => ?_, fun j hj => ?_, ((Fr.si (by decide)).trans (Fr.si (by decide))).trans a6⟩
    · rw [fX12_carryRow_16_L2]
      simp (disch := omega) only [↓ite_bind, ↓ck_bind, ↓lt_bind, ↓Option.bind_assoc, ↓bd_s, ↓lt_v, ↓ck_v, ↓reduceIte, Bool.false_eq_true, Bool.true_eq_false, bd_s, nj_add, nj_addl, nj_addr, nj_mull, nj_mulr, nj_subr, nj_pred, ix_nI, ix_lit, inb_t, inb_l, nj_le_t, nj_le_f, nj_lel_t, nj_lel_f, nj_ler_t, nj_ler_f, nj_lt_t, nj_lt_f, nj_ltl_t, nj_ltl_f, nj_ltr_t, nj_ltr_f, nj_eq_t, nj_eq_f, nj_eqr_t, nj_eqr_f, nj_m1, nj_m2, h81, h80, gi_si, gi_sl, gl_si, gl_sl, gi_sAr, gl_sAr, mr_si, mr_sl, mr_sm, gi_sm, gl_sm, mr_sAr, Nat.reduceEqDiff]
      exact a1
    · by_cases e : j = i
      · rw [e, a4 _ (by omega), gi_ne (by decide), gi_same]
      · rw [a3 j (by omega) h2, gi_ne (by decide), gi_ne (by decide)]
    · rw [a4 j (by omega), gi_ne (by decide), gi_dif (by omega)]
    · rw [a5 j hj, gi_dif hj, gi_ne (by decide)]
theorem cs16 {p : Nat} {s : ST} (hp : p + 5 ≤ 6000) (h81 : gi s 0 81 = 0) (h80 : gi s 0 80 = nI p) : ∃ z, fX12_carryRow_16 s = some z ∧ gi z 0 80 = nI (p + 5) ∧ (∀ j, j < 5 → gi z 54 (p + j) = gi s 16 j) ∧ (∀ j, j < p ∨ p + 5 ≤ j → gi z 54 j = gi s 54 j) ∧ (∀ j, j ≠ 80 → gi z 0 j = gi s 0 j) ∧ Fr [0, 54] s z := by
  obtain ⟨z, a1, a2, a3, a4, a5, a6⟩ := cs16L hp 5 0 FUEL s (by omega) (by rw [FUEL_eq]; omega) h81 h80
  refine ⟨z, ?_, a2, fun j hj => a3 j (by omega) hj, fun j hj => a4 j (by omega), a5, a6⟩
  unfold fX12_carryRow_16
  rw [show (0 : Int32) = nI 0 from rfl, a1]
  exact id (Eq.refl _)
theorem cl16L {p : Nat} (hp : p + 5 ≤ 6000) : ∀ (k i f : Nat) (s : ST), i + k = 5 → k < f → gi s 0 81 = 1 → gi s 0 80 = nI (p + i) →
    ∃ z, fX12_carryRow_16_L2 f (nI i) s = some (nI 5, z) ∧ gi z 0 80 = nI (p + 5) ∧ (∀ j, i ≤ j → j < 5 → gi z 16 j = gi s 54 (p + j)) ∧ (∀ j, j < i ∨ 5 ≤ j → gi z 16 j = gi s 16 j) ∧ (∀ j, j ≠ 80 → gi z 0 j = gi s 0 j) ∧ Fr [0, 16] s z := by
  intro k
  induction k with
  | zero =>
    intro i f s hi hf h81 h80
    obtain ⟨f, rfl⟩ : ∃ m, f = m + 1 := ⟨f - 1, by omega⟩
    obtain rfl : i = 5 := by omega
    refine ⟨s, ?_, h80, fun j h1 h2 => absurd h1 (by omega), fun _ _ => rfl, fun _ _ => rfl, Fr.rfl⟩
    rw [fX12_carryRow_16_L2]
    simp (disch := omega) only [↓ite_bind, ↓ck_bind, ↓lt_bind, ↓Option.bind_assoc, ↓bd_s, ↓lt_v, ↓ck_v, ↓reduceIte, Bool.false_eq_true, Bool.true_eq_false, bd_s, nj_add, nj_addl, nj_addr, nj_mull, nj_mulr, nj_subr, nj_pred, ix_nI, ix_lit, inb_t, inb_l, nj_le_t, nj_le_f, nj_lel_t, nj_lel_f, nj_ler_t, nj_ler_f, nj_lt_t, nj_lt_f, nj_ltl_t, nj_ltl_f, nj_ltr_t, nj_ltr_f, nj_eq_t, nj_eq_f, nj_eqr_t, nj_eqr_f, nj_m1, nj_m2]
  | succ k ih =>
    intro i f s hi hf h81 h80
    obtain ⟨f, rfl⟩ : ∃ m, f = m + 1 := ⟨f - 1, by omega⟩
    obtain ⟨z, a1, a2, a3, a4, a5, a6⟩ := ih (i + 1) f (si (si s 16 i (gi s 54 (p + i))) 0 80 (nI (p + i + 1))) (by omega) (by omega) (by rw [gi_dif (by decide), gi_ne (by decide)]; exact h81) (gi_same _ _ _ _)
    refine ⟨z, ?_, a2, fun j h1 h2 => ?_, fun j hj => ?_, fun j hj => ?_, ((Fr.si (by decide)).trans (Fr.si (by decide))).trans a6⟩
    · rw [fX12_carryRow_16_L2]
      simp (disch := omega) only [↓ite_bind, ↓ck_bind, ↓lt_bind, ↓Option.bind_assoc, ↓bd_s, ↓lt_v, ↓ck_v, ↓reduceIte, Bool.false_eq_true, Bool.true_eq_false, bd_s, nj_add, nj_addl, nj_addr, nj_mull, nj_mulr, nj_subr, nj_pred, ix_nI, ix_lit, inb_t, inb_l, nj_le_t, nj_le_f, nj_lel_t, nj_lel_f, nj_ler_t, nj_ler_f, nj_lt_t, nj_lt_f, nj_ltl_t, nj_ltl_f, nj_ltr_t, nj_ltr_f, nj_eq_t, nj_eq_f, nj_eqr_t, nj_eqr_f, nj_m1, nj_m2, h81, i10, h80, gi_si, gi_sl, gl_si, gl_sl, gi_sAr, gl_sAr, mr_si, mr_sl, mr_sm, gi_sm, gl_sm, mr_sAr, Nat.reduceEqDiff]
      exact a1
    · by_cases e : j = i
      · rw [e, a4 _ (by omega), gi_ne (by decide), gi_same]
      · rw [a3 j (by omega) h2, gi_ne (by decide), gi_ne (by decide)]
    · rw [a4 j (by omega), gi_ne (by decide), gi_dif (by omega)]
    · rw [a5 j hj, gi_dif hj, gi_ne (by decide)]
theorem cl16 {p : Nat} {s : ST} (hp : p + 5 ≤ 6000) (h81 : gi s 0 81 = 1) (h80 : gi s 0 80 = nI p) : ∃ z, fX12_carryRow_16 s = some z ∧ gi z 0 80 = nI (p + 5) ∧ (∀ j, j < 5 → gi z 16 j = gi s 54 (p + j)) ∧ (∀ j, 5 ≤ j → gi z 16 j = gi s 16 j) ∧ (∀ j, j ≠ 80 → gi z 0 j = gi s 0 j) ∧ Fr [0, 16] s z := by
  obtain ⟨z, a1, a2, a3, a4, a5, a6⟩ := cl16L hp 5 0 FUEL s (by omega) (by rw [FUEL_eq]; omega) h81 h80
  refine ⟨z, ?_, a2, fun j hj => a3 j (by omega) hj, fun j hj => a4 j (by omega), a5, a6⟩
  unfold fX12_carryRow_16
  rw [show (0 : Int32) = nI 0 from rfl, a1]
  exact id (Eq.refl _)
theorem cs17L {p : Nat} (hp : p + 8 ≤ 6000) : ∀ (k i f : Nat) (s : ST), i + k = 8 → k < f → gi s 0 81 = 0 → gi s 0 80 = nI (p + i) →
    ∃ z, fX12_carryRow_17_L2 f (nI i) s = some (nI 8, z) ∧ gi z 0 80 = nI (p + 8) ∧ (∀ j, i ≤ j → j < 8 → gi z 54 (p + j) = gi s 17 j) ∧ (∀ j, j < p + i ∨ p + 8 ≤ j → gi z 54 j = gi s 54 j) ∧ (∀ j, j ≠ 80 → gi z 0 j = gi s 0 j) ∧ Fr [0, 54] s z := by
  intro k
  induction k with
  | zero =>
    intro i f s hi hf h81 h80
    obtain ⟨f, rfl⟩ : ∃ m, f = m + 1 := ⟨f - 1, by omega⟩
    obtain rfl : i = 8 := by omega
    refine ⟨s, ?_, h80, fun j h1 h2 => absurd h1 (by omega), fun _ _ => rfl, fun _ _ => rfl, Fr.rfl⟩
    rw [fX12_carryRow_17_L2]
    simp (disch := omega) only [↓ite_bind, ↓ck_bind, ↓lt_bind, ↓Option.bind_assoc, ↓bd_s, ↓lt_v, ↓ck_v, ↓reduceIte, Bool.false_eq_true, Bool.true_eq_false, bd_s, nj_add, nj_addl, nj_addr, nj_mull, nj_mulr, nj_subr, nj_pred, ix_nI, ix_lit, inb_t, inb_l, nj_le_t, nj_le_f, nj_lel_t, nj_lel_f, nj_ler_t, nj_ler_f, nj_lt_t, nj_lt_f, nj_ltl_t, nj_ltl_f, nj_ltr_t, nj_ltr_f, nj_eq_t, nj_eq_f, nj_eqr_t, nj_eqr_f, nj_m1, nj_m2]
  | succ k ih =>
    intro i f s hi hf h81 h80
    obtain ⟨f, rfl⟩ : ∃ m, f = m + 1 := ⟨f - 1, by omega⟩
    obtain ⟨z, a1, a2, a3, a4, a5, a6⟩ := ih (i + 1) f (si (si s 54 (p + i) (gi s 17 i)) 0 80 (nI (p + i + 1))) (by omega) (by omega) (by rw [gi_dif (by decide), gi_ne (by decide)]; exact h81) (gi_same _ _ _ _)
    refine ⟨z, ?_, a2, fun j h1 h2 => ?_, fun j hj => ?_, fun j hj => ?_, ((Fr.si (by decide)).trans (Fr.si (by decide))).trans a6⟩
    · rw [fX12_carryRow_17_L2]
      simp (disch := omega) only [↓ite_bind, ↓ck_bind, ↓lt_bind, ↓Option.bind_assoc, ↓bd_s, ↓lt_v, ↓ck_v, ↓reduceIte, Bool.false_eq_true, Bool.true_eq_false, bd_s, nj_add, nj_addl, nj_addr, nj_mull, nj_mulr, nj_subr, nj_pred, ix_nI, ix_lit, inb_t, inb_l, nj_le_t, nj_le_f, nj_lel_t, nj_lel_f, nj_ler_t, nj_ler_f, nj_lt_t, nj_lt_f, nj_ltl_t, nj_ltl_f, nj_ltr_t, nj_ltr_f, nj_eq_t, nj_eq_f, nj_eqr_t, nj_eqr_f, nj_m1, nj_m2, h81, h80, gi_si, gi_sl, gl_si, gl_sl, gi_sAr, gl_sAr, mr_si, mr_sl, mr_sm, gi_sm, gl_sm, mr_sAr, Nat.reduceEqDiff]
      exact a1
    · by_cases e : j = i
      · rw [e, a4 _ (by omega), gi_ne (by decide), gi_same]
      · rw [a3 j (by omega) h2, gi_ne (by decide), gi_ne (by decide)]
    · rw [a4 j (by omega), gi_ne (by decide), gi_dif (by omega)]
    · rw [a5 j hj, gi_dif hj, gi_ne (by decide)]
theorem cs17 {p : Nat} {s : ST} (hp : p + 8 ≤ 6000) (h81 : gi s 0 81 = 0) (h80 : gi s 0 80 = nI p) : ∃ z, fX12_carryRow_17 s = some z ∧ gi z 0 80 = nI (p + 8) ∧ (∀ j, j < 8 → gi z 54 (p + j) = gi s 17 j) ∧ (∀ j, j < p ∨ p + 8 ≤ j → gi z 54 j = gi s 54 j) ∧ (∀ j, j ≠ 80 → gi z 0 j = gi s 0 j) ∧ Fr [0, 54] s z := by
  obtain ⟨z, a1, a2, a3, a4, a5, a6⟩ := cs17L hp 8 0 FUEL s (by omega) (by rw [FUEL_eq]; omega) h81 h80
  refine ⟨z, ?_, a2, fun j hj => a3 j (by omega) hj, fun j hj => a4 j (by omega), a5, a6⟩
  unfold fX12_carryRow_17
  rw [show (0 : Int32) = nI 0 from rfl, a1]
  exact id (Eq.refl _)
theorem cl17L {p : Nat} (hp : p + 8 ≤ 6000) : ∀ (k i f : Nat) (s : ST), i + k = 8 → k < f → gi s 0 81 = 1 → gi s 0 80 = nI (p + i) →
    ∃ z, fX12_carryRow_17_L2 f (nI i) s = some (nI 8, z) ∧ gi z 0 80 = nI (p + 8) ∧ (∀ j, i ≤ j → j < 8 → gi z 17 j = gi s 54 (p + j)) ∧ (∀ j, j < i ∨ 8 ≤ j → gi z 17 j = gi s 17 j) ∧ (∀ j, j ≠ 80 → gi z 0 j = gi s 0 j) ∧ Fr [0, 17] s z := by
  intro k
  induction k with
  | zero =>
    intro i f s hi hf h81 h80
    obtain ⟨f, rfl⟩ : ∃ m, f = m + 1 := ⟨f - 1, by omega⟩
    obtain rfl : i = 8 := by omega
    refine ⟨s, ?_, h80, fun j h1 h2 => absurd h1 (by omega), fun _ _ => rfl, fun _ _ => rfl, Fr.rfl⟩
    rw [fX12_carryRow_17_L2]
    simp (disch := omega) only [↓ite_bind, ↓ck_bind, ↓lt_bind, ↓Option.bind_assoc, ↓bd_s, ↓lt_v, ↓ck_v, ↓reduceIte, Bool.false_eq_true, Bool.true_eq_false, bd_s, nj_add, nj_addl, nj_addr, nj_mull, nj_mulr, nj_subr, nj_pred, ix_nI, ix_lit, inb_t, inb_l, nj_le_t, nj_le_f, nj_lel_t, nj_lel_f, nj_ler_t, nj_ler_f, nj_lt_t, nj_lt_f, nj_ltl_t, nj_ltl_f, nj_ltr_t, nj_ltr_f, nj_eq_t, nj_eq_f, nj_eqr_t, nj_eqr_f, nj_m1, nj_m2]
  | succ k ih =>
    intro i f s hi hf h81 h80
    obtain ⟨f, rfl⟩ : ∃ m, f = m + 1 := ⟨f - 1, by omega⟩
    obtain ⟨z, a1, a2, a3, a4, a5, a6⟩ := ih (i + 1) f (si (si s 17 i (gi s 54 (p + i))) 0 80 (nI (p + i + 1))) (by omega) (by omega) (by rw [gi_dif (by decide), gi_ne (by decide)]; exact h81) (gi_same _ _ _ _)
    refine ⟨z, ?_, a2, fun j h1 h2 => ?_, fun j hj => ?_, fun j hj => ?_, ((Fr.si (by decide)).trans (Fr.si (by decide))).trans a6⟩
    · rw [fX12_carryRow_17_L2]
      simp (disch := omega) only [↓ite_bind, ↓ck_bind, ↓lt_bind, ↓Option.bind_assoc, ↓bd_s, ↓lt_v, ↓ck_v, ↓reduceIte, Bool.false_eq_true, Bool.true_eq_false, bd_s, nj_add, nj_addl, nj_addr, nj_mull, nj_mulr, nj_subr, nj_pred, ix_nI, ix_lit, inb_t, inb_l, nj_le_t, nj_le_f, nj_lel_t, nj_lel_f, nj_ler_t, nj_ler_f, nj_lt_t, nj_lt_f, nj_ltl_t, nj_ltl_f, nj_ltr_t, nj_ltr_f, nj_eq_t, nj_eq_f, nj_eqr_t, nj_eqr_f, nj_m1, nj_m2, h81, i10, h80, gi_si, gi_sl, gl_si, gl_sl, gi_sAr, gl_sAr, mr_si, mr_sl, mr_sm, gi_sm, gl_sm, mr_sAr, Nat.reduceEqDiff]
      exact a1
    · by_cases e : j = i
      · rw [e, a4 _ (by omega), gi_ne (by decide), gi_same]
      · rw [a3 j (by omega) h2, gi_ne (by decide), gi_ne (by decide)]
    · rw [a4 j (by omega), gi_ne (by decide), gi_dif (by omega)]
    · rw [a5 j hj, gi_dif hj, gi_ne (by decide)]
theorem cl17 {p : Nat} {s : ST} (hp : p + 8 ≤ 6000) (h81 : gi s 0 81 = 1) (h80 : gi s 0 80 = nI p) : ∃ z, fX12_carryRow_17 s = some z ∧ gi z 0 80 = nI (p + 8) ∧ (∀ j, j < 8 → gi z 17 j = gi s 54 (p + j)) ∧ (∀ j, 8 ≤ j → gi z 17 j = gi s 17 j) ∧ (∀ j, j ≠ 80 → gi z 0 j = gi s 0 j) ∧ Fr [0, 17] s z := by
  obtain ⟨z, a1, a2, a3, a4, a5, a6⟩ := cl17L hp 8 0 FUEL s (by omega) (by rw [FUEL_eq]; omega) h81 h80
  refine ⟨z, ?_, a2, fun j hj => a3 j (by omega) hj, fun j hj => a4 j (by omega), a5, a6⟩
  unfold fX12_carryRow_17
  rw [show (0 : Int32) = nI 0 from rfl, a1]
  exact id (Eq.refl _)
theorem cs18L {p : Nat} (hp : p + 1 ≤ 6000) : ∀ (k i f : Nat) (s : ST), i + k = 1 → k < f → gi s 0 81 = 0 → gi s 0 80 = nI (p + i) →
    ∃ z, fX12_carryRow_18_L2 f (nI i) s = some (nI 1, z) ∧ gi z 0 80 = nI (p + 1) ∧ (∀ j, i ≤ j → j < 1 → gi z 54 (p + j) = gi s 18 j) ∧ (∀ j, j < p + i ∨ p + 1 ≤ j → gi z 54 j = gi s 54 j) ∧ (∀ j, j ≠ 80 → gi z 0 j = gi s 0 j) ∧ Fr [0, 54] s z := by
  intro k
  induction k with
  | zero =>
    intro i f s hi hf h81 h80
    obtain ⟨f, rfl⟩ : ∃ m, f = m + 1 := ⟨f - 1, by omega⟩
    obtain rfl : i = 1 := by omega
    refine ⟨s, ?_, h80, fun j h1 h2 => absurd h1 (by omega), fun _ _ => rfl, fun _ _ => rfl, Fr.rfl⟩
    rw [fX12_carryRow_18_L2]
    simp (disch := omega) only [↓ite_bind, ↓ck_bind, ↓lt_bind, ↓Option.bind_assoc, ↓bd_s, ↓lt_v, ↓ck_v, ↓reduceIte, Bool.false_eq_true, Bool.true_eq_false, bd_s, nj_add, nj_addl, nj_addr, nj_mull, nj_mulr, nj_subr, nj_pred, ix_nI, ix_lit, inb_t, inb_l, nj_le_t, nj_le_f, nj_lel_t, nj_lel_f, nj_ler_t, nj_ler_f, nj_lt_t, nj_lt_f, nj_ltl_t, nj_ltl_f, nj_ltr_t, nj_ltr_f, nj_eq_t, nj_eq_f, nj_eqr_t, nj_eqr_f, nj_m1, nj_m2]
  | succ k ih =>
    intro i f s hi hf h81 h80
    obtain ⟨f, rfl⟩ : ∃ m, f = m + 1 := ⟨f - 1, by omega⟩
    obtain ⟨z, a1, a2, a3, a4, a5, a6⟩ := ih (i + 1) f (si (si s 54 (p + i) (gi s 18 i)) 0 80 (nI (p + i + 1))) (by omega) (by omega) (by rw [gi_dif (by decide), gi_ne (by decide)]; exact h81) (gi_same _ _ _ _)
    refine ⟨z, ?_, a2, fun j h1 h2 => ?_, fun j hj => ?_, fun j hj => ?_, ((Fr.si (by decide)).trans (Fr.si (by decide))).trans a6⟩
    · rw [fX12_carryRow_18_L2]
      simp (disch := omega) only [↓ite_bind, ↓ck_bind, ↓lt_bind, ↓Option.bind_assoc, ↓bd_s, ↓lt_v, ↓ck_v, ↓reduceIte, Bool.false_eq_true, Bool.true_eq_false, bd_s, nj_add, nj_addl, nj_addr, nj_mull, nj_mulr, nj_subr, nj_pred, ix_nI, ix_lit, inb_t, inb_l, nj_le_t, nj_le_f, nj_lel_t, nj_lel_f, nj_ler_t, nj_ler_f, nj_lt_t, nj_lt_f, nj_ltl_t, nj_ltl_f, nj_ltr_t, nj_ltr_f, nj_eq_t, nj_eq_f, nj_eqr_t, nj_eqr_f, nj_m1, nj_m2, h81, h80, gi_si, gi_sl, gl_si, gl_sl, gi_sAr, gl_sAr, mr_si, mr_sl, mr_sm, gi_sm, gl_sm, mr_sAr, Nat.reduceEqDiff]
      exact a1
    · by_cases e : j = i
      · rw [e, a4 _ (by omega), gi_ne (by decide), gi_same]
      · rw [a3 j (by omega) h2, gi_ne (by decide), gi_ne (by decide)]
    · rw [a4 j (by omega), gi_ne (by decide), gi_dif (by omega)]
    · rw [a5 j hj, gi_dif hj, gi_ne (by decide)]
theorem cs18 {p : Nat} {s : ST} (hp : p + 1 ≤ 6000) (h81 : gi s 0 81 = 0) (h80 : gi s 0 80 = nI p) : ∃ z, fX12_carryRow_18 s = some z ∧ gi z 0 80 = nI (p + 1) ∧ (∀ j, j < 1 → gi z 54 (p + j) = gi s 18 j) ∧ (∀ j, j < p ∨ p + 1 ≤ j → gi z 54 j = gi s 54 j) ∧ (∀ j, j ≠ 80 → gi z 0 j = gi s 0 j) ∧ Fr [0, 54] s z := by
  obtain ⟨z, a1, a2, a3, a4, a5, a6⟩ := cs18L hp 1 0 FUEL s (by omega) (by rw [FUEL_eq]; omega) h81 h80
  refine ⟨z, ?_, a2, fun j hj => a3 j (by omega) hj, fun j hj => a4 j (by omega), a5, a6⟩
  unfold fX12_carryRow_18
  rw [show (0 : Int32) = nI 0 from rfl, a1]
  exact id (Eq.refl _)
theorem cl18L {p : Nat} (hp : p + 1 ≤ 6000) : ∀ (k i f : Nat) (s : ST), i + k = 1 → k < f → gi s 0 81 = 1 → gi s 0 80 = nI (p + i) →
    ∃ z, fX12_carryRow_18_L2 f (nI i) s = some (nI 1, z) ∧ gi z 0 80 = nI (p + 1) ∧ (∀ j, i ≤ j → j < 1 → gi z 18 j = gi s 54 (p + j)) ∧ (∀ j, j < i ∨ 1 ≤ j → gi z 18 j = gi s 18 j) ∧ (∀ j, j ≠ 80 → gi z 0 j = gi s 0 j) ∧ Fr [0, 18] s z := by
  intro k
  induction k with
  | zero =>
    intro i f s hi hf h81 h80
    obtain ⟨f, rfl⟩ : ∃ m, f = m + 1 := ⟨f - 1, by omega⟩
    obtain rfl : i = 1 := by omega
    refine ⟨s, ?_, h80, fun j h1 h2 => absurd h1 (by omega), fun _ _ => rfl, fun _ _ => rfl, Fr.rfl⟩
    rw [fX12_carryRow_18_L2]
    simp (disch := omega) only [↓ite_bind, ↓ck_bind, ↓lt_bind, ↓Option.bind_assoc, ↓bd_s, ↓lt_v, ↓ck_v, ↓reduceIte, Bool.false_eq_true, Bool.true_eq_false, bd_s, nj_add, nj_addl, nj_addr, nj_mull, nj_mulr, nj_subr, nj_pred, ix_nI, ix_lit, inb_t, inb_l, nj_le_t, nj_le_f, nj_lel_t, nj_lel_f, nj_ler_t, nj_ler_f, nj_lt_t, nj_lt_f, nj_ltl_t, nj_ltl_f, nj_ltr_t, nj_ltr_f, nj_eq_t, nj_eq_f, nj_eqr_t, nj_eqr_f, nj_m1, nj_m2]
  | succ k ih =>
    intro i f s hi hf h81 h80
    obtain ⟨f, rfl⟩ : ∃ m, f = m + 1 := ⟨f - 1, by omega⟩
    obtain ⟨z, a1, a2, a3, a4, a5, a6⟩ := ih (i + 1) f (si (si s 18 i (gi s 54 (p + i))) 0 80 (nI (p + i + 1))) (by omega) (by omega) (by rw [gi_dif (by decide), gi_ne (by decide)]; exact h81) (gi_same _ _ _ _)
    refine ⟨z, ?_, a2, fun j h1 h2 => ?_, fun j hj => ?_, fun j hj => ?_, ((Fr.si (by decide)).trans (Fr.si (by decide))).trans a6⟩
    · rw [fX12_carryRow_18_L2]
      simp (disch := omega) only [↓ite_bind, ↓ck_bind, ↓lt_bind, ↓Option.bind_assoc, ↓bd_s, ↓lt_v, ↓ck_v, ↓reduceIte, Bool.false_eq_true, Bool.true_eq_false, bd_s, nj_add, nj_addl, nj_addr, nj_mull, nj_mulr, nj_subr, nj_pred, ix_nI, ix_lit, inb_t, inb_l, nj_le_t, nj_le_f, nj_lel_t, nj_lel_f, nj_ler_t, nj_ler_f, nj_lt_t, nj_lt_f, nj_ltl_t, nj_ltl_f, nj_ltr_t, nj_ltr_f, nj_eq_t, nj_eq_f, nj_eqr_t, nj_eqr_f, nj_m1, nj_m2, h81, i10, h80, gi_si, gi_sl, gl_si, gl_sl, gi_sAr, gl_sAr, mr_si, mr_sl, mr_sm, gi_sm, gl_sm, mr_sAr, Nat.reduceEqDiff]
      exact a1
    · by_cases e : j = i
      · rw [e, a4 _ (by omega), gi_ne (by decide), gi_same]
      · rw [a3 j (by omega) h2, gi_ne (by decide), gi_ne (by decide)]
    · rw [a4 j (by omega), gi_ne (by decide), gi_dif (by omega)]
    · rw [a5 j hj, gi_dif hj, gi_ne (by decide)]
theorem cl18 {p : Nat} {s : ST} (hp : p + 1 ≤ 6000) (h81 : gi s 0 81 = 1) (h80 : gi s 0 80 = nI p) : ∃ z, fX12_carryRow_18 s = some z ∧ gi z 0 80 = nI (p + 1) ∧ (∀ j, j < 1 → gi z 18 j = gi s 54 (p + j)) ∧ (∀ j, 1 ≤ j → gi z 18 j = gi s 18 j) ∧ (∀ j, j ≠ 80 → gi z 0 j = gi s 0 j) ∧ Fr [0, 18] s z := by
  obtain ⟨z, a1, a2, a3, a4, a5, a6⟩ := cl18L hp 1 0 FUEL s (by omega) (by rw [FUEL_eq]; omega) h81 h80
  refine ⟨z, ?_, a2, fun j hj => a3 j (by omega) hj, fun j hj => a4 j (by omega), a5, a6⟩
  unfold fX12_carryRow_18
  rw [show (0 : Int32) = nI 0 from rfl, a1]
  exact id (Eq.refl _)
theorem cs46L {p : Nat} (hp : p + 920 ≤ 6000) : ∀ (k i f : Nat) (s : ST), i + k = 920 → k < f → gi s 0 81 = 0 → gi s 0 80 = nI (p + i) →
    ∃ z, fX12_carryRow_46_L2 f (nI i) s = some (nI 920, z) ∧ gi z 0 80 = nI (p + 920) ∧ (∀ j, i ≤ j → j < 920 → gi z 54 (p + j) = gi s 46 j) ∧ (∀ j, j < p + i ∨ p + 920 ≤ j → gi z 54 j = gi s 54 j) ∧ (∀ j, j ≠ 80 → gi z 0 j = gi s 0 j) ∧ Fr [0, 54] s z := by
  intro k
  induction k with
  | zero =>
    intro i f s hi hf h81 h80
    obtain ⟨f, rfl⟩ : ∃ m, f = m + 1 := ⟨f - 1, by omega⟩
    obtain rfl : i = 920 := by omega
    refine ⟨s, ?_, h80, fun j h1 h2 => absurd h1 (by omega), fun _ _ => rfl, fun _ _ => rfl, Fr.rfl⟩
    rw [fX12_carryRow_46_L2]
    simp (disch := omega) only [↓ite_bind, ↓ck_bind, ↓lt_bind, ↓Option.bind_assoc, ↓bd_s, ↓lt_v, ↓ck_v, ↓reduceIte, Bool.false_eq_true, Bool.true_eq_false, bd_s, nj_add, nj_addl, nj_addr, nj_mull, nj_mulr, nj_subr, nj_pred, ix_nI, ix_lit, inb_t, inb_l, nj_le_t, nj_le_f, nj_lel_t, nj_lel_f, nj_ler_t, nj_ler_f, nj_lt_t, nj_lt_f, nj_ltl_t, nj_ltl_f, nj_ltr_t, nj_ltr_f, nj_eq_t, nj_eq_f, nj_eqr_t, nj_eqr_f, nj_m1, nj_m2]
  | succ k ih =>
    intro i f s hi hf h81 h80
    obtain ⟨f, rfl⟩ : ∃ m, f = m + 1 := ⟨f - 1, by omega⟩
    obtain ⟨z, a1, a2, a3, a4, a5, a6⟩ := ih (i + 1) f (si (si s 54 (p + i) (gi s 46 i)) 0 80 (nI (p + i + 1))) (by omega) (by omega) (by rw [gi_dif (by decide), gi_ne (by decide)]; exact h81) (gi_same _ _ _ _)
    refine ⟨z, ?_, a2, fun j h1 h2 => ?_, fun j hj => ?_, fun j hj => ?_, ((Fr.si (by decide)).trans (Fr.si (by decide))).trans a6⟩
    · rw [fX12_carryRow_46_L2]
      simp (disch := omega) only [↓ite_bind, ↓ck_bind, ↓lt_bind, ↓Option.bind_assoc, ↓bd_s, ↓lt_v, ↓ck_v, ↓reduceIte, Bool.false_eq_true, Bool.true_eq_false, bd_s, nj_add, nj_addl, nj_addr, nj_mull, nj_mulr, nj_subr, nj_pred, ix_nI, ix_lit, inb_t, inb_l, nj_le_t, nj_le_f, nj_lel_t, nj_lel_f, nj_ler_t, nj_ler_f, nj_lt_t, nj_lt_f, nj_ltl_t, nj_ltl_f, nj_ltr_t, nj_ltr_f, nj_eq_t, nj_eq_f, nj_eqr_t, nj_eqr_f, nj_m1, nj_m2, h81, h80, gi_si, gi_sl, gl_si, gl_sl, gi_sAr, gl_sAr, mr_si, mr_sl, mr_sm, gi_sm, gl_sm, mr_sAr, Nat.reduceEqDiff]
      exact a1
    · by_cases e : j = i
      · rw [e, a4 _ (by omega), gi_ne (by decide), gi_same]
      · rw [a3 j (by omega) h2, gi_ne (by decide), gi_ne (by decide)]
    · rw [a4 j (by omega), gi_ne (by decide), gi_dif (by omega)]
    · rw [a5 j hj, gi_dif hj, gi_ne (by decide)]
theorem cs46 {p : Nat} {s : ST} (hp : p + 920 ≤ 6000) (h81 : gi s 0 81 = 0) (h80 : gi s 0 80 = nI p) : ∃ z, fX12_carryRow_46 s = some z ∧ gi z 0 80 = nI (p + 920) ∧ (∀ j, j < 920 → gi z 54 (p + j) = gi s 46 j) ∧ (∀ j, j < p ∨ p + 920 ≤ j → gi z 54 j = gi s 54 j) ∧ (∀ j, j ≠ 80 → gi z 0 j = gi s 0 j) ∧ Fr [0, 54] s z := by
  obtain ⟨z, a1, a2, a3, a4, a5, a6⟩ := cs46L hp 920 0 FUEL s (by omega) (by rw [FUEL_eq]; omega) h81 h80
  refine ⟨z, ?_, a2, fun j hj => a3 j (by omega) hj, fun j hj => a4 j (by omega), a5, a6⟩
  unfold fX12_carryRow_46
  rw [show (0 : Int32) = nI 0 from rfl, a1]
  exact id (Eq.refl _)
theorem cl46L {p : Nat} (hp : p + 920 ≤ 6000) : ∀ (k i f : Nat) (s : ST), i + k = 920 → k < f → gi s 0 81 = 1 → gi s 0 80 = nI (p + i) →
    ∃ z, fX12_carryRow_46_L2 f (nI i) s = some (nI 920, z) ∧ gi z 0 80 = nI (p + 920) ∧ (∀ j, i ≤ j → j < 920 → gi z 46 j = gi s 54 (p + j)) ∧ (∀ j, j < i ∨ 920 ≤ j → gi z 46 j = gi s 46 j) ∧ (∀ j, j ≠ 80 → gi z 0 j = gi s 0 j) ∧ Fr [0, 46] s z := by
  intro k
  induction k with
  | zero =>
    intro i f s hi hf h81 h80
    obtain ⟨f, rfl⟩ : ∃ m, f = m + 1 := ⟨f - 1, by omega⟩
    obtain rfl : i = 920 := by omega
    refine ⟨s, ?_, h80, fun j h1 h2 => absurd h1 (by omega), fun _ _ => rfl, fun _ _ => rfl, Fr.rfl⟩
    rw [fX12_carryRow_46_L2]
    simp (disch := omega) only [↓ite_bind, ↓ck_bind, ↓lt_bind, ↓Option.bind_assoc, ↓bd_s, ↓lt_v, ↓ck_v, ↓reduceIte, Bool.false_eq_true, Bool.true_eq_false, bd_s, nj_add, nj_addl, nj_addr, nj_mull, nj_mulr, nj_subr, nj_pred, ix_nI, ix_lit, inb_t, inb_l, nj_le_t, nj_le_f, nj_lel_t, nj_lel_f, nj_ler_t, nj_ler_f, nj_lt_t, nj_lt_f, nj_ltl_t, nj_ltl_f, nj_ltr_t, nj_ltr_f, nj_eq_t, nj_eq_f, nj_eqr_t, nj_eqr_f, nj_m1, nj_m2]
  | succ k ih =>
    intro i f s hi hf h81 h80
    obtain ⟨f, rfl⟩ : ∃ m, f = m + 1 := ⟨f - 1, by omega⟩
    obtain ⟨z, a1, a2, a3, a4, a5, a6⟩ := ih (i + 1) f (si (si s 46 i (gi s 54 (p + i))) 0 80 (nI (p + i + 1))) (by omega) (by omega) (by rw [gi_dif (by decide), gi_ne (by decide)]; exact h81) (gi_same _ _ _ _)
    refine ⟨z, ?_, a2, fun j h1 h2 => ?_, fun j hj => ?_, fun j hj => ?_, ((Fr.si (by decide)).trans (Fr.si (by decide))).trans a6⟩
    · rw [fX12_carryRow_46_L2]
      simp (disch := omega) only [↓ite_bind, ↓ck_bind, ↓lt_bind, ↓Option.bind_assoc, ↓bd_s, ↓lt_v, ↓ck_v, ↓reduceIte, Bool.false_eq_true, Bool.true_eq_false, bd_s, nj_add, nj_addl, nj_addr, nj_mull, nj_mulr, nj_subr, nj_pred, ix_nI, ix_lit, inb_t, inb_l, nj_le_t, nj_le_f, nj_lel_t, nj_lel_f, nj_ler_t, nj_ler_f, nj_lt_t, nj_lt_f, nj_ltl_t, nj_ltl_f, nj_ltr_t, nj_ltr_f, nj_eq_t, nj_eq_f, nj_eqr_t, nj_eqr_f, nj_m1, nj_m2, h81, i10, h80, gi_si, gi_sl, gl_si, gl_sl, gi_sAr, gl_sAr, mr_si, mr_sl, mr_sm, gi_sm, gl_sm, mr_sAr, Nat.reduceEqDiff]
      exact a1
    · by_cases e : j = i
      · rw [e, a4 _ (by omega), gi_ne (by decide), gi_same]
      · rw [a3 j (by omega) h2, gi_ne (by decide), gi_ne (by decide)]
    · rw [a4 j (by omega), gi_ne (by decide), gi_dif (by omega)]
    · rw [a5 j hj, gi_dif hj, gi_ne (by decide)]
theorem cl46 {p : Nat} {s : ST} (hp : p + 920 ≤ 6000) (h81 : gi s 0 81 = 1) (h80 : gi s 0 80 = nI p) : ∃ z, fX12_carryRow_46 s = some z ∧ gi z 0 80 = nI (p + 920) ∧ (∀ j, j < 920 → gi z 46 j = gi s 54 (p + j)) ∧ (∀ j, 920 ≤ j → gi z 46 j = gi s 46 j) ∧ (∀ j, j ≠ 80 → gi z 0 j = gi s 0 j) ∧ Fr [0, 46] s z := by
  obtain ⟨z, a1, a2, a3, a4, a5, a6⟩ := cl46L hp 920 0 FUEL s (by omega) (by rw [FUEL_eq]; omega) h81 h80
  refine ⟨z, ?_, a2, fun j hj => a3 j (by omega) hj, fun j hj => a4 j (by omega), a5, a6⟩
  unfold fX12_carryRow_46
  rw [show (0 : Int32) = nI 0 from rfl, a1]
  exact id (Eq.refl _)
