/-! HABITS: a course of 31 days with another habit -/
def stT (p : Option Nat) (u : ST) : ST := si (si (si (si (si (si (si (si (sAr (sm (sm u 0 (some 18)) 1 p) 41 (va_cpy (u.1 19) (u.1 41) 0 0 5)) 30 7 (gi u 18 1)) 30 8 (gi u 18 2)) 30 9 (-1)) 30 10 (-1)) 30 13 0) 30 15 0) 30 16 0) 30 17 0
theorem stT_o {p : Option Nat} {u : ST} {a : Nat} (h : a ≠ 30 ∧ a ≠ 41) (j : Nat) : gi (stT p u) a j = gi u a j := by
  unfold stT
  rw [gi_ne h.1, gi_ne h.1, gi_ne h.1, gi_ne h.1, gi_ne h.1, gi_ne h.1, gi_ne h.1, gi_ne h.1, gi_sAr, if_neg h.2, gi_sm, gi_sm]
theorem stT_41 {p : Option Nat} {u : ST} {j : Nat} (h : j < 5) : gi (stT p u) 41 j = gi u 19 j := by
  unfold stT va_cpy
  simp only [gi_si, Nat.reduceEqDiff, if_false]
  rw [gi_sAr, if_pos rfl, if_pos (by omega)]
  show u.1 19 (0 + (j - 0)) = u.1 19 j
  rw [show 0 + (j - 0) = j by omega]
theorem stT_30 {p : Option Nat} {u : ST} : gi (stT p u) 30 7 = gi u 18 1 ∧ gi (stT p u) 30 8 = gi u 18 2 ∧ gi (stT p u) 30 9 = -1 ∧ gi (stT p u) 30 10 = -1 ∧ gi (stT p u) 30 13 = 0 ∧ gi (stT p u) 30 15 = 0 ∧ gi (stT p u) 30 16 = 0 ∧ gi (stT p u) 30 17 = 0 := by
  unfold stT
  simp only [gi_sAr, gi_si, gi_sm, Nat.reduceEqDiff, if_true, if_false, and_self]
theorem stT_mr {p : Option Nat} {u : ST} : mr (stT p u) 0 = some 18 ∧ mr (stT p u) 1 = p := by
  unfold stT
  simp only [mr_sAr, mr_si, mr_sm, Nat.reduceEqDiff, if_true, if_false, and_self]
theorem start18_eq {t : PH} {u : ST} {p : Option Nat} (ho : okO t p = true) : fX0_start_18 p t u = some (stT p u) := by
  unfold fX0_start_18
  simp only [lt_v, ck_t ho, ck_t (show okO t (some 18) = true from decide_eq_true (by omega)), mr_si, mr_sAr, mr_sm, Nat.reduceEqDiff, if_true, if_false, decide_true, ck_t (rfl : true = true), ck_t (show cpB 0 0 5 5 5 = true by decide)]
  rfl
theorem bg10 {np : Nat} (hnp : np ≤ 5) : ∀ (m i f : Nat) (u : ST), i + m = np → m < f → gi u 18 7 = nI np → ∃ z, fX5_begin_31_18_41_L10 f (nI i) u = some (nI np, z) ∧ (∀ j, gi z 32 j = if i ≤ j ∧ j < np then gi u 20 j else if 5 + i ≤ j ∧ j < 5 + np then gi u 41 (j - 5) else gi u 32 j) ∧ Fr [32] u z := by
  intro m
  induction m with
  | zero =>
    intro i f u hi hf h7
    obtain ⟨f, rfl⟩ : ∃ m, f = m + 1 := ⟨f - 1, by omega⟩
    obtain rfl : i = np := by omega
    refine ⟨u, ?_, fun j => ?_, Fr.rfl⟩
    · rw [fX5_begin_31_18_41_L10, h7, if_pos (Int32.le_refl _)]
    · rw [if_neg (by omega), if_neg (by omega)]
  | succ m ih =>
    intro i f u hi hf h7
    obtain ⟨f, rfl⟩ : ∃ m, f = m + 1 := ⟨f - 1, by omega⟩
    obtain ⟨z, b1, b2, b3⟩ := ih (i + 1) f (si (si u 32 i (gi u 20 i)) 32 (5 + i) (gi u 41 i)) (by omega) (by omega) (by rw [gi_ne (by decide), gi_ne (by decide)]; exact h7)
    refine ⟨z, ?_, fun j => ?_, ((Fr.si (by decide)).trans (Fr.si (by decide))).trans b3⟩
    · rw [fX5_begin_31_18_41_L10]
      simp (disch := omega) only [↓ite_bind, ↓ck_bind, ↓lt_bind, ↓Option.bind_assoc, ↓bd_s, ↓lt_v, ↓ck_v, ↓reduceIte, Bool.false_eq_true, Bool.true_eq_false, nj_add, nj_addl, nj_addr, nj_mull, nj_mulr, nj_subr, nj_pred, ix_nI, ix_lit, inb_t, inb_l, nj_le_t, nj_le_f, nj_lel_t, nj_lel_f, nj_ler_t, nj_ler_f, nj_lt_t, nj_lt_f, nj_ltl_t, nj_ltl_f, nj_ltr_t, nj_ltr_f, nj_eq_t, nj_eq_f, nj_eqr_t, nj_eqr_f, nj_m1, nj_m2, Nat.zero_add, h7, gi_si, Nat.reduceEqDiff]
      exact b1
    · rw [b2, gi_ne (by decide), gi_ne (by decide), gi_ne (by decide), gi_ne (by decide)]
      by_cases e : j = i
      · rw [if_neg (by omega), if_neg (by omega), if_pos (by omega), e, gi_dif (by omega), gi_same]
      · by_cases e2 : j = 5 + i
        · rw [if_neg (by omega), if_neg (by omega), if_neg (by omega), if_pos (by omega), e2, gi_same, show 5 + i - 5 = i by omega]
        · rw [gi_dif e2, gi_dif e]
          by_cases e3 : i + 1 ≤ j ∧ j < np
          · rw [if_pos e3, if_pos (by omega)]
          · rw [if_neg e3, if_neg (show ¬ (i ≤ j ∧ j < np) by omega)]
            by_cases e4 : 5 + (i + 1) ≤ j ∧ j < 5 + np
            · rw [if_pos e4, if_pos (by omega)]
            · rw [if_neg e4, if_neg (by omega)]
theorem bg51 {nm : Nat} (hnm : nm ≤ 8) : ∀ (m i f : Nat) (u : ST), i + m = nm → m < f → gi u 18 8 = nI nm → ∃ z, fX5_begin_31_18_41_L51 f (nI i) u = some (nI nm, z) ∧ (∀ j, gi z 32 j = if 20 + i ≤ j ∧ j < 20 + nm then gi u 23 (j - 20) else gi u 32 j) ∧ Fr [32] u z := by
  intro m
  induction m with
  | zero =>
    intro i f u hi hf h7
    obtain ⟨f, rfl⟩ : ∃ m, f = m + 1 := ⟨f - 1, by omega⟩
    obtain rfl : i = nm := by omega
    refine ⟨u, ?_, fun j => ?_, Fr.rfl⟩
    · rw [fX5_begin_31_18_41_L51, h7, if_pos (Int32.le_refl _)]
    · rw [if_neg (by omega)]
  | succ m ih =>
    intro i f u hi hf h7
    obtain ⟨f, rfl⟩ : ∃ m, f = m + 1 := ⟨f - 1, by omega⟩
    obtain ⟨z, b1, b2, b3⟩ := ih (i + 1) f (si u 32 (20 + i) (gi u 23 i)) (by omega) (by omega) (by rw [gi_ne (by decide)]; exact h7)
    refine ⟨z, ?_, fun j => ?_, (Fr.si (by decide)).trans b3⟩
    · rw [fX5_begin_31_18_41_L51]
      simp (disch := omega) only [↓ite_bind, ↓ck_bind, ↓lt_bind, ↓Option.bind_assoc, ↓bd_s, ↓lt_v, ↓ck_v, ↓reduceIte, Bool.false_eq_true, Bool.true_eq_false, nj_add, nj_addl, nj_addr, nj_mull, nj_mulr, nj_subr, nj_pred, ix_nI, ix_lit, inb_t, inb_l, nj_le_t, nj_le_f, nj_lel_t, nj_lel_f, nj_ler_t, nj_ler_f, nj_lt_t, nj_lt_f, nj_ltl_t, nj_ltl_f, nj_ltr_t, nj_ltr_f, nj_eq_t, nj_eq_f, nj_eqr_t, nj_eqr_f, nj_m1, nj_m2, h7]
      exact b1
    · rw [b2, gi_ne (by decide)]
      by_cases e : j = 20 + i
      · rw [if_neg (by omega), if_pos (by omega), e, gi_same, show 20 + i - 20 = i by omega]
      · rw [gi_dif e]
        by_cases e3 : 20 + (i + 1) ≤ j ∧ j < 20 + nm
        · rw [if_pos e3, if_pos (by omega)]
        · rw [if_neg e3, if_neg (by omega)]
/-- day 0 of a course -/
theorem begC {u : ST} {np nm : Nat} (hnp : np ≤ 5) (hnm : nm ≤ 8) (h7 : gi u 18 7 = nI np) (h8 : gi u 18 8 = nI nm) : ∃ z, fX5_begin_31_18_41 u = some z ∧ Fr [32] u z ∧ (∀ q, q < np → gi z 32 q = gi u 20 q ∧ gi z 32 (5 + q) = gi u 41 q) ∧ (∀ m, m < nm → gi z 32 (20 + m) = gi u 23 m ∧ gi z 32 (28 + m) = 0 ∧ gi z 32 (36 + m) = 0) ∧ (∀ j, 10 ≤ j → j < 20 → gi z 32 j = 0) ∧ gi z 32 44 = gi u 18 6 ∧ gi z 32 45 = 0 := by
  obtain ⟨f1, a1, a2, a3⟩ := fill_32 0 u
  obtain ⟨z1, b1, b2, b3⟩ := bg10 hnp np 0 FUEL f1 (by omega) (by rw [FUEL_eq]; omega) (by rw [a3.gi (by decide)]; exact h7)
  obtain ⟨z2, c1, c2, c3⟩ := bg51 hnm nm 0 FUEL z1 (by omega) (by rw [FUEL_eq]; omega) (by rw [b3.gi (by decide), a3.gi (by decide)]; exact h8)
  have c1 : fX5_begin_31_18_41_L51 FUEL 0 z1 = some (nI nm, z2) := c1
  have b1 : fX5_begin_31_18_41_L10 FUEL 0 f1 = some (nI np, z1) := b1
  have hz : ∀ j, j < 46 → gi z2 32 j = if 20 + 0 ≤ j ∧ j < 20 + nm then gi u 23 (j - 20) else if 0 ≤ j ∧ j < np then gi u 20 j else if 5 + 0 ≤ j ∧ j < 5 + np then gi u 41 (j - 5) else 0 := fun j hj => by
    rw [c2, b3.gi (by decide), a3.gi (by decide), b2, a3.gi (by decide), a3.gi (by decide), a2, if_pos hj]
  refine ⟨si z2 32 44 (gi u 18 6), ?_, ((a3.trans b3).trans c3).trans (Fr.si (by decide)), fun q hq => ⟨?_, ?_⟩, fun m hm => ⟨?_, ?_, ?_⟩, fun j h1 h2 => ?_, gi_same _ _ _ _, ?_⟩
  · unfold fX5_begin_31_18_41
    rw [a1, bd_s, b1, bd_s, c1, bd_s, ck_t (by decide), lt_v, ix_lit (by decide), c3.gi (by decide), b3.gi (by decide), a3.gi (by decide)]
  · rw [gi_dif (by omega), hz _ (by omega), if_neg (by omega), if_pos (by omega)]
  · rw [gi_dif (by omega), hz _ (by omega), if_neg (by omega), if_neg (by omega), if_pos (by omega), show 5 + q - 5 = q by omega]
  · rw [gi_dif (by omega), hz _ (by omega), if_pos (by omega), show 20 + m - 20 = m by omega]
  · rw [gi_dif (by omega), hz _ (by omega), if_neg (by omega), if_neg (by omega), if_neg (by omega)]
  · rw [gi_dif (by omega), hz _ (by omega), if_neg (by omega), if_neg (by omega), if_neg (by omega)]
  · rw [gi_dif (by omega), hz _ (by omega), if_neg (by omega), if_neg (by omega), if_neg (by omega)]
  · rw [gi_dif (by omega), hz _ (by omega), if_neg (by omega), if_neg (by omega), if_neg (by omega)]
theorem cp16_3L : ∀ (m i f : Nat) (v : ST), i + m = 5 → m < f → ∃ z, fX12_copies_16_3_L2 f (nI i) v = some (nI 5, z) ∧ (∀ j, gi z 3 j = if i ≤ j ∧ j < 5 then gi v 16 j else gi v 3 j) ∧ Fr [3] v z := by
  intro m
  induction m with
  | zero =>
    intro i f v hi hf
    obtain ⟨f, rfl⟩ : ∃ m, f = m + 1 := ⟨f - 1, by omega⟩
    obtain rfl : i = 5 := by omega
    refine ⟨v, ?_, fun j => ?_, Fr.rfl⟩
    · rw [fX12_copies_16_3_L2, if_pos (by decide)]
    · rw [if_neg (by omega)]
  | succ m ih =>
    intro i f v hi hf
    obtain ⟨f, rfl⟩ : ∃ m, f = m + 1 := ⟨f - 1, by omega⟩
    obtain ⟨z, b1, b2, b3⟩ := ih (i + 1) f (si v 3 i (gi v 16 i)) (by omega) (by omega)
    refine ⟨z, ?_, fun j => ?_, (Fr.si (by decide)).trans b3⟩
    · rw [fX12_copies_16_3_L2]
      simp (disch := omega) only [↓ite_bind, ↓ck_bind, ↓lt_bind, ↓Option.bind_assoc, ↓bd_s, ↓lt_v, ↓ck_v, ↓reduceIte, Bool.false_eq_true, Bool.true_eq_false, nj_add, nj_addl, nj_addr, nj_mull, nj_mulr, nj_subr, nj_pred, ix_nI, ix_lit, inb_t, inb_l, nj_le_t, nj_le_f, nj_lel_t, nj_lel_f, nj_ler_t, nj_ler_f, nj_lt_t, nj_lt_f, nj_ltl_t, nj_ltl_f, nj_ltr_t, nj_ltr_f, nj_eq_t, nj_eq_f, nj_eqr_t, nj_eqr_f, nj_m1, nj_m2]
      exact b1
    · rw [b2, gi_ne (by decide)]
      by_cases e : j = i
      · rw [if_neg (by omega), if_pos (by omega), e, gi_same]
      · rw [gi_dif e]
        by_cases e2 : i + 1 ≤ j ∧ j < 5
        · rw [if_pos e2, if_pos (by omega)]
        · rw [if_neg e2, if_neg (by omega)]
theorem cp16_3 (v : ST) : ∃ z, fX12_copies_16_3 v = some z ∧ (∀ j, j < 5 → gi z 3 j = gi v 16 j) ∧ Fr [3] v z := by
  obtain ⟨z, b1, b2, b3⟩ := cp16_3L 5 0 FUEL v (by omega) (by rw [FUEL_eq]; omega)
  refine ⟨z, ?_, fun j hj => by rw [b2, if_pos (by omega)], b3⟩
  unfold fX12_copies_16_3
  rw [show fX12_copies_16_3_L2 FUEL 0 v = fX12_copies_16_3_L2 FUEL (nI 0) v from rfl, b1, bd_s]
theorem cp2_4L : ∀ (m i f : Nat) (v : ST), i + m = 5 → m < f → ∃ z, fX12_copies_2_4_L2 f (nI i) v = some (nI 5, z) ∧ (∀ j, gi z 4 j = if i ≤ j ∧ j < 5 then gi v 2 j else gi v 4 j) ∧ Fr [4] v z := by
  intro m
  induction m with
  | zero =>
    intro i f v hi hf
    obtain ⟨f, rfl⟩ : ∃ m, f = m + 1 := ⟨f - 1, by omega⟩
    obtain rfl : i = 5 := by omega
    refine ⟨v, ?_, fun j => ?_, Fr.rfl⟩
    · rw [fX12_copies_2_4_L2, if_pos (by decide)]
    · rw [if_neg (by omega)]
  | succ m ih =>
    intro i f v hi hf
    obtain ⟨f, rfl⟩ : ∃ m, f = m + 1 := ⟨f - 1, by omega⟩
    obtain ⟨z, b1, b2, b3⟩ := ih (i + 1) f (si v 4 i (gi v 2 i)) (by omega) (by omega)
    refine ⟨z, ?_, fun j => ?_, (Fr.si (by decide)).trans b3⟩
    · rw [fX12_copies_2_4_L2]
      simp (disch := omega) only [↓ite_bind, ↓ck_bind, ↓lt_bind, ↓Option.bind_assoc, ↓bd_s, ↓lt_v, ↓ck_v, ↓reduceIte, Bool.false_eq_true, Bool.true_eq_false, nj_add, nj_addl, nj_addr, nj_mull, nj_mulr, nj_subr, nj_pred, ix_nI, ix_lit, inb_t, inb_l, nj_le_t, nj_le_f, nj_lel_t, nj_lel_f, nj_ler_t, nj_ler_f, nj_lt_t, nj_lt_f, nj_ltl_t, nj_ltl_f, nj_ltr_t, nj_ltr_f, nj_eq_t, nj_eq_f, nj_eqr_t, nj_eqr_f, nj_m1, nj_m2]
      exact b1
    · rw [b2, gi_ne (by decide)]
      by_cases e : j = i
      · rw [if_neg (by omega), if_pos (by omega), e, gi_same]
      · rw [gi_dif e]
        by_cases e2 : i + 1 ≤ j ∧ j < 5
        · rw [if_pos e2, if_pos (by omega)]
        · rw [if_neg e2, if_neg (by omega)]
theorem cp2_4 (v : ST) : ∃ z, fX12_copies_2_4 v = some z ∧ (∀ j, j < 5 → gi z 4 j = gi v 2 j) ∧ Fr [4] v z := by
  obtain ⟨z, b1, b2, b3⟩ := cp2_4L 5 0 FUEL v (by omega) (by rw [FUEL_eq]; omega)
  refine ⟨z, ?_, fun j hj => by rw [b2, if_pos (by omega)], b3⟩
  unfold fX12_copies_2_4
  rw [show fX12_copies_2_4_L2 FUEL 0 v = fX12_copies_2_4_L2 FUEL (nI 0) v from rfl, b1, bd_s]
theorem cp17_9L : ∀ (m i f : Nat) (v : ST), i + m = 8 → m < f → ∃ z, fX12_copies_17_9_L2 f (nI i) v = some (nI 8, z) ∧ (∀ j, gi z 9 j = if i ≤ j ∧ j < 8 then gi v 17 j else gi v 9 j) ∧ Fr [9] v z := by
  intro m
  induction m with
  | zero =>
    intro i f v hi hf
    obtain ⟨f, rfl⟩ : ∃ m, f = m + 1 := ⟨f - 1, by omega⟩
    obtain rfl : i = 8 := by omega
    refine ⟨v, ?_, fun j => ?_, Fr.rfl⟩
    · rw [fX12_copies_17_9_L2, if_pos (by decide)]
    · rw [if_neg (by omega)]
  | succ m ih =>
    intro i f v hi hf
    obtain ⟨f, rfl⟩ : ∃ m, f = m + 1 := ⟨f - 1, by omega⟩
    obtain ⟨z, b1, b2, b3⟩ := ih (i + 1) f (si v 9 i (gi v 17 i)) (by omega) (by omega)
    refine ⟨z, ?_, fun j => ?_, (Fr.si (by decide)).trans b3⟩
    · rw [fX12_copies_17_9_L2]
      simp (disch := omega) only [↓ite_bind, ↓ck_bind, ↓lt_bind, ↓Option.bind_assoc, ↓bd_s, ↓lt_v, ↓ck_v, ↓reduceIte, Bool.false_eq_true, Bool.true_eq_false, nj_add, nj_addl, nj_addr, nj_mull, nj_mulr, nj_subr, nj_pred, ix_nI, ix_lit, inb_t, inb_l, nj_le_t, nj_le_f, nj_lel_t, nj_lel_f, nj_ler_t, nj_ler_f, nj_lt_t, nj_lt_f, nj_ltl_t, nj_ltl_f, nj_ltr_t, nj_ltr_f, nj_eq_t, nj_eq_f, nj_eqr_t, nj_eqr_f, nj_m1, nj_m2]
      exact b1
    · rw [b2, gi_ne (by decide)]
      by_cases e : j = i
      · rw [if_neg (by omega), if_pos (by omega), e, gi_same]
      · rw [gi_dif e]
        by_cases e2 : i + 1 ≤ j ∧ j < 8
        · rw [if_pos e2, if_pos (by omega)]
        · rw [if_neg e2, if_neg (by omega)]
theorem cp17_9 (v : ST) : ∃ z, fX12_copies_17_9 v = some z ∧ (∀ j, j < 8 → gi z 9 j = gi v 17 j) ∧ Fr [9] v z := by
  obtain ⟨z, b1, b2, b3⟩ := cp17_9L 8 0 FUEL v (by omega) (by rw [FUEL_eq]; omega)
  refine ⟨z, ?_, fun j hj => by rw [b2, if_pos (by omega)], b3⟩
  unfold fX12_copies_17_9
  rw [show fX12_copies_17_9_L2 FUEL 0 v = fX12_copies_17_9_L2 FUEL (nI 0) v from rfl, b1, bd_s]
theorem cp20_2L : ∀ (m i f : Nat) (v : ST), i + m = 5 → m < f → ∃ z, fX12_copies_20_2_L2 f (nI i) v = some (nI 5, z) ∧ (∀ j, gi z 2 j = if i ≤ j ∧ j < 5 then gi v 20 j else gi v 2 j) ∧ Fr [2] v z := by
  intro m
  induction m with
  | zero =>
    intro i f v hi hf
    obtain ⟨f, rfl⟩ : ∃ m, f = m + 1 := ⟨f - 1, by omega⟩
    obtain rfl : i = 5 := by omega
    refine ⟨v, ?_, fun j => ?_, Fr.rfl⟩
    · rw [fX12_copies_20_2_L2, if_pos (by decide)]
    · rw [if_neg (by omega)]
  | succ m ih =>
    intro i f v hi hf
    obtain ⟨f, rfl⟩ : ∃ m, f = m + 1 := ⟨f - 1, by omega⟩
    obtain ⟨z, b1, b2, b3⟩ := ih (i + 1) f (si v 2 i (gi v 20 i)) (by omega) (by omega)
    refine ⟨z, ?_, fun j => ?_, (Fr.si (by decide)).trans b3⟩
    · rw [fX12_copies_20_2_L2]
      simp (disch := omega) only [↓ite_bind, ↓ck_bind, ↓lt_bind, ↓Option.bind_assoc, ↓bd_s, ↓lt_v, ↓ck_v, ↓reduceIte, Bool.false_eq_true, Bool.true_eq_false, nj_add, nj_addl, nj_addr, nj_mull, nj_mulr, nj_subr, nj_pred, ix_nI, ix_lit, inb_t, inb_l, nj_le_t, nj_le_f, nj_lel_t, nj_lel_f, nj_ler_t, nj_ler_f, nj_lt_t, nj_lt_f, nj_ltl_t, nj_ltl_f, nj_ltr_t, nj_ltr_f, nj_eq_t, nj_eq_f, nj_eqr_t, nj_eqr_f, nj_m1, nj_m2]
      exact b1
    · rw [b2, gi_ne (by decide)]
      by_cases e : j = i
      · rw [if_neg (by omega), if_pos (by omega), e, gi_same]
      · rw [gi_dif e]
        by_cases e2 : i + 1 ≤ j ∧ j < 5
        · rw [if_pos e2, if_pos (by omega)]
        · rw [if_neg e2, if_neg (by omega)]
theorem cp20_2 (v : ST) : ∃ z, fX12_copies_20_2 v = some z ∧ (∀ j, j < 5 → gi z 2 j = gi v 20 j) ∧ Fr [2] v z := by
  obtain ⟨z, b1, b2, b3⟩ := cp20_2L 5 0 FUEL v (by omega) (by rw [FUEL_eq]; omega)
  refine ⟨z, ?_, fun j hj => by rw [b2, if_pos (by omega)], b3⟩
  unfold fX12_copies_20_2
  rw [show fX12_copies_20_2_L2 FUEL 0 v = fX12_copies_20_2_L2 FUEL (nI 0) v from rfl, b1, bd_s]
theorem cp21_16L : ∀ (m i f : Nat) (v : ST), i + m = 5 → m < f → ∃ z, fX12_copies_21_16_L2 f (nI i) v = some (nI 5, z) ∧ (∀ j, gi z 16 j = if i ≤ j ∧ j < 5 then gi v 21 j else gi v 16 j) ∧ Fr [16] v z := by
  intro m
  induction m with
  | zero =>
    intro i f v hi hf
    obtain ⟨f, rfl⟩ : ∃ m, f = m + 1 := ⟨f - 1, by omega⟩
    obtain rfl : i = 5 := by omega
    refine ⟨v, ?_, fun j => ?_, Fr.rfl⟩
    · rw [fX12_copies_21_16_L2, if_pos (by decide)]
    · rw [if_neg (by omega)]
  | succ m ih =>
    intro i f v hi hf
    obtain ⟨f, rfl⟩ : ∃ m, f = m + 1 := ⟨f - 1, by omega⟩
    obtain ⟨z, b1, b2, b3⟩ := ih (i + 1) f (si v 16 i (gi v 21 i)) (by omega) (by omega)
    refine ⟨z, ?_, fun j => ?_, (Fr.si (by decide)).trans b3⟩
    · rw [fX12_copies_21_16_L2]
      simp (disch := omega) only [↓ite_bind, ↓ck_bind, ↓lt_bind, ↓Option.bind_assoc, ↓bd_s, ↓lt_v, ↓ck_v, ↓reduceIte, Bool.false_eq_true, Bool.true_eq_false, nj_add, nj_addl, nj_addr, nj_mull, nj_mulr, nj_subr, nj_pred, ix_nI, ix_lit, inb_t, inb_l, nj_le_t, nj_le_f, nj_lel_t, nj_lel_f, nj_ler_t, nj_ler_f, nj_lt_t, nj_lt_f, nj_ltl_t, nj_ltl_f, nj_ltr_t, nj_ltr_f, nj_eq_t, nj_eq_f, nj_eqr_t, nj_eqr_f, nj_m1, nj_m2]
      exact b1
    · rw [b2, gi_ne (by decide)]
      by_cases e : j = i
      · rw [if_neg (by omega), if_pos (by omega), e, gi_same]
      · rw [gi_dif e]
        by_cases e2 : i + 1 ≤ j ∧ j < 5
        · rw [if_pos e2, if_pos (by omega)]
        · rw [if_neg e2, if_neg (by omega)]
theorem cp21_16 (v : ST) : ∃ z, fX12_copies_21_16 v = some z ∧ (∀ j, j < 5 → gi z 16 j = gi v 21 j) ∧ Fr [16] v z := by
  obtain ⟨z, b1, b2, b3⟩ := cp21_16L 5 0 FUEL v (by omega) (by rw [FUEL_eq]; omega)
  refine ⟨z, ?_, fun j hj => by rw [b2, if_pos (by omega)], b3⟩
  unfold fX12_copies_21_16
  rw [show fX12_copies_21_16_L2 FUEL 0 v = fX12_copies_21_16_L2 FUEL (nI 0) v from rfl, b1, bd_s]
theorem cp22_7L : ∀ (m i f : Nat) (v : ST), i + m = 8 → m < f → ∃ z, fX12_copies_22_7_L2 f (nI i) v = some (nI 8, z) ∧ (∀ j, gi z 7 j = if i ≤ j ∧ j < 8 then gi v 22 j else gi v 7 j) ∧ Fr [7] v z := by
  intro m
  induction m with
  | zero =>
    intro i f v hi hf
    obtain ⟨f, rfl⟩ : ∃ m, f = m + 1 := ⟨f - 1, by omega⟩
    obtain rfl : i = 8 := by omega
    refine ⟨v, ?_, fun j => ?_, Fr.rfl⟩
    · rw [fX12_copies_22_7_L2, if_pos (by decide)]
    · rw [if_neg (by omega)]
  | succ m ih =>
    intro i f v hi hf
    obtain ⟨f, rfl⟩ : ∃ m, f = m + 1 := ⟨f - 1, by omega⟩
    obtain ⟨z, b1, b2, b3⟩ := ih (i + 1) f (si v 7 i (gi v 22 i)) (by omega) (by omega)
    refine ⟨z, ?_, fun j => ?_, (Fr.si (by decide)).trans b3⟩
    · rw [fX12_copies_22_7_L2]
      simp (disch := omega) only [↓ite_bind, ↓ck_bind, ↓lt_bind, ↓Option.bind_assoc, ↓bd_s, ↓lt_v, ↓ck_v, ↓reduceIte, Bool.false_eq_true, Bool.true_eq_false, nj_add, nj_addl, nj_addr, nj_mull, nj_mulr, nj_subr, nj_pred, ix_nI, ix_lit, inb_t, inb_l, nj_le_t, nj_le_f, nj_lel_t, nj_lel_f, nj_ler_t, nj_ler_f, nj_lt_t, nj_lt_f, nj_ltl_t, nj_ltl_f, nj_ltr_t, nj_ltr_f, nj_eq_t, nj_eq_f, nj_eqr_t, nj_eqr_f, nj_m1, nj_m2]
      exact b1
    · rw [b2, gi_ne (by decide)]
      by_cases e : j = i
      · rw [if_neg (by omega), if_pos (by omega), e, gi_same]
      · rw [gi_dif e]
        by_cases e2 : i + 1 ≤ j ∧ j < 8
        · rw [if_pos e2, if_pos (by omega)]
        · rw [if_neg e2, if_neg (by omega)]
theorem cp22_7 (v : ST) : ∃ z, fX12_copies_22_7 v = some z ∧ (∀ j, j < 8 → gi z 7 j = gi v 22 j) ∧ Fr [7] v z := by
  obtain ⟨z, b1, b2, b3⟩ := cp22_7L 8 0 FUEL v (by omega) (by rw [FUEL_eq]; omega)
  refine ⟨z, ?_, fun j hj => by rw [b2, if_pos (by omega)], b3⟩
  unfold fX12_copies_22_7
  rw [show fX12_copies_22_7_L2 FUEL 0 v = fX12_copies_22_7_L2 FUEL (nI 0) v from rfl, b1, bd_s]
theorem cp23_8L : ∀ (m i f : Nat) (v : ST), i + m = 8 → m < f → ∃ z, fX12_copies_23_8_L2 f (nI i) v = some (nI 8, z) ∧ (∀ j, gi z 8 j = if i ≤ j ∧ j < 8 then gi v 23 j else gi v 8 j) ∧ Fr [8] v z := by
  intro m
  induction m with
  | zero =>
    intro i f v hi hf
    obtain ⟨f, rfl⟩ : ∃ m, f = m + 1 := ⟨f - 1, by omega⟩
    obtain rfl : i = 8 := by omega
    refine ⟨v, ?_, fun j => ?_, Fr.rfl⟩
    · rw [fX12_copies_23_8_L2, if_pos (by decide)]
    · rw [if_neg (by omega)]
  | succ m ih =>
    intro i f v hi hf
    obtain ⟨f, rfl⟩ : ∃ m, f = m + 1 := ⟨f - 1, by omega⟩
    obtain ⟨z, b1, b2, b3⟩ := ih (i + 1) f (si v 8 i (gi v 23 i)) (by omega) (by omega)
    refine ⟨z, ?_, fun j => ?_, (Fr.si (by decide)).trans b3⟩
    · rw [fX12_copies_23_8_L2]
      simp (disch := omega) only [↓ite_bind, ↓ck_bind, ↓lt_bind, ↓Option.bind_assoc, ↓bd_s, ↓lt_v, ↓ck_v, ↓reduceIte, Bool.false_eq_true, Bool.true_eq_false, nj_add, nj_addl, nj_addr, nj_mull, nj_mulr, nj_subr, nj_pred, ix_nI, ix_lit, inb_t, inb_l, nj_le_t, nj_le_f, nj_lel_t, nj_lel_f, nj_ler_t, nj_ler_f, nj_lt_t, nj_lt_f, nj_ltl_t, nj_ltl_f, nj_ltr_t, nj_ltr_f, nj_eq_t, nj_eq_f, nj_eqr_t, nj_eqr_f, nj_m1, nj_m2]
      exact b1
    · rw [b2, gi_ne (by decide)]
      by_cases e : j = i
      · rw [if_neg (by omega), if_pos (by omega), e, gi_same]
      · rw [gi_dif e]
        by_cases e2 : i + 1 ≤ j ∧ j < 8
        · rw [if_pos e2, if_pos (by omega)]
        · rw [if_neg e2, if_neg (by omega)]
theorem cp23_8 (v : ST) : ∃ z, fX12_copies_23_8 v = some z ∧ (∀ j, j < 8 → gi z 8 j = gi v 23 j) ∧ Fr [8] v z := by
  obtain ⟨z, b1, b2, b3⟩ := cp23_8L 8 0 FUEL v (by omega) (by rw [FUEL_eq]; omega)
  refine ⟨z, ?_, fun j hj => by rw [b2, if_pos (by omega)], b3⟩
  unfold fX12_copies_23_8
  rw [show fX12_copies_23_8_L2 FUEL 0 v = fX12_copies_23_8_L2 FUEL (nI 0) v from rfl, b1, bd_s]
theorem cp24_17L : ∀ (m i f : Nat) (v : ST), i + m = 8 → m < f → ∃ z, fX12_copies_24_17_L2 f (nI i) v = some (nI 8, z) ∧ (∀ j, gi z 17 j = if i ≤ j ∧ j < 8 then gi v 24 j else gi v 17 j) ∧ Fr [17] v z := by
  intro m
  induction m with
  | zero =>
    intro i f v hi hf
    obtain ⟨f, rfl⟩ : ∃ m, f = m + 1 := ⟨f - 1, by omega⟩
    obtain rfl : i = 8 := by omega
    refine ⟨v, ?_, fun j => ?_, Fr.rfl⟩
    · rw [fX12_copies_24_17_L2, if_pos (by decide)]
    · rw [if_neg (by omega)]
  | succ m ih =>
    intro i f v hi hf
    obtain ⟨f, rfl⟩ : ∃ m, f = m + 1 := ⟨f - 1, by omega⟩
    obtain ⟨z, b1, b2, b3⟩ := ih (i + 1) f (si v 17 i (gi v 24 i)) (by omega) (by omega)
    refine ⟨z, ?_, fun j => ?_, (Fr.si (by decide)).trans b3⟩
    · rw [fX12_copies_24_17_L2]
      simp (disch := omega) only [↓ite_bind, ↓ck_bind, ↓lt_bind, ↓Option.bind_assoc, ↓bd_s, ↓lt_v, ↓ck_v, ↓reduceIte, Bool.false_eq_true, Bool.true_eq_false, nj_add, nj_addl, nj_addr, nj_mull, nj_mulr, nj_subr, nj_pred, ix_nI, ix_lit, inb_t, inb_l, nj_le_t, nj_le_f, nj_lel_t, nj_lel_f, nj_ler_t, nj_ler_f, nj_lt_t, nj_lt_f, nj_ltl_t, nj_ltl_f, nj_ltr_t, nj_ltr_f, nj_eq_t, nj_eq_f, nj_eqr_t, nj_eqr_f, nj_m1, nj_m2]
      exact b1
    · rw [b2, gi_ne (by decide)]
      by_cases e : j = i
      · rw [if_neg (by omega), if_pos (by omega), e, gi_same]
      · rw [gi_dif e]
        by_cases e2 : i + 1 ≤ j ∧ j < 8
        · rw [if_pos e2, if_pos (by omega)]
        · rw [if_neg e2, if_neg (by omega)]
theorem cp24_17 (v : ST) : ∃ z, fX12_copies_24_17 v = some z ∧ (∀ j, j < 8 → gi z 17 j = gi v 24 j) ∧ Fr [17] v z := by
  obtain ⟨z, b1, b2, b3⟩ := cp24_17L 8 0 FUEL v (by omega) (by rw [FUEL_eq]; omega)
  refine ⟨z, ?_, fun j hj => by rw [b2, if_pos (by omega)], b3⟩
  unfold fX12_copies_24_17
  rw [show fX12_copies_24_17_L2 FUEL 0 v = fX12_copies_24_17_L2 FUEL (nI 0) v from rfl, b1, bd_s]
theorem cp25_10L : ∀ (m i f : Nat) (v : ST), i + m = 8 → m < f → ∃ z, fX12_copies_25_10_L2 f (nI i) v = some (nI 8, z) ∧ (∀ j, gi z 10 j = if i ≤ j ∧ j < 8 then gi v 25 j else gi v 10 j) ∧ Fr [10] v z := by
  intro m
  induction m with
  | zero =>
    intro i f v hi hf
    obtain ⟨f, rfl⟩ : ∃ m, f = m + 1 := ⟨f - 1, by omega⟩
    obtain rfl : i = 8 := by omega
    refine ⟨v, ?_, fun j => ?_, Fr.rfl⟩
    · rw [fX12_copies_25_10_L2, if_pos (by decide)]
    · rw [if_neg (by omega)]
  | succ m ih =>
    intro i f v hi hf
    obtain ⟨f, rfl⟩ : ∃ m, f = m + 1 := ⟨f - 1, by omega⟩
    obtain ⟨z, b1, b2, b3⟩ := ih (i + 1) f (si v 10 i (gi v 25 i)) (by omega) (by omega)
    refine ⟨z, ?_, fun j => ?_, (Fr.si (by decide)).trans b3⟩
    · rw [fX12_copies_25_10_L2]
      simp (disch := omega) only [↓ite_bind, ↓ck_bind, ↓lt_bind, ↓Option.bind_assoc, ↓bd_s, ↓lt_v, ↓ck_v, ↓reduceIte, Bool.false_eq_true, Bool.true_eq_false, nj_add, nj_addl, nj_addr, nj_mull, nj_mulr, nj_subr, nj_pred, ix_nI, ix_lit, inb_t, inb_l, nj_le_t, nj_le_f, nj_lel_t, nj_lel_f, nj_ler_t, nj_ler_f, nj_lt_t, nj_lt_f, nj_ltl_t, nj_ltl_f, nj_ltr_t, nj_ltr_f, nj_eq_t, nj_eq_f, nj_eqr_t, nj_eqr_f, nj_m1, nj_m2]
      exact b1
    · rw [b2, gi_ne (by decide)]
      by_cases e : j = i
      · rw [if_neg (by omega), if_pos (by omega), e, gi_same]
      · rw [gi_dif e]
        by_cases e2 : i + 1 ≤ j ∧ j < 8
        · rw [if_pos e2, if_pos (by omega)]
        · rw [if_neg e2, if_neg (by omega)]
theorem cp25_10 (v : ST) : ∃ z, fX12_copies_25_10 v = some z ∧ (∀ j, j < 8 → gi z 10 j = gi v 25 j) ∧ Fr [10] v z := by
  obtain ⟨z, b1, b2, b3⟩ := cp25_10L 8 0 FUEL v (by omega) (by rw [FUEL_eq]; omega)
  refine ⟨z, ?_, fun j hj => by rw [b2, if_pos (by omega)], b3⟩
  unfold fX12_copies_25_10
  rw [show fX12_copies_25_10_L2 FUEL 0 v = fX12_copies_25_10_L2 FUEL (nI 0) v from rfl, b1, bd_s]
theorem bz56 : ∀ (m i f : Nat) (v : ST), i + m = 5 → m < f → ∃ z, fX12_begins_L56 f (nI i) v = some (nI 5, z) ∧ (∀ j, gi z 5 j = if i ≤ j ∧ j < 5 then 0 else gi v 5 j) ∧ (∀ j, gi z 6 j = if i ≤ j ∧ j < 5 then 0 else gi v 6 j) ∧ Fr [5, 6] v z := by
  intro m
  induction m with
  | zero =>
    intro i f v hi hf
    obtain ⟨f, rfl⟩ : ∃ m, f = m + 1 := ⟨f - 1, by omega⟩
    obtain rfl : i = 5 := by omega
    refine ⟨v, ?_, fun j => ?_, fun j => ?_, Fr.rfl⟩
    · rw [fX12_begins_L56, if_pos (by decide)]
    · rw [if_neg (by omega)]
    · rw [if_neg (by omega)]
  | succ m ih =>
    intro i f v hi hf
    obtain ⟨f, rfl⟩ : ∃ m, f = m + 1 := ⟨f - 1, by omega⟩
    obtain ⟨z, b1, b2, b3, b4⟩ := ih (i + 1) f (si (si v 5 i 0) 6 i 0) (by omega) (by omega)
    refine ⟨z, ?_, fun j => ?_, fun j => ?_, ((Fr.si (by decide)).trans (Fr.si (by decide))).trans b4⟩
    · rw [fX12_begins_L56]
      simp (disch := omega) only [↓ite_bind, ↓ck_bind, ↓lt_bind, ↓Option.bind_assoc, ↓bd_s, ↓lt_v, ↓ck_v, ↓reduceIte, Bool.false_eq_true, Bool.true_eq_false, nj_add, nj_addl, nj_addr, nj_mull, nj_mulr, nj_subr, nj_pred, ix_nI, ix_lit, inb_t, inb_l, nj_le_t, nj_le_f, nj_lel_t, nj_lel_f, nj_ler_t, nj_ler_f, nj_lt_t, nj_lt_f, nj_ltl_t, nj_ltl_f, nj_ltr_t, nj_ltr_f, nj_eq_t, nj_eq_f, nj_eqr_t, nj_eqr_f, nj_m1, nj_m2]
      exact b1
    · rw [b2, gi_ne (by decide)]
      by_cases e : j = i
      · rw [if_neg (by omega), if_pos (by omega), e, gi_same]
      · rw [gi_dif e]
        by_cases e2 : i + 1 ≤ j ∧ j < 5
        · rw [if_pos e2, if_pos (by omega)]
        · rw [if_neg e2, if_neg (by omega)]
    · rw [b3]
      by_cases e : j = i
      · rw [if_neg (by omega), if_pos (by omega), e, gi_same]
      · rw [gi_dif e, gi_ne (by decide)]
        by_cases e2 : i + 1 ≤ j ∧ j < 5
        · rw [if_pos e2, if_pos (by omega)]
        · rw [if_neg e2, if_neg (by omega)]
theorem bz83 : ∀ (m i f : Nat) (v : ST), i + m = 8 → m < f → ∃ z, fX12_begins_L83 f (nI i) v = some (nI 8, z) ∧ (∀ j, gi z 11 j = if i ≤ j ∧ j < 8 then 0 else gi v 11 j) ∧ (∀ j, gi z 12 j = if i ≤ j ∧ j < 8 then 0 else gi v 12 j) ∧ Fr [11, 12] v z := by
  intro m
  induction m with
  | zero =>
    intro i f v hi hf
    obtain ⟨f, rfl⟩ : ∃ m, f = m + 1 := ⟨f - 1, by omega⟩
    obtain rfl : i = 8 := by omega
    refine ⟨v, ?_, fun j => ?_, fun j => ?_, Fr.rfl⟩
    · rw [fX12_begins_L83, if_pos (by decide)]
    · rw [if_neg (by omega)]
    · rw [if_neg (by omega)]
  | succ m ih =>
    intro i f v hi hf
    obtain ⟨f, rfl⟩ : ∃ m, f = m + 1 := ⟨f - 1, by omega⟩
    obtain ⟨z, b1, b2, b3, b4⟩ := ih (i + 1) f (si (si v 11 i 0) 12 i 0) (by omega) (by omega)
    refine ⟨z, ?_, fun j => ?_, fun j => ?_, ((Fr.si (by decide)).trans (Fr.si (by decide))).trans b4⟩
    · rw [fX12_begins_L83]
      simp (disch := omega) only [↓ite_bind, ↓ck_bind, ↓lt_bind, ↓Option.bind_assoc, ↓bd_s, ↓lt_v, ↓ck_v, ↓reduceIte, Bool.false_eq_true, Bool.true_eq_false, nj_add, nj_addl, nj_addr, nj_mull, nj_mulr, nj_subr, nj_pred, ix_nI, ix_lit, inb_t, inb_l, nj_le_t, nj_le_f, nj_lel_t, nj_lel_f, nj_ler_t, nj_ler_f, nj_lt_t, nj_lt_f, nj_ltl_t, nj_ltl_f, nj_ltr_t, nj_ltr_f, nj_eq_t, nj_eq_f, nj_eqr_t, nj_eqr_f, nj_m1, nj_m2]
      exact b1
    · rw [b2, gi_ne (by decide)]
      by_cases e : j = i
      · rw [if_neg (by omega), if_pos (by omega), e, gi_same]
      · rw [gi_dif e]
        by_cases e2 : i + 1 ≤ j ∧ j < 8
        · rw [if_pos e2, if_pos (by omega)]
        · rw [if_neg e2, if_neg (by omega)]
    · rw [b3]
      by_cases e : j = i
      · rw [if_neg (by omega), if_pos (by omega), e, gi_same]
      · rw [gi_dif e, gi_ne (by decide)]
        by_cases e2 : i + 1 ≤ j ∧ j < 8
        · rw [if_pos e2, if_pos (by omega)]
        · rw [if_neg e2, if_neg (by omega)]
/-- day 0 of the reference -/
theorem begM (v : ST) : ∃ z, fX12_begins v = some z ∧ Fr [1, 3, 4, 5, 6, 9, 11, 12] v z ∧ (∀ j, j ≠ 8 → j ≠ 9 → gi z 1 j = gi v 1 j) ∧ gi z 1 8 = gi v 18 0 ∧ gi z 1 9 = 0 ∧ (∀ q, q < 5 → gi z 3 q = gi v 16 q ∧ gi z 4 q = gi v 2 q ∧ gi z 5 q = 0 ∧ gi z 6 q = 0) ∧ (∀ m, m < 8 → gi z 9 m = gi v 17 m ∧ gi z 11 m = 0 ∧ gi z 12 m = 0) := by
  obtain ⟨z1, a1, a2, a3⟩ := cp16_3 v
  obtain ⟨z2, b1, b2, b3⟩ := cp2_4 z1
  obtain ⟨z3, c1, c2, c3⟩ := cp17_9 z2
  obtain ⟨z4, hz4⟩ : ∃ z, si (si z3 1 8 (gi v 18 0)) 1 9 0 = z := ⟨_, rfl⟩
  have f4 : Fr [1] z3 z4 := by rw [← hz4]; exact (Fr.si (by decide)).trans (Fr.si (by decide))
  obtain ⟨z5, d1, d2, d3, d4⟩ := bz56 5 0 FUEL z4 (by omega) (by rw [FUEL_eq]; omega)
  obtain ⟨z6, e1, e2, e3, e4⟩ := bz83 8 0 FUEL z5 (by omega) (by rw [FUEL_eq]; omega)
  have d1 : fX12_begins_L56 FUEL 0 z4 = some (nI 5, z5) := d1
  have e1 : fX12_begins_L83 FUEL 0 z5 = some (nI 8, z6) := e1
  have e18 : gi z3 18 0 = gi v 18 0 := by rw [c3.gi (by decide), b3.gi (by decide), a3.gi (by decide)]
  have h1 : ∀ j, gi z6 1 j = gi z4 1 j := fun j => by rw [e4.gi (by decide), d4.gi (by decide)]
  refine ⟨z6, ?_, (((((a3.mono (by decide)).trans (b3.mono (by decide))).trans (c3.mono (by decide))).trans (f4.mono (by decide))).trans (d4.mono (by decide))).trans (e4.mono (by decide)), fun j j8 j9 => ?_, ?_, ?_, fun q hq => ⟨?_, ?_, ?_, ?_⟩, fun m hm => ⟨?_, ?_, ?_⟩⟩
  · unfold fX12_begins
    rw [a1, bd_s, b1, bd_s, c1, bd_s, ck_t (by decide), ck_t (by decide), lt_v, ix_lit (by decide), ix_lit (by decide), e18, ck_t (by decide), ix_lit (by decide), lt_v, hz4, d1, bd_s, e1, bd_s]
  · rw [h1, ← hz4, gi_dif j9, gi_dif j8, c3.gi (by decide), b3.gi (by decide), a3.gi (by decide)]
  · rw [h1, ← hz4, gi_dif (by decide), gi_same]
  · rw [h1, ← hz4, gi_same]
  · rw [e4.gi (by decide), d4.gi (by decide), f4.gi (by decide), c3.gi (by decide), b3.gi (by decide), a2 q hq]
  · rw [e4.gi (by decide), d4.gi (by decide), f4.gi (by decide), c3.gi (by decide), b2 q hq, a3.gi (by decide)]
  · rw [e4.gi (by decide), d2, if_pos (by omega)]
  · rw [e4.gi (by decide), d3, if_pos (by omega)]
  · rw [e4.gi (by decide), d4.gi (by decide), f4.gi (by decide), c2 m hm, b3.gi (by decide), a3.gi (by decide)]
  · rw [e2, if_pos (by omega)]
  · rw [e3, if_pos (by omega)]
