/-! fills -/
theorem fill_26L {v : Int32} : ∀ (k i f : Nat) (s : ST), i + k = 46 → k < f → ∃ z, fJ7_fill_53178_26_L5 v 46 f (nI i) s = some (46, z) ∧ (∀ j, gi z 26 j = if i ≤ j ∧ j < 46 then v else gi s 26 j) ∧ Fr [26] s z := by
  intro k
  induction k with
  | zero =>
    intro i f s hi hf
    obtain ⟨f, rfl⟩ : ∃ m, f = m + 1 := ⟨f - 1, by omega⟩
    obtain rfl : i = 46 := by omega
    refine ⟨s, ?_, fun j => by rw [if_neg (by omega)], Fr.rfl⟩
    rw [fJ7_fill_53178_26_L5]
    simp (disch := omega) only [↓ite_bind, ↓ck_bind, ↓lt_bind, ↓Option.bind_assoc, ↓bd_s, ↓lt_v, ↓ck_v, ↓reduceIte, Bool.false_eq_true, Bool.true_eq_false, bd_s, nj_add, nj_addl, nj_addr, nj_mull, nj_mulr, nj_subr, nj_pred, ix_nI, ix_lit, inb_t, inb_l, nj_le_t, nj_le_f, nj_lel_t, nj_lel_f, nj_ler_t, nj_ler_f, nj_lt_t, nj_lt_f, nj_ltl_t, nj_ltl_f, nj_ltr_t, nj_ltr_f, nj_eq_t, nj_eq_f, nj_eqr_t, nj_eqr_f, nj_m1, nj_m2]
    rfl
  | succ k ih =>
    intro i f s hi hf
    obtain ⟨f, rfl⟩ : ∃ m, f = m + 1 := ⟨f - 1, by omega⟩
    obtain ⟨z, a1, a2, a3⟩ := ih (i + 1) f (si s 26 i v) (by omega) (by omega)
    refine ⟨z, ?_, fun j => ?_, (Fr.si (by decide)).trans a3⟩
    · rw [fJ7_fill_53178_26_L5]
      simp (disch := omega) only [↓ite_bind, ↓ck_bind, ↓lt_bind, ↓Option.bind_assoc, ↓bd_s, ↓lt_v, ↓ck_v, ↓reduceIte, Bool.false_eq_true, Bool.true_eq_false, bd_s, nj_add, nj_addl, nj_addr, nj_mull, nj_mulr, nj_subr, nj_pred, ix_nI, ix_lit, inb_t, inb_l, nj_le_t, nj_le_f, nj_lel_t, nj_lel_f, nj_ler_t, nj_ler_f, nj_lt_t, nj_lt_f, nj_ltl_t, nj_ltl_f, nj_ltr_t, nj_ltr_f, nj_eq_t, nj_eq_f, nj_eqr_t, nj_eqr_f, nj_m1, nj_m2]
      exact a1
    · rw [a2, gi_si, if_pos rfl]
      grind
theorem fill_26 (v : Int32) (s : ST) : ∃ z, fJ7_fill_53178_26 v s = some z ∧ (∀ j, gi z 26 j = if j < 46 then v else gi s 26 j) ∧ Fr [26] s z := by
  obtain ⟨z, a1, a2, a3⟩ := fill_26L (v := v) 46 0 FUEL s (by omega) (by rw [FUEL_eq]; omega)
  refine ⟨z, ?_, fun j => ?_, a3⟩
  · unfold fJ7_fill_53178_26
    rw [show (0 : Int32) = nI 0 from rfl, a1]
    rfl
  · rw [a2]; simp only [Nat.zero_le, true_and]
theorem fill_32L {v : Int32} : ∀ (k i f : Nat) (s : ST), i + k = 46 → k < f → ∃ z, fJ7_fill_53178_32_L5 v 46 f (nI i) s = some (46, z) ∧ (∀ j, gi z 32 j = if i ≤ j ∧ j < 46 then v else gi s 32 j) ∧ Fr [32] s z := by
  intro k
  induction k with
  | zero =>
    intro i f s hi hf
    obtain ⟨f, rfl⟩ : ∃ m, f = m + 1 := ⟨f - 1, by omega⟩
    obtain rfl : i = 46 := by omega
    refine ⟨s, ?_, fun j => by rw [if_neg (by omega)], Fr.rfl⟩
    rw [fJ7_fill_53178_32_L5]
    simp (disch := omega) only [↓ite_bind, ↓ck_bind, ↓lt_bind, ↓Option.bind_assoc, ↓bd_s, ↓lt_v, ↓ck_v, ↓reduceIte, Bool.false_eq_true, Bool.true_eq_false, bd_s, nj_add, nj_addl, nj_addr, nj_mull, nj_mulr, nj_subr, nj_pred, ix_nI, ix_lit, inb_t, inb_l, nj_le_t, nj_le_f, nj_lel_t, nj_lel_f, nj_ler_t, nj_ler_f, nj_lt_t, nj_lt_f, nj_ltl_t, nj_ltl_f, nj_ltr_t, nj_ltr_f, nj_eq_t, nj_eq_f, nj_eqr_t, nj_eqr_f, nj_m1, nj_m2]
    rfl
  | succ k ih =>
    intro i f s hi hf
    obtain ⟨f, rfl⟩ : ∃ m, f = m + 1 := ⟨f - 1, by omega⟩
    obtain ⟨z, a1, a2, a3⟩ := ih (i + 1) f (si s 32 i v) (by omega) (by omega)
    refine ⟨z, ?_, fun j => ?_, (Fr.si (by decide)).trans a3⟩
    · rw [fJ7_fill_53178_32_L5]
      simp (disch := omega) only [↓ite_bind, ↓ck_bind, ↓lt_bind, ↓Option.bind_assoc, ↓bd_s, ↓lt_v, ↓ck_v, ↓reduceIte, Bool.false_eq_true, Bool.true_eq_false, bd_s, nj_add, nj_addl, nj_addr, nj_mull, nj_mulr, nj_subr, nj_pred, ix_nI, ix_lit, inb_t, inb_l, nj_le_t, nj_le_f, nj_lel_t, nj_lel_f, nj_ler_t, nj_ler_f, nj_lt_t, nj_lt_f, nj_ltl_t, nj_ltl_f, nj_ltr_t, nj_ltr_f, nj_eq_t, nj_eq_f, nj_eqr_t, nj_eqr_f, nj_m1, nj_m2]
      exact a1
    · rw [a2, gi_si, if_pos rfl]
      grind
theorem fill_32 (v : Int32) (s : ST) : ∃ z, fJ7_fill_53178_32 v s = some z ∧ (∀ j, gi z 32 j = if j < 46 then v else gi s 32 j) ∧ Fr [32] s z := by
  obtain ⟨z, a1, a2, a3⟩ := fill_32L (v := v) 46 0 FUEL s (by omega) (by rw [FUEL_eq]; omega)
  refine ⟨z, ?_, fun j => ?_, a3⟩
  · unfold fJ7_fill_53178_32
    rw [show (0 : Int32) = nI 0 from rfl, a1]
    rfl
  · rw [a2]; simp only [Nat.zero_le, true_and]
theorem fill_39L {v : Int32} : ∀ (k i f : Nat) (s : ST), i + k = 5 → k < f → ∃ z, fJ7_fill_53178_39_L5 v 5 f (nI i) s = some (5, z) ∧ (∀ j, gi z 39 j = if i ≤ j ∧ j < 5 then v else gi s 39 j) ∧ Fr [39] s z := by
  intro k
  induction k with
  | zero =>
    intro i f s hi hf
    obtain ⟨f, rfl⟩ : ∃ m, f = m + 1 := ⟨f - 1, by omega⟩
    obtain rfl : i = 5 := by omega
    refine ⟨s, ?_, fun j => by rw [if_neg (by omega)], Fr.rfl⟩
    rw [fJ7_fill_53178_39_L5]
    simp (disch := omega) only [↓ite_bind, ↓ck_bind, ↓lt_bind, ↓Option.bind_assoc, ↓bd_s, ↓lt_v, ↓ck_v, ↓reduceIte, Bool.false_eq_true, Bool.true_eq_false, bd_s, nj_add, nj_addl, nj_addr, nj_mull, nj_mulr, nj_subr, nj_pred, ix_nI, ix_lit, inb_t, inb_l, nj_le_t, nj_le_f, nj_lel_t, nj_lel_f, nj_ler_t, nj_ler_f, nj_lt_t, nj_lt_f, nj_ltl_t, nj_ltl_f, nj_ltr_t, nj_ltr_f, nj_eq_t, nj_eq_f, nj_eqr_t, nj_eqr_f, nj_m1, nj_m2]
    rfl
  | succ k ih =>
    intro i f s hi hf
    obtain ⟨f, rfl⟩ : ∃ m, f = m + 1 := ⟨f - 1, by omega⟩
    obtain ⟨z, a1, a2, a3⟩ := ih (i + 1) f (si s 39 i v) (by omega) (by omega)
    refine ⟨z, ?_, fun j => ?_, (Fr.si (by decide)).trans a3⟩
    · rw [fJ7_fill_53178_39_L5]
      simp (disch := omega) only [↓ite_bind, ↓ck_bind, ↓lt_bind, ↓Option.bind_assoc, ↓bd_s, ↓lt_v, ↓ck_v, ↓reduceIte, Bool.false_eq_true, Bool.true_eq_false, bd_s, nj_add, nj_addl, nj_addr, nj_mull, nj_mulr, nj_subr, nj_pred, ix_nI, ix_lit, inb_t, inb_l, nj_le_t, nj_le_f, nj_lel_t, nj_lel_f, nj_ler_t, nj_ler_f, nj_lt_t, nj_lt_f, nj_ltl_t, nj_ltl_f, nj_ltr_t, nj_ltr_f, nj_eq_t, nj_eq_f, nj_eqr_t, nj_eqr_f, nj_m1, nj_m2]
      exact a1
    · rw [a2, gi_si, if_pos rfl]
      grind
theorem fill_39 (v : Int32) (s : ST) : ∃ z, fJ7_fill_53178_39 v s = some z ∧ (∀ j, gi z 39 j = if j < 5 then v else gi s 39 j) ∧ Fr [39] s z := by
  obtain ⟨z, a1, a2, a3⟩ := fill_39L (v := v) 5 0 FUEL s (by omega) (by rw [FUEL_eq]; omega)
  refine ⟨z, ?_, fun j => ?_, a3⟩
  · unfold fJ7_fill_53178_39
    rw [show (0 : Int32) = nI 0 from rfl, a1]
    rfl
  · rw [a2]; simp only [Nat.zero_le, true_and]
theorem fill_40L {v : Int32} : ∀ (k i f : Nat) (s : ST), i + k = 5 → k < f → ∃ z, fJ7_fill_53178_40_L5 v 5 f (nI i) s = some (5, z) ∧ (∀ j, gi z 40 j = if i ≤ j ∧ j < 5 then v else gi s 40 j) ∧ Fr [40] s z := by
  intro k
  induction k with
  | zero =>
    intro i f s hi hf
    obtain ⟨f, rfl⟩ : ∃ m, f = m + 1 := ⟨f - 1, by omega⟩
    obtain rfl : i = 5 := by omega
    refine ⟨s, ?_, fun j => by rw [if_neg (by omega)], Fr.rfl⟩
    rw [fJ7_fill_53178_40_L5]
    simp (disch := omega) only [↓ite_bind, ↓ck_bind, ↓lt_bind, ↓Option.bind_assoc, ↓bd_s, ↓lt_v, ↓ck_v, ↓reduceIte, Bool.false_eq_true, Bool.true_eq_false, bd_s, nj_add, nj_addl, nj_addr, nj_mull, nj_mulr, nj_subr, nj_pred, ix_nI, ix_lit, inb_t, inb_l, nj_le_t, nj_le_f, nj_lel_t, nj_lel_f, nj_ler_t, nj_ler_f, nj_lt_t, nj_lt_f, nj_ltl_t, nj_ltl_f, nj_ltr_t, nj_ltr_f, nj_eq_t, nj_eq_f, nj_eqr_t, nj_eqr_f, nj_m1, nj_m2]
    rfl
  | succ k ih =>
    intro i f s hi hf
    obtain ⟨f, rfl⟩ : ∃ m, f = m + 1 := ⟨f - 1, by omega⟩
    obtain ⟨z, a1, a2, a3⟩ := ih (i + 1) f (si s 40 i v) (by omega) (by omega)
    refine ⟨z, ?_, fun j => ?_, (Fr.si (by decide)).trans a3⟩
    · rw [fJ7_fill_53178_40_L5]
      simp (disch := omega) only [↓ite_bind, ↓ck_bind, ↓lt_bind, ↓Option.bind_assoc, ↓bd_s, ↓lt_v, ↓ck_v, ↓reduceIte, Bool.false_eq_true, Bool.true_eq_false, bd_s, nj_add, nj_addl, nj_addr, nj_mull, nj_mulr, nj_subr, nj_pred, ix_nI, ix_lit, inb_t, inb_l, nj_le_t, nj_le_f, nj_lel_t, nj_lel_f, nj_ler_t, nj_ler_f, nj_lt_t, nj_lt_f, nj_ltl_t, nj_ltl_f, nj_ltr_t, nj_ltr_f, nj_eq_t, nj_eq_f, nj_eqr_t, nj_eqr_f, nj_m1, nj_m2]
      exact a1
    · rw [a2, gi_si, if_pos rfl]
      grind
theorem fill_40 (v : Int32) (s : ST) : ∃ z, fJ7_fill_53178_40 v s = some z ∧ (∀ j, gi z 40 j = if j < 5 then v else gi s 40 j) ∧ Fr [40] s z := by
  obtain ⟨z, a1, a2, a3⟩ := fill_40L (v := v) 5 0 FUEL s (by omega) (by rw [FUEL_eq]; omega)
  refine ⟨z, ?_, fun j => ?_, a3⟩
  · unfold fJ7_fill_53178_40
    rw [show (0 : Int32) = nI 0 from rfl, a1]
    rfl
  · rw [a2]; simp only [Nat.zero_le, true_and]
theorem lays21 : ∀ (k i f : Nat) (s : ST), i + k = 5 → k < f → ∃ z, fX12_dayGoes_L21 f (nI i) s = some (5, z) ∧ (∀ j, gi z 37 j = if i ≤ j ∧ j < 5 then -1000000 else gi s 37 j) ∧ (∀ j, gi z 38 j = if i ≤ j ∧ j < 5 then 0 else gi s 38 j) ∧ (∀ j, gi z 39 j = if i ≤ j ∧ j < 5 then 0 else gi s 39 j) ∧ Fr [37, 38, 39] s z := by
  intro k
  induction k with
  | zero =>
    intro i f s hi hf
    obtain ⟨f, rfl⟩ : ∃ m, f = m + 1 := ⟨f - 1, by omega⟩
    obtain rfl : i = 5 := by omega
    refine ⟨s, ?_, fun j => by rw [if_neg (by omega)], fun j => by rw [if_neg (by omega)], fun j => by rw [if_neg (by omega)], Fr.rfl⟩
    rw [fX12_dayGoes_L21]
    simp (disch := omega) only [↓ite_bind, ↓ck_bind, ↓lt_bind, ↓Option.bind_assoc, ↓bd_s, ↓lt_v, ↓ck_v, ↓reduceIte, Bool.false_eq_true, Bool.true_eq_false, bd_s, nj_add, nj_addl, nj_addr, nj_mull, nj_mulr, nj_subr, nj_pred, ix_nI, ix_lit, inb_t, inb_l, nj_le_t, nj_le_f, nj_lel_t, nj_lel_f, nj_ler_t, nj_ler_f, nj_lt_t, nj_lt_f, nj_ltl_t, nj_ltl_f, nj_ltr_t, nj_ltr_f, nj_eq_t, nj_eq_f, nj_eqr_t, nj_eqr_f, nj_m1, nj_m2]
    rfl
  | succ k ih =>
    intro i f s hi hf
    obtain ⟨f, rfl⟩ : ∃ m, f = m + 1 := ⟨f - 1, by omega⟩
    obtain ⟨z, a1, a2, a3, a4, a5⟩ := ih (i + 1) f (si (si (si s 37 i (-1000000)) 38 i 0) 39 i 0) (by omega) (by omega)
    refine ⟨z, ?_, fun j => ?_, fun j => ?_, fun j => ?_, (((Fr.si (by decide)).trans (Fr.si (by decide))).trans (Fr.si (by decide))).trans a5⟩
    · rw [fX12_dayGoes_L21]
      simp (disch := omega) only [↓ite_bind, ↓ck_bind, ↓lt_bind, ↓Option.bind_assoc, ↓bd_s, ↓lt_v, ↓ck_v, ↓reduceIte, Bool.false_eq_true, Bool.true_eq_false, bd_s, nj_add, nj_addl, nj_addr, nj_mull, nj_mulr, nj_subr, nj_pred, ix_nI, ix_lit, inb_t, inb_l, nj_le_t, nj_le_f, nj_lel_t, nj_lel_f, nj_ler_t, nj_ler_f, nj_lt_t, nj_lt_f, nj_ltl_t, nj_ltl_f, nj_ltr_t, nj_ltr_f, nj_eq_t, nj_eq_f, nj_eqr_t, nj_eqr_f, nj_m1, nj_m2]
      exact a1
    · rw [a2]; simp only [gi_si, Nat.reduceEqDiff, if_false, if_true]; grind
    · rw [a3]; simp only [gi_si, Nat.reduceEqDiff, if_false, if_true]; grind
    · rw [a4]; simp only [gi_si, Nat.reduceEqDiff, if_false, if_true]; grind

/-! the loops of a day -/
theorem DRd_mono {np nm k : Nat} {M C W D E : Int32} {s s' : ST} (hk : k < 100) (h : DRd np nm k M C W D E s s') : DRd np nm (k + 1) M C W D E s s' := by
  obtain ⟨r1, r2, r3, r4, r5, r6, r7, r8, r9, r10⟩ := h
  obtain ⟨c, c1, c2⟩ := r4.2.2
  refine ⟨r1, r2, r3, ⟨r4.1, r4.2.1, c, by omega, c2⟩, fun q hq => ?_, fun q hq => ?_, r7, r8, r9, r10⟩
  · obtain ⟨d1, d2, d3⟩ := r5 q hq
    refine ⟨d1, d2, ?_⟩
    have : nI (1000 + 200 * k) ≤ nI (1000 + 200 * (k + 1)) := by rw [nj_le (by omega) (by omega)]; omega
    grind
  · obtain ⟨e, o, h1, h2, h3, h4, h5⟩ := r6 q hq
    exact ⟨e, o, by omega, by omega, h3, h4, h5⟩
theorem go_loop {t : PH} {np nm : Nat} {M C W D E : Int32} (hn : nm ≤ 8) : ∀ (k i f f' : Nat) (s s' : ST), i + k = nm → k < f → k < f' → DRp t (kC s) (mr s) (kM s') np nm → DRd np nm i M C W D E s s' → Or1 nm s s' →
    (∀ j, j < i → ∀ m, m < nm → gi s 34 j = nI m → nI m ≠ gi s 30 9 → Bk s s' m) →
    ∃ z z', fX0_goDay_L25 t f (nI i) s = some (nI nm, z) ∧ fX12_dayGoes_L57 f' (nI i) s' = some (nI nm, z') ∧ DRd np nm nm M C W D E z z' ∧ kC z = kC s ∧ z.2.2 = s.2.2 ∧ kM z' = kM s' ∧
      (∀ m, m < nm → nI m ≠ gi s 30 9 → Bk z z' m) ∧ (∀ j, ¬ vis np nm j → gi z 32 j = gi s 32 j) := by
  intro k
  induction k with
  | zero =>
    intro i f f' s s' hi hf hf' hp hr ho hb
    obtain ⟨f, rfl⟩ : ∃ m, f = m + 1 := ⟨f - 1, by omega⟩
    obtain ⟨f', rfl⟩ : ∃ m, f' = m + 1 := ⟨f' - 1, by omega⟩
    obtain rfl : i = nm := by omega
    have h18 : decide (mr s 0 = some 18) = true := decide_eq_true hp.2.2.1
    have h8 : gi s 18 8 = nI i := by rw [← kC_v rfl]; exact hp.2.2.2.2.2.1
    have h4 : gi s' 1 4 = nI i := by rw [← kM_v rfl]; exact hp.2.2.2.2.2.2.1
    refine ⟨s, s', ?_, ?_, hr, rfl, rfl, rfl, fun m hm hl => ?_, fun j _ => rfl⟩
    · rw [fX0_goDay_L25]
      simp (disch := omega) only [↓ite_bind, ↓ck_bind, ↓lt_bind, ↓Option.bind_assoc, ↓bd_s, ↓lt_v, ↓ck_v, ↓reduceIte, Bool.false_eq_true, Bool.true_eq_false, bd_s, nj_add, nj_addl, nj_addr, nj_mull, nj_mulr, nj_subr, nj_pred, ix_nI, ix_lit, inb_t, inb_l, nj_le_t, nj_le_f, nj_lel_t, nj_lel_f, nj_ler_t, nj_ler_f, nj_lt_t, nj_lt_f, nj_ltl_t, nj_ltl_f, nj_ltr_t, nj_ltr_f, nj_eq_t, nj_eq_f, nj_eqr_t, nj_eqr_f, nj_m1, nj_m2, h18, h8]
    · rw [fX12_dayGoes_L57]
      simp (disch := omega) only [↓ite_bind, ↓ck_bind, ↓lt_bind, ↓Option.bind_assoc, ↓bd_s, ↓lt_v, ↓ck_v, ↓reduceIte, Bool.false_eq_true, Bool.true_eq_false, bd_s, nj_add, nj_addl, nj_addr, nj_mull, nj_mulr, nj_subr, nj_pred, ix_nI, ix_lit, inb_t, inb_l, nj_le_t, nj_le_f, nj_lel_t, nj_lel_f, nj_ler_t, nj_ler_f, nj_lt_t, nj_lt_f, nj_ltl_t, nj_ltl_f, nj_ltr_t, nj_ltr_f, nj_eq_t, nj_eq_f, nj_eqr_t, nj_eqr_f, nj_m1, nj_m2, h4]
    · obtain ⟨j, j1, j2⟩ := ho.2 m hm
      exact hb j j1 m hm j2 hl
  | succ k ih =>
    intro i f f' s s' hi hf hf' hp hr ho hb
    obtain ⟨f, rfl⟩ : ∃ m, f = m + 1 := ⟨f - 1, by omega⟩
    obtain ⟨f', rfl⟩ : ∃ m, f' = m + 1 := ⟨f' - 1, by omega⟩
    have h18 : decide (mr s 0 = some 18) = true := decide_eq_true hp.2.2.1
    have h8 : gi s 18 8 = nI nm := by rw [← kC_v rfl]; exact hp.2.2.2.2.2.1
    have h4 : gi s' 1 4 = nI nm := by rw [← kM_v rfl]; exact hp.2.2.2.2.2.2.1
    have h9 : gi s 30 9 = gi s' 0 56 := by
      have := hp.2.2.2.2.2.2.2.2.2.2.2.2.2.2.1
      rwa [kC_v rfl, kM_v rfl] at this
    obtain ⟨o, o1, o2, o3⟩ := ho.1 i (by omega)
    by_cases hl : nI o = gi s 30 9
    · obtain ⟨z, z', a1, a2, a3, a4, a5, a6, a7, a8⟩ := ih (i + 1) f f' s s' (by omega) (by omega) (by omega) hp (DRd_mono (by omega) hr) ho (by
        intro j hj m hm e1 e2
        by_cases e : j = i
        · subst e
          rw [o2] at e1
          rw [e1] at hl
          exact absurd hl e2
        · exact hb j (by omega) m hm e1 e2)
      refine ⟨z, z', ?_, ?_, a3, a4, a5, a6, a7, a8⟩
      · rw [fX0_goDay_L25]
        simp (disch := omega) only [↓ite_bind, ↓ck_bind, ↓lt_bind, ↓Option.bind_assoc, ↓bd_s, ↓lt_v, ↓ck_v, ↓reduceIte, Bool.false_eq_true, Bool.true_eq_false, bd_s, nj_add, nj_addl, nj_addr, nj_mull, nj_mulr, nj_subr, nj_pred, ix_nI, ix_lit, inb_t, inb_l, nj_le_t, nj_le_f, nj_lel_t, nj_lel_f, nj_ler_t, nj_ler_f, nj_lt_t, nj_lt_f, nj_ltl_t, nj_ltl_f, nj_ltr_t, nj_ltr_f, nj_eq_t, nj_eq_f, nj_eqr_t, nj_eqr_f, nj_m1, nj_m2, h18, h8, o2, hl]
        exact a1
      · rw [fX12_dayGoes_L57]
        rw [h9] at hl
        simp (disch := omega) only [↓ite_bind, ↓ck_bind, ↓lt_bind, ↓Option.bind_assoc, ↓bd_s, ↓lt_v, ↓ck_v, ↓reduceIte, Bool.false_eq_true, Bool.true_eq_false, bd_s, nj_add, nj_addl, nj_addr, nj_mull, nj_mulr, nj_subr, nj_pred, ix_nI, ix_lit, inb_t, inb_l, nj_le_t, nj_le_f, nj_lel_t, nj_lel_f, nj_ler_t, nj_ler_f, nj_lt_t, nj_lt_f, nj_ltl_t, nj_ltl_f, nj_ltr_t, nj_ltr_f, nj_eq_t, nj_eq_f, nj_eqr_t, nj_eqr_f, nj_m1, nj_m2, h4, o3, hl]
        exact a2
    · obtain ⟨y, y', b1, b2, b3, b4, b5, b6, b7, b8, b9, b10, b11⟩ := meet_both hp hr o1 (by omega)
      have hp2 : DRp t (kC y) (mr y) (kM y') np nm := by
        rw [b4, b6, show mr y = mr s from funext (fun j => by unfold mr; rw [b5])]; exact hp
      have ho2 : Or1 nm y y' := by
        refine ⟨fun i hi => ?_, fun x hx => ?_⟩
        · rw [b7, b8]; exact ho.1 i hi
        · obtain ⟨j, j1, j2⟩ := ho.2 x hx
          exact ⟨j, j1, by rw [b7]; exact j2⟩
      have y9 : gi y 30 9 = gi s 30 9 := kC_g b4 rfl
      obtain ⟨z, z', a1, a2, a3, a4, a5, a6, a7, a8⟩ := ih (i + 1) f f' y y' (by omega) (by omega) (by omega) hp2 b3 ho2 (by
        intro j hj m hm e1 e2
        rw [b7] at e1
        rw [y9] at e2
        by_cases e : m = o
        · rw [e]; exact b9
        · refine b10 m e (hb j ?_ m hm e1 e2)
          by_cases e3 : j = i
          · rw [e3, o2, nj_eq (by omega) (by omega)] at e1
            exact absurd e1.symm e
          · omega)
      refine ⟨z, z', ?_, ?_, a3, a4.trans b4, a5.trans b5, a6.trans b6, fun m hm e => a7 m hm (by rw [y9]; exact e), fun j hj => (a8 j hj).trans (b11 j hj)⟩
      · rw [fX0_goDay_L25]
        simp (disch := omega) only [↓ite_bind, ↓ck_bind, ↓lt_bind, ↓Option.bind_assoc, ↓bd_s, ↓lt_v, ↓ck_v, ↓reduceIte, Bool.false_eq_true, Bool.true_eq_false, bd_s, nj_add, nj_addl, nj_addr, nj_mull, nj_mulr, nj_subr, nj_pred, ix_nI, ix_lit, inb_t, inb_l, nj_le_t, nj_le_f, nj_lel_t, nj_lel_f, nj_ler_t, nj_ler_f, nj_lt_t, nj_lt_f, nj_ltl_t, nj_ltl_f, nj_ltr_t, nj_ltr_f, nj_eq_t, nj_eq_f, nj_eqr_t, nj_eqr_f, nj_m1, nj_m2, h18, h8, o2, hl, b1]
        exact a1
      · rw [fX12_dayGoes_L57]
        rw [h9] at hl
        simp (disch := omega) only [↓ite_bind, ↓ck_bind, ↓lt_bind, ↓Option.bind_assoc, ↓bd_s, ↓lt_v, ↓ck_v, ↓reduceIte, Bool.false_eq_true, Bool.true_eq_false, bd_s, nj_add, nj_addl, nj_addr, nj_mull, nj_mulr, nj_subr, nj_pred, ix_nI, ix_lit, inb_t, inb_l, nj_le_t, nj_le_f, nj_lel_t, nj_lel_f, nj_ler_t, nj_ler_f, nj_lt_t, nj_lt_f, nj_ltl_t, nj_ltl_f, nj_ltr_t, nj_ltr_f, nj_eq_t, nj_eq_f, nj_eqr_t, nj_eqr_f, nj_m1, nj_m2, h4, o3, hl, b2]
        exact a2
theorem hl20 (y : Int32) (s : ST) : fX12_held y.toInt64 (-20) 20 s = some (imx (-20) (imn 20 y)) := by
  unfold fX12_held imx imn
  rw [Int32.toInt32_toInt64]
  simp only [cmp_ge, cmp_le, Int32.toInt64_le]
  by_cases h1 : -20 ≤ y
  · by_cases h2 : y ≤ 20
    · rw [if_pos h1, if_pos h2]; grind
    · rw [if_pos h1, if_neg h2]; grind
  · rw [if_neg h1]; grind
theorem gu_by {e o : Nat} (he : e ≤ 100) (ho : o ≤ 100) : imx (-1) (imn 1 (nI o - nI e)) = if nI o ≤ nI e then (if nI e ≤ nI o then 0 else -1) else 1 := by
  have a1 : 0 ≤ nI o := by rw [nj_lel (by decide) (by omega)]; omega
  have a2 : nI o ≤ 100 := by rw [nj_ler (by omega) (by decide)]; omega
  have a3 : 0 ≤ nI e := by rw [nj_lel (by decide) (by omega)]; omega
  have a4 : nI e ≤ 100 := by rw [nj_ler (by omega) (by decide)]; omega
  unfold imx imn
  generalize nI o = x at *
  generalize nI e = y at *
  grind
theorem im20 (y : Int32) : -20 ≤ imx (-20) (imn 20 y) ∧ imx (-20) (imn 20 y) ≤ 20 := by unfold imx imn; grind
theorem clk_loop {t : PH} {np nm K : Nat} (hn : np ≤ 5) (hnm : nm ≤ 8) (hK : K ≤ 100) : ∀ (k i f f' : Nat) (s s' : ST), i + k = np → k < f → k < f' → mr s 0 = some 18 → gi s 18 7 = nI np → gi s' 1 3 = nI np →
    SR np nm (s.1 32) (lv s') → (∀ q, q < np → -20 ≤ lv s' q ∧ lv s' q ≤ 20) → (∀ q, q < np → ∃ e o, e ≤ K ∧ o ≤ K ∧ gi s' 38 q = nI e ∧ gi s' 39 q = nI o ∧ gi s 40 q = nI o - nI e) →
    ∃ z z', fX0_goDay_L73 t f (nI i) s = some (nI np, z) ∧ fX12_dayGoes_L98 f' (nI i) s' = some (nI np, z') ∧ SR np nm (z.1 32) (lv z') ∧ (∀ q, q < np → -20 ≤ lv z' q ∧ lv z' q ≤ 20) ∧ (∀ j, 5 ≤ j → lv z' j = lv s' j) ∧ (∀ j, np ≤ j → gi z 32 j = gi s 32 j) ∧ Fr [32] s z ∧ Fr [3] s' z' := by
  intro k
  induction k with
  | zero =>
    intro i f f' s s' hi hf hf' h18 h7 h3 hs hb hg
    obtain ⟨f, rfl⟩ : ∃ m, f = m + 1 := ⟨f - 1, by omega⟩
    obtain ⟨f', rfl⟩ : ∃ m, f' = m + 1 := ⟨f' - 1, by omega⟩
    obtain rfl : i = np := by omega
    have h18 : decide (mr s 0 = some 18) = true := decide_eq_true h18
    refine ⟨s, s', ?_, ?_, hs, hb, fun j _ => rfl, fun j _ => rfl, Fr.rfl, Fr.rfl⟩
    · rw [fX0_goDay_L73]
      simp (disch := omega) only [↓ite_bind, ↓ck_bind, ↓lt_bind, ↓Option.bind_assoc, ↓bd_s, ↓lt_v, ↓ck_v, ↓reduceIte, Bool.false_eq_true, Bool.true_eq_false, bd_s, nj_add, nj_addl, nj_addr, nj_mull, nj_mulr, nj_subr, nj_pred, ix_nI, ix_lit, inb_t, inb_l, nj_le_t, nj_le_f, nj_lel_t, nj_lel_f, nj_ler_t, nj_ler_f, nj_lt_t, nj_lt_f, nj_ltl_t, nj_ltl_f, nj_ltr_t, nj_ltr_f, nj_eq_t, nj_eq_f, nj_eqr_t, nj_eqr_f, nj_m1, nj_m2, h18, h7]
    · rw [fX12_dayGoes_L98]
      simp (disch := omega) only [↓ite_bind, ↓ck_bind, ↓lt_bind, ↓Option.bind_assoc, ↓bd_s, ↓lt_v, ↓ck_v, ↓reduceIte, Bool.false_eq_true, Bool.true_eq_false, bd_s, nj_add, nj_addl, nj_addr, nj_mull, nj_mulr, nj_subr, nj_pred, ix_nI, ix_lit, inb_t, inb_l, nj_le_t, nj_le_f, nj_lel_t, nj_lel_f, nj_ler_t, nj_ler_f, nj_lt_t, nj_lt_f, nj_ltl_t, nj_ltl_f, nj_ltr_t, nj_ltr_f, nj_eq_t, nj_eq_f, nj_eqr_t, nj_eqr_f, nj_m1, nj_m2, h3]
  | succ k ih =>
    intro i f f' s s' hi hf hf' h18 h7 h3 hs hb hg
    obtain ⟨f, rfl⟩ : ∃ m, f = m + 1 := ⟨f - 1, by omega⟩
    obtain ⟨f', rfl⟩ : ∃ m, f' = m + 1 := ⟨f' - 1, by omega⟩
    have d18 : decide (mr s 0 = some 18) = true := decide_eq_true h18
    obtain ⟨e, o, g1, g2, g3, g4, g5⟩ := hg i (by omega)
    have hc : gi s 32 i = gi s' 3 i := by rw [lv_clock _ (by omega)]; exact hs _ (by unfold vis; omega)
    obtain ⟨by0, hby⟩ : ∃ u, (if nI o ≤ nI e then (if nI e ≤ nI o then 0 else -1) else 1 : Int32) = u := ⟨_, rfl⟩
    have hbc := gu_by (Nat.le_trans g1 hK) (Nat.le_trans g2 hK)
    rw [hby] at hbc
    have hsc : fX12_setsClock (nI i) s' = some (si s' 3 i (imx (-20) (imn 20 (gi s' 3 i + by0)))) := by
      unfold fX12_setsClock
      by_cases c1 : nI o ≤ nI e
      · by_cases c2 : nI e ≤ nI o
        · rw [if_pos c1, if_pos c2] at hby
          subst hby
          simp (disch := omega) only [↓ite_bind, ↓ck_bind, ↓lt_bind, ↓Option.bind_assoc, ↓bd_s, ↓lt_v, ↓ck_v, ↓reduceIte, Bool.false_eq_true, Bool.true_eq_false, bd_s, nj_add, nj_addl, nj_addr, nj_mull, nj_mulr, nj_subr, nj_pred, ix_nI, ix_lit, inb_t, inb_l, g3, g4, c1, c2, hl20]
        · rw [if_pos c1, if_neg c2] at hby
          subst hby
          simp (disch := omega) only [↓ite_bind, ↓ck_bind, ↓lt_bind, ↓Option.bind_assoc, ↓bd_s, ↓lt_v, ↓ck_v, ↓reduceIte, Bool.false_eq_true, Bool.true_eq_false, bd_s, nj_add, nj_addl, nj_addr, nj_mull, nj_mulr, nj_subr, nj_pred, ix_nI, ix_lit, inb_t, inb_l, g3, g4, c1, c2, hl20]
      · rw [if_neg c1] at hby
        subst hby
        simp (disch := omega) only [↓ite_bind, ↓ck_bind, ↓lt_bind, ↓Option.bind_assoc, ↓bd_s, ↓lt_v, ↓ck_v, ↓reduceIte, Bool.false_eq_true, Bool.true_eq_false, bd_s, nj_add, nj_addl, nj_addr, nj_mull, nj_mulr, nj_subr, nj_pred, ix_nI, ix_lit, inb_t, inb_l, g3, g4, c1, hl20]
    obtain ⟨v, hv⟩ : ∃ v, imx (-20) (imn 20 (gi s' 3 i + by0)) = v := ⟨_, rfl⟩
    have hvb := hv ▸ im20 (gi s' 3 i + by0)
    rw [hv] at hsc
    have hs2 : SR np nm ((si s 32 i v).1 32) (lv (si s' 3 i v)) := by
      intro j hj
      rw [lv_si3 _ (by omega), show (si s 32 i v).1 32 j = gi (si s 32 i v) 32 j from rfl, gi_si, if_pos rfl, upd_eq]
      by_cases e : j = i
      · rw [if_pos e, if_pos e]
      · rw [if_neg e, if_neg e]; exact hs j hj
    obtain ⟨z, z', a1, a2, a3, a4, a5, a6, a7, a8⟩ := ih (i + 1) f f' (si s 32 i v) (si s' 3 i v) (by omega) (by omega) (by omega) h18 (by rw [gi_si, if_neg (by decide)]; exact h7) (by rw [gi_si, if_neg (by decide)]; exact h3) hs2
      (fun q hq => by
        rw [lv_si3 _ (by omega), upd_eq]
        by_cases e : q = i
        · rw [if_pos e]; exact hvb
        · rw [if_neg e]; exact hb q hq)
      (fun q hq => by rw [gi_si, gi_si, gi_si, if_neg (by decide), if_neg (by decide), if_neg (by decide)]; exact hg q hq)
    refine ⟨z, z', ?_, ?_, a3, a4, fun j hj => ?_, fun j hj => ?_, (Fr.si (by decide)).trans a7, (Fr.si (by decide)).trans a8⟩
    · rw [fX0_goDay_L73]
      simp (disch := omega) only [↓ite_bind, ↓ck_bind, ↓lt_bind, ↓Option.bind_assoc, ↓bd_s, ↓lt_v, ↓ck_v, ↓reduceIte, Bool.false_eq_true, Bool.true_eq_false, bd_s, nj_add, nj_addl, nj_addr, nj_mull, nj_mulr, nj_subr, nj_pred, ix_nI, ix_lit, inb_t, inb_l, nj_le_t, nj_le_f, nj_lel_t, nj_lel_f, nj_ler_t, nj_ler_f, nj_lt_t, nj_lt_f, nj_ltl_t, nj_ltl_f, nj_ltr_t, nj_ltr_f, nj_eq_t, nj_eq_f, nj_eqr_t, nj_eqr_f, nj_m1, nj_m2, d18, h7, Nat.zero_add, g5, hbc, hc, hv]
      exact a1
    · rw [fX12_dayGoes_L98]
      simp (disch := omega) only [↓ite_bind, ↓ck_bind, ↓lt_bind, ↓Option.bind_assoc, ↓bd_s, ↓lt_v, ↓ck_v, ↓reduceIte, Bool.false_eq_true, Bool.true_eq_false, bd_s, nj_add, nj_addl, nj_addr, nj_mull, nj_mulr, nj_subr, nj_pred, ix_nI, ix_lit, inb_t, inb_l, nj_le_t, nj_le_f, nj_lel_t, nj_lel_f, nj_ler_t, nj_ler_f, nj_lt_t, nj_lt_f, nj_ltl_t, nj_ltl_f, nj_ltr_t, nj_ltr_f, nj_eq_t, nj_eq_f, nj_eqr_t, nj_eqr_f, nj_m1, nj_m2, h3, hsc]
      exact a2
    · rw [a5 j hj, lv_si3 _ (by omega), upd_eq, if_neg (by omega)]
    · rw [a6 j hj, gi_si, if_pos rfl, if_neg (by omega)]
/-! A DAY -/
theorem day_both {t : PH} {s s' : ST} {np nm y : Nat} (hp : DRp t (kC s) (mr s) (kM s') np nm) (hs : SR np nm (s.1 32) (lv s')) (hb : SB np nm y (lv s')) (hy : y < 999) (hx : gi s' 0 63 ≠ 0 → gi s 30 14 = gi s' 1 11) :
    ∃ z z', fX0_goDay t s = some z ∧ fX12_dayGoes s' = some (gi z' 0 60, z') ∧ SR np nm (z.1 32) (lv z') ∧ SB np nm (y + 1) (lv z') ∧ kC z = kC s ∧ z.2.2 = s.2.2 ∧ kM z' = kM s' ∧ (gi z' 0 63 ≠ 0 → gi z 30 14 = gi z' 1 11) ∧
      gi z 30 15 = gi s 30 15 + gi z' 0 60 ∧ gi z 30 16 = gi s 30 16 + gi z' 0 61 ∧ gi z 30 17 = gi s 30 17 + gi z' 0 62 ∧ (∀ q, q < np → gi z 39 q = gi z' 37 q) ∧ (∀ m, m < nm → nI m ≠ gi s 30 9 → Bk z z' m) ∧ (∀ j, ¬ vis np nm j → gi z 32 j = gi s 32 j) ∧ lv z' 45 = lv s' 45 + 1 ∧ (gi s' 0 63 = 0 → gi z' 1 11 = gi s' 1 11) ∧ ∃ c, c ≤ 1600 ∧ gi z' 0 61 = nI c := by
  obtain ⟨sb1, sb2, y0, y1, y2⟩ := hb
  have hnp : np ≤ 5 := hp.1
  have hnm : nm ≤ 8 := hp.2.1
  have h18 : mr s 0 = some 18 := hp.2.2.1
  have h7 : gi s 18 7 = nI np := by rw [← kC_v rfl]; exact hp.2.2.2.1
  have h3 : gi s' 1 3 = nI np := by rw [← kM_v rfl]; exact hp.2.2.2.2.1
  have h8 : gi s 18 8 = nI nm := by rw [← kC_v rfl]; exact hp.2.2.2.2.2.1
  have h4 : gi s' 1 4 = nI nm := by rw [← kM_v rfl]; exact hp.2.2.2.2.2.2.1
  -- the begin
  obtain ⟨f1, u1, u2, u3⟩ := fill_39 (-1000000) s
  obtain ⟨f2, u4, u5, u6⟩ := fill_40 0 f1
  have hmm : ∀ j, j < nm → gi f2 32 (20 + j) = gi s' 9 j := by
    intro j hj
    rw [u6.gi (by decide), u3.gi (by decide), lv_minute _ (by omega)]
    exact hs _ (by unfold vis; omega)
  obtain ⟨f3, l1, o1, o2, o3, o4, o5⟩ := ord_out hnm nm 0 FUEL FUEL f2 s' (by omega) (by rw [FUEL_eq]; omega) (by rw [FUEL_eq]; omega) ⟨fun i hi => absurd hi (by omega), fun x hx => absurd hx (by omega)⟩ hmm (by rw [u6.gi (by decide), u3.gi (by decide)]; exact h8) h4
  obtain ⟨l2, v1, v2, v3, v4, v5⟩ := lays21 5 0 FUEL (si (si (si l1 0 60 0) 0 61 0) 0 62 0) (by omega) (by rw [FUEL_eq]; omega)
  have v5b : Fr [0, 36, 37, 38, 39] s' l2 := ((o5.mono (by decide)).trans (((Fr.si (by decide)).trans (Fr.si (by decide))).trans (Fr.si (by decide)))).trans (v5.mono (by decide))
  have u7 : Fr [34, 39, 40] s f3 := ((u3.mono (by decide)).trans (u6.mono (by decide))).trans (o4.mono (by decide))
  have kc3 : kC f3 = kC s := u7.kC (by
    intro x hx j
    simp only [List.mem_cons, List.not_mem_nil, or_false] at hx
    rcases hx with rfl | rfl | rfl <;> rfl)
  have km2 : kM l2 = kM s' := by
    have k1 : kM l1 = kM s' := o5.kM (by
      intro x hx j
      simp only [List.mem_cons, List.not_mem_nil, or_false] at hx
      subst hx; rfl)
    have k2 : kM (si (si (si l1 0 60 0) 0 61 0) 0 62 0) = kM l1 := by rw [kM_si rfl, kM_si rfl, kM_si rfl]
    have k3 : kM l2 = kM (si (si (si l1 0 60 0) 0 61 0) 0 62 0) := v5.kM (by
      intro x hx j
      simp only [List.mem_cons, List.not_mem_nil, or_false] at hx
      rcases hx with rfl | rfl | rfl <;> rfl)
    rw [k3, k2, k1]
  have lvl2 : lv l2 = lv s' := by
    have k3 : lv l2 = lv (si (si (si l1 0 60 0) 0 61 0) 0 62 0) := v5.lv (by decide) (by decide) (by decide) (by decide) (by decide) (by decide) (by decide) (by decide)
    rw [k3, lv_si_o _ (by decide), lv_si_o _ (by decide), lv_si_o _ (by decide)]
    exact o5.lv (by decide) (by decide) (by decide) (by decide) (by decide) (by decide) (by decide) (by decide)
  have mr3 : mr f3 = mr s := funext u7.mr
  have hp3 : DRp t (kC f3) (mr f3) (kM l2) np nm := by rw [kc3, km2, mr3]; exact hp
  have c60 : gi l2 0 60 = 0 ∧ gi l2 0 61 = 0 ∧ gi l2 0 62 = 0 := by
    refine ⟨?_, ?_, ?_⟩ <;> (rw [v5.gi (by decide)]; simp only [gi_si, Nat.reduceEqDiff, if_true, if_false])
  have hr3 : DRd np nm 0 (gi s 30 15) (gi s 30 16) (gi s 30 17) (lv s' 45) (gi s' 1 11) f3 l2 := by
    refine ⟨?_, ?_, ?_, ?_, ?_, ?_, ?_, ?_, ?_, ?_⟩
    · rw [lvl2, u7.1 32 (by decide)]; exact hs
    · rw [lvl2]; exact sb1
    · rw [lvl2]; exact sb2
    · exact ⟨by rw [lvl2], fun _ => v5b.gi (by decide) 11, 0, by omega, c60.2.1⟩
    · intro q hq
      rw [o4.gi (by decide), u6.gi (by decide), u2, v2, if_pos (by omega), if_pos (by omega)]
      exact ⟨rfl, by decide, by decide⟩
    · intro q hq
      refine ⟨0, 0, Nat.le_refl 0, Nat.le_refl 0, ?_, ?_, ?_⟩
      · rw [v3, if_pos (by omega)]; rfl
      · rw [v4, if_pos (by omega)]; rfl
      · rw [o4.gi (by decide), u5, if_pos (by omega)]; rfl
    · rw [c60.1, u7.gi (by decide)]; grind
    · rw [c60.2.1, u7.gi (by decide)]; grind
    · rw [c60.2.2, u7.gi (by decide)]; grind
    · intro h
      rw [v5b.gi (by decide : 1 ∉ [0, 36, 37, 38, 39]), u7.gi (by decide)]
      apply hx
      have := kM_g km2 (a := 0) (j := 63) rfl
      rwa [this] at h
  have or3 : Or1 nm f3 l2 := by
    refine ⟨fun i hi => ?_, o3.2⟩
    obtain ⟨o, q1, q2, q3⟩ := o3.1 i hi
    refine ⟨o, q1, q2, ?_⟩
    rw [v5.gi (by decide), gi_si, if_neg (by decide), gi_si, if_neg (by decide), gi_si, if_neg (by decide)]
    exact q3
  obtain ⟨f4, l4, a1, a2, a3, a4, a5, a6, a7, a8⟩ := go_loop hnm nm 0 FUEL FUEL f3 l2 (by omega) (by rw [FUEL_eq]; omega) (by rw [FUEL_eq]; omega) hp3 hr3 or3 (fun j hj => absurd hj (by omega))
  have g9 : gi f3 30 9 = gi s 30 9 := u7.gi (by decide) 9
  rw [g9] at a7
  obtain ⟨r1, r2, r3, r4, r5, r6, r7, r8, r9, r10⟩ := a3
  have kc4 : kC f4 = kC s := a4.trans kc3
  have km4 : kM l4 = kM s' := a6.trans km2
  have q18 : mr f4 0 = some 18 := by unfold mr; rw [a5]; rw [← h18, ← mr3]; rfl
  obtain ⟨f5, l5, b1, b2, b3, b4, b5, b6, b7, b8⟩ := clk_loop (t := t) (np := np) (nm := nm) (K := nm) hnp hnm (by omega) np 0 FUEL FUEL f4 l4 (by omega) (by rw [FUEL_eq]; omega) (by rw [FUEL_eq]; omega) q18 (by rw [kC_g kc4 rfl]; exact h7) (by rw [kM_g km4 rfl]; exact h3) r1 r2 r6
  have d5 : lv l5 45 = nI y0 := by rw [b5 45 (by omega), r4.1, y2]
  have d5b : gi l5 1 9 = nI y0 := d5
  have d5c : gi f5 32 45 = nI y0 := by
    have := b3 45 (by unfold vis; omega)
    exact this.trans d5
  have e999 : imn 999 (nI (y0 + 1)) = nI (y0 + 1) := by
    unfold imn
    by_cases h : y0 + 1 < 999
    · rw [if_pos (by rw [nj_ltr (by omega) (by decide)]; exact h)]
    · rw [if_neg (by rw [nj_ltr (by omega) (by decide)]; exact h), show y0 + 1 = 999 by omega]; rfl
  refine ⟨si f5 32 45 (nI (y0 + 1)), si l5 1 9 (nI (y0 + 1)), ?_, ?_, ?_, ?_, ?_, ?_, ?_, ?_, ?_, ?_, ?_, ?_, ?_, ?_, ?_⟩
  · unfold fX0_goDay fX1_open_18_31
    rw [show (0 : Int32) = nI 0 from rfl] at *
    simp (disch := omega) only [h18, om, decide_true, ↓ite_bind, ↓ck_bind, ↓lt_bind, ↓Option.bind_assoc, ↓bd_s, ↓lt_v, ↓ck_v, ↓reduceIte, Bool.false_eq_true, Bool.true_eq_false, bd_s, nj_add, nj_addl, nj_addr, nj_mull, nj_mulr, nj_subr, nj_pred, ix_nI, ix_lit, inb_t, inb_l, u1, u4, o1, a1, b1, d5c, e999]
  · unfold fX12_dayGoes fX12_laysOrder
    rw [show (0 : Int32) = nI 0 from rfl] at *
    simp (disch := omega) only [↓ite_bind, ↓ck_bind, ↓lt_bind, ↓Option.bind_assoc, ↓bd_s, ↓lt_v, ↓ck_v, ↓reduceIte, Bool.false_eq_true, Bool.true_eq_false, bd_s, nj_add, nj_addl, nj_addr, nj_mull, nj_mulr, nj_subr, nj_pred, ix_nI, ix_lit, inb_t, inb_l, gi_si, gi_sl, gl_si, gl_sl, gi_sAr, gl_sAr, mr_si, mr_sl, mr_sm, gi_sm, gl_sm, mr_sAr, Nat.reduceEqDiff, o2, v1, a2, b2, d5b]
  · intro j hj
    rw [show (si f5 32 45 (nI (y0 + 1))).1 32 j = gi (si f5 32 45 (nI (y0 + 1))) 32 j from rfl, gi_si, if_pos rfl, lv_day _ _ (by unfold vis at hj; omega), upd_eq]
    by_cases e : j = 45
    · rw [if_pos e, if_pos e]
    · rw [if_neg e, if_neg e]; exact b3 j hj
  · refine ⟨fun q hq => ?_, fun m hm => ?_, y0 + 1, by omega, ?_⟩
    · rw [lv_day _ _ (by omega), upd_eq, if_neg (by omega)]; exact b4 q hq
    · rw [lv_day _ _ (by omega), upd_eq, if_neg (by omega), b5 _ (by omega)]; exact r3 m hm
    · rw [lv_day _ _ (by omega), upd_eq, if_pos rfl]
  · rw [kC_si rfl]
    exact (b7.kC (by
      intro x hx j
      simp only [List.mem_cons, List.not_mem_nil, or_false] at hx
      subst hx; rfl)).trans kc4
  · show f5.2.2 = s.2.2
    rw [b7.2, a5, u7.2]
  · rw [kM_si rfl]
    exact (b8.kM (by
      intro x hx j
      simp only [List.mem_cons, List.not_mem_nil, or_false] at hx
      subst hx; rfl)).trans km4
  · intro h
    rw [gi_si, if_neg (by decide), b8.gi (by decide)] at h
    rw [gi_si, if_neg (by decide), gi_si, if_pos rfl, if_neg (by decide), b7.gi (by decide), b8.gi (by decide)]
    exact r10 h
  · rw [gi_si, if_neg (by decide), gi_si, if_neg (by decide), b7.gi (by decide), b8.gi (by decide)]; exact r7
  · rw [gi_si, if_neg (by decide), gi_si, if_neg (by decide), b7.gi (by decide), b8.gi (by decide)]; exact r8
  · rw [gi_si, if_neg (by decide), gi_si, if_neg (by decide), b7.gi (by decide), b8.gi (by decide)]; exact r9
  · intro q hq
    rw [gi_si, if_neg (by decide), gi_si, if_neg (by decide), b7.gi (by decide), b8.gi (by decide)]; exact (r5 q hq).1
  · intro m hm e
    obtain ⟨w1, w2, w3, w4, w5, w6⟩ := a7 m hm e
    unfold Bk
    simp only [gi_si, Nat.reduceEqDiff, if_false, b7.gi (show 35 ∉ [32] by decide), b7.gi (show 36 ∉ [32] by decide), b7.gi (show 37 ∉ [32] by decide), b7.gi (show 38 ∉ [32] by decide), b8.gi (show 40 ∉ [3] by decide), b8.gi (show 41 ∉ [3] by decide), b8.gi (show 42 ∉ [3] by decide), b8.gi (show 43 ∉ [3] by decide), b8.gi (show 44 ∉ [3] by decide), b8.gi (show 45 ∉ [3] by decide)]
    exact ⟨w1, w2, w3, w4, w5, w6⟩
  · intro j hj
    have hj2 := hj
    unfold vis at hj
    rw [gi_si, if_pos rfl, if_neg (by omega), b6 j (by omega), a8 j hj2, u7.gi (by decide)]
  · refine ⟨?_, fun h => ?_, ?_⟩
    · rw [lv_day _ _ (by omega), upd_eq, if_pos rfl, y2]
      exact (nj_addr y0 1).symm
    · rw [gi_si, if_pos rfl, if_neg (by decide), b8.gi (by decide)]
      exact r4.2.1 (by rw [kM_g km4 rfl]; exact h)
    · obtain ⟨c, c1, c2⟩ := r4.2.2
      exact ⟨c, by omega, by rw [gi_si, if_neg (by decide), b8.gi (by decide)]; exact c2⟩
