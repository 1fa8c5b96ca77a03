def hl (y : Int64) : Int32 := if y < -30 then -30 else if 120 < y then 120 else y.toInt32
theorem hl_c (y : Int64) : (lmx (-30) (lmn 120 y)).toInt32 = hl y := by
  unfold lmx lmn hl
  by_cases h1 : y < -30
  · rw [if_pos h1, if_pos (by grind)]; rfl
  · rw [if_neg h1]
    by_cases h2 : 120 < y
    · rw [if_pos h2, if_neg (by grind : ¬ y < 120)]; rfl
    · rw [if_neg h2]
      by_cases h3 : y < 120
      · rw [if_pos h3, if_neg h1]
      · rw [if_neg h3, show y = 120 by grind]; rfl
theorem hl_m (y : Int64) (s : ST) : fX12_held y (-30) 120 s = some (hl y) := by
  unfold fX12_held
  rw [show (-30 : Int32).toInt64 = -30 from rfl, show (120 : Int32).toInt64 = 120 from rfl]
  simp only [cmp_ge, cmp_le]
  unfold hl
  by_cases h1 : y < -30
  · rw [if_pos h1, if_neg (by grind)]; rfl
  · rw [if_neg h1, if_pos (by grind)]
    by_cases h2 : 120 < y
    · rw [if_pos h2, if_neg (by grind)]; rfl
    · rw [if_neg h2, if_pos (by grind)]; rfl
theorem hl_b (y : Int64) : -30 ≤ hl y ∧ hl y ≤ 120 := by
  unfold hl
  by_cases h1 : y < -30
  · rw [if_pos h1]; decide
  · rw [if_neg h1]
    by_cases h2 : 120 < y
    · rw [if_pos h2]; decide
    · rw [if_neg h2]
      have e1 : ¬ y.toInt < -30 := fun h => h1 (Int64.lt_iff_toInt_lt.mpr h)
      have e2 : ¬ 120 < y.toInt := fun h => h2 (Int64.lt_iff_toInt_lt.mpr h)
      have e3 : y.toInt32.toInt = y.toInt := by
        rw [Int64.toInt_toInt32, Int.bmod_def]; omega
      rw [Int32.le_iff_toInt_le, Int32.le_iff_toInt_le, e3]
      exact ⟨by show -30 ≤ _; omega, by show _ ≤ 120; omega⟩
theorem hl_i (x : Int32) (h1 : -30 ≤ x) (h2 : x ≤ 120) : hl x.toInt64 = x := by
  unfold hl
  rw [if_neg, if_neg]
  · exact Int32.toInt32_toInt64 x
  · rw [show (120 : Int64) = (120 : Int32).toInt64 from rfl, Int32.toInt64_lt]; grind
  · rw [show (-30 : Int64) = (-30 : Int32).toInt64 from rfl, Int32.toInt64_lt]; grind
theorem hl_n (x : Int32) : hl x.toInt64 = imx (-30) (imn 120 x) := by
  unfold hl imx imn
  rw [show (120 : Int64) = (120 : Int32).toInt64 from rfl, show (-30 : Int64) = (-30 : Int32).toInt64 from rfl]
  simp only [Int32.toInt64_lt, Int32.toInt32_toInt64]
  grind
theorem eq1_01 {y : Int64} (h : y = 0 ∨ y = 1) : (y = 1) = ¬ (y = 0) := by
  rcases h with rfl | rfl <;> decide
theorem meant_L {t : PH} {q r n L : Nat} {S T : Nat → Nat} {e : Nat → Nat × Nat} (hr : r < 6) (hn : n ≤ 12) (hL : L ≤ 300) (hal : alT t (q + 1) = L) (hal2 : alT t (q + 2) = n + 1) (hal3 : alT t (q + 3) = n) :
    ∀ (k c f f' : Nat) (s s' : ST), c + k = n → k < f → k < f' → gi s q 0 = nI n → gi s' 29 r = nI n →
    (∀ c, c ≤ n → S c ≤ L ∧ gi s (q + 2) c = nI (S c)) →
    (∀ c, c < n → S c ≤ T c ∧ T c ≤ S (c + 1) ∧ gi s (q + 3) c = nI (T c) ∧ gi s' 30 (12 * r + c) = nI (S c) ∧ gi s' 31 (12 * r + c) = nI (T c) ∧ gi s' 32 (12 * r + c) = nI (S (c + 1)) ∧ tyR e (T c - S c) (S c) [] = some [false] ∧ (T c < S (c + 1) → tyR e (S (c + 1) - T c) (T c) [] = some [true])) →
    (∀ i, i < L → gi s (q + 1) i = nI (sg (e i).1 + 32 * (e i).2) ∧ gi s' 27 (300 * r + i) = nI (e i).1 ∧ gi s' 28 (300 * r + i) = nI (e i).2 ∧ (e i).2 ≤ 99999) →
    (∀ v, v < 14 → gl s' 34 v = (gi s 42 v).toInt64) →
    ∃ y s2 s2', fX2_minutesMeant_Rl_42_43_L2 q t f (nI c) s = some (hl y, s2) ∧ fX12_meant_L13 (nI r) f' (nI (12 * r + c)) s' = some (y, s2') ∧ LL s s2 ∧ LL s' s2' := by
  intro k
  induction k with
  | zero =>
    intro c f f' s s' hc hf hf' h0 h0' hS hT he hw
    obtain ⟨f, rfl⟩ : ∃ m, f = m + 1 := ⟨f - 1, by omega⟩
    obtain ⟨f', rfl⟩ : ∃ m, f' = m + 1 := ⟨f' - 1, by omega⟩
    obtain rfl : c = n := by omega
    refine ⟨0, s, s', ?_, ?_, LL.rfl, LL.rfl⟩
    · rw [fX2_minutesMeant_Rl_42_43_L2]
      simp (disch := omega) only [↓ite_bind, ↓ck_bind, ↓lt_bind, ↓Option.bind_assoc, ↓bd_s, ↓lt_v, ↓ck_v, ↓reduceIte, Bool.false_eq_true, Bool.true_eq_false, nj_add, nj_addl, nj_addr, nj_mull, nj_mulr, nj_subr, nj_pred, ix_nI, ix_lit, inb_t, inb_l, nj_le_t, nj_le_f, nj_lel_t, nj_lel_f, nj_ler_t, nj_ler_f, nj_lt_t, nj_lt_f, nj_ltl_t, nj_ltl_f, nj_ltr_t, nj_ltr_f, nj_eq_t, nj_eq_f, nj_eqr_t, nj_eqr_f, nj_m1, nj_m2, h0]
      rfl
    · rw [fX12_meant_L13]
      simp (disch := omega) only [↓ite_bind, ↓ck_bind, ↓lt_bind, ↓Option.bind_assoc, ↓bd_s, ↓lt_v, ↓ck_v, ↓reduceIte, Bool.false_eq_true, Bool.true_eq_false, nj_add, nj_addl, nj_addr, nj_mull, nj_mulr, nj_subr, nj_pred, ix_nI, ix_lit, inb_t, inb_l, nj_le_t, nj_le_f, nj_lel_t, nj_lel_f, nj_ler_t, nj_ler_f, nj_lt_t, nj_lt_f, nj_ltl_t, nj_ltl_f, nj_ltr_t, nj_ltr_f, nj_eq_t, nj_eq_f, nj_eqr_t, nj_eqr_f, nj_m1, nj_m2, h0']
  | succ k ih =>
    intro c f f' s s' hc hf hf' h0 h0' hS hT he hw
    obtain ⟨f, rfl⟩ : ∃ m, f = m + 1 := ⟨f - 1, by omega⟩
    obtain ⟨f', rfl⟩ : ∃ m, f' = m + 1 := ⟨f' - 1, by omega⟩
    obtain ⟨t1, t2, t3, t4, t5, t6, t7, t8⟩ := hT c (by omega)
    obtain ⟨s1, s2⟩ := hS c (by omega)
    obtain ⟨s3, s4⟩ := hS (c + 1) (by omega)
    rw [fX2_minutesMeant_Rl_42_43_L2, fX12_meant_L13]
    have b1 : T c < 2147483648 := by omega
    have b2 : S (c + 1) < 2147483648 := by omega
    by_cases hq : T c = S (c + 1)
    · obtain ⟨y, z, z', a1, a2, a3, a4, a5, a6⟩ := reck_ans hal hL hr (by omega) t1 t7 he hw
      refine ⟨y, z, z', ?_, ?_, a3, a4⟩
      · rw [← hq] at s4
        simp (disch := omega) only [↓ite_bind, ↓ck_bind, ↓lt_bind, ↓Option.bind_assoc, ↓bd_s, ↓lt_v, ↓ck_v, ↓reduceIte, Bool.false_eq_true, Bool.true_eq_false, nj_add, nj_addl, nj_addr, nj_mull, nj_mulr, nj_subr, nj_pred, ix_nI, ix_lit, inb_t, inb_l, nj_le_t, nj_le_f, nj_lel_t, nj_lel_f, nj_ler_t, nj_ler_f, nj_lt_t, nj_lt_f, nj_ltl_t, nj_ltl_f, nj_ltr_t, nj_ltr_f, nj_eq_t, nj_eq_f, nj_eqr_t, nj_eqr_f, nj_m1, nj_m2, h0, t3, s2, s4, a1, hl_c]
      · rw [← hq] at t6
        simp (disch := omega) only [↓ite_bind, ↓ck_bind, ↓lt_bind, ↓Option.bind_assoc, ↓bd_s, ↓lt_v, ↓ck_v, ↓reduceIte, Bool.false_eq_true, Bool.true_eq_false, nj_add, nj_addl, nj_addr, nj_mull, nj_mulr, nj_subr, nj_pred, ix_nI, ix_lit, inb_t, inb_l, nj_le_t, nj_le_f, nj_lel_t, nj_lel_f, nj_ler_t, nj_ler_f, nj_lt_t, nj_lt_f, nj_ltl_t, nj_ltl_f, nj_ltr_t, nj_ltr_f, nj_eq_t, nj_eq_f, nj_eqr_t, nj_eqr_f, nj_m1, nj_m2, h0', t4, t5, t6, a2]
    · obtain ⟨y, z, z', a1, a2, a3, a4, a5, a6⟩ := reck_ans hal hL hr s3 t2 (t8 (by omega)) he hw
      have a6 := a6 rfl
      by_cases hy : y = 0
      · obtain ⟨y2, w, w', d1, d2, d3, d4⟩ := ih (c + 1) f f' z z' (by omega) (by omega) (by omega) (by rw [a3.gi]; exact h0) (by rw [a4.gi]; exact h0') (fun c hc => by rw [a3.gi]; exact hS c hc)
          (fun c hc => by rw [a3.gi, a4.gi, a4.gi, a4.gi]; exact hT c hc) (fun i hi => by rw [a3.gi, a4.gi, a4.gi]; exact he i hi) (fun v hv => by rw [a3.gi, a5]; exact hw v hv)
        refine ⟨y2, w, w', ?_, ?_, a3.trans d3, a4.trans d4⟩
        · simp (disch := omega) only [↓ite_bind, ↓ck_bind, ↓lt_bind, ↓Option.bind_assoc, ↓bd_s, ↓lt_v, ↓ck_v, ↓reduceIte, Bool.false_eq_true, Bool.true_eq_false, nj_add, nj_addl, nj_addr, nj_mull, nj_mulr, nj_subr, nj_pred, ix_nI, ix_lit, inb_t, inb_l, nj_le_t, nj_le_f, nj_lel_t, nj_lel_f, nj_ler_t, nj_ler_f, nj_lt_t, nj_lt_f, nj_ltl_t, nj_ltl_f, nj_ltr_t, nj_ltr_f, nj_eq_t, nj_eq_f, nj_eqr_t, nj_eqr_f, nj_m1, nj_m2, h0, t3, s2, s4, a1, cmp_eq, hy]
          exact d1
        · simp (disch := omega) only [↓ite_bind, ↓ck_bind, ↓lt_bind, ↓Option.bind_assoc, ↓bd_s, ↓lt_v, ↓ck_v, ↓reduceIte, Bool.false_eq_true, Bool.true_eq_false, nj_add, nj_addl, nj_addr, nj_mull, nj_mulr, nj_subr, nj_pred, ix_nI, ix_lit, inb_t, inb_l, nj_le_t, nj_le_f, nj_lel_t, nj_lel_f, nj_ler_t, nj_ler_f, nj_lt_t, nj_lt_f, nj_ltl_t, nj_ltl_f, nj_ltr_t, nj_ltr_f, nj_eq_t, nj_eq_f, nj_eqr_t, nj_eqr_f, nj_m1, nj_m2, h0', t4, t5, t6, a2, cmp_eq, eq1_01 a6, hy, not_true_eq_false]
          rw [Nat.add_assoc]
          exact d2
      · obtain ⟨y2, w, w', d1, d2, d3, d4, d5, d6⟩ := reck_ans (s := z) (s' := z') hal hL hr (by omega) t1 t7 (fun i hi => by rw [a3.gi, a4.gi, a4.gi]; exact he i hi) (fun v hv => by rw [a3.gi, a5]; exact hw v hv)
        refine ⟨y2, w, w', ?_, ?_, a3.trans d3, a4.trans d4⟩
        · simp (disch := omega) only [↓ite_bind, ↓ck_bind, ↓lt_bind, ↓Option.bind_assoc, ↓bd_s, ↓lt_v, ↓ck_v, ↓reduceIte, Bool.false_eq_true, Bool.true_eq_false, nj_add, nj_addl, nj_addr, nj_mull, nj_mulr, nj_subr, nj_pred, ix_nI, ix_lit, inb_t, inb_l, nj_le_t, nj_le_f, nj_lel_t, nj_lel_f, nj_ler_t, nj_ler_f, nj_lt_t, nj_lt_f, nj_ltl_t, nj_ltl_f, nj_ltr_t, nj_ltr_f, nj_eq_t, nj_eq_f, nj_eqr_t, nj_eqr_f, nj_m1, nj_m2, h0, t3, s2, s4, a1, cmp_eq, hy, a3.gi, d1, hl_c]
        · simp (disch := omega) only [↓ite_bind, ↓ck_bind, ↓lt_bind, ↓Option.bind_assoc, ↓bd_s, ↓lt_v, ↓ck_v, ↓reduceIte, Bool.false_eq_true, Bool.true_eq_false, nj_add, nj_addl, nj_addr, nj_mull, nj_mulr, nj_subr, nj_pred, ix_nI, ix_lit, inb_t, inb_l, nj_le_t, nj_le_f, nj_lel_t, nj_lel_f, nj_ler_t, nj_ler_f, nj_lt_t, nj_lt_f, nj_ltl_t, nj_ltl_f, nj_ltr_t, nj_ltr_f, nj_eq_t, nj_eq_f, nj_eqr_t, nj_eqr_f, nj_m1, nj_m2, h0', t4, t5, t6, a2, cmp_eq, eq1_01 a6, hy, not_false_eq_true, a4.gi, d2]
