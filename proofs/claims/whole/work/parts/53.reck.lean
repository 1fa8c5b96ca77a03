theorem tyS_num {x : Nat × Nat} {T T1 : List Bool} (h : tyS x T = some T1) :
    (x.1 = 0 ∧ x.2 ≤ 99999 ∧ T.length < 60 ∧ T1 = false :: T) ∨ (x.1 = 1 ∧ x.2 < 14 ∧ T.length < 60 ∧ T1 = false :: T) ∨ (x.1 = 9 ∧ ∃ U, T = true :: U ∧ T1 = true :: U) ∨
    ((x.1 = 10 ∨ x.1 = 11) ∧ ∃ U, T = true :: true :: U ∧ T1 = true :: U) ∨ ((4 ≤ x.1 ∧ x.1 ≤ 8) ∧ ∃ U, T = false :: false :: U ∧ T1 = true :: U) ∨ ((x.1 = 2 ∨ x.1 = 3 ∨ x.1 = 13 ∨ x.1 = 14 ∨ x.1 = 15) ∧ ∃ U, T = false :: false :: U ∧ T1 = false :: U) := by
  unfold tyS at h
  by_cases h0 : x.1 = 0
  · rw [if_pos h0] at h
    by_cases h1 : x.2 ≤ 99999 ∧ T.length < 60
    · rw [if_pos h1] at h; exact Or.inl ⟨h0, h1.1, h1.2, (Option.some.inj h).symm⟩
    · rw [if_neg h1] at h; cases h
  rw [if_neg h0] at h
  by_cases h2 : x.1 = 1
  · rw [if_pos h2] at h
    by_cases h1 : x.2 < 14 ∧ T.length < 60
    · rw [if_pos h1] at h; exact Or.inr (Or.inl ⟨h2, h1.1, h1.2, (Option.some.inj h).symm⟩)
    · rw [if_neg h1] at h; cases h
  rw [if_neg h2] at h
  by_cases h3 : x.1 = 9
  · rw [if_pos h3] at h
    split at h
    · exact Or.inr (Or.inr (Or.inl ⟨h3, _, rfl, (Option.some.inj h).symm⟩))
    · cases h
  rw [if_neg h3] at h
  by_cases h4 : x.1 = 10 ∨ x.1 = 11
  · rw [if_pos h4] at h
    split at h
    · exact Or.inr (Or.inr (Or.inr (Or.inl ⟨h4, _, rfl, (Option.some.inj h).symm⟩)))
    · cases h
  rw [if_neg h4] at h
  by_cases h5 : 4 ≤ x.1 ∧ x.1 ≤ 8
  · rw [if_pos h5] at h
    split at h
    · exact Or.inr (Or.inr (Or.inr (Or.inr (Or.inl ⟨h5, _, rfl, (Option.some.inj h).symm⟩))))
    · cases h
  rw [if_neg h5] at h
  by_cases h6 : x.1 = 2 ∨ x.1 = 3 ∨ x.1 = 13 ∨ x.1 = 14 ∨ x.1 = 15
  · rw [if_pos h6] at h
    split at h
    · exact Or.inr (Or.inr (Or.inr (Or.inr (Or.inr ⟨h6, _, rfl, (Option.some.inj h).symm⟩))))
    · cases h
  · rw [if_neg h6] at h; cases h
theorem not01 {y : Int64} (h : y = 0 ∨ y = 1) : 1 - y = 0 ∨ 1 - y = 1 := by rcases h with rfl | rfl <;> decide
theorem sg_b {k : Nat} (h : k = 2 ∨ k = 3 ∨ k = 13 ∨ k = 14 ∨ k = 15 ∨ (4 ≤ k ∧ k ≤ 8) ∨ k = 10 ∨ k = 11) : sg k < 32 ∧ sg k ≠ 0 ∧ sg k ≠ 1 ∧ sg k ≠ 14 ∧ k < 32 ∧ k ≠ 0 ∧ k ≠ 1 ∧ k ≠ 9 := by
  have hk : k = 2 ∨ k = 3 ∨ k = 4 ∨ k = 5 ∨ k = 6 ∨ k = 7 ∨ k = 8 ∨ k = 10 ∨ k = 11 ∨ k = 13 ∨ k = 14 ∨ k = 15 := by omega
  rcases hk with rfl | rfl | rfl | rfl | rfl | rfl | rfl | rfl | rfl | rfl | rfl | rfl <;> decide
/-- what reckoning leaves: rows of ints, references, the reference's words -/
def LL (s s2 : ST) : Prop := s2.1 = s.1 ∧ s2.2.2 = s.2.2
theorem LL.rfl {s : ST} : LL s s := ⟨Eq.refl _, Eq.refl _⟩
theorem LL.trans {a b c : ST} (h : LL a b) (k : LL b c) : LL a c := ⟨k.1.trans h.1, k.2.trans h.2⟩
theorem LL.gi {s s2 : ST} (h : LL s s2) (a j : Nat) : gi s2 a j = gi s a j := by unfold Pilot.CLateAlwaysLaw_law_r2871_b4f2b9.gi; rw [h.1]
theorem LL_sl {s : ST} {a j : Nat} {x : Int64} : LL s (sl s a j x) := ⟨Eq.refl _, Eq.refl _⟩
theorem reck {t : PH} {q r L to : Nat} {e : Nat → Nat × Nat} (hal : alT t (q + 1) = L) (hL : L ≤ 300) (hr : r < 6) (hto : to ≤ L) : ∀ (k i : Nat) (T T2 : List Bool) (n n' : Nat) (s s' : ST), i + k = to → k < n → k < n' → tyR e k i T = some T2 → T.length ≤ 60 →
    (∀ i, i < L → gi s (q + 1) i = nI (sg (e i).1 + 32 * (e i).2) ∧ gi s' 27 (300 * r + i) = nI (e i).1 ∧ gi s' 28 (300 * r + i) = nI (e i).2 ∧ (e i).2 ≤ 99999) →
    (∀ v, v < 14 → gl s' 34 v = (gi s 42 v).toInt64) → KS (s.2.1 43) (s'.2.1 35) T →
    ∃ s2 s2', fX2_reckon_Rl_42_43_L6 (nI to) q t n (nI T.length) (nI i) s = some (nI T2.length, nI to, s2) ∧ fX12_answer_L6 (nI r) (nI to) n' (nI T.length) (nI i) s' = some (nI T2.length, nI to, s2') ∧ LL s s2 ∧ LL s' s2' ∧ (∀ v, gl s2' 34 v = gl s' 34 v) ∧ KS (s2.2.1 43) (s2'.2.1 35) T2 := by
  intro k
  induction k with
  | zero =>
    intro i T T2 n n' s s' hi hn hn' ht hT hc hw hk
    obtain ⟨n, rfl⟩ : ∃ m, n = m + 1 := ⟨n - 1, by omega⟩
    obtain ⟨n', rfl⟩ : ∃ m, n' = m + 1 := ⟨n' - 1, by omega⟩
    obtain rfl : i = to := by omega
    obtain rfl : T = T2 := Option.some.inj ht
    refine ⟨s, s', ?_, ?_, LL.rfl, LL.rfl, fun v => rfl, hk⟩
    · rw [fX2_reckon_Rl_42_43_L6]
      simp (disch := omega) only [↓ite_bind, ↓ck_bind, ↓lt_bind, ↓Option.bind_assoc, ↓bd_s, ↓lt_v, ↓ck_v, ↓reduceIte, Bool.false_eq_true, Bool.true_eq_false, nj_add, nj_addl, nj_addr, nj_mull, nj_mulr, nj_subr, nj_pred, ix_nI, ix_lit, inb_t, inb_l, nj_le_t, nj_le_f, nj_lel_t, nj_lel_f, nj_ler_t, nj_ler_f, nj_lt_t, nj_lt_f, nj_ltl_t, nj_ltl_f, nj_ltr_t, nj_ltr_f, nj_eq_t, nj_eq_f, nj_eqr_t, nj_eqr_f, nj_m1, nj_m2]
    · rw [fX12_answer_L6]
      simp (disch := omega) only [↓ite_bind, ↓ck_bind, ↓lt_bind, ↓Option.bind_assoc, ↓bd_s, ↓lt_v, ↓ck_v, ↓reduceIte, Bool.false_eq_true, Bool.true_eq_false, nj_add, nj_addl, nj_addr, nj_mull, nj_mulr, nj_subr, nj_pred, ix_nI, ix_lit, inb_t, inb_l, nj_le_t, nj_le_f, nj_lel_t, nj_lel_f, nj_ler_t, nj_ler_f, nj_lt_t, nj_lt_f, nj_ltl_t, nj_ltl_f, nj_ltr_t, nj_ltr_f, nj_eq_t, nj_eq_f, nj_eqr_t, nj_eqr_f, nj_m1, nj_m2]
  | succ k ih =>
    intro i T T2 n n' s s' hi hn hn' ht hT hc hw hk
    obtain ⟨n, rfl⟩ : ∃ m, n = m + 1 := ⟨n - 1, by omega⟩
    obtain ⟨n', rfl⟩ : ∃ m, n' = m + 1 := ⟨n' - 1, by omega⟩
    rw [tyR] at ht
    obtain ⟨T1, h1, h2⟩ := bd_elim ht
    obtain ⟨c1, c2, c3, c4⟩ := hc i (by omega)
    have fin : ∀ (s1 s1' : ST), LL s s1 → LL s' s1' → (∀ v, gl s1' 34 v = gl s' 34 v) → KS (s1.2.1 43) (s1'.2.1 35) T1 → T1.length ≤ 60 →
        fX2_reckon_Rl_42_43_L6 (nI to) q t (n + 1) (nI T.length) (nI i) s = fX2_reckon_Rl_42_43_L6 (nI to) q t n (nI T1.length) (nI (i + 1)) s1 →
        fX12_answer_L6 (nI r) (nI to) (n' + 1) (nI T.length) (nI i) s' = fX12_answer_L6 (nI r) (nI to) n' (nI T1.length) (nI (i + 1)) s1' →
        ∃ s2 s2', fX2_reckon_Rl_42_43_L6 (nI to) q t (n + 1) (nI T.length) (nI i) s = some (nI T2.length, nI to, s2) ∧ fX12_answer_L6 (nI r) (nI to) (n' + 1) (nI T.length) (nI i) s' = some (nI T2.length, nI to, s2') ∧ LL s s2 ∧ LL s' s2' ∧ (∀ v, gl s2' 34 v = gl s' 34 v) ∧ KS (s2.2.1 43) (s2'.2.1 35) T2 := by
      intro s1 s1' l1 l2 l3 k1 hT1 E1 E2
      obtain ⟨s2, s2', a1, a2, a3, a4, a5, a6⟩ := ih (i + 1) T1 T2 n n' s1 s1' (by omega) (by omega) (by omega) h2 hT1
        (fun j hj => by rw [l1.gi, l2.gi, l2.gi]; exact hc j hj) (fun v hv => by rw [l3, l1.gi]; exact hw v hv) k1
      exact ⟨s2, s2', E1.trans a1, E2.trans a2, l1.trans a3, l2.trans a4, fun v => (a5 v).trans (l3 v), a6⟩
    rcases tyS_num h1 with ⟨x1, x2, x3, rfl⟩ | ⟨x1, x2, x3, rfl⟩ | ⟨x1, U, rfl, rfl⟩ | ⟨x1, U, rfl, rfl⟩ | ⟨x1, U, rfl, rfl⟩ | ⟨x1, U, rfl, rfl⟩
    · rw [x1] at c1 c2
      exact fin _ _ LL_sl LL_sl (fun v => rfl) (KS_push hk rfl (fun h => by cases h)) (by simp; omega) (cstep_num (by omega) (by omega) (by omega) x3 x2 c1) (mstep_num (by omega) (by omega) hr x3 x2 c2 c3)
    · rw [x1] at c1 c2
      have := mstep_word (n := n') (to := to) (by omega) (by omega) hr x3 x2 c2 c3
      rw [hw _ x2] at this
      exact fin _ _ LL_sl LL_sl (fun v => rfl) (KS_push hk rfl (fun h => by cases h)) (by simp; omega) (cstep_word (by omega) (by omega) (by omega) x3 x2 c1) this
    · rw [x1] at c1 c2
      obtain ⟨k1, k2, k3⟩ := hk
      have k2 := k2 rfl
      have := cstep_not (t := t) (n := n) (to := to) (h := U.length) (by omega) (by omega) (by omega) (by simpa using hT) c4 c1
      rw [show gl s 43 U.length = gl s' 35 U.length from k1] at this
      exact fin _ _ LL_sl LL_sl (fun v => rfl) (KS_push k3 rfl (fun h => not01 k2)) hT this (mstep_not (h := U.length) (v := 0) (by omega) (by omega) hr (by simpa using hT) c2)
    · obtain ⟨k1, k2, k3, k4, k5⟩ := hk
      have k2 := k2 rfl
      have k4 := k4 rfl
      have hT' : U.length + 2 ≤ 60 := hT
      obtain ⟨g1, g2, g3, g4, g5, g6, g7, g8⟩ := sg_b (k := (e i).1) (by omega)
      obtain ⟨y, j1, j2, j3, j4⟩ := joined_ev (e i).1 (gl s 43 U.length) (gl s 43 (U.length + 1)) s s' (by omega)
      rw [show gl s 43 U.length = gl s' 35 U.length from k3, show gl s 43 (U.length + 1) = gl s' 35 (U.length + 1) from k1] at j2
      refine fin _ _ LL_sl LL_sl (fun v => rfl) (KS_push k5 rfl (fun _ => j4 x1 ?_ ?_)) (by simp; omega) (cstep_two (h := U.length) (by omega) (by omega) (by omega) hT' c4 c1 g1 g2 g3 g4 j1) (mstep_two (h := U.length) (by omega) (by omega) hr hT' c2 g5 g6 g7 g8 j2)
      · rw [show gl s 43 U.length = gl s' 35 U.length from k3]; exact k4
      · rw [show gl s 43 (U.length + 1) = gl s' 35 (U.length + 1) from k1]; exact k2
    · obtain ⟨k1, k2, k3, k4, k5⟩ := hk
      have hT' : U.length + 2 ≤ 60 := hT
      obtain ⟨g1, g2, g3, g4, g5, g6, g7, g8⟩ := sg_b (k := (e i).1) (by omega)
      obtain ⟨y, j1, j2, j3, j4⟩ := joined_ev (e i).1 (gl s 43 U.length) (gl s 43 (U.length + 1)) s s' (by omega)
      rw [show gl s 43 U.length = gl s' 35 U.length from k3, show gl s 43 (U.length + 1) = gl s' 35 (U.length + 1) from k1] at j2
      exact fin _ _ LL_sl LL_sl (fun v => rfl) (KS_push k5 rfl (fun _ => j3 x1)) (by simp; omega) (cstep_two (h := U.length) (by omega) (by omega) (by omega) hT' c4 c1 g1 g2 g3 g4 j1) (mstep_two (h := U.length) (by omega) (by omega) hr hT' c2 g5 g6 g7 g8 j2)
    · obtain ⟨k1, k2, k3, k4, k5⟩ := hk
      have hT' : U.length + 2 ≤ 60 := hT
      obtain ⟨g1, g2, g3, g4, g5, g6, g7, g8⟩ := sg_b (k := (e i).1) (by omega)
      obtain ⟨y, j1, j2, j3, j4⟩ := joined_ev (e i).1 (gl s 43 U.length) (gl s 43 (U.length + 1)) s s' (by omega)
      rw [show gl s 43 U.length = gl s' 35 U.length from k3, show gl s 43 (U.length + 1) = gl s' 35 (U.length + 1) from k1] at j2
      exact fin _ _ LL_sl LL_sl (fun v => rfl) (KS_push k5 rfl (fun h => by cases h)) (by simp; omega) (cstep_two (h := U.length) (by omega) (by omega) (by omega) hT' c4 c1 g1 g2 g3 g4 j1) (mstep_two (h := U.length) (by omega) (by omega) hr hT' c2 g5 g6 g7 g8 j2)
/-- number and word alone bear a number; every other's is small too -/
def smE (e : Nat → Nat × Nat) (L : Nat) : Prop := ∀ i, i < L → (e i).2 ≤ 99999
/-- both answer alike: a sum -/
theorem reck_ans {t : PH} {q r L fr to : Nat} {e : Nat → Nat × Nat} {b : Bool} {s s' : ST} (hal : alT t (q + 1) = L) (hL : L ≤ 300) (hr : r < 6) (hto : to ≤ L) (hf : fr ≤ to) (ht : tyR e (to - fr) fr [] = some [b])
    (hc : ∀ i, i < L → gi s (q + 1) i = nI (sg (e i).1 + 32 * (e i).2) ∧ gi s' 27 (300 * r + i) = nI (e i).1 ∧ gi s' 28 (300 * r + i) = nI (e i).2 ∧ (e i).2 ≤ 99999)
    (hw : ∀ v, v < 14 → gl s' 34 v = (gi s 42 v).toInt64) :
    ∃ y s2 s2', fX2_reckon_Rl_42_43 q (nI fr) (nI to) t s = some (y, s2) ∧ fX12_answer (nI r) (nI fr) (nI to) s' = some (y, s2') ∧ LL s s2 ∧ LL s' s2' ∧ (∀ v, gl s2' 34 v = gl s' 34 v) ∧ (b = true → y = 0 ∨ y = 1) := by
  obtain ⟨s2, s2', a1, a2, a3, a4, a5, k1, k2, -⟩ := reck hal hL hr hto (to - fr) fr [] [b] FUEL FUEL s s' (by omega) (by rw [FUEL_eq]; omega) (by rw [FUEL_eq]; omega) ht (by simp) hc hw trivial
  have a1 : fX2_reckon_Rl_42_43_L6 (nI to) q t FUEL 0 (nI fr) s = some (nI 1, nI to, s2) := a1
  have a2 : fX12_answer_L6 (nI r) (nI to) FUEL 0 (nI fr) s' = some (nI 1, nI to, s2') := a2
  refine ⟨gl s2' 35 0, s2, s2', ?_, ?_, a3, a4, a5, k2⟩
  · unfold fX2_reckon_Rl_42_43
    rw [a1]
    simp (disch := omega) only [↓ite_bind, ↓ck_bind, ↓lt_bind, ↓Option.bind_assoc, ↓bd_s, ↓lt_v, ↓ck_v, ↓reduceIte, Bool.false_eq_true, Bool.true_eq_false, nj_add, nj_addl, nj_addr, nj_mull, nj_mulr, nj_subr, nj_pred, ix_nI, ix_lit, inb_t, inb_l, nj_le_t, nj_le_f, nj_lel_t, nj_lel_f, nj_ler_t, nj_ler_f, nj_lt_t, nj_lt_f, nj_ltl_t, nj_ltl_f, nj_ltr_t, nj_ltr_f, nj_eq_t, nj_eq_f, nj_eqr_t, nj_eqr_f, nj_m1, nj_m2]
    rw [show gl s2 43 0 = gl s2' 35 0 from k1]
  · unfold fX12_answer
    rw [a2]
    simp (disch := omega) only [↓ite_bind, ↓ck_bind, ↓lt_bind, ↓Option.bind_assoc, ↓bd_s, ↓lt_v, ↓ck_v, ↓reduceIte, Bool.false_eq_true, Bool.true_eq_false, nj_add, nj_addl, nj_addr, nj_mull, nj_mulr, nj_subr, nj_pred, ix_nI, ix_lit, inb_t, inb_l, nj_le_t, nj_le_f, nj_lel_t, nj_lel_f, nj_ler_t, nj_ler_f, nj_lt_t, nj_lt_f, nj_ltl_t, nj_ltl_f, nj_ltr_t, nj_ltr_f, nj_eq_t, nj_eq_f, nj_eqr_t, nj_eqr_f, nj_m1, nj_m2]
