/-! THE DAY'S BEGIN, BY BOTH -/
/-- only these rows of ints are changed -/
def Fr (L : List Nat) (s z : ST) : Prop := (∀ x, x ∉ L → z.1 x = s.1 x) ∧ z.2 = s.2
theorem Fr.rfl {L : List Nat} {s : ST} : Fr L s s := ⟨fun _ _ => Eq.refl _, Eq.refl _⟩
theorem Fr.trans {L : List Nat} {a b c : ST} (h : Fr L a b) (k : Fr L b c) : Fr L a c := ⟨fun x hx => (k.1 x hx).trans (h.1 x hx), k.2.trans h.2⟩
theorem Fr.mono {L M : List Nat} {a b : ST} (h : Fr L a b) (k : ∀ x, x ∈ L → x ∈ M) : Fr M a b := ⟨fun x hx => h.1 x (fun e => hx (k x e)), h.2⟩
theorem Fr.gi {L : List Nat} {s z : ST} (h : Fr L s z) {x : Nat} (hx : x ∉ L) (j : Nat) : gi z x j = gi s x j := by unfold Pilot.CLateAlwaysLaw_law_r2871_b4f2b9.gi; rw [h.1 x hx]
theorem Fr.mr {L : List Nat} {s z : ST} (h : Fr L s z) (j : Nat) : mr z j = mr s j := by unfold Pilot.CLateAlwaysLaw_law_r2871_b4f2b9.mr; rw [h.2]
theorem Fr.si {L : List Nat} {s : ST} {a j : Nat} {x : Int32} (h : a ∈ L) : Fr L s (si s a j x) := by
  refine ⟨fun b hb => ?_, Eq.refl _⟩
  show (if b = a then upd (s.1 a) j x else s.1 b) = s.1 b
  exact if_neg (fun e : b = a => hb (by rw [e]; exact h))
theorem Fr.kC {L : List Nat} {s z : ST} (h : Fr L s z) (hL : ∀ x, x ∈ L → ∀ j, chC x j = true) : kC z = kC s := by
  funext a j
  unfold Pilot.CLateAlwaysLaw_law_r2871_b4f2b9.kC
  by_cases e : chC a j = true
  · rw [if_pos e, if_pos e]
  · rw [if_neg e, if_neg e, h.gi (fun m => e (hL a m j))]
theorem Fr.kM {L : List Nat} {s z : ST} (h : Fr L s z) (hL : ∀ x, x ∈ L → ∀ j, chM x j = true) : kM z = kM s := by
  funext a j
  unfold Pilot.CLateAlwaysLaw_law_r2871_b4f2b9.kM
  by_cases e : chM a j = true
  · rw [if_pos e, if_pos e]
  · rw [if_neg e, if_neg e, h.gi (fun m => e (hL a m j))]
theorem Fr.lv {L : List Nat} {s z : ST} (h : Fr L s z) (h1 : 1 ∉ L) (h3 : 3 ∉ L) (h4 : 4 ∉ L) (h5 : 5 ∉ L) (h6 : 6 ∉ L) (h9 : 9 ∉ L) (h11 : 11 ∉ L) (h12 : 12 ∉ L) : lv z = lv s := by
  funext j
  unfold Pilot.CLateAlwaysLaw_law_r2871_b4f2b9.lv
  simp only [h.gi h1, h.gi h3, h.gi h4, h.gi h5, h.gi h6, h.gi h9, h.gi h11, h.gi h12]
/-- the order so far, with a gap at p -/
def OrG (m p : Nat) (s s' : ST) : Prop := (∀ i, i ≤ m → i ≠ p → ∃ o, o < m ∧ gi s 34 i = nI o ∧ gi s' 36 i = nI o) ∧ ∀ x, x < m → ∃ i, i ≤ m ∧ i ≠ p ∧ gi s 34 i = nI x
def Or1 (m : Nat) (s s' : ST) : Prop := (∀ i, i < m → ∃ o, o < m ∧ gi s 34 i = nI o ∧ gi s' 36 i = nI o) ∧ ∀ x, x < m → ∃ i, i < m ∧ gi s 34 i = nI x
theorem ord_in {nm m : Nat} {v : Int32} (hm : m < nm) (hn : nm ≤ 8) : ∀ (p f f' : Nat) (s s' : ST), p ≤ m → p < f → p < f' → OrG m p s s' → (∀ j, j < nm → gi s 32 (20 + j) = gi s' 9 j) → gi s 32 (20 + m) = v →
    ∃ p2 z z', p2 ≤ m ∧ fX1_open_18_31_L41 (nI m) v f (nI p) s = some (nI p2, z) ∧ fX12_laysOrder_L14 (nI m) f' (nI p) s' = some (nI p2, z') ∧ OrG m p2 z z' ∧ Fr [34] s z ∧ Fr [36] s' z' := by
  intro p
  induction p with
  | zero =>
    intro f f' s s' hp hf hf' ho hc hv
    obtain ⟨f, rfl⟩ : ∃ m, f = m + 1 := ⟨f - 1, by omega⟩
    obtain ⟨f', rfl⟩ : ∃ m, f' = m + 1 := ⟨f' - 1, by omega⟩
    refine ⟨0, s, s', by omega, ?_, ?_, ho, Fr.rfl, Fr.rfl⟩
    · rw [fX1_open_18_31_L41]
      simp (disch := omega) only [↓ite_bind, ↓ck_bind, ↓lt_bind, ↓Option.bind_assoc, ↓bd_s, ↓lt_v, ↓ck_v, ↓reduceIte, Bool.false_eq_true, Bool.true_eq_false, bd_s, nj_add, nj_addl, nj_addr, nj_mull, nj_mulr, nj_subr, nj_pred, ix_nI, ix_lit, inb_t, inb_l, nj_le_t, nj_le_f, nj_lel_t, nj_lel_f, nj_ler_t, nj_ler_f, nj_lt_t, nj_lt_f, nj_ltl_t, nj_ltl_f, nj_ltr_t, nj_ltr_f, nj_eq_t, nj_eq_f, nj_eqr_t, nj_eqr_f, nj_m1, nj_m2]
    · rw [fX12_laysOrder_L14]
      simp (disch := omega) only [↓ite_bind, ↓ck_bind, ↓lt_bind, ↓Option.bind_assoc, ↓bd_s, ↓lt_v, ↓ck_v, ↓reduceIte, Bool.false_eq_true, Bool.true_eq_false, bd_s, nj_add, nj_addl, nj_addr, nj_mull, nj_mulr, nj_subr, nj_pred, ix_nI, ix_lit, inb_t, inb_l, nj_le_t, nj_le_f, nj_lel_t, nj_lel_f, nj_ler_t, nj_ler_f, nj_lt_t, nj_lt_f, nj_ltl_t, nj_ltl_f, nj_ltr_t, nj_ltr_f, nj_eq_t, nj_eq_f, nj_eqr_t, nj_eqr_f, nj_m1, nj_m2]
  | succ p ih =>
    intro f f' s s' hp hf hf' ho hc hv
    obtain ⟨f, rfl⟩ : ∃ m, f = m + 1 := ⟨f - 1, by omega⟩
    obtain ⟨f', rfl⟩ : ∃ m, f' = m + 1 := ⟨f' - 1, by omega⟩
    obtain ⟨o, o1, o2, o3⟩ := ho.1 p (by omega) (by omega)
    have c1 := hc o (by omega)
    have c2 := hc m (by omega)
    rw [hv] at c2
    by_cases hle : gi s' 9 o ≤ v
    · refine ⟨p + 1, s, s', by omega, ?_, ?_, ho, Fr.rfl, Fr.rfl⟩
      · rw [fX1_open_18_31_L41]
        simp (disch := omega) only [↓ite_bind, ↓ck_bind, ↓lt_bind, ↓Option.bind_assoc, ↓bd_s, ↓lt_v, ↓ck_v, ↓reduceIte, Bool.false_eq_true, Bool.true_eq_false, bd_s, nj_add, nj_addl, nj_addr, nj_mull, nj_mulr, nj_subr, nj_pred, ix_nI, ix_lit, inb_t, inb_l, nj_le_t, nj_le_f, nj_lel_t, nj_lel_f, nj_ler_t, nj_ler_f, nj_lt_t, nj_lt_f, nj_ltl_t, nj_ltl_f, nj_ltr_t, nj_ltr_f, nj_eq_t, nj_eq_f, nj_eqr_t, nj_eqr_f, nj_m1, nj_m2, Nat.add_sub_cancel, o2, c1, hle]
      · rw [fX12_laysOrder_L14]
        simp (disch := omega) only [↓ite_bind, ↓ck_bind, ↓lt_bind, ↓Option.bind_assoc, ↓bd_s, ↓lt_v, ↓ck_v, ↓reduceIte, Bool.false_eq_true, Bool.true_eq_false, bd_s, nj_add, nj_addl, nj_addr, nj_mull, nj_mulr, nj_subr, nj_pred, ix_nI, ix_lit, inb_t, inb_l, nj_le_t, nj_le_f, nj_lel_t, nj_lel_f, nj_ler_t, nj_ler_f, nj_lt_t, nj_lt_f, nj_ltl_t, nj_ltl_f, nj_ltr_t, nj_ltr_f, nj_eq_t, nj_eq_f, nj_eqr_t, nj_eqr_f, nj_m1, nj_m2, Nat.add_sub_cancel, o3, ← c2, hle]
    · have ho2 : OrG m p (si s 34 (p + 1) (nI o)) (si s' 36 (p + 1) (nI o)) := by
        refine ⟨fun i hi hip => ?_, fun x hx => ?_⟩
        · rw [gi_si, gi_si, if_pos rfl, if_pos rfl]
          by_cases e : i = p + 1
          · rw [if_pos e, if_pos e]; exact ⟨o, o1, rfl, rfl⟩
          · rw [if_neg e, if_neg e]; exact ho.1 i hi e
        · obtain ⟨i, i1, i2, i3⟩ := ho.2 x hx
          by_cases e : i = p
          · refine ⟨p + 1, by omega, by omega, ?_⟩
            rw [gi_si, if_pos rfl, if_pos rfl, ← o2, ← e, i3]
          · refine ⟨i, i1, e, ?_⟩
            rw [gi_si, if_pos rfl, if_neg i2, i3]
      obtain ⟨p2, z, z', a1, a2, a3, a4, a5, a6⟩ := ih f f' (si s 34 (p + 1) (nI o)) (si s' 36 (p + 1) (nI o)) (by omega) (by omega) (by omega) ho2 (fun j hj => by rw [gi_si, gi_si, if_neg (by decide), if_neg (by decide)]; exact hc j hj) (by rw [gi_si, if_neg (by decide)]; exact hv)
      refine ⟨p2, z, z', a1, ?_, ?_, a4, (Fr.si (by decide)).trans a5, (Fr.si (by decide)).trans a6⟩
      · rw [fX1_open_18_31_L41]
        simp (disch := omega) only [↓ite_bind, ↓ck_bind, ↓lt_bind, ↓Option.bind_assoc, ↓bd_s, ↓lt_v, ↓ck_v, ↓reduceIte, Bool.false_eq_true, Bool.true_eq_false, bd_s, nj_add, nj_addl, nj_addr, nj_mull, nj_mulr, nj_subr, nj_pred, ix_nI, ix_lit, inb_t, inb_l, nj_le_t, nj_le_f, nj_lel_t, nj_lel_f, nj_ler_t, nj_ler_f, nj_lt_t, nj_lt_f, nj_ltl_t, nj_ltl_f, nj_ltr_t, nj_ltr_f, nj_eq_t, nj_eq_f, nj_eqr_t, nj_eqr_f, nj_m1, nj_m2, Nat.add_sub_cancel, o2, c1, hle]
        exact a2
      · rw [fX12_laysOrder_L14]
        simp (disch := omega) only [↓ite_bind, ↓ck_bind, ↓lt_bind, ↓Option.bind_assoc, ↓bd_s, ↓lt_v, ↓ck_v, ↓reduceIte, Bool.false_eq_true, Bool.true_eq_false, bd_s, nj_add, nj_addl, nj_addr, nj_mull, nj_mulr, nj_subr, nj_pred, ix_nI, ix_lit, inb_t, inb_l, nj_le_t, nj_le_f, nj_lel_t, nj_lel_f, nj_ler_t, nj_ler_f, nj_lt_t, nj_lt_f, nj_ltl_t, nj_ltl_f, nj_ltr_t, nj_ltr_f, nj_eq_t, nj_eq_f, nj_eqr_t, nj_eqr_f, nj_m1, nj_m2, Nat.add_sub_cancel, o3, ← c2, hle]
        exact a3
theorem ord_out {nm : Nat} (hn : nm ≤ 8) : ∀ (k m f f' : Nat) (s s' : ST), m + k = nm → k < f → k < f' → Or1 m s s' → (∀ j, j < nm → gi s 32 (20 + j) = gi s' 9 j) → gi s 18 8 = nI nm → gi s' 1 4 = nI nm →
    ∃ z z', fX1_open_18_31_L19 f (nI m) s = some (nI nm, z) ∧ fX12_laysOrder_L2 f' (nI m) s' = some (nI nm, z') ∧ Or1 nm z z' ∧ Fr [34] s z ∧ Fr [36] s' z' := by
  intro k
  induction k with
  | zero =>
    intro m f f' s s' hm hf hf' ho hc h8 h4
    obtain ⟨f, rfl⟩ : ∃ m, f = m + 1 := ⟨f - 1, by omega⟩
    obtain ⟨f', rfl⟩ : ∃ m, f' = m + 1 := ⟨f' - 1, by omega⟩
    obtain rfl : m = nm := by omega
    refine ⟨s, s', ?_, ?_, ho, Fr.rfl, Fr.rfl⟩
    · rw [fX1_open_18_31_L19]
      simp (disch := omega) only [↓ite_bind, ↓ck_bind, ↓lt_bind, ↓Option.bind_assoc, ↓bd_s, ↓lt_v, ↓ck_v, ↓reduceIte, Bool.false_eq_true, Bool.true_eq_false, bd_s, nj_add, nj_addl, nj_addr, nj_mull, nj_mulr, nj_subr, nj_pred, ix_nI, ix_lit, inb_t, inb_l, nj_le_t, nj_le_f, nj_lel_t, nj_lel_f, nj_ler_t, nj_ler_f, nj_lt_t, nj_lt_f, nj_ltl_t, nj_ltl_f, nj_ltr_t, nj_ltr_f, nj_eq_t, nj_eq_f, nj_eqr_t, nj_eqr_f, nj_m1, nj_m2, h8]
    · rw [fX12_laysOrder_L2]
      simp (disch := omega) only [↓ite_bind, ↓ck_bind, ↓lt_bind, ↓Option.bind_assoc, ↓bd_s, ↓lt_v, ↓ck_v, ↓reduceIte, Bool.false_eq_true, Bool.true_eq_false, bd_s, nj_add, nj_addl, nj_addr, nj_mull, nj_mulr, nj_subr, nj_pred, ix_nI, ix_lit, inb_t, inb_l, nj_le_t, nj_le_f, nj_lel_t, nj_lel_f, nj_ler_t, nj_ler_f, nj_lt_t, nj_lt_f, nj_ltl_t, nj_ltl_f, nj_ltr_t, nj_ltr_f, nj_eq_t, nj_eq_f, nj_eqr_t, nj_eqr_f, nj_m1, nj_m2, h4]
  | succ k ih =>
    intro m f f' s s' hm hf hf' ho hc h8 h4
    obtain ⟨f, rfl⟩ : ∃ m, f = m + 1 := ⟨f - 1, by omega⟩
    obtain ⟨f', rfl⟩ : ∃ m, f' = m + 1 := ⟨f' - 1, by omega⟩
    have hg : OrG m m s s' := by
      refine ⟨fun i hi hip => ho.1 i (by omega), fun x hx => ?_⟩
      obtain ⟨i, i1, i2⟩ := ho.2 x hx
      exact ⟨i, by omega, by omega, i2⟩
    obtain ⟨p, z, z', a1, a2, a3, a4, a5, a6⟩ := ord_in (by omega : m < nm) hn m FUEL FUEL s s' (Nat.le_refl m) (by rw [FUEL_eq]; omega) (by rw [FUEL_eq]; omega) hg hc rfl
    have ho2 : Or1 (m + 1) (si z 34 p (nI m)) (si z' 36 p (nI m)) := by
      refine ⟨fun i hi => ?_, fun x hx => ?_⟩
      · rw [gi_si, gi_si, if_pos rfl, if_pos rfl]
        by_cases e : i = p
        · rw [if_pos e, if_pos e]; exact ⟨m, by omega, rfl, rfl⟩
        · rw [if_neg e, if_neg e]
          obtain ⟨o, o1, o2, o3⟩ := a4.1 i (by omega) e
          exact ⟨o, by omega, o2, o3⟩
      · by_cases e : x = m
        · refine ⟨p, by omega, ?_⟩
          rw [gi_si, if_pos rfl, if_pos rfl, e]
        · obtain ⟨i, i1, i2, i3⟩ := a4.2 x (by omega)
          refine ⟨i, by omega, ?_⟩
          rw [gi_si, if_pos rfl, if_neg i2, i3]
    obtain ⟨w, w', b1, b2, b3, b4, b5⟩ := ih (m + 1) f f' (si z 34 p (nI m)) (si z' 36 p (nI m)) (by omega) (by omega) (by omega) ho2
      (fun j hj => by rw [gi_si, gi_si, if_neg (by decide), if_neg (by decide), a5.gi (by decide), a6.gi (by decide)]; exact hc j hj)
      (by rw [gi_si, if_neg (by decide), a5.gi (by decide)]; exact h8) (by rw [gi_si, if_neg (by decide), a6.gi (by decide)]; exact h4)
    refine ⟨w, w', ?_, ?_, b3, (a5.trans (Fr.si (by decide))).trans b4, (a6.trans (Fr.si (by decide))).trans b5⟩
    · rw [fX1_open_18_31_L19]
      simp (disch := omega) only [↓ite_bind, ↓ck_bind, ↓lt_bind, ↓Option.bind_assoc, ↓bd_s, ↓lt_v, ↓ck_v, ↓reduceIte, Bool.false_eq_true, Bool.true_eq_false, bd_s, nj_add, nj_addl, nj_addr, nj_mull, nj_mulr, nj_subr, nj_pred, ix_nI, ix_lit, inb_t, inb_l, nj_le_t, nj_le_f, nj_lel_t, nj_lel_f, nj_ler_t, nj_ler_f, nj_lt_t, nj_lt_f, nj_ltl_t, nj_ltl_f, nj_ltr_t, nj_ltr_f, nj_eq_t, nj_eq_f, nj_eqr_t, nj_eqr_f, nj_m1, nj_m2, h8, a2]
      exact b1
    · rw [fX12_laysOrder_L2]
      simp (disch := omega) only [↓ite_bind, ↓ck_bind, ↓lt_bind, ↓Option.bind_assoc, ↓bd_s, ↓lt_v, ↓ck_v, ↓reduceIte, Bool.false_eq_true, Bool.true_eq_false, bd_s, nj_add, nj_addl, nj_addr, nj_mull, nj_mulr, nj_subr, nj_pred, ix_nI, ix_lit, inb_t, inb_l, nj_le_t, nj_le_f, nj_lel_t, nj_lel_f, nj_ler_t, nj_ler_f, nj_lt_t, nj_lt_f, nj_ltl_t, nj_ltl_f, nj_ltr_t, nj_ltr_f, nj_eq_t, nj_eq_f, nj_eqr_t, nj_eqr_f, nj_m1, nj_m2, h4, a3]
      exact b2
