/-! HABITS: one of them, by both -/
theorem log_in {v : ST} {q d nl : Nat} {a2 a3 : Int32} (hq : q < 5) (hnl : nl ≤ 10) (h10 : gi v 1 10 = nI nl) : ∀ (m i f : Nat) (x : Int32), i + m = nl → m < f → (x = 0 ∨ x = 1) → ∃ b, (b = 0 ∨ b = 1) ∧ fX12_doesFit_L63 (nI q) a2 a3 (nI d) f x (nI i) v = some (b, nI nl) ∧ (b = 1 ↔ x = 1 ∧ ∀ j, i ≤ j → j < nl → gi v 14 j = nI q → gi v 13 j = nI d → gi v 4 q = gi v 15 j) := by
  intro m
  induction m with
  | zero =>
    intro i f x hi hf hx
    obtain ⟨f, rfl⟩ : ∃ m, f = m + 1 := ⟨f - 1, by omega⟩
    obtain rfl : i = nl := by omega
    refine ⟨x, hx, ?_, ⟨fun e => ⟨e, fun j h1 h2 => absurd h1 (by omega)⟩, fun e => e.1⟩⟩
    rw [fX12_doesFit_L63, ck_t (by decide), ix_lit (by decide), h10, if_pos (Int32.le_refl _)]
  | succ m ih =>
    intro i f x hi hf hx
    obtain ⟨f, rfl⟩ : ∃ m, f = m + 1 := ⟨f - 1, by omega⟩
    by_cases c : gi v 14 i = nI q ∧ gi v 13 i = nI d ∧ ¬ gi v 4 q = gi v 15 i
    · obtain ⟨c1, c2, c3⟩ := c
      obtain ⟨b, b1, b2, b3⟩ := ih (i + 1) f 0 (by omega) (by omega) (Or.inl rfl)
      refine ⟨b, b1, ?_, ?_⟩
      · rw [fX12_doesFit_L63]
        rcases hx with rfl | rfl
        · simp (disch := omega) only [↓ite_bind, ↓ck_bind, ↓lt_bind, ↓Option.bind_assoc, ↓bd_s, ↓lt_v, ↓ck_v, ↓reduceIte, Bool.false_eq_true, Bool.true_eq_false, nj_add, nj_addl, nj_addr, nj_mull, nj_mulr, nj_subr, nj_pred, ix_nI, ix_lit, inb_t, inb_l, nj_le_t, nj_le_f, nj_lel_t, nj_lel_f, nj_ler_t, nj_ler_f, nj_lt_t, nj_lt_f, nj_ltl_t, nj_ltl_f, nj_ltr_t, nj_ltr_f, nj_eq_t, nj_eq_f, nj_eqr_t, nj_eqr_f, nj_m1, nj_m2, h10, c1, c2, c3, i10]
          exact b2
        · simp (disch := omega) only [↓ite_bind, ↓ck_bind, ↓lt_bind, ↓Option.bind_assoc, ↓bd_s, ↓lt_v, ↓ck_v, ↓reduceIte, Bool.false_eq_true, Bool.true_eq_false, nj_add, nj_addl, nj_addr, nj_mull, nj_mulr, nj_subr, nj_pred, ix_nI, ix_lit, inb_t, inb_l, nj_le_t, nj_le_f, nj_lel_t, nj_lel_f, nj_ler_t, nj_ler_f, nj_lt_t, nj_lt_f, nj_ltl_t, nj_ltl_f, nj_ltr_t, nj_ltr_f, nj_eq_t, nj_eq_f, nj_eqr_t, nj_eqr_f, nj_m1, nj_m2, h10, c1, c2, c3, i10]
          exact b2
      · rw [b3]
        exact ⟨fun e => absurd e.1 (by decide), fun e => absurd (e.2 i (Nat.le_refl _) (by omega) c1 c2) c3⟩
    · obtain ⟨b, b1, b2, b3⟩ := ih (i + 1) f x (by omega) (by omega) hx
      refine ⟨b, b1, ?_, ?_⟩
      · rw [fX12_doesFit_L63]
        by_cases c1 : gi v 14 i = nI q
        · by_cases c2 : gi v 13 i = nI d
          · have c3 : gi v 4 q = gi v 15 i := by
              by_cases c3 : gi v 4 q = gi v 15 i
              · exact c3
              · exact absurd ⟨c1, c2, c3⟩ c
            rcases hx with rfl | rfl
            · simp (disch := omega) only [↓ite_bind, ↓ck_bind, ↓lt_bind, ↓Option.bind_assoc, ↓bd_s, ↓lt_v, ↓ck_v, ↓reduceIte, Bool.false_eq_true, Bool.true_eq_false, nj_add, nj_addl, nj_addr, nj_mull, nj_mulr, nj_subr, nj_pred, ix_nI, ix_lit, inb_t, inb_l, nj_le_t, nj_le_f, nj_lel_t, nj_lel_f, nj_ler_t, nj_ler_f, nj_lt_t, nj_lt_f, nj_ltl_t, nj_ltl_f, nj_ltr_t, nj_ltr_f, nj_eq_t, nj_eq_f, nj_eqr_t, nj_eqr_f, nj_m1, nj_m2, h10, c1, c2, c3, i10]
              exact b2
            · simp (disch := omega) only [↓ite_bind, ↓ck_bind, ↓lt_bind, ↓Option.bind_assoc, ↓bd_s, ↓lt_v, ↓ck_v, ↓reduceIte, Bool.false_eq_true, Bool.true_eq_false, nj_add, nj_addl, nj_addr, nj_mull, nj_mulr, nj_subr, nj_pred, ix_nI, ix_lit, inb_t, inb_l, nj_le_t, nj_le_f, nj_lel_t, nj_lel_f, nj_ler_t, nj_ler_f, nj_lt_t, nj_lt_f, nj_ltl_t, nj_ltl_f, nj_ltr_t, nj_ltr_f, nj_eq_t, nj_eq_f, nj_eqr_t, nj_eqr_f, nj_m1, nj_m2, h10, c1, c2, c3, i10]
              exact b2
          · rcases hx with rfl | rfl
            · simp (disch := omega) only [↓ite_bind, ↓ck_bind, ↓lt_bind, ↓Option.bind_assoc, ↓bd_s, ↓lt_v, ↓ck_v, ↓reduceIte, Bool.false_eq_true, Bool.true_eq_false, nj_add, nj_addl, nj_addr, nj_mull, nj_mulr, nj_subr, nj_pred, ix_nI, ix_lit, inb_t, inb_l, nj_le_t, nj_le_f, nj_lel_t, nj_lel_f, nj_ler_t, nj_ler_f, nj_lt_t, nj_lt_f, nj_ltl_t, nj_ltl_f, nj_ltr_t, nj_ltr_f, nj_eq_t, nj_eq_f, nj_eqr_t, nj_eqr_f, nj_m1, nj_m2, h10, c1, c2, i10]
              exact b2
            · simp (disch := omega) only [↓ite_bind, ↓ck_bind, ↓lt_bind, ↓Option.bind_assoc, ↓bd_s, ↓lt_v, ↓ck_v, ↓reduceIte, Bool.false_eq_true, Bool.true_eq_false, nj_add, nj_addl, nj_addr, nj_mull, nj_mulr, nj_subr, nj_pred, ix_nI, ix_lit, inb_t, inb_l, nj_le_t, nj_le_f, nj_lel_t, nj_lel_f, nj_ler_t, nj_ler_f, nj_lt_t, nj_lt_f, nj_ltl_t, nj_ltl_f, nj_ltr_t, nj_ltr_f, nj_eq_t, nj_eq_f, nj_eqr_t, nj_eqr_f, nj_m1, nj_m2, h10, c1, c2, i10]
              exact b2
        · rcases hx with rfl | rfl
          · simp (disch := omega) only [↓ite_bind, ↓ck_bind, ↓lt_bind, ↓Option.bind_assoc, ↓bd_s, ↓lt_v, ↓ck_v, ↓reduceIte, Bool.false_eq_true, Bool.true_eq_false, nj_add, nj_addl, nj_addr, nj_mull, nj_mulr, nj_subr, nj_pred, ix_nI, ix_lit, inb_t, inb_l, nj_le_t, nj_le_f, nj_lel_t, nj_lel_f, nj_ler_t, nj_ler_f, nj_lt_t, nj_lt_f, nj_ltl_t, nj_ltl_f, nj_ltr_t, nj_ltr_f, nj_eq_t, nj_eq_f, nj_eqr_t, nj_eqr_f, nj_m1, nj_m2, h10, c1, i10]
            exact b2
          · simp (disch := omega) only [↓ite_bind, ↓ck_bind, ↓lt_bind, ↓Option.bind_assoc, ↓bd_s, ↓lt_v, ↓ck_v, ↓reduceIte, Bool.false_eq_true, Bool.true_eq_false, nj_add, nj_addl, nj_addr, nj_mull, nj_mulr, nj_subr, nj_pred, ix_nI, ix_lit, inb_t, inb_l, nj_le_t, nj_le_f, nj_lel_t, nj_lel_f, nj_ler_t, nj_ler_f, nj_lt_t, nj_lt_f, nj_ltl_t, nj_ltl_f, nj_ltr_t, nj_ltr_f, nj_eq_t, nj_eq_f, nj_eqr_t, nj_eqr_f, nj_m1, nj_m2, h10, c1, i10]
            exact b2
      · rw [b3]
        refine ⟨fun e => ⟨e.1, fun j h1 h2 h4 h5 => ?_⟩, fun e => ⟨e.1, fun j h1 h2 => e.2 j (by omega) h2⟩⟩
        by_cases ej : j = i
        · subst ej
          by_cases c3 : gi v 4 q = gi v 15 j
          · exact c3
          · exact absurd ⟨h4, h5, c3⟩ c
        · exact e.2 j (by omega) h2 h4 h5
theorem days31 {t : PH} {np nm q k nl : Nat} {o2 o3 : Int32} (hq : q < np) (hk : k < 9) (hnl : nl ≤ 10) : ∀ (m d f f' y : Nat) (x : Int32) (u v : ST), d + m = 31 → m < f → m < f' → CRs t u v np nm y → y + m ≤ 999 → gi v 1 10 = nI nl → (x = 0 ∨ x = 1) →
    ∃ z z' b, fX11_habitsThatFit_L68 (nI q) o2 (nI k) t f (nI d) u = some (nI 31, z) ∧ fX12_doesFit_L30 (nI q) (nI k) o3 f' x (nI d) v = some (b, nI 31, z') ∧ (∀ e, d ≤ e → e < 31 → gi z 46 (k * 31 + e) = gi z' 52 (9 * e + k)) ∧ (∀ j, j < k * 31 + d ∨ k * 31 + 31 ≤ j → gi z 46 j = gi u 46 j) ∧ (∀ j, (∀ e, d ≤ e → e < 31 → j ≠ 9 * e + k) → gi z' 52 j = gi v 52 j) ∧ (b = 0 ∨ b = 1) ∧ (b = 1 ↔ x = 1 ∧ ∀ e, d ≤ e → e < 31 → ∀ j, j < nl → gi v 14 j = nI q → gi v 13 j = nI e → gi z' 52 (9 * e + k) = gi v 15 j) ∧ kN z = kN u ∧ (∀ a j, chM a j = false → a ≠ 52 → gi z' a j = gi v a j) := by
  intro m
  induction m with
  | zero =>
    intro d f f' y x u v hd hf hf' hc hy h10 hx
    obtain ⟨f, rfl⟩ : ∃ m, f = m + 1 := ⟨f - 1, by omega⟩
    obtain ⟨f', rfl⟩ : ∃ m, f' = m + 1 := ⟨f' - 1, by omega⟩
    obtain rfl : d = 31 := by omega
    refine ⟨u, v, x, ?_, ?_, fun e h1 h2 => absurd h1 (by omega), fun _ _ => rfl, fun _ _ => rfl, hx, ⟨fun e => ⟨e, fun j h1 h2 => absurd h1 (by omega)⟩, fun e => e.1⟩, rfl, fun _ _ _ _ => rfl⟩
    · rw [fX11_habitsThatFit_L68, if_pos (by decide)]
    · rw [fX12_doesFit_L30, if_pos (by decide)]
  | succ m ih =>
    intro d f f' y x u v hd hf hf' hc hy h10 hx
    obtain ⟨f, rfl⟩ : ∃ m, f = m + 1 := ⟨f - 1, by omega⟩
    obtain ⟨f', rfl⟩ : ∃ m, f' = m + 1 := ⟨f' - 1, by omega⟩
    have hnp := hc.1.1
    obtain ⟨z, z', a1, a2, a3, a4, a5, a6, a7, a8, -⟩ := day_both hc.1 hc.2.1 hc.2.2.1 (by omega) hc.2.2.2
    have c0 : CRs t z z' np nm (y + 1) := ⟨by rw [a5, a7, show mr z = mr u from funext (fun j => by unfold mr; rw [a6])]; exact hc.1, a3, a4, a8⟩
    have e5 : gi z 32 (5 + q) = gi z' 4 q := by rw [lv_last _ (by omega)]; exact a3 _ (by unfold vis; omega)
    obtain ⟨b0, c1, c2, c3⟩ := log_in (v := si z' 52 (9 * d + k) (gi z' 4 q)) (q := q) (d := d) (nl := nl) (a2 := nI k) (a3 := o3) (by omega) hnl (by rw [gi_ne (by decide), kM_g a7 rfl]; exact h10) nl 0 FUEL x (by omega) (by rw [FUEL_eq]; omega) hx
    have c2 : fX12_doesFit_L63 (nI q) (nI k) o3 (nI d) FUEL x 0 (si z' 52 (9 * d + k) (gi z' 4 q)) = some (b0, nI nl) := c2
    have cw : CRs t (si z 46 (k * 31 + d) (gi z' 4 q)) (si z' 52 (9 * d + k) (gi z' 4 q)) np nm (y + 1) := CRs_w c0 (fun a j h => gi_ne (by omega)) rfl (fun a j h => gi_ne (by omega))
    obtain ⟨w, w', b, d1, d2, d3, d4, d5, d6, d7, d8, d9⟩ := ih (d + 1) f f' (y + 1) b0 _ _ (by omega) (by omega) (by omega) cw (by omega) (by rw [gi_ne (by decide), kM_g a7 rfl]; exact h10) c1
    have hd52 : gi w' 52 (9 * d + k) = gi z' 4 q := by
      rw [d5 _ (fun e h1 h2 => by omega), gi_same]
    have v14 : ∀ j, gi (si z' 52 (9 * d + k) (gi z' 4 q)) 14 j = gi v 14 j := fun j => by rw [gi_ne (by decide), kM_g a7 rfl]
    have v13 : ∀ j, gi (si z' 52 (9 * d + k) (gi z' 4 q)) 13 j = gi v 13 j := fun j => by rw [gi_ne (by decide), kM_g a7 rfl]
    have v15 : ∀ j, gi (si z' 52 (9 * d + k) (gi z' 4 q)) 15 j = gi v 15 j := fun j => by rw [gi_ne (by decide), kM_g a7 rfl]
    have v4 : gi (si z' 52 (9 * d + k) (gi z' 4 q)) 4 q = gi z' 4 q := gi_ne (by decide)
    refine ⟨w, w', b, ?_, ?_, fun e h1 h2 => ?_, fun j hj => ?_, fun j hj => ?_, d6, ?_, ?_, fun a j h1 h2 => ?_⟩
    · rw [fX11_habitsThatFit_L68]
      unfold fX9_keepLate
      simp (disch := omega) only [↓ite_bind, ↓ck_bind, ↓lt_bind, ↓Option.bind_assoc, ↓bd_s, ↓lt_v, ↓ck_v, ↓reduceIte, Bool.false_eq_true, Bool.true_eq_false, nj_add, nj_addl, nj_addr, nj_mull, nj_mulr, nj_subr, nj_pred, ix_nI, ix_lit, inb_t, inb_l, nj_le_t, nj_le_f, nj_lel_t, nj_lel_f, nj_ler_t, nj_ler_f, nj_lt_t, nj_lt_f, nj_ltl_t, nj_ltl_f, nj_ltr_t, nj_ltr_f, nj_eq_t, nj_eq_f, nj_eqr_t, nj_eqr_f, nj_m1, nj_m2, a1, e5]
      exact d1
    · rw [fX12_doesFit_L30]
      simp (disch := omega) only [↓ite_bind, ↓ck_bind, ↓lt_bind, ↓Option.bind_assoc, ↓bd_s, ↓lt_v, ↓ck_v, ↓reduceIte, Bool.false_eq_true, Bool.true_eq_false, nj_add, nj_addl, nj_addr, nj_mull, nj_mulr, nj_subr, nj_pred, ix_nI, ix_lit, inb_t, inb_l, nj_le_t, nj_le_f, nj_lel_t, nj_lel_f, nj_ler_t, nj_ler_f, nj_lt_t, nj_lt_f, nj_ltl_t, nj_ltl_f, nj_ltr_t, nj_ltr_f, nj_eq_t, nj_eq_f, nj_eqr_t, nj_eqr_f, nj_m1, nj_m2, a2, c2]
      exact d2
    · by_cases e' : e = d
      · subst e'
        rw [hd52, d4 _ (by omega), gi_same]
      · exact d3 e (by omega) h2
    · rw [d4 j (by omega), gi_dif (by omega)]; exact kC_g a5 rfl
    · rw [d5 j (fun e h1 h2 => hj e (by omega) h2), gi_dif (hj d (Nat.le_refl _) (by omega))]; exact kM_g a7 rfl
    · rw [d7, c3]
      refine ⟨fun e => ⟨e.1.1, fun e2 h1 h2 j hj h4 h5 => ?_⟩, fun e => ⟨⟨e.1, fun j _ hj h4 h5 => ?_⟩, fun e2 h1 h2 j hj h4 h5 => ?_⟩⟩
      · by_cases e' : e2 = d
        · subst e'
          rw [hd52, ← v15 j, ← v4]
          exact e.1.2 j (by omega) hj (by rw [v14]; exact h4) (by rw [v13]; exact h5)
        · rw [← v15 j]
          exact e.2 e2 (by omega) h2 j hj (by rw [v14]; exact h4) (by rw [v13]; exact h5)
      · rw [v4, v15, ← hd52]
        exact e.2 d (Nat.le_refl _) (by omega) j hj (by rw [← v14]; exact h4) (by rw [← v13]; exact h5)
      · rw [v15]
        exact e.2 e2 (by omega) h2 j hj (by rw [← v14]; exact h4) (by rw [← v13]; exact h5)
    · rw [d8, kN_si (by omega)]; exact kN_kC a5
    · rw [d9 a j h1 h2, gi_ne h2]; exact kM_g a7 h1
theorem fits_L {z : ST} {k q nl : Nat} (hk : k < 9) (hnl : nl ≤ 10) (h4 : gi z 17 4 = nI nl) (hl : ∀ j, j < nl → ∃ y, y ≤ 30 ∧ gi z 27 (3 * j) = nI y) : ∀ (m i f : Nat), i + m = nl → m < f → ∃ r, (r = 0 ∨ r = 1) ∧ fX9_fitsLogs_17_L3 (nI k) (nI q) f (nI i) z = some r ∧ (r = 1 ↔ ∀ j, i ≤ j → j < nl → gi z 27 (3 * j + 1) = nI q → ∀ y, y ≤ 30 → gi z 27 (3 * j) = nI y → gi z 46 (k * 31 + y) = gi z 27 (3 * j + 2)) := by
  intro m
  induction m with
  | zero =>
    intro i f hi hf
    obtain ⟨f, rfl⟩ : ∃ m, f = m + 1 := ⟨f - 1, by omega⟩
    obtain rfl : i = nl := by omega
    refine ⟨1, Or.inr rfl, ?_, ⟨fun _ j h1 h2 => absurd h1 (by omega), fun _ => rfl⟩⟩
    rw [fX9_fitsLogs_17_L3, h4, if_pos (Int32.le_refl _)]
  | succ m ih =>
    intro i f hi hf
    obtain ⟨f, rfl⟩ : ∃ m, f = m + 1 := ⟨f - 1, by omega⟩
    obtain ⟨y, y1, y2⟩ := hl i (by omega)
    have e0 : i * 3 = 3 * i := by omega
    have e1 : i * 3 + 1 = 3 * i + 1 := by omega
    have e2 : i * 3 + 2 = 3 * i + 2 := by omega
    have uy : ∀ y', y' ≤ 30 → gi z 27 (3 * i) = nI y' → y' = y := fun y' h1 h2 => by
      rw [y2, nj_eq (by omega) (by omega)] at h2; exact h2.symm
    by_cases c : gi z 27 (3 * i + 1) = nI q ∧ ¬ gi z 46 (k * 31 + y) = gi z 27 (3 * i + 2)
    · obtain ⟨c1, c2⟩ := c
      refine ⟨0, Or.inl rfl, ?_, ⟨fun e => absurd e (by decide), fun e => absurd (e i (Nat.le_refl _) (by omega) c1 y y1 y2) c2⟩⟩
      rw [fX9_fitsLogs_17_L3]
      unfold fX10_logDay_17 fX10_logPerson_17 fX10_logLate_17
      simp (disch := omega) only [↓ite_bind, ↓ck_bind, ↓lt_bind, ↓Option.bind_assoc, ↓bd_s, ↓lt_v, ↓ck_v, ↓reduceIte, Bool.false_eq_true, Bool.true_eq_false, nj_add, nj_addl, nj_addr, nj_mull, nj_mulr, nj_subr, nj_pred, ix_nI, ix_lit, inb_t, inb_l, nj_le_t, nj_le_f, nj_lel_t, nj_lel_f, nj_ler_t, nj_ler_f, nj_lt_t, nj_lt_f, nj_ltl_t, nj_ltl_f, nj_ltr_t, nj_ltr_f, nj_eq_t, nj_eq_f, nj_eqr_t, nj_eqr_f, nj_m1, nj_m2, e0, h4, y2, c1, c2]
    · obtain ⟨r, r1, r2, r3⟩ := ih (i + 1) f (by omega) (by omega)
      refine ⟨r, r1, ?_, ?_⟩
      · rw [fX9_fitsLogs_17_L3]
        unfold fX10_logDay_17 fX10_logPerson_17 fX10_logLate_17
        by_cases c1 : gi z 27 (3 * i + 1) = nI q
        · have c2 : gi z 46 (k * 31 + y) = gi z 27 (3 * i + 2) := by
            by_cases c2 : gi z 46 (k * 31 + y) = gi z 27 (3 * i + 2)
            · exact c2
            · exact absurd ⟨c1, c2⟩ c
          simp (disch := omega) only [↓ite_bind, ↓ck_bind, ↓lt_bind, ↓Option.bind_assoc, ↓bd_s, ↓lt_v, ↓ck_v, ↓reduceIte, Bool.false_eq_true, Bool.true_eq_false, nj_add, nj_addl, nj_addr, nj_mull, nj_mulr, nj_subr, nj_pred, ix_nI, ix_lit, inb_t, inb_l, nj_le_t, nj_le_f, nj_lel_t, nj_lel_f, nj_ler_t, nj_ler_f, nj_lt_t, nj_lt_f, nj_ltl_t, nj_ltl_f, nj_ltr_t, nj_ltr_f, nj_eq_t, nj_eq_f, nj_eqr_t, nj_eqr_f, nj_m1, nj_m2, e0, h4, y2, c1, c2]
          exact r2
        · simp (disch := omega) only [↓ite_bind, ↓ck_bind, ↓lt_bind, ↓Option.bind_assoc, ↓bd_s, ↓lt_v, ↓ck_v, ↓reduceIte, Bool.false_eq_true, Bool.true_eq_false, nj_add, nj_addl, nj_addr, nj_mull, nj_mulr, nj_subr, nj_pred, ix_nI, ix_lit, inb_t, inb_l, nj_le_t, nj_le_f, nj_lel_t, nj_lel_f, nj_ler_t, nj_ler_f, nj_lt_t, nj_lt_f, nj_ltl_t, nj_ltl_f, nj_ltr_t, nj_ltr_f, nj_eq_t, nj_eq_f, nj_eqr_t, nj_eqr_f, nj_m1, nj_m2, e0, h4, y2, c1]
          exact r2
      · rw [r3]
        refine ⟨fun e j h1 h2 h5 y' h6 h7 => ?_, fun e j h1 h2 => e j (by omega) h2⟩
        by_cases ej : j = i
        · subst ej
          rw [uy y' h6 h7]
          by_cases c2 : gi z 46 (k * 31 + y) = gi z 27 (3 * j + 2)
          · exact c2
          · exact absurd ⟨h5, c2⟩ c
        · exact e j (by omega) h2 h5 y' h6 h7
theorem hb20 {k : Nat} (hk : k < 9) : -20 ≤ (10 : Int32) * nI k - 20 ∧ (10 : Int32) * nI k - 20 ≤ 60 := by
  have : k = 0 ∨ k = 1 ∨ k = 2 ∨ k = 3 ∨ k = 4 ∨ k = 5 ∨ k = 6 ∨ k = 7 ∨ k = 8 := by omega
  rcases this with rfl | rfl | rfl | rfl | rfl | rfl | rfl | rfl | rfl <;> decide
theorem CRs_beg {t : PH} {u v z z' : ST} {d np nm R q : Nat} {p : Option Nat} {hh : Int32} (nz : NW t u v d np nm R) (p3 : RlP t u v p) (hq : q < np) (h1 : -20 ≤ hh ∧ hh ≤ 60) (f56 : gi v 0 56 = -1) (f57 : gi v 0 57 = -1) (f63 : gi v 0 63 = 0)
    (a1 : Fr [32] (si (stT p u) 41 q hh) z) (a2 : ∀ x, x < np → gi z 32 x = gi (si (stT p u) 41 q hh) 20 x ∧ gi z 32 (5 + x) = gi (si (stT p u) 41 q hh) 41 x) (a3 : ∀ m, m < nm → gi z 32 (20 + m) = gi (si (stT p u) 41 q hh) 23 m ∧ gi z 32 (28 + m) = 0 ∧ gi z 32 (36 + m) = 0) (a4 : ∀ j, 10 ≤ j → j < 20 → gi z 32 j = 0) (a5 : gi z 32 44 = gi (si (stT p u) 41 q hh) 18 6) (a6 : gi z 32 45 = 0)
    (b1 : Fr [1, 3, 4, 5, 6, 9, 11, 12] (si v 2 q hh) z') (b2 : ∀ j, j ≠ 8 → j ≠ 9 → gi z' 1 j = gi (si v 2 q hh) 1 j) (b3 : gi z' 1 8 = gi (si v 2 q hh) 18 0) (b4 : gi z' 1 9 = 0) (b5 : ∀ x, x < 5 → gi z' 3 x = gi (si v 2 q hh) 16 x ∧ gi z' 4 x = gi (si v 2 q hh) 2 x ∧ gi z' 5 x = 0 ∧ gi z' 6 x = 0) (b6 : ∀ m, m < 8 → gi z' 9 m = gi (si v 2 q hh) 17 m ∧ gi z' 11 m = 0 ∧ gi z' 12 m = 0) : CRs t z z' np nm d := by
  obtain ⟨s7, s8, s9, s10, s13, s15, s16, s17⟩ := stT_30 (p := p) (u := u)
  have hnp := nz.1.1
  have hnm := nz.1.2.1
  obtain ⟨t1, t2, t3, t4, t5, t6, t7, t8, t9, t10, t11, t12, t13, t14, t15⟩ := nz.1
  have z30 : ∀ j, gi z 30 j = gi (stT p u) 30 j := fun j => by rw [a1.gi (by decide), gi_ne (by decide)]
  have z0 : ∀ j, gi z' 0 j = gi v 0 j := fun j => by rw [b1.gi (by decide), gi_ne (by decide)]
  have v1 : ∀ j, j ≠ 8 → j ≠ 9 → gi z' 1 j = gi v 1 j := fun j h1 h2 => by rw [b2 j h1 h2, gi_ne (by decide)]
  have hmr : ∀ j, mr z j = mr (stT p u) j := fun j => by rw [a1.mr, mr_si]
  have h41 : ∀ x, x < np → gi z 41 x = gi z' 2 x ∧ -20 ≤ gi z' 2 x ∧ gi z' 2 x ≤ 60 := fun x hx => by
    rw [a1.gi (by decide), b1.gi (by decide), gi_si, if_pos rfl, gi_si, if_pos rfl]
    by_cases e : x = q
    · rw [if_pos e, if_pos e]; exact ⟨rfl, h1⟩
    · rw [if_neg e, if_neg e, stT_41 (by omega)]
      obtain ⟨q1, q2, q3⟩ := t14 x hx
      exact ⟨q1, q2⟩
  refine CRs_of nz p3 (by rw [hmr]; exact stT_mr.1) (by rw [hmr]; exact stT_mr.2) (fun a j h1 h2 h3 _ => ?_) (fun a j ha => ?_) (by rw [z30, v1 _ (by decide) (by decide)]; exact s7.trans t10) (by rw [z30, v1 _ (by decide) (by decide)]; exact s8.trans t11) h41 (by rw [z30, z0]; exact s9.trans f56.symm) (by rw [z30, z0]; exact s10.trans f57.symm) (fun e => absurd (by rw [z0]; exact f57) e) (by rw [z30, z0]; exact s13.trans f63.symm) (fun j hj => ?_) ⟨fun x hx => ?_, fun m hm => ?_, 0, by omega, b4⟩ (fun e => absurd (by rw [z0]; exact f63) e)
  · rw [a1.gi (by simp only [List.mem_cons, List.not_mem_nil, or_false]; exact h2), gi_ne h3]; exact stT_o ⟨h1, h3⟩ j
  · by_cases e : a = 1
    · subst e; exact v1 j (by omega) (by omega)
    · rw [b1.gi (by simp only [List.mem_cons, List.not_mem_nil, or_false]; omega), gi_ne (by omega)]
  · show gi z 32 j = _
    unfold vis at hj
    by_cases e1 : j < np
    · rw [← lv_clock _ (by omega), (a2 j e1).1, (b5 j (by omega)).1, gi_ne (by decide), gi_ne (by decide), stT_o (by decide)]
      exact (t14 j e1).2.2.1
    by_cases e2 : 5 ≤ j ∧ j < 5 + np
    · obtain ⟨x, rfl⟩ : ∃ x, j = 5 + x := ⟨j - 5, by omega⟩
      have hx : x < np := by omega
      rw [← lv_last _ (by omega), (a2 x hx).2, (b5 x (by omega)).2.1]
      have := (h41 x hx).1
      rw [a1.gi (by decide), b1.gi (by decide)] at this
      exact this
    by_cases e3 : 10 ≤ j ∧ j < 15
    · obtain ⟨x, rfl⟩ : ∃ x, j = 10 + x := ⟨j - 10, by omega⟩
      rw [← lv_fined _ (by omega), a4 _ (by omega) (by omega), (b5 x (by omega)).2.2.1]
    by_cases e4 : 15 ≤ j ∧ j < 20
    · obtain ⟨x, rfl⟩ : ∃ x, j = 15 + x := ⟨j - 15, by omega⟩
      rw [← lv_waited _ (by omega), a4 _ (by omega) (by omega), (b5 x (by omega)).2.2.2]
    by_cases e5 : 20 ≤ j ∧ j < 20 + nm
    · obtain ⟨x, rfl⟩ : ∃ x, j = 20 + x := ⟨j - 20, by omega⟩
      have hx : x < nm := by omega
      rw [← lv_minute _ (by omega), (a3 x hx).1, (b6 x (by omega)).1, gi_ne (by decide), gi_ne (by decide), stT_o (by decide)]
      obtain ⟨_, _, _, _, _, _, _, _, _, _, _, w, _⟩ := t15 x hx
      exact w
    by_cases e6 : 28 ≤ j ∧ j < 28 + nm
    · obtain ⟨x, rfl⟩ : ∃ x, j = 28 + x := ⟨j - 28, by omega⟩
      have hx : x < nm := by omega
      rw [← lv_held _ (by omega), (a3 x hx).2.1, (b6 x (by omega)).2.1]
    by_cases e7 : 36 ≤ j ∧ j < 36 + nm
    · obtain ⟨x, rfl⟩ : ∃ x, j = 36 + x := ⟨j - 36, by omega⟩
      have hx : x < nm := by omega
      rw [← lv_missed _ (by omega), (a3 x hx).2.2, (b6 x (by omega)).2.2]
    by_cases e8 : j = 44
    · subst e8
      rw [← lv_exempt, a5, b3, gi_ne (by decide), gi_ne (by decide), stT_o (by decide)]
      exact t13
    · obtain rfl : j = 45 := by omega
      rw [← lv_day0, a6, b4]
  · rw [← lv_clock _ (by omega), (b5 x (by omega)).1, gi_ne (by decide)]
    exact (t14 x hx).2.2.2
  · rw [← lv_minute _ (by omega), (b6 m (by omega)).1, gi_ne (by decide)]
    obtain ⟨_, _, _, _, _, _, _, _, _, _, _, _, w⟩ := t15 m hm
    exact w
/-- one habit by both -/
theorem fit_both {t : PH} {s s' u v : ST} {d np nm R q k : Nat} {x2 : Int32} (h : INV t s s' d) (hn : NW t s s' d np nm R) (qs : QS s s' u v) (hd : d ≤ 600) (hq : q < np) (hk : k < 9) :
    ∃ p m z w' b, fX11_ruleThatIsInForce t u = some p ∧ fX0_start_18 p t u = some (stT p u) ∧ fX5_begin_31_18_41 (si (stT p u) 41 q (10 * nI k - 20)) = some m ∧ fX11_habitsThatFit_L68 (nI q) x2 (nI k) t FUEL 0 m = some (nI 31, z) ∧ fX9_fitsLogs_17 (nI k) (nI q) z = some b ∧ fX12_doesFit (nI q) (nI k) v = some (b, w') ∧ (b = 0 ∨ b = 1) ∧ QS s s' z w' ∧ (∀ e, e < 31 → gi z 46 (k * 31 + e) = gi w' 52 (9 * e + k)) ∧ (∀ j, j < k * 31 ∨ k * 31 + 31 ≤ j → gi z 46 j = gi u 46 j) ∧ (∀ j, (∀ e, e < 31 → j ≠ 9 * e + k) → gi w' 52 j = gi v 52 j) ∧ (∀ j, gi w' 53 j = gi v 53 j) := by
  have nz := NW_k h.1 hn qs.1 qs.2.1
  have hnp := nz.1.1
  have hnm := nz.1.2.1
  obtain ⟨p, p1, p2, p3⟩ := rule_ev nz
  obtain ⟨nl, l1, l2, l3, l4⟩ := nz.2.2.2.2.2.2.2.2.2.2
  have uo : ∀ a j, a ≠ 30 → a ≠ 41 → gi (si (stT p u) 41 q (10 * nI k - 20)) a j = gi u a j := fun a j h1 h2 => by rw [gi_ne h2]; exact stT_o ⟨h1, h2⟩ j
  obtain ⟨m, a1, a2, a3, a4, a5, a6, a7⟩ := begC (u := si (stT p u) 41 q (10 * nI k - 20)) hnp hnm (by rw [uo _ _ (by decide) (by decide)]; exact nz.1.2.2.1) (by rw [uo _ _ (by decide) (by decide)]; exact nz.1.2.2.2.2.1)
  obtain ⟨m', b1, b2, b3, b4, b5, b6, b7⟩ := begM (si v 2 q (10 * nI k - 20))
  have hc : CRs t m m' np nm d := CRs_beg nz p3 hq (hb20 hk) qs.2.2.2.1 qs.2.2.2.2.1 qs.2.2.2.2.2 a2 a3 a4 a5 a6 a7 b2 b3 b4 b5 b6 b7
  obtain ⟨z, z', b, c1, c2, c3, c4, c5, c6, c7, c8, c9⟩ := days31 (t := t) (q := q) (k := k) (nl := nl) (o2 := x2) (o3 := gi v 2 q) hq hk l1 31 0 FUEL FUEL d 1 m m' (by omega) (by rw [FUEL_eq]; omega) (by rw [FUEL_eq]; omega) hc (by omega) (by rw [b3 _ (by decide) (by decide), gi_ne (by decide)]; exact l3) (Or.inr rfl)
  have km : kN m = kN u := kN_of (fun a j h => by rw [a2.gi (by simp only [List.mem_cons, List.not_mem_nil, or_false]; omega), uo _ _ (by omega) (by omega)])
  have kz : kN z = kN s := c8.trans (km.trans qs.1)
  have zu : ∀ a j, ¬ (30 ≤ a ∧ a ≤ 47) → gi z a j = gi u a j := fun a j h => (kN_g c8 h).trans (kN_g km h)
  obtain ⟨r, r1, r2, r3⟩ := fits_L (z := z) (k := k) (q := q) (nl := nl) hk l1 (by rw [zu _ _ (by omega)]; exact l2) (fun j hj => by
    obtain ⟨e1, e2, e3, y, e4, e5⟩ := l4 j hj
    exact ⟨y, e4, by rw [zu _ _ (by omega)]; exact e1.trans e5⟩) nl 0 FUEL (by omega) (by rw [FUEL_eq]; omega)
  have r2 : fX9_fitsLogs_17 (nI k) (nI q) z = some r := r2
  have m'v : ∀ a j, a = 13 ∨ a = 14 ∨ a = 15 → gi m' a j = gi v a j := fun a j ha => by rw [b2.gi (by simp only [List.mem_cons, List.not_mem_nil, or_false]; omega), gi_ne (by omega)]
  have hrb : r = b := by
    have iff : r = 1 ↔ b = 1 := by
      rw [r3, c7]
      constructor
      · intro e
        refine ⟨rfl, fun e2 _ h2 j hj h4 h5 => ?_⟩
        obtain ⟨g1, g2, g3, y, g4, g5⟩ := l4 j hj
        rw [← c3 e2 (by omega) h2, m'v _ _ (by omega), ← g3, ← zu _ _ (by omega)]
        refine e j (by omega) hj ?_ e2 (by omega) ?_
        · rw [zu _ _ (by omega)]; rw [m'v _ _ (by omega)] at h4; exact g2.trans h4
        · rw [zu _ _ (by omega)]; rw [m'v _ _ (by omega)] at h5; exact g1.trans h5
      · intro e j _ hj h4 y hy h5
        obtain ⟨g1, g2, g3, y', g4, g5⟩ := l4 j hj
        rw [zu _ _ (by omega)] at h4 h5
        rw [c3 y (by omega) (by omega), e.2 y (by omega) (by omega) j hj (by rw [m'v _ _ (by omega)]; exact g2.symm.trans h4) (by rw [m'v _ _ (by omega)]; exact g1.symm.trans h5), m'v _ _ (by omega), zu _ _ (by omega)]
        exact g3.symm
    rcases r1 with rfl | rfl
    · rcases c6 with rfl | rfl
      · rfl
      · exact absurd (iff.mpr rfl) (by decide)
    · exact (iff.mp rfl).symm
  subst hrb
  -- the way back
  have z'v : ∀ a j, chM a j = false → a ≠ 52 → a ≠ 1 → a ≠ 9 → ¬ (a = 2 ∧ j = q) → gi z' a j = gi v a j := fun a j e1 e2 e3 e4 e5 => by
    rw [c9 a j e1 e2, b2.gi (by
      unfold chM at e1
      simp at e1
      simp only [List.mem_cons, List.not_mem_nil, or_false]
      omega), si_x _ _ e5]
  have hkq : kQ (si z' 2 q (gi v 2 q)) = kQ s' := by
    rw [← kQ_kR qs.2.1]
    refine kQ_of (fun a j e => ?_)
    rw [gi_si]
    have e' := e
    simp only [Bool.or_eq_false_iff] at e'
    obtain ⟨e1, e2⟩ := e'
    unfold scr at e1
    unfold svr at e2
    simp at e1 e2
    by_cases ea : a = 2
    · subst ea
      rw [if_pos rfl]
      by_cases ej : j = q
      · rw [if_pos ej, ej]
      · rw [if_neg ej]; exact z'v _ _ rfl (by decide) (by decide) (by decide) (by omega)
    · rw [if_neg ea]
      exact z'v a j (by unfold chM; simp; grind) (by omega) (by omega) (by omega) (by omega)
  have hsv : SvK s' (si z' 2 q (gi v 2 q)) := SvK_54 qs.2.2.1 (fun j => by rw [gi_ne (by decide)]; exact z'v _ _ rfl (by decide) (by decide) (by decide) (by omega))
  obtain ⟨w', g1, g2, g3, g4, g5⟩ := lays_ev hkq hsv
  have w0 : ∀ j, j ≠ 80 → j ≠ 81 → chM 0 j = false → gi w' 0 j = gi v 0 j := fun j h1 h2 h3 => by
    rw [g4 j h1 h2, gi_ne (by decide)]; exact z'v _ _ h3 (by decide) (by decide) (by decide) (by omega)
  refine ⟨p, m, z, w', r, p1, start18_eq p2, a1, c1, r2, ?_, r1, ⟨kz, g2, g3, ?_, ?_, ?_⟩, fun e he => ?_, fun j hj => ?_, fun j hj => ?_, fun j => ?_⟩
  · unfold fX12_doesFit
    have c2 : fX12_doesFit_L30 (nI q) (nI k) (gi v 2 q) FUEL 1 0 m' = some (r, nI 31, z') := c2
    have hbz : bz r = true := by rcases r1 with rfl | rfl <;> rfl
    rw [ck_t (inb_t (by omega) (by omega)), lt_v, ck_t (inb_t (by omega) (by omega)), lt_v, ix_nI (by omega), b1, bd_s, c2, bd_s, ck_t (inb_t (by omega) (by omega)), lt_v, g1, bd_s, ck_t hbz]
  · rw [w0 _ (by decide) (by decide) rfl]; exact qs.2.2.2.1
  · rw [w0 _ (by decide) (by decide) rfl]; exact qs.2.2.2.2.1
  · rw [w0 _ (by decide) (by decide) rfl]; exact qs.2.2.2.2.2
  · rw [c3 e (by omega) he, g5.gi (by decide), gi_ne (by decide)]
  · rw [c4 j (by omega), a2.gi (by decide), uo _ _ (by decide) (by decide)]
  · rw [g5.gi (by decide), gi_ne (by decide), c5 j (fun e h1 h2 => hj e h2), b2.gi (by decide), gi_ne (by decide)]
  · rw [g5.gi (by decide), gi_ne (by decide)]; exact z'v _ _ rfl (by decide) (by decide) (by decide) (by omega)
