/-! DOOR -/
def RwD (u v : ST) (i : Nat) : Prop := ∀ k, k < i → ∀ e, e < 31 → gi u 46 (k * 31 + e) = gi v 52 (9 * e + k)
theorem nar0 : vp_nar .boolean 0 = 0 := rfl
theorem nar1 : vp_nar .boolean 1 = 1 := rfl
theorem door_L {t : PH} {s s' : ST} {d np nm R q : Nat} {p : Int32} (h : INV t s s' d) (hn : NW t s s' d np nm R) (hd : d ≤ 600) (hq : q < np) : ∀ (m i f f' : Nat) (b0 : Nat → Nat) (u v : ST), i + m = 9 → m < f → m < f' → (∀ k, b0 k ≤ 1) → QS s s' u v → RwD u v i → (∀ k, k < i → gi v 53 k = nI (b0 k)) →
    ∃ b z w', (∀ k, b k ≤ 1) ∧ fX11_habitsThatFit_L4 (nI q) t f (nI (mkS b0 i)) (nI i) u = some (nI (mkS b 9), nI 9, z) ∧ fX12_door_L26 (nI q) p f' (nI i) v = some (nI 9, w') ∧ QS s s' z w' ∧ RwD z w' 9 ∧ (∀ k, k < 9 → gi w' 53 k = nI (b k)) := by
  have hnp := hn.1.1
  intro m
  induction m with
  | zero =>
    intro i f f' b0 u v hi hf hf' hb qs rw0 h53
    obtain ⟨f, rfl⟩ : ∃ m, f = m + 1 := ⟨f - 1, by omega⟩
    obtain ⟨f', rfl⟩ : ∃ m, f' = m + 1 := ⟨f' - 1, by omega⟩
    obtain rfl : i = 9 := by omega
    refine ⟨b0, u, v, hb, ?_, ?_, qs, rw0, h53⟩
    · rw [fX11_habitsThatFit_L4, if_pos (by decide)]
    · rw [fX12_door_L26, if_pos (by decide)]
  | succ m ih =>
    intro i f f' b0 u v hi hf hf' hb qs rw0 h53
    obtain ⟨f, rfl⟩ : ∃ m, f = m + 1 := ⟨f - 1, by omega⟩
    obtain ⟨f', rfl⟩ : ∃ m, f' = m + 1 := ⟨f' - 1, by omega⟩
    obtain ⟨pp, mm, z, w', r, a1, a2, a3, a4, a5, a6, a7, a8, a9, a10, a11, a12⟩ := fit_both (x2 := nI (mkS b0 i)) (q := q) (k := i) h hn qs hd hq (by omega)
    have hct := mkS_lt hb i
    have hqs : ∀ x, QS s s' z (si w' 53 i x) := fun x => ⟨a8.1, (kR_scr rfl).trans a8.2.1, SvK_si a8.2.2.1 (by decide), by rw [gi_ne (by decide)]; exact a8.2.2.2.1, by rw [gi_ne (by decide)]; exact a8.2.2.2.2.1, by rw [gi_ne (by decide)]; exact a8.2.2.2.2.2⟩
    have hrw : ∀ x, RwD z (si w' 53 i x) (i + 1) := fun x k hk e he => by
      rw [gi_ne (by decide)]
      by_cases ek : k = i
      · rw [ek]; exact a9 e he
      · rw [a10 _ (by omega), a11 _ (fun e' he' => by omega)]
        exact rw0 k (by omega) e he
    rcases a7 with rfl | rfl
    · have hb1 : ∀ k, (fun k => if k = i then 0 else b0 k) k ≤ 1 := fun k => by
        show (if k = i then 0 else b0 k) ≤ 1
        split
        · omega
        · exact hb k
      obtain ⟨c1, c2, c3⟩ := mkS_c (b := fun k => if k = i then 0 else b0 k) (c := b0) i (fun k hk => if_neg (by omega))
      obtain ⟨b, z2, w2, d1, d2, d3, d4⟩ := ih (i + 1) f f' (fun k => if k = i then 0 else b0 k) z (si w' 53 i 0) (by omega) (by omega) (by omega) hb1 (hqs 0) (hrw 0) (fun k hk => by
        show gi (si w' 53 i 0) 53 k = nI (if k = i then 0 else b0 k)
        rw [gi_si, if_pos rfl]
        by_cases ek : k = i
        · rw [if_pos ek, if_pos ek]; rfl
        · rw [if_neg ek, if_neg ek, a12]; exact h53 k (by omega))
      rw [mkS, c1] at d2
      simp only [if_true, Nat.zero_mul, Nat.add_zero] at d2
      refine ⟨b, z2, w2, d1, ?_, ?_, d4⟩
      · rw [fX11_habitsThatFit_L4]
        unfold fX11_habitOf
        simp (disch := omega) only [↓ite_bind, ↓ck_bind, ↓lt_bind, ↓Option.bind_assoc, ↓bd_s, ↓lt_v, ↓ck_v, ↓reduceIte, Bool.false_eq_true, Bool.true_eq_false, ix_nI, inb_t, nj_le_t, nj_le_f, nj_lel_t, nj_lel_f, nj_ler_t, nj_ler_f, nj_lt_t, nj_lt_f, nj_ltl_t, nj_ltl_f, nj_ltr_t, nj_ltr_f, nj_eq_t, nj_eq_f, nj_eqr_t, nj_eqr_f, nj_m1, nj_m2, nj_addr, a1, a2, a3, a4, a5]
        exact d2
      · rw [fX12_door_L26]
        simp (disch := omega) only [↓ite_bind, ↓ck_bind, ↓lt_bind, ↓Option.bind_assoc, ↓bd_s, ↓lt_v, ↓ck_v, ↓reduceIte, Bool.false_eq_true, Bool.true_eq_false, ix_nI, inb_t, nj_le_t, nj_le_f, nj_lel_t, nj_lel_f, nj_ler_t, nj_ler_f, nj_lt_t, nj_lt_f, nj_ltl_t, nj_ltl_f, nj_ltr_t, nj_ltr_f, nj_eq_t, nj_eq_f, nj_eqr_t, nj_eqr_f, nj_m1, nj_m2, nj_addr, a6, nar0]
        exact d3
    · have hb1 : ∀ k, (fun k => if k = i then 1 else b0 k) k ≤ 1 := fun k => by
        show (if k = i then 1 else b0 k) ≤ 1
        split
        · omega
        · exact hb k
      obtain ⟨c1, c2, c3⟩ := mkS_c (b := fun k => if k = i then 1 else b0 k) (c := b0) i (fun k hk => if_neg (by omega))
      obtain ⟨b, z2, w2, d1, d2, d3, d4⟩ := ih (i + 1) f f' (fun k => if k = i then 1 else b0 k) z (si w' 53 i 1) (by omega) (by omega) (by omega) hb1 (hqs 1) (hrw 1) (fun k hk => by
        show gi (si w' 53 i 1) 53 k = nI (if k = i then 1 else b0 k)
        rw [gi_si, if_pos rfl]
        by_cases ek : k = i
        · rw [if_pos ek, if_pos ek]; rfl
        · rw [if_neg ek, if_neg ek, a12]; exact h53 k (by omega))
      rw [mkS, c1] at d2
      simp only [if_true, Nat.one_mul] at d2
      have hor := or_all i (by omega) (mkS b0 i) hct.1
      refine ⟨b, z2, w2, d1, ?_, ?_, d4⟩
      · rw [fX11_habitsThatFit_L4]
        unfold fX11_habitOf
        simp (disch := omega) only [↓ite_bind, ↓ck_bind, ↓lt_bind, ↓Option.bind_assoc, ↓bd_s, ↓lt_v, ↓ck_v, ↓reduceIte, Bool.false_eq_true, Bool.true_eq_false, ix_nI, inb_t, nj_le_t, nj_le_f, nj_lel_t, nj_lel_f, nj_ler_t, nj_ler_f, nj_lt_t, nj_lt_f, nj_ltl_t, nj_ltl_f, nj_ltr_t, nj_ltr_f, nj_eq_t, nj_eq_f, nj_eqr_t, nj_eqr_f, nj_m1, nj_m2, nj_addr, a1, a2, a3, a4, a5, i10, hor]
        exact d2
      · rw [fX12_door_L26]
        simp (disch := omega) only [↓ite_bind, ↓ck_bind, ↓lt_bind, ↓Option.bind_assoc, ↓bd_s, ↓lt_v, ↓ck_v, ↓reduceIte, Bool.false_eq_true, Bool.true_eq_false, ix_nI, inb_t, nj_le_t, nj_le_f, nj_lel_t, nj_lel_f, nj_ler_t, nj_ler_f, nj_lt_t, nj_lt_f, nj_ltl_t, nj_ltl_f, nj_ltr_t, nj_ltr_f, nj_eq_t, nj_eq_f, nj_eqr_t, nj_eqr_f, nj_m1, nj_m2, nj_addr, a6, nar1]
        exact d3
section MA
variable {t : PH} {u v : ST} {b : Nat → Nat}
theorem cnt_both (hb : ∀ k, b k ≤ 1) (hr : RwD u v 9) (h53 : ∀ k, k < 9 → gi v 53 k = nI (b k)) {a e : Nat} {o3 o2 : Int32} (ha : a < 9) (he : e < 31) : ∀ (m i f f' c : Nat), i + m = 9 → m < f → m < f' → c ≤ i →
    ∃ c', c ≤ c' ∧ c' ≤ 9 ∧ fX9_mostAlike_L18 (nI (mkS b 9)) (nI e) o3 (nI a) f (nI c) (nI i) u = some (nI c', nI 9) ∧ fX12_mostAlike_L16 (nI e) o2 (nI a) f' (nI (if b a = 1 then c else 0)) (nI i) v = some (nI (if b a = 1 then c' else 0), nI 9) ∧ (b a = 1 → i ≤ a → c + 1 ≤ c') := by
  intro m
  induction m with
  | zero =>
    intro i f f' c hi hf hf' hc
    obtain ⟨f, rfl⟩ : ∃ m, f = m + 1 := ⟨f - 1, by omega⟩
    obtain ⟨f', rfl⟩ : ∃ m, f' = m + 1 := ⟨f' - 1, by omega⟩
    obtain rfl : i = 9 := by omega
    refine ⟨c, Nat.le_refl _, hc, ?_, ?_, fun _ h => absurd h (by omega)⟩
    · rw [fX9_mostAlike_L18, if_pos (by decide)]
    · rw [fX12_mostAlike_L16, if_pos (by decide)]
  | succ m ih =>
    intro i f f' c hi hf hf' hc
    obtain ⟨f, rfl⟩ : ∃ m, f = m + 1 := ⟨f - 1, by omega⟩
    obtain ⟨f', rfl⟩ : ∃ m, f' = m + 1 := ⟨f' - 1, by omega⟩
    have ra := hr a ha e he
    have ri := hr i (by omega) e he
    have fa := h53 a ha
    have fi := h53 i (by omega)
    have hbit := mk_bit hb (i := i) (by omega)
    by_cases ce : gi v 52 (9 * e + a) = gi v 52 (9 * e + i)
    · by_cases ci : b i = 1
      · have hbit : (((nI (mkS b 9) >>> (nI i &&& 31)) &&& 1) = 1) = True := by rw [hbit]; exact eq_true ci
        obtain ⟨c', k1, k2, k3, k4, k5⟩ := ih (i + 1) f f' (c + 1) (by omega) (by omega) (by omega) (by omega)
        refine ⟨c', by omega, k2, ?_, ?_, fun h1 h2 => by omega⟩
        · rw [fX9_mostAlike_L18]
          simp (disch := omega) only [↓ite_bind, ↓ck_bind, ↓lt_bind, ↓Option.bind_assoc, ↓bd_s, ↓lt_v, ↓ck_v, ↓reduceIte, Bool.false_eq_true, Bool.true_eq_false, nj_add, nj_addl, nj_addr, nj_mull, nj_mulr, nj_subr, nj_pred, ix_nI, ix_lit, inb_t, inb_l, nj_le_t, nj_le_f, nj_lel_t, nj_lel_f, nj_ler_t, nj_ler_f, nj_lt_t, nj_lt_f, nj_ltl_t, nj_ltl_f, nj_ltr_t, nj_ltr_f, nj_eq_t, nj_eq_f, nj_eqr_t, nj_eqr_f, nj_m1, nj_m2, ra, ri, ce, hbit, i10]
          exact k3
        · rw [fX12_mostAlike_L16]
          by_cases ca : b a = 1
          · rw [if_pos ca, if_pos ca] at k4
            rw [if_pos ca]
            simp (disch := omega) only [↓ite_bind, ↓ck_bind, ↓lt_bind, ↓Option.bind_assoc, ↓bd_s, ↓lt_v, ↓ck_v, ↓reduceIte, Bool.false_eq_true, Bool.true_eq_false, nj_add, nj_addl, nj_addr, nj_mull, nj_mulr, nj_subr, nj_pred, ix_nI, ix_lit, inb_t, inb_l, nj_le_t, nj_le_f, nj_lel_t, nj_lel_f, nj_ler_t, nj_ler_f, nj_lt_t, nj_lt_f, nj_ltl_t, nj_ltl_f, nj_ltr_t, nj_ltr_f, nj_eq_t, nj_eq_f, nj_eqr_t, nj_eqr_f, nj_m1, nj_m2, fa, fi, ca, ci, ce, i10]
            exact k4
          · have ca0 : b a = 0 := by have := hb a; omega
            rw [if_neg ca] at k4 ⊢
            simp (disch := omega) only [↓ite_bind, ↓ck_bind, ↓lt_bind, ↓Option.bind_assoc, ↓bd_s, ↓lt_v, ↓ck_v, ↓reduceIte, Bool.false_eq_true, Bool.true_eq_false, nj_add, nj_addl, nj_addr, nj_mull, nj_mulr, nj_subr, nj_pred, ix_nI, ix_lit, inb_t, inb_l, nj_le_t, nj_le_f, nj_lel_t, nj_lel_f, nj_ler_t, nj_ler_f, nj_lt_t, nj_lt_f, nj_ltl_t, nj_ltl_f, nj_ltr_t, nj_ltr_f, nj_eq_t, nj_eq_f, nj_eqr_t, nj_eqr_f, nj_m1, nj_m2, fa, ca0]
            rw [ca0] at k4
            exact k4
      · have hbit : (((nI (mkS b 9) >>> (nI i &&& 31)) &&& 1) = 1) = False := by rw [hbit]; exact eq_false ci
        have ci0 : b i = 0 := by have := hb i; omega
        obtain ⟨c', k1, k2, k3, k4, k5⟩ := ih (i + 1) f f' c (by omega) (by omega) (by omega) (by omega)
        refine ⟨c', by omega, k2, ?_, ?_, fun h1 h2 => ?_⟩
        · rw [fX9_mostAlike_L18]
          simp (disch := omega) only [↓ite_bind, ↓ck_bind, ↓lt_bind, ↓Option.bind_assoc, ↓bd_s, ↓lt_v, ↓ck_v, ↓reduceIte, Bool.false_eq_true, Bool.true_eq_false, nj_add, nj_addl, nj_addr, nj_mull, nj_mulr, nj_subr, nj_pred, ix_nI, ix_lit, inb_t, inb_l, nj_le_t, nj_le_f, nj_lel_t, nj_lel_f, nj_ler_t, nj_ler_f, nj_lt_t, nj_lt_f, nj_ltl_t, nj_ltl_f, nj_ltr_t, nj_ltr_f, nj_eq_t, nj_eq_f, nj_eqr_t, nj_eqr_f, nj_m1, nj_m2, ra, ri, ce, hbit, i10, Int32.add_zero]
          exact k3
        · rw [fX12_mostAlike_L16]
          by_cases ca : b a = 1
          · rw [if_pos ca, if_pos ca] at k4
            rw [if_pos ca]
            simp (disch := omega) only [↓ite_bind, ↓ck_bind, ↓lt_bind, ↓Option.bind_assoc, ↓bd_s, ↓lt_v, ↓ck_v, ↓reduceIte, Bool.false_eq_true, Bool.true_eq_false, nj_add, nj_addl, nj_addr, nj_mull, nj_mulr, nj_subr, nj_pred, ix_nI, ix_lit, inb_t, inb_l, nj_le_t, nj_le_f, nj_lel_t, nj_lel_f, nj_ler_t, nj_ler_f, nj_lt_t, nj_lt_f, nj_ltl_t, nj_ltl_f, nj_ltr_t, nj_ltr_f, nj_eq_t, nj_eq_f, nj_eqr_t, nj_eqr_f, nj_m1, nj_m2, fa, fi, ca, ci0, ce, i10, Int32.add_zero]
            exact k4
          · have ca0 : b a = 0 := by have := hb a; omega
            rw [if_neg ca] at k4 ⊢
            simp (disch := omega) only [↓ite_bind, ↓ck_bind, ↓lt_bind, ↓Option.bind_assoc, ↓bd_s, ↓lt_v, ↓ck_v, ↓reduceIte, Bool.false_eq_true, Bool.true_eq_false, nj_add, nj_addl, nj_addr, nj_mull, nj_mulr, nj_subr, nj_pred, ix_nI, ix_lit, inb_t, inb_l, nj_le_t, nj_le_f, nj_lel_t, nj_lel_f, nj_ler_t, nj_ler_f, nj_lt_t, nj_lt_f, nj_ltl_t, nj_ltl_f, nj_ltr_t, nj_ltr_f, nj_eq_t, nj_eq_f, nj_eqr_t, nj_eqr_f, nj_m1, nj_m2, fa, ca0]
            rw [ca0] at k4
            exact k4
        · by_cases ea : i = a
          · subst ea; exact absurd h1 ci
          · exact k5 h1 (by omega)
    · obtain ⟨c', k1, k2, k3, k4, k5⟩ := ih (i + 1) f f' c (by omega) (by omega) (by omega) (by omega)
      refine ⟨c', by omega, k2, ?_, ?_, fun h1 h2 => ?_⟩
      · rw [fX9_mostAlike_L18]
        simp (disch := omega) only [↓ite_bind, ↓ck_bind, ↓lt_bind, ↓Option.bind_assoc, ↓bd_s, ↓lt_v, ↓ck_v, ↓reduceIte, Bool.false_eq_true, Bool.true_eq_false, nj_add, nj_addl, nj_addr, nj_mull, nj_mulr, nj_subr, nj_pred, ix_nI, ix_lit, inb_t, inb_l, nj_le_t, nj_le_f, nj_lel_t, nj_lel_f, nj_ler_t, nj_ler_f, nj_lt_t, nj_lt_f, nj_ltl_t, nj_ltl_f, nj_ltr_t, nj_ltr_f, nj_eq_t, nj_eq_f, nj_eqr_t, nj_eqr_f, nj_m1, nj_m2, ra, ri, ce, Int32.add_zero]
        exact k3
      · rw [fX12_mostAlike_L16]
        by_cases ca : b a = 1
        · rw [if_pos ca, if_pos ca] at k4
          rw [if_pos ca]
          by_cases ci : b i = 1
          · simp (disch := omega) only [↓ite_bind, ↓ck_bind, ↓lt_bind, ↓Option.bind_assoc, ↓bd_s, ↓lt_v, ↓ck_v, ↓reduceIte, Bool.false_eq_true, Bool.true_eq_false, nj_add, nj_addl, nj_addr, nj_mull, nj_mulr, nj_subr, nj_pred, ix_nI, ix_lit, inb_t, inb_l, nj_le_t, nj_le_f, nj_lel_t, nj_lel_f, nj_ler_t, nj_ler_f, nj_lt_t, nj_lt_f, nj_ltl_t, nj_ltl_f, nj_ltr_t, nj_ltr_f, nj_eq_t, nj_eq_f, nj_eqr_t, nj_eqr_f, nj_m1, nj_m2, fa, fi, ca, ci, ce, i10, Int32.add_zero]
            exact k4
          · have ci0 : b i = 0 := by have := hb i; omega
            simp (disch := omega) only [↓ite_bind, ↓ck_bind, ↓lt_bind, ↓Option.bind_assoc, ↓bd_s, ↓lt_v, ↓ck_v, ↓reduceIte, Bool.false_eq_true, Bool.true_eq_false, nj_add, nj_addl, nj_addr, nj_mull, nj_mulr, nj_subr, nj_pred, ix_nI, ix_lit, inb_t, inb_l, nj_le_t, nj_le_f, nj_lel_t, nj_lel_f, nj_ler_t, nj_ler_f, nj_lt_t, nj_lt_f, nj_ltl_t, nj_ltl_f, nj_ltr_t, nj_ltr_f, nj_eq_t, nj_eq_f, nj_eqr_t, nj_eqr_f, nj_m1, nj_m2, fa, fi, ca, ci0, ce, i10, Int32.add_zero]
            exact k4
        · have ca0 : b a = 0 := by have := hb a; omega
          rw [if_neg ca] at k4 ⊢
          simp (disch := omega) only [↓ite_bind, ↓ck_bind, ↓lt_bind, ↓Option.bind_assoc, ↓bd_s, ↓lt_v, ↓ck_v, ↓reduceIte, Bool.false_eq_true, Bool.true_eq_false, nj_add, nj_addl, nj_addr, nj_mull, nj_mulr, nj_subr, nj_pred, ix_nI, ix_lit, inb_t, inb_l, nj_le_t, nj_le_f, nj_lel_t, nj_lel_f, nj_ler_t, nj_ler_f, nj_lt_t, nj_lt_f, nj_ltl_t, nj_ltl_f, nj_ltr_t, nj_ltr_f, nj_eq_t, nj_eq_f, nj_eqr_t, nj_eqr_f, nj_m1, nj_m2, fa, ca0]
          rw [ca0] at k4
          exact k4
      · by_cases ea : i = a
        · subst ea; exact absurd rfl ce
        · exact k5 h1 (by omega)
theorem most_L (hb : ∀ k, b k ≤ 1) (hr : RwD u v 9) (h53 : ∀ k, k < 9 → gi v 53 k = nI (b k)) {e : Nat} (he : e < 31) : ∀ (m i f f' c : Nat), i + m = 9 → m < f → m < f' → c ≤ 9 →
    ∃ c', c ≤ c' ∧ c' ≤ 9 ∧ fX9_mostAlike_L5 (nI (mkS b 9)) (nI e) f (nI c) (nI i) u = some (nI c', nI 9) ∧ fX12_mostAlike_L4 (nI e) f' (nI c) (nI i) v = some (nI c', nI 9) ∧ ((∃ a, i ≤ a ∧ a < 9 ∧ b a = 1) → 1 ≤ c') ∧ ((∀ a, i ≤ a → a < 9 → b a = 0) → c' = c) := by
  intro m
  induction m with
  | zero =>
    intro i f f' c hi hf hf' hc
    obtain ⟨f, rfl⟩ : ∃ m, f = m + 1 := ⟨f - 1, by omega⟩
    obtain ⟨f', rfl⟩ : ∃ m, f' = m + 1 := ⟨f' - 1, by omega⟩
    obtain rfl : i = 9 := by omega
    refine ⟨c, Nat.le_refl _, hc, ?_, ?_, fun ⟨a, h1, h2, _⟩ => absurd h1 (by omega), fun _ => rfl⟩
    · rw [fX9_mostAlike_L5, if_pos (by decide)]
    · rw [fX12_mostAlike_L4, if_pos (by decide)]
  | succ m ih =>
    intro i f f' c hi hf hf' hc
    obtain ⟨f, rfl⟩ : ∃ m, f = m + 1 := ⟨f - 1, by omega⟩
    obtain ⟨f', rfl⟩ : ∃ m, f' = m + 1 := ⟨f' - 1, by omega⟩
    have hbit := mk_bit hb (i := i) (by omega)
    obtain ⟨y, y1, y2, y3, y4, y5⟩ := cnt_both hb hr h53 (a := i) (e := e) (o3 := nI c) (o2 := nI c) (by omega) he 9 0 FUEL FUEL 0 (by omega) (by rw [FUEL_eq]; omega) (by rw [FUEL_eq]; omega) (by omega)
    have y3 : fX9_mostAlike_L18 (nI (mkS b 9)) (nI e) (nI c) (nI i) FUEL 0 0 u = some (nI y, nI 9) := y3
    have y4 : fX12_mostAlike_L16 (nI e) (nI c) (nI i) FUEL 0 0 v = some (nI (if b i = 1 then y else 0), nI 9) := by
      rw [ite_self] at y4; exact y4
    by_cases ci : b i = 1
    · have hbit : (((nI (mkS b 9) >>> (nI i &&& 31)) &&& 1) = 1) = True := by rw [hbit]; exact eq_true ci
      rw [if_pos ci] at y4
      have hy := y5 ci (by omega)
      by_cases cc : y ≤ c
      · have hmx : imx (nI c) (nI y) = nI c := by unfold imx; rw [if_neg (by rw [nj_lt (by omega) (by omega)]; omega)]
        obtain ⟨c', k1, k2, k3, k4, k5, k6⟩ := ih (i + 1) f f' c (by omega) (by omega) (by omega) hc
        refine ⟨c', k1, k2, ?_, ?_, fun _ => by omega, fun hh => absurd (hh i (Nat.le_refl _) (by omega)) (by omega)⟩
        · rw [fX9_mostAlike_L5]
          simp (disch := omega) only [↓ite_bind, ↓ck_bind, ↓lt_bind, ↓Option.bind_assoc, ↓bd_s, ↓lt_v, ↓ck_v, ↓reduceIte, Bool.false_eq_true, Bool.true_eq_false, nj_add, nj_addl, nj_addr, nj_mull, nj_mulr, nj_subr, nj_pred, ix_nI, ix_lit, inb_t, inb_l, nj_le_t, nj_le_f, nj_lel_t, nj_lel_f, nj_ler_t, nj_ler_f, nj_lt_t, nj_lt_f, nj_ltl_t, nj_ltl_f, nj_ltr_t, nj_ltr_f, nj_eq_t, nj_eq_f, nj_eqr_t, nj_eqr_f, nj_m1, nj_m2, y3, hbit, hmx]
          exact k3
        · rw [fX12_mostAlike_L4]
          simp (disch := omega) only [↓ite_bind, ↓ck_bind, ↓lt_bind, ↓Option.bind_assoc, ↓bd_s, ↓lt_v, ↓ck_v, ↓reduceIte, Bool.false_eq_true, Bool.true_eq_false, nj_add, nj_addl, nj_addr, nj_mull, nj_mulr, nj_subr, nj_pred, ix_nI, ix_lit, inb_t, inb_l, nj_le_t, nj_le_f, nj_lel_t, nj_lel_f, nj_ler_t, nj_ler_f, nj_lt_t, nj_lt_f, nj_ltl_t, nj_ltl_f, nj_ltr_t, nj_ltr_f, nj_eq_t, nj_eq_f, nj_eqr_t, nj_eqr_f, nj_m1, nj_m2, y4]
          exact k4
      · have hmx : imx (nI c) (nI y) = nI y := by unfold imx; rw [if_pos (by rw [nj_lt (by omega) (by omega)]; omega)]
        obtain ⟨c', k1, k2, k3, k4, k5, k6⟩ := ih (i + 1) f f' y (by omega) (by omega) (by omega) y2
        refine ⟨c', by omega, k2, ?_, ?_, fun _ => by omega, fun hh => absurd (hh i (Nat.le_refl _) (by omega)) (by omega)⟩
        · rw [fX9_mostAlike_L5]
          simp (disch := omega) only [↓ite_bind, ↓ck_bind, ↓lt_bind, ↓Option.bind_assoc, ↓bd_s, ↓lt_v, ↓ck_v, ↓reduceIte, Bool.false_eq_true, Bool.true_eq_false, nj_add, nj_addl, nj_addr, nj_mull, nj_mulr, nj_subr, nj_pred, ix_nI, ix_lit, inb_t, inb_l, nj_le_t, nj_le_f, nj_lel_t, nj_lel_f, nj_ler_t, nj_ler_f, nj_lt_t, nj_lt_f, nj_ltl_t, nj_ltl_f, nj_ltr_t, nj_ltr_f, nj_eq_t, nj_eq_f, nj_eqr_t, nj_eqr_f, nj_m1, nj_m2, y3, hbit, hmx]
          exact k3
        · rw [fX12_mostAlike_L4]
          simp (disch := omega) only [↓ite_bind, ↓ck_bind, ↓lt_bind, ↓Option.bind_assoc, ↓bd_s, ↓lt_v, ↓ck_v, ↓reduceIte, Bool.false_eq_true, Bool.true_eq_false, nj_add, nj_addl, nj_addr, nj_mull, nj_mulr, nj_subr, nj_pred, ix_nI, ix_lit, inb_t, inb_l, nj_le_t, nj_le_f, nj_lel_t, nj_lel_f, nj_ler_t, nj_ler_f, nj_lt_t, nj_lt_f, nj_ltl_t, nj_ltl_f, nj_ltr_t, nj_ltr_f, nj_eq_t, nj_eq_f, nj_eqr_t, nj_eqr_f, nj_m1, nj_m2, y4]
          exact k4
    · have hbit : (((nI (mkS b 9) >>> (nI i &&& 31)) &&& 1) = 1) = False := by rw [hbit]; exact eq_false ci
      rw [if_neg ci] at y4
      obtain ⟨c', k1, k2, k3, k4, k5, k6⟩ := ih (i + 1) f f' c (by omega) (by omega) (by omega) hc
      refine ⟨c', k1, k2, ?_, ?_, fun ⟨a, h1, h2, h3⟩ => ?_, fun hh => k6 (fun a h1 h2 => hh a (by omega) h2)⟩
      · rw [fX9_mostAlike_L5]
        simp (disch := omega) only [↓ite_bind, ↓ck_bind, ↓lt_bind, ↓Option.bind_assoc, ↓bd_s, ↓lt_v, ↓ck_v, ↓reduceIte, Bool.false_eq_true, Bool.true_eq_false, nj_add, nj_addl, nj_addr, nj_mull, nj_mulr, nj_subr, nj_pred, ix_nI, ix_lit, inb_t, inb_l, nj_le_t, nj_le_f, nj_lel_t, nj_lel_f, nj_ler_t, nj_ler_f, nj_lt_t, nj_lt_f, nj_ltl_t, nj_ltl_f, nj_ltr_t, nj_ltr_f, nj_eq_t, nj_eq_f, nj_eqr_t, nj_eqr_f, nj_m1, nj_m2, y3, hbit]
        exact k3
      · rw [fX12_mostAlike_L4]
        simp (disch := omega) only [↓ite_bind, ↓ck_bind, ↓lt_bind, ↓Option.bind_assoc, ↓bd_s, ↓lt_v, ↓ck_v, ↓reduceIte, Bool.false_eq_true, Bool.true_eq_false, nj_add, nj_addl, nj_addr, nj_mull, nj_mulr, nj_subr, nj_pred, ix_nI, ix_lit, inb_t, inb_l, nj_le_t, nj_le_f, nj_lel_t, nj_lel_f, nj_ler_t, nj_ler_f, nj_lt_t, nj_lt_f, nj_ltl_t, nj_ltl_f, nj_ltr_t, nj_ltr_f, nj_eq_t, nj_eq_f, nj_eqr_t, nj_eqr_f, nj_m1, nj_m2, y4]
        exact k4
      · by_cases ea : a = i
        · subst ea; exact absurd h3 ci
        · exact k5 ⟨a, by omega, h2, h3⟩
theorem most_ev (hb : ∀ k, b k ≤ 1) (hr : RwD u v 9) (h53 : ∀ k, k < 9 → gi v 53 k = nI (b k)) {e : Nat} (he : e < 31) :
    ∃ c, c ≤ 9 ∧ fX9_mostAlike (nI (mkS b 9)) (nI e) u = some (nI c) ∧ fX12_mostAlike (nI e) v = some (nI c) ∧ ((∃ a, a < 9 ∧ b a = 1) → 1 ≤ c) ∧ ((∀ a, a < 9 → b a = 0) → c = 0) := by
  obtain ⟨c, c1, c2, c3, c4, c5, c6⟩ := most_L hb hr h53 he 9 0 FUEL FUEL 0 (by omega) (by rw [FUEL_eq]; omega) (by rw [FUEL_eq]; omega) (by omega)
  refine ⟨c, c2, ?_, ?_, fun ⟨a, h1, h2⟩ => c5 ⟨a, by omega, h1, h2⟩, fun hh => c6 (fun a _ h => hh a h)⟩
  · unfold fX9_mostAlike
    rw [show fX9_mostAlike_L5 (nI (mkS b 9)) (nI e) FUEL 0 0 u = fX9_mostAlike_L5 (nI (mkS b 9)) (nI e) FUEL (nI 0) (nI 0) u from rfl, c3, bd_s]
  · unfold fX12_mostAlike
    rw [show fX12_mostAlike_L4 (nI e) FUEL 0 0 v = fX12_mostAlike_L4 (nI e) FUEL (nI 0) (nI 0) v from rfl, c4, bd_s]
theorem door_M (hb : ∀ k, b k ≤ 1) (hr : RwD u v 9) (h53 : ∀ k, k < 9 → gi v 53 k = nI (b k)) {p : Int32} : ∀ (m i f f' be cb : Nat), i + m = 31 → m < f → m < f' → be < 31 → cb ≤ 9 → fX12_mostAlike (nI be) v = some (nI cb) →
    ∃ be' cb', be' < 31 ∧ cb' ≤ 9 ∧ fX11_door_L41 p (nI (mkS b 9)) t f (nI be) (nI cb) (nI i) u = some (nI be', nI cb', nI 31) ∧ fX12_door_L55 p f' (nI be) (nI i) v = some (nI be', nI 31) ∧ fX12_mostAlike (nI be') v = some (nI cb') := by
  intro m
  induction m with
  | zero =>
    intro i f f' be cb hi hf hf' hbe hcb hm
    obtain ⟨f, rfl⟩ : ∃ m, f = m + 1 := ⟨f - 1, by omega⟩
    obtain ⟨f', rfl⟩ : ∃ m, f' = m + 1 := ⟨f' - 1, by omega⟩
    obtain rfl : i = 31 := by omega
    refine ⟨be, cb, hbe, hcb, ?_, ?_, hm⟩
    · rw [fX11_door_L41, if_pos (by decide)]
    · rw [fX12_door_L55, if_pos (by decide)]
  | succ m ih =>
    intro i f f' be cb hi hf hf' hbe hcb hm
    obtain ⟨f, rfl⟩ : ∃ m, f = m + 1 := ⟨f - 1, by omega⟩
    obtain ⟨f', rfl⟩ : ∃ m, f' = m + 1 := ⟨f' - 1, by omega⟩
    obtain ⟨c, c1, c2, c3, -⟩ := most_ev hb hr h53 (e := i) (by omega)
    by_cases cc : cb ≤ c
    · obtain ⟨be', cb', k1, k2, k3, k4, k5⟩ := ih (i + 1) f f' be cb (by omega) (by omega) (by omega) hbe hcb hm
      refine ⟨be', cb', k1, k2, ?_, ?_, k5⟩
      · rw [fX11_door_L41]
        simp (disch := omega) only [↓ite_bind, ↓ck_bind, ↓lt_bind, ↓Option.bind_assoc, ↓bd_s, ↓lt_v, ↓ck_v, ↓reduceIte, Bool.false_eq_true, Bool.true_eq_false, nj_add, nj_addl, nj_addr, nj_mull, nj_mulr, nj_subr, nj_pred, ix_nI, ix_lit, inb_t, inb_l, nj_le_t, nj_le_f, nj_lel_t, nj_lel_f, nj_ler_t, nj_ler_f, nj_lt_t, nj_lt_f, nj_ltl_t, nj_ltl_f, nj_ltr_t, nj_ltr_f, nj_eq_t, nj_eq_f, nj_eqr_t, nj_eqr_f, nj_m1, nj_m2, c2]
        exact k3
      · rw [fX12_door_L55]
        simp (disch := omega) only [↓ite_bind, ↓ck_bind, ↓lt_bind, ↓Option.bind_assoc, ↓bd_s, ↓lt_v, ↓ck_v, ↓reduceIte, Bool.false_eq_true, Bool.true_eq_false, nj_add, nj_addl, nj_addr, nj_mull, nj_mulr, nj_subr, nj_pred, ix_nI, ix_lit, inb_t, inb_l, nj_le_t, nj_le_f, nj_lel_t, nj_lel_f, nj_ler_t, nj_ler_f, nj_lt_t, nj_lt_f, nj_ltl_t, nj_ltl_f, nj_ltr_t, nj_ltr_f, nj_eq_t, nj_eq_f, nj_eqr_t, nj_eqr_f, nj_m1, nj_m2, c3, hm]
        exact k4
    · obtain ⟨be', cb', k1, k2, k3, k4, k5⟩ := ih (i + 1) f f' i c (by omega) (by omega) (by omega) (by omega) c1 c3
      refine ⟨be', cb', k1, k2, ?_, ?_, k5⟩
      · rw [fX11_door_L41]
        simp (disch := omega) only [↓ite_bind, ↓ck_bind, ↓lt_bind, ↓Option.bind_assoc, ↓bd_s, ↓lt_v, ↓ck_v, ↓reduceIte, Bool.false_eq_true, Bool.true_eq_false, nj_add, nj_addl, nj_addr, nj_mull, nj_mulr, nj_subr, nj_pred, ix_nI, ix_lit, inb_t, inb_l, nj_le_t, nj_le_f, nj_lel_t, nj_lel_f, nj_ler_t, nj_ler_f, nj_lt_t, nj_lt_f, nj_ltl_t, nj_ltl_f, nj_ltr_t, nj_ltr_f, nj_eq_t, nj_eq_f, nj_eqr_t, nj_eqr_f, nj_m1, nj_m2, c2]
        exact k3
      · rw [fX12_door_L55]
        simp (disch := omega) only [↓ite_bind, ↓ck_bind, ↓lt_bind, ↓Option.bind_assoc, ↓bd_s, ↓lt_v, ↓ck_v, ↓reduceIte, Bool.false_eq_true, Bool.true_eq_false, nj_add, nj_addl, nj_addr, nj_mull, nj_mulr, nj_subr, nj_pred, ix_nI, ix_lit, inb_t, inb_l, nj_le_t, nj_le_f, nj_lel_t, nj_lel_f, nj_ler_t, nj_ler_f, nj_lt_t, nj_lt_f, nj_ltl_t, nj_ltl_f, nj_ltr_t, nj_ltr_f, nj_eq_t, nj_eq_f, nj_eqr_t, nj_eqr_f, nj_m1, nj_m2, c3, hm]
        exact k4
end MA
theorem door_ok {t : PH} {s s' : ST} {d : Nat} (h : INV t s s' d) (hd : d ≤ 600) (p w : Int32) : A2 t (d + 1) (fX11_door p w t s) (fX12_door p w s') := by
  obtain ⟨np, nm, R, n⟩ := IN0_nw h.1
  have hnp := n.1.1
  unfold fX11_door fX12_door
  rcases g_pers n.1.2.2.1 n.1.2.2.2.1 n.1.1 p with ⟨a, b⟩ | ⟨q, hq, rfl, a, b⟩
  · exact ⟨-1, s, s', by rw [a, bd_s, if_pos rfl, bd_s, if_pos rfl], by rw [b, bd_s, if_pos rfl, bd_s, if_pos rfl], INV_mono h (by omega)⟩
  rw [a, b, bd_s, bd_s, if_neg n10, if_neg n10]
  rcases g_in w (l := 0) (h := 1) (a := 0) (b := 1) (show (0 : Int64) = _ from rfl) (show (1 : Int64) = _ from rfl) rfl rfl (by omega) (by omega) with ⟨c1, c2⟩ | ⟨j, j1, j2, rfl, j4⟩
  · refine ⟨-1, s, s', ?_, by rw [c1, bd_s, if_pos rfl, bd_s, if_pos rfl], INV_mono h (by omega)⟩
    rcases c2 with c2 | ⟨c2, c3, c4⟩
    · simp only [c2, if_true, bd_s]
    · simp only [c2, c4, if_true, bd_s, if_false]
  rw [j4, bd_s, if_neg n10, if_neg (nj_nn (by omega)), if_pos (show nI j ≤ (1 : Int32) by rw [nj_ler (by omega) (by decide)]; omega), bd_s, bd_s, if_neg nft, if_neg nft]
  obtain ⟨v, v1, v2⟩ := q_begin h
  obtain ⟨bb, z, w', a1, a2, a3, a4, a5, a6⟩ := door_L (p := nI j) h n hd hq 9 0 FUEL FUEL (fun _ => 0) s v (by omega) (by rw [FUEL_eq]; omega) (by rw [FUEL_eq]; omega) (fun _ => by omega) v2 (fun k hk => absurd hk (by omega)) (fun k hk => absurd hk (by omega))
  have a2 : fX11_habitsThatFit_L4 (nI q) t FUEL 0 0 s = some (nI (mkS bb 9), nI 9, z) := a2
  have a3 : fX12_door_L26 (nI q) (nI j) FUEL 0 v = some (nI 9, w') := a3
  obtain ⟨c0, e1, e2, e3, e4, e5⟩ := most_ev a1 a5 a6 (e := 0) (by omega)
  obtain ⟨be, cb, k1, k2, k3, k4, k5⟩ := door_M (t := t) a1 a5 a6 (p := nI j) 30 1 (FUEL - 1) FUEL 0 c0 (by omega) (by rw [FUEL_eq]; omega) (by rw [FUEL_eq]; omega) (by omega) e1 e3
  have k4 : fX12_door_L55 (nI j) FUEL 0 1 w' = some (nI be, nI 31) := k4
  have k3' : fX11_door_L41 (nI j) (nI (mkS bb 9)) t FUEL (-1) 0 0 z = some (nI be, nI cb, nI 31) := by
    rw [show FUEL = (FUEL - 1) + 1 from rfl, fX11_door_L41, if_neg (by decide)]
    rw [show fX9_mostAlike (nI (mkS bb 9)) 0 z = fX9_mostAlike (nI (mkS bb 9)) (nI 0) z from rfl, e2, bd_s, if_pos rfl, bd_s, if_pos rfl, bd_s, lt_v]
    exact k3
  obtain ⟨c', f1, f2, f3, f4, f5⟩ := most_ev a1 a5 a6 (e := be) k1
  have hcc : cb = c' := by
    rw [k5] at f3
    have := Option.some.inj f3
    rw [nj_eq (by omega) (by omega)] at this
    exact this
  subst hcc
  unfold fX11_habitsThatFit
  have hlt : mkS bb 9 < 512 := (mkS_lt a1 9).1
  by_cases cz : mkS bb 9 = 0
  · have hz : ∀ a, a < 9 → bb a = 0 := by
      have := mk9 bb
      rw [cz] at this
      intro a ha
      have : a = 0 ∨ a = 1 ∨ a = 2 ∨ a = 3 ∨ a = 4 ∨ a = 5 ∨ a = 6 ∨ a = 7 ∨ a = 8 := by omega
      rcases this with rfl | rfl | rfl | rfl | rfl | rfl | rfl | rfl | rfl <;> omega
    have hc0 := f5 hz
    subst hc0
    refine ⟨-2, z, w', ?_, ?_, q_end h a4⟩
    · rw [a2, bd_s, bd_s, cz, if_pos (show nI 0 = 0 from rfl)]
    · rw [v1, bd_s, a3, bd_s, k4, bd_s, k5, bd_s, if_pos (show nI 0 = 0 from rfl), bd_s]
  · have hz : ∃ a, a < 9 ∧ bb a = 1 := by
      by_cases hz : ∃ a, a < 9 ∧ bb a = 1
      · exact hz
      · exfalso
        have e : ∀ a, a < 9 → bb a = 0 := fun a ha => by
          have := a1 a
          have h1 : ¬ bb a = 1 := fun e => hz ⟨a, ha, e⟩
          omega
        apply cz
        rw [mk9, e 0 (by omega), e 1 (by omega), e 2 (by omega), e 3 (by omega), e 4 (by omega), e 5 (by omega), e 6 (by omega), e 7 (by omega), e 8 (by omega)]
    have hc1 := f4 hz
    have hn0 : ¬ nI (mkS bb 9) = 0 := by rw [nj_eqr (by omega) (by decide)]; exact cz
    have hc0 : ¬ nI cb = 0 := by rw [nj_eqr (by omega) (by decide)]; omega
    have hj : j = 0 ∨ j = 1 := by omega
    rcases hj with rfl | rfl
    · refine ⟨nI be, z, w', ?_, ?_, q_end h a4⟩
      · rw [a2, bd_s, bd_s, if_neg hn0, k3', bd_s, if_pos (show nI 0 = 0 from rfl), bd_s]
      · rw [v1, bd_s, a3, bd_s, k4, bd_s, k5, bd_s, if_neg hc0, if_pos (show nI 0 = 0 from rfl), bd_s]
    · refine ⟨nI cb, z, w', ?_, ?_, q_end h a4⟩
      · rw [a2, bd_s, bd_s, if_neg hn0, k3', bd_s, if_neg (show ¬ nI 1 = 0 by decide), bd_s]
      · rw [v1, bd_s, a3, bd_s, k4, bd_s, k5, bd_s, if_neg hc0, if_neg (show ¬ nI 1 = 0 by decide), bd_s, bd_s]
