/-! HABIT AND DOOR -/
def mkS (b : Nat → Nat) : Nat → Nat
  | 0 => 0
  | n + 1 => mkS b n + b n * 2 ^ n
def ctS (b : Nat → Nat) : Nat → Nat
  | 0 => 0
  | n + 1 => ctS b n + b n
def fsV (b : Nat → Nat) : Nat → Int32
  | 0 => -100
  | n + 1 => if ctS b n = 0 ∧ b n = 1 then 10 * nI n - 20 else fsV b n
theorem mkS_c {b c : Nat → Nat} : ∀ (i : Nat), (∀ k, k < i → b k = c k) → mkS b i = mkS c i ∧ ctS b i = ctS c i ∧ fsV b i = fsV c i
  | 0, _ => ⟨rfl, rfl, rfl⟩
  | i + 1, h => by
    obtain ⟨h1, h2, h3⟩ := mkS_c i (fun k hk => h k (by omega))
    refine ⟨?_, ?_, ?_⟩
    · rw [mkS, mkS, h1, h i (by omega)]
    · rw [ctS, ctS, h2, h i (by omega)]
    · rw [fsV, fsV, h2, h3, h i (by omega)]
theorem mkS_lt {b : Nat → Nat} (hb : ∀ k, b k ≤ 1) : ∀ (i : Nat), mkS b i < 2 ^ i ∧ ctS b i ≤ i
  | 0 => ⟨show 0 < 2 ^ 0 by decide, show 0 ≤ 0 by decide⟩
  | i + 1 => by
    obtain ⟨h1, h2⟩ := mkS_lt hb i
    refine ⟨?_, ?_⟩
    · rw [mkS, Nat.pow_succ]
      have := hb i
      have e : b i = 0 ∨ b i = 1 := by omega
      rcases e with e | e <;> rw [e] <;> omega
    · rw [ctS]
      have := hb i
      omega
theorem or_all : ∀ i, i < 9 → ∀ M, M < 2 ^ i → nI M ||| (1 <<< (nI i &&& 31)) = nI (M + 2 ^ i) := by decide +kernel
theorem bit_all : ∀ i, i < 9 → ∀ M, M < 512 → decide (((nI M >>> (nI i &&& 31)) &&& 1) = 1) = decide (M / 2 ^ i % 2 = 1) := by decide +kernel
def bcF (p0 : Int32) : Int32 := (fun v1 => (fun v2 => (fun v3 => (fun v4 => (fun v5 => (v5 &&& 63 : Int32)) (v4 + ((Int32.toUInt32 v4 >>> (Int32.toUInt32 16 &&& Int32.toUInt32 31)).toInt32) : Int32)) (v3 + ((Int32.toUInt32 v3 >>> (Int32.toUInt32 8 &&& Int32.toUInt32 31)).toInt32) : Int32)) ((v2 + ((Int32.toUInt32 v2 >>> (Int32.toUInt32 4 &&& Int32.toUInt32 31)).toInt32)) &&& 252645135 : Int32)) ((v1 &&& 858993459) + (((Int32.toUInt32 v1 >>> (Int32.toUInt32 2 &&& Int32.toUInt32 31)).toInt32) &&& 858993459) : Int32)) (p0 - (((Int32.toUInt32 p0 >>> (Int32.toUInt32 1 &&& Int32.toUInt32 31)).toInt32) &&& 1431655765) : Int32)
theorem bc_ev (x : Int32) (s : ST) : fJ6_bitCount_0f7a4 x s = some (bcF x) := rfl
theorem bc_all : ∀ n, n < 512 → bcF (nI n) = nI (n % 2 + n / 2 % 2 + n / 4 % 2 + n / 8 % 2 + n / 16 % 2 + n / 32 % 2 + n / 64 % 2 + n / 128 % 2 + n / 256 % 2) := by decide +kernel
theorem mk9 (b : Nat → Nat) : mkS b 9 = 0 + b 0 * 1 + b 1 * 2 + b 2 * 4 + b 3 * 8 + b 4 * 16 + b 5 * 32 + b 6 * 64 + b 7 * 128 + b 8 * 256 := rfl
theorem ct9 (b : Nat → Nat) : ctS b 9 = 0 + b 0 + b 1 + b 2 + b 3 + b 4 + b 5 + b 6 + b 7 + b 8 := rfl
theorem bc_mk {b : Nat → Nat} (hb : ∀ k, b k ≤ 1) : bcF (nI (mkS b 9)) = nI (ctS b 9) := by
  have h0 := hb 0
  have h1 := hb 1
  have h2 := hb 2
  have h3 := hb 3
  have h4 := hb 4
  have h5 := hb 5
  have h6 := hb 6
  have h7 := hb 7
  have h8 := hb 8
  rw [bc_all _ (by rw [mk9]; omega)]
  congr 1
  rw [mk9, ct9]
  omega
theorem mk_bit {b : Nat → Nat} (hb : ∀ k, b k ≤ 1) {i : Nat} (hi : i < 9) : (((nI (mkS b 9) >>> (nI i &&& 31)) &&& 1) = 1) = (b i = 1) := by
  have h0 := hb 0
  have h1 := hb 1
  have h2 := hb 2
  have h3 := hb 3
  have h4 := hb 4
  have h5 := hb 5
  have h6 := hb 6
  have h7 := hb 7
  have h8 := hb 8
  have hM : mkS b 9 < 512 := by rw [mk9]; omega
  have e := bit_all i hi (mkS b 9) hM
  have e2 : mkS b 9 / 2 ^ i % 2 = b i := by
    rw [mk9]
    have : i = 0 ∨ i = 1 ∨ i = 2 ∨ i = 3 ∨ i = 4 ∨ i = 5 ∨ i = 6 ∨ i = 7 ∨ i = 8 := by omega
    rcases this with rfl | rfl | rfl | rfl | rfl | rfl | rfl | rfl | rfl <;> simp only [Nat.reducePow] <;> omega
  rw [e2] at e
  exact propext (decide_eq_decide.mp e)
theorem fs0 {b : Nat → Nat} : ∀ (n : Nat), ctS b n = 0 → fsV b n = -100
  | 0, _ => rfl
  | n + 1, h => by
    rw [ctS] at h
    rw [fsV, if_neg (by omega)]
    exact fs0 n (by omega)
theorem fs1 {b : Nat → Nat} {i : Nat} (h0 : ctS b i = 0) (h1 : b i = 1) : ∀ (n : Nat), i < n → 1 ≤ ctS b n ∧ fsV b n = 10 * nI i - 20
  | 0, h => absurd h (by omega)
  | n + 1, h => by
    by_cases e : n = i
    · subst e
      exact ⟨by rw [ctS]; omega, by rw [fsV, if_pos ⟨h0, h1⟩]⟩
    · obtain ⟨g1, g2⟩ := fs1 h0 h1 n (by omega)
      exact ⟨by rw [ctS]; omega, by rw [fsV, if_neg (by omega)]; exact g2⟩
theorem hab39 {b : Nat → Nat} (hb : ∀ k, b k ≤ 1) {t : PH} {s : ST} : ∀ (m i f : Nat), i + m = 9 → m < f → ctS b i = 0 → fX11_habit_L39 (nI (mkS b 9)) t f (nI i) s = some (fsV b 9, s) := by
  intro m
  induction m with
  | zero =>
    intro i f hi hf h0
    obtain ⟨f, rfl⟩ : ∃ m, f = m + 1 := ⟨f - 1, by omega⟩
    obtain rfl : i = 9 := by omega
    rw [fX11_habit_L39, if_pos (by decide), fs0 9 h0]
  | succ m ih =>
    intro i f hi hf h0
    obtain ⟨f, rfl⟩ : ∃ m, f = m + 1 := ⟨f - 1, by omega⟩
    have hbit := mk_bit hb (i := i) (by omega)
    rw [fX11_habit_L39]
    unfold fX11_habitOf
    by_cases c : b i = 1
    · have hbit : (((nI (mkS b 9) >>> (nI i &&& 31)) &&& 1) = 1) = True := by rw [hbit]; exact eq_true c
      simp (disch := omega) only [nj_le_t, nj_le_f, nj_lel_t, nj_lel_f, nj_ler_t, nj_ler_f, nj_lt_t, nj_lt_f, nj_ltl_t, nj_ltl_f, nj_ltr_t, nj_ltr_f, nj_eq_t, nj_eq_f, nj_eqr_t, nj_eqr_f, nj_m1, nj_m2, hbit, if_true, if_false, bd_s]
      rw [(fs1 h0 c 9 (by omega)).2]
    · have hbit : (((nI (mkS b 9) >>> (nI i &&& 31)) &&& 1) = 1) = False := by rw [hbit]; exact eq_false c
      simp (disch := omega) only [nj_le_t, nj_le_f, nj_lel_t, nj_lel_f, nj_ler_t, nj_ler_f, nj_lt_t, nj_lt_f, nj_ltl_t, nj_ltl_f, nj_ltr_t, nj_ltr_f, nj_eq_t, nj_eq_f, nj_eqr_t, nj_eqr_f, nj_m1, nj_m2, hbit, if_true, if_false, lt_v, nj_addr]
      exact ih (i + 1) f (by omega) (by omega) (by rw [ctS]; have := hb i; omega)
theorem habit_L {t : PH} {s s' : ST} {d np nm R q : Nat} {p : Int32} (h : INV t s s' d) (hn : NW t s s' d np nm R) (hd : d ≤ 600) (hq : q < np) : ∀ (m i f f' : Nat) (b0 : Nat → Nat) (u v : ST), i + m = 9 → m < f → m < f' → (∀ k, b0 k ≤ 1) → QS s s' u v →
    ∃ b z w', (∀ k, b k ≤ 1) ∧ fX11_habitsThatFit_L4 (nI q) t f (nI (mkS b0 i)) (nI i) u = some (nI (mkS b 9), nI 9, z) ∧ fX12_habit_L35 (nI q) p f' (nI (ctS b0 i)) (fsV b0 i) (nI i) v = some (nI (ctS b 9), fsV b 9, nI 9, w') ∧ QS s s' z w' := by
  have hnp := hn.1.1
  intro m
  induction m with
  | zero =>
    intro i f f' b0 u v hi hf hf' hb qs
    obtain ⟨f, rfl⟩ : ∃ m, f = m + 1 := ⟨f - 1, by omega⟩
    obtain ⟨f', rfl⟩ : ∃ m, f' = m + 1 := ⟨f' - 1, by omega⟩
    obtain rfl : i = 9 := by omega
    refine ⟨b0, u, v, hb, ?_, ?_, qs⟩
    · rw [fX11_habitsThatFit_L4, if_pos (by decide)]
    · rw [fX12_habit_L35, if_pos (by decide)]
  | succ m ih =>
    intro i f f' b0 u v hi hf hf' hb qs
    obtain ⟨f, rfl⟩ : ∃ m, f = m + 1 := ⟨f - 1, by omega⟩
    obtain ⟨f', rfl⟩ : ∃ m, f' = m + 1 := ⟨f' - 1, by omega⟩
    obtain ⟨pp, mm, z, w', r, a1, a2, a3, a4, a5, a6, a7, a8, -⟩ := fit_both (x2 := nI (mkS b0 i)) (q := q) (k := i) h hn qs hd hq (by omega)
    have hct := mkS_lt hb i
    rcases a7 with rfl | rfl
    · have hb1 : ∀ k, (fun k => if k = i then 0 else b0 k) k ≤ 1 := fun k => by
        show (if k = i then 0 else b0 k) ≤ 1
        split
        · omega
        · exact hb k
      obtain ⟨c1, c2, c3⟩ := mkS_c (b := fun k => if k = i then 0 else b0 k) (c := b0) i (fun k hk => if_neg (by omega))
      obtain ⟨b, z2, w2, d1, d2, d3, d4⟩ := ih (i + 1) f f' (fun k => if k = i then 0 else b0 k) z w' (by omega) (by omega) (by omega) hb1 a8
      rw [mkS, ctS, fsV, c1, c2, c3] at *
      simp only [if_true, Nat.zero_mul, Nat.add_zero, show ((0 : Nat) = 1) = False from eq_false (by decide), and_false, if_false] at d2 d3
      refine ⟨b, z2, w2, d1, ?_, ?_, d4⟩
      · rw [fX11_habitsThatFit_L4]
        unfold fX11_habitOf
        simp (disch := omega) only [↓ite_bind, ↓ck_bind, ↓lt_bind, ↓Option.bind_assoc, ↓bd_s, ↓lt_v, ↓ck_v, ↓reduceIte, Bool.false_eq_true, Bool.true_eq_false, ix_nI, inb_t, nj_le_t, nj_le_f, nj_lel_t, nj_lel_f, nj_ler_t, nj_ler_f, nj_lt_t, nj_lt_f, nj_ltl_t, nj_ltl_f, nj_ltr_t, nj_ltr_f, nj_eq_t, nj_eq_f, nj_eqr_t, nj_eqr_f, nj_m1, nj_m2, nj_addr, a1, a2, a3, a4, a5]
        exact d2
      · rw [fX12_habit_L35]
        simp (disch := omega) only [↓ite_bind, ↓ck_bind, ↓lt_bind, ↓Option.bind_assoc, ↓bd_s, ↓lt_v, ↓ck_v, ↓reduceIte, Bool.false_eq_true, Bool.true_eq_false, ix_nI, inb_t, nj_le_t, nj_le_f, nj_lel_t, nj_lel_f, nj_ler_t, nj_ler_f, nj_lt_t, nj_lt_f, nj_ltl_t, nj_ltl_f, nj_ltr_t, nj_ltr_f, nj_eq_t, nj_eq_f, nj_eqr_t, nj_eqr_f, nj_m1, nj_m2, nj_addr, a6]
        exact d3
    · have hb1 : ∀ k, (fun k => if k = i then 1 else b0 k) k ≤ 1 := fun k => by
        show (if k = i then 1 else b0 k) ≤ 1
        split
        · omega
        · exact hb k
      obtain ⟨c1, c2, c3⟩ := mkS_c (b := fun k => if k = i then 1 else b0 k) (c := b0) i (fun k hk => if_neg (by omega))
      obtain ⟨b, z2, w2, d1, d2, d3, d4⟩ := ih (i + 1) f f' (fun k => if k = i then 1 else b0 k) z w' (by omega) (by omega) (by omega) hb1 a8
      rw [mkS, ctS, fsV, c1, c2, c3] at *
      simp only [if_true, Nat.one_mul, and_true] at d2 d3
      have hor := or_all i (by omega) (mkS b0 i) hct.1
      refine ⟨b, z2, w2, d1, ?_, ?_, d4⟩
      · rw [fX11_habitsThatFit_L4]
        unfold fX11_habitOf
        simp (disch := omega) only [↓ite_bind, ↓ck_bind, ↓lt_bind, ↓Option.bind_assoc, ↓bd_s, ↓lt_v, ↓ck_v, ↓reduceIte, Bool.false_eq_true, Bool.true_eq_false, ix_nI, inb_t, nj_le_t, nj_le_f, nj_lel_t, nj_lel_f, nj_ler_t, nj_ler_f, nj_lt_t, nj_lt_f, nj_ltl_t, nj_ltl_f, nj_ltr_t, nj_ltr_f, nj_eq_t, nj_eq_f, nj_eqr_t, nj_eqr_f, nj_m1, nj_m2, nj_addr, a1, a2, a3, a4, a5, i10, hor]
        exact d2
      · rw [fX12_habit_L35]
        by_cases c : ctS b0 i = 0
        · rw [if_pos c] at d3
          simp (disch := omega) only [↓ite_bind, ↓ck_bind, ↓lt_bind, ↓Option.bind_assoc, ↓bd_s, ↓lt_v, ↓ck_v, ↓reduceIte, Bool.false_eq_true, Bool.true_eq_false, ix_nI, inb_t, nj_le_t, nj_le_f, nj_lel_t, nj_lel_f, nj_ler_t, nj_ler_f, nj_lt_t, nj_lt_f, nj_ltl_t, nj_ltl_f, nj_ltr_t, nj_ltr_f, nj_eq_t, nj_eq_f, nj_eqr_t, nj_eqr_f, nj_m1, nj_m2, nj_addr, a6, i10]
          exact d3
        · rw [if_neg c] at d3
          simp (disch := omega) only [↓ite_bind, ↓ck_bind, ↓lt_bind, ↓Option.bind_assoc, ↓bd_s, ↓lt_v, ↓ck_v, ↓reduceIte, Bool.false_eq_true, Bool.true_eq_false, ix_nI, inb_t, nj_le_t, nj_le_f, nj_lel_t, nj_lel_f, nj_ler_t, nj_ler_f, nj_lt_t, nj_lt_f, nj_ltl_t, nj_ltl_f, nj_ltr_t, nj_ltr_f, nj_eq_t, nj_eq_f, nj_eqr_t, nj_eqr_f, nj_m1, nj_m2, nj_addr, a6, i10]
          exact d3
theorem habit_ok {t : PH} {s s' : ST} {d : Nat} (h : INV t s s' d) (hd : d ≤ 600) (p w : Int32) : A2 t (d + 1) (fX11_habit p w t s) (fX12_habit p w s') := by
  obtain ⟨np, nm, R, n⟩ := IN0_nw h.1
  have hnp := n.1.1
  unfold fX11_habit fX12_habit
  rcases g_pers n.1.2.2.1 n.1.2.2.2.1 n.1.1 p with ⟨a, b⟩ | ⟨q, hq, rfl, a, b⟩
  · exact ⟨-1000, s, s', by rw [a, bd_s, if_pos rfl, bd_s, if_pos rfl], by rw [b, bd_s, if_pos rfl, bd_s, if_pos rfl], INV_mono h (by omega)⟩
  rw [a, b, bd_s, bd_s, if_neg n10, if_neg n10]
  rcases g_in w (l := 0) (h := 1) (a := 0) (b := 1) (show (0 : Int64) = _ from rfl) (show (1 : Int64) = _ from rfl) rfl rfl (by omega) (by omega) with ⟨c1, c2⟩ | ⟨j, j1, j2, rfl, j4⟩
  · refine ⟨-1000, s, s', ?_, by rw [c1, bd_s, if_pos rfl, bd_s, if_pos rfl], INV_mono h (by omega)⟩
    rcases c2 with c2 | ⟨c2, c3, c4⟩
    · simp only [c2, if_true, bd_s]
    · simp only [c2, c4, if_true, bd_s, if_false]
  rw [j4, bd_s, if_neg n10, if_neg (nj_nn (by omega)), if_pos (show nI j ≤ (1 : Int32) by rw [nj_ler (by omega) (by decide)]; omega), bd_s, bd_s, if_neg nft, if_neg nft]
  obtain ⟨v, v1, v2⟩ := q_begin h
  obtain ⟨bb, z, w', a1, a2, a3, a4⟩ := habit_L (p := nI j) h n hd hq 9 0 FUEL FUEL (fun _ => 0) s v (by omega) (by rw [FUEL_eq]; omega) (by rw [FUEL_eq]; omega) (fun _ => by omega) v2
  have a2 : fX11_habitsThatFit_L4 (nI q) t FUEL 0 0 s = some (nI (mkS bb 9), nI 9, z) := a2
  have a3 : fX12_habit_L35 (nI q) (nI j) FUEL 0 (-100) 0 v = some (nI (ctS bb 9), fsV bb 9, nI 9, w') := a3
  unfold fX11_habitsThatFit
  rw [a2, bd_s, bd_s, v1, bd_s, a3, bd_s]
  have hj : j = 0 ∨ j = 1 := by omega
  rcases hj with rfl | rfl
  · refine ⟨nI (ctS bb 9), z, w', ?_, ?_, q_end h a4⟩
    · rw [if_pos (show nI 0 = 0 from rfl), bc_ev, bd_s, bc_mk a1]
    · rw [if_pos (show nI 0 = 0 from rfl), bd_s]
  · refine ⟨fsV bb 9, z, w', ?_, ?_, q_end h a4⟩
    · rw [if_neg (show ¬ nI 1 = 0 by decide)]
      exact hab39 a1 9 0 FUEL (by omega) (by rw [FUEL_eq]; omega) rfl
    · rw [if_neg (show ¬ nI 1 = 0 by decide), bd_s]
