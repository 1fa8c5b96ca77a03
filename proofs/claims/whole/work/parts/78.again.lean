/-! AGAIN -/
theorem DRp_eq {t : PH} {C C' V V' : Vw} {g g' : Nat → Option Nat} {np nm : Nat} (h : DRp t C g V np nm) (eg : g' = g)
    (eC : ∀ a j, (a = 18 ∨ a = 30 ∨ a = 41 ∨ a = 21 ∨ a = 22 ∨ a = 24 ∨ 48 ≤ a) → C' a j = C a j)
    (eV : ∀ a j, a ≤ 32 → V' a j = V a j) : DRp t C' g' V' np nm := by
  obtain ⟨a1, a2, a3, a4, a5, a6, a7, a8, a9, a10, a11, a12, a13, a14, a15, a16, a17, a18, a19⟩ := h
  refine ⟨a1, a2, by rw [eg]; exact a3, ?_, ?_, ?_, ?_, ?_, ?_, ?_, ?_, ?_, fun q hq => ?_, fun m hm => ?_, ?_, ?_, ?_, ?_, ?_⟩
  · rw [eC _ _ (by omega)]; exact a4
  · rw [eV _ _ (by omega)]; exact a5
  · rw [eC _ _ (by omega)]; exact a6
  · rw [eV _ _ (by omega)]; exact a7
  · rw [eC _ _ (by omega), eV _ _ (by omega)]; exact a8
  · rw [eC _ _ (by omega), eV _ _ (by omega)]; exact a9
  · rw [eC _ _ (by omega), eV _ _ (by omega)]; exact a10
  · rw [eV _ _ (by omega)]; exact a11
  · rw [eC _ _ (by omega), eC _ _ (by omega), eV _ _ (by omega), eV _ _ (by omega)]; exact a12
  · rw [eC _ _ (by omega), eV _ _ (by omega)]; exact a13 q hq
  · rw [eC _ _ (by omega), eC _ _ (by omega), eC _ _ (by omega), eV _ _ (by omega), eV _ _ (by omega), eV _ _ (by omega)]; exact a14 m hm
  · rw [eC _ _ (by omega), eV _ _ (by omega)]; exact a15
  · rw [eC _ _ (by omega), eV _ _ (by omega)]; exact a16
  · rw [eC _ _ (by omega), eC _ _ (by omega), eV 0 57 (by omega), eV 0 58 (by omega), eV 0 59 (by omega)]; exact a17
  · rw [eC _ _ (by omega), eV _ _ (by omega)]; exact a18
  · rw [eg, eV 1 12 (by omega)]
    rcases a19 with x | ⟨q, r, x1, x2, x3⟩
    · exact Or.inl x
    · have := x3.1
      exact Or.inr ⟨q, r, x1, x2, RlS_eq (fun x _ _ => ⟨rfl, fun _ => rfl⟩) (Nat.le_refl _) (fun i hi => funext (fun j => eC _ _ (by omega))) (fun i hi => eV _ _ (by omega)) (fun i hi => eV _ _ (by omega)) (eV _ _ (by omega)) (fun i hi => eV _ _ (by omega)) (fun i hi => eV _ _ (by omega)) (fun i hi => eV _ _ (by omega)) x3⟩
/-- rows of the watch and of the reference's looking: not of a course -/
theorem CRs_w {t : PH} {u u2 v v2 : ST} {np nm y : Nat} (h : CRs t u v np nm y) (hu : ∀ a j, (a < 44 ∨ 48 ≤ a) → gi u2 a j = gi u a j) (hm : u2.2.2 = u.2.2) (hv : ∀ a j, a < 46 → gi v2 a j = gi v a j) : CRs t u2 v2 np nm y := by
  obtain ⟨h1, h2, h3, h4⟩ := h
  have el : lv v2 = lv v := funext (fun j => by unfold lv; rw [hv 3 _ (by omega), hv 4 _ (by omega), hv 5 _ (by omega), hv 6 _ (by omega), hv 9 _ (by omega), hv 11 _ (by omega), hv 12 _ (by omega), hv 1 8 (by omega), hv 1 9 (by omega)])
  refine ⟨DRp_eq h1 (funext (fun j => by unfold mr; rw [hm])) (fun a j ha => ?_) (fun a j ha => ?_), ?_, by rw [el]; exact h3, by rw [hv _ _ (by omega), hu _ _ (by omega), hv _ _ (by omega)]; exact h4⟩
  · unfold kC; rw [hu a j (by omega)]
  · unfold kM; rw [hv a j (by omega)]
  · intro j hj
    rw [el, show u2.1 32 j = gi u2 32 j from rfl, hu _ _ (by omega)]; exact h2 j hj
def RowR (u v : ST) (K : Nat → Int32) (np i : Nat) : Prop := ∀ j, j < i → (∀ q, q < np → gi u 47 (10 * j + q) = gi v 50 (5 * j + q) ∧ gi u 47 (10 * j + (5 + q)) = gi v 51 (5 * j + q)) ∧ ∀ c, c < 10 → ((np ≤ c ∧ c < 5) ∨ 5 + np ≤ c) → gi u 47 (10 * j + c) = K c
theorem st_L {a1 a2 a3 : Int32} {k : Nat} (hk : k < 100) : ∀ (m q f : Nat) (v : ST), q + m = 5 → m < f → ∃ z, fX12_again_L48 a1 a2 a3 (nI k) f (nI q) v = some (nI 5, z) ∧ (∀ j, gi z 50 j = if 5 * k + q ≤ j ∧ j < 5 * k + 5 then gi v 3 (j - 5 * k) else gi v 50 j) ∧ (∀ j, gi z 51 j = if 5 * k + q ≤ j ∧ j < 5 * k + 5 then gi v 4 (j - 5 * k) else gi v 51 j) ∧ Fr [50, 51] v z := by
  intro m
  induction m with
  | zero =>
    intro q f v hq hf
    obtain ⟨f, rfl⟩ : ∃ m, f = m + 1 := ⟨f - 1, by omega⟩
    obtain rfl : q = 5 := by omega
    refine ⟨v, ?_, fun j => ?_, fun j => ?_, Fr.rfl⟩
    · rw [fX12_again_L48, if_pos (by decide)]
    · rw [if_neg (by omega)]
    · rw [if_neg (by omega)]
  | succ m ih =>
    intro q f v hq hf
    obtain ⟨f, rfl⟩ : ∃ m, f = m + 1 := ⟨f - 1, by omega⟩
    obtain ⟨z, b1, b2, b3, b4⟩ := ih (q + 1) f (si (si v 50 (5 * k + q) (gi v 3 q)) 51 (5 * k + q) (gi v 4 q)) (by omega) (by omega)
    refine ⟨z, ?_, fun j => ?_, fun j => ?_, ((Fr.si (by decide)).trans (Fr.si (by decide))).trans b4⟩
    · rw [fX12_again_L48]
      simp (disch := omega) only [↓ite_bind, ↓ck_bind, ↓lt_bind, ↓Option.bind_assoc, ↓bd_s, ↓lt_v, ↓ck_v, ↓reduceIte, Bool.false_eq_true, Bool.true_eq_false, nj_add, nj_addl, nj_addr, nj_mull, nj_mulr, nj_subr, nj_pred, ix_nI, ix_lit, inb_t, inb_l, nj_le_t, nj_le_f, nj_lel_t, nj_lel_f, nj_ler_t, nj_ler_f, nj_lt_t, nj_lt_f, nj_ltl_t, nj_ltl_f, nj_ltr_t, nj_ltr_f, nj_eq_t, nj_eq_f, nj_eqr_t, nj_eqr_f, nj_m1, nj_m2, gi_si, Nat.reduceEqDiff]
      exact b1
    · rw [b2, gi_ne (by decide), gi_ne (by decide), gi_ne (by decide)]
      by_cases e : j = 5 * k + q
      · rw [if_neg (by omega), if_pos (by omega), e, gi_same, show 5 * k + q - 5 * k = q by omega]
      · rw [gi_dif e]
        by_cases e2 : 5 * k + (q + 1) ≤ j ∧ j < 5 * k + 5
        · rw [if_pos e2, if_pos (by omega)]
        · rw [if_neg e2, if_neg (by omega)]
    · rw [b3, gi_ne (by decide), gi_ne (by decide)]
      by_cases e : j = 5 * k + q
      · rw [if_neg (by omega), if_pos (by omega), e, gi_same, show 5 * k + q - 5 * k = q by omega]
      · rw [gi_dif e, gi_ne (by decide)]
        by_cases e2 : 5 * k + (q + 1) ≤ j ∧ j < 5 * k + 5
        · rw [if_pos e2, if_pos (by omega)]
        · rw [if_neg e2, if_neg (by omega)]
theorem la_c {u : ST} {i b : Nat} (hi : i < 100) (hb : b < 100) : ∀ (m x f : Nat), x + m = 10 → m < f → ∃ w, w ≤ 10 ∧ fX9_lastAlike_L10 (nI i) (nI b) f (nI x) u = some (nI w) ∧ (w = 10 ↔ ∀ c, x ≤ c → c < 10 → gi u 47 (10 * b + c) = gi u 47 (10 * i + c)) := by
  intro m
  induction m with
  | zero =>
    intro x f hx hf
    obtain ⟨f, rfl⟩ : ∃ m, f = m + 1 := ⟨f - 1, by omega⟩
    obtain rfl : x = 10 := by omega
    refine ⟨10, by omega, ?_, ⟨fun _ c h1 h2 => absurd h1 (by omega), fun _ => rfl⟩⟩
    rw [fX9_lastAlike_L10, if_pos (by decide), bd_s, if_neg nft]
  | succ m ih =>
    intro x f hx hf
    obtain ⟨f, rfl⟩ : ∃ m, f = m + 1 := ⟨f - 1, by omega⟩
    have e1 : b * 10 + x = 10 * b + x := by omega
    have e2 : i * 10 + x = 10 * i + x := by omega
    by_cases c : gi u 47 (10 * b + x) = gi u 47 (10 * i + x)
    · obtain ⟨w, w1, w2, w3⟩ := ih (x + 1) f (by omega) (by omega)
      refine ⟨w, w1, ?_, ?_⟩
      · rw [fX9_lastAlike_L10]
        simp (disch := omega) only [↓ite_bind, ↓ck_bind, ↓lt_bind, ↓Option.bind_assoc, ↓bd_s, ↓lt_v, ↓ck_v, ↓reduceIte, Bool.false_eq_true, Bool.true_eq_false, nj_add, nj_addl, nj_addr, nj_mull, nj_mulr, nj_subr, nj_pred, ix_nI, ix_lit, inb_t, inb_l, nj_le_t, nj_le_f, nj_lel_t, nj_lel_f, nj_ler_t, nj_ler_f, nj_lt_t, nj_lt_f, nj_ltl_t, nj_ltl_f, nj_ltr_t, nj_ltr_f, nj_eq_t, nj_eq_f, nj_eqr_t, nj_eqr_f, nj_m1, nj_m2, e1, e2, c]
        exact w2
      · rw [w3]
        refine ⟨fun h c2 h1 h2 => ?_, fun h c2 h1 h2 => h c2 (by omega) h2⟩
        by_cases e : c2 = x
        · rw [e]; exact c
        · exact h c2 (by omega) h2
    · refine ⟨x, by omega, ?_, ⟨fun e => absurd e (by omega), fun h => absurd (h x (Nat.le_refl _) (by omega)) c⟩⟩
      rw [fX9_lastAlike_L10]
      simp (disch := omega) only [↓ite_bind, ↓ck_bind, ↓lt_bind, ↓Option.bind_assoc, ↓bd_s, ↓lt_v, ↓ck_v, ↓reduceIte, Bool.false_eq_true, Bool.true_eq_false, nj_add, nj_addl, nj_addr, nj_mull, nj_mulr, nj_subr, nj_pred, ix_nI, ix_lit, inb_t, inb_l, nj_le_t, nj_le_f, nj_lel_t, nj_lel_f, nj_ler_t, nj_ler_f, nj_lt_t, nj_lt_f, nj_ltl_t, nj_ltl_f, nj_ltr_t, nj_ltr_f, nj_eq_t, nj_eq_f, nj_eqr_t, nj_eqr_f, nj_m1, nj_m2, e1, e2, c]
theorem la_r {v : ST} {np i b : Nat} (hnp : np ≤ 5) (h3 : gi v 1 3 = nI np) (hi : i < 100) (hb : b < 100) : ∀ (m x f : Nat), x + m = np → m < f → ∃ r, (r = 0 ∨ r = 1) ∧ fX12_areAlike_L2 (nI b) (nI i) f (nI x) v = some r ∧ (r = 1 ↔ ∀ q, x ≤ q → q < np → gi v 50 (5 * b + q) = gi v 50 (5 * i + q) ∧ gi v 51 (5 * b + q) = gi v 51 (5 * i + q)) := by
  intro m
  induction m with
  | zero =>
    intro x f hx hf
    obtain ⟨f, rfl⟩ : ∃ m, f = m + 1 := ⟨f - 1, by omega⟩
    obtain rfl : x = np := by omega
    refine ⟨1, Or.inr rfl, ?_, ⟨fun _ c h1 h2 => absurd h1 (by omega), fun _ => rfl⟩⟩
    rw [fX12_areAlike_L2, ck_t (by decide), ix_lit (by decide), h3, if_pos (Int32.le_refl _)]
  | succ m ih =>
    intro x f hx hf
    obtain ⟨f, rfl⟩ : ∃ m, f = m + 1 := ⟨f - 1, by omega⟩
    by_cases c : gi v 50 (5 * b + x) = gi v 50 (5 * i + x)
    · by_cases c2 : gi v 51 (5 * b + x) = gi v 51 (5 * i + x)
      · obtain ⟨r, r1, r2, r3⟩ := ih (x + 1) f (by omega) (by omega)
        refine ⟨r, r1, ?_, ?_⟩
        · rw [fX12_areAlike_L2]
          simp (disch := omega) only [↓ite_bind, ↓ck_bind, ↓lt_bind, ↓Option.bind_assoc, ↓bd_s, ↓lt_v, ↓ck_v, ↓reduceIte, Bool.false_eq_true, Bool.true_eq_false, nj_add, nj_addl, nj_addr, nj_mull, nj_mulr, nj_subr, nj_pred, ix_nI, ix_lit, inb_t, inb_l, nj_le_t, nj_le_f, nj_lel_t, nj_lel_f, nj_ler_t, nj_ler_f, nj_lt_t, nj_lt_f, nj_ltl_t, nj_ltl_f, nj_ltr_t, nj_ltr_f, nj_eq_t, nj_eq_f, nj_eqr_t, nj_eqr_f, nj_m1, nj_m2, h3, c, c2]
          exact r2
        · rw [r3]
          refine ⟨fun h q h1 h2 => ?_, fun h q h1 h2 => h q (by omega) h2⟩
          by_cases e : q = x
          · rw [e]; exact ⟨c, c2⟩
          · exact h q (by omega) h2
      · refine ⟨0, Or.inl rfl, ?_, ⟨fun e => absurd e (by decide), fun h => absurd (h x (Nat.le_refl _) (by omega)).2 c2⟩⟩
        rw [fX12_areAlike_L2]
        simp (disch := omega) only [↓ite_bind, ↓ck_bind, ↓lt_bind, ↓Option.bind_assoc, ↓bd_s, ↓lt_v, ↓ck_v, ↓reduceIte, Bool.false_eq_true, Bool.true_eq_false, nj_add, nj_addl, nj_addr, nj_mull, nj_mulr, nj_subr, nj_pred, ix_nI, ix_lit, inb_t, inb_l, nj_le_t, nj_le_f, nj_lel_t, nj_lel_f, nj_ler_t, nj_ler_f, nj_lt_t, nj_lt_f, nj_ltl_t, nj_ltl_f, nj_ltr_t, nj_ltr_f, nj_eq_t, nj_eq_f, nj_eqr_t, nj_eqr_f, nj_m1, nj_m2, h3, c, c2]
    · refine ⟨0, Or.inl rfl, ?_, ⟨fun e => absurd e (by decide), fun h => absurd (h x (Nat.le_refl _) (by omega)).1 c⟩⟩
      rw [fX12_areAlike_L2]
      simp (disch := omega) only [↓ite_bind, ↓ck_bind, ↓lt_bind, ↓Option.bind_assoc, ↓bd_s, ↓lt_v, ↓ck_v, ↓reduceIte, Bool.false_eq_true, Bool.true_eq_false, nj_add, nj_addl, nj_addr, nj_mull, nj_mulr, nj_subr, nj_pred, ix_nI, ix_lit, inb_t, inb_l, nj_le_t, nj_le_f, nj_lel_t, nj_lel_f, nj_ler_t, nj_ler_f, nj_lt_t, nj_lt_f, nj_ltl_t, nj_ltl_f, nj_ltr_t, nj_ltr_f, nj_eq_t, nj_eq_f, nj_eqr_t, nj_eqr_f, nj_m1, nj_m2, h3, c]
theorem alike_ev {u v : ST} {K : Nat → Int32} {np i b : Nat} (hnp : np ≤ 5) (h3 : gi v 1 3 = nI np) (hr : RowR u v K np (i + 1)) (hi : i < 100) (hb : b < i) :
    (fX9_lastAlike_L10 (nI i) (nI b) FUEL 0 u = some 10 ∧ fX12_areAlike (nI b) (nI i) v = some 1) ∨ ∃ w, w < 10 ∧ fX9_lastAlike_L10 (nI i) (nI b) FUEL 0 u = some (nI w) ∧ fX12_areAlike (nI b) (nI i) v = some 0 := by
  obtain ⟨w, w1, w2, w3⟩ := la_c (u := u) hi (by omega : b < 100) 10 0 FUEL (by omega) (by rw [FUEL_eq]; omega)
  obtain ⟨r, r1, r2, r3⟩ := la_r (v := v) hnp h3 hi (by omega : b < 100) np 0 FUEL (by omega) (by rw [FUEL_eq]; omega)
  have w2 : fX9_lastAlike_L10 (nI i) (nI b) FUEL 0 u = some (nI w) := w2
  have r2 : fX12_areAlike (nI b) (nI i) v = some r := r2
  have hiff : w = 10 ↔ r = 1 := by
    rw [w3, r3]
    obtain ⟨p1, p2⟩ := hr i (by omega)
    obtain ⟨o1, o2⟩ := hr b (by omega)
    constructor
    · intro h q _ hq
      obtain ⟨x1, x2⟩ := p1 q hq
      obtain ⟨y1, y2⟩ := o1 q hq
      refine ⟨?_, ?_⟩
      · rw [← x1, ← y1]; exact h q (by omega) (by omega)
      · rw [← x2, ← y2]; exact h (5 + q) (by omega) (by omega)
    · intro h c _ hc
      by_cases e1 : c < np
      · obtain ⟨x1, x2⟩ := p1 c e1
        obtain ⟨y1, y2⟩ := o1 c e1
        rw [x1, y1]; exact (h c (by omega) e1).1
      · by_cases e2 : 5 ≤ c ∧ c < 5 + np
        · obtain ⟨x1, x2⟩ := p1 (c - 5) (by omega)
          obtain ⟨y1, y2⟩ := o1 (c - 5) (by omega)
          rw [show c = 5 + (c - 5) by omega, x2, y2]; exact (h (c - 5) (by omega) (by omega)).2
        · rw [p2 c hc (by omega), o2 c hc (by omega)]
  by_cases e : w = 10
  · rw [e] at w2; rw [hiff.mp e] at r2
    exact Or.inl ⟨w2, r2⟩
  · have : r = 0 := by
      rcases r1 with r1 | r1
      · exact r1
      · exact absurd (hiff.mpr r1) e
    rw [this] at r2
    exact Or.inr ⟨w, by omega, w2, r2⟩
def idx (n : Nat) : Int32 := match n with
  | 0 => -1
  | n + 1 => nI n
theorem idx_s {n : Nat} (h : n < 1000) : nI n + (-1) = idx n := by
  cases n with
  | zero => decide
  | succ n => rw [nj_pred (by omega)]; rfl
theorem idx_m {n : Nat} (h : n < 1000) : nI n - 1 = idx n := by
  rw [← idx_s h]; grind
theorem la_both {u v : ST} {K : Nat → Int32} {np i y : Nat} {p : Int32} (hnp : np ≤ 5) (h3 : gi v 1 3 = nI np) (h9 : gi v 1 9 = nI y) (hy : y < 1000) (hr : RowR u v K np (i + 1)) (hi : i < 100) : ∀ (n f f' : Nat), n ≤ i → n < f → n + 1 < f' →
    (fX9_lastAlike_L4 (nI i) f (idx n) u = some (-1) ∧ fX12_again_L104 p (nI i) f' (-2) (-2) (idx n) v = some (-2, -2, -1)) ∨ ∃ b, b < n ∧ fX9_lastAlike_L4 (nI i) f (idx n) u = some (nI b) ∧ fX12_again_L104 p (nI i) f' (-2) (-2) (idx n) v = some (nI y, nI (i - b), idx b) := by
  intro n
  induction n with
  | zero =>
    intro f f' hn hf hf'
    obtain ⟨f, rfl⟩ : ∃ m, f = m + 1 := ⟨f - 1, by omega⟩
    obtain ⟨f', rfl⟩ : ∃ m, f' = m + 1 := ⟨f' - 1, by omega⟩
    refine Or.inl ⟨?_, ?_⟩
    · rw [fX9_lastAlike_L4, if_pos (by decide)]
    · rw [fX12_again_L104, if_pos (by decide), bd_s, if_neg nft]; rfl
  | succ n ih =>
    intro f f' hn hf hf'
    obtain ⟨f, rfl⟩ : ∃ m, f = m + 1 := ⟨f - 1, by omega⟩
    obtain ⟨f', rfl⟩ : ∃ m, f' = m + 1 := ⟨f' - 1, by omega⟩
    obtain ⟨f', rfl⟩ : ∃ m, f' = m + 1 := ⟨f' - 1, by omega⟩
    have m2 : ((-2 : Int32) = -2) = True := eq_true rfl
    have e2 : nI i - nI n = nI (i - n) := nj_sub (by omega)
    show (fX9_lastAlike_L4 (nI i) (f + 1) (nI n) u = _ ∧ fX12_again_L104 p (nI i) (f' + 1 + 1) (-2) (-2) (nI n) v = _) ∨ ∃ b, b < n + 1 ∧ fX9_lastAlike_L4 (nI i) (f + 1) (nI n) u = _ ∧ fX12_again_L104 p (nI i) (f' + 1 + 1) (-2) (-2) (nI n) v = _
    rcases alike_ev hnp h3 hr hi (b := n) (by omega) with ⟨a1, a2⟩ | ⟨w, w1, a1, a2⟩
    · refine Or.inr ⟨n, by omega, ?_, ?_⟩
      · rw [fX9_lastAlike_L4, if_neg (nj_nn (by omega)), a1, bd_s, if_pos rfl]
      · rw [fX12_again_L104]
        simp (disch := omega) only [↓ite_bind, ↓ck_bind, ↓lt_bind, ↓Option.bind_assoc, ↓bd_s, ↓lt_v, ↓ck_v, ↓reduceIte, Bool.false_eq_true, Bool.true_eq_false, nj_add, nj_addl, nj_addr, nj_mull, nj_mulr, nj_subr, nj_pred, ix_nI, ix_lit, inb_t, inb_l, nj_le_t, nj_le_f, nj_lel_t, nj_lel_f, nj_ler_t, nj_ler_f, nj_lt_t, nj_lt_f, nj_ltl_t, nj_ltl_f, nj_ltr_t, nj_ltr_f, nj_eq_t, nj_eq_f, nj_eqr_t, nj_eqr_f, nj_m1, nj_m2, m2, a2, i10, h9, e2, idx_s]
        rw [fX12_again_L104]
        cases n with
        | zero => rw [if_pos (show idx 0 < 0 by decide), bd_s, if_neg nft]
        | succ n =>
          show ((if nI n < 0 then _ else _ : Option Bool)).bind _ = _
          rw [if_neg (nj_nn (by omega)), if_neg (show ¬ nI y = -2 from nj_nm (by omega) (by decide) (by decide)), bd_s, if_neg nft]
    · have hw : ¬ nI w = 10 := by rw [nj_eqr (by omega) (by decide)]; omega
      have k1 : fX9_lastAlike_L4 (nI i) (f + 1) (nI n) u = fX9_lastAlike_L4 (nI i) f (idx n) u := by
        rw [fX9_lastAlike_L4, if_neg (nj_nn (by omega)), a1, bd_s, if_neg hw, lt_v, idx_s (by omega)]
      have k2 : fX12_again_L104 p (nI i) (f' + 1 + 1) (-2) (-2) (nI n) v = fX12_again_L104 p (nI i) (f' + 1) (-2) (-2) (idx n) v := by
        rw [fX12_again_L104]
        simp (disch := omega) only [↓ite_bind, ↓ck_bind, ↓lt_bind, ↓Option.bind_assoc, ↓bd_s, ↓lt_v, ↓ck_v, ↓reduceIte, Bool.false_eq_true, Bool.true_eq_false, nj_add, nj_addl, nj_addr, nj_mull, nj_mulr, nj_subr, nj_pred, ix_nI, ix_lit, inb_t, inb_l, nj_le_t, nj_le_f, nj_lel_t, nj_lel_f, nj_ler_t, nj_ler_f, nj_lt_t, nj_lt_f, nj_ltl_t, nj_ltl_f, nj_ltr_t, nj_ltr_f, nj_eq_t, nj_eq_f, nj_eqr_t, nj_eqr_f, nj_m1, nj_m2, m2, a2, idx_s]
      rw [k1, k2]
      rcases ih f (f' + 1) (by omega) (by omega) (by omega) with h | ⟨b, b1, b2, b3⟩
      · exact Or.inl h
      · exact Or.inr ⟨b, by omega, b2, b3⟩
theorem keepS {i : Nat} {u : ST} (hi : i < 100) : fX9_keepState_31 (nI i) u = some (sAr u 47 (va_cpy (u.1 32) (u.1 47) 0 (i * 10) 10)) := by
  unfold fX9_keepState_31
  rw [nj_mulr, ck_t (by
    unfold cpB
    refine decide_eq_true ⟨by decide, nj_nn (by omega), by decide, by decide, ?_⟩
    rw [nI_clamp (by omega)]
    show i * 10 + 10 ≤ 1000
    omega), lt_v, ix_lit (by decide), ix_nI (by omega), ix_lit (by decide)]
theorem keepS_47 {i : Nat} {u : ST} (j : Nat) : gi (sAr u 47 (va_cpy (u.1 32) (u.1 47) 0 (i * 10) 10)) 47 j = if i * 10 ≤ j ∧ j < i * 10 + 10 then gi u 32 (j - i * 10) else gi u 47 j := by
  rw [gi_sAr, if_pos rfl]
  show (if i * 10 ≤ j ∧ j < i * 10 + 10 then u.1 32 (0 + (j - i * 10)) else u.1 47 j) = _
  rw [Nat.zero_add]; rfl
theorem keepS_o {i : Nat} {u : ST} {a : Nat} (ha : a ≠ 47) (j : Nat) : gi (sAr u 47 (va_cpy (u.1 32) (u.1 47) 0 (i * 10) 10)) a j = gi u a j := by
  rw [gi_sAr, if_neg ha]
def QA (s s' u v : ST) : Prop := kN u = kN s ∧ kQ v = kQ s' ∧ SvK s' v ∧ gi v 0 56 = -1 ∧ gi v 0 57 = -1 ∧ gi v 0 63 = 0
theorem kQ_w {v w : ST} (h : Fr [50, 51] v w) : kQ w = kQ v := kQ_of (fun a j e => h.gi (by
  simp only [Bool.or_eq_false_iff] at e
  have e1 := e.1
  unfold scr at e1
  simp at e1
  simp only [List.mem_cons, List.not_mem_nil, or_false]
  omega) j)
/-- a row of both more -/
theorem row_more {z z' : ST} {K : Nat → Int32} {np nm i : Nat} (hnp : np ≤ 5) (hi : i < 100) (hr : RowR z z' K np i) (hs : SR np nm (z.1 32) (lv z')) (hK : ∀ c, c < 10 → ((np ≤ c ∧ c < 5) ∨ 5 + np ≤ c) → gi z 32 c = K c) {a1 a2 a3 : Int32} :
    ∃ w', fX12_again_L48 a1 a2 a3 (nI i) FUEL 0 z' = some (nI 5, w') ∧ RowR (sAr z 47 (va_cpy (z.1 32) (z.1 47) 0 (i * 10) 10)) w' K np (i + 1) ∧ Fr [50, 51] z' w' := by
  obtain ⟨w', b1, b2, b3, b4⟩ := st_L (a1 := a1) (a2 := a2) (a3 := a3) hi 5 0 FUEL z' (by omega) (by rw [FUEL_eq]; omega)
  refine ⟨w', b1, fun j hj => ?_, b4⟩
  by_cases e : j = i
  · subst e
    refine ⟨fun q hq => ⟨?_, ?_⟩, fun c hc h => ?_⟩
    · rw [keepS_47, if_pos (by omega), b2, if_pos (by omega), show 10 * j + q - j * 10 = q by omega, show 5 * j + q - 5 * j = q by omega, lv_clock _ (by omega)]
      exact hs q (by unfold vis; omega)
    · rw [keepS_47, if_pos (by omega), b3, if_pos (by omega), show 10 * j + (5 + q) - j * 10 = 5 + q by omega, show 5 * j + q - 5 * j = q by omega, lv_last _ (by omega)]
      exact hs _ (by unfold vis; omega)
    · rw [keepS_47, if_pos (by omega), show 10 * j + c - j * 10 = c by omega]
      exact hK c hc h
  · obtain ⟨r1, r2⟩ := hr j (by omega)
    refine ⟨fun q hq => ⟨?_, ?_⟩, fun c hc h => ?_⟩
    · rw [keepS_47, if_neg (by omega), b2, if_neg (by omega)]; exact (r1 q hq).1
    · rw [keepS_47, if_neg (by omega), b3, if_neg (by omega)]; exact (r1 q hq).2
    · rw [keepS_47, if_neg (by omega)]; exact r2 c hc h
theorem again_L {t : PH} {s s' : ST} {np nm j : Nat} {K : Nat → Int32} {D0 : Int32} (hD : gi s 26 45 = D0) : ∀ (k i f f' y : Nat) (u v : ST), i + k = 100 → 1 ≤ i → k < f → k < f' → CRs t u v np nm y → y + k + 1 ≤ 999 → QA s s' u v → RowR u v K np i → (∀ c, c < 10 → ((np ≤ c ∧ c < 5) ∨ 5 + np ≤ c) → gi u 32 c = K c) → lv v 45 = D0 + nI (i - 1) →
    ∃ a u2 x x3 x4 v2, fX11_again_L45 (nI j) t f (nI i) u = some (a, u2) ∧ (fX12_dayGoes v).bind (fun q => fX12_again_L32 (nI j) f' (-2) (-2) (nI i) q.2) = some (x, x3, x4, v2) ∧ QA s s' u2 v2 ∧ (if nI j = 0 then x else x3) = a := by
  intro k
  induction k with
  | zero =>
    intro i f f' y u v hi h1 hf hf' hc hy qa hr hK h45
    obtain ⟨f, rfl⟩ : ∃ m, f = m + 1 := ⟨f - 1, by omega⟩
    obtain ⟨f', rfl⟩ : ∃ m, f' = m + 1 := ⟨f' - 1, by omega⟩
    obtain rfl : i = 100 := by omega
    obtain ⟨z, z', a1, a2, a3, a4, a5, a6, a7, -⟩ := day_both hc.1 hc.2.1 hc.2.2.1 (by omega) hc.2.2.2
    refine ⟨-2, u, -2, -2, nI 100, z', ?_, ?_, ⟨qa.1, (kQ_kM a7).trans qa.2.1, SvK_54 qa.2.2.1 (fun j => kM_g a7 rfl), by rw [kM_g a7 rfl]; exact qa.2.2.2.1, by rw [kM_g a7 rfl]; exact qa.2.2.2.2.1, by rw [kM_g a7 rfl]; exact qa.2.2.2.2.2⟩, ?_⟩
    · rw [fX11_again_L45, if_pos (by decide)]
    · rw [a2, bd_s, fX12_again_L32, if_pos (by decide), bd_s, if_neg nft]
    · split <;> rfl
  | succ k ih =>
    intro i f f' y u v hi h1 hf hf' hc hy qa hr hK h45
    obtain ⟨f, rfl⟩ : ∃ m, f = m + 1 := ⟨f - 1, by omega⟩
    obtain ⟨f', rfl⟩ : ∃ m, f' = m + 1 := ⟨f' - 1, by omega⟩
    have hnp := hc.1.1
    obtain ⟨z, z', a1, a2, a3, a4, a5, a6, a7, a8, a9, a10, a11, a12, a13, a14, a15, -⟩ := day_both hc.1 hc.2.1 hc.2.2.1 (by omega) hc.2.2.2
    have c0 : CRs t z z' np nm (y + 1) := ⟨by rw [a5, a7, show mr z = mr u from funext (fun j => by unfold mr; rw [a6])]; exact hc.1, a3, a4, a8⟩
    have hr0 : RowR z z' K np i := fun j hj => by
      obtain ⟨r1, r2⟩ := hr j hj
      refine ⟨fun q hq => ?_, fun c hc' h => ?_⟩
      · rw [kC_g a5 rfl, kC_g a5 rfl, kM_g a7 rfl, kM_g a7 rfl]; exact r1 q hq
      · rw [kC_g a5 rfl]; exact r2 c hc' h
    have hK0 : ∀ c, c < 10 → ((np ≤ c ∧ c < 5) ∨ 5 + np ≤ c) → gi z 32 c = K c := fun c hc' h => by
      rw [a14 c (by unfold vis; omega)]; exact hK c hc' h
    obtain ⟨w', b1, b2, b3⟩ := row_more (a1 := nI j) (a2 := -2) (a3 := -2) hnp (show i < 100 by omega) hr0 a3 hK0
    obtain ⟨z1, hz1⟩ : ∃ z1, sAr z 47 (va_cpy (z.1 32) (z.1 47) 0 (i * 10) 10) = z1 := ⟨_, rfl⟩
    rw [hz1] at b2
    have zo : ∀ a j, a ≠ 47 → gi z1 a j = gi z a j := fun a j h => by rw [← hz1]; exact keepS_o h j
    have c1 : CRs t z1 w' np nm (y + 1) := CRs_w c0 (fun a j h => zo a j (by omega)) (by rw [← hz1]; rfl) (fun a j h => b3.gi (by simp only [List.mem_cons, List.not_mem_nil, or_false]; omega) j)
    have h3 : gi w' 1 3 = nI np := by
      have := c1.1.2.2.2.2.1
      rwa [kM_v rfl] at this
    obtain ⟨y0, y1, y2⟩ := c1.2.2.1.2.2
    have h9 : gi w' 1 9 = nI y0 := y2
    have hday : nI y0 = D0 + nI i := by
      have : lv w' 45 = lv z' 45 := by
        show gi w' 1 9 = gi z' 1 9
        exact b3.gi (by decide) 9
      rw [← y2, this, a15, h45]
      have e : nI i = nI (i - 1) + 1 := by rw [nj_addr, show i - 1 + 1 = i by omega]
      rw [e]; grind
    have kN1 : kN z1 = kN s := by
      rw [← qa.1, ← kN_kC a5]
      exact kN_of (fun a j h => zo a j (by omega))
    have qa1 : QA s s' z1 w' := ⟨kN1, (kQ_w b3).trans ((kQ_kM a7).trans qa.2.1), SvK_54 qa.2.2.1 (fun j => (b3.gi (by decide) j).trans (kM_g a7 rfl)), by rw [b3.gi (by decide), kM_g a7 rfl]; exact qa.2.2.2.1, by rw [b3.gi (by decide), kM_g a7 rfl]; exact qa.2.2.2.2.1, by rw [b3.gi (by decide), kM_g a7 rfl]; exact qa.2.2.2.2.2⟩
    have m2 : ((-2 : Int32) = -2) = True := eq_true rfl
    have hla : fX9_lastAlike (nI i) z1 = fX9_lastAlike_L4 (nI i) FUEL (idx i) z1 := by
      unfold fX9_lastAlike
      rw [lt_v, idx_m (by omega)]
    have kk : fX9_keepState_31 (nI i) z = some z1 := by rw [keepS (by omega), hz1]
    have hix : idx i = nI (i - 1) := by
      obtain ⟨m, rfl⟩ : ∃ m, i = m + 1 := ⟨i - 1, by omega⟩
      rfl
    rw [hix] at hla
    have hlb := la_both (p := nI j) hnp h3 h9 (by omega) b2 (show i < 100 by omega) i FUEL FUEL (Nat.le_refl _) (by rw [FUEL_eq]; omega) (by rw [FUEL_eq]; omega)
    rw [hix] at hlb
    rcases hlb with ⟨e1, e2⟩ | ⟨b, e0, e1, e2⟩
    · obtain ⟨a, u2, x, x3, x4, v2, d1, d2, d3, d4⟩ := ih (i + 1) f f' (y + 1) z1 w' (by omega) (by omega) (by omega) (by omega) c1 (by omega) qa1 b2 (fun c hc' h => by rw [zo _ _ (by decide)]; exact hK0 c hc' h) (by rw [y2, show i + 1 - 1 = i by omega]; exact hday)
      refine ⟨a, u2, x, x3, x4, v2, ?_, ?_, d3, d4⟩
      · rw [fX11_again_L45]
        simp (disch := omega) only [↓ite_bind, ↓ck_bind, ↓lt_bind, ↓Option.bind_assoc, ↓bd_s, ↓lt_v, ↓ck_v, ↓reduceIte, Bool.false_eq_true, Bool.true_eq_false, nj_add, nj_addl, nj_addr, nj_mull, nj_mulr, nj_subr, nj_pred, ix_nI, ix_lit, inb_t, inb_l, nj_le_t, nj_le_f, nj_lel_t, nj_lel_f, nj_ler_t, nj_ler_f, nj_lt_t, nj_lt_f, nj_ltl_t, nj_ltl_f, nj_ltr_t, nj_ltr_f, nj_eq_t, nj_eq_f, nj_eqr_t, nj_eqr_f, nj_m1, nj_m2, a1, kk, hla, e1]
        exact d1
      · rw [a2, bd_s, fX12_again_L32]
        simp (disch := omega) only [↓ite_bind, ↓ck_bind, ↓lt_bind, ↓Option.bind_assoc, ↓bd_s, ↓lt_v, ↓ck_v, ↓reduceIte, Bool.false_eq_true, Bool.true_eq_false, nj_add, nj_addl, nj_addr, nj_mull, nj_mulr, nj_subr, nj_pred, ix_nI, ix_lit, inb_t, inb_l, nj_le_t, nj_le_f, nj_lel_t, nj_lel_f, nj_ler_t, nj_ler_f, nj_lt_t, nj_lt_f, nj_ltl_t, nj_ltl_f, nj_ltr_t, nj_ltr_f, nj_eq_t, nj_eq_f, nj_eqr_t, nj_eqr_f, nj_m1, nj_m2, m2, b1, e2]
        exact d2
    · obtain ⟨zz, zz', g1, g2, g3, g4, g5, g6, g7, -⟩ := day_both c1.1 c1.2.1 c1.2.2.1 (by omega) c1.2.2.2
      have n0 : ¬ nI y0 = -2 := nj_nm (by omega) (by decide) (by decide)
      have nb : ¬ nI b = -1 := nj_nm (by omega) (by decide) (by decide)
      obtain ⟨f', rfl⟩ : ∃ m, f' = m + 1 := ⟨f' - 1, by omega⟩
      have q2 : QA s s' z1 zz' := ⟨kN1, (kQ_kM g7).trans qa1.2.1, SvK_54 qa1.2.2.1 (fun j => kM_g g7 rfl), by rw [kM_g g7 rfl]; exact qa1.2.2.2.1, by rw [kM_g g7 rfl]; exact qa1.2.2.2.2.1, by rw [kM_g g7 rfl]; exact qa1.2.2.2.2.2⟩
      have hD1 : gi z1 26 45 = D0 := by rw [← hD]; exact kN_g kN1 (by omega)
      have hsb : nI i - nI b = nI (i - b) := nj_sub (by omega)
      refine ⟨if nI j = 0 then nI y0 else nI (i - b), z1, nI y0, nI (i - b), nI (i + 1), zz', ?_, ?_, q2, rfl⟩
      · rw [fX11_again_L45]
        by_cases cj : nI j = 0
        · simp (disch := omega) only [↓ite_bind, ↓ck_bind, ↓lt_bind, ↓Option.bind_assoc, ↓bd_s, ↓lt_v, ↓ck_v, ↓reduceIte, Bool.false_eq_true, Bool.true_eq_false, nj_add, nj_addl, nj_addr, nj_mull, nj_mulr, nj_subr, nj_pred, ix_nI, ix_lit, inb_t, inb_l, nj_le_t, nj_le_f, nj_lel_t, nj_lel_f, nj_ler_t, nj_ler_f, nj_lt_t, nj_lt_f, nj_ltl_t, nj_ltl_f, nj_ltr_t, nj_ltr_f, nj_eq_t, nj_eq_f, nj_eqr_t, nj_eqr_f, nj_m1, nj_m2, a1, kk, hla, e1, nb, cj, hD1, hday]
        · simp (disch := omega) only [↓ite_bind, ↓ck_bind, ↓lt_bind, ↓Option.bind_assoc, ↓bd_s, ↓lt_v, ↓ck_v, ↓reduceIte, Bool.false_eq_true, Bool.true_eq_false, nj_add, nj_addl, nj_addr, nj_mull, nj_mulr, nj_subr, nj_pred, ix_nI, ix_lit, inb_t, inb_l, nj_le_t, nj_le_f, nj_lel_t, nj_lel_f, nj_ler_t, nj_ler_f, nj_lt_t, nj_lt_f, nj_ltl_t, nj_ltl_f, nj_ltr_t, nj_ltr_f, nj_eq_t, nj_eq_f, nj_eqr_t, nj_eqr_f, nj_m1, nj_m2, a1, kk, hla, e1, nb, cj, hsb]
      · rw [a2, bd_s, fX12_again_L32]
        simp (disch := omega) only [↓ite_bind, ↓ck_bind, ↓lt_bind, ↓Option.bind_assoc, ↓bd_s, ↓lt_v, ↓ck_v, ↓reduceIte, Bool.false_eq_true, Bool.true_eq_false, nj_add, nj_addl, nj_addr, nj_mull, nj_mulr, nj_subr, nj_pred, ix_nI, ix_lit, inb_t, inb_l, nj_le_t, nj_le_f, nj_lel_t, nj_lel_f, nj_ler_t, nj_ler_f, nj_lt_t, nj_lt_f, nj_ltl_t, nj_ltl_f, nj_ltr_t, nj_ltr_f, nj_eq_t, nj_eq_f, nj_eqr_t, nj_eqr_f, nj_m1, nj_m2, m2, b1, e2, g2]
        rw [fX12_again_L32]
        by_cases ci : (100 : Int32) ≤ nI (i + 1)
        · simp only [ci, if_true, bd_s, Bool.false_eq_true, if_false]
        · simp only [ci, n0, if_false, bd_s, Bool.false_eq_true]
theorem again_ok {t : PH} {s s' : ST} {d : Nat} (h : INV t s s' d) (hd : d ≤ 600) (p : Int32) : A2 t (d + 1) (fX11_again p t s) (fX12_again p s') := by
  obtain ⟨np, nm, R, n⟩ := IN0_nw h.1
  have hnp := n.1.1
  have hnm := n.1.2.1
  unfold fX11_again fX12_again
  rcases g_town n.1 with ⟨a, b⟩ | ⟨a, b⟩
  · exact ⟨-1, s, s', by rw [if_pos a, bd_s, if_pos rfl], by rw [b, bd_s, if_pos rfl, bd_s, if_pos rfl], INV_mono h (by omega)⟩
  rw [b, bd_s, if_neg n10, if_neg (show ¬ gi s 18 0 = 0 by rw [a]; decide)]
  rcases g_in p (l := 0) (h := 1) (a := 0) (b := 1) (show (0 : Int64) = _ from rfl) (show (1 : Int64) = _ from rfl) rfl rfl (by omega) (by omega) with ⟨c1, c2⟩ | ⟨j, j1, j2, rfl, j4⟩
  · refine ⟨-1, s, s', ?_, by rw [c1, bd_s, if_pos rfl, bd_s, if_pos rfl], INV_mono h (by omega)⟩
    rcases c2 with c2 | ⟨c2, c3, c4⟩
    · simp only [c2, if_true, bd_s]
    · simp only [c2, c4, if_true, bd_s, if_false]
  rw [j4, bd_s, if_neg n10, if_neg (nj_nn (by omega)), if_pos (show nI j ≤ (1 : Int32) by rw [nj_ler (by omega) (by decide)]; omega), bd_s, bd_s, if_neg nft, if_neg nft]
  obtain ⟨v, v1, v2⟩ := q_begin h
  have nz := NW_k h.1 n (rfl : kN s = kN s) v2.2.1
  obtain ⟨pp, p1, p2, p3⟩ := rule_ev nz
  have c0 : CRs t (stS pp s) v np nm d := CRs_base nz p3 v2.2.2.2.1 v2.2.2.2.2.1 v2.2.2.2.2.2
  obtain ⟨w', b1, b2, b3⟩ := row_more (K := fun c => gi (stS pp s) 32 c) (a1 := nI j) (a2 := -2) (a3 := -2) hnp (show 0 < 100 by omega) (fun j hj => absurd hj (by omega)) c0.2.1 (fun c _ _ => rfl)
  obtain ⟨z1, hz1⟩ : ∃ z1, sAr (stS pp s) 47 (va_cpy ((stS pp s).1 32) ((stS pp s).1 47) 0 (0 * 10) 10) = z1 := ⟨_, rfl⟩
  rw [hz1] at b2
  have zo : ∀ a j, a ≠ 47 → gi z1 a j = gi (stS pp s) a j := fun a j h => by rw [← hz1]; exact keepS_o h j
  have c1 : CRs t z1 w' np nm d := CRs_w c0 (fun a j h => zo a j (by omega)) (by rw [← hz1]; rfl) (fun a j h => b3.gi (by simp only [List.mem_cons, List.not_mem_nil, or_false]; omega) j)
  have kN1 : kN z1 = kN s := (kN_of (fun a j h => zo a j (by omega))).trans stS_kN
  have qa1 : QA s s' z1 w' := ⟨kN1, (kQ_w b3).trans (kQ_kR v2.2.1), SvK_54 v2.2.2.1 (fun j => b3.gi (by decide) j), by rw [b3.gi (by decide)]; exact v2.2.2.2.1, by rw [b3.gi (by decide)]; exact v2.2.2.2.2.1, by rw [b3.gi (by decide)]; exact v2.2.2.2.2.2⟩
  have hD : gi s 26 45 = lv w' 45 := by
    have e1 : gi s 26 45 = lv v 45 := nz.2.1 45 (by unfold vis; omega)
    rw [e1]
    show gi v 1 9 = gi w' 1 9
    exact (b3.gi (by decide) 9).symm
  obtain ⟨aa, u2, x, x3, x4, w2, d1, d2, d3, d4⟩ := again_L (t := t) (s := s) (s' := s') (np := np) (nm := nm) (j := j) (D0 := lv w' 45) hD 99 1 FUEL (FUEL - 1) d z1 w' (by omega) (by omega) (by rw [FUEL_eq]; omega) (by rw [FUEL_eq]; omega) c1 (by omega) qa1 b2 (fun c _ _ => zo _ _ (by decide)) (by show lv w' 45 = lv w' 45 + 0; grind)
  obtain ⟨w3, g1, g2, g3, g4, g5⟩ := lays_ev d3.2.1 d3.2.2.1
  have m2 : ((-2 : Int32) = -2) = True := eq_true rfl
  have d1 : fX11_again_L45 (nI j) t FUEL 1 z1 = some (aa, u2) := d1
  have kk : fX9_keepState_31 0 (stS pp s) = some z1 := by
    rw [show fX9_keepState_31 0 (stS pp s) = fX9_keepState_31 (nI 0) (stS pp s) from rfl, keepS (by omega), hz1]
  have b1 : fX12_again_L48 (nI j) (-2) (-2) 0 FUEL 0 v = some (nI 5, w') := b1
  have e104 : fX12_again_L104 (nI j) 0 FUEL (-2) (-2) (-1) w' = some (-2, -2, -1) := by
    rw [show FUEL = 4999 + 1 from rfl, fX12_again_L104, if_pos (by decide), bd_s, if_neg nft]
  have hm : (0 : Int32) - 1 = -1 := by decide
  have h01 : (0 : Int32) + 1 = nI 1 := by decide
  have l32 : fX12_again_L32 (nI j) FUEL (-2) (-2) 0 v = some (x, x3, x4, w2) := by
    rw [show FUEL = (FUEL - 1) + 1 from rfl, fX12_again_L32]
    rw [if_neg (by decide), if_pos rfl, bd_s, if_pos rfl, b1, bd_s, lt_v, hm, e104, bd_s]
    simp only [lt_v, h01]
    exact d2
  refine ⟨aa, u2, w3, ?_, ?_, INV_k d3.1 g2 (by omega) h ?_ ?_ ?_⟩
  · rw [start_eq p1 p2, bd_s, kk, bd_s]; exact d1
  · rw [v1, bd_s, l32, bd_s, g1, bd_s]
    by_cases cj : nI j = 0
    · rw [if_pos cj] at d4 ⊢
      rw [bd_s, d4]
    · rw [if_neg cj] at d4 ⊢
      rw [bd_s, d4]
  · rw [g4 _ (by decide) (by decide)]; exact d3.2.2.2.1
  · rw [g4 _ (by decide) (by decide)]; exact d3.2.2.2.2.1
  · rw [g4 _ (by decide) (by decide)]; exact d3.2.2.2.2.2
