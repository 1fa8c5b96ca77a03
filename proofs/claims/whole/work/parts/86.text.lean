/-! TEXTS: what is read of a tape, by both -/
def isD (b : Nat) : Bool := decide (48 ≤ b) && decide (b ≤ 57)
def isL (b : Nat) : Bool := decide (97 ≤ b) && decide (b ≤ 122)
def ruF (P : Nat → Bool) (n : Nat) : Nat → Nat → Nat
  | 0, p => p
  | f + 1, p => if p < n ∧ P p = true then ruF P n f (p + 1) else p
def ru (P : Nat → Bool) (n p : Nat) : Nat := ruF P n (n - p) p
section RU
variable {P : Nat → Bool} {n p : Nat}
theorem ru_s (h : p < n) (hp : P p = true) : ru P n p = ru P n (p + 1) := by
  unfold ru
  rw [show n - p = (n - (p + 1)) + 1 by omega, ruF, if_pos ⟨h, hp⟩]
theorem ru_e (h : ¬ (p < n ∧ P p = true)) : ru P n p = p := by
  unfold ru
  cases e : n - p with
  | zero => rw [ruF]
  | succ f => rw [ruF, if_neg h]
theorem ru_all : ∀ (m p : Nat), n - p = m → p ≤ ru P n p ∧ (p ≤ n → ru P n p ≤ n) ∧ (ru P n p < n → P (ru P n p) = false) ∧ ∀ i, p ≤ i → i < ru P n p → P i = true := by
  intro m
  induction m with
  | zero =>
    intro p hm
    have e : ru P n p = p := ru_e (by omega)
    rw [e]
    exact ⟨Nat.le_refl _, fun h => h, fun h => absurd h (by omega), fun i h1 h2 => absurd h1 (by omega)⟩
  | succ m ih =>
    intro p hm
    by_cases c : P p = true
    · rw [ru_s (by omega) c]
      obtain ⟨h1, h2, h3, h4⟩ := ih (p + 1) (by omega)
      refine ⟨by omega, fun h => h2 (by omega), h3, fun i h5 h6 => ?_⟩
      by_cases e : i = p
      · rw [e]; exact c
      · exact h4 i (by omega) h6
    · have e : ru P n p = p := ru_e (fun h => c h.2)
      rw [e]
      exact ⟨Nat.le_refl _, fun h => h, fun _ => by simpa using c, fun i h1 h2 => absurd h1 (by omega)⟩
theorem ru_ge : p ≤ ru P n p := (ru_all _ p rfl).1
theorem ru_le (h : p ≤ n) : ru P n p ≤ n := (ru_all _ p rfl).2.1 h
theorem ru_no (h : ru P n p < n) : P (ru P n p) = false := (ru_all _ p rfl).2.2.1 h
theorem ru_in {i : Nat} (h1 : p ≤ i) (h2 : i < ru P n p) : P i = true := (ru_all _ p rfl).2.2.2 i h1 h2
theorem ru_gt (h : p < n) (hp : P p = true) : p < ru P n p := by
  rw [ru_s h hp]
  exact ru_ge (p := p + 1)
end RU
def bl (B : Nat → Nat) (n p : Nat) : Nat := ru (fun i => B i == 32) n p
def dg (B : Nat → Nat) (n p : Nat) : Nat := ru (fun i => isD (B i)) n p
def le (B : Nat → Nat) (n p : Nat) : Nat := ru (fun i => isL (B i)) n p
theorem bl_bl {B : Nat → Nat} {n p : Nat} : bl B n (bl B n p) = bl B n p := by
  unfold bl
  refine ru_e (fun h => ?_)
  have := ru_no (P := fun i => B i == 32) (p := p) h.1
  rw [h.2] at this
  cases this
theorem bl_nb {B : Nat → Nat} {n p : Nat} (h : bl B n p < n) : B (bl B n p) ≠ 32 := fun e => by
  have := ru_no (P := fun i => B i == 32) (p := p) h
  have e2 : B (ru (fun i => B i == 32) n p) = 32 := e
  simp only [e2] at this
  cases this
/-- decimal -/
def dvS (B : Nat → Nat) (st : Nat) : Nat → Nat
  | 0 => 0
  | m + 1 => 10 * dvS B st m + (B (st + m) - 48)
theorem dvS_b {B : Nat → Nat} {st : Nat} : ∀ (m : Nat), (∀ i, i < m → isD (B (st + i)) = true) → dvS B st m + 1 ≤ 10 ^ m
  | 0, _ => by show 0 + 1 ≤ 10 ^ 0; decide
  | m + 1, h => by
    have h1 := dvS_b m (fun i hi => h i (by omega))
    have h2 := h m (by omega)
    unfold isD at h2
    simp at h2
    rw [dvS, Nat.pow_succ]
    omega
/-- the class's tape -/
def TC (s : ST) (B : Nat → Nat) (n : Nat) : Prop := n ≤ 400 ∧ gi s 1 1 = nI n ∧ ∀ i, i < n → B i < 256 ∧ gi s 2 i = nI (B i)
/-- the reference's -/
def TV (s : ST) (B : Nat → Nat) (n : Nat) : Prop := n ≤ 400 ∧ gi s 0 26 = nI n ∧ ∀ i, i < n → B i < 256 ∧ gi s 26 i = (nI (B i)).toInt8.toInt32
theorem TpR_T {s s' : ST} (h : TpR (gi s) (gi s')) : ∃ B n, TC s B n ∧ TV s' B n := by
  obtain ⟨n, n1, n2, n3, n4⟩ := h
  have : ∃ B : Nat → Nat, ∀ i, i < n → B i < 256 ∧ gi s 2 i = nI (B i) ∧ gi s' 26 i = (nI (B i)).toInt8.toInt32 :=
    ⟨fun i => if h : i < n then Classical.choose (n4 i h) else 0, fun i hi => by
      simp only [hi, dif_pos]
      exact Classical.choose_spec (n4 i hi)⟩
  obtain ⟨B, hB⟩ := this
  exact ⟨B, n, ⟨n1, n2, fun i hi => ⟨(hB i hi).1, (hB i hi).2.1⟩⟩, ⟨n1, n3, fun i hi => ⟨(hB i hi).1, (hB i hi).2.2⟩⟩⟩
theorem isDg (b : Nat) (hb : b < 256) (s : ST) : fX6_isDigit (nI b) s = some (if isD b = true then 1 else 0) := by
  unfold fX6_isDigit isD
  by_cases c1 : b < 48
  · rw [if_pos (by rw [nj_ltr (by omega) (by decide)]; exact c1), bd_s, if_neg nft, bd_s, ck_t (show bz 0 = true from rfl), if_neg (by simp; omega)]
  · by_cases c2 : 57 < b
    · rw [if_neg (by rw [nj_ltr (by omega) (by decide)]; exact c1), if_pos (by rw [nj_ltl (by decide) (by omega)]; exact c2), bd_s, if_neg nft, bd_s, ck_t (show bz 0 = true from rfl), if_neg (by simp; omega)]
    · rw [if_neg (by rw [nj_ltr (by omega) (by decide)]; exact c1), if_neg (by rw [nj_ltl (by decide) (by omega)]; exact c2), bd_s, if_pos rfl, bd_s, ck_t (show bz 1 = true from rfl), if_pos (by simp; omega)]
theorem isLt (b : Nat) (hb : b < 256) (s : ST) : fX6_isLetter (nI b) s = some (if isL b = true then 1 else 0) := by
  unfold fX6_isLetter isL
  by_cases c1 : b < 97
  · rw [if_pos (by rw [nj_ltr (by omega) (by decide)]; exact c1), bd_s, if_neg nft, bd_s, ck_t (show bz 0 = true from rfl), if_neg (by simp; omega)]
  · by_cases c2 : 122 < b
    · rw [if_neg (by rw [nj_ltr (by omega) (by decide)]; exact c1), if_pos (by rw [nj_ltl (by decide) (by omega)]; exact c2), bd_s, if_neg nft, bd_s, ck_t (show bz 0 = true from rfl), if_neg (by simp; omega)]
    · rw [if_neg (by rw [nj_ltr (by omega) (by decide)]; exact c1), if_neg (by rw [nj_ltl (by decide) (by omega)]; exact c2), bd_s, if_pos rfl, bd_s, ck_t (show bz 1 = true from rfl), if_pos (by simp; omega)]
/-- what a step of the class changes -/
def FT (s z : ST) : Prop := (∀ a j, ¬ (a = 1 ∧ (j = 2 ∨ j = 4 ∨ j = 5 ∨ j = 6)) → gi z a j = gi s a j) ∧ z.2 = s.2
theorem FT.rfl {s : ST} : FT s s := ⟨fun _ _ _ => Eq.refl _, Eq.refl _⟩
theorem FT.trans {a b c : ST} (h : FT a b) (k : FT b c) : FT a c := ⟨fun x j e => (k.1 x j e).trans (h.1 x j e), k.2.trans h.2⟩
theorem FT.si {s : ST} {j : Nat} {x : Int32} (h : j = 2 ∨ j = 4 ∨ j = 5 ∨ j = 6) : FT s (si s 1 j x) := ⟨fun a i e => si_x _ _ (by omega), Eq.refl _⟩
theorem FT.TC {s z : ST} {B : Nat → Nat} {n : Nat} (h : FT s z) (k : TC s B n) : TC z B n := ⟨k.1, by rw [h.1 _ _ (by omega)]; exact k.2.1, fun i hi => by rw [h.1 _ _ (by omega)]; exact k.2.2 i hi⟩
theorem stL0 {B : Nat → Nat} {n : Nat} : ∀ (m x f : Nat) (s : ST), n - x = m → m < f → x ≤ n → TC s B n → gi s 1 2 = nI x → ∃ z, fX6_step_L0 f s = some z ∧ gi z 1 2 = nI (bl B n x) ∧ FT s z := by
  intro m
  induction m with
  | zero =>
    intro x f s hm hf hx ht h2
    obtain ⟨f, rfl⟩ : ∃ m, f = m + 1 := ⟨f - 1, by omega⟩
    obtain rfl : x = n := by omega
    refine ⟨s, ?_, ?_, FT.rfl⟩
    · rw [fX6_step_L0, ht.2.1, h2, if_pos (Int32.le_refl _), bd_s, if_neg nft]
    · unfold bl; rw [ru_e (by omega)]; exact h2
  | succ m ih =>
    intro x f s hm hf hx ht h2
    obtain ⟨f, rfl⟩ : ∃ m, f = m + 1 := ⟨f - 1, by omega⟩
    have hn := ht.1
    have h1 := ht.2.1
    obtain ⟨b1, b2⟩ := ht.2.2 x (by omega)
    by_cases c : B x = 32
    · obtain ⟨z, a1, a2, a3⟩ := ih (x + 1) f (si s 1 2 (nI (x + 1))) (by omega) (by omega) (by omega) ((FT.si (by omega)).TC ht) (gi_same _ _ _ _)
      refine ⟨z, ?_, ?_, (FT.si (by omega)).trans a3⟩
      · rw [fX6_step_L0]
        have cc : nI (B x) = 32 := by rw [c]; rfl
        simp (disch := omega) only [↓ite_bind, ↓ck_bind, ↓lt_bind, ↓Option.bind_assoc, ↓bd_s, ↓lt_v, ↓ck_v, ↓reduceIte, Bool.false_eq_true, Bool.true_eq_false, nj_add, nj_addl, nj_addr, nj_mull, nj_mulr, nj_subr, nj_pred, ix_nI, ix_lit, inb_t, inb_l, nj_le_f, h1, h2, b2, cc]
        exact a1
      · rw [a2]; unfold bl; rw [ru_s (p := x) (by omega) (by simp [c])]
    · refine ⟨s, ?_, ?_, FT.rfl⟩
      · rw [fX6_step_L0]
        have cc : ¬ nI (B x) = 32 := by rw [nj_eqr (by omega) (by decide)]; exact c
        simp (disch := omega) only [↓ite_bind, ↓ck_bind, ↓lt_bind, ↓Option.bind_assoc, ↓bd_s, ↓lt_v, ↓ck_v, ↓reduceIte, Bool.false_eq_true, Bool.true_eq_false, nj_add, nj_addl, nj_addr, nj_mull, nj_mulr, nj_subr, nj_pred, ix_nI, ix_lit, inb_t, inb_l, nj_le_f, h1, h2, b2, cc]
      · unfold bl; rw [ru_e (by simp [c])]; exact h2
theorem dgL {B : Nat → Nat} {n st : Nat} (hst : st < n) : ∀ (m k f : Nat) (s : ST), n - (st + k) = m → m < f → st + k ≤ n → (∀ i, i < k → isD (B (st + i)) = true) → TC s B n → gi s 1 2 = nI (st + k) → gi s 1 5 = nI st → gi s 1 6 = (if k ≤ 5 then nI (dvS B st k) else -1) →
    ∃ z, fX6_stepOverDigits_L11 f s = some z ∧ gi z 1 2 = nI (dg B n (st + k)) ∧ gi z 1 6 = (if dg B n (st + k) - st ≤ 5 then nI (dvS B st (dg B n (st + k) - st)) else -1) ∧ FT s z ∧ gi z 1 5 = nI st ∧ gi z 1 4 = gi s 1 4 := by
  intro m
  induction m with
  | zero =>
    intro k f s hm hf hx hd ht h2 h5 h6
    obtain ⟨f, rfl⟩ : ∃ m, f = m + 1 := ⟨f - 1, by omega⟩
    have e : dg B n (st + k) = st + k := by unfold dg; exact ru_e (by omega)
    refine ⟨s, ?_, by rw [e]; exact h2, by rw [e, show st + k - st = k by omega]; exact h6, FT.rfl, h5, rfl⟩
    rw [fX6_stepOverDigits_L11, ht.2.1, h2, show st + k = n by omega, if_pos (Int32.le_refl _), bd_s, if_neg nft]
  | succ m ih =>
    intro k f s hm hf hx hd ht h2 h5 h6
    obtain ⟨f, rfl⟩ : ∃ m, f = m + 1 := ⟨f - 1, by omega⟩
    have hn := ht.1
    have h1 := ht.2.1
    obtain ⟨b1, b2⟩ := ht.2.2 (st + k) (by omega)
    have hdg := isDg (B (st + k)) b1 s
    by_cases c : isD (B (st + k)) = true
    · have hc := c
      unfold isD at hc
      simp at hc
      have hd2 : ∀ i, i < k + 1 → isD (B (st + i)) = true := fun i hi => by
        by_cases e : i = k
        · rw [e]; exact c
        · exact hd i (by omega)
      rw [if_pos c] at hdg
      have e : dg B n (st + k) = dg B n (st + (k + 1)) := by unfold dg; exact ru_s (p := st + k) (by omega) c
      rw [e]
      have hsub : nI (st + k) - nI st = nI k := by rw [nj_sub (by omega)]; congr 1; omega
      by_cases c5 : k < 5
      · have hv := dvS_b k (fun i hi => hd i hi)
        have hv2 : dvS B st k < 100000 := by
          have : 10 ^ k ≤ 10 ^ 5 := Nat.pow_le_pow_right (by decide) (by omega)
          omega
        rw [if_pos (by omega)] at h6
        obtain ⟨z, a1, a2, a3, a4, a5, a6⟩ := ih (k + 1) f (si (si s 1 6 (nI (dvS B st (k + 1)))) 1 2 (nI (st + (k + 1)))) (by omega) (by omega) (by omega) hd2 (((FT.si (by omega)).trans (FT.si (by omega))).TC ht) (gi_same _ _ _ _) (by rw [gi_dif (by decide), gi_dif (by decide)]; exact h5) (by rw [gi_dif (by decide), gi_same, if_pos (by omega)])
        refine ⟨z, ?_, a2, a3, ((FT.si (by omega)).trans (FT.si (by omega))).trans a4, a5, by rw [a6, gi_dif (by decide), gi_dif (by decide)]⟩
        rw [fX6_stepOverDigits_L11]
        have ev : dvS B st k * 10 + B (st + k) - 48 = dvS B st (k + 1) := by rw [dvS]; omega
        simp (disch := omega) only [↓ite_bind, ↓ck_bind, ↓lt_bind, ↓Option.bind_assoc, ↓bd_s, ↓lt_v, ↓ck_v, ↓reduceIte, Bool.false_eq_true, Bool.true_eq_false, nj_add, nj_addl, nj_addr, nj_mull, nj_mulr, nj_subr, nj_pred, ix_nI, ix_lit, inb_t, inb_l, nj_le_t, nj_le_f, nj_lel_t, nj_lel_f, nj_ler_t, nj_ler_f, nj_lt_t, nj_lt_f, nj_ltl_t, nj_ltl_f, nj_ltr_t, nj_ltr_f, nj_eq_t, nj_eq_f, nj_eqr_t, nj_eqr_f, nj_m1, nj_m2, h1, h2, b2, hdg, i10, h5, hsub, h6, ev, gi_si, Nat.reduceEqDiff]
        exact a1
      · obtain ⟨z, a1, a2, a3, a4, a5, a6⟩ := ih (k + 1) f (si (si s 1 6 (-1)) 1 2 (nI (st + (k + 1)))) (by omega) (by omega) (by omega) hd2 (((FT.si (by omega)).trans (FT.si (by omega))).TC ht) (gi_same _ _ _ _) (by rw [gi_dif (by decide), gi_dif (by decide)]; exact h5) (by rw [gi_dif (by decide), gi_same, if_neg (by omega)])
        refine ⟨z, ?_, a2, a3, ((FT.si (by omega)).trans (FT.si (by omega))).trans a4, a5, by rw [a6, gi_dif (by decide), gi_dif (by decide)]⟩
        rw [fX6_stepOverDigits_L11]
        simp (disch := omega) only [↓ite_bind, ↓ck_bind, ↓lt_bind, ↓Option.bind_assoc, ↓bd_s, ↓lt_v, ↓ck_v, ↓reduceIte, Bool.false_eq_true, Bool.true_eq_false, nj_add, nj_addl, nj_addr, nj_mull, nj_mulr, nj_subr, nj_pred, ix_nI, ix_lit, inb_t, inb_l, nj_le_t, nj_le_f, nj_lel_t, nj_lel_f, nj_ler_t, nj_ler_f, nj_lt_t, nj_lt_f, nj_ltl_t, nj_ltl_f, nj_ltr_t, nj_ltr_f, nj_eq_t, nj_eq_f, nj_eqr_t, nj_eqr_f, nj_m1, nj_m2, h1, h2, b2, hdg, i10, h5, hsub, gi_si, Nat.reduceEqDiff]
        exact a1
    · have e : dg B n (st + k) = st + k := by unfold dg; exact ru_e (fun h => c h.2)
      rw [if_neg c] at hdg
      refine ⟨s, ?_, by rw [e]; exact h2, by rw [e, show st + k - st = k by omega]; exact h6, FT.rfl, h5, rfl⟩
      rw [fX6_stepOverDigits_L11]
      simp (disch := omega) only [↓ite_bind, ↓ck_bind, ↓lt_bind, ↓Option.bind_assoc, ↓bd_s, ↓lt_v, ↓ck_v, ↓reduceIte, Bool.false_eq_true, Bool.true_eq_false, nj_add, nj_addl, nj_addr, nj_mull, nj_mulr, nj_subr, nj_pred, ix_nI, ix_lit, inb_t, inb_l, nj_le_t, nj_le_f, nj_lel_t, nj_lel_f, nj_ler_t, nj_ler_f, nj_lt_t, nj_lt_f, nj_ltl_t, nj_ltl_f, nj_ltr_t, nj_ltr_f, nj_eq_t, nj_eq_f, nj_eqr_t, nj_eqr_f, nj_m1, nj_m2, h1, h2, b2, hdg]
theorem leL {B : Nat → Nat} {n : Nat} : ∀ (m x f : Nat) (s : ST), n - x = m → m < f → x ≤ n → TC s B n → gi s 1 2 = nI x → ∃ z, fX6_stepOverLetters_L6 f s = some z ∧ gi z 1 2 = nI (le B n x) ∧ FT s z ∧ gi z 1 5 = gi s 1 5 ∧ gi z 1 4 = gi s 1 4 := by
  intro m
  induction m with
  | zero =>
    intro x f s hm hf hx ht h2
    obtain ⟨f, rfl⟩ : ∃ m, f = m + 1 := ⟨f - 1, by omega⟩
    obtain rfl : x = n := by omega
    refine ⟨s, ?_, ?_, FT.rfl, rfl, rfl⟩
    · rw [fX6_stepOverLetters_L6, ht.2.1, h2, if_pos (Int32.le_refl _), bd_s, if_neg nft]
    · unfold le; rw [ru_e (by omega)]; exact h2
  | succ m ih =>
    intro x f s hm hf hx ht h2
    obtain ⟨f, rfl⟩ : ∃ m, f = m + 1 := ⟨f - 1, by omega⟩
    have hn := ht.1
    have h1 := ht.2.1
    obtain ⟨b1, b2⟩ := ht.2.2 x (by omega)
    have hlt := isLt (B x) b1 s
    by_cases c : isL (B x) = true
    · rw [if_pos c] at hlt
      obtain ⟨z, a1, a2, a3, a4, a5⟩ := ih (x + 1) f (si s 1 2 (nI (x + 1))) (by omega) (by omega) (by omega) ((FT.si (by omega)).TC ht) (gi_same _ _ _ _)
      refine ⟨z, ?_, ?_, (FT.si (by omega)).trans a3, by rw [a4, gi_dif (by decide)], by rw [a5, gi_dif (by decide)]⟩
      · rw [fX6_stepOverLetters_L6]
        simp (disch := omega) only [↓ite_bind, ↓ck_bind, ↓lt_bind, ↓Option.bind_assoc, ↓bd_s, ↓lt_v, ↓ck_v, ↓reduceIte, Bool.false_eq_true, Bool.true_eq_false, nj_add, nj_addl, nj_addr, nj_mull, nj_mulr, nj_subr, nj_pred, ix_nI, ix_lit, inb_t, inb_l, nj_le_f, h1, h2, b2, hlt, i10]
        exact a1
      · rw [a2]; unfold le; rw [ru_s (p := x) (by omega) c]
    · rw [if_neg c] at hlt
      refine ⟨s, ?_, ?_, FT.rfl, rfl, rfl⟩
      · rw [fX6_stepOverLetters_L6]
        simp (disch := omega) only [↓ite_bind, ↓ck_bind, ↓lt_bind, ↓Option.bind_assoc, ↓bd_s, ↓lt_v, ↓ck_v, ↓reduceIte, Bool.false_eq_true, Bool.true_eq_false, nj_add, nj_addl, nj_addr, nj_mull, nj_mulr, nj_subr, nj_pred, ix_nI, ix_lit, inb_t, inb_l, nj_le_f, h1, h2, b2, hlt]
      · unfold le; rw [ru_e (P := fun i => isL (B i)) (fun h => c h.2)]; exact h2
/-- a token: its start, its kind, where it ends, a number's value -/
def Tok (B : Nat → Nat) (n st : Nat) (tok : Int32) (pl : Nat) (val : Int32) : Prop :=
  (st = n ∧ tok = -1 ∧ pl = n) ∨ (st < n ∧ isD (B st) = true ∧ tok = -2 ∧ pl = dg B n st ∧ val = (if dg B n st - st ≤ 5 then nI (dvS B st (dg B n st - st)) else -1)) ∨ (st < n ∧ isD (B st) = false ∧ isL (B st) = true ∧ tok = -3 ∧ pl = le B n st) ∨
  (st < n ∧ isD (B st) = false ∧ isL (B st) = false ∧ ((((B st = 60 ∨ B st = 62) ∧ st + 1 < n ∧ B (st + 1) = 61) ∧ tok = nI (B st + 256) ∧ pl = st + 2) ∨ (¬ ((B st = 60 ∨ B st = 62) ∧ st + 1 < n ∧ B (st + 1) = 61) ∧ tok = nI (B st) ∧ pl = st + 1)))
theorem step_ev {B : Nat → Nat} {n x : Nat} {s : ST} (ht : TC s B n) (hx : x ≤ n) (h2 : gi s 1 2 = nI x) : ∃ z pl, fX6_step s = some z ∧ FT s z ∧ gi z 1 5 = nI (bl B n x) ∧ gi z 1 2 = nI pl ∧ bl B n x ≤ pl ∧ pl ≤ n ∧ (bl B n x < n → bl B n x < pl) ∧ Tok B n (bl B n x) (gi z 1 4) pl (gi z 1 6) := by
  obtain ⟨z1, a1, a2, a3⟩ := stL0 (n - x) x FUEL s rfl (by have := ht.1; rw [FUEL_eq]; omega) hx ht h2
  have hn := ht.1
  have hst : bl B n x ≤ n := ru_le hx
  obtain ⟨st, hs⟩ : ∃ st, bl B n x = st := ⟨_, rfl⟩
  have hnb : st < n → B st ≠ 32 := fun h => by rw [← hs] at h ⊢; exact bl_nb h
  rw [hs] at a2 hst ⊢
  obtain ⟨z2, hz2⟩ : ∃ z, si z1 1 5 (nI st) = z := ⟨_, rfl⟩
  have f2 : FT s z2 := by rw [← hz2]; exact a3.trans (FT.si (by omega))
  have t2 := f2.TC ht
  have p2 : gi z2 1 2 = nI st := by rw [← hz2, gi_dif (by decide)]; exact a2
  have s5 : gi z2 1 5 = nI st := by rw [← hz2, gi_same]
  have hl := t2.2.1
  unfold fX6_step
  rw [a1, bd_s, lt_v, a2, hz2, hl, p2]
  by_cases c : st < n
  · obtain ⟨b1, b2⟩ := t2.2.2 st c
    rw [if_pos (by rw [nj_lt (by omega) (by omega)]; exact c), ck_t (inb_t (by omega) (by omega)), ix_nI (by omega), b2, isDg _ b1, bd_s]
    by_cases cd : isD (B st) = true
    · rw [if_pos cd, if_neg n10]
      obtain ⟨z, d1, d2, d3, d4, d5, d6⟩ := dgL c (n - (st + 0)) 0 FUEL (si (si z2 1 4 (-2)) 1 6 0) rfl (by rw [FUEL_eq]; omega) (by omega) (fun i hi => absurd hi (by omega)) (((FT.si (by omega)).trans (FT.si (by omega))).TC t2) (by rw [gi_dif (by decide), gi_dif (by decide)]; exact p2) (by rw [gi_dif (by decide), gi_dif (by decide)]; exact s5) (by rw [gi_same]; rfl)
      refine ⟨z, dg B n st, ?_, (f2.trans ((FT.si (by omega)).trans (FT.si (by omega)))).trans d4, d5, d2, ru_ge, ru_le hst, fun _ => ru_gt c cd, Or.inr (Or.inl ⟨c, cd, ?_, rfl, d3⟩)⟩
      · unfold fX6_stepOverDigits
        rw [lt_v, lt_v, d1, bd_s, bd_s, bd_s]
      · rw [d6, gi_dif (by decide), gi_same]
    · rw [if_neg cd, if_pos rfl, ck_t (inb_t (by omega) (by omega)), isLt _ b1, bd_s]
      have cd' : isD (B st) = false := by simpa using cd
      by_cases cl : isL (B st) = true
      · rw [if_pos cl, if_neg n10]
        obtain ⟨z, d1, d2, d3, d4, d5⟩ := leL (n - st) st FUEL (si z2 1 4 (-3)) rfl (by rw [FUEL_eq]; omega) hst ((FT.si (by omega)).TC t2) (by rw [gi_dif (by decide)]; exact p2)
        refine ⟨z, le B n st, ?_, (f2.trans (FT.si (by omega))).trans d3, by rw [d4, gi_dif (by decide)]; exact s5, d2, ru_ge, ru_le hst, fun _ => ru_gt c cl, Or.inr (Or.inr (Or.inl ⟨c, cd', cl, ?_, rfl⟩))⟩
        · unfold fX6_stepOverLetters
          rw [lt_v, d1, bd_s, bd_s, bd_s]
        · rw [d5, gi_same]
      · have cl' : isL (B st) = false := by simpa using cl
        rw [if_neg cl, if_pos rfl]
        unfold fX6_stepOverSign
        have e4 : ∀ x, gi (si (si z2 1 4 (nI (B st))) 1 2 x) 1 4 = nI (B st) := fun x => by rw [gi_dif (by decide), gi_same]
        by_cases cs : (B st = 60 ∨ B st = 62)
        · have hor : (if nI (B st) = 60 then some true else if nI (B st) = 62 then some true else some false : Option Bool) = some true := by
            rcases cs with cs | cs
            · rw [cs]; rfl
            · rw [cs]; rfl
          by_cases ce : st + 1 < n
          · obtain ⟨e1, e2⟩ := t2.2.2 (st + 1) ce
            by_cases cq : B (st + 1) = 61
            · refine ⟨si (si (si (si z2 1 4 (nI (B st))) 1 2 (nI (st + 1))) 1 4 (nI (B st + 256))) 1 2 (nI (st + 2)), st + 2, ?_, f2.trans ((((FT.si (by omega)).trans (FT.si (by omega))).trans (FT.si (by omega))).trans (FT.si (by omega))), by rw [gi_dif (by decide), gi_dif (by decide), gi_dif (by decide), gi_dif (by decide)]; exact s5, gi_same _ _ _ _, by omega, by omega, fun _ => by omega, Or.inr (Or.inr (Or.inr ⟨c, cd', cl', Or.inl ⟨⟨cs, ce, cq⟩, ?_, rfl⟩⟩))⟩
              · have cq' : nI (B (st + 1)) = 61 := by rw [cq]; rfl
                simp (disch := omega) only [↓ite_bind, ↓ck_bind, ↓lt_bind, ↓Option.bind_assoc, ↓bd_s, ↓lt_v, ↓ck_v, ↓reduceIte, Bool.false_eq_true, Bool.true_eq_false, nj_add, nj_addl, nj_addr, nj_mull, nj_mulr, nj_subr, nj_pred, ix_nI, ix_lit, inb_t, inb_l, nj_le_t, nj_le_f, nj_lel_t, nj_lel_f, nj_ler_t, nj_ler_f, nj_lt_t, nj_lt_f, nj_ltl_t, nj_ltl_f, nj_ltr_t, nj_ltr_f, nj_eq_t, nj_eq_f, nj_eqr_t, nj_eqr_f, nj_m1, nj_m2, p2, b2, e4, hor, i10, hl, e2, cq', gi_si, Nat.reduceEqDiff]
                rcases cs with cs | cs
                · rw [if_pos (show nI (B st) = 60 by rw [cs]; rfl)]
                · rw [if_neg (show ¬ nI (B st) = 60 by rw [cs]; decide), if_pos (show nI (B st) = 62 by rw [cs]; rfl)]
              · rw [gi_dif (by decide), gi_same]
            · refine ⟨si (si z2 1 4 (nI (B st))) 1 2 (nI (st + 1)), st + 1, ?_, f2.trans ((FT.si (by omega)).trans (FT.si (by omega))), by rw [gi_dif (by decide), gi_dif (by decide)]; exact s5, gi_same _ _ _ _, by omega, by omega, fun _ => by omega, Or.inr (Or.inr (Or.inr ⟨c, cd', cl', Or.inr ⟨fun h => cq h.2.2, e4 _, rfl⟩⟩))⟩
              have cq' : ¬ nI (B (st + 1)) = 61 := by rw [nj_eqr (by omega) (by decide)]; exact cq
              simp (disch := omega) only [↓ite_bind, ↓ck_bind, ↓lt_bind, ↓Option.bind_assoc, ↓bd_s, ↓lt_v, ↓ck_v, ↓reduceIte, Bool.false_eq_true, Bool.true_eq_false, nj_add, nj_addl, nj_addr, nj_mull, nj_mulr, nj_subr, nj_pred, ix_nI, ix_lit, inb_t, inb_l, nj_le_t, nj_le_f, nj_lel_t, nj_lel_f, nj_ler_t, nj_ler_f, nj_lt_t, nj_lt_f, nj_ltl_t, nj_ltl_f, nj_ltr_t, nj_ltr_f, nj_eq_t, nj_eq_f, nj_eqr_t, nj_eqr_f, nj_m1, nj_m2, p2, b2, e4, hor, i10, hl, e2, cq', gi_si, Nat.reduceEqDiff]
              rcases cs with cs | cs
              · rw [if_pos (show nI (B st) = 60 by rw [cs]; rfl)]
              · rw [if_neg (show ¬ nI (B st) = 60 by rw [cs]; decide), if_pos (show nI (B st) = 62 by rw [cs]; rfl)]
          · refine ⟨si (si z2 1 4 (nI (B st))) 1 2 (nI (st + 1)), st + 1, ?_, f2.trans ((FT.si (by omega)).trans (FT.si (by omega))), by rw [gi_dif (by decide), gi_dif (by decide)]; exact s5, gi_same _ _ _ _, by omega, by omega, fun _ => by omega, Or.inr (Or.inr (Or.inr ⟨c, cd', cl', Or.inr ⟨fun h => ce h.2.1, e4 _, rfl⟩⟩))⟩
            simp (disch := omega) only [↓ite_bind, ↓ck_bind, ↓lt_bind, ↓Option.bind_assoc, ↓bd_s, ↓lt_v, ↓ck_v, ↓reduceIte, Bool.false_eq_true, Bool.true_eq_false, nj_add, nj_addl, nj_addr, nj_mull, nj_mulr, nj_subr, nj_pred, ix_nI, ix_lit, inb_t, inb_l, nj_le_t, nj_le_f, nj_lel_t, nj_lel_f, nj_ler_t, nj_ler_f, nj_lt_t, nj_lt_f, nj_ltl_t, nj_ltl_f, nj_ltr_t, nj_ltr_f, nj_eq_t, nj_eq_f, nj_eqr_t, nj_eqr_f, nj_m1, nj_m2, p2, b2, e4, hor, i10, hl, gi_si, Nat.reduceEqDiff]
            rcases cs with cs | cs
            · rw [if_pos (show nI (B st) = 60 by rw [cs]; rfl)]
            · rw [if_neg (show ¬ nI (B st) = 60 by rw [cs]; decide), if_pos (show nI (B st) = 62 by rw [cs]; rfl)]
        · have hor : (if nI (B st) = 60 then some true else if nI (B st) = 62 then some true else some false : Option Bool) = some false := by
            rw [if_neg (by rw [nj_eqr (by omega) (by decide)]; omega), if_neg (by rw [nj_eqr (by omega) (by decide)]; omega)]
          refine ⟨si (si z2 1 4 (nI (B st))) 1 2 (nI (st + 1)), st + 1, ?_, f2.trans ((FT.si (by omega)).trans (FT.si (by omega))), by rw [gi_dif (by decide), gi_dif (by decide)]; exact s5, gi_same _ _ _ _, by omega, by omega, fun _ => by omega, Or.inr (Or.inr (Or.inr ⟨c, cd', cl', Or.inr ⟨fun h => cs h.1, e4 _, rfl⟩⟩))⟩
          simp (disch := omega) only [↓ite_bind, ↓ck_bind, ↓lt_bind, ↓Option.bind_assoc, ↓bd_s, ↓lt_v, ↓ck_v, ↓reduceIte, Bool.false_eq_true, Bool.true_eq_false, nj_add, nj_addl, nj_addr, nj_mull, nj_mulr, nj_subr, nj_pred, ix_nI, ix_lit, inb_t, inb_l, nj_le_t, nj_le_f, nj_lel_t, nj_lel_f, nj_ler_t, nj_ler_f, nj_lt_t, nj_lt_f, nj_ltl_t, nj_ltl_f, nj_ltr_t, nj_ltr_f, nj_eq_t, nj_eq_f, nj_eqr_t, nj_eqr_f, nj_m1, nj_m2, p2, b2, e4, hor, gi_si, Nat.reduceEqDiff]
  · obtain rfl : st = n := by omega
    refine ⟨si z2 1 4 (-1), st, ?_, f2.trans (FT.si (by omega)), by rw [gi_dif (by decide)]; exact s5, by rw [gi_dif (by decide)]; exact p2, Nat.le_refl _, Nat.le_refl _, fun h => absurd h c, Or.inl ⟨rfl, gi_same _ _ _ _, rfl⟩⟩
    rw [if_neg (by rw [nj_lt (by omega) (by omega)]; omega), lt_v, bd_s]
