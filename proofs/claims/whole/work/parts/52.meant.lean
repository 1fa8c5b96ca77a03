/-! what a day leaves as it is -/
def chC (a j : Nat) : Bool := a == 32 || (decide (34 ≤ a) && decide (a ≤ 40)) || a == 42 || (a == 30 && decide (14 ≤ j))
def kC (s : ST) (a j : Nat) : Int32 := if chC a j = true then 0 else gi s a j
theorem chC_hi {a j : Nat} (h : 48 ≤ a) : chC a j = false := by
  unfold chC; simp; omega
theorem kC_si {s : ST} {a j : Nat} {x : Int32} (h : chC a j = true) : kC (si s a j x) = kC s := by
  funext b k; unfold kC; rw [gi_si]; grind
theorem kC_sl {s : ST} {a j : Nat} {x : Int64} : kC (sl s a j x) = kC s := rfl
theorem kC_of {s s2 : ST} (h : s2.1 = s.1) : kC s2 = kC s := by funext b k; unfold kC gi; rw [h]
theorem kC_g {s s2 : ST} (h : kC s2 = kC s) {a j : Nat} (hc : chC a j = false) : gi s2 a j = gi s a j := by
  have := congrFun (congrFun h a) j
  unfold kC at this
  rw [hc] at this
  exact this
theorem kC_v {s : ST} {a j : Nat} (hc : chC a j = false) : kC s a j = gi s a j := by unfold kC; rw [hc]; rfl
def chM (a j : Nat) : Bool := (a == 1 && (j == 9 || j == 11)) || a == 3 || a == 4 || a == 5 || a == 6 || a == 11 || a == 12 || (decide (36 ≤ a) && decide (a ≤ 45)) || (a == 0 && (j == 60 || j == 61 || j == 62))
def kM (s : ST) (a j : Nat) : Int32 := if chM a j = true then 0 else gi s a j
theorem kM_si {s : ST} {a j : Nat} {x : Int32} (h : chM a j = true) : kM (si s a j x) = kM s := by
  funext b k; unfold kM; rw [gi_si]; grind
theorem kM_sl {s : ST} {a j : Nat} {x : Int64} : kM (sl s a j x) = kM s := rfl
theorem kM_of {s s2 : ST} (h : s2.1 = s.1) : kM s2 = kM s := by funext b k; unfold kM gi; rw [h]
theorem kM_g {s s2 : ST} (h : kM s2 = kM s) {a j : Nat} (hc : chM a j = false) : gi s2 a j = gi s a j := by
  have := congrFun (congrFun h a) j
  unfold kM at this
  rw [hc] at this
  exact this
theorem kM_v {s : ST} {a j : Nat} (hc : chM a j = false) : kM s a j = gi s a j := by unfold kM; rw [hc]; rfl
/-! a rule's entries, one behind another, by both -/
def KS (f g : Nat → Int64) : List Bool → Prop
  | [] => True
  | b :: T => f T.length = g T.length ∧ (b = true → g T.length = 0 ∨ g T.length = 1) ∧ KS f g T
theorem KS_mono {f g f2 g2 : Nat → Int64} : ∀ {T : List Bool}, KS f g T → (∀ j, j < T.length → f2 j = f j ∧ g2 j = g j) → KS f2 g2 T
  | [], _, _ => trivial
  | b :: T, h, e => by
    obtain ⟨h1, h2, h3⟩ := h
    have e1 := e T.length (by simp)
    refine ⟨by rw [e1.1, e1.2]; exact h1, by rw [e1.2]; exact h2, KS_mono h3 (fun j hj => e j (by simp; omega))⟩
theorem fX12_truth_ev (p : Int32) (s : ST) : fX12_truth p s = some (if p = 0 then 0 else 1) := by
  unfold fX12_truth; by_cases h : p = 0 <;> simp [h]
/-- both join alike -/
theorem joined_ev (k : Nat) (a b : Int64) (s s' : ST) (h : k = 2 ∨ k = 3 ∨ k = 13 ∨ k = 14 ∨ k = 15 ∨ (4 ≤ k ∧ k ≤ 8) ∨ k = 10 ∨ k = 11) :
    ∃ v, fX2_joined (nI (sg k)) a b s = some v ∧ fX12_both (nI k) a b s' = some v ∧ (4 ≤ k ∧ k ≤ 8 → v = 0 ∨ v = 1) ∧ (k = 10 ∨ k = 11 → (a = 0 ∨ a = 1) → (b = 0 ∨ b = 1) → v = 0 ∨ v = 1) := by
  have hk : k = 2 ∨ k = 3 ∨ k = 4 ∨ k = 5 ∨ k = 6 ∨ k = 7 ∨ k = 8 ∨ k = 10 ∨ k = 11 ∨ k = 13 ∨ k = 14 ∨ k = 15 := by omega
  rcases hk with rfl | rfl | rfl | rfl | rfl | rfl | rfl | rfl | rfl | rfl | rfl | rfl
  · refine ⟨a + b, ?_, ?_, ?_, ?_⟩
    · rw [show nI (sg 2) = 2 from rfl]; simp only [fX2_joined, cmp_ge, cmp_gt, cmp_le, cmp_lt, cmp_eq, ck]; grind
    · rw [show nI 2 = 2 from rfl]; simp only [fX12_both, cmp_ge, cmp_gt, cmp_le, cmp_lt, cmp_eq, fX12_truth_ev, ck]; grind
    · grind
    · grind
  · refine ⟨a - b, ?_, ?_, ?_, ?_⟩
    · rw [show nI (sg 3) = 3 from rfl]; simp only [fX2_joined, cmp_ge, cmp_gt, cmp_le, cmp_lt, cmp_eq, ck]; grind
    · rw [show nI 3 = 3 from rfl]; simp only [fX12_both, cmp_ge, cmp_gt, cmp_le, cmp_lt, cmp_eq, fX12_truth_ev, ck]; grind
    · grind
    · grind
  · refine ⟨if a < b then 1 else 0, ?_, ?_, ?_, ?_⟩
    · rw [show nI (sg 4) = 7 from rfl]; simp only [fX2_joined, cmp_ge, cmp_gt, cmp_le, cmp_lt, cmp_eq, ck]; grind
    · rw [show nI 4 = 4 from rfl]; simp only [fX12_both, cmp_ge, cmp_gt, cmp_le, cmp_lt, cmp_eq, fX12_truth_ev, ck]; grind
    · grind
    · grind
  · refine ⟨if a ≤ b then 1 else 0, ?_, ?_, ?_, ?_⟩
    · rw [show nI (sg 5) = 8 from rfl]; simp only [fX2_joined, cmp_ge, cmp_gt, cmp_le, cmp_lt, cmp_eq, ck]; grind
    · rw [show nI 5 = 5 from rfl]; simp only [fX12_both, cmp_ge, cmp_gt, cmp_le, cmp_lt, cmp_eq, fX12_truth_ev, ck]; grind
    · grind
    · grind
  · refine ⟨if a = b then 1 else 0, ?_, ?_, ?_, ?_⟩
    · rw [show nI (sg 6) = 9 from rfl]; simp only [fX2_joined, cmp_ge, cmp_gt, cmp_le, cmp_lt, cmp_eq, ck]; grind
    · rw [show nI 6 = 6 from rfl]; simp only [fX12_both, cmp_ge, cmp_gt, cmp_le, cmp_lt, cmp_eq, fX12_truth_ev, ck]; grind
    · grind
    · grind
  · refine ⟨if b ≤ a then 1 else 0, ?_, ?_, ?_, ?_⟩
    · rw [show nI (sg 7) = 10 from rfl]; simp only [fX2_joined, cmp_ge, cmp_gt, cmp_le, cmp_lt, cmp_eq, ck]; grind
    · rw [show nI 7 = 7 from rfl]; simp only [fX12_both, cmp_ge, cmp_gt, cmp_le, cmp_lt, cmp_eq, fX12_truth_ev, ck]; grind
    · grind
    · grind
  · refine ⟨if b < a then 1 else 0, ?_, ?_, ?_, ?_⟩
    · rw [show nI (sg 8) = 11 from rfl]; simp only [fX2_joined, cmp_ge, cmp_gt, cmp_le, cmp_lt, cmp_eq, ck]; grind
    · rw [show nI 8 = 8 from rfl]; simp only [fX12_both, cmp_ge, cmp_gt, cmp_le, cmp_lt, cmp_eq, fX12_truth_ev, ck]; grind
    · grind
    · grind
  · refine ⟨a &&& b, ?_, ?_, ?_, ?_⟩
    · rw [show nI (sg 10) = 12 from rfl]; simp only [fX2_joined, cmp_ge, cmp_gt, cmp_le, cmp_lt, cmp_eq, ck]; grind
    · rw [show nI 10 = 10 from rfl]; simp only [fX12_both, cmp_ge, cmp_gt, cmp_le, cmp_lt, cmp_eq, fX12_truth_ev, ck]; grind
    · grind
    · intro _ h1 h2; rcases h1 with rfl | rfl <;> rcases h2 with rfl | rfl <;> decide
  · refine ⟨a ||| b, ?_, ?_, ?_, ?_⟩
    · rw [show nI (sg 11) = 13 from rfl]; simp only [fX2_joined, cmp_ge, cmp_gt, cmp_le, cmp_lt, cmp_eq, ck]; grind
    · rw [show nI 11 = 11 from rfl]; simp only [fX12_both, cmp_ge, cmp_gt, cmp_le, cmp_lt, cmp_eq, fX12_truth_ev, ck]; grind
    · grind
    · intro _ h1 h2; rcases h1 with rfl | rfl <;> rcases h2 with rfl | rfl <;> decide
  · refine ⟨a * b, ?_, ?_, ?_, ?_⟩
    · rw [show nI (sg 13) = 4 from rfl]; simp only [fX2_joined, cmp_ge, cmp_gt, cmp_le, cmp_lt, cmp_eq, ck]; grind
    · rw [show nI 13 = 13 from rfl]; simp only [fX12_both, cmp_ge, cmp_gt, cmp_le, cmp_lt, cmp_eq, fX12_truth_ev, ck]; grind
    · grind
    · grind
  · refine ⟨if b = 0 then 0 else a / b, ?_, ?_, ?_, ?_⟩
    · rw [show nI (sg 14) = 5 from rfl]; simp only [fX2_joined, cmp_ge, cmp_gt, cmp_le, cmp_lt, cmp_eq, ck]; grind
    · rw [show nI 14 = 14 from rfl]; simp only [fX12_both, cmp_ge, cmp_gt, cmp_le, cmp_lt, cmp_eq, fX12_truth_ev, ck]; grind
    · grind
    · grind
  · refine ⟨if b = 0 then 0 else a - a / b * b, ?_, ?_, ?_, ?_⟩
    · rw [show nI (sg 15) = 6 from rfl]; simp only [fX2_joined, cmp_ge, cmp_gt, cmp_le, cmp_lt, cmp_eq, ck]; grind
    · rw [show nI 15 = 15 from rfl]; simp only [fX12_both, cmp_ge, cmp_gt, cmp_le, cmp_lt, cmp_eq, fX12_truth_ev, ck]; grind
    · grind
    · grind
theorem cstep_num {t : PH} {q to n h i v : Nat} {s : ST} (hi : i < to) (ha : to ≤ alT t (q + 1)) (hb : alT t (q + 1) ≤ 300) (hh : h < 60) (hv : v ≤ 99999) (hw : gi s (q + 1) i = nI (sg 0 + 32 * v)) :
    fX2_reckon_Rl_42_43_L6 (nI to) q t (n + 1) (nI h) (nI i) s = fX2_reckon_Rl_42_43_L6 (nI to) q t n (nI (h + 1)) (nI (i + 1)) (sl s 43 h (nI v).toInt64) := by
  rw [show sg 0 = 0 from rfl] at hw
  have e1 : (0 + 32 * v) % 32 = 0 := by omega
  have e2 : (0 + 32 * v) / 32 = v := by omega
  rw [fX2_reckon_Rl_42_43_L6]
  rw [show Int32.ofNat (alT t (q + 1)) = nI (alT t (q + 1)) from rfl]
  simp (disch := omega) only [↓ite_bind, ↓ck_bind, ↓lt_bind, ↓Option.bind_assoc, ↓bd_s, ↓lt_v, ↓ck_v, ↓reduceIte, Bool.false_eq_true, Bool.true_eq_false, nj_add, nj_addl, nj_addr, nj_mull, nj_mulr, nj_subr, nj_pred, ix_nI, ix_lit, inb_t, inb_l, nj_le_t, nj_le_f, nj_lel_t, nj_lel_f, nj_ler_t, nj_ler_f, nj_lt_t, nj_lt_f, nj_ltl_t, nj_ltl_f, nj_ltr_t, nj_ltr_f, nj_eq_t, nj_eq_f, nj_eqr_t, nj_eqr_f, nj_m1, nj_m2, hw, nj_and31, and531, nj_shr5, e1, e2]
theorem cstep_word {t : PH} {q to n h i v : Nat} {s : ST} (hi : i < to) (ha : to ≤ alT t (q + 1)) (hb : alT t (q + 1) ≤ 300) (hh : h < 60) (hv : v < 14) (hw : gi s (q + 1) i = nI (sg 1 + 32 * v)) :
    fX2_reckon_Rl_42_43_L6 (nI to) q t (n + 1) (nI h) (nI i) s = fX2_reckon_Rl_42_43_L6 (nI to) q t n (nI (h + 1)) (nI (i + 1)) (sl s 43 h (gi s 42 v).toInt64) := by
  rw [show sg 1 = 1 from rfl] at hw
  have e1 : (1 + 32 * v) % 32 = 1 := by omega
  have e2 : (1 + 32 * v) / 32 = v := by omega
  rw [fX2_reckon_Rl_42_43_L6]
  rw [show Int32.ofNat (alT t (q + 1)) = nI (alT t (q + 1)) from rfl]
  simp (disch := omega) only [↓ite_bind, ↓ck_bind, ↓lt_bind, ↓Option.bind_assoc, ↓bd_s, ↓lt_v, ↓ck_v, ↓reduceIte, Bool.false_eq_true, Bool.true_eq_false, nj_add, nj_addl, nj_addr, nj_mull, nj_mulr, nj_subr, nj_pred, ix_nI, ix_lit, inb_t, inb_l, nj_le_t, nj_le_f, nj_lel_t, nj_lel_f, nj_ler_t, nj_ler_f, nj_lt_t, nj_lt_f, nj_ltl_t, nj_ltl_f, nj_ltr_t, nj_ltr_f, nj_eq_t, nj_eq_f, nj_eqr_t, nj_eqr_f, nj_m1, nj_m2, hw, nj_and31, and531, nj_shr5, e1, e2]
theorem cstep_not {t : PH} {q to n h i v : Nat} {s : ST} (hi : i < to) (ha : to ≤ alT t (q + 1)) (hb : alT t (q + 1) ≤ 300) (hh : h + 1 ≤ 60) (hv : v ≤ 99999) (hw : gi s (q + 1) i = nI (sg 9 + 32 * v)) :
    fX2_reckon_Rl_42_43_L6 (nI to) q t (n + 1) (nI (h + 1)) (nI i) s = fX2_reckon_Rl_42_43_L6 (nI to) q t n (nI (h + 1)) (nI (i + 1)) (sl s 43 h (1 - gl s 43 h)) := by
  rw [show sg 9 = 14 from rfl] at hw
  have e1 : (14 + 32 * v) % 32 = 14 := by omega
  have e2 : (14 + 32 * v) / 32 = v := by omega
  rw [fX2_reckon_Rl_42_43_L6]
  rw [show Int32.ofNat (alT t (q + 1)) = nI (alT t (q + 1)) from rfl]
  simp (disch := omega) only [↓ite_bind, ↓ck_bind, ↓lt_bind, ↓Option.bind_assoc, ↓bd_s, ↓lt_v, ↓ck_v, ↓reduceIte, Bool.false_eq_true, Bool.true_eq_false, nj_add, nj_addl, nj_addr, nj_mull, nj_mulr, nj_subr, nj_pred, ix_nI, ix_lit, inb_t, inb_l, nj_le_t, nj_le_f, nj_lel_t, nj_lel_f, nj_ler_t, nj_ler_f, nj_lt_t, nj_lt_f, nj_ltl_t, nj_ltl_f, nj_ltr_t, nj_ltr_f, nj_eq_t, nj_eq_f, nj_eqr_t, nj_eqr_f, nj_m1, nj_m2, hw, nj_and31, and531, nj_shr5, e1, e2, Nat.add_sub_cancel]
theorem cstep_two {t : PH} {q to n h i v k : Nat} {s : ST} {y : Int64} (hi : i < to) (ha : to ≤ alT t (q + 1)) (hb : alT t (q + 1) ≤ 300) (hh : h + 2 ≤ 60) (hv : v ≤ 99999) (hw : gi s (q + 1) i = nI (k + 32 * v)) (hk : k < 32) (hk0 : k ≠ 0) (hk1 : k ≠ 1) (hk9 : k ≠ 14) (hj : fX2_joined (nI k) (gl s 43 h) (gl s 43 (h + 1)) s = some y) :
    fX2_reckon_Rl_42_43_L6 (nI to) q t (n + 1) (nI (h + 2)) (nI i) s = fX2_reckon_Rl_42_43_L6 (nI to) q t n (nI (h + 1)) (nI (i + 1)) (sl s 43 h y) := by
  have e1 : (k + 32 * v) % 32 = k := by omega
  have e2 : (k + 32 * v) / 32 = v := by omega
  have e3 : h + 2 - 1 = h + 1 := by omega
  have e4 : h + 1 - 1 = h := by omega
  rw [fX2_reckon_Rl_42_43_L6]
  rw [show Int32.ofNat (alT t (q + 1)) = nI (alT t (q + 1)) from rfl]
  simp (disch := omega) only [↓ite_bind, ↓ck_bind, ↓lt_bind, ↓Option.bind_assoc, ↓bd_s, ↓lt_v, ↓ck_v, ↓reduceIte, Bool.false_eq_true, Bool.true_eq_false, nj_add, nj_addl, nj_addr, nj_mull, nj_mulr, nj_subr, nj_pred, ix_nI, ix_lit, inb_t, inb_l, nj_le_t, nj_le_f, nj_lel_t, nj_lel_f, nj_ler_t, nj_ler_f, nj_lt_t, nj_lt_f, nj_ltl_t, nj_ltl_f, nj_ltr_t, nj_ltr_f, nj_eq_t, nj_eq_f, nj_eqr_t, nj_eqr_f, nj_m1, nj_m2, hw, nj_and31, and531, nj_shr5, e1, e2, e3, e4, hj]
theorem mstep_num {r to n h i v : Nat} {s : ST} (hi : i < to) (ha : to ≤ 300) (hr : r < 6) (hh : h < 60) (hv : v ≤ 99999) (hw : gi s 27 (300 * r + i) = nI 0) (hw2 : gi s 28 (300 * r + i) = nI v) :
    fX12_answer_L6 (nI r) (nI to) (n + 1) (nI h) (nI i) s = fX12_answer_L6 (nI r) (nI to) n (nI (h + 1)) (nI (i + 1)) (sl s 35 h (nI v).toInt64) := by
  rw [fX12_answer_L6]
  simp (disch := omega) only [↓ite_bind, ↓ck_bind, ↓lt_bind, ↓Option.bind_assoc, ↓bd_s, ↓lt_v, ↓ck_v, ↓reduceIte, Bool.false_eq_true, Bool.true_eq_false, nj_add, nj_addl, nj_addr, nj_mull, nj_mulr, nj_subr, nj_pred, ix_nI, ix_lit, inb_t, inb_l, nj_le_t, nj_le_f, nj_lel_t, nj_lel_f, nj_ler_t, nj_ler_f, nj_lt_t, nj_lt_f, nj_ltl_t, nj_ltl_f, nj_ltr_t, nj_ltr_f, nj_eq_t, nj_eq_f, nj_eqr_t, nj_eqr_f, nj_m1, nj_m2, hw, hw2]
theorem mstep_word {r to n h i v : Nat} {s : ST} (hi : i < to) (ha : to ≤ 300) (hr : r < 6) (hh : h < 60) (hv : v < 14) (hw : gi s 27 (300 * r + i) = nI 1) (hw2 : gi s 28 (300 * r + i) = nI v) :
    fX12_answer_L6 (nI r) (nI to) (n + 1) (nI h) (nI i) s = fX12_answer_L6 (nI r) (nI to) n (nI (h + 1)) (nI (i + 1)) (sl s 35 h (gl s 34 v)) := by
  rw [fX12_answer_L6]
  simp (disch := omega) only [↓ite_bind, ↓ck_bind, ↓lt_bind, ↓Option.bind_assoc, ↓bd_s, ↓lt_v, ↓ck_v, ↓reduceIte, Bool.false_eq_true, Bool.true_eq_false, nj_add, nj_addl, nj_addr, nj_mull, nj_mulr, nj_subr, nj_pred, ix_nI, ix_lit, inb_t, inb_l, nj_le_t, nj_le_f, nj_lel_t, nj_lel_f, nj_ler_t, nj_ler_f, nj_lt_t, nj_lt_f, nj_ltl_t, nj_ltl_f, nj_ltr_t, nj_ltr_f, nj_eq_t, nj_eq_f, nj_eqr_t, nj_eqr_f, nj_m1, nj_m2, hw, hw2]
theorem mstep_not {r to n h i v : Nat} {s : ST} (hi : i < to) (ha : to ≤ 300) (hr : r < 6) (hh : h + 1 ≤ 60) (hw : gi s 27 (300 * r + i) = nI 9) :
    fX12_answer_L6 (nI r) (nI to) (n + 1) (nI (h + 1)) (nI i) s = fX12_answer_L6 (nI r) (nI to) n (nI (h + 1)) (nI (i + 1)) (sl s 35 h (1 - gl s 35 h)) := by
  rw [fX12_answer_L6]
  simp (disch := omega) only [↓ite_bind, ↓ck_bind, ↓lt_bind, ↓Option.bind_assoc, ↓bd_s, ↓lt_v, ↓ck_v, ↓reduceIte, Bool.false_eq_true, Bool.true_eq_false, nj_add, nj_addl, nj_addr, nj_mull, nj_mulr, nj_subr, nj_pred, ix_nI, ix_lit, inb_t, inb_l, nj_le_t, nj_le_f, nj_lel_t, nj_lel_f, nj_ler_t, nj_ler_f, nj_lt_t, nj_lt_f, nj_ltl_t, nj_ltl_f, nj_ltr_t, nj_ltr_f, nj_eq_t, nj_eq_f, nj_eqr_t, nj_eqr_f, nj_m1, nj_m2, hw, Nat.add_sub_cancel]
theorem mstep_two {r to n h i k : Nat} {s : ST} {y : Int64} (hi : i < to) (ha : to ≤ 300) (hr : r < 6) (hh : h + 2 ≤ 60) (hw : gi s 27 (300 * r + i) = nI k) (hk : k < 32) (hk0 : k ≠ 0) (hk1 : k ≠ 1) (hk9 : k ≠ 9) (hj : fX12_both (nI k) (gl s 35 h) (gl s 35 (h + 1)) s = some y) :
    fX12_answer_L6 (nI r) (nI to) (n + 1) (nI (h + 2)) (nI i) s = fX12_answer_L6 (nI r) (nI to) n (nI (h + 1)) (nI (i + 1)) (sl s 35 h y) := by
  have e3 : h + 2 - 1 = h + 1 := by omega
  have e4 : h + 1 - 1 = h := by omega
  rw [fX12_answer_L6]
  simp (disch := omega) only [↓ite_bind, ↓ck_bind, ↓lt_bind, ↓Option.bind_assoc, ↓bd_s, ↓lt_v, ↓ck_v, ↓reduceIte, Bool.false_eq_true, Bool.true_eq_false, nj_add, nj_addl, nj_addr, nj_mull, nj_mulr, nj_subr, nj_pred, ix_nI, ix_lit, inb_t, inb_l, nj_le_t, nj_le_f, nj_lel_t, nj_lel_f, nj_ler_t, nj_ler_f, nj_lt_t, nj_lt_f, nj_ltl_t, nj_ltl_f, nj_ltr_t, nj_ltr_f, nj_eq_t, nj_eq_f, nj_eqr_t, nj_eqr_f, nj_m1, nj_m2, hw, e3, e4, hj]
theorem KS_push {s s' : ST} {T : List Bool} {b : Bool} {h : Nat} {y : Int64} (hk : KS (s.2.1 43) (s'.2.1 35) T) (hh : h = T.length) (hy : b = true → y = 0 ∨ y = 1) : KS ((sl s 43 h y).2.1 43) ((sl s' 35 h y).2.1 35) (b :: T) := by
  subst hh
  refine ⟨?_, ?_, KS_mono hk ?_⟩
  · show gl (sl s 43 T.length y) 43 T.length = gl (sl s' 35 T.length y) 35 T.length
    simp [gl_sl]
  · show b = true → gl (sl s' 35 T.length y) 35 T.length = 0 ∨ gl (sl s' 35 T.length y) 35 T.length = 1
    simpa [gl_sl] using hy
  · intro j hj
    refine ⟨?_, ?_⟩
    · show gl (sl s 43 T.length y) 43 j = gl s 43 j
      rw [gl_sl, if_pos rfl, if_neg (by omega)]
    · show gl (sl s' 35 T.length y) 35 j = gl s' 35 j
      rw [gl_sl, if_pos rfl, if_neg (by omega)]
