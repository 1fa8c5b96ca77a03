/-! TEXTS: the reference's signs, and words by both -/
theorem b255s : ∀ b, b < 256 → (nI b).toInt8.toInt32 &&& 255 = nI b := by decide +kernel
theorem bLs : ∀ b, b < 256 → (isL b = true → (nI b).toInt8.toInt32 = nI b) ∧ (isL b = false → decide ((nI b).toInt8.toInt32 < 97) = true ∨ decide (122 < (nI b).toInt8.toInt32) = true) := by decide +kernel
section RV
variable {B : Nat → Nat} {n : Nat}
theorem sg_ev {s : ST} {p : Nat} (ht : TV s B n) (hp : gi s 0 27 = nI p) (hl : p < 1000000) : fX12_sign s = some (if p < n then nI (B p) else -1) := by
  unfold fX12_sign
  have hn := ht.1
  rw [ht.2.1, hp]
  by_cases c : p < n
  · obtain ⟨b1, b2⟩ := ht.2.2 p c
    rw [if_neg (by rw [nj_le (by omega) (by omega)]; omega), ck_t (inb_t (by omega) (by omega)), bd_s, ix_nI (by omega), b2, b255s _ b1, if_pos c]
  · rw [if_pos (by rw [nj_le (by omega) (by omega)]; omega), bd_s, if_neg c]
theorem TV_si {s : ST} {j : Nat} {x : Int32} (ht : TV s B n) (hj : j ≠ 26) : TV (si s 0 j x) B n := ⟨ht.1, by rw [gi_dif (Ne.symm hj)]; exact ht.2.1, fun i hi => by rw [gi_ne (by decide)]; exact ht.2.2 i hi⟩
theorem si_id {s : ST} {a j : Nat} {x : Int32} (h : gi s a j = x) : si s a j x = s := by rw [← h]; exact si_self s a j
theorem blL : ∀ (m p f : Nat) (s : ST), n - p = m → m < f → p < 1000000 → TV s B n → gi s 0 27 = nI p → fX12_blanks_L0 f s = some (si s 0 27 (nI (bl B n p))) := by
  intro m
  induction m with
  | zero =>
    intro p f s hm hf hl ht hp
    obtain ⟨f, rfl⟩ : ∃ m, f = m + 1 := ⟨f - 1, by omega⟩
    have e : bl B n p = p := by unfold bl; exact ru_e (by omega)
    rw [fX12_blanks_L0, sg_ev ht hp hl, bd_s, if_neg (show ¬ p < n by omega), if_neg (by decide), e, si_id hp]
  | succ m ih =>
    intro p f s hm hf hl ht hp
    obtain ⟨f, rfl⟩ : ∃ m, f = m + 1 := ⟨f - 1, by omega⟩
    have hn := ht.1
    rw [fX12_blanks_L0, sg_ev ht hp hl, bd_s, if_pos (show p < n by omega)]
    have b1 := (ht.2.2 p (by omega)).1
    by_cases c : B p = 32
    · have e : bl B n p = bl B n (p + 1) := by unfold bl; exact ru_s (p := p) (by omega) (by simp [c])
      rw [if_pos (show nI (B p) = 32 by rw [c]; rfl), lt_v, hp, nj_addr, ih (p + 1) f _ (by omega) (by omega) (by omega) (TV_si ht (by decide)) (gi_same _ _ _ _), si_si, e]
    · have e : bl B n p = p := by unfold bl; exact ru_e (by simp [c])
      rw [if_neg (show ¬ nI (B p) = 32 by rw [nj_eqr (by omega) (by decide)]; exact c), e, si_id hp]
theorem blanks_ev {s : ST} {p : Nat} (ht : TV s B n) (hp : gi s 0 27 = nI p) (hl : p < 1000000) : fX12_blanks s = some (si s 0 27 (nI (bl B n p))) := by
  unfold fX12_blanks
  rw [blL (n - p) p FUEL s rfl (by have := ht.1; rw [FUEL_eq]; omega) hl ht hp, bd_s]
theorem isDi_ev {s : ST} {p : Nat} (ht : TV s B n) (hp : gi s 0 27 = nI p) (hl : p < 1000000) : fX12_isDigit s = some (if p < n ∧ isD (B p) = true then 1 else 0) := by
  unfold fX12_isDigit
  rw [sg_ev ht hp hl, bd_s]
  by_cases c : p < n
  · have b1 := (ht.2.2 p c).1
    rw [if_pos c, in_ev (nI (B p)) (l := 48) (h := 57) (L := 48) (H := 57) rfl rfl, bd_s]
    unfold isD
    by_cases c1 : B p < 48
    · simp (disch := omega) only [nj_le_t, nj_le_f, nj_lel_t, nj_lel_f, nj_ler_t, nj_ler_f, nj_lt_t, nj_lt_f, nj_ltl_t, nj_ltl_f, nj_ltr_t, nj_ltr_f, nj_eq_t, nj_eq_f, nj_eqr_t, nj_eqr_f, nj_m1, nj_m2, if_true]
      rw [ck_t (show bz 0 = true from rfl), if_neg (by simp; omega)]
    · by_cases c2 : 57 < B p
      · simp (disch := omega) only [nj_le_t, nj_le_f, nj_lel_t, nj_lel_f, nj_ler_t, nj_ler_f, nj_lt_t, nj_lt_f, nj_ltl_t, nj_ltl_f, nj_ltr_t, nj_ltr_f, nj_eq_t, nj_eq_f, nj_eqr_t, nj_eqr_f, nj_m1, nj_m2, if_true, if_false]
        rw [ck_t (show bz 0 = true from rfl), if_neg (by simp; omega)]
      · simp (disch := omega) only [nj_le_t, nj_le_f, nj_lel_t, nj_lel_f, nj_ler_t, nj_ler_f, nj_lt_t, nj_lt_f, nj_ltl_t, nj_ltl_f, nj_ltr_t, nj_ltr_f, nj_eq_t, nj_eq_f, nj_eqr_t, nj_eqr_f, nj_m1, nj_m2, if_true, if_false]
        rw [ck_t (show bz 1 = true from rfl), if_pos (by simp; omega)]
  · rw [if_neg c, in_ev (-1) (l := 48) (h := 57) (L := 48) (H := 57) rfl rfl, bd_s, if_pos (show (-1 : Int32) < 48 by decide), ck_t (show bz 0 = true from rfl), if_neg (show ¬ (p < n ∧ isD (B p) = true) from fun h => c h.1)]
theorem leR {w : Nat} {s : ST} (ht : TV s B n) : ∀ (m x f : Nat), n - x = m → m < f → x < 1000000 → fX12_stood_L5 w f (nI x) s = some (nI (le B n x)) := by
  intro m
  induction m with
  | zero =>
    intro x f hm hf hl
    obtain ⟨f, rfl⟩ : ∃ m, f = m + 1 := ⟨f - 1, by omega⟩
    have hn := ht.1
    have e : le B n x = x := by unfold le; exact ru_e (by omega)
    rw [fX12_stood_L5, ht.2.1, if_pos (by rw [nj_le (by omega) (by omega)]; omega), bd_s, if_neg nft, e]
  | succ m ih =>
    intro x f hm hf hl
    obtain ⟨f, rfl⟩ : ∃ m, f = m + 1 := ⟨f - 1, by omega⟩
    have hn := ht.1
    have h1 := ht.2.1
    obtain ⟨b1, b2⟩ := ht.2.2 x (by omega)
    obtain ⟨l1, l2⟩ := bLs (B x) b1
    rw [fX12_stood_L5]
    by_cases c : isL (B x) = true
    · have e : le B n x = le B n (x + 1) := by unfold le; exact ru_s (p := x) (by omega) c
      have hc := c
      unfold isL at hc
      simp at hc
      have l3 := l1 c
      simp (disch := omega) only [↓ite_bind, ↓ck_bind, ↓lt_bind, ↓Option.bind_assoc, ↓bd_s, ↓lt_v, ↓ck_v, ↓reduceIte, Bool.false_eq_true, Bool.true_eq_false, nj_add, nj_addl, nj_addr, nj_mull, nj_mulr, nj_subr, nj_pred, ix_nI, ix_lit, inb_t, inb_l, nj_le_t, nj_le_f, nj_lel_t, nj_lel_f, nj_ler_t, nj_ler_f, nj_lt_t, nj_lt_f, nj_ltl_t, nj_ltl_f, nj_ltr_t, nj_ltr_f, nj_eq_t, nj_eq_f, nj_eqr_t, nj_eqr_f, nj_m1, nj_m2, h1, b2, l3]
      rw [e]
      exact ih (x + 1) f (by omega) (by omega) (by omega)
    · have e : le B n x = x := by unfold le; exact ru_e (P := fun i => isL (B i)) (fun h => c h.2)
      rw [e]
      rcases l2 (by simpa using c) with l3 | l3
      · have l3 := of_decide_eq_true l3
        simp (disch := omega) only [↓ite_bind, ↓ck_bind, ↓lt_bind, ↓Option.bind_assoc, ↓bd_s, ↓lt_v, ↓ck_v, ↓reduceIte, Bool.false_eq_true, Bool.true_eq_false, nj_add, nj_addl, nj_addr, nj_mull, nj_mulr, nj_subr, nj_pred, ix_nI, ix_lit, inb_t, inb_l, nj_le_f, h1, b2, l3]
      · have l3 := of_decide_eq_true l3
        by_cases l4 : (nI (B x)).toInt8.toInt32 < 97
        · simp (disch := omega) only [↓ite_bind, ↓ck_bind, ↓lt_bind, ↓Option.bind_assoc, ↓bd_s, ↓lt_v, ↓ck_v, ↓reduceIte, Bool.false_eq_true, Bool.true_eq_false, nj_add, nj_addl, nj_addr, nj_mull, nj_mulr, nj_subr, nj_pred, ix_nI, ix_lit, inb_t, inb_l, nj_le_f, h1, b2, l4]
        · simp (disch := omega) only [↓ite_bind, ↓ck_bind, ↓lt_bind, ↓Option.bind_assoc, ↓bd_s, ↓lt_v, ↓ck_v, ↓reduceIte, Bool.false_eq_true, Bool.true_eq_false, nj_add, nj_addl, nj_addr, nj_mull, nj_mulr, nj_subr, nj_pred, ix_nI, ix_lit, inb_t, inb_l, nj_le_f, h1, b2, l3, l4]
/-- a word that stands there -/
def mt (B : Nat → Nat) : Nat → List Int32 → Bool
  | _, [] => true
  | p, c :: L => decide (nI (B p) = c) && mt B (p + 1) L
def wdb (B : Nat → Nat) (n p : Nat) (L : List Int32) : Bool := decide (le B n p - p = L.length) && mt B p L
theorem tx_len : ∀ w, w < 46 → 1 ≤ (txB w).length ∧ (txB w).length < 16 ∧ okT (1000000 + w) = true ∧ tlen (1000000 + w) = nI (txB w).length := by decide +kernel
theorem tx_ch : ∀ w, w < 46 → ∀ k, k < (txB w).length → tch (1000000 + w) (nI k) = (txB w).getD k 0 := by decide +kernel
theorem getD_cons {L : List Int32} {k : Nat} (h : k < L.length) : L.drop k = L.getD k 0 :: L.drop (k + 1) := by
  rw [List.drop_eq_getElem_cons h, List.getD_eq_getElem?_getD, List.getElem?_eq_getElem h]
  rfl
theorem wC {s : ST} {w st : Nat} (hw : w < 46) (ht : TC s B n) (h5 : gi s 1 5 = nI st) (hle : st + (txB w).length ≤ n) : ∀ (m k f : Nat), k + m = (txB w).length → m < f → fX6_isWord_L29 (1000000 + w) f (nI k) s = some (if mt B (st + k) ((txB w).drop k) = true then 1 else 0) := by
  obtain ⟨t1, t2, t3, t4⟩ := tx_len w hw
  intro m
  induction m with
  | zero =>
    intro k f hk hf
    obtain ⟨f, rfl⟩ : ∃ m, f = m + 1 := ⟨f - 1, by omega⟩
    rw [fX6_isWord_L29, ck_t t3, t4, if_pos (by rw [nj_le (by omega) (by omega)]; omega), show (txB w).drop k = [] from List.drop_eq_nil_of_le (by omega)]
    rfl
  | succ m ih =>
    intro k f hk hf
    obtain ⟨f, rfl⟩ : ∃ m, f = m + 1 := ⟨f - 1, by omega⟩
    have hn := ht.1
    obtain ⟨b1, b2⟩ := ht.2.2 (st + k) (by omega)
    rw [fX6_isWord_L29, ck_t t3, t4, if_neg (by rw [nj_le (by omega) (by omega)]; omega), h5, nj_add, ck_t (inb_t (by omega) (by omega)), ck_t t3, show 1000000 + w - 1000000 = w by omega, ck_t (inb_t (by omega) (by omega)), ix_nI (by omega), b2, tx_ch w hw k (by omega), getD_cons (show k < (txB w).length by omega), mt]
    by_cases c : nI (B (st + k)) = (txB w).getD k 0
    · rw [if_pos c, lt_v, nj_addr, ih (k + 1) f (by omega) (by omega), show st + (k + 1) = st + k + 1 from rfl]
      simp only [c, decide_true, Bool.true_and]
    · rw [if_neg c]
      simp only [c, decide_false, Bool.false_and, Bool.false_eq_true, if_false]
theorem le_no {p : Nat} (h : ¬ (p < n ∧ isL (B p) = true)) : le B n p = p := by unfold le; exact ru_e (P := fun i => isL (B i)) h
theorem wordC {s : ST} {w st pl : Nat} (hw : w < 46) (ht : TC s B n) (h5 : gi s 1 5 = nI st) (h2 : gi s 1 2 = nI pl) (hst : st ≤ n) {val : Int32} (tk : Tok B n st (gi s 1 4) pl val) : fX6_isWord (1000000 + w) s = some (if wdb B n st (txB w) = true then 1 else 0) := by
  obtain ⟨t1, t2, t3, t4⟩ := tx_len w hw
  have hn := ht.1
  unfold fX6_isWord wdb
  have no : ¬ (st < n ∧ isL (B st) = true) → gi s 1 4 ≠ -3 → ((if gi s 1 4 = -3 then ck (okT (1000000 + w)) (if gi s 1 2 - gi s 1 5 = tlen (1000000 + w) then some false else some true) else some true : Option Bool).bind fun b1 => if b1 = true then some 0 else fX6_isWord_L29 (1000000 + w) FUEL 0 s) = some (if (decide (le B n st - st = (txB w).length) && mt B st (txB w)) = true then 1 else 0) := fun e e4 => by
    rw [if_neg e4, bd_s, if_pos rfl, le_no e, show st - st = 0 by omega]
    simp only [show (0 = (txB w).length) = False from eq_false (by omega), decide_false, Bool.false_and, Bool.false_eq_true, if_false]
  rcases tk with ⟨e1, e2, e3⟩ | ⟨e1, e2, e3, e4, e5⟩ | ⟨e1, e2, e3, e4, e5⟩ | ⟨e1, e2, e3, e4⟩
  · exact no (by omega) (by rw [e2]; decide)
  · refine no (fun h => ?_) (by rw [e3]; decide)
    have h2 := h.2
    unfold isD at e2
    unfold isL at h2
    simp at e2 h2
    omega
  · have hle : le B n st ≤ n := ru_le hst
    have hge : st ≤ le B n st := ru_ge
    rw [e4, if_pos rfl, ck_t t3, h2, h5, e5, nj_sub (by omega), t4]
    by_cases c : le B n st - st = (txB w).length
    · rw [if_pos (by rw [c]), bd_s, if_neg nft, show fX6_isWord_L29 (1000000 + w) FUEL 0 s = fX6_isWord_L29 (1000000 + w) FUEL (nI 0) s from rfl, wC hw ht h5 (by omega) (txB w).length 0 FUEL (by omega) (by rw [FUEL_eq]; omega)]
      simp only [c, decide_true, Bool.true_and]
      rfl
    · rw [if_neg (by rw [nj_eq (by omega) (by omega)]; exact c), bd_s, if_pos rfl]
      simp only [c, decide_false, Bool.false_and, Bool.false_eq_true, if_false]
  · have hb : B st < 256 := (ht.2.2 st e1).1
    refine no (fun h => ?_) ?_
    · rw [h.2] at e3; cases e3
    · rcases e4 with ⟨_, e5, _⟩ | ⟨_, e5, _⟩
      · rw [e5]; exact nj_nm (by omega) (by decide) (by decide)
      · rw [e5]; exact nj_nm (by omega) (by decide) (by decide)
theorem wR {s : ST} {w p : Nat} (hw : w < 46) (ht : TV s B n) (hp : gi s 0 27 = nI p) (hle : le B n p - p = (txB w).length) (hpn : p ≤ n) : ∀ (m k f : Nat), k + m = (txB w).length → m < f → ∃ x, fX12_stood_L63 (1000000 + w) f 1 (nI k) s = some (if mt B (p + k) ((txB w).drop k) = true then 1 else 0, x) := by
  obtain ⟨t1, t2, t3, t4⟩ := tx_len w hw
  have hge : p ≤ le B n p := ru_ge
  have hln : le B n p ≤ n := ru_le hpn
  intro m
  induction m with
  | zero =>
    intro k f hk hf
    obtain ⟨f, rfl⟩ : ∃ m, f = m + 1 := ⟨f - 1, by omega⟩
    refine ⟨nI k, ?_⟩
    rw [fX12_stood_L63, ck_t t3, t4, if_pos (by rw [nj_le (by omega) (by omega)]; omega), bd_s, if_neg nft, show (txB w).drop k = [] from List.drop_eq_nil_of_le (by omega)]
    rfl
  | succ m ih =>
    intro k f hk hf
    obtain ⟨f, rfl⟩ : ∃ m, f = m + 1 := ⟨f - 1, by omega⟩
    have hn := ht.1
    obtain ⟨b1, b2⟩ := ht.2.2 (p + k) (by omega)
    have hL : isL (B (p + k)) = true := ru_in (P := fun i => isL (B i)) (n := n) (p := p) (by omega) (show p + k < le B n p by omega)
    have b3 := (bLs _ b1).1 hL
    have pre : fX12_stood_L63 (1000000 + w) (f + 1) 1 (nI k) s = (if nI (B (p + k)) = (txB w).getD k 0 then some 1 else some 0 : Option Int32).bind (fun w22 => lt (nI k + 1) (fun v25 => fX12_stood_L63 (1000000 + w) f w22 v25 s)) := by
      rw [fX12_stood_L63, ck_t t3, t4, if_neg (by rw [nj_le (by omega) (by omega)]; omega), if_neg n10, bd_s, if_pos rfl, hp, nj_add, ck_t (inb_t (by omega) (by omega)), ck_t t3, show 1000000 + w - 1000000 = w by omega, ck_t (inb_t (by omega) (by omega)), ix_nI (by omega), b2, b3, tx_ch w hw k (by omega)]
    rw [pre, getD_cons (show k < (txB w).length by omega), mt]
    by_cases c : nI (B (p + k)) = (txB w).getD k 0
    · obtain ⟨x, hx⟩ := ih (k + 1) f (by omega) (by omega)
      refine ⟨x, ?_⟩
      rw [if_pos c, bd_s, lt_v, nj_addr, hx, show p + (k + 1) = p + k + 1 from rfl]
      simp only [c, decide_true, Bool.true_and]
    · refine ⟨nI (k + 1), ?_⟩
      obtain ⟨f, rfl⟩ : ∃ m, f = m + 1 := ⟨f - 1, by omega⟩
      rw [if_neg c, bd_s, lt_v, nj_addr, fX12_stood_L63, ck_t t3]
      simp only [c, decide_false, Bool.false_and, Bool.false_eq_true, if_false, if_true]
      split <;> rfl
theorem stood_ev {s : ST} {w p : Nat} (hw : w < 46) (ht : TV s B n) (hp : gi s 0 27 = nI p) (hl : p < 1000000) : fX12_stood (1000000 + w) s = some (if wdb B n p (txB w) = true then 1 else 0) := by
  obtain ⟨t1, t2, t3, t4⟩ := tx_len w hw
  have hn := ht.1
  have hge : p ≤ le B n p := ru_ge
  have hlt : le B n p < 2000000 := by
    by_cases c : p ≤ n
    · have : le B n p ≤ n := ru_le c
      omega
    · rw [le_no (by omega)]; omega
  unfold fX12_stood wdb
  rw [lt_v, hp, leR ht (n - p) p FUEL rfl (by rw [FUEL_eq]; omega) hl, bd_s, ck_t t3, nj_sub (by omega), t4]
  by_cases c : le B n p - p = (txB w).length
  · have hpn : p ≤ n := by
      by_cases c2 : p < n
      · omega
      · rw [le_no (by omega)] at c; omega
    obtain ⟨x, hx⟩ := wR hw ht hp c hpn (txB w).length 0 FUEL (by omega) (by rw [FUEL_eq]; omega)
    have hx : fX12_stood_L63 (1000000 + w) FUEL 1 0 s = some (if mt B p (txB w) = true then 1 else 0, x) := hx
    rw [if_pos (by rw [c]), bd_s, hx, bd_s]
    simp only [c, decide_true, Bool.true_and]
    by_cases cm : mt B p (txB w) = true
    · simp only [cm, if_true]; rfl
    · simp only [cm, Bool.false_eq_true, if_false]; rfl
  · rw [if_neg (by rw [nj_eq (by omega) (by omega)]; exact c), bd_s]
    have : fX12_stood_L63 (1000000 + w) FUEL 0 0 s = some (0, 0) := by
      rw [show FUEL = 4999 + 1 from rfl, fX12_stood_L63, ck_t t3, t4, if_neg (by
        show ¬ nI (txB w).length ≤ nI 0
        rw [nj_le (by omega) (by omega)]; omega), if_pos rfl, bd_s, if_neg nft]
    rw [this, bd_s]
    simp only [c, decide_false, Bool.false_and, Bool.false_eq_true, if_false]
    rfl
end RV
