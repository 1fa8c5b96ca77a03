/-! GUARDS -/
theorem i64_lt {a b : Int32} : (a.toInt64 < b.toInt64) = (a < b) := propext (by rw [Int64.lt_iff_toInt_lt, Int32.toInt_toInt64, Int32.toInt_toInt64, Int32.lt_iff_toInt_lt])
theorem in_ev (x : Int32) {l h : Int32} {L H : Int64} (hl : L = l.toInt64) (hh : H = h.toInt64) (s : ST) : fX12_in x.toInt64 L H s = some (if x < l then 0 else if h < x then 0 else 1) := by
  subst hl hh
  unfold fX12_in
  simp only [cmp_lt, cmp_gt, i64_lt]
  by_cases c : x < l
  · simp only [c, if_true, bd_s, Bool.false_eq_true, if_false]; rfl
  · by_cases c2 : h < x
    · simp only [c, c2, if_true, bd_s, Bool.false_eq_true, if_false]; rfl
    · simp only [c, c2, if_true, bd_s, if_false]; rfl
theorem g_in (x : Int32) {l h : Int32} {L H : Int64} {a b : Nat} (hl : L = l.toInt64) (hh : H = h.toInt64) (la : l = nI a) (hb : h = nI b) (hb2 : b < 2147483647) (hab : a ≤ b) : ((∀ s, fX12_in x.toInt64 L H s = some 0) ∧ (x < l ∨ (¬ x < l ∧ h < x ∧ ¬ x ≤ h))) ∨ ∃ n, a ≤ n ∧ n ≤ b ∧ x = nI n ∧ ∀ s, fX12_in (nI n).toInt64 L H s = some 1 := by
  by_cases c : x < l
  · exact Or.inl ⟨fun s => by rw [in_ev x hl hh, if_pos c], Or.inl c⟩
  · by_cases c2 : h < x
    · exact Or.inl ⟨fun s => by rw [in_ev x hl hh, if_neg c, if_pos c2], Or.inr ⟨c, c2, by grind⟩⟩
    · have c3 : l ≤ x := by grind
      have c4 : x ≤ h := by grind
      have h0 : (0 : Int32) ≤ x := by
        rw [la, Int32.le_iff_toInt_le, nj_toInt (by omega)] at c3
        rw [Int32.le_iff_toInt_le]
        show (0 : Int) ≤ _
        omega
      obtain ⟨n, n1, n2⟩ := nj_ofl h0 (hb ▸ c4) hb2
      refine Or.inr ⟨n, ?_, n1, n2, fun s => ?_⟩
      · rw [la, n2, nj_le (by omega) (by omega)] at c3; exact c3
      · rw [← n2, in_ev x hl hh, if_neg c, if_neg c2]
theorem pm1 {n : Nat} (hn : n ≤ 100) (p : Int32) : (nI n - 1 < p) = (nI n ≤ p) := by
  have : (nI n - 1).toInt = (n : Int) - 1 := by
    by_cases h : n = 0
    · subst h; decide
    · rw [nj_subr (by omega), nj_toInt (by omega)]; omega
  rw [Int32.lt_iff_toInt_lt, Int32.le_iff_toInt_le, this, nj_toInt (by omega)]
  exact propext (by omega)
theorem g_pers {u v : ST} {np : Nat} (h7 : gi u 18 7 = nI np) (h3 : gi v 1 3 = nI np) (hn : np ≤ 5) (p : Int32) : (fX11_isPerson p u = some 0 ∧ fX12_isPerson p v = some 0) ∨ ∃ q, q < np ∧ p = nI q ∧ fX11_isPerson (nI q) u = some 1 ∧ fX12_isPerson (nI q) v = some 1 := by
  have e1 : fX11_isPerson p u = some (if p < 0 then 0 else if nI np ≤ p then 0 else 1) := by
    unfold fX11_isPerson
    rw [h7]
    by_cases c : p < 0
    · simp only [c, if_true, bd_s, Bool.false_eq_true, if_false]; rfl
    · by_cases c2 : nI np ≤ p
      · simp only [c, c2, if_true, bd_s, Bool.false_eq_true, if_false]; rfl
      · simp only [c, c2, if_true, bd_s, if_false]; rfl
  have e2 : fX12_isPerson p v = some (if p < 0 then 0 else if nI np ≤ p then 0 else 1) := by
    unfold fX12_isPerson
    rw [ck_t (by decide), ix_lit (by decide), h3, in_ev p (l := 0) (L := 0) rfl rfl, bd_s]
    simp only [pm1 (show np ≤ 100 by omega)]
    exact ck_t (by by_cases c : p < 0 <;> by_cases c2 : nI np ≤ p <;> simp only [c, c2, if_true, if_false] <;> rfl)
  by_cases c : p < 0
  · rw [if_pos c] at e1 e2; exact Or.inl ⟨e1, e2⟩
  · by_cases c2 : nI np ≤ p
    · rw [if_neg c, if_pos c2] at e1 e2; exact Or.inl ⟨e1, e2⟩
    · rw [if_neg c, if_neg c2] at e1 e2
      obtain ⟨q, q1, q2⟩ := nj_of (k := np) c (by grind) (by omega)
      subst q2
      exact Or.inr ⟨q, q1, rfl, e1, e2⟩
theorem g_meet {u v : ST} {nm : Nat} (h7 : gi u 18 8 = nI nm) (h3 : gi v 1 4 = nI nm) (hn : nm ≤ 8) (p : Int32) : (fX11_isMeeting p u = some 0 ∧ fX12_isMeeting p v = some 0) ∨ ∃ q, q < nm ∧ p = nI q ∧ fX11_isMeeting (nI q) u = some 1 ∧ fX12_isMeeting (nI q) v = some 1 := by
  have e1 : fX11_isMeeting p u = some (if p < 0 then 0 else if nI nm ≤ p then 0 else 1) := by
    unfold fX11_isMeeting
    rw [h7]
    by_cases c : p < 0
    · simp only [c, if_true, bd_s, Bool.false_eq_true, if_false]; rfl
    · by_cases c2 : nI nm ≤ p
      · simp only [c, c2, if_true, bd_s, Bool.false_eq_true, if_false]; rfl
      · simp only [c, c2, if_true, bd_s, if_false]; rfl
  have e2 : fX12_isMeeting p v = some (if p < 0 then 0 else if nI nm ≤ p then 0 else 1) := by
    unfold fX12_isMeeting
    rw [ck_t (by decide), ix_lit (by decide), h3, in_ev p (l := 0) (L := 0) rfl rfl, bd_s]
    simp only [pm1 (show nm ≤ 100 by omega)]
    exact ck_t (by by_cases c : p < 0 <;> by_cases c2 : nI nm ≤ p <;> simp only [c, c2, if_true, if_false] <;> rfl)
  by_cases c : p < 0
  · rw [if_pos c] at e1 e2; exact Or.inl ⟨e1, e2⟩
  · by_cases c2 : nI nm ≤ p
    · rw [if_neg c, if_pos c2] at e1 e2; exact Or.inl ⟨e1, e2⟩
    · rw [if_neg c, if_neg c2] at e1 e2
      obtain ⟨q, q1, q2⟩ := nj_of (k := nm) c (by grind) (by omega)
      subst q2
      exact Or.inr ⟨q, q1, rfl, e1, e2⟩
theorem g_town {u v : ST} {np nm : Nat} (h : TwR (gi u) (gi v) 18 np nm) : (gi u 18 0 = 0 ∧ fX12_isTown v = some 0) ∨ (gi u 18 0 = 1 ∧ fX12_isTown v = some 1) := by
  obtain ⟨t1, t2, t3, t4, t5, t6, t7, t8, t9, t10⟩ := h
  unfold fX12_isTown
  rw [ck_t (by decide), ix_lit (by decide)]
  rcases t9 with ⟨a, b, -⟩ | ⟨a, b⟩
  · refine Or.inl ⟨a, ?_⟩
    rw [b]; rfl
  · refine Or.inr ⟨a, ?_⟩
    rw [if_neg (by grind)]; rfl
theorem g_span {u v : ST} {np nm : Nat} (h : TwR (gi u) (gi v) 18 np nm) (x : Int32) : (fX11_isSpan x u = some 0 ∧ (fX12_isTown v = some 0 ∨ (fX12_isTown v = some 1 ∧ ∀ s, fX12_in x.toInt64 1 20 s = some 0))) ∨ ∃ n, 1 ≤ n ∧ n ≤ 20 ∧ x = nI n ∧ fX11_isSpan (nI n) u = some 1 ∧ fX12_isTown v = some 1 ∧ ∀ s, fX12_in (nI n).toInt64 1 20 s = some 1 := by
  unfold fX11_isSpan
  rcases g_town h with ⟨a, b⟩ | ⟨a, b⟩
  · refine Or.inl ⟨?_, Or.inl b⟩
    simp only [a, if_true, bd_s, Bool.false_eq_true, if_false]; rfl
  · rcases g_in x (l := 1) (h := 20) (a := 1) (b := 20) (show (1 : Int64) = _ from rfl) (show (20 : Int64) = _ from rfl) rfl rfl (by omega) (by omega) with ⟨c1, c2⟩ | ⟨n, n1, n2, n3, n4⟩
    · refine Or.inl ⟨?_, Or.inr ⟨b, c1⟩⟩
      rcases c2 with c2 | ⟨c2, c3, c4⟩
      · simp only [a, i10, c2, if_true, bd_s, Bool.false_eq_true, if_false]; rfl
      · simp only [a, i10, c2, c3, c4, if_true, bd_s, Bool.false_eq_true, if_false]; rfl
    · refine Or.inr ⟨n, n1, n2, n3, ?_, b, n4⟩
      simp (disch := omega) only [a, i10, nj_le_t, nj_le_f, nj_lel_t, nj_lel_f, nj_ler_t, nj_ler_f, nj_lt_t, nj_lt_f, nj_ltl_t, nj_ltl_f, nj_ltr_t, nj_ltr_f, nj_eq_t, nj_eq_f, nj_eqr_t, nj_eqr_f, nj_m1, nj_m2, if_true, bd_s, Bool.false_eq_true, if_false]; rfl
theorem mo_L {u v : ST} {nm q : Nat} (hn : nm ≤ 8) (h8 : gi u 18 8 = nI nm) (h4 : gi v 1 4 = nI nm) (hm : ∀ m, m < nm → gi u 21 m = gi v 7 m ∧ gi u 22 m = gi v 8 m) : ∀ (k i f f' : Nat) (x : Int32), i + k = nm → k < f → k < f' →
    ∃ y, fX7_meetingsOf_18_L4 (nI q) f x (nI i) u = some (y, nI nm) ∧ fX12_meetingsOf_L4 (nI q) f' x (nI i) v = some (y, nI nm) := by
  intro k
  induction k with
  | zero =>
    intro i f f' x hi hf hf'
    obtain ⟨f, rfl⟩ : ∃ m, f = m + 1 := ⟨f - 1, by omega⟩
    obtain ⟨f', rfl⟩ : ∃ m, f' = m + 1 := ⟨f' - 1, by omega⟩
    obtain rfl : i = nm := by omega
    refine ⟨x, ?_, ?_⟩
    · rw [fX7_meetingsOf_18_L4, h8, if_pos (Int32.le_refl _)]
    · rw [fX12_meetingsOf_L4, ck_t (by decide), ix_lit (by decide), h4, if_pos (Int32.le_refl _)]
  | succ k ih =>
    intro i f f' x hi hf hf'
    obtain ⟨f, rfl⟩ : ∃ m, f = m + 1 := ⟨f - 1, by omega⟩
    obtain ⟨f', rfl⟩ : ∃ m, f' = m + 1 := ⟨f' - 1, by omega⟩
    obtain ⟨m1, m2⟩ := hm i (by omega)
    by_cases c : gi v 7 i = nI q
    · obtain ⟨y, y1, y2⟩ := ih (i + 1) f f' (x ||| (1 <<< (nI i &&& 31))) (by omega) (by omega) (by omega)
      refine ⟨y, ?_, ?_⟩
      · rw [fX7_meetingsOf_18_L4]
        simp (disch := omega) only [↓ite_bind, ↓ck_bind, ↓lt_bind, ↓Option.bind_assoc, ↓bd_s, ↓lt_v, ↓ck_v, ↓reduceIte, Bool.false_eq_true, Bool.true_eq_false, nj_add, nj_addl, nj_addr, nj_mull, nj_mulr, nj_subr, nj_pred, ix_nI, ix_lit, inb_t, inb_l, nj_le_t, nj_le_f, nj_lel_t, nj_lel_f, nj_ler_t, nj_ler_f, nj_lt_t, nj_lt_f, nj_ltl_t, nj_ltl_f, nj_ltr_t, nj_ltr_f, nj_eq_t, nj_eq_f, nj_eqr_t, nj_eqr_f, nj_m1, nj_m2, h8, m1, c]
        exact y1
      · rw [fX12_meetingsOf_L4]
        unfold fX12_isIn
        simp (disch := omega) only [↓ite_bind, ↓ck_bind, ↓lt_bind, ↓Option.bind_assoc, ↓bd_s, ↓lt_v, ↓ck_v, ↓reduceIte, Bool.false_eq_true, Bool.true_eq_false, nj_add, nj_addl, nj_addr, nj_mull, nj_mulr, nj_subr, nj_pred, ix_nI, ix_lit, inb_t, inb_l, nj_le_t, nj_le_f, nj_lel_t, nj_lel_f, nj_ler_t, nj_ler_f, nj_lt_t, nj_lt_f, nj_ltl_t, nj_ltl_f, nj_ltr_t, nj_ltr_f, nj_eq_t, nj_eq_f, nj_eqr_t, nj_eqr_f, nj_m1, nj_m2, h4, c, show bz 1 = true from rfl, i10]
        exact y2
    · by_cases c2 : gi v 8 i = nI q
      · obtain ⟨y, y1, y2⟩ := ih (i + 1) f f' (x ||| (1 <<< (nI i &&& 31))) (by omega) (by omega) (by omega)
        refine ⟨y, ?_, ?_⟩
        · rw [fX7_meetingsOf_18_L4]
          simp (disch := omega) only [↓ite_bind, ↓ck_bind, ↓lt_bind, ↓Option.bind_assoc, ↓bd_s, ↓lt_v, ↓ck_v, ↓reduceIte, Bool.false_eq_true, Bool.true_eq_false, nj_add, nj_addl, nj_addr, nj_mull, nj_mulr, nj_subr, nj_pred, ix_nI, ix_lit, inb_t, inb_l, nj_le_t, nj_le_f, nj_lel_t, nj_lel_f, nj_ler_t, nj_ler_f, nj_lt_t, nj_lt_f, nj_ltl_t, nj_ltl_f, nj_ltr_t, nj_ltr_f, nj_eq_t, nj_eq_f, nj_eqr_t, nj_eqr_f, nj_m1, nj_m2, h8, m1, m2, c, c2]
          exact y1
        · rw [fX12_meetingsOf_L4]
          unfold fX12_isIn
          simp (disch := omega) only [↓ite_bind, ↓ck_bind, ↓lt_bind, ↓Option.bind_assoc, ↓bd_s, ↓lt_v, ↓ck_v, ↓reduceIte, Bool.false_eq_true, Bool.true_eq_false, nj_add, nj_addl, nj_addr, nj_mull, nj_mulr, nj_subr, nj_pred, ix_nI, ix_lit, inb_t, inb_l, nj_le_t, nj_le_f, nj_lel_t, nj_lel_f, nj_ler_t, nj_ler_f, nj_lt_t, nj_lt_f, nj_ltl_t, nj_ltl_f, nj_ltr_t, nj_ltr_f, nj_eq_t, nj_eq_f, nj_eqr_t, nj_eqr_f, nj_m1, nj_m2, h4, c, c2, show bz 1 = true from rfl, i10]
          exact y2
      · obtain ⟨y, y1, y2⟩ := ih (i + 1) f f' x (by omega) (by omega) (by omega)
        refine ⟨y, ?_, ?_⟩
        · rw [fX7_meetingsOf_18_L4]
          simp (disch := omega) only [↓ite_bind, ↓ck_bind, ↓lt_bind, ↓Option.bind_assoc, ↓bd_s, ↓lt_v, ↓ck_v, ↓reduceIte, Bool.false_eq_true, Bool.true_eq_false, nj_add, nj_addl, nj_addr, nj_mull, nj_mulr, nj_subr, nj_pred, ix_nI, ix_lit, inb_t, inb_l, nj_le_t, nj_le_f, nj_lel_t, nj_lel_f, nj_ler_t, nj_ler_f, nj_lt_t, nj_lt_f, nj_ltl_t, nj_ltl_f, nj_ltr_t, nj_ltr_f, nj_eq_t, nj_eq_f, nj_eqr_t, nj_eqr_f, nj_m1, nj_m2, h8, m1, m2, c, c2]
          exact y1
        · rw [fX12_meetingsOf_L4]
          unfold fX12_isIn
          simp (disch := omega) only [↓ite_bind, ↓ck_bind, ↓lt_bind, ↓Option.bind_assoc, ↓bd_s, ↓lt_v, ↓ck_v, ↓reduceIte, Bool.false_eq_true, Bool.true_eq_false, nj_add, nj_addl, nj_addr, nj_mull, nj_mulr, nj_subr, nj_pred, ix_nI, ix_lit, inb_t, inb_l, nj_le_t, nj_le_f, nj_lel_t, nj_lel_f, nj_ler_t, nj_ler_f, nj_lt_t, nj_lt_f, nj_ltl_t, nj_ltl_f, nj_ltr_t, nj_ltr_f, nj_eq_t, nj_eq_f, nj_eqr_t, nj_eqr_f, nj_m1, nj_m2, h4, c, c2, show bz 0 = true from rfl, Int32.or_zero]
          exact y2
theorem mo_ev {u v : ST} {np nm : Nat} (h : TwR (gi u) (gi v) 18 np nm) (q : Nat) : ∃ y, fX7_meetingsOf_18 (nI q) u = some y ∧ fX12_meetingsOf (nI q) v = some y := by
  obtain ⟨t1, t2, t3, t4, t5, t6, t7, t8, t9, t10, t11, t12, t13, t14, t15⟩ := h
  obtain ⟨y, y1, y2⟩ := mo_L (q := q) t2 t5 t6 (fun m hm => by
    obtain ⟨a, b, e1, e2, e3, e4, e5, e6, e7, e8⟩ := t15 m hm
    exact ⟨e4.trans e5.symm, e6.trans e7.symm⟩) nm 0 FUEL FUEL 0 (by omega) (by rw [FUEL_eq]; omega) (by rw [FUEL_eq]; omega)
  refine ⟨y, ?_, ?_⟩
  · unfold fX7_meetingsOf_18
    rw [show fX7_meetingsOf_18_L4 (nI q) FUEL 0 0 u = fX7_meetingsOf_18_L4 (nI q) FUEL 0 (nI 0) u from rfl, y1, bd_s]
  · unfold fX12_meetingsOf
    rw [show fX12_meetingsOf_L4 (nI q) FUEL 0 0 v = fX12_meetingsOf_L4 (nI q) FUEL 0 (nI 0) v from rfl, y2, bd_s]
theorem INV_mono {t : PH} {s s' : ST} {d d' : Nat} (h : INV t s s' d) (hd : d ≤ d') : INV t s s' d' := INV_k rfl rfl hd h h.2.1 h.2.2.1 h.2.2.2
def A2 (t : PH) (d : Nat) (f g : Option (Int32 × ST)) : Prop := ∃ a z z', f = some (a, z) ∧ g = some (a, z') ∧ INV t z z' d
theorem person_ok {t : PH} {s s' : ST} {d : Nat} (h : INV t s s' d) (p w : Int32) : ∃ a, fX11_person p w s = some a ∧ fX12_person p w s' = some a := by
  obtain ⟨np, nm, R, n⟩ := IN0_nw h.1
  obtain ⟨t1, t2, t3, t4, t5, t6, t7, t8, t9, t10, t11, t12, t13, t14, t15⟩ := n.1
  unfold fX11_person fX12_person
  rcases g_pers t3 t4 t1 p with ⟨a, b⟩ | ⟨q, hq, rfl, a, b⟩
  · exact ⟨-1000, by rw [a, bd_s, if_pos rfl], by rw [b, bd_s, if_pos rfl]⟩
  · rw [a, b, bd_s, bd_s, if_neg n10, if_neg n10]
    have hs := n.2.1
    have e0 : gi s 19 q = gi s' 2 q := (t14 q hq).1
    have e1 : gi s 26 q = gi s' 3 q := by rw [lv_clock _ (by omega)]; exact hs q (by unfold vis; omega)
    have e2 : gi s 26 44 = gi s' 1 8 := hs 44 (by unfold vis; omega)
    have e3 : gi s 26 (5 + q) = gi s' 4 q := by rw [lv_last _ (by omega)]; exact hs _ (by unfold vis; omega)
    have e4 : gi s 26 (10 + q) = gi s' 5 q := by rw [lv_fined _ (by omega)]; exact hs _ (by unfold vis; omega)
    have e5 : gi s 26 (15 + q) = gi s' 6 q := by rw [lv_waited _ (by omega)]; exact hs _ (by unfold vis; omega)
    obtain ⟨y, y1, y2⟩ := mo_ev n.1 q
    have ex : fX5_isExempt_25 (nI q) s = some (if exB (gi s' 1 8) q = true then 1 else 0) := by
      unfold fX5_isExempt_25 exB
      rw [ck_t (by decide), ix_lit (by decide), e2]
      by_cases c : ((gi s' 1 8 >>> (nI q &&& 31)) &&& 1) = 1
      · simp only [c, if_true, bd_s, decide_true]; rfl
      · simp only [c, if_false, bd_s, decide_false, Bool.false_eq_true]; rfl
    by_cases c0 : w = 0
    · exact ⟨gi s' 2 q, by rw [if_pos c0, ck_t (inb_t (by omega) (by omega)), ix_nI (by omega), e0], by rw [if_pos c0, ck_t (inb_t (by omega) (by omega)), ix_nI (by omega)]⟩
    rw [if_neg c0, if_neg c0]
    by_cases c1 : w = 1
    · refine ⟨gi s' 3 q, ?_, by rw [if_pos c1, ck_t (inb_t (by omega) (by omega)), ix_nI (by omega)]⟩
      rw [if_pos c1, nj_addl, ck_t (inb_t (by omega) (by omega)), ix_nI (by omega), Nat.zero_add, e1]
    rw [if_neg c1, if_neg c1]
    by_cases c2 : w = 2
    · refine ⟨if exB (gi s' 1 8) q = true then 1 else 0, ?_, ?_⟩
      · rw [if_pos c2, ex, bd_s]
        by_cases c : exB (gi s' 1 8) q = true
        · simp only [c, if_true, i10, if_false, bd_s]
        · simp only [c, Bool.false_eq_true, if_false, i00, if_true, bd_s]
      · rw [if_pos c2, ck_t (by decide), ix_lit (by decide), hasB, bd_s]
        by_cases c : exB (gi s' 1 8) q = true
        · simp only [c, if_true, i10, if_false, bd_s]
        · simp only [c, Bool.false_eq_true, if_false, i00, if_true, bd_s]
    rw [if_neg c2, if_neg c2]
    by_cases c3 : w = 3
    · exact ⟨gi s' 4 q, by rw [if_pos c3, nj_addl, ck_t (inb_t (by omega) (by omega)), ix_nI (by omega), e3], by rw [if_pos c3, ck_t (inb_t (by omega) (by omega)), ix_nI (by omega)]⟩
    rw [if_neg c3, if_neg c3]
    by_cases c4 : w = 4
    · exact ⟨gi s' 5 q, by rw [if_pos c4, nj_addl, ck_t (inb_t (by omega) (by omega)), ix_nI (by omega), e4], by rw [if_pos c4, ck_t (inb_t (by omega) (by omega)), ix_nI (by omega)]⟩
    rw [if_neg c4, if_neg c4]
    by_cases c5 : w = 5
    · exact ⟨gi s' 6 q, by rw [if_pos c5, nj_addl, ck_t (inb_t (by omega) (by omega)), ix_nI (by omega), e5], by rw [if_pos c5, ck_t (inb_t (by omega) (by omega)), ix_nI (by omega)]⟩
    rw [if_neg c5, if_neg c5]
    by_cases c6 : w = 6
    · exact ⟨y, by rw [if_pos c6, y1, bd_s], by rw [if_pos c6, y2, bd_s]⟩
    exact ⟨-1000, by rw [if_neg c6], by rw [if_neg c6]⟩
theorem meeting_ok {t : PH} {s s' : ST} {d : Nat} (h : INV t s s' d) (p w : Int32) : ∃ a, fX11_meeting p w s = some a ∧ fX12_meeting p w s' = some a := by
  obtain ⟨np, nm, R, n⟩ := IN0_nw h.1
  obtain ⟨t1, t2, t3, t4, t5, t6, t7, t8, t9, t10, t11, t12, t13, t14, t15⟩ := n.1
  unfold fX11_meeting fX12_meeting
  rcases g_meet t5 t6 t2 p with ⟨a, b⟩ | ⟨q, hq, rfl, a, b⟩
  · exact ⟨-1, by rw [a, bd_s, if_pos rfl], by rw [b, bd_s, if_pos rfl]⟩
  · rw [a, b, bd_s, bd_s, if_neg n10, if_neg n10]
    have hs := n.2.1
    obtain ⟨x, y, x1, x2, x3, x4, x5, x6, x7, x8, x9, x10⟩ := t15 q hq
    have e0 : gi s 21 q = gi s' 7 q := x4.trans x5.symm
    have e1 : gi s 22 q = gi s' 8 q := x6.trans x7.symm
    have e2 : gi s 26 (20 + q) = gi s' 9 q := by rw [lv_minute _ (by omega)]; exact hs _ (by unfold vis; omega)
    have e3 : gi s 24 q = gi s' 10 q := x8
    have e4 : gi s 26 (28 + q) = gi s' 11 q := by rw [lv_held _ (by omega)]; exact hs _ (by unfold vis; omega)
    have e5 : gi s 26 (36 + q) = gi s' 12 q := by rw [lv_missed _ (by omega)]; exact hs _ (by unfold vis; omega)
    by_cases c0 : w = 0
    · exact ⟨gi s' 7 q, by rw [if_pos c0, ck_t (inb_t (by omega) (by omega)), ix_nI (by omega), e0], by rw [if_pos c0, ck_t (inb_t (by omega) (by omega)), ix_nI (by omega)]⟩
    rw [if_neg c0, if_neg c0]
    by_cases c1 : w = 1
    · exact ⟨gi s' 8 q, by rw [if_pos c1, ck_t (inb_t (by omega) (by omega)), ix_nI (by omega), e1], by rw [if_pos c1, ck_t (inb_t (by omega) (by omega)), ix_nI (by omega)]⟩
    rw [if_neg c1, if_neg c1]
    by_cases c2 : w = 2
    · exact ⟨gi s' 9 q, by rw [if_pos c2, nj_addl, ck_t (inb_t (by omega) (by omega)), ix_nI (by omega), e2], by rw [if_pos c2, ck_t (inb_t (by omega) (by omega)), ix_nI (by omega)]⟩
    rw [if_neg c2, if_neg c2]
    by_cases c3 : w = 3
    · exact ⟨gi s' 10 q, by rw [if_pos c3, ck_t (inb_t (by omega) (by omega)), ix_nI (by omega), e3], by rw [if_pos c3, ck_t (inb_t (by omega) (by omega)), ix_nI (by omega)]⟩
    rw [if_neg c3, if_neg c3]
    by_cases c4 : w = 4
    · exact ⟨gi s' 11 q, by rw [if_pos c4, nj_addl, ck_t (inb_t (by omega) (by omega)), ix_nI (by omega), e4], by rw [if_pos c4, ck_t (inb_t (by omega) (by omega)), ix_nI (by omega)]⟩
    rw [if_neg c4, if_neg c4]
    by_cases c5 : w = 5
    · exact ⟨gi s' 12 q, by rw [if_pos c5, nj_addl, ck_t (inb_t (by omega) (by omega)), ix_nI (by omega), e5], by rw [if_pos c5, ck_t (inb_t (by omega) (by omega)), ix_nI (by omega)]⟩
    exact ⟨-1, by rw [if_neg c5], by rw [if_neg c5]⟩
