/-! LOG AND FEED -/
theorem log_ok {t : PH} {s s' : ST} {d : Nat} (h : INV t s s' d) (p w x : Int32) : A2 t (d + 1) (fX11_log p w x s) (fX12_log p w x s') := by
  obtain ⟨np, nm, R, n⟩ := IN0_nw h.1
  obtain ⟨⟨t1, t2, t3, t4, t5⟩, -, -, -, -, -, -, -, -, -, nl, l1, l2, l3, l4⟩ := n
  unfold fX11_log fX12_log
  by_cases c : p = -1
  · refine ⟨0, si s 17 4 0, si s' 1 10 0, by rw [if_pos c, lt_v], by rw [if_pos c, ck_t (by decide), ix_lit (by decide), lt_v], ?_, ?_, ?_, ?_⟩
    · refine IN0_w h.1 (by omega) (fun q => TpR_eq q (si_x _ _ (by omega)) (fun j => si_x _ _ (by omega)) (si_x _ _ (by omega)) (fun j => si_x _ _ (by omega))) (si_x _ _ (by omega)) (fun a j ha => si_x a j (by omega)) (si_x _ _ (by omega)) (si_x _ _ (by omega)) (fun a j ha => si_x a j (by omega)) (fun R2 q1 q2 q3 hw => ?_)
      obtain ⟨np, nm, e1, e2, e3, e4, e5, e6, e7, e8⟩ := hw
      have el : LVf (gi (si s' 1 10 0)) = LVf (gi s') := by
        rw [LVf_lv, LVf_lv]; exact lv_si_o _ (by omega)
      refine ⟨np, nm, TwR_eq e1 (fun a j _ _ => si_x _ _ (by omega)) (fun a j _ => si_x _ _ (by omega)), ?_, by rw [el]; exact SB_mono e3 (by omega), by rw [si_x _ _ (by omega), si_x _ _ (by omega)]; exact e4, by rw [si_x _ _ (by omega)]; exact e5, by rw [si_x _ _ (by omega), si_x _ _ (by omega)]; exact e6, ⟨0, by omega, gi_same _ _ _ _, gi_same _ _ _ _, fun i hi => absurd hi (by omega)⟩, AcR_eq e8 (by omega) (si_x _ _ (by omega)) (si_x _ _ (by omega)) (si_x _ _ (by omega)) (fun j => si_x _ _ (by omega)) (fun j => si_x _ _ (by omega))⟩
      rw [el]; intro j hj; rw [si_x _ _ (by omega)]; exact e2 j hj
    · rw [gi_ne (by decide)]; exact h.2.1
    · rw [gi_ne (by decide)]; exact h.2.2.1
    · rw [gi_ne (by decide)]; exact h.2.2.2
  rw [if_neg c, if_neg c, ck_t (by decide), ix_lit (by decide), lt_v, l2, l3]
  rcases g_in p (l := 0) (h := 30) (a := 0) (b := 30) (show (0 : Int64) = _ from rfl) (show (30 : Int64) = _ from rfl) rfl rfl (by omega) (by omega) with ⟨c1, c2⟩ | ⟨k, k1, k2, rfl, k4⟩
  · refine ⟨-2, s, s', ?_, by rw [c1, bd_s, if_pos rfl, bd_s, if_pos rfl], INV_mono h (by omega)⟩
    rcases c2 with c2 | ⟨c2, c3, c4⟩
    · simp only [c2, if_true, bd_s, Bool.false_eq_true, if_false]
    · simp only [c2, c3, if_true, bd_s, Bool.false_eq_true, if_false]
  rw [k4, bd_s, if_neg n10, if_neg (nj_nn (by omega)), if_neg (show ¬ (30 : Int32) < nI k by rw [nj_ltl (by decide) (by omega)]; omega)]
  rcases g_pers t3 t4 t1 w with ⟨a, b⟩ | ⟨q, hq, rfl, a, b⟩
  · refine ⟨-2, s, s', ?_, by rw [b, bd_s, if_pos rfl, bd_s, if_pos rfl], INV_mono h (by omega)⟩
    simp only [a, if_true, bd_s, Bool.false_eq_true, if_false]
  rw [a, b, bd_s, bd_s, if_neg n10, if_neg n10, in_ev x (l := -100) (h := 1000) (L := -100) (H := 1000) (by decide) rfl, bd_s]
  by_cases d1 : x < -100
  · refine ⟨-2, s, s', ?_, ?_, INV_mono h (by omega)⟩ <;> simp only [d1, if_true, bd_s, Bool.false_eq_true, if_false]
  by_cases d2 : 1000 < x
  · refine ⟨-2, s, s', ?_, ?_, INV_mono h (by omega)⟩ <;> simp only [d1, d2, if_true, bd_s, Bool.false_eq_true, if_false]
  by_cases d3 : nl = 10
  · subst d3
    refine ⟨-2, s, s', ?_, ?_, INV_mono h (by omega)⟩ <;> simp (disch := omega) only [d1, d2, nj_le_t, nj_le_f, nj_lel_t, nj_lel_f, nj_ler_t, nj_ler_f, nj_lt_t, nj_lt_f, nj_ltl_t, nj_ltl_f, nj_ltr_t, nj_ltr_f, nj_eq_t, nj_eq_f, nj_eqr_t, nj_eqr_f, nj_m1, nj_m2, if_true, bd_s, Bool.false_eq_true, if_false, i10]
  have i10' : ¬ (1 : Int32) = 0 := by decide
  refine ⟨nI (nl + 1), si (si (si (si s 27 (nl * 3) (nI k)) 27 (nl * 3 + 1) (nI q)) 27 (nl * 3 + 2) x) 17 4 (nI (nl + 1)), si (si (si (si s' 13 nl (nI k)) 14 nl (nI q)) 15 nl x) 1 10 (nI (nl + 1)), ?_, ?_, ?_, ?_, ?_, ?_⟩
  · unfold fX10_addLog_17
    simp (disch := omega) only [d1, d2, l2, ↓ite_bind, ↓ck_bind, ↓lt_bind, ↓Option.bind_assoc, ↓bd_s, ↓lt_v, ↓ck_v, ↓reduceIte, Bool.false_eq_true, Bool.true_eq_false, nj_add, nj_addl, nj_addr, nj_mull, nj_mulr, nj_subr, nj_pred, ix_nI, ix_lit, inb_t, inb_l, nj_le_t, nj_le_f, nj_lel_t, nj_lel_f, nj_ler_t, nj_ler_f, nj_lt_t, nj_lt_f, nj_ltl_t, nj_ltl_f, nj_ltr_t, nj_ltr_f, nj_eq_t, nj_eq_f, nj_eqr_t, nj_eqr_f, nj_m1, nj_m2, gi_si, gi_sl, gl_si, gl_sl, gi_sAr, gl_sAr, mr_si, mr_sl, mr_sm, gi_sm, gl_sm, mr_sAr, Nat.reduceEqDiff, if_true, bd_s, i10, if_false]
  · simp (disch := omega) only [d1, d2, l3, ↓ite_bind, ↓ck_bind, ↓lt_bind, ↓Option.bind_assoc, ↓bd_s, ↓lt_v, ↓ck_v, ↓reduceIte, Bool.false_eq_true, Bool.true_eq_false, nj_add, nj_addl, nj_addr, nj_mull, nj_mulr, nj_subr, nj_pred, ix_nI, ix_lit, inb_t, inb_l, nj_le_t, nj_le_f, nj_lel_t, nj_lel_f, nj_ler_t, nj_ler_f, nj_lt_t, nj_lt_f, nj_ltl_t, nj_ltl_f, nj_ltr_t, nj_ltr_f, nj_eq_t, nj_eq_f, nj_eqr_t, nj_eqr_f, nj_m1, nj_m2, gi_si, gi_sl, gl_si, gl_sl, gi_sAr, gl_sAr, mr_si, mr_sl, mr_sm, gi_sm, gl_sm, mr_sAr, Nat.reduceEqDiff, if_true, bd_s, i10, if_false]
  · have g : ∀ a j, ¬ (a = 27 ∧ nl * 3 ≤ j ∧ j ≤ nl * 3 + 2) → ¬ (a = 17 ∧ j = 4) → gi (si (si (si (si s 27 (nl * 3) (nI k)) 27 (nl * 3 + 1) (nI q)) 27 (nl * 3 + 2) x) 17 4 (nI (nl + 1))) a j = gi s a j := fun a j h1 h2 => by
      rw [si_x _ _ (by omega), si_x _ _ (by omega), si_x _ _ (by omega), si_x _ _ (by omega)]
    have v : ∀ a j, ¬ ((a = 13 ∨ a = 14 ∨ a = 15) ∧ j = nl) → ¬ (a = 1 ∧ j = 10) → gi (si (si (si (si s' 13 nl (nI k)) 14 nl (nI q)) 15 nl x) 1 10 (nI (nl + 1))) a j = gi s' a j := fun a j h1 h2 => by
      rw [si_x _ _ (by omega), si_x _ _ (by omega), si_x _ _ (by omega), si_x _ _ (by omega)]
    refine IN0_w h.1 (by omega) (fun q => TpR_eq q (g _ _ (by omega) (by omega)) (fun j => g _ _ (by omega) (by omega)) (v _ _ (by omega) (by omega)) (fun j => v _ _ (by omega) (by omega))) (v _ _ (by omega) (by omega)) (fun a j ha => g a j (by omega) (by omega)) (g _ _ (by omega) (by omega)) (v _ _ (by omega) (by omega)) (fun a j ha => v a j (by omega) (by omega)) (fun R2 q1 q2 q3 hw => ?_)
    obtain ⟨np, nm, e1, e2, e3, e4, e5, e6, e7, e8⟩ := hw
    have el : LVf (gi (si (si (si (si s' 13 nl (nI k)) 14 nl (nI q)) 15 nl x) 1 10 (nI (nl + 1)))) = LVf (gi s') := by
      rw [LVf_lv, LVf_lv, lv_si_o _ (by omega), lv_si_o _ (by omega), lv_si_o _ (by omega), lv_si_o _ (by omega)]
    refine ⟨np, nm, TwR_eq e1 (fun a j _ _ => g _ _ (by omega) (by omega)) (fun a j _ => v _ _ (by omega) (by omega)), ?_, by rw [el]; exact SB_mono e3 (by omega), by rw [g _ _ (by omega) (by omega), v _ _ (by omega) (by omega)]; exact e4, by rw [v _ _ (by omega) (by omega)]; exact e5, by rw [g _ _ (by omega) (by omega), v _ _ (by omega) (by omega)]; exact e6, ⟨nl + 1, by omega, gi_same _ _ _ _, gi_same _ _ _ _, fun i hi => ?_⟩, AcR_eq e8 (by omega) (g _ _ (by omega) (by omega)) (g _ _ (by omega) (by omega)) (v _ _ (by omega) (by omega)) (fun j => g _ _ (by omega) (by omega)) (fun j => v _ _ (by omega) (by omega))⟩
    · rw [el]; intro j hj; rw [g _ _ (by omega) (by omega)]; exact e2 j hj
    · by_cases e : i = nl
      · subst e
        simp (disch := omega) only [gi_si, Nat.reduceEqDiff, Nat.reduceAdd, if_true, if_false, show 3 * i = i * 3 by omega]
        rw [if_neg (by omega), if_neg (by omega), if_neg (by omega)]
        exact ⟨by first | trivial | rfl, by first | trivial | rfl, by first | trivial | rfl, k, k2, rfl⟩
      · rw [g _ _ (by omega) (by omega), g _ _ (by omega) (by omega), g _ _ (by omega) (by omega), v _ _ (by omega) (by omega), v _ _ (by omega) (by omega), v _ _ (by omega) (by omega)]
        exact l4 i (by omega)
  · rw [si_x _ _ (by omega), si_x _ _ (by omega), si_x _ _ (by omega), si_x _ _ (by omega)]; exact h.2.1
  · rw [si_x _ _ (by omega), si_x _ _ (by omega), si_x _ _ (by omega), si_x _ _ (by omega)]; exact h.2.2.1
  · rw [si_x _ _ (by omega), si_x _ _ (by omega), si_x _ _ (by omega), si_x _ _ (by omega)]; exact h.2.2.2
theorem b255 {i : Nat} (h : i < 8) : (255#32).getLsbD i = true := by
  have : i = 0 ∨ i = 1 ∨ i = 2 ∨ i = 3 ∨ i = 4 ∨ i = 5 ∨ i = 6 ∨ i = 7 := by omega
  rcases this with rfl | rfl | rfl | rfl | rfl | rfl | rfl | rfl <;> rfl
theorem byte_eq (A : BitVec 32) {n : Nat} (h : n ≤ 24) : (A.sshiftRight n).setWidth 8 = ((A >>> n) &&& 255#32).setWidth 8 := by
  apply BitVec.eq_of_getLsbD_eq
  intro i hi
  have h1 : n + i < 32 := by omega
  have h2 := b255 hi
  simp only [BitVec.getLsbD_setWidth, BitVec.getLsbD_sshiftRight, BitVec.getLsbD_and, BitVec.getLsbD_ushiftRight, h2, Bool.and_true]
  simp [h1, hi]
  omega
theorem byt (x : Int32) {y : Int32} {n : Nat} (hn : n ≤ 24) (h1 : (y &&& 31).toBitVec.smod 32 = BitVec.ofNat 32 n) (h2 : (Int32.toUInt32 y &&& Int32.toUInt32 31).toBitVec % 32 = BitVec.ofNat 32 n) :
    ∃ b, b < 256 ∧ (((Int32.toUInt32 x >>> (Int32.toUInt32 y &&& Int32.toUInt32 31)).toInt32) &&& 255) = nI b ∧ ((x >>> (y &&& 31)).toInt8.toInt32).toInt8.toInt32 = (nI b).toInt8.toInt32 := by
  have hN : (BitVec.ofNat 32 n).toNat = n := by rw [BitVec.toNat_ofNat]; omega
  refine ⟨((x.toBitVec >>> n) &&& 255#32).toNat, ?_, ?_, ?_⟩
  · rw [BitVec.toNat_and]
    exact Nat.lt_of_le_of_lt Nat.and_le_right (by decide)
  · apply Int32.toBitVec_inj.mp
    rw [Int32.toBitVec_and, nj_bv, BitVec.ofNat_toNat, BitVec.setWidth_eq]
    show (Int32.toUInt32 x >>> (Int32.toUInt32 y &&& Int32.toUInt32 31)).toBitVec &&& 255#32 = _
    rw [UInt32.toBitVec_shiftRight, h2, BitVec.ushiftRight_eq', hN]
    rfl
  · rw [Int8.toInt8_toInt32]
    congr 1
    apply Int8.toBitVec_inj.mp
    rw [Int32.toBitVec_toInt8, Int32.toBitVec_toInt8, nj_bv, BitVec.ofNat_toNat, BitVec.setWidth_eq, BitVec.signExtend_eq_setWidth_of_le _ (by decide), BitVec.signExtend_eq_setWidth_of_le _ (by decide), ← byte_eq _ hn, Int32.toBitVec_shiftRight, h1, BitVec.sshiftRight_eq', hN]
def shv (k : Nat) : Int32 := match k with
  | 0 => -8
  | k + 1 => nI (8 * k)
theorem shv_s {k : Nat} (h : k ≤ 3) : shv (k + 1) + (-8) = shv k := by
  have : k = 0 ∨ k = 1 ∨ k = 2 ∨ k = 3 := by omega
  rcases this with rfl | rfl | rfl | rfl <;> decide
theorem shv_n {k : Nat} (h : k ≤ 3) : ¬ shv (k + 1) < 0 := by
  have : k = 0 ∨ k = 1 ∨ k = 2 ∨ k = 3 := by omega
  rcases this with rfl | rfl | rfl | rfl <;> decide
theorem shv_b (x : Int32) {k : Nat} (h : k ≤ 3) : ∃ b, b < 256 ∧ (((Int32.toUInt32 x >>> (Int32.toUInt32 (shv (k + 1)) &&& Int32.toUInt32 31)).toInt32) &&& 255) = nI b ∧ ((x >>> (shv (k + 1) &&& 31)).toInt8.toInt32).toInt8.toInt32 = (nI b).toInt8.toInt32 := by
  have : k = 0 ∨ k = 1 ∨ k = 2 ∨ k = 3 := by omega
  rcases this with rfl | rfl | rfl | rfl
  · exact byt x (n := 0) (by omega) (by decide) (by decide)
  · exact byt x (n := 8) (by omega) (by decide) (by decide)
  · exact byt x (n := 16) (by omega) (by decide) (by decide)
  · exact byt x (n := 24) (by omega) (by decide) (by decide)
def TpN (C V : Vw) (n : Nat) : Prop := C 1 1 = nI n ∧ V 0 26 = nI n ∧ ∀ i, i < n → ∃ b, b < 256 ∧ C 2 i = nI b ∧ V 26 i = (nI b).toInt8.toInt32
def FrC (s z : ST) : Prop := ∀ a j, ¬ (a = 1 ∧ j = 1) → a ≠ 2 → gi z a j = gi s a j
def FrV (s z : ST) : Prop := ∀ a j, ¬ (a = 0 ∧ j = 26) → a ≠ 26 → gi z a j = gi s a j
theorem put_L (x : Int32) : ∀ (k n f f' : Nat) (s s' : ST), k ≤ 4 → n + k ≤ 400 → k < f → k < f' → TpN (gi s) (gi s') n →
    ∃ z z', fX6_append_L3 x f (shv k) s = some (-8, z) ∧ fX12_put_L3 x f' (shv k) s' = some (-8, z') ∧ TpN (gi z) (gi z') (n + k) ∧ FrC s z ∧ FrV s' z' := by
  intro k
  induction k with
  | zero =>
    intro n f f' s s' hk hn hf hf' h
    obtain ⟨f, rfl⟩ : ∃ m, f = m + 1 := ⟨f - 1, by omega⟩
    obtain ⟨f', rfl⟩ : ∃ m, f' = m + 1 := ⟨f' - 1, by omega⟩
    refine ⟨s, s', ?_, ?_, h, fun _ _ _ _ => rfl, fun _ _ _ _ => rfl⟩
    · rw [fX6_append_L3, if_pos (show shv 0 < 0 by decide), bd_s, if_neg (by decide)]; rfl
    · rw [fX12_put_L3, if_pos (show shv 0 < 0 by decide)]; rfl
  | succ k ih =>
    intro n f f' s s' hk hn hf hf' h
    obtain ⟨f, rfl⟩ : ∃ m, f = m + 1 := ⟨f - 1, by omega⟩
    obtain ⟨f', rfl⟩ : ∃ m, f' = m + 1 := ⟨f' - 1, by omega⟩
    obtain ⟨h1, h2, h3⟩ := h
    obtain ⟨b, b1, b2, b3⟩ := shv_b x (k := k) (by omega)
    have hk3 := shv_n (k := k) (by omega)
    obtain ⟨z, z', a1, a2, a3, a4, a5⟩ := ih (n + 1) f f' (si (si s 2 n (nI b)) 1 1 (nI (n + 1))) (si (si s' 26 n ((nI b).toInt8.toInt32)) 0 26 (nI (n + 1))) (by omega) (by omega) (by omega) (by omega) ⟨gi_same _ _ _ _, gi_same _ _ _ _, fun i hi => by
      rw [gi_ne (show (2 : Nat) ≠ 1 by decide), gi_ne (show (26 : Nat) ≠ 0 by decide), gi_si, if_pos rfl, gi_si, if_pos rfl]
      by_cases e : i = n
      · rw [if_pos e, if_pos e]; exact ⟨b, b1, rfl, rfl⟩
      · rw [if_neg e, if_neg e]; exact h3 i (by omega)⟩
    refine ⟨z, z', ?_, ?_, by rw [show n + (k + 1) = n + 1 + k by omega]; exact a3, fun a j e1 e2 => by rw [a4 a j e1 e2, si_x _ _ (by omega), si_x _ _ (by omega)], fun a j e1 e2 => by rw [a5 a j e1 e2, si_x _ _ (by omega), si_x _ _ (by omega)]⟩
    · rw [fX6_append_L3]
      simp (disch := omega) only [↓ite_bind, ↓ck_bind, ↓lt_bind, ↓Option.bind_assoc, ↓bd_s, ↓lt_v, ↓ck_v, ↓reduceIte, Bool.false_eq_true, Bool.true_eq_false, nj_add, nj_addl, nj_addr, nj_mull, nj_mulr, nj_subr, nj_pred, ix_nI, ix_lit, inb_t, inb_l, nj_le_t, nj_le_f, nj_lel_t, nj_lel_f, nj_ler_t, nj_ler_f, nj_lt_t, nj_lt_f, nj_ltl_t, nj_ltl_f, nj_ltr_t, nj_ltr_f, nj_eq_t, nj_eq_f, nj_eqr_t, nj_eqr_f, nj_m1, nj_m2, gi_si, gi_sl, gl_si, gl_sl, gi_sAr, gl_sAr, mr_si, mr_sl, mr_sm, gi_sm, gl_sm, mr_sAr, Nat.reduceEqDiff, hk3, h1, b2, shv_s, if_true, if_false]
      exact a1
    · rw [fX12_put_L3]
      simp (disch := omega) only [↓ite_bind, ↓ck_bind, ↓lt_bind, ↓Option.bind_assoc, ↓bd_s, ↓lt_v, ↓ck_v, ↓reduceIte, Bool.false_eq_true, Bool.true_eq_false, nj_add, nj_addl, nj_addr, nj_mull, nj_mulr, nj_subr, nj_pred, ix_nI, ix_lit, inb_t, inb_l, nj_le_t, nj_le_f, nj_lel_t, nj_lel_f, nj_ler_t, nj_ler_f, nj_lt_t, nj_lt_f, nj_ltl_t, nj_ltl_f, nj_ltr_t, nj_ltr_f, nj_eq_t, nj_eq_f, nj_eqr_t, nj_eqr_f, nj_m1, nj_m2, gi_si, gi_sl, gl_si, gl_sl, gi_sAr, gl_sAr, mr_si, mr_sl, mr_sm, gi_sm, gl_sm, mr_sAr, Nat.reduceEqDiff, hk3, h2, b3, shv_s, if_true, if_false]
      exact a2
theorem put_ev (x : Int32) {n : Nat} {s s' : ST} (hn : n + 4 ≤ 400) (h : TpN (gi s) (gi s') n) : ∃ z z', fX6_append x s = some z ∧ fX12_put x s' = some z' ∧ TpN (gi z) (gi z') (n + 4) ∧ FrC s z ∧ FrV s' z' := by
  obtain ⟨z, z', a1, a2, a3⟩ := put_L x 4 n FUEL FUEL s s' (by omega) hn (by rw [FUEL_eq]; omega) (by rw [FUEL_eq]; omega) h
  refine ⟨z, z', ?_, ?_, a3⟩
  · unfold fX6_append
    rw [show fX6_append_L3 x FUEL 24 s = fX6_append_L3 x FUEL (shv 4) s from rfl, a1, bd_s]
  · unfold fX12_put
    rw [show fX12_put_L3 x FUEL 24 s' = fX12_put_L3 x FUEL (shv 4) s' from rfl, a2, bd_s]
theorem feed_ok {t : PH} {s s' : ST} {d : Nat} (h : INV t s s' d) (p1 p2 p3 p4 p5 : Int32) : A2 t (d + 1) (fX11_feed p1 p2 p3 p4 p5 s) (fX12_feed p1 p2 p3 p4 p5 s') := by
  obtain ⟨n, n1, n2, n3, n4⟩ := h.1.1
  unfold fX11_feed fX12_feed
  rw [n2, n3, nj_addr]
  by_cases c : n + 20 ≤ 400
  · obtain ⟨z1, y1, a1, b1, c1, d1, e1⟩ := put_ev p1 (n := n) (by omega) ⟨n2, n3, n4⟩
    obtain ⟨z2, y2, a2, b2, c2, d2, e2⟩ := put_ev p2 (n := n + 4) (by omega) c1
    obtain ⟨z3, y3, a3, b3, c3, d3, e3⟩ := put_ev p3 (n := n + 4 + 4) (by omega) c2
    obtain ⟨z4, y4, a4, b4, c4, d4, e4⟩ := put_ev p4 (n := n + 4 + 4 + 4) (by omega) c3
    obtain ⟨z5, y5, a5, b5, c5, d5, e5⟩ := put_ev p5 (n := n + 4 + 4 + 4 + 4) (by omega) c4
    have g : FrC s z5 := fun a j h1 h2 => by rw [d5 a j h1 h2, d4 a j h1 h2, d3 a j h1 h2, d2 a j h1 h2, d1 a j h1 h2]
    have v : FrV s' y5 := fun a j h1 h2 => by rw [e5 a j h1 h2, e4 a j h1 h2, e3 a j h1 h2, e2 a j h1 h2, e1 a j h1 h2]
    have hc : nI (n + 20) ≤ 400 := by rw [nj_ler (by omega) (by decide)]; exact c
    refine ⟨nI (n + 4 + 4 + 4 + 4 + 4), z5, y5, ?_, ?_, ?_, ?_, ?_, ?_⟩
    · rw [if_pos hc, a1, bd_s, a2, bd_s, a3, bd_s, a4, bd_s, a5, bd_s, c5.1]
    · rw [if_pos hc, b1, bd_s, b2, bd_s, b3, bd_s, b4, bd_s, b5, bd_s, c5.2.1]
    · refine IN0_w h.1 (by omega) (fun _ => ⟨_, by omega, c5⟩) (v _ _ (by omega) (by omega)) (fun a j ha => g a j (by omega) (by omega)) (g _ _ (by omega) (by omega)) (v _ _ (by omega) (by omega)) (fun a j ha => v a j (by omega) (by omega)) (fun R _ _ _ hw => ?_)
      exact WhR_eq (EqW_row (fun i hi => funext (fun j => g _ _ (by omega) (by omega)))) ⟨fun j _ => v _ _ (by omega) (by omega), fun j _ => v _ _ (by omega) (by omega), fun j _ => v _ _ (by omega) (by omega), fun j _ => v _ _ (by omega) (by omega), fun j _ => v _ _ (by omega) (by omega), fun j _ => v _ _ (by omega) (by omega), fun j _ => v _ _ (by omega) (by omega), fun j _ => v _ _ (by omega) (by omega), fun j _ => v _ _ (by omega) (by omega), fun j _ => v _ _ (by omega) (by omega), fun j _ => v _ _ (by omega) (by omega), fun j _ => v _ _ (by omega) (by omega), fun j _ => v _ _ (by omega) (by omega), fun j _ => v _ _ (by omega) (by omega), fun j _ => v _ _ (by omega) (by omega), fun j _ => v _ _ (by omega) (by omega), fun j _ => v _ _ (by omega) (by omega), fun j _ => v _ _ (by omega) (by omega), fun j _ => v _ _ (by omega) (by omega)⟩ (v _ _ (by omega) (by omega)) (Nat.le_refl _) (by omega) hw
    · rw [v _ _ (by omega) (by omega)]; exact h.2.1
    · rw [v _ _ (by omega) (by omega)]; exact h.2.2.1
    · rw [v _ _ (by omega) (by omega)]; exact h.2.2.2
  · have hc : ¬ nI (n + 20) ≤ 400 := by rw [nj_ler (by omega) (by decide)]; exact c
    exact ⟨-1, s, s', by rw [if_neg hc], by rw [if_neg hc], INV_mono h (by omega)⟩
