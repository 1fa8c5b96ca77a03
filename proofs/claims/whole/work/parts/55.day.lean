/-! reading behind writing, one step each -/
theorem gi_same (s : ST) (a j : Nat) (x : Int32) : gi (si s a j x) a j = x := by rw [gi_si, if_pos rfl, if_pos rfl]
theorem gi_dif {s : ST} {a j k : Nat} {x : Int32} (h : k ≠ j) : gi (si s a j x) a k = gi s a k := by rw [gi_si, if_pos rfl, if_neg h]
theorem gi_ne {s : ST} {a b j k : Nat} {x : Int32} (h : b ≠ a) : gi (si s a j x) b k = gi s b k := by rw [gi_si, if_neg h]
theorem gl_same (s : ST) (a j : Nat) (x : Int64) : gl (sl s a j x) a j = x := by rw [gl_sl, if_pos rfl, if_pos rfl]
theorem gl_dif {s : ST} {a j k : Nat} {x : Int64} (h : k ≠ j) : gl (sl s a j x) a k = gl s a k := by rw [gl_sl, if_pos rfl, if_neg h]
theorem gl_ne {s : ST} {a b j k : Nat} {x : Int64} (h : b ≠ a) : gl (sl s a j x) b k = gl s b k := by rw [gl_sl, if_neg h]
/-! A DAY, BY BOTH -/
/-- what does not change on a day -/
def DRp (t : PH) (C : Nat → Nat → Int32) (g : Nat → Option Nat) (V : Nat → Nat → Int32) (np nm : Nat) : Prop :=
  np ≤ 5 ∧ nm ≤ 8 ∧ g 0 = some 18 ∧ C 18 7 = nI np ∧ V 1 3 = nI np ∧ C 18 8 = nI nm ∧ V 1 4 = nI nm ∧
  C 30 7 = V 1 0 ∧ C 30 8 = V 1 1 ∧ C 18 3 = V 1 2 ∧ (0 ≤ V 1 2 ∧ V 1 2 ≤ 99) ∧ (0 < nm → C 18 4 = V 1 5 ∧ C 18 5 = V 1 6 ∧ (0 ≤ V 1 5 ∧ V 1 5 ≤ 9) ∧ 0 ≤ V 1 6 ∧ V 1 6 ≤ 9) ∧
  (∀ q, q < np → C 41 q = V 2 q ∧ -20 ≤ V 2 q ∧ V 2 q ≤ 60) ∧
  (∀ m, m < nm → ∃ a b, a < np ∧ b < np ∧ a ≠ b ∧ C 21 m = nI a ∧ V 7 m = nI a ∧ C 22 m = nI b ∧ V 8 m = nI b ∧ C 24 m = V 10 m ∧ 1 ≤ V 10 m ∧ V 10 m ≤ 60) ∧
  C 30 9 = V 0 56 ∧ C 30 10 = V 0 57 ∧ (V 0 57 ≠ -1 → C 30 11 = V 0 58 ∧ C 30 12 = V 0 59 ∧ (0 ≤ V 0 58 ∧ V 0 58 ≤ 60) ∧ 0 ≤ V 0 59 ∧ V 0 59 ≤ 60) ∧
  C 30 13 = V 0 63 ∧ ((g 1 = none ∧ V 1 12 = -1) ∨ ∃ q r, g 1 = some q ∧ V 1 12 = nI r ∧ RlS t C V q r)
/-- the class's words are changed, nothing else of ints -/
def FC (s s2 : ST) : Prop := (∀ x, x ≠ 42 → s2.1 x = s.1 x) ∧ s2.2.2 = s.2.2
theorem FC.gi {s s2 : ST} (h : FC s s2) {a : Nat} (ha : a ≠ 42) (j : Nat) : gi s2 a j = gi s a j := by unfold Pilot.CLateAlwaysLaw_law_r2871_b4f2b9.gi; rw [h.1 a ha]
theorem FC.mr {s s2 : ST} (h : FC s s2) (j : Nat) : mr s2 j = mr s j := by unfold Pilot.CLateAlwaysLaw_law_r2871_b4f2b9.mr; rw [h.2]
theorem FC.kC {s s2 : ST} (h : FC s s2) : kC s2 = kC s := by
  funext a j
  unfold Pilot.CLateAlwaysLaw_law_r2871_b4f2b9.kC
  by_cases e : a = 42
  · subst e; have h42 : chC 42 j = true := rfl
    rw [h42]; rfl
  · rw [h.gi e]
theorem hasx (x q : Int32) (s : ST) : fX12_has x q s = some (if ((x >>> (q &&& 31)) &&& 1) = 1 then 1 else 0) := by
  unfold fX12_has
  by_cases h : ((x >>> (q &&& 31)) &&& 1) = 1
  · simp only [h, if_true]; rfl
  · simp only [h, if_false]; rfl
theorem exx (q : Int32) (s : ST) : fX5_isExempt_31 q s = some (if ((gi s 32 44 >>> (q &&& 31)) &&& 1) = 1 then 1 else 0) := by
  unfold fX5_isExempt_31
  rw [show ix 44 = 44 from rfl]
  by_cases h : ((gi s 32 44 >>> (q &&& 31)) &&& 1) = 1
  · simp only [h, if_true]; rfl
  · simp only [h, if_false]; rfl
theorem i10 : ((1 : Int32) = 0) = False := eq_false (by decide)
theorem i00 : ((0 : Int32) = 0) = True := eq_true rfl
theorem nq42 {q k : Nat} (h : 48 ≤ q) : ((q + k) = 42) = False := eq_false (by omega)
theorem omS {α : Type} {o : Option Nat} {a : Option α} {k : Nat → Option α} {q : Nat} (h : o = some q) : om o a k = k q := by rw [h]; exact id (Eq.refl _)
theorem omN {α : Type} {o : Option Nat} {a : Option α} {k : Nat → Option α} (h : o = none) : om o a k = a := by rw [h]; exact id (Eq.refl _)
def wdC (s : ST) (a b m : Nat) (w : Int32) : ST := si (si (si (si (si (si (si (si (si (si (si (si (si (si s 42 0 (nI a)) 42 1 (nI m)) 42 2 (gi s 32 (20 + m))) 42 3 (gi s 41 a)) 42 4 (gi s 30 7)) 42 5 (gi s 30 8)) 42 6 (nI b)) 42 7 (gi s 32 (5 + b))) 42 8 (gi s 32 (5 + a))) 42 9 (gi s 32 (10 + a))) 42 10 (gi s 32 (15 + a))) 42 11 (gi s 32 45)) 42 12 (gi s 32 a)) 42 13 w
def wdM (s : ST) (a b m : Nat) (w : Int64) : ST := sl (sl (sl (sl (sl (sl (sl (sl (sl (sl (sl (sl (sl (sl s 34 0 ((nI a).toInt64)) 34 1 ((nI m).toInt64)) 34 2 ((gi s 9 m).toInt64)) 34 3 ((gi s 2 a).toInt64)) 34 4 ((gi s 1 0).toInt64)) 34 5 ((gi s 1 1).toInt64)) 34 6 ((nI b).toInt64)) 34 7 ((gi s 4 b).toInt64)) 34 8 ((gi s 4 a).toInt64)) 34 9 ((gi s 5 a).toInt64)) 34 10 ((gi s 6 a).toInt64)) 34 11 ((gi s 1 9).toInt64)) 34 12 ((gi s 3 a).toInt64)) 34 13 w
theorem meansC_ev {t : PH} {s z : ST} {q a b m : Nat} {w y : Int32} (g1 : mr s 1 = some q) (ha : a < 5) (hb : b < 5) (hm : m < 8) (r1 : isRl t q) (hw : w = 0 ∨ w = 1) (hwe : (if ((gi s 32 44 >>> (nI a &&& 31)) &&& 1) = 1 then (1 : Int32) else 0) = w)
    (d1 : fX2_minutesMeant_Rl_42_43 q t (wdC s a b m w) = some (y, z)) : fX0_minutesMeant (nI a) (nI b) (nI m) t s = some (y, z) := by
  unfold wdC at d1
  have r1 := decide_eq_true r1
  unfold fX0_minutesMeant
  rw [omS g1]
  rcases hw with rfl | rfl
  · simp (disch := omega) only [↓ite_bind, ↓ck_bind, ↓lt_bind, ↓Option.bind_assoc, ↓bd_s, ↓lt_v, ↓ck_v, ↓reduceIte, Bool.false_eq_true, Bool.true_eq_false, bd_s, nj_add, nj_addl, nj_addr, nj_mull, nj_mulr, nj_subr, nj_pred, ix_nI, ix_lit, inb_t, inb_l, gi_si, gi_sl, gl_si, gl_sl, gi_sAr, gl_sAr, mr_si, mr_sl, mr_sm, gi_sm, gl_sm, mr_sAr, Nat.reduceEqDiff, Nat.zero_add, exx, hwe, i00, i10, omS g1, r1, d1]
  · simp (disch := omega) only [↓ite_bind, ↓ck_bind, ↓lt_bind, ↓Option.bind_assoc, ↓bd_s, ↓lt_v, ↓ck_v, ↓reduceIte, Bool.false_eq_true, Bool.true_eq_false, bd_s, nj_add, nj_addl, nj_addr, nj_mull, nj_mulr, nj_subr, nj_pred, ix_nI, ix_lit, inb_t, inb_l, gi_si, gi_sl, gl_si, gl_sl, gi_sAr, gl_sAr, mr_si, mr_sl, mr_sm, gi_sm, gl_sm, mr_sAr, Nat.reduceEqDiff, Nat.zero_add, exx, hwe, i00, i10, omS g1, r1, d1]
theorem meansM_ev {s z : ST} {r a b m : Nat} {w : Int64} {y : Int64} (f1 : gi s 1 12 = nI r) (ha : a < 5) (hb : b < 5) (hba : b ≠ a) (hm : m < 8) (hr : r < 6)
    (h7 : (gi s 7 m = nI a ∧ gi s 8 m = nI b) ∨ (gi s 7 m = nI b ∧ gi s 8 m = nI a)) (hw : (w = 0 ∧ (if ((gi s 1 8 >>> (nI a &&& 31)) &&& 1) = 1 then (1 : Int32) else 0) = 0) ∨ (w = 1 ∧ (if ((gi s 1 8 >>> (nI a &&& 31)) &&& 1) = 1 then (1 : Int32) else 0) = 1))
    (d2 : fX12_meant (wdM s a b m w) = some (y, z)) : fX12_meansOf (nI a) (nI m) s = some (hl y, z) := by
  unfold wdM at d2
  unfold fX12_meansOf
  rcases h7 with ⟨h7, h8⟩ | ⟨h7, h8⟩
  · rcases hw with ⟨rfl, hwe⟩ | ⟨rfl, hwe⟩
    · simp (disch := omega) only [f1, ↓ite_bind, ↓ck_bind, ↓lt_bind, ↓Option.bind_assoc, ↓bd_s, ↓lt_v, ↓ck_v, ↓reduceIte, Bool.false_eq_true, Bool.true_eq_false, bd_s, nj_add, nj_addl, nj_addr, nj_mull, nj_mulr, nj_subr, nj_pred, ix_nI, ix_lit, inb_t, inb_l, nj_le_t, nj_le_f, nj_lel_t, nj_lel_f, nj_ler_t, nj_ler_f, nj_lt_t, nj_lt_f, nj_ltl_t, nj_ltl_f, nj_ltr_t, nj_ltr_f, nj_eq_t, nj_eq_f, nj_eqr_t, nj_eqr_f, nj_m1, nj_m2, gi_si, gi_sl, gl_si, gl_sl, gi_sAr, gl_sAr, mr_si, mr_sl, mr_sm, gi_sm, gl_sm, mr_sAr, Nat.reduceEqDiff, h7, h8, hasx, hwe, i00, i10, d2, hl_m]
    · simp (disch := omega) only [f1, ↓ite_bind, ↓ck_bind, ↓lt_bind, ↓Option.bind_assoc, ↓bd_s, ↓lt_v, ↓ck_v, ↓reduceIte, Bool.false_eq_true, Bool.true_eq_false, bd_s, nj_add, nj_addl, nj_addr, nj_mull, nj_mulr, nj_subr, nj_pred, ix_nI, ix_lit, inb_t, inb_l, nj_le_t, nj_le_f, nj_lel_t, nj_lel_f, nj_ler_t, nj_ler_f, nj_lt_t, nj_lt_f, nj_ltl_t, nj_ltl_f, nj_ltr_t, nj_ltr_f, nj_eq_t, nj_eq_f, nj_eqr_t, nj_eqr_f, nj_m1, nj_m2, gi_si, gi_sl, gl_si, gl_sl, gi_sAr, gl_sAr, mr_si, mr_sl, mr_sm, gi_sm, gl_sm, mr_sAr, Nat.reduceEqDiff, h7, h8, hasx, hwe, i00, i10, d2, hl_m]
  · rcases hw with ⟨rfl, hwe⟩ | ⟨rfl, hwe⟩
    · simp (disch := omega) only [f1, ↓ite_bind, ↓ck_bind, ↓lt_bind, ↓Option.bind_assoc, ↓bd_s, ↓lt_v, ↓ck_v, ↓reduceIte, Bool.false_eq_true, Bool.true_eq_false, bd_s, nj_add, nj_addl, nj_addr, nj_mull, nj_mulr, nj_subr, nj_pred, ix_nI, ix_lit, inb_t, inb_l, nj_le_t, nj_le_f, nj_lel_t, nj_lel_f, nj_ler_t, nj_ler_f, nj_lt_t, nj_lt_f, nj_ltl_t, nj_ltl_f, nj_ltr_t, nj_ltr_f, nj_eq_t, nj_eq_f, nj_eqr_t, nj_eqr_f, nj_m1, nj_m2, gi_si, gi_sl, gl_si, gl_sl, gi_sAr, gl_sAr, mr_si, mr_sl, mr_sm, gi_sm, gl_sm, mr_sAr, Nat.reduceEqDiff, h7, h8, hasx, hwe, i00, i10, d2, hl_m]
    · simp (disch := omega) only [f1, ↓ite_bind, ↓ck_bind, ↓lt_bind, ↓Option.bind_assoc, ↓bd_s, ↓lt_v, ↓ck_v, ↓reduceIte, Bool.false_eq_true, Bool.true_eq_false, bd_s, nj_add, nj_addl, nj_addr, nj_mull, nj_mulr, nj_subr, nj_pred, ix_nI, ix_lit, inb_t, inb_l, nj_le_t, nj_le_f, nj_lel_t, nj_lel_f, nj_ler_t, nj_ler_f, nj_lt_t, nj_lt_f, nj_ltl_t, nj_ltl_f, nj_ltr_t, nj_ltr_f, nj_eq_t, nj_eq_f, nj_eqr_t, nj_eqr_f, nj_m1, nj_m2, gi_si, gi_sl, gl_si, gl_sl, gi_sAr, gl_sAr, mr_si, mr_sl, mr_sm, gi_sm, gl_sm, mr_sAr, Nat.reduceEqDiff, h7, h8, hasx, hwe, i00, i10, d2, hl_m]
theorem wdC_gi {s : ST} {a b m x j : Nat} {w : Int32} (h : x ≠ 42) : gi (wdC s a b m w) x j = gi s x j := by
  unfold wdC; simp (disch := exact h) only [gi_ne]
theorem both_mean {t : PH} {s s' : ST} {np nm a b m : Nat} (hp : DRp t (kC s) (mr s) (kM s') np nm) (hs : SR np nm (s.1 32) (lv s')) (ha : a < np) (hb : b < np) (hab : a ≠ b) (hm : m < nm)
    (h7 : (gi s' 7 m = nI a ∧ gi s' 8 m = nI b) ∨ (gi s' 7 m = nI b ∧ gi s' 8 m = nI a)) :
    ∃ v s2 s2', fX0_minutesMeant (nI a) (nI b) (nI m) t s = some (v, s2) ∧ fX12_meansOf (nI a) (nI m) s' = some (v, s2') ∧ FC s s2 ∧ LL s' s2' ∧ -30 ≤ v ∧ v ≤ 120 := by
  obtain ⟨p1, p2, p3, p4, p5, p6, p7, p8, p9, p10, p11, p12, p13, p14, p15, p16, p17, p18, p19⟩ := hp
  rcases p19 with ⟨g1, f1⟩ | ⟨q, r, g1, f1, R⟩
  · have f1 : gi s' 1 12 = -1 := by rw [← kM_v rfl]; exact f1
    obtain ⟨c1, c2, c3⟩ := p13 a ha
    rw [kC_v rfl, kM_v rfl] at c1
    rw [kM_v rfl] at c2 c3
    refine ⟨gi s' 2 a, s, s', ?_, ?_, ⟨fun _ _ => rfl, rfl⟩, LL.rfl, by grind, by grind⟩
    · unfold fX0_minutesMeant
      rw [omN g1]
      simp (disch := omega) only [↓ite_bind, ↓ck_bind, ↓lt_bind, ↓Option.bind_assoc, ↓bd_s, ↓lt_v, ↓ck_v, ↓reduceIte, Bool.false_eq_true, Bool.true_eq_false, nj_add, nj_addl, nj_addr, nj_mull, nj_mulr, nj_subr, nj_pred, ix_nI, ix_lit, inb_t, inb_l, c1]
    · unfold fX12_meansOf
      simp (disch := omega) only [↓ite_bind, ↓ck_bind, ↓lt_bind, ↓Option.bind_assoc, ↓bd_s, ↓lt_v, ↓ck_v, ↓reduceIte, Bool.false_eq_true, Bool.true_eq_false, nj_add, nj_addl, nj_addr, nj_mull, nj_mulr, nj_subr, nj_pred, ix_nI, ix_lit, inb_t, inb_l, f1, hl_m]
      rw [hl_i _ (by grind) (by grind)]
  · have f1 : gi s' 1 12 = nI r := by rw [← kM_v rfl]; exact f1
    obtain ⟨r0, r1, r2, n, L, S, T, e, r3, r4, r5, r6, r7, r8, r9, r10, r11, r12⟩ := R
    have kq : ∀ z j, 48 ≤ z → kC s z j = gi s z j := fun z j hz => kC_v (chC_hi hz)
    simp only [kq q 0 r0, kq (q + 1) _ (by omega : 48 ≤ q + 1), kq (q + 2) _ (by omega : 48 ≤ q + 2), kq (q + 3) _ (by omega : 48 ≤ q + 3)] at r8 r10 r11 r12
    simp only [kM_v (show chM 29 r = false from rfl)] at r9
    have kM27 : ∀ j, kM s' 27 j = gi s' 27 j := fun j => kM_v rfl
    have kM28 : ∀ j, kM s' 28 j = gi s' 28 j := fun j => kM_v rfl
    have kM30 : ∀ j, kM s' 30 j = gi s' 30 j := fun j => kM_v rfl
    have kM31 : ∀ j, kM s' 31 j = gi s' 31 j := fun j => kM_v rfl
    have kM32 : ∀ j, kM s' 32 j = gi s' 32 j := fun j => kM_v rfl
    simp only [kM27, kM28, kM30, kM31, kM32] at r11 r12
    have v1 : gi s 41 a = gi s' 2 a := by have := (p13 a ha).1; rwa [kC_v rfl, kM_v rfl] at this
    have v2 : gi s 30 7 = gi s' 1 0 := by rwa [kC_v rfl, kM_v rfl] at p8
    have v3 : gi s 30 8 = gi s' 1 1 := by rwa [kC_v rfl, kM_v rfl] at p9
    have w0 : ∀ j, vis np nm j → gi s 32 j = lv s' j := hs
    have x1 : gi s 32 (20 + m) = gi s' 9 m := by rw [lv_minute _ (by omega)]; exact w0 _ (by unfold vis; omega)
    have x2 : gi s 32 (5 + b) = gi s' 4 b := by rw [lv_last _ (by omega)]; exact w0 _ (by unfold vis; omega)
    have x3 : gi s 32 (5 + a) = gi s' 4 a := by rw [lv_last _ (by omega)]; exact w0 _ (by unfold vis; omega)
    have x4 : gi s 32 (10 + a) = gi s' 5 a := by rw [lv_fined _ (by omega)]; exact w0 _ (by unfold vis; omega)
    have x5 : gi s 32 (15 + a) = gi s' 6 a := by rw [lv_waited _ (by omega)]; exact w0 _ (by unfold vis; omega)
    have x6 : gi s 32 45 = gi s' 1 9 := by rw [lv_day0]; exact w0 _ (by unfold vis; omega)
    have x7 : gi s 32 a = gi s' 3 a := by rw [lv_clock _ (by omega)]; exact w0 _ (by unfold vis; omega)
    have x8 : gi s 32 44 = gi s' 1 8 := by rw [lv_exempt]; exact w0 _ (by unfold vis; omega)
    obtain ⟨w, wl, hw01, hwe⟩ : ∃ (w : Int32) (wl : Int64), ((w = 0 ∧ wl = 0) ∨ (w = 1 ∧ wl = 1)) ∧ (if ((gi s' 1 8 >>> (nI a &&& 31)) &&& 1) = 1 then (1 : Int32) else 0) = w := by
      by_cases hx : ((gi s' 1 8 >>> (nI a &&& 31)) &&& 1) = 1
      · exact ⟨1, 1, Or.inr ⟨rfl, rfl⟩, if_pos hx⟩
      · exact ⟨0, 0, Or.inl ⟨rfl, rfl⟩, if_neg hx⟩
    have hwl : w.toInt64 = wl := by rcases hw01 with ⟨rfl, rfl⟩ | ⟨rfl, rfl⟩ <;> rfl
    have hba : b ≠ a := fun h => hab h.symm
    obtain ⟨y, z, z', d1, d2, d3, d4⟩ := meant_L (t := t) (q := q) (r := r) (n := n) (L := L) (S := S) (T := T) (e := e) r2 r3 r4 r5 r6 r7 n 0 FUEL FUEL
      (wdC s a b m w) (wdM s' a b m wl)
      (by omega) (by rw [FUEL_eq]; omega) (by rw [FUEL_eq]; omega)
      (by rw [wdC_gi (by omega)]; exact r8) r9
      (fun c hc => by rw [wdC_gi (by omega)]; exact r10 c hc)
      (fun c hc => by rw [wdC_gi (by omega)]; exact r11 c hc)
      (fun i hi => by rw [wdC_gi (by omega)]; exact r12 i hi)
      (by
        intro v hv
        unfold wdC wdM
        have : v = 0 ∨ v = 1 ∨ v = 2 ∨ v = 3 ∨ v = 4 ∨ v = 5 ∨ v = 6 ∨ v = 7 ∨ v = 8 ∨ v = 9 ∨ v = 10 ∨ v = 11 ∨ v = 12 ∨ v = 13 := by omega
        rcases this with rfl | rfl | rfl | rfl | rfl | rfl | rfl | rfl | rfl | rfl | rfl | rfl | rfl | rfl <;> simp (disch := omega) only [gl_same, gl_dif, gi_same, gi_dif, x1, x2, x3, x4, x5, x6, x7, v1, v2, v3, hwl])
    rw [Nat.add_zero] at d2
    have meantE : fX12_meant (wdM s' a b m wl) = fX12_meant_L13 (nI r) FUEL (nI (12 * r)) (wdM s' a b m wl) := by
      unfold fX12_meant
      rw [show ix 12 = 12 from rfl, show gi (wdM s' a b m wl) 1 12 = nI r from f1]
      simp (disch := omega) only [↓ite_bind, ↓ck_bind, ↓lt_bind, ↓Option.bind_assoc, ↓bd_s, ↓lt_v, ↓ck_v, ↓reduceIte, Bool.false_eq_true, Bool.true_eq_false, bd_s, nj_add, nj_addl, nj_addr, nj_mull, nj_mulr, nj_subr, nj_pred, ix_nI, ix_lit, inb_t, inb_l]
    refine ⟨hl y, z, z', ?_, ?_, ?_, ?_, (hl_b y).1, (hl_b y).2⟩
    · exact meansC_ev g1 (by omega) (by omega) (by omega) r1 (by rcases hw01 with ⟨h, -⟩ | ⟨h, -⟩; exact Or.inl h; exact Or.inr h) (by rw [x8]; exact hwe) d1
    · exact meansM_ev f1 (by omega) (by omega) hba (by omega) r2 h7 (by rcases hw01 with ⟨h, k⟩ | ⟨h, k⟩; exact Or.inl ⟨k, hwe.trans h⟩; exact Or.inr ⟨k, hwe.trans h⟩) (meantE.trans d2)
    · refine ⟨fun x hx => ?_, ?_⟩
      · rw [d3.1]
        funext j
        exact wdC_gi hx
      · rw [d3.2]; rfl
    · exact ⟨d4.1, d4.2⟩
