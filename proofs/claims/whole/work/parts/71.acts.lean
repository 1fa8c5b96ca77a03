/-! ACTS -/
theorem md20 {n : Nat} (h : n < 1000) : nI n - nI n / 20 * 20 = nI (n % 20) := by
  have e : nI n / 20 = nI (n / 20) := by
    apply Int32.toInt_inj.mp
    rw [nj_toInt (by omega), Int32.toInt_div_of_ne_right _ _ (by decide), nj_toInt (by omega)]
    show (n : Int).tdiv 20 = _
    rw [Int.tdiv_eq_ediv_of_nonneg (by omega)]
    omega
  rw [e, nj_mulr, nj_sub (by omega)]
  congr 1
  omega
/-- the states before acts, by both, with one more -/
theorem keep_both {s s' : ST} {np nm d : Nat} (h : AcR (gi s) (gi s') 17 np nm d (gi s' 0 66)) (hsr : SR np nm (gi s 26) (lv s')) (hsb : SB np nm d (lv s')) (hnp : np ≤ 5) (hnm : nm ≤ 8) :
    ∃ z z', fX10_rememberForUndo_17 s = some z ∧ fX12_keepsAct s' = some z' ∧ AcR (gi z) (gi z') 17 np nm d (gi z' 0 66) ∧ (∀ a j, a ≠ 28 → ¬ (a = 17 ∧ 7 ≤ j) → gi z a j = gi s a j) ∧ (∀ j, ¬ (66 ≤ j ∧ j ≤ 68) → gi z' 0 j = gi s' 0 j) ∧ (∀ x j, x ≠ 0 → x ≠ 46 → gi z' x j = gi s' x j) ∧ z.2.2 = s.2.2 := by
  obtain ⟨na, ap, a1, a2, a3, a4, a5, a6⟩ := h
  have cb : cpB 0 (nI (ap * 46)) 46 46 920 = true := by
    unfold cpB
    refine decide_eq_true ⟨by decide, nj_nn (by omega), by decide, by decide, ?_⟩
    rw [nI_clamp (by omega)]
    show ap * 46 + 46 ≤ 920
    omega
  obtain ⟨z, hz⟩ : ∃ z, si (si (sAr s 28 (va_cpy (s.1 26) (s.1 28) 0 (ap * 46) 46)) 17 7 (nI ((ap + 1) % 20))) 17 8 (imn 20 (nI (na + 1))) = z := ⟨_, rfl⟩
  have z28 : ∀ j, gi z 28 j = if ap * 46 ≤ j ∧ j < ap * 46 + 46 then gi s 26 (j - ap * 46) else gi s 28 j := fun j => by
    rw [← hz, gi_ne (by decide), gi_ne (by decide), gi_sAr, if_pos rfl]
    show (if ap * 46 ≤ j ∧ j < ap * 46 + 46 then s.1 26 (0 + (j - ap * 46)) else s.1 28 j) = _
    rw [Nat.zero_add]; rfl
  have zo : ∀ a j, a ≠ 28 → ¬ (a = 17 ∧ 7 ≤ j) → gi z a j = gi s a j := fun a j h1 h2 => by
    rw [← hz, gi_si]
    by_cases e : a = 17
    · rw [if_pos e, if_neg (by omega), gi_dif (by omega), gi_sAr, if_neg (by decide), e]
    · rw [if_neg e, gi_ne e, gi_sAr, if_neg h1]
  have z7 : gi z 17 7 = nI ((ap + 1) % 20) := by rw [← hz, gi_dif (by decide), gi_same]
  have z8 : gi z 17 8 = imn 20 (nI (na + 1)) := by rw [← hz, gi_same]
  have hrem : fX10_rememberForUndo_17 s = some z := by
    unfold fX10_rememberForUndo_17
    rw [a5, nj_mulr, ck_t cb, lt_v, ix_lit (by decide), ix_nI (by omega), ix_lit (by decide), lt_v, lt_v]
    rw [show gi (sAr s 28 (va_cpy (s.1 26) (s.1 28) 0 (ap * 46) 46)) 17 7 = nI ap by rw [gi_sAr, if_neg (by decide)]; exact a5, nj_addr, md20 (by omega)]
    rw [show gi (si (sAr s 28 (va_cpy (s.1 26) (s.1 28) 0 (ap * 46) 46)) 17 7 (nI ((ap + 1) % 20))) 17 8 = nI na by rw [gi_dif (by decide), gi_sAr, if_neg (by decide)]; exact a3, nj_addr, hz]
  have hslot : ∀ (i : Nat), 1 ≤ i → i < 20 → ((ap + 1) % 20 + 19 - i) % 20 = (ap + 19 - (i - 1)) % 20 := by intro i h1 h2; omega
  have hslot0 : ((ap + 1) % 20 + 19 - 0) % 20 = ap := by omega
  by_cases c : na = 20
  · obtain ⟨w, w1, w2, w3, w4⟩ := shiftL 874 46 FUEL s' (by omega) (by omega) (by rw [FUEL_eq]; omega)
    obtain ⟨z', b1, b2, b3, b4, b5⟩ := movS (k := 19) (s := si w 0 66 (nI 19)) (by omega)
    have lw : lv (si w 0 66 (nI 19)) = lv s' := by
      rw [lv_si_o _ (by omega)]
      exact w4.lv (by decide) (by decide) (by decide) (by decide) (by decide) (by decide) (by decide) (by decide)
    refine ⟨z, si z' 0 66 (nI 20), hrem, ?_, ?_, zo, fun j hj => ?_, fun x j h1 h2 => ?_, ?_⟩
    · unfold fX12_keepsAct
      rw [a4, c, if_pos (show nI 20 = 20 from rfl), show fX12_keepsAct_L12 FUEL 46 s' = fX12_keepsAct_L12 FUEL (nI 46) s' from rfl, w1, bd_s, lt_v]
      rw [show gi w 0 66 = nI 20 by rw [w4.gi (by decide), a4, c], nj_subr (by omega), bd_s]
      rw [show gi (si w 0 66 (nI (20 - 1))) 0 66 = nI 19 from gi_same _ _ _ _, b1, bd_s, lt_v, b4 66 (by decide) (by decide), gi_same, nj_addr]
    · refine ⟨20, (ap + 1) % 20, by omega, by omega, by rw [z8, c]; decide, gi_same _ _ _ _, z7, fun i hi => ?_⟩
      have pz : ∀ k, PVf (gi (si z' 0 66 (nI 20))) k = PVf (gi z') k := fun k => funext (fun j => by unfold PVf; rw [gi_ne (by decide), gi_ne (by decide), gi_ne (by decide)])
      rw [pz]
      by_cases e : i = 0
      · subst e
        have hv : ∀ j, j < 46 → PVf (gi z') 19 j = lv s' j := fun j hj => by rw [b2 j hj, lw]
        refine ⟨fun j hj => ?_, SB_eq hsb hnp hnm hv⟩
        have hj46 : j < 46 := by unfold vis at hj; omega
        show gi z 28 _ = _
        rw [hslot0, z28, if_pos (by omega), hv j hj46, show 46 * ap + j - ap * 46 = j by omega]
        exact hsr j hj
      · obtain ⟨q1, q2⟩ := a6 (i - 1) (by omega)
        have hv : ∀ j, j < 46 → PVf (gi z') (20 - 1 - i) j = PVf (gi s') (na - 1 - (i - 1)) j := fun j hj => by
          have hb : ∀ x, x < 46 → gi z' 46 (46 * (20 - 1 - i) + x) = gi s' 46 (46 * (na - 1 - (i - 1)) + x) := fun x hx => by
            rw [b3 _ (by omega), gi_ne (by decide), w2 _ (by omega) (by omega), show 46 * (20 - 1 - i) + x + 46 = 46 * (na - 1 - (i - 1)) + x by omega]
          unfold PVf
          by_cases c8 : j = 44
          · rw [if_pos c8, if_pos c8]; exact hb 0 (by omega)
          rw [if_neg c8, if_neg c8]
          by_cases c9 : j = 45
          · rw [if_pos c9, if_pos c9]; exact hb 1 (by omega)
          · rw [if_neg c9, if_neg c9]; exact hb _ (by omega)
        refine ⟨fun j hj => ?_, SB_eq q2 hnp hnm hv⟩
        have hj46 : j < 46 := by unfold vis at hj; omega
        show gi z 28 _ = _
        rw [hslot i (by omega) (by omega), z28, if_neg (by omega), hv j hj46]
        exact q1 j hj
    · rw [gi_dif (by omega), b4 j (by omega) (by omega), gi_dif (by omega)]
      exact congrFun (w4.1 0 (by decide)) j
    · rw [gi_ne h1, b5 x j h1 h2, gi_ne h1]
      exact congrFun (w4.1 x (by simp only [List.mem_cons, List.not_mem_nil, or_false]; exact h2)) j
    · rw [← hz]; rfl
  · obtain ⟨z', b1, b2, b3, b4, b5⟩ := movS (k := na) (s := s') (by omega)
    refine ⟨z, si z' 0 66 (nI (na + 1)), hrem, ?_, ?_, zo, fun j hj => ?_, fun x j h1 h2 => ?_, ?_⟩
    · unfold fX12_keepsAct
      rw [a4, if_neg (show ¬ nI na = 20 by rw [nj_eqr (by omega) (by decide)]; exact c), bd_s, a4, b1, bd_s, lt_v, b4 66 (by decide) (by decide), a4, nj_addr]
    · refine ⟨na + 1, (ap + 1) % 20, by omega, by omega, ?_, gi_same _ _ _ _, z7, fun i hi => ?_⟩
      · rw [z8]; unfold imn
        by_cases e : na + 1 < 20
        · rw [if_pos (by rw [nj_ltr (by omega) (by decide)]; exact e)]
        · rw [if_neg (by rw [nj_ltr (by omega) (by decide)]; exact e), show na + 1 = 20 by omega]; rfl
      have pz : ∀ k, PVf (gi (si z' 0 66 (nI (na + 1)))) k = PVf (gi z') k := fun k => funext (fun j => by unfold PVf; rw [gi_ne (by decide), gi_ne (by decide), gi_ne (by decide)])
      rw [pz]
      by_cases e : i = 0
      · subst e
        have hv : ∀ j, j < 46 → PVf (gi z') (na + 1 - 1 - 0) j = lv s' j := fun j hj => by rw [show na + 1 - 1 - 0 = na by omega, b2 j hj]
        refine ⟨fun j hj => ?_, SB_eq hsb hnp hnm hv⟩
        have hj46 : j < 46 := by unfold vis at hj; omega
        show gi z 28 _ = _
        rw [hslot0, z28, if_pos (by omega), hv j hj46, show 46 * ap + j - ap * 46 = j by omega]
        exact hsr j hj
      · obtain ⟨q1, q2⟩ := a6 (i - 1) (by omega)
        have hv : ∀ j, j < 46 → PVf (gi z') (na + 1 - 1 - i) j = PVf (gi s') (na - 1 - (i - 1)) j := fun j hj => by
          have hb : ∀ x, x < 46 → gi z' 46 (46 * (na + 1 - 1 - i) + x) = gi s' 46 (46 * (na - 1 - (i - 1)) + x) := fun x hx => by
            rw [b3 _ (by omega), show 46 * (na + 1 - 1 - i) + x = 46 * (na - 1 - (i - 1)) + x by omega]
          unfold PVf
          by_cases c8 : j = 44
          · rw [if_pos c8, if_pos c8]; exact hb 0 (by omega)
          rw [if_neg c8, if_neg c8]
          by_cases c9 : j = 45
          · rw [if_pos c9, if_pos c9]; exact hb 1 (by omega)
          · rw [if_neg c9, if_neg c9]; exact hb _ (by omega)
        refine ⟨fun j hj => ?_, SB_eq q2 hnp hnm hv⟩
        have hj46 : j < 46 := by unfold vis at hj; omega
        show gi z 28 _ = _
        rw [hslot i (by omega) (by omega), z28, if_neg (by omega), hv j hj46]
        exact q1 j hj
    · rw [gi_dif (by omega), b4 j (by omega) (by omega)]
    · rw [gi_ne h1, b5 x j h1 h2]
    · rw [← hz]; rfl
/-- an act: one more state before, and other cells -/
theorem act_INV {t : PH} {s s' z z' w w' : ST} {d np nm R : Nat} (h : INV t s s' d) (hn : NW t s s' d np nm R)
    (k1 : AcR (gi z) (gi z') 17 np nm d (gi z' 0 66)) (k2 : ∀ a j, a ≠ 28 → ¬ (a = 17 ∧ 7 ≤ j) → gi z a j = gi s a j) (k3 : ∀ j, ¬ (66 ≤ j ∧ j ≤ 68) → gi z' 0 j = gi s' 0 j) (k4 : ∀ x j, x ≠ 0 → x ≠ 46 → gi z' x j = gi s' x j)
    (w1 : ∀ a j, a ≠ 26 → ¬ (30 ≤ a ∧ a ≤ 47) → gi w a j = gi z a j) (w2 : ∀ a j, ¬ (a = 0 ∧ (j = 67 ∨ j = 68)) → ¬ (a = 1 ∧ (j = 8 ∨ j = 9 ∨ j = 11)) → a ≠ 3 → a ≠ 4 → a ≠ 5 → a ≠ 6 → a ≠ 9 → a ≠ 11 → a ≠ 12 → scr a j = false → gi w' a j = gi z' a j) (w11 : gi w' 1 11 = gi z' 1 11)
    (wf : gi w' 0 56 = -1 ∧ gi w' 0 57 = -1 ∧ gi w' 0 63 = 0) (wsr : SR np nm (gi w 26) (lv w')) (wsb : SB np nm (d + 1) (lv w')) : INV t w w' (d + 1) := by
  have hw : ∀ a j, a ≠ 26 → a ≠ 28 → ¬ (30 ≤ a ∧ a ≤ 47) → ¬ (a = 17 ∧ 7 ≤ j) → gi w a j = gi s a j := fun a j h1 h2 h3 h4 => (w1 a j h1 h3).trans (k2 a j h2 h4)
  have hv : ∀ a j, ¬ (a = 1 ∧ (j = 8 ∨ j = 9 ∨ j = 11)) → a ≠ 3 → a ≠ 4 → a ≠ 5 → a ≠ 6 → a ≠ 9 → a ≠ 11 → a ≠ 12 → scr a j = false → ¬ (a = 0 ∧ 66 ≤ j ∧ j ≤ 68) → a ≠ 46 → gi w' a j = gi s' a j := fun a j e1 e3 e4 e5 e6 e9 e11 e12 es e0 e46 => by
    rw [w2 a j (by omega) e1 e3 e4 e5 e6 e9 e11 e12 es]
    by_cases e : a = 0
    · subst e; exact k3 j (by omega)
    · exact k4 a j e e46
  have sc : ∀ a j, a ≠ 0 → (a < 36 ∨ a = 46 ∨ a = 47 ∨ a = 55 ∨ (a = 54 ∧ j < 4800)) → scr a j = false := fun a j h1 h2 => by unfold scr; simp; omega
  refine ⟨IN0_w h.1 (by omega) (fun q => TpR_eq q (hw _ _ (by omega) (by omega) (by omega) (by omega)) (fun j => hw _ _ (by omega) (by omega) (by omega) (by omega)) (hv _ _ (by omega) (by omega) (by omega) (by omega) (by omega) (by omega) (by omega) (by omega) rfl (by omega) (by omega)) (fun j => hv _ _ (by omega) (by omega) (by omega) (by omega) (by omega) (by omega) (by omega) (by omega) (sc _ _ (by omega) (by omega)) (by omega) (by omega))) (hv _ _ (by omega) (by omega) (by omega) (by omega) (by omega) (by omega) (by omega) (by omega) rfl (by omega) (by omega)) (fun a j ha => hw a j (by omega) (by omega) (by omega) (by omega)) (hw _ _ (by omega) (by omega) (by omega) (by omega)) (hv _ _ (by omega) (by omega) (by omega) (by omega) (by omega) (by omega) (by omega) (by omega) rfl (by omega) (by omega)) (fun a j ha => hv a j (by omega) (by omega) (by omega) (by omega) (by omega) (by omega) (by omega) (by omega) (sc _ _ (by omega) (by omega)) (by omega) (by omega)) (fun R2 q1 q2 q3 hwh => ?_), wf.1, wf.2.1, wf.2.2⟩
  obtain ⟨e1, -, -, e4, e5, e6, r0, r1, -, -, e7⟩ := hn
  obtain rfl : R2 = R := by
    rw [r1] at q1
    rw [nj_eq (by omega) (by omega)] at q1; exact q1.symm
  refine ⟨np, nm, TwR_eq e1 (fun a j _ _ => hw _ _ (by omega) (by omega) (by omega) (by omega)) (fun a j ha => hv _ _ (by omega) (by omega) (by omega) (by omega) (by omega) (by omega) (by omega) (by omega) (sc _ _ (by omega) (by omega)) (by omega) (by omega)), wsr, wsb, ?_, ?_, ?_, LgR_eq e7 (hw _ _ (by omega) (by omega) (by omega) (by omega)) (fun j => hw _ _ (by omega) (by omega) (by omega) (by omega)) (hv _ _ (by omega) (by omega) (by omega) (by omega) (by omega) (by omega) (by omega) (by omega) (sc _ _ (by omega) (by omega)) (by omega) (by omega)) (fun a j ha => hv _ _ (by omega) (by omega) (by omega) (by omega) (by omega) (by omega) (by omega) (by omega) (sc _ _ (by omega) (by omega)) (by omega) (by omega)), AcR_eq k1 (by omega) (w1 _ _ (by omega) (by omega)) (w1 _ _ (by omega) (by omega)) (w2 _ _ (by omega) (by omega) (by omega) (by omega) (by omega) (by omega) (by omega) (by omega) (by omega) rfl) (fun j => w1 _ _ (by omega) (by omega)) (fun j => w2 _ _ (by omega) (by omega) (by omega) (by omega) (by omega) (by omega) (by omega) (by omega) (by omega) (sc _ _ (by omega) (by omega)))⟩
  · rw [hw _ _ (by omega) (by omega) (by omega) (by omega), hv _ _ (by omega) (by omega) (by omega) (by omega) (by omega) (by omega) (by omega) (by omega) (sc _ _ (by omega) (by omega)) (by omega) (by omega)]; exact e4
  · rw [hv _ _ (by omega) (by omega) (by omega) (by omega) (by omega) (by omega) (by omega) (by omega) (sc _ _ (by omega) (by omega)) (by omega) (by omega)]; exact e5
  · rw [hw _ _ (by omega) (by omega) (by omega) (by omega), w11, k4 _ _ (by omega) (by omega)]; exact e6
