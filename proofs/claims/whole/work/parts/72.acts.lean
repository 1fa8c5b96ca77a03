/-! THE ACTS BY BOTH -/
theorem NW_keep {t : PH} {s s' z z' : ST} {d np nm R : Nat} (h : NW t s s' d np nm R) (k2 : ∀ a j, a ≠ 28 → ¬ (a = 17 ∧ 7 ≤ j) → gi z a j = gi s a j) (k3 : ∀ j, ¬ (66 ≤ j ∧ j ≤ 68) → gi z' 0 j = gi s' 0 j) (k4 : ∀ x j, x ≠ 0 → x ≠ 46 → gi z' x j = gi s' x j) : NW t z z' d np nm R ∧ lv z' = lv s' := by
  obtain ⟨h1, h2, h3, h4, h5, h6, h7, h8, h9, h10, h11⟩ := h
  have el : lv z' = lv s' := funext (fun j => by
    unfold lv
    rw [k4 _ _ (by decide) (by decide), k4 _ _ (by decide) (by decide), k4 _ _ (by decide) (by decide), k4 _ _ (by decide) (by decide), k4 _ _ (by decide) (by decide), k4 _ _ (by decide) (by decide), k4 _ _ (by decide) (by decide), k4 _ _ (by decide) (by decide), k4 _ _ (by decide) (by decide)])
  refine ⟨⟨TwR_eq h1 (fun a j _ _ => k2 _ _ (by omega) (by omega)) (fun a j _ => k4 _ _ (by omega) (by omega)), ?_, by rw [el]; exact h3, by rw [k2 _ _ (by omega) (by omega), k4 _ _ (by omega) (by omega)]; exact h4, by rw [k4 _ _ (by omega) (by omega)]; exact h5, by rw [k2 _ _ (by omega) (by omega), k4 _ _ (by omega) (by omega)]; exact h6, h7, by rw [k2 _ _ (by omega) (by omega)]; exact h8, by rw [k3 _ (by omega)]; exact h9, fun r hr => ?_, LgR_eq h11 (k2 _ _ (by omega) (by omega)) (fun j => k2 _ _ (by omega) (by omega)) (k4 _ _ (by omega) (by omega)) (fun a j _ => k4 _ _ (by omega) (by omega))⟩, el⟩
  · intro j hj; rw [k2 _ _ (by omega) (by omega), el]; exact h2 j hj
  · obtain ⟨q, q1, q2⟩ := h10 r hr
    have := q2.1
    exact ⟨q, q1, RlS_eq (fun x _ _ => ⟨rfl, fun _ => rfl⟩) (Nat.le_refl _) (fun i hi => funext (fun j => k2 _ _ (by omega) (by omega))) (fun i _ => k4 _ _ (by omega) (by omega)) (fun i _ => k4 _ _ (by omega) (by omega)) (k4 _ _ (by omega) (by omega)) (fun i _ => k4 _ _ (by omega) (by omega)) (fun i _ => k4 _ _ (by omega) (by omega)) (fun i _ => k4 _ _ (by omega) (by omega)) q2⟩
theorem INV_ac {t : PH} {s s' : ST} {d np nm R : Nat} (h : INV t s s' d) (hn : NW t s s' d np nm R) : AcR (gi s) (gi s') 17 np nm d (gi s' 0 66) := by
  obtain ⟨⟨-, -, R2, own, r0, r1, r2, r3, ⟨np2, nm2, w1, w2, w3, w4, w5, w6, w7, w8⟩, -⟩, -⟩ := h
  obtain rfl : np2 = np := by
    have a := w1.2.2.1
    have b := hn.1.2.2.1
    have := w1.1
    have := hn.1.1
    rw [show (17 + 1 : Nat) = 18 from rfl, b, nj_eq (by omega) (by omega)] at a
    exact a.symm
  obtain rfl : nm2 = nm := by
    have a := w1.2.2.2.2.1
    have b := hn.1.2.2.2.2.1
    have := w1.2.1
    have := hn.1.2.1
    rw [show (17 + 1 : Nat) = 18 from rfl, b, nj_eq (by omega) (by omega)] at a
    exact a.symm
  exact w8
theorem day_ok {t : PH} {s s' : ST} {d : Nat} (h : INV t s s' d) (hd : d ≤ 600) : A2 t (d + 1) (fX11_day t s) (fX12_day s') := by
  obtain ⟨np, nm, R, n⟩ := IN0_nw h.1
  have hnp := n.1.1
  have hnm := n.1.2.1
  unfold fX11_day fX12_day
  rcases g_town n.1 with ⟨a, b⟩ | ⟨a, b⟩
  · exact ⟨-1, s, s', by rw [if_pos a, bd_s, if_pos rfl], by rw [b, bd_s, if_pos rfl, bd_s, if_pos rfl], INV_mono h (by omega)⟩
  obtain ⟨y, y1, y2⟩ := n.2.2.1.2.2
  have e45' : gi s' 1 9 = nI y := y2
  have e45 : gi s 26 45 = nI y := (n.2.1 45 (by unfold vis; omega)).trans y2
  obtain ⟨z, z', b1, b2, k1, k2, k3, k4, k5⟩ := keep_both (INV_ac h n) n.2.1 n.2.2.1 hnp hnm
  obtain ⟨nz, elz⟩ := NW_keep n k2 k3 k4
  obtain ⟨p, p1, p2, p3⟩ := rule_ev nz
  obtain ⟨s7, s8, s9, s10, s13, s15, s16, s17⟩ := stS_30 (p := p) (u := z)
  have f56 : gi z' 0 56 = -1 := (k3 _ (by omega)).trans h.2.1
  have f57 : gi z' 0 57 = -1 := (k3 _ (by omega)).trans h.2.2.1
  have f63 : gi z' 0 63 = 0 := (k3 _ (by omega)).trans h.2.2.2
  have hc : CRs t (stS p z) z' np nm d := CRs_of nz p3 stS_mr.1 stS_mr.2 (fun a j h1 h2 h3 _ => stS_o ⟨h1, h2, h3⟩ j) (fun _ _ _ => rfl) (s7.trans nz.1.2.2.2.2.2.2.2.2.2.1) (s8.trans nz.1.2.2.2.2.2.2.2.2.2.2.1)
    (fun q hq => by
      rw [stS_41 (by omega)]
      obtain ⟨q1, q2, q3⟩ := nz.1.2.2.2.2.2.2.2.2.2.2.2.2.2.1 q hq
      exact ⟨q1, q2⟩) (s9.trans f56.symm) (s10.trans f57.symm) (fun e => absurd f57 e) (s13.trans f63.symm)
    (fun j hj => by rw [stS_32 (by unfold vis at hj; omega)]; exact nz.2.1 j hj) nz.2.2.1 (fun e => absurd f63 e)
  obtain ⟨w, w', c1, c2, c3, c4, c5, c6, c7, c8, c9, c10, c11, c12, c13, c14, c15, c16⟩ := day_both hc.1 hc.2.1 hc.2.2.1 (by omega) hc.2.2.2
  refine ⟨gi w' 0 60, sAr w 26 (va_cpy (w.1 32) (w.1 26) 0 0 46), w', ?_, ?_, act_INV h n k1 k2 k3 k4 (fun a j h1 h2 => ?_) (fun a j e0 e1 e3 e4 e5 e6 e9 e11 e12 es => ?_) (c16.1 f63) ⟨?_, ?_, ?_⟩ (fun j hj => ?_) c4⟩
  · rw [if_neg (by rw [a]; decide), ck_t (by decide), ix_lit (by decide), e45, if_pos (by rw [nj_ltr (by omega) (by decide)]; omega), bd_s, if_neg nft, b1, bd_s, start_eq p1 p2, bd_s, c1, bd_s]
    unfold fX5_copyFrom_St_St
    rw [ck_t (by decide), lt_v, bd_s]
    show some (gi (sAr w 26 (va_cpy (w.1 32) (w.1 26) 0 0 46)) 30 15, sAr w 26 (va_cpy (w.1 32) (w.1 26) 0 0 46)) = _
    rw [gi_sAr, if_neg (by decide), c9, s15]
    congr 2
    grind
  · rw [b, bd_s, if_neg n10, ck_t (by decide), ix_lit (by decide), e45', if_neg (by rw [nj_eqr (by omega) (by decide)]; omega), bd_s, if_neg nft, b2, bd_s, c2, bd_s]
  · rw [gi_sAr, if_neg h1, kC_g c5 (by unfold chC; simp; omega), stS_o (by omega)]
  · refine kM_g c7 ?_
    unfold scr at es
    unfold chM
    simp at es ⊢
    omega
  · rw [kM_g c7 rfl]; exact f56
  · rw [kM_g c7 rfl]; exact f57
  · rw [kM_g c7 rfl]; exact f63
  · rw [gi_sAr, if_pos rfl]
    have : j < 46 := by unfold vis at hj; omega
    show (if 0 ≤ j ∧ j < 0 + 46 then w.1 32 (0 + (j - 0)) else w.1 26 j) = _
    rw [if_pos (by omega), show 0 + (j - 0) = j by omega]
    exact c3 j hj
theorem ask_ok {t : PH} {s s' : ST} {d : Nat} (h : INV t s s' d) (p x : Int32) : A2 t (d + 1) (fX11_ask p x s) (fX12_ask p x s') := by
  obtain ⟨np, nm, R, n⟩ := IN0_nw h.1
  have hnp := n.1.1
  have hnm := n.1.2.1
  unfold fX11_ask fX12_ask
  rcases g_meet n.1.2.2.2.2.1 n.1.2.2.2.2.2.1 n.1.2.1 p with ⟨a, b⟩ | ⟨m, hm, rfl, a, b⟩
  · exact ⟨-1, s, s', by rw [a, bd_s, if_pos rfl, bd_s, if_pos rfl], by rw [b, bd_s, if_pos rfl, bd_s, if_pos rfl], INV_mono h (by omega)⟩
  rw [a, b, bd_s, bd_s, if_neg n10, if_neg n10]
  rcases g_in x (l := 0) (h := 600) (a := 0) (b := 600) (show (0 : Int64) = _ from rfl) (show (600 : Int64) = _ from rfl) rfl rfl (by omega) (by omega) with ⟨c1, c2⟩ | ⟨k, k1, k2, rfl, k4⟩
  · refine ⟨-1, s, s', ?_, by rw [c1, bd_s, if_pos rfl, bd_s, if_pos rfl], INV_mono h (by omega)⟩
    rcases c2 with c2 | ⟨c2, c3, c4⟩
    · simp only [c2, if_true, bd_s]
    · simp only [c2, c3, c4, if_true, bd_s, if_false]
  rw [k4, bd_s, if_neg n10, if_neg (nj_nn (by omega)), if_pos (show nI k ≤ (600 : Int32) by rw [nj_ler (by omega) (by decide)]; omega), bd_s, if_neg nft, ck_t (inb_t (by omega) (by omega)), ix_nI (by omega)]
  have e : gi s 26 (20 + m) = gi s' 9 m := by rw [lv_minute _ (by omega)]; exact n.2.1 _ (by unfold vis; omega)
  unfold fX11_act
  rw [nj_addl, ck_t (inb_t (by omega) (by omega)), lt_v, ix_nI (by omega), e]
  by_cases c : gi s' 9 m = nI k
  · exact ⟨-1, s, s', by rw [if_pos c, bd_s], by rw [if_pos c, bd_s, if_pos rfl], INV_mono h (by omega)⟩
  obtain ⟨z, z', b1, b2, k1', k2', k3', k4', k5'⟩ := keep_both (INV_ac h n) n.2.1 n.2.2.1 hnp hnm
  obtain ⟨nz, elz⟩ := NW_keep n k2' k3' k4'
  refine ⟨gi s' 9 m, si z 26 (20 + m) (nI k), si z' 9 m (nI k), ?_, ?_, act_INV h n k1' k2' k3' k4' (fun a j h1 h2 => gi_ne h1) (fun a j e0 e1 e3 e4 e5 e6 e9 e11 e12 es => gi_ne e9) (gi_ne (by decide)) ⟨?_, ?_, ?_⟩ (fun j hj => ?_) ⟨fun q hq => ?_, fun q hq => ?_, ?_⟩⟩
  · rw [if_neg c, b1, bd_s, ck_t (inb_t (by omega) (by omega)), lt_v, bd_s]
  · rw [if_neg c, bd_s, if_neg nft, b2, bd_s, ck_t (inb_t (by omega) (by omega)), lt_v, ck_t (inb_t (by omega) (by omega)), lt_v, k4' _ _ (by decide) (by decide)]
  · rw [gi_ne (by decide), k3' _ (by omega)]; exact h.2.1
  · rw [gi_ne (by decide), k3' _ (by omega)]; exact h.2.2.1
  · rw [gi_ne (by decide), k3' _ (by omega)]; exact h.2.2.2
  · rw [lv_si9 _ (by omega), upd_eq, gi_si, if_pos rfl]
    by_cases e2 : j = 20 + m
    · rw [if_pos e2, if_pos e2]
    · rw [if_neg e2, if_neg e2]; exact nz.2.1 j hj
  · rw [lv_si9 _ (by omega), upd_eq, if_neg (by omega)]; exact nz.2.2.1.1 q hq
  · rw [lv_si9 _ (by omega), upd_eq]
    by_cases e2 : 20 + q = 20 + m
    · rw [if_pos e2, nj_lel (by decide) (by omega), nj_ler (by omega) (by decide)]; omega
    · rw [if_neg e2]; exact nz.2.2.1.2.1 q hq
  · obtain ⟨y, y1, y2⟩ := nz.2.2.1.2.2
    exact ⟨y, by omega, by rw [lv_si9 _ (by omega), upd_eq, if_neg (by omega)]; exact y2⟩
theorem set_ok {t : PH} {s s' : ST} {d : Nat} (h : INV t s s' d) (p x : Int32) : A2 t (d + 1) (fX11_set p x s) (fX12_set p x s') := by
  obtain ⟨np, nm, R, n⟩ := IN0_nw h.1
  have hnp := n.1.1
  have hnm := n.1.2.1
  unfold fX11_set fX12_set
  rcases g_pers n.1.2.2.1 n.1.2.2.2.1 n.1.1 p with ⟨a, b⟩ | ⟨m, hm, rfl, a, b⟩
  · exact ⟨-1000, s, s', by rw [a, bd_s, if_pos rfl, bd_s, if_pos rfl], by rw [b, bd_s, if_pos rfl, bd_s, if_pos rfl], INV_mono h (by omega)⟩
  rw [a, b, bd_s, bd_s, if_neg n10, if_neg n10, in_ev x (l := -20) (h := 20) (L := -20) (H := 20) (by decide) rfl, bd_s]
  by_cases d1 : x < -20
  · refine ⟨-1000, s, s', ?_, ?_, INV_mono h (by omega)⟩ <;> simp only [d1, if_true, bd_s]
  by_cases d2 : 20 < x
  · have d3 : ¬ x ≤ 20 := by grind
    refine ⟨-1000, s, s', ?_, ?_, INV_mono h (by omega)⟩ <;> simp only [d1, d2, d3, if_true, bd_s, if_false]
  have d3 : x ≤ 20 := by grind
  have d4 : -20 ≤ x := by grind
  rw [if_neg d1, if_neg d1, if_pos d3, if_neg d2, bd_s, if_neg nft, if_neg n10, ck_t (inb_t (by omega) (by omega)), ix_nI (by omega)]
  have e : gi s 26 m = gi s' 3 m := by rw [lv_clock _ (by omega)]; exact n.2.1 _ (by unfold vis; omega)
  unfold fX11_act
  rw [nj_addl, Nat.zero_add, ck_t (inb_t (by omega) (by omega)), lt_v, ix_nI (by omega), e]
  by_cases c : gi s' 3 m = x
  · exact ⟨-1000, s, s', by rw [if_pos c, bd_s], by rw [if_pos c, bd_s, if_pos rfl], INV_mono h (by omega)⟩
  obtain ⟨z, z', b1, b2, k1', k2', k3', k4', k5'⟩ := keep_both (INV_ac h n) n.2.1 n.2.2.1 hnp hnm
  obtain ⟨nz, elz⟩ := NW_keep n k2' k3' k4'
  refine ⟨gi s' 3 m, si z 26 m x, si z' 3 m x, ?_, ?_, act_INV h n k1' k2' k3' k4' (fun a j h1 h2 => gi_ne h1) (fun a j e0 e1 e3 e4 e5 e6 e9 e11 e12 es => gi_ne e3) (gi_ne (by decide)) ⟨?_, ?_, ?_⟩ (fun j hj => ?_) ⟨fun q hq => ?_, fun q hq => ?_, ?_⟩⟩
  · rw [if_neg c, b1, bd_s, ck_t (inb_t (by omega) (by omega)), lt_v, bd_s]
  · rw [if_neg c, bd_s, if_neg nft, b2, bd_s, ck_t (inb_t (by omega) (by omega)), lt_v, ck_t (inb_t (by omega) (by omega)), lt_v, k4' _ _ (by decide) (by decide)]
  · rw [gi_ne (by decide), k3' _ (by omega)]; exact h.2.1
  · rw [gi_ne (by decide), k3' _ (by omega)]; exact h.2.2.1
  · rw [gi_ne (by decide), k3' _ (by omega)]; exact h.2.2.2
  · rw [lv_si3 _ (by omega), upd_eq, gi_si, if_pos rfl]
    by_cases e2 : j = m
    · rw [if_pos e2, if_pos e2]
    · rw [if_neg e2, if_neg e2]; exact nz.2.1 j hj
  · rw [lv_si3 _ (by omega), upd_eq]
    by_cases e2 : q = m
    · rw [if_pos e2]; exact ⟨d4, d3⟩
    · rw [if_neg e2]; exact nz.2.2.1.1 q hq
  · rw [lv_si3 _ (by omega), upd_eq, if_neg (by omega)]; exact nz.2.2.1.2.1 q hq
  · obtain ⟨y, y1, y2⟩ := nz.2.2.1.2.2
    exact ⟨y, by omega, by rw [lv_si3 _ (by omega), upd_eq, if_neg (by omega)]; exact y2⟩
theorem let_ok {t : PH} {s s' : ST} {d : Nat} (h : INV t s s' d) (p : Int32) : A2 t (d + 1) (fX11_let p s) (fX12_let p s') := by
  obtain ⟨np, nm, R, n⟩ := IN0_nw h.1
  have hnp := n.1.1
  have hnm := n.1.2.1
  unfold fX11_let fX12_let
  rcases g_pers n.1.2.2.1 n.1.2.2.2.1 n.1.1 p with ⟨a, b⟩ | ⟨m, hm, rfl, a, b⟩
  · exact ⟨-1, s, s', by rw [a, bd_s, if_pos rfl], by rw [b, bd_s, if_pos rfl], INV_mono h (by omega)⟩
  rw [a, b, bd_s, bd_s, if_neg n10, if_neg n10]
  obtain ⟨z, z', b1, b2, k1', k2', k3', k4', k5'⟩ := keep_both (INV_ac h n) n.2.1 n.2.2.1 hnp hnm
  obtain ⟨nz, elz⟩ := NW_keep n k2' k3' k4'
  have e : gi z 26 44 = gi z' 1 8 := nz.2.1 44 (by unfold vis; omega)
  obtain ⟨x, hx⟩ : ∃ x, gi z' 1 8 ^^^ (1 <<< (nI m &&& 31)) = x := ⟨_, rfl⟩
  have ex : fX5_isExempt_25 (nI m) (si z 26 44 x) = some (if exB x m = true then 1 else 0) := by
    unfold fX5_isExempt_25 exB
    rw [ck_t (by decide), ix_lit (by decide), gi_same]
    by_cases c : ((x >>> (nI m &&& 31)) &&& 1) = 1
    · simp only [c, if_true, bd_s, decide_true]; rfl
    · simp only [c, if_false, bd_s, decide_false, Bool.false_eq_true]; rfl
  refine ⟨if exB x m = true then 1 else 0, si z 26 44 x, si z' 1 8 x, ?_, ?_, act_INV h n k1' k2' k3' k4' (fun a j h1 h2 => gi_ne h1) (fun a j e0 e1 e3 e4 e5 e6 e9 e11 e12 es => si_x _ _ (by omega)) (gi_dif (by decide)) ⟨?_, ?_, ?_⟩ (fun j hj => ?_) ⟨fun q hq => ?_, fun q hq => ?_, ?_⟩⟩
  · rw [b1, bd_s, ck_t (by decide), ck_t (by decide), lt_v, ix_lit (by decide), e, hx, ex, bd_s]
    by_cases c : exB x m = true
    · simp only [c, if_true, i10, if_false, bd_s]
    · simp only [c, Bool.false_eq_true, if_false, i00, if_true, bd_s]
  · rw [b2, bd_s, ck_t (by decide), ck_t (by decide), lt_v, ix_lit (by decide), hx, ck_t (by decide), gi_same, hasB, bd_s]
    by_cases c : exB x m = true
    · simp only [c, if_true, i10, if_false, bd_s]
    · simp only [c, Bool.false_eq_true, if_false, i00, if_true, bd_s]
  · rw [gi_ne (by decide), k3' _ (by omega)]; exact h.2.1
  · rw [gi_ne (by decide), k3' _ (by omega)]; exact h.2.2.1
  · rw [gi_ne (by decide), k3' _ (by omega)]; exact h.2.2.2
  · rw [lv_si8, upd_eq, gi_si, if_pos rfl]
    by_cases e2 : j = 44
    · rw [if_pos e2, if_pos e2]
    · rw [if_neg e2, if_neg e2]; exact nz.2.1 j hj
  · rw [lv_si8, upd_eq, if_neg (by omega)]; exact nz.2.2.1.1 q hq
  · rw [lv_si8, upd_eq, if_neg (by omega)]; exact nz.2.2.1.2.1 q hq
  · obtain ⟨y, y1, y2⟩ := nz.2.2.1.2.2
    exact ⟨y, by omega, by rw [lv_si8, upd_eq, if_neg (by omega)]; exact y2⟩
theorem undo_ok {t : PH} {s s' : ST} {d : Nat} (h : INV t s s' d) : A2 t (d + 1) (fX11_undo s) (fX12_undo s') := by
  obtain ⟨np, nm, R, n⟩ := IN0_nw h.1
  have hnp := n.1.1
  have hnm := n.1.2.1
  obtain ⟨na, ap, a1, a2, a3, a4, a5, a6⟩ := INV_ac h n
  unfold fX11_undo fX12_undo
  rw [a3, a4]
  by_cases c : na = 0
  · subst c
    exact ⟨-2, s, s', by rw [if_neg (by decide)], by rw [if_pos (show nI 0 = 0 from rfl)], INV_mono h (by omega)⟩
  obtain ⟨z', b1, b2, b3, b4, b5⟩ := movL (k := na - 1) (s := si s' 0 66 (nI (na - 1))) (by omega)
  obtain ⟨ap2, hap⟩ : ∃ x, (ap + 19) % 20 = x := ⟨_, rfl⟩
  have cb : cpB (nI (ap2 * 46)) 0 46 920 46 = true := by
    unfold cpB
    refine decide_eq_true ⟨nj_nn (by omega), by decide, by decide, ?_, by decide⟩
    rw [nI_clamp (by omega)]
    show ap2 * 46 + 46 ≤ 920
    omega
  obtain ⟨z, hz⟩ : ∃ z, si (si s 17 7 (nI ap2)) 17 8 (nI (na - 1)) = z := ⟨_, rfl⟩
  have z28 : ∀ j, z.1 28 j = gi s 28 j := fun j => by
    show gi z 28 j = _
    rw [← hz, gi_ne (by decide), gi_ne (by decide)]
  have pz : ∀ k, PVf (gi (si s' 0 66 (nI (na - 1)))) k = PVf (gi s') k := fun k => funext (fun j => by unfold PVf; rw [gi_ne (by decide), gi_ne (by decide), gi_ne (by decide)])
  obtain ⟨q1, q2⟩ := a6 0 (by omega)
  have hv : ∀ j, j < 46 → lv z' j = PVf (gi s') (na - 1 - 0) j := fun j hj => by rw [b2 j hj, pz]; rfl
  have kk : AcR (gi z) (gi (si s' 0 66 (nI (na - 1)))) 17 np nm d (gi (si s' 0 66 (nI (na - 1))) 0 66) := by
    refine ⟨na - 1, ap2, by omega, by omega, by rw [← hz, gi_same], gi_same _ _ _ _, by rw [← hz, gi_dif (by decide), gi_same], fun i hi => ?_⟩
    obtain ⟨x1, x2⟩ := a6 (i + 1) (by omega)
    rw [pz, show na - 1 - 1 - i = na - 1 - (i + 1) by omega]
    refine ⟨fun j hj => ?_, x2⟩
    show gi z 28 _ = _
    rw [show gi z 28 (46 * ((ap2 + 19 - i) % 20) + j) = gi s 28 (46 * ((ap2 + 19 - i) % 20) + j) from z28 _, show (ap2 + 19 - i) % 20 = (ap + 19 - (i + 1)) % 20 by omega]
    exact x1 j hj
  refine ⟨nI (na - 1), sAr z 26 (va_cpy (z.1 28) (z.1 26) (ap2 * 46) 0 46), z', ?_, ?_, act_INV h n kk (fun a j h1 h2 => ?_) (fun j hj => gi_dif (by omega)) (fun x j h1 h2 => gi_ne h1) (fun a j h1 h2 => ?_) (fun a j e0 e1 e3 e4 e5 e6 e9 e11 e12 es => ?_) (b3 _ (by decide) (by decide)) ⟨?_, ?_, ?_⟩ (fun j hj => ?_) (SB_mono (SB_eq q2 hnp hnm hv) (by omega))⟩
  · rw [if_pos (by rw [nj_ltl (by decide) (by omega)]; omega)]
    unfold fX10_undoLast_17
    rw [a5, nj_addr, nj_subr (by omega), md20 (by omega), show (ap + 20 - 1) % 20 = ap2 by omega, lt_v, lt_v]
    rw [show gi (si s 17 7 (nI ap2)) 17 8 = nI na by rw [gi_dif (by decide)]; exact a3, nj_subr (by omega), hz, show gi z 17 7 = nI ap2 by rw [← hz, gi_dif (by decide), gi_same], nj_mulr, ck_t cb, lt_v, bd_s, ix_nI (by omega), ix_lit (by decide), ix_lit (by decide)]
    rw [gi_sAr, if_neg (by decide), show gi z 17 8 = nI (na - 1) by rw [← hz, gi_same]]
  · rw [if_neg (by rw [nj_eqr (by omega) (by decide)]; exact c), lt_v, nj_subr (by omega), gi_same, b1, bd_s, b4 _ (by decide) (by decide), gi_same]
  · rw [← hz, si_x _ _ (by omega), si_x _ _ (by omega)]
  · rw [gi_sAr, if_neg h1]
  · by_cases e : a = 0
    · subst e; exact b4 j (by omega) (by omega)
    · by_cases e' : a = 1
      · subst e'; exact b3 j (by omega) (by omega)
      · exact b5 a j e e' e3 e4 e5 e6 e9 e11 e12
  · rw [b4 _ (by decide) (by decide), gi_dif (by decide)]; exact h.2.1
  · rw [b4 _ (by decide) (by decide), gi_dif (by decide)]; exact h.2.2.1
  · rw [b4 _ (by decide) (by decide), gi_dif (by decide)]; exact h.2.2.2
  · have hj46 : j < 46 := by unfold vis at hj; omega
    rw [gi_sAr, if_pos rfl]
    show (if 0 ≤ j ∧ j < 0 + 46 then z.1 28 (ap2 * 46 + (j - 0)) else z.1 26 j) = _
    rw [if_pos (by omega), z28, hv j hj46, show ap2 * 46 + (j - 0) = 46 * ((ap + 19 - 0) % 20) + j by omega]
    exact q1 j hj
