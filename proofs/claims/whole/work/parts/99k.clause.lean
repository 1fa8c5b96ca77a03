/-! RULES: clauses -/
section SK
variable {B : Nat → Nat} {n R : Nat}
def cI (a j : Nat) : Prop := (a = 11 ∧ (j = 5 ∨ j = 10 ∨ j = 11 ∨ j = 12)) ∨ a = 13 ∨ a = 14
def vI (a j : Nat) : Prop := (a = 0 ∧ (j = 32 ∨ j = 34)) ∨ (30 ≤ a ∧ a ≤ 33)
theorem CV_cw {x p : Nat} {s w : ST} {e : Nat → Nat × Nat} {Lc : Nat} {P Q : List Nat} {cnt dep : Nat} (h : CV B n x p s e Lc P Q cnt dep) (f : FX cI s w) : CV B n x p w e Lc P Q cnt dep := by
  obtain ⟨tc, c3, c2, l2, l7, l8, l9, l12, l15, hp, hx⟩ := h
  exact ⟨FX_TC (f.w (by unfold cI xRl; omega)) tc, by rw [f _ _ (by unfold cI; omega)]; exact c3, by rw [f _ _ (by unfold cI; omega)]; exact c2, by rw [f _ _ (by unfold cI; omega)]; exact l2, by rw [f _ _ (by unfold cI; omega)]; exact l7, by rw [f _ _ (by unfold cI; omega)]; exact l8, by rw [f _ _ (by unfold cI; omega)]; exact l9, fun i hi => by rw [f _ _ (by unfold cI; omega)]; exact l12 i hi, Stk_w _ (fun i _ => f _ _ (by unfold cI; omega)) l15, hp, hx⟩
theorem VV_vw {p L cnt : Nat} {s w : ST} {e : Nat → Nat × Nat} (h : VV B n R p s e L cnt) (f : FX vI s w) : VV B n R p w e L cnt := by
  obtain ⟨tv, v28, v27, v31, v29, v33, v35, vE, hp'⟩ := h
  exact ⟨⟨tv.1, by rw [f _ _ (by unfold vI; omega)]; exact tv.2.1, fun i hi => by rw [f _ _ (by unfold vI; omega)]; exact tv.2.2 i hi⟩, by rw [f _ _ (by unfold vI; omega)]; exact v28, by rw [f _ _ (by unfold vI; omega)]; exact v27, by rw [f _ _ (by unfold vI; omega)]; exact v31, by rw [f _ _ (by unfold vI; omega)]; exact v29, by rw [f _ _ (by unfold vI; omega)]; exact v33, by rw [f _ _ (by unfold vI; omega)]; exact v35, fun i hi => by rw [f _ _ (by unfold vI; omega), f _ _ (by unfold vI; omega)]; exact vE i hi, hp'⟩
theorem VV_27 {p q L cnt : Nat} {s : ST} {e : Nat → Nat × Nat} (h : VV B n R p s e L cnt) (hq : q ≤ n) : VV B n R q (si s 0 27 (nI q)) e L cnt := by
  obtain ⟨tv, v28, v27, v31, v29, v33, v35, vE, hp'⟩ := h
  exact ⟨TV_si tv (by decide), by rw [gi_dif (by decide)]; exact v28, gi_same _ _ _ _, by rw [gi_dif (by decide)]; exact v31, by rw [gi_dif (by decide)]; exact v29, by rw [gi_dif (by decide)]; exact v33, by rw [gi_dif (by decide)]; exact v35, fun i hi => by rw [gi_ne (by decide), gi_ne (by decide)]; exact vE i hi, hq⟩
/-- 'late' -/
theorem late_ok {x p p' cl : Nat} {s s' : ST} {e : Nat → Nat × Nat} {Lc cnt S M : Nat} {T : List Bool} (h : SV B n R x p p' s s' e Lc [] [] cnt 0 S T 0 M) (hbl : bl B n p' = p') (h11 : gi s 11 11 = 0) (h5 : gi s 11 5 = nI cl) (hcl : cl < 12) (hw : wdb B n p' (txB 5) = true) :
    ∃ w, (∀ y, RnC (x + 1) w y → RnC x s y) ∧ FX (fun a j => (a = 1 ∧ 2 ≤ j ∧ j ≤ 6) ∨ (a = 11 ∧ (j = 11 ∨ j = 12)) ∨ (a = 13 ∧ j = cl)) s w ∧ SV B n R (x + 1) (p' + 4) (p' + 4) w (si s' 0 27 (nI (p' + 4))) e Lc [] [] cnt 0 S T 0 M ∧ gi w 11 11 = 2 ∧ gi w 11 12 = 0 ∧ gi w 13 cl = nI Lc ∧ p < p' + 4 := by
  obtain ⟨hC, hV, hb, hBV⟩ := h
  rw [hbl] at hb
  obtain ⟨u, pl, a1, a2, a3, a4, a5, a6, a7, a8⟩ := step_ev hC.1 hC.2.2.2.2.2.2.2.2.2.1 hC.2.2.1
  rw [hb] at a3 a5 a7 a8
  have hn := hC.1.1
  have hxp := hC.2.2.2.2.2.2.2.2.2
  have hps : p ≤ p' := by rw [← hb]; exact ru_ge
  have hpn' : p' ≤ n := hV.2.2.2.2.2.2.2.2
  obtain ⟨_, _, _, _, _, _, _, _, _, l5⟩ := wd_eq
  obtain ⟨k1, k2, k3, k4⟩ := wd_tok a8 hw (by rw [l5]; decide) hpn'
  rw [l5] at k3
  subst k3
  have i1 := wordC (w := 5) (by decide) (a2.TC hC.1) a3 a4 hpn' a8
  rw [if_pos hw] at i1
  have i1 : fX6_isWord 1000005 u = some 1 := i1
  have u5 : gi u 11 5 = nI cl := by rw [a2.1 _ _ (by omega)]; exact h5
  have u2 : gi u 11 2 = nI Lc := by rw [a2.1 _ _ (by omega)]; exact hC.2.2.2.1
  have u11 : gi u 11 11 = 0 := by rw [a2.1 _ _ (by omega)]; exact h11
  obtain ⟨w, hw'⟩ : ∃ w, si (si (si u 13 cl (nI Lc)) 11 12 0) 11 11 2 = w := ⟨_, rfl⟩
  have fw : FX cI u w := by
    rw [← hw']
    exact ((FX.si (by unfold cI; omega)).trans (FX.si (by unfold cI; omega))).trans (FX.si (by unfold cI; omega))
  refine ⟨w, fun y hy => tok_step (by omega) (by rw [h11]; decide) hC.2.1 a1 ?_ hy, ?_, ⟨CV_cw (CV_step hC a2 a4 hps (by omega) a6) fw, VV_27 hV a6, rfl, hBV⟩, by rw [← hw', gi_same], by rw [← hw', gi_dif (by decide), gi_same], by rw [← hw', gi_ne (by decide), gi_ne (by decide), gi_same], by omega⟩
  · unfold actC
    rw [u11, if_pos rfl]
    unfold fX3_readLate
    rw [i1, bd_s, if_neg n10, if_pos (show gi u 11 5 < 12 by rw [u5, nj_ltr (by omega) (by decide)]; exact hcl), u5, ck_t (inb_t (by omega) (by decide)), u2, lt_v, lt_v, lt_v, ix_nI (by omega), hw', bd_s, bd_s]
  · rw [← hw']
    refine FX.trans (fun a j ne => a2.1 a j (by omega)) (((FX.si (by omega)).trans (FX.si (by omega))).trans (FX.si (by omega)))
end SK
