/-! RULES: a clause that does not begin -/
section SP
variable {B : Nat → Nat} {n R : Nat}
theorem late_no {x p p' cl c : Nat} {s s' : ST} {e : Nat → Nat × Nat} {Lc cnt S M : Nat} {T : List Bool} (h : SV B n R x p p' s s' e Lc [] [] cnt 0 S T 0 M) (hbl : bl B n p' = p') (h11 : gi s 11 11 = 0) (h5 : gi s 11 5 = nI cl) (hcl : cl ≤ 12) (hc : (c = 0 ∧ wdb B n p' (txB 5) = false) ∨ (c = 4 ∧ wdb B n p' (txB 5) = true ∧ cl = 12)) :
    ∃ y, RnC x s y ∧ gi y 1 3 = nI (1 + 8 * p' + c) ∧ FX xRl s y := by
  obtain ⟨hC, hV, hb, hBV⟩ := h
  rw [hbl] at hb
  obtain ⟨u, pl, a1, a2, a3, a4, a5, a6, a7, a8⟩ := step_ev hC.1 hC.2.2.2.2.2.2.2.2.2.1 hC.2.2.1
  rw [hb] at a3 a5 a7 a8
  have hn := hC.1.1
  have hxp := hC.2.2.2.2.2.2.2.2.2
  have hpn' : p' ≤ n := hV.2.2.2.2.2.2.2.2
  have i1 := wordC (w := 5) (by decide) (a2.TC hC.1) a3 a4 hpn' a8
  have u5 : gi u 11 5 = nI cl := by rw [a2.1 _ _ (by omega)]; exact h5
  have u11 : gi u 11 11 = 0 := by rw [a2.1 _ _ (by omega)]; exact h11
  have z3 : gi u 1 3 = 0 := by rw [a2.1 _ _ (by omega)]; exact hC.2.1
  have bm := blame0 (c := c) z3 a3
  have ne : ¬ gi (si u 1 3 (nI (1 + 8 * p' + c))) 1 3 = 0 := by rw [gi_same, nj_eqr (by omega) (by decide)]; omega
  refine ⟨si u 1 3 (nI (1 + 8 * p' + c)), tok_step (by omega) (by rw [h11]; decide) hC.2.1 a1 ?_ (stop_f (by omega) ne), gi_same _ _ _ _, ((FT_S a2).w xS_R).trans (FX.si (by unfold xRl; omega))⟩
  unfold actC
  rw [u11, if_pos rfl, bdS]
  unfold fX3_readLate
  rcases hc with ⟨rfl, q⟩ | ⟨rfl, q, rfl⟩
  · rw [q, if_neg nft] at i1
    have i1 : fX6_isWord 1000005 u = some 0 := i1
    have bm : fX6_blame 0 u = some (si u 1 3 (nI (1 + 8 * p' + 0))) := bm
    rw [i1, bd_s, if_pos rfl, bm, bd_s, bd_s]
  · rw [q, if_pos rfl] at i1
    have i1 : fX6_isWord 1000005 u = some 1 := i1
    have bm : fX6_blame 4 u = some (si u 1 3 (nI (1 + 8 * p' + 4))) := bm
    rw [i1, bd_s, if_neg n10, if_neg (show ¬ gi u 11 5 < 12 by rw [u5, nj_ltr (by omega) (by decide)]; omega), bm, bd_s, bd_s]
end SP
