/-! RULES: the token behind a clause -/
section SO
variable {B : Nat → Nat} {n R : Nat}
def eF (cl : Nat) (k : Int32) (a j : Nat) : Prop := (a = 1 ∧ 2 ≤ j ∧ j ≤ 6) ∨ (a = 11 ∧ (j = 2 ∨ j = 5 ∨ j = 7 ∨ j = 9 ∨ j = 11)) ∨ a = 12 ∨ (a = 13 ∧ j = cl + 1) ∨ (a = 14 ∧ j = cl ∧ k = 0)
theorem fin_both {x p p' cl : Nat} {s s' : ST} {e : Nat → Nat × Nat} {Lc cnt S M : Nat} {P : List Nat} {T : List Bool} (h : SV B n R x p p' s s' e Lc P [] cnt 0 S T 0 M) (hbl : bl B n p' = p') (h11 : gi s 11 11 = 3) (hk : KD B n p' (gi s 11 12)) (h10 : gi s 11 10 = 0) (h5 : gi s 11 5 = nI cl) (hcl : cl < 12) (hw1 : gi s 11 12 = 0 → wdb B n p' (txB 21) = false) (hw2 : ¬ gi s 11 12 = 0 → wdb B n p' (txB 22) = false ∧ wdb B n p' (txB 23) = false) :
    (p' = n ∧ ∃ w, RnC x s w ∧ CV B n x n w e (Lc + P.length) [] [] cnt 0 ∧ gi w 11 5 = nI (cl + 1) ∧ gi w 13 (cl + 1) = nI (Lc + P.length) ∧ (gi s 11 12 = 0 → gi w 14 cl = nI (Lc + P.length)) ∧ FX (eF cl (gi s 11 12)) s w) ∨
    (p' < n ∧ B p' = 59 ∧ p < p' + 1 ∧ ∃ w, (∀ y, RnC (x + 1) w y → RnC x s y) ∧ SV B n R (x + 1) (p' + 1) (p' + 1) w (si s' 0 27 (nI (p' + 1))) e (Lc + P.length) [] [] cnt 0 (Lc + P.length) [] 0 M ∧ gi w 11 5 = nI (cl + 1) ∧ gi w 13 (cl + 1) = nI (Lc + P.length) ∧ (gi s 11 12 = 0 → gi w 14 cl = nI (Lc + P.length)) ∧ gi w 11 11 = 0 ∧ FX (eF cl (gi s 11 12)) s w) ∨
    (p' < n ∧ B p' ≠ 59 ∧ ∃ y, RnC x s y ∧ gi y 1 3 = nI (1 + 8 * p' + 0) ∧ FX xRl s y) := by
  obtain ⟨hC, hV, hb, hBV⟩ := h
  rw [hbl] at hb
  obtain ⟨u, pl, a1, a2, a3, a4, a5, a6, a7, a8⟩ := step_ev hC.1 hC.2.2.2.2.2.2.2.2.2.1 hC.2.2.1
  rw [hb] at a3 a5 a7 a8
  have hn := hC.1.1
  have hxp := hC.2.2.2.2.2.2.2.2.2
  have hps : p ≤ p' := by rw [← hb]; exact ru_ge
  have hpn' : p' ≤ n := hV.2.2.2.2.2.2.2.2
  have hB : ∀ i, i < n → B i < 256 := fun i hi => (hV.1.2.2 i hi).1
  have u5 : gi u 11 5 = nI cl := by rw [a2.1 _ _ (by omega)]; exact h5
  have u11 : gi u 11 11 = 3 := by rw [a2.1 _ _ (by omega)]; exact h11
  have u12 : gi u 11 12 = gi s 11 12 := a2.1 _ _ (by omega)
  have u10 : gi u 11 10 = nI 0 := by rw [a2.1 _ _ (by omega)]; exact h10
  have e1 := eoc (u := u) (br := 0) u10 (by omega)
  have hk2 := hk
  rw [← u12] at hk2
  have ac : actC u = (fX3_isEndOfClause u).bind (fun q21 => if q21 = 0 then if (gi u 11 12) = 0 then fX3_readIf u else fX3_readBehindFact u else fX3_endClause u) := by
    unfold actC
    rw [u11, if_neg (show ¬ (3 : Int32) = 0 by decide), if_neg (show ¬ (3 : Int32) = 1 by decide), if_neg (show ¬ (3 : Int32) = 2 by decide), bdS, rs_any hk2 a8 hB]
  obtain ⟨b1, b2, b3, b4, b5, b6, b7, b8, b9, b10, b11⟩ := hBV
  have frm : ∀ w, FX (fun a j => (a = 11 ∧ (j = 2 ∨ j = 5 ∨ j = 7 ∨ j = 9 ∨ j = 11)) ∨ a = 12 ∨ (a = 13 ∧ j = cl + 1) ∨ (a = 14 ∧ j = cl ∧ gi u 11 12 = 0)) u w → FX (eF cl (gi s 11 12)) s w := fun w fw => by
    rw [u12] at fw
    refine FX.trans (fun a j ne => a2.1 a j (fun q => ne (by unfold eF; omega))) (fw.w (fun a j q => ?_))
    rcases q with q | q | q | q
    · exact Or.inr (Or.inl q)
    · exact Or.inr (Or.inr (Or.inl q))
    · exact Or.inr (Or.inr (Or.inr (Or.inl q)))
    · exact Or.inr (Or.inr (Or.inr (Or.inr q)))
  by_cases ce : p' = n
  · left
    have tk : gi u 1 4 = -1 ∧ pl = n := by
      rcases a8 with ⟨_, e2, e3⟩ | ⟨q, _⟩ | ⟨q, _⟩ | ⟨q, _⟩
      · exact ⟨e2, e3⟩
      · omega
      · omega
      · omega
    obtain ⟨t1, rfl⟩ := tk
    obtain ⟨w, w1, w2, w3, w4, w5, w6, w7⟩ := endC (CV_step0 hC a2 a4 (by omega) (Nat.le_refl _)) u5 hcl b4 (by omega) b5 b6
    rw [if_pos ⟨rfl, Or.inr t1⟩] at e1
    rw [t1, if_neg (show ¬ (-1 : Int32) = 59 by decide)] at w6
    exact ⟨ce, w, tok_step (by omega) (by rw [h11]; decide) hC.2.1 a1 (by rw [ac, e1, bd_s, if_neg n10]; exact w1) (stop_4 (by omega) w6), w2, w3, w4, fun q => w5 (u12.trans q), frm w w7⟩
  · right
    have hlt : p' < n := by omega
    by_cases cs : B p' = 59
    · left
      obtain ⟨t1, rfl⟩ := Tok_sign a8 hlt (by rw [cs]; rfl) (by rw [cs]; rfl) (by rw [cs]; decide) (by rw [cs]; decide)
      have t1 : gi u 1 4 = 59 := by rw [t1, cs]; rfl
      obtain ⟨w, w1, w2, w3, w4, w5, w6, w7⟩ := endC (CV_step hC a2 a4 hps (by omega) a6) u5 hcl b4 (by omega) b5 b6
      rw [if_pos ⟨rfl, Or.inl t1⟩] at e1
      rw [if_pos t1] at w6
      exact ⟨hlt, cs, by omega, w, fun y hy => tok_step (by omega) (by rw [h11]; decide) hC.2.1 a1 (by rw [ac, e1, bd_s, if_neg n10]; exact w1) hy, ⟨w2, VV_27 hV a6, rfl, BV_new (BV_fl ⟨b1, b2, b3, b4, b5, b6, b7, b8, b9, b10, b11⟩)⟩, w3, w4, fun q => w5 (u12.trans q), w6, frm w w7⟩
    · right
      have hb5 := hB p' hlt
      have nt : ¬ (gi u 1 4 = 59 ∨ gi u 1 4 = -1) := by
        rcases a8 with ⟨q, _⟩ | ⟨_, _, e3, _⟩ | ⟨_, _, _, e4, _⟩ | ⟨_, _, _, e4⟩
        · omega
        · rw [e3]; decide
        · rw [e4]; decide
        · rcases e4 with ⟨_, e5, _⟩ | ⟨_, e5, _⟩
          · rw [e5]
            rintro (q | q)
            · rw [nj_eqr (by omega) (by decide)] at q; omega
            · exact nj_nm (by omega) (by decide) (by decide) q
          · rw [e5]
            rintro (q | q)
            · rw [nj_eqr (by omega) (by decide)] at q; exact cs q
            · exact nj_nm (by omega) (by decide) (by decide) q
      rw [if_neg (fun q => nt q.2)] at e1
      have z3 : gi u 1 3 = 0 := by rw [a2.1 _ _ (by omega)]; exact hC.2.1
      have bm := blame0 (c := 0) z3 a3
      have bm : fX6_blame 0 u = some (si u 1 3 (nI (1 + 8 * p' + 0))) := bm
      have ne : ¬ gi (si u 1 3 (nI (1 + 8 * p' + 0))) 1 3 = 0 := by rw [gi_same, nj_eqr (by omega) (by decide)]; omega
      refine ⟨hlt, cs, si u 1 3 (nI (1 + 8 * p' + 0)), tok_step (by omega) (by rw [h11]; decide) hC.2.1 a1 ?_ (stop_f (by omega) ne), gi_same _ _ _ _, ((FT_S a2).w xS_R).trans (FX.si (by unfold xRl; omega))⟩
      rw [ac, e1, bd_s, if_pos rfl]
      by_cases c0 : gi u 11 12 = 0
      · have i1 := wordC (w := 21) (by decide) (a2.TC hC.1) a3 a4 hpn' a8
        rw [hw1 (u12.symm.trans c0), if_neg nft] at i1
        have i1 : fX6_isWord 1000021 u = some 0 := i1
        rw [if_pos c0]
        unfold fX3_readIf
        rw [i1, bd_s, if_pos rfl, bm, bd_s]
      · obtain ⟨q1, q2⟩ := hw2 (fun q => c0 (u12.trans q))
        have i1 := wordC (w := 22) (by decide) (a2.TC hC.1) a3 a4 hpn' a8
        have i2 := wordC (w := 23) (by decide) (a2.TC hC.1) a3 a4 hpn' a8
        rw [q1, if_neg nft] at i1
        rw [q2, if_neg nft] at i2
        have i1 : fX6_isWord 1000022 u = some 0 := i1
        have i2 : fX6_isWord 1000023 u = some 0 := i2
        have b8' : (if gi u 1 4 = 93 then if gi u 11 10 ≤ 0 then some false else some true else some false : Option Bool) = some false := by
          rw [if_pos (show gi u 11 10 ≤ 0 by rw [u10]; decide)]
          split <;> rfl
        rw [if_neg c0]
        unfold fX3_readBehindFact
        rw [i1, bd_s, if_pos rfl, i2, bd_s, if_pos rfl, b8', bd_s, if_neg nft, bm, bd_s, bd_s]
end SO
