/-! RULES: if -/
section SM
variable {B : Nat → Nat} {n R : Nat}
theorem BV_new {e : Nat → Nat × Nat} {L cnt S M g : Nat} {T : List Bool} (h : BV R e L [] [] cnt 0 S T g M) : BV R e L [] [] cnt 0 L [] 0 M := by
  obtain ⟨b1, b2, b3, b4, b5, b6, b7, b8, b9, b10, b11⟩ := h
  exact ⟨b1, b2, b3, b4, b5, b6, Nat.le_refl _, by rw [show L + ([] : List Nat).length - L = 0 by simp]; rfl, by simp at b9 ⊢; omega, b10, by simp⟩
theorem BV_fl {e : Nat → Nat × Nat} {Lc cnt S M g : Nat} {P : List Nat} {T : List Bool} (h : BV R e Lc P [] cnt 0 S T g M) : BV R e (Lc + P.length) [] [] cnt 0 S T g M := by
  obtain ⟨b1, b2, b3, b4, b5, b6, b7, b8, b9, b10, b11⟩ := h
  exact ⟨b1, b2, b3, by simp, fun j hj => absurd hj (by simp), fun k hk => absurd hk (by simp), b7, b8, b9, b10, b11⟩
theorem if_ok {x p p' cl : Nat} {s s' : ST} {e : Nat → Nat × Nat} {Lc cnt S M : Nat} {P : List Nat} {T : List Bool} (h : SV B n R x p p' s s' e Lc P [] cnt 0 S T 0 M) (hbl : bl B n p' = p') (h11 : gi s 11 11 = 3) (hk : gi s 11 12 = 0) (hns : NS B n p') (h10 : gi s 11 10 = 0) (h5 : gi s 11 5 = nI cl) (hcl : cl < 12) (hw : wdb B n p' (txB 21) = true) :
    ∃ w, (∀ y, RnC (x + 1) w y → RnC x s y) ∧ FX (fun a j => (a = 1 ∧ 2 ≤ j ∧ j ≤ 6) ∨ (a = 11 ∧ (j = 2 ∨ j = 7 ∨ j = 9 ∨ j = 11 ∨ j = 12)) ∨ a = 12 ∨ (a = 14 ∧ j = cl)) s w ∧ SV B n R (x + 1) (p' + 2) (p' + 2) w (si s' 0 27 (nI (p' + 2))) e (Lc + P.length) [] [] cnt 0 (Lc + P.length) [] 0 M ∧ gi w 11 11 = 1 ∧ gi w 11 12 = 1 ∧ gi w 14 cl = nI (Lc + P.length) ∧ p < p' + 2 := by
  obtain ⟨hC, hV, hb, hBV⟩ := h
  rw [hbl] at hb
  obtain ⟨u, pl, a1, a2, a3, a4, a5, a6, a7, a8⟩ := step_ev hC.1 hC.2.2.2.2.2.2.2.2.2.1 hC.2.2.1
  rw [hb] at a3 a5 a7 a8
  have hn := hC.1.1
  have hxp := hC.2.2.2.2.2.2.2.2.2
  have hps : p ≤ p' := by rw [← hb]; exact ru_ge
  have hpn' : p' ≤ n := hV.2.2.2.2.2.2.2.2
  obtain ⟨_, _, _, _, _, _, _, _, l21, _⟩ := wd_eq
  obtain ⟨k1, k2, k3, k4⟩ := wd_tok a8 hw (by rw [l21]; decide) hpn'
  rw [l21] at k3
  subst k3
  have i1 := wordC (w := 21) (by decide) (a2.TC hC.1) a3 a4 hpn' a8
  rw [if_pos hw] at i1
  have i1 : fX6_isWord 1000021 u = some 1 := i1
  have u5 : gi u 11 5 = nI cl := by rw [a2.1 _ _ (by omega)]; exact h5
  have u11 : gi u 11 11 = 3 := by rw [a2.1 _ _ (by omega)]; exact h11
  have u12 : gi u 11 12 = 0 := by rw [a2.1 _ _ (by omega)]; exact hk
  obtain ⟨b1, b2, b3, b4, b5, b6, b7, b8, b9, b10, b11⟩ := hBV
  obtain ⟨w, w1, w2, w3⟩ := CV_flush (a := 0) (CV_step hC a2 a4 hps (by omega) a6) (by omega) b4 (by omega) b5 b6 (fun _ _ => Nat.zero_le _) (fun k hk => absurd hk (by simp))
  have w1 : fX3_writeWaiting 0 u = some w := w1
  have k2' := w2.2.2.2.1
  have k5 : gi w 11 5 = nI cl := by rw [w3 _ _ (by unfold eW; omega)]; exact u5
  obtain ⟨v, hv⟩ : ∃ v, si (si (si w 14 cl (nI (Lc + P.length))) 11 12 1) 11 11 1 = v := ⟨_, rfl⟩
  have fv : FX cI w v := by
    rw [← hv]
    exact ((FX.si (by unfold cI; omega)).trans (FX.si (by unfold cI; omega))).trans (FX.si (by unfold cI; omega))
  have e1 := eoc (u := u) (br := 0) (by rw [a2.1 _ _ (by omega)]; exact h10) (by omega)
  rw [if_neg (by rw [k2]; intro q; rcases q.2 with q | q <;> exact absurd q (by decide))] at e1
  refine ⟨v, fun y hy => tok_step (by omega) (by rw [h11]; decide) hC.2.1 a1 ?_ hy, ?_, ⟨CV_cw w2 fv, VV_27 hV a6, rfl, BV_new (BV_fl ⟨b1, b2, b3, b4, b5, b6, b7, b8, b9, b10, b11⟩)⟩, by rw [← hv, gi_same], by rw [← hv, gi_dif (by decide), gi_same], by rw [← hv, gi_ne (by decide), gi_ne (by decide), gi_same], by omega⟩
  · unfold actC
    rw [u11, if_neg (show ¬ (3 : Int32) = 0 by decide), if_neg (show ¬ (3 : Int32) = 1 by decide), if_neg (show ¬ (3 : Int32) = 2 by decide), bdS, rs_any (Or.inr (Or.inr ⟨u12, hns⟩)) a8 (fun i hi => (hV.1.2.2 i hi).1), e1, bd_s, if_pos rfl, if_pos u12]
    unfold fX3_readIf
    rw [i1, bd_s, if_neg n10, w1, bd_s, k5, ck_t (inb_t (by omega) (by decide)), k2', lt_v, lt_v, lt_v, ix_nI (by omega), hv]
  · rw [← hv]
    refine FX.trans (fun a j ne => a2.1 a j (by omega)) (FX.trans (w3.w (by unfold eW; omega)) (((FX.si (by omega)).trans (FX.si (by omega))).trans (FX.si (by omega))))
end SM
