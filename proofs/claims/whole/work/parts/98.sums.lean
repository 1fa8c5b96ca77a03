/-! RULES: sums by both -/
section RY
variable {B : Nat → Nat} {n R : Nat}
theorem Tok_sign {st pl : Nat} {tok val : Int32} (h : Tok B n st tok pl val) (h1 : st < n) (h2 : isD (B st) = false) (h3 : isL (B st) = false) (h4 : B st ≠ 60) (h5 : B st ≠ 62) : tok = nI (B st) ∧ pl = st + 1 := by
  rcases h with ⟨e1, _⟩ | ⟨_, e2, _⟩ | ⟨_, _, e3, _⟩ | ⟨_, _, _, e4⟩
  · omega
  · rw [h2] at e2; cases e2
  · rw [h3] at e3; cases e3
  · rcases e4 with ⟨⟨e5, _⟩, _⟩ | ⟨_, e5, e6⟩
    · omega
    · exact ⟨e5, e6⟩
/-- a sum's signs -/
def ss (c op : Nat) : Prop := (c = 42 ∧ op = 13) ∨ (c = 47 ∧ op = 14) ∨ (c = 37 ∧ op = 15) ∨ (c = 43 ∧ op = 2) ∨ (c = 45 ∧ op = 3)
theorem ss_ev {c op : Nat} {s : ST} (h : ss c op) : fX4_ofToken (nI c) s = some (nI (sg op)) ∧ fX4_isOfSum (nI (sg op)) s = some 1 ∧ isD c = false ∧ isL c = false ∧ c ≠ 60 ∧ c ≠ 62 ∧ op ≤ 15 ∧ c < 256 ∧ c ≠ 32 := by
  rcases h with ⟨rfl, rfl⟩ | ⟨rfl, rfl⟩ | ⟨rfl, rfl⟩ | ⟨rfl, rfl⟩ | ⟨rfl, rfl⟩
  all_goals exact ⟨rfl, rfl, rfl, rfl, by decide, by decide, by decide, by decide, by decide⟩
theorem bl_s {p : Nat} (h : B p ≠ 32) : bl B n p = p := by unfold bl; exact ru_e (by simp [h])
theorem sgn_both {x p p' c op : Nat} {s s' : ST} {e : Nat → Nat × Nat} {Lc : Nat} {P Q : List Nat} {cnt dep S : Nat} {T : List Bool} {g M : Nat} (h : SV B n R x p p' s s' e Lc P Q cnt dep S T g M) (h11 : gi s 11 11 = 3) (hk : ¬ gi s 11 12 = 3) (hc : ss c op) (h1 : p' < n) (h2 : B p' = c) (hP : ∀ k, k ∈ P → tgN op ≤ tgN k ∧ k ≠ 9) (hQ : ∀ k, k ∈ Q.head? → tgN k < tgN op) (hQl : Q.length ≤ 58) :
    ∃ w, (∀ y, RnC (x + 1) w y → RnC x s y) ∧ SV B n R (x + 1) (p' + 1) (p' + 1) w (si s' 0 27 (nI (p' + 1))) e (Lc + P.length) [] (op :: Q) cnt dep S T g M ∧ gi w 11 11 = 2 ∧ FX xSm s w ∧ p < p' + 1 := by
  obtain ⟨hC, hV, hb, ⟨b1, b2, b3, b4, b5, b6, b7, b8, b9, b10, b11⟩⟩ := h
  have hC' := hC
  obtain ⟨tc, c3, c2, l2, l7, l8, l9, l12, l15, hp, hx⟩ := hC'
  obtain ⟨tv, v28, v27, v31, v29, v33, v35, vE, hp'⟩ := hV
  obtain ⟨d1, d2, d3, d4, d5, d6, d7, d8, d9⟩ := ss_ev (s := s) hc
  have hn := tc.1
  have hst : bl B n p = p' := by rw [hb]; exact bl_s (by rw [h2]; exact d9)
  obtain ⟨z, pl, a1, a2, a3, a4, a5, a6, a7, a8⟩ := step_ev tc hp c2
  rw [hst] at a3 a5 a7 a8
  have hps : p ≤ p' := by rw [← hst]; exact ru_ge
  obtain ⟨k1, rfl⟩ := Tok_sign a8 h1 (by rw [h2]; exact d3) (by rw [h2]; exact d4) (by rw [h2]; exact d5) (by rw [h2]; exact d6)
  rw [h2] at k1
  have z11 : gi z 11 11 = 3 := by rw [a2.1 _ _ (by omega)]; exact h11
  have z12 : ¬ gi z 11 12 = 3 := by rw [a2.1 _ _ (by omega)]; exact hk
  have hc0 : P.count 9 = 0 := List.count_eq_zero.2 (fun q => (hP 9 q).2 rfl)
  obtain ⟨w, e1, e2, e3, e4⟩ := CV_join (st := 2) (CV_step hC a2 a4 hps (by omega) a6) d7 b4 (by omega) (by omega) b5 b6 (fun k hk => (hP k hk).1) hQ
  refine ⟨w, fun y hy => tok_step (by omega) (by rw [h11]; decide) c3 a1 ?_ hy, ⟨e2, ⟨TV_si tv (by decide), ?_, gi_same _ _ _ _, ?_, ?_, ?_, ?_, fun i hi => ?_, by omega⟩, rfl, ⟨b1, b2, b3, by simp; omega, fun j hj => absurd hj (by simp), fun k hk => ?_, b7, b8, b9, b10, b11⟩⟩, e3, ?_, by omega⟩
  · unfold actC
    rw [z11, if_neg (show ¬ (3 : Int32) = 0 by decide), if_neg (show ¬ (3 : Int32) = 1 by decide), if_neg (show ¬ (3 : Int32) = 2 by decide)]
    unfold fX3_readSign
    rw [k1, (ss_ev (s := z) hc).1, bd_s, (ss_ev (s := z) hc).2.1, bd_s, if_neg n10, if_neg z12, bd_s, if_pos rfl, e1, bd_s, bd_s, bd_s]
  · rw [gi_dif (by decide)]; exact v28
  · rw [gi_dif (by decide)]; exact v31
  · rw [gi_dif (by decide)]; exact v29
  · rw [gi_dif (by decide)]; exact v33
  · rw [gi_dif (by decide)]; exact v35
  · rw [gi_ne (by decide), gi_ne (by decide)]; exact vE i (by simp at hi; omega)
  · rcases List.mem_cons.1 hk with e | e
    · rw [e]; exact d7
    · exact b6 k (List.mem_append_right _ e)
  · have g9 : gi w 11 9 = gi s 11 9 := by
      have := e2.2.2.2.2.2.2.1
      rw [this, l9, hc0]
      rfl
    intro a j ne
    by_cases c9 : a = 11 ∧ j = 9
    · rw [c9.1, c9.2]; exact g9
    · rw [e4 a j (by unfold xSm at ne; unfold eJ; omega)]
      exact a2.1 a j (by unfold xSm at ne; omega)
theorem SV_entry {x p p' op : Nat} {z z' : ST} {e : Nat → Nat × Nat} {Lc : Nat} {P Q : List Nat} {cnt dep S : Nat} {T T1 : List Bool} {g M : Nat} (h : SV B n R x p p' z z' e Lc P (op :: Q) cnt dep S T g M) (h9 : op ≠ 9) (ty : tyS (op, 0) T = some T1) (hl : T1.length + 1 ≤ T.length) :
    ∃ w', fX12_entry (nI op) 0 z' = some w' ∧ FX (uSm R) z' w' ∧ SV B n R x p p' z w' (ins e (Lc + P.length) (op, 0)) Lc (P ++ [op]) Q cnt dep S T1 g M := by
  obtain ⟨⟨tc, c3, c2, l2, l7, l8, l9, l12, l15, hp, hx⟩, ⟨tv, v28, v27, v31, v29, v33, v35, vE, hp'⟩, hb, ⟨b1, b2, b3, b4, b5, b6, b7, b8, b9, b10, b11⟩⟩ := h
  have he := ent_ok (R := R) (s := z') (v := op) (w := 0) (L := Lc + P.length) v28 v29 v31 b2 (by omega)
  have he : fX12_entry (nI op) 0 z' = _ := he
  obtain ⟨w', hw⟩ : ∃ w, si (si (si z' 27 (300 * R + (Lc + P.length)) (nI op)) 28 (300 * R + (Lc + P.length)) (nI 0)) 0 31 (nI (Lc + P.length + 1)) = w := ⟨_, rfl⟩
  rw [hw] at he
  have hlen : (P ++ [op]).length = P.length + 1 := by simp
  have happ : P ++ [op] ++ Q = P ++ (op :: Q) := by simp
  have fw : FX (uSm R) z' w' := by
    rw [← hw]
    exact ((FX.si (by unfold uSm; omega)).trans (FX.si (by unfold uSm; omega))).trans (FX.si (by unfold uSm; omega))
  refine ⟨w', he, fw, ⟨tc, c3, c2, l2, by rw [happ]; exact l7, l8, ?_, fun i hi => by rw [ins_o (by omega)]; exact l12 i hi, by rw [happ]; exact l15, hp, hx⟩, ⟨FX_TV (fw.w uS_R) tv, ?_, ?_, ?_, ?_, ?_, ?_, fun i hi => ?_, hp'⟩, hb, ⟨b1, b2, b3, by rw [happ]; exact b4, fun j hj => ?_, by rw [happ]; exact b6, by omega, ?_, by omega, b10, by omega⟩⟩
  · rw [l9, List.count_append, List.count_cons_of_ne h9, List.count_nil, Nat.add_zero]
  · rw [← hw, gi_dif (by decide), gi_ne (by decide), gi_ne (by decide)]; exact v28
  · rw [← hw, gi_dif (by decide), gi_ne (by decide), gi_ne (by decide)]; exact v27
  · rw [← hw, gi_same, hlen]; rfl
  · rw [← hw, gi_dif (by decide), gi_ne (by decide), gi_ne (by decide)]; exact v29
  · rw [← hw, gi_dif (by decide), gi_ne (by decide), gi_ne (by decide)]; exact v33
  · rw [← hw, gi_dif (by decide), gi_ne (by decide), gi_ne (by decide)]; exact v35
  · by_cases c : i = Lc + P.length
    · subst c
      exact ⟨by rw [← hw, gi_ne (by decide), gi_ne (by decide), gi_same, ins_s], by rw [← hw, gi_ne (by decide), gi_same, ins_s], by rw [ins_s]; exact Nat.zero_le _⟩
    · obtain ⟨q1, q2, q3⟩ := vE i (by omega)
      exact ⟨by rw [← hw, gi_ne (by decide), gi_ne (by decide), gi_dif (by omega), ins_o c]; exact q1, by rw [← hw, gi_ne (by decide), gi_dif (by omega), gi_ne (by decide), ins_o c]; exact q2, by rw [ins_o c]; exact q3⟩
  · by_cases c : j = P.length
    · subst c
      rw [ins_s]
      simp
    · rw [ins_o (by omega), b5 j (by omega)]
      have : (P ++ [op]).getD j 0 = P.getD j 0 := by
        rw [List.getD_eq_getElem?_getD, List.getD_eq_getElem?_getD, List.getElem?_append_left (by omega)]
      rw [this]
  · rw [hlen, show Lc + (P.length + 1) - S = Lc + P.length + 1 - S by omega]
    exact ty_ins b7 b8 ty
theorem SV_bl {x p p' : Nat} {z z' : ST} {e : Nat → Nat × Nat} {Lc : Nat} {P Q : List Nat} {cnt dep S : Nat} {T : List Bool} {g M : Nat} (h : SV B n R x p p' z z' e Lc P Q cnt dep S T g M) :
    fX12_blanks z' = some (si z' 0 27 (nI (bl B n p'))) ∧ SV B n R x p (bl B n p') z (si z' 0 27 (nI (bl B n p'))) e Lc P Q cnt dep S T g M := by
  obtain ⟨hC, ⟨tv, v28, v27, v31, v29, v33, v35, vE, hp'⟩, hb, hB⟩ := h
  have hn := tv.1
  refine ⟨blanks_ev tv v27 (by omega), hC, ⟨TV_si tv (by decide), ?_, gi_same _ _ _ _, ?_, ?_, ?_, ?_, fun i hi => ?_, ru_le hp'⟩, by rw [bl_bl]; exact hb, hB⟩
  · rw [gi_dif (by decide)]; exact v28
  · rw [gi_dif (by decide)]; exact v31
  · rw [gi_dif (by decide)]; exact v29
  · rw [gi_dif (by decide)]; exact v33
  · rw [gi_dif (by decide)]; exact v35
  · rw [gi_ne (by decide), gi_ne (by decide)]; exact vE i hi
theorem SV_sg {x p p' : Nat} {z z' : ST} {e : Nat → Nat × Nat} {Lc : Nat} {P Q : List Nat} {cnt dep S : Nat} {T : List Bool} {g M : Nat} (h : SV B n R x p p' z z' e Lc P Q cnt dep S T g M) : fX12_sign z' = some (if p' < n then nI (B p') else -1) := by
  have hn := h.2.1.1.1
  have := h.2.1.2.2.2.2.2.2.2.2
  exact sg_ev h.2.1.1 h.2.1.2.2.1 (by omega)
end RY
