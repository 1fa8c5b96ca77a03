/-! RULES: and, or, a bracket's end -/
section SF
variable {B : Nat → Nat} {n R : Nat}
def KE (B : Nat → Nat) (n p' : Nat) (k : Int32) : Prop := (k = 2 ∧ NS B n p') ∨ k = 3
theorem KE_D {p' : Nat} {k : Int32} (h : KE B n p' k) : KD B n p' k ∧ ¬ k = 0 := by
  rcases h with h | h
  · exact ⟨Or.inl h, by rw [h.1]; decide⟩
  · exact ⟨Or.inr (Or.inl h), by rw [h]; decide⟩
theorem TTs_i {a : Nat} {K : List Nat} (h : a = 10 ∨ a = 11) : TTs (a :: K) = true :: TTs K := by
  unfold TTs
  have e : (a :: K).count 10 + (a :: K).count 11 = (K.count 10 + K.count 11) + 1 := by
    rcases h with rfl | rfl
    · rw [List.count_cons_self, List.count_cons_of_ne (by decide)]; omega
    · rw [List.count_cons_self, List.count_cons_of_ne (by decide)]; omega
  rw [e, List.replicate_succ]
/-- the class at the sign behind a fact -/
theorem beh_act {x p p' : Nat} {s s' u : ST} {e : Nat → Nat × Nat} {Lc : Nat} {P K : List Nat} {cnt S M pl : Nat} {ld : List Bool} {val : Int32} (h : FS B n R x p p' s s' e Lc P K cnt S ld M) (h11 : gi s 11 11 = 3) (hk : KE B n p' (gi s 11 12)) (a2 : FT s u) (a8 : Tok B n p' (gi u 1 4) pl val) (hne : ¬ (K.count 12 = 0 ∧ (gi u 1 4 = 59 ∨ gi u 1 4 = -1))) : actC u = fX3_readBehindFact u := by
  have u11 : gi u 11 11 = 3 := by rw [a2.1 _ _ (by omega)]; exact h11
  have u12 : gi u 11 12 = gi s 11 12 := a2.1 _ _ (by omega)
  have d10 := h.1.2.2.2.2.2.1
  obtain ⟨k1, k2⟩ := KE_D hk
  rw [← u12] at k1 k2
  have e1 := eoc (u := u) (br := K.count 12) (by rw [a2.1 _ _ (by omega)]; exact h.2.2.1) (by omega)
  rw [if_neg hne] at e1
  unfold actC
  rw [u11, if_neg (show ¬ (3 : Int32) = 0 by decide), if_neg (show ¬ (3 : Int32) = 1 by decide), if_neg (show ¬ (3 : Int32) = 2 by decide), bdS, rs_any k1 a8 (fun i hi => (h.1.2.1.1.2.2 i hi).1), e1, bd_s, if_pos rfl, if_neg k2]
theorem wd_no {p w v : Nat} (h : wdb B n p (txB w) = true) (hl : (txB w).length ≠ (txB v).length) : wdb B n p (txB v) = false := by
  unfold wdb at h ⊢
  simp at h
  simp only [h.1, hl, decide_false, Bool.false_and]
theorem andor {x p p' op wi : Nat} {s s' : ST} {e : Nat → Nat × Nat} {Lc : Nat} {P K : List Nat} {cnt S M : Nat} (h : FS B n R x p p' s s' e Lc P K cnt S [true] M) (hbl : bl B n p' = p') (h11 : gi s 11 11 = 3) (hk : KE B n p' (gi s 11 12)) (ho : (op = 10 ∧ wi = 22) ∨ (op = 11 ∧ wi = 23)) (hw : wdb B n p' (txB wi) = true) (hP : ∀ k, k ∈ P → tgN op ≤ tgN k) (hK : ∀ k, k ∈ K.head? → tgN k < tgN op) :
    ∃ y', fX12_opens (nI op) s' = some y' ∧ gi y' 0 27 = nI p' ∧ ∃ w, (∀ y, RnC (x + 1) w y → RnC x s y) ∧ FX xTs s w ∧ FX (uTs R) s' (si y' 0 27 (nI (p' + (txB wi).length))) ∧ FS B n R (x + 1) (p' + (txB wi).length) (p' + (txB wi).length) w (si y' 0 27 (nI (p' + (txB wi).length))) e (Lc + P.length) [] (op :: K) cnt S [] M ∧ gi w 11 11 = 1 ∧ gi w 11 12 = 1 ∧ p < p' + (txB wi).length := by
  have hh := h
  obtain ⟨⟨hC, ⟨tv, v28, v27, v31, v29, v33, v35, vE, hp'⟩, hb, ⟨b1, b2, b3, b4, b5, b6, b7, b8, b9, b10, b11⟩⟩, ⟨h1, h2, h3⟩, h5, h6, h7⟩ := h
  have hlen := sh_32 h6 b3
  have hn := tv.1
  have hop : op = 10 ∨ op = 11 := by omega
  have hwl : 1 ≤ (txB wi).length := by
    obtain ⟨_, _, _, _, _, _, e1, e2, _⟩ := wd_eq
    rcases ho with ⟨_, rfl⟩ | ⟨_, rfl⟩
    · rw [e1]; decide
    · rw [e2]; decide
  rw [hbl] at hb
  obtain ⟨u, pl, a1, a2, a3, a4, a5, a6, a7, a8⟩ := step_ev hC.1 hC.2.2.2.2.2.2.2.2.2.1 hC.2.2.1
  rw [hb] at a3 a5 a7 a8
  have hps : p ≤ p' := by rw [← hb]; exact ru_ge
  obtain ⟨k1, k2, rfl, k4⟩ := wd_tok a8 hw hwl hp'
  have c3s := hC.2.1
  have hxp := hC.2.2.2.2.2.2.2.2.2
  have ac := beh_act hh h11 hk a2 a8 (by rw [k2]; intro q; rcases q.2 with q | q <;> exact absurd q (by decide))
  have hCu := CV_step hC a2 a4 hps (by omega) a6
  obtain ⟨w, w1, w2, w3, w4⟩ := CV_join (st := 1) (op := op) hCu (by omega) b4 (by omega) (by omega) b5 b6 hP hK
  obtain ⟨w', hw'⟩ : ∃ w', si w 11 12 1 = w' := ⟨_, rfl⟩
  have act : actC u = some w' := by
    rw [ac]
    unfold fX3_readBehindFact
    rcases ho with ⟨rfl, rfl⟩ | ⟨rfl, rfl⟩
    · have i1 := wordC (w := 22) (by decide) (a2.TC hC.1) a3 a4 hp' a8
      rw [if_pos hw] at i1
      have i1 : fX6_isWord 1000022 u = some 1 := i1
      have w1 : fX3_join 12 1 u = some w := w1
      rw [i1, bd_s, if_neg n10, w1, bd_s, lt_v, hw', bd_s]
    · have i1 := wordC (w := 22) (by decide) (a2.TC hC.1) a3 a4 hp' a8
      have i2 := wordC (w := 23) (by decide) (a2.TC hC.1) a3 a4 hp' a8
      obtain ⟨_, _, _, _, _, _, e1, e2, _⟩ := wd_eq
      rw [wd_no hw (by rw [e1, e2]; decide), if_neg nft] at i1
      rw [if_pos hw] at i2
      have i1 : fX6_isWord 1000022 u = some 0 := i1
      have i2 : fX6_isWord 1000023 u = some 1 := i2
      have w1 : fX3_join 13 1 u = some w := w1
      rw [i1, bd_s, if_pos rfl, i2, bd_s, if_neg n10, w1, bd_s, lt_v, hw', bd_s]
  have o1 := op_1 hop h1 (by omega)
  obtain ⟨y', hy⟩ : ∃ w, si (si s' 33 K.length (nI op)) 0 34 (nI (K.length + 1)) = w := ⟨_, rfl⟩
  rw [hy] at o1
  have c9 : (op :: K).count 9 = K.count 9 := List.count_cons_of_ne (by omega)
  have c12 : (op :: K).count 12 = K.count 12 := List.count_cons_of_ne (by omega)
  have fz : FX (uTs R) s' (si y' 0 27 (nI (p' + (txB wi).length))) := by
    rw [← hy]
    exact ((FX.si (by unfold uTs uSm; omega)).trans (FX.si (by unfold uTs uSm; omega))).trans (FX.si (by unfold uTs uSm; omega))
  obtain ⟨tc, c3, c2, l2, l7, l8, l9, l12, l15, hp2, hx2⟩ := w2
  refine ⟨y', o1, by rw [← hy, gi_dif (by decide), gi_ne (by decide)]; exact v27, w', fun y hy => tok_step (by omega) (by rw [h11]; decide) c3s a1 act hy, ?_, fz, ⟨⟨⟨?_, ?_, ?_, ?_, ?_, ?_, ?_, fun i hi => ?_, ?_, hp2, hx2⟩, ⟨FX_TV (fz.w uT_R) tv, ?_, gi_same _ _ _ _, ?_, ?_, ?_, ?_, fun i hi => ?_, a6⟩, rfl, ⟨b1, b2, by rw [c9, c12]; exact b3, by simp; omega, fun j hj => absurd hj (by simp), fun q hq => ?_, b7, by rw [TTs_i hop]; exact b8, by rw [TTs_i hop, c9]; exact b9, b10, by rw [TTs_i hop]; exact b11⟩⟩, ⟨?_, ⟨?_, ?_⟩, ?_⟩, ?_, ⟨by omega, fun l hl => Or.inr (Or.inl (hK l hl)), h6⟩, by omega⟩, ?_, ?_, by omega⟩
  · rw [← hw']
    exact (((FT_S a2).w xS_T).trans (w4.w (by unfold eJ xTs xCm xSm; omega))).trans (FX.si (by unfold xTs xCm xSm; omega))
  · rw [← hw']; exact FX_TC (FX.si (by unfold xRl; omega)) tc
  · rw [← hw', gi_ne (by decide)]; exact c3
  · rw [← hw', gi_ne (by decide)]; exact c2
  · rw [← hw', gi_dif (by decide)]; exact l2
  · rw [← hw', gi_dif (by decide)]; exact l7
  · rw [← hw', gi_dif (by decide)]; exact l8
  · rw [← hw', gi_dif (by decide), c9, c12]; exact l9
  · rw [← hw', gi_ne (by decide)]; exact l12 i hi
  · exact Stk_w _ (fun i _ => by rw [← hw', gi_ne (by decide)]) l15
  · rw [gi_dif (by decide), ← hy, gi_dif (by decide), gi_ne (by decide)]; exact v28
  · rw [gi_dif (by decide), ← hy, gi_dif (by decide), gi_ne (by decide)]; exact v31
  · rw [gi_dif (by decide), ← hy, gi_dif (by decide), gi_ne (by decide)]; exact v29
  · rw [gi_dif (by decide), ← hy, gi_dif (by decide), gi_ne (by decide)]; exact v33
  · rw [gi_dif (by decide), ← hy, gi_dif (by decide), gi_ne (by decide)]; exact v35
  · rw [gi_ne (by decide), gi_ne (by decide), ← hy, gi_ne (by decide), gi_ne (by decide), gi_ne (by decide), gi_ne (by decide)]; exact vE i hi
  · rcases List.mem_cons.1 hq with q2 | q2
    · omega
    · exact b6 q (List.mem_append_right _ q2)
  · rw [gi_dif (by decide), ← hy, gi_same]; rfl
  · rw [gi_ne (by decide), ← hy, gi_ne (by decide), gi_same]
  · exact Stk_w _ (fun i hi => by rw [gi_ne (by decide), ← hy, gi_ne (by decide), gi_dif (by omega)]) h2
  · rw [gi_dif (by decide), ← hy, gi_dif (by decide), gi_ne (by decide), c9, c12]; exact h3
  · rw [← hw', gi_dif (by decide), w4 _ _ (by unfold eJ; omega), a2.1 _ _ (by omega), c12]; exact h5
  · rw [← hw', gi_dif (by decide)]; exact w3
  · rw [← hw', gi_same]
end SF
