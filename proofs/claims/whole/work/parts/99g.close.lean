/-! RULES: a bracket's end -/
section SG
variable {B : Nat → Nat} {n R : Nat}
theorem wd_nl {p w : Nat} (h : ¬ (p < n ∧ isL (B p) = true)) (hl : 1 ≤ (txB w).length) : wdb B n p (txB w) = false := by
  unfold wdb
  rw [le_no h, show p - p = 0 by omega]
  simp only [show (0 = (txB w).length) = False from eq_false (by omega), decide_false, Bool.false_and]
theorem imx_p (m : Nat) (h : m < 1000) : imx 0 (nI (m + 1) - 1) = nI m := by
  have e1 : nI (m + 1) - 1 = nI m := by rw [nj_subr (by omega)]; rfl
  rw [e1]
  unfold imx
  by_cases c : m = 0
  · rw [c]; rfl
  · rw [if_pos (by rw [nj_ltl (by decide) (by omega)]; omega)]
theorem close {x p p' : Nat} {s s' : ST} {e : Nat → Nat × Nat} {Lc : Nat} {P K : List Nat} {cnt S M : Nat} (h : FS B n R x p p' s s' e Lc P (12 :: K) cnt S [true] M) (hbl : bl B n p' = p') (h11 : gi s 11 11 = 3) (hk : KE B n p' (gi s 11 12)) (hB : p' < n ∧ B p' = 93) (hP : ∀ k, k ∈ P → 1 ≤ tgN k) :
    ∃ w, (∀ y, RnC (x + 1) w y → RnC x s y) ∧ FX xTs s w ∧ FS B n R (x + 1) (p' + 1) (p' + 1) w (si (si (si s' 0 27 (nI (p' + 1))) 0 34 (nI K.length)) 0 32 (nI (K.count 9 + K.count 12))) e (Lc + P.length) [] K cnt S [true] M ∧ gi w 11 11 = 3 ∧ gi w 11 12 = 3 ∧ p < p' + 1 := by
  have hh := h
  obtain ⟨⟨hC, ⟨tv, v28, v27, v31, v29, v33, v35, vE, hp'⟩, hb, ⟨b1, b2, b3, b4, b5, b6, b7, b8, b9, b10, b11⟩⟩, ⟨h1, h2, h3⟩, h5, h6, h7⟩ := h
  have hlen : K.length + 1 ≤ 32 := sh_32 h6 b3
  have hn := tv.1
  have c12 : (12 :: K).count 12 = K.count 12 + 1 := List.count_cons_self
  have c9 : (12 :: K).count 9 = K.count 9 := List.count_cons_of_ne (by decide)
  rw [hbl] at hb
  obtain ⟨u, pl, a1, a2, a3, a4, a5, a6, a7, a8⟩ := step_ev hC.1 hC.2.2.2.2.2.2.2.2.2.1 hC.2.2.1
  rw [hb] at a3 a5 a7 a8
  have hps : p ≤ p' := by rw [← hb]; exact ru_ge
  obtain ⟨k1, rfl⟩ := Tok_sign a8 hB.1 (by rw [hB.2]; rfl) (by rw [hB.2]; rfl) (by rw [hB.2]; decide) (by rw [hB.2]; decide)
  rw [hB.2] at k1
  have c3s := hC.2.1
  have hxp := hC.2.2.2.2.2.2.2.2.2
  have ac := beh_act hh h11 hk a2 a8 (by rw [c12]; omega)
  have hCu := CV_step hC a2 a4 hps (by omega) a6
  obtain ⟨w, w1, w2, w3⟩ := CV_flush (a := 1) hCu (by omega) b4 (by omega) b5 b6 hP (fun k hk => by simp at hk; subst hk; decide)
  obtain ⟨tc, c3, c2, l2, l7, l8, l9, l12, l15, hp2, hx2⟩ := w2
  have l7 : gi w 11 7 = nI (K.length + 1) := l7
  have l9 : gi w 11 9 = nI (K.count 9 + K.count 12 + 1) := by rw [l9, c9, c12]; rfl
  have l10 : gi w 11 10 = nI (K.count 12 + 1) := by rw [w3 _ _ (by unfold eW; omega), a2.1 _ _ (by omega), h5, c12]
  obtain ⟨w', hw'⟩ : ∃ w', si (si (si (si w 11 7 (nI K.length)) 11 9 (nI (K.count 9 + K.count 12))) 11 10 (nI (K.count 12))) 11 12 3 = w' := ⟨_, rfl⟩
  have nl : ¬ (p' < n ∧ isL (B p') = true) := by rw [hB.2]; exact fun q => absurd q.2 (by decide)
  have u10 : gi u 11 10 = nI (K.count 12 + 1) := by rw [a2.1 _ _ (by omega), h5, c12]
  have act : actC u = some w' := by
    rw [ac]
    unfold fX3_readBehindFact
    have i1 := wordC (w := 22) (by decide) (a2.TC hC.1) a3 a4 hp' a8
    have i2 := wordC (w := 23) (by decide) (a2.TC hC.1) a3 a4 hp' a8
    rw [wd_nl nl (by decide +kernel), if_neg nft] at i1 i2
    have i1 : fX6_isWord 1000022 u = some 0 := i1
    have i2 : fX6_isWord 1000023 u = some 0 := i2
    have t15 : fX4_tightnessOf 15 u = some 0 := tg_ev (k := 12) (s := u) (by omega)
    have w1 : fX3_writeWaiting (0 + 1) u = some w := w1
    have s1 : nI (K.count 9 + K.count 12 + 1) - 1 = nI (K.count 9 + K.count 12) := by rw [nj_subr (by omega)]; rfl
    have s2 : nI (K.count 12 + 1) - 1 = nI (K.count 12) := by rw [nj_subr (by omega)]; rfl
    rw [i1, bd_s, if_pos rfl, i2, bd_s, if_pos rfl, if_pos (show gi u 1 4 = 93 from k1), if_neg (show ¬ gi u 11 10 ≤ 0 by rw [u10, nj_ler (by omega) (by decide)]; omega), bd_s, if_pos rfl, t15, bd_s, w1, bd_s, lt_v, l7, imx_p _ (by omega), lt_v, gi_dif (by decide), l9, s1, lt_v, gi_dif (by decide), gi_dif (by decide), l10, s2, lt_v, hw', bd_s]
  have T1 : TTs (12 :: K) = TTs K := TTs_o (by omega)
  rw [T1] at b8 b9 b11
  rw [c9] at b9
  refine ⟨w', fun y hy => tok_step (by omega) (by rw [h11]; decide) c3s a1 act hy, ?_, ⟨⟨⟨?_, ?_, ?_, ?_, ?_, ?_, ?_, fun i hi => ?_, ?_, hp2, hx2⟩, ⟨?_, ?_, ?_, ?_, ?_, ?_, ?_, fun i hi => ?_, a6⟩, rfl, ⟨b1, b2, by omega, by simp; omega, fun j hj => absurd hj (by simp), fun q hq => b6 q (List.mem_append_right _ (List.mem_cons_of_mem _ hq)), b7, b8, b9, b10, b11⟩⟩, ⟨?_, ?_, ?_⟩, ?_, h6.2.2, by omega⟩, ?_, ?_, by omega⟩
  · rw [← hw']
    exact ((FT_S a2).w xS_T).trans ((w3.w (by unfold eW xTs xCm xSm; omega)).trans ((((FX.si (by unfold xTs xCm xSm; omega)).trans (FX.si (by unfold xTs xCm xSm; omega))).trans (FX.si (by unfold xTs xCm xSm; omega))).trans (FX.si (by unfold xTs xCm xSm; omega))))
  · rw [← hw']; exact FX_TC ((((FX.si (by unfold xRl; omega)).trans (FX.si (by unfold xRl; omega))).trans (FX.si (by unfold xRl; omega))).trans (FX.si (by unfold xRl; omega))) tc
  · rw [← hw', gi_ne (by decide), gi_ne (by decide), gi_ne (by decide), gi_ne (by decide)]; exact c3
  · rw [← hw', gi_ne (by decide), gi_ne (by decide), gi_ne (by decide), gi_ne (by decide)]; exact c2
  · rw [← hw', gi_dif (by decide), gi_dif (by decide), gi_dif (by decide), gi_dif (by decide)]; exact l2
  · rw [← hw', gi_dif (by decide), gi_dif (by decide), gi_dif (by decide), gi_same]; rfl
  · rw [← hw', gi_dif (by decide), gi_dif (by decide), gi_dif (by decide), gi_dif (by decide)]; exact l8
  · rw [← hw', gi_dif (by decide), gi_dif (by decide), gi_same]; rfl
  · rw [← hw', gi_ne (by decide), gi_ne (by decide), gi_ne (by decide), gi_ne (by decide)]; exact l12 i hi
  · exact Stk_w _ (fun i _ => by rw [← hw', gi_ne (by decide), gi_ne (by decide), gi_ne (by decide), gi_ne (by decide)]) l15.2
  · exact TV_si (TV_si (TV_si tv (by decide)) (by decide)) (by decide)
  · rw [gi_dif (by decide), gi_dif (by decide), gi_dif (by decide)]; exact v28
  · rw [gi_dif (by decide), gi_dif (by decide), gi_same]
  · rw [gi_dif (by decide), gi_dif (by decide), gi_dif (by decide)]; exact v31
  · rw [gi_dif (by decide), gi_dif (by decide), gi_dif (by decide)]; exact v29
  · rw [gi_dif (by decide), gi_dif (by decide), gi_dif (by decide)]; exact v33
  · rw [gi_dif (by decide), gi_dif (by decide), gi_dif (by decide)]; exact v35
  · rw [gi_ne (by decide), gi_ne (by decide), gi_ne (by decide), gi_ne (by decide), gi_ne (by decide), gi_ne (by decide)]; exact vE i hi
  · rw [gi_dif (by decide), gi_same]
  · exact Stk_w _ (fun i _ => by rw [gi_ne (by decide), gi_ne (by decide), gi_ne (by decide)]) h2.2
  · rw [gi_same]
  · rw [← hw', gi_dif (by decide), gi_same]
  · rw [← hw', gi_dif (by decide), gi_dif (by decide), gi_dif (by decide), gi_dif (by decide), w3 _ _ (by unfold eW; omega), a2.1 _ _ (by omega)]; exact h11
  · rw [← hw', gi_same]
end SG
