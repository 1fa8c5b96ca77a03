/-! RULES: not, brackets, and, or -/
section SD
variable {B : Nat → Nat} {n R : Nat}
theorem gd_ev {s : ST} {k m dp br : Nat} (hk : k = 9 ∨ k = 12) (h9 : gi s 11 9 = nI dp) (hd : dp < 10) (h7 : gi s 11 7 = nI m) (hm : m < 64) (h10 : gi s 11 10 = nI br) : fX3_goDeeper (nI (sg k)) s = some (si (si (si (si s 11 9 (nI (dp + 1))) 11 10 (nI (br + if k = 12 then 1 else 0))) 15 m (nI (sg k))) 11 7 (nI (m + 1))) := by
  unfold fX3_goDeeper
  have e1 : (if nI (sg k) = 15 then some 1 else some 0 : Option Int32) = some (nI (if k = 12 then 1 else 0)) := by
    rcases hk with rfl | rfl <;> rfl
  have hl := lw_ev (s := si (si s 11 9 (nI (dp + 1))) 11 10 (nI (br + if k = 12 then 1 else 0))) (k := k) (m := m) (by rw [gi_dif (by decide), gi_dif (by decide)]; exact h7) hm
  rw [if_pos (show gi s 11 9 < 10 by rw [h9, nj_ltr (by omega) (by decide)]; exact hd), lt_v, h9, nj_addr, e1, bd_s, lt_v, gi_dif (by decide), h10, nj_add, hl, bd_s]
theorem op_ev {s : ST} {k m dp : Nat} (hk : k = 9 ∨ k = 12) (h32 : gi s 0 32 = nI dp) (hd : dp < 10) (h34 : gi s 0 34 = nI m) (hm : m < 400) : fX12_opens (nI k) s = some (si (si (si s 0 32 (nI (dp + 1))) 33 m (nI k)) 0 34 (nI (m + 1))) := by
  unfold fX12_opens
  have e1 : (if nI k = 9 then some true else if nI k = 12 then some true else some false : Option Bool) = some true := by
    rcases hk with rfl | rfl <;> rfl
  rw [e1, bd_s, if_pos rfl, h32, if_neg (show ¬ nI dp = 10 by rw [nj_eqr (by omega) (by decide)]; omega), bd_s, lt_v, h32, nj_addr, bd_s, gi_dif (by decide), h34, ck_t (inb_t (by omega) (by decide)), lt_v, lt_v, gi_ne (by decide), gi_dif (by decide), h34, nj_addr, ix_nI (by omega)]
theorem op_10 {s : ST} {k m st : Nat} (hk : k = 9 ∨ k = 12) (h32 : gi s 0 32 = nI 10) (h0 : gi s 0 28 = 0) (h27 : gi s 0 27 = nI st) (h34 : gi s 0 34 = nI m) (hm : m < 400) : fX12_opens (nI k) s = some (si (si (si (si s 0 28 (nI (1 + 8 * st + 2))) 0 32 (nI 11)) 33 m (nI k)) 0 34 (nI (m + 1))) := by
  unfold fX12_opens
  have e1 : (if nI k = 9 then some true else if nI k = 12 then some true else some false : Option Bool) = some true := by
    rcases hk with rfl | rfl <;> rfl
  have hf := fail0 (s := s) (c := 2) (p := st) h0
  have hf : fX12_fails 2 (nI st) s = some (si s 0 28 (nI (1 + 8 * st + 2))) := hf
  rw [e1, bd_s, if_pos rfl, h32, if_pos (show nI 10 = 10 from rfl), h27, hf, bd_s, bd_s, lt_v, gi_dif (by decide), h32, nj_addr, bd_s, gi_dif (by decide), gi_dif (by decide), h34, ck_t (inb_t (by omega) (by decide)), lt_v, lt_v, gi_ne (by decide), gi_dif (by decide), gi_dif (by decide), h34, nj_addr, ix_nI (by omega)]
theorem op_1 {s : ST} {k m : Nat} (hk : k = 10 ∨ k = 11) (h34 : gi s 0 34 = nI m) (hm : m < 400) : fX12_opens (nI k) s = some (si (si s 33 m (nI k)) 0 34 (nI (m + 1))) := by
  unfold fX12_opens
  have e1 : (if nI k = 9 then some true else if nI k = 12 then some true else some false : Option Bool) = some false := by
    rcases hk with rfl | rfl <;> rfl
  rw [e1, bd_s, if_neg nft, bd_s, h34, ck_t (inb_t (by omega) (by decide)), lt_v, lt_v, gi_ne (by decide), h34, nj_addr, ix_nI (by omega)]
theorem sh_4 {K : List Nat} (h : sh K) : ∀ k, k ∈ K.head? → tgN k < 4 ∧ (k = 9 ∨ k = 10 ∨ k = 11 ∨ k = 12) := fun k hk => by
  cases K with
  | nil => simp at hk
  | cons u K =>
    simp at hk
    subst hk
    refine ⟨?_, h.1⟩
    rcases h.1 with rfl | rfl | rfl | rfl <;> decide
theorem TTs_o {a : Nat} {K : List Nat} (h : a = 9 ∨ a = 12) : TTs (a :: K) = TTs K := by
  unfold TTs
  rw [List.count_cons_of_ne (by omega), List.count_cons_of_ne (by omega)]
theorem xT_R : ∀ a j, xTs a j → xRl a j := by unfold xTs xCm xSm xRl; omega
theorem xS_T : ∀ a j, xSm a j → xTs a j := fun _ _ q => Or.inl (Or.inl q)
theorem xC_T : ∀ a j, xCm a j → xTs a j := fun _ _ q => Or.inl q
theorem uT_R : ∀ a j, uTs R a j → uRl R a j := fun a j h => Or.inl h
/-- a bracket, a not -/
theorem deep {x p p' pl k c : Nat} {s s' z : ST} {e : Nat → Nat × Nat} {Lc : Nat} {K : List Nat} {cnt S M : Nat} (h : FS B n R x p p' s s' e Lc [] K cnt S [] M) (h4 : ¬ gi s 11 11 = 4) (hbl : bl B n p' = p') (hk : k = 9 ∨ k = 12) (hc : c = if k = 9 then 3 else 1) (hz : fX6_step s = some z) (hf : FT s z) (hpl : gi z 1 2 = nI pl) (hpc : pl = p' + c) (hpn : pl ≤ n) (ha : actC z = fX3_goDeeper (nI (sg k)) z) :
    (∃ y', fX12_opens (nI k) s' = some y' ∧ gi y' 0 27 = nI p' ∧ ∃ w M2, (∀ y, RnC (x + 1) w y → RnC x s y) ∧ FX xTs s w ∧ FX (uTs R) s' (si y' 0 27 (nI pl)) ∧ FS B n R (x + 1) pl pl w (si y' 0 27 (nI pl)) e Lc [] (k :: K) cnt S [] M2 ∧ gi w 11 11 = gi s 11 11 ∧ gi w 11 12 = gi s 11 12) ∨
    ∃ y', fX12_opens (nI k) s' = some y' ∧ gi y' 0 27 = nI p' ∧ FX (uTs R) s' (si y' 0 27 (nI pl)) ∧ ∃ f y, FF B n 400 f (si y' 0 27 (nI pl)) ∧ RnC x s y ∧ gi y 1 3 = nI f ∧ FX xRl s y := by
  obtain ⟨⟨hC, ⟨tv, v28, v27, v31, v29, v33, v35, vE, hp'⟩, hb, ⟨b1, b2, b3, b4, b5, b6, b7, b8, b9, b10, b11⟩⟩, ⟨h1, h2, h3⟩, h5, h6, h7⟩ := h
  have hlen := sh_32 h6 b3
  have hps : p ≤ p' := by
    rw [hbl] at hb
    rw [← hb]; exact ru_ge
  have hn := tv.1
  have hc1 : 1 ≤ c := by rw [hc]; split <;> omega
  obtain ⟨tc, c3, c2, l2, l7, l8, l9, l12, l15, hp, hx⟩ := CV_step hC hf hpl hps (by omega) hpn
  have c3s := hC.2.1
  have l7 : gi z 11 7 = nI K.length := l7
  have l9 : gi z 11 9 = nI (K.count 9 + K.count 12) := l9
  have z10 : gi z 11 10 = nI (K.count 12) := by rw [hf.1 _ _ (by omega)]; exact h5
  have hxx := hC.2.2.2.2.2.2.2.2.2
  by_cases cd : K.count 9 + K.count 12 < 10
  · left
    have g1 := gd_ev hk l9 cd l7 (by omega) z10
    have o1 := op_ev hk h3 cd h1 (by omega)
    obtain ⟨w, hw⟩ : ∃ w, si (si (si (si z 11 9 (nI (K.count 9 + K.count 12 + 1))) 11 10 (nI (K.count 12 + if k = 12 then 1 else 0))) 15 K.length (nI (sg k))) 11 7 (nI (K.length + 1)) = w := ⟨_, rfl⟩
    obtain ⟨y', hy⟩ : ∃ w, si (si (si s' 0 32 (nI (K.count 9 + K.count 12 + 1))) 33 K.length (nI k)) 0 34 (nI (K.length + 1)) = w := ⟨_, rfl⟩
    rw [hw] at g1
    rw [hy] at o1
    have c9 : (k :: K).count 9 + (k :: K).count 12 = K.count 9 + K.count 12 + 1 := by
      rcases hk with rfl | rfl
      · rw [List.count_cons_self, List.count_cons_of_ne (by decide)]; omega
      · rw [List.count_cons_self, List.count_cons_of_ne (by decide)]; omega
    have c12 : (k :: K).count 12 = K.count 12 + if k = 12 then 1 else 0 := by
      rcases hk with rfl | rfl
      · rw [List.count_cons_of_ne (by decide)]; rfl
      · rw [List.count_cons_self]; rfl
    have cg : (k :: K).count 9 = K.count 9 + if k = 9 then 1 else 0 := by
      rcases hk with rfl | rfl
      · rw [List.count_cons_self]; rfl
      · rw [List.count_cons_of_ne (by decide)]; rfl
    have fy : FX (uTs R) s' y' := by
      rw [← hy]
      exact ((FX.si (by unfold uTs uSm; omega)).trans (FX.si (by unfold uTs uSm; omega))).trans (FX.si (by unfold uTs uSm; omega))
    have fz : FX (uTs R) s' (si y' 0 27 (nI pl)) := fy.trans (FX.si (by unfold uTs uSm; omega))
    have y27 : gi y' 0 27 = nI p' := by rw [← hy, gi_dif (by decide), gi_ne (by decide), gi_dif (by decide)]; exact v27
    have M3 : 3 * (M + if k = 9 then 1 else 0) ≤ pl := by
      rw [hpc, hc]; split <;> omega
    refine ⟨y', o1, y27, w, M + (if k = 9 then 1 else 0), fun y hy => tok_step (by omega) h4 c3s hz (by rw [ha]; exact g1) hy, ?_, fz, ⟨⟨⟨?_, ?_, ?_, ?_, ?_, ?_, ?_, fun i hi => ?_, ⟨?_, ?_⟩, hp, hx⟩, ⟨FX_TV (fz.w uT_R) tv, ?_, gi_same _ _ _ _, ?_, ?_, ?_, ?_, fun i hi => ?_, hpn⟩, rfl, ⟨b1, b2, by omega, by simp; omega, fun j hj => absurd hj (by simp), fun q hq => ?_, b7, by rw [TTs_o hk]; exact b8, by rw [TTs_o hk, cg]; omega, by omega, by rw [TTs_o hk]; exact b11⟩⟩, ⟨?_, ⟨?_, ?_⟩, ?_⟩, ?_, ⟨?_, fun l hl => ?_, h6⟩, M3⟩, ?_, ?_⟩
    · rw [← hw]
      exact ((((FT_S hf).w xS_T).trans (FX.si (by unfold xTs xCm xSm; omega))).trans (FX.si (by unfold xTs xCm xSm; omega))).trans ((FX.si (by unfold xTs xCm xSm; omega)).trans (FX.si (by unfold xTs xCm xSm; omega)))
    · rw [← hw]
      exact FX_TC ((((FX.si (by unfold xRl; omega)).trans (FX.si (by unfold xRl; omega))).trans (FX.si (by unfold xRl; omega))).trans (FX.si (by unfold xRl; omega))) tc
    · rw [← hw, gi_ne (by decide), gi_ne (by decide), gi_ne (by decide), gi_ne (by decide)]; exact c3
    · rw [← hw, gi_ne (by decide), gi_ne (by decide), gi_ne (by decide), gi_ne (by decide)]; exact c2
    · rw [← hw, gi_dif (by decide), gi_ne (by decide), gi_dif (by decide), gi_dif (by decide)]; exact l2
    · rw [← hw, gi_same]; rfl
    · rw [← hw, gi_dif (by decide), gi_ne (by decide), gi_dif (by decide), gi_dif (by decide)]; exact l8
    · rw [← hw, gi_dif (by decide), gi_ne (by decide), gi_dif (by decide), gi_same, c9]; rfl
    · rw [← hw, gi_ne (by decide), gi_ne (by decide), gi_ne (by decide), gi_ne (by decide)]; exact l12 i hi
    · rw [List.length_map, ← hw, gi_ne (by decide)]; exact gi_same _ _ _ _
    · exact Stk_w _ (fun i hi => by rw [← hw, gi_ne (by decide), gi_dif (by simp at hi; omega), gi_ne (by decide), gi_ne (by decide)]) l15
    · rw [gi_dif (by decide), ← hy, gi_dif (by decide), gi_ne (by decide), gi_dif (by decide)]; exact v28
    · rw [gi_dif (by decide), ← hy, gi_dif (by decide), gi_ne (by decide), gi_dif (by decide)]; exact v31
    · rw [gi_dif (by decide), ← hy, gi_dif (by decide), gi_ne (by decide), gi_dif (by decide)]; exact v29
    · rw [gi_dif (by decide), ← hy, gi_dif (by decide), gi_ne (by decide), gi_dif (by decide)]; exact v33
    · rw [gi_dif (by decide), ← hy, gi_dif (by decide), gi_ne (by decide), gi_dif (by decide)]; exact v35
    · rw [gi_ne (by decide), gi_ne (by decide), ← hy, gi_ne (by decide), gi_ne (by decide), gi_ne (by decide), gi_ne (by decide), gi_ne (by decide), gi_ne (by decide)]; exact vE i hi
    · rcases List.mem_cons.1 hq with q2 | q2
      · omega
      · exact b6 q q2
    · rw [gi_dif (by decide), ← hy, gi_same]; rfl
    · rw [gi_ne (by decide), ← hy, gi_ne (by decide), gi_same]
    · exact Stk_w _ (fun i hi => by rw [gi_ne (by decide), ← hy, gi_ne (by decide), gi_dif (by omega), gi_ne (by decide)]) h2
    · rw [gi_dif (by decide), ← hy, gi_dif (by decide), gi_ne (by decide), gi_same, c9]
    · rw [← hw, gi_dif (by decide), gi_ne (by decide), gi_same, c12]
    · omega
    · obtain ⟨_, q⟩ := sh_4 h6 l hl
      rcases hk with rfl | rfl
      · rcases q with rfl | rfl | rfl | rfl
        · exact Or.inr (Or.inr ⟨rfl, rfl⟩)
        · exact Or.inr (Or.inl (by decide))
        · exact Or.inr (Or.inl (by decide))
        · exact Or.inr (Or.inl (by decide))
      · exact Or.inl rfl
    · rw [← hw, gi_dif (by decide), gi_ne (by decide), gi_dif (by decide), gi_dif (by decide)]; exact hf.1 _ _ (by omega)
    · rw [← hw, gi_dif (by decide), gi_ne (by decide), gi_dif (by decide), gi_dif (by decide)]; exact hf.1 _ _ (by omega)
  · right
    have cd : K.count 9 + K.count 12 = 10 := by omega
    rw [cd] at h3 l9
    have o1 := op_10 hk h3 v28 v27 h1 (by omega)
    obtain ⟨y', hy⟩ : ∃ w, si (si (si (si s' 0 28 (nI (1 + 8 * p' + 2))) 0 32 (nI 11)) 33 K.length (nI k)) 0 34 (nI (K.length + 1)) = w := ⟨_, rfl⟩
    rw [hy] at o1
    have fy : FX (uTs R) s' (si y' 0 27 (nI pl)) := by
      rw [← hy]
      exact ((((FX.si (by unfold uTs uSm; omega)).trans (FX.si (by unfold uTs uSm; omega))).trans (FX.si (by unfold uTs uSm; omega))).trans (FX.si (by unfold uTs uSm; omega))).trans (FX.si (by unfold uTs uSm; omega))
    have z3 : gi z 1 3 = 0 := c3
    obtain ⟨z0, pl0, a1, a2, a3, _⟩ := step_ev hC.1 hC.2.2.2.2.2.2.2.2.2.1 hC.2.2.1
    obtain rfl : z0 = z := Option.some.inj (a1.symm.trans hz)
    rw [hb, hbl] at a3
    have bm := blame0 (c := 2) z3 a3
    have bm : fX6_blame 2 z0 = some (si z0 1 3 (nI (1 + 8 * p' + 2))) := bm
    have ne : ¬ gi (si z0 1 3 (nI (1 + 8 * p' + 2))) 1 3 = 0 := by rw [gi_same, nj_eqr (by omega) (by decide)]; omega
    refine ⟨y', o1, by rw [← hy, gi_dif (by decide), gi_ne (by decide), gi_dif (by decide), gi_dif (by decide)]; exact v27, fy, 1 + 8 * p' + 2, si z0 1 3 (nI (1 + 8 * p' + 2)), ⟨⟨FX_TV (fy.w uT_R) tv, by rw [fy _ _ (by unfold uTs uSm; omega)]; exact v35⟩, by omega, by omega, ?_, pl, by omega, gi_same _ _ _ _⟩, tok_step (by omega) h4 c3s hz ?_ (stop_f (by omega) ne), gi_same _ _ _ _, ((FT_S hf).w xS_R).trans (FX.si (by unfold xRl; omega))⟩
    · rw [gi_dif (by decide), ← hy, gi_dif (by decide), gi_ne (by decide), gi_dif (by decide), gi_same]
    · rw [ha]
      unfold fX3_goDeeper
      rw [if_neg (show ¬ gi z0 11 9 < 10 by rw [l9, nj_ltr (by omega) (by decide)]; omega), bm, bd_s]
end SD
