/-! RULE -/
theorem rule_ok {t : PH} {s s' : ST} {d : Nat} (h : INV t s s' d) (ht : t.1 + 60 < 1000000) : A3 t (d + 1) (fX11_rule t s) (fX12_rule s') := by
  obtain ⟨B, n, tc, tv⟩ := TpR_T h.1.1
  have hn := tc.1
  have w35 : gi s' 0 35 = 14 := h.1.2.1
  have hk := h.1.2.2
  obtain ⟨R, own, r0, r1, r2, -⟩ := hk
  have r1 : gi s 0 4 = nI R := r1
  have r2 : gi s' 0 30 = nI R := r2
  unfold fX11_rule fX12_rule
  rw [r1, r2]
  by_cases c6 : R = 6
  · rw [if_neg (show ¬ nI R < 6 by rw [nj_ltr (by omega) (by decide)]; omega), if_pos (show nI R = 6 by rw [c6]; rfl)]
    exact ⟨-1, t, s, s', rfl, rfl, INV_mono h (by omega), by omega⟩
  have hR6 : R < 6 := by omega
  rw [if_pos (show nI R < 6 by rw [nj_ltr (by omega) (by decide)]; omega), if_neg (show ¬ nI R = 6 by rw [nj_eqr (by omega) (by decide)]; omega)]
  obtain ⟨s1, hs1⟩ : ∃ z, si (si (si (si (si (si (si (si (si s 1 2 0) 1 3 0) 11 2 0) 11 5 0) 11 7 0) 11 8 0) 11 9 0) 11 10 0) 11 11 0 = z := ⟨_, rfl⟩
  have c1 : FX xRl s s1 := by
    rw [← hs1]
    exact ((((((((FX.si (by unfold xRl; omega)).trans (FX.si (by unfold xRl; omega))).trans (FX.si (by unfold xRl; omega))).trans (FX.si (by unfold xRl; omega))).trans (FX.si (by unfold xRl; omega))).trans (FX.si (by unfold xRl; omega))).trans (FX.si (by unfold xRl; omega))).trans (FX.si (by unfold xRl; omega))).trans (FX.si (by unfold xRl; omega))
  have d1 : gi s1 1 2 = 0 ∧ gi s1 1 3 = 0 ∧ gi s1 11 2 = 0 ∧ gi s1 11 5 = 0 ∧ gi s1 11 7 = 0 ∧ gi s1 11 8 = 0 ∧ gi s1 11 9 = 0 ∧ gi s1 11 10 = 0 ∧ gi s1 11 11 = 0 := by
    rw [← hs1]
    simp only [gi_si, Nat.reduceEqDiff, if_true, if_false, and_self]
  obtain ⟨d2, d3, d4, d5, d6, d7, d8, d9, d10⟩ := d1
  obtain ⟨s1', hs1'⟩ : ∃ z, si (si (si (si (si (si s' 0 29 (nI R)) 0 27 0) 0 28 0) 0 31 0) 0 32 0) 0 33 0 = z := ⟨_, rfl⟩
  have v1 : ∀ a j, ¬ uRl R a j → ¬ (a = 0 ∧ j = 29) → gi s1' a j = gi s' a j := fun a j e1 e2 => by
    have e3 : ¬ (a = 0 ∧ (j = 27 ∨ j = 28 ∨ j = 31 ∨ j = 32 ∨ j = 33)) := fun q => e1 (by unfold uRl uTs uSm; omega)
    rw [← hs1', si_x _ _ (by omega), si_x _ _ (by omega), si_x _ _ (by omega), si_x _ _ (by omega), si_x _ _ (by omega), si_x _ _ (by omega)]
  have u1 : gi s1' 0 27 = 0 ∧ gi s1' 0 28 = 0 ∧ gi s1' 0 29 = nI R ∧ gi s1' 0 31 = 0 ∧ gi s1' 0 32 = 0 ∧ gi s1' 0 33 = 0 := by
    rw [← hs1']
    simp only [gi_si, Nat.reduceEqDiff, if_true, if_false, and_self]
  obtain ⟨u27, u28, u29, u31, u32, u33⟩ := u1
  have tc1 : TC s1 B n := ⟨hn, by rw [c1 _ _ (by unfold xRl; omega)]; exact tc.2.1, fun i hi => by rw [c1 _ _ (by unfold xRl; omega)]; exact tc.2.2 i hi⟩
  have tv1 : TV s1' B n := ⟨hn, by rw [v1 _ _ (by unfold uRl uTs uSm; omega) (by omega)]; exact tv.2.1, fun i hi => by rw [v1 _ _ (by unfold uRl uTs uSm; omega) (by omega)]; exact tv.2.2 i hi⟩
  have sv : SV B n R 0 0 0 s1 s1' (fun _ => (0, 0)) 0 [] [] 0 0 0 [] 0 0 := by
    refine ⟨⟨tc1, d3, d2, d4, d6, d7, d8, fun i hi => absurd hi (by omega), trivial, by omega, by omega⟩, ⟨tv1, u28, u27, u31, u29, u33, ?_, fun i hi => absurd hi (by simp), by omega⟩, rfl, ⟨by omega, hR6, by omega, by simp, fun j hj => absurd hj (by simp), fun k hk => absurd hk (by simp), by simp, rfl, by simp, by omega, by simp⟩⟩
    rw [v1 _ _ (by unfold uRl uTs uSm; omega) (by omega)]; exact w35
  obtain ⟨N, z', g1, g2, g3, g4⟩ := rlL 12 0 0 0 0 FUEL s1 s1' (fun _ => (0, 0)) 0 0 0 (fun _ => 0) (fun _ => 0) (by omega) (by rw [FUEL_eq]; omega) sv u32 d9 (by omega) d10 d5 (fun c hc => absurd hc (by omega)) rfl (fun c _ => Nat.le_refl _)
  have g1 : fX12_rule_L27 FUEL 0 1 s1' = some (nI N, 0, z') := g1
  have z29 : gi z' 0 29 = nI R := by rw [g3 _ _ (by unfold uRl uTs uSm; omega)]; exact u29
  have z30 : gi z' 0 30 = nI R := by rw [g3 _ _ (by unfold uRl uTs uSm; omega), v1 _ _ (by unfold uRl uTs uSm; omega) (by omega)]; exact r2
  have vz : ∀ a j, ¬ uRl R a j → ¬ (a = 0 ∧ j = 29) → gi z' a j = gi s' a j := fun a j e1 e2 => (g3 a j e1).trans (v1 a j e1 e2)
  have hst : fX12_starts (si s' 0 29 (nI R)) = some s1' := by
    unfold fX12_starts
    simp only [lt_v, hs1']
  have rd : ∀ y, RnC 0 s1 y → fX3_read s = some (gi y 1 3, y) := fun y hy => by
    obtain ⟨x2, hy⟩ := hy
    have hy : fX3_read_L44 FUEL 0 s1 = some (x2, y) := hy
    unfold fX3_read fX6_rewind
    simp only [lt_v, bd_s, hs1, hy]
  rw [lt_v, hst, bd_s, g1, bd_s, lt_v, gi_dif (by decide), z29, ck_t (inb_t (by omega) (by decide)), lt_v, ix_nI (by omega)]
  obtain ⟨y0', hy0'⟩ : ∃ z, si (si z' 0 26 0) 29 R (nI N) = z := ⟨_, rfl⟩
  have w0 : ∀ a j, ¬ (a = 0 ∧ j = 26) → ¬ (a = 29 ∧ j = R) → gi y0' a j = gi z' a j := fun a j e1 e2 => by rw [← hy0', si_x _ _ e2, si_x _ _ e1]
  rw [hy0']
  have y28 : gi y0' 0 28 = gi z' 0 28 := w0 _ _ (by omega) (by omega)
  have y30 : gi y0' 0 30 = nI R := by rw [w0 _ _ (by omega) (by omega)]; exact z30
  have y26 : gi y0' 0 26 = 0 := by rw [← hy0', gi_ne (by decide), gi_same]
  have y29 : gi y0' 29 R = nI N := by rw [← hy0', gi_same]
  rcases g4 with ⟨fl, y, q1, q2, q3, q4, q5, q6⟩ | ⟨y, q1, q2, q3⟩
  · have nz : ¬ nI fl = 0 := by rw [nj_eqr (by omega) (by decide)]; omega
    have nl : ¬ nI fl ≤ 0 := by rw [nj_ler (by omega) (by decide)]; omega
    have fy : FX xRl s y := c1.trans q6
    obtain ⟨yv, hyv⟩ : ∃ z, si y0' 0 30 (nI R) = z := ⟨_, rfl⟩
    have e1 : yv = y0' := by rw [← hyv]; exact si_id y30
    rw [rd y q1, bd_s, lt_v, q4, if_neg nz, y28, q5, if_neg nz, bd_s, lt_v, y30, show nI R + 0 = nI R by rw [nj_addr]; rfl, hyv, e1, y28, q5, if_neg nl, bd_s]
    refine ⟨(-2) - nI fl, t, si y 1 1 0, y0', rfl, rfl, ⟨IN0_ru (R := R) (R' := R) h.1 (by omega) r1 (by omega) (fun _ _ _ => ⟨rfl, fun _ => rfl⟩) (Nat.le_refl _) (fun _ _ => rfl) (fun _ => rfl) (fun x j hx hx2 => ?_) (gi_same _ _ _ _) y26 ?_ ?_ ?_ y30 (fun a j ha => ?_) (Or.inl rfl), ?_, ?_, ?_⟩, by omega⟩
    · rw [si_x _ _ (by omega), fy _ _ (by unfold xRl; omega)]
    · rw [w0 _ _ (by omega) (by omega), vz _ _ (by unfold uRl uTs uSm; omega) (by omega)]
    · rw [w0 _ _ (by omega) (by omega), vz _ _ (by unfold uRl uTs uSm; omega) (by omega)]
    · rw [si_x _ _ (by omega), fy _ _ (by unfold xRl; omega)]; exact r1
    · rw [w0 _ _ (by omega) (by omega), vz _ _ (by unfold uRl uTs uSm; omega) (by omega)]
    · rw [w0 _ _ (by omega) (by omega), vz _ _ (by unfold uRl uTs uSm; omega) (by omega)]; exact h.2.1
    · rw [w0 _ _ (by omega) (by omega), vz _ _ (by unfold uRl uTs uSm; omega) (by omega)]; exact h.2.2.1
    · rw [w0 _ _ (by omega) (by omega), vz _ _ (by unfold uRl uTs uSm; omega) (by omega)]; exact h.2.2.2
  · obtain ⟨L, e, St, Tt, hN12, k3, k28, k5, k2, kL, kE, kT, kS, kM⟩ := q3
    have fy : FX xRl s y := c1.trans q2
    obtain ⟨y1, hy1⟩ : ∃ z, si y 1 1 0 = z := ⟨_, rfl⟩
    have f1 : ∀ a j, ¬ (a = 1 ∧ j = 1) → gi y1 a j = gi y a j := fun a j e => by rw [← hy1, si_x _ _ e]
    have k4 : gi y1 0 4 = nI R := by rw [f1 _ _ (by omega), fy _ _ (by unfold xRl; omega)]; exact r1
    have k2' : gi y1 11 2 = nI L := by rw [f1 _ _ (by omega)]; exact k2
    have k5' : gi y1 11 5 = nI N := by rw [f1 _ _ (by omega)]; exact k5
    obtain ⟨q, hq⟩ : ∃ q, 48 + t.1 = q := ⟨_, rfl⟩
    obtain ⟨a1, a2, a3, a4, a5, a6, a7, a8, a9, a10, a11, a12, a13, a14⟩ := rul_all (t := t) k2' k5' k4 hR6 (by omega) hN12 hq
    obtain ⟨yv, hyv⟩ : ∃ z, si y0' 0 30 (nI (R + 1)) = z := ⟨_, rfl⟩
    have wv : ∀ a j, ¬ (a = 0 ∧ (j = 26 ∨ j = 30)) → ¬ (a = 29 ∧ j = R) → gi yv a j = gi z' a j := fun a j e1 e2 => by rw [← hyv, si_x _ _ (by omega), w0 _ _ (by omega) e2]
    have yv30 : gi yv 0 30 = nI (R + 1) := by rw [← hyv, gi_same]
    rw [rd y q1, bd_s, lt_v, k3, if_pos rfl, hy1, k2', ck_t (inb_t (by omega) (by decide)), k5', ck_t (inb_t (by omega) (by decide)), k4, ck_t (inb_t (by omega) (by decide)), ck_t (decide_eq_true ht), y28, k28, if_pos rfl, bd_s, lt_v, y30, nj_addr, hyv, wv 0 28 (by omega) (by omega), k28, if_pos (show (0 : Int32) ≤ 0 by decide), bd_s, yv30]
    have hm := y1.2.2
    generalize ruH t y1 = H at a1 a2 a3 a4 a5 a6 a7 a8 a9 a10 a11 a12 a13 a14 ⊢
    refine ⟨nI (R + 1) - 1, uT H, uS H y1.2.2, yv, rfl, rfl, ⟨IN0_ru (R := R) (R' := R + 1) h.1 (by omega) r1 (by omega) (fun x x1 x2 => ⟨?_, fun k => ?_⟩) ?_ (fun j hj => ?_) (fun j => ?_) (fun x j hx hx2 => ?_) ?_ ?_ ?_ ?_ a4 yv30 (fun a j ha => ?_) (Or.inr ⟨rfl, hR6, q, a6, ⟨by omega, a7, hR6, N, L, St, Tt, e, hN12, kL, a8, a9, a10, a11, ?_, fun c hc => ⟨kM c hc, ?_⟩, fun c hc => ?_, fun i hi => ?_⟩, by omega⟩), ?_, ?_, ?_⟩, ?_⟩
    · rw [uT_sh x1]; exact a2 x (by omega)
    · rw [uT_rf x1, a5 x k (by omega) (by omega)]
      show cRr t y1.2.2 x k = cRf t x k
      unfold cRr cRf
      split
      · omega
      · omega
      · omega
      · rfl
    · show t.1 ≤ hN H - 48
      omega
    · exact a5 16 j (by omega) (by omega)
    · exact a5 29 j (by omega) (by omega)
    · show hI H x j = _
      rw [a3 x j (by omega) (by omega), f1 _ _ (by omega), fy _ _ (by unfold xRl; omega)]
    · show hI H 1 1 = _
      rw [a3 1 1 (by omega) (by omega), ← hy1, gi_same]
    · rw [← hyv, gi_dif (by decide)]; exact y26
    · rw [wv _ _ (by omega) (by omega), vz _ _ (by unfold uRl uTs uSm; omega) (by omega)]
    · rw [wv _ _ (by omega) (by omega), vz _ _ (by unfold uRl uTs uSm; omega) (by omega)]
    · rw [wv _ _ (by omega) (by omega), vz _ _ (by unfold uRl uTs uSm; omega) (by omega)]
    · rw [← hyv, gi_ne (by decide)]; exact y29
    · show hI H (q + 2) c = _
      rw [a13 c (by omega), f1 _ _ (by omega)]
      by_cases e : c = N
      · rw [e]; exact kS
      · exact (kT c (by omega)).1
    · obtain ⟨b1, b2, b3, b4, b5, b6, b7, b8, b9⟩ := kT c hc
      refine ⟨b6, b7, ?_, ?_, ?_, ?_, b8, b9⟩
      · show hI H (q + 3) c = _
        rw [a14 c hc, f1 _ _ (by omega)]; exact b2
      · rw [wv _ _ (by omega) (by omega)]; exact b3
      · rw [wv _ _ (by omega) (by omega)]; exact b4
      · rw [wv _ _ (by omega) (by omega)]; exact b5
    · obtain ⟨b1, b2, b3, b4⟩ := kE i hi
      refine ⟨?_, ?_, ?_, b4⟩
      · show hI H (q + 1) i = _
        rw [a12 i hi, f1 _ _ (by omega)]; exact b1
      · rw [wv _ _ (by omega) (by omega)]; exact b2
      · rw [wv _ _ (by omega) (by omega)]; exact b3
    · rw [wv _ _ (by omega) (by omega), vz _ _ (by unfold uRl uTs uSm; omega) (by omega)]; exact h.2.1
    · rw [wv _ _ (by omega) (by omega), vz _ _ (by unfold uRl uTs uSm; omega) (by omega)]; exact h.2.2.1
    · rw [wv _ _ (by omega) (by omega), vz _ _ (by unfold uRl uTs uSm; omega) (by omega)]; exact h.2.2.2
    · show hN H - 48 ≤ t.1 + 12
      omega
