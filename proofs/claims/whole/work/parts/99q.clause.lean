/-! RULES: a clause by both -/
section SQ
variable {B : Nat → Nat} {n R : Nat}
def xK (cl a j : Nat) : Prop := (a = 1 ∧ 2 ≤ j ∧ j ≤ 6) ∨ (a = 11 ∧ (j = 2 ∨ (7 ≤ j ∧ j ≤ 12))) ∨ a = 12 ∨ a = 15 ∨ ((a = 13 ∨ a = 14) ∧ j = cl)
def uK (R cl a j : Nat) : Prop := uTs R a j ∨ ((a = 30 ∨ a = 31 ∨ a = 32) ∧ j = 12 * R + cl)
theorem xK_R {cl : Nat} : ∀ a j, xK cl a j → xRl a j := by unfold xK xRl; omega
theorem xT_K {cl : Nat} : ∀ a j, xTs a j → xK cl a j := by unfold xK xTs xCm xSm; omega
theorem uT_K {cl : Nat} : ∀ a j, uTs R a j → uK R cl a j := fun _ _ q => Or.inl q
theorem uK_R {cl : Nat} : ∀ a j, uK R cl a j → uRl R a j := fun a j q => by
  rcases q with q | q
  · exact Or.inl q
  · exact Or.inr ⟨q.1, by omega⟩
theorem FF_hi {b f a j : Nat} {z : ST} {y : Int32} (h : FF B n b f z) (ha : 30 ≤ a) : FF B n b f (si z a j y) := by
  obtain ⟨⟨h0, h5⟩, h1, h2, h3, p, h4, h6⟩ := h
  exact ⟨⟨⟨h0.1, by rw [gi_ne (by omega)]; exact h0.2.1, fun i hi => by rw [gi_ne (by omega)]; exact h0.2.2 i hi⟩, by rw [gi_ne (by omega)]; exact h5⟩, h1, h2, by rw [gi_ne (by omega)]; exact h3, p, h4, by rw [gi_ne (by omega)]; exact h6⟩
/-- behind a clause, before the token that ends it -/
def CP (B : Nat → Nat) (n R cl : Nat) (e : Nat → Nat × Nat) (Lc p x2 : Nat) (z z' : ST) : Prop :=
  cl < 12 ∧ ∃ p2 p2' e2 Lc2 P2 cnt2 M2 S2 T2 tt, SV B n R x2 p2 p2' z z' e2 Lc2 P2 [] cnt2 0 S2 T2 0 M2 ∧ bl B n p2' = p2' ∧ gi z 11 11 = 3 ∧ KD B n p2' (gi z 11 12) ∧ gi z 11 10 = 0 ∧ gi z' 0 32 = 0 ∧ 3 * M2 ≤ p2 ∧ (gi z 11 12 = 0 → wdb B n p2' (txB 21) = false ∧ tt = Lc2 + P2.length) ∧ (¬ gi z 11 12 = 0 → (wdb B n p2' (txB 22) = false ∧ wdb B n p2' (txB 23) = false) ∧ gi z 14 cl = nI tt) ∧ gi z 13 cl = nI Lc ∧ gi z' 30 (12 * R + cl) = nI Lc ∧ gi z' 31 (12 * R + cl) = nI tt ∧ gi z' 32 (12 * R + cl) = nI (Lc2 + P2.length) ∧ Lc ≤ tt ∧ tt ≤ Lc2 + P2.length ∧ tyR e2 (tt - Lc) Lc [] = some [false] ∧ (tt < Lc2 + P2.length → tyR e2 (Lc2 + P2.length - tt) tt [] = some [true]) ∧ (∀ i, i < Lc → e2 i = e i) ∧ p < p2
theorem clause_b {x p p' cl : Nat} {s s' : ST} {e : Nat → Nat × Nat} {Lc cnt M : Nat} (h : SV B n R x p p' s s' e Lc [] [] cnt 0 Lc [] 0 M) (h32 : gi s' 0 32 = 0) (h10 : gi s 11 10 = 0) (hM : 3 * M ≤ p) (h11 : gi s 11 11 = 0) (h5 : gi s 11 5 = nI cl) (hcl : cl ≤ 12) : OC B n (xK cl) (uK R cl) 410 x s s' (fX12_ruleClause (nI cl) s') (CP B n R cl e Lc p) := by
  obtain ⟨u1, u2⟩ := SV_bl h
  obtain ⟨st, hst⟩ : ∃ st, bl B n p' = st := ⟨_, rfl⟩
  rw [hst] at u1 u2
  have hsb : bl B n st = st := by rw [← hst]; exact bl_bl
  obtain ⟨q2, hq2⟩ : ∃ q, si s' 0 27 (nI st) = q := ⟨_, rfl⟩
  rw [hq2] at u1 u2
  have fr : FX (uK R cl) s' q2 := by rw [← hq2]; exact FX.si (by unfold uK uTs uSm; omega)
  have hV := u2.2.1
  obtain ⟨tv, v28, v27, v31, v29, v33, v35, vE, hp'⟩ := hV
  have hn := tv.1
  obtain ⟨_, _, _, e42, e29, _, _, _, l21, l5⟩ := wd_eq
  have sv := stood_ev (w := 29) (by decide) tv v27 (by omega)
  have sv : fX12_stood 1000029 q2 = some (if wdb B n st (txB 29) = true then 1 else 0) := sv
  rw [e29] at sv
  have R6 := h.2.2.2.2.1
  unfold fX12_ruleClause
  rw [u1, bd_s, lt_v, v27, sv, bd_s]
  refine OC_pre xK_R (fun _ hy => hy) FX.rfl fr ?_
  have bad : ∀ c, c ≤ 4 → ((c = 0 ∧ wdb B n st (txB 5) = false) ∨ (c = 4 ∧ wdb B n st (txB 5) = true ∧ cl = 12)) → OC B n (xK cl) (uK R cl) 410 x s q2 ((fX12_fails (nI c) (nI st) q2).bind (fun q => some q)) (CP B n R cl e Lc p) := fun c hc4 hc => by
    obtain ⟨y, y1, y2, y3⟩ := late_no u2 hsb h11 h5 hcl hc
    rw [fail0 v28, bd_s]
    exact ⟨_, rfl, FX.si (by unfold uK uTs uSm; omega), Or.inl ⟨1 + 8 * st + c, y, ⟨⟨TV_si tv (by decide), by rw [gi_dif (by decide)]; exact v35⟩, by omega, by omega, gi_same _ _ _ _, st, by omega, by rw [gi_dif (by decide)]; exact v27⟩, y1, y2, y3⟩⟩
  by_cases cw : wdb B n st (txB 5) = true
  · rw [if_pos cw, if_neg n10]
    by_cases c12 : cl = 12
    · rw [if_pos (show nI cl = 12 by rw [c12]; rfl)]
      exact bad 4 (by omega) (Or.inr ⟨rfl, cw, c12⟩)
    · rw [if_neg (show ¬ nI cl = 12 by rw [nj_eqr (by omega) (by decide)]; exact c12)]
      obtain ⟨w, w1, w2, w3, w4, w5, w6, w7⟩ := late_ok u2 hsb h11 h5 (by omega) cw
      obtain ⟨s9, hs9⟩ : ∃ z, si (si q2 0 27 (nI (st + 4))) 30 (12 * R + cl) (nI Lc) = z := ⟨_, rfl⟩
      have f9 : FX (uK R cl) q2 s9 := by
        rw [← hs9]
        exact (FX.si (by unfold uK uTs uSm; omega)).trans (FX.si (by unfold uK; omega))
      have hS9 : SV B n R (x + 1) (st + 4) (st + 4) w s9 e Lc [] [] cnt 0 Lc [] 0 M := ⟨w3.1, by rw [← hs9]; exact VV_vw w3.2.1 (FX.si (by unfold vI; omega)), w3.2.2.1, w3.2.2.2⟩
      rw [lt_v, nj_addr, lt_v, gi_dif (by decide), v29, nj_mull, nj_add, ck_t (inb_t (by omega) (by decide)), lt_v, ix_nI (by omega), gi_dif (by decide), v31, show Lc + ([] : List Nat).length = Lc from rfl, hs9]
      have k13 : ∀ z, FX xSm w z → gi z 13 cl = nI Lc := fun z f => by rw [f _ _ (by unfold xSm; omega)]; exact w6
      refine OC_pre xK_R w1 (w2.w (by unfold xK; omega)) f9 (OC_bind xK_R (OC_w (b2 := 400) (post2 := fun x2 z z' => (FX xSm w z ∧ FX (uSm R) s9 z') ∧ PO B n R e Lc (st + 4) [] 0 Lc (false :: []) 0 M 5 2 (NS B n) x2 z z') (sum_both hS9 (ActV_2 hS9.1 w4) (by rw [w4]; decide) (by rw [w5]; decide) (fun k hk => absurd hk (by simp)) (by simp)) (fun a j q => xT_K a j (xS_T a j q)) (fun a j q => Or.inl (Or.inl q)) (by omega) (fun x2 z z' f1 f2 hq => ⟨⟨f1, f2⟩, hq⟩)) (fun fl z' hF => ?_) (fun x2 z z' _ _ hq => ?_))
      · have hF2 := FF_hi (a := 31) (j := 12 * R + cl) (y := gi z' 0 31) hF (by omega)
        have hF3 := FF_hi (a := 32) (j := 12 * R + cl) (y := gi (si z' 31 (12 * R + cl) (gi z' 0 31)) 0 31) hF2 (by omega)
        obtain ⟨g0, g1, g2, g3, gp, g4, g5⟩ := hF3
        exact ⟨_, by rw [ck_t (inb_t (show 12 * R + cl < 72 by omega) (by decide)), lt_v, if_neg (FF_ne hF2), bd_s, ck_t (inb_t (show 12 * R + cl < 72 by omega) (by decide)), lt_v], ⟨g0, g1, g2, g3, gp, by omega, g5⟩, (FX.si (by unfold uK; omega)).trans (FX.si (by unfold uK; omega))⟩
      · obtain ⟨⟨f1, f2⟩, p2, p2', e2, Lc2, P2, cnt2, hS, g1, g2, g3, g4, g5, g6, g7⟩ := hq
        have z31 := hS.2.1.2.2.2.1
        obtain ⟨s13, hs13⟩ : ∃ q, si z' 31 (12 * R + cl) (nI (Lc2 + P2.length)) = q := ⟨_, rfl⟩
        have hS13 : SV B n R x2 p2 p2' z s13 e2 Lc2 P2 [] cnt2 0 Lc [false] 0 M := ⟨hS.1, by rw [← hs13]; exact VV_vw hS.2.1 (FX.si (by unfold vI; omega)), hS.2.2.1, hS.2.2.2⟩
        have f13 : FX (uK R cl) z' s13 := by rw [← hs13]; exact FX.si (by unfold uK; omega)
        have y28 := hS13.2.1.2.1
        have y27 := hS13.2.1.2.2.1
        have y31 := hS13.2.1.2.2.2.1
        have hp2n : p2' ≤ n := hS13.2.1.2.2.2.2.2.2.2.2
        have sif := stood_ev (w := 42) (by decide) hS13.2.1.1 y27 (by omega)
        have sif : fX12_stood 1000042 s13 = some (if wdb B n p2' (txB 42) = true then 1 else 0) := sif
        rw [e42] at sif
        have hbl := blanks_ev hS13.2.1.1 y27 (by omega)
        rw [g7.1, si_id y27] at hbl
        have z10 : gi z 11 10 = 0 := by rw [f1 _ _ (by unfold xSm; omega), w2 _ _ (by omega)]; exact h10
        have z5 : gi z 11 5 = nI cl := by rw [f1 _ _ (by unfold xSm; omega), w2 _ _ (by omega)]; exact h5
        have z12 : gi z 11 12 = 0 := by rw [f1 _ _ (by unfold xSm; omega)]; exact w5
        have z32 : gi s13 0 32 = 0 := by rw [← hs13, gi_ne (by decide), f2 _ _ (by unfold uSm; omega), ← hs9, gi_ne (by decide), gi_dif (by decide), ← hq2, gi_dif (by decide)]; exact h32
        have t30 : gi s13 30 (12 * R + cl) = nI Lc := by rw [← hs13, gi_ne (by decide), f2 _ _ (by unfold uSm; omega), ← hs9, gi_same]
        have t31 : gi s13 31 (12 * R + cl) = nI (Lc2 + P2.length) := by rw [← hs13, gi_same]
        obtain ⟨b1, b2, b3, b4, b5, b6, b7, b8, b9, b10, b11⟩ := hS.2.2.2
        rw [ck_t (inb_t (show 12 * R + cl < 72 by omega) (by decide)), z31, lt_v, hs13, if_pos y28]
        refine OC_pre xK_R (fun _ hy => hy) FX.rfl f13 ?_
        by_cases ci : wdb B n p2' (txB 21) = true
        · obtain ⟨v, v1, v2, v3, v4, v5, v6, v7⟩ := if_ok hS13 g7.1 g3 z12 g7 z10 z5 (by omega) ci
          obtain ⟨_, _, t3, t4⟩ := tx_len 42 (by decide)
          have t4 : tlen 1000042 = nI 2 := by rw [e42, l21] at t4; exact t4
          have t3 : okT 1000042 = true := t3
          have htk : fX12_takes 1000042 s13 = some (1, si s13 0 27 (nI (p2' + 2))) := by
            unfold fX12_takes
            rw [hbl, bd_s, sif, bd_s, if_pos ci, if_neg n10, ck_t t3, t4, bd_s, lt_v, y27, nj_add, ck_t (show bz 1 = true from rfl)]
          rw [htk, bd_s, if_neg n10, bdS]
          refine OC_pre xK_R v1 (v2.w (by unfold xK; omega)) (FX.si (by unfold uK uTs uSm; omega)) (OC_bind xK_R (OC_w (b2 := 410) (post2 := fun x3 y y' => (FX xTs v y ∧ FX (uTs R) (si s13 0 27 (nI (p2' + 2))) y') ∧ TP B n R e2 (Lc2 + P2.length) p2 (Lc2 + P2.length) x3 y y') (test_both (p0 := p2) v3 (by rw [gi_dif (by decide)]; exact z32) (by rw [v2 _ _ (by omega)]; exact z10) (by omega) v4 v5 v7) xT_K uT_K (by omega) (fun x3 y y' q1 q2 hq => ⟨⟨q1, q2⟩, hq⟩)) (fun fl y' hF => ?_) (fun x3 y y' _ _ hq => ?_))
          · exact ⟨_, by rw [ck_t (inb_t (show 12 * R + cl < 72 by omega) (by decide)), lt_v], FF_hi hF (by omega), FX.si (by unfold uK; omega)⟩
          · obtain ⟨⟨q1, q2⟩, p3, p3', e3, Lc3, P3, cnt3, M3, hS3, r1, r2, r3, r4, r5, r6, r7, r8, r9, r10, r11, r12⟩ := hq
            obtain ⟨d1, d2, d3, d4, d5, d6, d7, d8, d9, d10, d11⟩ := hS3.2.2.2
            have y31' := hS3.2.1.2.2.2.1
            rw [ck_t (inb_t (show 12 * R + cl < 72 by omega) (by decide)), lt_v, y31']
            obtain ⟨kd1, kd2⟩ := KE_D r5
            refine ⟨_, rfl, FX.si (by unfold uK; omega), Or.inr ⟨x3, y, fun _ hy => hy, FX.rfl, by omega, p3, p3', e3, Lc3, P3, cnt3, M3, Lc2 + P2.length, [true], Lc2 + P2.length, ⟨hS3.1, VV_vw hS3.2.1 (FX.si (by unfold vI; omega)), hS3.2.2.1, hS3.2.2.2⟩, r6, r2, kd1, r3, by rw [gi_ne (by decide)]; exact r4, r1, fun q => absurd q kd2, fun _ => ⟨⟨r7, r8⟩, by rw [q1 _ _ (by unfold xTs xCm xSm; omega)]; exact v6⟩, ?_, ?_, ?_, gi_same _ _ _ _, b7, d7, ?_, fun _ => d8, fun i hi => by rw [r12 i (by omega)]; exact g6 i hi, by omega⟩⟩
            · rw [q1 _ _ (by unfold xTs xCm xSm; omega), v2 _ _ (by omega)]; exact k13 z f1
            · rw [gi_ne (by decide), q2 _ _ (by unfold uTs uSm; omega), gi_ne (by decide)]; exact t30
            · rw [gi_ne (by decide), q2 _ _ (by unfold uTs uSm; omega), gi_ne (by decide)]; exact t31
            · rw [tyR_c (e := e2) _ _ _ (fun i h1 h2 => r12 i (by omega))]; exact b8
        · have ci' : wdb B n p2' (txB 21) = false := by simpa using ci
          have htk : fX12_takes 1000042 s13 = some (0, s13) := by
            unfold fX12_takes
            rw [hbl, bd_s, sif, bd_s, if_neg ci, if_pos rfl, bd_s, lt_v, y27, nj_addr, show p2' + 0 = p2' from rfl, si_id y27, ck_t (show bz 0 = true from rfl)]
          rw [htk, bd_s, if_pos rfl, bd_s, ck_t (inb_t (show 12 * R + cl < 72 by omega) (by decide)), lt_v, y31]
          refine ⟨_, rfl, FX.si (by unfold uK; omega), Or.inr ⟨x2, z, fun _ hy => hy, FX.rfl, by omega, p2, p2', e2, Lc2, P2, cnt2, M, Lc, [false], Lc2 + P2.length, ⟨hS13.1, VV_vw hS13.2.1 (FX.si (by unfold vI; omega)), hS13.2.2.1, hS13.2.2.2⟩, g7.1, g3, Or.inr (Or.inr ⟨z12, g7⟩), z10, by rw [gi_ne (by decide)]; exact z32, by omega, fun _ => ⟨ci', rfl⟩, fun q => absurd z12 q, k13 z f1, by rw [gi_ne (by decide)]; exact t30, by rw [gi_ne (by decide)]; exact t31, gi_same _ _ _ _, b7, Nat.le_refl _, b8, fun q => absurd q (by omega), g6, by omega⟩⟩
  · have cw' : wdb B n st (txB 5) = false := by simpa using cw
    rw [if_neg cw, if_pos rfl]
    exact bad 0 (by omega) (Or.inl ⟨rfl, cw'⟩)
end SQ
