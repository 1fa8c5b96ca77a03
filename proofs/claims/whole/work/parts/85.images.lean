/-! IMAGE AND BACK -/
theorem isWh_ext {t t' : PH} {w : Nat} (hw : 48 ≤ w) (hs : ∀ x, 48 ≤ x → x < 48 + t.1 → cSh t' x = cSh t x ∧ ∀ k, cRf t' x k = cRf t x k) (ht : t.1 ≤ t'.1) (h : isWh t w) : isWh t' w := by
  obtain ⟨h1, h2, ⟨h3, h4, h5, h6⟩, ⟨a1, a2, ⟨a3, a4, a5, a6, a7, a8⟩, a9, a10, a11, a12, a13, a14⟩, ⟨b1, b2, b3, b4⟩, c1, c2⟩ := h
  have e : ∀ i, i < 12 → cSh t' (w + i) = cSh t (w + i) ∧ ∀ k, cRf t' (w + i) k = cRf t (w + i) k := fun i hi => hs _ (by omega) (by omega)
  have e0 : cSh t' w = cSh t w ∧ ∀ k, cRf t' w k = cRf t w k := e 0 (by omega)
  refine ⟨by omega, by rw [e0.1]; exact h2, ⟨by rw [e0.2]; exact h3, by rw [e0.2]; exact h4, by rw [e0.2]; exact h5, by rw [e0.2]; exact h6⟩, ⟨by omega, by rw [(e 1 (by omega)).1]; exact a2, ⟨by rw [(e 1 (by omega)).2]; exact a3, by rw [(e 1 (by omega)).2]; exact a4, by rw [(e 1 (by omega)).2]; exact a5, by rw [(e 1 (by omega)).2]; exact a6, by rw [(e 1 (by omega)).2]; exact a7, by rw [(e 1 (by omega)).2]; exact a8⟩, ?_, ?_, ?_, ?_, ?_, ?_⟩, ⟨by omega, by rw [(e 8 (by omega)).1]; exact b2, by rw [(e 8 (by omega)).2]; exact b3, ?_⟩, by rw [(e 10 (by omega)).1]; exact c1, by rw [(e 11 (by omega)).1]; exact c2⟩
  · exact (e 2 (by omega)).1.trans a9
  · exact (e 3 (by omega)).1.trans a10
  · exact (e 4 (by omega)).1.trans a11
  · exact (e 5 (by omega)).1.trans a12
  · exact (e 6 (by omega)).1.trans a13
  · exact (e 7 (by omega)).1.trans a14
  · exact (e 9 (by omega)).1.trans b4
theorem IN0_img {t t' : PH} {C C' V V' : Vw} {d d' k w : Nat} (h : IN0 t C V d) (hd : d ≤ d') (hk : k < 4) (hw48 : 48 ≤ w) (hw : isWh t' w) (hs : ∀ x, 48 ≤ x → x < 48 + t.1 → cSh t' x = cSh t x ∧ ∀ k, cRf t' x k = cRf t x k) (ht : t.1 ≤ t'.1)
    (r16 : ∀ j, rR t' 16 j = rR t 16 j) (r29 : ∀ j, j ≠ k → rR t' 29 j = rR t 29 j) (r29k : rR t' 29 k = some w) (fr : rR t 29 k = some w ∨ 48 + t.1 ≤ w)
    (eC : ∀ x j, ¬ (w ≤ x ∧ x ≤ w + 11) → x < 48 + t.1 → C' x j = C x j) (eX : EqX C 17 C' w)
    (eV : ∀ a j, ((1 ≤ a ∧ a ≤ 46) ∨ (a = 0 ∧ (j = 26 ∨ j = 35 ∨ j = 30 ∨ j = 66)) ∨ (a = 55 ∧ j ≠ k) ∨ (a = 54 ∧ (j < 1200 * k ∨ 1200 * k + 1051 ≤ j))) → V' a j = V a j) (e55 : V' 55 k = 1) (eI : EqV V (IVf V' k)) (e66 : V' 54 (1200 * k + 57) = V 0 66) : IN0 t' C' V' d' := by
  obtain ⟨⟨n, n1, n2, n3, n4⟩, w35, R, own, r0, r1, r2, r3, r4, r5⟩ := h
  -- apart
  have ap : ∀ x, x < 48 + t.1 → own x ≠ 6 + k → ¬ (w ≤ x ∧ x ≤ w + 11) := by
    intro x hx ho hr
    rcases fr with fr | fr
    · rcases r5 k hk with ⟨q1, q2⟩ | ⟨w0, q1, q2, q3, q4, q5, q6⟩
      · rw [fr] at q1; cases q1
      · rw [fr] at q1
        have e : w = w0 := Option.some.inj q1
        subst e
        have := q5 (x - w) (by omega)
        rw [show w + (x - w) = x by omega] at this
        exact ho this
    · omega
  have low : ∀ x j, x < 48 → C' x j = C x j := fun x j hx => eC x j (by omega) (by omega)
  refine ⟨⟨n, n1, by rw [low _ _ (by omega)]; exact n2, by rw [eV _ _ (by omega)]; exact n3, fun i hi => by rw [low _ _ (by omega), eV _ _ (by omega)]; exact n4 i hi⟩, by rw [eV _ _ (by omega)]; exact w35, R, fun x => if w ≤ x ∧ x ≤ w + 11 then 6 + k else own x, r0, by rw [low _ _ (by omega)]; exact r1, by rw [eV _ _ (by omega)]; exact r2, fun r hr => ?_, ?_, fun j hj => ?_⟩
  · obtain ⟨q, q1, q2, q3⟩ := r3 r hr
    have hq48 := q2.1
    have hq4 := q2.2.1.1
    have hn : ∀ i, i < 4 → ¬ (w ≤ q + i ∧ q + i ≤ w + 11) := fun i hi => ap _ (by omega) (by rw [q3 i hi]; omega)
    refine ⟨q, by rw [r16]; exact q1, RlS_eq hs ht (fun i hi => funext (fun j => eC _ _ (hn i hi) (by omega))) (fun i _ => eV _ _ (by omega)) (fun i _ => eV _ _ (by omega)) (eV _ _ (by omega)) (fun i _ => eV _ _ (by omega)) (fun i _ => eV _ _ (by omega)) (fun i _ => eV _ _ (by omega)) q2, fun i hi => ?_⟩
    show (if w ≤ q + i ∧ q + i ≤ w + 11 then 6 + k else own (q + i)) = r
    rw [if_neg (hn i hi)]; exact q3 i hi
  · exact WhR_eq (EqW_row (fun i hi => funext (fun j => low _ _ (by omega)))) ⟨fun j _ => eV _ _ (by omega), fun j _ => eV _ _ (by omega), fun j _ => eV _ _ (by omega), fun j _ => eV _ _ (by omega), fun j _ => eV _ _ (by omega), fun j _ => eV _ _ (by omega), fun j _ => eV _ _ (by omega), fun j _ => eV _ _ (by omega), fun j _ => eV _ _ (by omega), fun j _ => eV _ _ (by omega), fun j _ => eV _ _ (by omega), fun j _ => eV _ _ (by omega), fun j _ => eV _ _ (by omega), fun j _ => eV _ _ (by omega), fun j _ => eV _ _ (by omega), fun j _ => eV _ _ (by omega), fun j _ => eV _ _ (by omega), fun j _ => eV _ _ (by omega), fun j _ => eV _ _ (by omega)⟩ (eV _ _ (by omega)) (Nat.le_refl _) hd r4
  · by_cases ej : j = k
    · subst ej
      refine Or.inr ⟨w, r29k, e55, hw, hw48, fun i hi => if_pos (by omega), ?_⟩
      exact WhR_eqx eX eI e66 (Nat.le_refl _) hd r4
    · rcases r5 j hj with ⟨q1, q2⟩ | ⟨w0, q1, q2, q3, q4, q5, q6⟩
      · exact Or.inl ⟨by rw [r29 j ej]; exact q1, by rw [eV _ _ (by omega)]; exact q2⟩
      · have h12 := q3.1
        have hn : ∀ i, i < 12 → ¬ (w ≤ w0 + i ∧ w0 + i ≤ w + 11) := fun i hi => ap _ (by omega) (by rw [q5 i hi]; omega)
        refine Or.inr ⟨w0, by rw [r29 j ej]; exact q1, by rw [eV _ _ (by omega)]; exact q2, isWh_ext q4 hs ht q3, q4, fun i hi => (if_neg (hn i hi)).trans (q5 i hi), ?_⟩
        exact WhR_eq (EqW_row (fun i hi => funext (fun j => eC _ _ (hn i hi) (by omega)))) (EqV_im (fun i hi => eV _ _ (by omega))) (eV _ _ (by omega)) (Nat.le_refl _) hd q6
theorem bz_tw {C V : Vw} {b np nm : Nat} (h : TwR C V b np nm) : bz (C b 0) = true := by
  rcases h.2.2.2.2.2.2.2.2.1 with ⟨e, -⟩ | ⟨e, -⟩ <;> rw [e] <;> rfl
def A3 (t : PH) (d : Nat) (f : Option (Int32 × PH × ST)) (g : Option (Int32 × ST)) : Prop := ∃ a t' z z', f = some (a, t', z) ∧ g = some (a, z') ∧ INV t' z z' d ∧ t'.1 ≤ t.1 + 12
theorem hR_sRe (h : PH) (i j : Nat) (x : Option Nat) (a k : Nat) : hR (sR h i j x) a k = if a = i then (if k = j then x else hR h i k) else hR h a k := by
  show (if a = i then va_up (h.2.2.2.2 i) j x else h.2.2.2.2 a) k = _
  by_cases e : a = i
  · rw [if_pos e, if_pos e]; rfl
  · rw [if_neg e, if_neg e]; rfl
theorem imH_ext (t : PH) (s : ST) (k : Nat) : Ext (48 + t.1) (cW t s) (i_Whole (48 + t.1) (hNew (cW t s) (.inl 9))) := Ext.whole (Ext.new (Ext.rfl (Nat.le_refl _))) (Nat.le_refl _)
theorem image_ok {t : PH} {s s' : ST} {d : Nat} (h : INV t s s' d) (ht : t.1 + 60 < 1000000) (p : Int32) : A3 t (d + 1) (fX11_image p t s) (fX12_image p s') := by
  unfold fX11_image fX12_image
  rcases g_in p (l := 0) (h := 3) (a := 0) (b := 3) (show (0 : Int64) = _ from rfl) (show (3 : Int64) = _ from rfl) rfl rfl (by omega) (by omega) with ⟨c1, c2⟩ | ⟨k, k1, k2, rfl, k4⟩
  · refine ⟨-1, t, s, s', ?_, by rw [c1, bd_s, if_pos rfl], INV_mono h (by omega), by omega⟩
    rcases c2 with c2 | ⟨c2, c3, c4⟩
    · simp only [c2, if_true, bd_s]
    · have c5 : ¬ p < 4 := by grind
      simp only [c2, c5, if_true, bd_s, if_false]
  rw [k4, bd_s, if_neg n10, if_neg (nj_nn (by omega)), if_pos (show nI k < (4 : Int32) by rw [nj_ltr (by omega) (by decide)]; omega), bd_s, if_neg nft, ck_t (inb_t (by omega) (by omega)), ck_t (inb_t (by omega) (by omega)), lt_v, ix_nI (by omega)]
  obtain ⟨z', i1, i2, i3, i4, i5, i6⟩ := imS (k := k) (s := si s' 55 k (vp_nar .boolean 1)) (by omega)
  rw [nar1] at *
  have i1 : fX12_carriesAll (nI k) 0 (si s' 55 k 1) = some z' := i1
  rw [i1, bd_s, ck_t (show inb 9 13 = true by decide), ix_lit (by decide)]
  obtain ⟨np, nm, R, n⟩ := IN0_nw h.1
  have hbz : bz (gi s 18 0) = true := bz_tw n.1
  have e45 : gi s 26 45 = gi s' 1 9 := n.2.1 45 (by unfold vis; omega)
  have e9 : gi z' 1 9 = gi s' 1 9 := by rw [i6 _ _ (by decide) (by decide) (by decide), gi_ne (by decide)]
  have eVz : ∀ a j, ((1 ≤ a ∧ a ≤ 46) ∨ (a = 0 ∧ (j = 26 ∨ j = 35 ∨ j = 30 ∨ j = 66)) ∨ (a = 55 ∧ j ≠ k) ∨ (a = 54 ∧ (j < 1200 * k ∨ 1200 * k + 1051 ≤ j))) → gi z' a j = gi s' a j := fun a j ha => by
    by_cases e0 : a = 0
    · subst e0; rw [i5 j (by omega) (by omega), gi_ne (by decide)]
    · by_cases e54 : a = 54
      · subst e54; rw [i4 j (by omega), gi_ne (by decide)]
      · rw [i6 a j e0 e54 (by omega), si_x _ _ (by omega)]
  have e55 : gi z' 55 k = 1 := by rw [i6 _ _ (by decide) (by decide) (by decide), gi_same]
  have eI : EqV (gi s') (IVf (gi z') k) := by
    have g : ∀ a j, a ≠ 55 → gi (si s' 55 k 1) a j = gi s' a j := fun a j ha => gi_ne ha
    obtain ⟨h1, h2, h3, h4, h5, h6, h7, h8, h9, h10, h11, h12, h13, h14, h15, h16, h17, h18, h46⟩ := i2
    exact ⟨fun j hj => (h1 j hj).trans (g _ _ (by decide)), fun j hj => (h2 j hj).trans (g _ _ (by decide)), fun j hj => (h3 j hj).trans (g _ _ (by decide)), fun j hj => (h4 j hj).trans (g _ _ (by decide)), fun j hj => (h5 j hj).trans (g _ _ (by decide)), fun j hj => (h6 j hj).trans (g _ _ (by decide)), fun j hj => (h7 j hj).trans (g _ _ (by decide)), fun j hj => (h8 j hj).trans (g _ _ (by decide)), fun j hj => (h9 j hj).trans (g _ _ (by decide)), fun j hj => (h10 j hj).trans (g _ _ (by decide)), fun j hj => (h11 j hj).trans (g _ _ (by decide)), fun j hj => (h12 j hj).trans (g _ _ (by decide)), fun j hj => (h13 j hj).trans (g _ _ (by decide)), fun j hj => (h14 j hj).trans (g _ _ (by decide)), fun j hj => (h15 j hj).trans (g _ _ (by decide)), fun j hj => (h16 j hj).trans (g _ _ (by decide)), fun j hj => (h17 j hj).trans (g _ _ (by decide)), fun j hj => (h18 j hj).trans (g _ _ (by decide)), fun j hj => (h46 j hj).trans (g _ _ (by decide))⟩
  have e66 : gi z' 54 (1200 * k + 57) = gi s' 0 66 := by rw [i3, gi_ne (by decide)]
  have f56 : gi z' 0 56 = -1 ∧ gi z' 0 57 = -1 ∧ gi z' 0 63 = 0 := by
    refine ⟨?_, ?_, ?_⟩
    · rw [i5 _ (by decide) (by decide), gi_ne (by decide)]; exact h.2.1
    · rw [i5 _ (by decide) (by decide), gi_ne (by decide)]; exact h.2.2.1
    · rw [i5 _ (by decide) (by decide), gi_ne (by decide)]; exact h.2.2.2
  have hk := (h.1.2.2)
  obtain ⟨R', own, r0, r1, r2, r3, r4, r5⟩ := hk
  rcases r5 k (by omega) with ⟨q1, q2⟩ | ⟨w, q1, q2, q3, q4, q5, q6⟩
  · -- made
    have ex := imH_ext t s k
    obtain ⟨H, hH⟩ : ∃ H, imH t s k = H := ⟨_, rfl⟩
    have hW := im_Wh t s k
    have hn12 : hN H = 48 + t.1 + 12 := by
      rw [← hH]
      exact hn_Whole (a := 48 + t.1) (h := hNew (cW t s) (.inl 9)) rfl
    have hg : ∀ x j, x < 48 + t.1 → gi (uS H s.2.2) x j = gi s x j := fun x j hx => by
      show hI H x j = _
      rw [← hH]
      exact congrFun (ex.2 x hx).2.1 j
    rw [hH] at hW
    obtain ⟨z, w1, w2, w3, w4⟩ := wh_copy (a := 48 + t.1) (p := 17) (s := uS H s.2.2) (by omega) (by rw [hg _ _ (by omega)]; exact hbz)
    refine ⟨gi s' 1 9, uT H, z, z', ?_, by rw [e9], ⟨IN0_img (k := k) (w := 48 + t.1) h.1 (by omega) (by omega) (by omega) hW (fun x x1 x2 => ⟨?_, fun j => ?_⟩) ?_ (fun j => ?_) (fun j hj => ?_) ?_ (Or.inr (Nat.le_refl _)) (fun x j x1 x2 => ?_) ?_ eVz e55 eI e66, f56⟩, ?_⟩
    · rw [omN q1, hH, ck_t (decide_eq_true ht), w1, bd_s, w3 _ _ (by omega), hg _ _ (by omega), e45]
    · rw [uT_sh x1, ← hH]; exact ((ex.2 x x2).1)
    · rw [uT_rf x1, ← hH]
      have := (ex.2 x x2).2.2 j
      unfold imH
      rw [hR_sRe, if_neg (by omega)]
      exact this.trans (by
        show cRr t s.2.2 x j = cRf t x j
        unfold cRr cRf
        split
        · omega
        · omega
        · omega
        · rfl)
    · show t.1 ≤ hN H - 48
      omega
    · show hR H 16 j = _
      rw [← hH]
      exact (ex.2 16 (by omega)).2.2 j
    · show hR H 29 j = _
      rw [← hH]
      unfold imH
      rw [hR_sRe, if_pos rfl, if_neg hj]
      exact (ex.2 29 (by omega)).2.2 j
    · show hR H 29 k = _
      rw [← hH]
      unfold imH
      rw [hR_sRe, if_pos rfl, if_pos rfl]
    · rw [w3 x j x1, hg x j x2]
    · obtain ⟨c0, c1, c2, c3, c4, c5, c6, c7, c9, c10, c11⟩ := w2
      exact ⟨fun j hj => (c0 j hj).trans (hg _ _ (by omega)), fun j hj => (c1 j hj).trans (hg _ _ (by omega)), fun j hj => (c2 j hj).trans (hg _ _ (by omega)), fun j hj => (c3 j hj).trans (hg _ _ (by omega)), fun j hj => (c4 j hj).trans (hg _ _ (by omega)), fun j hj => (c5 j hj).trans (hg _ _ (by omega)), fun j hj => (c6 j hj).trans (hg _ _ (by omega)), fun j hj => (c7 j hj).trans (hg _ _ (by omega)), fun j hj => (c9 j hj).trans (hg _ _ (by omega)), fun j hj => (c10 j hj).trans (hg _ _ (by omega)), fun j hj => (c11 j hj).trans (hg _ _ (by omega))⟩
    · show hN H - 48 ≤ t.1 + 12
      omega
  · -- there
    obtain ⟨z, w1, w2, w3, w4⟩ := wh_copy (a := w) (p := 17) (s := s) (by omega) hbz
    refine ⟨gi s' 1 9, t, z, z', ?_, by rw [e9], ⟨IN0_img (k := k) (w := w) h.1 (by omega) (by omega) q4 q3 (fun x _ _ => ⟨rfl, fun _ => rfl⟩) (Nat.le_refl _) (fun _ => rfl) (fun _ _ => rfl) q1 (Or.inl q1) (fun x j x1 _ => w3 x j x1) w2 eVz e55 eI e66, f56⟩, by omega⟩
    rw [omS q1, ck_t (decide_eq_true q3), w1, bd_s, w3 _ _ (by omega), e45]
theorem back_ok {t : PH} {s s' : ST} {d : Nat} (h : INV t s s' d) (p : Int32) : A2 t (d + 1) (fX11_back p t s) (fX12_back p s') := by
  unfold fX11_back fX12_back
  rcases g_in p (l := 0) (h := 3) (a := 0) (b := 3) (show (0 : Int64) = _ from rfl) (show (3 : Int64) = _ from rfl) rfl rfl (by omega) (by omega) with ⟨c1, c2⟩ | ⟨k, k1, k2, rfl, k4⟩
  · refine ⟨-1, s, s', ?_, by rw [c1, bd_s, if_pos rfl, bd_s, if_pos rfl], INV_mono h (by omega)⟩
    rcases c2 with c2 | ⟨c2, c3, c4⟩
    · simp only [c2, if_true, bd_s, Bool.false_eq_true, if_false]
    · have c5 : 4 ≤ p := by grind
      simp only [c2, c5, if_true, bd_s, if_false, Bool.false_eq_true]
  rw [k4, bd_s, if_neg n10, if_neg (nj_nn (by omega)), if_neg (show ¬ (4 : Int32) ≤ nI k by rw [nj_lel (by decide) (by omega)]; omega), bd_s, if_pos rfl]
  simp only [ck_t (show inb (nI k) 4 = true from inb_t (by omega) (by omega)), ix_nI (show k < 2147483648 by omega)]
  have hk := (h.1.2.2)
  obtain ⟨R, own, r0, r1, r2, r3, r4, r5⟩ := hk
  rcases r5 k (by omega) with ⟨q1, q2⟩ | ⟨w, q1, q2, q3, q4, q5, q6⟩
  · exact ⟨-1, s, s', by rw [omN q1], by rw [q2, if_pos rfl, bd_s, if_pos rfl], INV_mono h (by omega)⟩
  · obtain ⟨z', i1, i2, i3, i4, i5⟩ := imL (k := k) (s := s') (by omega)
    have hbz : bz (gi s (w + 1) 0) = true := by
      obtain ⟨np, nm, e1, -⟩ := q6
      exact bz_tw e1
    obtain ⟨z, w1, w2, w3, w4⟩ := wh_copy (a := 17) (p := w) (s := s) (by omega) hbz
    have hw : WhR (gi z) (gi z') 17 (gi z' 0 66) R (d + 1) := WhR_eqx w2 i2 i3 (Nat.le_refl _) (by omega) q6
    have e9 : gi z 26 45 = gi z' 1 9 := by
      obtain ⟨np, nm, _, e2, _⟩ := hw
      exact e2 45 (by unfold vis; omega)
    refine ⟨gi z' 1 9, z, z', ?_, ?_, IN0_w h.1 (by omega) (fun q => TpR_eq q (w3 _ _ (by omega)) (fun j => w3 _ _ (by omega)) (i4 _ (by omega) (by omega) (by omega)) (fun j => i5 _ _ (by omega) (by omega) (by omega))) (i4 _ (by omega) (by omega) (by omega)) (fun a j ha => w3 _ _ (by omega)) (w3 _ _ (by omega)) (i4 _ (by omega) (by omega) (by omega)) (fun a j ha => i5 _ _ (by omega) (by omega) (by omega)) (fun R2 x1 x2 x3 _ => ?_), ?_, ?_, ?_⟩
    · rw [omS q1, omS q1, ck_t (decide_eq_true q3), w1, bd_s, ck_t (by decide), ix_lit (by decide), e9]
    · rw [q2, if_neg n10, bd_s, if_neg nft, i1, bd_s, ck_t (by decide), ix_lit (by decide)]
    · have : R2 = R := by
        have r1 : gi s 0 4 = nI R := r1
        rw [r1, nj_eq (by omega) (by omega)] at x1; exact x1.symm
      subst this
      exact hw
    · rw [i4 _ (by omega) (by omega) (by omega)]; exact h.2.1
    · rw [i4 _ (by omega) (by omega) (by omega)]; exact h.2.2.1
    · rw [i4 _ (by omega) (by omega) (by omega)]; exact h.2.2.2
