/-! THE FIRST STATE -/
def pe0 (c : Nat) : PH := (0, fun _ => .inl c, fun _ _ => 0, fun _ _ => 0, fun _ _ => none)
def hLa0 : PH := i_LA 0 (hNew (pe0 10) (.inl 10))
def hMo0 : PH := i_Mo 0 (hNew (pe0 11) (.inl 11))
def sLa0 : ST := uS hLa0 (fun _ => none)
def sMo0 : ST := (hI hMo0, hL hMo0, fun _ => none)
theorem la0_n : hN hLa0 = 48 := hn_LA (a := 0) (h := hNew (pe0 10) (.inl 10)) (n := 1) rfl
theorem mo0_n : hN hMo0 = 56 := hn_Mo (a := 0) (h := hNew (pe0 11) (.inl 11)) (n := 1) rfl
set_option maxRecDepth 100000 in
theorem la0_S : ∀ a, a < 48 → hS hLa0 a = cS a := by decide +kernel
set_option maxRecDepth 100000 in
theorem mo0_S : ∀ a, a < 56 → hS hMo0 a = mS a := by decide +kernel
set_option maxRecDepth 100000 in
theorem la0_R : ∀ a, a < 48 → ∀ k, k < 18 → hR hLa0 a k = cRr (uT hLa0) (fun _ => none) a k := by decide +kernel
set_option maxRecDepth 100000 in
theorem mo0_R : ∀ k, k < 82 → hR hMo0 0 k = mR0 k := by decide +kernel
theorem cS_ok : ∀ i, i < 48 → (match cS i with | .inl ci => decide (nF ci ≤ 18) | .inr q => decide (q.1 < 4 ∨ i = 16 ∨ i = 29)) = true := by decide +kernel
theorem mS_ok : ∀ i, i < 56 → (match mS i with | .inl _ => decide (i = 0) | .inr q => decide (q.1 < 4)) = true := by decide +kernel
set_option maxRecDepth 100000 in
theorem la0_I : hI hLa0 1 1 = nI 0 ∧ hI hLa0 0 4 = nI 0 ∧ hI hLa0 18 7 = nI 0 ∧ hI hLa0 18 8 = nI 0 ∧ hI hLa0 18 3 = 0 ∧ hI hLa0 18 0 = 0 ∧ hI hLa0 18 1 = 0 ∧ hI hLa0 18 2 = 0 ∧ hI hLa0 18 6 = 0 ∧ hI hLa0 17 2 = -1 ∧ hI hLa0 17 3 = 0 ∧ hI hLa0 17 4 = nI 0 ∧ hI hLa0 17 7 = nI 0 ∧ hI hLa0 17 8 = nI 0 := by decide +kernel
set_option maxRecDepth 100000 in
theorem la0_26 : ∀ j, j < 46 → hI hLa0 26 j = 0 := by decide +kernel
set_option maxRecDepth 100000 in
theorem mo0_I : hI hMo0 0 26 = nI 0 ∧ hI hMo0 0 35 = 14 ∧ hI hMo0 0 30 = nI 0 ∧ hI hMo0 1 3 = nI 0 ∧ hI hMo0 1 4 = nI 0 ∧ hI hMo0 1 2 = 0 ∧ hI hMo0 1 0 = 0 ∧ hI hMo0 1 1 = 0 ∧ hI hMo0 18 0 = 0 ∧ hI hMo0 1 12 = -1 ∧ hI hMo0 1 11 = 0 ∧ hI hMo0 1 10 = nI 0 ∧ hI hMo0 0 66 = nI 0 ∧ hI hMo0 0 56 = -1 ∧ hI hMo0 0 57 = -1 ∧ hI hMo0 0 63 = 0 := by decide +kernel
set_option maxRecDepth 100000 in
theorem mo0_LV : ∀ j, j < 46 → LVf (hI hMo0) j = 0 := by decide +kernel
set_option maxRecDepth 100000 in
theorem mo0_55 : ∀ k, k < 4 → hI hMo0 55 k = 0 := by decide +kernel
set_option maxRecDepth 100000 in
theorem la0_29 : ∀ k, k < 4 → hR hLa0 29 k = none := by decide +kernel
theorem first_gen {hl hm : PH} {mm : Nat → Option Nat}
    (la : hI hl 1 1 = nI 0 ∧ hI hl 0 4 = nI 0 ∧ hI hl 18 7 = nI 0 ∧ hI hl 18 8 = nI 0 ∧ hI hl 18 3 = 0 ∧ hI hl 18 0 = 0 ∧ hI hl 18 1 = 0 ∧ hI hl 18 2 = 0 ∧ hI hl 18 6 = 0 ∧ hI hl 17 2 = -1 ∧ hI hl 17 3 = 0 ∧ hI hl 17 4 = nI 0 ∧ hI hl 17 7 = nI 0 ∧ hI hl 17 8 = nI 0) (c26 : ∀ j, j < 46 → hI hl 26 j = 0)
    (mo : hI hm 0 26 = nI 0 ∧ hI hm 0 35 = 14 ∧ hI hm 0 30 = nI 0 ∧ hI hm 1 3 = nI 0 ∧ hI hm 1 4 = nI 0 ∧ hI hm 1 2 = 0 ∧ hI hm 1 0 = 0 ∧ hI hm 1 1 = 0 ∧ hI hm 18 0 = 0 ∧ hI hm 1 12 = -1 ∧ hI hm 1 11 = 0 ∧ hI hm 1 10 = nI 0 ∧ hI hm 0 66 = nI 0 ∧ hI hm 0 56 = -1 ∧ hI hm 0 57 = -1 ∧ hI hm 0 63 = 0) (lv : ∀ j, j < 46 → LVf (hI hm) j = 0) (v55 : ∀ k, k < 4 → hI hm 55 k = 0) (r29 : ∀ k, k < 4 → hR hl 29 k = none) : INV (uT hl) (uS hl mm) (hI hm, hL hm, mm) 0 := by
  obtain ⟨a1, a2, a3, a4, a5, a6, a7, a8, a9, a10, a11, a12, a13, a14⟩ := la
  obtain ⟨b1, b2, b3, b4, b5, b6, b7, b8, b9, b10, b11, b12, b13, b14, b15, b16⟩ := mo
  refine ⟨?_, b14, b15, b16⟩
  show IN0 (uT hl) (hI hl) (hI hm) 0
  have hr : ∀ k, rR (uT hl) 29 k = hR hl 29 k := fun _ => rfl
  refine ⟨⟨0, by omega, a1, b1, fun i hi => absurd hi (by omega)⟩, b2, 0, fun _ => 0, by omega, a2, b3, fun r hr => absurd hr (by omega), ⟨0, 0, ⟨by omega, by omega, a3, b4, a4, b5, by rw [a5, b6], by rw [b6]; decide, Or.inl ⟨a6, b6, rfl, rfl⟩, by rw [a7, b7], by rw [a8, b8], fun h => absurd h (by omega), by rw [a9, b9], fun q hq => absurd hq (by omega), fun q hq => absurd hq (by omega)⟩, fun j hj => ?_, ⟨fun q hq => absurd hq (by omega), fun q hq => absurd hq (by omega), 0, by omega, ?_⟩, by rw [a10, b10], Or.inl b10, by rw [a11, b11], ⟨0, by omega, a12, b12, fun i hi => absurd hi (by omega)⟩, 0, 0, by omega, by omega, a14, b13, a13, fun i hi => absurd hi (by omega)⟩, fun k hk => Or.inl ⟨by rw [hr]; exact r29 k hk, v55 k hk⟩⟩
  · have h46 : j < 46 := by unfold vis at hj; omega
    rw [show 17 + 9 = 26 from rfl, c26 j h46, lv j h46]
  · rw [lv 45 (by omega)]; rfl
theorem first_inv : INV (uT hLa0) sLa0 sMo0 0 := first_gen (hl := hLa0) (hm := hMo0) la0_I la0_26 mo0_I mo0_LV mo0_55 la0_29
/-! from a heap as it was made to a world -/
theorem HRel_to {D : va_G} {cA : Nat → ClassId} {xt : Nat → Nat} {A : Nat → Prop} {ad : Nat → Nat} {h h' : PH} {H : Heap} (hn : hN h' = hN h) (hc : ∀ i, i < hN h → cE cA xt ad h' i = cE cA xt ad h i) (w : wfH h') (r : HRel D cA xt A ad h H) : HRel D cA xt A ad h' H := by
  have e : wsO cA xt ad h' = wsO cA xt ad h := by
    unfold wsO
    rw [hn]
    apply List.map_congr_left
    intro i hi
    rw [hc i (List.mem_range.mp hi)]
  exact ⟨by rw [e]; exact r.1, by rw [e]; exact r.2.1, w⟩
theorem cE_to {cA : Nat → ClassId} {xt ad : Nat → Nat} {h h' : PH} {i : Nat} (hs : hS h' i = hS h i) (hi : hI h' i = hI h i) (hl : hL h' i = hL h i) (hr : ∀ ci, hS h i = .inl ci → ∀ k, k < nF ci → hR h' i k = hR h i k) (hq : ∀ q, hS h i = .inr q → q.1 < 4 ∨ hR h' i = hR h i) : cE cA xt ad h' i = cE cA xt ad h i := by
  unfold cE
  rw [hs]
  cases e : hS h i with
  | inl ci =>
    show (Sum.inr (ci, (List.range (nF ci)).map (fV xt ad h' i ci)) : va_E) = Sum.inr (ci, (List.range (nF ci)).map (fV xt ad h i ci))
    congr 2
    apply List.map_congr_left
    intro k hk
    simp only [fV, hi, hr ci e k (List.mem_range.mp hk)]
  | inr q =>
    show (Sum.inl (cA q.1, q.2, aC xt ad h' i q.1) : va_E) = Sum.inl (cA q.1, q.2, aC xt ad h i q.1)
    congr 3
    unfold aC
    rw [hi, hl]
    rcases hq q e with h4 | h4
    · rw [if_pos h4, if_pos h4]
    · rw [h4]
theorem cRs_lt : ∀ i k a, cRs i k = some a → a < 48 := by
  intro i k a h
  unfold cRs at h
  split at h
  · unfold cR_0 at h; split at h <;> simp at h <;> omega
  · unfold cR_1 at h; split at h <;> simp at h <;> omega
  · unfold cR_3 at h; split at h <;> simp at h <;> omega
  · unfold cR_4 at h; split at h <;> simp at h <;> omega
  · unfold cR_11 at h; split at h <;> simp at h <;> omega
  · unfold cR_17 at h; split at h <;> simp at h <;> omega
  · unfold cR_18 at h; split at h <;> simp at h <;> omega
  · unfold cR_25 at h; split at h <;> simp at h <;> omega
  · unfold cR_30 at h; split at h <;> simp at h <;> omega
  · unfold cR_31 at h; split at h <;> simp at h <;> omega
  · unfold cR_33 at h; split at h <;> simp at h <;> omega
  · unfold cR_44 at h; split at h <;> simp at h <;> omega
  · cases h
theorem mR_lt : ∀ i k a, mR i k = some a → a < 56 := by
  intro i k a h
  unfold mR at h
  split at h
  · unfold mR0 at h; split at h <;> simp at h <;> omega
  · cases h
theorem la_world {D : va_G} {cA : Nat → ClassId} {xt : Nat → Nat} {A : Nat → Prop} {ad : Nat → Nat} {H : Heap} {h : PH} (n0 : hN h = 48) (hS0 : ∀ a, a < 48 → hS h a = cS a) (hR0 : ∀ a, a < 48 → ∀ k, k < 18 → hR h a k = cRr (uT h) (fun _ => none) a k) (r : HRel D cA xt A ad h H) : HRel D cA xt A ad (cW (uT h) (uS h (fun _ => none))) H := by
  have hn' : hN (cW (uT h) (uS h (fun _ => none))) = 48 := by
    show 48 + (hN h - 48) = 48
    rw [n0]
  refine HRel_to (h := h) (hn'.trans n0.symm) (fun i hi => ?_) ?_ r
  · rw [n0] at hi
    have hs := hS0 i hi
    have ok := cS_ok i hi
    refine cE_to ?_ rfl rfl (fun ci e k hk => ?_) (fun q e => ?_)
    · show cSh (uT h) i = _
      unfold cSh
      rw [if_pos hi, hs]
    · rw [hs] at e
      rw [e] at ok
      have ok : nF ci ≤ 18 := of_decide_eq_true ok
      exact (hR0 i hi k (by omega)).symm
    · rw [hs] at e
      rw [e] at ok
      have ok : q.1 < 4 ∨ i = 16 ∨ i = 29 := of_decide_eq_true ok
      rcases ok with h | rfl | rfl
      · exact Or.inl h
      · exact Or.inr rfl
      · exact Or.inr rfl
  · refine ⟨by rw [hn']; omega, fun i k a hi hr => ?_⟩
    rw [hn'] at hi ⊢
    have hr : cRr (uT h) (fun _ => none) i k = some a := hr
    have w := r.2.2.2
    rw [n0] at w
    unfold cRr at hr
    split at hr
    · exact w 16 k a (by omega) hr
    · exact w 29 k a (by omega) hr
    · unfold cR30 at hr
      split at hr
      · cases hr
      · cases hr
      · exact Or.inl (cRs_lt 30 k a hr)
    · rw [if_pos hi] at hr
      exact Or.inl (cRs_lt i k a hr)
theorem la0_world {D : va_G} {cA : Nat → ClassId} {xt : Nat → Nat} {A : Nat → Prop} {ad : Nat → Nat} {H : Heap} (r : HRel D cA xt A ad hLa0 H) : HRel D cA xt A ad (cW (uT hLa0) sLa0) H := la_world la0_n la0_S la0_R r
theorem mo_world {D : va_G} {cA : Nat → ClassId} {xt : Nat → Nat} {A : Nat → Prop} {ad : Nat → Nat} {H : Heap} {h : PH} (n0 : hN h = 56) (hS0 : ∀ a, a < 56 → hS h a = mS a) (hR0 : ∀ k, k < 82 → hR h 0 k = mR0 k) (r : HRel D cA xt A ad h H) : HRel D cA xt A ad (mW (hI h, hL h, fun _ => none)) H := by
  refine HRel_to (h := h) (show 56 = hN h from n0.symm) (fun i hi => ?_) ?_ r
  · rw [n0] at hi
    have hs := hS0 i hi
    have ok := mS_ok i hi
    refine cE_to hs.symm rfl rfl (fun ci e k hk => ?_) (fun q e => ?_)
    · rw [hs] at e
      rw [e] at ok
      have ok : i = 0 := of_decide_eq_true ok
      subst ok
      have e : ci = 11 := by cases e; rfl
      subst e
      exact (hR0 k hk).symm
    · rw [hs] at e
      rw [e] at ok
      exact Or.inl (of_decide_eq_true ok)
  · exact ⟨(by decide : 56 ≤ 1000000), fun i k a hi hr => Or.inl (mR_lt i k a hr)⟩
theorem mo0_world {D : va_G} {cA : Nat → ClassId} {xt : Nat → Nat} {A : Nat → Prop} {ad : Nat → Nat} {H : Heap} (r : HRel D cA xt A ad hMo0 H) : HRel D cA xt A ad (mW sMo0) H := mo_world mo0_n mo0_S mo0_R r
