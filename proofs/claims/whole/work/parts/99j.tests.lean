/-! RULES: a test by both -/
section SJ
variable {B : Nat → Nat} {n R : Nat}
theorem testL {e0 : Nat → Nat × Nat} {L0 p0 S : Nat} : ∀ m : Nat, (∀ (f x p p' : Nat) (s s' : ST) (e : Nat → Nat × Nat) (Lc : Nat) (K : List Nat) (cnt M : Nat), n - p = m → m + 1 < f → FS B n R x p p' s s' e Lc [] K cnt S [] M → gi s 11 11 = 1 → gi s 11 12 = 1 → p0 < p → L0 ≤ Lc → (∀ i, i < L0 → e i = e0 i) → OC B n xTs (uTs R) 410 x s s' (tK f 1 s') (TP B n R e0 L0 p0 S)) ∧
      (∀ (f x p p' : Nat) (s s' : ST) (e : Nat → Nat × Nat) (Lc : Nat) (P K : List Nat) (cnt M : Nat), n - p = m → m + 1 < f → FS B n R x p p' s s' e Lc P K cnt S [true] M → gi s 11 11 = 3 → KE B n p' (gi s 11 12) → (∀ k, k ∈ P → 4 ≤ tgN k) → p0 < p → L0 ≤ Lc + P.length → (∀ i, i < L0 → e i = e0 i) → OC B n xTs (uTs R) 410 x s s' (tK f 0 s') (TP B n R e0 L0 p0 S)) := by
  intro m
  induction m using Nat.strongRecOn with
  | _ m ih => exact ⟨fun f x p p' s s' e Lc K cnt M h1 h2 h3 h4 h5 h6 h7 h8 => fact_both ih h1 h2 h3 h4 h5 h6 h7 h8, fun f x p p' s s' e Lc P K cnt M h1 h2 h3 h4 h5 h6 h7 h8 h9 => beh_both ih h1 h2 h3 h4 h5 h6 h7 h8 h9⟩
theorem test_both {x p p' p0 : Nat} {s s' : ST} {e : Nat → Nat × Nat} {Lc cnt S M : Nat} (h : SV B n R x p p' s s' e Lc [] [] cnt 0 S [] 0 M) (h32 : gi s' 0 32 = 0) (h10 : gi s 11 10 = 0) (hM : 3 * M ≤ p) (h11 : gi s 11 11 = 1) (h12 : gi s 11 12 = 1) (hp0 : p0 < p) : OC B n xTs (uTs R) 410 x s s' (fX12_test s') (TP B n R e Lc p0 S) := by
  have hn := h.2.1.1.1
  have e1 : fX12_test s' = tK FUEL 1 (si s' 0 34 0) := rfl
  rw [e1]
  refine OC_pre xT_R (fun _ hy => hy) FX.rfl (FX.si (by unfold uTs uSm; omega)) ((testL (n - p)).1 FUEL x p p' s _ e Lc [] cnt M rfl (by rw [FUEL_eq]; omega) ⟨⟨h.1, ?_, h.2.2.1, h.2.2.2⟩, ⟨gi_same _ _ _ _, trivial, by rw [gi_dif (by decide)]; exact h32⟩, h10, trivial, hM⟩ h11 h12 hp0 (Nat.le_refl _) (fun _ _ => rfl))
  obtain ⟨tv, v28, v27, v31, v29, v33, v35, vE, hp'⟩ := h.2.1
  refine ⟨TV_si tv (by decide), ?_, ?_, ?_, ?_, ?_, ?_, fun i hi => ?_, hp'⟩
  · rw [gi_dif (by decide)]; exact v28
  · rw [gi_dif (by decide)]; exact v27
  · rw [gi_dif (by decide)]; exact v31
  · rw [gi_dif (by decide)]; exact v29
  · rw [gi_dif (by decide)]; exact v33
  · rw [gi_dif (by decide)]; exact v35
  · rw [gi_ne (by decide), gi_ne (by decide)]; exact vE i hi
end SJ
