/-! RULES: a clause by both -/
section SQ
variable {B : Nat → Nat} {n R : Nat}
def xK (cl a j : Nat) : Prop := (a = 1 ∧ 2 ≤ j ∧ j ≤ 6) ∨ (a = 11 ∧ (j = 2 ∨ (7 ≤ j ∧ j ≤ 12))) ∨ a = 12 ∨ a = 15 ∨ ((a = 13 ∨ a = 14) ∧ j = cl)
def uK (R cl a j : Nat) : Prop := uTs R a j ∨ ((a = 30 ∨ a = 31 ∨ a = 32) ∧ j = 12 * R + cl)
theorem xK_R {cl : Nat} : ∀ a j, xK cl a j → xRl a j := by unfold xK xRl; omega
theorem xT_K {cl : Nat} : ∀ a j, xTs a j → xK cl a j := by unfold xK xTs xCm xSm; omega
theorem uT_K {cl : Nat} : ∀ a j, uTs R a j → uK R cl a j := fun _ _ q => Or.inl q
theorem uK_R {cl : Nat} : ∀ a j, uK R cl a j → uRl R a j := by unfold uK uRl; omega
theorem FF_hi {b f a j : Nat} {z : ST} {y : Int32} (h : FF B n b f z) (ha : 30 ≤ a) : FF B n b f (si z a j y) := by
  obtain ⟨⟨h0, h5⟩, h1, h2, h3, p, h4, h6⟩ := h
  exact ⟨⟨⟨h0.1, by rw [gi_ne (by omega)]; exact h0.2.1, fun i hi => by rw [gi_ne (by omega)]; exact h0.2.2 i hi⟩, by rw [gi_ne (by omega)]; exact h5⟩, h1, h2, by rw [gi_ne (by omega)]; exact h3, p, h4, by rw [gi_ne (by omega)]; exact h6⟩
/-- behind a clause, before the token that ends it -/
def CP (B : Nat → Nat) (n R cl : Nat) (e : Nat → Nat × Nat) (Lc p x2 : Nat) (z z' : ST) : Prop :=
  ∃ p2 p2' e2 Lc2 P2 cnt2 M2 S2 T2 tt, SV B n R x2 p2 p2' z z' e2 Lc2 P2 [] cnt2 0 S2 T2 0 M2 ∧ bl B n p2' = p2' ∧ gi z 11 11 = 3 ∧ KD B n p2' (gi z 11 12) ∧ gi z 11 10 = 0 ∧ gi z' 0 32 = 0 ∧ 3 * M2 ≤ p2 ∧ (gi z 11 12 = 0 → wdb B n p2' (txB 21) = false ∧ tt = Lc2 + P2.length) ∧ (¬ gi z 11 12 = 0 → (wdb B n p2' (txB 22) = false ∧ wdb B n p2' (txB 23) = false) ∧ gi z 14 cl = nI tt) ∧ gi z 13 cl = nI Lc ∧ gi z' 30 (12 * R + cl) = nI Lc ∧ gi z' 31 (12 * R + cl) = nI tt ∧ gi z' 32 (12 * R + cl) = nI (Lc2 + P2.length) ∧ Lc ≤ tt ∧ tt ≤ Lc2 + P2.length ∧ tyR e2 (tt - Lc) Lc [] = some [false] ∧ (tt < Lc2 + P2.length → tyR e2 (Lc2 + P2.length - tt) tt [] = some [true]) ∧ (∀ i, i < Lc → e2 i = e i) ∧ p < p2
end SQ
