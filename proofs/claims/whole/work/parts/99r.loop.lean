/-! RULES: all clauses by both -/
section SR1
variable {B : Nat → Nat} {n R : Nat}
def TBk (R : Nat) (s s' : ST) (e : Nat → Nat × Nat) (cl : Nat) (St Tt : Nat → Nat) : Prop := ∀ c, c < cl → gi s 13 c = nI (St c) ∧ gi s 14 c = nI (Tt c) ∧ gi s' 30 (12 * R + c) = nI (St c) ∧ gi s' 31 (12 * R + c) = nI (Tt c) ∧ gi s' 32 (12 * R + c) = nI (St (c + 1)) ∧ St c ≤ Tt c ∧ Tt c ≤ St (c + 1) ∧ tyR e (Tt c - St c) (St c) [] = some [false] ∧ (Tt c < St (c + 1) → tyR e (St (c + 1) - Tt c) (Tt c) [] = some [true])
/-- the whole text is read -/
def RF (R N : Nat) (y z' : ST) : Prop := ∃ L e St Tt, N ≤ 12 ∧ gi y 1 3 = 0 ∧ gi z' 0 28 = 0 ∧ gi y 11 5 = nI N ∧ gi y 11 2 = nI L ∧ L ≤ 300 ∧ (∀ i, i < L → gi y 12 i = nI (sg (e i).1 + 32 * (e i).2) ∧ gi z' 27 (300 * R + i) = nI (e i).1 ∧ gi z' 28 (300 * R + i) = nI (e i).2 ∧ (e i).2 ≤ 99999) ∧ TBk R y z' e N St Tt ∧ gi y 13 N = nI (St N) ∧ ∀ c, c ≤ N → St c ≤ L
theorem TB_next {cl L Lc : Nat} {s s' z z' w w' : ST} {e e2 : Nat → Nat × Nat} {St Tt : Nat → Nat} {tt : Nat} {k : Int32} (h : TBk R s s' e cl St Tt) (hSt : St cl = Lc) (hS : ∀ c, c ≤ cl → St c ≤ Lc) (he : ∀ i, i < Lc → e2 i = e i) (f1 : FX (xK cl) s z) (f2 : FX (uK R cl) s' z') (f3 : FX (eF cl k) z w) (f4 : FX (uSm R) z' w') (k13 : gi z 13 cl = nI Lc) (k14 : gi w 14 cl = nI tt) (k30 : gi z' 30 (12 * R + cl) = nI Lc) (k31 : gi z' 31 (12 * R + cl) = nI tt) (k32 : gi z' 32 (12 * R + cl) = nI L) (l1 : Lc ≤ tt) (l2 : tt ≤ L) (t1 : tyR e2 (tt - Lc) Lc [] = some [false]) (t2 : tt < L → tyR e2 (L - tt) tt [] = some [true]) :
    TBk R w w' e2 (cl + 1) (fun c => if c = cl + 1 then L else St c) (fun c => if c = cl then tt else Tt c) := by
  intro c hc
  have c1 : ¬ c = cl + 1 := by omega
  by_cases ce : c = cl
  · subst ce
    simp only [c1, if_false, if_true, hSt]
    refine ⟨by rw [f3 _ _ (by unfold eF; omega)]; exact k13, k14, ?_, ?_, ?_, l1, l2, t1, t2⟩
    · rw [f4 _ _ (by unfold uSm; omega)]; exact k30
    · rw [f4 _ _ (by unfold uSm; omega)]; exact k31
    · rw [f4 _ _ (by unfold uSm; omega)]; exact k32
  · obtain ⟨a1, a2, a3, a4, a5, a6, a7, a8, a9⟩ := h c (by omega)
    have c2 : ¬ c + 1 = cl + 1 := by omega
    have hS1 := hS (c + 1) (by omega)
    simp only [c1, c2, ce, if_false]
    refine ⟨?_, ?_, ?_, ?_, ?_, a6, a7, ?_, fun q => ?_⟩
    · rw [f3 _ _ (by unfold eF; omega), f1 _ _ (by unfold xK; omega)]; exact a1
    · rw [f3 _ _ (by unfold eF; omega), f1 _ _ (by unfold xK; omega)]; exact a2
    · rw [f4 _ _ (by unfold uSm; omega), f2 _ _ (by unfold uK uTs uSm; omega)]; exact a3
    · rw [f4 _ _ (by unfold uSm; omega), f2 _ _ (by unfold uK uTs uSm; omega)]; exact a4
    · rw [f4 _ _ (by unfold uSm; omega), f2 _ _ (by unfold uK uTs uSm; omega)]; exact a5
    · rw [tyR_c (e := e) _ _ _ (fun i h1 h2 => he i (by omega))]; exact a8
    · rw [tyR_c (e := e) _ _ _ (fun i h1 h2 => he i (by omega))]; exact a9 q
end SR1
