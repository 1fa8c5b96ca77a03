/-! RULES: what both read of a rule's text -/
def FX (E : Nat → Nat → Prop) (s z : ST) : Prop := ∀ a j, ¬ E a j → gi z a j = gi s a j
theorem FX.rfl {E : Nat → Nat → Prop} {s : ST} : FX E s s := fun _ _ _ => Eq.refl _
theorem FX.trans {E : Nat → Nat → Prop} {a b c : ST} (h : FX E a b) (k : FX E b c) : FX E a c := fun x j e => (k x j e).trans (h x j e)
theorem FX.w {E F : Nat → Nat → Prop} {a b : ST} (h : FX E a b) (k : ∀ x j, E x j → F x j) : FX F a b := fun x j e => h x j (fun q => e (k x j q))
theorem FX.si {E : Nat → Nat → Prop} {s : ST} {a j : Nat} {x : Int32} (h : E a j) : FX E s (si s a j x) := fun b k e => si_x _ _ (fun q => e (by rw [q.1, q.2]; exact h))
/-- the class's pile, the top first -/
def Stk (f : Nat → Int32) : List Nat → Prop
  | [] => True
  | x :: L => f L.length = nI x ∧ Stk f L
theorem Stk_w {f g : Nat → Int32} : ∀ (L : List Nat), (∀ i, i < L.length → g i = f i) → Stk f L → Stk g L
  | [], _, _ => trivial
  | x :: L, h, k => ⟨(h _ (by simp)).trans k.1, Stk_w L (fun i hi => h i (by simp; omega)) k.2⟩
def tgN (k : Nat) : Nat := match k with
  | 0 => 7 | 1 => 7 | 2 => 5 | 3 => 5 | 4 => 4 | 5 => 4 | 6 => 4 | 7 => 4 | 8 => 4 | 9 => 3 | 10 => 2 | 11 => 1 | 12 => 0 | _ => 6
theorem tg_sg : ∀ k, k < 16 → sg k < 16 ∧ tgS (sg k) = nI (tgN k) ∧ tgN k ≤ 7 ∧ (sg k = 14 ↔ k = 9) := by decide +kernel
theorem tg_ev {k : Nat} {s : ST} (h : k ≤ 15) : fX4_tightnessOf (nI (sg k)) s = some (nI (tgN k)) := by
  obtain ⟨h1, h2, h3, h4⟩ := tg_sg k (by omega)
  unfold fX4_tightnessOf
  rw [if_neg (show ¬ nI (sg k) < 0 by rw [nj_ltr (by omega) (by decide)]; omega), if_neg (show ¬ (16 : Int32) ≤ nI (sg k) by rw [nj_lel (by decide) (by omega)]; omega), bd_s, if_pos rfl, ck_t (inb_t h1 (by decide)), ix_nI (by omega), h2, bd_s]
/-- the class's loop over the tokens -/
def actC (z : ST) : Option ST := if (gi z 11 11) = 0 then (fX3_readLate z).bind (fun q20 => some q20) else if (gi z 11 11) = 1 then (fX3_readFact z).bind (fun q23 => some q23) else if (gi z 11 11) = 2 then (fX3_readValue z).bind (fun q26 => some q26) else (fX3_readSign z).bind (fun q28 => some q28)
def RnC (x : Nat) (s y : ST) : Prop := ∃ x2, fX3_read_L44 (5000 - x) (nI x) s = some (x2, y)
theorem tok_step {x : Nat} {s z w y : ST} (hx : x ≤ 400) (h4 : ¬ gi s 11 11 = 4) (h3 : gi s 1 3 = 0) (hs : fX6_step s = some z) (ha : actC z = some w) (k : RnC (x + 1) w y) : RnC x s y := by
  obtain ⟨x2, k⟩ := k
  refine ⟨x2, ?_⟩
  unfold actC at ha
  rw [show 5000 - x = (5000 - (x + 1)) + 1 by omega, fX3_read_L44, if_neg (show ¬ (400 : Int32) < nI x by rw [nj_ltl (by decide) (by omega)]; omega), if_neg h4, if_pos h3, bd_s, if_pos rfl, hs, bd_s, ha, bd_s, lt_v, nj_addr]
  exact k
theorem stop_f {x : Nat} {s : ST} (hx : x ≤ 401) (h3 : ¬ gi s 1 3 = 0) : RnC x s s := by
  refine ⟨nI x, ?_⟩
  rw [show 5000 - x = (5000 - (x + 1)) + 1 by omega, fX3_read_L44]
  have : (if (400 : Int32) < nI x then some false else if gi s 11 11 = 4 then some false else if gi s 1 3 = 0 then some true else some false : Option Bool) = some false := by
    split
    · rfl
    · split
      · rfl
      · rfl
  rw [this, bd_s, if_neg nft]
theorem stop_4 {x : Nat} {s : ST} (hx : x ≤ 401) (h3 : gi s 11 11 = 4) : RnC x s s := by
  refine ⟨nI x, ?_⟩
  rw [show 5000 - x = (5000 - (x + 1)) + 1 by omega, fX3_read_L44]
  have : (if (400 : Int32) < nI x then some false else if gi s 11 11 = 4 then some false else if gi s 1 3 = 0 then some true else some false : Option Bool) = some false := by
    split
    · rfl
    · rfl
  rw [this, bd_s, if_neg nft]
/-! what the class lets wait -/
def eW (a j : Nat) : Prop := (a = 11 ∧ (j = 2 ∨ j = 7 ∨ j = 9)) ∨ a = 12
theorem write_ev {s : ST} {v w L : Nat} (h : gi s 11 2 = nI L) (hL : L < 400) : fX3_write (nI v) (nI w) s = some (si (si s 12 L (nI (v + 32 * w))) 11 2 (nI (L + 1))) := by
  unfold fX3_write
  simp (disch := omega) only [↓ite_bind, ↓ck_bind, ↓lt_bind, ↓Option.bind_assoc, ↓bd_s, ↓lt_v, ↓ck_v, ↓reduceIte, Bool.false_eq_true, Bool.true_eq_false, nj_add, nj_addl, nj_addr, nj_mull, nj_mulr, nj_subr, nj_pred, ix_nI, ix_lit, inb_t, inb_l, nj_lel_f, h, gi_si, Nat.reduceEqDiff]
theorem wwL {Q : List Nat} {a dep : Nat} (ha : a ≤ 10) (hQ : ∀ k, k ∈ Q.head? → k ≤ 15 ∧ tgN k < a) : ∀ (P : List Nat) (f : Nat) (s : ST) (Lc : Nat), P.length < f → Stk (gi s 15) ((P ++ Q).map sg) → gi s 11 7 = nI (P ++ Q).length → (P ++ Q).length ≤ 60 → gi s 11 2 = nI Lc → Lc + P.length ≤ 300 → (∀ k, k ∈ P → k ≤ 15 ∧ a ≤ tgN k) → gi s 11 9 = nI (dep + P.count 9) →
    ∃ z, fX3_writeWaiting_L0 (nI a) f s = some z ∧ gi z 11 2 = nI (Lc + P.length) ∧ gi z 11 7 = nI Q.length ∧ gi z 11 9 = nI dep ∧ (∀ i, i < Lc → gi z 12 i = gi s 12 i) ∧ (∀ j, j < P.length → gi z 12 (Lc + j) = nI (sg (P.getD j 0))) ∧ FX eW s z := by
  intro P
  induction P with
  | nil =>
    intro f s Lc hf hS h7 hl h2 hL hP h9
    obtain ⟨f, rfl⟩ : ∃ m, f = m + 1 := ⟨f - 1, by omega⟩
    refine ⟨s, ?_, h2, h7, h9, fun _ _ => rfl, fun j hj => absurd hj (by simp), FX.rfl⟩
    rw [fX3_writeWaiting_L0, h7]
    cases Q with
    | nil => rw [if_pos (show nI ([] ++ [] : List Nat).length ≤ 0 by decide), bd_s, if_neg nft]
    | cons q Q =>
      obtain ⟨q1, q2⟩ := hQ q (by simp)
      have hk := hS.1
      simp only [List.nil_append, List.length_map, List.length_cons] at hk hl ⊢
      have ht := tg_sg q (by omega)
      have e1 : nI (Q.length + 1) - 1 = nI Q.length := by rw [nj_subr (by omega)]; rfl
      rw [if_neg (show ¬ nI (Q.length + 1) ≤ 0 by rw [nj_ler (by omega) (by decide)]; omega), e1, ck_t (inb_t (by omega) (by decide)), ix_nI (by omega), hk, tg_ev q1, bd_s, if_pos (show nI (tgN q) < nI a by rw [nj_lt (by omega) (by omega)]; exact q2), bd_s, if_neg nft]
  | cons k P ih =>
    intro f s Lc hf hS h7 hl h2 hL hP h9
    obtain ⟨f, rfl⟩ : ∃ m, f = m + 1 := ⟨f - 1, by omega⟩
    obtain ⟨q1, q2⟩ := hP k (by simp)
    have ht := tg_sg k (by omega)
    simp only [List.cons_append, List.length_cons, List.map_cons] at hS h7 hl hL hf
    have hk := hS.1
    simp only [List.length_map] at hk
    obtain ⟨m, hm⟩ : ∃ m, (P ++ Q).length = m := ⟨_, rfl⟩
    rw [hm] at hk h7 hl
    have e1 : nI (m + 1) - 1 = nI m := by rw [nj_subr (by omega)]; rfl
    obtain ⟨s1, hs1⟩ : ∃ z, si s 11 7 (nI m) = z := ⟨_, rfl⟩
    have g7 : gi s1 11 7 = nI m := by rw [← hs1, gi_same]
    have g15 : gi s1 15 m = nI (sg k) := by rw [← hs1, gi_ne (by decide)]; exact hk
    have g9 : gi s1 11 9 = nI (dep + (k :: P).count 9) := by rw [← hs1, gi_dif (by decide)]; exact h9
    obtain ⟨s2, hs2⟩ : ∃ z, si s1 11 9 (nI (dep + P.count 9)) = z := ⟨_, rfl⟩
    have hw : ∃ w : Int32, (if nI (sg k) = 14 then some 1 else some 0 : Option Int32) = some w ∧ gi s1 11 9 - w = nI (dep + P.count 9) := by
      by_cases c : k = 9
      · refine ⟨1, by rw [if_pos (by rw [nj_eqr (by omega) (by decide)]; exact ht.2.2.2.2 c)], ?_⟩
        rw [g9, c, List.count_cons_self, nj_subr (by omega)]; rfl
      · refine ⟨0, by rw [if_neg (by rw [nj_eqr (by omega) (by decide)]; exact fun q => c (ht.2.2.2.1 q))], ?_⟩
        rw [g9, List.count_cons_of_ne (Ne.symm (fun q => c q.symm)), nj_subr (by omega)]; rfl
    obtain ⟨w, w1, w2⟩ := hw
    have r2 : gi s2 11 2 = nI Lc := by rw [← hs2, gi_dif (by decide), ← hs1, gi_dif (by decide)]; exact h2
    have hwr := write_ev (v := sg k) (w := 0) r2 (by omega)
    have hwr : fX3_write (nI (sg k)) 0 s2 = some (si (si s2 12 Lc (nI (sg k + 32 * 0))) 11 2 (nI (Lc + 1))) := hwr
    obtain ⟨s3, hs3⟩ : ∃ z, si (si s2 12 Lc (nI (sg k + 32 * 0))) 11 2 (nI (Lc + 1)) = z := ⟨_, rfl⟩
    rw [hs3] at hwr
    have fr : FX eW s s3 := by
      rw [← hs3, ← hs2, ← hs1]
      exact (((FX.si (by unfold eW; omega)).trans (FX.si (by unfold eW; omega))).trans (FX.si (by unfold eW; omega))).trans (FX.si (by unfold eW; omega))
    have r12 : ∀ i, gi s3 12 i = if i = Lc then nI (sg k) else gi s 12 i := fun i => by
      rw [← hs3, gi_ne (by decide), gi_si, if_pos rfl, ← hs2, gi_ne (by decide), ← hs1, gi_ne (by decide)]; rfl
    obtain ⟨z, a1, a2, a3, a4, a5, a6, a7⟩ := ih f s3 (Lc + 1) (by omega) (Stk_w _ (fun i _ => fr _ _ (by unfold eW; omega)) hS.2) (by rw [← hs3, gi_dif (by decide), gi_ne (by decide), ← hs2, gi_dif (by decide), g7, hm]) (by omega) (by rw [← hs3, gi_same]) (by omega) (fun q hq => hP q (by simp [hq])) (by rw [← hs3, gi_dif (by decide), gi_ne (by decide), ← hs2, gi_same])
    refine ⟨z, ?_, by rw [a2, List.length_cons]; congr 1; omega, a3, a4, fun i hi => by rw [a5 i (by omega), r12, if_neg (by omega)], fun j hj => ?_, fr.trans a7⟩
    · rw [fX3_writeWaiting_L0, h7, if_neg (show ¬ nI (m + 1) ≤ 0 by rw [nj_ler (by omega) (by decide)]; omega), e1, ck_t (inb_t (by omega) (by decide)), ix_nI (by omega), hk, tg_ev q1, bd_s, if_neg (show ¬ nI (tgN k) < nI a by rw [nj_lt (by omega) (by omega)]; omega), bd_s, if_pos rfl, lt_v, hs1, g7, ck_t (inb_t (by omega) (by decide)), lt_v, ix_nI (by omega), g15, w1, bd_s, w2, lt_v, hs2, hwr, bd_s]
      exact a1
    · cases j with
      | zero => rw [show Lc + 0 = Lc from rfl, a5 Lc (by omega), r12, if_pos rfl]; rfl
      | succ j => rw [show Lc + (j + 1) = Lc + 1 + j by omega, a6 j (by simp at hj; omega)]; rfl
theorem ww_ev {P Q : List Nat} {a dep Lc : Nat} {s : ST} (ha : a ≤ 10) (hQ : ∀ k, k ∈ Q.head? → k ≤ 15 ∧ tgN k < a) (hS : Stk (gi s 15) ((P ++ Q).map sg)) (h7 : gi s 11 7 = nI (P ++ Q).length) (hl : (P ++ Q).length ≤ 60) (h2 : gi s 11 2 = nI Lc) (hL : Lc + P.length ≤ 300) (hP : ∀ k, k ∈ P → k ≤ 15 ∧ a ≤ tgN k) (h9 : gi s 11 9 = nI (dep + P.count 9)) :
    ∃ z, fX3_writeWaiting (nI a) s = some z ∧ gi z 11 2 = nI (Lc + P.length) ∧ gi z 11 7 = nI Q.length ∧ gi z 11 9 = nI dep ∧ (∀ i, i < Lc → gi z 12 i = gi s 12 i) ∧ (∀ j, j < P.length → gi z 12 (Lc + j) = nI (sg (P.getD j 0))) ∧ FX eW s z := by
  have hl2 : P.length ≤ 60 := by rw [List.length_append] at hl; omega
  obtain ⟨z, a1, a2⟩ := wwL (a := a) (dep := dep) ha hQ P FUEL s Lc (by rw [FUEL_eq]; omega) hS h7 hl h2 hL hP h9
  refine ⟨z, ?_, a2⟩
  unfold fX3_writeWaiting
  rw [a1, bd_s]
theorem lw_ev {s : ST} {k m : Nat} (h : gi s 11 7 = nI m) (hm : m < 64) : fX3_letWait (nI (sg k)) s = some (si (si s 15 m (nI (sg k))) 11 7 (nI (m + 1))) := by
  unfold fX3_letWait
  simp (disch := omega) only [↓ite_bind, ↓ck_bind, ↓lt_bind, ↓Option.bind_assoc, ↓bd_s, ↓lt_v, ↓ck_v, ↓reduceIte, Bool.false_eq_true, Bool.true_eq_false, nj_add, nj_addl, nj_addr, nj_mull, nj_mulr, nj_subr, nj_pred, ix_nI, ix_lit, inb_t, inb_l, nj_lel_f, h, gi_si, Nat.reduceEqDiff]
