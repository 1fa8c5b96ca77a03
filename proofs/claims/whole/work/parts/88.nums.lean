/-! NUMBERS BY BOTH -/
section NB
variable {B : Nat → Nat} {n : Nat}
theorem dgR {mx : Int32} {st : Nat} (hst : st < n) : ∀ (m k f : Nat) (s : ST), n - (st + k) = m → m < f → st + k ≤ n → (∀ i, i < k → isD (B (st + i)) = true) → TV s B n → gi s 0 27 = nI (st + k) →
    fX12_digits_L25 mx (nI st) f (nI (dvS B st (if k ≤ 5 then k else 5))) s = some (nI (dvS B st (if dg B n (st + k) - st ≤ 5 then dg B n (st + k) - st else 5)), si s 0 27 (nI (dg B n (st + k)))) := by
  intro m
  induction m with
  | zero =>
    intro k f s hm hf hx hd ht hp
    obtain ⟨f, rfl⟩ : ∃ m, f = m + 1 := ⟨f - 1, by omega⟩
    have hn := ht.1
    have e : dg B n (st + k) = st + k := by unfold dg; exact ru_e (by omega)
    rw [fX12_digits_L25, isDi_ev ht hp (by omega), bd_s, if_neg (show ¬ (st + k < n ∧ isD (B (st + k)) = true) by omega), if_pos rfl, e, si_id hp, show st + k - st = k by omega]
  | succ m ih =>
    intro k f s hm hf hx hd ht hp
    obtain ⟨f, rfl⟩ : ∃ m, f = m + 1 := ⟨f - 1, by omega⟩
    have hn := ht.1
    have b1 := (ht.2.2 (st + k) (by omega)).1
    rw [fX12_digits_L25, isDi_ev ht hp (by omega), bd_s]
    by_cases c : isD (B (st + k)) = true
    · have hc := c
      unfold isD at hc
      simp at hc
      have hd2 : ∀ i, i < k + 1 → isD (B (st + i)) = true := fun i hi => by
        by_cases e : i = k
        · rw [e]; exact c
        · exact hd i (by omega)
      have e : dg B n (st + k) = dg B n (st + (k + 1)) := by unfold dg; exact ru_s (p := st + k) (by omega) c
      have hsub : nI (st + k) - nI st = nI k := by rw [nj_sub (by omega)]; congr 1; omega
      rw [if_pos (show st + k < n ∧ isD (B (st + k)) = true from ⟨by omega, c⟩), if_neg n10, hp, hsub, e]
      have ih' := ih (k + 1) f (si s 0 27 (nI (st + (k + 1)))) (by omega) (by omega) (by omega) hd2 (TV_si ht (by decide)) (gi_same _ _ _ _)
      rw [si_si] at ih'
      by_cases c5 : k < 5
      · have hv := dvS_b k (fun i hi => hd i hi)
        have hv2 : dvS B st k < 100000 := by
          have : 10 ^ k ≤ 10 ^ 5 := Nat.pow_le_pow_right (by decide) (by omega)
          omega
        rw [if_neg (show ¬ (5 : Int32) ≤ nI k by rw [nj_lel (by decide) (by omega)]; omega), sg_ev ht hp (by omega), bd_s, bd_s, lt_v, if_pos (show st + k < n by omega), if_pos (show k ≤ 5 by omega), nj_mull, nj_add, nj_subr (by omega), nj_addr]
        rw [if_pos (show k + 1 ≤ 5 by omega)] at ih'
        rw [show 10 * dvS B st k + B (st + k) - 48 = dvS B st (k + 1) by rw [dvS]; omega]
        exact ih'
      · rw [if_pos (show (5 : Int32) ≤ nI k by rw [nj_lel (by decide) (by omega)]; omega), bd_s, lt_v, nj_addr]
        rw [if_neg (show ¬ k + 1 ≤ 5 by omega)] at ih'
        have e5 : (if k ≤ 5 then k else 5) = 5 := by split <;> omega
        rw [e5]
        exact ih'
    · have e : dg B n (st + k) = st + k := by unfold dg; exact ru_e (P := fun i => isD (B i)) (fun h => c h.2)
      rw [if_neg (show ¬ (st + k < n ∧ isD (B (st + k)) = true) from fun h => c h.2), if_pos rfl, e, si_id hp, show st + k - st = k by omega]
theorem fail0 {s : ST} {c p : Nat} (h : gi s 0 28 = 0) : fX12_fails (nI c) (nI p) s = some (si s 0 28 (nI (1 + 8 * p + c))) := by
  unfold fX12_fails
  rw [if_pos h, bd_s, lt_v, nj_mull, nj_addl, nj_add]
theorem failN {s : ST} {c p : Int32} (h : ¬ gi s 0 28 = 0) : fX12_fails c p s = some s := by
  unfold fX12_fails
  rw [if_neg h, bd_s, lt_v, si_self]
theorem blame0 {s : ST} {c p : Nat} (h : gi s 1 3 = 0) (h5 : gi s 1 5 = nI p) : fX6_blame (nI c) s = some (si s 1 3 (nI (1 + 8 * p + c))) := by
  unfold fX6_blame
  rw [if_pos h, lt_v, bd_s, h5, nj_mull, nj_addl, nj_add]
theorem blameN {s : ST} {c : Int32} (h : ¬ gi s 1 3 = 0) : fX6_blame c s = some s := by
  unfold fX6_blame
  rw [if_neg h, bd_s]
/-- the digits that stand at p -/
theorem digs {s : ST} {p : Nat} (ht : TV s B n) (hp : gi s 0 27 = nI p) (hpn : p ≤ n) (h0 : gi s 0 28 = 0) : fX12_digits 99999 s = some (if p < n ∧ isD (B p) = true then (if dg B n p - p ≤ 5 then (nI (dvS B p (dg B n p - p)), si s 0 27 (nI (dg B n p))) else (nI (dvS B p 5), si (si s 0 27 (nI (dg B n p))) 0 28 (nI (1 + 8 * p + 1)))) else (0, si s 0 28 (nI (1 + 8 * p)))) := by
  have hn := ht.1
  unfold fX12_digits
  rw [isDi_ev ht hp (by omega), bd_s]
  by_cases c : p < n ∧ isD (B p) = true
  · obtain ⟨c1, c2⟩ := c
    rw [if_pos (show p < n ∧ isD (B p) = true from ⟨c1, c2⟩), if_neg n10, lt_v, hp]
    have d := dgR (mx := 99999) c1 (n - (p + 0)) 0 FUEL s rfl (by rw [FUEL_eq]; omega) (by omega) (fun i hi => absurd hi (by omega)) ht hp
    have d : fX12_digits_L25 99999 (nI p) FUEL 0 s = some (nI (dvS B p (if dg B n p - p ≤ 5 then dg B n p - p else 5)), si s 0 27 (nI (dg B n p))) := d
    have hge : p ≤ dg B n p := ru_ge
    have hle : dg B n p ≤ n := ru_le hpn
    rw [d, bd_s]
    simp only [gi_same]
    rw [nj_sub (by omega)]
    have hdig : ∀ m, m ≤ dg B n p - p → ∀ i, i < m → isD (B (p + i)) = true := fun m hm i hi => ru_in (P := fun i => isD (B i)) (n := n) (p := p) (by omega) (show p + i < dg B n p by omega)
    by_cases c5 : dg B n p - p ≤ 5
    · have hv := dvS_b (B := B) (st := p) (dg B n p - p) (hdig _ (Nat.le_refl _))
      have hv2 : dvS B p (dg B n p - p) < 100000 := by
        have : 10 ^ (dg B n p - p) ≤ 10 ^ 5 := Nat.pow_le_pow_right (by decide) c5
        omega
      rw [if_pos c5, if_pos c5, if_neg (show ¬ (5 : Int32) < nI (dg B n p - p) by rw [nj_ltl (by decide) (by omega)]; omega), if_pos (show nI (dvS B p (dg B n p - p)) ≤ 99999 by rw [nj_ler (by omega) (by decide)]; omega), bd_s, if_neg nft, bd_s, if_pos (show p < n ∧ isD (B p) = true from ⟨c1, c2⟩)]
    · rw [if_neg c5, if_neg c5, if_pos (show (5 : Int32) < nI (dg B n p - p) by rw [nj_ltl (by decide) (by omega)]; omega), bd_s, if_pos rfl]
      have hf := fail0 (s := si s 0 27 (nI (dg B n p))) (c := 1) (p := p) (by rw [gi_dif (by decide)]; exact h0)
      have hf : fX12_fails 1 (nI p) (si s 0 27 (nI (dg B n p))) = some (si (si s 0 27 (nI (dg B n p))) 0 28 (nI (1 + 8 * p + 1))) := hf
      rw [hf, bd_s, bd_s, if_pos (show p < n ∧ isD (B p) = true from ⟨c1, c2⟩)]
  · have hf := fail0 (s := s) (c := 0) (p := p) h0
    have hf : fX12_fails 0 (nI p) s = some (si s 0 28 (nI (1 + 8 * p))) := hf
    rw [if_neg c, if_pos rfl, hp, hf, bd_s, if_neg c]
/-- both go on alike, or both have the same fault -/
def MR (B : Nat → Nat) (n : Nat) (s s' : ST) : Prop := TC s B n ∧ TV s' B n ∧ ((∃ f, 1 ≤ f ∧ f ≤ 4000 ∧ gi s 1 3 = nI f ∧ gi s' 0 28 = nI f ∧ ∃ p, p ≤ 500 ∧ gi s' 0 27 = nI p) ∨ (gi s 1 3 = 0 ∧ gi s' 0 28 = 0 ∧ ∃ x x', x ≤ n ∧ x' ≤ n ∧ bl B n x = bl B n x' ∧ gi s 1 2 = nI x ∧ gi s' 0 27 = nI x'))
def FC1 (s z : ST) : Prop := ∀ a j, ¬ (a = 1 ∧ 2 ≤ j ∧ j ≤ 6) → gi z a j = gi s a j
def FV1 (s z : ST) : Prop := ∀ a j, ¬ (a = 0 ∧ (j = 27 ∨ j = 28)) → gi z a j = gi s a j
theorem FC1.trans {a b c : ST} (h : FC1 a b) (k : FC1 b c) : FC1 a c := fun x j e => (k x j e).trans (h x j e)
theorem FV1.trans {a b c : ST} (h : FV1 a b) (k : FV1 b c) : FV1 a c := fun x j e => (k x j e).trans (h x j e)
theorem FT.c1 {s z : ST} (h : FT s z) : FC1 s z := fun a j e => h.1 a j (by omega)
theorem FC1.si {s : ST} {j : Nat} {x : Int32} (h : 2 ≤ j ∧ j ≤ 6) : FC1 s (si s 1 j x) := fun a i e => si_x _ _ (by omega)
theorem FV1.si {s : ST} {j : Nat} {x : Int32} (h : j = 27 ∨ j = 28) : FV1 s (si s 0 j x) := fun a i e => si_x _ _ (by omega)
theorem FC1.TC {s z : ST} (h : FC1 s z) (k : TC s B n) : TC z B n := ⟨k.1, by rw [h _ _ (by omega)]; exact k.2.1, fun i hi => by rw [h _ _ (by omega)]; exact k.2.2 i hi⟩
theorem FV1.TV {s z : ST} (h : FV1 s z) (k : TV s B n) : TV z B n := ⟨k.1, by rw [h _ _ (by omega)]; exact k.2.1, fun i hi => by rw [h _ _ (by omega)]; exact k.2.2 i hi⟩
theorem MR_w {s s' z z' : ST} (h : MR B n s s') (h1 : ∀ j, gi z 1 j = gi s 1 j) (h2 : ∀ j, gi z 2 j = gi s 2 j) (h3 : ∀ j, j = 26 ∨ j = 27 ∨ j = 28 → gi z' 0 j = gi s' 0 j) (h4 : ∀ j, gi z' 26 j = gi s' 26 j) : MR B n z z' := by
  obtain ⟨t1, t2, t3⟩ := h
  refine ⟨⟨t1.1, by rw [h1]; exact t1.2.1, fun i hi => by rw [h2]; exact t1.2.2 i hi⟩, ⟨t2.1, by rw [h3 _ (by omega)]; exact t2.2.1, fun i hi => by rw [h4]; exact t2.2.2 i hi⟩, ?_⟩
  rw [h1, h1, h3 28 (by omega), h3 27 (by omega)]
  exact t3
theorem num_both {s s' : ST} {lo hi lo' hi' : Int32} (h : MR B n s s') (he : gi s 1 3 = 0 → lo' = lo ∧ hi' = hi) :
    ∃ v v' z z', fX6_readNumber lo hi s = some (v, z) ∧ fX12_amount lo' hi' s' = some (v', z') ∧ MR B n z z' ∧ FC1 s z ∧ FV1 s' z' ∧ (gi z 1 3 = 0 → gi s 1 3 = 0 ∧ v' = v ∧ (∃ k, k ≤ 99999 ∧ v = nI k) ∧ lo ≤ v ∧ v ≤ hi ∧ ∃ x', x' ≤ n ∧ gi s' 0 27 = nI x' ∧ gi z 1 5 = nI (bl B n x')) := by
  obtain ⟨t1, t2, t3⟩ := h
  have hn := t1.1
  rcases t3 with ⟨f, f1, f2, f3, f4, p, f5, f6⟩ | ⟨f3, f4, x, x', g1, g2, g3, g4, g5⟩
  · -- a fault before
    have nf : ¬ nI f = 0 := by rw [nj_eqr (by omega) (by decide)]; omega
    have hb : bl B n p ≤ 500 := by
      by_cases c : p ≤ n
      · have : bl B n p ≤ n := ru_le c
        omega
      · have : bl B n p = p := by unfold bl; exact ru_e (by omega)
        omega
    refine ⟨0, 0, s, si s' 0 27 (nI (bl B n p)), ?_, ?_, ⟨t1, TV_si t2 (by decide), Or.inl ⟨f, f1, f2, f3, by rw [gi_dif (by decide)]; exact f4, bl B n p, hb, gi_same _ _ _ _⟩⟩, fun _ _ _ => rfl, FV1.si (by omega), fun e => absurd (f3.symm.trans e) nf⟩
    · unfold fX6_readNumber
      rw [f3, if_neg nf]
    · unfold fX12_amount
      rw [blanks_ev t2 f6 (by omega), bd_s, lt_v]
      simp only [gi_si, Nat.reduceEqDiff, if_true, if_false, f4, nf, bd_s, Bool.false_eq_true]
  · obtain ⟨rfl, rfl⟩ := he f3
    obtain ⟨z, pl, a1, a2, a3, a4, a5, a6, a7, a8⟩ := step_ev t1 g1 g4
    rw [g3] at a3 a5 a7 a8
    obtain ⟨st, hst⟩ : ∃ st, bl B n x' = st := ⟨_, rfl⟩
    rw [hst] at a3 a5 a7 a8
    have hsn : st ≤ n := by rw [← hst]; exact ru_le g2
    have z3 : gi z 1 3 = 0 := by rw [a2.1 _ _ (by omega)]; exact f3
    have tv1 : TV (si s' 0 27 (nI st)) B n := TV_si t2 (by decide)
    have dd := digs tv1 (gi_same _ _ _ _) hsn (by rw [gi_dif (by decide)]; exact f4)
    have am : fX12_amount lo' hi' s' = (fX12_digits 99999 (si s' 0 27 (nI st))).bind (fun w4 => (if (gi w4.2 0 28) = 0 then (fX12_in w4.1.toInt64 lo'.toInt64 hi'.toInt64 w4.2).bind (fun q13 => if q13 = 0 then some true else some false) else some false : Option Bool).bind (fun b9 => (if b9 = true then (fX12_fails 1 (nI st) w4.2).bind (fun q18 => some q18) else some w4.2 : Option (ST)).bind (fun w14 => some (w4.1, w14)))) := by
      unfold fX12_amount
      rw [blanks_ev t2 g5 (by omega), bd_s, lt_v, hst, gi_same, gi_dif (by decide), f4, if_pos rfl]
      cases fX12_digits 99999 (si s' 0 27 (nI st)) <;> rfl
    -- no number
    have nonum : ¬ (st < n ∧ isD (B st) = true) → gi z 1 4 ≠ -2 → ∃ v v' zz z', fX6_readNumber lo' hi' s = some (v, zz) ∧ fX12_amount lo' hi' s' = some (v', z') ∧ MR B n zz z' ∧ FC1 s zz ∧ FV1 s' z' ∧ (gi zz 1 3 = 0 → gi s 1 3 = 0 ∧ v' = v ∧ (∃ k, k ≤ 99999 ∧ v = nI k) ∧ lo' ≤ v ∧ v ≤ hi' ∧ ∃ x', x' ≤ n ∧ gi s' 0 27 = nI x' ∧ gi zz 1 5 = nI (bl B n x')) := by
      intro c c2
      have hbm : fX6_blame 0 z = some (si z 1 3 (nI (1 + 8 * st))) := blame0 (c := 0) z3 a3
      have n0 : ¬ nI (1 + 8 * st) = 0 := by rw [nj_eqr (by omega) (by decide)]; omega
      refine ⟨0, 0, si z 1 3 (nI (1 + 8 * st)), si (si s' 0 27 (nI st)) 0 28 (nI (1 + 8 * st)), ?_, ?_, ⟨(a2.c1.trans (FC1.si (by omega))).TC t1, TV_si tv1 (by decide), Or.inl ⟨1 + 8 * st, by omega, by omega, gi_same _ _ _ _, gi_same _ _ _ _, st, by omega, by rw [gi_dif (by decide), gi_same]⟩⟩, a2.c1.trans (FC1.si (by omega)), (FV1.si (by omega)).trans (FV1.si (by omega)), fun e => absurd ((gi_same _ _ _ _).symm.trans e) n0⟩
      · unfold fX6_readNumber
        rw [if_pos f3, a1, bd_s, if_neg c2, hbm, bd_s]
      · rw [am, dd, if_neg c, bd_s]
        simp only [gi_same, n0, if_false, bd_s, Bool.false_eq_true]
    rcases a8 with ⟨e1, e2, e3⟩ | ⟨e1, e2, e3, e4, e5⟩ | ⟨e1, e2, e3, e4, e5⟩ | ⟨e1, e2, e3, e4⟩
    · exact nonum (by omega) (by rw [e2]; decide)
    · have hbm : fX6_blame 1 z = some (si z 1 3 (nI (1 + 8 * st + 1))) := blame0 (c := 1) z3 a3
      have n0 : ¬ nI (1 + 8 * st + 1) = 0 := by rw [nj_eqr (by omega) (by decide)]; omega
      have hge : st ≤ dg B n st := ru_ge
      have hle : dg B n st ≤ n := ru_le hsn
      rw [e4] at a4
      by_cases c5 : dg B n st - st ≤ 5
      · rw [if_pos c5] at e5
        have hdig : ∀ i, i < dg B n st - st → isD (B (st + i)) = true := fun i hi => ru_in (P := fun i => isD (B i)) (n := n) (p := st) (by omega) (show st + i < dg B n st by omega)
        have hv := dvS_b (B := B) (st := st) (dg B n st - st) hdig
        have hv2 : dvS B st (dg B n st - st) < 100000 := by
          have : 10 ^ (dg B n st - st) ≤ 10 ^ 5 := Nat.pow_le_pow_right (by decide) c5
          omega
        obtain ⟨k, hk⟩ : ∃ k, dvS B st (dg B n st - st) = k := ⟨_, rfl⟩
        rw [hk] at e5 hv2
        have dd2 : fX12_digits 99999 (si s' 0 27 (nI st)) = some (nI k, si s' 0 27 (nI (dg B n st))) := by
          rw [dd, if_pos (show st < n ∧ isD (B st) = true from ⟨e1, e2⟩), if_pos c5, hk, si_si]
        by_cases c1 : nI k < lo'
        · refine ⟨0, nI k, si z 1 3 (nI (1 + 8 * st + 1)), si (si s' 0 27 (nI (dg B n st))) 0 28 (nI (1 + 8 * st + 1)), ?_, ?_, ⟨(a2.c1.trans (FC1.si (by omega))).TC t1, TV_si (TV_si t2 (by decide)) (by decide), Or.inl ⟨1 + 8 * st + 1, by omega, by omega, gi_same _ _ _ _, gi_same _ _ _ _, dg B n st, by omega, by rw [gi_dif (by decide), gi_same]⟩⟩, a2.c1.trans (FC1.si (by omega)), (FV1.si (by omega)).trans (FV1.si (by omega)), fun e => absurd ((gi_same _ _ _ _).symm.trans e) n0⟩
          · unfold fX6_readNumber
            rw [if_pos f3, a1, bd_s, if_pos e3, e5, if_neg (nj_nn (by omega)), if_pos c1, bd_s, if_pos rfl, hbm, bd_s]
          · rw [am, dd2, bd_s]
            simp only [gi_dif (show (28 : Nat) ≠ 27 by decide), f4, if_true]
            rw [in_ev (nI k) (l := lo') (h := hi') rfl rfl, if_pos c1, bd_s, if_pos rfl, bd_s, if_pos rfl]
            have hf : fX12_fails 1 (nI st) (si s' 0 27 (nI (dg B n st))) = some (si (si s' 0 27 (nI (dg B n st))) 0 28 (nI (1 + 8 * st + 1))) := fail0 (c := 1) (by rw [gi_dif (by decide)]; exact f4)
            rw [hf, bd_s, bd_s]
        · by_cases c2 : hi' < nI k
          · have c3 : ¬ nI k ≤ hi' := by grind
            refine ⟨0, nI k, si z 1 3 (nI (1 + 8 * st + 1)), si (si s' 0 27 (nI (dg B n st))) 0 28 (nI (1 + 8 * st + 1)), ?_, ?_, ⟨(a2.c1.trans (FC1.si (by omega))).TC t1, TV_si (TV_si t2 (by decide)) (by decide), Or.inl ⟨1 + 8 * st + 1, by omega, by omega, gi_same _ _ _ _, gi_same _ _ _ _, dg B n st, by omega, by rw [gi_dif (by decide), gi_same]⟩⟩, a2.c1.trans (FC1.si (by omega)), (FV1.si (by omega)).trans (FV1.si (by omega)), fun e => absurd ((gi_same _ _ _ _).symm.trans e) n0⟩
            · unfold fX6_readNumber
              rw [if_pos f3, a1, bd_s, if_pos e3, e5, if_neg (nj_nn (by omega)), if_neg c1, if_neg c3, bd_s, if_pos rfl, hbm, bd_s]
            · rw [am, dd2, bd_s]
              simp only [gi_dif (show (28 : Nat) ≠ 27 by decide), f4, if_true]
              rw [in_ev (nI k) (l := lo') (h := hi') rfl rfl, if_neg c1, if_pos c2, bd_s, if_pos rfl, bd_s, if_pos rfl]
              have hf : fX12_fails 1 (nI st) (si s' 0 27 (nI (dg B n st))) = some (si (si s' 0 27 (nI (dg B n st))) 0 28 (nI (1 + 8 * st + 1))) := fail0 (c := 1) (by rw [gi_dif (by decide)]; exact f4)
              rw [hf, bd_s, bd_s]
          · have c3 : nI k ≤ hi' := by grind
            have c4 : lo' ≤ nI k := by grind
            refine ⟨nI k, nI k, z, si s' 0 27 (nI (dg B n st)), ?_, ?_, ⟨a2.c1.TC t1, TV_si t2 (by decide), Or.inr ⟨z3, by rw [gi_dif (by decide)]; exact f4, dg B n st, dg B n st, hle, hle, rfl, a4, gi_same _ _ _ _⟩⟩, a2.c1, FV1.si (by omega), fun _ => ⟨f3, rfl, ⟨k, by omega, rfl⟩, c4, c3, x', g2, g5, by rw [hst]; exact a3⟩⟩
            · unfold fX6_readNumber
              rw [if_pos f3, a1, bd_s, if_pos e3, e5, if_neg (nj_nn (by omega)), if_neg c1, if_pos c3, bd_s, if_neg nft]
            · rw [am, dd2, bd_s]
              simp only [gi_dif (show (28 : Nat) ≠ 27 by decide), f4, if_true]
              rw [in_ev (nI k) (l := lo') (h := hi') rfl rfl, if_neg c1, if_neg c2, bd_s, if_neg n10, bd_s, if_neg nft, bd_s]
      · rw [if_neg c5] at e5
        refine ⟨0, nI (dvS B st 5), si z 1 3 (nI (1 + 8 * st + 1)), si (si s' 0 27 (nI (dg B n st))) 0 28 (nI (1 + 8 * st + 1)), ?_, ?_, ⟨(a2.c1.trans (FC1.si (by omega))).TC t1, TV_si (TV_si t2 (by decide)) (by decide), Or.inl ⟨1 + 8 * st + 1, by omega, by omega, gi_same _ _ _ _, gi_same _ _ _ _, dg B n st, by omega, by rw [gi_dif (by decide), gi_same]⟩⟩, a2.c1.trans (FC1.si (by omega)), (FV1.si (by omega)).trans (FV1.si (by omega)), fun e => absurd ((gi_same _ _ _ _).symm.trans e) n0⟩
        · unfold fX6_readNumber
          rw [if_pos f3, a1, bd_s, if_pos e3, e5, if_pos (show (-1 : Int32) < 0 by decide), bd_s, if_pos rfl, hbm, bd_s]
        · rw [am, dd, if_pos (show st < n ∧ isD (B st) = true from ⟨e1, e2⟩), if_neg c5, si_si, bd_s]
          simp only [gi_same, n0, if_false, bd_s, Bool.false_eq_true]
    · refine nonum (fun h => ?_) (by rw [e4]; decide)
      rw [h.2] at e2; cases e2
    · refine nonum (fun h => ?_) ?_
      · rw [h.2] at e2; cases e2
      · have hb : B st < 256 := (t1.2.2 st e1).1
        rcases e4 with ⟨_, e5, _⟩ | ⟨_, e5, _⟩
        · rw [e5]; exact nj_nm (by omega) (by decide) (by decide)
        · rw [e5]; exact nj_nm (by omega) (by decide) (by decide)
end NB
