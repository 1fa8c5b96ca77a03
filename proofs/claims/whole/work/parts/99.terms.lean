/-! RULES: terms, sums -/
section RZ
variable {B : Nat → Nat} {n R : Nat}
theorem ActV_2 {x p : Nat} {s : ST} {e : Nat → Nat × Nat} {Lc : Nat} {P Q : List Nat} {cnt dep : Nat} (h : CV B n x p s e Lc P Q cnt dep) (h2 : gi s 11 11 = 2) : ActV s := fun z hz => by
  obtain ⟨tc, c3, c2, l2, l7, l8, l9, l12, l15, hp, hx⟩ := h
  obtain ⟨z0, pl, a1, a2, _⟩ := step_ev tc hp c2
  obtain rfl : z0 = z := Option.some.inj (a1.symm.trans hz)
  unfold actC
  rw [a2.1 _ _ (by omega), h2, if_neg (show ¬ (2 : Int32) = 0 by decide), if_neg (show ¬ (2 : Int32) = 1 by decide), if_pos rfl]
  cases fX3_readValue z0 <;> rfl
theorem tg_9 {k a : Nat} (h : 4 ≤ a) (hk : a ≤ tgN k) : k ≠ 9 := fun e => by subst e; have : tgN 9 = 3 := rfl; omega
def NT (B : Nat → Nat) (n p : Nat) : Prop := bl B n p = p ∧ ¬ (p < n ∧ (B p = 42 ∨ B p = 47 ∨ B p = 37))
def NS (B : Nat → Nat) (n p : Nat) : Prop := bl B n p = p ∧ ¬ (p < n ∧ (B p = 42 ∨ B p = 47 ∨ B p = 37)) ∧ ¬ (p < n ∧ (B p = 43 ∨ B p = 45))
theorem tL8 {Q : List Nat} {dep S : Nat} {T : List Bool} {g M : Nat} {e0 : Nat → Nat × Nat} {L0 p0 : Nat} (hQ : ∀ k, k ∈ Q.head? → tgN k < 6) (hQl : Q.length ≤ 57) : ∀ (m f x p p' : Nat) (s s' : ST) (e : Nat → Nat × Nat) (Lc : Nat) (P : List Nat) (cnt : Nat), n - p' = m → m < f → SV B n R x p p' s s' e Lc P Q cnt dep S (false :: T) g M → bl B n p' = p' → P.length ≤ 1 → (∀ k, k ∈ P → 6 ≤ tgN k) → gi s 11 11 = 3 → ¬ gi s 11 12 = 3 → p0 < p → L0 ≤ Lc + P.length → (∀ i, i < L0 → e i = e0 i) →
    OC B n xSm (uSm R) 400 x s s' (fX12_term_L8 f s') (PO B n R e0 L0 p0 Q dep S (false :: T) g M 6 1 (NT B n)) := by
  intro m
  induction m using Nat.strongRecOn with
  | _ m ih =>
    intro f x p p' s s' e Lc P cnt hm hf h hbl hPl hP h11 hk hp0 hL0 he0
    obtain ⟨f, rfl⟩ : ∃ m, f = m + 1 := ⟨f - 1, by omega⟩
    have v28 := h.2.1.2.1
    have v27 := h.2.1.2.2.1
    have hsg := SV_sg h
    by_cases c : p' < n ∧ (B p' = 42 ∨ B p' = 47 ∨ B p' = 37)
    · rw [if_pos c.1] at hsg
      have ho : ∃ op, ss (B p') op ∧ tgN op = 6 ∧ op ≠ 9 ∧ tyS (op, 0) (false :: false :: T) = some (false :: T) ∧ fX12_term_L8 (f + 1) s' = (fX12_value (si s' 0 27 (nI (p' + 1)))).bind (fun q23 => (fX12_entry (nI op) 0 q23).bind (fun q25 => (fX12_blanks q25).bind (fun q27 => fX12_term_L8 f q27))) := by
        rcases c.2 with q | q | q
        · refine ⟨13, Or.inl ⟨q, rfl⟩, rfl, by decide, rfl, ?_⟩
          rw [q] at hsg
          rw [fX12_term_L8, if_pos v28, hsg, bd_s, if_pos (show nI 42 = 42 from rfl), bd_s, if_pos rfl, bd_s, if_pos (show nI 42 = 42 from rfl), bd_s, lt_v, v27, nj_addr]
          rfl
        · refine ⟨14, Or.inr (Or.inl ⟨q, rfl⟩), rfl, by decide, rfl, ?_⟩
          rw [q] at hsg
          rw [fX12_term_L8, if_pos v28, hsg, bd_s, if_neg (show ¬ nI 47 = 42 by decide), bd_s, if_pos (show nI 47 = 47 from rfl), bd_s, if_pos rfl, bd_s, if_neg (show ¬ nI 47 = 42 by decide), bd_s, if_pos (show nI 47 = 47 from rfl), bd_s, lt_v, v27, nj_addr]
          rfl
        · refine ⟨15, Or.inr (Or.inr (Or.inl ⟨q, rfl⟩)), rfl, by decide, rfl, ?_⟩
          rw [q] at hsg
          rw [fX12_term_L8, if_pos v28, hsg, bd_s, if_neg (show ¬ nI 37 = 42 by decide), bd_s, if_neg (show ¬ nI 37 = 47 by decide), bd_s, if_pos (show nI 37 = 37 from rfl), bd_s, if_pos rfl, bd_s, if_neg (show ¬ nI 37 = 42 by decide), bd_s, if_neg (show ¬ nI 37 = 47 by decide), bd_s, lt_v, v27, nj_addr]
          rfl
      obtain ⟨op, o1, o2, o3, o4, o5⟩ := ho
      rw [o5]
      obtain ⟨w, w1, w2, w3, w4, w5⟩ := sgn_both h h11 hk o1 c.1 rfl (fun k hk => ⟨by rw [o2]; exact hP k hk, tg_9 (by omega) (hP k hk)⟩) (fun k hk => by rw [o2]; exact hQ k hk) (by omega)
      refine OC_pre xS_R w1 w4 fq27 (OC_bind xS_R (val_both w2 (ActV_2 w2.1 w3) (by rw [w3]; decide)) (fun fl z' hF => ?_) (fun x2 z z' f1 f2 hp => ?_))
      · obtain ⟨f, rfl⟩ : ∃ m, f = m + 1 := ⟨f - 1, by omega⟩
        obtain ⟨y, y1, y2, y3⟩ := blF (R := R) hF (by omega) (by omega)
        exact ⟨y, by rw [ent_F (FF_ne hF), bd_s, y1, bd_s, fX12_term_L8, if_neg (FF_ne y2)], y2, y3⟩
      · obtain ⟨p2, p2', e2, Lc2, P2, cnt2, hS, g1, g2, g3, g4, g5, g6, -⟩ := hp
        obtain rfl : P2 = [] := List.length_eq_zero_iff.1 (by omega)
        obtain ⟨y, y1, y2, y3⟩ := SV_entry hS o3 o4 (by simp)
        obtain ⟨u1, u2⟩ := SV_bl y3
        rw [y1, bd_s, u1, bd_s]
        have hbe : p2 ≤ bl B n p2' := by rw [← hS.2.2.1]; exact ru_ge
        have hbn : bl B n p2' ≤ n := ru_le hS.2.1.2.2.2.2.2.2.2.2
        simp only [List.length_nil, Nat.add_zero] at g5
        refine OC_pre xS_R (fun _ hy => hy) FX.rfl (y2.trans fq27) (ih (n - bl B n p2') (by omega) f x2 p2 (bl B n p2') z _ _ Lc2 [op] cnt2 rfl (by omega) u2 bl_bl (by simp) (fun k hk => by rw [List.mem_singleton.1 hk, o2]; exact Nat.le_refl _) g3 ?_ (by omega) (by simp; omega) (fun i hi => ?_))
        · rw [f1 _ _ (by unfold xSm; omega), w4 _ _ (by unfold xSm; omega)]; exact hk
        · rw [ins_o (by simp; omega), g6 i (by omega)]; exact he0 i hi
    · refine ⟨s', ?_, FX.rfl, Or.inr ⟨x, s, fun _ hy => hy, FX.rfl, p, p', e, Lc, P, cnt, h, hPl, hP, h11, hp0, hL0, he0, hbl, c⟩⟩
      have key : ∀ q : Int32, (¬ q = 42 ∧ ¬ q = 47 ∧ ¬ q = 37) → fX12_sign s' = some q → fX12_term_L8 (f + 1) s' = some s' := fun q hq hs => by
        rw [fX12_term_L8, if_pos v28, hs, bd_s, if_neg hq.1, bd_s, if_neg hq.2.1, bd_s, if_neg hq.2.2, bd_s, if_neg nft]
      by_cases c1 : p' < n
      · have hb := (h.2.1.1.2.2 p' c1).1
        refine key _ ?_ hsg
        rw [if_pos c1, nj_eqr (by omega) (by decide), nj_eqr (by omega) (by decide), nj_eqr (by omega) (by decide)]
        exact ⟨fun q => c ⟨c1, Or.inl q⟩, fun q => c ⟨c1, Or.inr (Or.inl q)⟩, fun q => c ⟨c1, Or.inr (Or.inr q)⟩⟩
      · refine key _ ?_ hsg
        rw [if_neg c1]
        decide
theorem term_both {x p p' : Nat} {s s' : ST} {e : Nat → Nat × Nat} {Lc : Nat} {Q : List Nat} {cnt dep S : Nat} {T : List Bool} {g M : Nat} (h : SV B n R x p p' s s' e Lc [] Q cnt dep S T g M) (ha : ActV s) (h4 : ¬ gi s 11 11 = 4) (hk : ¬ gi s 11 12 = 3) (hQ : ∀ k, k ∈ Q.head? → tgN k < 6) (hQl : Q.length ≤ 57) : OC B n xSm (uSm R) 400 x s s' (fX12_term s') (PO B n R e Lc p Q dep S (false :: T) g M 6 1 (NT B n)) := by
  unfold fX12_term
  refine OC_bind xS_R (val_both h ha h4) (fun fl z' hF => ?_) (fun x2 z z' f1 f2 hp => ?_)
  · obtain ⟨y, y1, y2, y3⟩ := blF (R := R) hF (by omega) (by omega)
    exact ⟨y, by rw [y1, bd_s, show FUEL = 4999 + 1 from rfl, fX12_term_L8, if_neg (FF_ne y2), bd_s], y2, y3⟩
  · obtain ⟨p2, p2', e2, Lc2, P2, cnt2, hS, g1, g2, g3, g4, g5, g6, -⟩ := hp
    obtain rfl : P2 = [] := List.length_eq_zero_iff.1 (by omega)
    obtain ⟨u1, u2⟩ := SV_bl hS
    have hn := hS.2.1.1.1
    have e1 : ∀ (o : Option ST), o.bind (fun q => some q) = o := fun o => by cases o <;> rfl
    rw [u1, bd_s, e1]
    exact OC_pre xS_R (fun _ hy => hy) FX.rfl fq27 (tL8 hQ hQl (n - bl B n p2') FUEL x2 p2 _ z _ e2 Lc2 [] cnt2 rfl (by rw [FUEL_eq]; omega) u2 bl_bl (by simp) (fun k hk => absurd hk (by simp)) g3 (by rw [f1 _ _ (by unfold xSm; omega)]; exact hk) g4 g5 g6)
theorem sL4 {Q : List Nat} {dep S : Nat} {T : List Bool} {g M : Nat} {e0 : Nat → Nat × Nat} {L0 p0 : Nat} (hQ : ∀ k, k ∈ Q.head? → tgN k < 5) (hQl : Q.length ≤ 56) : ∀ (m f x p p' : Nat) (s s' : ST) (e : Nat → Nat × Nat) (Lc : Nat) (P : List Nat) (cnt : Nat), n - p' = m → m < f → SV B n R x p p' s s' e Lc P Q cnt dep S (false :: T) g M → NT B n p' → P.length ≤ 2 → (∀ k, k ∈ P → 5 ≤ tgN k) → gi s 11 11 = 3 → ¬ gi s 11 12 = 3 → p0 < p → L0 ≤ Lc + P.length → (∀ i, i < L0 → e i = e0 i) →
    OC B n xSm (uSm R) 400 x s s' (fX12_sum_L4 f s') (PO B n R e0 L0 p0 Q dep S (false :: T) g M 5 2 (NS B n)) := by
  intro m
  induction m using Nat.strongRecOn with
  | _ m ih =>
    intro f x p p' s s' e Lc P cnt hm hf h hnt hPl hP h11 hk hp0 hL0 he0
    obtain ⟨f, rfl⟩ : ∃ m, f = m + 1 := ⟨f - 1, by omega⟩
    have v28 := h.2.1.2.1
    have v27 := h.2.1.2.2.1
    have hsg := SV_sg h
    by_cases c : p' < n ∧ (B p' = 43 ∨ B p' = 45)
    · rw [if_pos c.1] at hsg
      have ho : ∃ op, ss (B p') op ∧ tgN op = 5 ∧ op ≠ 9 ∧ tyS (op, 0) (false :: false :: T) = some (false :: T) ∧ fX12_sum_L4 (f + 1) s' = (fX12_term (si s' 0 27 (nI (p' + 1)))).bind (fun q17 => (fX12_entry (nI op) 0 q17).bind (fun q19 => fX12_sum_L4 f q19)) := by
        rcases c.2 with q | q
        · refine ⟨2, Or.inr (Or.inr (Or.inr (Or.inl ⟨q, rfl⟩))), rfl, by decide, rfl, ?_⟩
          rw [q] at hsg
          rw [fX12_sum_L4, if_pos v28, hsg, bd_s, if_pos (show nI 43 = 43 from rfl), bd_s, if_pos rfl, bd_s, if_pos (show nI 43 = 43 from rfl), bd_s, lt_v, v27, nj_addr]
          rfl
        · refine ⟨3, Or.inr (Or.inr (Or.inr (Or.inr ⟨q, rfl⟩))), rfl, by decide, rfl, ?_⟩
          rw [q] at hsg
          rw [fX12_sum_L4, if_pos v28, hsg, bd_s, if_neg (show ¬ nI 45 = 43 by decide), bd_s, if_pos (show nI 45 = 45 from rfl), bd_s, if_pos rfl, bd_s, if_neg (show ¬ nI 45 = 43 by decide), bd_s, lt_v, v27, nj_addr]
          rfl
      obtain ⟨op, o1, o2, o3, o4, o5⟩ := ho
      rw [o5]
      obtain ⟨w, w1, w2, w3, w4, w5⟩ := sgn_both h h11 hk o1 c.1 rfl (fun k hk => ⟨by rw [o2]; exact hP k hk, tg_9 (by omega) (hP k hk)⟩) (fun k hk => by rw [o2]; exact hQ k hk) (by omega)
      refine OC_pre xS_R w1 w4 fq27 (OC_bind xS_R (term_both w2 (ActV_2 w2.1 w3) (by rw [w3]; decide) (by rw [w4 _ _ (by unfold xSm; omega)]; exact hk) (fun k hk => by simp at hk; rw [← hk, o2]; decide) (by simp; omega)) (fun fl z' hF => ?_) (fun x2 z z' f1 f2 hp => ?_))
      · obtain ⟨f, rfl⟩ : ∃ m, f = m + 1 := ⟨f - 1, by omega⟩
        exact ⟨z', by rw [ent_F (FF_ne hF), bd_s, fX12_sum_L4, if_neg (FF_ne hF)], hF, FX.rfl⟩
      · obtain ⟨p2, p2', e2, Lc2, P2, cnt2, hS, g1, g2, g3, g4, g5, g6, g7⟩ := hp
        obtain ⟨y, y1, y2, y3⟩ := SV_entry hS o3 o4 (by simp)
        rw [y1, bd_s]
        have hbe : p2 ≤ p2' := by
          have q := hS.2.2.1
          rw [g7.1] at q
          rw [← q]; exact ru_ge
        have hbn : p2' ≤ n := hS.2.1.2.2.2.2.2.2.2.2
        refine OC_pre xS_R (fun _ hy => hy) FX.rfl y2 (ih (n - p2') (by omega) f x2 p2 p2' z _ _ Lc2 (P2 ++ [op]) cnt2 rfl (by omega) y3 g7 (by simp; omega) (fun k hk => ?_) g3 ?_ (by omega) (by simp; omega) (fun i hi => ?_))
        · rcases List.mem_append.1 hk with q | q
          · have := g2 k q; omega
          · rw [List.mem_singleton.1 q, o2]; exact Nat.le_refl _
        · rw [f1 _ _ (by unfold xSm; omega), w4 _ _ (by unfold xSm; omega)]; exact hk
        · rw [ins_o (by omega), g6 i (by omega)]; exact he0 i hi
    · refine ⟨s', ?_, FX.rfl, Or.inr ⟨x, s, fun _ hy => hy, FX.rfl, p, p', e, Lc, P, cnt, h, hPl, hP, h11, hp0, hL0, he0, hnt.1, hnt.2, c⟩⟩
      have key : ∀ q : Int32, (¬ q = 43 ∧ ¬ q = 45) → fX12_sign s' = some q → fX12_sum_L4 (f + 1) s' = some s' := fun q hq hs => by
        rw [fX12_sum_L4, if_pos v28, hs, bd_s, if_neg hq.1, bd_s, if_neg hq.2, bd_s, if_neg nft]
      by_cases c1 : p' < n
      · have hb := (h.2.1.1.2.2 p' c1).1
        refine key _ ?_ hsg
        rw [if_pos c1, nj_eqr (by omega) (by decide), nj_eqr (by omega) (by decide)]
        exact ⟨fun q => c ⟨c1, Or.inl q⟩, fun q => c ⟨c1, Or.inr q⟩⟩
      · refine key _ ?_ hsg
        rw [if_neg c1]
        decide
theorem sum_both {x p p' : Nat} {s s' : ST} {e : Nat → Nat × Nat} {Lc : Nat} {Q : List Nat} {cnt dep S : Nat} {T : List Bool} {g M : Nat} (h : SV B n R x p p' s s' e Lc [] Q cnt dep S T g M) (ha : ActV s) (h4 : ¬ gi s 11 11 = 4) (hk : ¬ gi s 11 12 = 3) (hQ : ∀ k, k ∈ Q.head? → tgN k < 5) (hQl : Q.length ≤ 56) : OC B n xSm (uSm R) 400 x s s' (fX12_sum s') (PO B n R e Lc p Q dep S (false :: T) g M 5 2 (NS B n)) := by
  unfold fX12_sum
  refine OC_bind xS_R (term_both h ha h4 hk (fun k hk => by have := hQ k hk; omega) (by omega)) (fun fl z' hF => ?_) (fun x2 z z' f1 f2 hp => ?_)
  · exact ⟨z', by rw [show FUEL = 4999 + 1 from rfl, fX12_sum_L4, if_neg (FF_ne hF), bd_s], hF, FX.rfl⟩
  · obtain ⟨p2, p2', e2, Lc2, P2, cnt2, hS, g1, g2, g3, g4, g5, g6, g7⟩ := hp
    have hn := hS.2.1.1.1
    have e1 : ∀ (o : Option ST), o.bind (fun q => some q) = o := fun o => by cases o <;> rfl
    rw [e1]
    exact sL4 hQ hQl (n - p2') FUEL x2 p2 _ z _ e2 Lc2 P2 cnt2 rfl (by rw [FUEL_eq]; omega) hS g7 (by omega) (fun k hk => by have := g2 k hk; omega) g3 (by rw [f1 _ _ (by unfold xSm; omega)]; exact hk) g4 g5 g6
end RZ
