/-! RULES: a test by both -/
section SH
variable {B : Nat → Nat} {n R : Nat}
def tK (f : Nat) (x1 : Int32) (s : ST) : Option ST := (fX12_test_L9 f x1 1 s).bind (fun w => some w.2.2)
theorem tK_F {f : Nat} {x1 : Int32} {s : ST} (h : ¬ gi s 0 28 = 0) : tK (f + 1) x1 s = some s := by
  unfold tK
  rw [fX12_test_L9, if_neg n10, if_neg h, bd_s, if_neg nft, bd_s]
theorem tK_1 {f : Nat} {s : ST} (h : gi s 0 28 = 0) : tK (f + 1) 1 s = (fX12_fact s).bind (fun q => tK f (if q.1 = 0 then 1 else 0) q.2) := by
  unfold tK
  rw [fX12_test_L9, if_neg n10, if_pos h, bd_s, if_pos rfl, if_neg n10, Option.bind_assoc]
  congr 1
  funext q
  by_cases c : q.1 = 0
  · rw [if_pos c, if_pos c, bd_s]
  · rw [if_neg c, if_neg c, bd_s]
def TP (B : Nat → Nat) (n R : Nat) (e : Nat → Nat × Nat) (L p S x2 : Nat) (z z' : ST) : Prop :=
  ∃ p2 p2' e2 Lc2 P2 cnt2 M2, SV B n R x2 p2 p2' z z' e2 Lc2 P2 [] cnt2 0 S [true] 0 M2 ∧ 3 * M2 ≤ p2 ∧ gi z 11 11 = 3 ∧ gi z 11 10 = 0 ∧ gi z' 0 32 = 0 ∧ KE B n p2' (gi z 11 12) ∧ bl B n p2' = p2' ∧ wdb B n p2' (txB 22) = false ∧ wdb B n p2' (txB 23) = false ∧ (∀ k, k ∈ P2 → 1 ≤ tgN k) ∧ p < p2 ∧ L ≤ Lc2 + P2.length ∧ ∀ i, i < L → e2 i = e i
theorem FS_bl {x p p' : Nat} {s s' : ST} {e : Nat → Nat × Nat} {Lc : Nat} {P K : List Nat} {cnt S M : Nat} {ld : List Bool} (h : FS B n R x p p' s s' e Lc P K cnt S ld M) : fX12_blanks s' = some (si s' 0 27 (nI (bl B n p'))) ∧ FS B n R x p (bl B n p') s (si s' 0 27 (nI (bl B n p'))) e Lc P K cnt S ld M := by
  obtain ⟨h1, ⟨h2, h3, h4⟩, h5⟩ := h
  obtain ⟨a1, a2⟩ := SV_bl h1
  exact ⟨a1, a2, ⟨by rw [gi_dif (by decide)]; exact h2, Stk_w _ (fun i _ => gi_ne (by decide)) h3, by rw [gi_dif (by decide)]; exact h4⟩, h5⟩
theorem Tok_ne91 {st pl : Nat} {tok val : Int32} (h : Tok B n st tok pl val) (hB : ∀ i, i < n → B i < 256) (hc : ¬ (st < n ∧ B st = 91)) : ¬ tok = 91 := by
  rcases h with ⟨_, e, _⟩ | ⟨_, _, e, _⟩ | ⟨_, _, _, e, _⟩ | ⟨e1, _, _, e4⟩
  · rw [e]; decide
  · rw [e]; decide
  · rw [e]; decide
  · have hb := hB _ e1
    rcases e4 with ⟨_, e5, _⟩ | ⟨_, e5, _⟩
    · rw [e5, nj_eqr (by omega) (by decide)]; omega
    · rw [e5, nj_eqr (by omega) (by decide)]; exact fun q => hc ⟨e1, q⟩
theorem ans_ev {a : Nat} {s z : ST} (h : fX12_answers_L0 (nI a) FUEL s = some z) : fX12_answers (nI a) s = some z := by
  unfold fX12_answers
  rw [h, bd_s]
/-- the fact that comes first -/
theorem fact_both {e0 : Nat → Nat × Nat} {L0 p0 S m : Nat} (ih : ∀ m2, m2 < m → (∀ (f x p p' : Nat) (s s' : ST) (e : Nat → Nat × Nat) (Lc : Nat) (K : List Nat) (cnt M : Nat), n - p = m2 → m2 + 1 < f → FS B n R x p p' s s' e Lc [] K cnt S [] M → gi s 11 11 = 1 → gi s 11 12 = 1 → p0 < p → L0 ≤ Lc → (∀ i, i < L0 → e i = e0 i) → OC B n xTs (uTs R) 410 x s s' (tK f 1 s') (TP B n R e0 L0 p0 S)) ∧
      (∀ (f x p p' : Nat) (s s' : ST) (e : Nat → Nat × Nat) (Lc : Nat) (P K : List Nat) (cnt M : Nat), n - p = m2 → m2 + 1 < f → FS B n R x p p' s s' e Lc P K cnt S [true] M → gi s 11 11 = 3 → KE B n p' (gi s 11 12) → (∀ k, k ∈ P → 4 ≤ tgN k) → p0 < p → L0 ≤ Lc + P.length → (∀ i, i < L0 → e i = e0 i) → OC B n xTs (uTs R) 410 x s s' (tK f 0 s') (TP B n R e0 L0 p0 S)))
    {f x p p' : Nat} {s s' : ST} {e : Nat → Nat × Nat} {Lc : Nat} {K : List Nat} {cnt M : Nat} (hm : n - p = m) (hf : m + 1 < f) (h : FS B n R x p p' s s' e Lc [] K cnt S [] M) (h11 : gi s 11 11 = 1) (h12 : gi s 11 12 = 1) (hp0 : p0 < p) (hL0 : L0 ≤ Lc) (he0 : ∀ i, i < L0 → e i = e0 i) : OC B n xTs (uTs R) 410 x s s' (tK f 1 s') (TP B n R e0 L0 p0 S) := by
  obtain ⟨f, rfl⟩ : ∃ m, f = m + 1 := ⟨f - 1, by omega⟩
  obtain ⟨f, rfl⟩ : ∃ m, f = m + 1 := ⟨f - 1, by omega⟩
  have v28 := h.1.2.1.2.1
  obtain ⟨c1, c2⟩ := FS_bl h
  obtain ⟨st, hst⟩ : ∃ st, bl B n p' = st := ⟨_, rfl⟩
  rw [hst] at c1 c2
  have hps : p' ≤ st := by rw [← hst]; exact ru_ge
  have hsb : bl B n st = st := by rw [← hst]; exact bl_bl
  have hn := h.1.2.1.1.1
  have hsn : st ≤ n := c2.1.2.1.2.2.2.2.2.2.2.2
  obtain ⟨tc, k3, k2, l2, l7, l8, l9, l12, l15, hp, hx⟩ := c2.1.1
  obtain ⟨u, pl, a1, a2, a3, a4, a5, a6, a7, a8⟩ := step_ev tc hp k2
  have hbp : bl B n p = st := by have := c2.1.2.2.1; rw [hsb] at this; exact this
  rw [hbp] at a3 a5 a7 a8
  have u11 : gi u 11 11 = 1 := by rw [a2.1 _ _ (by omega)]; exact h11
  have ac : actC u = fX3_readFact u := by
    unfold actC
    rw [u11, if_neg n10, if_pos rfl, bdS]
  have i6 := wordC (w := 6) (by decide) (a2.TC tc) a3 a4 hsn a8
  have i6 : fX6_isWord 1000006 u = some (if wdb B n st (txB 6) = true then 1 else 0) := i6
  obtain ⟨e43, _, _, _, _, l6, _⟩ := wd_eq
  obtain ⟨q2, hq2⟩ : ∃ q, si s' 0 27 (nI st) = q := ⟨_, rfl⟩
  rw [hq2] at c1 c2
  have tv := c2.1.2.1.1
  have v27 := c2.1.2.1.2.2.1
  have sv := stood_ev (w := 43) (by decide) tv v27 (by omega)
  have sv : fX12_stood 1000043 q2 = some (if wdb B n st (txB 43) = true then 1 else 0) := sv
  rw [e43] at sv
  have hB : ∀ i, i < n → B i < 256 := fun i hi => (tv.2.2 i hi).1
  have hfact : fX12_fact s' = (fX12_stood 1000043 q2).bind (fun q4 => if q4 = 0 then (fX12_sign q2).bind (fun q6 => if q6 = 91 then (fX12_opens 12 q2).bind (fun q10 => lt (si q10 0 27 ((gi q10 0 27) + 1)) (fun s11 => some (0, s11))) else (fX12_compared q2).bind (fun q8 => some (1, q8))) else (fX12_opens 9 q2).bind (fun q13 => lt (si q13 0 27 ((gi q13 0 27) + 3)) (fun s14 => some (0, s14)))) := by
    unfold fX12_fact
    rw [c1, bd_s]
  have fr : FX (uTs R) s' q2 := by rw [← hq2]; exact FX.si (by unfold uTs uSm; omega)
  rw [tK_1 v28, hfact, sv, bd_s]
  refine OC_pre xT_R (fun _ hy => hy) FX.rfl fr ?_
  have go : ∀ k c : Nat, (k = 9 ∨ k = 12) → c = (if k = 9 then 3 else 1) → pl = st + c → actC u = fX3_goDeeper (nI (sg k)) u → OC B n xTs (uTs R) 410 x s q2 (((fX12_opens (nI k) q2).bind (fun q10 => lt (si q10 0 27 ((gi q10 0 27) + nI c)) (fun s11 => some ((0 : Int32), s11)))).bind (fun q => tK (f + 1) (if q.1 = 0 then 1 else 0) q.2)) (TP B n R e0 L0 p0 S) := fun k c hk hc hpl hact => by
    have hc1 : 1 ≤ c := by rw [hc]; split <;> omega
    have hpst : p ≤ st := by rw [← hbp]; exact ru_ge
    rcases deep c2 (by rw [h11]; decide) hsb hk hc a1 a2 a4 hpl a6 hact with ⟨y', o1, o2, w, M2, w1, w2, w3, w4, w5, w6⟩ | ⟨y', o1, o2, o3, fl, y, o4, o5, o6, o7⟩
    · rw [o1, bd_s, lt_v, o2, nj_add, ← hpl, bd_s]
      exact OC_pre xT_R w1 w2 w3 ((ih (n - pl) (by omega)).1 (f + 1) (x + 1) pl pl w _ e Lc (k :: K) cnt M2 rfl (by omega) w4 (by rw [w5]; exact h11) (by rw [w6]; exact h12) (by omega) hL0 he0)
    · rw [o1, bd_s, lt_v, o2, nj_add, ← hpl, bd_s]
      have hF := FF_ne o4
      obtain ⟨g0, g1, g2, g3, gp, g4, g5⟩ := o4
      exact ⟨_, tK_F hF, o3, Or.inl ⟨fl, y, ⟨g0, g1, g2, g3, gp, by omega, g5⟩, o5, o6, o7⟩⟩
  by_cases cn : wdb B n st (txB 6) = true
  · obtain ⟨t1, t2, t3, t4⟩ := wd_tok a8 cn (by rw [l6]; decide) hsn
    rw [l6] at t3
    rw [if_pos cn, if_neg n10]
    refine go 9 3 (Or.inl rfl) rfl t3 ?_
    rw [ac]
    unfold fX3_readFact
    rw [if_neg (show ¬ gi u 1 4 = 91 by rw [t2]; decide), i6, bd_s, if_pos cn, if_neg n10, bdS, bdS]
    rfl
  · rw [if_neg cn] at i6
    rw [if_neg cn, if_pos rfl, SV_sg c2.1, bd_s]
    by_cases cb : st < n ∧ B st = 91
    · obtain ⟨t1, t2⟩ := Tok_sign a8 cb.1 (by rw [cb.2]; rfl) (by rw [cb.2]; rfl) (by rw [cb.2]; decide) (by rw [cb.2]; decide)
      rw [if_pos cb.1, cb.2, if_pos (show nI 91 = 91 from rfl)]
      refine go 12 1 (Or.inr rfl) rfl t2 ?_
      rw [ac]
      unfold fX3_readFact
      rw [if_pos (show gi u 1 4 = 91 by rw [t1, cb.2]; rfl), bdS, bdS]
      rfl
    · have n91 := Tok_ne91 a8 hB cb
      have r91 : ¬ (if st < n then nI (B st) else -1) = 91 := by
        by_cases c : st < n
        · have := hB st c
          rw [if_pos c, nj_eqr (by omega) (by decide)]; exact fun q => cb ⟨c, q⟩
        · rw [if_neg c]; decide
      rw [if_neg r91, Option.bind_assoc]
      simp only [bd_s, if_neg n10]
      have aV : ActV s := fun z hz => by
        obtain rfl : u = z := Option.some.inj (a1.symm.trans hz)
        rw [ac]
        unfold fX3_readFact
        rw [if_neg n91, i6, bd_s, if_pos rfl, bdS, bdS]
      have hlen := sh_32 c2.2.2.2.1 c2.1.2.2.2.2.2.1
      refine OC_bind xT_R (OC_w (b2 := 402) (cmp_both c2.1 aV (by rw [h11]; decide) h12 (fun k hk => (sh_4 c2.2.2.2.1 k hk).1) (by omega)) xC_T (fun _ _ q => Or.inl q) (by omega) (fun x2 z z' f1 f2 hq => (show (FX xCm s z ∧ FX (uSm R) q2 z') ∧ _ from ⟨⟨f1, f2⟩, hq⟩))) (fun fl z' hF => ?_) (fun x2 z z' _ _ hq => ?_)
      · have hF2 := FF_ne hF
        obtain ⟨g0, g1, g2, g3, gp, g4, g5⟩ := hF
        exact ⟨z', tK_F hF2, ⟨g0, g1, g2, g3, gp, by omega, g5⟩, FX.rfl⟩
      · obtain ⟨⟨f1, f2⟩, ⟨p2, p2', e2, Lc2, P2, cnt2, hS, g1, g2, g3, g4, g5, g6, g7⟩, g8⟩ := hq
        have hbe : p2 ≤ p2' := by
          have q := hS.2.2.1
          rw [g7.1] at q
          rw [← q]; exact ru_ge
        have hpst : p ≤ st := by rw [← hbp]; exact ru_ge
        have hbn : p2' ≤ n := hS.2.1.2.2.2.2.2.2.2.2
        have hp2n : p2 ≤ n := hS.1.2.2.2.2.2.2.2.2.2.1
        exact (ih (n - p2) (by omega)).2 (f + 1) x2 p2 p2' z z' e2 Lc2 P2 K cnt2 M rfl (by omega) ⟨hS, ⟨by rw [f2 _ _ (by unfold uSm; omega)]; exact c2.2.1.1, Stk_w _ (fun i _ => f2 _ _ (by unfold uSm; omega)) c2.2.1.2.1, by rw [f2 _ _ (by unfold uSm; omega)]; exact c2.2.1.2.2⟩, by rw [f1 _ _ (by unfold xCm xSm; omega)]; exact c2.2.2.1, c2.2.2.2.1, by have := c2.2.2.2.2; omega⟩ g3 (Or.inl ⟨g8, g7⟩) g2 (by omega) (by omega) (fun i hi => by rw [g6 i (by omega)]; exact he0 i hi)
end SH
