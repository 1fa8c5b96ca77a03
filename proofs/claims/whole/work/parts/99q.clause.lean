/-! RULES: a clause by both -/
section SQ
variable {B : Nat → Nat} {n R : Nat}
def xK (cl a j : Nat) : Prop := (a = 1 ∧ 2 ≤ j ∧ j ≤ 6) ∨ (a = 11 ∧ (j = 2 ∨ (7 ≤ j ∧ j ≤ 12))) ∨ a = 12 ∨ a = 15 ∨ ((a = 13 ∨ a = 14) ∧ j = cl)
def uK (R cl a j : Nat) : Prop := uTs R a j ∨ ((a = 30 ∨ a = 31 ∨ a = 32) ∧ j = 12 * R + cl)
theorem xK_R {cl : Nat} : ∀ a j, xK cl a j → xRl a j := by unfold xK xRl; omega
theorem xT_K {cl : Nat} : ∀ a j, xTs a j → xK cl a j := by unfold xK xTs xCm xSm; omega
theorem uT_K {cl : Nat} : ∀ a j, uTs R a j → uK R cl a j := fun _ _ q => Or.inl q
theorem uK_R {cl : Nat} : ∀ a j, uK R cl a j → uRl R a j := fun a j q => by
  rcases q with q | q
  · exact Or.inl q
  · exact Or.inr ⟨q.1, by omega⟩
theorem FF_hi {b f a j : Nat} {z : ST} {y : Int32} (h : FF B n b f z) (ha : 30 ≤ a) : FF B n b f (si z a j y) := by
  obtain ⟨⟨h0, h5⟩, h1, h2, h3, p, h4, h6⟩ := h
  exact ⟨⟨⟨h0.1, by rw [gi_ne (by omega)]; exact h0.2.1, fun i hi => by rw [gi_ne (by omega)]; exact h0.2.2 i hi⟩, by rw [gi_ne (by omega)]; exact h5⟩, h1, h2, by rw [gi_ne (by omega)]; exact h3, p, h4, by rw [gi_ne (by omega)]; exact h6⟩
/-- behind a clause, before the token that ends it -/
def CP (B : Nat → Nat) (n R cl : Nat) (e : Nat → Nat × Nat) (Lc p x2 : Nat) (z z' : ST) : Prop :=
  ∃ p2 p2' e2 Lc2 P2 cnt2 M2 S2 T2 tt, SV B n R x2 p2 p2' z z' e2 Lc2 P2 [] cnt2 0 S2 T2 0 M2 ∧ bl B n p2' = p2' ∧ gi z 11 11 = 3 ∧ KD B n p2' (gi z 11 12) ∧ gi z 11 10 = 0 ∧ gi z' 0 32 = 0 ∧ 3 * M2 ≤ p2 ∧ (gi z 11 12 = 0 → wdb B n p2' (txB 21) = false ∧ tt = Lc2 + P2.length) ∧ (¬ gi z 11 12 = 0 → (wdb B n p2' (txB 22) = false ∧ wdb B n p2' (txB 23) = false) ∧ gi z 14 cl = nI tt) ∧ gi z 13 cl = nI Lc ∧ gi z' 30 (12 * R + cl) = nI Lc ∧ gi z' 31 (12 * R + cl) = nI tt ∧ gi z' 32 (12 * R + cl) = nI (Lc2 + P2.length) ∧ Lc ≤ tt ∧ tt ≤ Lc2 + P2.length ∧ tyR e2 (tt - Lc) Lc [] = some [false] ∧ (tt < Lc2 + P2.length → tyR e2 (Lc2 + P2.length - tt) tt [] = some [true]) ∧ (∀ i, i < Lc → e2 i = e i) ∧ p < p2
theorem clause_b {x p p' cl : Nat} {s s' : ST} {e : Nat → Nat × Nat} {Lc cnt M : Nat} (h : SV B n R x p p' s s' e Lc [] [] cnt 0 Lc [] 0 M) (h32 : gi s' 0 32 = 0) (h10 : gi s 11 10 = 0) (hM : 3 * M ≤ p) (h11 : gi s 11 11 = 0) (h5 : gi s 11 5 = nI cl) (hcl : cl ≤ 12) : OC B n (xK cl) (uK R cl) 410 x s s' (fX12_ruleClause (nI cl) s') (CP B n R cl e Lc p) := by
  obtain ⟨u1, u2⟩ := SV_bl h
  obtain ⟨st, hst⟩ : ∃ st, bl B n p' = st := ⟨_, rfl⟩
  rw [hst] at u1 u2
  have hsb : bl B n st = st := by rw [← hst]; exact bl_bl
  obtain ⟨q2, hq2⟩ : ∃ q, si s' 0 27 (nI st) = q := ⟨_, rfl⟩
  rw [hq2] at u1 u2
  have fr : FX (uK R cl) s' q2 := by rw [← hq2]; exact FX.si (by unfold uK uTs uSm; omega)
  have hV := u2.2.1
  obtain ⟨tv, v28, v27, v31, v29, v33, v35, vE, hp'⟩ := hV
  have hn := tv.1
  obtain ⟨_, _, _, e42, e29, _, _, _, l21, l5⟩ := wd_eq
  have sv := stood_ev (w := 29) (by decide) tv v27 (by omega)
  have sv : fX12_stood 1000029 q2 = some (if wdb B n st (txB 29) = true then 1 else 0) := sv
  rw [e29] at sv
  have R6 := h.2.2.2.2.1
  unfold fX12_ruleClause
  rw [u1, bd_s, lt_v, v27, sv, bd_s]
  refine OC_pre xK_R (fun _ hy => hy) FX.rfl fr ?_
  have bad : ∀ c, c ≤ 4 → ((c = 0 ∧ wdb B n st (txB 5) = false) ∨ (c = 4 ∧ wdb B n st (txB 5) = true ∧ cl = 12)) → OC B n (xK cl) (uK R cl) 410 x s q2 ((fX12_fails (nI c) (nI st) q2).bind (fun q => some q)) (CP B n R cl e Lc p) := fun c hc4 hc => by
    obtain ⟨y, y1, y2, y3⟩ := late_no u2 hsb h11 h5 hcl hc
    rw [fail0 v28, bd_s]
    exact ⟨_, rfl, FX.si (by unfold uK uTs uSm; omega), Or.inl ⟨1 + 8 * st + c, y, ⟨⟨TV_si tv (by decide), by rw [gi_dif (by decide)]; exact v35⟩, by omega, by omega, gi_same _ _ _ _, st, by omega, by rw [gi_dif (by decide)]; exact v27⟩, y1, y2, y3⟩⟩
  by_cases cw : wdb B n st (txB 5) = true
  · rw [if_pos cw, if_neg n10]
    by_cases c12 : cl = 12
    · rw [if_pos (show nI cl = 12 by rw [c12]; rfl)]
      exact bad 4 (by omega) (Or.inr ⟨rfl, cw, c12⟩)
    · rw [if_neg (show ¬ nI cl = 12 by rw [nj_eqr (by omega) (by decide)]; exact c12)]
      obtain ⟨w, w1, w2, w3, w4, w5, w6, w7⟩ := late_ok u2 hsb h11 h5 (by omega) cw
      sorry
  · have cw' : wdb B n st (txB 5) = false := by simpa using cw
    rw [if_neg cw, if_pos rfl]
    exact bad 0 (by omega) (Or.inl ⟨rfl, cw'⟩)
end SQ
