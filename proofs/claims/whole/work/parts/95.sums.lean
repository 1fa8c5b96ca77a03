/-! RULES: what both hold while they read -/
def xSm (a j : Nat) : Prop := (a = 1 ∧ 2 ≤ j ∧ j ≤ 6) ∨ (a = 11 ∧ (j = 2 ∨ j = 7 ∨ j = 8 ∨ j = 11)) ∨ a = 12 ∨ a = 15
def xCm (a j : Nat) : Prop := xSm a j ∨ (a = 11 ∧ j = 12)
def xTs (a j : Nat) : Prop := xCm a j ∨ (a = 11 ∧ (j = 9 ∨ j = 10))
def xRl (a j : Nat) : Prop := (a = 1 ∧ 2 ≤ j ∧ j ≤ 6) ∨ (11 ≤ a ∧ a ≤ 15)
def uSm (R a j : Nat) : Prop := (a = 0 ∧ (j = 27 ∨ j = 28 ∨ j = 31 ∨ j = 33)) ∨ ((a = 27 ∨ a = 28) ∧ 300 * R ≤ j)
def uTs (R a j : Nat) : Prop := uSm R a j ∨ (a = 0 ∧ (j = 32 ∨ j = 34)) ∨ a = 33
def uRl (R a j : Nat) : Prop := uTs R a j ∨ ((a = 30 ∨ a = 31 ∨ a = 32) ∧ 12 * R ≤ j)
/-- the class -/
def CV (B : Nat → Nat) (n x p : Nat) (s : ST) (e : Nat → Nat × Nat) (Lc : Nat) (P Q : List Nat) (cnt dep : Nat) : Prop :=
  TC s B n ∧ gi s 1 3 = 0 ∧ gi s 1 2 = nI p ∧ gi s 11 2 = nI Lc ∧ gi s 11 7 = nI (P ++ Q).length ∧ gi s 11 8 = nI cnt ∧ gi s 11 9 = nI (dep + P.count 9) ∧ (∀ i, i < Lc → gi s 12 i = nI (sg (e i).1 + 32 * (e i).2)) ∧ Stk (gi s 15) ((P ++ Q).map sg) ∧ p ≤ n ∧ x ≤ p
/-- the reference -/
def VV (B : Nat → Nat) (n R p : Nat) (s : ST) (e : Nat → Nat × Nat) (L cnt : Nat) : Prop :=
  TV s B n ∧ gi s 0 28 = 0 ∧ gi s 0 27 = nI p ∧ gi s 0 31 = nI L ∧ gi s 0 29 = nI R ∧ gi s 0 33 = nI cnt ∧ gi s 0 35 = 14 ∧ (∀ i, i < L → gi s 27 (300 * R + i) = nI (e i).1 ∧ gi s 28 (300 * R + i) = nI (e i).2 ∧ (e i).2 ≤ 99999) ∧ p ≤ n
/-- the bounds -/
def BV (R : Nat) (e : Nat → Nat × Nat) (Lc : Nat) (P Q : List Nat) (cnt dep S : Nat) (T : List Bool) (g M : Nat) : Prop :=
  cnt ≤ 60 ∧ R < 6 ∧ dep ≤ 10 ∧ (P ++ Q).length ≤ 60 ∧ (∀ j, j < P.length → e (Lc + j) = (P.getD j 0, 0)) ∧ (∀ k, k ∈ P ++ Q → k ≤ 15) ∧ S ≤ Lc + P.length ∧ tyR e (Lc + P.length - S) S [] = some T ∧ Lc + P.length + T.length + g ≤ 2 * cnt + M ∧ M ≤ 133 ∧ T.length ≤ cnt
def SV (B : Nat → Nat) (n R x p p' : Nat) (s s' : ST) (e : Nat → Nat × Nat) (Lc : Nat) (P Q : List Nat) (cnt dep S : Nat) (T : List Bool) (g M : Nat) : Prop :=
  CV B n x p s e Lc P Q cnt dep ∧ VV B n R p' s' e (Lc + P.length) cnt ∧ bl B n p = bl B n p' ∧ BV R e Lc P Q cnt dep S T g M
def FF (B : Nat → Nat) (n b f : Nat) (z : ST) : Prop := (TV z B n ∧ gi z 0 35 = 14) ∧ 1 ≤ f ∧ f ≤ 4000 ∧ gi z 0 28 = nI f ∧ ∃ p, p ≤ b ∧ gi z 0 27 = nI p
def OC (B : Nat → Nat) (n : Nat) (E E' : Nat → Nat → Prop) (b x : Nat) (s s' : ST) (r : Option ST) (post : Nat → ST → ST → Prop) : Prop :=
  ∃ z', r = some z' ∧ FX E' s' z' ∧ ((∃ f y, FF B n b f z' ∧ RnC x s y ∧ gi y 1 3 = nI f ∧ FX xRl s y) ∨ ∃ x2 z, (∀ y, RnC x2 z y → RnC x s y) ∧ FX E s z ∧ post x2 z z')
def PO (B : Nat → Nat) (n R : Nat) (e : Nat → Nat × Nat) (L p : Nat) (Q : List Nat) (dep S : Nat) (T : List Bool) (g M lo cap : Nat) (N : Nat → Prop) (x2 : Nat) (z z' : ST) : Prop :=
  ∃ p2 p2' e2 Lc2 P2 cnt2, SV B n R x2 p2 p2' z z' e2 Lc2 P2 Q cnt2 dep S T g M ∧ P2.length ≤ cap ∧ (∀ k, k ∈ P2 → lo ≤ tgN k) ∧ gi z 11 11 = 3 ∧ p < p2 ∧ L ≤ Lc2 + P2.length ∧ (∀ i, i < L → e2 i = e i) ∧ N p2'
section RS
variable {B : Nat → Nat} {n R : Nat}
theorem OC_bind {E E' : Nat → Nat → Prop} {b b2 x : Nat} {s s' : ST} {r : Option ST} {k : ST → Option ST} {post post2 : Nat → ST → ST → Prop} (hE : ∀ a j, E a j → xRl a j) (h : OC B n E E' b x s s' r post) (hF : ∀ f z', FF B n b f z' → ∃ w', k z' = some w' ∧ FF B n b2 f w' ∧ FX E' z' w') (hP : ∀ x2 z z', FX E s z → FX E' s' z' → post x2 z z' → OC B n E E' b2 x2 z z' (k z') post2) : OC B n E E' b2 x s s' (r.bind k) post2 := by
  obtain ⟨z', h1, h2, h3⟩ := h
  rw [h1, bd_s]
  rcases h3 with ⟨f, y, a1, a2, a3, a4⟩ | ⟨x2, z, a1, a2, a3⟩
  · obtain ⟨w', b1, b2, b3⟩ := hF f z' a1
    exact ⟨w', b1, h2.trans b3, Or.inl ⟨f, y, b2, a2, a3, a4⟩⟩
  · obtain ⟨w', b1, b2, b3⟩ := hP x2 z z' a2 h2 a3
    refine ⟨w', b1, h2.trans b2, ?_⟩
    rcases b3 with ⟨f, y, c1, c2, c3, c4⟩ | ⟨x3, w, c1, c2, c3⟩
    · exact Or.inl ⟨f, y, c1, a1 y c2, c3, (a2.w hE).trans c4⟩
    · exact Or.inr ⟨x3, w, fun y hy => a1 y (c1 y hy), a2.trans c2, c3⟩
theorem OC_w {E E' F F' : Nat → Nat → Prop} {b b2 x : Nat} {s s' : ST} {r : Option ST} {post post2 : Nat → ST → ST → Prop} (h : OC B n E E' b x s s' r post) (hE : ∀ a j, E a j → F a j) (hE' : ∀ a j, E' a j → F' a j) (hb : b ≤ b2) (hp : ∀ x2 z z', FX E s z → FX E' s' z' → post x2 z z' → post2 x2 z z') : OC B n F F' b2 x s s' r post2 := by
  obtain ⟨z', h1, h2, h3⟩ := h
  refine ⟨z', h1, h2.w hE', ?_⟩
  rcases h3 with ⟨f, y, ⟨a0, a1, a2, a3, p, a4, a5⟩, a6, a7, a8⟩ | ⟨x2, z, a1, a2, a3⟩
  · exact Or.inl ⟨f, y, ⟨a0, a1, a2, a3, p, by omega, a5⟩, a6, a7, a8⟩
  · exact Or.inr ⟨x2, z, a1, a2.w hE, hp x2 z z' a2 h2 a3⟩
theorem tyR_s {e : Nat → Nat × Nat} : ∀ (m S : Nat) (T : List Bool), tyR e (m + 1) S T = (tyR e m S T).bind (fun U => tyS (e (S + m)) U)
  | 0, S, T => by
    show (tyS (e S) T).bind (tyR e 0 (S + 1)) = (some T).bind (fun U => tyS (e (S + 0)) U)
    rw [bd_s]
    show (tyS (e S) T).bind (fun U => some U) = _
    cases tyS (e S) T <;> rfl
  | m + 1, S, T => by
    show (tyS (e S) T).bind (tyR e (m + 1) (S + 1)) = ((tyS (e S) T).bind (tyR e m (S + 1))).bind _
    cases tyS (e S) T with
    | none => rfl
    | some U =>
      show tyR e (m + 1) (S + 1) U = (tyR e m (S + 1) U).bind _
      rw [tyR_s m (S + 1) U, show S + 1 + m = S + (m + 1) by omega]
theorem tyR_c {e e2 : Nat → Nat × Nat} : ∀ (m S : Nat) (T : List Bool), (∀ i, S ≤ i → i < S + m → e2 i = e i) → tyR e2 m S T = tyR e m S T
  | 0, _, _, _ => rfl
  | m + 1, S, T, h => by
    show (tyS (e2 S) T).bind (tyR e2 m (S + 1)) = (tyS (e S) T).bind (tyR e m (S + 1))
    rw [h S (by omega) (by omega)]
    cases tyS (e S) T with
    | none => rfl
    | some U => exact tyR_c m (S + 1) U (fun i h1 h2 => h i (by omega) (by omega))
/-- one more entry -/
def ins (e : Nat → Nat × Nat) (L : Nat) (v : Nat × Nat) (i : Nat) : Nat × Nat := if i = L then v else e i
theorem ins_s {e : Nat → Nat × Nat} {L : Nat} {v : Nat × Nat} : ins e L v L = v := if_pos rfl
theorem ins_o {e : Nat → Nat × Nat} {L i : Nat} {v : Nat × Nat} (h : i ≠ L) : ins e L v i = e i := if_neg h
theorem ty_ins {e : Nat → Nat × Nat} {L S : Nat} {v : Nat × Nat} {T U : List Bool} (hS : S ≤ L) (h : tyR e (L - S) S [] = some T) (k : tyS v T = some U) : tyR (ins e L v) (L + 1 - S) S [] = some U := by
  rw [show L + 1 - S = (L - S) + 1 by omega, tyR_s, tyR_c (e := e) _ _ _ (fun i h1 h2 => ins_o (by omega)), h, bd_s, show S + (L - S) = L by omega, ins_s, k]
/-! the reference's pieces -/
theorem cnt_ok {s : ST} {c : Nat} {v : Int32} (h : gi s 0 33 = nI c) (hc : c < 60) : fX12_isCounted v s = some (si s 0 33 (nI (c + 1))) := by
  unfold fX12_isCounted
  rw [h, if_neg (show ¬ nI c = 60 by rw [nj_eqr (by omega) (by decide)]; omega), bd_s, lt_v, h, nj_addr]
theorem cnt_60 {s : ST} {st : Nat} (h : gi s 0 33 = nI 60) (h0 : gi s 0 28 = 0) : fX12_isCounted (nI st) s = some (si (si s 0 28 (nI (1 + 8 * st + 3))) 0 33 (nI 61)) := by
  unfold fX12_isCounted
  have hf := fail0 (s := s) (c := 3) (p := st) h0
  have hf : fX12_fails 3 (nI st) s = some (si s 0 28 (nI (1 + 8 * st + 3))) := hf
  rw [h, if_pos (show nI 60 = 60 from rfl), hf, bd_s, bd_s, lt_v, gi_dif (by decide), h]
  rfl
theorem cnt_F {s : ST} {v : Int32} (h : ¬ gi s 0 28 = 0) : fX12_isCounted v s = some (si s 0 33 (gi s 0 33 + 1)) := by
  unfold fX12_isCounted
  have : (if gi s 0 33 = 60 then (fX12_fails 3 v s).bind (fun q5 => some q5) else some s : Option ST) = some s := by
    split
    · rw [failN h, bd_s]
    · rfl
  rw [this, bd_s, lt_v]
theorem ent_ok {s : ST} {v w L : Nat} (h0 : gi s 0 28 = 0) (h9 : gi s 0 29 = nI R) (h1 : gi s 0 31 = nI L) (hR : R < 6) (hL : L < 300) : fX12_entry (nI v) (nI w) s = some (si (si (si s 27 (300 * R + L) (nI v)) 28 (300 * R + L) (nI w)) 0 31 (nI (L + 1))) := by
  unfold fX12_entry
  simp (disch := omega) only [↓ite_bind, ↓ck_bind, ↓lt_bind, ↓Option.bind_assoc, ↓bd_s, ↓lt_v, ↓ck_v, ↓reduceIte, Bool.false_eq_true, Bool.true_eq_false, nj_add, nj_addl, nj_addr, nj_mull, nj_mulr, nj_subr, nj_pred, ix_nI, ix_lit, inb_t, inb_l, h0, h9, h1, gi_si, Nat.reduceEqDiff]
theorem ent_F {s : ST} {v w : Int32} (h : ¬ gi s 0 28 = 0) : fX12_entry v w s = some s := by
  unfold fX12_entry
  rw [if_neg h, bd_s]
/-! words that are values -/
def fwd (B : Nat → Nat) (n st : Nat) : Nat → Nat → Nat
  | 0, k => k
  | m + 1, k => if wdb B n st (txB (7 + k)) = true then k else fwd B n st m (k + 1)
theorem fwd_r {st : Nat} : ∀ (m k : Nat), k ≤ fwd B n st m k ∧ fwd B n st m k ≤ k + m ∧ (fwd B n st m k < k + m → wdb B n st (txB (7 + fwd B n st m k)) = true)
  | 0, k => ⟨Nat.le_refl _, Nat.le_refl _, fun h => absurd h (by simp [fwd])⟩
  | m + 1, k => by
    rw [fwd]
    by_cases c : wdb B n st (txB (7 + k)) = true
    · rw [if_pos c]; exact ⟨Nat.le_refl _, by omega, fun _ => c⟩
    · rw [if_neg c]
      obtain ⟨h1, h2, h3⟩ := fwd_r (st := st) m (k + 1)
      exact ⟨by omega, by omega, fun h => h3 (by omega)⟩
theorem nameC (s : ST) : ∀ k, k < 14 → fX4_nameOf (nI k) s = some (1000000 + (7 + k)) := by
  unfold fX4_nameOf
  decide +kernel
def rwd (k : Nat) : Nat := if k = 0 then 25 else if k = 13 then 26 else 29 + k
theorem nameV (s : ST) : ∀ k, k < 14 → fX12_wordOf (nI k) s = some (1000000 + rwd k) := by
  unfold fX12_wordOf
  decide +kernel
theorem rwd_tx : ∀ k, k < 14 → txB (rwd k) = txB (7 + k) ∧ rwd k < 46 := by decide +kernel
theorem wtL {s : ST} {st pl : Nat} {val : Int32} (ht : TC s B n) (h5 : gi s 1 5 = nI st) (h2 : gi s 1 2 = nI pl) (hst : st ≤ n) (tk : Tok B n st (gi s 1 4) pl val) : ∀ (m k f : Nat), k + m = 14 → m < f → fX3_wordOfTape_L2 f (nI k) s = some (if fwd B n st m k = 14 then -1 else nI (fwd B n st m k)) := by
  intro m
  induction m with
  | zero =>
    intro k f hk hf
    obtain ⟨f, rfl⟩ : ∃ m, f = m + 1 := ⟨f - 1, by omega⟩
    rw [fX3_wordOfTape_L2, if_pos (show (14 : Int32) ≤ nI k by rw [nj_lel (by decide) (by omega)]; omega), fwd, if_pos (by omega)]
  | succ m ih =>
    intro k f hk hf
    obtain ⟨f, rfl⟩ : ∃ m, f = m + 1 := ⟨f - 1, by omega⟩
    rw [fX3_wordOfTape_L2, if_neg (show ¬ (14 : Int32) ≤ nI k by rw [nj_lel (by decide) (by omega)]; omega), nameC s k (by omega), bd_s, wordC (w := 7 + k) (by omega) ht h5 h2 hst tk, bd_s, fwd]
    by_cases c : wdb B n st (txB (7 + k)) = true
    · rw [if_pos c, if_neg n10, if_pos c, if_neg (by omega)]
    · rw [if_neg c, if_pos rfl, lt_v, nj_addr, if_neg c, ih (k + 1) f (by omega) (by omega)]
theorem vwL {s : ST} {st : Nat} {a : Int32} (ht : TV s B n) (h27 : gi s 0 27 = nI st) (h35 : gi s 0 35 = 14) (hl : st < 1000000) : ∀ (m k f : Nat), k + m = 14 → m < f → fX12_value_L38 a f (nI k) s = some (nI (fwd B n st m k)) := by
  intro m
  induction m with
  | zero =>
    intro k f hk hf
    obtain ⟨f, rfl⟩ : ∃ m, f = m + 1 := ⟨f - 1, by omega⟩
    rw [fX12_value_L38, h35, if_pos (show (14 : Int32) ≤ nI k by rw [nj_lel (by decide) (by omega)]; omega), bd_s, if_neg nft, fwd]
  | succ m ih =>
    intro k f hk hf
    obtain ⟨f, rfl⟩ : ∃ m, f = m + 1 := ⟨f - 1, by omega⟩
    obtain ⟨r1, r2⟩ := rwd_tx k (by omega)
    rw [fX12_value_L38, h35, if_neg (show ¬ (14 : Int32) ≤ nI k by rw [nj_lel (by decide) (by omega)]; omega), nameV s k (by omega), bd_s, stood_ev r2 ht h27 hl, r1, bd_s, fwd]
    by_cases c : wdb B n st (txB (7 + k)) = true
    · rw [if_pos c, if_neg n10, bd_s, if_neg nft, if_pos c]
    · rw [if_neg c, if_pos rfl, bd_s, if_pos rfl, lt_v, nj_addr, if_neg c, ih (k + 1) f (by omega) (by omega)]
theorem rv_ok {s : ST} {v k L c : Nat} (hv : (v = 0 ∧ gi s 1 4 = -2 ∧ gi s 1 6 = nI k) ∨ (v = 1 ∧ gi s 1 4 ≠ -2 ∧ fX3_wordOfTape s = some (nI k))) (hk : k ≤ 99999) (h8 : gi s 11 8 = nI c) (hc : c ≤ 60) (h2 : gi s 11 2 = nI L) (hL : L < 400) : fX3_readValue s = if c < 60 then some (si (si (si (si s 11 8 (nI (c + 1))) 12 L (nI (v + 32 * k))) 11 2 (nI (L + 1))) 11 11 3) else (fX6_blame 3 s) := by
  unfold fX3_readValue
  have hk0 : (0 : Int32) ≤ nI k := by rw [nj_lel (by decide) (by omega)]; omega
  have e1 : ∀ (o : Option ST), o.bind (fun q => some q) = o := fun o => by cases o <;> rfl
  rcases hv with ⟨rfl, h4, h6⟩ | ⟨rfl, h4, h6⟩
  · rw [if_pos h4, bd_s, h6, if_pos h4, if_pos hk0, bd_s, if_neg nft, if_pos hk0]
    by_cases c6 : c < 60
    · have hw := write_ev (s := si s 11 8 (nI (c + 1))) (v := 0) (w := k) (by rw [gi_dif (by decide)]; exact h2) hL
      have hw : fX3_write 0 (nI k) (si s 11 8 (nI (c + 1))) = some (si (si (si s 11 8 (nI (c + 1))) 12 L (nI (0 + 32 * k))) 11 2 (nI (L + 1))) := hw
      rw [if_pos c6, if_pos (show gi s 11 8 < 60 by rw [h8, nj_ltr (by omega) (by decide)]; exact c6), lt_v, h8, nj_addr, if_pos (show gi (si s 11 8 (nI (c + 1))) 1 4 = -2 by rw [gi_ne (by decide)]; exact h4), bd_s, hw, bd_s, lt_v, bd_s]
    · rw [if_neg c6, if_neg (show ¬ gi s 11 8 < 60 by rw [h8, nj_ltr (by omega) (by decide)]; exact c6), e1, e1]
  · rw [if_neg h4, h6, bd_s, bd_s, if_neg h4, bd_s, if_neg nft, if_pos hk0]
    by_cases c6 : c < 60
    · have hw := write_ev (s := si s 11 8 (nI (c + 1))) (v := 1) (w := k) (by rw [gi_dif (by decide)]; exact h2) hL
      have hw : fX3_write 1 (nI k) (si s 11 8 (nI (c + 1))) = some (si (si (si s 11 8 (nI (c + 1))) 12 L (nI (1 + 32 * k))) 11 2 (nI (L + 1))) := hw
      rw [if_pos c6, if_pos (show gi s 11 8 < 60 by rw [h8, nj_ltr (by omega) (by decide)]; exact c6), lt_v, h8, nj_addr, if_neg (show ¬ gi (si s 11 8 (nI (c + 1))) 1 4 = -2 by rw [gi_ne (by decide)]; exact h4), bd_s, hw, bd_s, lt_v, bd_s]
    · rw [if_neg c6, if_neg (show ¬ gi s 11 8 < 60 by rw [h8, nj_ltr (by omega) (by decide)]; exact c6), e1, e1]
end RS
