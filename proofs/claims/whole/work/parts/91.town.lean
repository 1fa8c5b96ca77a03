/-! A TOWN'S TEXT BY BOTH -/
section TB2
variable {B : Nat → Nat} {n : Nat}
theorem TT_w {s s' z z' : ST} {np nm k : Nat} (h : TT s s' np nm k) (C : ∀ a j, 3 ≤ a → a ≤ 10 → gi z a j = gi s a j) (V : ∀ a j, 19 ≤ a → a ≤ 25 → gi z' a j = gi s' a j) : TT z z' np nm k := by
  obtain ⟨⟨n2, n3, n4, n5, n6, n7⟩, l1, f1, e1, p1, t1⟩ := h
  refine ⟨⟨n2, n3, by rw [C _ _ (by omega) (by omega)]; exact n4, by rw [V _ _ (by omega) (by omega)]; exact n5, by rw [C _ _ (by omega) (by omega)]; exact n6, by rw [V _ _ (by omega) (by omega)]; exact n7⟩, ?_, ?_, by rw [C _ _ (by omega) (by omega), V _ _ (by omega) (by omega)]; exact e1, fun q hq => ?_, fun m hm => ?_⟩
  · unfold Tl
    rw [C _ _ (by omega) (by omega), C _ _ (by omega) (by omega), C _ _ (by omega) (by omega), C _ _ (by omega) (by omega), V _ _ (by omega) (by omega), V _ _ (by omega) (by omega), V _ _ (by omega) (by omega)]
    exact l1
  · unfold Tf
    rw [C _ _ (by omega) (by omega), C _ _ (by omega) (by omega), C _ _ (by omega) (by omega), V _ _ (by omega) (by omega), V _ _ (by omega) (by omega), V _ _ (by omega) (by omega)]
    exact f1
  · rw [C _ _ (by omega) (by omega), C _ _ (by omega) (by omega), V _ _ (by omega) (by omega), V _ _ (by omega) (by omega)]
    exact p1 q hq
  · rw [C _ _ (by omega) (by omega), C _ _ (by omega) (by omega), C _ _ (by omega) (by omega), C _ _ (by omega) (by omega), V _ _ (by omega) (by omega), V _ _ (by omega) (by omega), V _ _ (by omega) (by omega), V _ _ (by omega) (by omega)]
    exact t1 m hm
theorem mf {s s' : ST} {c p p' : Nat} (t1 : TC s B n) (t2 : TV s' B n) (h0 : gi s 1 3 = 0) (h0' : gi s' 0 28 = 0) (h5 : gi s 1 5 = nI p) (hp : p ≤ 400) (hc : c ≤ 4) (h27 : gi s' 0 27 = nI p') (hp' : p' ≤ 500) : fX6_blame (nI c) s = some (si s 1 3 (nI (1 + 8 * p + c))) ∧ fX12_fails (nI c) (nI p) s' = some (si s' 0 28 (nI (1 + 8 * p + c))) ∧ MR B n (si s 1 3 (nI (1 + 8 * p + c))) (si s' 0 28 (nI (1 + 8 * p + c))) ∧ ¬ gi (si s 1 3 (nI (1 + 8 * p + c))) 1 3 = 0 :=
  ⟨blame0 h0 h5, fail0 h0', ⟨(FC1.si (by omega)).TC t1, TV_si t2 (by decide), Or.inl ⟨1 + 8 * p + c, by omega, by omega, gi_same _ _ _ _, gi_same _ _ _ _, p', hp', by rw [gi_dif (by decide)]; exact h27⟩⟩, by rw [gi_same, nj_eqr (by omega) (by decide)]; omega⟩
theorem bb (o : Option ST) : (o.bind (fun q => some q)).bind (fun q => some q) = o.bind (fun q => some q) := by cases o <;> rfl
theorem bb3 (o : Option ST) : ((o.bind (fun q => some q)).bind (fun q => some q)).bind (fun q => some q) = o.bind (fun q => some q) := by cases o <;> rfl
theorem townW {i : Nat} (hi : i < 5) (s : ST) : fX12_townWord (nI i) s = some (1000024 + i) := by
  have : i = 0 ∨ i = 1 ∨ i = 2 ∨ i = 3 ∨ i = 4 := by omega
  rcases this with rfl | rfl | rfl | rfl | rfl <;> rfl
theorem tx24 : ∀ i, i < 5 → txB (24 + i) = txB i := by decide
theorem wordL {W : Nat → Bool} {s : ST} {a1 a2 : Int32} (hW : ∀ i, i < 5 → fX12_stood (1000024 + i) s = some (if W i = true then 1 else 0)) : ∀ (m i f : Nat), i + m = 5 → m < f → ∃ j, i ≤ j ∧ j ≤ 5 ∧ (∀ k, i ≤ k → k < j → W k = false) ∧ (j < 5 → W j = true) ∧ fX12_townClause_L11 a1 a2 f (nI i) s = some (nI j) := by
  intro m
  induction m with
  | zero =>
    intro i f hi hf
    obtain ⟨f, rfl⟩ : ∃ m, f = m + 1 := ⟨f - 1, by omega⟩
    obtain rfl : i = 5 := by omega
    refine ⟨5, by omega, by omega, fun k h1 h2 => absurd h1 (by omega), fun h => absurd h (by omega), ?_⟩
    rw [fX12_townClause_L11, if_pos (by decide), bd_s, if_neg nft]
  | succ m ih =>
    intro i f hi hf
    obtain ⟨f, rfl⟩ : ∃ m, f = m + 1 := ⟨f - 1, by omega⟩
    have hw := hW i (by omega)
    have ht := townW (i := i) (by omega) s
    by_cases c : W i = true
    · rw [if_pos c] at hw
      refine ⟨i, by omega, by omega, fun k h1 h2 => absurd h1 (by omega), fun _ => c, ?_⟩
      rw [fX12_townClause_L11]
      simp (disch := omega) only [↓ite_bind, ↓ck_bind, ↓lt_bind, ↓Option.bind_assoc, ↓bd_s, ↓lt_v, ↓ck_v, ↓reduceIte, Bool.false_eq_true, Bool.true_eq_false, nj_le_t, nj_le_f, nj_lel_t, nj_lel_f, nj_ler_t, nj_ler_f, nj_lt_t, nj_lt_f, nj_ltl_t, nj_ltl_f, nj_ltr_t, nj_ltr_f, nj_eq_t, nj_eq_f, nj_eqr_t, nj_eqr_f, nj_m1, nj_m2, ht, hw, i10]
    · rw [if_neg c] at hw
      obtain ⟨j, j1, j2, j3, j4, j5⟩ := ih (i + 1) f (by omega) (by omega)
      refine ⟨j, by omega, j2, fun k h1 h2 => ?_, j4, ?_⟩
      · by_cases e : k = i
        · rw [e]; simpa using c
        · exact j3 k (by omega) h2
      · rw [fX12_townClause_L11]
        simp (disch := omega) only [↓ite_bind, ↓ck_bind, ↓lt_bind, ↓Option.bind_assoc, ↓bd_s, ↓lt_v, ↓ck_v, ↓reduceIte, Bool.false_eq_true, Bool.true_eq_false, nj_add, nj_addl, nj_addr, nj_mull, nj_mulr, nj_subr, nj_pred, ix_nI, ix_lit, inb_t, inb_l, nj_le_t, nj_le_f, nj_lel_t, nj_lel_f, nj_ler_t, nj_ler_f, nj_lt_t, nj_lt_f, nj_ltl_t, nj_ltl_f, nj_ltr_t, nj_ltr_f, nj_eq_t, nj_eq_f, nj_eqr_t, nj_eqr_f, nj_m1, nj_m2, ht, hw]
        exact j5
theorem clause_both {s s' : ST} {np nm k : Nat} (h : MR B n s s') (h0 : gi s 1 3 = 0) (tt : TT s s' np nm k) (hk : k ≤ 40) : ∃ z z', fX8_readClause (nI (k + 1)) s = some z ∧ fX12_townClause (nI k) s' = some z' ∧ MR B n z z' ∧ FCt s z ∧ FVt s' z' ∧ (gi z 1 3 = 0 → k < 40 ∧ ∃ np' nm', TT z z' np' nm' (k + 1)) := by
  obtain ⟨t1, t2, t3⟩ := h
  have hn := t1.1
  rcases t3 with ⟨f, f1, f2, f3, _⟩ | ⟨f3, f4, x, x', g1, g2, g3, g4, g5⟩
  · rw [f3, nj_eqr (by omega) (by decide)] at h0; omega
  obtain ⟨z, pl, a1, a2, a3, a4, a5, a6, a7, a8⟩ := step_ev t1 g1 g4
  rw [g3] at a3 a5 a7 a8
  obtain ⟨st, hst⟩ : ∃ st, bl B n x' = st := ⟨_, rfl⟩
  rw [hst] at a3 a5 a7 a8
  have hsn : st ≤ n := by rw [← hst]; exact ru_le g2
  have z3 : gi z 1 3 = 0 := by rw [a2.1 _ _ (by omega)]; exact f3
  have tz := a2.TC t1
  have tv : TV (si s' 0 27 (nI st)) B n := TV_si t2 (by decide)
  have v28 : gi (si s' 0 27 (nI st)) 0 28 = 0 := by rw [gi_dif (by decide)]; exact f4
  have hbl : fX12_blanks s' = some (si s' 0 27 (nI st)) := by rw [blanks_ev t2 g5 (by omega), hst]
  have hC : ∀ i, i < 5 → fX6_isWord (1000000 + i) z = some (if wdb B n st (txB i) = true then 1 else 0) := fun i hi => wordC (by omega) tz a3 a4 hsn a8
  have hV : ∀ i, i < 5 → fX12_stood (1000024 + i) (si s' 0 27 (nI st)) = some (if wdb B n st (txB i) = true then 1 else 0) := fun i hi => by
    have := stood_ev (B := B) (n := n) (w := 24 + i) (by omega) tv (gi_same _ _ _ _) (by omega)
    rw [tx24 i hi, show 1000000 + (24 + i) = 1000024 + i by omega] at this
    exact this
  obtain ⟨fi, i1, i2, i3, i4, i5⟩ := wordL (W := fun i => wdb B n st (txB i)) (a1 := nI k) (a2 := nI st) hV 5 0 FUEL (by omega) (by rw [FUEL_eq]; omega)
  have i5 : fX12_townClause_L11 (nI k) (nI st) FUEL 0 (si s' 0 27 (nI st)) = some (nI fi) := i5
  have FCz : FCt s z := fun a j e1 e2 e3 => a2.1 a j (by omega)
  have FVz : FVt s' (si s' 0 27 (nI st)) := fun a j e1 e2 => si_x _ _ (by omega)
  have ref : fX12_townClause (nI k) s' = (if nI fi = 5 then (fX12_fails 0 (nI st) (si s' 0 27 (nI st))).bind (fun q26 => some q26) else (fX12_isFull (nI fi) (nI k) (si s' 0 27 (nI st))).bind (fun q16 => if q16 = 0 then (fX12_townWord (nI fi) (si s' 0 27 (nI st))).bind (fun q18 => ck (okT q18) (lt (si (si s' 0 27 (nI st)) 0 27 ((gi (si s' 0 27 (nI st)) 0 27) + (tlen q18))) (fun s20 => (fX12_townPart (nI fi) s20).bind (fun q22 => some q22)))) else (fX12_fails 4 (nI st) (si s' 0 27 (nI st))).bind (fun q24 => some q24))) := by
    unfold fX12_townClause
    rw [hbl, bd_s, lt_v, gi_same, i5, bd_s]
  -- faults
  have fault : ∀ c, c ≤ 4 → fX8_readClause (nI (k + 1)) s = (fX6_blame (nI c) z).bind (fun q => some q) → fX12_townClause (nI k) s' = (fX12_fails (nI c) (nI st) (si s' 0 27 (nI st))).bind (fun q => some q) → ∃ z z', fX8_readClause (nI (k + 1)) s = some z ∧ fX12_townClause (nI k) s' = some z' ∧ MR B n z z' ∧ FCt s z ∧ FVt s' z' ∧ (gi z 1 3 = 0 → k < 40 ∧ ∃ np' nm', TT z z' np' nm' (k + 1)) := fun c hc e1 e2 => by
    obtain ⟨y1, y2, y3, y4⟩ := mf (c := c) (p := st) (p' := st) tz tv z3 v28 a3 (by omega) hc (gi_same _ _ _ _) (by omega)
    exact ⟨_, _, by rw [e1, y1, bd_s], by rw [e2, y2, bd_s], y3, FCz.trans (FC1.si (by omega)).t, FVz.trans (FV1.si (by omega)).t, fun e => absurd e y4⟩
  have hW : ∀ i, i < fi → fX6_isWord (1000000 + i) z = some 0 := fun i hi => by
    rw [hC i (by omega), if_neg (by rw [i3 i (by omega) hi]; decide)]
  have hMT : fi < 5 → pl = st + (txB fi).length ∧ MR B n z (si s' 0 27 (nI pl)) ∧ TT z (si s' 0 27 (nI pl)) np nm k := fun hfi => by
    have hw := i4 hfi
    unfold wdb at hw
    simp at hw
    obtain ⟨hw1, hw2⟩ := hw
    have hl := (tx_len fi (by omega)).1
    have hge : st ≤ le B n st := ru_ge
    have hisl : st < n ∧ isL (B st) = true := by
      by_cases c : st < n ∧ isL (B st) = true
      · exact c
      · rw [le_no c] at hw1; omega
    have hple : pl = le B n st := by
      rcases a8 with ⟨e1, e2, e3⟩ | ⟨e1, e2, e3, e4, e5⟩ | ⟨e1, e2, e3, e4, e5⟩ | ⟨e1, e2, e3, e4⟩
      · omega
      · have h2 := hisl.2
        unfold isD at e2
        unfold isL at h2
        simp at e2 h2
        omega
      · exact e5
      · rw [hisl.2] at e3; cases e3
    refine ⟨by omega, ⟨tz, TV_si t2 (by decide), Or.inr ⟨z3, by rw [gi_dif (by decide)]; exact f4, pl, pl, a6, a6, rfl, a4, gi_same _ _ _ _⟩⟩, TT_w tt (fun a j e1 e2 => a2.1 a j (by omega)) (fun a j e1 e2 => gi_ne (by omega))⟩
  have good : fi < 5 → fX12_isFull (nI fi) (nI k) (si s' 0 27 (nI st)) = some 0 → fX12_townClause (nI k) s' = (fX12_townPart (nI fi) (si s' 0 27 (nI pl))).bind (fun q22 => some q22) := fun hfi hf => by
    have hm := (hMT hfi).1
    obtain ⟨_, l2, l3, l4⟩ := tx_len (24 + fi) (by omega)
    rw [show 1000000 + (24 + fi) = 1000024 + fi by omega] at l3 l4
    rw [tx24 fi hfi] at l4 l2
    rw [ref, if_neg (show ¬ nI fi = 5 by rw [nj_eqr (by omega) (by decide)]; omega), hf, bd_s, if_pos rfl, townW hfi, bd_s, ck_t l3, lt_v, gi_same, l4, nj_add, si_si, ← hm]
  have full : fi < 5 → fX12_isFull (nI fi) (nI k) (si s' 0 27 (nI st)) = some 1 → fX12_townClause (nI k) s' = (fX12_fails (nI 4) (nI st) (si s' 0 27 (nI st))).bind (fun q => some q) := fun hfi hf => by
    rw [ref, if_neg (show ¬ nI fi = 5 by rw [nj_eqr (by omega) (by decide)]; omega), hf, bd_s, if_neg n10]
    rfl
  have part : ∀ {z1 z1' : ST} {np' nm' : Nat}, fi < 5 → fX12_isFull (nI fi) (nI k) (si s' 0 27 (nI st)) = some 0 → fX8_readClause (nI (k + 1)) s = some z1 → fX12_townPart (nI fi) (si s' 0 27 (nI pl)) = some z1' → MR B n z1 z1' → FCt z z1 → FVt (si s' 0 27 (nI pl)) z1' → k < 40 → (gi z1 1 3 = 0 → TT z1 z1' np' nm' (k + 1)) → ∃ z z', fX8_readClause (nI (k + 1)) s = some z ∧ fX12_townClause (nI k) s' = some z' ∧ MR B n z z' ∧ FCt s z ∧ FVt s' z' ∧ (gi z 1 3 = 0 → k < 40 ∧ ∃ np' nm', TT z z' np' nm' (k + 1)) := fun {z1 z1' np' nm'} hfi hf e1 e2 e3 e4 e5 e6 e7 => by
    refine ⟨z1, z1', e1, by rw [good hfi hf, e2, bd_s], e3, FCz.trans e4, ?_, fun e => ⟨e6, np', nm', e7 e⟩⟩
    exact FVt.trans (fun a j x1 x2 => si_x _ _ (by omega)) e5
  have hfi : fi = 0 ∨ fi = 1 ∨ fi = 2 ∨ fi = 3 ∨ fi = 4 ∨ fi = 5 := by omega
  have hk1 : (40 < nI (k + 1)) = (40 < k + 1) := nj_ltl (by decide) (by omega)
  have hk2 : (nI (k + 1) = 1) = (k = 0) := by rw [nj_eqr (by omega) (by decide)]; exact propext (by omega)
  have hk3 : (nI k = 40) = (k = 40) := nj_eqr (by omega) (by decide)
  have hk4 : (nI k = 0) = (k = 0) := nj_eqr (by omega) (by decide)
  rcases hfi with rfl | rfl | rfl | rfl | rfl | rfl
  · -- town
    have w0 : fX6_isWord 1000000 z = some 1 := by rw [hC 0 (by omega), if_pos (i4 (by omega))]
    have cw : fX8_isClauseWord z = some 1 := by
      unfold fX8_isClauseWord
      simp only [w0, bd_s, i10, if_false, if_true]
      rfl
    by_cases k40 : k = 40
    · refine fault 4 (by omega) ?_ (full (by omega) ?_)
      · unfold fX8_readClause
        have : (40 < nI (k + 1)) = True := by rw [hk1]; exact eq_true (by omega)
        simp only [a1, bd_s, w0, cw, i10, if_false, this, if_true]
        exact bb (fX6_blame 4 z)
      · unfold fX12_isFull
        rw [if_pos (by rw [hk3]; exact k40)]
    · have h40 : (40 < nI (k + 1)) = False := by rw [hk1]; exact eq_false (by omega)
      have h41 : (nI k = 40) = False := by rw [hk3]; exact eq_false k40
      by_cases kz : k = 0
      · subst kz
        have kz1 : (nI 0 = 0) = True := eq_true rfl
        have kz2 : (nI (0 + 1) = 1) = True := eq_true rfl
        have hz : np = 0 ∧ nm = 0 := by
          rcases tt.2.1.2.2.2 with ⟨_, _, e1, e2⟩ | ⟨e, _⟩
          · exact ⟨e1, e2⟩
          · omega
        obtain ⟨hm1, hm2, hm3⟩ := hMT (by omega)
        rw [hz.1, hz.2] at hm3
        obtain ⟨z1, z1', q1, q2, q3, q4, q5, q6⟩ := law_p hm2 hm3
        refine part (by omega) ?_ ?_ q2 q3 q4 q5 (by omega) q6
        · unfold fX12_isFull
          simp only [h41, if_false, kz1, if_true, bd_s, show (nI 0 = 0) = True from eq_true rfl, show (nI 0 = 1) = False from eq_false (by decide), show (nI 0 = 2) = False from eq_false (by decide), show (nI 0 = 3) = False from eq_false (by decide), show (nI 0 = 4) = False from eq_false (by decide)]
        · unfold fX8_readClause
          simp only [a1, bd_s, w0, cw, i10, if_false, h40, kz2, if_true, q1]
      · have kz1 : (nI k = 0) = False := by rw [hk4]; exact eq_false kz
        have kz2 : (nI (k + 1) = 1) = False := by rw [hk2]; exact eq_false kz
        refine fault 4 (by omega) ?_ (full (by omega) ?_)
        · unfold fX8_readClause
          simp only [a1, bd_s, w0, cw, i10, if_false, h40, kz2]
          exact bb (fX6_blame 4 z)
        · unfold fX12_isFull
          simp only [h41, if_false, kz1, if_true, bd_s, show (nI 0 = 0) = True from eq_true rfl, i10]
  · -- person
    have w0 := hW 0 (by omega)
    have w1 : fX6_isWord 1000001 z = some 1 := by rw [show 1000001 = 1000000 + 1 from rfl, hC 1 (by omega), if_pos (i4 (by omega))]
    have w0 : fX6_isWord 1000000 z = some 0 := w0
    have cw : fX8_isClauseWord z = some 1 := by
      unfold fX8_isClauseWord
      simp only [w0, w1, bd_s, i10, if_false, if_true]
      rfl
    by_cases k40 : k = 40
    · refine fault 4 (by omega) ?_ (full (by omega) ?_)
      · unfold fX8_readClause
        have : (40 < nI (k + 1)) = True := by rw [hk1]; exact eq_true (by omega)
        simp only [a1, bd_s, w0, cw, i10, if_false, this, if_true]
        exact bb (fX6_blame 4 z)
      · unfold fX12_isFull
        rw [if_pos (by rw [hk3]; exact k40)]
    · have h40 : (40 < nI (k + 1)) = False := by rw [hk1]; exact eq_false (by omega)
      have h41 : (nI k = 40) = False := by rw [hk3]; exact eq_false k40
      by_cases kz : k = 0
      · have kz1 : (nI k = 0) = True := by rw [hk4]; exact eq_true kz
        have kz2 : (nI (k + 1) = 1) = True := by rw [hk2]; exact eq_true kz
        refine fault 4 (by omega) ?_ (full (by omega) ?_)
        · unfold fX8_readClause
          simp only [a1, bd_s, w0, cw, i10, if_false, h40, kz2, if_true, show ((0 : Int32) = 1) = False from eq_false (by decide)]
          exact bb (fX6_blame 4 z)
        · unfold fX12_isFull
          simp only [h41, if_false, kz1, if_true, bd_s, show (nI 1 = 0) = False from eq_false (by decide), show ((0 : Int32) = 1) = False from eq_false (by decide)]
      · have kz1 : (nI k = 0) = False := by rw [hk4]; exact eq_false kz
        have kz2 : (nI (k + 1) = 1) = False := by rw [hk2]; exact eq_false kz
        obtain ⟨hm1, hm2, hm3⟩ := hMT (by omega)
        have g3 : gi (si s' 0 27 (nI st)) 19 3 = nI np := by rw [gi_ne (by decide)]; exact tt.1.2.2.2.1
        have hnp := tt.1.1
        by_cases c5 : np < 5
        · obtain ⟨z1, z1', q1, q2, q3, q4, q5, q6⟩ := person_p hm2 hm3 (by omega) c5
          refine part (by omega) ?_ ?_ q2 q3 q4 q5 (by omega) q6
          · unfold fX12_isFull
            have n5 : (nI np = 5) = False := by rw [nj_eqr (by omega) (by decide)]; exact eq_false (by omega)
            simp only [h41, if_false, kz1, bd_s, show (nI 1 = 0) = False from eq_false (by decide), show (nI 1 = 1) = True from eq_true rfl, if_true, ck_t (show inb 3 9 = true by decide), ix_lit (show (3 : Nat) < 2147483648 by decide), g3, n5]
            rfl
          · unfold fX8_readClause
            simp only [a1, bd_s, w0, w1, cw, i10, i00, if_false, h40, kz2, if_true, q1]
        · refine fault 4 (by omega) ?_ (full (by omega) ?_)
          · unfold fX8_readClause fX8_readPerson
            have n5 : (gi z 4 7 < 5) = False := by rw [hm3.1.2.2.1, nj_ltr (by omega) (by decide)]; exact eq_false (by omega)
            simp only [a1, bd_s, w0, w1, cw, i10, i00, if_false, h40, kz2, if_true, n5]
            exact bb3 (fX6_blame 4 z)
          · unfold fX12_isFull
            have n5 : (nI np = 5) = True := by rw [nj_eqr (by omega) (by decide)]; exact eq_true (by omega)
            simp only [h41, if_false, kz1, bd_s, show (nI 1 = 0) = False from eq_false (by decide), show (nI 1 = 1) = True from eq_true rfl, if_true, ck_t (show inb 3 9 = true by decide), ix_lit (show (3 : Nat) < 2147483648 by decide), g3, n5]
            rfl
  · -- exempt
    have w0 : fX6_isWord 1000000 z = some 0 := hW 0 (by omega)
    have w1 : fX6_isWord 1000001 z = some 0 := hW 1 (by omega)
    have w2 : fX6_isWord 1000002 z = some 1 := by rw [show 1000002 = 1000000 + 2 from rfl, hC 2 (by omega), if_pos (i4 (by omega))]
    have cw : fX8_isClauseWord z = some 1 := by
      unfold fX8_isClauseWord
      simp only [w0, w1, w2, bd_s, i10, if_false, if_true]
      rfl
    by_cases k40 : k = 40
    · refine fault 4 (by omega) ?_ (full (by omega) ?_)
      · unfold fX8_readClause
        have : (40 < nI (k + 1)) = True := by rw [hk1]; exact eq_true (by omega)
        simp only [a1, bd_s, w0, cw, i10, if_false, this, if_true]
        exact bb (fX6_blame 4 z)
      · unfold fX12_isFull
        rw [if_pos (by rw [hk3]; exact k40)]
    · have h40 : (40 < nI (k + 1)) = False := by rw [hk1]; exact eq_false (by omega)
      have h41 : (nI k = 40) = False := by rw [hk3]; exact eq_false k40
      by_cases kz : k = 0
      · have kz1 : (nI k = 0) = True := by rw [hk4]; exact eq_true kz
        have kz2 : (nI (k + 1) = 1) = True := by rw [hk2]; exact eq_true kz
        refine fault 4 (by omega) ?_ (full (by omega) ?_)
        · unfold fX8_readClause
          simp only [a1, bd_s, w0, cw, i10, if_false, h40, kz2, if_true, show ((0 : Int32) = 1) = False from eq_false (by decide)]
          exact bb (fX6_blame 4 z)
        · unfold fX12_isFull
          simp only [h41, if_false, kz1, if_true, bd_s, show (nI 2 = 0) = False from eq_false (by decide), show ((0 : Int32) = 1) = False from eq_false (by decide)]
      · have kz1 : (nI k = 0) = False := by rw [hk4]; exact eq_false kz
        have kz2 : (nI (k + 1) = 1) = False := by rw [hk2]; exact eq_false kz
        obtain ⟨hm1, hm2, hm3⟩ := hMT (by omega)
        obtain ⟨z1, z1', q1, q2, q3, q4, q5, q6⟩ := exempt_p hm2 hm3 (by omega)
        refine part (by omega) ?_ ?_ q2 q3 q4 q5 (by omega) q6
        · unfold fX12_isFull
          simp only [h41, if_false, kz1, bd_s, show (nI 2 = 0) = False from eq_false (by decide), show (nI 2 = 1) = False from eq_false (by decide), show (nI 2 = 2) = True from eq_true rfl, if_true]
        · unfold fX8_readClause
          simp only [a1, bd_s, w0, w1, w2, cw, i10, i00, if_false, h40, kz2, if_true, q1]
  · -- meet
    have w0 : fX6_isWord 1000000 z = some 0 := hW 0 (by omega)
    have w1 : fX6_isWord 1000001 z = some 0 := hW 1 (by omega)
    have w2 : fX6_isWord 1000002 z = some 0 := hW 2 (by omega)
    have w3 : fX6_isWord 1000003 z = some 1 := by rw [show 1000003 = 1000000 + 3 from rfl, hC 3 (by omega), if_pos (i4 (by omega))]
    have cw : fX8_isClauseWord z = some 1 := by
      unfold fX8_isClauseWord
      simp only [w0, w1, w2, w3, bd_s, i10, if_false, if_true]
      rfl
    by_cases k40 : k = 40
    · refine fault 4 (by omega) ?_ (full (by omega) ?_)
      · unfold fX8_readClause
        have : (40 < nI (k + 1)) = True := by rw [hk1]; exact eq_true (by omega)
        simp only [a1, bd_s, w0, cw, i10, if_false, this, if_true]
        exact bb (fX6_blame 4 z)
      · unfold fX12_isFull
        rw [if_pos (by rw [hk3]; exact k40)]
    · have h40 : (40 < nI (k + 1)) = False := by rw [hk1]; exact eq_false (by omega)
      have h41 : (nI k = 40) = False := by rw [hk3]; exact eq_false k40
      by_cases kz : k = 0
      · have kz1 : (nI k = 0) = True := by rw [hk4]; exact eq_true kz
        have kz2 : (nI (k + 1) = 1) = True := by rw [hk2]; exact eq_true kz
        refine fault 4 (by omega) ?_ (full (by omega) ?_)
        · unfold fX8_readClause
          simp only [a1, bd_s, w0, cw, i10, if_false, h40, kz2, if_true, show ((0 : Int32) = 1) = False from eq_false (by decide)]
          exact bb (fX6_blame 4 z)
        · unfold fX12_isFull
          simp only [h41, if_false, kz1, if_true, bd_s, show (nI 3 = 0) = False from eq_false (by decide), show ((0 : Int32) = 1) = False from eq_false (by decide)]
      · have kz1 : (nI k = 0) = False := by rw [hk4]; exact eq_false kz
        have kz2 : (nI (k + 1) = 1) = False := by rw [hk2]; exact eq_false kz
        obtain ⟨hm1, hm2, hm3⟩ := hMT (by omega)
        have g4' : gi (si s' 0 27 (nI st)) 19 4 = nI nm := by rw [gi_ne (by decide)]; exact tt.1.2.2.2.2.2
        have hnm := tt.1.2.1
        by_cases c5 : nm < 8
        · obtain ⟨z1, z1', q1, q2, q3, q4, q5, q6⟩ := meeting_p hm2 hm3 (by omega) c5
          refine part (by omega) ?_ ?_ q2 q3 q4 q5 (by omega) q6
          · unfold fX12_isFull
            have n5 : (nI nm = 8) = False := by rw [nj_eqr (by omega) (by decide)]; exact eq_false (by omega)
            simp only [h41, if_false, kz1, bd_s, show (nI 3 = 0) = False from eq_false (by decide), show (nI 3 = 1) = False from eq_false (by decide), show (nI 3 = 2) = False from eq_false (by decide), show (nI 3 = 3) = True from eq_true rfl, if_true, ck_t (show inb 4 9 = true by decide), ix_lit (show (4 : Nat) < 2147483648 by decide), g4', n5]
            rfl
          · unfold fX8_readClause
            simp only [a1, bd_s, w0, w1, w2, w3, cw, i10, i00, if_false, h40, kz2, if_true, q1]
        · refine fault 4 (by omega) ?_ (full (by omega) ?_)
          · unfold fX8_readClause fX8_readMeeting
            have n5 : (gi z 4 8 < 8) = False := by rw [hm3.1.2.2.2.2.1, nj_ltr (by omega) (by decide)]; exact eq_false (by omega)
            simp only [a1, bd_s, w0, w1, w2, w3, cw, i10, i00, if_false, h40, kz2, if_true, n5]
            exact bb3 (fX6_blame 4 z)
          · unfold fX12_isFull
            have n5 : (nI nm = 8) = True := by rw [nj_eqr (by omega) (by decide)]; exact eq_true (by omega)
            simp only [h41, if_false, kz1, bd_s, show (nI 3 = 0) = False from eq_false (by decide), show (nI 3 = 1) = False from eq_false (by decide), show (nI 3 = 2) = False from eq_false (by decide), show (nI 3 = 3) = True from eq_true rfl, if_true, ck_t (show inb 4 9 = true by decide), ix_lit (show (4 : Nat) < 2147483648 by decide), g4', n5]
            rfl
  · -- fine
    have w0 : fX6_isWord 1000000 z = some 0 := hW 0 (by omega)
    have w1 : fX6_isWord 1000001 z = some 0 := hW 1 (by omega)
    have w2 : fX6_isWord 1000002 z = some 0 := hW 2 (by omega)
    have w3 : fX6_isWord 1000003 z = some 0 := hW 3 (by omega)
    have w4 : fX6_isWord 1000004 z = some 1 := by rw [show 1000004 = 1000000 + 4 from rfl, hC 4 (by omega), if_pos (i4 (by omega))]
    have cw : fX8_isClauseWord z = some 1 := by
      unfold fX8_isClauseWord
      simp only [w0, w1, w2, w3, w4, bd_s, i10, if_false, if_true]
      rfl
    by_cases k40 : k = 40
    · refine fault 4 (by omega) ?_ (full (by omega) ?_)
      · unfold fX8_readClause
        have : (40 < nI (k + 1)) = True := by rw [hk1]; exact eq_true (by omega)
        simp only [a1, bd_s, w0, cw, i10, if_false, this, if_true]
        exact bb (fX6_blame 4 z)
      · unfold fX12_isFull
        rw [if_pos (by rw [hk3]; exact k40)]
    · have h40 : (40 < nI (k + 1)) = False := by rw [hk1]; exact eq_false (by omega)
      have h41 : (nI k = 40) = False := by rw [hk3]; exact eq_false k40
      by_cases kz : k = 0
      · have kz1 : (nI k = 0) = True := by rw [hk4]; exact eq_true kz
        have kz2 : (nI (k + 1) = 1) = True := by rw [hk2]; exact eq_true kz
        refine fault 4 (by omega) ?_ (full (by omega) ?_)
        · unfold fX8_readClause
          simp only [a1, bd_s, w0, cw, i10, if_false, h40, kz2, if_true, show ((0 : Int32) = 1) = False from eq_false (by decide)]
          exact bb (fX6_blame 4 z)
        · unfold fX12_isFull
          simp only [h41, if_false, kz1, if_true, bd_s, show (nI 4 = 0) = False from eq_false (by decide), show ((0 : Int32) = 1) = False from eq_false (by decide)]
      · have kz1 : (nI k = 0) = False := by rw [hk4]; exact eq_false kz
        have kz2 : (nI (k + 1) = 1) = False := by rw [hk2]; exact eq_false kz
        obtain ⟨hm1, hm2, hm3⟩ := hMT (by omega)
        rcases tt.2.2.1.2.2.2.2 with ⟨u1, u2⟩ | ⟨u1, u2⟩
        · have g7 : gi (si s' 0 27 (nI st)) 19 7 = 0 := by rw [gi_ne (by decide)]; exact u2
          obtain ⟨z1, z1', q1, q2, q3, q4, q5, q6⟩ := fines_p hm2 hm3 (by omega) (by rw [a2.1 _ _ (by omega)]; exact u1)
          refine part (by omega) ?_ ?_ q2 q3 q4 q5 (by omega) q6
          · unfold fX12_isFull
            simp only [h41, if_false, kz1, bd_s, show (nI 4 = 0) = False from eq_false (by decide), show (nI 4 = 1) = False from eq_false (by decide), show (nI 4 = 2) = False from eq_false (by decide), show (nI 4 = 3) = False from eq_false (by decide), show (nI 4 = 4) = True from eq_true rfl, if_true, ck_t (show inb 7 9 = true by decide), ix_lit (show (7 : Nat) < 2147483648 by decide), g7, show ((0 : Int32) = 1) = False from eq_false (by decide)]
            rfl
          · unfold fX8_readClause
            simp only [a1, bd_s, w0, w1, w2, w3, cw, i10, i00, if_false, h40, kz2, if_true, q1]
        · have g7 : gi (si s' 0 27 (nI st)) 19 7 = 1 := by rw [gi_ne (by decide)]; exact u2
          refine fault 4 (by omega) ?_ (full (by omega) ?_)
          · unfold fX8_readClause fX8_readFines
            have n5 : (gi z 3 2 = 0) = False := by rw [a2.1 _ _ (by omega), u1]; exact i10
            simp only [a1, bd_s, w0, w1, w2, w3, cw, i10, i00, if_false, h40, kz2, if_true, n5]
            exact bb3 (fX6_blame 4 z)
          · unfold fX12_isFull
            simp only [h41, if_false, kz1, bd_s, show (nI 4 = 0) = False from eq_false (by decide), show (nI 4 = 1) = False from eq_false (by decide), show (nI 4 = 2) = False from eq_false (by decide), show (nI 4 = 3) = False from eq_false (by decide), show (nI 4 = 4) = True from eq_true rfl, if_true, ck_t (show inb 7 9 = true by decide), ix_lit (show (7 : Nat) < 2147483648 by decide), g7]
            rfl
  · -- none
    have w0 : fX6_isWord 1000000 z = some 0 := hW 0 (by omega)
    have w1 : fX6_isWord 1000001 z = some 0 := hW 1 (by omega)
    have w2 : fX6_isWord 1000002 z = some 0 := hW 2 (by omega)
    have w3 : fX6_isWord 1000003 z = some 0 := hW 3 (by omega)
    have w4 : fX6_isWord 1000004 z = some 0 := hW 4 (by omega)
    have cw : fX8_isClauseWord z = some 0 := by
      unfold fX8_isClauseWord
      simp only [w0, w1, w2, w3, w4, bd_s, if_true, Bool.false_eq_true, if_false]
      rfl
    refine fault 0 (by omega) ?_ ?_
    · unfold fX8_readClause
      simp only [a1, bd_s, w0, cw, if_true]
      exact bb (fX6_blame 0 z)
    · rw [ref, if_pos (show nI 5 = 5 from rfl)]
      rfl
end TB2
