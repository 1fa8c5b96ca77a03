/-! RULES: behind a fault the reference only reads on -/
section RX
variable {B : Nat → Nat} {n R : Nat}
theorem bl_b {p b : Nat} (hn : n ≤ b) (h : p ≤ b) : bl B n p ≤ b := by
  by_cases c : p ≤ n
  · have : bl B n p ≤ n := ru_le c
    omega
  · have : bl B n p = p := by unfold bl; exact ru_e (by omega)
    omega
theorem FF_ne {b f : Nat} {z : ST} (h : FF B n b f z) : ¬ gi z 0 28 = 0 := by
  obtain ⟨_, h1, h2, h3, _⟩ := h
  rw [h3, nj_eqr (by omega) (by decide)]; omega
theorem FF_c {b b2 f q : Nat} {z : ST} (h : FF B n b f z) (hq : q ≤ b2) : FF B n b2 f (si z 0 27 (nI q)) := by
  obtain ⟨⟨h0, h5⟩, h1, h2, h3, _⟩ := h
  exact ⟨⟨TV_si h0 (by decide), by rw [gi_dif (by decide)]; exact h5⟩, h1, h2, by rw [gi_dif (by decide)]; exact h3, q, hq, gi_same _ _ _ _⟩
theorem FF_33 {b f : Nat} {z : ST} {y : Int32} (h : FF B n b f z) : FF B n b f (si z 0 33 y) := by
  obtain ⟨⟨h0, h5⟩, h1, h2, h3, p, h4, h6⟩ := h
  exact ⟨⟨TV_si h0 (by decide), by rw [gi_dif (by decide)]; exact h5⟩, h1, h2, by rw [gi_dif (by decide)]; exact h3, p, h4, by rw [gi_dif (by decide)]; exact h6⟩
theorem fq27 {s : ST} {q : Int32} : FX (uSm R) s (si s 0 27 q) := FX.si (by unfold uSm; omega)
theorem blF {b f : Nat} {z : ST} (h : FF B n b f z) (hb : 400 ≤ b) (hb2 : b < 100000) : ∃ w, fX12_blanks z = some w ∧ FF B n b f w ∧ FX (uSm R) z w := by
  obtain ⟨⟨h0, h5⟩, h1, h2, h3, p, h4, h6⟩ := h
  have hn := h0.1
  exact ⟨_, blanks_ev h0 h6 (by omega), FF_c (b := b) ⟨⟨h0, h5⟩, h1, h2, h3, p, h4, h6⟩ (bl_b (by omega) h4), fq27⟩
theorem digF {s : ST} {p : Nat} (ht : TV s B n) (hp : gi s 0 27 = nI p) (h : p < n ∧ isD (B p) = true) (hf : ¬ gi s 0 28 = 0) : ∃ v, fX12_digits 99999 s = some (v, si s 0 27 (nI (dg B n p))) := by
  have hn := ht.1
  have d := dgR (mx := 99999) h.1 (n - (p + 0)) 0 FUEL s rfl (by rw [FUEL_eq]; omega) (by omega) (fun i hi => absurd hi (by omega)) ht hp
  have d : fX12_digits_L25 99999 (nI p) FUEL 0 s = some (nI (dvS B p (if dg B n p - p ≤ 5 then dg B n p - p else 5)), si s 0 27 (nI (dg B n p))) := d
  obtain ⟨v, hv⟩ : ∃ v, nI (dvS B p (if dg B n p - p ≤ 5 then dg B n p - p else 5)) = v := ⟨_, rfl⟩
  rw [hv] at d
  refine ⟨v, ?_⟩
  unfold fX12_digits
  rw [isDi_ev ht hp (by omega), bd_s, if_pos h, if_neg n10, lt_v, hp, d, bd_s]
  have nf : ¬ gi (si s 0 27 (nI (dg B n p))) 0 28 = 0 := by rw [gi_dif (by decide)]; exact hf
  have e1 : ∀ o : Bool, (if o = true then (fX12_fails 1 (nI p) (si s 0 27 (nI (dg B n p)))).bind (fun q22 => some q22) else some (si s 0 27 (nI (dg B n p))) : Option ST) = some (si s 0 27 (nI (dg B n p))) := fun o => by
    cases o
    · rfl
    · rw [if_pos rfl, failN nf, bd_s]
  have e2 : ∃ o : Bool, (if 5 < gi (si s 0 27 (nI (dg B n p))) 0 27 - nI p then some true else if v ≤ 99999 then some false else some true : Option Bool) = some o := by
    split
    · exact ⟨_, rfl⟩
    · split
      · exact ⟨_, rfl⟩
      · exact ⟨_, rfl⟩
  obtain ⟨o, ho⟩ := e2
  simp only [ho, bd_s, e1]
theorem valF {b f : Nat} {z : ST} (h : FF B n b f z) (hb : 400 ≤ b) (hb2 : b < 100000) : ∃ w, fX12_value z = some w ∧ FF B n b f w ∧ FX (uSm R) z w := by
  have nf := FF_ne h
  obtain ⟨⟨h0, h5⟩, h1, h2, h3, p, h4, h6⟩ := h
  have hn := h0.1
  obtain ⟨st, hst⟩ : ∃ st, bl B n p = st := ⟨_, rfl⟩
  have hs : st ≤ b := by rw [← hst]; exact bl_b (by omega) h4
  have hF : FF B n b f (si z 0 27 (nI st)) := FF_c (b := b) ⟨⟨h0, h5⟩, h1, h2, h3, p, h4, h6⟩ hs
  have nf2 := FF_ne hF
  have tv := hF.1.1
  unfold fX12_value
  rw [blanks_ev h0 h6 (by omega), bd_s, lt_v, hst, gi_same, isDi_ev tv (gi_same _ _ _ _) (by omega), bd_s]
  by_cases c : st < n ∧ isD (B st) = true
  · obtain ⟨v, hv⟩ := digF tv (gi_same _ _ _ _) c nf2
    have hd : dg B n st ≤ n := ru_le (by omega)
    rw [if_pos c, if_neg n10, hv, bd_s, si_si]
    have nf3 : ¬ gi (si z 0 27 (nI (dg B n st))) 0 28 = 0 := by rw [gi_dif (by decide)]; exact nf
    exact ⟨_, by rw [cnt_F nf3, bd_s, ent_F (by rw [gi_dif (by decide)]; exact nf3), bd_s], FF_33 (FF_c (b := b) ⟨⟨h0, h5⟩, h1, h2, h3, p, h4, h6⟩ (by omega)), fq27.trans (FX.si (by unfold uSm; omega))⟩
  · have hvw := vwL (a := nI st) tv (gi_same _ _ _ _) hF.1.2 (show st < 1000000 by omega) 14 0 FUEL (by omega) (by rw [FUEL_eq]; omega)
    have hvw : fX12_value_L38 (nI st) FUEL 0 (si z 0 27 (nI st)) = some (nI (fwd B n st 14 0)) := hvw
    obtain ⟨-, r2, r3⟩ := fwd_r (B := B) (n := n) (st := st) 14 0
    obtain ⟨k, hk⟩ : ∃ k, fwd B n st 14 0 = k := ⟨_, rfl⟩
    rw [hk] at hvw r2 r3
    rw [if_neg c, if_pos rfl, hvw, bd_s, hF.1.2]
    by_cases c14 : k = 14
    · exact ⟨_, by rw [if_pos (show nI k = 14 by rw [c14]; rfl), failN nf2, bd_s], hF, fq27⟩
    · have hwd := r3 (by omega)
      obtain ⟨w1, w2⟩ := rwd_tx k (by omega)
      obtain ⟨t1, t2, t3, t4⟩ := tx_len (rwd k) w2
      have hle : le B n st - st = (txB (7 + k)).length := by
        unfold wdb at hwd
        simp at hwd
        exact hwd.1
      have hge : st ≤ le B n st := ru_ge
      rw [w1] at t1 t4
      have stn : st < n := by
        by_cases c : st < n
        · exact c
        · rw [le_no (by omega)] at hle; omega
      have hln : le B n st ≤ n := ru_le (by omega)
      have hadd : nI st + nI (txB (7 + k)).length = nI (le B n st) := by rw [nj_add]; congr 1; omega
      rw [if_neg (show ¬ nI k = 14 by rw [nj_eqr (by omega) (by decide)]; exact c14), cnt_F nf2, bd_s, nameV _ k (by omega), bd_s, ck_t t3, lt_v, t4, gi_dif (by decide), gi_dif (by decide), gi_same, hadd, ent_F (by rw [gi_dif (by decide), gi_dif (by decide)]; exact nf2), bd_s]
      exact ⟨_, rfl, FF_c (b := b) (FF_33 hF) (by omega), (fq27.trans (FX.si (by unfold uSm; omega))).trans fq27⟩
theorem termF {b f : Nat} {z : ST} (h : FF B n b f z) (hb : 400 ≤ b) (hb2 : b < 100000) : ∃ w, fX12_term z = some w ∧ FF B n b f w ∧ FX (uSm R) z w := by
  obtain ⟨w1, a1, a2, a3⟩ := valF (R := R) h hb hb2
  obtain ⟨w2, b1, b2, b3⟩ := blF (R := R) a2 hb hb2
  refine ⟨w2, ?_, b2, a3.trans b3⟩
  unfold fX12_term
  rw [a1, bd_s, b1, bd_s, show FUEL = 4999 + 1 from rfl, fX12_term_L8, if_neg (FF_ne b2), bd_s]
theorem sumF {b f : Nat} {z : ST} (h : FF B n b f z) (hb : 400 ≤ b) (hb2 : b < 100000) : ∃ w, fX12_sum z = some w ∧ FF B n b f w ∧ FX (uSm R) z w := by
  obtain ⟨w1, a1, a2, a3⟩ := termF (R := R) h hb hb2
  refine ⟨w1, ?_, a2, a3⟩
  unfold fX12_sum
  rw [a1, bd_s, show FUEL = 4999 + 1 from rfl, fX12_sum_L4, if_neg (FF_ne a2), bd_s]
/-! the class's waiting signs, and both -/
theorem OC_pre {E E' : Nat → Nat → Prop} {b x x1 : Nat} {s s' w w' : ST} {r : Option ST} {post : Nat → ST → ST → Prop} (hE : ∀ a j, E a j → xRl a j) (h1 : ∀ y, RnC x1 w y → RnC x s y) (h2 : FX E s w) (h3 : FX E' s' w') (h : OC B n E E' b x1 w w' r post) : OC B n E E' b x s s' r post := by
  obtain ⟨z', c1, c2, c3⟩ := h
  refine ⟨z', c1, h3.trans c2, ?_⟩
  rcases c3 with ⟨f, y, a1, a2, a3, a4⟩ | ⟨x2, z, a1, a2, a3⟩
  · exact Or.inl ⟨f, y, a1, h1 y a2, a3, (h2.w hE).trans a4⟩
  · exact Or.inr ⟨x2, z, fun y hy => h1 y (a1 y hy), h2.trans a2, a3⟩
theorem CV_flush {x p a : Nat} {s : ST} {e : Nat → Nat × Nat} {Lc : Nat} {P Q : List Nat} {cnt dep : Nat} (h : CV B n x p s e Lc P Q cnt dep) (ha : a ≤ 10) (hl : (P ++ Q).length ≤ 60) (hL : Lc + P.length ≤ 300) (he : ∀ j, j < P.length → e (Lc + j) = (P.getD j 0, 0)) (h15 : ∀ k, k ∈ P ++ Q → k ≤ 15) (hP : ∀ k, k ∈ P → a ≤ tgN k) (hQ : ∀ k, k ∈ Q.head? → tgN k < a) :
    ∃ w, fX3_writeWaiting (nI a) s = some w ∧ CV B n x p w e (Lc + P.length) [] Q cnt dep ∧ FX eW s w := by
  obtain ⟨tc, c3, c2, l2, l7, l8, l9, l12, l15, hp, hx⟩ := h
  obtain ⟨w, a1, a2, a3, a4, a5, a6, a7⟩ := ww_ev (P := P) (Q := Q) (a := a) (dep := dep) ha (fun k hk => ⟨h15 k (List.mem_append_right _ (List.mem_of_mem_head? hk)), hQ k hk⟩) l15 l7 hl l2 hL (fun k hk => ⟨h15 k (List.mem_append_left _ hk), hP k hk⟩) l9
  refine ⟨w, a1, ⟨FX_TC (a7.w (by unfold eW xRl; omega)) tc, by rw [a7 _ _ (by unfold eW; omega)]; exact c3, by rw [a7 _ _ (by unfold eW; omega)]; exact c2, a2, a3, by rw [a7 _ _ (by unfold eW; omega)]; exact l8, by rw [a4]; rfl, fun i hi => ?_, ?_, hp, hx⟩, a7⟩
  · by_cases c : i < Lc
    · rw [a5 i c]; exact l12 i c
    · obtain ⟨j, rfl⟩ : ∃ j, i = Lc + j := ⟨i - Lc, by omega⟩
      rw [a6 j (by omega), he j (by omega)]
      rfl
  · have hs : ∀ (P : List Nat), Stk (gi s 15) ((P ++ Q).map sg) → Stk (gi s 15) (Q.map sg) := fun P => by
      induction P with
      | nil => exact fun h => h
      | cons k P ih => exact fun h => ih h.2
    exact Stk_w _ (fun i _ => a7 _ _ (by unfold eW; omega)) (hs P l15)
def eJ (a j : Nat) : Prop := (a = 11 ∧ (j = 2 ∨ j = 7 ∨ j = 9 ∨ j = 11)) ∨ a = 12 ∨ a = 15
theorem CV_join {x p op : Nat} {st : Int32} {s : ST} {e : Nat → Nat × Nat} {Lc : Nat} {P Q : List Nat} {cnt dep : Nat} (h : CV B n x p s e Lc P Q cnt dep) (hop : op ≤ 15) (hl : (P ++ Q).length ≤ 60) (hQl : Q.length ≤ 59) (hL : Lc + P.length ≤ 300) (he : ∀ j, j < P.length → e (Lc + j) = (P.getD j 0, 0)) (h15 : ∀ k, k ∈ P ++ Q → k ≤ 15) (hP : ∀ k, k ∈ P → tgN op ≤ tgN k) (hQ : ∀ k, k ∈ Q.head? → tgN k < tgN op) :
    ∃ w, fX3_join (nI (sg op)) st s = some w ∧ CV B n x p w e (Lc + P.length) [] (op :: Q) cnt dep ∧ gi w 11 11 = st ∧ FX eJ s w := by
  have ht := tg_sg op (by omega)
  obtain ⟨w, a1, ⟨tc, c3, c2, l2, l7, l8, l9, l12, l15, hp, hx⟩, a3⟩ := CV_flush (a := tgN op) h (by omega) hl hL he h15 hP hQ
  have l7 : gi w 11 7 = nI Q.length := l7
  have hlw := lw_ev (k := op) l7 (by omega)
  obtain ⟨u, hu⟩ : ∃ u, si (si (si w 15 Q.length (nI (sg op))) 11 7 (nI (Q.length + 1))) 11 11 st = u := ⟨_, rfl⟩
  have fu : FX eJ w u := by
    rw [← hu]
    exact ((FX.si (by unfold eJ; omega)).trans (FX.si (by unfold eJ; omega))).trans (FX.si (by unfold eJ; omega))
  refine ⟨u, ?_, ⟨FX_TC (fu.w (by unfold eJ xRl; omega)) tc, ?_, ?_, ?_, ?_, ?_, ?_, fun i hi => ?_, ⟨?_, ?_⟩, hp, hx⟩, by rw [← hu, gi_same], (a3.w (by unfold eW eJ; omega)).trans fu⟩
  · unfold fX3_join
    rw [tg_ev hop, bd_s, a1, bd_s, hlw, bd_s, lt_v, hu]
  · rw [fu _ _ (by unfold eJ; omega)]; exact c3
  · rw [fu _ _ (by unfold eJ; omega)]; exact c2
  · rw [← hu, gi_dif (by decide), gi_dif (by decide), gi_ne (by decide)]; exact l2
  · rw [← hu, gi_dif (by decide), gi_same]; rfl
  · rw [fu _ _ (by unfold eJ; omega)]; exact l8
  · rw [← hu, gi_dif (by decide), gi_dif (by decide), gi_ne (by decide)]; exact l9
  · rw [← hu, gi_ne (by decide), gi_ne (by decide), gi_ne (by decide)]; exact l12 i hi
  · rw [List.length_map, ← hu, gi_ne (by decide), gi_ne (by decide)]; exact gi_same _ _ _ _
  · exact Stk_w _ (fun i hi => by rw [← hu, gi_ne (by decide), gi_ne (by decide), gi_dif (by simp at hi; omega)]) l15
theorem CV_step {x p st pl : Nat} {s z : ST} {e : Nat → Nat × Nat} {Lc : Nat} {P Q : List Nat} {cnt dep : Nat} (h : CV B n x p s e Lc P Q cnt dep) (f : FT s z) (h2 : gi z 1 2 = nI pl) (h3 : p ≤ st) (h4 : st < pl) (h5 : pl ≤ n) : CV B n (x + 1) pl z e Lc P Q cnt dep := by
  obtain ⟨tc, c3, c2, l2, l7, l8, l9, l12, l15, hp, hx⟩ := h
  exact ⟨f.TC tc, by rw [f.1 _ _ (by omega)]; exact c3, h2, by rw [f.1 _ _ (by omega)]; exact l2, by rw [f.1 _ _ (by omega)]; exact l7, by rw [f.1 _ _ (by omega)]; exact l8, by rw [f.1 _ _ (by omega)]; exact l9, fun i hi => by rw [f.1 _ _ (by omega)]; exact l12 i hi, Stk_w _ (fun i _ => f.1 _ _ (by omega)) l15, h5, by omega⟩
end RX
