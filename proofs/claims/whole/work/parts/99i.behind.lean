/-! RULES: behind a fact, by both -/
section SI
variable {B : Nat → Nat} {n R : Nat}
theorem Tok_ne93 {st pl : Nat} {tok val : Int32} (h : Tok B n st tok pl val) (hB : ∀ i, i < n → B i < 256) (hc : ¬ (st < n ∧ B st = 93)) : ¬ tok = 93 := by
  rcases h with ⟨_, e, _⟩ | ⟨_, _, e, _⟩ | ⟨_, _, _, e, _⟩ | ⟨e1, _, _, e4⟩
  · rw [e]; decide
  · rw [e]; decide
  · rw [e]; decide
  · have hb := hB _ e1
    rcases e4 with ⟨_, e5, _⟩ | ⟨_, e5, _⟩
    · rw [e5, nj_eqr (by omega) (by decide)]; omega
    · rw [e5, nj_eqr (by omega) (by decide)]; exact fun q => hc ⟨e1, q⟩
theorem beh_both {e0 : Nat → Nat × Nat} {L0 p0 S m : Nat} (ih : ∀ m2, m2 < m → (∀ (f x p p' : Nat) (s s' : ST) (e : Nat → Nat × Nat) (Lc : Nat) (K : List Nat) (cnt M : Nat), n - p = m2 → m2 + 1 < f → FS B n R x p p' s s' e Lc [] K cnt S [] M → gi s 11 11 = 1 → gi s 11 12 = 1 → p0 < p → L0 ≤ Lc → (∀ i, i < L0 → e i = e0 i) → OC B n xTs (uTs R) 410 x s s' (tK f 1 s') (TP B n R e0 L0 p0 S)) ∧
      (∀ (f x p p' : Nat) (s s' : ST) (e : Nat → Nat × Nat) (Lc : Nat) (P K : List Nat) (cnt M : Nat), n - p = m2 → m2 + 1 < f → FS B n R x p p' s s' e Lc P K cnt S [true] M → gi s 11 11 = 3 → KE B n p' (gi s 11 12) → (∀ k, k ∈ P → 4 ≤ tgN k) → p0 < p → L0 ≤ Lc + P.length → (∀ i, i < L0 → e i = e0 i) → OC B n xTs (uTs R) 410 x s s' (tK f 0 s') (TP B n R e0 L0 p0 S)))
    {f x p p' : Nat} {s s' : ST} {e : Nat → Nat × Nat} {Lc : Nat} {P K : List Nat} {cnt M : Nat} (hm : n - p = m) (hf : m + 1 < f) (h : FS B n R x p p' s s' e Lc P K cnt S [true] M) (h11 : gi s 11 11 = 3) (hk : KE B n p' (gi s 11 12)) (hP : ∀ k, k ∈ P → 4 ≤ tgN k) (hp0 : p0 < p) (hL0 : L0 ≤ Lc + P.length) (he0 : ∀ i, i < L0 → e i = e0 i) : OC B n xTs (uTs R) 410 x s s' (tK f 0 s') (TP B n R e0 L0 p0 S) := by
  obtain ⟨f, rfl⟩ : ∃ m, f = m + 1 := ⟨f - 1, by omega⟩
  obtain ⟨f, rfl⟩ : ∃ m, f = m + 1 := ⟨f - 1, by omega⟩
  have v28 := h.1.2.1.2.1
  have hn := h.1.2.1.1.1
  have hpn : p ≤ n := h.1.1.2.2.2.2.2.2.2.2.2.1
  have hlen := sh_32 h.2.2.2.1 h.1.2.2.2.2.2.1
  obtain ⟨z1, e1, A1, K1, a1, a2, a3, a4, a5, a6, a7⟩ := ansL (a := 9) (Or.inl rfl) K P s' e FUEL (by rw [FUEL_eq]; omega) h
  have a1 : fX12_answers 9 s' = some z1 := ans_ev a1
  have hK1 : K1.length ≤ 32 := by rw [a2, List.length_append] at hlen; omega
  obtain ⟨c1, c2⟩ := FS_bl a5
  obtain ⟨q', hq'⟩ : ∃ q, bl B n p' = q := ⟨_, rfl⟩
  rw [hq'] at c1 c2
  obtain ⟨z1b, hz1b⟩ : ∃ z, si z1 0 27 (nI q') = z := ⟨_, rfl⟩
  rw [hz1b] at c1 c2
  have hbl : bl B n q' = q' := by rw [← hq']; exact bl_bl
  have hk : KE B n q' (gi s 11 12) := by
    rcases hk with ⟨k1, k2⟩ | k1
    · left; rw [← hq', k2.1]; exact ⟨k1, k2⟩
    · exact Or.inr k1
  have a6 : FX (uTs R) s' z1b := by rw [← hz1b]; exact a6.trans (FX.si (by unfold uTs uSm; omega))
  have a5 := c2
  have tv := a5.1.2.1.1
  have v27 := a5.1.2.1.2.2.1
  have hpn' : q' ≤ n := a5.1.2.1.2.2.2.2.2.2.2.2
  obtain ⟨_, w44, w45, _, _, _, l22, l23, _⟩ := wd_eq
  have s44 := stood_ev (w := 44) (by decide) tv v27 (by omega)
  have s44 : fX12_stood 1000044 z1b = some (if wdb B n q' (txB 44) = true then 1 else 0) := s44
  have s45 := stood_ev (w := 45) (by decide) tv v27 (by omega)
  have s45 : fX12_stood 1000045 z1b = some (if wdb B n q' (txB 45) = true then 1 else 0) := s45
  rw [w44] at s44
  rw [w45] at s45
  obtain ⟨z2, e2, A2, K2, b1, b2, b3, b4, b5, b6, b7⟩ := ansL (a := 10) (Or.inr (Or.inl rfl)) K1 (P ++ A1) z1b e1 FUEL (by rw [FUEL_eq]; omega) a5
  have b1 : fX12_answers 10 z1b = some z2 := ans_ev b1
  have hK2 : K2.length ≤ 32 := by rw [b2, List.length_append] at hK1; omega
  have hP2 : ∀ k, k ∈ P ++ A1 ++ A2 → 2 ≤ tgN k := fun k hk => by
    rcases List.mem_append.1 hk with q | q
    · rcases List.mem_append.1 q with q | q
      · have := hP k q; omega
      · rw [a3 k q]; decide
    · rw [b3 k q]; decide
  have hh2 : ∀ k, k ∈ K2.head? → tgN k < 2 := fun k hk => by
    by_cases c : A2 = []
    · subst c
      obtain rfl : K1 = K2 := b2
      have q1 := (sh_4 a5.2.2.2.1 k hk).2
      have q2 := a4 k hk
      have q3 := b4 k hk
      rcases q1 with rfl | rfl | rfl | rfl
      · exact absurd rfl q2
      · exact absurd rfl q3
      · decide
      · decide
    · have sh1 := a5.2.2.2.1
      rw [b2] at sh1
      exact sh_r (a := 10) A2 K2 sh1 b3 b4 (by omega) c k hk
  have hLL : L0 ≤ Lc + (P ++ A1 ++ A2).length := by simp only [List.length_append]; omega
  have hee : ∀ i, i < L0 → e2 i = e0 i := fun i hi => by rw [b7 i (by simp only [List.length_append]; omega), a7 i (by omega)]; exact he0 i hi
  have f2 : FX (uTs R) s' z2 := a6.trans b6
  have ev : tK (f + 1 + 1) 0 s' = ((if (if wdb B n q' (txB 22) = true then (1 : Int32) else 0) = 0 then if (if wdb B n q' (txB 23) = true then (1 : Int32) else 0) = 0 then some false else some true else some true : Option Bool).bind (fun b15 => (if b15 = true then (if (if wdb B n q' (txB 23) = true then (1 : Int32) else 0) = 0 then some z2 else (fX12_answers 11 z2).bind (fun q25 => some q25) : Option (ST)).bind (fun w21 => (if (if wdb B n q' (txB 22) = true then (1 : Int32) else 0) = 0 then some 11 else some 10 : Option (Int32)).bind (fun w26 => (fX12_opens w26 w21).bind (fun q30 => (if (if wdb B n q' (txB 22) = true then (1 : Int32) else 0) = 0 then some 2 else some 3 : Option (Int32)).bind (fun w31 => lt (si q30 0 27 ((gi q30 0 27) + w31)) (fun s34 => some (1, 1, s34)))))) else (fX12_answers 11 z2).bind (fun q36 => (fX12_top q36).bind (fun q38 => if q38 = 12 then (fX12_sign q36).bind (fun q40 => (if q40 = 93 then some q36 else (fX12_fails 0 (gi q36 0 27) q36).bind (fun q45 => some q45) : Option (ST)).bind (fun w41 => lt (si w41 0 27 ((gi w41 0 27) + 1)) (fun s46 => lt (si s46 0 34 ((gi s46 0 34) - 1)) (fun s47 => lt (si s47 0 32 ((gi s47 0 32) - 1)) (fun s48 => some (0, 1, s48)))))) else some (0, 0, q36))) : Option (Int32 × Int32 × ST)).bind (fun w18 => fX12_test_L9 (f + 1) w18.1 w18.2.1 w18.2.2))).bind (fun w => some w.2.2) := by
    unfold tK
    rw [fX12_test_L9, if_neg n10, if_pos v28, bd_s, if_pos rfl, if_pos rfl, a1, bd_s, c1, bd_s, s44, bd_s, s45, bd_s, b1, bd_s]
  rw [ev]
  refine OC_pre xT_R (fun _ hy => hy) FX.rfl f2 ?_
  by_cases ca : wdb B n q' (txB 22) = true
  · have co : wdb B n q' (txB 23) = false := wd_no ca (by rw [l22, l23]; decide)
    obtain ⟨y', o1, o2, w, w1, w2, w3, w4, w5, w6, w7⟩ := andor (op := 10) (wi := 22) b5 hbl h11 hk (Or.inl ⟨rfl, rfl⟩) ca hP2 hh2
    have o1 : fX12_opens 10 z2 = some y' := o1
    rw [ca, co, if_pos rfl, if_neg n10, bd_s, if_pos rfl, if_neg nft, if_pos rfl, bd_s, if_neg n10, bd_s, o1, bd_s, if_neg n10, bd_s, lt_v, o2, nj_addr, bd_s]
    rw [l22] at w3 w4 w7
    have hx2 : q' + 3 ≤ n := w4.1.1.2.2.2.2.2.2.2.2.2.1
    exact OC_pre xT_R w1 w2 w3 ((ih (n - (q' + 3)) (by omega)).1 (f + 1) (x + 1) (q' + 3) (q' + 3) w _ e2 _ (10 :: K2) cnt M rfl (by omega) w4 w5 w6 (by omega) hLL hee)
  · have ca : wdb B n q' (txB 22) = false := by simpa using ca
    obtain ⟨z3, e3, A3, K3, d1, d2, d3, d4, d5, d6, d7⟩ := ansL (a := 11) (Or.inr (Or.inr rfl)) K2 (P ++ A1 ++ A2) z2 e2 FUEL (by rw [FUEL_eq]; omega) b5
    have d1 : fX12_answers 11 z2 = some z3 := ans_ev d1
    have hP3 : ∀ k, k ∈ P ++ A1 ++ A2 ++ A3 → 1 ≤ tgN k := fun k hk => by
      rcases List.mem_append.1 hk with q | q
      · have := hP2 k q; omega
      · rw [d3 k q]; decide
    have hh3 : ∀ k, k ∈ K3.head? → tgN k < 1 ∧ k = 12 := fun k hk => by
      have q0 := (sh_4 d5.2.2.2.1 k hk).2
      have q1 : tgN k < 1 := by
        by_cases c : A3 = []
        · subst c
          obtain rfl : K2 = K3 := d2
          have q2 := hh2 k hk
          have q3 := d4 k hk
          rcases q0 with rfl | rfl | rfl | rfl
          · exact absurd q2 (by decide)
          · exact absurd q2 (by decide)
          · exact absurd rfl q3
          · decide
        · have sh1 := b5.2.2.2.1
          rw [d2] at sh1
          exact sh_r (a := 11) A3 K3 sh1 d3 d4 (by omega) c k hk
      refine ⟨q1, ?_⟩
      rcases q0 with rfl | rfl | rfl | rfl
      · exact absurd q1 (by decide)
      · exact absurd q1 (by decide)
      · exact absurd q1 (by decide)
      · rfl
    have hL3 : L0 ≤ Lc + (P ++ A1 ++ A2 ++ A3).length := by simp only [List.length_append]; omega
    have he3 : ∀ i, i < L0 → e3 i = e0 i := fun i hi => by rw [d7 i (by simp only [List.length_append]; omega)]; exact hee i hi
    rw [ca, if_neg nft, if_pos rfl]
    by_cases co : wdb B n q' (txB 23) = true
    · obtain ⟨y', o1, o2, w, w1, w2, w3, w4, w5, w6, w7⟩ := andor (op := 11) (wi := 23) d5 hbl h11 hk (Or.inr ⟨rfl, rfl⟩) co hP3 (fun k hk => (hh3 k hk).1)
      have o1 : fX12_opens 11 z3 = some y' := o1
      rw [co, if_pos rfl, if_neg n10, bd_s, if_pos rfl, if_neg n10, d1, bd_s, bd_s, if_pos rfl, bd_s, o1, bd_s, if_pos rfl, bd_s, lt_v, o2, nj_addr, bd_s]
      rw [l23] at w3 w4 w7
      have hx2 : q' + 2 ≤ n := w4.1.1.2.2.2.2.2.2.2.2.2.1
      exact OC_pre xT_R w1 w2 (d6.trans w3) ((ih (n - (q' + 2)) (by omega)).1 (f + 1) (x + 1) (q' + 2) (q' + 2) w _ e3 _ (11 :: K3) cnt M rfl (by omega) w4 w5 w6 (by omega) hL3 he3)
    · have co : wdb B n q' (txB 23) = false := by simpa using co
      rw [co, if_neg nft, if_pos rfl, bd_s, if_neg nft, d1, bd_s]
      have hK3 : K3.length ≤ 32 := by rw [d2, List.length_append] at hK2; omega
      have ht := top_ev d5.2.1.1 d5.2.1.2.1 (by omega)
      cases K3 with
      | nil =>
        have ht : fX12_top z3 = some (-1) := ht
        rw [ht, bd_s, if_neg (show ¬ (-1 : Int32) = 12 by decide), bd_s]
        refine ⟨z3, ?_, d6, Or.inr ⟨x, s, fun _ hy => hy, FX.rfl, p, q', e3, Lc, P ++ A1 ++ A2 ++ A3, cnt, M, d5.1, d5.2.2.2.2, h11, d5.2.2.1, d5.2.1.2.2, hk, hbl, ca, co, hP3, hp0, hL3, he3⟩⟩
        show (fX12_test_L9 (f + 1) 0 0 z3).bind _ = _
        rw [fX12_test_L9, if_pos rfl, bd_s, if_neg nft, bd_s]
      | cons u K3 =>
        obtain rfl : u = 12 := (hh3 u rfl).2
        have ht : fX12_top z3 = some 12 := ht
        have hsg := SV_sg d5.1
        have y28 := d5.1.2.1.2.1
        have y27 := d5.1.2.1.2.2.1
        have y34 := d5.2.1.1
        have y32 := d5.2.1.2.2
        have y34 : gi z3 0 34 = nI (K3.length + 1) := y34
        have c12 : (12 :: K3).count 12 = K3.count 12 + 1 := List.count_cons_self
        have c9 : (12 :: K3).count 9 = K3.count 9 := List.count_cons_of_ne (by decide)
        have y32 : gi z3 0 32 = nI (K3.count 9 + K3.count 12 + 1) := by rw [y32, c9, c12]; rfl
        have s1 : nI (K3.count 9 + K3.count 12 + 1) - 1 = nI (K3.count 9 + K3.count 12) := by rw [nj_subr (by omega)]; rfl
        have s2 : nI (K3.length + 1) - 1 = nI K3.length := by rw [nj_subr (by omega)]; rfl
        rw [ht, bd_s, if_pos rfl, hsg, bd_s]
        by_cases cb : q' < n ∧ B q' = 93
        · obtain ⟨w, w1, w2, w3, w4, w5, w6⟩ := close d5 hbl h11 hk cb hP3
          rw [if_pos cb.1, cb.2, if_pos (show nI 93 = 93 from rfl), bd_s, lt_v, y27, nj_addr, lt_v, gi_dif (by decide), y34, s2, lt_v, gi_dif (by decide), gi_dif (by decide), y32, s1, bd_s]
          exact OC_pre xT_R w1 w2 (d6.trans (((FX.si (by unfold uTs uSm; omega)).trans (FX.si (by unfold uTs uSm; omega))).trans (FX.si (by unfold uTs uSm; omega)))) ((ih (n - (q' + 1)) (by omega)).2 (f + 1) (x + 1) (q' + 1) (q' + 1) w _ e3 _ [] K3 cnt M rfl (by omega) w3 w4 (Or.inr w5) (fun k hk => absurd hk (by simp)) (by omega) (by simpa using hL3) he3)
        · have r93 : ¬ (if q' < n then nI (B q') else -1) = 93 := by
            by_cases c : q' < n
            · have := (tv.2.2 q' c).1
              rw [if_pos c, nj_eqr (by omega) (by decide)]; exact fun q => cb ⟨c, q⟩
            · rw [if_neg c]; decide
          have hf0 := fail0 (s := z3) (c := 0) (p := q') y28
          have hf0 : fX12_fails 0 (nI q') z3 = some (si z3 0 28 (nI (1 + 8 * q' + 0))) := hf0
          obtain ⟨u, pl, t1, t2, t3, t4, t5, t6, t7, t8⟩ := step_ev d5.1.1.1 hpn d5.1.1.2.2.1
          have hbp : bl B n p = q' := by have := d5.1.2.2.1; rw [hbl] at this; exact this
          rw [hbp] at t3 t5 t7 t8
          have i1 := wordC (w := 22) (by decide) (t2.TC d5.1.1.1) t3 t4 hpn' t8
          have i2 := wordC (w := 23) (by decide) (t2.TC d5.1.1.1) t3 t4 hpn' t8
          rw [ca, if_neg nft] at i1
          rw [co, if_neg nft] at i2
          have i1 : fX6_isWord 1000022 u = some 0 := i1
          have i2 : fX6_isWord 1000023 u = some 0 := i2
          have ac := beh_act d5 h11 hk t2 t8 (by rw [c12]; omega)
          rw [if_neg r93, y27, hf0, bd_s, bd_s, lt_v, gi_dif (by decide), y27, nj_addr, lt_v, gi_dif (by decide), gi_dif (by decide), y34, s2, lt_v, gi_dif (by decide), gi_dif (by decide), gi_dif (by decide), y32, s1, bd_s]
          have fF : ¬ gi (si (si (si (si z3 0 28 (nI (1 + 8 * q' + 0))) 0 27 (nI (q' + 1))) 0 34 (nI K3.length)) 0 32 (nI (K3.count 9 + K3.count 12))) 0 28 = 0 := by
            rw [gi_dif (by decide), gi_dif (by decide), gi_dif (by decide), gi_same, nj_eqr (by omega) (by decide)]; omega
          refine OC_pre xT_R (fun _ hy => hy) FX.rfl d6 (OC_bad (c := 0) d5.1 (by rw [h11]; decide) t1 ?_ (by omega) (tK_F fF) ((((FX.si (by unfold uTs uSm; omega)).trans (FX.si (by unfold uTs uSm; omega))).trans (FX.si (by unfold uTs uSm; omega))).trans (FX.si (by unfold uTs uSm; omega))) uT_R (by rw [gi_dif (by decide), gi_dif (by decide), gi_dif (by decide), gi_same, hbp]) ⟨q' + 1, by omega, by rw [gi_dif (by decide), gi_dif (by decide), gi_same]⟩)
          rw [ac]
          unfold fX3_readBehindFact
          rw [i1, bd_s, if_pos rfl, i2, bd_s, if_pos rfl, if_neg (Tok_ne93 t8 (fun i hi => (tv.2.2 i hi).1) cb), bd_s, if_neg nft, bdS, bdS]
          rfl
end SI
