/-! RULES: comparisons by both -/
section SB1
variable {B : Nat → Nat} {n R : Nat}
theorem bdS {α : Type} (o : Option α) : o.bind (fun q => some q) = o := by cases o <;> rfl
theorem rs_gen {z : ST} {q a b : Int32} (h1 : fX4_ofToken (gi z 1 4) z = some q) (h2 : fX4_isOfSum q z = some a) (h3 : fX4_isOfFact q z = some b) (ha : a = 0 ∨ gi z 11 12 = 3) (hb : b = 0 ∨ ¬ gi z 11 12 = 1) :
    fX3_readSign z = if gi z 11 12 = 1 then fX6_blame 0 z else (fX3_isEndOfClause z).bind (fun q21 => if q21 = 0 then if (gi z 11 12) = 0 then fX3_readIf z else fX3_readBehindFact z else fX3_endClause z) := by
  unfold fX3_readSign
  have e1 : (if a = 0 then some false else if gi z 11 12 = 3 then some false else some true : Option Bool) = some false := by
    rcases ha with h | h
    · rw [if_pos h]
    · rw [if_pos h]
      split <;> rfl
  have e2 : (if b = 0 then some false else if gi z 11 12 = 1 then some true else some false : Option Bool) = some false := by
    rcases hb with h | h
    · rw [if_pos h]
    · rw [if_neg h]
      split <;> rfl
  rw [h1, bd_s, h2, bd_s, e1, bd_s, if_neg nft, h3, bd_s, e2, bd_s, if_neg nft]
  simp only [bdS]
theorem no_tok {st pl : Nat} {tok val : Int32} (h : Tok B n st tok pl val) (hB : st < n → B st < 256) (h1 : ¬ (st < n ∧ (B st = 42 ∨ B st = 47 ∨ B st = 37))) (h2 : ¬ (st < n ∧ (B st = 43 ∨ B st = 45))) (h3 : ¬ (st < n ∧ (B st = 60 ∨ B st = 61 ∨ B st = 62))) (s : ST) : fX4_ofToken tok s = some (-1) := by
  rcases h with ⟨_, e, _⟩ | ⟨_, _, e, _⟩ | ⟨_, _, _, e, _⟩ | ⟨e1, _, _, e4⟩
  · rw [e]; rfl
  · rw [e]; rfl
  · rw [e]; rfl
  · have hb := hB e1
    rcases e4 with ⟨⟨e5, _⟩, _⟩ | ⟨_, e5, _⟩
    · omega
    · rw [e5]
      unfold fX4_ofToken
      simp (disch := omega) only [nj_eqr_f, if_false]
theorem of_m1 (s : ST) : fX4_isOfSum (-1) s = some 0 ∧ fX4_isOfFact (-1) s = some 0 := ⟨rfl, rfl⟩
theorem ty_cmp {op : Nat} {T : List Bool} (h : 4 ≤ op ∧ op ≤ 8) : tyS (op, 0) (false :: false :: T) = some (true :: T) := by
  obtain rfl | rfl | rfl | rfl | rfl : op = 4 ∨ op = 5 ∨ op = 6 ∨ op = 7 ∨ op = 8 := by omega
  all_goals rfl
/-- a fault of both at a token -/
theorem OC_bad {E E' : Nat → Nat → Prop} {b x p p' c : Nat} {s s' z w' : ST} {e : Nat → Nat × Nat} {Lc : Nat} {P Q : List Nat} {cnt dep S : Nat} {T : List Bool} {g M : Nat} {r : Option ST} {post : Nat → ST → ST → Prop} (h : SV B n R x p p' s s' e Lc P Q cnt dep S T g M) (h4 : ¬ gi s 11 11 = 4) (hz : fX6_step s = some z) (ha : actC z = fX6_blame (nI c) z) (hc : c ≤ 4) (hr : r = some w') (hE' : FX E' s' w') (hR : ∀ a j, E' a j → uRl R a j) (h28 : gi w' 0 28 = nI (1 + 8 * bl B n p + c)) (h27 : ∃ q, q ≤ b ∧ gi w' 0 27 = nI q) : OC B n E E' b x s s' r post := by
  obtain ⟨tc, c3, c2, l2, l7, l8, l9, l12, l15, hp, hx⟩ := h.1
  have hn := tc.1
  obtain ⟨z0, pl, a1, a2, a3, a4, a5, a6, a7, a8⟩ := step_ev tc hp c2
  obtain rfl : z0 = z := Option.some.inj (a1.symm.trans hz)
  have hst : bl B n p ≤ n := ru_le hp
  have z3 : gi z0 1 3 = 0 := by rw [a2.1 _ _ (by omega)]; exact c3
  rw [blame0 z3 a3] at ha
  have ne : ¬ gi (si z0 1 3 (nI (1 + 8 * bl B n p + c))) 1 3 = 0 := by rw [gi_same, nj_eqr (by omega) (by decide)]; omega
  exact ⟨w', hr, hE', Or.inl ⟨1 + 8 * bl B n p + c, si z0 1 3 (nI (1 + 8 * bl B n p + c)), ⟨⟨FX_TV (hE'.w hR) h.2.1.1, by rw [hE' _ _ (fun q => by have := hR _ _ q; unfold uRl uTs uSm at this; omega)]; exact h.2.1.2.2.2.2.2.2.1⟩, by omega, by omega, h28, h27⟩, tok_step (by omega) h4 c3 hz ha (stop_f (by omega) ne), gi_same _ _ _ _, ((FT_S a2).w xS_R).trans (FX.si (by unfold xRl; omega))⟩⟩
theorem cmp_both {x p p' : Nat} {s s' : ST} {e : Nat → Nat × Nat} {Lc : Nat} {Q : List Nat} {cnt dep S : Nat} {T : List Bool} {g M : Nat} (h : SV B n R x p p' s s' e Lc [] Q cnt dep S T g M) (ha : ActV s) (h4 : ¬ gi s 11 11 = 4) (hk : gi s 11 12 = 1) (hQ : ∀ k, k ∈ Q.head? → tgN k < 4) (hQl : Q.length ≤ 55) : OC B n xCm (uSm R) 402 x s s' (fX12_compared s') (fun x2 z z' => PO B n R e Lc p Q dep S (true :: T) g M 4 3 (NS B n) x2 z z' ∧ gi z 11 12 = 2) := by
  rw [cmp_K]
  refine OC_bind xC_R (OC_w (b2 := 400) (post2 := fun x2 z z' => PO B n R e Lc p Q dep S (false :: T) g M 5 2 (NS B n) x2 z z' ∧ gi z 11 12 = 1) (sum_both h ha h4 (by rw [hk]; decide) (fun k hk => by have := hQ k hk; omega) (by omega)) xS_C (fun _ _ q => q) (by omega) (fun x2 z z' f1 _ hp => ⟨hp, by rw [f1 _ _ (by unfold xSm; omega)]; exact hk⟩)) (fun f z' hF => cmpF hF) (fun x2 z z' f1 f2 hp => ?_)
  obtain ⟨⟨p2, p2', e2, Lc2, P2, cnt2, hS, g1, g2, g3, g4, g5, g6, g7, g8, g9⟩, k12⟩ := hp
  obtain ⟨hC, ⟨tv, v28, v27, v31, v29, v33, v35, vE, hp'⟩, hb, ⟨b1, b2, b3, b4, b5, b6, b7, b8, b9, b10, b11⟩⟩ := hS
  have hS : SV B n R x2 p2 p2' z z' e2 Lc2 P2 Q cnt2 dep S (false :: T) g M := ⟨hC, ⟨tv, v28, v27, v31, v29, v33, v35, vE, hp'⟩, hb, ⟨b1, b2, b3, b4, b5, b6, b7, b8, b9, b10, b11⟩⟩
  obtain ⟨tc, c3, c2, l2, l7, l8, l9, l12, l15, hp2, hx2⟩ := hC
  have hC : CV B n x2 p2 z e2 Lc2 P2 Q cnt2 dep := ⟨tc, c3, c2, l2, l7, l8, l9, l12, l15, hp2, hx2⟩
  obtain ⟨u, pl, a1, a2, a3, a4, a5, a6, a7, a8⟩ := step_ev tc hp2 c2
  have hst : bl B n p2 = p2' := by rw [hb]; exact g7
  have hps : p2 ≤ p2' := by rw [← hst]; exact ru_ge
  have hn := tc.1
  rw [hst] at a3 a5 a7 a8
  have u11 : gi u 11 11 = 3 := by rw [a2.1 _ _ (by omega)]; exact g3
  have u12 : gi u 11 12 = 1 := by rw [a2.1 _ _ (by omega)]; exact k12
  have ac : actC u = fX3_readSign u := by
    unfold actC
    rw [u11, if_neg (show ¬ (3 : Int32) = 0 by decide), if_neg (show ¬ (3 : Int32) = 1 by decide), if_neg (show ¬ (3 : Int32) = 2 by decide), bdS]
  have hB : ∀ i, i < n → B i < 256 := fun i hi => (tv.2.2 i hi).1
  by_cases c : p2' < n ∧ (B p2' = 60 ∨ B p2' = 61 ∨ B p2' = 62)
  · obtain ⟨op, j, o1, o2, o3, o4, o5, o6, o7⟩ := cmp_tok a8 c.1 c.2 tv v27 hn
    obtain ⟨s1, s2, s3⟩ := sg_cmp u ⟨o1, o2⟩
    have hb5 := hB p2' c.1
    have e5 : (if nI (B p2') = 60 then some false else if nI (B p2') = 61 then some false else if nI (B p2') = 62 then some false else some true : Option Bool) = some false := by
      rcases c.2 with q | q | q <;> rw [q] <;> rfl
    have eK : cmpK z' = (fX12_isCounted (nI p2') z').bind (fun q11 => lt (si q11 0 27 ((gi q11 0 27) + 1)) (fun s12 => (if nI (B p2') = 61 then some false else (fX12_sign s12).bind (fun q17 => if q17 = 61 then some true else some false) : Option Bool).bind (fun b13 => (if b13 = true then some 1 else some 0 : Option (Int32)).bind (fun w18 => (if w18 = 0 then some 0 else some 1 : Option (Int32)).bind (fun w21 => lt (si s12 0 27 ((gi s12 0 27) + w21)) (fun s24 => (fX12_sum s24).bind (fun q26 => (if nI (B p2') = 61 then some 6 else if nI (B p2') = 60 then if w18 = 0 then some 4 else some 5 else if w18 = 0 then some 8 else some 7 : Option (Int32)).bind (fun w27 => (fX12_entry w27 0 q26).bind (fun q31 => some q31))))))))) := by
      unfold cmpK
      rw [SV_sg hS, bd_s, if_pos c.1, e5, bd_s, if_neg nft, v27]
    have rs : fX3_readSign u = fX3_readSignOfFact (nI (sg op)) u := by
      unfold fX3_readSign
      rw [o6 u, bd_s, s1, bd_s, if_pos rfl, bd_s, if_neg nft, s2, bd_s, if_neg n10, if_pos u12, bd_s, if_pos rfl, bdS, bdS]
    have u8 : gi u 11 8 = nI cnt2 := by rw [a2.1 _ _ (by omega)]; exact l8
    by_cases c6 : cnt2 < 60
    · -- it is counted
      have hCu := CV_step hC a2 a4 hps (by omega) a6
      have hCv : CV B n (x2 + 1) pl (si u 11 8 (nI (cnt2 + 1))) e2 Lc2 P2 Q (cnt2 + 1) dep := by
        obtain ⟨tc, c3, c2, l2, l7, l8, l9, l12, l15, hp2, hx2⟩ := hCu
        exact ⟨FX_TC (FX.si (by unfold xRl; omega)) tc, by rw [gi_ne (by decide)]; exact c3, by rw [gi_ne (by decide)]; exact c2, by rw [gi_dif (by decide)]; exact l2, by rw [gi_dif (by decide)]; exact l7, gi_same _ _ _ _, by rw [gi_dif (by decide)]; exact l9, fun i hi => by rw [gi_ne (by decide)]; exact l12 i hi, Stk_w _ (fun i _ => gi_ne (by decide)) l15, hp2, hx2⟩
      have hP : ∀ k, k ∈ P2 → tgN op ≤ tgN k ∧ k ≠ 9 := fun k hk => ⟨by have := g2 k hk; omega, tg_9 (a := 5) (by omega) (g2 k hk)⟩
      have hc0 : P2.count 9 = 0 := List.count_eq_zero.2 (fun q => (hP 9 q).2 rfl)
      obtain ⟨w, w1, w2, w3, w4⟩ := CV_join (st := 2) hCv (by omega) b4 (by omega) (by omega) b5 b6 (fun k hk => (hP k hk).1) (fun k hk => by rw [s3]; exact hQ k hk)
      obtain ⟨w', hw'⟩ : ∃ w', si w 11 12 2 = w' := ⟨_, rfl⟩
      have act : actC u = some w' := by
        rw [ac, rs]
        unfold fX3_readSignOfFact
        rw [if_pos (show gi u 11 8 < 60 by rw [u8, nj_ltr (by omega) (by decide)]; exact c6), lt_v, u8, nj_addr, w1, bd_s, lt_v, hw']
      have fw : FX xCm z w' := by
        intro a i ne
        by_cases c9 : a = 11 ∧ i = 9
        · have := w2.2.2.2.2.2.2.1
          rw [c9.1, c9.2, ← hw', gi_dif (by decide), this, l9, hc0]
          rfl
        · rw [← hw', si_x _ _ (by unfold xCm at ne; omega), w4 a i (by unfold xCm xSm at ne; unfold eJ; omega), si_x _ _ (by unfold xCm xSm at ne; omega)]
          exact a2.1 a i (by unfold xCm xSm at ne; omega)
      have hCw : CV B n (x2 + 1) pl w' e2 (Lc2 + P2.length) [] (op :: Q) (cnt2 + 1) dep := by
        obtain ⟨tc, c3, c2, l2, l7, l8, l9, l12, l15, hp2, hx2⟩ := w2
        rw [← hw']
        exact ⟨FX_TC (FX.si (by unfold xRl; omega)) tc, by rw [gi_ne (by decide)]; exact c3, by rw [gi_ne (by decide)]; exact c2, by rw [gi_dif (by decide)]; exact l2, by rw [gi_dif (by decide)]; exact l7, by rw [gi_dif (by decide)]; exact l8, by rw [gi_dif (by decide)]; exact l9, fun i hi => by rw [gi_ne (by decide)]; exact l12 i hi, Stk_w _ (fun i _ => gi_ne (by decide)) l15, hp2, hx2⟩
      have k2 : gi w' 11 12 = 2 := by rw [← hw', gi_same]
      have s2' : gi w' 11 11 = 2 := by rw [← hw', gi_dif (by decide)]; exact w3
      have hV : VV B n R pl (si (si z' 0 33 (nI (cnt2 + 1))) 0 27 (nI pl)) e2 (Lc2 + P2.length) (cnt2 + 1) :=
        ⟨TV_si (TV_si tv (by decide)) (by decide), by rw [gi_dif (by decide), gi_dif (by decide)]; exact v28, gi_same _ _ _ _, by rw [gi_dif (by decide), gi_dif (by decide)]; exact v31, by rw [gi_dif (by decide), gi_dif (by decide)]; exact v29, by rw [gi_dif (by decide), gi_same], by rw [gi_dif (by decide), gi_dif (by decide)]; exact v35, fun i hi => by rw [gi_ne (by decide), gi_ne (by decide), gi_ne (by decide), gi_ne (by decide)]; exact vE i hi, a6⟩
      have hSw : SV B n R (x2 + 1) pl pl w' (si (si z' 0 33 (nI (cnt2 + 1))) 0 27 (nI pl)) e2 (Lc2 + P2.length) [] (op :: Q) (cnt2 + 1) dep S (false :: T) g M :=
        ⟨hCw, hV, rfl, ⟨by omega, b2, b3, by simp; omega, fun j hj => absurd hj (by simp), fun k hk => by
          rcases List.mem_cons.1 hk with q | q
          · omega
          · exact b6 k (List.mem_append_right _ q), b7, b8, by simp at b9 ⊢; omega, b10, by omega⟩⟩
      rw [eK, cnt_ok v33 c6, bd_s, o7 _ (TV_si tv (by decide)) (by rw [gi_dif (by decide)]; exact v27)]
      refine OC_pre xC_R (fun y hy => tok_step (by omega) (by rw [g3]; decide) c3 a1 act hy) fw (FX.trans (FX.si (by unfold uSm; omega)) fq27) (OC_bind xC_R (OC_w (b2 := 402) (sum_both hSw (ActV_2 hCw s2') (by rw [s2']; decide) (by rw [k2]; decide) (fun k hk => by simp at hk; rw [← hk, s3]; decide) (by simp; omega)) xS_C (fun _ _ q => q) (by omega) (post2 := fun x2 z z' => PO B n R e2 (Lc2 + P2.length) pl (op :: Q) dep S (false :: false :: T) g M 5 2 (NS B n) x2 z z' ∧ gi z 11 12 = 2) (fun x3 y y' q1 _ hq => ⟨hq, by rw [q1 _ _ (by unfold xSm; omega)]; exact k2⟩)) (fun f y' hF => ⟨y', by rw [ent_F (FF_ne hF), bd_s], hF, FX.rfl⟩) (fun x3 y y' q1 q2 hq => ?_))
      obtain ⟨⟨p3, p3', e3, Lc3, P3, cnt3, hS3, r1, r2, r3, r4, r5, r6, r7⟩, r8⟩ := hq
      obtain ⟨t', t1, t2, t3⟩ := SV_entry hS3 (show op ≠ 9 by omega) (ty_cmp ⟨o1, o2⟩) (by simp)
      rw [t1, bd_s]
      refine ⟨t', rfl, t2, Or.inr ⟨x3, y, fun _ hy => hy, FX.rfl, ⟨p3, p3', _, Lc3, P3 ++ [op], cnt3, t3, by simp; omega, fun k hk => ?_, r3, by omega, by simp; omega, fun i hi => ?_, r7⟩, r8⟩⟩
      · rcases List.mem_append.1 hk with q | q
        · have := r2 k q; omega
        · rw [List.mem_singleton.1 q, s3]; exact Nat.le_refl _
      · rw [ins_o (by omega), r6 i (by omega)]; exact g6 i hi
    · obtain rfl : cnt2 = 60 := by omega
      have hc6 := cnt_60 (s := z') (st := p2') v33 v28
      have hF : FF B n 402 (1 + 8 * p2' + 3) (si (si z' 0 28 (nI (1 + 8 * p2' + 3))) 0 33 (nI 61)) := ⟨⟨TV_si (TV_si tv (by decide)) (by decide), by rw [gi_dif (by decide), gi_dif (by decide)]; exact v35⟩, by omega, by omega, by rw [gi_dif (by decide), gi_same], p2', by omega, by rw [gi_dif (by decide), gi_dif (by decide)]; exact v27⟩
      obtain ⟨w, w1, w2, w3⟩ := cmpT (R := R) (p := p2') (q4 := nI (B p2')) hF (by rw [gi_dif (by decide), gi_dif (by decide)]; exact v27) (by omega)
      refine OC_bad (c := 3) hS (by rw [g3]; decide) a1 ?_ (by omega) (by rw [eK, hc6, bd_s]; exact w1) (FX.trans (FX.trans (FX.si (by unfold uSm; omega)) (FX.si (by unfold uSm; omega))) w3) uS_R (by rw [hst]; exact w2.2.2.2.1) w2.2.2.2.2
      rw [ac, rs]
      unfold fX3_readSignOfFact
      rw [if_neg (show ¬ gi u 11 8 < 60 by rw [u8, nj_ltr (by omega) (by decide)]; omega), bdS]
      rfl
  · have hq := no_tok a8 (hB p2') g8 g9 c u
    refine OC_bad (c := 0) (w' := si z' 0 28 (nI (1 + 8 * p2' + 0))) hS (by rw [g3]; decide) a1 ?_ (by omega) ?_ (FX.si (by unfold uSm; omega)) uS_R (by rw [hst, gi_same]) ⟨p2', by omega, by rw [gi_dif (by decide)]; exact v27⟩
    · rw [ac, rs_gen hq (of_m1 u).1 (of_m1 u).2 (Or.inl rfl) (Or.inl rfl), if_pos u12]
      rfl
    · have e5 : ∀ q : Int32, ¬ q = 60 → ¬ q = 61 → ¬ q = 62 → (if q = 60 then some false else if q = 61 then some false else if q = 62 then some false else some true : Option Bool) = some true := fun q q1 q2 q3 => by rw [if_neg q1, if_neg q2, if_neg q3]
      have hf := fail0 (s := z') (c := 0) (p := p2') v28
      have hf : fX12_fails 0 (nI p2') z' = some (si z' 0 28 (nI (1 + 8 * p2' + 0))) := hf
      unfold cmpK
      rw [SV_sg hS, bd_s]
      have : (if (if p2' < n then nI (B p2') else -1) = 60 then some false else if (if p2' < n then nI (B p2') else -1) = 61 then some false else if (if p2' < n then nI (B p2') else -1) = 62 then some false else some true : Option Bool) = some true := by
        by_cases c1 : p2' < n
        · have := hB p2' c1
          rw [if_pos c1]
          exact e5 _ (by rw [nj_eqr (by omega) (by decide)]; omega) (by rw [nj_eqr (by omega) (by decide)]; omega) (by rw [nj_eqr (by omega) (by decide)]; omega)
        · rw [if_neg c1]; rfl
      rw [this, bd_s, if_pos rfl, v27, hf, bd_s]
end SB1
