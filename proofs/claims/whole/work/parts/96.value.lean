/-! RULES: a value by both -/
section RW
variable {B : Nat → Nat} {n R : Nat}
theorem si_cm (s : ST) {a j b k : Nat} {x y : Int32} (h : ¬ (a = b ∧ j = k)) : si (si s a j x) b k y = si (si s b k y) a j x := by
  refine Prod.ext ?_ rfl
  funext c i
  show gi (si (si s a j x) b k y) c i = gi (si (si s b k y) a j x) c i
  simp only [gi_si]
  grind
def ActV (s : ST) : Prop := ∀ z, fX6_step s = some z → actC z = fX3_readValue z
theorem FX_TV {s z : ST} (h : FX (uRl R) s z) (k : TV s B n) : TV z B n := ⟨k.1, by rw [h _ _ (by unfold uRl uTs uSm; omega)]; exact k.2.1, fun i hi => by rw [h _ _ (by unfold uRl uTs uSm; omega)]; exact k.2.2 i hi⟩
theorem FX_TC {s z : ST} (h : FX xRl s z) (k : TC s B n) : TC z B n := ⟨k.1, by rw [h _ _ (by unfold xRl; omega)]; exact k.2.1, fun i hi => by rw [h _ _ (by unfold xRl; omega)]; exact k.2.2 i hi⟩
theorem xS_R : ∀ a j, xSm a j → xRl a j := by unfold xSm xRl; omega
theorem uS_R : ∀ a j, uSm R a j → uRl R a j := fun a j h => Or.inl (Or.inl h)
theorem FT_S {s z : ST} (h : FT s z) : FX xSm s z := fun a j e => h.1 a j (by unfold xSm at e; omega)
theorem val_both {x p p' : Nat} {s s' : ST} {e : Nat → Nat × Nat} {Lc : Nat} {Q : List Nat} {cnt dep S : Nat} {T : List Bool} {g M : Nat} (h : SV B n R x p p' s s' e Lc [] Q cnt dep S T g M) (ha : ActV s) (h4 : ¬ gi s 11 11 = 4) : OC B n xSm (uSm R) 400 x s s' (fX12_value s') (PO B n R e Lc p Q dep S (false :: T) g M 7 0 (fun _ => True)) := by
  obtain ⟨⟨tc, c3, c2, l2, l7, l8, l9, l12, l15, hp, hx⟩, ⟨tv, v28, v27, v31, v29, v33, v35, vE, hp'⟩, hb, ⟨b1, b2, b3, b4, b5, b6, b7, b8, b9, b10, b11⟩⟩ := h
  simp only [List.length_nil, Nat.add_zero, List.nil_append, List.count_nil] at l7 l9 l15 v31 vE b4 b6 b7 b8 b9
  obtain ⟨z, pl, a1, a2, a3, a4, a5, a6, a7, a8⟩ := step_ev tc hp c2
  obtain ⟨st, hst⟩ : ∃ st, bl B n p = st := ⟨_, rfl⟩
  rw [hst] at a3 a5 a7 a8 hb
  have hn := tc.1
  have hsn : st ≤ n := by rw [← hst]; exact ru_le hp
  have hps : p ≤ st := by rw [← hst]; exact ru_ge
  have z3 : gi z 1 3 = 0 := by rw [a2.1 _ _ (by omega)]; exact c3
  have z8 : gi z 11 8 = nI cnt := by rw [a2.1 _ _ (by omega)]; exact l8
  have z2 : gi z 11 2 = nI Lc := by rw [a2.1 _ _ (by omega)]; exact l2
  have tz := a2.TC tc
  have hbl : fX12_blanks s' = some (si s' 0 27 (nI st)) := by rw [blanks_ev tv v27 (by omega), ← hb]
  have tv2 : TV (si s' 0 27 (nI st)) B n := TV_si tv (by decide)
  have good : ∀ (v k : Nat), cnt < 60 → fX3_readValue z = some (si (si (si (si z 11 8 (nI (cnt + 1))) 12 Lc (nI (v + 32 * k))) 11 2 (nI (Lc + 1))) 11 11 3) → fX12_value s' = some (si (si (si (si (si s' 0 27 (nI pl)) 0 33 (nI (cnt + 1))) 27 (300 * R + Lc) (nI v)) 28 (300 * R + Lc) (nI k)) 0 31 (nI (Lc + 1))) → sg v = v → k ≤ 99999 → tyS (v, k) T = some (false :: T) → st < pl → OC B n xSm (uSm R) 400 x s s' (fX12_value s') (PO B n R e Lc p Q dep S (false :: T) g M 7 0 (fun _ => True)) := fun v k h60 e1 e2 e3 e4 e5 e6 => by
    obtain ⟨w, hw⟩ : ∃ w, si (si (si (si z 11 8 (nI (cnt + 1))) 12 Lc (nI (v + 32 * k))) 11 2 (nI (Lc + 1))) 11 11 3 = w := ⟨_, rfl⟩
    obtain ⟨w', hw'⟩ : ∃ w, si (si (si (si (si s' 0 27 (nI pl)) 0 33 (nI (cnt + 1))) 27 (300 * R + Lc) (nI v)) 28 (300 * R + Lc) (nI k)) 0 31 (nI (Lc + 1)) = w := ⟨_, rfl⟩
    rw [hw] at e1
    rw [hw'] at e2
    have fw : FX xSm s w := by
      rw [← hw]
      exact ((((FT_S a2).trans (FX.si (by unfold xSm; omega))).trans (FX.si (by unfold xSm; omega))).trans (FX.si (by unfold xSm; omega))).trans (FX.si (by unfold xSm; omega))
    have fw' : FX (uSm R) s' w' := by
      rw [← hw']
      exact ((((FX.si (by unfold uSm; omega)).trans (FX.si (by unfold uSm; omega))).trans (FX.si (by unfold uSm; omega))).trans (FX.si (by unfold uSm; omega))).trans (FX.si (by unfold uSm; omega))
    refine ⟨w', e2, fw', Or.inr ⟨x + 1, w, fun y hy => tok_step (by omega) h4 c3 a1 (by rw [ha z a1]; exact e1) hy, fw, pl, pl, ins e Lc (v, k), Lc + 1, [], cnt + 1, ⟨⟨FX_TC (fw.w xS_R) tc, ?_, ?_, ?_, ?_, ?_, ?_, ?_, ?_, a6, by omega⟩, ⟨FX_TV (fw'.w uS_R) tv, ?_, ?_, ?_, ?_, ?_, ?_, ?_, a6⟩, rfl, ⟨by omega, b2, b3, b4, fun j hj => absurd hj (by simp), b6, by simp; omega, ?_, by simp; omega, b10, by simp; omega⟩⟩, by simp, fun k hk => absurd hk (by simp), ?_, by omega, by simp, fun i hi => ins_o (by omega), trivial⟩⟩
    · rw [← hw, gi_ne (by decide), gi_ne (by decide), gi_ne (by decide), gi_ne (by decide)]; exact z3
    · rw [← hw, gi_ne (by decide), gi_ne (by decide), gi_ne (by decide), gi_ne (by decide)]; exact a4
    · rw [← hw, gi_dif (by decide), gi_same]
    · rw [← hw, gi_dif (by decide), gi_dif (by decide), gi_ne (by decide), gi_dif (by decide), a2.1 _ _ (by omega)]; exact l7
    · rw [← hw, gi_dif (by decide), gi_dif (by decide), gi_ne (by decide), gi_same]
    · rw [← hw, gi_dif (by decide), gi_dif (by decide), gi_ne (by decide), gi_dif (by decide), a2.1 _ _ (by omega)]; exact l9
    · intro i hi
      rw [← hw, gi_ne (by decide), gi_ne (by decide)]
      by_cases c : i = Lc
      · rw [c, gi_same, ins_s, e3]
      · rw [gi_dif c, gi_ne (by decide), a2.1 _ _ (by omega), ins_o c]; exact l12 i (by omega)
    · exact Stk_w _ (fun i _ => by rw [← hw, gi_ne (by decide), gi_ne (by decide), gi_ne (by decide), gi_ne (by decide), a2.1 _ _ (by omega)]) l15
    · rw [← hw', gi_dif (by decide), gi_ne (by decide), gi_ne (by decide), gi_dif (by decide), gi_dif (by decide)]; exact v28
    · rw [← hw', gi_dif (by decide), gi_ne (by decide), gi_ne (by decide), gi_dif (by decide), gi_same]
    · rw [← hw', gi_same]; rfl
    · rw [← hw', gi_dif (by decide), gi_ne (by decide), gi_ne (by decide), gi_dif (by decide), gi_dif (by decide)]; exact v29
    · rw [← hw', gi_dif (by decide), gi_ne (by decide), gi_ne (by decide), gi_same]
    · rw [← hw', gi_dif (by decide), gi_ne (by decide), gi_ne (by decide), gi_dif (by decide), gi_dif (by decide)]; exact v35
    · intro i hi
      by_cases c : i = Lc
      · subst c
        exact ⟨by rw [← hw', gi_ne (by decide), gi_ne (by decide), gi_same, ins_s], by rw [← hw', gi_ne (by decide), gi_same, ins_s], by rw [ins_s]; exact e4⟩
      · obtain ⟨q1, q2, q3⟩ := vE i (by simp at hi; omega)
        exact ⟨by rw [← hw', gi_ne (by decide), gi_ne (by decide), gi_dif (by omega), gi_ne (by decide), gi_ne (by decide), ins_o c]; exact q1, by rw [← hw', gi_ne (by decide), gi_dif (by omega), gi_ne (by decide), gi_ne (by decide), gi_ne (by decide), ins_o c]; exact q2, by rw [ins_o c]; exact q3⟩
    · exact ty_ins b7 b8 e5
    · rw [← hw, gi_same]
  have bad : ∀ (c : Nat) (w' : ST), c ≤ 4 → fX3_readValue z = fX6_blame (nI c) z → fX12_value s' = some w' → FX (uSm R) s' w' → gi w' 0 28 = nI (1 + 8 * st + c) → (∃ q, q ≤ 400 ∧ gi w' 0 27 = nI q) → OC B n xSm (uSm R) 400 x s s' (fX12_value s') (PO B n R e Lc p Q dep S (false :: T) g M 7 0 (fun _ => True)) := fun c w' hc e1 e2 e3 e4 e5 => by
    rw [blame0 z3 a3] at e1
    have ne : ¬ gi (si z 1 3 (nI (1 + 8 * st + c))) 1 3 = 0 := by rw [gi_same, nj_eqr (by omega) (by decide)]; omega
    exact ⟨w', e2, e3, Or.inl ⟨1 + 8 * st + c, si z 1 3 (nI (1 + 8 * st + c)), ⟨⟨FX_TV (e3.w uS_R) tv, by rw [e3 _ _ (by unfold uSm; omega)]; exact v35⟩, by omega, by omega, e4, e5⟩, tok_step (by omega) h4 c3 a1 (by rw [ha z a1]; exact e1) (stop_f (by omega) ne), gi_same _ _ _ _, ((FT_S a2).w xS_R).trans (FX.si (by unfold xRl; omega))⟩⟩
  have ev28 : gi (si s' 0 27 (nI st)) 0 28 = 0 := by rw [gi_dif (by decide)]; exact v28
  have b7' : 2 * cnt + M ≤ 253 := by omega
  have fq : ∀ q, FX (uSm R) s' (si s' 0 27 q) := fun q => FX.si (by unfold uSm; omega)
  by_cases cd : st < n ∧ isD (B st) = true
  · obtain ⟨cd1, cd2⟩ := cd
    have tk : gi z 1 4 = -2 ∧ pl = dg B n st ∧ gi z 1 6 = (if dg B n st - st ≤ 5 then nI (dvS B st (dg B n st - st)) else -1) := by
      rcases a8 with ⟨e1, _⟩ | ⟨_, _, e3, e4, e5⟩ | ⟨_, e2, _⟩ | ⟨_, e2, _⟩
      · omega
      · exact ⟨e3, e4, e5⟩
      · rw [cd2] at e2; cases e2
      · rw [cd2] at e2; cases e2
    obtain ⟨k4, kpl, k6⟩ := tk
    have dd := digs tv2 (gi_same _ _ _ _) hsn ev28
    rw [if_pos (show st < n ∧ isD (B st) = true from ⟨cd1, cd2⟩), si_si, ← kpl] at dd
    have ev : fX12_value s' = (fX12_digits 99999 (si s' 0 27 (nI st))).bind (fun q28 => (fX12_isCounted (nI st) q28.2).bind (fun q30 => (fX12_entry 0 q28.1 q30).bind (fun q32 => some q32))) := by
      unfold fX12_value
      rw [hbl, bd_s, lt_v, gi_same, isDi_ev tv2 (gi_same _ _ _ _) (by omega), bd_s, if_pos (show st < n ∧ isD (B st) = true from ⟨cd1, cd2⟩), if_neg n10]
    rw [← kpl] at k6
    rw [dd, bd_s] at ev
    have hpl : pl ≤ 400 := by omega
    by_cases c5 : pl - st ≤ 5
    · have hv := dvS_b (B := B) (st := st) (pl - st) (fun i hi => ru_in (P := fun i => isD (B i)) (n := n) (p := st) (by omega) (show st + i < dg B n st by rw [← kpl]; omega))
      have hv2 : dvS B st (pl - st) ≤ 99999 := by
        have : 10 ^ (pl - st) ≤ 10 ^ 5 := Nat.pow_le_pow_right (by decide) c5
        omega
      rw [if_pos c5] at k6 ev
      simp only at ev
      have hrv := rv_ok (v := 0) (k := dvS B st (pl - st)) (L := Lc) (Or.inl ⟨rfl, k4, k6⟩) hv2 z8 b1 z2 (by omega)
      by_cases c6 : cnt < 60
      · rw [if_pos c6] at hrv
        refine good 0 (dvS B st (pl - st)) c6 hrv ?_ rfl hv2 ?_ (a7 cd1)
        · have he := ent_ok (R := R) (s := si (si s' 0 27 (nI pl)) 0 33 (nI (cnt + 1))) (v := 0) (w := dvS B st (pl - st)) (L := Lc) (by rw [gi_dif (by decide), gi_dif (by decide)]; exact v28) (by rw [gi_dif (by decide), gi_dif (by decide)]; exact v29) (by rw [gi_dif (by decide), gi_dif (by decide)]; exact v31) b2 (by omega)
          have he : fX12_entry 0 (nI (dvS B st (pl - st))) (si (si s' 0 27 (nI pl)) 0 33 (nI (cnt + 1))) = _ := he
          rw [ev, cnt_ok (c := cnt) (by rw [gi_dif (by decide)]; exact v33) c6, bd_s, he, bd_s]
        · unfold tyS
          rw [if_pos rfl, if_pos ⟨hv2, by omega⟩]
      · rw [if_neg c6] at hrv
        obtain rfl : cnt = 60 := by omega
        have hc := cnt_60 (s := si s' 0 27 (nI pl)) (st := st) (by rw [gi_dif (by decide)]; exact v33) (by rw [gi_dif (by decide)]; exact v28)
        refine bad 3 (si (si (si s' 0 27 (nI pl)) 0 28 (nI (1 + 8 * st + 3))) 0 33 (nI 61)) (by omega) hrv ?_ (((fq _).trans (FX.si (by unfold uSm; omega))).trans (FX.si (by unfold uSm; omega))) (by rw [gi_dif (by decide), gi_same]) ⟨pl, hpl, by rw [gi_dif (by decide), gi_dif (by decide), gi_same]⟩
        rw [ev, hc, bd_s, ent_F (by rw [gi_dif (by decide), gi_same, nj_eqr (by omega) (by decide)]; omega), bd_s]
    · rw [if_neg c5] at k6 ev
      simp only at ev
      refine bad 1 (si (si (si s' 0 27 (nI pl)) 0 28 (nI (1 + 8 * st + 1))) 0 33 (gi (si (si s' 0 27 (nI pl)) 0 28 (nI (1 + 8 * st + 1))) 0 33 + 1)) (by omega) ?_ ?_ (((fq _).trans (FX.si (by unfold uSm; omega))).trans (FX.si (by unfold uSm; omega))) (by rw [gi_dif (by decide), gi_same]) ⟨pl, hpl, by rw [gi_dif (by decide), gi_dif (by decide), gi_same]⟩
      · unfold fX3_readValue
        rw [if_pos k4, bd_s, if_pos k4, k6, if_neg (show ¬ (0 : Int32) ≤ -1 by decide), bd_s, if_pos rfl]
        have : fX6_blame 1 z = fX6_blame (nI 1) z := rfl
        rw [this, blame0 z3 a3, bd_s, bd_s]
      · have nf : ¬ gi (si (si s' 0 27 (nI pl)) 0 28 (nI (1 + 8 * st + 1))) 0 28 = 0 := by rw [gi_same, nj_eqr (by omega) (by decide)]; omega
        rw [ev, cnt_F nf, bd_s, ent_F (by rw [gi_dif (by decide)]; exact nf), bd_s]
  · have k4 : gi z 1 4 ≠ -2 := by
      rcases a8 with ⟨_, e2, _⟩ | ⟨e1, e2, _⟩ | ⟨_, _, _, e4, _⟩ | ⟨e1, _, _, e4⟩
      · rw [e2]; decide
      · exact absurd ⟨e1, e2⟩ cd
      · rw [e4]; decide
      · have hbs := (tc.2.2 st e1).1
        rcases e4 with ⟨_, e5, _⟩ | ⟨_, e5, _⟩
        · rw [e5]; exact nj_nm (by omega) (by decide) (by decide)
        · rw [e5]; exact nj_nm (by omega) (by decide) (by decide)
    have hwt := wtL tz a3 a4 hsn a8 14 0 FUEL (by omega) (by rw [FUEL_eq]; omega)
    have hwt : fX3_wordOfTape z = some (if fwd B n st 14 0 = 14 then -1 else nI (fwd B n st 14 0)) := hwt
    have hvw := vwL (a := nI st) tv2 (gi_same _ _ _ _) (by rw [gi_dif (by decide)]; exact v35) (show st < 1000000 by omega) 14 0 FUEL (by omega) (by rw [FUEL_eq]; omega)
    have hvw : fX12_value_L38 (nI st) FUEL 0 (si s' 0 27 (nI st)) = some (nI (fwd B n st 14 0)) := hvw
    obtain ⟨-, r2, r3⟩ := fwd_r (B := B) (n := n) (st := st) 14 0
    obtain ⟨k, hk⟩ : ∃ k, fwd B n st 14 0 = k := ⟨_, rfl⟩
    rw [hk] at hwt hvw r2 r3
    have ev : fX12_value s' = (if nI k = 14 then (fX12_fails 0 (nI st) (si s' 0 27 (nI st))).bind (fun q26 => some q26) else (fX12_isCounted (nI st) (si s' 0 27 (nI st))).bind (fun q18 => (fX12_wordOf (nI k) q18).bind (fun q20 => ck (okT q20) (lt (si q18 0 27 ((gi q18 0 27) + (tlen q20))) (fun s22 => (fX12_entry 1 (nI k) s22).bind (fun q24 => some q24)))))) := by
      unfold fX12_value
      rw [hbl, bd_s, lt_v, gi_same, isDi_ev tv2 (gi_same _ _ _ _) (by omega), bd_s, if_neg cd, if_pos rfl, hvw, bd_s, gi_dif (by decide), v35]
    by_cases c14 : k = 14
    · rw [if_pos c14] at hwt
      have hf := fail0 (s := si s' 0 27 (nI st)) (c := 0) (p := st) ev28
      have hf : fX12_fails 0 (nI st) (si s' 0 27 (nI st)) = some (si (si s' 0 27 (nI st)) 0 28 (nI (1 + 8 * st + 0))) := hf
      refine bad 0 (si (si s' 0 27 (nI st)) 0 28 (nI (1 + 8 * st + 0))) (by omega) ?_ ?_ ((fq _).trans (FX.si (by unfold uSm; omega))) (gi_same _ _ _ _) ⟨st, by omega, by rw [gi_dif (by decide), gi_same]⟩
      · unfold fX3_readValue
        rw [if_neg k4, hwt, bd_s, bd_s, if_neg k4, bd_s, if_neg nft, if_neg (show ¬ (0 : Int32) ≤ -1 by decide)]
        have : fX6_blame 0 z = fX6_blame (nI 0) z := rfl
        rw [this, blame0 z3 a3, bd_s, bd_s]
      · rw [ev, if_pos (show nI k = 14 by rw [c14]; rfl), hf, bd_s]
    · rw [if_neg c14] at hwt
      have hwd := r3 (by omega)
      obtain ⟨w1, w2⟩ := rwd_tx k (by omega)
      obtain ⟨t1, t2, t3, t4⟩ := tx_len (rwd k) w2
      have hle : le B n st - st = (txB (7 + k)).length := by
        unfold wdb at hwd
        simp at hwd
        exact hwd.1
      have hge : st ≤ le B n st := ru_ge
      rw [w1] at t1 t4
      have stn : st < n := by
        by_cases c : st < n
        · exact c
        · rw [le_no (by omega)] at hle; omega
      have kpl : pl = le B n st := by
        rcases a8 with ⟨e1, _⟩ | ⟨e1, e2, _⟩ | ⟨_, _, _, _, e5⟩ | ⟨_, _, e3, _⟩
        · omega
        · exact absurd ⟨e1, e2⟩ cd
        · exact e5
        · rw [le_no (by rw [e3]; simp)] at hle; omega
      have hadd : nI st + nI (txB (7 + k)).length = nI pl := by rw [nj_add]; congr 1; omega
      have hrv := rv_ok (v := 1) (k := k) (L := Lc) (Or.inr ⟨rfl, k4, hwt⟩) (by omega) z8 b1 z2 (by omega)
      rw [if_neg (show ¬ nI k = 14 by rw [nj_eqr (by omega) (by decide)]; exact c14)] at ev
      by_cases c6 : cnt < 60
      · rw [if_pos c6] at hrv
        refine good 1 k c6 hrv ?_ rfl (by omega) ?_ (by omega)
        · have he := ent_ok (R := R) (s := si (si s' 0 27 (nI pl)) 0 33 (nI (cnt + 1))) (v := 1) (w := k) (L := Lc) (by rw [gi_dif (by decide), gi_dif (by decide)]; exact v28) (by rw [gi_dif (by decide), gi_dif (by decide)]; exact v29) (by rw [gi_dif (by decide), gi_dif (by decide)]; exact v31) b2 (by omega)
          have he : fX12_entry 1 (nI k) (si (si s' 0 27 (nI pl)) 0 33 (nI (cnt + 1))) = _ := he
          rw [ev, cnt_ok (c := cnt) (by rw [gi_dif (by decide)]; exact v33) c6, bd_s, nameV _ k (by omega), bd_s, ck_t t3, lt_v, t4, gi_dif (by decide), gi_same, hadd, si_cm (a := 0) (j := 33) (b := 0) (k := 27) _ (by omega), si_si, he, bd_s]
        · unfold tyS
          rw [if_neg (show ¬ (1, k).1 = 0 from by simp), if_pos rfl, if_pos ⟨by simp; omega, by omega⟩]
      · rw [if_neg c6] at hrv
        obtain rfl : cnt = 60 := by omega
        have hc := cnt_60 (s := si s' 0 27 (nI st)) (st := st) (by rw [gi_dif (by decide)]; exact v33) ev28
        refine bad 3 (si (si (si (si s' 0 27 (nI st)) 0 28 (nI (1 + 8 * st + 3))) 0 33 (nI 61)) 0 27 (nI pl)) (by omega) hrv ?_ ((((fq _).trans (FX.si (by unfold uSm; omega))).trans (FX.si (by unfold uSm; omega))).trans (FX.si (by unfold uSm; omega))) (by rw [gi_dif (by decide), gi_dif (by decide), gi_same]) ⟨pl, by omega, by rw [gi_same]⟩
        rw [ev, hc, bd_s, nameV _ k (by omega), bd_s, ck_t t3, lt_v, t4, gi_dif (by decide), gi_dif (by decide), gi_same, hadd, ent_F (by rw [gi_dif (by decide), gi_dif (by decide), gi_same, nj_eqr (by omega) (by decide)]; omega), bd_s]
end RW
