set_option maxRecDepth 100000 in
theorem lnX3_76 : Cond.classLink RX3 76 (cR 2) ∈ TB ∧ Cond.instantiable (cR 2) (nF 2) ∈ TB ∧ Cond.initialized (cR 2) ∈ TB := ⟨(tb_at 827 (by decide +kernel) rfl), (tb_at 828 (by decide +kernel) rfl), (tb_at 121 (by decide +kernel) rfl)⟩
set_option maxRecDepth 100000 in
theorem stX3_84 : siteI RX3 84 mdX2_init 4 := ⟨⟨(tb_at 843 (by decide +kernel) rfl), (tb_at 845 (by decide +kernel) rfl), (tb_at 121 (by decide +kernel) rfl), by decide, by decide, by decide +kernel⟩, rfl, rfl, (tb_at 844 (by decide +kernel) rfl)⟩
/-! a heap with the things that stay, as a world of the class -/
def uT (h : PH) : PH := (hN h - 48, hS h, hI h, hL h, hR h)
def uS (h : PH) (m : Nat → Option Nat) : ST := (hI h, hL h, m)
/-- what stays, stays -/
def stayH (h : PH) (m : Nat → Option Nat) : Prop := 48 ≤ hN h ∧ (∀ a, a < 48 → hS h a = cS a) ∧ (∀ k, hR h 30 k = cR30 m k) ∧ ∀ a k, a < 48 → a ≠ 16 → a ≠ 29 → a ≠ 30 → hR h a k = cRs a k
theorem cW_raw {h : PH} {m : Nat → Option Nat} (e : stayH h m) : h = cW (uT h) (uS h m) := by
  obtain ⟨e1, e2, e3, e4⟩ := e
  have a1 : h.1 = 48 + (hN h - 48) := by show hN h = _; omega
  have a2 : h.2.1 = cSh (uT h) := by
    funext a
    unfold cSh
    by_cases ha : a < 48
    · rw [if_pos ha]; exact e2 a ha
    · rw [if_neg ha]; rfl
  have a3 : h.2.2.2.2 = cRr (uT h) m := by
    funext a k
    unfold cRr
    split
    · rfl
    · rfl
    · exact e3 k
    · rename_i h16 h29 h30
      by_cases ha : a < 48
      · rw [if_pos ha]; exact e4 a k ha h16 h29 h30
      · rw [if_neg ha]; rfl
  show (h.1, h.2.1, h.2.2.1, h.2.2.2.1, h.2.2.2.2) = (48 + (hN h - 48), cSh (uT h), h.2.2.1, h.2.2.2.1, cRr (uT h) m)
  rw [← a2, ← a3, ← a1]
theorem stay_cW (t : PH) (s : ST) : stayH (cW t s) s.2.2 := by
  refine ⟨Nat.le_add_right _ _, fun a ha => if_pos ha, fun k => rfl, fun a k h1 h2 h3 h4 => ?_⟩
  show cRr t s.2.2 a k = cRs a k
  unfold cRr
  split
  · exact absurd rfl h2
  · exact absurd rfl h3
  · exact absurd rfl h4
  · rw [if_pos h1]
theorem stay_new {h : PH} {m : Nat → Option Nat} {z : PSh} (e : stayH h m) : stayH (hNew h z) m := by
  obtain ⟨e1, e2, e3, e4⟩ := e
  refine ⟨Nat.le_succ_of_le e1, fun a ha => ?_, fun k => ?_, fun a k h1 h2 h3 h4 => ?_⟩
  · rw [hS_newn h z (by omega)]; exact e2 a ha
  · rw [hR_newn h z (by omega)]; exact e3 k
  · rw [hR_newn h z (by omega)]; exact e4 a k h1 h2 h3 h4
theorem stay_sA {h : PH} {m : Nat → Option Nat} {i : Nat} {f : Nat → Int32} (e : stayH h m) : stayH (sA h i f) m := e
theorem stay_sI {h : PH} {m : Nat → Option Nat} {i j : Nat} {x : Int32} (e : stayH h m) : stayH (sI h i j x) m := e
theorem stay_sR {h : PH} {m : Nat → Option Nat} {i j : Nat} {x : Option Nat} (hi : 48 ≤ i ∨ i = 16 ∨ i = 29) (e : stayH h m) : stayH (sR h i j x) m := by
  obtain ⟨e1, e2, e3, e4⟩ := e
  refine ⟨e1, e2, fun k => ?_, fun a k h1 h2 h3 h4 => ?_⟩
  · rw [hR_sRn h j x (by omega)]; exact e3 k
  · rw [hR_sRn h j x (by omega)]; exact e4 a k h1 h2 h3 h4
theorem stay_copy {h : PH} {m : Nat → Option Nat} {a na N : Nat} (e : stayH h m) : stayH (hCopy h a na N) m := stay_sA (stay_new e)
theorem Ob.copy {h : PH} {b ci a na N : Nat} (o : Ob h b ci) : Ob (hCopy h a na N) b ci := Ob.new o
theorem Ar.copy {h : PH} {b t n a na N : Nat} (o : Ar h b t n) : Ar (hCopy h a na N) b t n := Ar.new o
theorem Hd.copy {h : PH} {b k v a na N : Nat} (o : Hd h b k v) : Hd (hCopy h a na N) b k v := Hd.new (z := .inr (0, N)) o
theorem Ar.copied {h : PH} {a na N q : Nat} (e : hN h = q) : Ar (hCopy h a na N) q 0 N := Ar.madeX e
theorem hn_copy {h : PH} {a na N n : Nat} (e : hN h = n) : hN (hCopy h a na N) = n + 1 := hn_new (z := .inr (0, N)) e
theorem hI_copy {h : PH} {a na N b : Nat} (hb : b < hN h) : hI (hCopy h a na N) b = hI h b := by
  unfold hCopy
  rw [hI_sAn _ _ (Nat.ne_of_lt hb), hI_newn h _ (Nat.ne_of_lt hb)]
/-! RuleReader.ruleThatWasRead -/
def mdRtw : MD := (yX3_ruleThatWasRead, cX3_ruleThatWasRead, 1, some (.object "LateAlways$Rule"), { frames := 2, cells := 4, slots := 1204, locals := 60 })
def rtwH (t : PH) (s : ST) : PH := i_Rule (48 + t.1) (gi s 11 5) (48 + t.1 + 1) (48 + t.1 + 2) (48 + t.1 + 3) (hCopy (hCopy (hCopy (hNew (cW t s) (.inl 2)) 12 400 (ix (gi s 11 2))) 13 13 (ix (gi s 11 5) + 1)) 14 12 (ix (gi s 11 5)))
theorem kRtw {g : GX} {t : PH} {s : ST} (hL : inb (gi s 11 2) 401 = true) (hc : inb (gi s 11 5) 13 = true) (hb : t.1 + 60 < 1000000) : Cn g mdRtw [.ref 11] (cW t s) (some (.ref (48 + t.1))) (rtwH t s) := by
  obtain ⟨L, hL1, eL⟩ := vp_in_of (inb_in hL) (by decide)
  obtain ⟨c, hc1, ec⟩ := vp_in_of (inb_in hc) (by decide)
  unfold rtwH ix
  rw [eL, ec, nI_clamp (by omega), nI_clamp (by omega)]
  have hn : hN (cW t s) = 48 + t.1 := rfl
  have oT : Ob (cW t s) 11 3 := ⟨lt48 (by decide), rfl⟩
  have a12 : Ar (cW t s) 12 0 400 := ⟨lt48 (by decide), rfl⟩
  have a13 : Ar (cW t s) 13 0 13 := ⟨lt48 (by decide), rfl⟩
  have a14 : Ar (cW t s) 14 0 12 := ⟨lt48 (by decide), rfl⟩
  have d1 : Hd (cW t s) 11 1 12 := ⟨lt48 (by decide), rfl⟩
  have d3 : Hd (cW t s) 11 3 13 := ⟨lt48 (by decide), rfl⟩
  have d4 : Hd (cW t s) 11 4 14 := ⟨lt48 (by decide), rfl⟩
  have v2 : hI (cW t s) 11 2 = nI L := eL
  have v5 : hI (cW t s) 11 5 = nI c := ec
  generalize eq : 48 + t.1 = q at hn ⊢
  have hq : q + 12 < 1000000 := by omega
  generalize cW t s = h at hn oT a12 a13 a14 d1 d3 d4 v2 v5 ⊢
  refine Cn.of (by decide) (Nat.le_of_ble_eq_true rfl) ?_
  generalize eF : i_Rule q (nI c) (q + 1) (q + 2) (q + 3) (hCopy (hCopy (hCopy (hNew h (.inl 2)) 12 400 L) 13 13 (c + 1)) 14 12 c) = hF
  show Rn g mdRtw 0 [some (.ref 11)] [] h 0 0 (some (.ref q)) hF
  refine o_newX (pc := 0) (ci := 2) (q := q) hn (by decide) lnX3_76 dX3_ruleThatWasRead_0 (by omega) (by decide) (by decide) (okLs_ref (Or.inl oT.1) okLs_nil) okSt_nil ?_
  have oQ : Ob (hNew h (.inl 2)) q 2 := Ob.madeX hn
  replace hn := hn_new (z := .inl 2) hn
  replace v2 : hI (hNew h (.inl 2)) 11 2 = nI L := by rw [hI_newn h _ (Nat.ne_of_lt oT.1)]; exact v2
  replace v5 : hI (hNew h (.inl 2)) 11 5 = nI c := by rw [hI_newn h _ (Nat.ne_of_lt oT.1)]; exact v5
  replace oT := Ob.new (z := .inl 2) oT
  replace a12 := Ar.new (z := .inl 2) a12
  replace a13 := Ar.new (z := .inl 2) a13
  replace a14 := Ar.new (z := .inl 2) a14
  replace d1 := Hd.new (z := .inl 2) d1
  replace d3 := Hd.new (z := .inl 2) d3
  replace d4 := Hd.new (z := .inl 2) d4
  generalize hNew h (.inl 2) = h1 at hn oT oQ a12 a13 a14 d1 d3 d4 v2 v5 eF ⊢
  show Rn g mdRtw 3 [some (.ref 11)] [.ref q] h1 1 4 (some (.ref q)) hF
  refine o_dup (pc := 3) dX3_ruleThatWasRead_3 rfl ?_
  refine o_aload_n (pc := 4) dX3_ruleThatWasRead_4 rfl ?_
  refine o_getI (pc := 5) (ci := 3) (k := 5) (by decide) (by decide) rfl lkX3_25 dX3_ruleThatWasRead_5 oT.1 oT.2 ?_
  rw [v5]
  refine o_aload_n (pc := 8) dX3_ruleThatWasRead_8 rfl ?_
  refine o_getR (pc := 9) (ci := 3) (k := 1) (by decide) (by decide) rfl lkX3_9 dX3_ruleThatWasRead_9 oT.1 oT.2 d1.2 ?_
  refine o_aload_n (pc := 12) dX3_ruleThatWasRead_12 rfl ?_
  refine o_getI (pc := 13) (ci := 3) (k := 2) (by decide) (by decide) rfl lkX3_15 dX3_ruleThatWasRead_13 oT.1 oT.2 ?_
  rw [v2]
  refine o_callS (pc := 16) (md2 := mdCopy) (vs := [.ref 12, .int (nI L)]) dX3_ruleThatWasRead_16 (kJ7_copyOf a12.1 a12.2 (by omega) (by omega) (by omega)) stX3_78 ⟨by decide, by decide, by decide, by decide⟩ (Nat.le_of_ble_eq_true rfl) (Or.inr ⟨okLs_ref (Or.inl oT.1) okLs_nil, okSt_int (okSt_ref (Or.inl oQ.1) (okSt_ref (Or.inl oQ.1) okSt_nil))⟩) ?_
  rw [hn]
  have b1 : Ar (hCopy h1 12 400 L) (q + 1) 0 L := Ar.copied hn
  replace v5 : hI (hCopy h1 12 400 L) 11 5 = nI c := by rw [hI_copy oT.1]; exact v5
  replace hn := hn_copy (a := 12) (na := 400) (N := L) hn
  replace oT := Ob.copy (a := 12) (na := 400) (N := L) oT
  replace oQ := Ob.copy (a := 12) (na := 400) (N := L) oQ
  replace a13 := Ar.copy (a := 12) (na := 400) (N := L) a13
  replace a14 := Ar.copy (a := 12) (na := 400) (N := L) a14
  replace d3 := Hd.copy (a := 12) (na := 400) (N := L) d3
  replace d4 := Hd.copy (a := 12) (na := 400) (N := L) d4
  generalize hCopy h1 12 400 L = hh2 at hn oT oQ b1 a13 a14 d3 d4 v5 eF ⊢
  show Rn g mdRtw 19 [some (.ref 11)] [.ref (q + 1), .int (nI c), .ref q, .ref q] hh2 2 404 (some (.ref q)) hF
  refine o_aload_n (pc := 19) dX3_ruleThatWasRead_19 rfl ?_
  refine o_getR (pc := 20) (ci := 3) (k := 3) (by decide) (by decide) rfl lkX3_19 dX3_ruleThatWasRead_20 oT.1 oT.2 d3.2 ?_
  refine o_aload_n (pc := 23) dX3_ruleThatWasRead_23 rfl ?_
  refine o_getI (pc := 24) (ci := 3) (k := 5) (by decide) (by decide) rfl lkX3_25 dX3_ruleThatWasRead_24 oT.1 oT.2 ?_
  rw [v5]
  refine o_iconst (pc := 27) (v := 1) dX3_ruleThatWasRead_27 rfl ?_
  refine o_iadd (pc := 28) dX3_ruleThatWasRead_28 ?_
  rw [nI_1]
  refine o_callS (pc := 29) (md2 := mdCopy) (vs := [.ref 13, .int (nI (c + 1))]) dX3_ruleThatWasRead_29 (kJ7_copyOf a13.1 a13.2 (by omega) (by omega) (by omega)) stX3_78 ⟨by decide, by decide, by decide, by decide⟩ (Nat.le_of_ble_eq_true rfl) (Or.inr ⟨okLs_ref (Or.inl oT.1) okLs_nil, okSt_ref (Or.inl b1.1) (okSt_int (okSt_ref (Or.inl oQ.1) (okSt_ref (Or.inl oQ.1) okSt_nil)))⟩) ?_
  rw [hn]
  have b2 : Ar (hCopy hh2 13 13 (c + 1)) (q + 2) 0 (c + 1) := Ar.copied hn
  replace v5 : hI (hCopy hh2 13 13 (c + 1)) 11 5 = nI c := by rw [hI_copy oT.1]; exact v5
  replace hn := hn_copy (a := 13) (na := 13) (N := c + 1) hn
  replace oT := Ob.copy (a := 13) (na := 13) (N := c + 1) oT
  replace oQ := Ob.copy (a := 13) (na := 13) (N := c + 1) oQ
  replace b1 := Ar.copy (a := 13) (na := 13) (N := c + 1) b1
  replace a14 := Ar.copy (a := 13) (na := 13) (N := c + 1) a14
  replace d4 := Hd.copy (a := 13) (na := 13) (N := c + 1) d4
  generalize hCopy hh2 13 13 (c + 1) = h3 at hn oT oQ b1 b2 a14 d4 v5 eF ⊢
  show Rn g mdRtw 32 [some (.ref 11)] [.ref (q + 2), .ref (q + 1), .int (nI c), .ref q, .ref q] h3 3 804 (some (.ref q)) hF
  refine o_aload_n (pc := 32) dX3_ruleThatWasRead_32 rfl ?_
  refine o_getR (pc := 33) (ci := 3) (k := 4) (by decide) (by decide) rfl lkX3_22 dX3_ruleThatWasRead_33 oT.1 oT.2 d4.2 ?_
  refine o_aload_n (pc := 36) dX3_ruleThatWasRead_36 rfl ?_
  refine o_getI (pc := 37) (ci := 3) (k := 5) (by decide) (by decide) rfl lkX3_25 dX3_ruleThatWasRead_37 oT.1 oT.2 ?_
  rw [v5]
  refine o_callS (pc := 40) (md2 := mdCopy) (vs := [.ref 14, .int (nI c)]) dX3_ruleThatWasRead_40 (kJ7_copyOf a14.1 a14.2 (by omega) (by omega) (by omega)) stX3_78 ⟨by decide, by decide, by decide, by decide⟩ (Nat.le_of_ble_eq_true rfl) (Or.inr ⟨okLs_ref (Or.inl oT.1) okLs_nil, okSt_ref (Or.inl b2.1) (okSt_ref (Or.inl b1.1) (okSt_int (okSt_ref (Or.inl oQ.1) (okSt_ref (Or.inl oQ.1) okSt_nil))))⟩) ?_
  rw [hn]
  have b3 : Ar (hCopy h3 14 12 c) (q + 3) 0 c := Ar.copied hn
  replace hn := hn_copy (a := 14) (na := 12) (N := c) hn
  replace oT := Ob.copy (a := 14) (na := 12) (N := c) oT
  replace oQ := Ob.copy (a := 14) (na := 12) (N := c) oQ
  replace b1 := Ar.copy (a := 14) (na := 12) (N := c) b1
  replace b2 := Ar.copy (a := 14) (na := 12) (N := c) b2
  generalize hCopy h3 14 12 c = h4 at hn oT oQ b1 b2 b3 eF ⊢
  show Rn g mdRtw 43 [some (.ref 11)] [.ref (q + 3), .ref (q + 2), .ref (q + 1), .int (nI c), .ref q, .ref q] h4 4 1204 (some (.ref q)) hF
  refine o_callI (pc := 43) (md2 := mdX2_init) (vs := [.int (nI c), .ref (q + 1), .ref (q + 2), .ref (q + 3)]) dX3_ruleThatWasRead_43 (kI_Rule oQ (Or.inl b1.1) (Or.inl b2.1) (Or.inl b3.1) (by omega)) stX3_84 ⟨by decide, by decide, by decide, by decide⟩ (Nat.le_of_ble_eq_true rfl) (Or.inl rfl) ?_
  show Rn g mdRtw 46 [some (.ref 11)] [.ref q] (i_Rule q (nI c) (q + 1) (q + 2) (q + 3) h4) 4 1204 (some (.ref q)) hF
  rw [eF]
  exact o_areturn (pc := 46) dX3_ruleThatWasRead_46 rfl (Or.inl ⟨_, rfl⟩) (Or.inr ⟨_, rfl⟩) (by decide) (by decide)
/-! LateAlways.rule -/
theorem stay_Rule {h : PH} {m : Nat → Option Nat} {a p1 p2 p3 : Nat} {p0 : Int32} (ha : 48 ≤ a) (e : stayH h m) : stayH (i_Rule a p0 p1 p2 p3 h) m := by
  unfold i_Rule
  exact stay_sR (Or.inl ha) (stay_sR (Or.inl ha) (stay_sR (Or.inl ha) (stay_sI e)))
theorem stay_rtw (t : PH) (s : ST) : stayH (rtwH t s) s.2.2 := by
  unfold rtwH
  exact stay_Rule (Nat.le_add_right _ _) (stay_copy (stay_copy (stay_copy (stay_new (stay_cW t s)))))
theorem ob_rtw {t : PH} {s : ST} {b ci : Nat} (o : Ob (cW t s) b ci) : Ob (rtwH t s) b ci := by
  unfold rtwH
  exact ob_Rule (Ob.copy (Ob.copy (Ob.copy (Ob.new o))))
theorem ar_rtw {t : PH} {s : ST} {b y n : Nat} (o : Ar (cW t s) b y n) : Ar (rtwH t s) b y n := by
  unfold rtwH
  exact ar_Rule (Ar.copy (Ar.copy (Ar.copy (Ar.new o))))
theorem hd_rtw {t : PH} {s : ST} {b k v : Nat} (hb : b < 48) (o : Hd (cW t s) b k v) : Hd (rtwH t s) b k v := by
  unfold rtwH
  exact hd_Rule (by omega) (Hd.copy (Hd.copy (Hd.copy (Hd.new o))))
theorem obq_rtw {t : PH} {s : ST} : Ob (rtwH t s) (48 + t.1) 2 := by
  unfold rtwH
  exact ob_Rule (Ob.copy (Ob.copy (Ob.copy Ob.made)))
theorem hI_Rule {h : PH} {a p1 p2 p3 b : Nat} {p0 : Int32} (hb : b ≠ a) : hI (i_Rule a p0 p1 p2 p3 h) b = hI h b := by
  unfold i_Rule
  rw [hI_sR, hI_sR, hI_sR]
  exact hI_sAn h _ hb
theorem hI_rtw {t : PH} {s : ST} {b : Nat} (hb : b < 48) : hI (rtwH t s) b = s.1 b := by
  unfold rtwH
  have h1 : b < hN (hNew (cW t s) (.inl 2)) := Nat.lt_succ_of_lt (lt48 hb)
  rw [hI_Rule (by omega), hI_copy (Nat.lt_succ_of_lt (Nat.lt_succ_of_lt h1)), hI_copy (Nat.lt_succ_of_lt h1), hI_copy h1, hI_newn _ _ (Nat.ne_of_lt (lt48 (t := t) hb))]
  rfl
def mdRule : MD := (yX11_rule, cX11_rule, 2, some .int, { frames := 10, cells := 4, slots := 1204, locals := 250 })
/-- the heap behind a rule that was read -/
def ruH (t : PH) (s : ST) : PH := sI (sR (rtwH t s) 16 (ix (gi s 0 4)) (some (48 + t.1))) 0 4 (gi s 0 4 + 1)
theorem stay_ru (t : PH) (s : ST) : stayH (ruH t s) s.2.2 := stay_sI (stay_sR (Or.inr (Or.inl rfl)) (stay_rtw t s))
