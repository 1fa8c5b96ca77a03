def i_Rule (a : Nat) (p0 : Int32) (p1 : Nat) (p2 : Nat) (p3 : Nat) (h : PH) : PH := sR (sR (sR (sI h a 0 p0) a 1 (some (p1))) a 2 (some (p2))) a 3 (some (p3))
theorem ob_Rule {h : PH} {a : Nat} {p0 : Int32} {p1 : Nat} {p2 : Nat} {p3 : Nat} {b ci : Nat} (o : Ob h b ci) : Ob (i_Rule a p0 p1 p2 p3 h) b ci := by
  unfold i_Rule
  exact (Ob.sR (Ob.sR (Ob.sR (Ob.sI o))))
theorem ar_Rule {h : PH} {a : Nat} {p0 : Int32} {p1 : Nat} {p2 : Nat} {p3 : Nat} {b t n : Nat} (o : Ar h b t n) : Ar (i_Rule a p0 p1 p2 p3 h) b t n := by
  unfold i_Rule
  exact (Ar.sR (Ar.sR (Ar.sR (Ar.sI o))))
theorem hn_Rule {h : PH} {a : Nat} {p0 : Int32} {p1 : Nat} {p2 : Nat} {p3 : Nat} {n : Nat} (e : hN h = n) : hN (i_Rule a p0 p1 p2 p3 h) = n + 0 := by
  unfold i_Rule
  exact (hn_sR (hn_sR (hn_sR (hn_sI e))))
theorem lt_Rule {h : PH} {a : Nat} {p0 : Int32} {p1 : Nat} {p2 : Nat} {p3 : Nat} {b : Nat} (o : b < hN h) : b < hN (i_Rule a p0 p1 p2 p3 h) := by
  rw [hn_Rule rfl]
  omega
theorem hd_Rule {h : PH} {a : Nat} {p0 : Int32} {p1 : Nat} {p2 : Nat} {p3 : Nat} {b k v : Nat} (hne : b ≠ a) (e : Hd h b k v) : Hd (i_Rule a p0 p1 p2 p3 h) b k v := by
  unfold i_Rule
  exact (Hd.sR (Or.inl hne) (Hd.sR (Or.inl hne) (Hd.sR (Or.inl hne) (Hd.sI e))))
theorem okA_Rule {h : PH} {a : Nat} {p0 : Int32} {p1 : Nat} {p2 : Nat} {p3 : Nat} {b : Nat} (o : okA (hN h) b) : okA (hN (i_Rule a p0 p1 p2 p3 h)) b := by
  rw [hn_Rule rfl]
  exact okA_up o (Nat.le_add_right _ _)
set_option maxRecDepth 20000 in
theorem kI_Rule {g : GX} {h : PH} {a : Nat} {p0 : Int32} {p1 : Nat} {p2 : Nat} {p3 : Nat} (oa : Ob h a 2) (l1 : okA (hN h) p1) (l2 : okA (hN h) p2) (l3 : okA (hN h) p3) (hb : hN h + 0 < 1000000) : Cn g mdX2_init [.ref a, .int p0, .ref p1, .ref p2, .ref p3] h none (i_Rule a p0 p1 p2 p3 h) := by
  refine Cn.of (by decide) (Nat.le_of_ble_eq_true rfl) ?_
  show Rn g mdX2_init 0 [some (.ref a), some (.int p0), some (.ref p1), some (.ref p2), some (.ref p3)] [] h 0 0 none (i_Rule a p0 p1 p2 p3 h)
  have hn : hN h = hN h := rfl
  refine o_aload_n (pc := 0) dX2_init_0 rfl ?_
  refine o_objInit (pc := 1) loX2_3 dX2_init_1 (by decide) (Nat.le_of_ble_eq_true rfl) ?_
  show Rn g mdX2_init 4 [some (.ref a), some (.int p0), some (.ref p1), some (.ref p2), some (.ref p3)] [] h 0 0 none (i_Rule a p0 p1 p2 p3 h)
  refine o_aload_n (pc := 4) dX2_init_4 rfl ?_
  refine o_iload_n (pc := 5) dX2_init_5 rfl ?_
  refine o_putIF (pc := 6) (ci := 2) (k := 0) (by decide) (by decide) rfl lgX2_9 rfl ⟨rfl, rfl⟩ dX2_init_6 oa.1 oa.2 ⟨rfl, rfl⟩ ?_
  generalize e1 : sI h a 0 p0 = H1
  replace oa := Ob.sI (i := a) (j := 0) (x := p0) oa
  rw [e1] at oa
  replace hn := hn_sI (i := a) (j := 0) (x := p0) hn
  rw [e1] at hn
  replace l1 := okA_sI (i := a) (j := 0) (x := p0) l1
  rw [e1] at l1
  replace l2 := okA_sI (i := a) (j := 0) (x := p0) l2
  rw [e1] at l2
  replace l3 := okA_sI (i := a) (j := 0) (x := p0) l3
  rw [e1] at l3
  show Rn g mdX2_init 9 [some (.ref a), some (.int p0), some (.ref p1), some (.ref p2), some (.ref p3)] [] H1 0 0 none (i_Rule a p0 p1 p2 p3 h)
  refine o_aload_n (pc := 9) dX2_init_9 rfl ?_
  refine o_aload_n (pc := 10) dX2_init_10 rfl ?_
  refine o_putRF (pc := 11) (ci := 2) (k := 1) (by decide) (by decide) rfl lgX2_15 rfl ⟨rfl, rfl⟩ dX2_init_11 oa.1 oa.2 l1 ?_
  generalize e2 : sR H1 a 1 (some (p1)) = H2
  replace oa := Ob.sR (i := a) (j := 1) (x := some (p1)) oa
  rw [e2] at oa
  replace hn := hn_sR (i := a) (j := 1) (x := some (p1)) hn
  rw [e2] at hn
  replace l1 := okA_sR (i := a) (j := 1) (x := some (p1)) l1
  rw [e2] at l1
  replace l2 := okA_sR (i := a) (j := 1) (x := some (p1)) l2
  rw [e2] at l2
  replace l3 := okA_sR (i := a) (j := 1) (x := some (p1)) l3
  rw [e2] at l3
  show Rn g mdX2_init 14 [some (.ref a), some (.int p0), some (.ref p1), some (.ref p2), some (.ref p3)] [] H2 0 0 none (i_Rule a p0 p1 p2 p3 h)
  refine o_aload_n (pc := 14) dX2_init_14 rfl ?_
  refine o_aload_n (pc := 15) dX2_init_15 rfl ?_
  refine o_putRF (pc := 16) (ci := 2) (k := 2) (by decide) (by decide) rfl lgX2_19 rfl ⟨rfl, rfl⟩ dX2_init_16 oa.1 oa.2 l2 ?_
  generalize e3 : sR H2 a 2 (some (p2)) = H3
  replace oa := Ob.sR (i := a) (j := 2) (x := some (p2)) oa
  rw [e3] at oa
  replace hn := hn_sR (i := a) (j := 2) (x := some (p2)) hn
  rw [e3] at hn
  replace l1 := okA_sR (i := a) (j := 2) (x := some (p2)) l1
  rw [e3] at l1
  replace l2 := okA_sR (i := a) (j := 2) (x := some (p2)) l2
  rw [e3] at l2
  replace l3 := okA_sR (i := a) (j := 2) (x := some (p2)) l3
  rw [e3] at l3
  show Rn g mdX2_init 19 [some (.ref a), some (.int p0), some (.ref p1), some (.ref p2), some (.ref p3)] [] H3 0 0 none (i_Rule a p0 p1 p2 p3 h)
  refine o_aload_n (pc := 19) dX2_init_19 rfl ?_
  refine o_aload (pc := 20) dX2_init_20 rfl ?_
  refine o_putRF (pc := 22) (ci := 2) (k := 3) (by decide) (by decide) rfl lgX2_22 rfl ⟨rfl, rfl⟩ dX2_init_22 oa.1 oa.2 l3 ?_
  generalize e4 : sR H3 a 3 (some (p3)) = H4
  replace oa := Ob.sR (i := a) (j := 3) (x := some (p3)) oa
  rw [e4] at oa
  replace hn := hn_sR (i := a) (j := 3) (x := some (p3)) hn
  rw [e4] at hn
  replace l1 := okA_sR (i := a) (j := 3) (x := some (p3)) l1
  rw [e4] at l1
  replace l2 := okA_sR (i := a) (j := 3) (x := some (p3)) l2
  rw [e4] at l2
  replace l3 := okA_sR (i := a) (j := 3) (x := some (p3)) l3
  rw [e4] at l3
  show Rn g mdX2_init 25 [some (.ref a), some (.int p0), some (.ref p1), some (.ref p2), some (.ref p3)] [] H4 0 0 none (i_Rule a p0 p1 p2 p3 h)
  subst e1
  subst e2
  subst e3
  subst e4
  exact o_return (pc := 25) dX2_init_25 rfl (by decide) (by decide)
def i_Tape (a : Nat) (h : PH) : PH := sI (sI (sI (sI (sI (sI (sR (hNew h (.inr (0, 400))) a 0 (some (hN h))) a 1 0) a 2 0) a 3 0) a 4 (-1)) a 5 0) a 6 0
theorem ob_Tape {h : PH} {a : Nat} {b ci : Nat} (o : Ob h b ci) : Ob (i_Tape a h) b ci := by
  unfold i_Tape
  exact (Ob.sI (Ob.sI (Ob.sI (Ob.sI (Ob.sI (Ob.sI (Ob.sR (Ob.new o))))))))
theorem ar_Tape {h : PH} {a : Nat} {b t n : Nat} (o : Ar h b t n) : Ar (i_Tape a h) b t n := by
  unfold i_Tape
  exact (Ar.sI (Ar.sI (Ar.sI (Ar.sI (Ar.sI (Ar.sI (Ar.sR (Ar.new o))))))))
theorem hn_Tape {h : PH} {a : Nat} {n : Nat} (e : hN h = n) : hN (i_Tape a h) = n + 1 := by
  unfold i_Tape
  exact (hn_sI (hn_sI (hn_sI (hn_sI (hn_sI (hn_sI (hn_sR (hn_new e))))))))
theorem lt_Tape {h : PH} {a : Nat} {b : Nat} (o : b < hN h) : b < hN (i_Tape a h) := by
  rw [hn_Tape rfl]
  omega
theorem hd_Tape {h : PH} {a : Nat} {b k v : Nat} (hne : b ≠ a) (e : Hd h b k v) : Hd (i_Tape a h) b k v := by
  unfold i_Tape
  exact (Hd.sI (Hd.sI (Hd.sI (Hd.sI (Hd.sI (Hd.sI (Hd.sR (Or.inl hne) (Hd.new e))))))))
theorem okA_Tape {h : PH} {a : Nat} {b : Nat} (o : okA (hN h) b) : okA (hN (i_Tape a h)) b := by
  rw [hn_Tape rfl]
  exact okA_up o (Nat.le_add_right _ _)
set_option maxRecDepth 20000 in
theorem kI_Tape {g : GX} {h : PH} {a : Nat} (oa : Ob h a 5) (hb : hN h + 1 < 1000000) : Cn g mdX6_init [.ref a] h none (i_Tape a h) := by
  refine Cn.of (by decide) (Nat.le_of_ble_eq_true rfl) ?_
  show Rn g mdX6_init 0 [some (.ref a)] [] h 0 0 none (i_Tape a h)
  have hn : hN h = hN h := rfl
  refine o_aload_n (pc := 0) dX6_init_0 rfl ?_
  refine o_objInit (pc := 1) loX6_3 dX6_init_1 (by decide) (Nat.le_of_ble_eq_true rfl) ?_
  show Rn g mdX6_init 4 [some (.ref a)] [] h 0 0 none (i_Tape a h)
  refine o_aload_n (pc := 4) dX6_init_4 rfl ?_
  refine o_sipush (pc := 5) (v := 400) dX6_init_5 rfl ?_
  refine o_newaX (pc := 8) (t := 0) (N := 400) (q := hN h) hn (by decide) rfl la0 dX6_init_8 (by decide) rfl (by decide) (by omega) (by decide) (by decide) (okLs_ref (Or.inl oa.1) okLs_nil) (okSt_ref (Or.inl oa.1) okSt_nil) ?_
  have o0 := Ar.madeX (h := h) (t := 0) (n := 400) hn
  generalize e1 : hNew h (.inr (0, 400)) = H1
  replace oa := Ob.new (z := .inr (0, 400)) oa
  rw [e1] at oa
  replace hn := hn_new (z := .inr (0, 400)) hn
  rw [e1] at hn
  rw [e1] at o0
  show Rn g mdX6_init 10 [some (.ref a)] [.ref (hN h), .ref a] H1 1 400 none (i_Tape a h)
  refine o_putRF (pc := 10) (ci := 5) (k := 0) (by decide) (by decide) rfl lgX6_9 rfl ⟨rfl, rfl⟩ dX6_init_10 oa.1 oa.2 (Or.inl o0.1) ?_
  generalize e2 : sR H1 a 0 (some (hN h)) = H2
  replace oa := Ob.sR (i := a) (j := 0) (x := some (hN h)) oa
  rw [e2] at oa
  replace o0 := Ar.sR (i := a) (j := 0) (x := some (hN h)) o0
  rw [e2] at o0
  replace hn := hn_sR (i := a) (j := 0) (x := some (hN h)) hn
  rw [e2] at hn
  show Rn g mdX6_init 13 [some (.ref a)] [] H2 1 400 none (i_Tape a h)
  refine o_aload_n (pc := 13) dX6_init_13 rfl ?_
  refine o_iconst (pc := 14) (v := 0) dX6_init_14 rfl ?_
  refine o_putI (pc := 15) (ci := 5) (k := 1) (by decide) (by decide) rfl (Or.inl lgX6_15) rfl dX6_init_15 oa.1 oa.2 ⟨rfl, rfl⟩ ?_
  generalize e3 : sI H2 a 1 0 = H3
  replace oa := Ob.sI (i := a) (j := 1) (x := 0) oa
  rw [e3] at oa
  replace o0 := Ar.sI (i := a) (j := 1) (x := 0) o0
  rw [e3] at o0
  replace hn := hn_sI (i := a) (j := 1) (x := 0) hn
  rw [e3] at hn
  show Rn g mdX6_init 18 [some (.ref a)] [] H3 1 400 none (i_Tape a h)
  refine o_aload_n (pc := 18) dX6_init_18 rfl ?_
  refine o_iconst (pc := 19) (v := 0) dX6_init_19 rfl ?_
  refine o_putI (pc := 20) (ci := 5) (k := 2) (by decide) (by decide) rfl (Or.inl lgX6_19) rfl dX6_init_20 oa.1 oa.2 ⟨rfl, rfl⟩ ?_
  generalize e4 : sI H3 a 2 0 = H4
  replace oa := Ob.sI (i := a) (j := 2) (x := 0) oa
  rw [e4] at oa
  replace o0 := Ar.sI (i := a) (j := 2) (x := 0) o0
  rw [e4] at o0
  replace hn := hn_sI (i := a) (j := 2) (x := 0) hn
  rw [e4] at hn
  show Rn g mdX6_init 23 [some (.ref a)] [] H4 1 400 none (i_Tape a h)
  refine o_aload_n (pc := 23) dX6_init_23 rfl ?_
  refine o_iconst (pc := 24) (v := 0) dX6_init_24 rfl ?_
  refine o_putI (pc := 25) (ci := 5) (k := 3) (by decide) (by decide) rfl (Or.inl lgX6_22) rfl dX6_init_25 oa.1 oa.2 ⟨rfl, rfl⟩ ?_
  generalize e5 : sI H4 a 3 0 = H5
  replace oa := Ob.sI (i := a) (j := 3) (x := 0) oa
  rw [e5] at oa
  replace o0 := Ar.sI (i := a) (j := 3) (x := 0) o0
  rw [e5] at o0
  replace hn := hn_sI (i := a) (j := 3) (x := 0) hn
  rw [e5] at hn
  show Rn g mdX6_init 28 [some (.ref a)] [] H5 1 400 none (i_Tape a h)
  refine o_aload_n (pc := 28) dX6_init_28 rfl ?_
  refine o_iconst (pc := 29) (v := (-1)) dX6_init_29 rfl ?_
  refine o_putI (pc := 30) (ci := 5) (k := 4) (by decide) (by decide) rfl (Or.inl lgX6_25) rfl dX6_init_30 oa.1 oa.2 ⟨rfl, rfl⟩ ?_
  generalize e6 : sI H5 a 4 (-1) = H6
  replace oa := Ob.sI (i := a) (j := 4) (x := (-1)) oa
  rw [e6] at oa
  replace o0 := Ar.sI (i := a) (j := 4) (x := (-1)) o0
  rw [e6] at o0
  replace hn := hn_sI (i := a) (j := 4) (x := (-1)) hn
  rw [e6] at hn
  show Rn g mdX6_init 33 [some (.ref a)] [] H6 1 400 none (i_Tape a h)
  refine o_aload_n (pc := 33) dX6_init_33 rfl ?_
  refine o_iconst (pc := 34) (v := 0) dX6_init_34 rfl ?_
  refine o_putI (pc := 35) (ci := 5) (k := 5) (by decide) (by decide) rfl (Or.inl lgX6_28) rfl dX6_init_35 oa.1 oa.2 ⟨rfl, rfl⟩ ?_
  generalize e7 : sI H6 a 5 0 = H7
  replace oa := Ob.sI (i := a) (j := 5) (x := 0) oa
  rw [e7] at oa
  replace o0 := Ar.sI (i := a) (j := 5) (x := 0) o0
  rw [e7] at o0
  replace hn := hn_sI (i := a) (j := 5) (x := 0) hn
  rw [e7] at hn
  show Rn g mdX6_init 38 [some (.ref a)] [] H7 1 400 none (i_Tape a h)
  refine o_aload_n (pc := 38) dX6_init_38 rfl ?_
  refine o_iconst (pc := 39) (v := 0) dX6_init_39 rfl ?_
  refine o_putI (pc := 40) (ci := 5) (k := 6) (by decide) (by decide) rfl (Or.inl lgX6_31) rfl dX6_init_40 oa.1 oa.2 ⟨rfl, rfl⟩ ?_
  generalize e8 : sI H7 a 6 0 = H8
  replace oa := Ob.sI (i := a) (j := 6) (x := 0) oa
  rw [e8] at oa
  replace o0 := Ar.sI (i := a) (j := 6) (x := 0) o0
  rw [e8] at o0
  replace hn := hn_sI (i := a) (j := 6) (x := 0) hn
  rw [e8] at hn
  show Rn g mdX6_init 43 [some (.ref a)] [] H8 1 400 none (i_Tape a h)
  subst e1
  subst e2
  subst e3
  subst e4
  subst e5
  subst e6
  subst e7
  subst e8
  exact o_return (pc := 43) dX6_init_43 rfl (by decide) (by decide)
def i_Town (a : Nat) (h : PH) : PH := sR (hNew (sR (hNew (sR (hNew (sR (hNew (sR (hNew (sR (hNew (sI (sI (sI (sI (sI (sI (sI (sI (sI h a 0 0) a 1 0) a 2 0) a 3 0) a 4 1) a 5 1) a 6 0) a 7 0) a 8 0) (.inr (0, 5))) a 9 (some (hN h))) (.inr (0, 5))) a 10 (some (hN h + 1))) (.inr (0, 8))) a 11 (some (hN h + 2))) (.inr (0, 8))) a 12 (some (hN h + 3))) (.inr (0, 8))) a 13 (some (hN h + 4))) (.inr (0, 8))) a 14 (some (hN h + 5))
theorem ob_Town {h : PH} {a : Nat} {b ci : Nat} (o : Ob h b ci) : Ob (i_Town a h) b ci := by
  unfold i_Town
  exact (Ob.sR (Ob.new (Ob.sR (Ob.new (Ob.sR (Ob.new (Ob.sR (Ob.new (Ob.sR (Ob.new (Ob.sR (Ob.new (Ob.sI (Ob.sI (Ob.sI (Ob.sI (Ob.sI (Ob.sI (Ob.sI (Ob.sI (Ob.sI o)))))))))))))))))))))
theorem ar_Town {h : PH} {a : Nat} {b t n : Nat} (o : Ar h b t n) : Ar (i_Town a h) b t n := by
  unfold i_Town
  exact (Ar.sR (Ar.new (Ar.sR (Ar.new (Ar.sR (Ar.new (Ar.sR (Ar.new (Ar.sR (Ar.new (Ar.sR (Ar.new (Ar.sI (Ar.sI (Ar.sI (Ar.sI (Ar.sI (Ar.sI (Ar.sI (Ar.sI (Ar.sI o)))))))))))))))))))))
theorem hn_Town {h : PH} {a : Nat} {n : Nat} (e : hN h = n) : hN (i_Town a h) = n + 6 := by
  unfold i_Town
  exact (hn_sR (hn_new (hn_sR (hn_new (hn_sR (hn_new (hn_sR (hn_new (hn_sR (hn_new (hn_sR (hn_new (hn_sI (hn_sI (hn_sI (hn_sI (hn_sI (hn_sI (hn_sI (hn_sI (hn_sI e)))))))))))))))))))))
theorem lt_Town {h : PH} {a : Nat} {b : Nat} (o : b < hN h) : b < hN (i_Town a h) := by
  rw [hn_Town rfl]
  omega
theorem hd_Town {h : PH} {a : Nat} {b k v : Nat} (hne : b ≠ a) (e : Hd h b k v) : Hd (i_Town a h) b k v := by
  unfold i_Town
  exact (Hd.sR (Or.inl hne) (Hd.new (Hd.sR (Or.inl hne) (Hd.new (Hd.sR (Or.inl hne) (Hd.new (Hd.sR (Or.inl hne) (Hd.new (Hd.sR (Or.inl hne) (Hd.new (Hd.sR (Or.inl hne) (Hd.new (Hd.sI (Hd.sI (Hd.sI (Hd.sI (Hd.sI (Hd.sI (Hd.sI (Hd.sI (Hd.sI e)))))))))))))))))))))
theorem okA_Town {h : PH} {a : Nat} {b : Nat} (o : okA (hN h) b) : okA (hN (i_Town a h)) b := by
  rw [hn_Town rfl]
  exact okA_up o (Nat.le_add_right _ _)
theorem Town_f0 {h : PH} {a n : Nat} (hn : hN h = n) (ha : a < n) : Ar (i_Town a h) (n) 0 5 := by
  subst hn
  have ha1 : a < hN h := ha
  unfold i_Town
  exact (Ar.sR (Ar.new (Ar.sR (Ar.new (Ar.sR (Ar.new (Ar.sR (Ar.new (Ar.sR (Ar.new (Ar.sR (Ar.madeX (hn_sI (hn_sI (hn_sI (hn_sI (hn_sI (hn_sI (hn_sI (hn_sI (hn_sI rfl)))))))))))))))))))))
theorem Town_f1 {h : PH} {a n : Nat} (hn : hN h = n) (ha : a < n) : Hd (i_Town a h) a 9 (n) := by
  subst hn
  have ha1 : a < hN h := ha
  unfold i_Town
  exact (Hd.sR (by first | exact Or.inr (by decide) | exact Or.inl (by omega)) (Hd.new (Hd.sR (by first | exact Or.inr (by decide) | exact Or.inl (by omega)) (Hd.new (Hd.sR (by first | exact Or.inr (by decide) | exact Or.inl (by omega)) (Hd.new (Hd.sR (by first | exact Or.inr (by decide) | exact Or.inl (by omega)) (Hd.new (Hd.sR (by first | exact Or.inr (by decide) | exact Or.inl (by omega)) (Hd.new (Hd_set (lt_new (lt_sI (lt_sI (lt_sI (lt_sI (lt_sI (lt_sI (lt_sI (lt_sI (lt_sI ha1)))))))))) (by omega))))))))))))
theorem Town_f2 {h : PH} {a n : Nat} (hn : hN h = n) (ha : a < n) : Ar (i_Town a h) (n + 1) 0 5 := by
  subst hn
  have ha1 : a < hN h := ha
  unfold i_Town
  exact (Ar.sR (Ar.new (Ar.sR (Ar.new (Ar.sR (Ar.new (Ar.sR (Ar.new (Ar.sR (Ar.madeX (hn_sR (hn_new (hn_sI (hn_sI (hn_sI (hn_sI (hn_sI (hn_sI (hn_sI (hn_sI (hn_sI rfl)))))))))))))))))))))
theorem Town_f3 {h : PH} {a n : Nat} (hn : hN h = n) (ha : a < n) : Hd (i_Town a h) a 10 (n + 1) := by
  subst hn
  have ha1 : a < hN h := ha
  unfold i_Town
  exact (Hd.sR (by first | exact Or.inr (by decide) | exact Or.inl (by omega)) (Hd.new (Hd.sR (by first | exact Or.inr (by decide) | exact Or.inl (by omega)) (Hd.new (Hd.sR (by first | exact Or.inr (by decide) | exact Or.inl (by omega)) (Hd.new (Hd.sR (by first | exact Or.inr (by decide) | exact Or.inl (by omega)) (Hd.new (Hd_set (lt_new (lt_sR (lt_new (lt_sI (lt_sI (lt_sI (lt_sI (lt_sI (lt_sI (lt_sI (lt_sI (lt_sI ha1)))))))))))) (by omega))))))))))
theorem Town_f4 {h : PH} {a n : Nat} (hn : hN h = n) (ha : a < n) : Ar (i_Town a h) (n + 2) 0 8 := by
  subst hn
  have ha1 : a < hN h := ha
  unfold i_Town
  exact (Ar.sR (Ar.new (Ar.sR (Ar.new (Ar.sR (Ar.new (Ar.sR (Ar.madeX (hn_sR (hn_new (hn_sR (hn_new (hn_sI (hn_sI (hn_sI (hn_sI (hn_sI (hn_sI (hn_sI (hn_sI (hn_sI rfl)))))))))))))))))))))
theorem Town_f5 {h : PH} {a n : Nat} (hn : hN h = n) (ha : a < n) : Hd (i_Town a h) a 11 (n + 2) := by
  subst hn
  have ha1 : a < hN h := ha
  unfold i_Town
  exact (Hd.sR (by first | exact Or.inr (by decide) | exact Or.inl (by omega)) (Hd.new (Hd.sR (by first | exact Or.inr (by decide) | exact Or.inl (by omega)) (Hd.new (Hd.sR (by first | exact Or.inr (by decide) | exact Or.inl (by omega)) (Hd.new (Hd_set (lt_new (lt_sR (lt_new (lt_sR (lt_new (lt_sI (lt_sI (lt_sI (lt_sI (lt_sI (lt_sI (lt_sI (lt_sI (lt_sI ha1)))))))))))))) (by omega))))))))
theorem Town_f6 {h : PH} {a n : Nat} (hn : hN h = n) (ha : a < n) : Ar (i_Town a h) (n + 3) 0 8 := by
  subst hn
  have ha1 : a < hN h := ha
  unfold i_Town
  exact (Ar.sR (Ar.new (Ar.sR (Ar.new (Ar.sR (Ar.madeX (hn_sR (hn_new (hn_sR (hn_new (hn_sR (hn_new (hn_sI (hn_sI (hn_sI (hn_sI (hn_sI (hn_sI (hn_sI (hn_sI (hn_sI rfl)))))))))))))))))))))
theorem Town_f7 {h : PH} {a n : Nat} (hn : hN h = n) (ha : a < n) : Hd (i_Town a h) a 12 (n + 3) := by
  subst hn
  have ha1 : a < hN h := ha
  unfold i_Town
  exact (Hd.sR (by first | exact Or.inr (by decide) | exact Or.inl (by omega)) (Hd.new (Hd.sR (by first | exact Or.inr (by decide) | exact Or.inl (by omega)) (Hd.new (Hd_set (lt_new (lt_sR (lt_new (lt_sR (lt_new (lt_sR (lt_new (lt_sI (lt_sI (lt_sI (lt_sI (lt_sI (lt_sI (lt_sI (lt_sI (lt_sI ha1)))))))))))))))) (by omega))))))
theorem Town_f8 {h : PH} {a n : Nat} (hn : hN h = n) (ha : a < n) : Ar (i_Town a h) (n + 4) 0 8 := by
  subst hn
  have ha1 : a < hN h := ha
  unfold i_Town
  exact (Ar.sR (Ar.new (Ar.sR (Ar.madeX (hn_sR (hn_new (hn_sR (hn_new (hn_sR (hn_new (hn_sR (hn_new (hn_sI (hn_sI (hn_sI (hn_sI (hn_sI (hn_sI (hn_sI (hn_sI (hn_sI rfl)))))))))))))))))))))
theorem Town_f9 {h : PH} {a n : Nat} (hn : hN h = n) (ha : a < n) : Hd (i_Town a h) a 13 (n + 4) := by
  subst hn
  have ha1 : a < hN h := ha
  unfold i_Town
  exact (Hd.sR (by first | exact Or.inr (by decide) | exact Or.inl (by omega)) (Hd.new (Hd_set (lt_new (lt_sR (lt_new (lt_sR (lt_new (lt_sR (lt_new (lt_sR (lt_new (lt_sI (lt_sI (lt_sI (lt_sI (lt_sI (lt_sI (lt_sI (lt_sI (lt_sI ha1)))))))))))))))))) (by omega))))
theorem Town_f10 {h : PH} {a n : Nat} (hn : hN h = n) (ha : a < n) : Ar (i_Town a h) (n + 5) 0 8 := by
  subst hn
  have ha1 : a < hN h := ha
  unfold i_Town
  exact (Ar.sR (Ar.madeX (hn_sR (hn_new (hn_sR (hn_new (hn_sR (hn_new (hn_sR (hn_new (hn_sR (hn_new (hn_sI (hn_sI (hn_sI (hn_sI (hn_sI (hn_sI (hn_sI (hn_sI (hn_sI rfl)))))))))))))))))))))
theorem Town_f11 {h : PH} {a n : Nat} (hn : hN h = n) (ha : a < n) : Hd (i_Town a h) a 14 (n + 5) := by
  subst hn
  have ha1 : a < hN h := ha
  unfold i_Town
  exact (Hd_set (lt_new (lt_sR (lt_new (lt_sR (lt_new (lt_sR (lt_new (lt_sR (lt_new (lt_sR (lt_new (lt_sI (lt_sI (lt_sI (lt_sI (lt_sI (lt_sI (lt_sI (lt_sI (lt_sI ha1)))))))))))))))))))) (by omega))
set_option maxRecDepth 20000 in
theorem kI_Town {g : GX} {h : PH} {a : Nat} (oa : Ob h a 6) (hb : hN h + 6 < 1000000) : Cn g mdX7_init [.ref a] h none (i_Town a h) := by
  refine Cn.of (by decide) (Nat.le_of_ble_eq_true rfl) ?_
  show Rn g mdX7_init 0 [some (.ref a)] [] h 0 0 none (i_Town a h)
  have hn : hN h = hN h := rfl
  refine o_aload_n (pc := 0) dX7_init_0 rfl ?_
  refine o_objInit (pc := 1) loX7_3 dX7_init_1 (by decide) (Nat.le_of_ble_eq_true rfl) ?_
  show Rn g mdX7_init 4 [some (.ref a)] [] h 0 0 none (i_Town a h)
  refine o_aload_n (pc := 4) dX7_init_4 rfl ?_
  refine o_iconst (pc := 5) (v := 0) dX7_init_5 rfl ?_
  refine o_putI (pc := 6) (ci := 6) (k := 0) (by decide) (by decide) rfl (Or.inl lgX7_9) rfl dX7_init_6 oa.1 oa.2 ⟨rfl, rfl⟩ ?_
  generalize e1 : sI h a 0 0 = H1
  replace oa := Ob.sI (i := a) (j := 0) (x := 0) oa
  rw [e1] at oa
  replace hn := hn_sI (i := a) (j := 0) (x := 0) hn
  rw [e1] at hn
  show Rn g mdX7_init 9 [some (.ref a)] [] H1 0 0 none (i_Town a h)
  refine o_aload_n (pc := 9) dX7_init_9 rfl ?_
  refine o_iconst (pc := 10) (v := 0) dX7_init_10 rfl ?_
  refine o_putI (pc := 11) (ci := 6) (k := 1) (by decide) (by decide) rfl (Or.inl lgX7_15) rfl dX7_init_11 oa.1 oa.2 ⟨rfl, rfl⟩ ?_
  generalize e2 : sI H1 a 1 0 = H2
  replace oa := Ob.sI (i := a) (j := 1) (x := 0) oa
  rw [e2] at oa
  replace hn := hn_sI (i := a) (j := 1) (x := 0) hn
  rw [e2] at hn
  show Rn g mdX7_init 14 [some (.ref a)] [] H2 0 0 none (i_Town a h)
  refine o_aload_n (pc := 14) dX7_init_14 rfl ?_
  refine o_iconst (pc := 15) (v := 0) dX7_init_15 rfl ?_
  refine o_putI (pc := 16) (ci := 6) (k := 2) (by decide) (by decide) rfl (Or.inl lgX7_19) rfl dX7_init_16 oa.1 oa.2 ⟨rfl, rfl⟩ ?_
  generalize e3 : sI H2 a 2 0 = H3
  replace oa := Ob.sI (i := a) (j := 2) (x := 0) oa
  rw [e3] at oa
  replace hn := hn_sI (i := a) (j := 2) (x := 0) hn
  rw [e3] at hn
  show Rn g mdX7_init 19 [some (.ref a)] [] H3 0 0 none (i_Town a h)
  refine o_aload_n (pc := 19) dX7_init_19 rfl ?_
  refine o_iconst (pc := 20) (v := 0) dX7_init_20 rfl ?_
  refine o_putI (pc := 21) (ci := 6) (k := 3) (by decide) (by decide) rfl (Or.inl lgX7_22) rfl dX7_init_21 oa.1 oa.2 ⟨rfl, rfl⟩ ?_
  generalize e4 : sI H3 a 3 0 = H4
  replace oa := Ob.sI (i := a) (j := 3) (x := 0) oa
  rw [e4] at oa
  replace hn := hn_sI (i := a) (j := 3) (x := 0) hn
  rw [e4] at hn
  show Rn g mdX7_init 24 [some (.ref a)] [] H4 0 0 none (i_Town a h)
  refine o_aload_n (pc := 24) dX7_init_24 rfl ?_
  refine o_iconst (pc := 25) (v := 1) dX7_init_25 rfl ?_
  refine o_putI (pc := 26) (ci := 6) (k := 4) (by decide) (by decide) rfl (Or.inl lgX7_25) rfl dX7_init_26 oa.1 oa.2 ⟨rfl, rfl⟩ ?_
  generalize e5 : sI H4 a 4 1 = H5
  replace oa := Ob.sI (i := a) (j := 4) (x := 1) oa
  rw [e5] at oa
  replace hn := hn_sI (i := a) (j := 4) (x := 1) hn
  rw [e5] at hn
  show Rn g mdX7_init 29 [some (.ref a)] [] H5 0 0 none (i_Town a h)
  refine o_aload_n (pc := 29) dX7_init_29 rfl ?_
  refine o_iconst (pc := 30) (v := 1) dX7_init_30 rfl ?_
  refine o_putI (pc := 31) (ci := 6) (k := 5) (by decide) (by decide) rfl (Or.inl lgX7_28) rfl dX7_init_31 oa.1 oa.2 ⟨rfl, rfl⟩ ?_
  generalize e6 : sI H5 a 5 1 = H6
  replace oa := Ob.sI (i := a) (j := 5) (x := 1) oa
  rw [e6] at oa
  replace hn := hn_sI (i := a) (j := 5) (x := 1) hn
  rw [e6] at hn
  show Rn g mdX7_init 34 [some (.ref a)] [] H6 0 0 none (i_Town a h)
  refine o_aload_n (pc := 34) dX7_init_34 rfl ?_
  refine o_iconst (pc := 35) (v := 0) dX7_init_35 rfl ?_
  refine o_putI (pc := 36) (ci := 6) (k := 6) (by decide) (by decide) rfl (Or.inl lgX7_31) rfl dX7_init_36 oa.1 oa.2 ⟨rfl, rfl⟩ ?_
  generalize e7 : sI H6 a 6 0 = H7
  replace oa := Ob.sI (i := a) (j := 6) (x := 0) oa
  rw [e7] at oa
  replace hn := hn_sI (i := a) (j := 6) (x := 0) hn
  rw [e7] at hn
  show Rn g mdX7_init 39 [some (.ref a)] [] H7 0 0 none (i_Town a h)
  refine o_aload_n (pc := 39) dX7_init_39 rfl ?_
  refine o_iconst (pc := 40) (v := 0) dX7_init_40 rfl ?_
  refine o_putI (pc := 41) (ci := 6) (k := 7) (by decide) (by decide) rfl (Or.inl lgX7_34) rfl dX7_init_41 oa.1 oa.2 ⟨rfl, rfl⟩ ?_
  generalize e8 : sI H7 a 7 0 = H8
  replace oa := Ob.sI (i := a) (j := 7) (x := 0) oa
  rw [e8] at oa
  replace hn := hn_sI (i := a) (j := 7) (x := 0) hn
  rw [e8] at hn
  show Rn g mdX7_init 44 [some (.ref a)] [] H8 0 0 none (i_Town a h)
  refine o_aload_n (pc := 44) dX7_init_44 rfl ?_
  refine o_iconst (pc := 45) (v := 0) dX7_init_45 rfl ?_
  refine o_putI (pc := 46) (ci := 6) (k := 8) (by decide) (by decide) rfl (Or.inl lgX7_37) rfl dX7_init_46 oa.1 oa.2 ⟨rfl, rfl⟩ ?_
  generalize e9 : sI H8 a 8 0 = H9
  replace oa := Ob.sI (i := a) (j := 8) (x := 0) oa
  rw [e9] at oa
  replace hn := hn_sI (i := a) (j := 8) (x := 0) hn
  rw [e9] at hn
  show Rn g mdX7_init 49 [some (.ref a)] [] H9 0 0 none (i_Town a h)
  refine o_aload_n (pc := 49) dX7_init_49 rfl ?_
  refine o_iconst (pc := 50) (v := 5) dX7_init_50 rfl ?_
  refine o_newaX (pc := 51) (t := 0) (N := 5) (q := hN h) hn (by decide) rfl la0 dX7_init_51 (by decide) rfl (by decide) (by omega) (by decide) (by decide) (okLs_ref (Or.inl oa.1) okLs_nil) (okSt_ref (Or.inl oa.1) okSt_nil) ?_
  have o0 := Ar.madeX (h := H9) (t := 0) (n := 5) hn
  generalize e10 : hNew H9 (.inr (0, 5)) = H10
  replace oa := Ob.new (z := .inr (0, 5)) oa
  rw [e10] at oa
  replace hn := hn_new (z := .inr (0, 5)) hn
  rw [e10] at hn
  rw [e10] at o0
  show Rn g mdX7_init 53 [some (.ref a)] [.ref (hN h), .ref a] H10 1 5 none (i_Town a h)
  refine o_putRF (pc := 53) (ci := 6) (k := 9) (by decide) (by decide) rfl lgX7_40 rfl ⟨rfl, rfl⟩ dX7_init_53 oa.1 oa.2 (Or.inl o0.1) ?_
  generalize e11 : sR H10 a 9 (some (hN h)) = H11
  replace oa := Ob.sR (i := a) (j := 9) (x := some (hN h)) oa
  rw [e11] at oa
  replace o0 := Ar.sR (i := a) (j := 9) (x := some (hN h)) o0
  rw [e11] at o0
  replace hn := hn_sR (i := a) (j := 9) (x := some (hN h)) hn
  rw [e11] at hn
  show Rn g mdX7_init 56 [some (.ref a)] [] H11 1 5 none (i_Town a h)
  refine o_aload_n (pc := 56) dX7_init_56 rfl ?_
  refine o_iconst (pc := 57) (v := 5) dX7_init_57 rfl ?_
  refine o_newaX (pc := 58) (t := 0) (N := 5) (q := hN h + 1) hn (by decide) rfl la0 dX7_init_58 (by decide) rfl (by decide) (by omega) (by decide) (by decide) (okLs_ref (Or.inl oa.1) okLs_nil) (okSt_ref (Or.inl oa.1) okSt_nil) ?_
  have o1 := Ar.madeX (h := H11) (t := 0) (n := 5) hn
  generalize e12 : hNew H11 (.inr (0, 5)) = H12
  replace oa := Ob.new (z := .inr (0, 5)) oa
  rw [e12] at oa
  replace o0 := Ar.new (z := .inr (0, 5)) o0
  rw [e12] at o0
  replace hn := hn_new (z := .inr (0, 5)) hn
  rw [e12] at hn
  rw [e12] at o1
  show Rn g mdX7_init 60 [some (.ref a)] [.ref (hN h + 1), .ref a] H12 2 10 none (i_Town a h)
  refine o_putRF (pc := 60) (ci := 6) (k := 10) (by decide) (by decide) rfl lgX7_44 rfl ⟨rfl, rfl⟩ dX7_init_60 oa.1 oa.2 (Or.inl o1.1) ?_
  generalize e13 : sR H12 a 10 (some (hN h + 1)) = H13
  replace oa := Ob.sR (i := a) (j := 10) (x := some (hN h + 1)) oa
  rw [e13] at oa
  replace o0 := Ar.sR (i := a) (j := 10) (x := some (hN h + 1)) o0
  rw [e13] at o0
  replace o1 := Ar.sR (i := a) (j := 10) (x := some (hN h + 1)) o1
  rw [e13] at o1
  replace hn := hn_sR (i := a) (j := 10) (x := some (hN h + 1)) hn
  rw [e13] at hn
  show Rn g mdX7_init 63 [some (.ref a)] [] H13 2 10 none (i_Town a h)
  refine o_aload_n (pc := 63) dX7_init_63 rfl ?_
  refine o_bipush (pc := 64) (v := 8) dX7_init_64 rfl ?_
  refine o_newaX (pc := 66) (t := 0) (N := 8) (q := hN h + 2) hn (by decide) rfl la0 dX7_init_66 (by decide) rfl (by decide) (by omega) (by decide) (by decide) (okLs_ref (Or.inl oa.1) okLs_nil) (okSt_ref (Or.inl oa.1) okSt_nil) ?_
  have o2 := Ar.madeX (h := H13) (t := 0) (n := 8) hn
  generalize e14 : hNew H13 (.inr (0, 8)) = H14
  replace oa := Ob.new (z := .inr (0, 8)) oa
  rw [e14] at oa
  replace o0 := Ar.new (z := .inr (0, 8)) o0
  rw [e14] at o0
  replace o1 := Ar.new (z := .inr (0, 8)) o1
  rw [e14] at o1
  replace hn := hn_new (z := .inr (0, 8)) hn
  rw [e14] at hn
  rw [e14] at o2
  show Rn g mdX7_init 68 [some (.ref a)] [.ref (hN h + 2), .ref a] H14 3 18 none (i_Town a h)
  refine o_putRF (pc := 68) (ci := 6) (k := 11) (by decide) (by decide) rfl lgX7_47 rfl ⟨rfl, rfl⟩ dX7_init_68 oa.1 oa.2 (Or.inl o2.1) ?_
  generalize e15 : sR H14 a 11 (some (hN h + 2)) = H15
  replace oa := Ob.sR (i := a) (j := 11) (x := some (hN h + 2)) oa
  rw [e15] at oa
  replace o0 := Ar.sR (i := a) (j := 11) (x := some (hN h + 2)) o0
  rw [e15] at o0
  replace o1 := Ar.sR (i := a) (j := 11) (x := some (hN h + 2)) o1
  rw [e15] at o1
  replace o2 := Ar.sR (i := a) (j := 11) (x := some (hN h + 2)) o2
  rw [e15] at o2
  replace hn := hn_sR (i := a) (j := 11) (x := some (hN h + 2)) hn
  rw [e15] at hn
  show Rn g mdX7_init 71 [some (.ref a)] [] H15 3 18 none (i_Town a h)
  refine o_aload_n (pc := 71) dX7_init_71 rfl ?_
  refine o_bipush (pc := 72) (v := 8) dX7_init_72 rfl ?_
  refine o_newaX (pc := 74) (t := 0) (N := 8) (q := hN h + 3) hn (by decide) rfl la0 dX7_init_74 (by decide) rfl (by decide) (by omega) (by decide) (by decide) (okLs_ref (Or.inl oa.1) okLs_nil) (okSt_ref (Or.inl oa.1) okSt_nil) ?_
  have o3 := Ar.madeX (h := H15) (t := 0) (n := 8) hn
  generalize e16 : hNew H15 (.inr (0, 8)) = H16
  replace oa := Ob.new (z := .inr (0, 8)) oa
  rw [e16] at oa
  replace o0 := Ar.new (z := .inr (0, 8)) o0
  rw [e16] at o0
  replace o1 := Ar.new (z := .inr (0, 8)) o1
  rw [e16] at o1
  replace o2 := Ar.new (z := .inr (0, 8)) o2
  rw [e16] at o2
  replace hn := hn_new (z := .inr (0, 8)) hn
  rw [e16] at hn
  rw [e16] at o3
  show Rn g mdX7_init 76 [some (.ref a)] [.ref (hN h + 3), .ref a] H16 4 26 none (i_Town a h)
  refine o_putRF (pc := 76) (ci := 6) (k := 12) (by decide) (by decide) rfl lgX7_50 rfl ⟨rfl, rfl⟩ dX7_init_76 oa.1 oa.2 (Or.inl o3.1) ?_
  generalize e17 : sR H16 a 12 (some (hN h + 3)) = H17
  replace oa := Ob.sR (i := a) (j := 12) (x := some (hN h + 3)) oa
  rw [e17] at oa
  replace o0 := Ar.sR (i := a) (j := 12) (x := some (hN h + 3)) o0
  rw [e17] at o0
  replace o1 := Ar.sR (i := a) (j := 12) (x := some (hN h + 3)) o1
  rw [e17] at o1
  replace o2 := Ar.sR (i := a) (j := 12) (x := some (hN h + 3)) o2
  rw [e17] at o2
  replace o3 := Ar.sR (i := a) (j := 12) (x := some (hN h + 3)) o3
  rw [e17] at o3
  replace hn := hn_sR (i := a) (j := 12) (x := some (hN h + 3)) hn
  rw [e17] at hn
  show Rn g mdX7_init 79 [some (.ref a)] [] H17 4 26 none (i_Town a h)
  refine o_aload_n (pc := 79) dX7_init_79 rfl ?_
  refine o_bipush (pc := 80) (v := 8) dX7_init_80 rfl ?_
  refine o_newaX (pc := 82) (t := 0) (N := 8) (q := hN h + 4) hn (by decide) rfl la0 dX7_init_82 (by decide) rfl (by decide) (by omega) (by decide) (by decide) (okLs_ref (Or.inl oa.1) okLs_nil) (okSt_ref (Or.inl oa.1) okSt_nil) ?_
  have o4 := Ar.madeX (h := H17) (t := 0) (n := 8) hn
  generalize e18 : hNew H17 (.inr (0, 8)) = H18
  replace oa := Ob.new (z := .inr (0, 8)) oa
  rw [e18] at oa
  replace o0 := Ar.new (z := .inr (0, 8)) o0
  rw [e18] at o0
  replace o1 := Ar.new (z := .inr (0, 8)) o1
  rw [e18] at o1
  replace o2 := Ar.new (z := .inr (0, 8)) o2
  rw [e18] at o2
  replace o3 := Ar.new (z := .inr (0, 8)) o3
  rw [e18] at o3
  replace hn := hn_new (z := .inr (0, 8)) hn
  rw [e18] at hn
  rw [e18] at o4
  show Rn g mdX7_init 84 [some (.ref a)] [.ref (hN h + 4), .ref a] H18 5 34 none (i_Town a h)
  refine o_putRF (pc := 84) (ci := 6) (k := 13) (by decide) (by decide) rfl lgX7_53 rfl ⟨rfl, rfl⟩ dX7_init_84 oa.1 oa.2 (Or.inl o4.1) ?_
  generalize e19 : sR H18 a 13 (some (hN h + 4)) = H19
  replace oa := Ob.sR (i := a) (j := 13) (x := some (hN h + 4)) oa
  rw [e19] at oa
  replace o0 := Ar.sR (i := a) (j := 13) (x := some (hN h + 4)) o0
  rw [e19] at o0
  replace o1 := Ar.sR (i := a) (j := 13) (x := some (hN h + 4)) o1
  rw [e19] at o1
  replace o2 := Ar.sR (i := a) (j := 13) (x := some (hN h + 4)) o2
  rw [e19] at o2
  replace o3 := Ar.sR (i := a) (j := 13) (x := some (hN h + 4)) o3
  rw [e19] at o3
  replace o4 := Ar.sR (i := a) (j := 13) (x := some (hN h + 4)) o4
  rw [e19] at o4
  replace hn := hn_sR (i := a) (j := 13) (x := some (hN h + 4)) hn
  rw [e19] at hn
  show Rn g mdX7_init 87 [some (.ref a)] [] H19 5 34 none (i_Town a h)
  refine o_aload_n (pc := 87) dX7_init_87 rfl ?_
  refine o_bipush (pc := 88) (v := 8) dX7_init_88 rfl ?_
  refine o_newaX (pc := 90) (t := 0) (N := 8) (q := hN h + 5) hn (by decide) rfl la0 dX7_init_90 (by decide) rfl (by decide) (by omega) (by decide) (by decide) (okLs_ref (Or.inl oa.1) okLs_nil) (okSt_ref (Or.inl oa.1) okSt_nil) ?_
  have o5 := Ar.madeX (h := H19) (t := 0) (n := 8) hn
  generalize e20 : hNew H19 (.inr (0, 8)) = H20
  replace oa := Ob.new (z := .inr (0, 8)) oa
  rw [e20] at oa
  replace o0 := Ar.new (z := .inr (0, 8)) o0
  rw [e20] at o0
  replace o1 := Ar.new (z := .inr (0, 8)) o1
  rw [e20] at o1
  replace o2 := Ar.new (z := .inr (0, 8)) o2
  rw [e20] at o2
  replace o3 := Ar.new (z := .inr (0, 8)) o3
  rw [e20] at o3
  replace o4 := Ar.new (z := .inr (0, 8)) o4
  rw [e20] at o4
  replace hn := hn_new (z := .inr (0, 8)) hn
  rw [e20] at hn
  rw [e20] at o5
  show Rn g mdX7_init 92 [some (.ref a)] [.ref (hN h + 5), .ref a] H20 6 42 none (i_Town a h)
  refine o_putRF (pc := 92) (ci := 6) (k := 14) (by decide) (by decide) rfl lgX7_56 rfl ⟨rfl, rfl⟩ dX7_init_92 oa.1 oa.2 (Or.inl o5.1) ?_
  generalize e21 : sR H20 a 14 (some (hN h + 5)) = H21
  replace oa := Ob.sR (i := a) (j := 14) (x := some (hN h + 5)) oa
  rw [e21] at oa
  replace o0 := Ar.sR (i := a) (j := 14) (x := some (hN h + 5)) o0
  rw [e21] at o0
  replace o1 := Ar.sR (i := a) (j := 14) (x := some (hN h + 5)) o1
  rw [e21] at o1
  replace o2 := Ar.sR (i := a) (j := 14) (x := some (hN h + 5)) o2
  rw [e21] at o2
  replace o3 := Ar.sR (i := a) (j := 14) (x := some (hN h + 5)) o3
  rw [e21] at o3
  replace o4 := Ar.sR (i := a) (j := 14) (x := some (hN h + 5)) o4
  rw [e21] at o4
  replace o5 := Ar.sR (i := a) (j := 14) (x := some (hN h + 5)) o5
  rw [e21] at o5
  replace hn := hn_sR (i := a) (j := 14) (x := some (hN h + 5)) hn
  rw [e21] at hn
  show Rn g mdX7_init 95 [some (.ref a)] [] H21 6 42 none (i_Town a h)
  subst e1
  subst e2
  subst e3
  subst e4
  subst e5
  subst e6
  subst e7
  subst e8
  subst e9
  subst e10
  subst e11
  subst e12
  subst e13
  subst e14
  subst e15
  subst e16
  subst e17
  subst e18
  subst e19
  subst e20
  subst e21
  exact o_return (pc := 95) dX7_init_95 rfl (by decide) (by decide)
def i_State (a : Nat) (h : PH) : PH := sR (hNew h (.inr (0, 46))) a 0 (some (hN h))
theorem ob_State {h : PH} {a : Nat} {b ci : Nat} (o : Ob h b ci) : Ob (i_State a h) b ci := by
  unfold i_State
  exact (Ob.sR (Ob.new o))
theorem ar_State {h : PH} {a : Nat} {b t n : Nat} (o : Ar h b t n) : Ar (i_State a h) b t n := by
  unfold i_State
  exact (Ar.sR (Ar.new o))
theorem hn_State {h : PH} {a : Nat} {n : Nat} (e : hN h = n) : hN (i_State a h) = n + 1 := by
  unfold i_State
  exact (hn_sR (hn_new e))
theorem lt_State {h : PH} {a : Nat} {b : Nat} (o : b < hN h) : b < hN (i_State a h) := by
  rw [hn_State rfl]
  omega
theorem hd_State {h : PH} {a : Nat} {b k v : Nat} (hne : b ≠ a) (e : Hd h b k v) : Hd (i_State a h) b k v := by
  unfold i_State
  exact (Hd.sR (Or.inl hne) (Hd.new e))
theorem okA_State {h : PH} {a : Nat} {b : Nat} (o : okA (hN h) b) : okA (hN (i_State a h)) b := by
  rw [hn_State rfl]
  exact okA_up o (Nat.le_add_right _ _)
theorem State_f0 {h : PH} {a n : Nat} (hn : hN h = n) (ha : a < n) : Ar (i_State a h) (n) 0 46 := by
  subst hn
  have ha1 : a < hN h := ha
  unfold i_State
  exact (Ar.sR (Ar.madeX rfl))
theorem State_f1 {h : PH} {a n : Nat} (hn : hN h = n) (ha : a < n) : Hd (i_State a h) a 0 (n) := by
  subst hn
  have ha1 : a < hN h := ha
  unfold i_State
  exact (Hd_set (lt_new ha1) (by omega))
set_option maxRecDepth 20000 in
theorem kI_State {g : GX} {h : PH} {a : Nat} (oa : Ob h a 4) (hb : hN h + 1 < 1000000) : Cn g mdX5_init [.ref a] h none (i_State a h) := by
  refine Cn.of (by decide) (Nat.le_of_ble_eq_true rfl) ?_
  show Rn g mdX5_init 0 [some (.ref a)] [] h 0 0 none (i_State a h)
  have hn : hN h = hN h := rfl
  refine o_aload_n (pc := 0) dX5_init_0 rfl ?_
  refine o_objInit (pc := 1) loX5_5 dX5_init_1 (by decide) (Nat.le_of_ble_eq_true rfl) ?_
  show Rn g mdX5_init 4 [some (.ref a)] [] h 0 0 none (i_State a h)
  refine o_aload_n (pc := 4) dX5_init_4 rfl ?_
  refine o_bipush (pc := 5) (v := 46) dX5_init_5 rfl ?_
  refine o_newaX (pc := 7) (t := 0) (N := 46) (q := hN h) hn (by decide) rfl la0 dX5_init_7 (by decide) rfl (by decide) (by omega) (by decide) (by decide) (okLs_ref (Or.inl oa.1) okLs_nil) (okSt_ref (Or.inl oa.1) okSt_nil) ?_
  have o0 := Ar.madeX (h := h) (t := 0) (n := 46) hn
  generalize e1 : hNew h (.inr (0, 46)) = H1
  replace oa := Ob.new (z := .inr (0, 46)) oa
  rw [e1] at oa
  replace hn := hn_new (z := .inr (0, 46)) hn
  rw [e1] at hn
  rw [e1] at o0
  show Rn g mdX5_init 9 [some (.ref a)] [.ref (hN h), .ref a] H1 1 46 none (i_State a h)
  refine o_putRF (pc := 9) (ci := 4) (k := 0) (by decide) (by decide) rfl lgX5_11 rfl ⟨rfl, rfl⟩ dX5_init_9 oa.1 oa.2 (Or.inl o0.1) ?_
  generalize e2 : sR H1 a 0 (some (hN h)) = H2
  replace oa := Ob.sR (i := a) (j := 0) (x := some (hN h)) oa
  rw [e2] at oa
  replace o0 := Ar.sR (i := a) (j := 0) (x := some (hN h)) o0
  rw [e2] at o0
  replace hn := hn_sR (i := a) (j := 0) (x := some (hN h)) hn
  rw [e2] at hn
  show Rn g mdX5_init 12 [some (.ref a)] [] H2 1 46 none (i_State a h)
  subst e1
  subst e2
  exact o_return (pc := 12) dX5_init_12 rfl (by decide) (by decide)
def i_DayBook (a : Nat) (h : PH) : PH := sR (hNew (sR (hNew (sR (hNew (sR (hNew (sR (hNew (sR (hNew (sR (hNew h (.inr (0, 8))) a 0 (some (hN h))) (.inr (0, 8))) a 1 (some (hN h + 1))) (.inr (0, 8))) a 2 (some (hN h + 2))) (.inr (0, 16))) a 3 (some (hN h + 3))) (.inr (0, 16))) a 4 (some (hN h + 4))) (.inr (0, 5))) a 5 (some (hN h + 5))) (.inr (0, 5))) a 6 (some (hN h + 6))
theorem ob_DayBook {h : PH} {a : Nat} {b ci : Nat} (o : Ob h b ci) : Ob (i_DayBook a h) b ci := by
  unfold i_DayBook
  exact (Ob.sR (Ob.new (Ob.sR (Ob.new (Ob.sR (Ob.new (Ob.sR (Ob.new (Ob.sR (Ob.new (Ob.sR (Ob.new (Ob.sR (Ob.new o))))))))))))))
theorem ar_DayBook {h : PH} {a : Nat} {b t n : Nat} (o : Ar h b t n) : Ar (i_DayBook a h) b t n := by
  unfold i_DayBook
  exact (Ar.sR (Ar.new (Ar.sR (Ar.new (Ar.sR (Ar.new (Ar.sR (Ar.new (Ar.sR (Ar.new (Ar.sR (Ar.new (Ar.sR (Ar.new o))))))))))))))
theorem hn_DayBook {h : PH} {a : Nat} {n : Nat} (e : hN h = n) : hN (i_DayBook a h) = n + 7 := by
  unfold i_DayBook
  exact (hn_sR (hn_new (hn_sR (hn_new (hn_sR (hn_new (hn_sR (hn_new (hn_sR (hn_new (hn_sR (hn_new (hn_sR (hn_new e))))))))))))))
theorem lt_DayBook {h : PH} {a : Nat} {b : Nat} (o : b < hN h) : b < hN (i_DayBook a h) := by
  rw [hn_DayBook rfl]
  omega
theorem hd_DayBook {h : PH} {a : Nat} {b k v : Nat} (hne : b ≠ a) (e : Hd h b k v) : Hd (i_DayBook a h) b k v := by
  unfold i_DayBook
  exact (Hd.sR (Or.inl hne) (Hd.new (Hd.sR (Or.inl hne) (Hd.new (Hd.sR (Or.inl hne) (Hd.new (Hd.sR (Or.inl hne) (Hd.new (Hd.sR (Or.inl hne) (Hd.new (Hd.sR (Or.inl hne) (Hd.new (Hd.sR (Or.inl hne) (Hd.new e))))))))))))))
theorem okA_DayBook {h : PH} {a : Nat} {b : Nat} (o : okA (hN h) b) : okA (hN (i_DayBook a h)) b := by
  rw [hn_DayBook rfl]
  exact okA_up o (Nat.le_add_right _ _)
set_option maxRecDepth 20000 in
theorem kI_DayBook {g : GX} {h : PH} {a : Nat} (oa : Ob h a 1) (hb : hN h + 7 < 1000000) : Cn g mdX1_init [.ref a] h none (i_DayBook a h) := by
  refine Cn.of (by decide) (Nat.le_of_ble_eq_true rfl) ?_
  show Rn g mdX1_init 0 [some (.ref a)] [] h 0 0 none (i_DayBook a h)
  have hn : hN h = hN h := rfl
  refine o_aload_n (pc := 0) dX1_init_0 rfl ?_
  refine o_objInit (pc := 1) loX1_3 dX1_init_1 (by decide) (Nat.le_of_ble_eq_true rfl) ?_
  show Rn g mdX1_init 4 [some (.ref a)] [] h 0 0 none (i_DayBook a h)
  refine o_aload_n (pc := 4) dX1_init_4 rfl ?_
  refine o_bipush (pc := 5) (v := 8) dX1_init_5 rfl ?_
  refine o_newaX (pc := 7) (t := 0) (N := 8) (q := hN h) hn (by decide) rfl la0 dX1_init_7 (by decide) rfl (by decide) (by omega) (by decide) (by decide) (okLs_ref (Or.inl oa.1) okLs_nil) (okSt_ref (Or.inl oa.1) okSt_nil) ?_
  have o0 := Ar.madeX (h := h) (t := 0) (n := 8) hn
  generalize e1 : hNew h (.inr (0, 8)) = H1
  replace oa := Ob.new (z := .inr (0, 8)) oa
  rw [e1] at oa
  replace hn := hn_new (z := .inr (0, 8)) hn
  rw [e1] at hn
  rw [e1] at o0
  show Rn g mdX1_init 9 [some (.ref a)] [.ref (hN h), .ref a] H1 1 8 none (i_DayBook a h)
  refine o_putRF (pc := 9) (ci := 1) (k := 0) (by decide) (by decide) rfl lgX1_9 rfl ⟨rfl, rfl⟩ dX1_init_9 oa.1 oa.2 (Or.inl o0.1) ?_
  generalize e2 : sR H1 a 0 (some (hN h)) = H2
  replace oa := Ob.sR (i := a) (j := 0) (x := some (hN h)) oa
  rw [e2] at oa
  replace o0 := Ar.sR (i := a) (j := 0) (x := some (hN h)) o0
  rw [e2] at o0
  replace hn := hn_sR (i := a) (j := 0) (x := some (hN h)) hn
  rw [e2] at hn
  show Rn g mdX1_init 12 [some (.ref a)] [] H2 1 8 none (i_DayBook a h)
  refine o_aload_n (pc := 12) dX1_init_12 rfl ?_
  refine o_bipush (pc := 13) (v := 8) dX1_init_13 rfl ?_
  refine o_newaX (pc := 15) (t := 0) (N := 8) (q := hN h + 1) hn (by decide) rfl la0 dX1_init_15 (by decide) rfl (by decide) (by omega) (by decide) (by decide) (okLs_ref (Or.inl oa.1) okLs_nil) (okSt_ref (Or.inl oa.1) okSt_nil) ?_
  have o1 := Ar.madeX (h := H2) (t := 0) (n := 8) hn
  generalize e3 : hNew H2 (.inr (0, 8)) = H3
  replace oa := Ob.new (z := .inr (0, 8)) oa
  rw [e3] at oa
  replace o0 := Ar.new (z := .inr (0, 8)) o0
  rw [e3] at o0
  replace hn := hn_new (z := .inr (0, 8)) hn
  rw [e3] at hn
  rw [e3] at o1
  show Rn g mdX1_init 17 [some (.ref a)] [.ref (hN h + 1), .ref a] H3 2 16 none (i_DayBook a h)
  refine o_putRF (pc := 17) (ci := 1) (k := 1) (by decide) (by decide) rfl lgX1_15 rfl ⟨rfl, rfl⟩ dX1_init_17 oa.1 oa.2 (Or.inl o1.1) ?_
  generalize e4 : sR H3 a 1 (some (hN h + 1)) = H4
  replace oa := Ob.sR (i := a) (j := 1) (x := some (hN h + 1)) oa
  rw [e4] at oa
  replace o0 := Ar.sR (i := a) (j := 1) (x := some (hN h + 1)) o0
  rw [e4] at o0
  replace o1 := Ar.sR (i := a) (j := 1) (x := some (hN h + 1)) o1
  rw [e4] at o1
  replace hn := hn_sR (i := a) (j := 1) (x := some (hN h + 1)) hn
  rw [e4] at hn
  show Rn g mdX1_init 20 [some (.ref a)] [] H4 2 16 none (i_DayBook a h)
  refine o_aload_n (pc := 20) dX1_init_20 rfl ?_
  refine o_bipush (pc := 21) (v := 8) dX1_init_21 rfl ?_
  refine o_newaX (pc := 23) (t := 0) (N := 8) (q := hN h + 2) hn (by decide) rfl la0 dX1_init_23 (by decide) rfl (by decide) (by omega) (by decide) (by decide) (okLs_ref (Or.inl oa.1) okLs_nil) (okSt_ref (Or.inl oa.1) okSt_nil) ?_
  have o2 := Ar.madeX (h := H4) (t := 0) (n := 8) hn
  generalize e5 : hNew H4 (.inr (0, 8)) = H5
  replace oa := Ob.new (z := .inr (0, 8)) oa
  rw [e5] at oa
  replace o0 := Ar.new (z := .inr (0, 8)) o0
  rw [e5] at o0
  replace o1 := Ar.new (z := .inr (0, 8)) o1
  rw [e5] at o1
  replace hn := hn_new (z := .inr (0, 8)) hn
  rw [e5] at hn
  rw [e5] at o2
  show Rn g mdX1_init 25 [some (.ref a)] [.ref (hN h + 2), .ref a] H5 3 24 none (i_DayBook a h)
  refine o_putRF (pc := 25) (ci := 1) (k := 2) (by decide) (by decide) rfl lgX1_18 rfl ⟨rfl, rfl⟩ dX1_init_25 oa.1 oa.2 (Or.inl o2.1) ?_
  generalize e6 : sR H5 a 2 (some (hN h + 2)) = H6
  replace oa := Ob.sR (i := a) (j := 2) (x := some (hN h + 2)) oa
  rw [e6] at oa
  replace o0 := Ar.sR (i := a) (j := 2) (x := some (hN h + 2)) o0
  rw [e6] at o0
  replace o1 := Ar.sR (i := a) (j := 2) (x := some (hN h + 2)) o1
  rw [e6] at o1
  replace o2 := Ar.sR (i := a) (j := 2) (x := some (hN h + 2)) o2
  rw [e6] at o2
  replace hn := hn_sR (i := a) (j := 2) (x := some (hN h + 2)) hn
  rw [e6] at hn
  show Rn g mdX1_init 28 [some (.ref a)] [] H6 3 24 none (i_DayBook a h)
  refine o_aload_n (pc := 28) dX1_init_28 rfl ?_
  refine o_bipush (pc := 29) (v := 16) dX1_init_29 rfl ?_
  refine o_newaX (pc := 31) (t := 0) (N := 16) (q := hN h + 3) hn (by decide) rfl la0 dX1_init_31 (by decide) rfl (by decide) (by omega) (by decide) (by decide) (okLs_ref (Or.inl oa.1) okLs_nil) (okSt_ref (Or.inl oa.1) okSt_nil) ?_
  have o3 := Ar.madeX (h := H6) (t := 0) (n := 16) hn
  generalize e7 : hNew H6 (.inr (0, 16)) = H7
  replace oa := Ob.new (z := .inr (0, 16)) oa
  rw [e7] at oa
  replace o0 := Ar.new (z := .inr (0, 16)) o0
  rw [e7] at o0
  replace o1 := Ar.new (z := .inr (0, 16)) o1
  rw [e7] at o1
  replace o2 := Ar.new (z := .inr (0, 16)) o2
  rw [e7] at o2
  replace hn := hn_new (z := .inr (0, 16)) hn
  rw [e7] at hn
  rw [e7] at o3
  show Rn g mdX1_init 33 [some (.ref a)] [.ref (hN h + 3), .ref a] H7 4 40 none (i_DayBook a h)
  refine o_putRF (pc := 33) (ci := 1) (k := 3) (by decide) (by decide) rfl lgX1_21 rfl ⟨rfl, rfl⟩ dX1_init_33 oa.1 oa.2 (Or.inl o3.1) ?_
  generalize e8 : sR H7 a 3 (some (hN h + 3)) = H8
  replace oa := Ob.sR (i := a) (j := 3) (x := some (hN h + 3)) oa
  rw [e8] at oa
  replace o0 := Ar.sR (i := a) (j := 3) (x := some (hN h + 3)) o0
  rw [e8] at o0
  replace o1 := Ar.sR (i := a) (j := 3) (x := some (hN h + 3)) o1
  rw [e8] at o1
  replace o2 := Ar.sR (i := a) (j := 3) (x := some (hN h + 3)) o2
  rw [e8] at o2
  replace o3 := Ar.sR (i := a) (j := 3) (x := some (hN h + 3)) o3
  rw [e8] at o3
  replace hn := hn_sR (i := a) (j := 3) (x := some (hN h + 3)) hn
  rw [e8] at hn
  show Rn g mdX1_init 36 [some (.ref a)] [] H8 4 40 none (i_DayBook a h)
  refine o_aload_n (pc := 36) dX1_init_36 rfl ?_
  refine o_bipush (pc := 37) (v := 16) dX1_init_37 rfl ?_
  refine o_newaX (pc := 39) (t := 0) (N := 16) (q := hN h + 4) hn (by decide) rfl la0 dX1_init_39 (by decide) rfl (by decide) (by omega) (by decide) (by decide) (okLs_ref (Or.inl oa.1) okLs_nil) (okSt_ref (Or.inl oa.1) okSt_nil) ?_
  have o4 := Ar.madeX (h := H8) (t := 0) (n := 16) hn
  generalize e9 : hNew H8 (.inr (0, 16)) = H9
  replace oa := Ob.new (z := .inr (0, 16)) oa
  rw [e9] at oa
  replace o0 := Ar.new (z := .inr (0, 16)) o0
  rw [e9] at o0
  replace o1 := Ar.new (z := .inr (0, 16)) o1
  rw [e9] at o1
  replace o2 := Ar.new (z := .inr (0, 16)) o2
  rw [e9] at o2
  replace o3 := Ar.new (z := .inr (0, 16)) o3
  rw [e9] at o3
  replace hn := hn_new (z := .inr (0, 16)) hn
  rw [e9] at hn
  rw [e9] at o4
  show Rn g mdX1_init 41 [some (.ref a)] [.ref (hN h + 4), .ref a] H9 5 56 none (i_DayBook a h)
  refine o_putRF (pc := 41) (ci := 1) (k := 4) (by decide) (by decide) rfl lgX1_24 rfl ⟨rfl, rfl⟩ dX1_init_41 oa.1 oa.2 (Or.inl o4.1) ?_
  generalize e10 : sR H9 a 4 (some (hN h + 4)) = H10
  replace oa := Ob.sR (i := a) (j := 4) (x := some (hN h + 4)) oa
  rw [e10] at oa
  replace o0 := Ar.sR (i := a) (j := 4) (x := some (hN h + 4)) o0
  rw [e10] at o0
  replace o1 := Ar.sR (i := a) (j := 4) (x := some (hN h + 4)) o1
  rw [e10] at o1
  replace o2 := Ar.sR (i := a) (j := 4) (x := some (hN h + 4)) o2
  rw [e10] at o2
  replace o3 := Ar.sR (i := a) (j := 4) (x := some (hN h + 4)) o3
  rw [e10] at o3
  replace o4 := Ar.sR (i := a) (j := 4) (x := some (hN h + 4)) o4
  rw [e10] at o4
  replace hn := hn_sR (i := a) (j := 4) (x := some (hN h + 4)) hn
  rw [e10] at hn
  show Rn g mdX1_init 44 [some (.ref a)] [] H10 5 56 none (i_DayBook a h)
  refine o_aload_n (pc := 44) dX1_init_44 rfl ?_
  refine o_iconst (pc := 45) (v := 5) dX1_init_45 rfl ?_
  refine o_newaX (pc := 46) (t := 0) (N := 5) (q := hN h + 5) hn (by decide) rfl la0 dX1_init_46 (by decide) rfl (by decide) (by omega) (by decide) (by decide) (okLs_ref (Or.inl oa.1) okLs_nil) (okSt_ref (Or.inl oa.1) okSt_nil) ?_
  have o5 := Ar.madeX (h := H10) (t := 0) (n := 5) hn
  generalize e11 : hNew H10 (.inr (0, 5)) = H11
  replace oa := Ob.new (z := .inr (0, 5)) oa
  rw [e11] at oa
  replace o0 := Ar.new (z := .inr (0, 5)) o0
  rw [e11] at o0
  replace o1 := Ar.new (z := .inr (0, 5)) o1
  rw [e11] at o1
  replace o2 := Ar.new (z := .inr (0, 5)) o2
  rw [e11] at o2
  replace o3 := Ar.new (z := .inr (0, 5)) o3
  rw [e11] at o3
  replace o4 := Ar.new (z := .inr (0, 5)) o4
  rw [e11] at o4
  replace hn := hn_new (z := .inr (0, 5)) hn
  rw [e11] at hn
  rw [e11] at o5
  show Rn g mdX1_init 48 [some (.ref a)] [.ref (hN h + 5), .ref a] H11 6 61 none (i_DayBook a h)
  refine o_putRF (pc := 48) (ci := 1) (k := 5) (by decide) (by decide) rfl lgX1_27 rfl ⟨rfl, rfl⟩ dX1_init_48 oa.1 oa.2 (Or.inl o5.1) ?_
  generalize e12 : sR H11 a 5 (some (hN h + 5)) = H12
  replace oa := Ob.sR (i := a) (j := 5) (x := some (hN h + 5)) oa
  rw [e12] at oa
  replace o0 := Ar.sR (i := a) (j := 5) (x := some (hN h + 5)) o0
  rw [e12] at o0
  replace o1 := Ar.sR (i := a) (j := 5) (x := some (hN h + 5)) o1
  rw [e12] at o1
  replace o2 := Ar.sR (i := a) (j := 5) (x := some (hN h + 5)) o2
  rw [e12] at o2
  replace o3 := Ar.sR (i := a) (j := 5) (x := some (hN h + 5)) o3
  rw [e12] at o3
  replace o4 := Ar.sR (i := a) (j := 5) (x := some (hN h + 5)) o4
  rw [e12] at o4
  replace o5 := Ar.sR (i := a) (j := 5) (x := some (hN h + 5)) o5
  rw [e12] at o5
  replace hn := hn_sR (i := a) (j := 5) (x := some (hN h + 5)) hn
  rw [e12] at hn
  show Rn g mdX1_init 51 [some (.ref a)] [] H12 6 61 none (i_DayBook a h)
  refine o_aload_n (pc := 51) dX1_init_51 rfl ?_
  refine o_iconst (pc := 52) (v := 5) dX1_init_52 rfl ?_
  refine o_newaX (pc := 53) (t := 0) (N := 5) (q := hN h + 6) hn (by decide) rfl la0 dX1_init_53 (by decide) rfl (by decide) (by omega) (by decide) (by decide) (okLs_ref (Or.inl oa.1) okLs_nil) (okSt_ref (Or.inl oa.1) okSt_nil) ?_
  have o6 := Ar.madeX (h := H12) (t := 0) (n := 5) hn
  generalize e13 : hNew H12 (.inr (0, 5)) = H13
  replace oa := Ob.new (z := .inr (0, 5)) oa
  rw [e13] at oa
  replace o0 := Ar.new (z := .inr (0, 5)) o0
  rw [e13] at o0
  replace o1 := Ar.new (z := .inr (0, 5)) o1
  rw [e13] at o1
  replace o2 := Ar.new (z := .inr (0, 5)) o2
  rw [e13] at o2
  replace o3 := Ar.new (z := .inr (0, 5)) o3
  rw [e13] at o3
  replace o4 := Ar.new (z := .inr (0, 5)) o4
  rw [e13] at o4
  replace o5 := Ar.new (z := .inr (0, 5)) o5
  rw [e13] at o5
  replace hn := hn_new (z := .inr (0, 5)) hn
  rw [e13] at hn
  rw [e13] at o6
  show Rn g mdX1_init 55 [some (.ref a)] [.ref (hN h + 6), .ref a] H13 7 66 none (i_DayBook a h)
  refine o_putRF (pc := 55) (ci := 1) (k := 6) (by decide) (by decide) rfl lgX1_30 rfl ⟨rfl, rfl⟩ dX1_init_55 oa.1 oa.2 (Or.inl o6.1) ?_
  generalize e14 : sR H13 a 6 (some (hN h + 6)) = H14
  replace oa := Ob.sR (i := a) (j := 6) (x := some (hN h + 6)) oa
  rw [e14] at oa
  replace o0 := Ar.sR (i := a) (j := 6) (x := some (hN h + 6)) o0
  rw [e14] at o0
  replace o1 := Ar.sR (i := a) (j := 6) (x := some (hN h + 6)) o1
  rw [e14] at o1
  replace o2 := Ar.sR (i := a) (j := 6) (x := some (hN h + 6)) o2
  rw [e14] at o2
  replace o3 := Ar.sR (i := a) (j := 6) (x := some (hN h + 6)) o3
  rw [e14] at o3
  replace o4 := Ar.sR (i := a) (j := 6) (x := some (hN h + 6)) o4
  rw [e14] at o4
  replace o5 := Ar.sR (i := a) (j := 6) (x := some (hN h + 6)) o5
  rw [e14] at o5
  replace o6 := Ar.sR (i := a) (j := 6) (x := some (hN h + 6)) o6
  rw [e14] at o6
  replace hn := hn_sR (i := a) (j := 6) (x := some (hN h + 6)) hn
  rw [e14] at hn
  show Rn g mdX1_init 58 [some (.ref a)] [] H14 7 66 none (i_DayBook a h)
  subst e1
  subst e2
  subst e3
  subst e4
  subst e5
  subst e6
  subst e7
  subst e8
  subst e9
  subst e10
  subst e11
  subst e12
  subst e13
  subst e14
  exact o_return (pc := 58) dX1_init_58 rfl (by decide) (by decide)
def i_Watch (a : Nat) (h : PH) : PH := sR (hNew (sR (hNew (sR (hNew h (.inr (0, 98))) a 0 (some (hN h))) (.inr (0, 279))) a 1 (some (hN h + 1))) (.inr (0, 1000))) a 2 (some (hN h + 2))
theorem ob_Watch {h : PH} {a : Nat} {b ci : Nat} (o : Ob h b ci) : Ob (i_Watch a h) b ci := by
  unfold i_Watch
  exact (Ob.sR (Ob.new (Ob.sR (Ob.new (Ob.sR (Ob.new o))))))
theorem ar_Watch {h : PH} {a : Nat} {b t n : Nat} (o : Ar h b t n) : Ar (i_Watch a h) b t n := by
  unfold i_Watch
  exact (Ar.sR (Ar.new (Ar.sR (Ar.new (Ar.sR (Ar.new o))))))
theorem hn_Watch {h : PH} {a : Nat} {n : Nat} (e : hN h = n) : hN (i_Watch a h) = n + 3 := by
  unfold i_Watch
  exact (hn_sR (hn_new (hn_sR (hn_new (hn_sR (hn_new e))))))
theorem lt_Watch {h : PH} {a : Nat} {b : Nat} (o : b < hN h) : b < hN (i_Watch a h) := by
  rw [hn_Watch rfl]
  omega
theorem hd_Watch {h : PH} {a : Nat} {b k v : Nat} (hne : b ≠ a) (e : Hd h b k v) : Hd (i_Watch a h) b k v := by
  unfold i_Watch
  exact (Hd.sR (Or.inl hne) (Hd.new (Hd.sR (Or.inl hne) (Hd.new (Hd.sR (Or.inl hne) (Hd.new e))))))
theorem okA_Watch {h : PH} {a : Nat} {b : Nat} (o : okA (hN h) b) : okA (hN (i_Watch a h)) b := by
  rw [hn_Watch rfl]
  exact okA_up o (Nat.le_add_right _ _)
set_option maxRecDepth 20000 in
theorem kI_Watch {g : GX} {h : PH} {a : Nat} (oa : Ob h a 8) (hb : hN h + 3 < 1000000) : Cn g mdX9_init [.ref a] h none (i_Watch a h) := by
  refine Cn.of (by decide) (Nat.le_of_ble_eq_true rfl) ?_
  show Rn g mdX9_init 0 [some (.ref a)] [] h 0 0 none (i_Watch a h)
  have hn : hN h = hN h := rfl
  refine o_aload_n (pc := 0) dX9_init_0 rfl ?_
  refine o_objInit (pc := 1) loX9_7 dX9_init_1 (by decide) (Nat.le_of_ble_eq_true rfl) ?_
  show Rn g mdX9_init 4 [some (.ref a)] [] h 0 0 none (i_Watch a h)
  refine o_aload_n (pc := 4) dX9_init_4 rfl ?_
  refine o_bipush (pc := 5) (v := 98) dX9_init_5 rfl ?_
  refine o_newaX (pc := 7) (t := 0) (N := 98) (q := hN h) hn (by decide) rfl la0 dX9_init_7 (by decide) rfl (by decide) (by omega) (by decide) (by decide) (okLs_ref (Or.inl oa.1) okLs_nil) (okSt_ref (Or.inl oa.1) okSt_nil) ?_
  have o0 := Ar.madeX (h := h) (t := 0) (n := 98) hn
  generalize e1 : hNew h (.inr (0, 98)) = H1
  replace oa := Ob.new (z := .inr (0, 98)) oa
  rw [e1] at oa
  replace hn := hn_new (z := .inr (0, 98)) hn
  rw [e1] at hn
  rw [e1] at o0
  show Rn g mdX9_init 9 [some (.ref a)] [.ref (hN h), .ref a] H1 1 98 none (i_Watch a h)
  refine o_putRF (pc := 9) (ci := 8) (k := 0) (by decide) (by decide) rfl lgX9_13 rfl ⟨rfl, rfl⟩ dX9_init_9 oa.1 oa.2 (Or.inl o0.1) ?_
  generalize e2 : sR H1 a 0 (some (hN h)) = H2
  replace oa := Ob.sR (i := a) (j := 0) (x := some (hN h)) oa
  rw [e2] at oa
  replace o0 := Ar.sR (i := a) (j := 0) (x := some (hN h)) o0
  rw [e2] at o0
  replace hn := hn_sR (i := a) (j := 0) (x := some (hN h)) hn
  rw [e2] at hn
  show Rn g mdX9_init 12 [some (.ref a)] [] H2 1 98 none (i_Watch a h)
  refine o_aload_n (pc := 12) dX9_init_12 rfl ?_
  refine o_sipush (pc := 13) (v := 279) dX9_init_13 rfl ?_
  refine o_newaX (pc := 16) (t := 0) (N := 279) (q := hN h + 1) hn (by decide) rfl la0 dX9_init_16 (by decide) rfl (by decide) (by omega) (by decide) (by decide) (okLs_ref (Or.inl oa.1) okLs_nil) (okSt_ref (Or.inl oa.1) okSt_nil) ?_
  have o1 := Ar.madeX (h := H2) (t := 0) (n := 279) hn
  generalize e3 : hNew H2 (.inr (0, 279)) = H3
  replace oa := Ob.new (z := .inr (0, 279)) oa
  rw [e3] at oa
  replace o0 := Ar.new (z := .inr (0, 279)) o0
  rw [e3] at o0
  replace hn := hn_new (z := .inr (0, 279)) hn
  rw [e3] at hn
  rw [e3] at o1
  show Rn g mdX9_init 18 [some (.ref a)] [.ref (hN h + 1), .ref a] H3 2 377 none (i_Watch a h)
  refine o_putRF (pc := 18) (ci := 8) (k := 1) (by decide) (by decide) rfl lgX9_17 rfl ⟨rfl, rfl⟩ dX9_init_18 oa.1 oa.2 (Or.inl o1.1) ?_
  generalize e4 : sR H3 a 1 (some (hN h + 1)) = H4
  replace oa := Ob.sR (i := a) (j := 1) (x := some (hN h + 1)) oa
  rw [e4] at oa
  replace o0 := Ar.sR (i := a) (j := 1) (x := some (hN h + 1)) o0
  rw [e4] at o0
  replace o1 := Ar.sR (i := a) (j := 1) (x := some (hN h + 1)) o1
  rw [e4] at o1
  replace hn := hn_sR (i := a) (j := 1) (x := some (hN h + 1)) hn
  rw [e4] at hn
  show Rn g mdX9_init 21 [some (.ref a)] [] H4 2 377 none (i_Watch a h)
  refine o_aload_n (pc := 21) dX9_init_21 rfl ?_
  refine o_sipush (pc := 22) (v := 1000) dX9_init_22 rfl ?_
  refine o_newaX (pc := 25) (t := 0) (N := 1000) (q := hN h + 2) hn (by decide) rfl la0 dX9_init_25 (by decide) rfl (by decide) (by omega) (by decide) (by decide) (okLs_ref (Or.inl oa.1) okLs_nil) (okSt_ref (Or.inl oa.1) okSt_nil) ?_
  have o2 := Ar.madeX (h := H4) (t := 0) (n := 1000) hn
  generalize e5 : hNew H4 (.inr (0, 1000)) = H5
  replace oa := Ob.new (z := .inr (0, 1000)) oa
  rw [e5] at oa
  replace o0 := Ar.new (z := .inr (0, 1000)) o0
  rw [e5] at o0
  replace o1 := Ar.new (z := .inr (0, 1000)) o1
  rw [e5] at o1
  replace hn := hn_new (z := .inr (0, 1000)) hn
  rw [e5] at hn
  rw [e5] at o2
  show Rn g mdX9_init 27 [some (.ref a)] [.ref (hN h + 2), .ref a] H5 3 1377 none (i_Watch a h)
  refine o_putRF (pc := 27) (ci := 8) (k := 2) (by decide) (by decide) rfl lgX9_20 rfl ⟨rfl, rfl⟩ dX9_init_27 oa.1 oa.2 (Or.inl o2.1) ?_
  generalize e6 : sR H5 a 2 (some (hN h + 2)) = H6
  replace oa := Ob.sR (i := a) (j := 2) (x := some (hN h + 2)) oa
  rw [e6] at oa
  replace o0 := Ar.sR (i := a) (j := 2) (x := some (hN h + 2)) o0
  rw [e6] at o0
  replace o1 := Ar.sR (i := a) (j := 2) (x := some (hN h + 2)) o1
  rw [e6] at o1
  replace o2 := Ar.sR (i := a) (j := 2) (x := some (hN h + 2)) o2
  rw [e6] at o2
  replace hn := hn_sR (i := a) (j := 2) (x := some (hN h + 2)) hn
  rw [e6] at hn
  show Rn g mdX9_init 30 [some (.ref a)] [] H6 3 1377 none (i_Watch a h)
  subst e1
  subst e2
  subst e3
  subst e4
  subst e5
  subst e6
  exact o_return (pc := 30) dX9_init_30 rfl (by decide) (by decide)
def i_TownReader (a : Nat) (p0 : Nat) (h : PH) : PH := sR (sI (sR (i_Town (hN h) (hNew h (.inl 6))) a 1 (some (hN h))) a 2 0) a 0 (some (p0))
theorem ob_TownReader {h : PH} {a : Nat} {p0 : Nat} {b ci : Nat} (o : Ob h b ci) : Ob (i_TownReader a p0 h) b ci := by
  unfold i_TownReader
  exact (Ob.sR (Ob.sI (Ob.sR (ob_Town (Ob.new o)))))
theorem ar_TownReader {h : PH} {a : Nat} {p0 : Nat} {b t n : Nat} (o : Ar h b t n) : Ar (i_TownReader a p0 h) b t n := by
  unfold i_TownReader
  exact (Ar.sR (Ar.sI (Ar.sR (ar_Town (Ar.new o)))))
theorem hn_TownReader {h : PH} {a : Nat} {p0 : Nat} {n : Nat} (e : hN h = n) : hN (i_TownReader a p0 h) = n + 7 := by
  unfold i_TownReader
  exact (hn_sR (hn_sI (hn_sR (hn_Town (hn_new e)))))
theorem lt_TownReader {h : PH} {a : Nat} {p0 : Nat} {b : Nat} (o : b < hN h) : b < hN (i_TownReader a p0 h) := by
  rw [hn_TownReader rfl]
  omega
theorem hd_TownReader {h : PH} {a : Nat} {p0 : Nat} {b k v : Nat} (hne : b ≠ a) (e : Hd h b k v) : Hd (i_TownReader a p0 h) b k v := by
  unfold i_TownReader
  exact (Hd.sR (Or.inl hne) (Hd.sI (Hd.sR (Or.inl hne) (hd_Town (by have := e.1; omega) (Hd.new e)))))
theorem okA_TownReader {h : PH} {a : Nat} {p0 : Nat} {b : Nat} (o : okA (hN h) b) : okA (hN (i_TownReader a p0 h)) b := by
  rw [hn_TownReader rfl]
  exact okA_up o (Nat.le_add_right _ _)
set_option maxRecDepth 20000 in
theorem kI_TownReader {g : GX} {h : PH} {a : Nat} {p0 : Nat} (oa : Ob h a 7) (l0 : okA (hN h) p0) (hb : hN h + 7 < 1000000) : Cn g mdX8_init [.ref a, .ref p0] h none (i_TownReader a p0 h) := by
  refine Cn.of (by decide) (Nat.le_of_ble_eq_true rfl) ?_
  show Rn g mdX8_init 0 [some (.ref a), some (.ref p0)] [] h 0 0 none (i_TownReader a p0 h)
  have hn : hN h = hN h := rfl
  refine o_aload_n (pc := 0) dX8_init_0 rfl ?_
  refine o_objInit (pc := 1) loX8_3 dX8_init_1 (by decide) (Nat.le_of_ble_eq_true rfl) ?_
  show Rn g mdX8_init 4 [some (.ref a), some (.ref p0)] [] h 0 0 none (i_TownReader a p0 h)
  refine o_aload_n (pc := 4) dX8_init_4 rfl ?_
  refine o_newX (pc := 5) (ci := 6) (q := hN h) hn (by decide) lnX8_9 dX8_init_5 (by omega) (by decide) (by decide) (okLs_ref (Or.inl oa.1) (okLs_ref l0 okLs_nil)) (okSt_ref (Or.inl oa.1) okSt_nil) ?_
  have o0 := Ob.madeX (h := h) (ci := 6) hn
  generalize e1 : hNew h (.inl 6) = H1
  replace oa := Ob.new (z := .inl 6) oa
  rw [e1] at oa
  replace hn := hn_new (z := .inl 6) hn
  rw [e1] at hn
  replace l0 := okA_new (h := h) (z := .inl 6) l0
  rw [e1] at l0
  rw [e1] at o0
  show Rn g mdX8_init 8 [some (.ref a), some (.ref p0)] [.ref (hN h), .ref a] H1 1 15 none (i_TownReader a p0 h)
  refine o_dup (pc := 8) dX8_init_8 rfl ?_
  refine o_callI (pc := 9) (vs := []) dX8_init_9 (kI_Town o0 (by omega)) stX8_11 ⟨by decide, by decide, by decide, by decide⟩ (Nat.le_of_ble_eq_true rfl) (Or.inr ⟨(okLs_ref (Or.inl oa.1) (okLs_ref l0 okLs_nil)), (okSt_ref (Or.inl o0.1) (okSt_ref (Or.inl oa.1) okSt_nil))⟩) ?_
  show Rn g mdX8_init 12 [some (.ref a), some (.ref p0)] [.ref (hN h), .ref a] (i_Town (hN h) H1) 7 57 none (i_TownReader a p0 h)
  generalize e2 : i_Town (hN h) H1 = H2
  replace oa := ob_Town (a := hN h) oa
  rw [e2] at oa
  replace o0 := ob_Town (a := hN h) o0
  rw [e2] at o0
  replace hn := hn_Town (a := hN h) hn
  rw [e2] at hn
  replace l0 := okA_Town (a := hN h) l0
  rw [e2] at l0
  show Rn g mdX8_init 12 [some (.ref a), some (.ref p0)] [.ref (hN h), .ref a] H2 7 57 none (i_TownReader a p0 h)
  refine o_putRF (pc := 12) (ci := 7) (k := 1) (by decide) (by decide) rfl lgX8_12 rfl ⟨rfl, rfl⟩ dX8_init_12 oa.1 oa.2 (Or.inl o0.1) ?_
  generalize e3 : sR H2 a 1 (some (hN h)) = H3
  replace oa := Ob.sR (i := a) (j := 1) (x := some (hN h)) oa
  rw [e3] at oa
  replace o0 := Ob.sR (i := a) (j := 1) (x := some (hN h)) o0
  rw [e3] at o0
  replace hn := hn_sR (i := a) (j := 1) (x := some (hN h)) hn
  rw [e3] at hn
  replace l0 := okA_sR (i := a) (j := 1) (x := some (hN h)) l0
  rw [e3] at l0
  show Rn g mdX8_init 15 [some (.ref a), some (.ref p0)] [] H3 7 57 none (i_TownReader a p0 h)
  refine o_aload_n (pc := 15) dX8_init_15 rfl ?_
  refine o_iconst (pc := 16) (v := 0) dX8_init_16 rfl ?_
  refine o_putI (pc := 17) (ci := 7) (k := 2) (by decide) (by decide) rfl (Or.inl lgX8_18) rfl dX8_init_17 oa.1 oa.2 ⟨rfl, rfl⟩ ?_
  generalize e4 : sI H3 a 2 0 = H4
  replace oa := Ob.sI (i := a) (j := 2) (x := 0) oa
  rw [e4] at oa
  replace o0 := Ob.sI (i := a) (j := 2) (x := 0) o0
  rw [e4] at o0
  replace hn := hn_sI (i := a) (j := 2) (x := 0) hn
  rw [e4] at hn
  replace l0 := okA_sI (i := a) (j := 2) (x := 0) l0
  rw [e4] at l0
  show Rn g mdX8_init 20 [some (.ref a), some (.ref p0)] [] H4 7 57 none (i_TownReader a p0 h)
  refine o_aload_n (pc := 20) dX8_init_20 rfl ?_
  refine o_aload_n (pc := 21) dX8_init_21 rfl ?_
  refine o_putRF (pc := 22) (ci := 7) (k := 0) (by decide) (by decide) rfl lgX8_22 rfl ⟨rfl, rfl⟩ dX8_init_22 oa.1 oa.2 l0 ?_
  generalize e5 : sR H4 a 0 (some (p0)) = H5
  replace oa := Ob.sR (i := a) (j := 0) (x := some (p0)) oa
  rw [e5] at oa
  replace o0 := Ob.sR (i := a) (j := 0) (x := some (p0)) o0
  rw [e5] at o0
  replace hn := hn_sR (i := a) (j := 0) (x := some (p0)) hn
  rw [e5] at hn
  replace l0 := okA_sR (i := a) (j := 0) (x := some (p0)) l0
  rw [e5] at l0
  show Rn g mdX8_init 25 [some (.ref a), some (.ref p0)] [] H5 7 57 none (i_TownReader a p0 h)
  subst e1
  subst e2
  subst e3
  subst e4
  subst e5
  exact o_return (pc := 25) dX8_init_25 rfl (by decide) (by decide)
def i_RuleReader (a : Nat) (p0 : Nat) (h : PH) : PH := sR (sI (sI (sI (sI (sI (sI (sR (hNew (sI (sR (hNew (sR (hNew (sI (sR (hNew h (.inr (0, 400))) a 1 (some (hN h))) a 2 0) (.inr (0, 13))) a 3 (some (hN h + 1))) (.inr (0, 12))) a 4 (some (hN h + 2))) a 5 0) (.inr (0, 64))) a 6 (some (hN h + 3))) a 7 0) a 8 0) a 9 0) a 10 0) a 11 0) a 12 0) a 0 (some (p0))
theorem ob_RuleReader {h : PH} {a : Nat} {p0 : Nat} {b ci : Nat} (o : Ob h b ci) : Ob (i_RuleReader a p0 h) b ci := by
  unfold i_RuleReader
  exact (Ob.sR (Ob.sI (Ob.sI (Ob.sI (Ob.sI (Ob.sI (Ob.sI (Ob.sR (Ob.new (Ob.sI (Ob.sR (Ob.new (Ob.sR (Ob.new (Ob.sI (Ob.sR (Ob.new o)))))))))))))))))
theorem ar_RuleReader {h : PH} {a : Nat} {p0 : Nat} {b t n : Nat} (o : Ar h b t n) : Ar (i_RuleReader a p0 h) b t n := by
  unfold i_RuleReader
  exact (Ar.sR (Ar.sI (Ar.sI (Ar.sI (Ar.sI (Ar.sI (Ar.sI (Ar.sR (Ar.new (Ar.sI (Ar.sR (Ar.new (Ar.sR (Ar.new (Ar.sI (Ar.sR (Ar.new o)))))))))))))))))
theorem hn_RuleReader {h : PH} {a : Nat} {p0 : Nat} {n : Nat} (e : hN h = n) : hN (i_RuleReader a p0 h) = n + 4 := by
  unfold i_RuleReader
  exact (hn_sR (hn_sI (hn_sI (hn_sI (hn_sI (hn_sI (hn_sI (hn_sR (hn_new (hn_sI (hn_sR (hn_new (hn_sR (hn_new (hn_sI (hn_sR (hn_new e)))))))))))))))))
theorem lt_RuleReader {h : PH} {a : Nat} {p0 : Nat} {b : Nat} (o : b < hN h) : b < hN (i_RuleReader a p0 h) := by
  rw [hn_RuleReader rfl]
  omega
theorem hd_RuleReader {h : PH} {a : Nat} {p0 : Nat} {b k v : Nat} (hne : b ≠ a) (e : Hd h b k v) : Hd (i_RuleReader a p0 h) b k v := by
  unfold i_RuleReader
  exact (Hd.sR (Or.inl hne) (Hd.sI (Hd.sI (Hd.sI (Hd.sI (Hd.sI (Hd.sI (Hd.sR (Or.inl hne) (Hd.new (Hd.sI (Hd.sR (Or.inl hne) (Hd.new (Hd.sR (Or.inl hne) (Hd.new (Hd.sI (Hd.sR (Or.inl hne) (Hd.new e)))))))))))))))))
theorem okA_RuleReader {h : PH} {a : Nat} {p0 : Nat} {b : Nat} (o : okA (hN h) b) : okA (hN (i_RuleReader a p0 h)) b := by
  rw [hn_RuleReader rfl]
  exact okA_up o (Nat.le_add_right _ _)
set_option maxRecDepth 20000 in
theorem kI_RuleReader {g : GX} {h : PH} {a : Nat} {p0 : Nat} (oa : Ob h a 3) (l0 : okA (hN h) p0) (hb : hN h + 4 < 1000000) : Cn g mdX3_init [.ref a, .ref p0] h none (i_RuleReader a p0 h) := by
  refine Cn.of (by decide) (Nat.le_of_ble_eq_true rfl) ?_
  show Rn g mdX3_init 0 [some (.ref a), some (.ref p0)] [] h 0 0 none (i_RuleReader a p0 h)
  have hn : hN h = hN h := rfl
  refine o_aload_n (pc := 0) dX3_init_0 rfl ?_
  refine o_objInit (pc := 1) loX3_3 dX3_init_1 (by decide) (Nat.le_of_ble_eq_true rfl) ?_
  show Rn g mdX3_init 4 [some (.ref a), some (.ref p0)] [] h 0 0 none (i_RuleReader a p0 h)
  refine o_aload_n (pc := 4) dX3_init_4 rfl ?_
  refine o_sipush (pc := 5) (v := 400) dX3_init_5 rfl ?_
  refine o_newaX (pc := 8) (t := 0) (N := 400) (q := hN h) hn (by decide) rfl la0 dX3_init_8 (by decide) rfl (by decide) (by omega) (by decide) (by decide) (okLs_ref (Or.inl oa.1) (okLs_ref l0 okLs_nil)) (okSt_ref (Or.inl oa.1) okSt_nil) ?_
  have o0 := Ar.madeX (h := h) (t := 0) (n := 400) hn
  generalize e1 : hNew h (.inr (0, 400)) = H1
  replace oa := Ob.new (z := .inr (0, 400)) oa
  rw [e1] at oa
  replace hn := hn_new (z := .inr (0, 400)) hn
  rw [e1] at hn
  replace l0 := okA_new (h := h) (z := .inr (0, 400)) l0
  rw [e1] at l0
  rw [e1] at o0
  show Rn g mdX3_init 10 [some (.ref a), some (.ref p0)] [.ref (hN h), .ref a] H1 1 400 none (i_RuleReader a p0 h)
  refine o_putRF (pc := 10) (ci := 3) (k := 1) (by decide) (by decide) rfl lgX3_9 rfl ⟨rfl, rfl⟩ dX3_init_10 oa.1 oa.2 (Or.inl o0.1) ?_
  generalize e2 : sR H1 a 1 (some (hN h)) = H2
  replace oa := Ob.sR (i := a) (j := 1) (x := some (hN h)) oa
  rw [e2] at oa
  replace o0 := Ar.sR (i := a) (j := 1) (x := some (hN h)) o0
  rw [e2] at o0
  replace hn := hn_sR (i := a) (j := 1) (x := some (hN h)) hn
  rw [e2] at hn
  replace l0 := okA_sR (i := a) (j := 1) (x := some (hN h)) l0
  rw [e2] at l0
  show Rn g mdX3_init 13 [some (.ref a), some (.ref p0)] [] H2 1 400 none (i_RuleReader a p0 h)
  refine o_aload_n (pc := 13) dX3_init_13 rfl ?_
  refine o_iconst (pc := 14) (v := 0) dX3_init_14 rfl ?_
  refine o_putI (pc := 15) (ci := 3) (k := 2) (by decide) (by decide) rfl (Or.inl lgX3_15) rfl dX3_init_15 oa.1 oa.2 ⟨rfl, rfl⟩ ?_
  generalize e3 : sI H2 a 2 0 = H3
  replace oa := Ob.sI (i := a) (j := 2) (x := 0) oa
  rw [e3] at oa
  replace o0 := Ar.sI (i := a) (j := 2) (x := 0) o0
  rw [e3] at o0
  replace hn := hn_sI (i := a) (j := 2) (x := 0) hn
  rw [e3] at hn
  replace l0 := okA_sI (i := a) (j := 2) (x := 0) l0
  rw [e3] at l0
  show Rn g mdX3_init 18 [some (.ref a), some (.ref p0)] [] H3 1 400 none (i_RuleReader a p0 h)
  refine o_aload_n (pc := 18) dX3_init_18 rfl ?_
  refine o_bipush (pc := 19) (v := 13) dX3_init_19 rfl ?_
  refine o_newaX (pc := 21) (t := 0) (N := 13) (q := hN h + 1) hn (by decide) rfl la0 dX3_init_21 (by decide) rfl (by decide) (by omega) (by decide) (by decide) (okLs_ref (Or.inl oa.1) (okLs_ref l0 okLs_nil)) (okSt_ref (Or.inl oa.1) okSt_nil) ?_
  have o1 := Ar.madeX (h := H3) (t := 0) (n := 13) hn
  generalize e4 : hNew H3 (.inr (0, 13)) = H4
  replace oa := Ob.new (z := .inr (0, 13)) oa
  rw [e4] at oa
  replace o0 := Ar.new (z := .inr (0, 13)) o0
  rw [e4] at o0
  replace hn := hn_new (z := .inr (0, 13)) hn
  rw [e4] at hn
  replace l0 := okA_new (h := H3) (z := .inr (0, 13)) l0
  rw [e4] at l0
  rw [e4] at o1
  show Rn g mdX3_init 23 [some (.ref a), some (.ref p0)] [.ref (hN h + 1), .ref a] H4 2 413 none (i_RuleReader a p0 h)
  refine o_putRF (pc := 23) (ci := 3) (k := 3) (by decide) (by decide) rfl lgX3_19 rfl ⟨rfl, rfl⟩ dX3_init_23 oa.1 oa.2 (Or.inl o1.1) ?_
  generalize e5 : sR H4 a 3 (some (hN h + 1)) = H5
  replace oa := Ob.sR (i := a) (j := 3) (x := some (hN h + 1)) oa
  rw [e5] at oa
  replace o0 := Ar.sR (i := a) (j := 3) (x := some (hN h + 1)) o0
  rw [e5] at o0
  replace o1 := Ar.sR (i := a) (j := 3) (x := some (hN h + 1)) o1
  rw [e5] at o1
  replace hn := hn_sR (i := a) (j := 3) (x := some (hN h + 1)) hn
  rw [e5] at hn
  replace l0 := okA_sR (i := a) (j := 3) (x := some (hN h + 1)) l0
  rw [e5] at l0
  show Rn g mdX3_init 26 [some (.ref a), some (.ref p0)] [] H5 2 413 none (i_RuleReader a p0 h)
  refine o_aload_n (pc := 26) dX3_init_26 rfl ?_
  refine o_bipush (pc := 27) (v := 12) dX3_init_27 rfl ?_
  refine o_newaX (pc := 29) (t := 0) (N := 12) (q := hN h + 2) hn (by decide) rfl la0 dX3_init_29 (by decide) rfl (by decide) (by omega) (by decide) (by decide) (okLs_ref (Or.inl oa.1) (okLs_ref l0 okLs_nil)) (okSt_ref (Or.inl oa.1) okSt_nil) ?_
  have o2 := Ar.madeX (h := H5) (t := 0) (n := 12) hn
  generalize e6 : hNew H5 (.inr (0, 12)) = H6
  replace oa := Ob.new (z := .inr (0, 12)) oa
  rw [e6] at oa
  replace o0 := Ar.new (z := .inr (0, 12)) o0
  rw [e6] at o0
  replace o1 := Ar.new (z := .inr (0, 12)) o1
  rw [e6] at o1
  replace hn := hn_new (z := .inr (0, 12)) hn
  rw [e6] at hn
  replace l0 := okA_new (h := H5) (z := .inr (0, 12)) l0
  rw [e6] at l0
  rw [e6] at o2
  show Rn g mdX3_init 31 [some (.ref a), some (.ref p0)] [.ref (hN h + 2), .ref a] H6 3 425 none (i_RuleReader a p0 h)
  refine o_putRF (pc := 31) (ci := 3) (k := 4) (by decide) (by decide) rfl lgX3_22 rfl ⟨rfl, rfl⟩ dX3_init_31 oa.1 oa.2 (Or.inl o2.1) ?_
  generalize e7 : sR H6 a 4 (some (hN h + 2)) = H7
  replace oa := Ob.sR (i := a) (j := 4) (x := some (hN h + 2)) oa
  rw [e7] at oa
  replace o0 := Ar.sR (i := a) (j := 4) (x := some (hN h + 2)) o0
  rw [e7] at o0
  replace o1 := Ar.sR (i := a) (j := 4) (x := some (hN h + 2)) o1
  rw [e7] at o1
  replace o2 := Ar.sR (i := a) (j := 4) (x := some (hN h + 2)) o2
  rw [e7] at o2
  replace hn := hn_sR (i := a) (j := 4) (x := some (hN h + 2)) hn
  rw [e7] at hn
  replace l0 := okA_sR (i := a) (j := 4) (x := some (hN h + 2)) l0
  rw [e7] at l0
  show Rn g mdX3_init 34 [some (.ref a), some (.ref p0)] [] H7 3 425 none (i_RuleReader a p0 h)
  refine o_aload_n (pc := 34) dX3_init_34 rfl ?_
  refine o_iconst (pc := 35) (v := 0) dX3_init_35 rfl ?_
  refine o_putI (pc := 36) (ci := 3) (k := 5) (by decide) (by decide) rfl (Or.inl lgX3_25) rfl dX3_init_36 oa.1 oa.2 ⟨rfl, rfl⟩ ?_
  generalize e8 : sI H7 a 5 0 = H8
  replace oa := Ob.sI (i := a) (j := 5) (x := 0) oa
  rw [e8] at oa
  replace o0 := Ar.sI (i := a) (j := 5) (x := 0) o0
  rw [e8] at o0
  replace o1 := Ar.sI (i := a) (j := 5) (x := 0) o1
  rw [e8] at o1
  replace o2 := Ar.sI (i := a) (j := 5) (x := 0) o2
  rw [e8] at o2
  replace hn := hn_sI (i := a) (j := 5) (x := 0) hn
  rw [e8] at hn
  replace l0 := okA_sI (i := a) (j := 5) (x := 0) l0
  rw [e8] at l0
  show Rn g mdX3_init 39 [some (.ref a), some (.ref p0)] [] H8 3 425 none (i_RuleReader a p0 h)
  refine o_aload_n (pc := 39) dX3_init_39 rfl ?_
  refine o_bipush (pc := 40) (v := 64) dX3_init_40 rfl ?_
  refine o_newaX (pc := 42) (t := 0) (N := 64) (q := hN h + 3) hn (by decide) rfl la0 dX3_init_42 (by decide) rfl (by decide) (by omega) (by decide) (by decide) (okLs_ref (Or.inl oa.1) (okLs_ref l0 okLs_nil)) (okSt_ref (Or.inl oa.1) okSt_nil) ?_
  have o3 := Ar.madeX (h := H8) (t := 0) (n := 64) hn
  generalize e9 : hNew H8 (.inr (0, 64)) = H9
  replace oa := Ob.new (z := .inr (0, 64)) oa
  rw [e9] at oa
  replace o0 := Ar.new (z := .inr (0, 64)) o0
  rw [e9] at o0
  replace o1 := Ar.new (z := .inr (0, 64)) o1
  rw [e9] at o1
  replace o2 := Ar.new (z := .inr (0, 64)) o2
  rw [e9] at o2
  replace hn := hn_new (z := .inr (0, 64)) hn
  rw [e9] at hn
  replace l0 := okA_new (h := H8) (z := .inr (0, 64)) l0
  rw [e9] at l0
  rw [e9] at o3
  show Rn g mdX3_init 44 [some (.ref a), some (.ref p0)] [.ref (hN h + 3), .ref a] H9 4 489 none (i_RuleReader a p0 h)
  refine o_putRF (pc := 44) (ci := 3) (k := 6) (by decide) (by decide) rfl lgX3_28 rfl ⟨rfl, rfl⟩ dX3_init_44 oa.1 oa.2 (Or.inl o3.1) ?_
  generalize e10 : sR H9 a 6 (some (hN h + 3)) = H10
  replace oa := Ob.sR (i := a) (j := 6) (x := some (hN h + 3)) oa
  rw [e10] at oa
  replace o0 := Ar.sR (i := a) (j := 6) (x := some (hN h + 3)) o0
  rw [e10] at o0
  replace o1 := Ar.sR (i := a) (j := 6) (x := some (hN h + 3)) o1
  rw [e10] at o1
  replace o2 := Ar.sR (i := a) (j := 6) (x := some (hN h + 3)) o2
  rw [e10] at o2
  replace o3 := Ar.sR (i := a) (j := 6) (x := some (hN h + 3)) o3
  rw [e10] at o3
  replace hn := hn_sR (i := a) (j := 6) (x := some (hN h + 3)) hn
  rw [e10] at hn
  replace l0 := okA_sR (i := a) (j := 6) (x := some (hN h + 3)) l0
  rw [e10] at l0
  show Rn g mdX3_init 47 [some (.ref a), some (.ref p0)] [] H10 4 489 none (i_RuleReader a p0 h)
  refine o_aload_n (pc := 47) dX3_init_47 rfl ?_
  refine o_iconst (pc := 48) (v := 0) dX3_init_48 rfl ?_
  refine o_putI (pc := 49) (ci := 3) (k := 7) (by decide) (by decide) rfl (Or.inl lgX3_31) rfl dX3_init_49 oa.1 oa.2 ⟨rfl, rfl⟩ ?_
  generalize e11 : sI H10 a 7 0 = H11
  replace oa := Ob.sI (i := a) (j := 7) (x := 0) oa
  rw [e11] at oa
  replace o0 := Ar.sI (i := a) (j := 7) (x := 0) o0
  rw [e11] at o0
  replace o1 := Ar.sI (i := a) (j := 7) (x := 0) o1
  rw [e11] at o1
  replace o2 := Ar.sI (i := a) (j := 7) (x := 0) o2
  rw [e11] at o2
  replace o3 := Ar.sI (i := a) (j := 7) (x := 0) o3
  rw [e11] at o3
  replace hn := hn_sI (i := a) (j := 7) (x := 0) hn
  rw [e11] at hn
  replace l0 := okA_sI (i := a) (j := 7) (x := 0) l0
  rw [e11] at l0
  show Rn g mdX3_init 52 [some (.ref a), some (.ref p0)] [] H11 4 489 none (i_RuleReader a p0 h)
  refine o_aload_n (pc := 52) dX3_init_52 rfl ?_
  refine o_iconst (pc := 53) (v := 0) dX3_init_53 rfl ?_
  refine o_putI (pc := 54) (ci := 3) (k := 8) (by decide) (by decide) rfl (Or.inl lgX3_34) rfl dX3_init_54 oa.1 oa.2 ⟨rfl, rfl⟩ ?_
  generalize e12 : sI H11 a 8 0 = H12
  replace oa := Ob.sI (i := a) (j := 8) (x := 0) oa
  rw [e12] at oa
  replace o0 := Ar.sI (i := a) (j := 8) (x := 0) o0
  rw [e12] at o0
  replace o1 := Ar.sI (i := a) (j := 8) (x := 0) o1
  rw [e12] at o1
  replace o2 := Ar.sI (i := a) (j := 8) (x := 0) o2
  rw [e12] at o2
  replace o3 := Ar.sI (i := a) (j := 8) (x := 0) o3
  rw [e12] at o3
  replace hn := hn_sI (i := a) (j := 8) (x := 0) hn
  rw [e12] at hn
  replace l0 := okA_sI (i := a) (j := 8) (x := 0) l0
  rw [e12] at l0
  show Rn g mdX3_init 57 [some (.ref a), some (.ref p0)] [] H12 4 489 none (i_RuleReader a p0 h)
  refine o_aload_n (pc := 57) dX3_init_57 rfl ?_
  refine o_iconst (pc := 58) (v := 0) dX3_init_58 rfl ?_
  refine o_putI (pc := 59) (ci := 3) (k := 9) (by decide) (by decide) rfl (Or.inl lgX3_37) rfl dX3_init_59 oa.1 oa.2 ⟨rfl, rfl⟩ ?_
  generalize e13 : sI H12 a 9 0 = H13
  replace oa := Ob.sI (i := a) (j := 9) (x := 0) oa
  rw [e13] at oa
  replace o0 := Ar.sI (i := a) (j := 9) (x := 0) o0
  rw [e13] at o0
  replace o1 := Ar.sI (i := a) (j := 9) (x := 0) o1
  rw [e13] at o1
  replace o2 := Ar.sI (i := a) (j := 9) (x := 0) o2
  rw [e13] at o2
  replace o3 := Ar.sI (i := a) (j := 9) (x := 0) o3
  rw [e13] at o3
  replace hn := hn_sI (i := a) (j := 9) (x := 0) hn
  rw [e13] at hn
  replace l0 := okA_sI (i := a) (j := 9) (x := 0) l0
  rw [e13] at l0
  show Rn g mdX3_init 62 [some (.ref a), some (.ref p0)] [] H13 4 489 none (i_RuleReader a p0 h)
  refine o_aload_n (pc := 62) dX3_init_62 rfl ?_
  refine o_iconst (pc := 63) (v := 0) dX3_init_63 rfl ?_
  refine o_putI (pc := 64) (ci := 3) (k := 10) (by decide) (by decide) rfl (Or.inl lgX3_40) rfl dX3_init_64 oa.1 oa.2 ⟨rfl, rfl⟩ ?_
  generalize e14 : sI H13 a 10 0 = H14
  replace oa := Ob.sI (i := a) (j := 10) (x := 0) oa
  rw [e14] at oa
  replace o0 := Ar.sI (i := a) (j := 10) (x := 0) o0
  rw [e14] at o0
  replace o1 := Ar.sI (i := a) (j := 10) (x := 0) o1
  rw [e14] at o1
  replace o2 := Ar.sI (i := a) (j := 10) (x := 0) o2
  rw [e14] at o2
  replace o3 := Ar.sI (i := a) (j := 10) (x := 0) o3
  rw [e14] at o3
  replace hn := hn_sI (i := a) (j := 10) (x := 0) hn
  rw [e14] at hn
  replace l0 := okA_sI (i := a) (j := 10) (x := 0) l0
  rw [e14] at l0
  show Rn g mdX3_init 67 [some (.ref a), some (.ref p0)] [] H14 4 489 none (i_RuleReader a p0 h)
  refine o_aload_n (pc := 67) dX3_init_67 rfl ?_
  refine o_iconst (pc := 68) (v := 0) dX3_init_68 rfl ?_
  refine o_putI (pc := 69) (ci := 3) (k := 11) (by decide) (by decide) rfl (Or.inl lgX3_43) rfl dX3_init_69 oa.1 oa.2 ⟨rfl, rfl⟩ ?_
  generalize e15 : sI H14 a 11 0 = H15
  replace oa := Ob.sI (i := a) (j := 11) (x := 0) oa
  rw [e15] at oa
  replace o0 := Ar.sI (i := a) (j := 11) (x := 0) o0
  rw [e15] at o0
  replace o1 := Ar.sI (i := a) (j := 11) (x := 0) o1
  rw [e15] at o1
  replace o2 := Ar.sI (i := a) (j := 11) (x := 0) o2
  rw [e15] at o2
  replace o3 := Ar.sI (i := a) (j := 11) (x := 0) o3
  rw [e15] at o3
  replace hn := hn_sI (i := a) (j := 11) (x := 0) hn
  rw [e15] at hn
  replace l0 := okA_sI (i := a) (j := 11) (x := 0) l0
  rw [e15] at l0
  show Rn g mdX3_init 72 [some (.ref a), some (.ref p0)] [] H15 4 489 none (i_RuleReader a p0 h)
  refine o_aload_n (pc := 72) dX3_init_72 rfl ?_
  refine o_iconst (pc := 73) (v := 0) dX3_init_73 rfl ?_
  refine o_putI (pc := 74) (ci := 3) (k := 12) (by decide) (by decide) rfl (Or.inl lgX3_46) rfl dX3_init_74 oa.1 oa.2 ⟨rfl, rfl⟩ ?_
  generalize e16 : sI H15 a 12 0 = H16
  replace oa := Ob.sI (i := a) (j := 12) (x := 0) oa
  rw [e16] at oa
  replace o0 := Ar.sI (i := a) (j := 12) (x := 0) o0
  rw [e16] at o0
  replace o1 := Ar.sI (i := a) (j := 12) (x := 0) o1
  rw [e16] at o1
  replace o2 := Ar.sI (i := a) (j := 12) (x := 0) o2
  rw [e16] at o2
  replace o3 := Ar.sI (i := a) (j := 12) (x := 0) o3
  rw [e16] at o3
  replace hn := hn_sI (i := a) (j := 12) (x := 0) hn
  rw [e16] at hn
  replace l0 := okA_sI (i := a) (j := 12) (x := 0) l0
  rw [e16] at l0
  show Rn g mdX3_init 77 [some (.ref a), some (.ref p0)] [] H16 4 489 none (i_RuleReader a p0 h)
  refine o_aload_n (pc := 77) dX3_init_77 rfl ?_
  refine o_aload_n (pc := 78) dX3_init_78 rfl ?_
  refine o_putRF (pc := 79) (ci := 3) (k := 0) (by decide) (by decide) rfl lgX3_49 rfl ⟨rfl, rfl⟩ dX3_init_79 oa.1 oa.2 l0 ?_
  generalize e17 : sR H16 a 0 (some (p0)) = H17
  replace oa := Ob.sR (i := a) (j := 0) (x := some (p0)) oa
  rw [e17] at oa
  replace o0 := Ar.sR (i := a) (j := 0) (x := some (p0)) o0
  rw [e17] at o0
  replace o1 := Ar.sR (i := a) (j := 0) (x := some (p0)) o1
  rw [e17] at o1
  replace o2 := Ar.sR (i := a) (j := 0) (x := some (p0)) o2
  rw [e17] at o2
  replace o3 := Ar.sR (i := a) (j := 0) (x := some (p0)) o3
  rw [e17] at o3
  replace hn := hn_sR (i := a) (j := 0) (x := some (p0)) hn
  rw [e17] at hn
  replace l0 := okA_sR (i := a) (j := 0) (x := some (p0)) l0
  rw [e17] at l0
  show Rn g mdX3_init 82 [some (.ref a), some (.ref p0)] [] H17 4 489 none (i_RuleReader a p0 h)
  subst e1
  subst e2
  subst e3
  subst e4
  subst e5
  subst e6
  subst e7
  subst e8
  subst e9
  subst e10
  subst e11
  subst e12
  subst e13
  subst e14
  subst e15
  subst e16
  subst e17
  exact o_return (pc := 82) dX3_init_82 rfl (by decide) (by decide)
def i_Whole (a : Nat) (h : PH) : PH := sI (sI (sR (hNew (sR (hNew (sI (sI (sI (sR (i_State (hN h + 7) (hNew (sR (i_Town (hN h) (hNew h (.inl 6))) a 0 (some (hN h))) (.inl 4))) a 1 (some (hN h + 7))) a 2 (-1)) a 3 0) a 4 0) (.inr (0, 30))) a 5 (some (hN h + 9))) (.inr (0, 920))) a 6 (some (hN h + 10))) a 7 0) a 8 0
theorem ob_Whole {h : PH} {a : Nat} {b ci : Nat} (o : Ob h b ci) : Ob (i_Whole a h) b ci := by
  unfold i_Whole
  exact (Ob.sI (Ob.sI (Ob.sR (Ob.new (Ob.sR (Ob.new (Ob.sI (Ob.sI (Ob.sI (Ob.sR (ob_State (Ob.new (Ob.sR (ob_Town (Ob.new o)))))))))))))))
theorem ar_Whole {h : PH} {a : Nat} {b t n : Nat} (o : Ar h b t n) : Ar (i_Whole a h) b t n := by
  unfold i_Whole
  exact (Ar.sI (Ar.sI (Ar.sR (Ar.new (Ar.sR (Ar.new (Ar.sI (Ar.sI (Ar.sI (Ar.sR (ar_State (Ar.new (Ar.sR (ar_Town (Ar.new o)))))))))))))))
theorem hn_Whole {h : PH} {a : Nat} {n : Nat} (e : hN h = n) : hN (i_Whole a h) = n + 11 := by
  unfold i_Whole
  exact (hn_sI (hn_sI (hn_sR (hn_new (hn_sR (hn_new (hn_sI (hn_sI (hn_sI (hn_sR (hn_State (hn_new (hn_sR (hn_Town (hn_new e)))))))))))))))
theorem lt_Whole {h : PH} {a : Nat} {b : Nat} (o : b < hN h) : b < hN (i_Whole a h) := by
  rw [hn_Whole rfl]
  omega
theorem hd_Whole {h : PH} {a : Nat} {b k v : Nat} (hne : b ≠ a) (e : Hd h b k v) : Hd (i_Whole a h) b k v := by
  unfold i_Whole
  exact (Hd.sI (Hd.sI (Hd.sR (Or.inl hne) (Hd.new (Hd.sR (Or.inl hne) (Hd.new (Hd.sI (Hd.sI (Hd.sI (Hd.sR (Or.inl hne) (hd_State (by have := e.1; omega) (Hd.new (Hd.sR (Or.inl hne) (hd_Town (by have := e.1; omega) (Hd.new e)))))))))))))))
theorem okA_Whole {h : PH} {a : Nat} {b : Nat} (o : okA (hN h) b) : okA (hN (i_Whole a h)) b := by
  rw [hn_Whole rfl]
  exact okA_up o (Nat.le_add_right _ _)
theorem Whole_f0 {h : PH} {a n : Nat} (hn : hN h = n) (ha : a < n) : Ob (i_Whole a h) (n) 6 := by
  subst hn
  have ha1 : a < hN h := ha
  unfold i_Whole
  exact (Ob.sI (Ob.sI (Ob.sR (Ob.new (Ob.sR (Ob.new (Ob.sI (Ob.sI (Ob.sI (Ob.sR (ob_State (Ob.new (Ob.sR (ob_Town (Ob.madeX rfl)))))))))))))))
theorem Whole_f1 {h : PH} {a n : Nat} (hn : hN h = n) (ha : a < n) : Ar (i_Whole a h) (n + 1) 0 5 := by
  subst hn
  have ha1 : a < hN h := ha
  unfold i_Whole
  exact (Ar.sI (Ar.sI (Ar.sR (Ar.new (Ar.sR (Ar.new (Ar.sI (Ar.sI (Ar.sI (Ar.sR (ar_State (Ar.new (Ar.sR (Town_f0 (hn_new rfl) (by omega)))))))))))))))
theorem Whole_f2 {h : PH} {a n : Nat} (hn : hN h = n) (ha : a < n) : Hd (i_Whole a h) (n) 9 (n + 1) := by
  subst hn
  have ha1 : a < hN h := ha
  unfold i_Whole
  exact (Hd.sI (Hd.sI (Hd.sR (by first | exact Or.inr (by decide) | exact Or.inl (by omega)) (Hd.new (Hd.sR (by first | exact Or.inr (by decide) | exact Or.inl (by omega)) (Hd.new (Hd.sI (Hd.sI (Hd.sI (Hd.sR (by first | exact Or.inr (by decide) | exact Or.inl (by omega)) (hd_State (by omega) (Hd.new (Hd.sR (by first | exact Or.inr (by decide) | exact Or.inl (by omega)) (Town_f1 (hn_new rfl) (by omega)))))))))))))))
theorem Whole_f3 {h : PH} {a n : Nat} (hn : hN h = n) (ha : a < n) : Ar (i_Whole a h) (n + 2) 0 5 := by
  subst hn
  have ha1 : a < hN h := ha
  unfold i_Whole
  exact (Ar.sI (Ar.sI (Ar.sR (Ar.new (Ar.sR (Ar.new (Ar.sI (Ar.sI (Ar.sI (Ar.sR (ar_State (Ar.new (Ar.sR (Town_f2 (hn_new rfl) (by omega)))))))))))))))
theorem Whole_f4 {h : PH} {a n : Nat} (hn : hN h = n) (ha : a < n) : Hd (i_Whole a h) (n) 10 (n + 2) := by
  subst hn
  have ha1 : a < hN h := ha
  unfold i_Whole
  exact (Hd.sI (Hd.sI (Hd.sR (by first | exact Or.inr (by decide) | exact Or.inl (by omega)) (Hd.new (Hd.sR (by first | exact Or.inr (by decide) | exact Or.inl (by omega)) (Hd.new (Hd.sI (Hd.sI (Hd.sI (Hd.sR (by first | exact Or.inr (by decide) | exact Or.inl (by omega)) (hd_State (by omega) (Hd.new (Hd.sR (by first | exact Or.inr (by decide) | exact Or.inl (by omega)) (Town_f3 (hn_new rfl) (by omega)))))))))))))))
theorem Whole_f5 {h : PH} {a n : Nat} (hn : hN h = n) (ha : a < n) : Ar (i_Whole a h) (n + 3) 0 8 := by
  subst hn
  have ha1 : a < hN h := ha
  unfold i_Whole
  exact (Ar.sI (Ar.sI (Ar.sR (Ar.new (Ar.sR (Ar.new (Ar.sI (Ar.sI (Ar.sI (Ar.sR (ar_State (Ar.new (Ar.sR (Town_f4 (hn_new rfl) (by omega)))))))))))))))
theorem Whole_f6 {h : PH} {a n : Nat} (hn : hN h = n) (ha : a < n) : Hd (i_Whole a h) (n) 11 (n + 3) := by
  subst hn
  have ha1 : a < hN h := ha
  unfold i_Whole
  exact (Hd.sI (Hd.sI (Hd.sR (by first | exact Or.inr (by decide) | exact Or.inl (by omega)) (Hd.new (Hd.sR (by first | exact Or.inr (by decide) | exact Or.inl (by omega)) (Hd.new (Hd.sI (Hd.sI (Hd.sI (Hd.sR (by first | exact Or.inr (by decide) | exact Or.inl (by omega)) (hd_State (by omega) (Hd.new (Hd.sR (by first | exact Or.inr (by decide) | exact Or.inl (by omega)) (Town_f5 (hn_new rfl) (by omega)))))))))))))))
theorem Whole_f7 {h : PH} {a n : Nat} (hn : hN h = n) (ha : a < n) : Ar (i_Whole a h) (n + 4) 0 8 := by
  subst hn
  have ha1 : a < hN h := ha
  unfold i_Whole
  exact (Ar.sI (Ar.sI (Ar.sR (Ar.new (Ar.sR (Ar.new (Ar.sI (Ar.sI (Ar.sI (Ar.sR (ar_State (Ar.new (Ar.sR (Town_f6 (hn_new rfl) (by omega)))))))))))))))
theorem Whole_f8 {h : PH} {a n : Nat} (hn : hN h = n) (ha : a < n) : Hd (i_Whole a h) (n) 12 (n + 4) := by
  subst hn
  have ha1 : a < hN h := ha
  unfold i_Whole
  exact (Hd.sI (Hd.sI (Hd.sR (by first | exact Or.inr (by decide) | exact Or.inl (by omega)) (Hd.new (Hd.sR (by first | exact Or.inr (by decide) | exact Or.inl (by omega)) (Hd.new (Hd.sI (Hd.sI (Hd.sI (Hd.sR (by first | exact Or.inr (by decide) | exact Or.inl (by omega)) (hd_State (by omega) (Hd.new (Hd.sR (by first | exact Or.inr (by decide) | exact Or.inl (by omega)) (Town_f7 (hn_new rfl) (by omega)))))))))))))))
theorem Whole_f9 {h : PH} {a n : Nat} (hn : hN h = n) (ha : a < n) : Ar (i_Whole a h) (n + 5) 0 8 := by
  subst hn
  have ha1 : a < hN h := ha
  unfold i_Whole
  exact (Ar.sI (Ar.sI (Ar.sR (Ar.new (Ar.sR (Ar.new (Ar.sI (Ar.sI (Ar.sI (Ar.sR (ar_State (Ar.new (Ar.sR (Town_f8 (hn_new rfl) (by omega)))))))))))))))
theorem Whole_f10 {h : PH} {a n : Nat} (hn : hN h = n) (ha : a < n) : Hd (i_Whole a h) (n) 13 (n + 5) := by
  subst hn
  have ha1 : a < hN h := ha
  unfold i_Whole
  exact (Hd.sI (Hd.sI (Hd.sR (by first | exact Or.inr (by decide) | exact Or.inl (by omega)) (Hd.new (Hd.sR (by first | exact Or.inr (by decide) | exact Or.inl (by omega)) (Hd.new (Hd.sI (Hd.sI (Hd.sI (Hd.sR (by first | exact Or.inr (by decide) | exact Or.inl (by omega)) (hd_State (by omega) (Hd.new (Hd.sR (by first | exact Or.inr (by decide) | exact Or.inl (by omega)) (Town_f9 (hn_new rfl) (by omega)))))))))))))))
theorem Whole_f11 {h : PH} {a n : Nat} (hn : hN h = n) (ha : a < n) : Ar (i_Whole a h) (n + 6) 0 8 := by
  subst hn
  have ha1 : a < hN h := ha
  unfold i_Whole
  exact (Ar.sI (Ar.sI (Ar.sR (Ar.new (Ar.sR (Ar.new (Ar.sI (Ar.sI (Ar.sI (Ar.sR (ar_State (Ar.new (Ar.sR (Town_f10 (hn_new rfl) (by omega)))))))))))))))
theorem Whole_f12 {h : PH} {a n : Nat} (hn : hN h = n) (ha : a < n) : Hd (i_Whole a h) (n) 14 (n + 6) := by
  subst hn
  have ha1 : a < hN h := ha
  unfold i_Whole
  exact (Hd.sI (Hd.sI (Hd.sR (by first | exact Or.inr (by decide) | exact Or.inl (by omega)) (Hd.new (Hd.sR (by first | exact Or.inr (by decide) | exact Or.inl (by omega)) (Hd.new (Hd.sI (Hd.sI (Hd.sI (Hd.sR (by first | exact Or.inr (by decide) | exact Or.inl (by omega)) (hd_State (by omega) (Hd.new (Hd.sR (by first | exact Or.inr (by decide) | exact Or.inl (by omega)) (Town_f11 (hn_new rfl) (by omega)))))))))))))))
theorem Whole_f13 {h : PH} {a n : Nat} (hn : hN h = n) (ha : a < n) : Hd (i_Whole a h) a 0 (n) := by
  subst hn
  have ha1 : a < hN h := ha
  unfold i_Whole
  exact (Hd.sI (Hd.sI (Hd.sR (by first | exact Or.inr (by decide) | exact Or.inl (by omega)) (Hd.new (Hd.sR (by first | exact Or.inr (by decide) | exact Or.inl (by omega)) (Hd.new (Hd.sI (Hd.sI (Hd.sI (Hd.sR (by first | exact Or.inr (by decide) | exact Or.inl (by omega)) (hd_State (by omega) (Hd.new (Hd_set (lt_Town (lt_new ha1)) (by omega))))))))))))))
theorem Whole_f14 {h : PH} {a n : Nat} (hn : hN h = n) (ha : a < n) : Ob (i_Whole a h) (n + 7) 4 := by
  subst hn
  have ha1 : a < hN h := ha
  unfold i_Whole
  exact (Ob.sI (Ob.sI (Ob.sR (Ob.new (Ob.sR (Ob.new (Ob.sI (Ob.sI (Ob.sI (Ob.sR (ob_State (Ob.madeX (hn_sR (hn_Town (hn_new rfl)))))))))))))))
theorem Whole_f15 {h : PH} {a n : Nat} (hn : hN h = n) (ha : a < n) : Ar (i_Whole a h) (n + 8) 0 46 := by
  subst hn
  have ha1 : a < hN h := ha
  unfold i_Whole
  exact (Ar.sI (Ar.sI (Ar.sR (Ar.new (Ar.sR (Ar.new (Ar.sI (Ar.sI (Ar.sI (Ar.sR (State_f0 (hn_new (hn_sR (hn_Town (hn_new rfl)))) (by omega))))))))))))
theorem Whole_f16 {h : PH} {a n : Nat} (hn : hN h = n) (ha : a < n) : Hd (i_Whole a h) (n + 7) 0 (n + 8) := by
  subst hn
  have ha1 : a < hN h := ha
  unfold i_Whole
  exact (Hd.sI (Hd.sI (Hd.sR (by first | exact Or.inr (by decide) | exact Or.inl (by omega)) (Hd.new (Hd.sR (by first | exact Or.inr (by decide) | exact Or.inl (by omega)) (Hd.new (Hd.sI (Hd.sI (Hd.sI (Hd.sR (by first | exact Or.inr (by decide) | exact Or.inl (by omega)) (State_f1 (hn_new (hn_sR (hn_Town (hn_new rfl)))) (by omega))))))))))))
theorem Whole_f17 {h : PH} {a n : Nat} (hn : hN h = n) (ha : a < n) : Hd (i_Whole a h) a 1 (n + 7) := by
  subst hn
  have ha1 : a < hN h := ha
  unfold i_Whole
  exact (Hd.sI (Hd.sI (Hd.sR (by first | exact Or.inr (by decide) | exact Or.inl (by omega)) (Hd.new (Hd.sR (by first | exact Or.inr (by decide) | exact Or.inl (by omega)) (Hd.new (Hd.sI (Hd.sI (Hd.sI (Hd_set (lt_State (lt_new (lt_sR (lt_Town (lt_new ha1))))) (by omega)))))))))))
theorem Whole_f18 {h : PH} {a n : Nat} (hn : hN h = n) (ha : a < n) : Ar (i_Whole a h) (n + 9) 0 30 := by
  subst hn
  have ha1 : a < hN h := ha
  unfold i_Whole
  exact (Ar.sI (Ar.sI (Ar.sR (Ar.new (Ar.sR (Ar.madeX (hn_sI (hn_sI (hn_sI (hn_sR (hn_State (hn_new (hn_sR (hn_Town (hn_new rfl)))))))))))))))
theorem Whole_f19 {h : PH} {a n : Nat} (hn : hN h = n) (ha : a < n) : Hd (i_Whole a h) a 5 (n + 9) := by
  subst hn
  have ha1 : a < hN h := ha
  unfold i_Whole
  exact (Hd.sI (Hd.sI (Hd.sR (by first | exact Or.inr (by decide) | exact Or.inl (by omega)) (Hd.new (Hd_set (lt_new (lt_sI (lt_sI (lt_sI (lt_sR (lt_State (lt_new (lt_sR (lt_Town (lt_new ha1)))))))))) (by omega))))))
theorem Whole_f20 {h : PH} {a n : Nat} (hn : hN h = n) (ha : a < n) : Ar (i_Whole a h) (n + 10) 0 920 := by
  subst hn
  have ha1 : a < hN h := ha
  unfold i_Whole
  exact (Ar.sI (Ar.sI (Ar.sR (Ar.madeX (hn_sR (hn_new (hn_sI (hn_sI (hn_sI (hn_sR (hn_State (hn_new (hn_sR (hn_Town (hn_new rfl)))))))))))))))
theorem Whole_f21 {h : PH} {a n : Nat} (hn : hN h = n) (ha : a < n) : Hd (i_Whole a h) a 6 (n + 10) := by
  subst hn
  have ha1 : a < hN h := ha
  unfold i_Whole
  exact (Hd.sI (Hd.sI (Hd_set (lt_new (lt_sR (lt_new (lt_sI (lt_sI (lt_sI (lt_sR (lt_State (lt_new (lt_sR (lt_Town (lt_new ha1)))))))))))) (by omega))))
set_option maxRecDepth 20000 in
theorem kI_Whole {g : GX} {h : PH} {a : Nat} (oa : Ob h a 9) (hb : hN h + 11 < 1000000) : Cn g mdX10_init [.ref a] h none (i_Whole a h) := by
  refine Cn.of (by decide) (Nat.le_of_ble_eq_true rfl) ?_
  show Rn g mdX10_init 0 [some (.ref a)] [] h 0 0 none (i_Whole a h)
  have hn : hN h = hN h := rfl
  refine o_aload_n (pc := 0) dX10_init_0 rfl ?_
  refine o_objInit (pc := 1) loX10_3 dX10_init_1 (by decide) (Nat.le_of_ble_eq_true rfl) ?_
  show Rn g mdX10_init 4 [some (.ref a)] [] h 0 0 none (i_Whole a h)
  refine o_aload_n (pc := 4) dX10_init_4 rfl ?_
  refine o_newX (pc := 5) (ci := 6) (q := hN h) hn (by decide) lnX10_9 dX10_init_5 (by omega) (by decide) (by decide) (okLs_ref (Or.inl oa.1) okLs_nil) (okSt_ref (Or.inl oa.1) okSt_nil) ?_
  have o0 := Ob.madeX (h := h) (ci := 6) hn
  generalize e1 : hNew h (.inl 6) = H1
  replace oa := Ob.new (z := .inl 6) oa
  rw [e1] at oa
  replace hn := hn_new (z := .inl 6) hn
  rw [e1] at hn
  rw [e1] at o0
  show Rn g mdX10_init 8 [some (.ref a)] [.ref (hN h), .ref a] H1 1 15 none (i_Whole a h)
  refine o_dup (pc := 8) dX10_init_8 rfl ?_
  refine o_callI (pc := 9) (vs := []) dX10_init_9 (kI_Town o0 (by omega)) stX10_11 ⟨by decide, by decide, by decide, by decide⟩ (Nat.le_of_ble_eq_true rfl) (Or.inr ⟨(okLs_ref (Or.inl oa.1) okLs_nil), (okSt_ref (Or.inl o0.1) (okSt_ref (Or.inl oa.1) okSt_nil))⟩) ?_
  show Rn g mdX10_init 12 [some (.ref a)] [.ref (hN h), .ref a] (i_Town (hN h) H1) 7 57 none (i_Whole a h)
  generalize e2 : i_Town (hN h) H1 = H2
  replace oa := ob_Town (a := hN h) oa
  rw [e2] at oa
  replace o0 := ob_Town (a := hN h) o0
  rw [e2] at o0
  replace hn := hn_Town (a := hN h) hn
  rw [e2] at hn
  show Rn g mdX10_init 12 [some (.ref a)] [.ref (hN h), .ref a] H2 7 57 none (i_Whole a h)
  refine o_putRF (pc := 12) (ci := 9) (k := 0) (by decide) (by decide) rfl lgX10_12 rfl ⟨rfl, rfl⟩ dX10_init_12 oa.1 oa.2 (Or.inl o0.1) ?_
  generalize e3 : sR H2 a 0 (some (hN h)) = H3
  replace oa := Ob.sR (i := a) (j := 0) (x := some (hN h)) oa
  rw [e3] at oa
  replace o0 := Ob.sR (i := a) (j := 0) (x := some (hN h)) o0
  rw [e3] at o0
  replace hn := hn_sR (i := a) (j := 0) (x := some (hN h)) hn
  rw [e3] at hn
  show Rn g mdX10_init 15 [some (.ref a)] [] H3 7 57 none (i_Whole a h)
  refine o_aload_n (pc := 15) dX10_init_15 rfl ?_
  refine o_newX (pc := 16) (ci := 4) (q := hN h + 7) hn (by decide) lnX10_18 dX10_init_16 (by omega) (by decide) (by decide) (okLs_ref (Or.inl oa.1) okLs_nil) (okSt_ref (Or.inl oa.1) okSt_nil) ?_
  have o7 := Ob.madeX (h := H3) (ci := 4) hn
  generalize e4 : hNew H3 (.inl 4) = H4
  replace oa := Ob.new (z := .inl 4) oa
  rw [e4] at oa
  replace o0 := Ob.new (z := .inl 4) o0
  rw [e4] at o0
  replace hn := hn_new (z := .inl 4) hn
  rw [e4] at hn
  rw [e4] at o7
  show Rn g mdX10_init 19 [some (.ref a)] [.ref (hN h + 7), .ref a] H4 8 58 none (i_Whole a h)
  refine o_dup (pc := 19) dX10_init_19 rfl ?_
  refine o_callI (pc := 20) (vs := []) dX10_init_20 (kI_State o7 (by omega)) stX10_20 ⟨by decide, by decide, by decide, by decide⟩ (Nat.le_of_ble_eq_true rfl) (Or.inr ⟨(okLs_ref (Or.inl oa.1) okLs_nil), (okSt_ref (Or.inl o7.1) (okSt_ref (Or.inl oa.1) okSt_nil))⟩) ?_
  show Rn g mdX10_init 23 [some (.ref a)] [.ref (hN h + 7), .ref a] (i_State (hN h + 7) H4) 9 104 none (i_Whole a h)
  generalize e5 : i_State (hN h + 7) H4 = H5
  replace oa := ob_State (a := hN h + 7) oa
  rw [e5] at oa
  replace o0 := ob_State (a := hN h + 7) o0
  rw [e5] at o0
  replace o7 := ob_State (a := hN h + 7) o7
  rw [e5] at o7
  replace hn := hn_State (a := hN h + 7) hn
  rw [e5] at hn
  show Rn g mdX10_init 23 [some (.ref a)] [.ref (hN h + 7), .ref a] H5 9 104 none (i_Whole a h)
  refine o_putRF (pc := 23) (ci := 9) (k := 1) (by decide) (by decide) rfl lgX10_21 rfl ⟨rfl, rfl⟩ dX10_init_23 oa.1 oa.2 (Or.inl o7.1) ?_
  generalize e6 : sR H5 a 1 (some (hN h + 7)) = H6
  replace oa := Ob.sR (i := a) (j := 1) (x := some (hN h + 7)) oa
  rw [e6] at oa
  replace o0 := Ob.sR (i := a) (j := 1) (x := some (hN h + 7)) o0
  rw [e6] at o0
  replace o7 := Ob.sR (i := a) (j := 1) (x := some (hN h + 7)) o7
  rw [e6] at o7
  replace hn := hn_sR (i := a) (j := 1) (x := some (hN h + 7)) hn
  rw [e6] at hn
  show Rn g mdX10_init 26 [some (.ref a)] [] H6 9 104 none (i_Whole a h)
  refine o_aload_n (pc := 26) dX10_init_26 rfl ?_
  refine o_iconst (pc := 27) (v := (-1)) dX10_init_27 rfl ?_
  refine o_putI (pc := 28) (ci := 9) (k := 2) (by decide) (by decide) rfl (Or.inl lgX10_25) rfl dX10_init_28 oa.1 oa.2 ⟨rfl, rfl⟩ ?_
  generalize e7 : sI H6 a 2 (-1) = H7
  replace oa := Ob.sI (i := a) (j := 2) (x := (-1)) oa
  rw [e7] at oa
  replace o0 := Ob.sI (i := a) (j := 2) (x := (-1)) o0
  rw [e7] at o0
  replace o7 := Ob.sI (i := a) (j := 2) (x := (-1)) o7
  rw [e7] at o7
  replace hn := hn_sI (i := a) (j := 2) (x := (-1)) hn
  rw [e7] at hn
  show Rn g mdX10_init 31 [some (.ref a)] [] H7 9 104 none (i_Whole a h)
  refine o_aload_n (pc := 31) dX10_init_31 rfl ?_
  refine o_iconst (pc := 32) (v := 0) dX10_init_32 rfl ?_
  refine o_putI (pc := 33) (ci := 9) (k := 3) (by decide) (by decide) rfl (Or.inl lgX10_29) rfl dX10_init_33 oa.1 oa.2 ⟨rfl, rfl⟩ ?_
  generalize e8 : sI H7 a 3 0 = H8
  replace oa := Ob.sI (i := a) (j := 3) (x := 0) oa
  rw [e8] at oa
  replace o0 := Ob.sI (i := a) (j := 3) (x := 0) o0
  rw [e8] at o0
  replace o7 := Ob.sI (i := a) (j := 3) (x := 0) o7
  rw [e8] at o7
  replace hn := hn_sI (i := a) (j := 3) (x := 0) hn
  rw [e8] at hn
  show Rn g mdX10_init 36 [some (.ref a)] [] H8 9 104 none (i_Whole a h)
  refine o_aload_n (pc := 36) dX10_init_36 rfl ?_
  refine o_iconst (pc := 37) (v := 0) dX10_init_37 rfl ?_
  refine o_putI (pc := 38) (ci := 9) (k := 4) (by decide) (by decide) rfl (Or.inl lgX10_32) rfl dX10_init_38 oa.1 oa.2 ⟨rfl, rfl⟩ ?_
  generalize e9 : sI H8 a 4 0 = H9
  replace oa := Ob.sI (i := a) (j := 4) (x := 0) oa
  rw [e9] at oa
  replace o0 := Ob.sI (i := a) (j := 4) (x := 0) o0
  rw [e9] at o0
  replace o7 := Ob.sI (i := a) (j := 4) (x := 0) o7
  rw [e9] at o7
  replace hn := hn_sI (i := a) (j := 4) (x := 0) hn
  rw [e9] at hn
  show Rn g mdX10_init 41 [some (.ref a)] [] H9 9 104 none (i_Whole a h)
  refine o_aload_n (pc := 41) dX10_init_41 rfl ?_
  refine o_bipush (pc := 42) (v := 30) dX10_init_42 rfl ?_
  refine o_newaX (pc := 44) (t := 0) (N := 30) (q := hN h + 9) hn (by decide) rfl la0 dX10_init_44 (by decide) rfl (by decide) (by omega) (by decide) (by decide) (okLs_ref (Or.inl oa.1) okLs_nil) (okSt_ref (Or.inl oa.1) okSt_nil) ?_
  have o9 := Ar.madeX (h := H9) (t := 0) (n := 30) hn
  generalize e10 : hNew H9 (.inr (0, 30)) = H10
  replace oa := Ob.new (z := .inr (0, 30)) oa
  rw [e10] at oa
  replace o0 := Ob.new (z := .inr (0, 30)) o0
  rw [e10] at o0
  replace o7 := Ob.new (z := .inr (0, 30)) o7
  rw [e10] at o7
  replace hn := hn_new (z := .inr (0, 30)) hn
  rw [e10] at hn
  rw [e10] at o9
  show Rn g mdX10_init 46 [some (.ref a)] [.ref (hN h + 9), .ref a] H10 10 134 none (i_Whole a h)
  refine o_putRF (pc := 46) (ci := 9) (k := 5) (by decide) (by decide) rfl lgX10_35 rfl ⟨rfl, rfl⟩ dX10_init_46 oa.1 oa.2 (Or.inl o9.1) ?_
  generalize e11 : sR H10 a 5 (some (hN h + 9)) = H11
  replace oa := Ob.sR (i := a) (j := 5) (x := some (hN h + 9)) oa
  rw [e11] at oa
  replace o0 := Ob.sR (i := a) (j := 5) (x := some (hN h + 9)) o0
  rw [e11] at o0
  replace o7 := Ob.sR (i := a) (j := 5) (x := some (hN h + 9)) o7
  rw [e11] at o7
  replace o9 := Ar.sR (i := a) (j := 5) (x := some (hN h + 9)) o9
  rw [e11] at o9
  replace hn := hn_sR (i := a) (j := 5) (x := some (hN h + 9)) hn
  rw [e11] at hn
  show Rn g mdX10_init 49 [some (.ref a)] [] H11 10 134 none (i_Whole a h)
  refine o_aload_n (pc := 49) dX10_init_49 rfl ?_
  refine o_sipush (pc := 50) (v := 920) dX10_init_50 rfl ?_
  refine o_newaX (pc := 53) (t := 0) (N := 920) (q := hN h + 10) hn (by decide) rfl la0 dX10_init_53 (by decide) rfl (by decide) (by omega) (by decide) (by decide) (okLs_ref (Or.inl oa.1) okLs_nil) (okSt_ref (Or.inl oa.1) okSt_nil) ?_
  have o10 := Ar.madeX (h := H11) (t := 0) (n := 920) hn
  generalize e12 : hNew H11 (.inr (0, 920)) = H12
  replace oa := Ob.new (z := .inr (0, 920)) oa
  rw [e12] at oa
  replace o0 := Ob.new (z := .inr (0, 920)) o0
  rw [e12] at o0
  replace o7 := Ob.new (z := .inr (0, 920)) o7
  rw [e12] at o7
  replace o9 := Ar.new (z := .inr (0, 920)) o9
  rw [e12] at o9
  replace hn := hn_new (z := .inr (0, 920)) hn
  rw [e12] at hn
  rw [e12] at o10
  show Rn g mdX10_init 55 [some (.ref a)] [.ref (hN h + 10), .ref a] H12 11 1054 none (i_Whole a h)
  refine o_putRF (pc := 55) (ci := 9) (k := 6) (by decide) (by decide) rfl lgX10_39 rfl ⟨rfl, rfl⟩ dX10_init_55 oa.1 oa.2 (Or.inl o10.1) ?_
  generalize e13 : sR H12 a 6 (some (hN h + 10)) = H13
  replace oa := Ob.sR (i := a) (j := 6) (x := some (hN h + 10)) oa
  rw [e13] at oa
  replace o0 := Ob.sR (i := a) (j := 6) (x := some (hN h + 10)) o0
  rw [e13] at o0
  replace o7 := Ob.sR (i := a) (j := 6) (x := some (hN h + 10)) o7
  rw [e13] at o7
  replace o9 := Ar.sR (i := a) (j := 6) (x := some (hN h + 10)) o9
  rw [e13] at o9
  replace o10 := Ar.sR (i := a) (j := 6) (x := some (hN h + 10)) o10
  rw [e13] at o10
  replace hn := hn_sR (i := a) (j := 6) (x := some (hN h + 10)) hn
  rw [e13] at hn
  show Rn g mdX10_init 58 [some (.ref a)] [] H13 11 1054 none (i_Whole a h)
  refine o_aload_n (pc := 58) dX10_init_58 rfl ?_
  refine o_iconst (pc := 59) (v := 0) dX10_init_59 rfl ?_
  refine o_putI (pc := 60) (ci := 9) (k := 7) (by decide) (by decide) rfl (Or.inl lgX10_42) rfl dX10_init_60 oa.1 oa.2 ⟨rfl, rfl⟩ ?_
  generalize e14 : sI H13 a 7 0 = H14
  replace oa := Ob.sI (i := a) (j := 7) (x := 0) oa
  rw [e14] at oa
  replace o0 := Ob.sI (i := a) (j := 7) (x := 0) o0
  rw [e14] at o0
  replace o7 := Ob.sI (i := a) (j := 7) (x := 0) o7
  rw [e14] at o7
  replace o9 := Ar.sI (i := a) (j := 7) (x := 0) o9
  rw [e14] at o9
  replace o10 := Ar.sI (i := a) (j := 7) (x := 0) o10
  rw [e14] at o10
  replace hn := hn_sI (i := a) (j := 7) (x := 0) hn
  rw [e14] at hn
  show Rn g mdX10_init 63 [some (.ref a)] [] H14 11 1054 none (i_Whole a h)
  refine o_aload_n (pc := 63) dX10_init_63 rfl ?_
  refine o_iconst (pc := 64) (v := 0) dX10_init_64 rfl ?_
  refine o_putI (pc := 65) (ci := 9) (k := 8) (by decide) (by decide) rfl (Or.inl lgX10_45) rfl dX10_init_65 oa.1 oa.2 ⟨rfl, rfl⟩ ?_
  generalize e15 : sI H14 a 8 0 = H15
  replace oa := Ob.sI (i := a) (j := 8) (x := 0) oa
  rw [e15] at oa
  replace o0 := Ob.sI (i := a) (j := 8) (x := 0) o0
  rw [e15] at o0
  replace o7 := Ob.sI (i := a) (j := 8) (x := 0) o7
  rw [e15] at o7
  replace o9 := Ar.sI (i := a) (j := 8) (x := 0) o9
  rw [e15] at o9
  replace o10 := Ar.sI (i := a) (j := 8) (x := 0) o10
  rw [e15] at o10
  replace hn := hn_sI (i := a) (j := 8) (x := 0) hn
  rw [e15] at hn
  show Rn g mdX10_init 68 [some (.ref a)] [] H15 11 1054 none (i_Whole a h)
  subst e1
  subst e2
  subst e3
  subst e4
  subst e5
  subst e6
  subst e7
  subst e8
  subst e9
  subst e10
  subst e11
  subst e12
  subst e13
  subst e14
  subst e15
  exact o_return (pc := 68) dX10_init_68 rfl (by decide) (by decide)
def i_Course (a : Nat) (h : PH) : PH := sI (sI (sI (sI (sI (sI (sI (sI (sI (sI (sI (sR (sR (sR (hNew (sR (hNew (sR (hNew (sR (i_DayBook (hN h + 2) (hNew (sR (i_State (hN h) (hNew h (.inl 4))) a 0 (some (hN h))) (.inl 1))) a 1 (some (hN h + 2))) (.inr (0, 5))) a 2 (some (hN h + 10))) (.inr (0, 14))) a 3 (some (hN h + 11))) (.inr (1, 64))) a 4 (some (hN h + 12))) a 5 none) a 6 none) a 7 0) a 8 0) a 9 (-1)) a 10 (-1)) a 11 0) a 12 0) a 13 0) a 14 0) a 15 0) a 16 0) a 17 0
theorem ob_Course {h : PH} {a : Nat} {b ci : Nat} (o : Ob h b ci) : Ob (i_Course a h) b ci := by
  unfold i_Course
  exact (Ob.sI (Ob.sI (Ob.sI (Ob.sI (Ob.sI (Ob.sI (Ob.sI (Ob.sI (Ob.sI (Ob.sI (Ob.sI (Ob.sR (Ob.sR (Ob.sR (Ob.new (Ob.sR (Ob.new (Ob.sR (Ob.new (Ob.sR (ob_DayBook (Ob.new (Ob.sR (ob_State (Ob.new o)))))))))))))))))))))))))
theorem ar_Course {h : PH} {a : Nat} {b t n : Nat} (o : Ar h b t n) : Ar (i_Course a h) b t n := by
  unfold i_Course
  exact (Ar.sI (Ar.sI (Ar.sI (Ar.sI (Ar.sI (Ar.sI (Ar.sI (Ar.sI (Ar.sI (Ar.sI (Ar.sI (Ar.sR (Ar.sR (Ar.sR (Ar.new (Ar.sR (Ar.new (Ar.sR (Ar.new (Ar.sR (ar_DayBook (Ar.new (Ar.sR (ar_State (Ar.new o)))))))))))))))))))))))))
theorem hn_Course {h : PH} {a : Nat} {n : Nat} (e : hN h = n) : hN (i_Course a h) = n + 13 := by
  unfold i_Course
  exact (hn_sI (hn_sI (hn_sI (hn_sI (hn_sI (hn_sI (hn_sI (hn_sI (hn_sI (hn_sI (hn_sI (hn_sR (hn_sR (hn_sR (hn_new (hn_sR (hn_new (hn_sR (hn_new (hn_sR (hn_DayBook (hn_new (hn_sR (hn_State (hn_new e)))))))))))))))))))))))))
theorem lt_Course {h : PH} {a : Nat} {b : Nat} (o : b < hN h) : b < hN (i_Course a h) := by
  rw [hn_Course rfl]
  omega
theorem hd_Course {h : PH} {a : Nat} {b k v : Nat} (hne : b ≠ a) (e : Hd h b k v) : Hd (i_Course a h) b k v := by
  unfold i_Course
  exact (Hd.sI (Hd.sI (Hd.sI (Hd.sI (Hd.sI (Hd.sI (Hd.sI (Hd.sI (Hd.sI (Hd.sI (Hd.sI (Hd.sR (Or.inl hne) (Hd.sR (Or.inl hne) (Hd.sR (Or.inl hne) (Hd.new (Hd.sR (Or.inl hne) (Hd.new (Hd.sR (Or.inl hne) (Hd.new (Hd.sR (Or.inl hne) (hd_DayBook (by have := e.1; omega) (Hd.new (Hd.sR (Or.inl hne) (hd_State (by have := e.1; omega) (Hd.new e)))))))))))))))))))))))))
theorem okA_Course {h : PH} {a : Nat} {b : Nat} (o : okA (hN h) b) : okA (hN (i_Course a h)) b := by
  rw [hn_Course rfl]
  exact okA_up o (Nat.le_add_right _ _)
set_option maxRecDepth 20000 in
theorem kI_Course {g : GX} {h : PH} {a : Nat} (oa : Ob h a 0) (hb : hN h + 13 < 1000000) : Cn g mdX0_init [.ref a] h none (i_Course a h) := by
  refine Cn.of (by decide) (Nat.le_of_ble_eq_true rfl) ?_
  show Rn g mdX0_init 0 [some (.ref a)] [] h 0 0 none (i_Course a h)
  have hn : hN h = hN h := rfl
  refine o_aload_n (pc := 0) dX0_init_0 rfl ?_
  refine o_objInit (pc := 1) loX0_3 dX0_init_1 (by decide) (Nat.le_of_ble_eq_true rfl) ?_
  show Rn g mdX0_init 4 [some (.ref a)] [] h 0 0 none (i_Course a h)
  refine o_aload_n (pc := 4) dX0_init_4 rfl ?_
  refine o_newX (pc := 5) (ci := 4) (q := hN h) hn (by decide) lnX0_9 dX0_init_5 (by omega) (by decide) (by decide) (okLs_ref (Or.inl oa.1) okLs_nil) (okSt_ref (Or.inl oa.1) okSt_nil) ?_
  have o0 := Ob.madeX (h := h) (ci := 4) hn
  generalize e1 : hNew h (.inl 4) = H1
  replace oa := Ob.new (z := .inl 4) oa
  rw [e1] at oa
  replace hn := hn_new (z := .inl 4) hn
  rw [e1] at hn
  rw [e1] at o0
  show Rn g mdX0_init 8 [some (.ref a)] [.ref (hN h), .ref a] H1 1 1 none (i_Course a h)
  refine o_dup (pc := 8) dX0_init_8 rfl ?_
  refine o_callI (pc := 9) (vs := []) dX0_init_9 (kI_State o0 (by omega)) stX0_11 ⟨by decide, by decide, by decide, by decide⟩ (Nat.le_of_ble_eq_true rfl) (Or.inr ⟨(okLs_ref (Or.inl oa.1) okLs_nil), (okSt_ref (Or.inl o0.1) (okSt_ref (Or.inl oa.1) okSt_nil))⟩) ?_
  show Rn g mdX0_init 12 [some (.ref a)] [.ref (hN h), .ref a] (i_State (hN h) H1) 2 47 none (i_Course a h)
  generalize e2 : i_State (hN h) H1 = H2
  replace oa := ob_State (a := hN h) oa
  rw [e2] at oa
  replace o0 := ob_State (a := hN h) o0
  rw [e2] at o0
  replace hn := hn_State (a := hN h) hn
  rw [e2] at hn
  show Rn g mdX0_init 12 [some (.ref a)] [.ref (hN h), .ref a] H2 2 47 none (i_Course a h)
  refine o_putRF (pc := 12) (ci := 0) (k := 0) (by decide) (by decide) rfl lgX0_12 rfl ⟨rfl, rfl⟩ dX0_init_12 oa.1 oa.2 (Or.inl o0.1) ?_
  generalize e3 : sR H2 a 0 (some (hN h)) = H3
  replace oa := Ob.sR (i := a) (j := 0) (x := some (hN h)) oa
  rw [e3] at oa
  replace o0 := Ob.sR (i := a) (j := 0) (x := some (hN h)) o0
  rw [e3] at o0
  replace hn := hn_sR (i := a) (j := 0) (x := some (hN h)) hn
  rw [e3] at hn
  show Rn g mdX0_init 15 [some (.ref a)] [] H3 2 47 none (i_Course a h)
  refine o_aload_n (pc := 15) dX0_init_15 rfl ?_
  refine o_newX (pc := 16) (ci := 1) (q := hN h + 2) hn (by decide) lnX0_18 dX0_init_16 (by omega) (by decide) (by decide) (okLs_ref (Or.inl oa.1) okLs_nil) (okSt_ref (Or.inl oa.1) okSt_nil) ?_
  have o2 := Ob.madeX (h := H3) (ci := 1) hn
  generalize e4 : hNew H3 (.inl 1) = H4
  replace oa := Ob.new (z := .inl 1) oa
  rw [e4] at oa
  replace o0 := Ob.new (z := .inl 1) o0
  rw [e4] at o0
  replace hn := hn_new (z := .inl 1) hn
  rw [e4] at hn
  rw [e4] at o2
  show Rn g mdX0_init 19 [some (.ref a)] [.ref (hN h + 2), .ref a] H4 3 54 none (i_Course a h)
  refine o_dup (pc := 19) dX0_init_19 rfl ?_
  refine o_callI (pc := 20) (vs := []) dX0_init_20 (kI_DayBook o2 (by omega)) stX0_20 ⟨by decide, by decide, by decide, by decide⟩ (Nat.le_of_ble_eq_true rfl) (Or.inr ⟨(okLs_ref (Or.inl oa.1) okLs_nil), (okSt_ref (Or.inl o2.1) (okSt_ref (Or.inl oa.1) okSt_nil))⟩) ?_
  show Rn g mdX0_init 23 [some (.ref a)] [.ref (hN h + 2), .ref a] (i_DayBook (hN h + 2) H4) 10 120 none (i_Course a h)
  generalize e5 : i_DayBook (hN h + 2) H4 = H5
  replace oa := ob_DayBook (a := hN h + 2) oa
  rw [e5] at oa
  replace o0 := ob_DayBook (a := hN h + 2) o0
  rw [e5] at o0
  replace o2 := ob_DayBook (a := hN h + 2) o2
  rw [e5] at o2
  replace hn := hn_DayBook (a := hN h + 2) hn
  rw [e5] at hn
  show Rn g mdX0_init 23 [some (.ref a)] [.ref (hN h + 2), .ref a] H5 10 120 none (i_Course a h)
  refine o_putRF (pc := 23) (ci := 0) (k := 1) (by decide) (by decide) rfl lgX0_21 rfl ⟨rfl, rfl⟩ dX0_init_23 oa.1 oa.2 (Or.inl o2.1) ?_
  generalize e6 : sR H5 a 1 (some (hN h + 2)) = H6
  replace oa := Ob.sR (i := a) (j := 1) (x := some (hN h + 2)) oa
  rw [e6] at oa
  replace o0 := Ob.sR (i := a) (j := 1) (x := some (hN h + 2)) o0
  rw [e6] at o0
  replace o2 := Ob.sR (i := a) (j := 1) (x := some (hN h + 2)) o2
  rw [e6] at o2
  replace hn := hn_sR (i := a) (j := 1) (x := some (hN h + 2)) hn
  rw [e6] at hn
  show Rn g mdX0_init 26 [some (.ref a)] [] H6 10 120 none (i_Course a h)
  refine o_aload_n (pc := 26) dX0_init_26 rfl ?_
  refine o_iconst (pc := 27) (v := 5) dX0_init_27 rfl ?_
  refine o_newaX (pc := 28) (t := 0) (N := 5) (q := hN h + 10) hn (by decide) rfl la0 dX0_init_28 (by decide) rfl (by decide) (by omega) (by decide) (by decide) (okLs_ref (Or.inl oa.1) okLs_nil) (okSt_ref (Or.inl oa.1) okSt_nil) ?_
  have o10 := Ar.madeX (h := H6) (t := 0) (n := 5) hn
  generalize e7 : hNew H6 (.inr (0, 5)) = H7
  replace oa := Ob.new (z := .inr (0, 5)) oa
  rw [e7] at oa
  replace o0 := Ob.new (z := .inr (0, 5)) o0
  rw [e7] at o0
  replace o2 := Ob.new (z := .inr (0, 5)) o2
  rw [e7] at o2
  replace hn := hn_new (z := .inr (0, 5)) hn
  rw [e7] at hn
  rw [e7] at o10
  show Rn g mdX0_init 30 [some (.ref a)] [.ref (hN h + 10), .ref a] H7 11 125 none (i_Course a h)
  refine o_putRF (pc := 30) (ci := 0) (k := 2) (by decide) (by decide) rfl lgX0_25 rfl ⟨rfl, rfl⟩ dX0_init_30 oa.1 oa.2 (Or.inl o10.1) ?_
  generalize e8 : sR H7 a 2 (some (hN h + 10)) = H8
  replace oa := Ob.sR (i := a) (j := 2) (x := some (hN h + 10)) oa
  rw [e8] at oa
  replace o0 := Ob.sR (i := a) (j := 2) (x := some (hN h + 10)) o0
  rw [e8] at o0
  replace o2 := Ob.sR (i := a) (j := 2) (x := some (hN h + 10)) o2
  rw [e8] at o2
  replace o10 := Ar.sR (i := a) (j := 2) (x := some (hN h + 10)) o10
  rw [e8] at o10
  replace hn := hn_sR (i := a) (j := 2) (x := some (hN h + 10)) hn
  rw [e8] at hn
  show Rn g mdX0_init 33 [some (.ref a)] [] H8 11 125 none (i_Course a h)
  refine o_aload_n (pc := 33) dX0_init_33 rfl ?_
  refine o_bipush (pc := 34) (v := 14) dX0_init_34 rfl ?_
  refine o_newaX (pc := 36) (t := 0) (N := 14) (q := hN h + 11) hn (by decide) rfl la0 dX0_init_36 (by decide) rfl (by decide) (by omega) (by decide) (by decide) (okLs_ref (Or.inl oa.1) okLs_nil) (okSt_ref (Or.inl oa.1) okSt_nil) ?_
  have o11 := Ar.madeX (h := H8) (t := 0) (n := 14) hn
  generalize e9 : hNew H8 (.inr (0, 14)) = H9
  replace oa := Ob.new (z := .inr (0, 14)) oa
  rw [e9] at oa
  replace o0 := Ob.new (z := .inr (0, 14)) o0
  rw [e9] at o0
  replace o2 := Ob.new (z := .inr (0, 14)) o2
  rw [e9] at o2
  replace o10 := Ar.new (z := .inr (0, 14)) o10
  rw [e9] at o10
  replace hn := hn_new (z := .inr (0, 14)) hn
  rw [e9] at hn
  rw [e9] at o11
  show Rn g mdX0_init 38 [some (.ref a)] [.ref (hN h + 11), .ref a] H9 12 139 none (i_Course a h)
  refine o_putRF (pc := 38) (ci := 0) (k := 3) (by decide) (by decide) rfl lgX0_31 rfl ⟨rfl, rfl⟩ dX0_init_38 oa.1 oa.2 (Or.inl o11.1) ?_
  generalize e10 : sR H9 a 3 (some (hN h + 11)) = H10
  replace oa := Ob.sR (i := a) (j := 3) (x := some (hN h + 11)) oa
  rw [e10] at oa
  replace o0 := Ob.sR (i := a) (j := 3) (x := some (hN h + 11)) o0
  rw [e10] at o0
  replace o2 := Ob.sR (i := a) (j := 3) (x := some (hN h + 11)) o2
  rw [e10] at o2
  replace o10 := Ar.sR (i := a) (j := 3) (x := some (hN h + 11)) o10
  rw [e10] at o10
  replace o11 := Ar.sR (i := a) (j := 3) (x := some (hN h + 11)) o11
  rw [e10] at o11
  replace hn := hn_sR (i := a) (j := 3) (x := some (hN h + 11)) hn
  rw [e10] at hn
  show Rn g mdX0_init 41 [some (.ref a)] [] H10 12 139 none (i_Course a h)
  refine o_aload_n (pc := 41) dX0_init_41 rfl ?_
  refine o_bipush (pc := 42) (v := 64) dX0_init_42 rfl ?_
  refine o_newaX (pc := 44) (t := 1) (N := 64) (q := hN h + 12) hn (by decide) rfl la1 dX0_init_44 (by decide) rfl (by decide) (by omega) (by decide) (by decide) (okLs_ref (Or.inl oa.1) okLs_nil) (okSt_ref (Or.inl oa.1) okSt_nil) ?_
  have o12 := Ar.madeX (h := H10) (t := 1) (n := 64) hn
  generalize e11 : hNew H10 (.inr (1, 64)) = H11
  replace oa := Ob.new (z := .inr (1, 64)) oa
  rw [e11] at oa
  replace o0 := Ob.new (z := .inr (1, 64)) o0
  rw [e11] at o0
  replace o2 := Ob.new (z := .inr (1, 64)) o2
  rw [e11] at o2
  replace o10 := Ar.new (z := .inr (1, 64)) o10
  rw [e11] at o10
  replace o11 := Ar.new (z := .inr (1, 64)) o11
  rw [e11] at o11
  replace hn := hn_new (z := .inr (1, 64)) hn
  rw [e11] at hn
  rw [e11] at o12
  show Rn g mdX0_init 46 [some (.ref a)] [.ref (hN h + 12), .ref a] H11 13 203 none (i_Course a h)
  refine o_putRF (pc := 46) (ci := 0) (k := 4) (by decide) (by decide) rfl lgX0_34 rfl ⟨rfl, rfl⟩ dX0_init_46 oa.1 oa.2 (Or.inl o12.1) ?_
  generalize e12 : sR H11 a 4 (some (hN h + 12)) = H12
  replace oa := Ob.sR (i := a) (j := 4) (x := some (hN h + 12)) oa
  rw [e12] at oa
  replace o0 := Ob.sR (i := a) (j := 4) (x := some (hN h + 12)) o0
  rw [e12] at o0
  replace o2 := Ob.sR (i := a) (j := 4) (x := some (hN h + 12)) o2
  rw [e12] at o2
  replace o10 := Ar.sR (i := a) (j := 4) (x := some (hN h + 12)) o10
  rw [e12] at o10
  replace o11 := Ar.sR (i := a) (j := 4) (x := some (hN h + 12)) o11
  rw [e12] at o11
  replace o12 := Ar.sR (i := a) (j := 4) (x := some (hN h + 12)) o12
  rw [e12] at o12
  replace hn := hn_sR (i := a) (j := 4) (x := some (hN h + 12)) hn
  rw [e12] at hn
  show Rn g mdX0_init 49 [some (.ref a)] [] H12 13 203 none (i_Course a h)
  refine o_aload_n (pc := 49) dX0_init_49 rfl ?_
  refine o_null (pc := 50) dX0_init_50 ?_
  refine o_putN (pc := 51) (ci := 0) (k := 5) (by decide) (by decide) rfl (Or.inl lgX0_38) rfl dX0_init_51 oa.1 oa.2 ?_
  generalize e13 : sR H12 a 5 none = H13
  replace oa := Ob.sR (i := a) (j := 5) (x := none) oa
  rw [e13] at oa
  replace o0 := Ob.sR (i := a) (j := 5) (x := none) o0
  rw [e13] at o0
  replace o2 := Ob.sR (i := a) (j := 5) (x := none) o2
  rw [e13] at o2
  replace o10 := Ar.sR (i := a) (j := 5) (x := none) o10
  rw [e13] at o10
  replace o11 := Ar.sR (i := a) (j := 5) (x := none) o11
  rw [e13] at o11
  replace o12 := Ar.sR (i := a) (j := 5) (x := none) o12
  rw [e13] at o12
  replace hn := hn_sR (i := a) (j := 5) (x := none) hn
  rw [e13] at hn
  show Rn g mdX0_init 54 [some (.ref a)] [] H13 13 203 none (i_Course a h)
  refine o_aload_n (pc := 54) dX0_init_54 rfl ?_
  refine o_null (pc := 55) dX0_init_55 ?_
  refine o_putN (pc := 56) (ci := 0) (k := 6) (by decide) (by decide) rfl (Or.inl lgX0_42) rfl dX0_init_56 oa.1 oa.2 ?_
  generalize e14 : sR H13 a 6 none = H14
  replace oa := Ob.sR (i := a) (j := 6) (x := none) oa
  rw [e14] at oa
  replace o0 := Ob.sR (i := a) (j := 6) (x := none) o0
  rw [e14] at o0
  replace o2 := Ob.sR (i := a) (j := 6) (x := none) o2
  rw [e14] at o2
  replace o10 := Ar.sR (i := a) (j := 6) (x := none) o10
  rw [e14] at o10
  replace o11 := Ar.sR (i := a) (j := 6) (x := none) o11
  rw [e14] at o11
  replace o12 := Ar.sR (i := a) (j := 6) (x := none) o12
  rw [e14] at o12
  replace hn := hn_sR (i := a) (j := 6) (x := none) hn
  rw [e14] at hn
  show Rn g mdX0_init 59 [some (.ref a)] [] H14 13 203 none (i_Course a h)
  refine o_aload_n (pc := 59) dX0_init_59 rfl ?_
  refine o_iconst (pc := 60) (v := 0) dX0_init_60 rfl ?_
  refine o_putI (pc := 61) (ci := 0) (k := 7) (by decide) (by decide) rfl (Or.inl lgX0_46) rfl dX0_init_61 oa.1 oa.2 ⟨rfl, rfl⟩ ?_
  generalize e15 : sI H14 a 7 0 = H15
  replace oa := Ob.sI (i := a) (j := 7) (x := 0) oa
  rw [e15] at oa
  replace o0 := Ob.sI (i := a) (j := 7) (x := 0) o0
  rw [e15] at o0
  replace o2 := Ob.sI (i := a) (j := 7) (x := 0) o2
  rw [e15] at o2
  replace o10 := Ar.sI (i := a) (j := 7) (x := 0) o10
  rw [e15] at o10
  replace o11 := Ar.sI (i := a) (j := 7) (x := 0) o11
  rw [e15] at o11
  replace o12 := Ar.sI (i := a) (j := 7) (x := 0) o12
  rw [e15] at o12
  replace hn := hn_sI (i := a) (j := 7) (x := 0) hn
  rw [e15] at hn
  show Rn g mdX0_init 64 [some (.ref a)] [] H15 13 203 none (i_Course a h)
  refine o_aload_n (pc := 64) dX0_init_64 rfl ?_
  refine o_iconst (pc := 65) (v := 0) dX0_init_65 rfl ?_
  refine o_putI (pc := 66) (ci := 0) (k := 8) (by decide) (by decide) rfl (Or.inl lgX0_50) rfl dX0_init_66 oa.1 oa.2 ⟨rfl, rfl⟩ ?_
  generalize e16 : sI H15 a 8 0 = H16
  replace oa := Ob.sI (i := a) (j := 8) (x := 0) oa
  rw [e16] at oa
  replace o0 := Ob.sI (i := a) (j := 8) (x := 0) o0
  rw [e16] at o0
  replace o2 := Ob.sI (i := a) (j := 8) (x := 0) o2
  rw [e16] at o2
  replace o10 := Ar.sI (i := a) (j := 8) (x := 0) o10
  rw [e16] at o10
  replace o11 := Ar.sI (i := a) (j := 8) (x := 0) o11
  rw [e16] at o11
  replace o12 := Ar.sI (i := a) (j := 8) (x := 0) o12
  rw [e16] at o12
  replace hn := hn_sI (i := a) (j := 8) (x := 0) hn
  rw [e16] at hn
  show Rn g mdX0_init 69 [some (.ref a)] [] H16 13 203 none (i_Course a h)
  refine o_aload_n (pc := 69) dX0_init_69 rfl ?_
  refine o_iconst (pc := 70) (v := (-1)) dX0_init_70 rfl ?_
  refine o_putI (pc := 71) (ci := 0) (k := 9) (by decide) (by decide) rfl (Or.inl lgX0_53) rfl dX0_init_71 oa.1 oa.2 ⟨rfl, rfl⟩ ?_
  generalize e17 : sI H16 a 9 (-1) = H17
  replace oa := Ob.sI (i := a) (j := 9) (x := (-1)) oa
  rw [e17] at oa
  replace o0 := Ob.sI (i := a) (j := 9) (x := (-1)) o0
  rw [e17] at o0
  replace o2 := Ob.sI (i := a) (j := 9) (x := (-1)) o2
  rw [e17] at o2
  replace o10 := Ar.sI (i := a) (j := 9) (x := (-1)) o10
  rw [e17] at o10
  replace o11 := Ar.sI (i := a) (j := 9) (x := (-1)) o11
  rw [e17] at o11
  replace o12 := Ar.sI (i := a) (j := 9) (x := (-1)) o12
  rw [e17] at o12
  replace hn := hn_sI (i := a) (j := 9) (x := (-1)) hn
  rw [e17] at hn
  show Rn g mdX0_init 74 [some (.ref a)] [] H17 13 203 none (i_Course a h)
  refine o_aload_n (pc := 74) dX0_init_74 rfl ?_
  refine o_iconst (pc := 75) (v := (-1)) dX0_init_75 rfl ?_
  refine o_putI (pc := 76) (ci := 0) (k := 10) (by decide) (by decide) rfl (Or.inl lgX0_56) rfl dX0_init_76 oa.1 oa.2 ⟨rfl, rfl⟩ ?_
  generalize e18 : sI H17 a 10 (-1) = H18
  replace oa := Ob.sI (i := a) (j := 10) (x := (-1)) oa
  rw [e18] at oa
  replace o0 := Ob.sI (i := a) (j := 10) (x := (-1)) o0
  rw [e18] at o0
  replace o2 := Ob.sI (i := a) (j := 10) (x := (-1)) o2
  rw [e18] at o2
  replace o10 := Ar.sI (i := a) (j := 10) (x := (-1)) o10
  rw [e18] at o10
  replace o11 := Ar.sI (i := a) (j := 10) (x := (-1)) o11
  rw [e18] at o11
  replace o12 := Ar.sI (i := a) (j := 10) (x := (-1)) o12
  rw [e18] at o12
  replace hn := hn_sI (i := a) (j := 10) (x := (-1)) hn
  rw [e18] at hn
  show Rn g mdX0_init 79 [some (.ref a)] [] H18 13 203 none (i_Course a h)
  refine o_aload_n (pc := 79) dX0_init_79 rfl ?_
  refine o_iconst (pc := 80) (v := 0) dX0_init_80 rfl ?_
  refine o_putI (pc := 81) (ci := 0) (k := 11) (by decide) (by decide) rfl (Or.inl lgX0_59) rfl dX0_init_81 oa.1 oa.2 ⟨rfl, rfl⟩ ?_
  generalize e19 : sI H18 a 11 0 = H19
  replace oa := Ob.sI (i := a) (j := 11) (x := 0) oa
  rw [e19] at oa
  replace o0 := Ob.sI (i := a) (j := 11) (x := 0) o0
  rw [e19] at o0
  replace o2 := Ob.sI (i := a) (j := 11) (x := 0) o2
  rw [e19] at o2
  replace o10 := Ar.sI (i := a) (j := 11) (x := 0) o10
  rw [e19] at o10
  replace o11 := Ar.sI (i := a) (j := 11) (x := 0) o11
  rw [e19] at o11
  replace o12 := Ar.sI (i := a) (j := 11) (x := 0) o12
  rw [e19] at o12
  replace hn := hn_sI (i := a) (j := 11) (x := 0) hn
  rw [e19] at hn
  show Rn g mdX0_init 84 [some (.ref a)] [] H19 13 203 none (i_Course a h)
  refine o_aload_n (pc := 84) dX0_init_84 rfl ?_
  refine o_iconst (pc := 85) (v := 0) dX0_init_85 rfl ?_
  refine o_putI (pc := 86) (ci := 0) (k := 12) (by decide) (by decide) rfl (Or.inl lgX0_62) rfl dX0_init_86 oa.1 oa.2 ⟨rfl, rfl⟩ ?_
  generalize e20 : sI H19 a 12 0 = H20
  replace oa := Ob.sI (i := a) (j := 12) (x := 0) oa
  rw [e20] at oa
  replace o0 := Ob.sI (i := a) (j := 12) (x := 0) o0
  rw [e20] at o0
  replace o2 := Ob.sI (i := a) (j := 12) (x := 0) o2
  rw [e20] at o2
  replace o10 := Ar.sI (i := a) (j := 12) (x := 0) o10
  rw [e20] at o10
  replace o11 := Ar.sI (i := a) (j := 12) (x := 0) o11
  rw [e20] at o11
  replace o12 := Ar.sI (i := a) (j := 12) (x := 0) o12
  rw [e20] at o12
  replace hn := hn_sI (i := a) (j := 12) (x := 0) hn
  rw [e20] at hn
  show Rn g mdX0_init 89 [some (.ref a)] [] H20 13 203 none (i_Course a h)
  refine o_aload_n (pc := 89) dX0_init_89 rfl ?_
  refine o_iconst (pc := 90) (v := 0) dX0_init_90 rfl ?_
  refine o_putI (pc := 91) (ci := 0) (k := 13) (by decide) (by decide) rfl (Or.inl lgX0_65) rfl dX0_init_91 oa.1 oa.2 ⟨rfl, rfl⟩ ?_
  generalize e21 : sI H20 a 13 0 = H21
  replace oa := Ob.sI (i := a) (j := 13) (x := 0) oa
  rw [e21] at oa
  replace o0 := Ob.sI (i := a) (j := 13) (x := 0) o0
  rw [e21] at o0
  replace o2 := Ob.sI (i := a) (j := 13) (x := 0) o2
  rw [e21] at o2
  replace o10 := Ar.sI (i := a) (j := 13) (x := 0) o10
  rw [e21] at o10
  replace o11 := Ar.sI (i := a) (j := 13) (x := 0) o11
  rw [e21] at o11
  replace o12 := Ar.sI (i := a) (j := 13) (x := 0) o12
  rw [e21] at o12
  replace hn := hn_sI (i := a) (j := 13) (x := 0) hn
  rw [e21] at hn
  show Rn g mdX0_init 94 [some (.ref a)] [] H21 13 203 none (i_Course a h)
  refine o_aload_n (pc := 94) dX0_init_94 rfl ?_
  refine o_iconst (pc := 95) (v := 0) dX0_init_95 rfl ?_
  refine o_putI (pc := 96) (ci := 0) (k := 14) (by decide) (by decide) rfl (Or.inl lgX0_69) rfl dX0_init_96 oa.1 oa.2 ⟨rfl, rfl⟩ ?_
  generalize e22 : sI H21 a 14 0 = H22
  replace oa := Ob.sI (i := a) (j := 14) (x := 0) oa
  rw [e22] at oa
  replace o0 := Ob.sI (i := a) (j := 14) (x := 0) o0
  rw [e22] at o0
  replace o2 := Ob.sI (i := a) (j := 14) (x := 0) o2
  rw [e22] at o2
  replace o10 := Ar.sI (i := a) (j := 14) (x := 0) o10
  rw [e22] at o10
  replace o11 := Ar.sI (i := a) (j := 14) (x := 0) o11
  rw [e22] at o11
  replace o12 := Ar.sI (i := a) (j := 14) (x := 0) o12
  rw [e22] at o12
  replace hn := hn_sI (i := a) (j := 14) (x := 0) hn
  rw [e22] at hn
  show Rn g mdX0_init 99 [some (.ref a)] [] H22 13 203 none (i_Course a h)
  refine o_aload_n (pc := 99) dX0_init_99 rfl ?_
  refine o_iconst (pc := 100) (v := 0) dX0_init_100 rfl ?_
  refine o_putI (pc := 101) (ci := 0) (k := 15) (by decide) (by decide) rfl (Or.inl lgX0_72) rfl dX0_init_101 oa.1 oa.2 ⟨rfl, rfl⟩ ?_
  generalize e23 : sI H22 a 15 0 = H23
  replace oa := Ob.sI (i := a) (j := 15) (x := 0) oa
  rw [e23] at oa
  replace o0 := Ob.sI (i := a) (j := 15) (x := 0) o0
  rw [e23] at o0
  replace o2 := Ob.sI (i := a) (j := 15) (x := 0) o2
  rw [e23] at o2
  replace o10 := Ar.sI (i := a) (j := 15) (x := 0) o10
  rw [e23] at o10
  replace o11 := Ar.sI (i := a) (j := 15) (x := 0) o11
  rw [e23] at o11
  replace o12 := Ar.sI (i := a) (j := 15) (x := 0) o12
  rw [e23] at o12
  replace hn := hn_sI (i := a) (j := 15) (x := 0) hn
  rw [e23] at hn
  show Rn g mdX0_init 104 [some (.ref a)] [] H23 13 203 none (i_Course a h)
  refine o_aload_n (pc := 104) dX0_init_104 rfl ?_
  refine o_iconst (pc := 105) (v := 0) dX0_init_105 rfl ?_
  refine o_putI (pc := 106) (ci := 0) (k := 16) (by decide) (by decide) rfl (Or.inl lgX0_75) rfl dX0_init_106 oa.1 oa.2 ⟨rfl, rfl⟩ ?_
  generalize e24 : sI H23 a 16 0 = H24
  replace oa := Ob.sI (i := a) (j := 16) (x := 0) oa
  rw [e24] at oa
  replace o0 := Ob.sI (i := a) (j := 16) (x := 0) o0
  rw [e24] at o0
  replace o2 := Ob.sI (i := a) (j := 16) (x := 0) o2
  rw [e24] at o2
  replace o10 := Ar.sI (i := a) (j := 16) (x := 0) o10
  rw [e24] at o10
  replace o11 := Ar.sI (i := a) (j := 16) (x := 0) o11
  rw [e24] at o11
  replace o12 := Ar.sI (i := a) (j := 16) (x := 0) o12
  rw [e24] at o12
  replace hn := hn_sI (i := a) (j := 16) (x := 0) hn
  rw [e24] at hn
  show Rn g mdX0_init 109 [some (.ref a)] [] H24 13 203 none (i_Course a h)
  refine o_aload_n (pc := 109) dX0_init_109 rfl ?_
  refine o_iconst (pc := 110) (v := 0) dX0_init_110 rfl ?_
  refine o_putI (pc := 111) (ci := 0) (k := 17) (by decide) (by decide) rfl (Or.inl lgX0_78) rfl dX0_init_111 oa.1 oa.2 ⟨rfl, rfl⟩ ?_
  generalize e25 : sI H24 a 17 0 = H25
  replace oa := Ob.sI (i := a) (j := 17) (x := 0) oa
  rw [e25] at oa
  replace o0 := Ob.sI (i := a) (j := 17) (x := 0) o0
  rw [e25] at o0
  replace o2 := Ob.sI (i := a) (j := 17) (x := 0) o2
  rw [e25] at o2
  replace o10 := Ar.sI (i := a) (j := 17) (x := 0) o10
  rw [e25] at o10
  replace o11 := Ar.sI (i := a) (j := 17) (x := 0) o11
  rw [e25] at o11
  replace o12 := Ar.sI (i := a) (j := 17) (x := 0) o12
  rw [e25] at o12
  replace hn := hn_sI (i := a) (j := 17) (x := 0) hn
  rw [e25] at hn
  show Rn g mdX0_init 114 [some (.ref a)] [] H25 13 203 none (i_Course a h)
  subst e1
  subst e2
  subst e3
  subst e4
  subst e5
  subst e6
  subst e7
  subst e8
  subst e9
  subst e10
  subst e11
  subst e12
  subst e13
  subst e14
  subst e15
  subst e16
  subst e17
  subst e18
  subst e19
  subst e20
  subst e21
  subst e22
  subst e23
  subst e24
  subst e25
  exact o_return (pc := 114) dX0_init_114 rfl (by decide) (by decide)
def i_LA (a : Nat) (h : PH) : PH := sR (i_Watch (hN h + 43) (hNew (sR (i_Course (hN h + 29) (hNew (sR (hNew (sR (i_Whole (hN h + 16) (hNew (sI (sR (hNew (sR (i_RuleReader (hN h + 10) (hN h) (hNew (sR (i_TownReader (hN h + 2) (hN h) (hNew (sR (i_Tape (hN h) (hNew h (.inl 5))) a 0 (some (hN h))) (.inl 7))) a 1 (some (hN h + 2))) (.inl 3))) a 2 (some (hN h + 10))) (.inr (4, 6))) a 3 (some (hN h + 15))) a 4 0) (.inl 9))) a 5 (some (hN h + 16))) (.inr (5, 4))) a 6 (some (hN h + 28))) (.inl 0))) a 7 (some (hN h + 29))) (.inl 8))) a 8 (some (hN h + 43))
theorem ob_LA {h : PH} {a : Nat} {b ci : Nat} (o : Ob h b ci) : Ob (i_LA a h) b ci := by
  unfold i_LA
  exact (Ob.sR (ob_Watch (Ob.new (Ob.sR (ob_Course (Ob.new (Ob.sR (Ob.new (Ob.sR (ob_Whole (Ob.new (Ob.sI (Ob.sR (Ob.new (Ob.sR (ob_RuleReader (Ob.new (Ob.sR (ob_TownReader (Ob.new (Ob.sR (ob_Tape (Ob.new o)))))))))))))))))))))))
theorem ar_LA {h : PH} {a : Nat} {b t n : Nat} (o : Ar h b t n) : Ar (i_LA a h) b t n := by
  unfold i_LA
  exact (Ar.sR (ar_Watch (Ar.new (Ar.sR (ar_Course (Ar.new (Ar.sR (Ar.new (Ar.sR (ar_Whole (Ar.new (Ar.sI (Ar.sR (Ar.new (Ar.sR (ar_RuleReader (Ar.new (Ar.sR (ar_TownReader (Ar.new (Ar.sR (ar_Tape (Ar.new o)))))))))))))))))))))))
theorem hn_LA {h : PH} {a : Nat} {n : Nat} (e : hN h = n) : hN (i_LA a h) = n + 47 := by
  unfold i_LA
  exact (hn_sR (hn_Watch (hn_new (hn_sR (hn_Course (hn_new (hn_sR (hn_new (hn_sR (hn_Whole (hn_new (hn_sI (hn_sR (hn_new (hn_sR (hn_RuleReader (hn_new (hn_sR (hn_TownReader (hn_new (hn_sR (hn_Tape (hn_new e)))))))))))))))))))))))
theorem lt_LA {h : PH} {a : Nat} {b : Nat} (o : b < hN h) : b < hN (i_LA a h) := by
  rw [hn_LA rfl]
  omega
theorem hd_LA {h : PH} {a : Nat} {b k v : Nat} (hne : b ≠ a) (e : Hd h b k v) : Hd (i_LA a h) b k v := by
  unfold i_LA
  exact (Hd.sR (Or.inl hne) (hd_Watch (by have := e.1; omega) (Hd.new (Hd.sR (Or.inl hne) (hd_Course (by have := e.1; omega) (Hd.new (Hd.sR (Or.inl hne) (Hd.new (Hd.sR (Or.inl hne) (hd_Whole (by have := e.1; omega) (Hd.new (Hd.sI (Hd.sR (Or.inl hne) (Hd.new (Hd.sR (Or.inl hne) (hd_RuleReader (by have := e.1; omega) (Hd.new (Hd.sR (Or.inl hne) (hd_TownReader (by have := e.1; omega) (Hd.new (Hd.sR (Or.inl hne) (hd_Tape (by have := e.1; omega) (Hd.new e)))))))))))))))))))))))
theorem okA_LA {h : PH} {a : Nat} {b : Nat} (o : okA (hN h) b) : okA (hN (i_LA a h)) b := by
  rw [hn_LA rfl]
  exact okA_up o (Nat.le_add_right _ _)
set_option maxRecDepth 20000 in
theorem kI_LA {g : GX} {h : PH} {a : Nat} (oa : Ob h a 10) (o_lt : a < hN h) (hb : hN h + 47 < 1000000) : Cn g mdX11_init [.ref a] h none (i_LA a h) := by
  refine Cn.of (by decide) (Nat.le_of_ble_eq_true rfl) ?_
  show Rn g mdX11_init 0 [some (.ref a)] [] h 0 0 none (i_LA a h)
  have hn : hN h = hN h := rfl
  refine o_aload_n (pc := 0) dX11_init_0 rfl ?_
  refine o_objInit (pc := 1) loX11_1 dX11_init_1 (by decide) (Nat.le_of_ble_eq_true rfl) ?_
  show Rn g mdX11_init 4 [some (.ref a)] [] h 0 0 none (i_LA a h)
  refine o_aload_n (pc := 4) dX11_init_4 rfl ?_
  refine o_newX (pc := 5) (ci := 5) (q := hN h) hn (by decide) lnX11_7 dX11_init_5 (by omega) (by decide) (by decide) (okLs_ref (Or.inl oa.1) okLs_nil) (okSt_ref (Or.inl oa.1) okSt_nil) ?_
  have o0 := Ob.madeX (h := h) (ci := 5) hn
  generalize e1 : hNew h (.inl 5) = H1
  replace oa := Ob.new (z := .inl 5) oa
  rw [e1] at oa
  replace hn := hn_new (z := .inl 5) hn
  rw [e1] at hn
  rw [e1] at o0
  show Rn g mdX11_init 8 [some (.ref a)] [.ref (hN h), .ref a] H1 1 7 none (i_LA a h)
  refine o_dup (pc := 8) dX11_init_8 rfl ?_
  refine o_callI (pc := 9) (vs := []) dX11_init_9 (kI_Tape o0 (by omega)) stX11_9 ⟨by decide, by decide, by decide, by decide⟩ (Nat.le_of_ble_eq_true rfl) (Or.inr ⟨(okLs_ref (Or.inl oa.1) okLs_nil), (okSt_ref (Or.inl o0.1) (okSt_ref (Or.inl oa.1) okSt_nil))⟩) ?_
  show Rn g mdX11_init 12 [some (.ref a)] [.ref (hN h), .ref a] (i_Tape (hN h) H1) 2 407 none (i_LA a h)
  generalize e2 : i_Tape (hN h) H1 = H2
  replace oa := ob_Tape (a := hN h) oa
  rw [e2] at oa
  replace o0 := ob_Tape (a := hN h) o0
  rw [e2] at o0
  replace hn := hn_Tape (a := hN h) hn
  rw [e2] at hn
  show Rn g mdX11_init 12 [some (.ref a)] [.ref (hN h), .ref a] H2 2 407 none (i_LA a h)
  refine o_putRF (pc := 12) (ci := 10) (k := 0) (by decide) (by decide) rfl lgX11_10 rfl ⟨rfl, rfl⟩ dX11_init_12 oa.1 oa.2 (Or.inl o0.1) ?_
  generalize e3 : sR H2 a 0 (some (hN h)) = H3
  replace oa := Ob.sR (i := a) (j := 0) (x := some (hN h)) oa
  rw [e3] at oa
  replace o0 := Ob.sR (i := a) (j := 0) (x := some (hN h)) o0
  rw [e3] at o0
  replace hn := hn_sR (i := a) (j := 0) (x := some (hN h)) hn
  rw [e3] at hn
  have ht : Hd H3 a 0 (hN h) := ⟨oa.1, by rw [← e3, hR_sR]; rfl⟩
  show Rn g mdX11_init 15 [some (.ref a)] [] H3 2 407 none (i_LA a h)
  refine o_aload_n (pc := 15) dX11_init_15 rfl ?_
  refine o_newX (pc := 16) (ci := 7) (q := hN h + 2) hn (by decide) lnX11_16 dX11_init_16 (by omega) (by decide) (by decide) (okLs_ref (Or.inl oa.1) okLs_nil) (okSt_ref (Or.inl oa.1) okSt_nil) ?_
  have o2 := Ob.madeX (h := H3) (ci := 7) hn
  generalize e4 : hNew H3 (.inl 7) = H4
  replace ht := Hd.new (z := .inl 7) ht
  rw [e4] at ht
  replace oa := Ob.new (z := .inl 7) oa
  rw [e4] at oa
  replace o0 := Ob.new (z := .inl 7) o0
  rw [e4] at o0
  replace hn := hn_new (z := .inl 7) hn
  rw [e4] at hn
  rw [e4] at o2
  show Rn g mdX11_init 19 [some (.ref a)] [.ref (hN h + 2), .ref a] H4 3 410 none (i_LA a h)
  refine o_dup (pc := 19) dX11_init_19 rfl ?_
  refine o_aload_n (pc := 20) dX11_init_20 rfl ?_
  refine o_getR (pc := 21) (ci := 10) (k := 0) (b := hN h) (by decide) (by decide) rfl (Or.inl lgX11_10) dX11_init_21 oa.1 oa.2 ht.2 ?_
  show Rn g mdX11_init 24 [some (.ref a)] [.ref (hN h), .ref (hN h + 2), .ref (hN h + 2), .ref a] H4 3 410 none (i_LA a h)
  refine o_callI (pc := 24) (vs := [.ref (hN h)]) dX11_init_24 (kI_TownReader o2 (Or.inl o0.1) (by omega)) stX11_18 ⟨by decide, by decide, by decide, by decide⟩ (Nat.le_of_ble_eq_true rfl) (Or.inr ⟨(okLs_ref (Or.inl oa.1) okLs_nil), (okSt_ref (Or.inl o2.1) (okSt_ref (Or.inl oa.1) okSt_nil))⟩) ?_
  show Rn g mdX11_init 27 [some (.ref a)] [.ref (hN h + 2), .ref a] (i_TownReader (hN h + 2) (hN h) H4) 10 467 none (i_LA a h)
  generalize e5 : i_TownReader (hN h + 2) (hN h) H4 = H5
  replace ht := hd_TownReader (a := hN h + 2) (p0 := hN h) (by omega) ht
  rw [e5] at ht
  replace oa := ob_TownReader (a := hN h + 2) (p0 := hN h) oa
  rw [e5] at oa
  replace o0 := ob_TownReader (a := hN h + 2) (p0 := hN h) o0
  rw [e5] at o0
  replace o2 := ob_TownReader (a := hN h + 2) (p0 := hN h) o2
  rw [e5] at o2
  replace hn := hn_TownReader (a := hN h + 2) (p0 := hN h) hn
  rw [e5] at hn
  show Rn g mdX11_init 27 [some (.ref a)] [.ref (hN h + 2), .ref a] H5 10 467 none (i_LA a h)
  refine o_putRF (pc := 27) (ci := 10) (k := 1) (by decide) (by decide) rfl lgX11_21 rfl ⟨rfl, rfl⟩ dX11_init_27 oa.1 oa.2 (Or.inl o2.1) ?_
  generalize e6 : sR H5 a 1 (some (hN h + 2)) = H6
  replace ht := Hd.sR (i := a) (j := 1) (x := (some (hN h + 2))) (Or.inr (by decide)) ht
  rw [e6] at ht
  replace oa := Ob.sR (i := a) (j := 1) (x := some (hN h + 2)) oa
  rw [e6] at oa
  replace o0 := Ob.sR (i := a) (j := 1) (x := some (hN h + 2)) o0
  rw [e6] at o0
  replace o2 := Ob.sR (i := a) (j := 1) (x := some (hN h + 2)) o2
  rw [e6] at o2
  replace hn := hn_sR (i := a) (j := 1) (x := some (hN h + 2)) hn
  rw [e6] at hn
  show Rn g mdX11_init 30 [some (.ref a)] [] H6 10 467 none (i_LA a h)
  refine o_aload_n (pc := 30) dX11_init_30 rfl ?_
  refine o_newX (pc := 31) (ci := 3) (q := hN h + 10) hn (by decide) lnX11_25 dX11_init_31 (by omega) (by decide) (by decide) (okLs_ref (Or.inl oa.1) okLs_nil) (okSt_ref (Or.inl oa.1) okSt_nil) ?_
  have o10 := Ob.madeX (h := H6) (ci := 3) hn
  generalize e7 : hNew H6 (.inl 3) = H7
  replace ht := Hd.new (z := .inl 3) ht
  rw [e7] at ht
  replace oa := Ob.new (z := .inl 3) oa
  rw [e7] at oa
  replace o0 := Ob.new (z := .inl 3) o0
  rw [e7] at o0
  replace o2 := Ob.new (z := .inl 3) o2
  rw [e7] at o2
  replace hn := hn_new (z := .inl 3) hn
  rw [e7] at hn
  rw [e7] at o10
  show Rn g mdX11_init 34 [some (.ref a)] [.ref (hN h + 10), .ref a] H7 11 480 none (i_LA a h)
  refine o_dup (pc := 34) dX11_init_34 rfl ?_
  refine o_aload_n (pc := 35) dX11_init_35 rfl ?_
  refine o_getR (pc := 36) (ci := 10) (k := 0) (b := hN h) (by decide) (by decide) rfl (Or.inl lgX11_10) dX11_init_36 oa.1 oa.2 ht.2 ?_
  show Rn g mdX11_init 39 [some (.ref a)] [.ref (hN h), .ref (hN h + 10), .ref (hN h + 10), .ref a] H7 11 480 none (i_LA a h)
  refine o_callI (pc := 39) (vs := [.ref (hN h)]) dX11_init_39 (kI_RuleReader o10 (Or.inl o0.1) (by omega)) stX11_27 ⟨by decide, by decide, by decide, by decide⟩ (Nat.le_of_ble_eq_true rfl) (Or.inr ⟨(okLs_ref (Or.inl oa.1) okLs_nil), (okSt_ref (Or.inl o10.1) (okSt_ref (Or.inl oa.1) okSt_nil))⟩) ?_
  show Rn g mdX11_init 42 [some (.ref a)] [.ref (hN h + 10), .ref a] (i_RuleReader (hN h + 10) (hN h) H7) 15 969 none (i_LA a h)
  generalize e8 : i_RuleReader (hN h + 10) (hN h) H7 = H8
  replace ht := hd_RuleReader (a := hN h + 10) (p0 := hN h) (by omega) ht
  rw [e8] at ht
  replace oa := ob_RuleReader (a := hN h + 10) (p0 := hN h) oa
  rw [e8] at oa
  replace o0 := ob_RuleReader (a := hN h + 10) (p0 := hN h) o0
  rw [e8] at o0
  replace o2 := ob_RuleReader (a := hN h + 10) (p0 := hN h) o2
  rw [e8] at o2
  replace o10 := ob_RuleReader (a := hN h + 10) (p0 := hN h) o10
  rw [e8] at o10
  replace hn := hn_RuleReader (a := hN h + 10) (p0 := hN h) hn
  rw [e8] at hn
  show Rn g mdX11_init 42 [some (.ref a)] [.ref (hN h + 10), .ref a] H8 15 969 none (i_LA a h)
  refine o_putRF (pc := 42) (ci := 10) (k := 2) (by decide) (by decide) rfl lgX11_28 rfl ⟨rfl, rfl⟩ dX11_init_42 oa.1 oa.2 (Or.inl o10.1) ?_
  generalize e9 : sR H8 a 2 (some (hN h + 10)) = H9
  replace ht := Hd.sR (i := a) (j := 2) (x := (some (hN h + 10))) (Or.inr (by decide)) ht
  rw [e9] at ht
  replace oa := Ob.sR (i := a) (j := 2) (x := some (hN h + 10)) oa
  rw [e9] at oa
  replace o0 := Ob.sR (i := a) (j := 2) (x := some (hN h + 10)) o0
  rw [e9] at o0
  replace o2 := Ob.sR (i := a) (j := 2) (x := some (hN h + 10)) o2
  rw [e9] at o2
  replace o10 := Ob.sR (i := a) (j := 2) (x := some (hN h + 10)) o10
  rw [e9] at o10
  replace hn := hn_sR (i := a) (j := 2) (x := some (hN h + 10)) hn
  rw [e9] at hn
  show Rn g mdX11_init 45 [some (.ref a)] [] H9 15 969 none (i_LA a h)
  refine o_aload_n (pc := 45) dX11_init_45 rfl ?_
  refine o_bipush (pc := 46) (v := 6) dX11_init_46 rfl ?_
  refine o_newqX (pc := 48) (t := 4) (N := 6) (q := hN h + 15) (C := RX2) hn (Or.inl ⟨rfl, rfl⟩) lqX11_32 dX11_init_48 (by decide) rfl (by decide) (by omega) (by decide) (by decide) (okLs_ref (Or.inl oa.1) okLs_nil) (okSt_ref (Or.inl oa.1) okSt_nil) ?_
  have o15 := Ar.madeX (h := H9) (t := 4) (n := 6) hn
  generalize e10 : hNew H9 (.inr (4, 6)) = H10
  replace ht := Hd.new (z := .inr (4, 6)) ht
  rw [e10] at ht
  replace oa := Ob.new (z := .inr (4, 6)) oa
  rw [e10] at oa
  replace o0 := Ob.new (z := .inr (4, 6)) o0
  rw [e10] at o0
  replace o2 := Ob.new (z := .inr (4, 6)) o2
  rw [e10] at o2
  replace o10 := Ob.new (z := .inr (4, 6)) o10
  rw [e10] at o10
  replace hn := hn_new (z := .inr (4, 6)) hn
  rw [e10] at hn
  rw [e10] at o15
  show Rn g mdX11_init 51 [some (.ref a)] [.ref (hN h + 15), .ref a] H10 16 975 none (i_LA a h)
  refine o_putRF (pc := 51) (ci := 10) (k := 3) (by decide) (by decide) rfl lgX11_34 rfl ⟨rfl, rfl⟩ dX11_init_51 oa.1 oa.2 (Or.inl o15.1) ?_
  generalize e11 : sR H10 a 3 (some (hN h + 15)) = H11
  replace ht := Hd.sR (i := a) (j := 3) (x := (some (hN h + 15))) (Or.inr (by decide)) ht
  rw [e11] at ht
  replace oa := Ob.sR (i := a) (j := 3) (x := some (hN h + 15)) oa
  rw [e11] at oa
  replace o0 := Ob.sR (i := a) (j := 3) (x := some (hN h + 15)) o0
  rw [e11] at o0
  replace o2 := Ob.sR (i := a) (j := 3) (x := some (hN h + 15)) o2
  rw [e11] at o2
  replace o10 := Ob.sR (i := a) (j := 3) (x := some (hN h + 15)) o10
  rw [e11] at o10
  replace o15 := Ar.sR (i := a) (j := 3) (x := some (hN h + 15)) o15
  rw [e11] at o15
  replace hn := hn_sR (i := a) (j := 3) (x := some (hN h + 15)) hn
  rw [e11] at hn
  show Rn g mdX11_init 54 [some (.ref a)] [] H11 16 975 none (i_LA a h)
  refine o_aload_n (pc := 54) dX11_init_54 rfl ?_
  refine o_iconst (pc := 55) (v := 0) dX11_init_55 rfl ?_
  refine o_putI (pc := 56) (ci := 10) (k := 4) (by decide) (by decide) rfl (Or.inl lgX11_38) rfl dX11_init_56 oa.1 oa.2 ⟨rfl, rfl⟩ ?_
  generalize e12 : sI H11 a 4 0 = H12
  replace ht := Hd.sI (i := a) (j := 4) (x := 0) ht
  rw [e12] at ht
  replace oa := Ob.sI (i := a) (j := 4) (x := 0) oa
  rw [e12] at oa
  replace o0 := Ob.sI (i := a) (j := 4) (x := 0) o0
  rw [e12] at o0
  replace o2 := Ob.sI (i := a) (j := 4) (x := 0) o2
  rw [e12] at o2
  replace o10 := Ob.sI (i := a) (j := 4) (x := 0) o10
  rw [e12] at o10
  replace o15 := Ar.sI (i := a) (j := 4) (x := 0) o15
  rw [e12] at o15
  replace hn := hn_sI (i := a) (j := 4) (x := 0) hn
  rw [e12] at hn
  show Rn g mdX11_init 59 [some (.ref a)] [] H12 16 975 none (i_LA a h)
  refine o_aload_n (pc := 59) dX11_init_59 rfl ?_
  refine o_newX (pc := 60) (ci := 9) (q := hN h + 16) hn (by decide) lnX11_42 dX11_init_60 (by omega) (by decide) (by decide) (okLs_ref (Or.inl oa.1) okLs_nil) (okSt_ref (Or.inl oa.1) okSt_nil) ?_
  have o16 := Ob.madeX (h := H12) (ci := 9) hn
  generalize e13 : hNew H12 (.inl 9) = H13
  replace ht := Hd.new (z := .inl 9) ht
  rw [e13] at ht
  replace oa := Ob.new (z := .inl 9) oa
  rw [e13] at oa
  replace o0 := Ob.new (z := .inl 9) o0
  rw [e13] at o0
  replace o2 := Ob.new (z := .inl 9) o2
  rw [e13] at o2
  replace o10 := Ob.new (z := .inl 9) o10
  rw [e13] at o10
  replace o15 := Ar.new (z := .inl 9) o15
  rw [e13] at o15
  replace hn := hn_new (z := .inl 9) hn
  rw [e13] at hn
  rw [e13] at o16
  show Rn g mdX11_init 63 [some (.ref a)] [.ref (hN h + 16), .ref a] H13 17 984 none (i_LA a h)
  refine o_dup (pc := 63) dX11_init_63 rfl ?_
  refine o_callI (pc := 64) (vs := []) dX11_init_64 (kI_Whole o16 (by omega)) stX11_44 ⟨by decide, by decide, by decide, by decide⟩ (Nat.le_of_ble_eq_true rfl) (Or.inr ⟨(okLs_ref (Or.inl oa.1) okLs_nil), (okSt_ref (Or.inl o16.1) (okSt_ref (Or.inl oa.1) okSt_nil))⟩) ?_
  show Rn g mdX11_init 67 [some (.ref a)] [.ref (hN h + 16), .ref a] (i_Whole (hN h + 16) H13) 28 2038 none (i_LA a h)
  generalize e14 : i_Whole (hN h + 16) H13 = H14
  replace ht := hd_Whole (a := hN h + 16) (by omega) ht
  rw [e14] at ht
  replace oa := ob_Whole (a := hN h + 16) oa
  rw [e14] at oa
  replace o0 := ob_Whole (a := hN h + 16) o0
  rw [e14] at o0
  replace o2 := ob_Whole (a := hN h + 16) o2
  rw [e14] at o2
  replace o10 := ob_Whole (a := hN h + 16) o10
  rw [e14] at o10
  replace o15 := ar_Whole (a := hN h + 16) o15
  rw [e14] at o15
  replace o16 := ob_Whole (a := hN h + 16) o16
  rw [e14] at o16
  replace hn := hn_Whole (a := hN h + 16) hn
  rw [e14] at hn
  show Rn g mdX11_init 67 [some (.ref a)] [.ref (hN h + 16), .ref a] H14 28 2038 none (i_LA a h)
  refine o_putRF (pc := 67) (ci := 10) (k := 5) (by decide) (by decide) rfl lgX11_45 rfl ⟨rfl, rfl⟩ dX11_init_67 oa.1 oa.2 (Or.inl o16.1) ?_
  generalize e15 : sR H14 a 5 (some (hN h + 16)) = H15
  replace ht := Hd.sR (i := a) (j := 5) (x := (some (hN h + 16))) (Or.inr (by decide)) ht
  rw [e15] at ht
  replace oa := Ob.sR (i := a) (j := 5) (x := some (hN h + 16)) oa
  rw [e15] at oa
  replace o0 := Ob.sR (i := a) (j := 5) (x := some (hN h + 16)) o0
  rw [e15] at o0
  replace o2 := Ob.sR (i := a) (j := 5) (x := some (hN h + 16)) o2
  rw [e15] at o2
  replace o10 := Ob.sR (i := a) (j := 5) (x := some (hN h + 16)) o10
  rw [e15] at o10
  replace o15 := Ar.sR (i := a) (j := 5) (x := some (hN h + 16)) o15
  rw [e15] at o15
  replace o16 := Ob.sR (i := a) (j := 5) (x := some (hN h + 16)) o16
  rw [e15] at o16
  replace hn := hn_sR (i := a) (j := 5) (x := some (hN h + 16)) hn
  rw [e15] at hn
  show Rn g mdX11_init 70 [some (.ref a)] [] H15 28 2038 none (i_LA a h)
  refine o_aload_n (pc := 70) dX11_init_70 rfl ?_
  refine o_iconst (pc := 71) (v := 4) dX11_init_71 rfl ?_
  refine o_newqX (pc := 72) (t := 5) (N := 4) (q := hN h + 28) (C := RX10) hn (Or.inr ⟨rfl, rfl⟩) lqX11_42 dX11_init_72 (by decide) rfl (by decide) (by omega) (by decide) (by decide) (okLs_ref (Or.inl oa.1) okLs_nil) (okSt_ref (Or.inl oa.1) okSt_nil) ?_
  have o28 := Ar.madeX (h := H15) (t := 5) (n := 4) hn
  generalize e16 : hNew H15 (.inr (5, 4)) = H16
  replace ht := Hd.new (z := .inr (5, 4)) ht
  rw [e16] at ht
  replace oa := Ob.new (z := .inr (5, 4)) oa
  rw [e16] at oa
  replace o0 := Ob.new (z := .inr (5, 4)) o0
  rw [e16] at o0
  replace o2 := Ob.new (z := .inr (5, 4)) o2
  rw [e16] at o2
  replace o10 := Ob.new (z := .inr (5, 4)) o10
  rw [e16] at o10
  replace o15 := Ar.new (z := .inr (5, 4)) o15
  rw [e16] at o15
  replace o16 := Ob.new (z := .inr (5, 4)) o16
  rw [e16] at o16
  replace hn := hn_new (z := .inr (5, 4)) hn
  rw [e16] at hn
  rw [e16] at o28
  show Rn g mdX11_init 75 [some (.ref a)] [.ref (hN h + 28), .ref a] H16 29 2042 none (i_LA a h)
  refine o_putRF (pc := 75) (ci := 10) (k := 6) (by decide) (by decide) rfl lgX11_49 rfl ⟨rfl, rfl⟩ dX11_init_75 oa.1 oa.2 (Or.inl o28.1) ?_
  generalize e17 : sR H16 a 6 (some (hN h + 28)) = H17
  replace ht := Hd.sR (i := a) (j := 6) (x := (some (hN h + 28))) (Or.inr (by decide)) ht
  rw [e17] at ht
  replace oa := Ob.sR (i := a) (j := 6) (x := some (hN h + 28)) oa
  rw [e17] at oa
  replace o0 := Ob.sR (i := a) (j := 6) (x := some (hN h + 28)) o0
  rw [e17] at o0
  replace o2 := Ob.sR (i := a) (j := 6) (x := some (hN h + 28)) o2
  rw [e17] at o2
  replace o10 := Ob.sR (i := a) (j := 6) (x := some (hN h + 28)) o10
  rw [e17] at o10
  replace o15 := Ar.sR (i := a) (j := 6) (x := some (hN h + 28)) o15
  rw [e17] at o15
  replace o16 := Ob.sR (i := a) (j := 6) (x := some (hN h + 28)) o16
  rw [e17] at o16
  replace o28 := Ar.sR (i := a) (j := 6) (x := some (hN h + 28)) o28
  rw [e17] at o28
  replace hn := hn_sR (i := a) (j := 6) (x := some (hN h + 28)) hn
  rw [e17] at hn
  show Rn g mdX11_init 78 [some (.ref a)] [] H17 29 2042 none (i_LA a h)
  refine o_aload_n (pc := 78) dX11_init_78 rfl ?_
  refine o_newX (pc := 79) (ci := 0) (q := hN h + 29) hn (by decide) lnX11_53 dX11_init_79 (by omega) (by decide) (by decide) (okLs_ref (Or.inl oa.1) okLs_nil) (okSt_ref (Or.inl oa.1) okSt_nil) ?_
  have o29 := Ob.madeX (h := H17) (ci := 0) hn
  generalize e18 : hNew H17 (.inl 0) = H18
  replace ht := Hd.new (z := .inl 0) ht
  rw [e18] at ht
  replace oa := Ob.new (z := .inl 0) oa
  rw [e18] at oa
  replace o0 := Ob.new (z := .inl 0) o0
  rw [e18] at o0
  replace o2 := Ob.new (z := .inl 0) o2
  rw [e18] at o2
  replace o10 := Ob.new (z := .inl 0) o10
  rw [e18] at o10
  replace o15 := Ar.new (z := .inl 0) o15
  rw [e18] at o15
  replace o16 := Ob.new (z := .inl 0) o16
  rw [e18] at o16
  replace o28 := Ar.new (z := .inl 0) o28
  rw [e18] at o28
  replace hn := hn_new (z := .inl 0) hn
  rw [e18] at hn
  rw [e18] at o29
  show Rn g mdX11_init 82 [some (.ref a)] [.ref (hN h + 29), .ref a] H18 30 2060 none (i_LA a h)
  refine o_dup (pc := 82) dX11_init_82 rfl ?_
  refine o_callI (pc := 83) (vs := []) dX11_init_83 (kI_Course o29 (by omega)) stX11_55 ⟨by decide, by decide, by decide, by decide⟩ (Nat.le_of_ble_eq_true rfl) (Or.inr ⟨(okLs_ref (Or.inl oa.1) okLs_nil), (okSt_ref (Or.inl o29.1) (okSt_ref (Or.inl oa.1) okSt_nil))⟩) ?_
  show Rn g mdX11_init 86 [some (.ref a)] [.ref (hN h + 29), .ref a] (i_Course (hN h + 29) H18) 43 2263 none (i_LA a h)
  generalize e19 : i_Course (hN h + 29) H18 = H19
  replace ht := hd_Course (a := hN h + 29) (by omega) ht
  rw [e19] at ht
  replace oa := ob_Course (a := hN h + 29) oa
  rw [e19] at oa
  replace o0 := ob_Course (a := hN h + 29) o0
  rw [e19] at o0
  replace o2 := ob_Course (a := hN h + 29) o2
  rw [e19] at o2
  replace o10 := ob_Course (a := hN h + 29) o10
  rw [e19] at o10
  replace o15 := ar_Course (a := hN h + 29) o15
  rw [e19] at o15
  replace o16 := ob_Course (a := hN h + 29) o16
  rw [e19] at o16
  replace o28 := ar_Course (a := hN h + 29) o28
  rw [e19] at o28
  replace o29 := ob_Course (a := hN h + 29) o29
  rw [e19] at o29
  replace hn := hn_Course (a := hN h + 29) hn
  rw [e19] at hn
  show Rn g mdX11_init 86 [some (.ref a)] [.ref (hN h + 29), .ref a] H19 43 2263 none (i_LA a h)
  refine o_putRF (pc := 86) (ci := 10) (k := 7) (by decide) (by decide) rfl lgX11_56 rfl ⟨rfl, rfl⟩ dX11_init_86 oa.1 oa.2 (Or.inl o29.1) ?_
  generalize e20 : sR H19 a 7 (some (hN h + 29)) = H20
  replace ht := Hd.sR (i := a) (j := 7) (x := (some (hN h + 29))) (Or.inr (by decide)) ht
  rw [e20] at ht
  replace oa := Ob.sR (i := a) (j := 7) (x := some (hN h + 29)) oa
  rw [e20] at oa
  replace o0 := Ob.sR (i := a) (j := 7) (x := some (hN h + 29)) o0
  rw [e20] at o0
  replace o2 := Ob.sR (i := a) (j := 7) (x := some (hN h + 29)) o2
  rw [e20] at o2
  replace o10 := Ob.sR (i := a) (j := 7) (x := some (hN h + 29)) o10
  rw [e20] at o10
  replace o15 := Ar.sR (i := a) (j := 7) (x := some (hN h + 29)) o15
  rw [e20] at o15
  replace o16 := Ob.sR (i := a) (j := 7) (x := some (hN h + 29)) o16
  rw [e20] at o16
  replace o28 := Ar.sR (i := a) (j := 7) (x := some (hN h + 29)) o28
  rw [e20] at o28
  replace o29 := Ob.sR (i := a) (j := 7) (x := some (hN h + 29)) o29
  rw [e20] at o29
  replace hn := hn_sR (i := a) (j := 7) (x := some (hN h + 29)) hn
  rw [e20] at hn
  show Rn g mdX11_init 89 [some (.ref a)] [] H20 43 2263 none (i_LA a h)
  refine o_aload_n (pc := 89) dX11_init_89 rfl ?_
  refine o_newX (pc := 90) (ci := 8) (q := hN h + 43) hn (by decide) lnX11_60 dX11_init_90 (by omega) (by decide) (by decide) (okLs_ref (Or.inl oa.1) okLs_nil) (okSt_ref (Or.inl oa.1) okSt_nil) ?_
  have o43 := Ob.madeX (h := H20) (ci := 8) hn
  generalize e21 : hNew H20 (.inl 8) = H21
  replace ht := Hd.new (z := .inl 8) ht
  rw [e21] at ht
  replace oa := Ob.new (z := .inl 8) oa
  rw [e21] at oa
  replace o0 := Ob.new (z := .inl 8) o0
  rw [e21] at o0
  replace o2 := Ob.new (z := .inl 8) o2
  rw [e21] at o2
  replace o10 := Ob.new (z := .inl 8) o10
  rw [e21] at o10
  replace o15 := Ar.new (z := .inl 8) o15
  rw [e21] at o15
  replace o16 := Ob.new (z := .inl 8) o16
  rw [e21] at o16
  replace o28 := Ar.new (z := .inl 8) o28
  rw [e21] at o28
  replace o29 := Ob.new (z := .inl 8) o29
  rw [e21] at o29
  replace hn := hn_new (z := .inl 8) hn
  rw [e21] at hn
  rw [e21] at o43
  show Rn g mdX11_init 93 [some (.ref a)] [.ref (hN h + 43), .ref a] H21 44 2266 none (i_LA a h)
  refine o_dup (pc := 93) dX11_init_93 rfl ?_
  refine o_callI (pc := 94) (vs := []) dX11_init_94 (kI_Watch o43 (by omega)) stX11_62 ⟨by decide, by decide, by decide, by decide⟩ (Nat.le_of_ble_eq_true rfl) (Or.inr ⟨(okLs_ref (Or.inl oa.1) okLs_nil), (okSt_ref (Or.inl o43.1) (okSt_ref (Or.inl oa.1) okSt_nil))⟩) ?_
  show Rn g mdX11_init 97 [some (.ref a)] [.ref (hN h + 43), .ref a] (i_Watch (hN h + 43) H21) 47 3643 none (i_LA a h)
  generalize e22 : i_Watch (hN h + 43) H21 = H22
  replace ht := hd_Watch (a := hN h + 43) (by omega) ht
  rw [e22] at ht
  replace oa := ob_Watch (a := hN h + 43) oa
  rw [e22] at oa
  replace o0 := ob_Watch (a := hN h + 43) o0
  rw [e22] at o0
  replace o2 := ob_Watch (a := hN h + 43) o2
  rw [e22] at o2
  replace o10 := ob_Watch (a := hN h + 43) o10
  rw [e22] at o10
  replace o15 := ar_Watch (a := hN h + 43) o15
  rw [e22] at o15
  replace o16 := ob_Watch (a := hN h + 43) o16
  rw [e22] at o16
  replace o28 := ar_Watch (a := hN h + 43) o28
  rw [e22] at o28
  replace o29 := ob_Watch (a := hN h + 43) o29
  rw [e22] at o29
  replace o43 := ob_Watch (a := hN h + 43) o43
  rw [e22] at o43
  replace hn := hn_Watch (a := hN h + 43) hn
  rw [e22] at hn
  show Rn g mdX11_init 97 [some (.ref a)] [.ref (hN h + 43), .ref a] H22 47 3643 none (i_LA a h)
  refine o_putRF (pc := 97) (ci := 10) (k := 8) (by decide) (by decide) rfl lgX11_63 rfl ⟨rfl, rfl⟩ dX11_init_97 oa.1 oa.2 (Or.inl o43.1) ?_
  generalize e23 : sR H22 a 8 (some (hN h + 43)) = H23
  replace ht := Hd.sR (i := a) (j := 8) (x := (some (hN h + 43))) (Or.inr (by decide)) ht
  rw [e23] at ht
  replace oa := Ob.sR (i := a) (j := 8) (x := some (hN h + 43)) oa
  rw [e23] at oa
  replace o0 := Ob.sR (i := a) (j := 8) (x := some (hN h + 43)) o0
  rw [e23] at o0
  replace o2 := Ob.sR (i := a) (j := 8) (x := some (hN h + 43)) o2
  rw [e23] at o2
  replace o10 := Ob.sR (i := a) (j := 8) (x := some (hN h + 43)) o10
  rw [e23] at o10
  replace o15 := Ar.sR (i := a) (j := 8) (x := some (hN h + 43)) o15
  rw [e23] at o15
  replace o16 := Ob.sR (i := a) (j := 8) (x := some (hN h + 43)) o16
  rw [e23] at o16
  replace o28 := Ar.sR (i := a) (j := 8) (x := some (hN h + 43)) o28
  rw [e23] at o28
  replace o29 := Ob.sR (i := a) (j := 8) (x := some (hN h + 43)) o29
  rw [e23] at o29
  replace o43 := Ob.sR (i := a) (j := 8) (x := some (hN h + 43)) o43
  rw [e23] at o43
  replace hn := hn_sR (i := a) (j := 8) (x := some (hN h + 43)) hn
  rw [e23] at hn
  show Rn g mdX11_init 100 [some (.ref a)] [] H23 47 3643 none (i_LA a h)
  subst e1
  subst e2
  subst e3
  subst e4
  subst e5
  subst e6
  subst e7
  subst e8
  subst e9
  subst e10
  subst e11
  subst e12
  subst e13
  subst e14
  subst e15
  subst e16
  subst e17
  subst e18
  subst e19
  subst e20
  subst e21
  subst e22
  subst e23
  exact o_return (pc := 100) dX11_init_100 rfl (by decide) (by decide)
def i_Mo (a : Nat) (h : PH) : PH := sR (hNew (sR (hNew (sR (hNew (sR (hNew (sR (hNew (sR (hNew (sR (hNew (sR (hNew (sR (hNew (sR (hNew (sI (sI (sR (hNew (sR (hNew (sR (hNew (sR (hNew (sR (hNew (sR (hNew (sR (hNew (sR (hNew (sR (hNew (sR (hNew (sR (hNew (sR (hNew (sR (hNew (sR (hNew (sR (hNew (sR (hNew (sR (hNew (sR (hNew (sR (hNew (sR (hNew (sI (sR (hNew (sR (hNew (sR (hNew (sR (hNew (sR (hNew (sR (hNew (sR (hNew (sR (hNew (sR (hNew (sR (hNew (sR (hNew (sR (hNew (sR (hNew (sR (hNew (sR (hNew (sR (hNew (sR (hNew (sR (hNew (sR (hNew (sR (hNew (sR (hNew (sR (hNew (sR (hNew (sR (hNew (sR (sI (sI (sI (sI (sI (sI (sI (sI (sI (sI (sI (sI (sI (hNew h (.inr (0, 13))) (hN h) 0 0) (hN h) 1 0) (hN h) 2 0) (hN h) 3 0) (hN h) 4 0) (hN h) 5 0) (hN h) 6 0) (hN h) 7 0) (hN h) 8 0) (hN h) 9 0) (hN h) 10 0) (hN h) 11 0) (hN h) 12 (-1)) a 1 (some (hN h))) (.inr (0, 5))) a 2 (some (hN h + 1))) (.inr (0, 5))) a 3 (some (hN h + 2))) (.inr (0, 5))) a 4 (some (hN h + 3))) (.inr (0, 5))) a 5 (some (hN h + 4))) (.inr (0, 5))) a 6 (some (hN h + 5))) (.inr (0, 8))) a 7 (some (hN h + 6))) (.inr (0, 8))) a 8 (some (hN h + 7))) (.inr (0, 8))) a 9 (some (hN h + 8))) (.inr (0, 8))) a 10 (some (hN h + 9))) (.inr (0, 8))) a 11 (some (hN h + 10))) (.inr (0, 8))) a 12 (some (hN h + 11))) (.inr (0, 10))) a 13 (some (hN h + 12))) (.inr (0, 10))) a 14 (some (hN h + 13))) (.inr (0, 10))) a 15 (some (hN h + 14))) (.inr (0, 5))) a 16 (some (hN h + 15))) (.inr (0, 8))) a 17 (some (hN h + 16))) (.inr (0, 1))) a 18 (some (hN h + 17))) (.inr (0, 9))) a 19 (some (hN h + 18))) (.inr (0, 5))) a 20 (some (hN h + 19))) (.inr (0, 5))) a 21 (some (hN h + 20))) (.inr (0, 8))) a 22 (some (hN h + 21))) (.inr (0, 8))) a 23 (some (hN h + 22))) (.inr (0, 8))) a 24 (some (hN h + 23))) (.inr (0, 8))) a 25 (some (hN h + 24))) a 35 14) (.inr (2, 400))) a 36 (some (hN h + 25))) (.inr (0, 1800))) a 37 (some (hN h + 26))) (.inr (0, 1800))) a 38 (some (hN h + 27))) (.inr (0, 6))) a 39 (some (hN h + 28))) (.inr (0, 72))) a 40 (some (hN h + 29))) (.inr (0, 72))) a 41 (some (hN h + 30))) (.inr (0, 72))) a 42 (some (hN h + 31))) (.inr (0, 402))) a 43 (some (hN h + 32))) (.inr (1, 14))) a 44 (some (hN h + 33))) (.inr (1, 300))) a 45 (some (hN h + 34))) (.inr (0, 8))) a 46 (some (hN h + 35))) (.inr (0, 5))) a 47 (some (hN h + 36))) (.inr (0, 5))) a 48 (some (hN h + 37))) (.inr (0, 5))) a 49 (some (hN h + 38))) (.inr (0, 8))) a 50 (some (hN h + 39))) (.inr (0, 8))) a 51 (some (hN h + 40))) (.inr (0, 8))) a 52 (some (hN h + 41))) (.inr (0, 8))) a 53 (some (hN h + 42))) (.inr (0, 8))) a 54 (some (hN h + 43))) (.inr (0, 8))) a 55 (some (hN h + 44))) a 56 (-1)) a 57 (-1)) (.inr (0, 920))) a 64 (some (hN h + 45))) (.inr (0, 1))) a 65 (some (hN h + 46))) (.inr (0, 49))) a 72 (some (hN h + 47))) (.inr (0, 49))) a 73 (some (hN h + 48))) (.inr (0, 500))) a 74 (some (hN h + 49))) (.inr (0, 500))) a 75 (some (hN h + 50))) (.inr (0, 279))) a 76 (some (hN h + 51))) (.inr (3, 9))) a 77 (some (hN h + 52))) (.inr (0, 6000))) a 78 (some (hN h + 53))) (.inr (3, 4))) a 79 (some (hN h + 54))
theorem ob_Mo {h : PH} {a : Nat} {b ci : Nat} (o : Ob h b ci) : Ob (i_Mo a h) b ci := by
  unfold i_Mo
  exact (Ob.sR (Ob.new (Ob.sR (Ob.new (Ob.sR (Ob.new (Ob.sR (Ob.new (Ob.sR (Ob.new (Ob.sR (Ob.new (Ob.sR (Ob.new (Ob.sR (Ob.new (Ob.sR (Ob.new (Ob.sR (Ob.new (Ob.sI (Ob.sI (Ob.sR (Ob.new (Ob.sR (Ob.new (Ob.sR (Ob.new (Ob.sR (Ob.new (Ob.sR (Ob.new (Ob.sR (Ob.new (Ob.sR (Ob.new (Ob.sR (Ob.new (Ob.sR (Ob.new (Ob.sR (Ob.new (Ob.sR (Ob.new (Ob.sR (Ob.new (Ob.sR (Ob.new (Ob.sR (Ob.new (Ob.sR (Ob.new (Ob.sR (Ob.new (Ob.sR (Ob.new (Ob.sR (Ob.new (Ob.sR (Ob.new (Ob.sR (Ob.new (Ob.sI (Ob.sR (Ob.new (Ob.sR (Ob.new (Ob.sR (Ob.new (Ob.sR (Ob.new (Ob.sR (Ob.new (Ob.sR (Ob.new (Ob.sR (Ob.new (Ob.sR (Ob.new (Ob.sR (Ob.new (Ob.sR (Ob.new (Ob.sR (Ob.new (Ob.sR (Ob.new (Ob.sR (Ob.new (Ob.sR (Ob.new (Ob.sR (Ob.new (Ob.sR (Ob.new (Ob.sR (Ob.new (Ob.sR (Ob.new (Ob.sR (Ob.new (Ob.sR (Ob.new (Ob.sR (Ob.new (Ob.sR (Ob.new (Ob.sR (Ob.new (Ob.sR (Ob.new (Ob.sR (Ob.sI (Ob.sI (Ob.sI (Ob.sI (Ob.sI (Ob.sI (Ob.sI (Ob.sI (Ob.sI (Ob.sI (Ob.sI (Ob.sI (Ob.sI (Ob.new o))))))))))))))))))))))))))))))))))))))))))))))))))))))))))))))))))))))))))))))))))))))))))))))))))))))))))))))))))))))))))))))
theorem ar_Mo {h : PH} {a : Nat} {b t n : Nat} (o : Ar h b t n) : Ar (i_Mo a h) b t n := by
  unfold i_Mo
  exact (Ar.sR (Ar.new (Ar.sR (Ar.new (Ar.sR (Ar.new (Ar.sR (Ar.new (Ar.sR (Ar.new (Ar.sR (Ar.new (Ar.sR (Ar.new (Ar.sR (Ar.new (Ar.sR (Ar.new (Ar.sR (Ar.new (Ar.sI (Ar.sI (Ar.sR (Ar.new (Ar.sR (Ar.new (Ar.sR (Ar.new (Ar.sR (Ar.new (Ar.sR (Ar.new (Ar.sR (Ar.new (Ar.sR (Ar.new (Ar.sR (Ar.new (Ar.sR (Ar.new (Ar.sR (Ar.new (Ar.sR (Ar.new (Ar.sR (Ar.new (Ar.sR (Ar.new (Ar.sR (Ar.new (Ar.sR (Ar.new (Ar.sR (Ar.new (Ar.sR (Ar.new (Ar.sR (Ar.new (Ar.sR (Ar.new (Ar.sR (Ar.new (Ar.sI (Ar.sR (Ar.new (Ar.sR (Ar.new (Ar.sR (Ar.new (Ar.sR (Ar.new (Ar.sR (Ar.new (Ar.sR (Ar.new (Ar.sR (Ar.new (Ar.sR (Ar.new (Ar.sR (Ar.new (Ar.sR (Ar.new (Ar.sR (Ar.new (Ar.sR (Ar.new (Ar.sR (Ar.new (Ar.sR (Ar.new (Ar.sR (Ar.new (Ar.sR (Ar.new (Ar.sR (Ar.new (Ar.sR (Ar.new (Ar.sR (Ar.new (Ar.sR (Ar.new (Ar.sR (Ar.new (Ar.sR (Ar.new (Ar.sR (Ar.new (Ar.sR (Ar.new (Ar.sR (Ar.sI (Ar.sI (Ar.sI (Ar.sI (Ar.sI (Ar.sI (Ar.sI (Ar.sI (Ar.sI (Ar.sI (Ar.sI (Ar.sI (Ar.sI (Ar.new o))))))))))))))))))))))))))))))))))))))))))))))))))))))))))))))))))))))))))))))))))))))))))))))))))))))))))))))))))))))))))))))
theorem hn_Mo {h : PH} {a : Nat} {n : Nat} (e : hN h = n) : hN (i_Mo a h) = n + 55 := by
  unfold i_Mo
  exact (hn_sR (hn_new (hn_sR (hn_new (hn_sR (hn_new (hn_sR (hn_new (hn_sR (hn_new (hn_sR (hn_new (hn_sR (hn_new (hn_sR (hn_new (hn_sR (hn_new (hn_sR (hn_new (hn_sI (hn_sI (hn_sR (hn_new (hn_sR (hn_new (hn_sR (hn_new (hn_sR (hn_new (hn_sR (hn_new (hn_sR (hn_new (hn_sR (hn_new (hn_sR (hn_new (hn_sR (hn_new (hn_sR (hn_new (hn_sR (hn_new (hn_sR (hn_new (hn_sR (hn_new (hn_sR (hn_new (hn_sR (hn_new (hn_sR (hn_new (hn_sR (hn_new (hn_sR (hn_new (hn_sR (hn_new (hn_sR (hn_new (hn_sI (hn_sR (hn_new (hn_sR (hn_new (hn_sR (hn_new (hn_sR (hn_new (hn_sR (hn_new (hn_sR (hn_new (hn_sR (hn_new (hn_sR (hn_new (hn_sR (hn_new (hn_sR (hn_new (hn_sR (hn_new (hn_sR (hn_new (hn_sR (hn_new (hn_sR (hn_new (hn_sR (hn_new (hn_sR (hn_new (hn_sR (hn_new (hn_sR (hn_new (hn_sR (hn_new (hn_sR (hn_new (hn_sR (hn_new (hn_sR (hn_new (hn_sR (hn_new (hn_sR (hn_new (hn_sR (hn_sI (hn_sI (hn_sI (hn_sI (hn_sI (hn_sI (hn_sI (hn_sI (hn_sI (hn_sI (hn_sI (hn_sI (hn_sI (hn_new e))))))))))))))))))))))))))))))))))))))))))))))))))))))))))))))))))))))))))))))))))))))))))))))))))))))))))))))))))))))))))))))
theorem lt_Mo {h : PH} {a : Nat} {b : Nat} (o : b < hN h) : b < hN (i_Mo a h) := by
  rw [hn_Mo rfl]
  omega
theorem hd_Mo {h : PH} {a : Nat} {b k v : Nat} (hne : b ≠ a) (e : Hd h b k v) : Hd (i_Mo a h) b k v := by
  unfold i_Mo
  exact (Hd.sR (Or.inl hne) (Hd.new (Hd.sR (Or.inl hne) (Hd.new (Hd.sR (Or.inl hne) (Hd.new (Hd.sR (Or.inl hne) (Hd.new (Hd.sR (Or.inl hne) (Hd.new (Hd.sR (Or.inl hne) (Hd.new (Hd.sR (Or.inl hne) (Hd.new (Hd.sR (Or.inl hne) (Hd.new (Hd.sR (Or.inl hne) (Hd.new (Hd.sR (Or.inl hne) (Hd.new (Hd.sI (Hd.sI (Hd.sR (Or.inl hne) (Hd.new (Hd.sR (Or.inl hne) (Hd.new (Hd.sR (Or.inl hne) (Hd.new (Hd.sR (Or.inl hne) (Hd.new (Hd.sR (Or.inl hne) (Hd.new (Hd.sR (Or.inl hne) (Hd.new (Hd.sR (Or.inl hne) (Hd.new (Hd.sR (Or.inl hne) (Hd.new (Hd.sR (Or.inl hne) (Hd.new (Hd.sR (Or.inl hne) (Hd.new (Hd.sR (Or.inl hne) (Hd.new (Hd.sR (Or.inl hne) (Hd.new (Hd.sR (Or.inl hne) (Hd.new (Hd.sR (Or.inl hne) (Hd.new (Hd.sR (Or.inl hne) (Hd.new (Hd.sR (Or.inl hne) (Hd.new (Hd.sR (Or.inl hne) (Hd.new (Hd.sR (Or.inl hne) (Hd.new (Hd.sR (Or.inl hne) (Hd.new (Hd.sR (Or.inl hne) (Hd.new (Hd.sI (Hd.sR (Or.inl hne) (Hd.new (Hd.sR (Or.inl hne) (Hd.new (Hd.sR (Or.inl hne) (Hd.new (Hd.sR (Or.inl hne) (Hd.new (Hd.sR (Or.inl hne) (Hd.new (Hd.sR (Or.inl hne) (Hd.new (Hd.sR (Or.inl hne) (Hd.new (Hd.sR (Or.inl hne) (Hd.new (Hd.sR (Or.inl hne) (Hd.new (Hd.sR (Or.inl hne) (Hd.new (Hd.sR (Or.inl hne) (Hd.new (Hd.sR (Or.inl hne) (Hd.new (Hd.sR (Or.inl hne) (Hd.new (Hd.sR (Or.inl hne) (Hd.new (Hd.sR (Or.inl hne) (Hd.new (Hd.sR (Or.inl hne) (Hd.new (Hd.sR (Or.inl hne) (Hd.new (Hd.sR (Or.inl hne) (Hd.new (Hd.sR (Or.inl hne) (Hd.new (Hd.sR (Or.inl hne) (Hd.new (Hd.sR (Or.inl hne) (Hd.new (Hd.sR (Or.inl hne) (Hd.new (Hd.sR (Or.inl hne) (Hd.new (Hd.sR (Or.inl hne) (Hd.new (Hd.sR (Or.inl hne) (Hd.sI (Hd.sI (Hd.sI (Hd.sI (Hd.sI (Hd.sI (Hd.sI (Hd.sI (Hd.sI (Hd.sI (Hd.sI (Hd.sI (Hd.sI (Hd.new e))))))))))))))))))))))))))))))))))))))))))))))))))))))))))))))))))))))))))))))))))))))))))))))))))))))))))))))))))))))))))))))
theorem okA_Mo {h : PH} {a : Nat} {b : Nat} (o : okA (hN h) b) : okA (hN (i_Mo a h)) b := by
  rw [hn_Mo rfl]
  exact okA_up o (Nat.le_add_right _ _)
set_option maxRecDepth 20000 in
theorem kI_Mo {g : GX} {h : PH} {a : Nat} (oa : Ob h a 11) (hb : hN h + 55 < 1000000) : Cn g mdX12_init [.ref a] h none (i_Mo a h) := by
  refine Cn.of (by decide) (Nat.le_of_ble_eq_true rfl) ?_
  show Rn g mdX12_init 0 [some (.ref a)] [] h 0 0 none (i_Mo a h)
  have hn : hN h = hN h := rfl
  refine o_aload_n (pc := 0) dX12_init_0 rfl ?_
  refine o_objInit (pc := 1) loX12_3 dX12_init_1 (by decide) (Nat.le_of_ble_eq_true rfl) ?_
  show Rn g mdX12_init 4 [some (.ref a)] [] h 0 0 none (i_Mo a h)
  refine o_aload_n (pc := 4) dX12_init_4 rfl ?_
  refine o_bipush (pc := 5) (v := 13) dX12_init_5 rfl ?_
  refine o_newaX (pc := 7) (t := 0) (N := 13) (q := hN h) hn (by decide) rfl la0 dX12_init_7 (by decide) rfl (by decide) (by omega) (by decide) (by decide) (okLs_ref (Or.inl oa.1) okLs_nil) (okSt_ref (Or.inl oa.1) okSt_nil) ?_
  have o0 := Ar.madeX (h := h) (t := 0) (n := 13) hn
  generalize e1 : hNew h (.inr (0, 13)) = H1
  replace oa := Ob.new (z := .inr (0, 13)) oa
  rw [e1] at oa
  replace hn := hn_new (z := .inr (0, 13)) hn
  rw [e1] at hn
  rw [e1] at o0
  show Rn g mdX12_init 9 [some (.ref a)] [.ref (hN h), .ref a] H1 1 13 none (i_Mo a h)
  refine o_dup (pc := 9) dX12_init_9 rfl ?_
  refine o_iconst (pc := 10) (v := 0) dX12_init_10 rfl ?_
  refine o_iconst (pc := 11) (v := 0) dX12_init_11 rfl ?_
  refine o_iastX (pc := 12) (j := 0) dX12_init_12 o0.1 o0.2 (by unfold vp_in; decide) rfl ?_
  generalize e2 : sI H1 (hN h) 0 0 = H2
  replace oa := Ob.sI (i := hN h) (j := 0) (x := 0) oa
  rw [e2] at oa
  replace o0 := Ar.sI (i := hN h) (j := 0) (x := 0) o0
  rw [e2] at o0
  replace hn := hn_sI (i := hN h) (j := 0) (x := 0) hn
  rw [e2] at hn
  show Rn g mdX12_init 13 [some (.ref a)] [.ref (hN h), .ref a] H2 1 13 none (i_Mo a h)
  refine o_dup (pc := 13) dX12_init_13 rfl ?_
  refine o_iconst (pc := 14) (v := 1) dX12_init_14 rfl ?_
  refine o_iconst (pc := 15) (v := 0) dX12_init_15 rfl ?_
  refine o_iastX (pc := 16) (j := 1) dX12_init_16 o0.1 o0.2 (by unfold vp_in; decide) rfl ?_
  generalize e3 : sI H2 (hN h) 1 0 = H3
  replace oa := Ob.sI (i := hN h) (j := 1) (x := 0) oa
  rw [e3] at oa
  replace o0 := Ar.sI (i := hN h) (j := 1) (x := 0) o0
  rw [e3] at o0
  replace hn := hn_sI (i := hN h) (j := 1) (x := 0) hn
  rw [e3] at hn
  show Rn g mdX12_init 17 [some (.ref a)] [.ref (hN h), .ref a] H3 1 13 none (i_Mo a h)
  refine o_dup (pc := 17) dX12_init_17 rfl ?_
  refine o_iconst (pc := 18) (v := 2) dX12_init_18 rfl ?_
  refine o_iconst (pc := 19) (v := 0) dX12_init_19 rfl ?_
  refine o_iastX (pc := 20) (j := 2) dX12_init_20 o0.1 o0.2 (by unfold vp_in; decide) rfl ?_
  generalize e4 : sI H3 (hN h) 2 0 = H4
  replace oa := Ob.sI (i := hN h) (j := 2) (x := 0) oa
  rw [e4] at oa
  replace o0 := Ar.sI (i := hN h) (j := 2) (x := 0) o0
  rw [e4] at o0
  replace hn := hn_sI (i := hN h) (j := 2) (x := 0) hn
  rw [e4] at hn
  show Rn g mdX12_init 21 [some (.ref a)] [.ref (hN h), .ref a] H4 1 13 none (i_Mo a h)
  refine o_dup (pc := 21) dX12_init_21 rfl ?_
  refine o_iconst (pc := 22) (v := 3) dX12_init_22 rfl ?_
  refine o_iconst (pc := 23) (v := 0) dX12_init_23 rfl ?_
  refine o_iastX (pc := 24) (j := 3) dX12_init_24 o0.1 o0.2 (by unfold vp_in; decide) rfl ?_
  generalize e5 : sI H4 (hN h) 3 0 = H5
  replace oa := Ob.sI (i := hN h) (j := 3) (x := 0) oa
  rw [e5] at oa
  replace o0 := Ar.sI (i := hN h) (j := 3) (x := 0) o0
  rw [e5] at o0
  replace hn := hn_sI (i := hN h) (j := 3) (x := 0) hn
  rw [e5] at hn
  show Rn g mdX12_init 25 [some (.ref a)] [.ref (hN h), .ref a] H5 1 13 none (i_Mo a h)
  refine o_dup (pc := 25) dX12_init_25 rfl ?_
  refine o_iconst (pc := 26) (v := 4) dX12_init_26 rfl ?_
  refine o_iconst (pc := 27) (v := 0) dX12_init_27 rfl ?_
  refine o_iastX (pc := 28) (j := 4) dX12_init_28 o0.1 o0.2 (by unfold vp_in; decide) rfl ?_
  generalize e6 : sI H5 (hN h) 4 0 = H6
  replace oa := Ob.sI (i := hN h) (j := 4) (x := 0) oa
  rw [e6] at oa
  replace o0 := Ar.sI (i := hN h) (j := 4) (x := 0) o0
  rw [e6] at o0
  replace hn := hn_sI (i := hN h) (j := 4) (x := 0) hn
  rw [e6] at hn
  show Rn g mdX12_init 29 [some (.ref a)] [.ref (hN h), .ref a] H6 1 13 none (i_Mo a h)
  refine o_dup (pc := 29) dX12_init_29 rfl ?_
  refine o_iconst (pc := 30) (v := 5) dX12_init_30 rfl ?_
  refine o_iconst (pc := 31) (v := 0) dX12_init_31 rfl ?_
  refine o_iastX (pc := 32) (j := 5) dX12_init_32 o0.1 o0.2 (by unfold vp_in; decide) rfl ?_
  generalize e7 : sI H6 (hN h) 5 0 = H7
  replace oa := Ob.sI (i := hN h) (j := 5) (x := 0) oa
  rw [e7] at oa
  replace o0 := Ar.sI (i := hN h) (j := 5) (x := 0) o0
  rw [e7] at o0
  replace hn := hn_sI (i := hN h) (j := 5) (x := 0) hn
  rw [e7] at hn
  show Rn g mdX12_init 33 [some (.ref a)] [.ref (hN h), .ref a] H7 1 13 none (i_Mo a h)
  refine o_dup (pc := 33) dX12_init_33 rfl ?_
  refine o_bipush (pc := 34) (v := 6) dX12_init_34 rfl ?_
  refine o_iconst (pc := 36) (v := 0) dX12_init_36 rfl ?_
  refine o_iastX (pc := 37) (j := 6) dX12_init_37 o0.1 o0.2 (by unfold vp_in; decide) rfl ?_
  generalize e8 : sI H7 (hN h) 6 0 = H8
  replace oa := Ob.sI (i := hN h) (j := 6) (x := 0) oa
  rw [e8] at oa
  replace o0 := Ar.sI (i := hN h) (j := 6) (x := 0) o0
  rw [e8] at o0
  replace hn := hn_sI (i := hN h) (j := 6) (x := 0) hn
  rw [e8] at hn
  show Rn g mdX12_init 38 [some (.ref a)] [.ref (hN h), .ref a] H8 1 13 none (i_Mo a h)
  refine o_dup (pc := 38) dX12_init_38 rfl ?_
  refine o_bipush (pc := 39) (v := 7) dX12_init_39 rfl ?_
  refine o_iconst (pc := 41) (v := 0) dX12_init_41 rfl ?_
  refine o_iastX (pc := 42) (j := 7) dX12_init_42 o0.1 o0.2 (by unfold vp_in; decide) rfl ?_
  generalize e9 : sI H8 (hN h) 7 0 = H9
  replace oa := Ob.sI (i := hN h) (j := 7) (x := 0) oa
  rw [e9] at oa
  replace o0 := Ar.sI (i := hN h) (j := 7) (x := 0) o0
  rw [e9] at o0
  replace hn := hn_sI (i := hN h) (j := 7) (x := 0) hn
  rw [e9] at hn
  show Rn g mdX12_init 43 [some (.ref a)] [.ref (hN h), .ref a] H9 1 13 none (i_Mo a h)
  refine o_dup (pc := 43) dX12_init_43 rfl ?_
  refine o_bipush (pc := 44) (v := 8) dX12_init_44 rfl ?_
  refine o_iconst (pc := 46) (v := 0) dX12_init_46 rfl ?_
  refine o_iastX (pc := 47) (j := 8) dX12_init_47 o0.1 o0.2 (by unfold vp_in; decide) rfl ?_
  generalize e10 : sI H9 (hN h) 8 0 = H10
  replace oa := Ob.sI (i := hN h) (j := 8) (x := 0) oa
  rw [e10] at oa
  replace o0 := Ar.sI (i := hN h) (j := 8) (x := 0) o0
  rw [e10] at o0
  replace hn := hn_sI (i := hN h) (j := 8) (x := 0) hn
  rw [e10] at hn
  show Rn g mdX12_init 48 [some (.ref a)] [.ref (hN h), .ref a] H10 1 13 none (i_Mo a h)
  refine o_dup (pc := 48) dX12_init_48 rfl ?_
  refine o_bipush (pc := 49) (v := 9) dX12_init_49 rfl ?_
  refine o_iconst (pc := 51) (v := 0) dX12_init_51 rfl ?_
  refine o_iastX (pc := 52) (j := 9) dX12_init_52 o0.1 o0.2 (by unfold vp_in; decide) rfl ?_
  generalize e11 : sI H10 (hN h) 9 0 = H11
  replace oa := Ob.sI (i := hN h) (j := 9) (x := 0) oa
  rw [e11] at oa
  replace o0 := Ar.sI (i := hN h) (j := 9) (x := 0) o0
  rw [e11] at o0
  replace hn := hn_sI (i := hN h) (j := 9) (x := 0) hn
  rw [e11] at hn
  show Rn g mdX12_init 53 [some (.ref a)] [.ref (hN h), .ref a] H11 1 13 none (i_Mo a h)
  refine o_dup (pc := 53) dX12_init_53 rfl ?_
  refine o_bipush (pc := 54) (v := 10) dX12_init_54 rfl ?_
  refine o_iconst (pc := 56) (v := 0) dX12_init_56 rfl ?_
  refine o_iastX (pc := 57) (j := 10) dX12_init_57 o0.1 o0.2 (by unfold vp_in; decide) rfl ?_
  generalize e12 : sI H11 (hN h) 10 0 = H12
  replace oa := Ob.sI (i := hN h) (j := 10) (x := 0) oa
  rw [e12] at oa
  replace o0 := Ar.sI (i := hN h) (j := 10) (x := 0) o0
  rw [e12] at o0
  replace hn := hn_sI (i := hN h) (j := 10) (x := 0) hn
  rw [e12] at hn
  show Rn g mdX12_init 58 [some (.ref a)] [.ref (hN h), .ref a] H12 1 13 none (i_Mo a h)
  refine o_dup (pc := 58) dX12_init_58 rfl ?_
  refine o_bipush (pc := 59) (v := 11) dX12_init_59 rfl ?_
  refine o_iconst (pc := 61) (v := 0) dX12_init_61 rfl ?_
  refine o_iastX (pc := 62) (j := 11) dX12_init_62 o0.1 o0.2 (by unfold vp_in; decide) rfl ?_
  generalize e13 : sI H12 (hN h) 11 0 = H13
  replace oa := Ob.sI (i := hN h) (j := 11) (x := 0) oa
  rw [e13] at oa
  replace o0 := Ar.sI (i := hN h) (j := 11) (x := 0) o0
  rw [e13] at o0
  replace hn := hn_sI (i := hN h) (j := 11) (x := 0) hn
  rw [e13] at hn
  show Rn g mdX12_init 63 [some (.ref a)] [.ref (hN h), .ref a] H13 1 13 none (i_Mo a h)
  refine o_dup (pc := 63) dX12_init_63 rfl ?_
  refine o_bipush (pc := 64) (v := 12) dX12_init_64 rfl ?_
  refine o_iconst (pc := 66) (v := (-1)) dX12_init_66 rfl ?_
  refine o_iastX (pc := 67) (j := 12) dX12_init_67 o0.1 o0.2 (by unfold vp_in; decide) rfl ?_
  generalize e14 : sI H13 (hN h) 12 (-1) = H14
  replace oa := Ob.sI (i := hN h) (j := 12) (x := (-1)) oa
  rw [e14] at oa
  replace o0 := Ar.sI (i := hN h) (j := 12) (x := (-1)) o0
  rw [e14] at o0
  replace hn := hn_sI (i := hN h) (j := 12) (x := (-1)) hn
  rw [e14] at hn
  show Rn g mdX12_init 68 [some (.ref a)] [.ref (hN h), .ref a] H14 1 13 none (i_Mo a h)
  refine o_putRF (pc := 68) (ci := 11) (k := 1) (by decide) (by decide) rfl lgX12_9 rfl ⟨rfl, rfl⟩ dX12_init_68 oa.1 oa.2 (Or.inl o0.1) ?_
  generalize e15 : sR H14 a 1 (some (hN h)) = H15
  replace oa := Ob.sR (i := a) (j := 1) (x := some (hN h)) oa
  rw [e15] at oa
  replace o0 := Ar.sR (i := a) (j := 1) (x := some (hN h)) o0
  rw [e15] at o0
  replace hn := hn_sR (i := a) (j := 1) (x := some (hN h)) hn
  rw [e15] at hn
  show Rn g mdX12_init 71 [some (.ref a)] [] H15 1 13 none (i_Mo a h)
  refine o_aload_n (pc := 71) dX12_init_71 rfl ?_
  refine o_iconst (pc := 72) (v := 5) dX12_init_72 rfl ?_
  refine o_newaX (pc := 73) (t := 0) (N := 5) (q := hN h + 1) hn (by decide) rfl la0 dX12_init_73 (by decide) rfl (by decide) (by omega) (by decide) (by decide) (okLs_ref (Or.inl oa.1) okLs_nil) (okSt_ref (Or.inl oa.1) okSt_nil) ?_
  have o1 := Ar.madeX (h := H15) (t := 0) (n := 5) hn
  generalize e16 : hNew H15 (.inr (0, 5)) = H16
  replace oa := Ob.new (z := .inr (0, 5)) oa
  rw [e16] at oa
  replace o0 := Ar.new (z := .inr (0, 5)) o0
  rw [e16] at o0
  replace hn := hn_new (z := .inr (0, 5)) hn
  rw [e16] at hn
  rw [e16] at o1
  show Rn g mdX12_init 75 [some (.ref a)] [.ref (hN h + 1), .ref a] H16 2 18 none (i_Mo a h)
  refine o_putRF (pc := 75) (ci := 11) (k := 2) (by decide) (by decide) rfl lgX12_13 rfl ⟨rfl, rfl⟩ dX12_init_75 oa.1 oa.2 (Or.inl o1.1) ?_
  generalize e17 : sR H16 a 2 (some (hN h + 1)) = H17
  replace oa := Ob.sR (i := a) (j := 2) (x := some (hN h + 1)) oa
  rw [e17] at oa
  replace o0 := Ar.sR (i := a) (j := 2) (x := some (hN h + 1)) o0
  rw [e17] at o0
  replace o1 := Ar.sR (i := a) (j := 2) (x := some (hN h + 1)) o1
  rw [e17] at o1
  replace hn := hn_sR (i := a) (j := 2) (x := some (hN h + 1)) hn
  rw [e17] at hn
  show Rn g mdX12_init 78 [some (.ref a)] [] H17 2 18 none (i_Mo a h)
  refine o_aload_n (pc := 78) dX12_init_78 rfl ?_
  refine o_iconst (pc := 79) (v := 5) dX12_init_79 rfl ?_
  refine o_newaX (pc := 80) (t := 0) (N := 5) (q := hN h + 2) hn (by decide) rfl la0 dX12_init_80 (by decide) rfl (by decide) (by omega) (by decide) (by decide) (okLs_ref (Or.inl oa.1) okLs_nil) (okSt_ref (Or.inl oa.1) okSt_nil) ?_
  have o2 := Ar.madeX (h := H17) (t := 0) (n := 5) hn
  generalize e18 : hNew H17 (.inr (0, 5)) = H18
  replace oa := Ob.new (z := .inr (0, 5)) oa
  rw [e18] at oa
  replace o0 := Ar.new (z := .inr (0, 5)) o0
  rw [e18] at o0
  replace o1 := Ar.new (z := .inr (0, 5)) o1
  rw [e18] at o1
  replace hn := hn_new (z := .inr (0, 5)) hn
  rw [e18] at hn
  rw [e18] at o2
  show Rn g mdX12_init 82 [some (.ref a)] [.ref (hN h + 2), .ref a] H18 3 23 none (i_Mo a h)
  refine o_putRF (pc := 82) (ci := 11) (k := 3) (by decide) (by decide) rfl lgX12_16 rfl ⟨rfl, rfl⟩ dX12_init_82 oa.1 oa.2 (Or.inl o2.1) ?_
  generalize e19 : sR H18 a 3 (some (hN h + 2)) = H19
  replace oa := Ob.sR (i := a) (j := 3) (x := some (hN h + 2)) oa
  rw [e19] at oa
  replace o0 := Ar.sR (i := a) (j := 3) (x := some (hN h + 2)) o0
  rw [e19] at o0
  replace o1 := Ar.sR (i := a) (j := 3) (x := some (hN h + 2)) o1
  rw [e19] at o1
  replace o2 := Ar.sR (i := a) (j := 3) (x := some (hN h + 2)) o2
  rw [e19] at o2
  replace hn := hn_sR (i := a) (j := 3) (x := some (hN h + 2)) hn
  rw [e19] at hn
  show Rn g mdX12_init 85 [some (.ref a)] [] H19 3 23 none (i_Mo a h)
  refine o_aload_n (pc := 85) dX12_init_85 rfl ?_
  refine o_iconst (pc := 86) (v := 5) dX12_init_86 rfl ?_
  refine o_newaX (pc := 87) (t := 0) (N := 5) (q := hN h + 3) hn (by decide) rfl la0 dX12_init_87 (by decide) rfl (by decide) (by omega) (by decide) (by decide) (okLs_ref (Or.inl oa.1) okLs_nil) (okSt_ref (Or.inl oa.1) okSt_nil) ?_
  have o3 := Ar.madeX (h := H19) (t := 0) (n := 5) hn
  generalize e20 : hNew H19 (.inr (0, 5)) = H20
  replace oa := Ob.new (z := .inr (0, 5)) oa
  rw [e20] at oa
  replace o0 := Ar.new (z := .inr (0, 5)) o0
  rw [e20] at o0
  replace o1 := Ar.new (z := .inr (0, 5)) o1
  rw [e20] at o1
  replace o2 := Ar.new (z := .inr (0, 5)) o2
  rw [e20] at o2
  replace hn := hn_new (z := .inr (0, 5)) hn
  rw [e20] at hn
  rw [e20] at o3
  show Rn g mdX12_init 89 [some (.ref a)] [.ref (hN h + 3), .ref a] H20 4 28 none (i_Mo a h)
  refine o_putRF (pc := 89) (ci := 11) (k := 4) (by decide) (by decide) rfl lgX12_19 rfl ⟨rfl, rfl⟩ dX12_init_89 oa.1 oa.2 (Or.inl o3.1) ?_
  generalize e21 : sR H20 a 4 (some (hN h + 3)) = H21
  replace oa := Ob.sR (i := a) (j := 4) (x := some (hN h + 3)) oa
  rw [e21] at oa
  replace o0 := Ar.sR (i := a) (j := 4) (x := some (hN h + 3)) o0
  rw [e21] at o0
  replace o1 := Ar.sR (i := a) (j := 4) (x := some (hN h + 3)) o1
  rw [e21] at o1
  replace o2 := Ar.sR (i := a) (j := 4) (x := some (hN h + 3)) o2
  rw [e21] at o2
  replace o3 := Ar.sR (i := a) (j := 4) (x := some (hN h + 3)) o3
  rw [e21] at o3
  replace hn := hn_sR (i := a) (j := 4) (x := some (hN h + 3)) hn
  rw [e21] at hn
  show Rn g mdX12_init 92 [some (.ref a)] [] H21 4 28 none (i_Mo a h)
  refine o_aload_n (pc := 92) dX12_init_92 rfl ?_
  refine o_iconst (pc := 93) (v := 5) dX12_init_93 rfl ?_
  refine o_newaX (pc := 94) (t := 0) (N := 5) (q := hN h + 4) hn (by decide) rfl la0 dX12_init_94 (by decide) rfl (by decide) (by omega) (by decide) (by decide) (okLs_ref (Or.inl oa.1) okLs_nil) (okSt_ref (Or.inl oa.1) okSt_nil) ?_
  have o4 := Ar.madeX (h := H21) (t := 0) (n := 5) hn
  generalize e22 : hNew H21 (.inr (0, 5)) = H22
  replace oa := Ob.new (z := .inr (0, 5)) oa
  rw [e22] at oa
  replace o0 := Ar.new (z := .inr (0, 5)) o0
  rw [e22] at o0
  replace o1 := Ar.new (z := .inr (0, 5)) o1
  rw [e22] at o1
  replace o2 := Ar.new (z := .inr (0, 5)) o2
  rw [e22] at o2
  replace o3 := Ar.new (z := .inr (0, 5)) o3
  rw [e22] at o3
  replace hn := hn_new (z := .inr (0, 5)) hn
  rw [e22] at hn
  rw [e22] at o4
  show Rn g mdX12_init 96 [some (.ref a)] [.ref (hN h + 4), .ref a] H22 5 33 none (i_Mo a h)
  refine o_putRF (pc := 96) (ci := 11) (k := 5) (by decide) (by decide) rfl lgX12_22 rfl ⟨rfl, rfl⟩ dX12_init_96 oa.1 oa.2 (Or.inl o4.1) ?_
  generalize e23 : sR H22 a 5 (some (hN h + 4)) = H23
  replace oa := Ob.sR (i := a) (j := 5) (x := some (hN h + 4)) oa
  rw [e23] at oa
  replace o0 := Ar.sR (i := a) (j := 5) (x := some (hN h + 4)) o0
  rw [e23] at o0
  replace o1 := Ar.sR (i := a) (j := 5) (x := some (hN h + 4)) o1
  rw [e23] at o1
  replace o2 := Ar.sR (i := a) (j := 5) (x := some (hN h + 4)) o2
  rw [e23] at o2
  replace o3 := Ar.sR (i := a) (j := 5) (x := some (hN h + 4)) o3
  rw [e23] at o3
  replace o4 := Ar.sR (i := a) (j := 5) (x := some (hN h + 4)) o4
  rw [e23] at o4
  replace hn := hn_sR (i := a) (j := 5) (x := some (hN h + 4)) hn
  rw [e23] at hn
  show Rn g mdX12_init 99 [some (.ref a)] [] H23 5 33 none (i_Mo a h)
  refine o_aload_n (pc := 99) dX12_init_99 rfl ?_
  refine o_iconst (pc := 100) (v := 5) dX12_init_100 rfl ?_
  refine o_newaX (pc := 101) (t := 0) (N := 5) (q := hN h + 5) hn (by decide) rfl la0 dX12_init_101 (by decide) rfl (by decide) (by omega) (by decide) (by decide) (okLs_ref (Or.inl oa.1) okLs_nil) (okSt_ref (Or.inl oa.1) okSt_nil) ?_
  have o5 := Ar.madeX (h := H23) (t := 0) (n := 5) hn
  generalize e24 : hNew H23 (.inr (0, 5)) = H24
  replace oa := Ob.new (z := .inr (0, 5)) oa
  rw [e24] at oa
  replace o0 := Ar.new (z := .inr (0, 5)) o0
  rw [e24] at o0
  replace o1 := Ar.new (z := .inr (0, 5)) o1
  rw [e24] at o1
  replace o2 := Ar.new (z := .inr (0, 5)) o2
  rw [e24] at o2
  replace o3 := Ar.new (z := .inr (0, 5)) o3
  rw [e24] at o3
  replace o4 := Ar.new (z := .inr (0, 5)) o4
  rw [e24] at o4
  replace hn := hn_new (z := .inr (0, 5)) hn
  rw [e24] at hn
  rw [e24] at o5
  show Rn g mdX12_init 103 [some (.ref a)] [.ref (hN h + 5), .ref a] H24 6 38 none (i_Mo a h)
  refine o_putRF (pc := 103) (ci := 11) (k := 6) (by decide) (by decide) rfl lgX12_25 rfl ⟨rfl, rfl⟩ dX12_init_103 oa.1 oa.2 (Or.inl o5.1) ?_
  generalize e25 : sR H24 a 6 (some (hN h + 5)) = H25
  replace oa := Ob.sR (i := a) (j := 6) (x := some (hN h + 5)) oa
  rw [e25] at oa
  replace o0 := Ar.sR (i := a) (j := 6) (x := some (hN h + 5)) o0
  rw [e25] at o0
  replace o1 := Ar.sR (i := a) (j := 6) (x := some (hN h + 5)) o1
  rw [e25] at o1
  replace o2 := Ar.sR (i := a) (j := 6) (x := some (hN h + 5)) o2
  rw [e25] at o2
  replace o3 := Ar.sR (i := a) (j := 6) (x := some (hN h + 5)) o3
  rw [e25] at o3
  replace o4 := Ar.sR (i := a) (j := 6) (x := some (hN h + 5)) o4
  rw [e25] at o4
  replace o5 := Ar.sR (i := a) (j := 6) (x := some (hN h + 5)) o5
  rw [e25] at o5
  replace hn := hn_sR (i := a) (j := 6) (x := some (hN h + 5)) hn
  rw [e25] at hn
  show Rn g mdX12_init 106 [some (.ref a)] [] H25 6 38 none (i_Mo a h)
  refine o_aload_n (pc := 106) dX12_init_106 rfl ?_
  refine o_bipush (pc := 107) (v := 8) dX12_init_107 rfl ?_
  refine o_newaX (pc := 109) (t := 0) (N := 8) (q := hN h + 6) hn (by decide) rfl la0 dX12_init_109 (by decide) rfl (by decide) (by omega) (by decide) (by decide) (okLs_ref (Or.inl oa.1) okLs_nil) (okSt_ref (Or.inl oa.1) okSt_nil) ?_
  have o6 := Ar.madeX (h := H25) (t := 0) (n := 8) hn
  generalize e26 : hNew H25 (.inr (0, 8)) = H26
  replace oa := Ob.new (z := .inr (0, 8)) oa
  rw [e26] at oa
  replace o0 := Ar.new (z := .inr (0, 8)) o0
  rw [e26] at o0
  replace o1 := Ar.new (z := .inr (0, 8)) o1
  rw [e26] at o1
  replace o2 := Ar.new (z := .inr (0, 8)) o2
  rw [e26] at o2
  replace o3 := Ar.new (z := .inr (0, 8)) o3
  rw [e26] at o3
  replace o4 := Ar.new (z := .inr (0, 8)) o4
  rw [e26] at o4
  replace o5 := Ar.new (z := .inr (0, 8)) o5
  rw [e26] at o5
  replace hn := hn_new (z := .inr (0, 8)) hn
  rw [e26] at hn
  rw [e26] at o6
  show Rn g mdX12_init 111 [some (.ref a)] [.ref (hN h + 6), .ref a] H26 7 46 none (i_Mo a h)
  refine o_putRF (pc := 111) (ci := 11) (k := 7) (by decide) (by decide) rfl lgX12_28 rfl ⟨rfl, rfl⟩ dX12_init_111 oa.1 oa.2 (Or.inl o6.1) ?_
  generalize e27 : sR H26 a 7 (some (hN h + 6)) = H27
  replace oa := Ob.sR (i := a) (j := 7) (x := some (hN h + 6)) oa
  rw [e27] at oa
  replace o0 := Ar.sR (i := a) (j := 7) (x := some (hN h + 6)) o0
  rw [e27] at o0
  replace o1 := Ar.sR (i := a) (j := 7) (x := some (hN h + 6)) o1
  rw [e27] at o1
  replace o2 := Ar.sR (i := a) (j := 7) (x := some (hN h + 6)) o2
  rw [e27] at o2
  replace o3 := Ar.sR (i := a) (j := 7) (x := some (hN h + 6)) o3
  rw [e27] at o3
  replace o4 := Ar.sR (i := a) (j := 7) (x := some (hN h + 6)) o4
  rw [e27] at o4
  replace o5 := Ar.sR (i := a) (j := 7) (x := some (hN h + 6)) o5
  rw [e27] at o5
  replace o6 := Ar.sR (i := a) (j := 7) (x := some (hN h + 6)) o6
  rw [e27] at o6
  replace hn := hn_sR (i := a) (j := 7) (x := some (hN h + 6)) hn
  rw [e27] at hn
  show Rn g mdX12_init 114 [some (.ref a)] [] H27 7 46 none (i_Mo a h)
  refine o_aload_n (pc := 114) dX12_init_114 rfl ?_
  refine o_bipush (pc := 115) (v := 8) dX12_init_115 rfl ?_
  refine o_newaX (pc := 117) (t := 0) (N := 8) (q := hN h + 7) hn (by decide) rfl la0 dX12_init_117 (by decide) rfl (by decide) (by omega) (by decide) (by decide) (okLs_ref (Or.inl oa.1) okLs_nil) (okSt_ref (Or.inl oa.1) okSt_nil) ?_
  have o7 := Ar.madeX (h := H27) (t := 0) (n := 8) hn
  generalize e28 : hNew H27 (.inr (0, 8)) = H28
  replace oa := Ob.new (z := .inr (0, 8)) oa
  rw [e28] at oa
  replace o0 := Ar.new (z := .inr (0, 8)) o0
  rw [e28] at o0
  replace o1 := Ar.new (z := .inr (0, 8)) o1
  rw [e28] at o1
  replace o2 := Ar.new (z := .inr (0, 8)) o2
  rw [e28] at o2
  replace o3 := Ar.new (z := .inr (0, 8)) o3
  rw [e28] at o3
  replace o4 := Ar.new (z := .inr (0, 8)) o4
  rw [e28] at o4
  replace o5 := Ar.new (z := .inr (0, 8)) o5
  rw [e28] at o5
  replace o6 := Ar.new (z := .inr (0, 8)) o6
  rw [e28] at o6
  replace hn := hn_new (z := .inr (0, 8)) hn
  rw [e28] at hn
  rw [e28] at o7
  show Rn g mdX12_init 119 [some (.ref a)] [.ref (hN h + 7), .ref a] H28 8 54 none (i_Mo a h)
  refine o_putRF (pc := 119) (ci := 11) (k := 8) (by decide) (by decide) rfl lgX12_31 rfl ⟨rfl, rfl⟩ dX12_init_119 oa.1 oa.2 (Or.inl o7.1) ?_
  generalize e29 : sR H28 a 8 (some (hN h + 7)) = H29
  replace oa := Ob.sR (i := a) (j := 8) (x := some (hN h + 7)) oa
  rw [e29] at oa
  replace o0 := Ar.sR (i := a) (j := 8) (x := some (hN h + 7)) o0
  rw [e29] at o0
  replace o1 := Ar.sR (i := a) (j := 8) (x := some (hN h + 7)) o1
  rw [e29] at o1
  replace o2 := Ar.sR (i := a) (j := 8) (x := some (hN h + 7)) o2
  rw [e29] at o2
  replace o3 := Ar.sR (i := a) (j := 8) (x := some (hN h + 7)) o3
  rw [e29] at o3
  replace o4 := Ar.sR (i := a) (j := 8) (x := some (hN h + 7)) o4
  rw [e29] at o4
  replace o5 := Ar.sR (i := a) (j := 8) (x := some (hN h + 7)) o5
  rw [e29] at o5
  replace o6 := Ar.sR (i := a) (j := 8) (x := some (hN h + 7)) o6
  rw [e29] at o6
  replace o7 := Ar.sR (i := a) (j := 8) (x := some (hN h + 7)) o7
  rw [e29] at o7
  replace hn := hn_sR (i := a) (j := 8) (x := some (hN h + 7)) hn
  rw [e29] at hn
  show Rn g mdX12_init 122 [some (.ref a)] [] H29 8 54 none (i_Mo a h)
  refine o_aload_n (pc := 122) dX12_init_122 rfl ?_
  refine o_bipush (pc := 123) (v := 8) dX12_init_123 rfl ?_
  refine o_newaX (pc := 125) (t := 0) (N := 8) (q := hN h + 8) hn (by decide) rfl la0 dX12_init_125 (by decide) rfl (by decide) (by omega) (by decide) (by decide) (okLs_ref (Or.inl oa.1) okLs_nil) (okSt_ref (Or.inl oa.1) okSt_nil) ?_
  have o8 := Ar.madeX (h := H29) (t := 0) (n := 8) hn
  generalize e30 : hNew H29 (.inr (0, 8)) = H30
  replace oa := Ob.new (z := .inr (0, 8)) oa
  rw [e30] at oa
  replace o0 := Ar.new (z := .inr (0, 8)) o0
  rw [e30] at o0
  replace o1 := Ar.new (z := .inr (0, 8)) o1
  rw [e30] at o1
  replace o2 := Ar.new (z := .inr (0, 8)) o2
  rw [e30] at o2
  replace o3 := Ar.new (z := .inr (0, 8)) o3
  rw [e30] at o3
  replace o4 := Ar.new (z := .inr (0, 8)) o4
  rw [e30] at o4
  replace o5 := Ar.new (z := .inr (0, 8)) o5
  rw [e30] at o5
  replace o6 := Ar.new (z := .inr (0, 8)) o6
  rw [e30] at o6
  replace o7 := Ar.new (z := .inr (0, 8)) o7
  rw [e30] at o7
  replace hn := hn_new (z := .inr (0, 8)) hn
  rw [e30] at hn
  rw [e30] at o8
  show Rn g mdX12_init 127 [some (.ref a)] [.ref (hN h + 8), .ref a] H30 9 62 none (i_Mo a h)
  refine o_putRF (pc := 127) (ci := 11) (k := 9) (by decide) (by decide) rfl lgX12_34 rfl ⟨rfl, rfl⟩ dX12_init_127 oa.1 oa.2 (Or.inl o8.1) ?_
  generalize e31 : sR H30 a 9 (some (hN h + 8)) = H31
  replace oa := Ob.sR (i := a) (j := 9) (x := some (hN h + 8)) oa
  rw [e31] at oa
  replace o0 := Ar.sR (i := a) (j := 9) (x := some (hN h + 8)) o0
  rw [e31] at o0
  replace o1 := Ar.sR (i := a) (j := 9) (x := some (hN h + 8)) o1
  rw [e31] at o1
  replace o2 := Ar.sR (i := a) (j := 9) (x := some (hN h + 8)) o2
  rw [e31] at o2
  replace o3 := Ar.sR (i := a) (j := 9) (x := some (hN h + 8)) o3
  rw [e31] at o3
  replace o4 := Ar.sR (i := a) (j := 9) (x := some (hN h + 8)) o4
  rw [e31] at o4
  replace o5 := Ar.sR (i := a) (j := 9) (x := some (hN h + 8)) o5
  rw [e31] at o5
  replace o6 := Ar.sR (i := a) (j := 9) (x := some (hN h + 8)) o6
  rw [e31] at o6
  replace o7 := Ar.sR (i := a) (j := 9) (x := some (hN h + 8)) o7
  rw [e31] at o7
  replace o8 := Ar.sR (i := a) (j := 9) (x := some (hN h + 8)) o8
  rw [e31] at o8
  replace hn := hn_sR (i := a) (j := 9) (x := some (hN h + 8)) hn
  rw [e31] at hn
  show Rn g mdX12_init 130 [some (.ref a)] [] H31 9 62 none (i_Mo a h)
  refine o_aload_n (pc := 130) dX12_init_130 rfl ?_
  refine o_bipush (pc := 131) (v := 8) dX12_init_131 rfl ?_
  refine o_newaX (pc := 133) (t := 0) (N := 8) (q := hN h + 9) hn (by decide) rfl la0 dX12_init_133 (by decide) rfl (by decide) (by omega) (by decide) (by decide) (okLs_ref (Or.inl oa.1) okLs_nil) (okSt_ref (Or.inl oa.1) okSt_nil) ?_
  have o9 := Ar.madeX (h := H31) (t := 0) (n := 8) hn
  generalize e32 : hNew H31 (.inr (0, 8)) = H32
  replace oa := Ob.new (z := .inr (0, 8)) oa
  rw [e32] at oa
  replace o0 := Ar.new (z := .inr (0, 8)) o0
  rw [e32] at o0
  replace o1 := Ar.new (z := .inr (0, 8)) o1
  rw [e32] at o1
  replace o2 := Ar.new (z := .inr (0, 8)) o2
  rw [e32] at o2
  replace o3 := Ar.new (z := .inr (0, 8)) o3
  rw [e32] at o3
  replace o4 := Ar.new (z := .inr (0, 8)) o4
  rw [e32] at o4
  replace o5 := Ar.new (z := .inr (0, 8)) o5
  rw [e32] at o5
  replace o6 := Ar.new (z := .inr (0, 8)) o6
  rw [e32] at o6
  replace o7 := Ar.new (z := .inr (0, 8)) o7
  rw [e32] at o7
  replace o8 := Ar.new (z := .inr (0, 8)) o8
  rw [e32] at o8
  replace hn := hn_new (z := .inr (0, 8)) hn
  rw [e32] at hn
  rw [e32] at o9
  show Rn g mdX12_init 135 [some (.ref a)] [.ref (hN h + 9), .ref a] H32 10 70 none (i_Mo a h)
  refine o_putRF (pc := 135) (ci := 11) (k := 10) (by decide) (by decide) rfl lgX12_37 rfl ⟨rfl, rfl⟩ dX12_init_135 oa.1 oa.2 (Or.inl o9.1) ?_
  generalize e33 : sR H32 a 10 (some (hN h + 9)) = H33
  replace oa := Ob.sR (i := a) (j := 10) (x := some (hN h + 9)) oa
  rw [e33] at oa
  replace o0 := Ar.sR (i := a) (j := 10) (x := some (hN h + 9)) o0
  rw [e33] at o0
  replace o1 := Ar.sR (i := a) (j := 10) (x := some (hN h + 9)) o1
  rw [e33] at o1
  replace o2 := Ar.sR (i := a) (j := 10) (x := some (hN h + 9)) o2
  rw [e33] at o2
  replace o3 := Ar.sR (i := a) (j := 10) (x := some (hN h + 9)) o3
  rw [e33] at o3
  replace o4 := Ar.sR (i := a) (j := 10) (x := some (hN h + 9)) o4
  rw [e33] at o4
  replace o5 := Ar.sR (i := a) (j := 10) (x := some (hN h + 9)) o5
  rw [e33] at o5
  replace o6 := Ar.sR (i := a) (j := 10) (x := some (hN h + 9)) o6
  rw [e33] at o6
  replace o7 := Ar.sR (i := a) (j := 10) (x := some (hN h + 9)) o7
  rw [e33] at o7
  replace o8 := Ar.sR (i := a) (j := 10) (x := some (hN h + 9)) o8
  rw [e33] at o8
  replace o9 := Ar.sR (i := a) (j := 10) (x := some (hN h + 9)) o9
  rw [e33] at o9
  replace hn := hn_sR (i := a) (j := 10) (x := some (hN h + 9)) hn
  rw [e33] at hn
  show Rn g mdX12_init 138 [some (.ref a)] [] H33 10 70 none (i_Mo a h)
  refine o_aload_n (pc := 138) dX12_init_138 rfl ?_
  refine o_bipush (pc := 139) (v := 8) dX12_init_139 rfl ?_
  refine o_newaX (pc := 141) (t := 0) (N := 8) (q := hN h + 10) hn (by decide) rfl la0 dX12_init_141 (by decide) rfl (by decide) (by omega) (by decide) (by decide) (okLs_ref (Or.inl oa.1) okLs_nil) (okSt_ref (Or.inl oa.1) okSt_nil) ?_
  have o10 := Ar.madeX (h := H33) (t := 0) (n := 8) hn
  generalize e34 : hNew H33 (.inr (0, 8)) = H34
  replace oa := Ob.new (z := .inr (0, 8)) oa
  rw [e34] at oa
  replace o0 := Ar.new (z := .inr (0, 8)) o0
  rw [e34] at o0
  replace o1 := Ar.new (z := .inr (0, 8)) o1
  rw [e34] at o1
  replace o2 := Ar.new (z := .inr (0, 8)) o2
  rw [e34] at o2
  replace o3 := Ar.new (z := .inr (0, 8)) o3
  rw [e34] at o3
  replace o4 := Ar.new (z := .inr (0, 8)) o4
  rw [e34] at o4
  replace o5 := Ar.new (z := .inr (0, 8)) o5
  rw [e34] at o5
  replace o6 := Ar.new (z := .inr (0, 8)) o6
  rw [e34] at o6
  replace o7 := Ar.new (z := .inr (0, 8)) o7
  rw [e34] at o7
  replace o8 := Ar.new (z := .inr (0, 8)) o8
  rw [e34] at o8
  replace o9 := Ar.new (z := .inr (0, 8)) o9
  rw [e34] at o9
  replace hn := hn_new (z := .inr (0, 8)) hn
  rw [e34] at hn
  rw [e34] at o10
  show Rn g mdX12_init 143 [some (.ref a)] [.ref (hN h + 10), .ref a] H34 11 78 none (i_Mo a h)
  refine o_putRF (pc := 143) (ci := 11) (k := 11) (by decide) (by decide) rfl lgX12_40 rfl ⟨rfl, rfl⟩ dX12_init_143 oa.1 oa.2 (Or.inl o10.1) ?_
  generalize e35 : sR H34 a 11 (some (hN h + 10)) = H35
  replace oa := Ob.sR (i := a) (j := 11) (x := some (hN h + 10)) oa
  rw [e35] at oa
  replace o0 := Ar.sR (i := a) (j := 11) (x := some (hN h + 10)) o0
  rw [e35] at o0
  replace o1 := Ar.sR (i := a) (j := 11) (x := some (hN h + 10)) o1
  rw [e35] at o1
  replace o2 := Ar.sR (i := a) (j := 11) (x := some (hN h + 10)) o2
  rw [e35] at o2
  replace o3 := Ar.sR (i := a) (j := 11) (x := some (hN h + 10)) o3
  rw [e35] at o3
  replace o4 := Ar.sR (i := a) (j := 11) (x := some (hN h + 10)) o4
  rw [e35] at o4
  replace o5 := Ar.sR (i := a) (j := 11) (x := some (hN h + 10)) o5
  rw [e35] at o5
  replace o6 := Ar.sR (i := a) (j := 11) (x := some (hN h + 10)) o6
  rw [e35] at o6
  replace o7 := Ar.sR (i := a) (j := 11) (x := some (hN h + 10)) o7
  rw [e35] at o7
  replace o8 := Ar.sR (i := a) (j := 11) (x := some (hN h + 10)) o8
  rw [e35] at o8
  replace o9 := Ar.sR (i := a) (j := 11) (x := some (hN h + 10)) o9
  rw [e35] at o9
  replace o10 := Ar.sR (i := a) (j := 11) (x := some (hN h + 10)) o10
  rw [e35] at o10
  replace hn := hn_sR (i := a) (j := 11) (x := some (hN h + 10)) hn
  rw [e35] at hn
  show Rn g mdX12_init 146 [some (.ref a)] [] H35 11 78 none (i_Mo a h)
  refine o_aload_n (pc := 146) dX12_init_146 rfl ?_
  refine o_bipush (pc := 147) (v := 8) dX12_init_147 rfl ?_
  refine o_newaX (pc := 149) (t := 0) (N := 8) (q := hN h + 11) hn (by decide) rfl la0 dX12_init_149 (by decide) rfl (by decide) (by omega) (by decide) (by decide) (okLs_ref (Or.inl oa.1) okLs_nil) (okSt_ref (Or.inl oa.1) okSt_nil) ?_
  have o11 := Ar.madeX (h := H35) (t := 0) (n := 8) hn
  generalize e36 : hNew H35 (.inr (0, 8)) = H36
  replace oa := Ob.new (z := .inr (0, 8)) oa
  rw [e36] at oa
  replace o0 := Ar.new (z := .inr (0, 8)) o0
  rw [e36] at o0
  replace o1 := Ar.new (z := .inr (0, 8)) o1
  rw [e36] at o1
  replace o2 := Ar.new (z := .inr (0, 8)) o2
  rw [e36] at o2
  replace o3 := Ar.new (z := .inr (0, 8)) o3
  rw [e36] at o3
  replace o4 := Ar.new (z := .inr (0, 8)) o4
  rw [e36] at o4
  replace o5 := Ar.new (z := .inr (0, 8)) o5
  rw [e36] at o5
  replace o6 := Ar.new (z := .inr (0, 8)) o6
  rw [e36] at o6
  replace o7 := Ar.new (z := .inr (0, 8)) o7
  rw [e36] at o7
  replace o8 := Ar.new (z := .inr (0, 8)) o8
  rw [e36] at o8
  replace o9 := Ar.new (z := .inr (0, 8)) o9
  rw [e36] at o9
  replace o10 := Ar.new (z := .inr (0, 8)) o10
  rw [e36] at o10
  replace hn := hn_new (z := .inr (0, 8)) hn
  rw [e36] at hn
  rw [e36] at o11
  show Rn g mdX12_init 151 [some (.ref a)] [.ref (hN h + 11), .ref a] H36 12 86 none (i_Mo a h)
  refine o_putRF (pc := 151) (ci := 11) (k := 12) (by decide) (by decide) rfl lgX12_43 rfl ⟨rfl, rfl⟩ dX12_init_151 oa.1 oa.2 (Or.inl o11.1) ?_
  generalize e37 : sR H36 a 12 (some (hN h + 11)) = H37
  replace oa := Ob.sR (i := a) (j := 12) (x := some (hN h + 11)) oa
  rw [e37] at oa
  replace o0 := Ar.sR (i := a) (j := 12) (x := some (hN h + 11)) o0
  rw [e37] at o0
  replace o1 := Ar.sR (i := a) (j := 12) (x := some (hN h + 11)) o1
  rw [e37] at o1
  replace o2 := Ar.sR (i := a) (j := 12) (x := some (hN h + 11)) o2
  rw [e37] at o2
  replace o3 := Ar.sR (i := a) (j := 12) (x := some (hN h + 11)) o3
  rw [e37] at o3
  replace o4 := Ar.sR (i := a) (j := 12) (x := some (hN h + 11)) o4
  rw [e37] at o4
  replace o5 := Ar.sR (i := a) (j := 12) (x := some (hN h + 11)) o5
  rw [e37] at o5
  replace o6 := Ar.sR (i := a) (j := 12) (x := some (hN h + 11)) o6
  rw [e37] at o6
  replace o7 := Ar.sR (i := a) (j := 12) (x := some (hN h + 11)) o7
  rw [e37] at o7
  replace o8 := Ar.sR (i := a) (j := 12) (x := some (hN h + 11)) o8
  rw [e37] at o8
  replace o9 := Ar.sR (i := a) (j := 12) (x := some (hN h + 11)) o9
  rw [e37] at o9
  replace o10 := Ar.sR (i := a) (j := 12) (x := some (hN h + 11)) o10
  rw [e37] at o10
  replace o11 := Ar.sR (i := a) (j := 12) (x := some (hN h + 11)) o11
  rw [e37] at o11
  replace hn := hn_sR (i := a) (j := 12) (x := some (hN h + 11)) hn
  rw [e37] at hn
  show Rn g mdX12_init 154 [some (.ref a)] [] H37 12 86 none (i_Mo a h)
  refine o_aload_n (pc := 154) dX12_init_154 rfl ?_
  refine o_bipush (pc := 155) (v := 10) dX12_init_155 rfl ?_
  refine o_newaX (pc := 157) (t := 0) (N := 10) (q := hN h + 12) hn (by decide) rfl la0 dX12_init_157 (by decide) rfl (by decide) (by omega) (by decide) (by decide) (okLs_ref (Or.inl oa.1) okLs_nil) (okSt_ref (Or.inl oa.1) okSt_nil) ?_
  have o12 := Ar.madeX (h := H37) (t := 0) (n := 10) hn
  generalize e38 : hNew H37 (.inr (0, 10)) = H38
  replace oa := Ob.new (z := .inr (0, 10)) oa
  rw [e38] at oa
  replace o0 := Ar.new (z := .inr (0, 10)) o0
  rw [e38] at o0
  replace o1 := Ar.new (z := .inr (0, 10)) o1
  rw [e38] at o1
  replace o2 := Ar.new (z := .inr (0, 10)) o2
  rw [e38] at o2
  replace o3 := Ar.new (z := .inr (0, 10)) o3
  rw [e38] at o3
  replace o4 := Ar.new (z := .inr (0, 10)) o4
  rw [e38] at o4
  replace o5 := Ar.new (z := .inr (0, 10)) o5
  rw [e38] at o5
  replace o6 := Ar.new (z := .inr (0, 10)) o6
  rw [e38] at o6
  replace o7 := Ar.new (z := .inr (0, 10)) o7
  rw [e38] at o7
  replace o8 := Ar.new (z := .inr (0, 10)) o8
  rw [e38] at o8
  replace o9 := Ar.new (z := .inr (0, 10)) o9
  rw [e38] at o9
  replace o10 := Ar.new (z := .inr (0, 10)) o10
  rw [e38] at o10
  replace o11 := Ar.new (z := .inr (0, 10)) o11
  rw [e38] at o11
  replace hn := hn_new (z := .inr (0, 10)) hn
  rw [e38] at hn
  rw [e38] at o12
  show Rn g mdX12_init 159 [some (.ref a)] [.ref (hN h + 12), .ref a] H38 13 96 none (i_Mo a h)
  refine o_putRF (pc := 159) (ci := 11) (k := 13) (by decide) (by decide) rfl lgX12_46 rfl ⟨rfl, rfl⟩ dX12_init_159 oa.1 oa.2 (Or.inl o12.1) ?_
  generalize e39 : sR H38 a 13 (some (hN h + 12)) = H39
  replace oa := Ob.sR (i := a) (j := 13) (x := some (hN h + 12)) oa
  rw [e39] at oa
  replace o0 := Ar.sR (i := a) (j := 13) (x := some (hN h + 12)) o0
  rw [e39] at o0
  replace o1 := Ar.sR (i := a) (j := 13) (x := some (hN h + 12)) o1
  rw [e39] at o1
  replace o2 := Ar.sR (i := a) (j := 13) (x := some (hN h + 12)) o2
  rw [e39] at o2
  replace o3 := Ar.sR (i := a) (j := 13) (x := some (hN h + 12)) o3
  rw [e39] at o3
  replace o4 := Ar.sR (i := a) (j := 13) (x := some (hN h + 12)) o4
  rw [e39] at o4
  replace o5 := Ar.sR (i := a) (j := 13) (x := some (hN h + 12)) o5
  rw [e39] at o5
  replace o6 := Ar.sR (i := a) (j := 13) (x := some (hN h + 12)) o6
  rw [e39] at o6
  replace o7 := Ar.sR (i := a) (j := 13) (x := some (hN h + 12)) o7
  rw [e39] at o7
  replace o8 := Ar.sR (i := a) (j := 13) (x := some (hN h + 12)) o8
  rw [e39] at o8
  replace o9 := Ar.sR (i := a) (j := 13) (x := some (hN h + 12)) o9
  rw [e39] at o9
  replace o10 := Ar.sR (i := a) (j := 13) (x := some (hN h + 12)) o10
  rw [e39] at o10
  replace o11 := Ar.sR (i := a) (j := 13) (x := some (hN h + 12)) o11
  rw [e39] at o11
  replace o12 := Ar.sR (i := a) (j := 13) (x := some (hN h + 12)) o12
  rw [e39] at o12
  replace hn := hn_sR (i := a) (j := 13) (x := some (hN h + 12)) hn
  rw [e39] at hn
  show Rn g mdX12_init 162 [some (.ref a)] [] H39 13 96 none (i_Mo a h)
  refine o_aload_n (pc := 162) dX12_init_162 rfl ?_
  refine o_bipush (pc := 163) (v := 10) dX12_init_163 rfl ?_
  refine o_newaX (pc := 165) (t := 0) (N := 10) (q := hN h + 13) hn (by decide) rfl la0 dX12_init_165 (by decide) rfl (by decide) (by omega) (by decide) (by decide) (okLs_ref (Or.inl oa.1) okLs_nil) (okSt_ref (Or.inl oa.1) okSt_nil) ?_
  have o13 := Ar.madeX (h := H39) (t := 0) (n := 10) hn
  generalize e40 : hNew H39 (.inr (0, 10)) = H40
  replace oa := Ob.new (z := .inr (0, 10)) oa
  rw [e40] at oa
  replace o0 := Ar.new (z := .inr (0, 10)) o0
  rw [e40] at o0
  replace o1 := Ar.new (z := .inr (0, 10)) o1
  rw [e40] at o1
  replace o2 := Ar.new (z := .inr (0, 10)) o2
  rw [e40] at o2
  replace o3 := Ar.new (z := .inr (0, 10)) o3
  rw [e40] at o3
  replace o4 := Ar.new (z := .inr (0, 10)) o4
  rw [e40] at o4
  replace o5 := Ar.new (z := .inr (0, 10)) o5
  rw [e40] at o5
  replace o6 := Ar.new (z := .inr (0, 10)) o6
  rw [e40] at o6
  replace o7 := Ar.new (z := .inr (0, 10)) o7
  rw [e40] at o7
  replace o8 := Ar.new (z := .inr (0, 10)) o8
  rw [e40] at o8
  replace o9 := Ar.new (z := .inr (0, 10)) o9
  rw [e40] at o9
  replace o10 := Ar.new (z := .inr (0, 10)) o10
  rw [e40] at o10
  replace o11 := Ar.new (z := .inr (0, 10)) o11
  rw [e40] at o11
  replace o12 := Ar.new (z := .inr (0, 10)) o12
  rw [e40] at o12
  replace hn := hn_new (z := .inr (0, 10)) hn
  rw [e40] at hn
  rw [e40] at o13
  show Rn g mdX12_init 167 [some (.ref a)] [.ref (hN h + 13), .ref a] H40 14 106 none (i_Mo a h)
  refine o_putRF (pc := 167) (ci := 11) (k := 14) (by decide) (by decide) rfl lgX12_49 rfl ⟨rfl, rfl⟩ dX12_init_167 oa.1 oa.2 (Or.inl o13.1) ?_
  generalize e41 : sR H40 a 14 (some (hN h + 13)) = H41
  replace oa := Ob.sR (i := a) (j := 14) (x := some (hN h + 13)) oa
  rw [e41] at oa
  replace o0 := Ar.sR (i := a) (j := 14) (x := some (hN h + 13)) o0
  rw [e41] at o0
  replace o1 := Ar.sR (i := a) (j := 14) (x := some (hN h + 13)) o1
  rw [e41] at o1
  replace o2 := Ar.sR (i := a) (j := 14) (x := some (hN h + 13)) o2
  rw [e41] at o2
  replace o3 := Ar.sR (i := a) (j := 14) (x := some (hN h + 13)) o3
  rw [e41] at o3
  replace o4 := Ar.sR (i := a) (j := 14) (x := some (hN h + 13)) o4
  rw [e41] at o4
  replace o5 := Ar.sR (i := a) (j := 14) (x := some (hN h + 13)) o5
  rw [e41] at o5
  replace o6 := Ar.sR (i := a) (j := 14) (x := some (hN h + 13)) o6
  rw [e41] at o6
  replace o7 := Ar.sR (i := a) (j := 14) (x := some (hN h + 13)) o7
  rw [e41] at o7
  replace o8 := Ar.sR (i := a) (j := 14) (x := some (hN h + 13)) o8
  rw [e41] at o8
  replace o9 := Ar.sR (i := a) (j := 14) (x := some (hN h + 13)) o9
  rw [e41] at o9
  replace o10 := Ar.sR (i := a) (j := 14) (x := some (hN h + 13)) o10
  rw [e41] at o10
  replace o11 := Ar.sR (i := a) (j := 14) (x := some (hN h + 13)) o11
  rw [e41] at o11
  replace o12 := Ar.sR (i := a) (j := 14) (x := some (hN h + 13)) o12
  rw [e41] at o12
  replace o13 := Ar.sR (i := a) (j := 14) (x := some (hN h + 13)) o13
  rw [e41] at o13
  replace hn := hn_sR (i := a) (j := 14) (x := some (hN h + 13)) hn
  rw [e41] at hn
  show Rn g mdX12_init 170 [some (.ref a)] [] H41 14 106 none (i_Mo a h)
  refine o_aload_n (pc := 170) dX12_init_170 rfl ?_
  refine o_bipush (pc := 171) (v := 10) dX12_init_171 rfl ?_
  refine o_newaX (pc := 173) (t := 0) (N := 10) (q := hN h + 14) hn (by decide) rfl la0 dX12_init_173 (by decide) rfl (by decide) (by omega) (by decide) (by decide) (okLs_ref (Or.inl oa.1) okLs_nil) (okSt_ref (Or.inl oa.1) okSt_nil) ?_
  have o14 := Ar.madeX (h := H41) (t := 0) (n := 10) hn
  generalize e42 : hNew H41 (.inr (0, 10)) = H42
  replace oa := Ob.new (z := .inr (0, 10)) oa
  rw [e42] at oa
  replace o0 := Ar.new (z := .inr (0, 10)) o0
  rw [e42] at o0
  replace o1 := Ar.new (z := .inr (0, 10)) o1
  rw [e42] at o1
  replace o2 := Ar.new (z := .inr (0, 10)) o2
  rw [e42] at o2
  replace o3 := Ar.new (z := .inr (0, 10)) o3
  rw [e42] at o3
  replace o4 := Ar.new (z := .inr (0, 10)) o4
  rw [e42] at o4
  replace o5 := Ar.new (z := .inr (0, 10)) o5
  rw [e42] at o5
  replace o6 := Ar.new (z := .inr (0, 10)) o6
  rw [e42] at o6
  replace o7 := Ar.new (z := .inr (0, 10)) o7
  rw [e42] at o7
  replace o8 := Ar.new (z := .inr (0, 10)) o8
  rw [e42] at o8
  replace o9 := Ar.new (z := .inr (0, 10)) o9
  rw [e42] at o9
  replace o10 := Ar.new (z := .inr (0, 10)) o10
  rw [e42] at o10
  replace o11 := Ar.new (z := .inr (0, 10)) o11
  rw [e42] at o11
  replace o12 := Ar.new (z := .inr (0, 10)) o12
  rw [e42] at o12
  replace o13 := Ar.new (z := .inr (0, 10)) o13
  rw [e42] at o13
  replace hn := hn_new (z := .inr (0, 10)) hn
  rw [e42] at hn
  rw [e42] at o14
  show Rn g mdX12_init 175 [some (.ref a)] [.ref (hN h + 14), .ref a] H42 15 116 none (i_Mo a h)
  refine o_putRF (pc := 175) (ci := 11) (k := 15) (by decide) (by decide) rfl lgX12_52 rfl ⟨rfl, rfl⟩ dX12_init_175 oa.1 oa.2 (Or.inl o14.1) ?_
  generalize e43 : sR H42 a 15 (some (hN h + 14)) = H43
  replace oa := Ob.sR (i := a) (j := 15) (x := some (hN h + 14)) oa
  rw [e43] at oa
  replace o0 := Ar.sR (i := a) (j := 15) (x := some (hN h + 14)) o0
  rw [e43] at o0
  replace o1 := Ar.sR (i := a) (j := 15) (x := some (hN h + 14)) o1
  rw [e43] at o1
  replace o2 := Ar.sR (i := a) (j := 15) (x := some (hN h + 14)) o2
  rw [e43] at o2
  replace o3 := Ar.sR (i := a) (j := 15) (x := some (hN h + 14)) o3
  rw [e43] at o3
  replace o4 := Ar.sR (i := a) (j := 15) (x := some (hN h + 14)) o4
  rw [e43] at o4
  replace o5 := Ar.sR (i := a) (j := 15) (x := some (hN h + 14)) o5
  rw [e43] at o5
  replace o6 := Ar.sR (i := a) (j := 15) (x := some (hN h + 14)) o6
  rw [e43] at o6
  replace o7 := Ar.sR (i := a) (j := 15) (x := some (hN h + 14)) o7
  rw [e43] at o7
  replace o8 := Ar.sR (i := a) (j := 15) (x := some (hN h + 14)) o8
  rw [e43] at o8
  replace o9 := Ar.sR (i := a) (j := 15) (x := some (hN h + 14)) o9
  rw [e43] at o9
  replace o10 := Ar.sR (i := a) (j := 15) (x := some (hN h + 14)) o10
  rw [e43] at o10
  replace o11 := Ar.sR (i := a) (j := 15) (x := some (hN h + 14)) o11
  rw [e43] at o11
  replace o12 := Ar.sR (i := a) (j := 15) (x := some (hN h + 14)) o12
  rw [e43] at o12
  replace o13 := Ar.sR (i := a) (j := 15) (x := some (hN h + 14)) o13
  rw [e43] at o13
  replace o14 := Ar.sR (i := a) (j := 15) (x := some (hN h + 14)) o14
  rw [e43] at o14
  replace hn := hn_sR (i := a) (j := 15) (x := some (hN h + 14)) hn
  rw [e43] at hn
  show Rn g mdX12_init 178 [some (.ref a)] [] H43 15 116 none (i_Mo a h)
  refine o_aload_n (pc := 178) dX12_init_178 rfl ?_
  refine o_iconst (pc := 179) (v := 5) dX12_init_179 rfl ?_
  refine o_newaX (pc := 180) (t := 0) (N := 5) (q := hN h + 15) hn (by decide) rfl la0 dX12_init_180 (by decide) rfl (by decide) (by omega) (by decide) (by decide) (okLs_ref (Or.inl oa.1) okLs_nil) (okSt_ref (Or.inl oa.1) okSt_nil) ?_
  have o15 := Ar.madeX (h := H43) (t := 0) (n := 5) hn
  generalize e44 : hNew H43 (.inr (0, 5)) = H44
  replace oa := Ob.new (z := .inr (0, 5)) oa
  rw [e44] at oa
  replace o0 := Ar.new (z := .inr (0, 5)) o0
  rw [e44] at o0
  replace o1 := Ar.new (z := .inr (0, 5)) o1
  rw [e44] at o1
  replace o2 := Ar.new (z := .inr (0, 5)) o2
  rw [e44] at o2
  replace o3 := Ar.new (z := .inr (0, 5)) o3
  rw [e44] at o3
  replace o4 := Ar.new (z := .inr (0, 5)) o4
  rw [e44] at o4
  replace o5 := Ar.new (z := .inr (0, 5)) o5
  rw [e44] at o5
  replace o6 := Ar.new (z := .inr (0, 5)) o6
  rw [e44] at o6
  replace o7 := Ar.new (z := .inr (0, 5)) o7
  rw [e44] at o7
  replace o8 := Ar.new (z := .inr (0, 5)) o8
  rw [e44] at o8
  replace o9 := Ar.new (z := .inr (0, 5)) o9
  rw [e44] at o9
  replace o10 := Ar.new (z := .inr (0, 5)) o10
  rw [e44] at o10
  replace o11 := Ar.new (z := .inr (0, 5)) o11
  rw [e44] at o11
  replace o12 := Ar.new (z := .inr (0, 5)) o12
  rw [e44] at o12
  replace o13 := Ar.new (z := .inr (0, 5)) o13
  rw [e44] at o13
  replace o14 := Ar.new (z := .inr (0, 5)) o14
  rw [e44] at o14
  replace hn := hn_new (z := .inr (0, 5)) hn
  rw [e44] at hn
  rw [e44] at o15
  show Rn g mdX12_init 182 [some (.ref a)] [.ref (hN h + 15), .ref a] H44 16 121 none (i_Mo a h)
  refine o_putRF (pc := 182) (ci := 11) (k := 16) (by decide) (by decide) rfl lgX12_55 rfl ⟨rfl, rfl⟩ dX12_init_182 oa.1 oa.2 (Or.inl o15.1) ?_
  generalize e45 : sR H44 a 16 (some (hN h + 15)) = H45
  replace oa := Ob.sR (i := a) (j := 16) (x := some (hN h + 15)) oa
  rw [e45] at oa
  replace o0 := Ar.sR (i := a) (j := 16) (x := some (hN h + 15)) o0
  rw [e45] at o0
  replace o1 := Ar.sR (i := a) (j := 16) (x := some (hN h + 15)) o1
  rw [e45] at o1
  replace o2 := Ar.sR (i := a) (j := 16) (x := some (hN h + 15)) o2
  rw [e45] at o2
  replace o3 := Ar.sR (i := a) (j := 16) (x := some (hN h + 15)) o3
  rw [e45] at o3
  replace o4 := Ar.sR (i := a) (j := 16) (x := some (hN h + 15)) o4
  rw [e45] at o4
  replace o5 := Ar.sR (i := a) (j := 16) (x := some (hN h + 15)) o5
  rw [e45] at o5
  replace o6 := Ar.sR (i := a) (j := 16) (x := some (hN h + 15)) o6
  rw [e45] at o6
  replace o7 := Ar.sR (i := a) (j := 16) (x := some (hN h + 15)) o7
  rw [e45] at o7
  replace o8 := Ar.sR (i := a) (j := 16) (x := some (hN h + 15)) o8
  rw [e45] at o8
  replace o9 := Ar.sR (i := a) (j := 16) (x := some (hN h + 15)) o9
  rw [e45] at o9
  replace o10 := Ar.sR (i := a) (j := 16) (x := some (hN h + 15)) o10
  rw [e45] at o10
  replace o11 := Ar.sR (i := a) (j := 16) (x := some (hN h + 15)) o11
  rw [e45] at o11
  replace o12 := Ar.sR (i := a) (j := 16) (x := some (hN h + 15)) o12
  rw [e45] at o12
  replace o13 := Ar.sR (i := a) (j := 16) (x := some (hN h + 15)) o13
  rw [e45] at o13
  replace o14 := Ar.sR (i := a) (j := 16) (x := some (hN h + 15)) o14
  rw [e45] at o14
  replace o15 := Ar.sR (i := a) (j := 16) (x := some (hN h + 15)) o15
  rw [e45] at o15
  replace hn := hn_sR (i := a) (j := 16) (x := some (hN h + 15)) hn
  rw [e45] at hn
  show Rn g mdX12_init 185 [some (.ref a)] [] H45 16 121 none (i_Mo a h)
  refine o_aload_n (pc := 185) dX12_init_185 rfl ?_
  refine o_bipush (pc := 186) (v := 8) dX12_init_186 rfl ?_
  refine o_newaX (pc := 188) (t := 0) (N := 8) (q := hN h + 16) hn (by decide) rfl la0 dX12_init_188 (by decide) rfl (by decide) (by omega) (by decide) (by decide) (okLs_ref (Or.inl oa.1) okLs_nil) (okSt_ref (Or.inl oa.1) okSt_nil) ?_
  have o16 := Ar.madeX (h := H45) (t := 0) (n := 8) hn
  generalize e46 : hNew H45 (.inr (0, 8)) = H46
  replace oa := Ob.new (z := .inr (0, 8)) oa
  rw [e46] at oa
  replace o0 := Ar.new (z := .inr (0, 8)) o0
  rw [e46] at o0
  replace o1 := Ar.new (z := .inr (0, 8)) o1
  rw [e46] at o1
  replace o2 := Ar.new (z := .inr (0, 8)) o2
  rw [e46] at o2
  replace o3 := Ar.new (z := .inr (0, 8)) o3
  rw [e46] at o3
  replace o4 := Ar.new (z := .inr (0, 8)) o4
  rw [e46] at o4
  replace o5 := Ar.new (z := .inr (0, 8)) o5
  rw [e46] at o5
  replace o6 := Ar.new (z := .inr (0, 8)) o6
  rw [e46] at o6
  replace o7 := Ar.new (z := .inr (0, 8)) o7
  rw [e46] at o7
  replace o8 := Ar.new (z := .inr (0, 8)) o8
  rw [e46] at o8
  replace o9 := Ar.new (z := .inr (0, 8)) o9
  rw [e46] at o9
  replace o10 := Ar.new (z := .inr (0, 8)) o10
  rw [e46] at o10
  replace o11 := Ar.new (z := .inr (0, 8)) o11
  rw [e46] at o11
  replace o12 := Ar.new (z := .inr (0, 8)) o12
  rw [e46] at o12
  replace o13 := Ar.new (z := .inr (0, 8)) o13
  rw [e46] at o13
  replace o14 := Ar.new (z := .inr (0, 8)) o14
  rw [e46] at o14
  replace o15 := Ar.new (z := .inr (0, 8)) o15
  rw [e46] at o15
  replace hn := hn_new (z := .inr (0, 8)) hn
  rw [e46] at hn
  rw [e46] at o16
  show Rn g mdX12_init 190 [some (.ref a)] [.ref (hN h + 16), .ref a] H46 17 129 none (i_Mo a h)
  refine o_putRF (pc := 190) (ci := 11) (k := 17) (by decide) (by decide) rfl lgX12_58 rfl ⟨rfl, rfl⟩ dX12_init_190 oa.1 oa.2 (Or.inl o16.1) ?_
  generalize e47 : sR H46 a 17 (some (hN h + 16)) = H47
  replace oa := Ob.sR (i := a) (j := 17) (x := some (hN h + 16)) oa
  rw [e47] at oa
  replace o0 := Ar.sR (i := a) (j := 17) (x := some (hN h + 16)) o0
  rw [e47] at o0
  replace o1 := Ar.sR (i := a) (j := 17) (x := some (hN h + 16)) o1
  rw [e47] at o1
  replace o2 := Ar.sR (i := a) (j := 17) (x := some (hN h + 16)) o2
  rw [e47] at o2
  replace o3 := Ar.sR (i := a) (j := 17) (x := some (hN h + 16)) o3
  rw [e47] at o3
  replace o4 := Ar.sR (i := a) (j := 17) (x := some (hN h + 16)) o4
  rw [e47] at o4
  replace o5 := Ar.sR (i := a) (j := 17) (x := some (hN h + 16)) o5
  rw [e47] at o5
  replace o6 := Ar.sR (i := a) (j := 17) (x := some (hN h + 16)) o6
  rw [e47] at o6
  replace o7 := Ar.sR (i := a) (j := 17) (x := some (hN h + 16)) o7
  rw [e47] at o7
  replace o8 := Ar.sR (i := a) (j := 17) (x := some (hN h + 16)) o8
  rw [e47] at o8
  replace o9 := Ar.sR (i := a) (j := 17) (x := some (hN h + 16)) o9
  rw [e47] at o9
  replace o10 := Ar.sR (i := a) (j := 17) (x := some (hN h + 16)) o10
  rw [e47] at o10
  replace o11 := Ar.sR (i := a) (j := 17) (x := some (hN h + 16)) o11
  rw [e47] at o11
  replace o12 := Ar.sR (i := a) (j := 17) (x := some (hN h + 16)) o12
  rw [e47] at o12
  replace o13 := Ar.sR (i := a) (j := 17) (x := some (hN h + 16)) o13
  rw [e47] at o13
  replace o14 := Ar.sR (i := a) (j := 17) (x := some (hN h + 16)) o14
  rw [e47] at o14
  replace o15 := Ar.sR (i := a) (j := 17) (x := some (hN h + 16)) o15
  rw [e47] at o15
  replace o16 := Ar.sR (i := a) (j := 17) (x := some (hN h + 16)) o16
  rw [e47] at o16
  replace hn := hn_sR (i := a) (j := 17) (x := some (hN h + 16)) hn
  rw [e47] at hn
  show Rn g mdX12_init 193 [some (.ref a)] [] H47 17 129 none (i_Mo a h)
  refine o_aload_n (pc := 193) dX12_init_193 rfl ?_
  refine o_iconst (pc := 194) (v := 1) dX12_init_194 rfl ?_
  refine o_newaX (pc := 195) (t := 0) (N := 1) (q := hN h + 17) hn (by decide) rfl la0 dX12_init_195 (by decide) rfl (by decide) (by omega) (by decide) (by decide) (okLs_ref (Or.inl oa.1) okLs_nil) (okSt_ref (Or.inl oa.1) okSt_nil) ?_
  have o17 := Ar.madeX (h := H47) (t := 0) (n := 1) hn
  generalize e48 : hNew H47 (.inr (0, 1)) = H48
  replace oa := Ob.new (z := .inr (0, 1)) oa
  rw [e48] at oa
  replace o0 := Ar.new (z := .inr (0, 1)) o0
  rw [e48] at o0
  replace o1 := Ar.new (z := .inr (0, 1)) o1
  rw [e48] at o1
  replace o2 := Ar.new (z := .inr (0, 1)) o2
  rw [e48] at o2
  replace o3 := Ar.new (z := .inr (0, 1)) o3
  rw [e48] at o3
  replace o4 := Ar.new (z := .inr (0, 1)) o4
  rw [e48] at o4
  replace o5 := Ar.new (z := .inr (0, 1)) o5
  rw [e48] at o5
  replace o6 := Ar.new (z := .inr (0, 1)) o6
  rw [e48] at o6
  replace o7 := Ar.new (z := .inr (0, 1)) o7
  rw [e48] at o7
  replace o8 := Ar.new (z := .inr (0, 1)) o8
  rw [e48] at o8
  replace o9 := Ar.new (z := .inr (0, 1)) o9
  rw [e48] at o9
  replace o10 := Ar.new (z := .inr (0, 1)) o10
  rw [e48] at o10
  replace o11 := Ar.new (z := .inr (0, 1)) o11
  rw [e48] at o11
  replace o12 := Ar.new (z := .inr (0, 1)) o12
  rw [e48] at o12
  replace o13 := Ar.new (z := .inr (0, 1)) o13
  rw [e48] at o13
  replace o14 := Ar.new (z := .inr (0, 1)) o14
  rw [e48] at o14
  replace o15 := Ar.new (z := .inr (0, 1)) o15
  rw [e48] at o15
  replace o16 := Ar.new (z := .inr (0, 1)) o16
  rw [e48] at o16
  replace hn := hn_new (z := .inr (0, 1)) hn
  rw [e48] at hn
  rw [e48] at o17
  show Rn g mdX12_init 197 [some (.ref a)] [.ref (hN h + 17), .ref a] H48 18 130 none (i_Mo a h)
  refine o_putRF (pc := 197) (ci := 11) (k := 18) (by decide) (by decide) rfl lgX12_61 rfl ⟨rfl, rfl⟩ dX12_init_197 oa.1 oa.2 (Or.inl o17.1) ?_
  generalize e49 : sR H48 a 18 (some (hN h + 17)) = H49
  replace oa := Ob.sR (i := a) (j := 18) (x := some (hN h + 17)) oa
  rw [e49] at oa
  replace o0 := Ar.sR (i := a) (j := 18) (x := some (hN h + 17)) o0
  rw [e49] at o0
  replace o1 := Ar.sR (i := a) (j := 18) (x := some (hN h + 17)) o1
  rw [e49] at o1
  replace o2 := Ar.sR (i := a) (j := 18) (x := some (hN h + 17)) o2
  rw [e49] at o2
  replace o3 := Ar.sR (i := a) (j := 18) (x := some (hN h + 17)) o3
  rw [e49] at o3
  replace o4 := Ar.sR (i := a) (j := 18) (x := some (hN h + 17)) o4
  rw [e49] at o4
  replace o5 := Ar.sR (i := a) (j := 18) (x := some (hN h + 17)) o5
  rw [e49] at o5
  replace o6 := Ar.sR (i := a) (j := 18) (x := some (hN h + 17)) o6
  rw [e49] at o6
  replace o7 := Ar.sR (i := a) (j := 18) (x := some (hN h + 17)) o7
  rw [e49] at o7
  replace o8 := Ar.sR (i := a) (j := 18) (x := some (hN h + 17)) o8
  rw [e49] at o8
  replace o9 := Ar.sR (i := a) (j := 18) (x := some (hN h + 17)) o9
  rw [e49] at o9
  replace o10 := Ar.sR (i := a) (j := 18) (x := some (hN h + 17)) o10
  rw [e49] at o10
  replace o11 := Ar.sR (i := a) (j := 18) (x := some (hN h + 17)) o11
  rw [e49] at o11
  replace o12 := Ar.sR (i := a) (j := 18) (x := some (hN h + 17)) o12
  rw [e49] at o12
  replace o13 := Ar.sR (i := a) (j := 18) (x := some (hN h + 17)) o13
  rw [e49] at o13
  replace o14 := Ar.sR (i := a) (j := 18) (x := some (hN h + 17)) o14
  rw [e49] at o14
  replace o15 := Ar.sR (i := a) (j := 18) (x := some (hN h + 17)) o15
  rw [e49] at o15
  replace o16 := Ar.sR (i := a) (j := 18) (x := some (hN h + 17)) o16
  rw [e49] at o16
  replace o17 := Ar.sR (i := a) (j := 18) (x := some (hN h + 17)) o17
  rw [e49] at o17
  replace hn := hn_sR (i := a) (j := 18) (x := some (hN h + 17)) hn
  rw [e49] at hn
  show Rn g mdX12_init 200 [some (.ref a)] [] H49 18 130 none (i_Mo a h)
  refine o_aload_n (pc := 200) dX12_init_200 rfl ?_
  refine o_bipush (pc := 201) (v := 9) dX12_init_201 rfl ?_
  refine o_newaX (pc := 203) (t := 0) (N := 9) (q := hN h + 18) hn (by decide) rfl la0 dX12_init_203 (by decide) rfl (by decide) (by omega) (by decide) (by decide) (okLs_ref (Or.inl oa.1) okLs_nil) (okSt_ref (Or.inl oa.1) okSt_nil) ?_
  have o18 := Ar.madeX (h := H49) (t := 0) (n := 9) hn
  generalize e50 : hNew H49 (.inr (0, 9)) = H50
  replace oa := Ob.new (z := .inr (0, 9)) oa
  rw [e50] at oa
  replace o0 := Ar.new (z := .inr (0, 9)) o0
  rw [e50] at o0
  replace o1 := Ar.new (z := .inr (0, 9)) o1
  rw [e50] at o1
  replace o2 := Ar.new (z := .inr (0, 9)) o2
  rw [e50] at o2
  replace o3 := Ar.new (z := .inr (0, 9)) o3
  rw [e50] at o3
  replace o4 := Ar.new (z := .inr (0, 9)) o4
  rw [e50] at o4
  replace o5 := Ar.new (z := .inr (0, 9)) o5
  rw [e50] at o5
  replace o6 := Ar.new (z := .inr (0, 9)) o6
  rw [e50] at o6
  replace o7 := Ar.new (z := .inr (0, 9)) o7
  rw [e50] at o7
  replace o8 := Ar.new (z := .inr (0, 9)) o8
  rw [e50] at o8
  replace o9 := Ar.new (z := .inr (0, 9)) o9
  rw [e50] at o9
  replace o10 := Ar.new (z := .inr (0, 9)) o10
  rw [e50] at o10
  replace o11 := Ar.new (z := .inr (0, 9)) o11
  rw [e50] at o11
  replace o12 := Ar.new (z := .inr (0, 9)) o12
  rw [e50] at o12
  replace o13 := Ar.new (z := .inr (0, 9)) o13
  rw [e50] at o13
  replace o14 := Ar.new (z := .inr (0, 9)) o14
  rw [e50] at o14
  replace o15 := Ar.new (z := .inr (0, 9)) o15
  rw [e50] at o15
  replace o16 := Ar.new (z := .inr (0, 9)) o16
  rw [e50] at o16
  replace o17 := Ar.new (z := .inr (0, 9)) o17
  rw [e50] at o17
  replace hn := hn_new (z := .inr (0, 9)) hn
  rw [e50] at hn
  rw [e50] at o18
  show Rn g mdX12_init 205 [some (.ref a)] [.ref (hN h + 18), .ref a] H50 19 139 none (i_Mo a h)
  refine o_putRF (pc := 205) (ci := 11) (k := 19) (by decide) (by decide) rfl lgX12_64 rfl ⟨rfl, rfl⟩ dX12_init_205 oa.1 oa.2 (Or.inl o18.1) ?_
  generalize e51 : sR H50 a 19 (some (hN h + 18)) = H51
  replace oa := Ob.sR (i := a) (j := 19) (x := some (hN h + 18)) oa
  rw [e51] at oa
  replace o0 := Ar.sR (i := a) (j := 19) (x := some (hN h + 18)) o0
  rw [e51] at o0
  replace o1 := Ar.sR (i := a) (j := 19) (x := some (hN h + 18)) o1
  rw [e51] at o1
  replace o2 := Ar.sR (i := a) (j := 19) (x := some (hN h + 18)) o2
  rw [e51] at o2
  replace o3 := Ar.sR (i := a) (j := 19) (x := some (hN h + 18)) o3
  rw [e51] at o3
  replace o4 := Ar.sR (i := a) (j := 19) (x := some (hN h + 18)) o4
  rw [e51] at o4
  replace o5 := Ar.sR (i := a) (j := 19) (x := some (hN h + 18)) o5
  rw [e51] at o5
  replace o6 := Ar.sR (i := a) (j := 19) (x := some (hN h + 18)) o6
  rw [e51] at o6
  replace o7 := Ar.sR (i := a) (j := 19) (x := some (hN h + 18)) o7
  rw [e51] at o7
  replace o8 := Ar.sR (i := a) (j := 19) (x := some (hN h + 18)) o8
  rw [e51] at o8
  replace o9 := Ar.sR (i := a) (j := 19) (x := some (hN h + 18)) o9
  rw [e51] at o9
  replace o10 := Ar.sR (i := a) (j := 19) (x := some (hN h + 18)) o10
  rw [e51] at o10
  replace o11 := Ar.sR (i := a) (j := 19) (x := some (hN h + 18)) o11
  rw [e51] at o11
  replace o12 := Ar.sR (i := a) (j := 19) (x := some (hN h + 18)) o12
  rw [e51] at o12
  replace o13 := Ar.sR (i := a) (j := 19) (x := some (hN h + 18)) o13
  rw [e51] at o13
  replace o14 := Ar.sR (i := a) (j := 19) (x := some (hN h + 18)) o14
  rw [e51] at o14
  replace o15 := Ar.sR (i := a) (j := 19) (x := some (hN h + 18)) o15
  rw [e51] at o15
  replace o16 := Ar.sR (i := a) (j := 19) (x := some (hN h + 18)) o16
  rw [e51] at o16
  replace o17 := Ar.sR (i := a) (j := 19) (x := some (hN h + 18)) o17
  rw [e51] at o17
  replace o18 := Ar.sR (i := a) (j := 19) (x := some (hN h + 18)) o18
  rw [e51] at o18
  replace hn := hn_sR (i := a) (j := 19) (x := some (hN h + 18)) hn
  rw [e51] at hn
  show Rn g mdX12_init 208 [some (.ref a)] [] H51 19 139 none (i_Mo a h)
  refine o_aload_n (pc := 208) dX12_init_208 rfl ?_
  refine o_iconst (pc := 209) (v := 5) dX12_init_209 rfl ?_
  refine o_newaX (pc := 210) (t := 0) (N := 5) (q := hN h + 19) hn (by decide) rfl la0 dX12_init_210 (by decide) rfl (by decide) (by omega) (by decide) (by decide) (okLs_ref (Or.inl oa.1) okLs_nil) (okSt_ref (Or.inl oa.1) okSt_nil) ?_
  have o19 := Ar.madeX (h := H51) (t := 0) (n := 5) hn
  generalize e52 : hNew H51 (.inr (0, 5)) = H52
  replace oa := Ob.new (z := .inr (0, 5)) oa
  rw [e52] at oa
  replace o0 := Ar.new (z := .inr (0, 5)) o0
  rw [e52] at o0
  replace o1 := Ar.new (z := .inr (0, 5)) o1
  rw [e52] at o1
  replace o2 := Ar.new (z := .inr (0, 5)) o2
  rw [e52] at o2
  replace o3 := Ar.new (z := .inr (0, 5)) o3
  rw [e52] at o3
  replace o4 := Ar.new (z := .inr (0, 5)) o4
  rw [e52] at o4
  replace o5 := Ar.new (z := .inr (0, 5)) o5
  rw [e52] at o5
  replace o6 := Ar.new (z := .inr (0, 5)) o6
  rw [e52] at o6
  replace o7 := Ar.new (z := .inr (0, 5)) o7
  rw [e52] at o7
  replace o8 := Ar.new (z := .inr (0, 5)) o8
  rw [e52] at o8
  replace o9 := Ar.new (z := .inr (0, 5)) o9
  rw [e52] at o9
  replace o10 := Ar.new (z := .inr (0, 5)) o10
  rw [e52] at o10
  replace o11 := Ar.new (z := .inr (0, 5)) o11
  rw [e52] at o11
  replace o12 := Ar.new (z := .inr (0, 5)) o12
  rw [e52] at o12
  replace o13 := Ar.new (z := .inr (0, 5)) o13
  rw [e52] at o13
  replace o14 := Ar.new (z := .inr (0, 5)) o14
  rw [e52] at o14
  replace o15 := Ar.new (z := .inr (0, 5)) o15
  rw [e52] at o15
  replace o16 := Ar.new (z := .inr (0, 5)) o16
  rw [e52] at o16
  replace o17 := Ar.new (z := .inr (0, 5)) o17
  rw [e52] at o17
  replace o18 := Ar.new (z := .inr (0, 5)) o18
  rw [e52] at o18
  replace hn := hn_new (z := .inr (0, 5)) hn
  rw [e52] at hn
  rw [e52] at o19
  show Rn g mdX12_init 212 [some (.ref a)] [.ref (hN h + 19), .ref a] H52 20 144 none (i_Mo a h)
  refine o_putRF (pc := 212) (ci := 11) (k := 20) (by decide) (by decide) rfl lgX12_67 rfl ⟨rfl, rfl⟩ dX12_init_212 oa.1 oa.2 (Or.inl o19.1) ?_
  generalize e53 : sR H52 a 20 (some (hN h + 19)) = H53
  replace oa := Ob.sR (i := a) (j := 20) (x := some (hN h + 19)) oa
  rw [e53] at oa
  replace o0 := Ar.sR (i := a) (j := 20) (x := some (hN h + 19)) o0
  rw [e53] at o0
  replace o1 := Ar.sR (i := a) (j := 20) (x := some (hN h + 19)) o1
  rw [e53] at o1
  replace o2 := Ar.sR (i := a) (j := 20) (x := some (hN h + 19)) o2
  rw [e53] at o2
  replace o3 := Ar.sR (i := a) (j := 20) (x := some (hN h + 19)) o3
  rw [e53] at o3
  replace o4 := Ar.sR (i := a) (j := 20) (x := some (hN h + 19)) o4
  rw [e53] at o4
  replace o5 := Ar.sR (i := a) (j := 20) (x := some (hN h + 19)) o5
  rw [e53] at o5
  replace o6 := Ar.sR (i := a) (j := 20) (x := some (hN h + 19)) o6
  rw [e53] at o6
  replace o7 := Ar.sR (i := a) (j := 20) (x := some (hN h + 19)) o7
  rw [e53] at o7
  replace o8 := Ar.sR (i := a) (j := 20) (x := some (hN h + 19)) o8
  rw [e53] at o8
  replace o9 := Ar.sR (i := a) (j := 20) (x := some (hN h + 19)) o9
  rw [e53] at o9
  replace o10 := Ar.sR (i := a) (j := 20) (x := some (hN h + 19)) o10
  rw [e53] at o10
  replace o11 := Ar.sR (i := a) (j := 20) (x := some (hN h + 19)) o11
  rw [e53] at o11
  replace o12 := Ar.sR (i := a) (j := 20) (x := some (hN h + 19)) o12
  rw [e53] at o12
  replace o13 := Ar.sR (i := a) (j := 20) (x := some (hN h + 19)) o13
  rw [e53] at o13
  replace o14 := Ar.sR (i := a) (j := 20) (x := some (hN h + 19)) o14
  rw [e53] at o14
  replace o15 := Ar.sR (i := a) (j := 20) (x := some (hN h + 19)) o15
  rw [e53] at o15
  replace o16 := Ar.sR (i := a) (j := 20) (x := some (hN h + 19)) o16
  rw [e53] at o16
  replace o17 := Ar.sR (i := a) (j := 20) (x := some (hN h + 19)) o17
  rw [e53] at o17
  replace o18 := Ar.sR (i := a) (j := 20) (x := some (hN h + 19)) o18
  rw [e53] at o18
  replace o19 := Ar.sR (i := a) (j := 20) (x := some (hN h + 19)) o19
  rw [e53] at o19
  replace hn := hn_sR (i := a) (j := 20) (x := some (hN h + 19)) hn
  rw [e53] at hn
  show Rn g mdX12_init 215 [some (.ref a)] [] H53 20 144 none (i_Mo a h)
  refine o_aload_n (pc := 215) dX12_init_215 rfl ?_
  refine o_iconst (pc := 216) (v := 5) dX12_init_216 rfl ?_
  refine o_newaX (pc := 217) (t := 0) (N := 5) (q := hN h + 20) hn (by decide) rfl la0 dX12_init_217 (by decide) rfl (by decide) (by omega) (by decide) (by decide) (okLs_ref (Or.inl oa.1) okLs_nil) (okSt_ref (Or.inl oa.1) okSt_nil) ?_
  have o20 := Ar.madeX (h := H53) (t := 0) (n := 5) hn
  generalize e54 : hNew H53 (.inr (0, 5)) = H54
  replace oa := Ob.new (z := .inr (0, 5)) oa
  rw [e54] at oa
  replace o0 := Ar.new (z := .inr (0, 5)) o0
  rw [e54] at o0
  replace o1 := Ar.new (z := .inr (0, 5)) o1
  rw [e54] at o1
  replace o2 := Ar.new (z := .inr (0, 5)) o2
  rw [e54] at o2
  replace o3 := Ar.new (z := .inr (0, 5)) o3
  rw [e54] at o3
  replace o4 := Ar.new (z := .inr (0, 5)) o4
  rw [e54] at o4
  replace o5 := Ar.new (z := .inr (0, 5)) o5
  rw [e54] at o5
  replace o6 := Ar.new (z := .inr (0, 5)) o6
  rw [e54] at o6
  replace o7 := Ar.new (z := .inr (0, 5)) o7
  rw [e54] at o7
  replace o8 := Ar.new (z := .inr (0, 5)) o8
  rw [e54] at o8
  replace o9 := Ar.new (z := .inr (0, 5)) o9
  rw [e54] at o9
  replace o10 := Ar.new (z := .inr (0, 5)) o10
  rw [e54] at o10
  replace o11 := Ar.new (z := .inr (0, 5)) o11
  rw [e54] at o11
  replace o12 := Ar.new (z := .inr (0, 5)) o12
  rw [e54] at o12
  replace o13 := Ar.new (z := .inr (0, 5)) o13
  rw [e54] at o13
  replace o14 := Ar.new (z := .inr (0, 5)) o14
  rw [e54] at o14
  replace o15 := Ar.new (z := .inr (0, 5)) o15
  rw [e54] at o15
  replace o16 := Ar.new (z := .inr (0, 5)) o16
  rw [e54] at o16
  replace o17 := Ar.new (z := .inr (0, 5)) o17
  rw [e54] at o17
  replace o18 := Ar.new (z := .inr (0, 5)) o18
  rw [e54] at o18
  replace o19 := Ar.new (z := .inr (0, 5)) o19
  rw [e54] at o19
  replace hn := hn_new (z := .inr (0, 5)) hn
  rw [e54] at hn
  rw [e54] at o20
  show Rn g mdX12_init 219 [some (.ref a)] [.ref (hN h + 20), .ref a] H54 21 149 none (i_Mo a h)
  refine o_putRF (pc := 219) (ci := 11) (k := 21) (by decide) (by decide) rfl lgX12_70 rfl ⟨rfl, rfl⟩ dX12_init_219 oa.1 oa.2 (Or.inl o20.1) ?_
  generalize e55 : sR H54 a 21 (some (hN h + 20)) = H55
  replace oa := Ob.sR (i := a) (j := 21) (x := some (hN h + 20)) oa
  rw [e55] at oa
  replace o0 := Ar.sR (i := a) (j := 21) (x := some (hN h + 20)) o0
  rw [e55] at o0
  replace o1 := Ar.sR (i := a) (j := 21) (x := some (hN h + 20)) o1
  rw [e55] at o1
  replace o2 := Ar.sR (i := a) (j := 21) (x := some (hN h + 20)) o2
  rw [e55] at o2
  replace o3 := Ar.sR (i := a) (j := 21) (x := some (hN h + 20)) o3
  rw [e55] at o3
  replace o4 := Ar.sR (i := a) (j := 21) (x := some (hN h + 20)) o4
  rw [e55] at o4
  replace o5 := Ar.sR (i := a) (j := 21) (x := some (hN h + 20)) o5
  rw [e55] at o5
  replace o6 := Ar.sR (i := a) (j := 21) (x := some (hN h + 20)) o6
  rw [e55] at o6
  replace o7 := Ar.sR (i := a) (j := 21) (x := some (hN h + 20)) o7
  rw [e55] at o7
  replace o8 := Ar.sR (i := a) (j := 21) (x := some (hN h + 20)) o8
  rw [e55] at o8
  replace o9 := Ar.sR (i := a) (j := 21) (x := some (hN h + 20)) o9
  rw [e55] at o9
  replace o10 := Ar.sR (i := a) (j := 21) (x := some (hN h + 20)) o10
  rw [e55] at o10
  replace o11 := Ar.sR (i := a) (j := 21) (x := some (hN h + 20)) o11
  rw [e55] at o11
  replace o12 := Ar.sR (i := a) (j := 21) (x := some (hN h + 20)) o12
  rw [e55] at o12
  replace o13 := Ar.sR (i := a) (j := 21) (x := some (hN h + 20)) o13
  rw [e55] at o13
  replace o14 := Ar.sR (i := a) (j := 21) (x := some (hN h + 20)) o14
  rw [e55] at o14
  replace o15 := Ar.sR (i := a) (j := 21) (x := some (hN h + 20)) o15
  rw [e55] at o15
  replace o16 := Ar.sR (i := a) (j := 21) (x := some (hN h + 20)) o16
  rw [e55] at o16
  replace o17 := Ar.sR (i := a) (j := 21) (x := some (hN h + 20)) o17
  rw [e55] at o17
  replace o18 := Ar.sR (i := a) (j := 21) (x := some (hN h + 20)) o18
  rw [e55] at o18
  replace o19 := Ar.sR (i := a) (j := 21) (x := some (hN h + 20)) o19
  rw [e55] at o19
  replace o20 := Ar.sR (i := a) (j := 21) (x := some (hN h + 20)) o20
  rw [e55] at o20
  replace hn := hn_sR (i := a) (j := 21) (x := some (hN h + 20)) hn
  rw [e55] at hn
  show Rn g mdX12_init 222 [some (.ref a)] [] H55 21 149 none (i_Mo a h)
  refine o_aload_n (pc := 222) dX12_init_222 rfl ?_
  refine o_bipush (pc := 223) (v := 8) dX12_init_223 rfl ?_
  refine o_newaX (pc := 225) (t := 0) (N := 8) (q := hN h + 21) hn (by decide) rfl la0 dX12_init_225 (by decide) rfl (by decide) (by omega) (by decide) (by decide) (okLs_ref (Or.inl oa.1) okLs_nil) (okSt_ref (Or.inl oa.1) okSt_nil) ?_
  have o21 := Ar.madeX (h := H55) (t := 0) (n := 8) hn
  generalize e56 : hNew H55 (.inr (0, 8)) = H56
  replace oa := Ob.new (z := .inr (0, 8)) oa
  rw [e56] at oa
  replace o0 := Ar.new (z := .inr (0, 8)) o0
  rw [e56] at o0
  replace o1 := Ar.new (z := .inr (0, 8)) o1
  rw [e56] at o1
  replace o2 := Ar.new (z := .inr (0, 8)) o2
  rw [e56] at o2
  replace o3 := Ar.new (z := .inr (0, 8)) o3
  rw [e56] at o3
  replace o4 := Ar.new (z := .inr (0, 8)) o4
  rw [e56] at o4
  replace o5 := Ar.new (z := .inr (0, 8)) o5
  rw [e56] at o5
  replace o6 := Ar.new (z := .inr (0, 8)) o6
  rw [e56] at o6
  replace o7 := Ar.new (z := .inr (0, 8)) o7
  rw [e56] at o7
  replace o8 := Ar.new (z := .inr (0, 8)) o8
  rw [e56] at o8
  replace o9 := Ar.new (z := .inr (0, 8)) o9
  rw [e56] at o9
  replace o10 := Ar.new (z := .inr (0, 8)) o10
  rw [e56] at o10
  replace o11 := Ar.new (z := .inr (0, 8)) o11
  rw [e56] at o11
  replace o12 := Ar.new (z := .inr (0, 8)) o12
  rw [e56] at o12
  replace o13 := Ar.new (z := .inr (0, 8)) o13
  rw [e56] at o13
  replace o14 := Ar.new (z := .inr (0, 8)) o14
  rw [e56] at o14
  replace o15 := Ar.new (z := .inr (0, 8)) o15
  rw [e56] at o15
  replace o16 := Ar.new (z := .inr (0, 8)) o16
  rw [e56] at o16
  replace o17 := Ar.new (z := .inr (0, 8)) o17
  rw [e56] at o17
  replace o18 := Ar.new (z := .inr (0, 8)) o18
  rw [e56] at o18
  replace o19 := Ar.new (z := .inr (0, 8)) o19
  rw [e56] at o19
  replace o20 := Ar.new (z := .inr (0, 8)) o20
  rw [e56] at o20
  replace hn := hn_new (z := .inr (0, 8)) hn
  rw [e56] at hn
  rw [e56] at o21
  show Rn g mdX12_init 227 [some (.ref a)] [.ref (hN h + 21), .ref a] H56 22 157 none (i_Mo a h)
  refine o_putRF (pc := 227) (ci := 11) (k := 22) (by decide) (by decide) rfl lgX12_73 rfl ⟨rfl, rfl⟩ dX12_init_227 oa.1 oa.2 (Or.inl o21.1) ?_
  generalize e57 : sR H56 a 22 (some (hN h + 21)) = H57
  replace oa := Ob.sR (i := a) (j := 22) (x := some (hN h + 21)) oa
  rw [e57] at oa
  replace o0 := Ar.sR (i := a) (j := 22) (x := some (hN h + 21)) o0
  rw [e57] at o0
  replace o1 := Ar.sR (i := a) (j := 22) (x := some (hN h + 21)) o1
  rw [e57] at o1
  replace o2 := Ar.sR (i := a) (j := 22) (x := some (hN h + 21)) o2
  rw [e57] at o2
  replace o3 := Ar.sR (i := a) (j := 22) (x := some (hN h + 21)) o3
  rw [e57] at o3
  replace o4 := Ar.sR (i := a) (j := 22) (x := some (hN h + 21)) o4
  rw [e57] at o4
  replace o5 := Ar.sR (i := a) (j := 22) (x := some (hN h + 21)) o5
  rw [e57] at o5
  replace o6 := Ar.sR (i := a) (j := 22) (x := some (hN h + 21)) o6
  rw [e57] at o6
  replace o7 := Ar.sR (i := a) (j := 22) (x := some (hN h + 21)) o7
  rw [e57] at o7
  replace o8 := Ar.sR (i := a) (j := 22) (x := some (hN h + 21)) o8
  rw [e57] at o8
  replace o9 := Ar.sR (i := a) (j := 22) (x := some (hN h + 21)) o9
  rw [e57] at o9
  replace o10 := Ar.sR (i := a) (j := 22) (x := some (hN h + 21)) o10
  rw [e57] at o10
  replace o11 := Ar.sR (i := a) (j := 22) (x := some (hN h + 21)) o11
  rw [e57] at o11
  replace o12 := Ar.sR (i := a) (j := 22) (x := some (hN h + 21)) o12
  rw [e57] at o12
  replace o13 := Ar.sR (i := a) (j := 22) (x := some (hN h + 21)) o13
  rw [e57] at o13
  replace o14 := Ar.sR (i := a) (j := 22) (x := some (hN h + 21)) o14
  rw [e57] at o14
  replace o15 := Ar.sR (i := a) (j := 22) (x := some (hN h + 21)) o15
  rw [e57] at o15
  replace o16 := Ar.sR (i := a) (j := 22) (x := some (hN h + 21)) o16
  rw [e57] at o16
  replace o17 := Ar.sR (i := a) (j := 22) (x := some (hN h + 21)) o17
  rw [e57] at o17
  replace o18 := Ar.sR (i := a) (j := 22) (x := some (hN h + 21)) o18
  rw [e57] at o18
  replace o19 := Ar.sR (i := a) (j := 22) (x := some (hN h + 21)) o19
  rw [e57] at o19
  replace o20 := Ar.sR (i := a) (j := 22) (x := some (hN h + 21)) o20
  rw [e57] at o20
  replace o21 := Ar.sR (i := a) (j := 22) (x := some (hN h + 21)) o21
  rw [e57] at o21
  replace hn := hn_sR (i := a) (j := 22) (x := some (hN h + 21)) hn
  rw [e57] at hn
  show Rn g mdX12_init 230 [some (.ref a)] [] H57 22 157 none (i_Mo a h)
  refine o_aload_n (pc := 230) dX12_init_230 rfl ?_
  refine o_bipush (pc := 231) (v := 8) dX12_init_231 rfl ?_
  refine o_newaX (pc := 233) (t := 0) (N := 8) (q := hN h + 22) hn (by decide) rfl la0 dX12_init_233 (by decide) rfl (by decide) (by omega) (by decide) (by decide) (okLs_ref (Or.inl oa.1) okLs_nil) (okSt_ref (Or.inl oa.1) okSt_nil) ?_
  have o22 := Ar.madeX (h := H57) (t := 0) (n := 8) hn
  generalize e58 : hNew H57 (.inr (0, 8)) = H58
  replace oa := Ob.new (z := .inr (0, 8)) oa
  rw [e58] at oa
  replace o0 := Ar.new (z := .inr (0, 8)) o0
  rw [e58] at o0
  replace o1 := Ar.new (z := .inr (0, 8)) o1
  rw [e58] at o1
  replace o2 := Ar.new (z := .inr (0, 8)) o2
  rw [e58] at o2
  replace o3 := Ar.new (z := .inr (0, 8)) o3
  rw [e58] at o3
  replace o4 := Ar.new (z := .inr (0, 8)) o4
  rw [e58] at o4
  replace o5 := Ar.new (z := .inr (0, 8)) o5
  rw [e58] at o5
  replace o6 := Ar.new (z := .inr (0, 8)) o6
  rw [e58] at o6
  replace o7 := Ar.new (z := .inr (0, 8)) o7
  rw [e58] at o7
  replace o8 := Ar.new (z := .inr (0, 8)) o8
  rw [e58] at o8
  replace o9 := Ar.new (z := .inr (0, 8)) o9
  rw [e58] at o9
  replace o10 := Ar.new (z := .inr (0, 8)) o10
  rw [e58] at o10
  replace o11 := Ar.new (z := .inr (0, 8)) o11
  rw [e58] at o11
  replace o12 := Ar.new (z := .inr (0, 8)) o12
  rw [e58] at o12
  replace o13 := Ar.new (z := .inr (0, 8)) o13
  rw [e58] at o13
  replace o14 := Ar.new (z := .inr (0, 8)) o14
  rw [e58] at o14
  replace o15 := Ar.new (z := .inr (0, 8)) o15
  rw [e58] at o15
  replace o16 := Ar.new (z := .inr (0, 8)) o16
  rw [e58] at o16
  replace o17 := Ar.new (z := .inr (0, 8)) o17
  rw [e58] at o17
  replace o18 := Ar.new (z := .inr (0, 8)) o18
  rw [e58] at o18
  replace o19 := Ar.new (z := .inr (0, 8)) o19
  rw [e58] at o19
  replace o20 := Ar.new (z := .inr (0, 8)) o20
  rw [e58] at o20
  replace o21 := Ar.new (z := .inr (0, 8)) o21
  rw [e58] at o21
  replace hn := hn_new (z := .inr (0, 8)) hn
  rw [e58] at hn
  rw [e58] at o22
  show Rn g mdX12_init 235 [some (.ref a)] [.ref (hN h + 22), .ref a] H58 23 165 none (i_Mo a h)
  refine o_putRF (pc := 235) (ci := 11) (k := 23) (by decide) (by decide) rfl lgX12_76 rfl ⟨rfl, rfl⟩ dX12_init_235 oa.1 oa.2 (Or.inl o22.1) ?_
  generalize e59 : sR H58 a 23 (some (hN h + 22)) = H59
  replace oa := Ob.sR (i := a) (j := 23) (x := some (hN h + 22)) oa
  rw [e59] at oa
  replace o0 := Ar.sR (i := a) (j := 23) (x := some (hN h + 22)) o0
  rw [e59] at o0
  replace o1 := Ar.sR (i := a) (j := 23) (x := some (hN h + 22)) o1
  rw [e59] at o1
  replace o2 := Ar.sR (i := a) (j := 23) (x := some (hN h + 22)) o2
  rw [e59] at o2
  replace o3 := Ar.sR (i := a) (j := 23) (x := some (hN h + 22)) o3
  rw [e59] at o3
  replace o4 := Ar.sR (i := a) (j := 23) (x := some (hN h + 22)) o4
  rw [e59] at o4
  replace o5 := Ar.sR (i := a) (j := 23) (x := some (hN h + 22)) o5
  rw [e59] at o5
  replace o6 := Ar.sR (i := a) (j := 23) (x := some (hN h + 22)) o6
  rw [e59] at o6
  replace o7 := Ar.sR (i := a) (j := 23) (x := some (hN h + 22)) o7
  rw [e59] at o7
  replace o8 := Ar.sR (i := a) (j := 23) (x := some (hN h + 22)) o8
  rw [e59] at o8
  replace o9 := Ar.sR (i := a) (j := 23) (x := some (hN h + 22)) o9
  rw [e59] at o9
  replace o10 := Ar.sR (i := a) (j := 23) (x := some (hN h + 22)) o10
  rw [e59] at o10
  replace o11 := Ar.sR (i := a) (j := 23) (x := some (hN h + 22)) o11
  rw [e59] at o11
  replace o12 := Ar.sR (i := a) (j := 23) (x := some (hN h + 22)) o12
  rw [e59] at o12
  replace o13 := Ar.sR (i := a) (j := 23) (x := some (hN h + 22)) o13
  rw [e59] at o13
  replace o14 := Ar.sR (i := a) (j := 23) (x := some (hN h + 22)) o14
  rw [e59] at o14
  replace o15 := Ar.sR (i := a) (j := 23) (x := some (hN h + 22)) o15
  rw [e59] at o15
  replace o16 := Ar.sR (i := a) (j := 23) (x := some (hN h + 22)) o16
  rw [e59] at o16
  replace o17 := Ar.sR (i := a) (j := 23) (x := some (hN h + 22)) o17
  rw [e59] at o17
  replace o18 := Ar.sR (i := a) (j := 23) (x := some (hN h + 22)) o18
  rw [e59] at o18
  replace o19 := Ar.sR (i := a) (j := 23) (x := some (hN h + 22)) o19
  rw [e59] at o19
  replace o20 := Ar.sR (i := a) (j := 23) (x := some (hN h + 22)) o20
  rw [e59] at o20
  replace o21 := Ar.sR (i := a) (j := 23) (x := some (hN h + 22)) o21
  rw [e59] at o21
  replace o22 := Ar.sR (i := a) (j := 23) (x := some (hN h + 22)) o22
  rw [e59] at o22
  replace hn := hn_sR (i := a) (j := 23) (x := some (hN h + 22)) hn
  rw [e59] at hn
  show Rn g mdX12_init 238 [some (.ref a)] [] H59 23 165 none (i_Mo a h)
  refine o_aload_n (pc := 238) dX12_init_238 rfl ?_
  refine o_bipush (pc := 239) (v := 8) dX12_init_239 rfl ?_
  refine o_newaX (pc := 241) (t := 0) (N := 8) (q := hN h + 23) hn (by decide) rfl la0 dX12_init_241 (by decide) rfl (by decide) (by omega) (by decide) (by decide) (okLs_ref (Or.inl oa.1) okLs_nil) (okSt_ref (Or.inl oa.1) okSt_nil) ?_
  have o23 := Ar.madeX (h := H59) (t := 0) (n := 8) hn
  generalize e60 : hNew H59 (.inr (0, 8)) = H60
  replace oa := Ob.new (z := .inr (0, 8)) oa
  rw [e60] at oa
  replace o0 := Ar.new (z := .inr (0, 8)) o0
  rw [e60] at o0
  replace o1 := Ar.new (z := .inr (0, 8)) o1
  rw [e60] at o1
  replace o2 := Ar.new (z := .inr (0, 8)) o2
  rw [e60] at o2
  replace o3 := Ar.new (z := .inr (0, 8)) o3
  rw [e60] at o3
  replace o4 := Ar.new (z := .inr (0, 8)) o4
  rw [e60] at o4
  replace o5 := Ar.new (z := .inr (0, 8)) o5
  rw [e60] at o5
  replace o6 := Ar.new (z := .inr (0, 8)) o6
  rw [e60] at o6
  replace o7 := Ar.new (z := .inr (0, 8)) o7
  rw [e60] at o7
  replace o8 := Ar.new (z := .inr (0, 8)) o8
  rw [e60] at o8
  replace o9 := Ar.new (z := .inr (0, 8)) o9
  rw [e60] at o9
  replace o10 := Ar.new (z := .inr (0, 8)) o10
  rw [e60] at o10
  replace o11 := Ar.new (z := .inr (0, 8)) o11
  rw [e60] at o11
  replace o12 := Ar.new (z := .inr (0, 8)) o12
  rw [e60] at o12
  replace o13 := Ar.new (z := .inr (0, 8)) o13
  rw [e60] at o13
  replace o14 := Ar.new (z := .inr (0, 8)) o14
  rw [e60] at o14
  replace o15 := Ar.new (z := .inr (0, 8)) o15
  rw [e60] at o15
  replace o16 := Ar.new (z := .inr (0, 8)) o16
  rw [e60] at o16
  replace o17 := Ar.new (z := .inr (0, 8)) o17
  rw [e60] at o17
  replace o18 := Ar.new (z := .inr (0, 8)) o18
  rw [e60] at o18
  replace o19 := Ar.new (z := .inr (0, 8)) o19
  rw [e60] at o19
  replace o20 := Ar.new (z := .inr (0, 8)) o20
  rw [e60] at o20
  replace o21 := Ar.new (z := .inr (0, 8)) o21
  rw [e60] at o21
  replace o22 := Ar.new (z := .inr (0, 8)) o22
  rw [e60] at o22
  replace hn := hn_new (z := .inr (0, 8)) hn
  rw [e60] at hn
  rw [e60] at o23
  show Rn g mdX12_init 243 [some (.ref a)] [.ref (hN h + 23), .ref a] H60 24 173 none (i_Mo a h)
  refine o_putRF (pc := 243) (ci := 11) (k := 24) (by decide) (by decide) rfl lgX12_79 rfl ⟨rfl, rfl⟩ dX12_init_243 oa.1 oa.2 (Or.inl o23.1) ?_
  generalize e61 : sR H60 a 24 (some (hN h + 23)) = H61
  replace oa := Ob.sR (i := a) (j := 24) (x := some (hN h + 23)) oa
  rw [e61] at oa
  replace o0 := Ar.sR (i := a) (j := 24) (x := some (hN h + 23)) o0
  rw [e61] at o0
  replace o1 := Ar.sR (i := a) (j := 24) (x := some (hN h + 23)) o1
  rw [e61] at o1
  replace o2 := Ar.sR (i := a) (j := 24) (x := some (hN h + 23)) o2
  rw [e61] at o2
  replace o3 := Ar.sR (i := a) (j := 24) (x := some (hN h + 23)) o3
  rw [e61] at o3
  replace o4 := Ar.sR (i := a) (j := 24) (x := some (hN h + 23)) o4
  rw [e61] at o4
  replace o5 := Ar.sR (i := a) (j := 24) (x := some (hN h + 23)) o5
  rw [e61] at o5
  replace o6 := Ar.sR (i := a) (j := 24) (x := some (hN h + 23)) o6
  rw [e61] at o6
  replace o7 := Ar.sR (i := a) (j := 24) (x := some (hN h + 23)) o7
  rw [e61] at o7
  replace o8 := Ar.sR (i := a) (j := 24) (x := some (hN h + 23)) o8
  rw [e61] at o8
  replace o9 := Ar.sR (i := a) (j := 24) (x := some (hN h + 23)) o9
  rw [e61] at o9
  replace o10 := Ar.sR (i := a) (j := 24) (x := some (hN h + 23)) o10
  rw [e61] at o10
  replace o11 := Ar.sR (i := a) (j := 24) (x := some (hN h + 23)) o11
  rw [e61] at o11
  replace o12 := Ar.sR (i := a) (j := 24) (x := some (hN h + 23)) o12
  rw [e61] at o12
  replace o13 := Ar.sR (i := a) (j := 24) (x := some (hN h + 23)) o13
  rw [e61] at o13
  replace o14 := Ar.sR (i := a) (j := 24) (x := some (hN h + 23)) o14
  rw [e61] at o14
  replace o15 := Ar.sR (i := a) (j := 24) (x := some (hN h + 23)) o15
  rw [e61] at o15
  replace o16 := Ar.sR (i := a) (j := 24) (x := some (hN h + 23)) o16
  rw [e61] at o16
  replace o17 := Ar.sR (i := a) (j := 24) (x := some (hN h + 23)) o17
  rw [e61] at o17
  replace o18 := Ar.sR (i := a) (j := 24) (x := some (hN h + 23)) o18
  rw [e61] at o18
  replace o19 := Ar.sR (i := a) (j := 24) (x := some (hN h + 23)) o19
  rw [e61] at o19
  replace o20 := Ar.sR (i := a) (j := 24) (x := some (hN h + 23)) o20
  rw [e61] at o20
  replace o21 := Ar.sR (i := a) (j := 24) (x := some (hN h + 23)) o21
  rw [e61] at o21
  replace o22 := Ar.sR (i := a) (j := 24) (x := some (hN h + 23)) o22
  rw [e61] at o22
  replace o23 := Ar.sR (i := a) (j := 24) (x := some (hN h + 23)) o23
  rw [e61] at o23
  replace hn := hn_sR (i := a) (j := 24) (x := some (hN h + 23)) hn
  rw [e61] at hn
  show Rn g mdX12_init 246 [some (.ref a)] [] H61 24 173 none (i_Mo a h)
  refine o_aload_n (pc := 246) dX12_init_246 rfl ?_
  refine o_bipush (pc := 247) (v := 8) dX12_init_247 rfl ?_
  refine o_newaX (pc := 249) (t := 0) (N := 8) (q := hN h + 24) hn (by decide) rfl la0 dX12_init_249 (by decide) rfl (by decide) (by omega) (by decide) (by decide) (okLs_ref (Or.inl oa.1) okLs_nil) (okSt_ref (Or.inl oa.1) okSt_nil) ?_
  have o24 := Ar.madeX (h := H61) (t := 0) (n := 8) hn
  generalize e62 : hNew H61 (.inr (0, 8)) = H62
  replace oa := Ob.new (z := .inr (0, 8)) oa
  rw [e62] at oa
  replace o0 := Ar.new (z := .inr (0, 8)) o0
  rw [e62] at o0
  replace o1 := Ar.new (z := .inr (0, 8)) o1
  rw [e62] at o1
  replace o2 := Ar.new (z := .inr (0, 8)) o2
  rw [e62] at o2
  replace o3 := Ar.new (z := .inr (0, 8)) o3
  rw [e62] at o3
  replace o4 := Ar.new (z := .inr (0, 8)) o4
  rw [e62] at o4
  replace o5 := Ar.new (z := .inr (0, 8)) o5
  rw [e62] at o5
  replace o6 := Ar.new (z := .inr (0, 8)) o6
  rw [e62] at o6
  replace o7 := Ar.new (z := .inr (0, 8)) o7
  rw [e62] at o7
  replace o8 := Ar.new (z := .inr (0, 8)) o8
  rw [e62] at o8
  replace o9 := Ar.new (z := .inr (0, 8)) o9
  rw [e62] at o9
  replace o10 := Ar.new (z := .inr (0, 8)) o10
  rw [e62] at o10
  replace o11 := Ar.new (z := .inr (0, 8)) o11
  rw [e62] at o11
  replace o12 := Ar.new (z := .inr (0, 8)) o12
  rw [e62] at o12
  replace o13 := Ar.new (z := .inr (0, 8)) o13
  rw [e62] at o13
  replace o14 := Ar.new (z := .inr (0, 8)) o14
  rw [e62] at o14
  replace o15 := Ar.new (z := .inr (0, 8)) o15
  rw [e62] at o15
  replace o16 := Ar.new (z := .inr (0, 8)) o16
  rw [e62] at o16
  replace o17 := Ar.new (z := .inr (0, 8)) o17
  rw [e62] at o17
  replace o18 := Ar.new (z := .inr (0, 8)) o18
  rw [e62] at o18
  replace o19 := Ar.new (z := .inr (0, 8)) o19
  rw [e62] at o19
  replace o20 := Ar.new (z := .inr (0, 8)) o20
  rw [e62] at o20
  replace o21 := Ar.new (z := .inr (0, 8)) o21
  rw [e62] at o21
  replace o22 := Ar.new (z := .inr (0, 8)) o22
  rw [e62] at o22
  replace o23 := Ar.new (z := .inr (0, 8)) o23
  rw [e62] at o23
  replace hn := hn_new (z := .inr (0, 8)) hn
  rw [e62] at hn
  rw [e62] at o24
  show Rn g mdX12_init 251 [some (.ref a)] [.ref (hN h + 24), .ref a] H62 25 181 none (i_Mo a h)
  refine o_putRF (pc := 251) (ci := 11) (k := 25) (by decide) (by decide) rfl lgX12_82 rfl ⟨rfl, rfl⟩ dX12_init_251 oa.1 oa.2 (Or.inl o24.1) ?_
  generalize e63 : sR H62 a 25 (some (hN h + 24)) = H63
  replace oa := Ob.sR (i := a) (j := 25) (x := some (hN h + 24)) oa
  rw [e63] at oa
  replace o0 := Ar.sR (i := a) (j := 25) (x := some (hN h + 24)) o0
  rw [e63] at o0
  replace o1 := Ar.sR (i := a) (j := 25) (x := some (hN h + 24)) o1
  rw [e63] at o1
  replace o2 := Ar.sR (i := a) (j := 25) (x := some (hN h + 24)) o2
  rw [e63] at o2
  replace o3 := Ar.sR (i := a) (j := 25) (x := some (hN h + 24)) o3
  rw [e63] at o3
  replace o4 := Ar.sR (i := a) (j := 25) (x := some (hN h + 24)) o4
  rw [e63] at o4
  replace o5 := Ar.sR (i := a) (j := 25) (x := some (hN h + 24)) o5
  rw [e63] at o5
  replace o6 := Ar.sR (i := a) (j := 25) (x := some (hN h + 24)) o6
  rw [e63] at o6
  replace o7 := Ar.sR (i := a) (j := 25) (x := some (hN h + 24)) o7
  rw [e63] at o7
  replace o8 := Ar.sR (i := a) (j := 25) (x := some (hN h + 24)) o8
  rw [e63] at o8
  replace o9 := Ar.sR (i := a) (j := 25) (x := some (hN h + 24)) o9
  rw [e63] at o9
  replace o10 := Ar.sR (i := a) (j := 25) (x := some (hN h + 24)) o10
  rw [e63] at o10
  replace o11 := Ar.sR (i := a) (j := 25) (x := some (hN h + 24)) o11
  rw [e63] at o11
  replace o12 := Ar.sR (i := a) (j := 25) (x := some (hN h + 24)) o12
  rw [e63] at o12
  replace o13 := Ar.sR (i := a) (j := 25) (x := some (hN h + 24)) o13
  rw [e63] at o13
  replace o14 := Ar.sR (i := a) (j := 25) (x := some (hN h + 24)) o14
  rw [e63] at o14
  replace o15 := Ar.sR (i := a) (j := 25) (x := some (hN h + 24)) o15
  rw [e63] at o15
  replace o16 := Ar.sR (i := a) (j := 25) (x := some (hN h + 24)) o16
  rw [e63] at o16
  replace o17 := Ar.sR (i := a) (j := 25) (x := some (hN h + 24)) o17
  rw [e63] at o17
  replace o18 := Ar.sR (i := a) (j := 25) (x := some (hN h + 24)) o18
  rw [e63] at o18
  replace o19 := Ar.sR (i := a) (j := 25) (x := some (hN h + 24)) o19
  rw [e63] at o19
  replace o20 := Ar.sR (i := a) (j := 25) (x := some (hN h + 24)) o20
  rw [e63] at o20
  replace o21 := Ar.sR (i := a) (j := 25) (x := some (hN h + 24)) o21
  rw [e63] at o21
  replace o22 := Ar.sR (i := a) (j := 25) (x := some (hN h + 24)) o22
  rw [e63] at o22
  replace o23 := Ar.sR (i := a) (j := 25) (x := some (hN h + 24)) o23
  rw [e63] at o23
  replace o24 := Ar.sR (i := a) (j := 25) (x := some (hN h + 24)) o24
  rw [e63] at o24
  replace hn := hn_sR (i := a) (j := 25) (x := some (hN h + 24)) hn
  rw [e63] at hn
  show Rn g mdX12_init 254 [some (.ref a)] [] H63 25 181 none (i_Mo a h)
  refine o_aload_n (pc := 254) dX12_init_254 rfl ?_
  refine o_bipush (pc := 255) (v := 14) dX12_init_255 rfl ?_
  refine o_putI (pc := 257) (ci := 11) (k := 35) (by decide) (by decide) rfl (Or.inl lgX12_85) rfl dX12_init_257 oa.1 oa.2 ⟨rfl, rfl⟩ ?_
  generalize e64 : sI H63 a 35 14 = H64
  replace oa := Ob.sI (i := a) (j := 35) (x := 14) oa
  rw [e64] at oa
  replace o0 := Ar.sI (i := a) (j := 35) (x := 14) o0
  rw [e64] at o0
  replace o1 := Ar.sI (i := a) (j := 35) (x := 14) o1
  rw [e64] at o1
  replace o2 := Ar.sI (i := a) (j := 35) (x := 14) o2
  rw [e64] at o2
  replace o3 := Ar.sI (i := a) (j := 35) (x := 14) o3
  rw [e64] at o3
  replace o4 := Ar.sI (i := a) (j := 35) (x := 14) o4
  rw [e64] at o4
  replace o5 := Ar.sI (i := a) (j := 35) (x := 14) o5
  rw [e64] at o5
  replace o6 := Ar.sI (i := a) (j := 35) (x := 14) o6
  rw [e64] at o6
  replace o7 := Ar.sI (i := a) (j := 35) (x := 14) o7
  rw [e64] at o7
  replace o8 := Ar.sI (i := a) (j := 35) (x := 14) o8
  rw [e64] at o8
  replace o9 := Ar.sI (i := a) (j := 35) (x := 14) o9
  rw [e64] at o9
  replace o10 := Ar.sI (i := a) (j := 35) (x := 14) o10
  rw [e64] at o10
  replace o11 := Ar.sI (i := a) (j := 35) (x := 14) o11
  rw [e64] at o11
  replace o12 := Ar.sI (i := a) (j := 35) (x := 14) o12
  rw [e64] at o12
  replace o13 := Ar.sI (i := a) (j := 35) (x := 14) o13
  rw [e64] at o13
  replace o14 := Ar.sI (i := a) (j := 35) (x := 14) o14
  rw [e64] at o14
  replace o15 := Ar.sI (i := a) (j := 35) (x := 14) o15
  rw [e64] at o15
  replace o16 := Ar.sI (i := a) (j := 35) (x := 14) o16
  rw [e64] at o16
  replace o17 := Ar.sI (i := a) (j := 35) (x := 14) o17
  rw [e64] at o17
  replace o18 := Ar.sI (i := a) (j := 35) (x := 14) o18
  rw [e64] at o18
  replace o19 := Ar.sI (i := a) (j := 35) (x := 14) o19
  rw [e64] at o19
  replace o20 := Ar.sI (i := a) (j := 35) (x := 14) o20
  rw [e64] at o20
  replace o21 := Ar.sI (i := a) (j := 35) (x := 14) o21
  rw [e64] at o21
  replace o22 := Ar.sI (i := a) (j := 35) (x := 14) o22
  rw [e64] at o22
  replace o23 := Ar.sI (i := a) (j := 35) (x := 14) o23
  rw [e64] at o23
  replace o24 := Ar.sI (i := a) (j := 35) (x := 14) o24
  rw [e64] at o24
  replace hn := hn_sI (i := a) (j := 35) (x := 14) hn
  rw [e64] at hn
  show Rn g mdX12_init 260 [some (.ref a)] [] H64 25 181 none (i_Mo a h)
  refine o_aload_n (pc := 260) dX12_init_260 rfl ?_
  refine o_sipush (pc := 261) (v := 400) dX12_init_261 rfl ?_
  refine o_newaX (pc := 264) (t := 2) (N := 400) (q := hN h + 25) hn (by decide) rfl la2 dX12_init_264 (by decide) rfl (by decide) (by omega) (by decide) (by decide) (okLs_ref (Or.inl oa.1) okLs_nil) (okSt_ref (Or.inl oa.1) okSt_nil) ?_
  have o25 := Ar.madeX (h := H64) (t := 2) (n := 400) hn
  generalize e65 : hNew H64 (.inr (2, 400)) = H65
  replace oa := Ob.new (z := .inr (2, 400)) oa
  rw [e65] at oa
  replace o0 := Ar.new (z := .inr (2, 400)) o0
  rw [e65] at o0
  replace o1 := Ar.new (z := .inr (2, 400)) o1
  rw [e65] at o1
  replace o2 := Ar.new (z := .inr (2, 400)) o2
  rw [e65] at o2
  replace o3 := Ar.new (z := .inr (2, 400)) o3
  rw [e65] at o3
  replace o4 := Ar.new (z := .inr (2, 400)) o4
  rw [e65] at o4
  replace o5 := Ar.new (z := .inr (2, 400)) o5
  rw [e65] at o5
  replace o6 := Ar.new (z := .inr (2, 400)) o6
  rw [e65] at o6
  replace o7 := Ar.new (z := .inr (2, 400)) o7
  rw [e65] at o7
  replace o8 := Ar.new (z := .inr (2, 400)) o8
  rw [e65] at o8
  replace o9 := Ar.new (z := .inr (2, 400)) o9
  rw [e65] at o9
  replace o10 := Ar.new (z := .inr (2, 400)) o10
  rw [e65] at o10
  replace o11 := Ar.new (z := .inr (2, 400)) o11
  rw [e65] at o11
  replace o12 := Ar.new (z := .inr (2, 400)) o12
  rw [e65] at o12
  replace o13 := Ar.new (z := .inr (2, 400)) o13
  rw [e65] at o13
  replace o14 := Ar.new (z := .inr (2, 400)) o14
  rw [e65] at o14
  replace o15 := Ar.new (z := .inr (2, 400)) o15
  rw [e65] at o15
  replace o16 := Ar.new (z := .inr (2, 400)) o16
  rw [e65] at o16
  replace o17 := Ar.new (z := .inr (2, 400)) o17
  rw [e65] at o17
  replace o18 := Ar.new (z := .inr (2, 400)) o18
  rw [e65] at o18
  replace o19 := Ar.new (z := .inr (2, 400)) o19
  rw [e65] at o19
  replace o20 := Ar.new (z := .inr (2, 400)) o20
  rw [e65] at o20
  replace o21 := Ar.new (z := .inr (2, 400)) o21
  rw [e65] at o21
  replace o22 := Ar.new (z := .inr (2, 400)) o22
  rw [e65] at o22
  replace o23 := Ar.new (z := .inr (2, 400)) o23
  rw [e65] at o23
  replace o24 := Ar.new (z := .inr (2, 400)) o24
  rw [e65] at o24
  replace hn := hn_new (z := .inr (2, 400)) hn
  rw [e65] at hn
  rw [e65] at o25
  show Rn g mdX12_init 266 [some (.ref a)] [.ref (hN h + 25), .ref a] H65 26 581 none (i_Mo a h)
  refine o_putRF (pc := 266) (ci := 11) (k := 36) (by decide) (by decide) rfl lgX12_89 rfl ⟨rfl, rfl⟩ dX12_init_266 oa.1 oa.2 (Or.inl o25.1) ?_
  generalize e66 : sR H65 a 36 (some (hN h + 25)) = H66
  replace oa := Ob.sR (i := a) (j := 36) (x := some (hN h + 25)) oa
  rw [e66] at oa
  replace o0 := Ar.sR (i := a) (j := 36) (x := some (hN h + 25)) o0
  rw [e66] at o0
  replace o1 := Ar.sR (i := a) (j := 36) (x := some (hN h + 25)) o1
  rw [e66] at o1
  replace o2 := Ar.sR (i := a) (j := 36) (x := some (hN h + 25)) o2
  rw [e66] at o2
  replace o3 := Ar.sR (i := a) (j := 36) (x := some (hN h + 25)) o3
  rw [e66] at o3
  replace o4 := Ar.sR (i := a) (j := 36) (x := some (hN h + 25)) o4
  rw [e66] at o4
  replace o5 := Ar.sR (i := a) (j := 36) (x := some (hN h + 25)) o5
  rw [e66] at o5
  replace o6 := Ar.sR (i := a) (j := 36) (x := some (hN h + 25)) o6
  rw [e66] at o6
  replace o7 := Ar.sR (i := a) (j := 36) (x := some (hN h + 25)) o7
  rw [e66] at o7
  replace o8 := Ar.sR (i := a) (j := 36) (x := some (hN h + 25)) o8
  rw [e66] at o8
  replace o9 := Ar.sR (i := a) (j := 36) (x := some (hN h + 25)) o9
  rw [e66] at o9
  replace o10 := Ar.sR (i := a) (j := 36) (x := some (hN h + 25)) o10
  rw [e66] at o10
  replace o11 := Ar.sR (i := a) (j := 36) (x := some (hN h + 25)) o11
  rw [e66] at o11
  replace o12 := Ar.sR (i := a) (j := 36) (x := some (hN h + 25)) o12
  rw [e66] at o12
  replace o13 := Ar.sR (i := a) (j := 36) (x := some (hN h + 25)) o13
  rw [e66] at o13
  replace o14 := Ar.sR (i := a) (j := 36) (x := some (hN h + 25)) o14
  rw [e66] at o14
  replace o15 := Ar.sR (i := a) (j := 36) (x := some (hN h + 25)) o15
  rw [e66] at o15
  replace o16 := Ar.sR (i := a) (j := 36) (x := some (hN h + 25)) o16
  rw [e66] at o16
  replace o17 := Ar.sR (i := a) (j := 36) (x := some (hN h + 25)) o17
  rw [e66] at o17
  replace o18 := Ar.sR (i := a) (j := 36) (x := some (hN h + 25)) o18
  rw [e66] at o18
  replace o19 := Ar.sR (i := a) (j := 36) (x := some (hN h + 25)) o19
  rw [e66] at o19
  replace o20 := Ar.sR (i := a) (j := 36) (x := some (hN h + 25)) o20
  rw [e66] at o20
  replace o21 := Ar.sR (i := a) (j := 36) (x := some (hN h + 25)) o21
  rw [e66] at o21
  replace o22 := Ar.sR (i := a) (j := 36) (x := some (hN h + 25)) o22
  rw [e66] at o22
  replace o23 := Ar.sR (i := a) (j := 36) (x := some (hN h + 25)) o23
  rw [e66] at o23
  replace o24 := Ar.sR (i := a) (j := 36) (x := some (hN h + 25)) o24
  rw [e66] at o24
  replace o25 := Ar.sR (i := a) (j := 36) (x := some (hN h + 25)) o25
  rw [e66] at o25
  replace hn := hn_sR (i := a) (j := 36) (x := some (hN h + 25)) hn
  rw [e66] at hn
  show Rn g mdX12_init 269 [some (.ref a)] [] H66 26 581 none (i_Mo a h)
  refine o_aload_n (pc := 269) dX12_init_269 rfl ?_
  refine o_sipush (pc := 270) (v := 1800) dX12_init_270 rfl ?_
  refine o_newaX (pc := 273) (t := 0) (N := 1800) (q := hN h + 26) hn (by decide) rfl la0 dX12_init_273 (by decide) rfl (by decide) (by omega) (by decide) (by decide) (okLs_ref (Or.inl oa.1) okLs_nil) (okSt_ref (Or.inl oa.1) okSt_nil) ?_
  have o26 := Ar.madeX (h := H66) (t := 0) (n := 1800) hn
  generalize e67 : hNew H66 (.inr (0, 1800)) = H67
  replace oa := Ob.new (z := .inr (0, 1800)) oa
  rw [e67] at oa
  replace o0 := Ar.new (z := .inr (0, 1800)) o0
  rw [e67] at o0
  replace o1 := Ar.new (z := .inr (0, 1800)) o1
  rw [e67] at o1
  replace o2 := Ar.new (z := .inr (0, 1800)) o2
  rw [e67] at o2
  replace o3 := Ar.new (z := .inr (0, 1800)) o3
  rw [e67] at o3
  replace o4 := Ar.new (z := .inr (0, 1800)) o4
  rw [e67] at o4
  replace o5 := Ar.new (z := .inr (0, 1800)) o5
  rw [e67] at o5
  replace o6 := Ar.new (z := .inr (0, 1800)) o6
  rw [e67] at o6
  replace o7 := Ar.new (z := .inr (0, 1800)) o7
  rw [e67] at o7
  replace o8 := Ar.new (z := .inr (0, 1800)) o8
  rw [e67] at o8
  replace o9 := Ar.new (z := .inr (0, 1800)) o9
  rw [e67] at o9
  replace o10 := Ar.new (z := .inr (0, 1800)) o10
  rw [e67] at o10
  replace o11 := Ar.new (z := .inr (0, 1800)) o11
  rw [e67] at o11
  replace o12 := Ar.new (z := .inr (0, 1800)) o12
  rw [e67] at o12
  replace o13 := Ar.new (z := .inr (0, 1800)) o13
  rw [e67] at o13
  replace o14 := Ar.new (z := .inr (0, 1800)) o14
  rw [e67] at o14
  replace o15 := Ar.new (z := .inr (0, 1800)) o15
  rw [e67] at o15
  replace o16 := Ar.new (z := .inr (0, 1800)) o16
  rw [e67] at o16
  replace o17 := Ar.new (z := .inr (0, 1800)) o17
  rw [e67] at o17
  replace o18 := Ar.new (z := .inr (0, 1800)) o18
  rw [e67] at o18
  replace o19 := Ar.new (z := .inr (0, 1800)) o19
  rw [e67] at o19
  replace o20 := Ar.new (z := .inr (0, 1800)) o20
  rw [e67] at o20
  replace o21 := Ar.new (z := .inr (0, 1800)) o21
  rw [e67] at o21
  replace o22 := Ar.new (z := .inr (0, 1800)) o22
  rw [e67] at o22
  replace o23 := Ar.new (z := .inr (0, 1800)) o23
  rw [e67] at o23
  replace o24 := Ar.new (z := .inr (0, 1800)) o24
  rw [e67] at o24
  replace o25 := Ar.new (z := .inr (0, 1800)) o25
  rw [e67] at o25
  replace hn := hn_new (z := .inr (0, 1800)) hn
  rw [e67] at hn
  rw [e67] at o26
  show Rn g mdX12_init 275 [some (.ref a)] [.ref (hN h + 26), .ref a] H67 27 2381 none (i_Mo a h)
  refine o_putRF (pc := 275) (ci := 11) (k := 37) (by decide) (by decide) rfl lgX12_93 rfl ⟨rfl, rfl⟩ dX12_init_275 oa.1 oa.2 (Or.inl o26.1) ?_
  generalize e68 : sR H67 a 37 (some (hN h + 26)) = H68
  replace oa := Ob.sR (i := a) (j := 37) (x := some (hN h + 26)) oa
  rw [e68] at oa
  replace o0 := Ar.sR (i := a) (j := 37) (x := some (hN h + 26)) o0
  rw [e68] at o0
  replace o1 := Ar.sR (i := a) (j := 37) (x := some (hN h + 26)) o1
  rw [e68] at o1
  replace o2 := Ar.sR (i := a) (j := 37) (x := some (hN h + 26)) o2
  rw [e68] at o2
  replace o3 := Ar.sR (i := a) (j := 37) (x := some (hN h + 26)) o3
  rw [e68] at o3
  replace o4 := Ar.sR (i := a) (j := 37) (x := some (hN h + 26)) o4
  rw [e68] at o4
  replace o5 := Ar.sR (i := a) (j := 37) (x := some (hN h + 26)) o5
  rw [e68] at o5
  replace o6 := Ar.sR (i := a) (j := 37) (x := some (hN h + 26)) o6
  rw [e68] at o6
  replace o7 := Ar.sR (i := a) (j := 37) (x := some (hN h + 26)) o7
  rw [e68] at o7
  replace o8 := Ar.sR (i := a) (j := 37) (x := some (hN h + 26)) o8
  rw [e68] at o8
  replace o9 := Ar.sR (i := a) (j := 37) (x := some (hN h + 26)) o9
  rw [e68] at o9
  replace o10 := Ar.sR (i := a) (j := 37) (x := some (hN h + 26)) o10
  rw [e68] at o10
  replace o11 := Ar.sR (i := a) (j := 37) (x := some (hN h + 26)) o11
  rw [e68] at o11
  replace o12 := Ar.sR (i := a) (j := 37) (x := some (hN h + 26)) o12
  rw [e68] at o12
  replace o13 := Ar.sR (i := a) (j := 37) (x := some (hN h + 26)) o13
  rw [e68] at o13
  replace o14 := Ar.sR (i := a) (j := 37) (x := some (hN h + 26)) o14
  rw [e68] at o14
  replace o15 := Ar.sR (i := a) (j := 37) (x := some (hN h + 26)) o15
  rw [e68] at o15
  replace o16 := Ar.sR (i := a) (j := 37) (x := some (hN h + 26)) o16
  rw [e68] at o16
  replace o17 := Ar.sR (i := a) (j := 37) (x := some (hN h + 26)) o17
  rw [e68] at o17
  replace o18 := Ar.sR (i := a) (j := 37) (x := some (hN h + 26)) o18
  rw [e68] at o18
  replace o19 := Ar.sR (i := a) (j := 37) (x := some (hN h + 26)) o19
  rw [e68] at o19
  replace o20 := Ar.sR (i := a) (j := 37) (x := some (hN h + 26)) o20
  rw [e68] at o20
  replace o21 := Ar.sR (i := a) (j := 37) (x := some (hN h + 26)) o21
  rw [e68] at o21
  replace o22 := Ar.sR (i := a) (j := 37) (x := some (hN h + 26)) o22
  rw [e68] at o22
  replace o23 := Ar.sR (i := a) (j := 37) (x := some (hN h + 26)) o23
  rw [e68] at o23
  replace o24 := Ar.sR (i := a) (j := 37) (x := some (hN h + 26)) o24
  rw [e68] at o24
  replace o25 := Ar.sR (i := a) (j := 37) (x := some (hN h + 26)) o25
  rw [e68] at o25
  replace o26 := Ar.sR (i := a) (j := 37) (x := some (hN h + 26)) o26
  rw [e68] at o26
  replace hn := hn_sR (i := a) (j := 37) (x := some (hN h + 26)) hn
  rw [e68] at hn
  show Rn g mdX12_init 278 [some (.ref a)] [] H68 27 2381 none (i_Mo a h)
  refine o_aload_n (pc := 278) dX12_init_278 rfl ?_
  refine o_sipush (pc := 279) (v := 1800) dX12_init_279 rfl ?_
  refine o_newaX (pc := 282) (t := 0) (N := 1800) (q := hN h + 27) hn (by decide) rfl la0 dX12_init_282 (by decide) rfl (by decide) (by omega) (by decide) (by decide) (okLs_ref (Or.inl oa.1) okLs_nil) (okSt_ref (Or.inl oa.1) okSt_nil) ?_
  have o27 := Ar.madeX (h := H68) (t := 0) (n := 1800) hn
  generalize e69 : hNew H68 (.inr (0, 1800)) = H69
  replace oa := Ob.new (z := .inr (0, 1800)) oa
  rw [e69] at oa
  replace o0 := Ar.new (z := .inr (0, 1800)) o0
  rw [e69] at o0
  replace o1 := Ar.new (z := .inr (0, 1800)) o1
  rw [e69] at o1
  replace o2 := Ar.new (z := .inr (0, 1800)) o2
  rw [e69] at o2
  replace o3 := Ar.new (z := .inr (0, 1800)) o3
  rw [e69] at o3
  replace o4 := Ar.new (z := .inr (0, 1800)) o4
  rw [e69] at o4
  replace o5 := Ar.new (z := .inr (0, 1800)) o5
  rw [e69] at o5
  replace o6 := Ar.new (z := .inr (0, 1800)) o6
  rw [e69] at o6
  replace o7 := Ar.new (z := .inr (0, 1800)) o7
  rw [e69] at o7
  replace o8 := Ar.new (z := .inr (0, 1800)) o8
  rw [e69] at o8
  replace o9 := Ar.new (z := .inr (0, 1800)) o9
  rw [e69] at o9
  replace o10 := Ar.new (z := .inr (0, 1800)) o10
  rw [e69] at o10
  replace o11 := Ar.new (z := .inr (0, 1800)) o11
  rw [e69] at o11
  replace o12 := Ar.new (z := .inr (0, 1800)) o12
  rw [e69] at o12
  replace o13 := Ar.new (z := .inr (0, 1800)) o13
  rw [e69] at o13
  replace o14 := Ar.new (z := .inr (0, 1800)) o14
  rw [e69] at o14
  replace o15 := Ar.new (z := .inr (0, 1800)) o15
  rw [e69] at o15
  replace o16 := Ar.new (z := .inr (0, 1800)) o16
  rw [e69] at o16
  replace o17 := Ar.new (z := .inr (0, 1800)) o17
  rw [e69] at o17
  replace o18 := Ar.new (z := .inr (0, 1800)) o18
  rw [e69] at o18
  replace o19 := Ar.new (z := .inr (0, 1800)) o19
  rw [e69] at o19
  replace o20 := Ar.new (z := .inr (0, 1800)) o20
  rw [e69] at o20
  replace o21 := Ar.new (z := .inr (0, 1800)) o21
  rw [e69] at o21
  replace o22 := Ar.new (z := .inr (0, 1800)) o22
  rw [e69] at o22
  replace o23 := Ar.new (z := .inr (0, 1800)) o23
  rw [e69] at o23
  replace o24 := Ar.new (z := .inr (0, 1800)) o24
  rw [e69] at o24
  replace o25 := Ar.new (z := .inr (0, 1800)) o25
  rw [e69] at o25
  replace o26 := Ar.new (z := .inr (0, 1800)) o26
  rw [e69] at o26
  replace hn := hn_new (z := .inr (0, 1800)) hn
  rw [e69] at hn
  rw [e69] at o27
  show Rn g mdX12_init 284 [some (.ref a)] [.ref (hN h + 27), .ref a] H69 28 4181 none (i_Mo a h)
  refine o_putRF (pc := 284) (ci := 11) (k := 38) (by decide) (by decide) rfl lgX12_96 rfl ⟨rfl, rfl⟩ dX12_init_284 oa.1 oa.2 (Or.inl o27.1) ?_
  generalize e70 : sR H69 a 38 (some (hN h + 27)) = H70
  replace oa := Ob.sR (i := a) (j := 38) (x := some (hN h + 27)) oa
  rw [e70] at oa
  replace o0 := Ar.sR (i := a) (j := 38) (x := some (hN h + 27)) o0
  rw [e70] at o0
  replace o1 := Ar.sR (i := a) (j := 38) (x := some (hN h + 27)) o1
  rw [e70] at o1
  replace o2 := Ar.sR (i := a) (j := 38) (x := some (hN h + 27)) o2
  rw [e70] at o2
  replace o3 := Ar.sR (i := a) (j := 38) (x := some (hN h + 27)) o3
  rw [e70] at o3
  replace o4 := Ar.sR (i := a) (j := 38) (x := some (hN h + 27)) o4
  rw [e70] at o4
  replace o5 := Ar.sR (i := a) (j := 38) (x := some (hN h + 27)) o5
  rw [e70] at o5
  replace o6 := Ar.sR (i := a) (j := 38) (x := some (hN h + 27)) o6
  rw [e70] at o6
  replace o7 := Ar.sR (i := a) (j := 38) (x := some (hN h + 27)) o7
  rw [e70] at o7
  replace o8 := Ar.sR (i := a) (j := 38) (x := some (hN h + 27)) o8
  rw [e70] at o8
  replace o9 := Ar.sR (i := a) (j := 38) (x := some (hN h + 27)) o9
  rw [e70] at o9
  replace o10 := Ar.sR (i := a) (j := 38) (x := some (hN h + 27)) o10
  rw [e70] at o10
  replace o11 := Ar.sR (i := a) (j := 38) (x := some (hN h + 27)) o11
  rw [e70] at o11
  replace o12 := Ar.sR (i := a) (j := 38) (x := some (hN h + 27)) o12
  rw [e70] at o12
  replace o13 := Ar.sR (i := a) (j := 38) (x := some (hN h + 27)) o13
  rw [e70] at o13
  replace o14 := Ar.sR (i := a) (j := 38) (x := some (hN h + 27)) o14
  rw [e70] at o14
  replace o15 := Ar.sR (i := a) (j := 38) (x := some (hN h + 27)) o15
  rw [e70] at o15
  replace o16 := Ar.sR (i := a) (j := 38) (x := some (hN h + 27)) o16
  rw [e70] at o16
  replace o17 := Ar.sR (i := a) (j := 38) (x := some (hN h + 27)) o17
  rw [e70] at o17
  replace o18 := Ar.sR (i := a) (j := 38) (x := some (hN h + 27)) o18
  rw [e70] at o18
  replace o19 := Ar.sR (i := a) (j := 38) (x := some (hN h + 27)) o19
  rw [e70] at o19
  replace o20 := Ar.sR (i := a) (j := 38) (x := some (hN h + 27)) o20
  rw [e70] at o20
  replace o21 := Ar.sR (i := a) (j := 38) (x := some (hN h + 27)) o21
  rw [e70] at o21
  replace o22 := Ar.sR (i := a) (j := 38) (x := some (hN h + 27)) o22
  rw [e70] at o22
  replace o23 := Ar.sR (i := a) (j := 38) (x := some (hN h + 27)) o23
  rw [e70] at o23
  replace o24 := Ar.sR (i := a) (j := 38) (x := some (hN h + 27)) o24
  rw [e70] at o24
  replace o25 := Ar.sR (i := a) (j := 38) (x := some (hN h + 27)) o25
  rw [e70] at o25
  replace o26 := Ar.sR (i := a) (j := 38) (x := some (hN h + 27)) o26
  rw [e70] at o26
  replace o27 := Ar.sR (i := a) (j := 38) (x := some (hN h + 27)) o27
  rw [e70] at o27
  replace hn := hn_sR (i := a) (j := 38) (x := some (hN h + 27)) hn
  rw [e70] at hn
  show Rn g mdX12_init 287 [some (.ref a)] [] H70 28 4181 none (i_Mo a h)
  refine o_aload_n (pc := 287) dX12_init_287 rfl ?_
  refine o_bipush (pc := 288) (v := 6) dX12_init_288 rfl ?_
  refine o_newaX (pc := 290) (t := 0) (N := 6) (q := hN h + 28) hn (by decide) rfl la0 dX12_init_290 (by decide) rfl (by decide) (by omega) (by decide) (by decide) (okLs_ref (Or.inl oa.1) okLs_nil) (okSt_ref (Or.inl oa.1) okSt_nil) ?_
  have o28 := Ar.madeX (h := H70) (t := 0) (n := 6) hn
  generalize e71 : hNew H70 (.inr (0, 6)) = H71
  replace oa := Ob.new (z := .inr (0, 6)) oa
  rw [e71] at oa
  replace o0 := Ar.new (z := .inr (0, 6)) o0
  rw [e71] at o0
  replace o1 := Ar.new (z := .inr (0, 6)) o1
  rw [e71] at o1
  replace o2 := Ar.new (z := .inr (0, 6)) o2
  rw [e71] at o2
  replace o3 := Ar.new (z := .inr (0, 6)) o3
  rw [e71] at o3
  replace o4 := Ar.new (z := .inr (0, 6)) o4
  rw [e71] at o4
  replace o5 := Ar.new (z := .inr (0, 6)) o5
  rw [e71] at o5
  replace o6 := Ar.new (z := .inr (0, 6)) o6
  rw [e71] at o6
  replace o7 := Ar.new (z := .inr (0, 6)) o7
  rw [e71] at o7
  replace o8 := Ar.new (z := .inr (0, 6)) o8
  rw [e71] at o8
  replace o9 := Ar.new (z := .inr (0, 6)) o9
  rw [e71] at o9
  replace o10 := Ar.new (z := .inr (0, 6)) o10
  rw [e71] at o10
  replace o11 := Ar.new (z := .inr (0, 6)) o11
  rw [e71] at o11
  replace o12 := Ar.new (z := .inr (0, 6)) o12
  rw [e71] at o12
  replace o13 := Ar.new (z := .inr (0, 6)) o13
  rw [e71] at o13
  replace o14 := Ar.new (z := .inr (0, 6)) o14
  rw [e71] at o14
  replace o15 := Ar.new (z := .inr (0, 6)) o15
  rw [e71] at o15
  replace o16 := Ar.new (z := .inr (0, 6)) o16
  rw [e71] at o16
  replace o17 := Ar.new (z := .inr (0, 6)) o17
  rw [e71] at o17
  replace o18 := Ar.new (z := .inr (0, 6)) o18
  rw [e71] at o18
  replace o19 := Ar.new (z := .inr (0, 6)) o19
  rw [e71] at o19
  replace o20 := Ar.new (z := .inr (0, 6)) o20
  rw [e71] at o20
  replace o21 := Ar.new (z := .inr (0, 6)) o21
  rw [e71] at o21
  replace o22 := Ar.new (z := .inr (0, 6)) o22
  rw [e71] at o22
  replace o23 := Ar.new (z := .inr (0, 6)) o23
  rw [e71] at o23
  replace o24 := Ar.new (z := .inr (0, 6)) o24
  rw [e71] at o24
  replace o25 := Ar.new (z := .inr (0, 6)) o25
  rw [e71] at o25
  replace o26 := Ar.new (z := .inr (0, 6)) o26
  rw [e71] at o26
  replace o27 := Ar.new (z := .inr (0, 6)) o27
  rw [e71] at o27
  replace hn := hn_new (z := .inr (0, 6)) hn
  rw [e71] at hn
  rw [e71] at o28
  show Rn g mdX12_init 292 [some (.ref a)] [.ref (hN h + 28), .ref a] H71 29 4187 none (i_Mo a h)
  refine o_putRF (pc := 292) (ci := 11) (k := 39) (by decide) (by decide) rfl lgX12_99 rfl ⟨rfl, rfl⟩ dX12_init_292 oa.1 oa.2 (Or.inl o28.1) ?_
  generalize e72 : sR H71 a 39 (some (hN h + 28)) = H72
  replace oa := Ob.sR (i := a) (j := 39) (x := some (hN h + 28)) oa
  rw [e72] at oa
  replace o0 := Ar.sR (i := a) (j := 39) (x := some (hN h + 28)) o0
  rw [e72] at o0
  replace o1 := Ar.sR (i := a) (j := 39) (x := some (hN h + 28)) o1
  rw [e72] at o1
  replace o2 := Ar.sR (i := a) (j := 39) (x := some (hN h + 28)) o2
  rw [e72] at o2
  replace o3 := Ar.sR (i := a) (j := 39) (x := some (hN h + 28)) o3
  rw [e72] at o3
  replace o4 := Ar.sR (i := a) (j := 39) (x := some (hN h + 28)) o4
  rw [e72] at o4
  replace o5 := Ar.sR (i := a) (j := 39) (x := some (hN h + 28)) o5
  rw [e72] at o5
  replace o6 := Ar.sR (i := a) (j := 39) (x := some (hN h + 28)) o6
  rw [e72] at o6
  replace o7 := Ar.sR (i := a) (j := 39) (x := some (hN h + 28)) o7
  rw [e72] at o7
  replace o8 := Ar.sR (i := a) (j := 39) (x := some (hN h + 28)) o8
  rw [e72] at o8
  replace o9 := Ar.sR (i := a) (j := 39) (x := some (hN h + 28)) o9
  rw [e72] at o9
  replace o10 := Ar.sR (i := a) (j := 39) (x := some (hN h + 28)) o10
  rw [e72] at o10
  replace o11 := Ar.sR (i := a) (j := 39) (x := some (hN h + 28)) o11
  rw [e72] at o11
  replace o12 := Ar.sR (i := a) (j := 39) (x := some (hN h + 28)) o12
  rw [e72] at o12
  replace o13 := Ar.sR (i := a) (j := 39) (x := some (hN h + 28)) o13
  rw [e72] at o13
  replace o14 := Ar.sR (i := a) (j := 39) (x := some (hN h + 28)) o14
  rw [e72] at o14
  replace o15 := Ar.sR (i := a) (j := 39) (x := some (hN h + 28)) o15
  rw [e72] at o15
  replace o16 := Ar.sR (i := a) (j := 39) (x := some (hN h + 28)) o16
  rw [e72] at o16
  replace o17 := Ar.sR (i := a) (j := 39) (x := some (hN h + 28)) o17
  rw [e72] at o17
  replace o18 := Ar.sR (i := a) (j := 39) (x := some (hN h + 28)) o18
  rw [e72] at o18
  replace o19 := Ar.sR (i := a) (j := 39) (x := some (hN h + 28)) o19
  rw [e72] at o19
  replace o20 := Ar.sR (i := a) (j := 39) (x := some (hN h + 28)) o20
  rw [e72] at o20
  replace o21 := Ar.sR (i := a) (j := 39) (x := some (hN h + 28)) o21
  rw [e72] at o21
  replace o22 := Ar.sR (i := a) (j := 39) (x := some (hN h + 28)) o22
  rw [e72] at o22
  replace o23 := Ar.sR (i := a) (j := 39) (x := some (hN h + 28)) o23
  rw [e72] at o23
  replace o24 := Ar.sR (i := a) (j := 39) (x := some (hN h + 28)) o24
  rw [e72] at o24
  replace o25 := Ar.sR (i := a) (j := 39) (x := some (hN h + 28)) o25
  rw [e72] at o25
  replace o26 := Ar.sR (i := a) (j := 39) (x := some (hN h + 28)) o26
  rw [e72] at o26
  replace o27 := Ar.sR (i := a) (j := 39) (x := some (hN h + 28)) o27
  rw [e72] at o27
  replace o28 := Ar.sR (i := a) (j := 39) (x := some (hN h + 28)) o28
  rw [e72] at o28
  replace hn := hn_sR (i := a) (j := 39) (x := some (hN h + 28)) hn
  rw [e72] at hn
  show Rn g mdX12_init 295 [some (.ref a)] [] H72 29 4187 none (i_Mo a h)
  refine o_aload_n (pc := 295) dX12_init_295 rfl ?_
  refine o_bipush (pc := 296) (v := 72) dX12_init_296 rfl ?_
  refine o_newaX (pc := 298) (t := 0) (N := 72) (q := hN h + 29) hn (by decide) rfl la0 dX12_init_298 (by decide) rfl (by decide) (by omega) (by decide) (by decide) (okLs_ref (Or.inl oa.1) okLs_nil) (okSt_ref (Or.inl oa.1) okSt_nil) ?_
  have o29 := Ar.madeX (h := H72) (t := 0) (n := 72) hn
  generalize e73 : hNew H72 (.inr (0, 72)) = H73
  replace oa := Ob.new (z := .inr (0, 72)) oa
  rw [e73] at oa
  replace o0 := Ar.new (z := .inr (0, 72)) o0
  rw [e73] at o0
  replace o1 := Ar.new (z := .inr (0, 72)) o1
  rw [e73] at o1
  replace o2 := Ar.new (z := .inr (0, 72)) o2
  rw [e73] at o2
  replace o3 := Ar.new (z := .inr (0, 72)) o3
  rw [e73] at o3
  replace o4 := Ar.new (z := .inr (0, 72)) o4
  rw [e73] at o4
  replace o5 := Ar.new (z := .inr (0, 72)) o5
  rw [e73] at o5
  replace o6 := Ar.new (z := .inr (0, 72)) o6
  rw [e73] at o6
  replace o7 := Ar.new (z := .inr (0, 72)) o7
  rw [e73] at o7
  replace o8 := Ar.new (z := .inr (0, 72)) o8
  rw [e73] at o8
  replace o9 := Ar.new (z := .inr (0, 72)) o9
  rw [e73] at o9
  replace o10 := Ar.new (z := .inr (0, 72)) o10
  rw [e73] at o10
  replace o11 := Ar.new (z := .inr (0, 72)) o11
  rw [e73] at o11
  replace o12 := Ar.new (z := .inr (0, 72)) o12
  rw [e73] at o12
  replace o13 := Ar.new (z := .inr (0, 72)) o13
  rw [e73] at o13
  replace o14 := Ar.new (z := .inr (0, 72)) o14
  rw [e73] at o14
  replace o15 := Ar.new (z := .inr (0, 72)) o15
  rw [e73] at o15
  replace o16 := Ar.new (z := .inr (0, 72)) o16
  rw [e73] at o16
  replace o17 := Ar.new (z := .inr (0, 72)) o17
  rw [e73] at o17
  replace o18 := Ar.new (z := .inr (0, 72)) o18
  rw [e73] at o18
  replace o19 := Ar.new (z := .inr (0, 72)) o19
  rw [e73] at o19
  replace o20 := Ar.new (z := .inr (0, 72)) o20
  rw [e73] at o20
  replace o21 := Ar.new (z := .inr (0, 72)) o21
  rw [e73] at o21
  replace o22 := Ar.new (z := .inr (0, 72)) o22
  rw [e73] at o22
  replace o23 := Ar.new (z := .inr (0, 72)) o23
  rw [e73] at o23
  replace o24 := Ar.new (z := .inr (0, 72)) o24
  rw [e73] at o24
  replace o25 := Ar.new (z := .inr (0, 72)) o25
  rw [e73] at o25
  replace o26 := Ar.new (z := .inr (0, 72)) o26
  rw [e73] at o26
  replace o27 := Ar.new (z := .inr (0, 72)) o27
  rw [e73] at o27
  replace o28 := Ar.new (z := .inr (0, 72)) o28
  rw [e73] at o28
  replace hn := hn_new (z := .inr (0, 72)) hn
  rw [e73] at hn
  rw [e73] at o29
  show Rn g mdX12_init 300 [some (.ref a)] [.ref (hN h + 29), .ref a] H73 30 4259 none (i_Mo a h)
  refine o_putRF (pc := 300) (ci := 11) (k := 40) (by decide) (by decide) rfl lgX12_102 rfl ⟨rfl, rfl⟩ dX12_init_300 oa.1 oa.2 (Or.inl o29.1) ?_
  generalize e74 : sR H73 a 40 (some (hN h + 29)) = H74
  replace oa := Ob.sR (i := a) (j := 40) (x := some (hN h + 29)) oa
  rw [e74] at oa
  replace o0 := Ar.sR (i := a) (j := 40) (x := some (hN h + 29)) o0
  rw [e74] at o0
  replace o1 := Ar.sR (i := a) (j := 40) (x := some (hN h + 29)) o1
  rw [e74] at o1
  replace o2 := Ar.sR (i := a) (j := 40) (x := some (hN h + 29)) o2
  rw [e74] at o2
  replace o3 := Ar.sR (i := a) (j := 40) (x := some (hN h + 29)) o3
  rw [e74] at o3
  replace o4 := Ar.sR (i := a) (j := 40) (x := some (hN h + 29)) o4
  rw [e74] at o4
  replace o5 := Ar.sR (i := a) (j := 40) (x := some (hN h + 29)) o5
  rw [e74] at o5
  replace o6 := Ar.sR (i := a) (j := 40) (x := some (hN h + 29)) o6
  rw [e74] at o6
  replace o7 := Ar.sR (i := a) (j := 40) (x := some (hN h + 29)) o7
  rw [e74] at o7
  replace o8 := Ar.sR (i := a) (j := 40) (x := some (hN h + 29)) o8
  rw [e74] at o8
  replace o9 := Ar.sR (i := a) (j := 40) (x := some (hN h + 29)) o9
  rw [e74] at o9
  replace o10 := Ar.sR (i := a) (j := 40) (x := some (hN h + 29)) o10
  rw [e74] at o10
  replace o11 := Ar.sR (i := a) (j := 40) (x := some (hN h + 29)) o11
  rw [e74] at o11
  replace o12 := Ar.sR (i := a) (j := 40) (x := some (hN h + 29)) o12
  rw [e74] at o12
  replace o13 := Ar.sR (i := a) (j := 40) (x := some (hN h + 29)) o13
  rw [e74] at o13
  replace o14 := Ar.sR (i := a) (j := 40) (x := some (hN h + 29)) o14
  rw [e74] at o14
  replace o15 := Ar.sR (i := a) (j := 40) (x := some (hN h + 29)) o15
  rw [e74] at o15
  replace o16 := Ar.sR (i := a) (j := 40) (x := some (hN h + 29)) o16
  rw [e74] at o16
  replace o17 := Ar.sR (i := a) (j := 40) (x := some (hN h + 29)) o17
  rw [e74] at o17
  replace o18 := Ar.sR (i := a) (j := 40) (x := some (hN h + 29)) o18
  rw [e74] at o18
  replace o19 := Ar.sR (i := a) (j := 40) (x := some (hN h + 29)) o19
  rw [e74] at o19
  replace o20 := Ar.sR (i := a) (j := 40) (x := some (hN h + 29)) o20
  rw [e74] at o20
  replace o21 := Ar.sR (i := a) (j := 40) (x := some (hN h + 29)) o21
  rw [e74] at o21
  replace o22 := Ar.sR (i := a) (j := 40) (x := some (hN h + 29)) o22
  rw [e74] at o22
  replace o23 := Ar.sR (i := a) (j := 40) (x := some (hN h + 29)) o23
  rw [e74] at o23
  replace o24 := Ar.sR (i := a) (j := 40) (x := some (hN h + 29)) o24
  rw [e74] at o24
  replace o25 := Ar.sR (i := a) (j := 40) (x := some (hN h + 29)) o25
  rw [e74] at o25
  replace o26 := Ar.sR (i := a) (j := 40) (x := some (hN h + 29)) o26
  rw [e74] at o26
  replace o27 := Ar.sR (i := a) (j := 40) (x := some (hN h + 29)) o27
  rw [e74] at o27
  replace o28 := Ar.sR (i := a) (j := 40) (x := some (hN h + 29)) o28
  rw [e74] at o28
  replace o29 := Ar.sR (i := a) (j := 40) (x := some (hN h + 29)) o29
  rw [e74] at o29
  replace hn := hn_sR (i := a) (j := 40) (x := some (hN h + 29)) hn
  rw [e74] at hn
  show Rn g mdX12_init 303 [some (.ref a)] [] H74 30 4259 none (i_Mo a h)
  refine o_aload_n (pc := 303) dX12_init_303 rfl ?_
  refine o_bipush (pc := 304) (v := 72) dX12_init_304 rfl ?_
  refine o_newaX (pc := 306) (t := 0) (N := 72) (q := hN h + 30) hn (by decide) rfl la0 dX12_init_306 (by decide) rfl (by decide) (by omega) (by decide) (by decide) (okLs_ref (Or.inl oa.1) okLs_nil) (okSt_ref (Or.inl oa.1) okSt_nil) ?_
  have o30 := Ar.madeX (h := H74) (t := 0) (n := 72) hn
  generalize e75 : hNew H74 (.inr (0, 72)) = H75
  replace oa := Ob.new (z := .inr (0, 72)) oa
  rw [e75] at oa
  replace o0 := Ar.new (z := .inr (0, 72)) o0
  rw [e75] at o0
  replace o1 := Ar.new (z := .inr (0, 72)) o1
  rw [e75] at o1
  replace o2 := Ar.new (z := .inr (0, 72)) o2
  rw [e75] at o2
  replace o3 := Ar.new (z := .inr (0, 72)) o3
  rw [e75] at o3
  replace o4 := Ar.new (z := .inr (0, 72)) o4
  rw [e75] at o4
  replace o5 := Ar.new (z := .inr (0, 72)) o5
  rw [e75] at o5
  replace o6 := Ar.new (z := .inr (0, 72)) o6
  rw [e75] at o6
  replace o7 := Ar.new (z := .inr (0, 72)) o7
  rw [e75] at o7
  replace o8 := Ar.new (z := .inr (0, 72)) o8
  rw [e75] at o8
  replace o9 := Ar.new (z := .inr (0, 72)) o9
  rw [e75] at o9
  replace o10 := Ar.new (z := .inr (0, 72)) o10
  rw [e75] at o10
  replace o11 := Ar.new (z := .inr (0, 72)) o11
  rw [e75] at o11
  replace o12 := Ar.new (z := .inr (0, 72)) o12
  rw [e75] at o12
  replace o13 := Ar.new (z := .inr (0, 72)) o13
  rw [e75] at o13
  replace o14 := Ar.new (z := .inr (0, 72)) o14
  rw [e75] at o14
  replace o15 := Ar.new (z := .inr (0, 72)) o15
  rw [e75] at o15
  replace o16 := Ar.new (z := .inr (0, 72)) o16
  rw [e75] at o16
  replace o17 := Ar.new (z := .inr (0, 72)) o17
  rw [e75] at o17
  replace o18 := Ar.new (z := .inr (0, 72)) o18
  rw [e75] at o18
  replace o19 := Ar.new (z := .inr (0, 72)) o19
  rw [e75] at o19
  replace o20 := Ar.new (z := .inr (0, 72)) o20
  rw [e75] at o20
  replace o21 := Ar.new (z := .inr (0, 72)) o21
  rw [e75] at o21
  replace o22 := Ar.new (z := .inr (0, 72)) o22
  rw [e75] at o22
  replace o23 := Ar.new (z := .inr (0, 72)) o23
  rw [e75] at o23
  replace o24 := Ar.new (z := .inr (0, 72)) o24
  rw [e75] at o24
  replace o25 := Ar.new (z := .inr (0, 72)) o25
  rw [e75] at o25
  replace o26 := Ar.new (z := .inr (0, 72)) o26
  rw [e75] at o26
  replace o27 := Ar.new (z := .inr (0, 72)) o27
  rw [e75] at o27
  replace o28 := Ar.new (z := .inr (0, 72)) o28
  rw [e75] at o28
  replace o29 := Ar.new (z := .inr (0, 72)) o29
  rw [e75] at o29
  replace hn := hn_new (z := .inr (0, 72)) hn
  rw [e75] at hn
  rw [e75] at o30
  show Rn g mdX12_init 308 [some (.ref a)] [.ref (hN h + 30), .ref a] H75 31 4331 none (i_Mo a h)
  refine o_putRF (pc := 308) (ci := 11) (k := 41) (by decide) (by decide) rfl lgX12_105 rfl ⟨rfl, rfl⟩ dX12_init_308 oa.1 oa.2 (Or.inl o30.1) ?_
  generalize e76 : sR H75 a 41 (some (hN h + 30)) = H76
  replace oa := Ob.sR (i := a) (j := 41) (x := some (hN h + 30)) oa
  rw [e76] at oa
  replace o0 := Ar.sR (i := a) (j := 41) (x := some (hN h + 30)) o0
  rw [e76] at o0
  replace o1 := Ar.sR (i := a) (j := 41) (x := some (hN h + 30)) o1
  rw [e76] at o1
  replace o2 := Ar.sR (i := a) (j := 41) (x := some (hN h + 30)) o2
  rw [e76] at o2
  replace o3 := Ar.sR (i := a) (j := 41) (x := some (hN h + 30)) o3
  rw [e76] at o3
  replace o4 := Ar.sR (i := a) (j := 41) (x := some (hN h + 30)) o4
  rw [e76] at o4
  replace o5 := Ar.sR (i := a) (j := 41) (x := some (hN h + 30)) o5
  rw [e76] at o5
  replace o6 := Ar.sR (i := a) (j := 41) (x := some (hN h + 30)) o6
  rw [e76] at o6
  replace o7 := Ar.sR (i := a) (j := 41) (x := some (hN h + 30)) o7
  rw [e76] at o7
  replace o8 := Ar.sR (i := a) (j := 41) (x := some (hN h + 30)) o8
  rw [e76] at o8
  replace o9 := Ar.sR (i := a) (j := 41) (x := some (hN h + 30)) o9
  rw [e76] at o9
  replace o10 := Ar.sR (i := a) (j := 41) (x := some (hN h + 30)) o10
  rw [e76] at o10
  replace o11 := Ar.sR (i := a) (j := 41) (x := some (hN h + 30)) o11
  rw [e76] at o11
  replace o12 := Ar.sR (i := a) (j := 41) (x := some (hN h + 30)) o12
  rw [e76] at o12
  replace o13 := Ar.sR (i := a) (j := 41) (x := some (hN h + 30)) o13
  rw [e76] at o13
  replace o14 := Ar.sR (i := a) (j := 41) (x := some (hN h + 30)) o14
  rw [e76] at o14
  replace o15 := Ar.sR (i := a) (j := 41) (x := some (hN h + 30)) o15
  rw [e76] at o15
  replace o16 := Ar.sR (i := a) (j := 41) (x := some (hN h + 30)) o16
  rw [e76] at o16
  replace o17 := Ar.sR (i := a) (j := 41) (x := some (hN h + 30)) o17
  rw [e76] at o17
  replace o18 := Ar.sR (i := a) (j := 41) (x := some (hN h + 30)) o18
  rw [e76] at o18
  replace o19 := Ar.sR (i := a) (j := 41) (x := some (hN h + 30)) o19
  rw [e76] at o19
  replace o20 := Ar.sR (i := a) (j := 41) (x := some (hN h + 30)) o20
  rw [e76] at o20
  replace o21 := Ar.sR (i := a) (j := 41) (x := some (hN h + 30)) o21
  rw [e76] at o21
  replace o22 := Ar.sR (i := a) (j := 41) (x := some (hN h + 30)) o22
  rw [e76] at o22
  replace o23 := Ar.sR (i := a) (j := 41) (x := some (hN h + 30)) o23
  rw [e76] at o23
  replace o24 := Ar.sR (i := a) (j := 41) (x := some (hN h + 30)) o24
  rw [e76] at o24
  replace o25 := Ar.sR (i := a) (j := 41) (x := some (hN h + 30)) o25
  rw [e76] at o25
  replace o26 := Ar.sR (i := a) (j := 41) (x := some (hN h + 30)) o26
  rw [e76] at o26
  replace o27 := Ar.sR (i := a) (j := 41) (x := some (hN h + 30)) o27
  rw [e76] at o27
  replace o28 := Ar.sR (i := a) (j := 41) (x := some (hN h + 30)) o28
  rw [e76] at o28
  replace o29 := Ar.sR (i := a) (j := 41) (x := some (hN h + 30)) o29
  rw [e76] at o29
  replace o30 := Ar.sR (i := a) (j := 41) (x := some (hN h + 30)) o30
  rw [e76] at o30
  replace hn := hn_sR (i := a) (j := 41) (x := some (hN h + 30)) hn
  rw [e76] at hn
  show Rn g mdX12_init 311 [some (.ref a)] [] H76 31 4331 none (i_Mo a h)
  refine o_aload_n (pc := 311) dX12_init_311 rfl ?_
  refine o_bipush (pc := 312) (v := 72) dX12_init_312 rfl ?_
  refine o_newaX (pc := 314) (t := 0) (N := 72) (q := hN h + 31) hn (by decide) rfl la0 dX12_init_314 (by decide) rfl (by decide) (by omega) (by decide) (by decide) (okLs_ref (Or.inl oa.1) okLs_nil) (okSt_ref (Or.inl oa.1) okSt_nil) ?_
  have o31 := Ar.madeX (h := H76) (t := 0) (n := 72) hn
  generalize e77 : hNew H76 (.inr (0, 72)) = H77
  replace oa := Ob.new (z := .inr (0, 72)) oa
  rw [e77] at oa
  replace o0 := Ar.new (z := .inr (0, 72)) o0
  rw [e77] at o0
  replace o1 := Ar.new (z := .inr (0, 72)) o1
  rw [e77] at o1
  replace o2 := Ar.new (z := .inr (0, 72)) o2
  rw [e77] at o2
  replace o3 := Ar.new (z := .inr (0, 72)) o3
  rw [e77] at o3
  replace o4 := Ar.new (z := .inr (0, 72)) o4
  rw [e77] at o4
  replace o5 := Ar.new (z := .inr (0, 72)) o5
  rw [e77] at o5
  replace o6 := Ar.new (z := .inr (0, 72)) o6
  rw [e77] at o6
  replace o7 := Ar.new (z := .inr (0, 72)) o7
  rw [e77] at o7
  replace o8 := Ar.new (z := .inr (0, 72)) o8
  rw [e77] at o8
  replace o9 := Ar.new (z := .inr (0, 72)) o9
  rw [e77] at o9
  replace o10 := Ar.new (z := .inr (0, 72)) o10
  rw [e77] at o10
  replace o11 := Ar.new (z := .inr (0, 72)) o11
  rw [e77] at o11
  replace o12 := Ar.new (z := .inr (0, 72)) o12
  rw [e77] at o12
  replace o13 := Ar.new (z := .inr (0, 72)) o13
  rw [e77] at o13
  replace o14 := Ar.new (z := .inr (0, 72)) o14
  rw [e77] at o14
  replace o15 := Ar.new (z := .inr (0, 72)) o15
  rw [e77] at o15
  replace o16 := Ar.new (z := .inr (0, 72)) o16
  rw [e77] at o16
  replace o17 := Ar.new (z := .inr (0, 72)) o17
  rw [e77] at o17
  replace o18 := Ar.new (z := .inr (0, 72)) o18
  rw [e77] at o18
  replace o19 := Ar.new (z := .inr (0, 72)) o19
  rw [e77] at o19
  replace o20 := Ar.new (z := .inr (0, 72)) o20
  rw [e77] at o20
  replace o21 := Ar.new (z := .inr (0, 72)) o21
  rw [e77] at o21
  replace o22 := Ar.new (z := .inr (0, 72)) o22
  rw [e77] at o22
  replace o23 := Ar.new (z := .inr (0, 72)) o23
  rw [e77] at o23
  replace o24 := Ar.new (z := .inr (0, 72)) o24
  rw [e77] at o24
  replace o25 := Ar.new (z := .inr (0, 72)) o25
  rw [e77] at o25
  replace o26 := Ar.new (z := .inr (0, 72)) o26
  rw [e77] at o26
  replace o27 := Ar.new (z := .inr (0, 72)) o27
  rw [e77] at o27
  replace o28 := Ar.new (z := .inr (0, 72)) o28
  rw [e77] at o28
  replace o29 := Ar.new (z := .inr (0, 72)) o29
  rw [e77] at o29
  replace o30 := Ar.new (z := .inr (0, 72)) o30
  rw [e77] at o30
  replace hn := hn_new (z := .inr (0, 72)) hn
  rw [e77] at hn
  rw [e77] at o31
  show Rn g mdX12_init 316 [some (.ref a)] [.ref (hN h + 31), .ref a] H77 32 4403 none (i_Mo a h)
  refine o_putRF (pc := 316) (ci := 11) (k := 42) (by decide) (by decide) rfl lgX12_108 rfl ⟨rfl, rfl⟩ dX12_init_316 oa.1 oa.2 (Or.inl o31.1) ?_
  generalize e78 : sR H77 a 42 (some (hN h + 31)) = H78
  replace oa := Ob.sR (i := a) (j := 42) (x := some (hN h + 31)) oa
  rw [e78] at oa
  replace o0 := Ar.sR (i := a) (j := 42) (x := some (hN h + 31)) o0
  rw [e78] at o0
  replace o1 := Ar.sR (i := a) (j := 42) (x := some (hN h + 31)) o1
  rw [e78] at o1
  replace o2 := Ar.sR (i := a) (j := 42) (x := some (hN h + 31)) o2
  rw [e78] at o2
  replace o3 := Ar.sR (i := a) (j := 42) (x := some (hN h + 31)) o3
  rw [e78] at o3
  replace o4 := Ar.sR (i := a) (j := 42) (x := some (hN h + 31)) o4
  rw [e78] at o4
  replace o5 := Ar.sR (i := a) (j := 42) (x := some (hN h + 31)) o5
  rw [e78] at o5
  replace o6 := Ar.sR (i := a) (j := 42) (x := some (hN h + 31)) o6
  rw [e78] at o6
  replace o7 := Ar.sR (i := a) (j := 42) (x := some (hN h + 31)) o7
  rw [e78] at o7
  replace o8 := Ar.sR (i := a) (j := 42) (x := some (hN h + 31)) o8
  rw [e78] at o8
  replace o9 := Ar.sR (i := a) (j := 42) (x := some (hN h + 31)) o9
  rw [e78] at o9
  replace o10 := Ar.sR (i := a) (j := 42) (x := some (hN h + 31)) o10
  rw [e78] at o10
  replace o11 := Ar.sR (i := a) (j := 42) (x := some (hN h + 31)) o11
  rw [e78] at o11
  replace o12 := Ar.sR (i := a) (j := 42) (x := some (hN h + 31)) o12
  rw [e78] at o12
  replace o13 := Ar.sR (i := a) (j := 42) (x := some (hN h + 31)) o13
  rw [e78] at o13
  replace o14 := Ar.sR (i := a) (j := 42) (x := some (hN h + 31)) o14
  rw [e78] at o14
  replace o15 := Ar.sR (i := a) (j := 42) (x := some (hN h + 31)) o15
  rw [e78] at o15
  replace o16 := Ar.sR (i := a) (j := 42) (x := some (hN h + 31)) o16
  rw [e78] at o16
  replace o17 := Ar.sR (i := a) (j := 42) (x := some (hN h + 31)) o17
  rw [e78] at o17
  replace o18 := Ar.sR (i := a) (j := 42) (x := some (hN h + 31)) o18
  rw [e78] at o18
  replace o19 := Ar.sR (i := a) (j := 42) (x := some (hN h + 31)) o19
  rw [e78] at o19
  replace o20 := Ar.sR (i := a) (j := 42) (x := some (hN h + 31)) o20
  rw [e78] at o20
  replace o21 := Ar.sR (i := a) (j := 42) (x := some (hN h + 31)) o21
  rw [e78] at o21
  replace o22 := Ar.sR (i := a) (j := 42) (x := some (hN h + 31)) o22
  rw [e78] at o22
  replace o23 := Ar.sR (i := a) (j := 42) (x := some (hN h + 31)) o23
  rw [e78] at o23
  replace o24 := Ar.sR (i := a) (j := 42) (x := some (hN h + 31)) o24
  rw [e78] at o24
  replace o25 := Ar.sR (i := a) (j := 42) (x := some (hN h + 31)) o25
  rw [e78] at o25
  replace o26 := Ar.sR (i := a) (j := 42) (x := some (hN h + 31)) o26
  rw [e78] at o26
  replace o27 := Ar.sR (i := a) (j := 42) (x := some (hN h + 31)) o27
  rw [e78] at o27
  replace o28 := Ar.sR (i := a) (j := 42) (x := some (hN h + 31)) o28
  rw [e78] at o28
  replace o29 := Ar.sR (i := a) (j := 42) (x := some (hN h + 31)) o29
  rw [e78] at o29
  replace o30 := Ar.sR (i := a) (j := 42) (x := some (hN h + 31)) o30
  rw [e78] at o30
  replace o31 := Ar.sR (i := a) (j := 42) (x := some (hN h + 31)) o31
  rw [e78] at o31
  replace hn := hn_sR (i := a) (j := 42) (x := some (hN h + 31)) hn
  rw [e78] at hn
  show Rn g mdX12_init 319 [some (.ref a)] [] H78 32 4403 none (i_Mo a h)
  refine o_aload_n (pc := 319) dX12_init_319 rfl ?_
  refine o_sipush (pc := 320) (v := 402) dX12_init_320 rfl ?_
  refine o_newaX (pc := 323) (t := 0) (N := 402) (q := hN h + 32) hn (by decide) rfl la0 dX12_init_323 (by decide) rfl (by decide) (by omega) (by decide) (by decide) (okLs_ref (Or.inl oa.1) okLs_nil) (okSt_ref (Or.inl oa.1) okSt_nil) ?_
  have o32 := Ar.madeX (h := H78) (t := 0) (n := 402) hn
  generalize e79 : hNew H78 (.inr (0, 402)) = H79
  replace oa := Ob.new (z := .inr (0, 402)) oa
  rw [e79] at oa
  replace o0 := Ar.new (z := .inr (0, 402)) o0
  rw [e79] at o0
  replace o1 := Ar.new (z := .inr (0, 402)) o1
  rw [e79] at o1
  replace o2 := Ar.new (z := .inr (0, 402)) o2
  rw [e79] at o2
  replace o3 := Ar.new (z := .inr (0, 402)) o3
  rw [e79] at o3
  replace o4 := Ar.new (z := .inr (0, 402)) o4
  rw [e79] at o4
  replace o5 := Ar.new (z := .inr (0, 402)) o5
  rw [e79] at o5
  replace o6 := Ar.new (z := .inr (0, 402)) o6
  rw [e79] at o6
  replace o7 := Ar.new (z := .inr (0, 402)) o7
  rw [e79] at o7
  replace o8 := Ar.new (z := .inr (0, 402)) o8
  rw [e79] at o8
  replace o9 := Ar.new (z := .inr (0, 402)) o9
  rw [e79] at o9
  replace o10 := Ar.new (z := .inr (0, 402)) o10
  rw [e79] at o10
  replace o11 := Ar.new (z := .inr (0, 402)) o11
  rw [e79] at o11
  replace o12 := Ar.new (z := .inr (0, 402)) o12
  rw [e79] at o12
  replace o13 := Ar.new (z := .inr (0, 402)) o13
  rw [e79] at o13
  replace o14 := Ar.new (z := .inr (0, 402)) o14
  rw [e79] at o14
  replace o15 := Ar.new (z := .inr (0, 402)) o15
  rw [e79] at o15
  replace o16 := Ar.new (z := .inr (0, 402)) o16
  rw [e79] at o16
  replace o17 := Ar.new (z := .inr (0, 402)) o17
  rw [e79] at o17
  replace o18 := Ar.new (z := .inr (0, 402)) o18
  rw [e79] at o18
  replace o19 := Ar.new (z := .inr (0, 402)) o19
  rw [e79] at o19
  replace o20 := Ar.new (z := .inr (0, 402)) o20
  rw [e79] at o20
  replace o21 := Ar.new (z := .inr (0, 402)) o21
  rw [e79] at o21
  replace o22 := Ar.new (z := .inr (0, 402)) o22
  rw [e79] at o22
  replace o23 := Ar.new (z := .inr (0, 402)) o23
  rw [e79] at o23
  replace o24 := Ar.new (z := .inr (0, 402)) o24
  rw [e79] at o24
  replace o25 := Ar.new (z := .inr (0, 402)) o25
  rw [e79] at o25
  replace o26 := Ar.new (z := .inr (0, 402)) o26
  rw [e79] at o26
  replace o27 := Ar.new (z := .inr (0, 402)) o27
  rw [e79] at o27
  replace o28 := Ar.new (z := .inr (0, 402)) o28
  rw [e79] at o28
  replace o29 := Ar.new (z := .inr (0, 402)) o29
  rw [e79] at o29
  replace o30 := Ar.new (z := .inr (0, 402)) o30
  rw [e79] at o30
  replace o31 := Ar.new (z := .inr (0, 402)) o31
  rw [e79] at o31
  replace hn := hn_new (z := .inr (0, 402)) hn
  rw [e79] at hn
  rw [e79] at o32
  show Rn g mdX12_init 325 [some (.ref a)] [.ref (hN h + 32), .ref a] H79 33 4805 none (i_Mo a h)
  refine o_putRF (pc := 325) (ci := 11) (k := 43) (by decide) (by decide) rfl lgX12_111 rfl ⟨rfl, rfl⟩ dX12_init_325 oa.1 oa.2 (Or.inl o32.1) ?_
  generalize e80 : sR H79 a 43 (some (hN h + 32)) = H80
  replace oa := Ob.sR (i := a) (j := 43) (x := some (hN h + 32)) oa
  rw [e80] at oa
  replace o0 := Ar.sR (i := a) (j := 43) (x := some (hN h + 32)) o0
  rw [e80] at o0
  replace o1 := Ar.sR (i := a) (j := 43) (x := some (hN h + 32)) o1
  rw [e80] at o1
  replace o2 := Ar.sR (i := a) (j := 43) (x := some (hN h + 32)) o2
  rw [e80] at o2
  replace o3 := Ar.sR (i := a) (j := 43) (x := some (hN h + 32)) o3
  rw [e80] at o3
  replace o4 := Ar.sR (i := a) (j := 43) (x := some (hN h + 32)) o4
  rw [e80] at o4
  replace o5 := Ar.sR (i := a) (j := 43) (x := some (hN h + 32)) o5
  rw [e80] at o5
  replace o6 := Ar.sR (i := a) (j := 43) (x := some (hN h + 32)) o6
  rw [e80] at o6
  replace o7 := Ar.sR (i := a) (j := 43) (x := some (hN h + 32)) o7
  rw [e80] at o7
  replace o8 := Ar.sR (i := a) (j := 43) (x := some (hN h + 32)) o8
  rw [e80] at o8
  replace o9 := Ar.sR (i := a) (j := 43) (x := some (hN h + 32)) o9
  rw [e80] at o9
  replace o10 := Ar.sR (i := a) (j := 43) (x := some (hN h + 32)) o10
  rw [e80] at o10
  replace o11 := Ar.sR (i := a) (j := 43) (x := some (hN h + 32)) o11
  rw [e80] at o11
  replace o12 := Ar.sR (i := a) (j := 43) (x := some (hN h + 32)) o12
  rw [e80] at o12
  replace o13 := Ar.sR (i := a) (j := 43) (x := some (hN h + 32)) o13
  rw [e80] at o13
  replace o14 := Ar.sR (i := a) (j := 43) (x := some (hN h + 32)) o14
  rw [e80] at o14
  replace o15 := Ar.sR (i := a) (j := 43) (x := some (hN h + 32)) o15
  rw [e80] at o15
  replace o16 := Ar.sR (i := a) (j := 43) (x := some (hN h + 32)) o16
  rw [e80] at o16
  replace o17 := Ar.sR (i := a) (j := 43) (x := some (hN h + 32)) o17
  rw [e80] at o17
  replace o18 := Ar.sR (i := a) (j := 43) (x := some (hN h + 32)) o18
  rw [e80] at o18
  replace o19 := Ar.sR (i := a) (j := 43) (x := some (hN h + 32)) o19
  rw [e80] at o19
  replace o20 := Ar.sR (i := a) (j := 43) (x := some (hN h + 32)) o20
  rw [e80] at o20
  replace o21 := Ar.sR (i := a) (j := 43) (x := some (hN h + 32)) o21
  rw [e80] at o21
  replace o22 := Ar.sR (i := a) (j := 43) (x := some (hN h + 32)) o22
  rw [e80] at o22
  replace o23 := Ar.sR (i := a) (j := 43) (x := some (hN h + 32)) o23
  rw [e80] at o23
  replace o24 := Ar.sR (i := a) (j := 43) (x := some (hN h + 32)) o24
  rw [e80] at o24
  replace o25 := Ar.sR (i := a) (j := 43) (x := some (hN h + 32)) o25
  rw [e80] at o25
  replace o26 := Ar.sR (i := a) (j := 43) (x := some (hN h + 32)) o26
  rw [e80] at o26
  replace o27 := Ar.sR (i := a) (j := 43) (x := some (hN h + 32)) o27
  rw [e80] at o27
  replace o28 := Ar.sR (i := a) (j := 43) (x := some (hN h + 32)) o28
  rw [e80] at o28
  replace o29 := Ar.sR (i := a) (j := 43) (x := some (hN h + 32)) o29
  rw [e80] at o29
  replace o30 := Ar.sR (i := a) (j := 43) (x := some (hN h + 32)) o30
  rw [e80] at o30
  replace o31 := Ar.sR (i := a) (j := 43) (x := some (hN h + 32)) o31
  rw [e80] at o31
  replace o32 := Ar.sR (i := a) (j := 43) (x := some (hN h + 32)) o32
  rw [e80] at o32
  replace hn := hn_sR (i := a) (j := 43) (x := some (hN h + 32)) hn
  rw [e80] at hn
  show Rn g mdX12_init 328 [some (.ref a)] [] H80 33 4805 none (i_Mo a h)
  refine o_aload_n (pc := 328) dX12_init_328 rfl ?_
  refine o_bipush (pc := 329) (v := 14) dX12_init_329 rfl ?_
  refine o_newaX (pc := 331) (t := 1) (N := 14) (q := hN h + 33) hn (by decide) rfl la1 dX12_init_331 (by decide) rfl (by decide) (by omega) (by decide) (by decide) (okLs_ref (Or.inl oa.1) okLs_nil) (okSt_ref (Or.inl oa.1) okSt_nil) ?_
  have o33 := Ar.madeX (h := H80) (t := 1) (n := 14) hn
  generalize e81 : hNew H80 (.inr (1, 14)) = H81
  replace oa := Ob.new (z := .inr (1, 14)) oa
  rw [e81] at oa
  replace o0 := Ar.new (z := .inr (1, 14)) o0
  rw [e81] at o0
  replace o1 := Ar.new (z := .inr (1, 14)) o1
  rw [e81] at o1
  replace o2 := Ar.new (z := .inr (1, 14)) o2
  rw [e81] at o2
  replace o3 := Ar.new (z := .inr (1, 14)) o3
  rw [e81] at o3
  replace o4 := Ar.new (z := .inr (1, 14)) o4
  rw [e81] at o4
  replace o5 := Ar.new (z := .inr (1, 14)) o5
  rw [e81] at o5
  replace o6 := Ar.new (z := .inr (1, 14)) o6
  rw [e81] at o6
  replace o7 := Ar.new (z := .inr (1, 14)) o7
  rw [e81] at o7
  replace o8 := Ar.new (z := .inr (1, 14)) o8
  rw [e81] at o8
  replace o9 := Ar.new (z := .inr (1, 14)) o9
  rw [e81] at o9
  replace o10 := Ar.new (z := .inr (1, 14)) o10
  rw [e81] at o10
  replace o11 := Ar.new (z := .inr (1, 14)) o11
  rw [e81] at o11
  replace o12 := Ar.new (z := .inr (1, 14)) o12
  rw [e81] at o12
  replace o13 := Ar.new (z := .inr (1, 14)) o13
  rw [e81] at o13
  replace o14 := Ar.new (z := .inr (1, 14)) o14
  rw [e81] at o14
  replace o15 := Ar.new (z := .inr (1, 14)) o15
  rw [e81] at o15
  replace o16 := Ar.new (z := .inr (1, 14)) o16
  rw [e81] at o16
  replace o17 := Ar.new (z := .inr (1, 14)) o17
  rw [e81] at o17
  replace o18 := Ar.new (z := .inr (1, 14)) o18
  rw [e81] at o18
  replace o19 := Ar.new (z := .inr (1, 14)) o19
  rw [e81] at o19
  replace o20 := Ar.new (z := .inr (1, 14)) o20
  rw [e81] at o20
  replace o21 := Ar.new (z := .inr (1, 14)) o21
  rw [e81] at o21
  replace o22 := Ar.new (z := .inr (1, 14)) o22
  rw [e81] at o22
  replace o23 := Ar.new (z := .inr (1, 14)) o23
  rw [e81] at o23
  replace o24 := Ar.new (z := .inr (1, 14)) o24
  rw [e81] at o24
  replace o25 := Ar.new (z := .inr (1, 14)) o25
  rw [e81] at o25
  replace o26 := Ar.new (z := .inr (1, 14)) o26
  rw [e81] at o26
  replace o27 := Ar.new (z := .inr (1, 14)) o27
  rw [e81] at o27
  replace o28 := Ar.new (z := .inr (1, 14)) o28
  rw [e81] at o28
  replace o29 := Ar.new (z := .inr (1, 14)) o29
  rw [e81] at o29
  replace o30 := Ar.new (z := .inr (1, 14)) o30
  rw [e81] at o30
  replace o31 := Ar.new (z := .inr (1, 14)) o31
  rw [e81] at o31
  replace o32 := Ar.new (z := .inr (1, 14)) o32
  rw [e81] at o32
  replace hn := hn_new (z := .inr (1, 14)) hn
  rw [e81] at hn
  rw [e81] at o33
  show Rn g mdX12_init 333 [some (.ref a)] [.ref (hN h + 33), .ref a] H81 34 4819 none (i_Mo a h)
  refine o_putRF (pc := 333) (ci := 11) (k := 44) (by decide) (by decide) rfl lgX12_114 rfl ⟨rfl, rfl⟩ dX12_init_333 oa.1 oa.2 (Or.inl o33.1) ?_
  generalize e82 : sR H81 a 44 (some (hN h + 33)) = H82
  replace oa := Ob.sR (i := a) (j := 44) (x := some (hN h + 33)) oa
  rw [e82] at oa
  replace o0 := Ar.sR (i := a) (j := 44) (x := some (hN h + 33)) o0
  rw [e82] at o0
  replace o1 := Ar.sR (i := a) (j := 44) (x := some (hN h + 33)) o1
  rw [e82] at o1
  replace o2 := Ar.sR (i := a) (j := 44) (x := some (hN h + 33)) o2
  rw [e82] at o2
  replace o3 := Ar.sR (i := a) (j := 44) (x := some (hN h + 33)) o3
  rw [e82] at o3
  replace o4 := Ar.sR (i := a) (j := 44) (x := some (hN h + 33)) o4
  rw [e82] at o4
  replace o5 := Ar.sR (i := a) (j := 44) (x := some (hN h + 33)) o5
  rw [e82] at o5
  replace o6 := Ar.sR (i := a) (j := 44) (x := some (hN h + 33)) o6
  rw [e82] at o6
  replace o7 := Ar.sR (i := a) (j := 44) (x := some (hN h + 33)) o7
  rw [e82] at o7
  replace o8 := Ar.sR (i := a) (j := 44) (x := some (hN h + 33)) o8
  rw [e82] at o8
  replace o9 := Ar.sR (i := a) (j := 44) (x := some (hN h + 33)) o9
  rw [e82] at o9
  replace o10 := Ar.sR (i := a) (j := 44) (x := some (hN h + 33)) o10
  rw [e82] at o10
  replace o11 := Ar.sR (i := a) (j := 44) (x := some (hN h + 33)) o11
  rw [e82] at o11
  replace o12 := Ar.sR (i := a) (j := 44) (x := some (hN h + 33)) o12
  rw [e82] at o12
  replace o13 := Ar.sR (i := a) (j := 44) (x := some (hN h + 33)) o13
  rw [e82] at o13
  replace o14 := Ar.sR (i := a) (j := 44) (x := some (hN h + 33)) o14
  rw [e82] at o14
  replace o15 := Ar.sR (i := a) (j := 44) (x := some (hN h + 33)) o15
  rw [e82] at o15
  replace o16 := Ar.sR (i := a) (j := 44) (x := some (hN h + 33)) o16
  rw [e82] at o16
  replace o17 := Ar.sR (i := a) (j := 44) (x := some (hN h + 33)) o17
  rw [e82] at o17
  replace o18 := Ar.sR (i := a) (j := 44) (x := some (hN h + 33)) o18
  rw [e82] at o18
  replace o19 := Ar.sR (i := a) (j := 44) (x := some (hN h + 33)) o19
  rw [e82] at o19
  replace o20 := Ar.sR (i := a) (j := 44) (x := some (hN h + 33)) o20
  rw [e82] at o20
  replace o21 := Ar.sR (i := a) (j := 44) (x := some (hN h + 33)) o21
  rw [e82] at o21
  replace o22 := Ar.sR (i := a) (j := 44) (x := some (hN h + 33)) o22
  rw [e82] at o22
  replace o23 := Ar.sR (i := a) (j := 44) (x := some (hN h + 33)) o23
  rw [e82] at o23
  replace o24 := Ar.sR (i := a) (j := 44) (x := some (hN h + 33)) o24
  rw [e82] at o24
  replace o25 := Ar.sR (i := a) (j := 44) (x := some (hN h + 33)) o25
  rw [e82] at o25
  replace o26 := Ar.sR (i := a) (j := 44) (x := some (hN h + 33)) o26
  rw [e82] at o26
  replace o27 := Ar.sR (i := a) (j := 44) (x := some (hN h + 33)) o27
  rw [e82] at o27
  replace o28 := Ar.sR (i := a) (j := 44) (x := some (hN h + 33)) o28
  rw [e82] at o28
  replace o29 := Ar.sR (i := a) (j := 44) (x := some (hN h + 33)) o29
  rw [e82] at o29
  replace o30 := Ar.sR (i := a) (j := 44) (x := some (hN h + 33)) o30
  rw [e82] at o30
  replace o31 := Ar.sR (i := a) (j := 44) (x := some (hN h + 33)) o31
  rw [e82] at o31
  replace o32 := Ar.sR (i := a) (j := 44) (x := some (hN h + 33)) o32
  rw [e82] at o32
  replace o33 := Ar.sR (i := a) (j := 44) (x := some (hN h + 33)) o33
  rw [e82] at o33
  replace hn := hn_sR (i := a) (j := 44) (x := some (hN h + 33)) hn
  rw [e82] at hn
  show Rn g mdX12_init 336 [some (.ref a)] [] H82 34 4819 none (i_Mo a h)
  refine o_aload_n (pc := 336) dX12_init_336 rfl ?_
  refine o_sipush (pc := 337) (v := 300) dX12_init_337 rfl ?_
  refine o_newaX (pc := 340) (t := 1) (N := 300) (q := hN h + 34) hn (by decide) rfl la1 dX12_init_340 (by decide) rfl (by decide) (by omega) (by decide) (by decide) (okLs_ref (Or.inl oa.1) okLs_nil) (okSt_ref (Or.inl oa.1) okSt_nil) ?_
  have o34 := Ar.madeX (h := H82) (t := 1) (n := 300) hn
  generalize e83 : hNew H82 (.inr (1, 300)) = H83
  replace oa := Ob.new (z := .inr (1, 300)) oa
  rw [e83] at oa
  replace o0 := Ar.new (z := .inr (1, 300)) o0
  rw [e83] at o0
  replace o1 := Ar.new (z := .inr (1, 300)) o1
  rw [e83] at o1
  replace o2 := Ar.new (z := .inr (1, 300)) o2
  rw [e83] at o2
  replace o3 := Ar.new (z := .inr (1, 300)) o3
  rw [e83] at o3
  replace o4 := Ar.new (z := .inr (1, 300)) o4
  rw [e83] at o4
  replace o5 := Ar.new (z := .inr (1, 300)) o5
  rw [e83] at o5
  replace o6 := Ar.new (z := .inr (1, 300)) o6
  rw [e83] at o6
  replace o7 := Ar.new (z := .inr (1, 300)) o7
  rw [e83] at o7
  replace o8 := Ar.new (z := .inr (1, 300)) o8
  rw [e83] at o8
  replace o9 := Ar.new (z := .inr (1, 300)) o9
  rw [e83] at o9
  replace o10 := Ar.new (z := .inr (1, 300)) o10
  rw [e83] at o10
  replace o11 := Ar.new (z := .inr (1, 300)) o11
  rw [e83] at o11
  replace o12 := Ar.new (z := .inr (1, 300)) o12
  rw [e83] at o12
  replace o13 := Ar.new (z := .inr (1, 300)) o13
  rw [e83] at o13
  replace o14 := Ar.new (z := .inr (1, 300)) o14
  rw [e83] at o14
  replace o15 := Ar.new (z := .inr (1, 300)) o15
  rw [e83] at o15
  replace o16 := Ar.new (z := .inr (1, 300)) o16
  rw [e83] at o16
  replace o17 := Ar.new (z := .inr (1, 300)) o17
  rw [e83] at o17
  replace o18 := Ar.new (z := .inr (1, 300)) o18
  rw [e83] at o18
  replace o19 := Ar.new (z := .inr (1, 300)) o19
  rw [e83] at o19
  replace o20 := Ar.new (z := .inr (1, 300)) o20
  rw [e83] at o20
  replace o21 := Ar.new (z := .inr (1, 300)) o21
  rw [e83] at o21
  replace o22 := Ar.new (z := .inr (1, 300)) o22
  rw [e83] at o22
  replace o23 := Ar.new (z := .inr (1, 300)) o23
  rw [e83] at o23
  replace o24 := Ar.new (z := .inr (1, 300)) o24
  rw [e83] at o24
  replace o25 := Ar.new (z := .inr (1, 300)) o25
  rw [e83] at o25
  replace o26 := Ar.new (z := .inr (1, 300)) o26
  rw [e83] at o26
  replace o27 := Ar.new (z := .inr (1, 300)) o27
  rw [e83] at o27
  replace o28 := Ar.new (z := .inr (1, 300)) o28
  rw [e83] at o28
  replace o29 := Ar.new (z := .inr (1, 300)) o29
  rw [e83] at o29
  replace o30 := Ar.new (z := .inr (1, 300)) o30
  rw [e83] at o30
  replace o31 := Ar.new (z := .inr (1, 300)) o31
  rw [e83] at o31
  replace o32 := Ar.new (z := .inr (1, 300)) o32
  rw [e83] at o32
  replace o33 := Ar.new (z := .inr (1, 300)) o33
  rw [e83] at o33
  replace hn := hn_new (z := .inr (1, 300)) hn
  rw [e83] at hn
  rw [e83] at o34
  show Rn g mdX12_init 342 [some (.ref a)] [.ref (hN h + 34), .ref a] H83 35 5119 none (i_Mo a h)
  refine o_putRF (pc := 342) (ci := 11) (k := 45) (by decide) (by decide) rfl lgX12_118 rfl ⟨rfl, rfl⟩ dX12_init_342 oa.1 oa.2 (Or.inl o34.1) ?_
  generalize e84 : sR H83 a 45 (some (hN h + 34)) = H84
  replace oa := Ob.sR (i := a) (j := 45) (x := some (hN h + 34)) oa
  rw [e84] at oa
  replace o0 := Ar.sR (i := a) (j := 45) (x := some (hN h + 34)) o0
  rw [e84] at o0
  replace o1 := Ar.sR (i := a) (j := 45) (x := some (hN h + 34)) o1
  rw [e84] at o1
  replace o2 := Ar.sR (i := a) (j := 45) (x := some (hN h + 34)) o2
  rw [e84] at o2
  replace o3 := Ar.sR (i := a) (j := 45) (x := some (hN h + 34)) o3
  rw [e84] at o3
  replace o4 := Ar.sR (i := a) (j := 45) (x := some (hN h + 34)) o4
  rw [e84] at o4
  replace o5 := Ar.sR (i := a) (j := 45) (x := some (hN h + 34)) o5
  rw [e84] at o5
  replace o6 := Ar.sR (i := a) (j := 45) (x := some (hN h + 34)) o6
  rw [e84] at o6
  replace o7 := Ar.sR (i := a) (j := 45) (x := some (hN h + 34)) o7
  rw [e84] at o7
  replace o8 := Ar.sR (i := a) (j := 45) (x := some (hN h + 34)) o8
  rw [e84] at o8
  replace o9 := Ar.sR (i := a) (j := 45) (x := some (hN h + 34)) o9
  rw [e84] at o9
  replace o10 := Ar.sR (i := a) (j := 45) (x := some (hN h + 34)) o10
  rw [e84] at o10
  replace o11 := Ar.sR (i := a) (j := 45) (x := some (hN h + 34)) o11
  rw [e84] at o11
  replace o12 := Ar.sR (i := a) (j := 45) (x := some (hN h + 34)) o12
  rw [e84] at o12
  replace o13 := Ar.sR (i := a) (j := 45) (x := some (hN h + 34)) o13
  rw [e84] at o13
  replace o14 := Ar.sR (i := a) (j := 45) (x := some (hN h + 34)) o14
  rw [e84] at o14
  replace o15 := Ar.sR (i := a) (j := 45) (x := some (hN h + 34)) o15
  rw [e84] at o15
  replace o16 := Ar.sR (i := a) (j := 45) (x := some (hN h + 34)) o16
  rw [e84] at o16
  replace o17 := Ar.sR (i := a) (j := 45) (x := some (hN h + 34)) o17
  rw [e84] at o17
  replace o18 := Ar.sR (i := a) (j := 45) (x := some (hN h + 34)) o18
  rw [e84] at o18
  replace o19 := Ar.sR (i := a) (j := 45) (x := some (hN h + 34)) o19
  rw [e84] at o19
  replace o20 := Ar.sR (i := a) (j := 45) (x := some (hN h + 34)) o20
  rw [e84] at o20
  replace o21 := Ar.sR (i := a) (j := 45) (x := some (hN h + 34)) o21
  rw [e84] at o21
  replace o22 := Ar.sR (i := a) (j := 45) (x := some (hN h + 34)) o22
  rw [e84] at o22
  replace o23 := Ar.sR (i := a) (j := 45) (x := some (hN h + 34)) o23
  rw [e84] at o23
  replace o24 := Ar.sR (i := a) (j := 45) (x := some (hN h + 34)) o24
  rw [e84] at o24
  replace o25 := Ar.sR (i := a) (j := 45) (x := some (hN h + 34)) o25
  rw [e84] at o25
  replace o26 := Ar.sR (i := a) (j := 45) (x := some (hN h + 34)) o26
  rw [e84] at o26
  replace o27 := Ar.sR (i := a) (j := 45) (x := some (hN h + 34)) o27
  rw [e84] at o27
  replace o28 := Ar.sR (i := a) (j := 45) (x := some (hN h + 34)) o28
  rw [e84] at o28
  replace o29 := Ar.sR (i := a) (j := 45) (x := some (hN h + 34)) o29
  rw [e84] at o29
  replace o30 := Ar.sR (i := a) (j := 45) (x := some (hN h + 34)) o30
  rw [e84] at o30
  replace o31 := Ar.sR (i := a) (j := 45) (x := some (hN h + 34)) o31
  rw [e84] at o31
  replace o32 := Ar.sR (i := a) (j := 45) (x := some (hN h + 34)) o32
  rw [e84] at o32
  replace o33 := Ar.sR (i := a) (j := 45) (x := some (hN h + 34)) o33
  rw [e84] at o33
  replace o34 := Ar.sR (i := a) (j := 45) (x := some (hN h + 34)) o34
  rw [e84] at o34
  replace hn := hn_sR (i := a) (j := 45) (x := some (hN h + 34)) hn
  rw [e84] at hn
  show Rn g mdX12_init 345 [some (.ref a)] [] H84 35 5119 none (i_Mo a h)
  refine o_aload_n (pc := 345) dX12_init_345 rfl ?_
  refine o_bipush (pc := 346) (v := 8) dX12_init_346 rfl ?_
  refine o_newaX (pc := 348) (t := 0) (N := 8) (q := hN h + 35) hn (by decide) rfl la0 dX12_init_348 (by decide) rfl (by decide) (by omega) (by decide) (by decide) (okLs_ref (Or.inl oa.1) okLs_nil) (okSt_ref (Or.inl oa.1) okSt_nil) ?_
  have o35 := Ar.madeX (h := H84) (t := 0) (n := 8) hn
  generalize e85 : hNew H84 (.inr (0, 8)) = H85
  replace oa := Ob.new (z := .inr (0, 8)) oa
  rw [e85] at oa
  replace o0 := Ar.new (z := .inr (0, 8)) o0
  rw [e85] at o0
  replace o1 := Ar.new (z := .inr (0, 8)) o1
  rw [e85] at o1
  replace o2 := Ar.new (z := .inr (0, 8)) o2
  rw [e85] at o2
  replace o3 := Ar.new (z := .inr (0, 8)) o3
  rw [e85] at o3
  replace o4 := Ar.new (z := .inr (0, 8)) o4
  rw [e85] at o4
  replace o5 := Ar.new (z := .inr (0, 8)) o5
  rw [e85] at o5
  replace o6 := Ar.new (z := .inr (0, 8)) o6
  rw [e85] at o6
  replace o7 := Ar.new (z := .inr (0, 8)) o7
  rw [e85] at o7
  replace o8 := Ar.new (z := .inr (0, 8)) o8
  rw [e85] at o8
  replace o9 := Ar.new (z := .inr (0, 8)) o9
  rw [e85] at o9
  replace o10 := Ar.new (z := .inr (0, 8)) o10
  rw [e85] at o10
  replace o11 := Ar.new (z := .inr (0, 8)) o11
  rw [e85] at o11
  replace o12 := Ar.new (z := .inr (0, 8)) o12
  rw [e85] at o12
  replace o13 := Ar.new (z := .inr (0, 8)) o13
  rw [e85] at o13
  replace o14 := Ar.new (z := .inr (0, 8)) o14
  rw [e85] at o14
  replace o15 := Ar.new (z := .inr (0, 8)) o15
  rw [e85] at o15
  replace o16 := Ar.new (z := .inr (0, 8)) o16
  rw [e85] at o16
  replace o17 := Ar.new (z := .inr (0, 8)) o17
  rw [e85] at o17
  replace o18 := Ar.new (z := .inr (0, 8)) o18
  rw [e85] at o18
  replace o19 := Ar.new (z := .inr (0, 8)) o19
  rw [e85] at o19
  replace o20 := Ar.new (z := .inr (0, 8)) o20
  rw [e85] at o20
  replace o21 := Ar.new (z := .inr (0, 8)) o21
  rw [e85] at o21
  replace o22 := Ar.new (z := .inr (0, 8)) o22
  rw [e85] at o22
  replace o23 := Ar.new (z := .inr (0, 8)) o23
  rw [e85] at o23
  replace o24 := Ar.new (z := .inr (0, 8)) o24
  rw [e85] at o24
  replace o25 := Ar.new (z := .inr (0, 8)) o25
  rw [e85] at o25
  replace o26 := Ar.new (z := .inr (0, 8)) o26
  rw [e85] at o26
  replace o27 := Ar.new (z := .inr (0, 8)) o27
  rw [e85] at o27
  replace o28 := Ar.new (z := .inr (0, 8)) o28
  rw [e85] at o28
  replace o29 := Ar.new (z := .inr (0, 8)) o29
  rw [e85] at o29
  replace o30 := Ar.new (z := .inr (0, 8)) o30
  rw [e85] at o30
  replace o31 := Ar.new (z := .inr (0, 8)) o31
  rw [e85] at o31
  replace o32 := Ar.new (z := .inr (0, 8)) o32
  rw [e85] at o32
  replace o33 := Ar.new (z := .inr (0, 8)) o33
  rw [e85] at o33
  replace o34 := Ar.new (z := .inr (0, 8)) o34
  rw [e85] at o34
  replace hn := hn_new (z := .inr (0, 8)) hn
  rw [e85] at hn
  rw [e85] at o35
  show Rn g mdX12_init 350 [some (.ref a)] [.ref (hN h + 35), .ref a] H85 36 5127 none (i_Mo a h)
  refine o_putRF (pc := 350) (ci := 11) (k := 46) (by decide) (by decide) rfl lgX12_121 rfl ⟨rfl, rfl⟩ dX12_init_350 oa.1 oa.2 (Or.inl o35.1) ?_
  generalize e86 : sR H85 a 46 (some (hN h + 35)) = H86
  replace oa := Ob.sR (i := a) (j := 46) (x := some (hN h + 35)) oa
  rw [e86] at oa
  replace o0 := Ar.sR (i := a) (j := 46) (x := some (hN h + 35)) o0
  rw [e86] at o0
  replace o1 := Ar.sR (i := a) (j := 46) (x := some (hN h + 35)) o1
  rw [e86] at o1
  replace o2 := Ar.sR (i := a) (j := 46) (x := some (hN h + 35)) o2
  rw [e86] at o2
  replace o3 := Ar.sR (i := a) (j := 46) (x := some (hN h + 35)) o3
  rw [e86] at o3
  replace o4 := Ar.sR (i := a) (j := 46) (x := some (hN h + 35)) o4
  rw [e86] at o4
  replace o5 := Ar.sR (i := a) (j := 46) (x := some (hN h + 35)) o5
  rw [e86] at o5
  replace o6 := Ar.sR (i := a) (j := 46) (x := some (hN h + 35)) o6
  rw [e86] at o6
  replace o7 := Ar.sR (i := a) (j := 46) (x := some (hN h + 35)) o7
  rw [e86] at o7
  replace o8 := Ar.sR (i := a) (j := 46) (x := some (hN h + 35)) o8
  rw [e86] at o8
  replace o9 := Ar.sR (i := a) (j := 46) (x := some (hN h + 35)) o9
  rw [e86] at o9
  replace o10 := Ar.sR (i := a) (j := 46) (x := some (hN h + 35)) o10
  rw [e86] at o10
  replace o11 := Ar.sR (i := a) (j := 46) (x := some (hN h + 35)) o11
  rw [e86] at o11
  replace o12 := Ar.sR (i := a) (j := 46) (x := some (hN h + 35)) o12
  rw [e86] at o12
  replace o13 := Ar.sR (i := a) (j := 46) (x := some (hN h + 35)) o13
  rw [e86] at o13
  replace o14 := Ar.sR (i := a) (j := 46) (x := some (hN h + 35)) o14
  rw [e86] at o14
  replace o15 := Ar.sR (i := a) (j := 46) (x := some (hN h + 35)) o15
  rw [e86] at o15
  replace o16 := Ar.sR (i := a) (j := 46) (x := some (hN h + 35)) o16
  rw [e86] at o16
  replace o17 := Ar.sR (i := a) (j := 46) (x := some (hN h + 35)) o17
  rw [e86] at o17
  replace o18 := Ar.sR (i := a) (j := 46) (x := some (hN h + 35)) o18
  rw [e86] at o18
  replace o19 := Ar.sR (i := a) (j := 46) (x := some (hN h + 35)) o19
  rw [e86] at o19
  replace o20 := Ar.sR (i := a) (j := 46) (x := some (hN h + 35)) o20
  rw [e86] at o20
  replace o21 := Ar.sR (i := a) (j := 46) (x := some (hN h + 35)) o21
  rw [e86] at o21
  replace o22 := Ar.sR (i := a) (j := 46) (x := some (hN h + 35)) o22
  rw [e86] at o22
  replace o23 := Ar.sR (i := a) (j := 46) (x := some (hN h + 35)) o23
  rw [e86] at o23
  replace o24 := Ar.sR (i := a) (j := 46) (x := some (hN h + 35)) o24
  rw [e86] at o24
  replace o25 := Ar.sR (i := a) (j := 46) (x := some (hN h + 35)) o25
  rw [e86] at o25
  replace o26 := Ar.sR (i := a) (j := 46) (x := some (hN h + 35)) o26
  rw [e86] at o26
  replace o27 := Ar.sR (i := a) (j := 46) (x := some (hN h + 35)) o27
  rw [e86] at o27
  replace o28 := Ar.sR (i := a) (j := 46) (x := some (hN h + 35)) o28
  rw [e86] at o28
  replace o29 := Ar.sR (i := a) (j := 46) (x := some (hN h + 35)) o29
  rw [e86] at o29
  replace o30 := Ar.sR (i := a) (j := 46) (x := some (hN h + 35)) o30
  rw [e86] at o30
  replace o31 := Ar.sR (i := a) (j := 46) (x := some (hN h + 35)) o31
  rw [e86] at o31
  replace o32 := Ar.sR (i := a) (j := 46) (x := some (hN h + 35)) o32
  rw [e86] at o32
  replace o33 := Ar.sR (i := a) (j := 46) (x := some (hN h + 35)) o33
  rw [e86] at o33
  replace o34 := Ar.sR (i := a) (j := 46) (x := some (hN h + 35)) o34
  rw [e86] at o34
  replace o35 := Ar.sR (i := a) (j := 46) (x := some (hN h + 35)) o35
  rw [e86] at o35
  replace hn := hn_sR (i := a) (j := 46) (x := some (hN h + 35)) hn
  rw [e86] at hn
  show Rn g mdX12_init 353 [some (.ref a)] [] H86 36 5127 none (i_Mo a h)
  refine o_aload_n (pc := 353) dX12_init_353 rfl ?_
  refine o_iconst (pc := 354) (v := 5) dX12_init_354 rfl ?_
  refine o_newaX (pc := 355) (t := 0) (N := 5) (q := hN h + 36) hn (by decide) rfl la0 dX12_init_355 (by decide) rfl (by decide) (by omega) (by decide) (by decide) (okLs_ref (Or.inl oa.1) okLs_nil) (okSt_ref (Or.inl oa.1) okSt_nil) ?_
  have o36 := Ar.madeX (h := H86) (t := 0) (n := 5) hn
  generalize e87 : hNew H86 (.inr (0, 5)) = H87
  replace oa := Ob.new (z := .inr (0, 5)) oa
  rw [e87] at oa
  replace o0 := Ar.new (z := .inr (0, 5)) o0
  rw [e87] at o0
  replace o1 := Ar.new (z := .inr (0, 5)) o1
  rw [e87] at o1
  replace o2 := Ar.new (z := .inr (0, 5)) o2
  rw [e87] at o2
  replace o3 := Ar.new (z := .inr (0, 5)) o3
  rw [e87] at o3
  replace o4 := Ar.new (z := .inr (0, 5)) o4
  rw [e87] at o4
  replace o5 := Ar.new (z := .inr (0, 5)) o5
  rw [e87] at o5
  replace o6 := Ar.new (z := .inr (0, 5)) o6
  rw [e87] at o6
  replace o7 := Ar.new (z := .inr (0, 5)) o7
  rw [e87] at o7
  replace o8 := Ar.new (z := .inr (0, 5)) o8
  rw [e87] at o8
  replace o9 := Ar.new (z := .inr (0, 5)) o9
  rw [e87] at o9
  replace o10 := Ar.new (z := .inr (0, 5)) o10
  rw [e87] at o10
  replace o11 := Ar.new (z := .inr (0, 5)) o11
  rw [e87] at o11
  replace o12 := Ar.new (z := .inr (0, 5)) o12
  rw [e87] at o12
  replace o13 := Ar.new (z := .inr (0, 5)) o13
  rw [e87] at o13
  replace o14 := Ar.new (z := .inr (0, 5)) o14
  rw [e87] at o14
  replace o15 := Ar.new (z := .inr (0, 5)) o15
  rw [e87] at o15
  replace o16 := Ar.new (z := .inr (0, 5)) o16
  rw [e87] at o16
  replace o17 := Ar.new (z := .inr (0, 5)) o17
  rw [e87] at o17
  replace o18 := Ar.new (z := .inr (0, 5)) o18
  rw [e87] at o18
  replace o19 := Ar.new (z := .inr (0, 5)) o19
  rw [e87] at o19
  replace o20 := Ar.new (z := .inr (0, 5)) o20
  rw [e87] at o20
  replace o21 := Ar.new (z := .inr (0, 5)) o21
  rw [e87] at o21
  replace o22 := Ar.new (z := .inr (0, 5)) o22
  rw [e87] at o22
  replace o23 := Ar.new (z := .inr (0, 5)) o23
  rw [e87] at o23
  replace o24 := Ar.new (z := .inr (0, 5)) o24
  rw [e87] at o24
  replace o25 := Ar.new (z := .inr (0, 5)) o25
  rw [e87] at o25
  replace o26 := Ar.new (z := .inr (0, 5)) o26
  rw [e87] at o26
  replace o27 := Ar.new (z := .inr (0, 5)) o27
  rw [e87] at o27
  replace o28 := Ar.new (z := .inr (0, 5)) o28
  rw [e87] at o28
  replace o29 := Ar.new (z := .inr (0, 5)) o29
  rw [e87] at o29
  replace o30 := Ar.new (z := .inr (0, 5)) o30
  rw [e87] at o30
  replace o31 := Ar.new (z := .inr (0, 5)) o31
  rw [e87] at o31
  replace o32 := Ar.new (z := .inr (0, 5)) o32
  rw [e87] at o32
  replace o33 := Ar.new (z := .inr (0, 5)) o33
  rw [e87] at o33
  replace o34 := Ar.new (z := .inr (0, 5)) o34
  rw [e87] at o34
  replace o35 := Ar.new (z := .inr (0, 5)) o35
  rw [e87] at o35
  replace hn := hn_new (z := .inr (0, 5)) hn
  rw [e87] at hn
  rw [e87] at o36
  show Rn g mdX12_init 357 [some (.ref a)] [.ref (hN h + 36), .ref a] H87 37 5132 none (i_Mo a h)
  refine o_putRF (pc := 357) (ci := 11) (k := 47) (by decide) (by decide) rfl lgX12_124 rfl ⟨rfl, rfl⟩ dX12_init_357 oa.1 oa.2 (Or.inl o36.1) ?_
  generalize e88 : sR H87 a 47 (some (hN h + 36)) = H88
  replace oa := Ob.sR (i := a) (j := 47) (x := some (hN h + 36)) oa
  rw [e88] at oa
  replace o0 := Ar.sR (i := a) (j := 47) (x := some (hN h + 36)) o0
  rw [e88] at o0
  replace o1 := Ar.sR (i := a) (j := 47) (x := some (hN h + 36)) o1
  rw [e88] at o1
  replace o2 := Ar.sR (i := a) (j := 47) (x := some (hN h + 36)) o2
  rw [e88] at o2
  replace o3 := Ar.sR (i := a) (j := 47) (x := some (hN h + 36)) o3
  rw [e88] at o3
  replace o4 := Ar.sR (i := a) (j := 47) (x := some (hN h + 36)) o4
  rw [e88] at o4
  replace o5 := Ar.sR (i := a) (j := 47) (x := some (hN h + 36)) o5
  rw [e88] at o5
  replace o6 := Ar.sR (i := a) (j := 47) (x := some (hN h + 36)) o6
  rw [e88] at o6
  replace o7 := Ar.sR (i := a) (j := 47) (x := some (hN h + 36)) o7
  rw [e88] at o7
  replace o8 := Ar.sR (i := a) (j := 47) (x := some (hN h + 36)) o8
  rw [e88] at o8
  replace o9 := Ar.sR (i := a) (j := 47) (x := some (hN h + 36)) o9
  rw [e88] at o9
  replace o10 := Ar.sR (i := a) (j := 47) (x := some (hN h + 36)) o10
  rw [e88] at o10
  replace o11 := Ar.sR (i := a) (j := 47) (x := some (hN h + 36)) o11
  rw [e88] at o11
  replace o12 := Ar.sR (i := a) (j := 47) (x := some (hN h + 36)) o12
  rw [e88] at o12
  replace o13 := Ar.sR (i := a) (j := 47) (x := some (hN h + 36)) o13
  rw [e88] at o13
  replace o14 := Ar.sR (i := a) (j := 47) (x := some (hN h + 36)) o14
  rw [e88] at o14
  replace o15 := Ar.sR (i := a) (j := 47) (x := some (hN h + 36)) o15
  rw [e88] at o15
  replace o16 := Ar.sR (i := a) (j := 47) (x := some (hN h + 36)) o16
  rw [e88] at o16
  replace o17 := Ar.sR (i := a) (j := 47) (x := some (hN h + 36)) o17
  rw [e88] at o17
  replace o18 := Ar.sR (i := a) (j := 47) (x := some (hN h + 36)) o18
  rw [e88] at o18
  replace o19 := Ar.sR (i := a) (j := 47) (x := some (hN h + 36)) o19
  rw [e88] at o19
  replace o20 := Ar.sR (i := a) (j := 47) (x := some (hN h + 36)) o20
  rw [e88] at o20
  replace o21 := Ar.sR (i := a) (j := 47) (x := some (hN h + 36)) o21
  rw [e88] at o21
  replace o22 := Ar.sR (i := a) (j := 47) (x := some (hN h + 36)) o22
  rw [e88] at o22
  replace o23 := Ar.sR (i := a) (j := 47) (x := some (hN h + 36)) o23
  rw [e88] at o23
  replace o24 := Ar.sR (i := a) (j := 47) (x := some (hN h + 36)) o24
  rw [e88] at o24
  replace o25 := Ar.sR (i := a) (j := 47) (x := some (hN h + 36)) o25
  rw [e88] at o25
  replace o26 := Ar.sR (i := a) (j := 47) (x := some (hN h + 36)) o26
  rw [e88] at o26
  replace o27 := Ar.sR (i := a) (j := 47) (x := some (hN h + 36)) o27
  rw [e88] at o27
  replace o28 := Ar.sR (i := a) (j := 47) (x := some (hN h + 36)) o28
  rw [e88] at o28
  replace o29 := Ar.sR (i := a) (j := 47) (x := some (hN h + 36)) o29
  rw [e88] at o29
  replace o30 := Ar.sR (i := a) (j := 47) (x := some (hN h + 36)) o30
  rw [e88] at o30
  replace o31 := Ar.sR (i := a) (j := 47) (x := some (hN h + 36)) o31
  rw [e88] at o31
  replace o32 := Ar.sR (i := a) (j := 47) (x := some (hN h + 36)) o32
  rw [e88] at o32
  replace o33 := Ar.sR (i := a) (j := 47) (x := some (hN h + 36)) o33
  rw [e88] at o33
  replace o34 := Ar.sR (i := a) (j := 47) (x := some (hN h + 36)) o34
  rw [e88] at o34
  replace o35 := Ar.sR (i := a) (j := 47) (x := some (hN h + 36)) o35
  rw [e88] at o35
  replace o36 := Ar.sR (i := a) (j := 47) (x := some (hN h + 36)) o36
  rw [e88] at o36
  replace hn := hn_sR (i := a) (j := 47) (x := some (hN h + 36)) hn
  rw [e88] at hn
  show Rn g mdX12_init 360 [some (.ref a)] [] H88 37 5132 none (i_Mo a h)
  refine o_aload_n (pc := 360) dX12_init_360 rfl ?_
  refine o_iconst (pc := 361) (v := 5) dX12_init_361 rfl ?_
  refine o_newaX (pc := 362) (t := 0) (N := 5) (q := hN h + 37) hn (by decide) rfl la0 dX12_init_362 (by decide) rfl (by decide) (by omega) (by decide) (by decide) (okLs_ref (Or.inl oa.1) okLs_nil) (okSt_ref (Or.inl oa.1) okSt_nil) ?_
  have o37 := Ar.madeX (h := H88) (t := 0) (n := 5) hn
  generalize e89 : hNew H88 (.inr (0, 5)) = H89
  replace oa := Ob.new (z := .inr (0, 5)) oa
  rw [e89] at oa
  replace o0 := Ar.new (z := .inr (0, 5)) o0
  rw [e89] at o0
  replace o1 := Ar.new (z := .inr (0, 5)) o1
  rw [e89] at o1
  replace o2 := Ar.new (z := .inr (0, 5)) o2
  rw [e89] at o2
  replace o3 := Ar.new (z := .inr (0, 5)) o3
  rw [e89] at o3
  replace o4 := Ar.new (z := .inr (0, 5)) o4
  rw [e89] at o4
  replace o5 := Ar.new (z := .inr (0, 5)) o5
  rw [e89] at o5
  replace o6 := Ar.new (z := .inr (0, 5)) o6
  rw [e89] at o6
  replace o7 := Ar.new (z := .inr (0, 5)) o7
  rw [e89] at o7
  replace o8 := Ar.new (z := .inr (0, 5)) o8
  rw [e89] at o8
  replace o9 := Ar.new (z := .inr (0, 5)) o9
  rw [e89] at o9
  replace o10 := Ar.new (z := .inr (0, 5)) o10
  rw [e89] at o10
  replace o11 := Ar.new (z := .inr (0, 5)) o11
  rw [e89] at o11
  replace o12 := Ar.new (z := .inr (0, 5)) o12
  rw [e89] at o12
  replace o13 := Ar.new (z := .inr (0, 5)) o13
  rw [e89] at o13
  replace o14 := Ar.new (z := .inr (0, 5)) o14
  rw [e89] at o14
  replace o15 := Ar.new (z := .inr (0, 5)) o15
  rw [e89] at o15
  replace o16 := Ar.new (z := .inr (0, 5)) o16
  rw [e89] at o16
  replace o17 := Ar.new (z := .inr (0, 5)) o17
  rw [e89] at o17
  replace o18 := Ar.new (z := .inr (0, 5)) o18
  rw [e89] at o18
  replace o19 := Ar.new (z := .inr (0, 5)) o19
  rw [e89] at o19
  replace o20 := Ar.new (z := .inr (0, 5)) o20
  rw [e89] at o20
  replace o21 := Ar.new (z := .inr (0, 5)) o21
  rw [e89] at o21
  replace o22 := Ar.new (z := .inr (0, 5)) o22
  rw [e89] at o22
  replace o23 := Ar.new (z := .inr (0, 5)) o23
  rw [e89] at o23
  replace o24 := Ar.new (z := .inr (0, 5)) o24
  rw [e89] at o24
  replace o25 := Ar.new (z := .inr (0, 5)) o25
  rw [e89] at o25
  replace o26 := Ar.new (z := .inr (0, 5)) o26
  rw [e89] at o26
  replace o27 := Ar.new (z := .inr (0, 5)) o27
  rw [e89] at o27
  replace o28 := Ar.new (z := .inr (0, 5)) o28
  rw [e89] at o28
  replace o29 := Ar.new (z := .inr (0, 5)) o29
  rw [e89] at o29
  replace o30 := Ar.new (z := .inr (0, 5)) o30
  rw [e89] at o30
  replace o31 := Ar.new (z := .inr (0, 5)) o31
  rw [e89] at o31
  replace o32 := Ar.new (z := .inr (0, 5)) o32
  rw [e89] at o32
  replace o33 := Ar.new (z := .inr (0, 5)) o33
  rw [e89] at o33
  replace o34 := Ar.new (z := .inr (0, 5)) o34
  rw [e89] at o34
  replace o35 := Ar.new (z := .inr (0, 5)) o35
  rw [e89] at o35
  replace o36 := Ar.new (z := .inr (0, 5)) o36
  rw [e89] at o36
  replace hn := hn_new (z := .inr (0, 5)) hn
  rw [e89] at hn
  rw [e89] at o37
  show Rn g mdX12_init 364 [some (.ref a)] [.ref (hN h + 37), .ref a] H89 38 5137 none (i_Mo a h)
  refine o_putRF (pc := 364) (ci := 11) (k := 48) (by decide) (by decide) rfl lgX12_127 rfl ⟨rfl, rfl⟩ dX12_init_364 oa.1 oa.2 (Or.inl o37.1) ?_
  generalize e90 : sR H89 a 48 (some (hN h + 37)) = H90
  replace oa := Ob.sR (i := a) (j := 48) (x := some (hN h + 37)) oa
  rw [e90] at oa
  replace o0 := Ar.sR (i := a) (j := 48) (x := some (hN h + 37)) o0
  rw [e90] at o0
  replace o1 := Ar.sR (i := a) (j := 48) (x := some (hN h + 37)) o1
  rw [e90] at o1
  replace o2 := Ar.sR (i := a) (j := 48) (x := some (hN h + 37)) o2
  rw [e90] at o2
  replace o3 := Ar.sR (i := a) (j := 48) (x := some (hN h + 37)) o3
  rw [e90] at o3
  replace o4 := Ar.sR (i := a) (j := 48) (x := some (hN h + 37)) o4
  rw [e90] at o4
  replace o5 := Ar.sR (i := a) (j := 48) (x := some (hN h + 37)) o5
  rw [e90] at o5
  replace o6 := Ar.sR (i := a) (j := 48) (x := some (hN h + 37)) o6
  rw [e90] at o6
  replace o7 := Ar.sR (i := a) (j := 48) (x := some (hN h + 37)) o7
  rw [e90] at o7
  replace o8 := Ar.sR (i := a) (j := 48) (x := some (hN h + 37)) o8
  rw [e90] at o8
  replace o9 := Ar.sR (i := a) (j := 48) (x := some (hN h + 37)) o9
  rw [e90] at o9
  replace o10 := Ar.sR (i := a) (j := 48) (x := some (hN h + 37)) o10
  rw [e90] at o10
  replace o11 := Ar.sR (i := a) (j := 48) (x := some (hN h + 37)) o11
  rw [e90] at o11
  replace o12 := Ar.sR (i := a) (j := 48) (x := some (hN h + 37)) o12
  rw [e90] at o12
  replace o13 := Ar.sR (i := a) (j := 48) (x := some (hN h + 37)) o13
  rw [e90] at o13
  replace o14 := Ar.sR (i := a) (j := 48) (x := some (hN h + 37)) o14
  rw [e90] at o14
  replace o15 := Ar.sR (i := a) (j := 48) (x := some (hN h + 37)) o15
  rw [e90] at o15
  replace o16 := Ar.sR (i := a) (j := 48) (x := some (hN h + 37)) o16
  rw [e90] at o16
  replace o17 := Ar.sR (i := a) (j := 48) (x := some (hN h + 37)) o17
  rw [e90] at o17
  replace o18 := Ar.sR (i := a) (j := 48) (x := some (hN h + 37)) o18
  rw [e90] at o18
  replace o19 := Ar.sR (i := a) (j := 48) (x := some (hN h + 37)) o19
  rw [e90] at o19
  replace o20 := Ar.sR (i := a) (j := 48) (x := some (hN h + 37)) o20
  rw [e90] at o20
  replace o21 := Ar.sR (i := a) (j := 48) (x := some (hN h + 37)) o21
  rw [e90] at o21
  replace o22 := Ar.sR (i := a) (j := 48) (x := some (hN h + 37)) o22
  rw [e90] at o22
  replace o23 := Ar.sR (i := a) (j := 48) (x := some (hN h + 37)) o23
  rw [e90] at o23
  replace o24 := Ar.sR (i := a) (j := 48) (x := some (hN h + 37)) o24
  rw [e90] at o24
  replace o25 := Ar.sR (i := a) (j := 48) (x := some (hN h + 37)) o25
  rw [e90] at o25
  replace o26 := Ar.sR (i := a) (j := 48) (x := some (hN h + 37)) o26
  rw [e90] at o26
  replace o27 := Ar.sR (i := a) (j := 48) (x := some (hN h + 37)) o27
  rw [e90] at o27
  replace o28 := Ar.sR (i := a) (j := 48) (x := some (hN h + 37)) o28
  rw [e90] at o28
  replace o29 := Ar.sR (i := a) (j := 48) (x := some (hN h + 37)) o29
  rw [e90] at o29
  replace o30 := Ar.sR (i := a) (j := 48) (x := some (hN h + 37)) o30
  rw [e90] at o30
  replace o31 := Ar.sR (i := a) (j := 48) (x := some (hN h + 37)) o31
  rw [e90] at o31
  replace o32 := Ar.sR (i := a) (j := 48) (x := some (hN h + 37)) o32
  rw [e90] at o32
  replace o33 := Ar.sR (i := a) (j := 48) (x := some (hN h + 37)) o33
  rw [e90] at o33
  replace o34 := Ar.sR (i := a) (j := 48) (x := some (hN h + 37)) o34
  rw [e90] at o34
  replace o35 := Ar.sR (i := a) (j := 48) (x := some (hN h + 37)) o35
  rw [e90] at o35
  replace o36 := Ar.sR (i := a) (j := 48) (x := some (hN h + 37)) o36
  rw [e90] at o36
  replace o37 := Ar.sR (i := a) (j := 48) (x := some (hN h + 37)) o37
  rw [e90] at o37
  replace hn := hn_sR (i := a) (j := 48) (x := some (hN h + 37)) hn
  rw [e90] at hn
  show Rn g mdX12_init 367 [some (.ref a)] [] H90 38 5137 none (i_Mo a h)
  refine o_aload_n (pc := 367) dX12_init_367 rfl ?_
  refine o_iconst (pc := 368) (v := 5) dX12_init_368 rfl ?_
  refine o_newaX (pc := 369) (t := 0) (N := 5) (q := hN h + 38) hn (by decide) rfl la0 dX12_init_369 (by decide) rfl (by decide) (by omega) (by decide) (by decide) (okLs_ref (Or.inl oa.1) okLs_nil) (okSt_ref (Or.inl oa.1) okSt_nil) ?_
  have o38 := Ar.madeX (h := H90) (t := 0) (n := 5) hn
  generalize e91 : hNew H90 (.inr (0, 5)) = H91
  replace oa := Ob.new (z := .inr (0, 5)) oa
  rw [e91] at oa
  replace o0 := Ar.new (z := .inr (0, 5)) o0
  rw [e91] at o0
  replace o1 := Ar.new (z := .inr (0, 5)) o1
  rw [e91] at o1
  replace o2 := Ar.new (z := .inr (0, 5)) o2
  rw [e91] at o2
  replace o3 := Ar.new (z := .inr (0, 5)) o3
  rw [e91] at o3
  replace o4 := Ar.new (z := .inr (0, 5)) o4
  rw [e91] at o4
  replace o5 := Ar.new (z := .inr (0, 5)) o5
  rw [e91] at o5
  replace o6 := Ar.new (z := .inr (0, 5)) o6
  rw [e91] at o6
  replace o7 := Ar.new (z := .inr (0, 5)) o7
  rw [e91] at o7
  replace o8 := Ar.new (z := .inr (0, 5)) o8
  rw [e91] at o8
  replace o9 := Ar.new (z := .inr (0, 5)) o9
  rw [e91] at o9
  replace o10 := Ar.new (z := .inr (0, 5)) o10
  rw [e91] at o10
  replace o11 := Ar.new (z := .inr (0, 5)) o11
  rw [e91] at o11
  replace o12 := Ar.new (z := .inr (0, 5)) o12
  rw [e91] at o12
  replace o13 := Ar.new (z := .inr (0, 5)) o13
  rw [e91] at o13
  replace o14 := Ar.new (z := .inr (0, 5)) o14
  rw [e91] at o14
  replace o15 := Ar.new (z := .inr (0, 5)) o15
  rw [e91] at o15
  replace o16 := Ar.new (z := .inr (0, 5)) o16
  rw [e91] at o16
  replace o17 := Ar.new (z := .inr (0, 5)) o17
  rw [e91] at o17
  replace o18 := Ar.new (z := .inr (0, 5)) o18
  rw [e91] at o18
  replace o19 := Ar.new (z := .inr (0, 5)) o19
  rw [e91] at o19
  replace o20 := Ar.new (z := .inr (0, 5)) o20
  rw [e91] at o20
  replace o21 := Ar.new (z := .inr (0, 5)) o21
  rw [e91] at o21
  replace o22 := Ar.new (z := .inr (0, 5)) o22
  rw [e91] at o22
  replace o23 := Ar.new (z := .inr (0, 5)) o23
  rw [e91] at o23
  replace o24 := Ar.new (z := .inr (0, 5)) o24
  rw [e91] at o24
  replace o25 := Ar.new (z := .inr (0, 5)) o25
  rw [e91] at o25
  replace o26 := Ar.new (z := .inr (0, 5)) o26
  rw [e91] at o26
  replace o27 := Ar.new (z := .inr (0, 5)) o27
  rw [e91] at o27
  replace o28 := Ar.new (z := .inr (0, 5)) o28
  rw [e91] at o28
  replace o29 := Ar.new (z := .inr (0, 5)) o29
  rw [e91] at o29
  replace o30 := Ar.new (z := .inr (0, 5)) o30
  rw [e91] at o30
  replace o31 := Ar.new (z := .inr (0, 5)) o31
  rw [e91] at o31
  replace o32 := Ar.new (z := .inr (0, 5)) o32
  rw [e91] at o32
  replace o33 := Ar.new (z := .inr (0, 5)) o33
  rw [e91] at o33
  replace o34 := Ar.new (z := .inr (0, 5)) o34
  rw [e91] at o34
  replace o35 := Ar.new (z := .inr (0, 5)) o35
  rw [e91] at o35
  replace o36 := Ar.new (z := .inr (0, 5)) o36
  rw [e91] at o36
  replace o37 := Ar.new (z := .inr (0, 5)) o37
  rw [e91] at o37
  replace hn := hn_new (z := .inr (0, 5)) hn
  rw [e91] at hn
  rw [e91] at o38
  show Rn g mdX12_init 371 [some (.ref a)] [.ref (hN h + 38), .ref a] H91 39 5142 none (i_Mo a h)
  refine o_putRF (pc := 371) (ci := 11) (k := 49) (by decide) (by decide) rfl lgX12_130 rfl ⟨rfl, rfl⟩ dX12_init_371 oa.1 oa.2 (Or.inl o38.1) ?_
  generalize e92 : sR H91 a 49 (some (hN h + 38)) = H92
  replace oa := Ob.sR (i := a) (j := 49) (x := some (hN h + 38)) oa
  rw [e92] at oa
  replace o0 := Ar.sR (i := a) (j := 49) (x := some (hN h + 38)) o0
  rw [e92] at o0
  replace o1 := Ar.sR (i := a) (j := 49) (x := some (hN h + 38)) o1
  rw [e92] at o1
  replace o2 := Ar.sR (i := a) (j := 49) (x := some (hN h + 38)) o2
  rw [e92] at o2
  replace o3 := Ar.sR (i := a) (j := 49) (x := some (hN h + 38)) o3
  rw [e92] at o3
  replace o4 := Ar.sR (i := a) (j := 49) (x := some (hN h + 38)) o4
  rw [e92] at o4
  replace o5 := Ar.sR (i := a) (j := 49) (x := some (hN h + 38)) o5
  rw [e92] at o5
  replace o6 := Ar.sR (i := a) (j := 49) (x := some (hN h + 38)) o6
  rw [e92] at o6
  replace o7 := Ar.sR (i := a) (j := 49) (x := some (hN h + 38)) o7
  rw [e92] at o7
  replace o8 := Ar.sR (i := a) (j := 49) (x := some (hN h + 38)) o8
  rw [e92] at o8
  replace o9 := Ar.sR (i := a) (j := 49) (x := some (hN h + 38)) o9
  rw [e92] at o9
  replace o10 := Ar.sR (i := a) (j := 49) (x := some (hN h + 38)) o10
  rw [e92] at o10
  replace o11 := Ar.sR (i := a) (j := 49) (x := some (hN h + 38)) o11
  rw [e92] at o11
  replace o12 := Ar.sR (i := a) (j := 49) (x := some (hN h + 38)) o12
  rw [e92] at o12
  replace o13 := Ar.sR (i := a) (j := 49) (x := some (hN h + 38)) o13
  rw [e92] at o13
  replace o14 := Ar.sR (i := a) (j := 49) (x := some (hN h + 38)) o14
  rw [e92] at o14
  replace o15 := Ar.sR (i := a) (j := 49) (x := some (hN h + 38)) o15
  rw [e92] at o15
  replace o16 := Ar.sR (i := a) (j := 49) (x := some (hN h + 38)) o16
  rw [e92] at o16
  replace o17 := Ar.sR (i := a) (j := 49) (x := some (hN h + 38)) o17
  rw [e92] at o17
  replace o18 := Ar.sR (i := a) (j := 49) (x := some (hN h + 38)) o18
  rw [e92] at o18
  replace o19 := Ar.sR (i := a) (j := 49) (x := some (hN h + 38)) o19
  rw [e92] at o19
  replace o20 := Ar.sR (i := a) (j := 49) (x := some (hN h + 38)) o20
  rw [e92] at o20
  replace o21 := Ar.sR (i := a) (j := 49) (x := some (hN h + 38)) o21
  rw [e92] at o21
  replace o22 := Ar.sR (i := a) (j := 49) (x := some (hN h + 38)) o22
  rw [e92] at o22
  replace o23 := Ar.sR (i := a) (j := 49) (x := some (hN h + 38)) o23
  rw [e92] at o23
  replace o24 := Ar.sR (i := a) (j := 49) (x := some (hN h + 38)) o24
  rw [e92] at o24
  replace o25 := Ar.sR (i := a) (j := 49) (x := some (hN h + 38)) o25
  rw [e92] at o25
  replace o26 := Ar.sR (i := a) (j := 49) (x := some (hN h + 38)) o26
  rw [e92] at o26
  replace o27 := Ar.sR (i := a) (j := 49) (x := some (hN h + 38)) o27
  rw [e92] at o27
  replace o28 := Ar.sR (i := a) (j := 49) (x := some (hN h + 38)) o28
  rw [e92] at o28
  replace o29 := Ar.sR (i := a) (j := 49) (x := some (hN h + 38)) o29
  rw [e92] at o29
  replace o30 := Ar.sR (i := a) (j := 49) (x := some (hN h + 38)) o30
  rw [e92] at o30
  replace o31 := Ar.sR (i := a) (j := 49) (x := some (hN h + 38)) o31
  rw [e92] at o31
  replace o32 := Ar.sR (i := a) (j := 49) (x := some (hN h + 38)) o32
  rw [e92] at o32
  replace o33 := Ar.sR (i := a) (j := 49) (x := some (hN h + 38)) o33
  rw [e92] at o33
  replace o34 := Ar.sR (i := a) (j := 49) (x := some (hN h + 38)) o34
  rw [e92] at o34
  replace o35 := Ar.sR (i := a) (j := 49) (x := some (hN h + 38)) o35
  rw [e92] at o35
  replace o36 := Ar.sR (i := a) (j := 49) (x := some (hN h + 38)) o36
  rw [e92] at o36
  replace o37 := Ar.sR (i := a) (j := 49) (x := some (hN h + 38)) o37
  rw [e92] at o37
  replace o38 := Ar.sR (i := a) (j := 49) (x := some (hN h + 38)) o38
  rw [e92] at o38
  replace hn := hn_sR (i := a) (j := 49) (x := some (hN h + 38)) hn
  rw [e92] at hn
  show Rn g mdX12_init 374 [some (.ref a)] [] H92 39 5142 none (i_Mo a h)
  refine o_aload_n (pc := 374) dX12_init_374 rfl ?_
  refine o_bipush (pc := 375) (v := 8) dX12_init_375 rfl ?_
  refine o_newaX (pc := 377) (t := 0) (N := 8) (q := hN h + 39) hn (by decide) rfl la0 dX12_init_377 (by decide) rfl (by decide) (by omega) (by decide) (by decide) (okLs_ref (Or.inl oa.1) okLs_nil) (okSt_ref (Or.inl oa.1) okSt_nil) ?_
  have o39 := Ar.madeX (h := H92) (t := 0) (n := 8) hn
  generalize e93 : hNew H92 (.inr (0, 8)) = H93
  replace oa := Ob.new (z := .inr (0, 8)) oa
  rw [e93] at oa
  replace o0 := Ar.new (z := .inr (0, 8)) o0
  rw [e93] at o0
  replace o1 := Ar.new (z := .inr (0, 8)) o1
  rw [e93] at o1
  replace o2 := Ar.new (z := .inr (0, 8)) o2
  rw [e93] at o2
  replace o3 := Ar.new (z := .inr (0, 8)) o3
  rw [e93] at o3
  replace o4 := Ar.new (z := .inr (0, 8)) o4
  rw [e93] at o4
  replace o5 := Ar.new (z := .inr (0, 8)) o5
  rw [e93] at o5
  replace o6 := Ar.new (z := .inr (0, 8)) o6
  rw [e93] at o6
  replace o7 := Ar.new (z := .inr (0, 8)) o7
  rw [e93] at o7
  replace o8 := Ar.new (z := .inr (0, 8)) o8
  rw [e93] at o8
  replace o9 := Ar.new (z := .inr (0, 8)) o9
  rw [e93] at o9
  replace o10 := Ar.new (z := .inr (0, 8)) o10
  rw [e93] at o10
  replace o11 := Ar.new (z := .inr (0, 8)) o11
  rw [e93] at o11
  replace o12 := Ar.new (z := .inr (0, 8)) o12
  rw [e93] at o12
  replace o13 := Ar.new (z := .inr (0, 8)) o13
  rw [e93] at o13
  replace o14 := Ar.new (z := .inr (0, 8)) o14
  rw [e93] at o14
  replace o15 := Ar.new (z := .inr (0, 8)) o15
  rw [e93] at o15
  replace o16 := Ar.new (z := .inr (0, 8)) o16
  rw [e93] at o16
  replace o17 := Ar.new (z := .inr (0, 8)) o17
  rw [e93] at o17
  replace o18 := Ar.new (z := .inr (0, 8)) o18
  rw [e93] at o18
  replace o19 := Ar.new (z := .inr (0, 8)) o19
  rw [e93] at o19
  replace o20 := Ar.new (z := .inr (0, 8)) o20
  rw [e93] at o20
  replace o21 := Ar.new (z := .inr (0, 8)) o21
  rw [e93] at o21
  replace o22 := Ar.new (z := .inr (0, 8)) o22
  rw [e93] at o22
  replace o23 := Ar.new (z := .inr (0, 8)) o23
  rw [e93] at o23
  replace o24 := Ar.new (z := .inr (0, 8)) o24
  rw [e93] at o24
  replace o25 := Ar.new (z := .inr (0, 8)) o25
  rw [e93] at o25
  replace o26 := Ar.new (z := .inr (0, 8)) o26
  rw [e93] at o26
  replace o27 := Ar.new (z := .inr (0, 8)) o27
  rw [e93] at o27
  replace o28 := Ar.new (z := .inr (0, 8)) o28
  rw [e93] at o28
  replace o29 := Ar.new (z := .inr (0, 8)) o29
  rw [e93] at o29
  replace o30 := Ar.new (z := .inr (0, 8)) o30
  rw [e93] at o30
  replace o31 := Ar.new (z := .inr (0, 8)) o31
  rw [e93] at o31
  replace o32 := Ar.new (z := .inr (0, 8)) o32
  rw [e93] at o32
  replace o33 := Ar.new (z := .inr (0, 8)) o33
  rw [e93] at o33
  replace o34 := Ar.new (z := .inr (0, 8)) o34
  rw [e93] at o34
  replace o35 := Ar.new (z := .inr (0, 8)) o35
  rw [e93] at o35
  replace o36 := Ar.new (z := .inr (0, 8)) o36
  rw [e93] at o36
  replace o37 := Ar.new (z := .inr (0, 8)) o37
  rw [e93] at o37
  replace o38 := Ar.new (z := .inr (0, 8)) o38
  rw [e93] at o38
  replace hn := hn_new (z := .inr (0, 8)) hn
  rw [e93] at hn
  rw [e93] at o39
  show Rn g mdX12_init 379 [some (.ref a)] [.ref (hN h + 39), .ref a] H93 40 5150 none (i_Mo a h)
  refine o_putRF (pc := 379) (ci := 11) (k := 50) (by decide) (by decide) rfl lgX12_133 rfl ⟨rfl, rfl⟩ dX12_init_379 oa.1 oa.2 (Or.inl o39.1) ?_
  generalize e94 : sR H93 a 50 (some (hN h + 39)) = H94
  replace oa := Ob.sR (i := a) (j := 50) (x := some (hN h + 39)) oa
  rw [e94] at oa
  replace o0 := Ar.sR (i := a) (j := 50) (x := some (hN h + 39)) o0
  rw [e94] at o0
  replace o1 := Ar.sR (i := a) (j := 50) (x := some (hN h + 39)) o1
  rw [e94] at o1
  replace o2 := Ar.sR (i := a) (j := 50) (x := some (hN h + 39)) o2
  rw [e94] at o2
  replace o3 := Ar.sR (i := a) (j := 50) (x := some (hN h + 39)) o3
  rw [e94] at o3
  replace o4 := Ar.sR (i := a) (j := 50) (x := some (hN h + 39)) o4
  rw [e94] at o4
  replace o5 := Ar.sR (i := a) (j := 50) (x := some (hN h + 39)) o5
  rw [e94] at o5
  replace o6 := Ar.sR (i := a) (j := 50) (x := some (hN h + 39)) o6
  rw [e94] at o6
  replace o7 := Ar.sR (i := a) (j := 50) (x := some (hN h + 39)) o7
  rw [e94] at o7
  replace o8 := Ar.sR (i := a) (j := 50) (x := some (hN h + 39)) o8
  rw [e94] at o8
  replace o9 := Ar.sR (i := a) (j := 50) (x := some (hN h + 39)) o9
  rw [e94] at o9
  replace o10 := Ar.sR (i := a) (j := 50) (x := some (hN h + 39)) o10
  rw [e94] at o10
  replace o11 := Ar.sR (i := a) (j := 50) (x := some (hN h + 39)) o11
  rw [e94] at o11
  replace o12 := Ar.sR (i := a) (j := 50) (x := some (hN h + 39)) o12
  rw [e94] at o12
  replace o13 := Ar.sR (i := a) (j := 50) (x := some (hN h + 39)) o13
  rw [e94] at o13
  replace o14 := Ar.sR (i := a) (j := 50) (x := some (hN h + 39)) o14
  rw [e94] at o14
  replace o15 := Ar.sR (i := a) (j := 50) (x := some (hN h + 39)) o15
  rw [e94] at o15
  replace o16 := Ar.sR (i := a) (j := 50) (x := some (hN h + 39)) o16
  rw [e94] at o16
  replace o17 := Ar.sR (i := a) (j := 50) (x := some (hN h + 39)) o17
  rw [e94] at o17
  replace o18 := Ar.sR (i := a) (j := 50) (x := some (hN h + 39)) o18
  rw [e94] at o18
  replace o19 := Ar.sR (i := a) (j := 50) (x := some (hN h + 39)) o19
  rw [e94] at o19
  replace o20 := Ar.sR (i := a) (j := 50) (x := some (hN h + 39)) o20
  rw [e94] at o20
  replace o21 := Ar.sR (i := a) (j := 50) (x := some (hN h + 39)) o21
  rw [e94] at o21
  replace o22 := Ar.sR (i := a) (j := 50) (x := some (hN h + 39)) o22
  rw [e94] at o22
  replace o23 := Ar.sR (i := a) (j := 50) (x := some (hN h + 39)) o23
  rw [e94] at o23
  replace o24 := Ar.sR (i := a) (j := 50) (x := some (hN h + 39)) o24
  rw [e94] at o24
  replace o25 := Ar.sR (i := a) (j := 50) (x := some (hN h + 39)) o25
  rw [e94] at o25
  replace o26 := Ar.sR (i := a) (j := 50) (x := some (hN h + 39)) o26
  rw [e94] at o26
  replace o27 := Ar.sR (i := a) (j := 50) (x := some (hN h + 39)) o27
  rw [e94] at o27
  replace o28 := Ar.sR (i := a) (j := 50) (x := some (hN h + 39)) o28
  rw [e94] at o28
  replace o29 := Ar.sR (i := a) (j := 50) (x := some (hN h + 39)) o29
  rw [e94] at o29
  replace o30 := Ar.sR (i := a) (j := 50) (x := some (hN h + 39)) o30
  rw [e94] at o30
  replace o31 := Ar.sR (i := a) (j := 50) (x := some (hN h + 39)) o31
  rw [e94] at o31
  replace o32 := Ar.sR (i := a) (j := 50) (x := some (hN h + 39)) o32
  rw [e94] at o32
  replace o33 := Ar.sR (i := a) (j := 50) (x := some (hN h + 39)) o33
  rw [e94] at o33
  replace o34 := Ar.sR (i := a) (j := 50) (x := some (hN h + 39)) o34
  rw [e94] at o34
  replace o35 := Ar.sR (i := a) (j := 50) (x := some (hN h + 39)) o35
  rw [e94] at o35
  replace o36 := Ar.sR (i := a) (j := 50) (x := some (hN h + 39)) o36
  rw [e94] at o36
  replace o37 := Ar.sR (i := a) (j := 50) (x := some (hN h + 39)) o37
  rw [e94] at o37
  replace o38 := Ar.sR (i := a) (j := 50) (x := some (hN h + 39)) o38
  rw [e94] at o38
  replace o39 := Ar.sR (i := a) (j := 50) (x := some (hN h + 39)) o39
  rw [e94] at o39
  replace hn := hn_sR (i := a) (j := 50) (x := some (hN h + 39)) hn
  rw [e94] at hn
  show Rn g mdX12_init 382 [some (.ref a)] [] H94 40 5150 none (i_Mo a h)
  refine o_aload_n (pc := 382) dX12_init_382 rfl ?_
  refine o_bipush (pc := 383) (v := 8) dX12_init_383 rfl ?_
  refine o_newaX (pc := 385) (t := 0) (N := 8) (q := hN h + 40) hn (by decide) rfl la0 dX12_init_385 (by decide) rfl (by decide) (by omega) (by decide) (by decide) (okLs_ref (Or.inl oa.1) okLs_nil) (okSt_ref (Or.inl oa.1) okSt_nil) ?_
  have o40 := Ar.madeX (h := H94) (t := 0) (n := 8) hn
  generalize e95 : hNew H94 (.inr (0, 8)) = H95
  replace oa := Ob.new (z := .inr (0, 8)) oa
  rw [e95] at oa
  replace o0 := Ar.new (z := .inr (0, 8)) o0
  rw [e95] at o0
  replace o1 := Ar.new (z := .inr (0, 8)) o1
  rw [e95] at o1
  replace o2 := Ar.new (z := .inr (0, 8)) o2
  rw [e95] at o2
  replace o3 := Ar.new (z := .inr (0, 8)) o3
  rw [e95] at o3
  replace o4 := Ar.new (z := .inr (0, 8)) o4
  rw [e95] at o4
  replace o5 := Ar.new (z := .inr (0, 8)) o5
  rw [e95] at o5
  replace o6 := Ar.new (z := .inr (0, 8)) o6
  rw [e95] at o6
  replace o7 := Ar.new (z := .inr (0, 8)) o7
  rw [e95] at o7
  replace o8 := Ar.new (z := .inr (0, 8)) o8
  rw [e95] at o8
  replace o9 := Ar.new (z := .inr (0, 8)) o9
  rw [e95] at o9
  replace o10 := Ar.new (z := .inr (0, 8)) o10
  rw [e95] at o10
  replace o11 := Ar.new (z := .inr (0, 8)) o11
  rw [e95] at o11
  replace o12 := Ar.new (z := .inr (0, 8)) o12
  rw [e95] at o12
  replace o13 := Ar.new (z := .inr (0, 8)) o13
  rw [e95] at o13
  replace o14 := Ar.new (z := .inr (0, 8)) o14
  rw [e95] at o14
  replace o15 := Ar.new (z := .inr (0, 8)) o15
  rw [e95] at o15
  replace o16 := Ar.new (z := .inr (0, 8)) o16
  rw [e95] at o16
  replace o17 := Ar.new (z := .inr (0, 8)) o17
  rw [e95] at o17
  replace o18 := Ar.new (z := .inr (0, 8)) o18
  rw [e95] at o18
  replace o19 := Ar.new (z := .inr (0, 8)) o19
  rw [e95] at o19
  replace o20 := Ar.new (z := .inr (0, 8)) o20
  rw [e95] at o20
  replace o21 := Ar.new (z := .inr (0, 8)) o21
  rw [e95] at o21
  replace o22 := Ar.new (z := .inr (0, 8)) o22
  rw [e95] at o22
  replace o23 := Ar.new (z := .inr (0, 8)) o23
  rw [e95] at o23
  replace o24 := Ar.new (z := .inr (0, 8)) o24
  rw [e95] at o24
  replace o25 := Ar.new (z := .inr (0, 8)) o25
  rw [e95] at o25
  replace o26 := Ar.new (z := .inr (0, 8)) o26
  rw [e95] at o26
  replace o27 := Ar.new (z := .inr (0, 8)) o27
  rw [e95] at o27
  replace o28 := Ar.new (z := .inr (0, 8)) o28
  rw [e95] at o28
  replace o29 := Ar.new (z := .inr (0, 8)) o29
  rw [e95] at o29
  replace o30 := Ar.new (z := .inr (0, 8)) o30
  rw [e95] at o30
  replace o31 := Ar.new (z := .inr (0, 8)) o31
  rw [e95] at o31
  replace o32 := Ar.new (z := .inr (0, 8)) o32
  rw [e95] at o32
  replace o33 := Ar.new (z := .inr (0, 8)) o33
  rw [e95] at o33
  replace o34 := Ar.new (z := .inr (0, 8)) o34
  rw [e95] at o34
  replace o35 := Ar.new (z := .inr (0, 8)) o35
  rw [e95] at o35
  replace o36 := Ar.new (z := .inr (0, 8)) o36
  rw [e95] at o36
  replace o37 := Ar.new (z := .inr (0, 8)) o37
  rw [e95] at o37
  replace o38 := Ar.new (z := .inr (0, 8)) o38
  rw [e95] at o38
  replace o39 := Ar.new (z := .inr (0, 8)) o39
  rw [e95] at o39
  replace hn := hn_new (z := .inr (0, 8)) hn
  rw [e95] at hn
  rw [e95] at o40
  show Rn g mdX12_init 387 [some (.ref a)] [.ref (hN h + 40), .ref a] H95 41 5158 none (i_Mo a h)
  refine o_putRF (pc := 387) (ci := 11) (k := 51) (by decide) (by decide) rfl lgX12_136 rfl ⟨rfl, rfl⟩ dX12_init_387 oa.1 oa.2 (Or.inl o40.1) ?_
  generalize e96 : sR H95 a 51 (some (hN h + 40)) = H96
  replace oa := Ob.sR (i := a) (j := 51) (x := some (hN h + 40)) oa
  rw [e96] at oa
  replace o0 := Ar.sR (i := a) (j := 51) (x := some (hN h + 40)) o0
  rw [e96] at o0
  replace o1 := Ar.sR (i := a) (j := 51) (x := some (hN h + 40)) o1
  rw [e96] at o1
  replace o2 := Ar.sR (i := a) (j := 51) (x := some (hN h + 40)) o2
  rw [e96] at o2
  replace o3 := Ar.sR (i := a) (j := 51) (x := some (hN h + 40)) o3
  rw [e96] at o3
  replace o4 := Ar.sR (i := a) (j := 51) (x := some (hN h + 40)) o4
  rw [e96] at o4
  replace o5 := Ar.sR (i := a) (j := 51) (x := some (hN h + 40)) o5
  rw [e96] at o5
  replace o6 := Ar.sR (i := a) (j := 51) (x := some (hN h + 40)) o6
  rw [e96] at o6
  replace o7 := Ar.sR (i := a) (j := 51) (x := some (hN h + 40)) o7
  rw [e96] at o7
  replace o8 := Ar.sR (i := a) (j := 51) (x := some (hN h + 40)) o8
  rw [e96] at o8
  replace o9 := Ar.sR (i := a) (j := 51) (x := some (hN h + 40)) o9
  rw [e96] at o9
  replace o10 := Ar.sR (i := a) (j := 51) (x := some (hN h + 40)) o10
  rw [e96] at o10
  replace o11 := Ar.sR (i := a) (j := 51) (x := some (hN h + 40)) o11
  rw [e96] at o11
  replace o12 := Ar.sR (i := a) (j := 51) (x := some (hN h + 40)) o12
  rw [e96] at o12
  replace o13 := Ar.sR (i := a) (j := 51) (x := some (hN h + 40)) o13
  rw [e96] at o13
  replace o14 := Ar.sR (i := a) (j := 51) (x := some (hN h + 40)) o14
  rw [e96] at o14
  replace o15 := Ar.sR (i := a) (j := 51) (x := some (hN h + 40)) o15
  rw [e96] at o15
  replace o16 := Ar.sR (i := a) (j := 51) (x := some (hN h + 40)) o16
  rw [e96] at o16
  replace o17 := Ar.sR (i := a) (j := 51) (x := some (hN h + 40)) o17
  rw [e96] at o17
  replace o18 := Ar.sR (i := a) (j := 51) (x := some (hN h + 40)) o18
  rw [e96] at o18
  replace o19 := Ar.sR (i := a) (j := 51) (x := some (hN h + 40)) o19
  rw [e96] at o19
  replace o20 := Ar.sR (i := a) (j := 51) (x := some (hN h + 40)) o20
  rw [e96] at o20
  replace o21 := Ar.sR (i := a) (j := 51) (x := some (hN h + 40)) o21
  rw [e96] at o21
  replace o22 := Ar.sR (i := a) (j := 51) (x := some (hN h + 40)) o22
  rw [e96] at o22
  replace o23 := Ar.sR (i := a) (j := 51) (x := some (hN h + 40)) o23
  rw [e96] at o23
  replace o24 := Ar.sR (i := a) (j := 51) (x := some (hN h + 40)) o24
  rw [e96] at o24
  replace o25 := Ar.sR (i := a) (j := 51) (x := some (hN h + 40)) o25
  rw [e96] at o25
  replace o26 := Ar.sR (i := a) (j := 51) (x := some (hN h + 40)) o26
  rw [e96] at o26
  replace o27 := Ar.sR (i := a) (j := 51) (x := some (hN h + 40)) o27
  rw [e96] at o27
  replace o28 := Ar.sR (i := a) (j := 51) (x := some (hN h + 40)) o28
  rw [e96] at o28
  replace o29 := Ar.sR (i := a) (j := 51) (x := some (hN h + 40)) o29
  rw [e96] at o29
  replace o30 := Ar.sR (i := a) (j := 51) (x := some (hN h + 40)) o30
  rw [e96] at o30
  replace o31 := Ar.sR (i := a) (j := 51) (x := some (hN h + 40)) o31
  rw [e96] at o31
  replace o32 := Ar.sR (i := a) (j := 51) (x := some (hN h + 40)) o32
  rw [e96] at o32
  replace o33 := Ar.sR (i := a) (j := 51) (x := some (hN h + 40)) o33
  rw [e96] at o33
  replace o34 := Ar.sR (i := a) (j := 51) (x := some (hN h + 40)) o34
  rw [e96] at o34
  replace o35 := Ar.sR (i := a) (j := 51) (x := some (hN h + 40)) o35
  rw [e96] at o35
  replace o36 := Ar.sR (i := a) (j := 51) (x := some (hN h + 40)) o36
  rw [e96] at o36
  replace o37 := Ar.sR (i := a) (j := 51) (x := some (hN h + 40)) o37
  rw [e96] at o37
  replace o38 := Ar.sR (i := a) (j := 51) (x := some (hN h + 40)) o38
  rw [e96] at o38
  replace o39 := Ar.sR (i := a) (j := 51) (x := some (hN h + 40)) o39
  rw [e96] at o39
  replace o40 := Ar.sR (i := a) (j := 51) (x := some (hN h + 40)) o40
  rw [e96] at o40
  replace hn := hn_sR (i := a) (j := 51) (x := some (hN h + 40)) hn
  rw [e96] at hn
  show Rn g mdX12_init 390 [some (.ref a)] [] H96 41 5158 none (i_Mo a h)
  refine o_aload_n (pc := 390) dX12_init_390 rfl ?_
  refine o_bipush (pc := 391) (v := 8) dX12_init_391 rfl ?_
  refine o_newaX (pc := 393) (t := 0) (N := 8) (q := hN h + 41) hn (by decide) rfl la0 dX12_init_393 (by decide) rfl (by decide) (by omega) (by decide) (by decide) (okLs_ref (Or.inl oa.1) okLs_nil) (okSt_ref (Or.inl oa.1) okSt_nil) ?_
  have o41 := Ar.madeX (h := H96) (t := 0) (n := 8) hn
  generalize e97 : hNew H96 (.inr (0, 8)) = H97
  replace oa := Ob.new (z := .inr (0, 8)) oa
  rw [e97] at oa
  replace o0 := Ar.new (z := .inr (0, 8)) o0
  rw [e97] at o0
  replace o1 := Ar.new (z := .inr (0, 8)) o1
  rw [e97] at o1
  replace o2 := Ar.new (z := .inr (0, 8)) o2
  rw [e97] at o2
  replace o3 := Ar.new (z := .inr (0, 8)) o3
  rw [e97] at o3
  replace o4 := Ar.new (z := .inr (0, 8)) o4
  rw [e97] at o4
  replace o5 := Ar.new (z := .inr (0, 8)) o5
  rw [e97] at o5
  replace o6 := Ar.new (z := .inr (0, 8)) o6
  rw [e97] at o6
  replace o7 := Ar.new (z := .inr (0, 8)) o7
  rw [e97] at o7
  replace o8 := Ar.new (z := .inr (0, 8)) o8
  rw [e97] at o8
  replace o9 := Ar.new (z := .inr (0, 8)) o9
  rw [e97] at o9
  replace o10 := Ar.new (z := .inr (0, 8)) o10
  rw [e97] at o10
  replace o11 := Ar.new (z := .inr (0, 8)) o11
  rw [e97] at o11
  replace o12 := Ar.new (z := .inr (0, 8)) o12
  rw [e97] at o12
  replace o13 := Ar.new (z := .inr (0, 8)) o13
  rw [e97] at o13
  replace o14 := Ar.new (z := .inr (0, 8)) o14
  rw [e97] at o14
  replace o15 := Ar.new (z := .inr (0, 8)) o15
  rw [e97] at o15
  replace o16 := Ar.new (z := .inr (0, 8)) o16
  rw [e97] at o16
  replace o17 := Ar.new (z := .inr (0, 8)) o17
  rw [e97] at o17
  replace o18 := Ar.new (z := .inr (0, 8)) o18
  rw [e97] at o18
  replace o19 := Ar.new (z := .inr (0, 8)) o19
  rw [e97] at o19
  replace o20 := Ar.new (z := .inr (0, 8)) o20
  rw [e97] at o20
  replace o21 := Ar.new (z := .inr (0, 8)) o21
  rw [e97] at o21
  replace o22 := Ar.new (z := .inr (0, 8)) o22
  rw [e97] at o22
  replace o23 := Ar.new (z := .inr (0, 8)) o23
  rw [e97] at o23
  replace o24 := Ar.new (z := .inr (0, 8)) o24
  rw [e97] at o24
  replace o25 := Ar.new (z := .inr (0, 8)) o25
  rw [e97] at o25
  replace o26 := Ar.new (z := .inr (0, 8)) o26
  rw [e97] at o26
  replace o27 := Ar.new (z := .inr (0, 8)) o27
  rw [e97] at o27
  replace o28 := Ar.new (z := .inr (0, 8)) o28
  rw [e97] at o28
  replace o29 := Ar.new (z := .inr (0, 8)) o29
  rw [e97] at o29
  replace o30 := Ar.new (z := .inr (0, 8)) o30
  rw [e97] at o30
  replace o31 := Ar.new (z := .inr (0, 8)) o31
  rw [e97] at o31
  replace o32 := Ar.new (z := .inr (0, 8)) o32
  rw [e97] at o32
  replace o33 := Ar.new (z := .inr (0, 8)) o33
  rw [e97] at o33
  replace o34 := Ar.new (z := .inr (0, 8)) o34
  rw [e97] at o34
  replace o35 := Ar.new (z := .inr (0, 8)) o35
  rw [e97] at o35
  replace o36 := Ar.new (z := .inr (0, 8)) o36
  rw [e97] at o36
  replace o37 := Ar.new (z := .inr (0, 8)) o37
  rw [e97] at o37
  replace o38 := Ar.new (z := .inr (0, 8)) o38
  rw [e97] at o38
  replace o39 := Ar.new (z := .inr (0, 8)) o39
  rw [e97] at o39
  replace o40 := Ar.new (z := .inr (0, 8)) o40
  rw [e97] at o40
  replace hn := hn_new (z := .inr (0, 8)) hn
  rw [e97] at hn
  rw [e97] at o41
  show Rn g mdX12_init 395 [some (.ref a)] [.ref (hN h + 41), .ref a] H97 42 5166 none (i_Mo a h)
  refine o_putRF (pc := 395) (ci := 11) (k := 52) (by decide) (by decide) rfl lgX12_139 rfl ⟨rfl, rfl⟩ dX12_init_395 oa.1 oa.2 (Or.inl o41.1) ?_
  generalize e98 : sR H97 a 52 (some (hN h + 41)) = H98
  replace oa := Ob.sR (i := a) (j := 52) (x := some (hN h + 41)) oa
  rw [e98] at oa
  replace o0 := Ar.sR (i := a) (j := 52) (x := some (hN h + 41)) o0
  rw [e98] at o0
  replace o1 := Ar.sR (i := a) (j := 52) (x := some (hN h + 41)) o1
  rw [e98] at o1
  replace o2 := Ar.sR (i := a) (j := 52) (x := some (hN h + 41)) o2
  rw [e98] at o2
  replace o3 := Ar.sR (i := a) (j := 52) (x := some (hN h + 41)) o3
  rw [e98] at o3
  replace o4 := Ar.sR (i := a) (j := 52) (x := some (hN h + 41)) o4
  rw [e98] at o4
  replace o5 := Ar.sR (i := a) (j := 52) (x := some (hN h + 41)) o5
  rw [e98] at o5
  replace o6 := Ar.sR (i := a) (j := 52) (x := some (hN h + 41)) o6
  rw [e98] at o6
  replace o7 := Ar.sR (i := a) (j := 52) (x := some (hN h + 41)) o7
  rw [e98] at o7
  replace o8 := Ar.sR (i := a) (j := 52) (x := some (hN h + 41)) o8
  rw [e98] at o8
  replace o9 := Ar.sR (i := a) (j := 52) (x := some (hN h + 41)) o9
  rw [e98] at o9
  replace o10 := Ar.sR (i := a) (j := 52) (x := some (hN h + 41)) o10
  rw [e98] at o10
  replace o11 := Ar.sR (i := a) (j := 52) (x := some (hN h + 41)) o11
  rw [e98] at o11
  replace o12 := Ar.sR (i := a) (j := 52) (x := some (hN h + 41)) o12
  rw [e98] at o12
  replace o13 := Ar.sR (i := a) (j := 52) (x := some (hN h + 41)) o13
  rw [e98] at o13
  replace o14 := Ar.sR (i := a) (j := 52) (x := some (hN h + 41)) o14
  rw [e98] at o14
  replace o15 := Ar.sR (i := a) (j := 52) (x := some (hN h + 41)) o15
  rw [e98] at o15
  replace o16 := Ar.sR (i := a) (j := 52) (x := some (hN h + 41)) o16
  rw [e98] at o16
  replace o17 := Ar.sR (i := a) (j := 52) (x := some (hN h + 41)) o17
  rw [e98] at o17
  replace o18 := Ar.sR (i := a) (j := 52) (x := some (hN h + 41)) o18
  rw [e98] at o18
  replace o19 := Ar.sR (i := a) (j := 52) (x := some (hN h + 41)) o19
  rw [e98] at o19
  replace o20 := Ar.sR (i := a) (j := 52) (x := some (hN h + 41)) o20
  rw [e98] at o20
  replace o21 := Ar.sR (i := a) (j := 52) (x := some (hN h + 41)) o21
  rw [e98] at o21
  replace o22 := Ar.sR (i := a) (j := 52) (x := some (hN h + 41)) o22
  rw [e98] at o22
  replace o23 := Ar.sR (i := a) (j := 52) (x := some (hN h + 41)) o23
  rw [e98] at o23
  replace o24 := Ar.sR (i := a) (j := 52) (x := some (hN h + 41)) o24
  rw [e98] at o24
  replace o25 := Ar.sR (i := a) (j := 52) (x := some (hN h + 41)) o25
  rw [e98] at o25
  replace o26 := Ar.sR (i := a) (j := 52) (x := some (hN h + 41)) o26
  rw [e98] at o26
  replace o27 := Ar.sR (i := a) (j := 52) (x := some (hN h + 41)) o27
  rw [e98] at o27
  replace o28 := Ar.sR (i := a) (j := 52) (x := some (hN h + 41)) o28
  rw [e98] at o28
  replace o29 := Ar.sR (i := a) (j := 52) (x := some (hN h + 41)) o29
  rw [e98] at o29
  replace o30 := Ar.sR (i := a) (j := 52) (x := some (hN h + 41)) o30
  rw [e98] at o30
  replace o31 := Ar.sR (i := a) (j := 52) (x := some (hN h + 41)) o31
  rw [e98] at o31
  replace o32 := Ar.sR (i := a) (j := 52) (x := some (hN h + 41)) o32
  rw [e98] at o32
  replace o33 := Ar.sR (i := a) (j := 52) (x := some (hN h + 41)) o33
  rw [e98] at o33
  replace o34 := Ar.sR (i := a) (j := 52) (x := some (hN h + 41)) o34
  rw [e98] at o34
  replace o35 := Ar.sR (i := a) (j := 52) (x := some (hN h + 41)) o35
  rw [e98] at o35
  replace o36 := Ar.sR (i := a) (j := 52) (x := some (hN h + 41)) o36
  rw [e98] at o36
  replace o37 := Ar.sR (i := a) (j := 52) (x := some (hN h + 41)) o37
  rw [e98] at o37
  replace o38 := Ar.sR (i := a) (j := 52) (x := some (hN h + 41)) o38
  rw [e98] at o38
  replace o39 := Ar.sR (i := a) (j := 52) (x := some (hN h + 41)) o39
  rw [e98] at o39
  replace o40 := Ar.sR (i := a) (j := 52) (x := some (hN h + 41)) o40
  rw [e98] at o40
  replace o41 := Ar.sR (i := a) (j := 52) (x := some (hN h + 41)) o41
  rw [e98] at o41
  replace hn := hn_sR (i := a) (j := 52) (x := some (hN h + 41)) hn
  rw [e98] at hn
  show Rn g mdX12_init 398 [some (.ref a)] [] H98 42 5166 none (i_Mo a h)
  refine o_aload_n (pc := 398) dX12_init_398 rfl ?_
  refine o_bipush (pc := 399) (v := 8) dX12_init_399 rfl ?_
  refine o_newaX (pc := 401) (t := 0) (N := 8) (q := hN h + 42) hn (by decide) rfl la0 dX12_init_401 (by decide) rfl (by decide) (by omega) (by decide) (by decide) (okLs_ref (Or.inl oa.1) okLs_nil) (okSt_ref (Or.inl oa.1) okSt_nil) ?_
  have o42 := Ar.madeX (h := H98) (t := 0) (n := 8) hn
  generalize e99 : hNew H98 (.inr (0, 8)) = H99
  replace oa := Ob.new (z := .inr (0, 8)) oa
  rw [e99] at oa
  replace o0 := Ar.new (z := .inr (0, 8)) o0
  rw [e99] at o0
  replace o1 := Ar.new (z := .inr (0, 8)) o1
  rw [e99] at o1
  replace o2 := Ar.new (z := .inr (0, 8)) o2
  rw [e99] at o2
  replace o3 := Ar.new (z := .inr (0, 8)) o3
  rw [e99] at o3
  replace o4 := Ar.new (z := .inr (0, 8)) o4
  rw [e99] at o4
  replace o5 := Ar.new (z := .inr (0, 8)) o5
  rw [e99] at o5
  replace o6 := Ar.new (z := .inr (0, 8)) o6
  rw [e99] at o6
  replace o7 := Ar.new (z := .inr (0, 8)) o7
  rw [e99] at o7
  replace o8 := Ar.new (z := .inr (0, 8)) o8
  rw [e99] at o8
  replace o9 := Ar.new (z := .inr (0, 8)) o9
  rw [e99] at o9
  replace o10 := Ar.new (z := .inr (0, 8)) o10
  rw [e99] at o10
  replace o11 := Ar.new (z := .inr (0, 8)) o11
  rw [e99] at o11
  replace o12 := Ar.new (z := .inr (0, 8)) o12
  rw [e99] at o12
  replace o13 := Ar.new (z := .inr (0, 8)) o13
  rw [e99] at o13
  replace o14 := Ar.new (z := .inr (0, 8)) o14
  rw [e99] at o14
  replace o15 := Ar.new (z := .inr (0, 8)) o15
  rw [e99] at o15
  replace o16 := Ar.new (z := .inr (0, 8)) o16
  rw [e99] at o16
  replace o17 := Ar.new (z := .inr (0, 8)) o17
  rw [e99] at o17
  replace o18 := Ar.new (z := .inr (0, 8)) o18
  rw [e99] at o18
  replace o19 := Ar.new (z := .inr (0, 8)) o19
  rw [e99] at o19
  replace o20 := Ar.new (z := .inr (0, 8)) o20
  rw [e99] at o20
  replace o21 := Ar.new (z := .inr (0, 8)) o21
  rw [e99] at o21
  replace o22 := Ar.new (z := .inr (0, 8)) o22
  rw [e99] at o22
  replace o23 := Ar.new (z := .inr (0, 8)) o23
  rw [e99] at o23
  replace o24 := Ar.new (z := .inr (0, 8)) o24
  rw [e99] at o24
  replace o25 := Ar.new (z := .inr (0, 8)) o25
  rw [e99] at o25
  replace o26 := Ar.new (z := .inr (0, 8)) o26
  rw [e99] at o26
  replace o27 := Ar.new (z := .inr (0, 8)) o27
  rw [e99] at o27
  replace o28 := Ar.new (z := .inr (0, 8)) o28
  rw [e99] at o28
  replace o29 := Ar.new (z := .inr (0, 8)) o29
  rw [e99] at o29
  replace o30 := Ar.new (z := .inr (0, 8)) o30
  rw [e99] at o30
  replace o31 := Ar.new (z := .inr (0, 8)) o31
  rw [e99] at o31
  replace o32 := Ar.new (z := .inr (0, 8)) o32
  rw [e99] at o32
  replace o33 := Ar.new (z := .inr (0, 8)) o33
  rw [e99] at o33
  replace o34 := Ar.new (z := .inr (0, 8)) o34
  rw [e99] at o34
  replace o35 := Ar.new (z := .inr (0, 8)) o35
  rw [e99] at o35
  replace o36 := Ar.new (z := .inr (0, 8)) o36
  rw [e99] at o36
  replace o37 := Ar.new (z := .inr (0, 8)) o37
  rw [e99] at o37
  replace o38 := Ar.new (z := .inr (0, 8)) o38
  rw [e99] at o38
  replace o39 := Ar.new (z := .inr (0, 8)) o39
  rw [e99] at o39
  replace o40 := Ar.new (z := .inr (0, 8)) o40
  rw [e99] at o40
  replace o41 := Ar.new (z := .inr (0, 8)) o41
  rw [e99] at o41
  replace hn := hn_new (z := .inr (0, 8)) hn
  rw [e99] at hn
  rw [e99] at o42
  show Rn g mdX12_init 403 [some (.ref a)] [.ref (hN h + 42), .ref a] H99 43 5174 none (i_Mo a h)
  refine o_putRF (pc := 403) (ci := 11) (k := 53) (by decide) (by decide) rfl lgX12_142 rfl ⟨rfl, rfl⟩ dX12_init_403 oa.1 oa.2 (Or.inl o42.1) ?_
  generalize e100 : sR H99 a 53 (some (hN h + 42)) = H100
  replace oa := Ob.sR (i := a) (j := 53) (x := some (hN h + 42)) oa
  rw [e100] at oa
  replace o0 := Ar.sR (i := a) (j := 53) (x := some (hN h + 42)) o0
  rw [e100] at o0
  replace o1 := Ar.sR (i := a) (j := 53) (x := some (hN h + 42)) o1
  rw [e100] at o1
  replace o2 := Ar.sR (i := a) (j := 53) (x := some (hN h + 42)) o2
  rw [e100] at o2
  replace o3 := Ar.sR (i := a) (j := 53) (x := some (hN h + 42)) o3
  rw [e100] at o3
  replace o4 := Ar.sR (i := a) (j := 53) (x := some (hN h + 42)) o4
  rw [e100] at o4
  replace o5 := Ar.sR (i := a) (j := 53) (x := some (hN h + 42)) o5
  rw [e100] at o5
  replace o6 := Ar.sR (i := a) (j := 53) (x := some (hN h + 42)) o6
  rw [e100] at o6
  replace o7 := Ar.sR (i := a) (j := 53) (x := some (hN h + 42)) o7
  rw [e100] at o7
  replace o8 := Ar.sR (i := a) (j := 53) (x := some (hN h + 42)) o8
  rw [e100] at o8
  replace o9 := Ar.sR (i := a) (j := 53) (x := some (hN h + 42)) o9
  rw [e100] at o9
  replace o10 := Ar.sR (i := a) (j := 53) (x := some (hN h + 42)) o10
  rw [e100] at o10
  replace o11 := Ar.sR (i := a) (j := 53) (x := some (hN h + 42)) o11
  rw [e100] at o11
  replace o12 := Ar.sR (i := a) (j := 53) (x := some (hN h + 42)) o12
  rw [e100] at o12
  replace o13 := Ar.sR (i := a) (j := 53) (x := some (hN h + 42)) o13
  rw [e100] at o13
  replace o14 := Ar.sR (i := a) (j := 53) (x := some (hN h + 42)) o14
  rw [e100] at o14
  replace o15 := Ar.sR (i := a) (j := 53) (x := some (hN h + 42)) o15
  rw [e100] at o15
  replace o16 := Ar.sR (i := a) (j := 53) (x := some (hN h + 42)) o16
  rw [e100] at o16
  replace o17 := Ar.sR (i := a) (j := 53) (x := some (hN h + 42)) o17
  rw [e100] at o17
  replace o18 := Ar.sR (i := a) (j := 53) (x := some (hN h + 42)) o18
  rw [e100] at o18
  replace o19 := Ar.sR (i := a) (j := 53) (x := some (hN h + 42)) o19
  rw [e100] at o19
  replace o20 := Ar.sR (i := a) (j := 53) (x := some (hN h + 42)) o20
  rw [e100] at o20
  replace o21 := Ar.sR (i := a) (j := 53) (x := some (hN h + 42)) o21
  rw [e100] at o21
  replace o22 := Ar.sR (i := a) (j := 53) (x := some (hN h + 42)) o22
  rw [e100] at o22
  replace o23 := Ar.sR (i := a) (j := 53) (x := some (hN h + 42)) o23
  rw [e100] at o23
  replace o24 := Ar.sR (i := a) (j := 53) (x := some (hN h + 42)) o24
  rw [e100] at o24
  replace o25 := Ar.sR (i := a) (j := 53) (x := some (hN h + 42)) o25
  rw [e100] at o25
  replace o26 := Ar.sR (i := a) (j := 53) (x := some (hN h + 42)) o26
  rw [e100] at o26
  replace o27 := Ar.sR (i := a) (j := 53) (x := some (hN h + 42)) o27
  rw [e100] at o27
  replace o28 := Ar.sR (i := a) (j := 53) (x := some (hN h + 42)) o28
  rw [e100] at o28
  replace o29 := Ar.sR (i := a) (j := 53) (x := some (hN h + 42)) o29
  rw [e100] at o29
  replace o30 := Ar.sR (i := a) (j := 53) (x := some (hN h + 42)) o30
  rw [e100] at o30
  replace o31 := Ar.sR (i := a) (j := 53) (x := some (hN h + 42)) o31
  rw [e100] at o31
  replace o32 := Ar.sR (i := a) (j := 53) (x := some (hN h + 42)) o32
  rw [e100] at o32
  replace o33 := Ar.sR (i := a) (j := 53) (x := some (hN h + 42)) o33
  rw [e100] at o33
  replace o34 := Ar.sR (i := a) (j := 53) (x := some (hN h + 42)) o34
  rw [e100] at o34
  replace o35 := Ar.sR (i := a) (j := 53) (x := some (hN h + 42)) o35
  rw [e100] at o35
  replace o36 := Ar.sR (i := a) (j := 53) (x := some (hN h + 42)) o36
  rw [e100] at o36
  replace o37 := Ar.sR (i := a) (j := 53) (x := some (hN h + 42)) o37
  rw [e100] at o37
  replace o38 := Ar.sR (i := a) (j := 53) (x := some (hN h + 42)) o38
  rw [e100] at o38
  replace o39 := Ar.sR (i := a) (j := 53) (x := some (hN h + 42)) o39
  rw [e100] at o39
  replace o40 := Ar.sR (i := a) (j := 53) (x := some (hN h + 42)) o40
  rw [e100] at o40
  replace o41 := Ar.sR (i := a) (j := 53) (x := some (hN h + 42)) o41
  rw [e100] at o41
  replace o42 := Ar.sR (i := a) (j := 53) (x := some (hN h + 42)) o42
  rw [e100] at o42
  replace hn := hn_sR (i := a) (j := 53) (x := some (hN h + 42)) hn
  rw [e100] at hn
  show Rn g mdX12_init 406 [some (.ref a)] [] H100 43 5174 none (i_Mo a h)
  refine o_aload_n (pc := 406) dX12_init_406 rfl ?_
  refine o_bipush (pc := 407) (v := 8) dX12_init_407 rfl ?_
  refine o_newaX (pc := 409) (t := 0) (N := 8) (q := hN h + 43) hn (by decide) rfl la0 dX12_init_409 (by decide) rfl (by decide) (by omega) (by decide) (by decide) (okLs_ref (Or.inl oa.1) okLs_nil) (okSt_ref (Or.inl oa.1) okSt_nil) ?_
  have o43 := Ar.madeX (h := H100) (t := 0) (n := 8) hn
  generalize e101 : hNew H100 (.inr (0, 8)) = H101
  replace oa := Ob.new (z := .inr (0, 8)) oa
  rw [e101] at oa
  replace o0 := Ar.new (z := .inr (0, 8)) o0
  rw [e101] at o0
  replace o1 := Ar.new (z := .inr (0, 8)) o1
  rw [e101] at o1
  replace o2 := Ar.new (z := .inr (0, 8)) o2
  rw [e101] at o2
  replace o3 := Ar.new (z := .inr (0, 8)) o3
  rw [e101] at o3
  replace o4 := Ar.new (z := .inr (0, 8)) o4
  rw [e101] at o4
  replace o5 := Ar.new (z := .inr (0, 8)) o5
  rw [e101] at o5
  replace o6 := Ar.new (z := .inr (0, 8)) o6
  rw [e101] at o6
  replace o7 := Ar.new (z := .inr (0, 8)) o7
  rw [e101] at o7
  replace o8 := Ar.new (z := .inr (0, 8)) o8
  rw [e101] at o8
  replace o9 := Ar.new (z := .inr (0, 8)) o9
  rw [e101] at o9
  replace o10 := Ar.new (z := .inr (0, 8)) o10
  rw [e101] at o10
  replace o11 := Ar.new (z := .inr (0, 8)) o11
  rw [e101] at o11
  replace o12 := Ar.new (z := .inr (0, 8)) o12
  rw [e101] at o12
  replace o13 := Ar.new (z := .inr (0, 8)) o13
  rw [e101] at o13
  replace o14 := Ar.new (z := .inr (0, 8)) o14
  rw [e101] at o14
  replace o15 := Ar.new (z := .inr (0, 8)) o15
  rw [e101] at o15
  replace o16 := Ar.new (z := .inr (0, 8)) o16
  rw [e101] at o16
  replace o17 := Ar.new (z := .inr (0, 8)) o17
  rw [e101] at o17
  replace o18 := Ar.new (z := .inr (0, 8)) o18
  rw [e101] at o18
  replace o19 := Ar.new (z := .inr (0, 8)) o19
  rw [e101] at o19
  replace o20 := Ar.new (z := .inr (0, 8)) o20
  rw [e101] at o20
  replace o21 := Ar.new (z := .inr (0, 8)) o21
  rw [e101] at o21
  replace o22 := Ar.new (z := .inr (0, 8)) o22
  rw [e101] at o22
  replace o23 := Ar.new (z := .inr (0, 8)) o23
  rw [e101] at o23
  replace o24 := Ar.new (z := .inr (0, 8)) o24
  rw [e101] at o24
  replace o25 := Ar.new (z := .inr (0, 8)) o25
  rw [e101] at o25
  replace o26 := Ar.new (z := .inr (0, 8)) o26
  rw [e101] at o26
  replace o27 := Ar.new (z := .inr (0, 8)) o27
  rw [e101] at o27
  replace o28 := Ar.new (z := .inr (0, 8)) o28
  rw [e101] at o28
  replace o29 := Ar.new (z := .inr (0, 8)) o29
  rw [e101] at o29
  replace o30 := Ar.new (z := .inr (0, 8)) o30
  rw [e101] at o30
  replace o31 := Ar.new (z := .inr (0, 8)) o31
  rw [e101] at o31
  replace o32 := Ar.new (z := .inr (0, 8)) o32
  rw [e101] at o32
  replace o33 := Ar.new (z := .inr (0, 8)) o33
  rw [e101] at o33
  replace o34 := Ar.new (z := .inr (0, 8)) o34
  rw [e101] at o34
  replace o35 := Ar.new (z := .inr (0, 8)) o35
  rw [e101] at o35
  replace o36 := Ar.new (z := .inr (0, 8)) o36
  rw [e101] at o36
  replace o37 := Ar.new (z := .inr (0, 8)) o37
  rw [e101] at o37
  replace o38 := Ar.new (z := .inr (0, 8)) o38
  rw [e101] at o38
  replace o39 := Ar.new (z := .inr (0, 8)) o39
  rw [e101] at o39
  replace o40 := Ar.new (z := .inr (0, 8)) o40
  rw [e101] at o40
  replace o41 := Ar.new (z := .inr (0, 8)) o41
  rw [e101] at o41
  replace o42 := Ar.new (z := .inr (0, 8)) o42
  rw [e101] at o42
  replace hn := hn_new (z := .inr (0, 8)) hn
  rw [e101] at hn
  rw [e101] at o43
  show Rn g mdX12_init 411 [some (.ref a)] [.ref (hN h + 43), .ref a] H101 44 5182 none (i_Mo a h)
  refine o_putRF (pc := 411) (ci := 11) (k := 54) (by decide) (by decide) rfl lgX12_145 rfl ⟨rfl, rfl⟩ dX12_init_411 oa.1 oa.2 (Or.inl o43.1) ?_
  generalize e102 : sR H101 a 54 (some (hN h + 43)) = H102
  replace oa := Ob.sR (i := a) (j := 54) (x := some (hN h + 43)) oa
  rw [e102] at oa
  replace o0 := Ar.sR (i := a) (j := 54) (x := some (hN h + 43)) o0
  rw [e102] at o0
  replace o1 := Ar.sR (i := a) (j := 54) (x := some (hN h + 43)) o1
  rw [e102] at o1
  replace o2 := Ar.sR (i := a) (j := 54) (x := some (hN h + 43)) o2
  rw [e102] at o2
  replace o3 := Ar.sR (i := a) (j := 54) (x := some (hN h + 43)) o3
  rw [e102] at o3
  replace o4 := Ar.sR (i := a) (j := 54) (x := some (hN h + 43)) o4
  rw [e102] at o4
  replace o5 := Ar.sR (i := a) (j := 54) (x := some (hN h + 43)) o5
  rw [e102] at o5
  replace o6 := Ar.sR (i := a) (j := 54) (x := some (hN h + 43)) o6
  rw [e102] at o6
  replace o7 := Ar.sR (i := a) (j := 54) (x := some (hN h + 43)) o7
  rw [e102] at o7
  replace o8 := Ar.sR (i := a) (j := 54) (x := some (hN h + 43)) o8
  rw [e102] at o8
  replace o9 := Ar.sR (i := a) (j := 54) (x := some (hN h + 43)) o9
  rw [e102] at o9
  replace o10 := Ar.sR (i := a) (j := 54) (x := some (hN h + 43)) o10
  rw [e102] at o10
  replace o11 := Ar.sR (i := a) (j := 54) (x := some (hN h + 43)) o11
  rw [e102] at o11
  replace o12 := Ar.sR (i := a) (j := 54) (x := some (hN h + 43)) o12
  rw [e102] at o12
  replace o13 := Ar.sR (i := a) (j := 54) (x := some (hN h + 43)) o13
  rw [e102] at o13
  replace o14 := Ar.sR (i := a) (j := 54) (x := some (hN h + 43)) o14
  rw [e102] at o14
  replace o15 := Ar.sR (i := a) (j := 54) (x := some (hN h + 43)) o15
  rw [e102] at o15
  replace o16 := Ar.sR (i := a) (j := 54) (x := some (hN h + 43)) o16
  rw [e102] at o16
  replace o17 := Ar.sR (i := a) (j := 54) (x := some (hN h + 43)) o17
  rw [e102] at o17
  replace o18 := Ar.sR (i := a) (j := 54) (x := some (hN h + 43)) o18
  rw [e102] at o18
  replace o19 := Ar.sR (i := a) (j := 54) (x := some (hN h + 43)) o19
  rw [e102] at o19
  replace o20 := Ar.sR (i := a) (j := 54) (x := some (hN h + 43)) o20
  rw [e102] at o20
  replace o21 := Ar.sR (i := a) (j := 54) (x := some (hN h + 43)) o21
  rw [e102] at o21
  replace o22 := Ar.sR (i := a) (j := 54) (x := some (hN h + 43)) o22
  rw [e102] at o22
  replace o23 := Ar.sR (i := a) (j := 54) (x := some (hN h + 43)) o23
  rw [e102] at o23
  replace o24 := Ar.sR (i := a) (j := 54) (x := some (hN h + 43)) o24
  rw [e102] at o24
  replace o25 := Ar.sR (i := a) (j := 54) (x := some (hN h + 43)) o25
  rw [e102] at o25
  replace o26 := Ar.sR (i := a) (j := 54) (x := some (hN h + 43)) o26
  rw [e102] at o26
  replace o27 := Ar.sR (i := a) (j := 54) (x := some (hN h + 43)) o27
  rw [e102] at o27
  replace o28 := Ar.sR (i := a) (j := 54) (x := some (hN h + 43)) o28
  rw [e102] at o28
  replace o29 := Ar.sR (i := a) (j := 54) (x := some (hN h + 43)) o29
  rw [e102] at o29
  replace o30 := Ar.sR (i := a) (j := 54) (x := some (hN h + 43)) o30
  rw [e102] at o30
  replace o31 := Ar.sR (i := a) (j := 54) (x := some (hN h + 43)) o31
  rw [e102] at o31
  replace o32 := Ar.sR (i := a) (j := 54) (x := some (hN h + 43)) o32
  rw [e102] at o32
  replace o33 := Ar.sR (i := a) (j := 54) (x := some (hN h + 43)) o33
  rw [e102] at o33
  replace o34 := Ar.sR (i := a) (j := 54) (x := some (hN h + 43)) o34
  rw [e102] at o34
  replace o35 := Ar.sR (i := a) (j := 54) (x := some (hN h + 43)) o35
  rw [e102] at o35
  replace o36 := Ar.sR (i := a) (j := 54) (x := some (hN h + 43)) o36
  rw [e102] at o36
  replace o37 := Ar.sR (i := a) (j := 54) (x := some (hN h + 43)) o37
  rw [e102] at o37
  replace o38 := Ar.sR (i := a) (j := 54) (x := some (hN h + 43)) o38
  rw [e102] at o38
  replace o39 := Ar.sR (i := a) (j := 54) (x := some (hN h + 43)) o39
  rw [e102] at o39
  replace o40 := Ar.sR (i := a) (j := 54) (x := some (hN h + 43)) o40
  rw [e102] at o40
  replace o41 := Ar.sR (i := a) (j := 54) (x := some (hN h + 43)) o41
  rw [e102] at o41
  replace o42 := Ar.sR (i := a) (j := 54) (x := some (hN h + 43)) o42
  rw [e102] at o42
  replace o43 := Ar.sR (i := a) (j := 54) (x := some (hN h + 43)) o43
  rw [e102] at o43
  replace hn := hn_sR (i := a) (j := 54) (x := some (hN h + 43)) hn
  rw [e102] at hn
  show Rn g mdX12_init 414 [some (.ref a)] [] H102 44 5182 none (i_Mo a h)
  refine o_aload_n (pc := 414) dX12_init_414 rfl ?_
  refine o_bipush (pc := 415) (v := 8) dX12_init_415 rfl ?_
  refine o_newaX (pc := 417) (t := 0) (N := 8) (q := hN h + 44) hn (by decide) rfl la0 dX12_init_417 (by decide) rfl (by decide) (by omega) (by decide) (by decide) (okLs_ref (Or.inl oa.1) okLs_nil) (okSt_ref (Or.inl oa.1) okSt_nil) ?_
  have o44 := Ar.madeX (h := H102) (t := 0) (n := 8) hn
  generalize e103 : hNew H102 (.inr (0, 8)) = H103
  replace oa := Ob.new (z := .inr (0, 8)) oa
  rw [e103] at oa
  replace o0 := Ar.new (z := .inr (0, 8)) o0
  rw [e103] at o0
  replace o1 := Ar.new (z := .inr (0, 8)) o1
  rw [e103] at o1
  replace o2 := Ar.new (z := .inr (0, 8)) o2
  rw [e103] at o2
  replace o3 := Ar.new (z := .inr (0, 8)) o3
  rw [e103] at o3
  replace o4 := Ar.new (z := .inr (0, 8)) o4
  rw [e103] at o4
  replace o5 := Ar.new (z := .inr (0, 8)) o5
  rw [e103] at o5
  replace o6 := Ar.new (z := .inr (0, 8)) o6
  rw [e103] at o6
  replace o7 := Ar.new (z := .inr (0, 8)) o7
  rw [e103] at o7
  replace o8 := Ar.new (z := .inr (0, 8)) o8
  rw [e103] at o8
  replace o9 := Ar.new (z := .inr (0, 8)) o9
  rw [e103] at o9
  replace o10 := Ar.new (z := .inr (0, 8)) o10
  rw [e103] at o10
  replace o11 := Ar.new (z := .inr (0, 8)) o11
  rw [e103] at o11
  replace o12 := Ar.new (z := .inr (0, 8)) o12
  rw [e103] at o12
  replace o13 := Ar.new (z := .inr (0, 8)) o13
  rw [e103] at o13
  replace o14 := Ar.new (z := .inr (0, 8)) o14
  rw [e103] at o14
  replace o15 := Ar.new (z := .inr (0, 8)) o15
  rw [e103] at o15
  replace o16 := Ar.new (z := .inr (0, 8)) o16
  rw [e103] at o16
  replace o17 := Ar.new (z := .inr (0, 8)) o17
  rw [e103] at o17
  replace o18 := Ar.new (z := .inr (0, 8)) o18
  rw [e103] at o18
  replace o19 := Ar.new (z := .inr (0, 8)) o19
  rw [e103] at o19
  replace o20 := Ar.new (z := .inr (0, 8)) o20
  rw [e103] at o20
  replace o21 := Ar.new (z := .inr (0, 8)) o21
  rw [e103] at o21
  replace o22 := Ar.new (z := .inr (0, 8)) o22
  rw [e103] at o22
  replace o23 := Ar.new (z := .inr (0, 8)) o23
  rw [e103] at o23
  replace o24 := Ar.new (z := .inr (0, 8)) o24
  rw [e103] at o24
  replace o25 := Ar.new (z := .inr (0, 8)) o25
  rw [e103] at o25
  replace o26 := Ar.new (z := .inr (0, 8)) o26
  rw [e103] at o26
  replace o27 := Ar.new (z := .inr (0, 8)) o27
  rw [e103] at o27
  replace o28 := Ar.new (z := .inr (0, 8)) o28
  rw [e103] at o28
  replace o29 := Ar.new (z := .inr (0, 8)) o29
  rw [e103] at o29
  replace o30 := Ar.new (z := .inr (0, 8)) o30
  rw [e103] at o30
  replace o31 := Ar.new (z := .inr (0, 8)) o31
  rw [e103] at o31
  replace o32 := Ar.new (z := .inr (0, 8)) o32
  rw [e103] at o32
  replace o33 := Ar.new (z := .inr (0, 8)) o33
  rw [e103] at o33
  replace o34 := Ar.new (z := .inr (0, 8)) o34
  rw [e103] at o34
  replace o35 := Ar.new (z := .inr (0, 8)) o35
  rw [e103] at o35
  replace o36 := Ar.new (z := .inr (0, 8)) o36
  rw [e103] at o36
  replace o37 := Ar.new (z := .inr (0, 8)) o37
  rw [e103] at o37
  replace o38 := Ar.new (z := .inr (0, 8)) o38
  rw [e103] at o38
  replace o39 := Ar.new (z := .inr (0, 8)) o39
  rw [e103] at o39
  replace o40 := Ar.new (z := .inr (0, 8)) o40
  rw [e103] at o40
  replace o41 := Ar.new (z := .inr (0, 8)) o41
  rw [e103] at o41
  replace o42 := Ar.new (z := .inr (0, 8)) o42
  rw [e103] at o42
  replace o43 := Ar.new (z := .inr (0, 8)) o43
  rw [e103] at o43
  replace hn := hn_new (z := .inr (0, 8)) hn
  rw [e103] at hn
  rw [e103] at o44
  show Rn g mdX12_init 419 [some (.ref a)] [.ref (hN h + 44), .ref a] H103 45 5190 none (i_Mo a h)
  refine o_putRF (pc := 419) (ci := 11) (k := 55) (by decide) (by decide) rfl lgX12_148 rfl ⟨rfl, rfl⟩ dX12_init_419 oa.1 oa.2 (Or.inl o44.1) ?_
  generalize e104 : sR H103 a 55 (some (hN h + 44)) = H104
  replace oa := Ob.sR (i := a) (j := 55) (x := some (hN h + 44)) oa
  rw [e104] at oa
  replace o0 := Ar.sR (i := a) (j := 55) (x := some (hN h + 44)) o0
  rw [e104] at o0
  replace o1 := Ar.sR (i := a) (j := 55) (x := some (hN h + 44)) o1
  rw [e104] at o1
  replace o2 := Ar.sR (i := a) (j := 55) (x := some (hN h + 44)) o2
  rw [e104] at o2
  replace o3 := Ar.sR (i := a) (j := 55) (x := some (hN h + 44)) o3
  rw [e104] at o3
  replace o4 := Ar.sR (i := a) (j := 55) (x := some (hN h + 44)) o4
  rw [e104] at o4
  replace o5 := Ar.sR (i := a) (j := 55) (x := some (hN h + 44)) o5
  rw [e104] at o5
  replace o6 := Ar.sR (i := a) (j := 55) (x := some (hN h + 44)) o6
  rw [e104] at o6
  replace o7 := Ar.sR (i := a) (j := 55) (x := some (hN h + 44)) o7
  rw [e104] at o7
  replace o8 := Ar.sR (i := a) (j := 55) (x := some (hN h + 44)) o8
  rw [e104] at o8
  replace o9 := Ar.sR (i := a) (j := 55) (x := some (hN h + 44)) o9
  rw [e104] at o9
  replace o10 := Ar.sR (i := a) (j := 55) (x := some (hN h + 44)) o10
  rw [e104] at o10
  replace o11 := Ar.sR (i := a) (j := 55) (x := some (hN h + 44)) o11
  rw [e104] at o11
  replace o12 := Ar.sR (i := a) (j := 55) (x := some (hN h + 44)) o12
  rw [e104] at o12
  replace o13 := Ar.sR (i := a) (j := 55) (x := some (hN h + 44)) o13
  rw [e104] at o13
  replace o14 := Ar.sR (i := a) (j := 55) (x := some (hN h + 44)) o14
  rw [e104] at o14
  replace o15 := Ar.sR (i := a) (j := 55) (x := some (hN h + 44)) o15
  rw [e104] at o15
  replace o16 := Ar.sR (i := a) (j := 55) (x := some (hN h + 44)) o16
  rw [e104] at o16
  replace o17 := Ar.sR (i := a) (j := 55) (x := some (hN h + 44)) o17
  rw [e104] at o17
  replace o18 := Ar.sR (i := a) (j := 55) (x := some (hN h + 44)) o18
  rw [e104] at o18
  replace o19 := Ar.sR (i := a) (j := 55) (x := some (hN h + 44)) o19
  rw [e104] at o19
  replace o20 := Ar.sR (i := a) (j := 55) (x := some (hN h + 44)) o20
  rw [e104] at o20
  replace o21 := Ar.sR (i := a) (j := 55) (x := some (hN h + 44)) o21
  rw [e104] at o21
  replace o22 := Ar.sR (i := a) (j := 55) (x := some (hN h + 44)) o22
  rw [e104] at o22
  replace o23 := Ar.sR (i := a) (j := 55) (x := some (hN h + 44)) o23
  rw [e104] at o23
  replace o24 := Ar.sR (i := a) (j := 55) (x := some (hN h + 44)) o24
  rw [e104] at o24
  replace o25 := Ar.sR (i := a) (j := 55) (x := some (hN h + 44)) o25
  rw [e104] at o25
  replace o26 := Ar.sR (i := a) (j := 55) (x := some (hN h + 44)) o26
  rw [e104] at o26
  replace o27 := Ar.sR (i := a) (j := 55) (x := some (hN h + 44)) o27
  rw [e104] at o27
  replace o28 := Ar.sR (i := a) (j := 55) (x := some (hN h + 44)) o28
  rw [e104] at o28
  replace o29 := Ar.sR (i := a) (j := 55) (x := some (hN h + 44)) o29
  rw [e104] at o29
  replace o30 := Ar.sR (i := a) (j := 55) (x := some (hN h + 44)) o30
  rw [e104] at o30
  replace o31 := Ar.sR (i := a) (j := 55) (x := some (hN h + 44)) o31
  rw [e104] at o31
  replace o32 := Ar.sR (i := a) (j := 55) (x := some (hN h + 44)) o32
  rw [e104] at o32
  replace o33 := Ar.sR (i := a) (j := 55) (x := some (hN h + 44)) o33
  rw [e104] at o33
  replace o34 := Ar.sR (i := a) (j := 55) (x := some (hN h + 44)) o34
  rw [e104] at o34
  replace o35 := Ar.sR (i := a) (j := 55) (x := some (hN h + 44)) o35
  rw [e104] at o35
  replace o36 := Ar.sR (i := a) (j := 55) (x := some (hN h + 44)) o36
  rw [e104] at o36
  replace o37 := Ar.sR (i := a) (j := 55) (x := some (hN h + 44)) o37
  rw [e104] at o37
  replace o38 := Ar.sR (i := a) (j := 55) (x := some (hN h + 44)) o38
  rw [e104] at o38
  replace o39 := Ar.sR (i := a) (j := 55) (x := some (hN h + 44)) o39
  rw [e104] at o39
  replace o40 := Ar.sR (i := a) (j := 55) (x := some (hN h + 44)) o40
  rw [e104] at o40
  replace o41 := Ar.sR (i := a) (j := 55) (x := some (hN h + 44)) o41
  rw [e104] at o41
  replace o42 := Ar.sR (i := a) (j := 55) (x := some (hN h + 44)) o42
  rw [e104] at o42
  replace o43 := Ar.sR (i := a) (j := 55) (x := some (hN h + 44)) o43
  rw [e104] at o43
  replace o44 := Ar.sR (i := a) (j := 55) (x := some (hN h + 44)) o44
  rw [e104] at o44
  replace hn := hn_sR (i := a) (j := 55) (x := some (hN h + 44)) hn
  rw [e104] at hn
  show Rn g mdX12_init 422 [some (.ref a)] [] H104 45 5190 none (i_Mo a h)
  refine o_aload_n (pc := 422) dX12_init_422 rfl ?_
  refine o_iconst (pc := 423) (v := (-1)) dX12_init_423 rfl ?_
  refine o_putI (pc := 424) (ci := 11) (k := 56) (by decide) (by decide) rfl (Or.inl lgX12_151) rfl dX12_init_424 oa.1 oa.2 ⟨rfl, rfl⟩ ?_
  generalize e105 : sI H104 a 56 (-1) = H105
  replace oa := Ob.sI (i := a) (j := 56) (x := (-1)) oa
  rw [e105] at oa
  replace o0 := Ar.sI (i := a) (j := 56) (x := (-1)) o0
  rw [e105] at o0
  replace o1 := Ar.sI (i := a) (j := 56) (x := (-1)) o1
  rw [e105] at o1
  replace o2 := Ar.sI (i := a) (j := 56) (x := (-1)) o2
  rw [e105] at o2
  replace o3 := Ar.sI (i := a) (j := 56) (x := (-1)) o3
  rw [e105] at o3
  replace o4 := Ar.sI (i := a) (j := 56) (x := (-1)) o4
  rw [e105] at o4
  replace o5 := Ar.sI (i := a) (j := 56) (x := (-1)) o5
  rw [e105] at o5
  replace o6 := Ar.sI (i := a) (j := 56) (x := (-1)) o6
  rw [e105] at o6
  replace o7 := Ar.sI (i := a) (j := 56) (x := (-1)) o7
  rw [e105] at o7
  replace o8 := Ar.sI (i := a) (j := 56) (x := (-1)) o8
  rw [e105] at o8
  replace o9 := Ar.sI (i := a) (j := 56) (x := (-1)) o9
  rw [e105] at o9
  replace o10 := Ar.sI (i := a) (j := 56) (x := (-1)) o10
  rw [e105] at o10
  replace o11 := Ar.sI (i := a) (j := 56) (x := (-1)) o11
  rw [e105] at o11
  replace o12 := Ar.sI (i := a) (j := 56) (x := (-1)) o12
  rw [e105] at o12
  replace o13 := Ar.sI (i := a) (j := 56) (x := (-1)) o13
  rw [e105] at o13
  replace o14 := Ar.sI (i := a) (j := 56) (x := (-1)) o14
  rw [e105] at o14
  replace o15 := Ar.sI (i := a) (j := 56) (x := (-1)) o15
  rw [e105] at o15
  replace o16 := Ar.sI (i := a) (j := 56) (x := (-1)) o16
  rw [e105] at o16
  replace o17 := Ar.sI (i := a) (j := 56) (x := (-1)) o17
  rw [e105] at o17
  replace o18 := Ar.sI (i := a) (j := 56) (x := (-1)) o18
  rw [e105] at o18
  replace o19 := Ar.sI (i := a) (j := 56) (x := (-1)) o19
  rw [e105] at o19
  replace o20 := Ar.sI (i := a) (j := 56) (x := (-1)) o20
  rw [e105] at o20
  replace o21 := Ar.sI (i := a) (j := 56) (x := (-1)) o21
  rw [e105] at o21
  replace o22 := Ar.sI (i := a) (j := 56) (x := (-1)) o22
  rw [e105] at o22
  replace o23 := Ar.sI (i := a) (j := 56) (x := (-1)) o23
  rw [e105] at o23
  replace o24 := Ar.sI (i := a) (j := 56) (x := (-1)) o24
  rw [e105] at o24
  replace o25 := Ar.sI (i := a) (j := 56) (x := (-1)) o25
  rw [e105] at o25
  replace o26 := Ar.sI (i := a) (j := 56) (x := (-1)) o26
  rw [e105] at o26
  replace o27 := Ar.sI (i := a) (j := 56) (x := (-1)) o27
  rw [e105] at o27
  replace o28 := Ar.sI (i := a) (j := 56) (x := (-1)) o28
  rw [e105] at o28
  replace o29 := Ar.sI (i := a) (j := 56) (x := (-1)) o29
  rw [e105] at o29
  replace o30 := Ar.sI (i := a) (j := 56) (x := (-1)) o30
  rw [e105] at o30
  replace o31 := Ar.sI (i := a) (j := 56) (x := (-1)) o31
  rw [e105] at o31
  replace o32 := Ar.sI (i := a) (j := 56) (x := (-1)) o32
  rw [e105] at o32
  replace o33 := Ar.sI (i := a) (j := 56) (x := (-1)) o33
  rw [e105] at o33
  replace o34 := Ar.sI (i := a) (j := 56) (x := (-1)) o34
  rw [e105] at o34
  replace o35 := Ar.sI (i := a) (j := 56) (x := (-1)) o35
  rw [e105] at o35
  replace o36 := Ar.sI (i := a) (j := 56) (x := (-1)) o36
  rw [e105] at o36
  replace o37 := Ar.sI (i := a) (j := 56) (x := (-1)) o37
  rw [e105] at o37
  replace o38 := Ar.sI (i := a) (j := 56) (x := (-1)) o38
  rw [e105] at o38
  replace o39 := Ar.sI (i := a) (j := 56) (x := (-1)) o39
  rw [e105] at o39
  replace o40 := Ar.sI (i := a) (j := 56) (x := (-1)) o40
  rw [e105] at o40
  replace o41 := Ar.sI (i := a) (j := 56) (x := (-1)) o41
  rw [e105] at o41
  replace o42 := Ar.sI (i := a) (j := 56) (x := (-1)) o42
  rw [e105] at o42
  replace o43 := Ar.sI (i := a) (j := 56) (x := (-1)) o43
  rw [e105] at o43
  replace o44 := Ar.sI (i := a) (j := 56) (x := (-1)) o44
  rw [e105] at o44
  replace hn := hn_sI (i := a) (j := 56) (x := (-1)) hn
  rw [e105] at hn
  show Rn g mdX12_init 427 [some (.ref a)] [] H105 45 5190 none (i_Mo a h)
  refine o_aload_n (pc := 427) dX12_init_427 rfl ?_
  refine o_iconst (pc := 428) (v := (-1)) dX12_init_428 rfl ?_
  refine o_putI (pc := 429) (ci := 11) (k := 57) (by decide) (by decide) rfl (Or.inl lgX12_154) rfl dX12_init_429 oa.1 oa.2 ⟨rfl, rfl⟩ ?_
  generalize e106 : sI H105 a 57 (-1) = H106
  replace oa := Ob.sI (i := a) (j := 57) (x := (-1)) oa
  rw [e106] at oa
  replace o0 := Ar.sI (i := a) (j := 57) (x := (-1)) o0
  rw [e106] at o0
  replace o1 := Ar.sI (i := a) (j := 57) (x := (-1)) o1
  rw [e106] at o1
  replace o2 := Ar.sI (i := a) (j := 57) (x := (-1)) o2
  rw [e106] at o2
  replace o3 := Ar.sI (i := a) (j := 57) (x := (-1)) o3
  rw [e106] at o3
  replace o4 := Ar.sI (i := a) (j := 57) (x := (-1)) o4
  rw [e106] at o4
  replace o5 := Ar.sI (i := a) (j := 57) (x := (-1)) o5
  rw [e106] at o5
  replace o6 := Ar.sI (i := a) (j := 57) (x := (-1)) o6
  rw [e106] at o6
  replace o7 := Ar.sI (i := a) (j := 57) (x := (-1)) o7
  rw [e106] at o7
  replace o8 := Ar.sI (i := a) (j := 57) (x := (-1)) o8
  rw [e106] at o8
  replace o9 := Ar.sI (i := a) (j := 57) (x := (-1)) o9
  rw [e106] at o9
  replace o10 := Ar.sI (i := a) (j := 57) (x := (-1)) o10
  rw [e106] at o10
  replace o11 := Ar.sI (i := a) (j := 57) (x := (-1)) o11
  rw [e106] at o11
  replace o12 := Ar.sI (i := a) (j := 57) (x := (-1)) o12
  rw [e106] at o12
  replace o13 := Ar.sI (i := a) (j := 57) (x := (-1)) o13
  rw [e106] at o13
  replace o14 := Ar.sI (i := a) (j := 57) (x := (-1)) o14
  rw [e106] at o14
  replace o15 := Ar.sI (i := a) (j := 57) (x := (-1)) o15
  rw [e106] at o15
  replace o16 := Ar.sI (i := a) (j := 57) (x := (-1)) o16
  rw [e106] at o16
  replace o17 := Ar.sI (i := a) (j := 57) (x := (-1)) o17
  rw [e106] at o17
  replace o18 := Ar.sI (i := a) (j := 57) (x := (-1)) o18
  rw [e106] at o18
  replace o19 := Ar.sI (i := a) (j := 57) (x := (-1)) o19
  rw [e106] at o19
  replace o20 := Ar.sI (i := a) (j := 57) (x := (-1)) o20
  rw [e106] at o20
  replace o21 := Ar.sI (i := a) (j := 57) (x := (-1)) o21
  rw [e106] at o21
  replace o22 := Ar.sI (i := a) (j := 57) (x := (-1)) o22
  rw [e106] at o22
  replace o23 := Ar.sI (i := a) (j := 57) (x := (-1)) o23
  rw [e106] at o23
  replace o24 := Ar.sI (i := a) (j := 57) (x := (-1)) o24
  rw [e106] at o24
  replace o25 := Ar.sI (i := a) (j := 57) (x := (-1)) o25
  rw [e106] at o25
  replace o26 := Ar.sI (i := a) (j := 57) (x := (-1)) o26
  rw [e106] at o26
  replace o27 := Ar.sI (i := a) (j := 57) (x := (-1)) o27
  rw [e106] at o27
  replace o28 := Ar.sI (i := a) (j := 57) (x := (-1)) o28
  rw [e106] at o28
  replace o29 := Ar.sI (i := a) (j := 57) (x := (-1)) o29
  rw [e106] at o29
  replace o30 := Ar.sI (i := a) (j := 57) (x := (-1)) o30
  rw [e106] at o30
  replace o31 := Ar.sI (i := a) (j := 57) (x := (-1)) o31
  rw [e106] at o31
  replace o32 := Ar.sI (i := a) (j := 57) (x := (-1)) o32
  rw [e106] at o32
  replace o33 := Ar.sI (i := a) (j := 57) (x := (-1)) o33
  rw [e106] at o33
  replace o34 := Ar.sI (i := a) (j := 57) (x := (-1)) o34
  rw [e106] at o34
  replace o35 := Ar.sI (i := a) (j := 57) (x := (-1)) o35
  rw [e106] at o35
  replace o36 := Ar.sI (i := a) (j := 57) (x := (-1)) o36
  rw [e106] at o36
  replace o37 := Ar.sI (i := a) (j := 57) (x := (-1)) o37
  rw [e106] at o37
  replace o38 := Ar.sI (i := a) (j := 57) (x := (-1)) o38
  rw [e106] at o38
  replace o39 := Ar.sI (i := a) (j := 57) (x := (-1)) o39
  rw [e106] at o39
  replace o40 := Ar.sI (i := a) (j := 57) (x := (-1)) o40
  rw [e106] at o40
  replace o41 := Ar.sI (i := a) (j := 57) (x := (-1)) o41
  rw [e106] at o41
  replace o42 := Ar.sI (i := a) (j := 57) (x := (-1)) o42
  rw [e106] at o42
  replace o43 := Ar.sI (i := a) (j := 57) (x := (-1)) o43
  rw [e106] at o43
  replace o44 := Ar.sI (i := a) (j := 57) (x := (-1)) o44
  rw [e106] at o44
  replace hn := hn_sI (i := a) (j := 57) (x := (-1)) hn
  rw [e106] at hn
  show Rn g mdX12_init 432 [some (.ref a)] [] H106 45 5190 none (i_Mo a h)
  refine o_aload_n (pc := 432) dX12_init_432 rfl ?_
  refine o_sipush (pc := 433) (v := 920) dX12_init_433 rfl ?_
  refine o_newaX (pc := 436) (t := 0) (N := 920) (q := hN h + 45) hn (by decide) rfl la0 dX12_init_436 (by decide) rfl (by decide) (by omega) (by decide) (by decide) (okLs_ref (Or.inl oa.1) okLs_nil) (okSt_ref (Or.inl oa.1) okSt_nil) ?_
  have o45 := Ar.madeX (h := H106) (t := 0) (n := 920) hn
  generalize e107 : hNew H106 (.inr (0, 920)) = H107
  replace oa := Ob.new (z := .inr (0, 920)) oa
  rw [e107] at oa
  replace o0 := Ar.new (z := .inr (0, 920)) o0
  rw [e107] at o0
  replace o1 := Ar.new (z := .inr (0, 920)) o1
  rw [e107] at o1
  replace o2 := Ar.new (z := .inr (0, 920)) o2
  rw [e107] at o2
  replace o3 := Ar.new (z := .inr (0, 920)) o3
  rw [e107] at o3
  replace o4 := Ar.new (z := .inr (0, 920)) o4
  rw [e107] at o4
  replace o5 := Ar.new (z := .inr (0, 920)) o5
  rw [e107] at o5
  replace o6 := Ar.new (z := .inr (0, 920)) o6
  rw [e107] at o6
  replace o7 := Ar.new (z := .inr (0, 920)) o7
  rw [e107] at o7
  replace o8 := Ar.new (z := .inr (0, 920)) o8
  rw [e107] at o8
  replace o9 := Ar.new (z := .inr (0, 920)) o9
  rw [e107] at o9
  replace o10 := Ar.new (z := .inr (0, 920)) o10
  rw [e107] at o10
  replace o11 := Ar.new (z := .inr (0, 920)) o11
  rw [e107] at o11
  replace o12 := Ar.new (z := .inr (0, 920)) o12
  rw [e107] at o12
  replace o13 := Ar.new (z := .inr (0, 920)) o13
  rw [e107] at o13
  replace o14 := Ar.new (z := .inr (0, 920)) o14
  rw [e107] at o14
  replace o15 := Ar.new (z := .inr (0, 920)) o15
  rw [e107] at o15
  replace o16 := Ar.new (z := .inr (0, 920)) o16
  rw [e107] at o16
  replace o17 := Ar.new (z := .inr (0, 920)) o17
  rw [e107] at o17
  replace o18 := Ar.new (z := .inr (0, 920)) o18
  rw [e107] at o18
  replace o19 := Ar.new (z := .inr (0, 920)) o19
  rw [e107] at o19
  replace o20 := Ar.new (z := .inr (0, 920)) o20
  rw [e107] at o20
  replace o21 := Ar.new (z := .inr (0, 920)) o21
  rw [e107] at o21
  replace o22 := Ar.new (z := .inr (0, 920)) o22
  rw [e107] at o22
  replace o23 := Ar.new (z := .inr (0, 920)) o23
  rw [e107] at o23
  replace o24 := Ar.new (z := .inr (0, 920)) o24
  rw [e107] at o24
  replace o25 := Ar.new (z := .inr (0, 920)) o25
  rw [e107] at o25
  replace o26 := Ar.new (z := .inr (0, 920)) o26
  rw [e107] at o26
  replace o27 := Ar.new (z := .inr (0, 920)) o27
  rw [e107] at o27
  replace o28 := Ar.new (z := .inr (0, 920)) o28
  rw [e107] at o28
  replace o29 := Ar.new (z := .inr (0, 920)) o29
  rw [e107] at o29
  replace o30 := Ar.new (z := .inr (0, 920)) o30
  rw [e107] at o30
  replace o31 := Ar.new (z := .inr (0, 920)) o31
  rw [e107] at o31
  replace o32 := Ar.new (z := .inr (0, 920)) o32
  rw [e107] at o32
  replace o33 := Ar.new (z := .inr (0, 920)) o33
  rw [e107] at o33
  replace o34 := Ar.new (z := .inr (0, 920)) o34
  rw [e107] at o34
  replace o35 := Ar.new (z := .inr (0, 920)) o35
  rw [e107] at o35
  replace o36 := Ar.new (z := .inr (0, 920)) o36
  rw [e107] at o36
  replace o37 := Ar.new (z := .inr (0, 920)) o37
  rw [e107] at o37
  replace o38 := Ar.new (z := .inr (0, 920)) o38
  rw [e107] at o38
  replace o39 := Ar.new (z := .inr (0, 920)) o39
  rw [e107] at o39
  replace o40 := Ar.new (z := .inr (0, 920)) o40
  rw [e107] at o40
  replace o41 := Ar.new (z := .inr (0, 920)) o41
  rw [e107] at o41
  replace o42 := Ar.new (z := .inr (0, 920)) o42
  rw [e107] at o42
  replace o43 := Ar.new (z := .inr (0, 920)) o43
  rw [e107] at o43
  replace o44 := Ar.new (z := .inr (0, 920)) o44
  rw [e107] at o44
  replace hn := hn_new (z := .inr (0, 920)) hn
  rw [e107] at hn
  rw [e107] at o45
  show Rn g mdX12_init 438 [some (.ref a)] [.ref (hN h + 45), .ref a] H107 46 6110 none (i_Mo a h)
  refine o_putRF (pc := 438) (ci := 11) (k := 64) (by decide) (by decide) rfl lgX12_157 rfl ⟨rfl, rfl⟩ dX12_init_438 oa.1 oa.2 (Or.inl o45.1) ?_
  generalize e108 : sR H107 a 64 (some (hN h + 45)) = H108
  replace oa := Ob.sR (i := a) (j := 64) (x := some (hN h + 45)) oa
  rw [e108] at oa
  replace o0 := Ar.sR (i := a) (j := 64) (x := some (hN h + 45)) o0
  rw [e108] at o0
  replace o1 := Ar.sR (i := a) (j := 64) (x := some (hN h + 45)) o1
  rw [e108] at o1
  replace o2 := Ar.sR (i := a) (j := 64) (x := some (hN h + 45)) o2
  rw [e108] at o2
  replace o3 := Ar.sR (i := a) (j := 64) (x := some (hN h + 45)) o3
  rw [e108] at o3
  replace o4 := Ar.sR (i := a) (j := 64) (x := some (hN h + 45)) o4
  rw [e108] at o4
  replace o5 := Ar.sR (i := a) (j := 64) (x := some (hN h + 45)) o5
  rw [e108] at o5
  replace o6 := Ar.sR (i := a) (j := 64) (x := some (hN h + 45)) o6
  rw [e108] at o6
  replace o7 := Ar.sR (i := a) (j := 64) (x := some (hN h + 45)) o7
  rw [e108] at o7
  replace o8 := Ar.sR (i := a) (j := 64) (x := some (hN h + 45)) o8
  rw [e108] at o8
  replace o9 := Ar.sR (i := a) (j := 64) (x := some (hN h + 45)) o9
  rw [e108] at o9
  replace o10 := Ar.sR (i := a) (j := 64) (x := some (hN h + 45)) o10
  rw [e108] at o10
  replace o11 := Ar.sR (i := a) (j := 64) (x := some (hN h + 45)) o11
  rw [e108] at o11
  replace o12 := Ar.sR (i := a) (j := 64) (x := some (hN h + 45)) o12
  rw [e108] at o12
  replace o13 := Ar.sR (i := a) (j := 64) (x := some (hN h + 45)) o13
  rw [e108] at o13
  replace o14 := Ar.sR (i := a) (j := 64) (x := some (hN h + 45)) o14
  rw [e108] at o14
  replace o15 := Ar.sR (i := a) (j := 64) (x := some (hN h + 45)) o15
  rw [e108] at o15
  replace o16 := Ar.sR (i := a) (j := 64) (x := some (hN h + 45)) o16
  rw [e108] at o16
  replace o17 := Ar.sR (i := a) (j := 64) (x := some (hN h + 45)) o17
  rw [e108] at o17
  replace o18 := Ar.sR (i := a) (j := 64) (x := some (hN h + 45)) o18
  rw [e108] at o18
  replace o19 := Ar.sR (i := a) (j := 64) (x := some (hN h + 45)) o19
  rw [e108] at o19
  replace o20 := Ar.sR (i := a) (j := 64) (x := some (hN h + 45)) o20
  rw [e108] at o20
  replace o21 := Ar.sR (i := a) (j := 64) (x := some (hN h + 45)) o21
  rw [e108] at o21
  replace o22 := Ar.sR (i := a) (j := 64) (x := some (hN h + 45)) o22
  rw [e108] at o22
  replace o23 := Ar.sR (i := a) (j := 64) (x := some (hN h + 45)) o23
  rw [e108] at o23
  replace o24 := Ar.sR (i := a) (j := 64) (x := some (hN h + 45)) o24
  rw [e108] at o24
  replace o25 := Ar.sR (i := a) (j := 64) (x := some (hN h + 45)) o25
  rw [e108] at o25
  replace o26 := Ar.sR (i := a) (j := 64) (x := some (hN h + 45)) o26
  rw [e108] at o26
  replace o27 := Ar.sR (i := a) (j := 64) (x := some (hN h + 45)) o27
  rw [e108] at o27
  replace o28 := Ar.sR (i := a) (j := 64) (x := some (hN h + 45)) o28
  rw [e108] at o28
  replace o29 := Ar.sR (i := a) (j := 64) (x := some (hN h + 45)) o29
  rw [e108] at o29
  replace o30 := Ar.sR (i := a) (j := 64) (x := some (hN h + 45)) o30
  rw [e108] at o30
  replace o31 := Ar.sR (i := a) (j := 64) (x := some (hN h + 45)) o31
  rw [e108] at o31
  replace o32 := Ar.sR (i := a) (j := 64) (x := some (hN h + 45)) o32
  rw [e108] at o32
  replace o33 := Ar.sR (i := a) (j := 64) (x := some (hN h + 45)) o33
  rw [e108] at o33
  replace o34 := Ar.sR (i := a) (j := 64) (x := some (hN h + 45)) o34
  rw [e108] at o34
  replace o35 := Ar.sR (i := a) (j := 64) (x := some (hN h + 45)) o35
  rw [e108] at o35
  replace o36 := Ar.sR (i := a) (j := 64) (x := some (hN h + 45)) o36
  rw [e108] at o36
  replace o37 := Ar.sR (i := a) (j := 64) (x := some (hN h + 45)) o37
  rw [e108] at o37
  replace o38 := Ar.sR (i := a) (j := 64) (x := some (hN h + 45)) o38
  rw [e108] at o38
  replace o39 := Ar.sR (i := a) (j := 64) (x := some (hN h + 45)) o39
  rw [e108] at o39
  replace o40 := Ar.sR (i := a) (j := 64) (x := some (hN h + 45)) o40
  rw [e108] at o40
  replace o41 := Ar.sR (i := a) (j := 64) (x := some (hN h + 45)) o41
  rw [e108] at o41
  replace o42 := Ar.sR (i := a) (j := 64) (x := some (hN h + 45)) o42
  rw [e108] at o42
  replace o43 := Ar.sR (i := a) (j := 64) (x := some (hN h + 45)) o43
  rw [e108] at o43
  replace o44 := Ar.sR (i := a) (j := 64) (x := some (hN h + 45)) o44
  rw [e108] at o44
  replace o45 := Ar.sR (i := a) (j := 64) (x := some (hN h + 45)) o45
  rw [e108] at o45
  replace hn := hn_sR (i := a) (j := 64) (x := some (hN h + 45)) hn
  rw [e108] at hn
  show Rn g mdX12_init 441 [some (.ref a)] [] H108 46 6110 none (i_Mo a h)
  refine o_aload_n (pc := 441) dX12_init_441 rfl ?_
  refine o_iconst (pc := 442) (v := 1) dX12_init_442 rfl ?_
  refine o_newaX (pc := 443) (t := 0) (N := 1) (q := hN h + 46) hn (by decide) rfl la0 dX12_init_443 (by decide) rfl (by decide) (by omega) (by decide) (by decide) (okLs_ref (Or.inl oa.1) okLs_nil) (okSt_ref (Or.inl oa.1) okSt_nil) ?_
  have o46 := Ar.madeX (h := H108) (t := 0) (n := 1) hn
  generalize e109 : hNew H108 (.inr (0, 1)) = H109
  replace oa := Ob.new (z := .inr (0, 1)) oa
  rw [e109] at oa
  replace o0 := Ar.new (z := .inr (0, 1)) o0
  rw [e109] at o0
  replace o1 := Ar.new (z := .inr (0, 1)) o1
  rw [e109] at o1
  replace o2 := Ar.new (z := .inr (0, 1)) o2
  rw [e109] at o2
  replace o3 := Ar.new (z := .inr (0, 1)) o3
  rw [e109] at o3
  replace o4 := Ar.new (z := .inr (0, 1)) o4
  rw [e109] at o4
  replace o5 := Ar.new (z := .inr (0, 1)) o5
  rw [e109] at o5
  replace o6 := Ar.new (z := .inr (0, 1)) o6
  rw [e109] at o6
  replace o7 := Ar.new (z := .inr (0, 1)) o7
  rw [e109] at o7
  replace o8 := Ar.new (z := .inr (0, 1)) o8
  rw [e109] at o8
  replace o9 := Ar.new (z := .inr (0, 1)) o9
  rw [e109] at o9
  replace o10 := Ar.new (z := .inr (0, 1)) o10
  rw [e109] at o10
  replace o11 := Ar.new (z := .inr (0, 1)) o11
  rw [e109] at o11
  replace o12 := Ar.new (z := .inr (0, 1)) o12
  rw [e109] at o12
  replace o13 := Ar.new (z := .inr (0, 1)) o13
  rw [e109] at o13
  replace o14 := Ar.new (z := .inr (0, 1)) o14
  rw [e109] at o14
  replace o15 := Ar.new (z := .inr (0, 1)) o15
  rw [e109] at o15
  replace o16 := Ar.new (z := .inr (0, 1)) o16
  rw [e109] at o16
  replace o17 := Ar.new (z := .inr (0, 1)) o17
  rw [e109] at o17
  replace o18 := Ar.new (z := .inr (0, 1)) o18
  rw [e109] at o18
  replace o19 := Ar.new (z := .inr (0, 1)) o19
  rw [e109] at o19
  replace o20 := Ar.new (z := .inr (0, 1)) o20
  rw [e109] at o20
  replace o21 := Ar.new (z := .inr (0, 1)) o21
  rw [e109] at o21
  replace o22 := Ar.new (z := .inr (0, 1)) o22
  rw [e109] at o22
  replace o23 := Ar.new (z := .inr (0, 1)) o23
  rw [e109] at o23
  replace o24 := Ar.new (z := .inr (0, 1)) o24
  rw [e109] at o24
  replace o25 := Ar.new (z := .inr (0, 1)) o25
  rw [e109] at o25
  replace o26 := Ar.new (z := .inr (0, 1)) o26
  rw [e109] at o26
  replace o27 := Ar.new (z := .inr (0, 1)) o27
  rw [e109] at o27
  replace o28 := Ar.new (z := .inr (0, 1)) o28
  rw [e109] at o28
  replace o29 := Ar.new (z := .inr (0, 1)) o29
  rw [e109] at o29
  replace o30 := Ar.new (z := .inr (0, 1)) o30
  rw [e109] at o30
  replace o31 := Ar.new (z := .inr (0, 1)) o31
  rw [e109] at o31
  replace o32 := Ar.new (z := .inr (0, 1)) o32
  rw [e109] at o32
  replace o33 := Ar.new (z := .inr (0, 1)) o33
  rw [e109] at o33
  replace o34 := Ar.new (z := .inr (0, 1)) o34
  rw [e109] at o34
  replace o35 := Ar.new (z := .inr (0, 1)) o35
  rw [e109] at o35
  replace o36 := Ar.new (z := .inr (0, 1)) o36
  rw [e109] at o36
  replace o37 := Ar.new (z := .inr (0, 1)) o37
  rw [e109] at o37
  replace o38 := Ar.new (z := .inr (0, 1)) o38
  rw [e109] at o38
  replace o39 := Ar.new (z := .inr (0, 1)) o39
  rw [e109] at o39
  replace o40 := Ar.new (z := .inr (0, 1)) o40
  rw [e109] at o40
  replace o41 := Ar.new (z := .inr (0, 1)) o41
  rw [e109] at o41
  replace o42 := Ar.new (z := .inr (0, 1)) o42
  rw [e109] at o42
  replace o43 := Ar.new (z := .inr (0, 1)) o43
  rw [e109] at o43
  replace o44 := Ar.new (z := .inr (0, 1)) o44
  rw [e109] at o44
  replace o45 := Ar.new (z := .inr (0, 1)) o45
  rw [e109] at o45
  replace hn := hn_new (z := .inr (0, 1)) hn
  rw [e109] at hn
  rw [e109] at o46
  show Rn g mdX12_init 445 [some (.ref a)] [.ref (hN h + 46), .ref a] H109 47 6111 none (i_Mo a h)
  refine o_putRF (pc := 445) (ci := 11) (k := 65) (by decide) (by decide) rfl lgX12_160 rfl ⟨rfl, rfl⟩ dX12_init_445 oa.1 oa.2 (Or.inl o46.1) ?_
  generalize e110 : sR H109 a 65 (some (hN h + 46)) = H110
  replace oa := Ob.sR (i := a) (j := 65) (x := some (hN h + 46)) oa
  rw [e110] at oa
  replace o0 := Ar.sR (i := a) (j := 65) (x := some (hN h + 46)) o0
  rw [e110] at o0
  replace o1 := Ar.sR (i := a) (j := 65) (x := some (hN h + 46)) o1
  rw [e110] at o1
  replace o2 := Ar.sR (i := a) (j := 65) (x := some (hN h + 46)) o2
  rw [e110] at o2
  replace o3 := Ar.sR (i := a) (j := 65) (x := some (hN h + 46)) o3
  rw [e110] at o3
  replace o4 := Ar.sR (i := a) (j := 65) (x := some (hN h + 46)) o4
  rw [e110] at o4
  replace o5 := Ar.sR (i := a) (j := 65) (x := some (hN h + 46)) o5
  rw [e110] at o5
  replace o6 := Ar.sR (i := a) (j := 65) (x := some (hN h + 46)) o6
  rw [e110] at o6
  replace o7 := Ar.sR (i := a) (j := 65) (x := some (hN h + 46)) o7
  rw [e110] at o7
  replace o8 := Ar.sR (i := a) (j := 65) (x := some (hN h + 46)) o8
  rw [e110] at o8
  replace o9 := Ar.sR (i := a) (j := 65) (x := some (hN h + 46)) o9
  rw [e110] at o9
  replace o10 := Ar.sR (i := a) (j := 65) (x := some (hN h + 46)) o10
  rw [e110] at o10
  replace o11 := Ar.sR (i := a) (j := 65) (x := some (hN h + 46)) o11
  rw [e110] at o11
  replace o12 := Ar.sR (i := a) (j := 65) (x := some (hN h + 46)) o12
  rw [e110] at o12
  replace o13 := Ar.sR (i := a) (j := 65) (x := some (hN h + 46)) o13
  rw [e110] at o13
  replace o14 := Ar.sR (i := a) (j := 65) (x := some (hN h + 46)) o14
  rw [e110] at o14
  replace o15 := Ar.sR (i := a) (j := 65) (x := some (hN h + 46)) o15
  rw [e110] at o15
  replace o16 := Ar.sR (i := a) (j := 65) (x := some (hN h + 46)) o16
  rw [e110] at o16
  replace o17 := Ar.sR (i := a) (j := 65) (x := some (hN h + 46)) o17
  rw [e110] at o17
  replace o18 := Ar.sR (i := a) (j := 65) (x := some (hN h + 46)) o18
  rw [e110] at o18
  replace o19 := Ar.sR (i := a) (j := 65) (x := some (hN h + 46)) o19
  rw [e110] at o19
  replace o20 := Ar.sR (i := a) (j := 65) (x := some (hN h + 46)) o20
  rw [e110] at o20
  replace o21 := Ar.sR (i := a) (j := 65) (x := some (hN h + 46)) o21
  rw [e110] at o21
  replace o22 := Ar.sR (i := a) (j := 65) (x := some (hN h + 46)) o22
  rw [e110] at o22
  replace o23 := Ar.sR (i := a) (j := 65) (x := some (hN h + 46)) o23
  rw [e110] at o23
  replace o24 := Ar.sR (i := a) (j := 65) (x := some (hN h + 46)) o24
  rw [e110] at o24
  replace o25 := Ar.sR (i := a) (j := 65) (x := some (hN h + 46)) o25
  rw [e110] at o25
  replace o26 := Ar.sR (i := a) (j := 65) (x := some (hN h + 46)) o26
  rw [e110] at o26
  replace o27 := Ar.sR (i := a) (j := 65) (x := some (hN h + 46)) o27
  rw [e110] at o27
  replace o28 := Ar.sR (i := a) (j := 65) (x := some (hN h + 46)) o28
  rw [e110] at o28
  replace o29 := Ar.sR (i := a) (j := 65) (x := some (hN h + 46)) o29
  rw [e110] at o29
  replace o30 := Ar.sR (i := a) (j := 65) (x := some (hN h + 46)) o30
  rw [e110] at o30
  replace o31 := Ar.sR (i := a) (j := 65) (x := some (hN h + 46)) o31
  rw [e110] at o31
  replace o32 := Ar.sR (i := a) (j := 65) (x := some (hN h + 46)) o32
  rw [e110] at o32
  replace o33 := Ar.sR (i := a) (j := 65) (x := some (hN h + 46)) o33
  rw [e110] at o33
  replace o34 := Ar.sR (i := a) (j := 65) (x := some (hN h + 46)) o34
  rw [e110] at o34
  replace o35 := Ar.sR (i := a) (j := 65) (x := some (hN h + 46)) o35
  rw [e110] at o35
  replace o36 := Ar.sR (i := a) (j := 65) (x := some (hN h + 46)) o36
  rw [e110] at o36
  replace o37 := Ar.sR (i := a) (j := 65) (x := some (hN h + 46)) o37
  rw [e110] at o37
  replace o38 := Ar.sR (i := a) (j := 65) (x := some (hN h + 46)) o38
  rw [e110] at o38
  replace o39 := Ar.sR (i := a) (j := 65) (x := some (hN h + 46)) o39
  rw [e110] at o39
  replace o40 := Ar.sR (i := a) (j := 65) (x := some (hN h + 46)) o40
  rw [e110] at o40
  replace o41 := Ar.sR (i := a) (j := 65) (x := some (hN h + 46)) o41
  rw [e110] at o41
  replace o42 := Ar.sR (i := a) (j := 65) (x := some (hN h + 46)) o42
  rw [e110] at o42
  replace o43 := Ar.sR (i := a) (j := 65) (x := some (hN h + 46)) o43
  rw [e110] at o43
  replace o44 := Ar.sR (i := a) (j := 65) (x := some (hN h + 46)) o44
  rw [e110] at o44
  replace o45 := Ar.sR (i := a) (j := 65) (x := some (hN h + 46)) o45
  rw [e110] at o45
  replace o46 := Ar.sR (i := a) (j := 65) (x := some (hN h + 46)) o46
  rw [e110] at o46
  replace hn := hn_sR (i := a) (j := 65) (x := some (hN h + 46)) hn
  rw [e110] at hn
  show Rn g mdX12_init 448 [some (.ref a)] [] H110 47 6111 none (i_Mo a h)
  refine o_aload_n (pc := 448) dX12_init_448 rfl ?_
  refine o_bipush (pc := 449) (v := 49) dX12_init_449 rfl ?_
  refine o_newaX (pc := 451) (t := 0) (N := 49) (q := hN h + 47) hn (by decide) rfl la0 dX12_init_451 (by decide) rfl (by decide) (by omega) (by decide) (by decide) (okLs_ref (Or.inl oa.1) okLs_nil) (okSt_ref (Or.inl oa.1) okSt_nil) ?_
  have o47 := Ar.madeX (h := H110) (t := 0) (n := 49) hn
  generalize e111 : hNew H110 (.inr (0, 49)) = H111
  replace oa := Ob.new (z := .inr (0, 49)) oa
  rw [e111] at oa
  replace o0 := Ar.new (z := .inr (0, 49)) o0
  rw [e111] at o0
  replace o1 := Ar.new (z := .inr (0, 49)) o1
  rw [e111] at o1
  replace o2 := Ar.new (z := .inr (0, 49)) o2
  rw [e111] at o2
  replace o3 := Ar.new (z := .inr (0, 49)) o3
  rw [e111] at o3
  replace o4 := Ar.new (z := .inr (0, 49)) o4
  rw [e111] at o4
  replace o5 := Ar.new (z := .inr (0, 49)) o5
  rw [e111] at o5
  replace o6 := Ar.new (z := .inr (0, 49)) o6
  rw [e111] at o6
  replace o7 := Ar.new (z := .inr (0, 49)) o7
  rw [e111] at o7
  replace o8 := Ar.new (z := .inr (0, 49)) o8
  rw [e111] at o8
  replace o9 := Ar.new (z := .inr (0, 49)) o9
  rw [e111] at o9
  replace o10 := Ar.new (z := .inr (0, 49)) o10
  rw [e111] at o10
  replace o11 := Ar.new (z := .inr (0, 49)) o11
  rw [e111] at o11
  replace o12 := Ar.new (z := .inr (0, 49)) o12
  rw [e111] at o12
  replace o13 := Ar.new (z := .inr (0, 49)) o13
  rw [e111] at o13
  replace o14 := Ar.new (z := .inr (0, 49)) o14
  rw [e111] at o14
  replace o15 := Ar.new (z := .inr (0, 49)) o15
  rw [e111] at o15
  replace o16 := Ar.new (z := .inr (0, 49)) o16
  rw [e111] at o16
  replace o17 := Ar.new (z := .inr (0, 49)) o17
  rw [e111] at o17
  replace o18 := Ar.new (z := .inr (0, 49)) o18
  rw [e111] at o18
  replace o19 := Ar.new (z := .inr (0, 49)) o19
  rw [e111] at o19
  replace o20 := Ar.new (z := .inr (0, 49)) o20
  rw [e111] at o20
  replace o21 := Ar.new (z := .inr (0, 49)) o21
  rw [e111] at o21
  replace o22 := Ar.new (z := .inr (0, 49)) o22
  rw [e111] at o22
  replace o23 := Ar.new (z := .inr (0, 49)) o23
  rw [e111] at o23
  replace o24 := Ar.new (z := .inr (0, 49)) o24
  rw [e111] at o24
  replace o25 := Ar.new (z := .inr (0, 49)) o25
  rw [e111] at o25
  replace o26 := Ar.new (z := .inr (0, 49)) o26
  rw [e111] at o26
  replace o27 := Ar.new (z := .inr (0, 49)) o27
  rw [e111] at o27
  replace o28 := Ar.new (z := .inr (0, 49)) o28
  rw [e111] at o28
  replace o29 := Ar.new (z := .inr (0, 49)) o29
  rw [e111] at o29
  replace o30 := Ar.new (z := .inr (0, 49)) o30
  rw [e111] at o30
  replace o31 := Ar.new (z := .inr (0, 49)) o31
  rw [e111] at o31
  replace o32 := Ar.new (z := .inr (0, 49)) o32
  rw [e111] at o32
  replace o33 := Ar.new (z := .inr (0, 49)) o33
  rw [e111] at o33
  replace o34 := Ar.new (z := .inr (0, 49)) o34
  rw [e111] at o34
  replace o35 := Ar.new (z := .inr (0, 49)) o35
  rw [e111] at o35
  replace o36 := Ar.new (z := .inr (0, 49)) o36
  rw [e111] at o36
  replace o37 := Ar.new (z := .inr (0, 49)) o37
  rw [e111] at o37
  replace o38 := Ar.new (z := .inr (0, 49)) o38
  rw [e111] at o38
  replace o39 := Ar.new (z := .inr (0, 49)) o39
  rw [e111] at o39
  replace o40 := Ar.new (z := .inr (0, 49)) o40
  rw [e111] at o40
  replace o41 := Ar.new (z := .inr (0, 49)) o41
  rw [e111] at o41
  replace o42 := Ar.new (z := .inr (0, 49)) o42
  rw [e111] at o42
  replace o43 := Ar.new (z := .inr (0, 49)) o43
  rw [e111] at o43
  replace o44 := Ar.new (z := .inr (0, 49)) o44
  rw [e111] at o44
  replace o45 := Ar.new (z := .inr (0, 49)) o45
  rw [e111] at o45
  replace o46 := Ar.new (z := .inr (0, 49)) o46
  rw [e111] at o46
  replace hn := hn_new (z := .inr (0, 49)) hn
  rw [e111] at hn
  rw [e111] at o47
  show Rn g mdX12_init 453 [some (.ref a)] [.ref (hN h + 47), .ref a] H111 48 6160 none (i_Mo a h)
  refine o_putRF (pc := 453) (ci := 11) (k := 72) (by decide) (by decide) rfl lgX12_163 rfl ⟨rfl, rfl⟩ dX12_init_453 oa.1 oa.2 (Or.inl o47.1) ?_
  generalize e112 : sR H111 a 72 (some (hN h + 47)) = H112
  replace oa := Ob.sR (i := a) (j := 72) (x := some (hN h + 47)) oa
  rw [e112] at oa
  replace o0 := Ar.sR (i := a) (j := 72) (x := some (hN h + 47)) o0
  rw [e112] at o0
  replace o1 := Ar.sR (i := a) (j := 72) (x := some (hN h + 47)) o1
  rw [e112] at o1
  replace o2 := Ar.sR (i := a) (j := 72) (x := some (hN h + 47)) o2
  rw [e112] at o2
  replace o3 := Ar.sR (i := a) (j := 72) (x := some (hN h + 47)) o3
  rw [e112] at o3
  replace o4 := Ar.sR (i := a) (j := 72) (x := some (hN h + 47)) o4
  rw [e112] at o4
  replace o5 := Ar.sR (i := a) (j := 72) (x := some (hN h + 47)) o5
  rw [e112] at o5
  replace o6 := Ar.sR (i := a) (j := 72) (x := some (hN h + 47)) o6
  rw [e112] at o6
  replace o7 := Ar.sR (i := a) (j := 72) (x := some (hN h + 47)) o7
  rw [e112] at o7
  replace o8 := Ar.sR (i := a) (j := 72) (x := some (hN h + 47)) o8
  rw [e112] at o8
  replace o9 := Ar.sR (i := a) (j := 72) (x := some (hN h + 47)) o9
  rw [e112] at o9
  replace o10 := Ar.sR (i := a) (j := 72) (x := some (hN h + 47)) o10
  rw [e112] at o10
  replace o11 := Ar.sR (i := a) (j := 72) (x := some (hN h + 47)) o11
  rw [e112] at o11
  replace o12 := Ar.sR (i := a) (j := 72) (x := some (hN h + 47)) o12
  rw [e112] at o12
  replace o13 := Ar.sR (i := a) (j := 72) (x := some (hN h + 47)) o13
  rw [e112] at o13
  replace o14 := Ar.sR (i := a) (j := 72) (x := some (hN h + 47)) o14
  rw [e112] at o14
  replace o15 := Ar.sR (i := a) (j := 72) (x := some (hN h + 47)) o15
  rw [e112] at o15
  replace o16 := Ar.sR (i := a) (j := 72) (x := some (hN h + 47)) o16
  rw [e112] at o16
  replace o17 := Ar.sR (i := a) (j := 72) (x := some (hN h + 47)) o17
  rw [e112] at o17
  replace o18 := Ar.sR (i := a) (j := 72) (x := some (hN h + 47)) o18
  rw [e112] at o18
  replace o19 := Ar.sR (i := a) (j := 72) (x := some (hN h + 47)) o19
  rw [e112] at o19
  replace o20 := Ar.sR (i := a) (j := 72) (x := some (hN h + 47)) o20
  rw [e112] at o20
  replace o21 := Ar.sR (i := a) (j := 72) (x := some (hN h + 47)) o21
  rw [e112] at o21
  replace o22 := Ar.sR (i := a) (j := 72) (x := some (hN h + 47)) o22
  rw [e112] at o22
  replace o23 := Ar.sR (i := a) (j := 72) (x := some (hN h + 47)) o23
  rw [e112] at o23
  replace o24 := Ar.sR (i := a) (j := 72) (x := some (hN h + 47)) o24
  rw [e112] at o24
  replace o25 := Ar.sR (i := a) (j := 72) (x := some (hN h + 47)) o25
  rw [e112] at o25
  replace o26 := Ar.sR (i := a) (j := 72) (x := some (hN h + 47)) o26
  rw [e112] at o26
  replace o27 := Ar.sR (i := a) (j := 72) (x := some (hN h + 47)) o27
  rw [e112] at o27
  replace o28 := Ar.sR (i := a) (j := 72) (x := some (hN h + 47)) o28
  rw [e112] at o28
  replace o29 := Ar.sR (i := a) (j := 72) (x := some (hN h + 47)) o29
  rw [e112] at o29
  replace o30 := Ar.sR (i := a) (j := 72) (x := some (hN h + 47)) o30
  rw [e112] at o30
  replace o31 := Ar.sR (i := a) (j := 72) (x := some (hN h + 47)) o31
  rw [e112] at o31
  replace o32 := Ar.sR (i := a) (j := 72) (x := some (hN h + 47)) o32
  rw [e112] at o32
  replace o33 := Ar.sR (i := a) (j := 72) (x := some (hN h + 47)) o33
  rw [e112] at o33
  replace o34 := Ar.sR (i := a) (j := 72) (x := some (hN h + 47)) o34
  rw [e112] at o34
  replace o35 := Ar.sR (i := a) (j := 72) (x := some (hN h + 47)) o35
  rw [e112] at o35
  replace o36 := Ar.sR (i := a) (j := 72) (x := some (hN h + 47)) o36
  rw [e112] at o36
  replace o37 := Ar.sR (i := a) (j := 72) (x := some (hN h + 47)) o37
  rw [e112] at o37
  replace o38 := Ar.sR (i := a) (j := 72) (x := some (hN h + 47)) o38
  rw [e112] at o38
  replace o39 := Ar.sR (i := a) (j := 72) (x := some (hN h + 47)) o39
  rw [e112] at o39
  replace o40 := Ar.sR (i := a) (j := 72) (x := some (hN h + 47)) o40
  rw [e112] at o40
  replace o41 := Ar.sR (i := a) (j := 72) (x := some (hN h + 47)) o41
  rw [e112] at o41
  replace o42 := Ar.sR (i := a) (j := 72) (x := some (hN h + 47)) o42
  rw [e112] at o42
  replace o43 := Ar.sR (i := a) (j := 72) (x := some (hN h + 47)) o43
  rw [e112] at o43
  replace o44 := Ar.sR (i := a) (j := 72) (x := some (hN h + 47)) o44
  rw [e112] at o44
  replace o45 := Ar.sR (i := a) (j := 72) (x := some (hN h + 47)) o45
  rw [e112] at o45
  replace o46 := Ar.sR (i := a) (j := 72) (x := some (hN h + 47)) o46
  rw [e112] at o46
  replace o47 := Ar.sR (i := a) (j := 72) (x := some (hN h + 47)) o47
  rw [e112] at o47
  replace hn := hn_sR (i := a) (j := 72) (x := some (hN h + 47)) hn
  rw [e112] at hn
  show Rn g mdX12_init 456 [some (.ref a)] [] H112 48 6160 none (i_Mo a h)
  refine o_aload_n (pc := 456) dX12_init_456 rfl ?_
  refine o_bipush (pc := 457) (v := 49) dX12_init_457 rfl ?_
  refine o_newaX (pc := 459) (t := 0) (N := 49) (q := hN h + 48) hn (by decide) rfl la0 dX12_init_459 (by decide) rfl (by decide) (by omega) (by decide) (by decide) (okLs_ref (Or.inl oa.1) okLs_nil) (okSt_ref (Or.inl oa.1) okSt_nil) ?_
  have o48 := Ar.madeX (h := H112) (t := 0) (n := 49) hn
  generalize e113 : hNew H112 (.inr (0, 49)) = H113
  replace oa := Ob.new (z := .inr (0, 49)) oa
  rw [e113] at oa
  replace o0 := Ar.new (z := .inr (0, 49)) o0
  rw [e113] at o0
  replace o1 := Ar.new (z := .inr (0, 49)) o1
  rw [e113] at o1
  replace o2 := Ar.new (z := .inr (0, 49)) o2
  rw [e113] at o2
  replace o3 := Ar.new (z := .inr (0, 49)) o3
  rw [e113] at o3
  replace o4 := Ar.new (z := .inr (0, 49)) o4
  rw [e113] at o4
  replace o5 := Ar.new (z := .inr (0, 49)) o5
  rw [e113] at o5
  replace o6 := Ar.new (z := .inr (0, 49)) o6
  rw [e113] at o6
  replace o7 := Ar.new (z := .inr (0, 49)) o7
  rw [e113] at o7
  replace o8 := Ar.new (z := .inr (0, 49)) o8
  rw [e113] at o8
  replace o9 := Ar.new (z := .inr (0, 49)) o9
  rw [e113] at o9
  replace o10 := Ar.new (z := .inr (0, 49)) o10
  rw [e113] at o10
  replace o11 := Ar.new (z := .inr (0, 49)) o11
  rw [e113] at o11
  replace o12 := Ar.new (z := .inr (0, 49)) o12
  rw [e113] at o12
  replace o13 := Ar.new (z := .inr (0, 49)) o13
  rw [e113] at o13
  replace o14 := Ar.new (z := .inr (0, 49)) o14
  rw [e113] at o14
  replace o15 := Ar.new (z := .inr (0, 49)) o15
  rw [e113] at o15
  replace o16 := Ar.new (z := .inr (0, 49)) o16
  rw [e113] at o16
  replace o17 := Ar.new (z := .inr (0, 49)) o17
  rw [e113] at o17
  replace o18 := Ar.new (z := .inr (0, 49)) o18
  rw [e113] at o18
  replace o19 := Ar.new (z := .inr (0, 49)) o19
  rw [e113] at o19
  replace o20 := Ar.new (z := .inr (0, 49)) o20
  rw [e113] at o20
  replace o21 := Ar.new (z := .inr (0, 49)) o21
  rw [e113] at o21
  replace o22 := Ar.new (z := .inr (0, 49)) o22
  rw [e113] at o22
  replace o23 := Ar.new (z := .inr (0, 49)) o23
  rw [e113] at o23
  replace o24 := Ar.new (z := .inr (0, 49)) o24
  rw [e113] at o24
  replace o25 := Ar.new (z := .inr (0, 49)) o25
  rw [e113] at o25
  replace o26 := Ar.new (z := .inr (0, 49)) o26
  rw [e113] at o26
  replace o27 := Ar.new (z := .inr (0, 49)) o27
  rw [e113] at o27
  replace o28 := Ar.new (z := .inr (0, 49)) o28
  rw [e113] at o28
  replace o29 := Ar.new (z := .inr (0, 49)) o29
  rw [e113] at o29
  replace o30 := Ar.new (z := .inr (0, 49)) o30
  rw [e113] at o30
  replace o31 := Ar.new (z := .inr (0, 49)) o31
  rw [e113] at o31
  replace o32 := Ar.new (z := .inr (0, 49)) o32
  rw [e113] at o32
  replace o33 := Ar.new (z := .inr (0, 49)) o33
  rw [e113] at o33
  replace o34 := Ar.new (z := .inr (0, 49)) o34
  rw [e113] at o34
  replace o35 := Ar.new (z := .inr (0, 49)) o35
  rw [e113] at o35
  replace o36 := Ar.new (z := .inr (0, 49)) o36
  rw [e113] at o36
  replace o37 := Ar.new (z := .inr (0, 49)) o37
  rw [e113] at o37
  replace o38 := Ar.new (z := .inr (0, 49)) o38
  rw [e113] at o38
  replace o39 := Ar.new (z := .inr (0, 49)) o39
  rw [e113] at o39
  replace o40 := Ar.new (z := .inr (0, 49)) o40
  rw [e113] at o40
  replace o41 := Ar.new (z := .inr (0, 49)) o41
  rw [e113] at o41
  replace o42 := Ar.new (z := .inr (0, 49)) o42
  rw [e113] at o42
  replace o43 := Ar.new (z := .inr (0, 49)) o43
  rw [e113] at o43
  replace o44 := Ar.new (z := .inr (0, 49)) o44
  rw [e113] at o44
  replace o45 := Ar.new (z := .inr (0, 49)) o45
  rw [e113] at o45
  replace o46 := Ar.new (z := .inr (0, 49)) o46
  rw [e113] at o46
  replace o47 := Ar.new (z := .inr (0, 49)) o47
  rw [e113] at o47
  replace hn := hn_new (z := .inr (0, 49)) hn
  rw [e113] at hn
  rw [e113] at o48
  show Rn g mdX12_init 461 [some (.ref a)] [.ref (hN h + 48), .ref a] H113 49 6209 none (i_Mo a h)
  refine o_putRF (pc := 461) (ci := 11) (k := 73) (by decide) (by decide) rfl lgX12_166 rfl ⟨rfl, rfl⟩ dX12_init_461 oa.1 oa.2 (Or.inl o48.1) ?_
  generalize e114 : sR H113 a 73 (some (hN h + 48)) = H114
  replace oa := Ob.sR (i := a) (j := 73) (x := some (hN h + 48)) oa
  rw [e114] at oa
  replace o0 := Ar.sR (i := a) (j := 73) (x := some (hN h + 48)) o0
  rw [e114] at o0
  replace o1 := Ar.sR (i := a) (j := 73) (x := some (hN h + 48)) o1
  rw [e114] at o1
  replace o2 := Ar.sR (i := a) (j := 73) (x := some (hN h + 48)) o2
  rw [e114] at o2
  replace o3 := Ar.sR (i := a) (j := 73) (x := some (hN h + 48)) o3
  rw [e114] at o3
  replace o4 := Ar.sR (i := a) (j := 73) (x := some (hN h + 48)) o4
  rw [e114] at o4
  replace o5 := Ar.sR (i := a) (j := 73) (x := some (hN h + 48)) o5
  rw [e114] at o5
  replace o6 := Ar.sR (i := a) (j := 73) (x := some (hN h + 48)) o6
  rw [e114] at o6
  replace o7 := Ar.sR (i := a) (j := 73) (x := some (hN h + 48)) o7
  rw [e114] at o7
  replace o8 := Ar.sR (i := a) (j := 73) (x := some (hN h + 48)) o8
  rw [e114] at o8
  replace o9 := Ar.sR (i := a) (j := 73) (x := some (hN h + 48)) o9
  rw [e114] at o9
  replace o10 := Ar.sR (i := a) (j := 73) (x := some (hN h + 48)) o10
  rw [e114] at o10
  replace o11 := Ar.sR (i := a) (j := 73) (x := some (hN h + 48)) o11
  rw [e114] at o11
  replace o12 := Ar.sR (i := a) (j := 73) (x := some (hN h + 48)) o12
  rw [e114] at o12
  replace o13 := Ar.sR (i := a) (j := 73) (x := some (hN h + 48)) o13
  rw [e114] at o13
  replace o14 := Ar.sR (i := a) (j := 73) (x := some (hN h + 48)) o14
  rw [e114] at o14
  replace o15 := Ar.sR (i := a) (j := 73) (x := some (hN h + 48)) o15
  rw [e114] at o15
  replace o16 := Ar.sR (i := a) (j := 73) (x := some (hN h + 48)) o16
  rw [e114] at o16
  replace o17 := Ar.sR (i := a) (j := 73) (x := some (hN h + 48)) o17
  rw [e114] at o17
  replace o18 := Ar.sR (i := a) (j := 73) (x := some (hN h + 48)) o18
  rw [e114] at o18
  replace o19 := Ar.sR (i := a) (j := 73) (x := some (hN h + 48)) o19
  rw [e114] at o19
  replace o20 := Ar.sR (i := a) (j := 73) (x := some (hN h + 48)) o20
  rw [e114] at o20
  replace o21 := Ar.sR (i := a) (j := 73) (x := some (hN h + 48)) o21
  rw [e114] at o21
  replace o22 := Ar.sR (i := a) (j := 73) (x := some (hN h + 48)) o22
  rw [e114] at o22
  replace o23 := Ar.sR (i := a) (j := 73) (x := some (hN h + 48)) o23
  rw [e114] at o23
  replace o24 := Ar.sR (i := a) (j := 73) (x := some (hN h + 48)) o24
  rw [e114] at o24
  replace o25 := Ar.sR (i := a) (j := 73) (x := some (hN h + 48)) o25
  rw [e114] at o25
  replace o26 := Ar.sR (i := a) (j := 73) (x := some (hN h + 48)) o26
  rw [e114] at o26
  replace o27 := Ar.sR (i := a) (j := 73) (x := some (hN h + 48)) o27
  rw [e114] at o27
  replace o28 := Ar.sR (i := a) (j := 73) (x := some (hN h + 48)) o28
  rw [e114] at o28
  replace o29 := Ar.sR (i := a) (j := 73) (x := some (hN h + 48)) o29
  rw [e114] at o29
  replace o30 := Ar.sR (i := a) (j := 73) (x := some (hN h + 48)) o30
  rw [e114] at o30
  replace o31 := Ar.sR (i := a) (j := 73) (x := some (hN h + 48)) o31
  rw [e114] at o31
  replace o32 := Ar.sR (i := a) (j := 73) (x := some (hN h + 48)) o32
  rw [e114] at o32
  replace o33 := Ar.sR (i := a) (j := 73) (x := some (hN h + 48)) o33
  rw [e114] at o33
  replace o34 := Ar.sR (i := a) (j := 73) (x := some (hN h + 48)) o34
  rw [e114] at o34
  replace o35 := Ar.sR (i := a) (j := 73) (x := some (hN h + 48)) o35
  rw [e114] at o35
  replace o36 := Ar.sR (i := a) (j := 73) (x := some (hN h + 48)) o36
  rw [e114] at o36
  replace o37 := Ar.sR (i := a) (j := 73) (x := some (hN h + 48)) o37
  rw [e114] at o37
  replace o38 := Ar.sR (i := a) (j := 73) (x := some (hN h + 48)) o38
  rw [e114] at o38
  replace o39 := Ar.sR (i := a) (j := 73) (x := some (hN h + 48)) o39
  rw [e114] at o39
  replace o40 := Ar.sR (i := a) (j := 73) (x := some (hN h + 48)) o40
  rw [e114] at o40
  replace o41 := Ar.sR (i := a) (j := 73) (x := some (hN h + 48)) o41
  rw [e114] at o41
  replace o42 := Ar.sR (i := a) (j := 73) (x := some (hN h + 48)) o42
  rw [e114] at o42
  replace o43 := Ar.sR (i := a) (j := 73) (x := some (hN h + 48)) o43
  rw [e114] at o43
  replace o44 := Ar.sR (i := a) (j := 73) (x := some (hN h + 48)) o44
  rw [e114] at o44
  replace o45 := Ar.sR (i := a) (j := 73) (x := some (hN h + 48)) o45
  rw [e114] at o45
  replace o46 := Ar.sR (i := a) (j := 73) (x := some (hN h + 48)) o46
  rw [e114] at o46
  replace o47 := Ar.sR (i := a) (j := 73) (x := some (hN h + 48)) o47
  rw [e114] at o47
  replace o48 := Ar.sR (i := a) (j := 73) (x := some (hN h + 48)) o48
  rw [e114] at o48
  replace hn := hn_sR (i := a) (j := 73) (x := some (hN h + 48)) hn
  rw [e114] at hn
  show Rn g mdX12_init 464 [some (.ref a)] [] H114 49 6209 none (i_Mo a h)
  refine o_aload_n (pc := 464) dX12_init_464 rfl ?_
  refine o_sipush (pc := 465) (v := 500) dX12_init_465 rfl ?_
  refine o_newaX (pc := 468) (t := 0) (N := 500) (q := hN h + 49) hn (by decide) rfl la0 dX12_init_468 (by decide) rfl (by decide) (by omega) (by decide) (by decide) (okLs_ref (Or.inl oa.1) okLs_nil) (okSt_ref (Or.inl oa.1) okSt_nil) ?_
  have o49 := Ar.madeX (h := H114) (t := 0) (n := 500) hn
  generalize e115 : hNew H114 (.inr (0, 500)) = H115
  replace oa := Ob.new (z := .inr (0, 500)) oa
  rw [e115] at oa
  replace o0 := Ar.new (z := .inr (0, 500)) o0
  rw [e115] at o0
  replace o1 := Ar.new (z := .inr (0, 500)) o1
  rw [e115] at o1
  replace o2 := Ar.new (z := .inr (0, 500)) o2
  rw [e115] at o2
  replace o3 := Ar.new (z := .inr (0, 500)) o3
  rw [e115] at o3
  replace o4 := Ar.new (z := .inr (0, 500)) o4
  rw [e115] at o4
  replace o5 := Ar.new (z := .inr (0, 500)) o5
  rw [e115] at o5
  replace o6 := Ar.new (z := .inr (0, 500)) o6
  rw [e115] at o6
  replace o7 := Ar.new (z := .inr (0, 500)) o7
  rw [e115] at o7
  replace o8 := Ar.new (z := .inr (0, 500)) o8
  rw [e115] at o8
  replace o9 := Ar.new (z := .inr (0, 500)) o9
  rw [e115] at o9
  replace o10 := Ar.new (z := .inr (0, 500)) o10
  rw [e115] at o10
  replace o11 := Ar.new (z := .inr (0, 500)) o11
  rw [e115] at o11
  replace o12 := Ar.new (z := .inr (0, 500)) o12
  rw [e115] at o12
  replace o13 := Ar.new (z := .inr (0, 500)) o13
  rw [e115] at o13
  replace o14 := Ar.new (z := .inr (0, 500)) o14
  rw [e115] at o14
  replace o15 := Ar.new (z := .inr (0, 500)) o15
  rw [e115] at o15
  replace o16 := Ar.new (z := .inr (0, 500)) o16
  rw [e115] at o16
  replace o17 := Ar.new (z := .inr (0, 500)) o17
  rw [e115] at o17
  replace o18 := Ar.new (z := .inr (0, 500)) o18
  rw [e115] at o18
  replace o19 := Ar.new (z := .inr (0, 500)) o19
  rw [e115] at o19
  replace o20 := Ar.new (z := .inr (0, 500)) o20
  rw [e115] at o20
  replace o21 := Ar.new (z := .inr (0, 500)) o21
  rw [e115] at o21
  replace o22 := Ar.new (z := .inr (0, 500)) o22
  rw [e115] at o22
  replace o23 := Ar.new (z := .inr (0, 500)) o23
  rw [e115] at o23
  replace o24 := Ar.new (z := .inr (0, 500)) o24
  rw [e115] at o24
  replace o25 := Ar.new (z := .inr (0, 500)) o25
  rw [e115] at o25
  replace o26 := Ar.new (z := .inr (0, 500)) o26
  rw [e115] at o26
  replace o27 := Ar.new (z := .inr (0, 500)) o27
  rw [e115] at o27
  replace o28 := Ar.new (z := .inr (0, 500)) o28
  rw [e115] at o28
  replace o29 := Ar.new (z := .inr (0, 500)) o29
  rw [e115] at o29
  replace o30 := Ar.new (z := .inr (0, 500)) o30
  rw [e115] at o30
  replace o31 := Ar.new (z := .inr (0, 500)) o31
  rw [e115] at o31
  replace o32 := Ar.new (z := .inr (0, 500)) o32
  rw [e115] at o32
  replace o33 := Ar.new (z := .inr (0, 500)) o33
  rw [e115] at o33
  replace o34 := Ar.new (z := .inr (0, 500)) o34
  rw [e115] at o34
  replace o35 := Ar.new (z := .inr (0, 500)) o35
  rw [e115] at o35
  replace o36 := Ar.new (z := .inr (0, 500)) o36
  rw [e115] at o36
  replace o37 := Ar.new (z := .inr (0, 500)) o37
  rw [e115] at o37
  replace o38 := Ar.new (z := .inr (0, 500)) o38
  rw [e115] at o38
  replace o39 := Ar.new (z := .inr (0, 500)) o39
  rw [e115] at o39
  replace o40 := Ar.new (z := .inr (0, 500)) o40
  rw [e115] at o40
  replace o41 := Ar.new (z := .inr (0, 500)) o41
  rw [e115] at o41
  replace o42 := Ar.new (z := .inr (0, 500)) o42
  rw [e115] at o42
  replace o43 := Ar.new (z := .inr (0, 500)) o43
  rw [e115] at o43
  replace o44 := Ar.new (z := .inr (0, 500)) o44
  rw [e115] at o44
  replace o45 := Ar.new (z := .inr (0, 500)) o45
  rw [e115] at o45
  replace o46 := Ar.new (z := .inr (0, 500)) o46
  rw [e115] at o46
  replace o47 := Ar.new (z := .inr (0, 500)) o47
  rw [e115] at o47
  replace o48 := Ar.new (z := .inr (0, 500)) o48
  rw [e115] at o48
  replace hn := hn_new (z := .inr (0, 500)) hn
  rw [e115] at hn
  rw [e115] at o49
  show Rn g mdX12_init 470 [some (.ref a)] [.ref (hN h + 49), .ref a] H115 50 6709 none (i_Mo a h)
  refine o_putRF (pc := 470) (ci := 11) (k := 74) (by decide) (by decide) rfl lgX12_169 rfl ⟨rfl, rfl⟩ dX12_init_470 oa.1 oa.2 (Or.inl o49.1) ?_
  generalize e116 : sR H115 a 74 (some (hN h + 49)) = H116
  replace oa := Ob.sR (i := a) (j := 74) (x := some (hN h + 49)) oa
  rw [e116] at oa
  replace o0 := Ar.sR (i := a) (j := 74) (x := some (hN h + 49)) o0
  rw [e116] at o0
  replace o1 := Ar.sR (i := a) (j := 74) (x := some (hN h + 49)) o1
  rw [e116] at o1
  replace o2 := Ar.sR (i := a) (j := 74) (x := some (hN h + 49)) o2
  rw [e116] at o2
  replace o3 := Ar.sR (i := a) (j := 74) (x := some (hN h + 49)) o3
  rw [e116] at o3
  replace o4 := Ar.sR (i := a) (j := 74) (x := some (hN h + 49)) o4
  rw [e116] at o4
  replace o5 := Ar.sR (i := a) (j := 74) (x := some (hN h + 49)) o5
  rw [e116] at o5
  replace o6 := Ar.sR (i := a) (j := 74) (x := some (hN h + 49)) o6
  rw [e116] at o6
  replace o7 := Ar.sR (i := a) (j := 74) (x := some (hN h + 49)) o7
  rw [e116] at o7
  replace o8 := Ar.sR (i := a) (j := 74) (x := some (hN h + 49)) o8
  rw [e116] at o8
  replace o9 := Ar.sR (i := a) (j := 74) (x := some (hN h + 49)) o9
  rw [e116] at o9
  replace o10 := Ar.sR (i := a) (j := 74) (x := some (hN h + 49)) o10
  rw [e116] at o10
  replace o11 := Ar.sR (i := a) (j := 74) (x := some (hN h + 49)) o11
  rw [e116] at o11
  replace o12 := Ar.sR (i := a) (j := 74) (x := some (hN h + 49)) o12
  rw [e116] at o12
  replace o13 := Ar.sR (i := a) (j := 74) (x := some (hN h + 49)) o13
  rw [e116] at o13
  replace o14 := Ar.sR (i := a) (j := 74) (x := some (hN h + 49)) o14
  rw [e116] at o14
  replace o15 := Ar.sR (i := a) (j := 74) (x := some (hN h + 49)) o15
  rw [e116] at o15
  replace o16 := Ar.sR (i := a) (j := 74) (x := some (hN h + 49)) o16
  rw [e116] at o16
  replace o17 := Ar.sR (i := a) (j := 74) (x := some (hN h + 49)) o17
  rw [e116] at o17
  replace o18 := Ar.sR (i := a) (j := 74) (x := some (hN h + 49)) o18
  rw [e116] at o18
  replace o19 := Ar.sR (i := a) (j := 74) (x := some (hN h + 49)) o19
  rw [e116] at o19
  replace o20 := Ar.sR (i := a) (j := 74) (x := some (hN h + 49)) o20
  rw [e116] at o20
  replace o21 := Ar.sR (i := a) (j := 74) (x := some (hN h + 49)) o21
  rw [e116] at o21
  replace o22 := Ar.sR (i := a) (j := 74) (x := some (hN h + 49)) o22
  rw [e116] at o22
  replace o23 := Ar.sR (i := a) (j := 74) (x := some (hN h + 49)) o23
  rw [e116] at o23
  replace o24 := Ar.sR (i := a) (j := 74) (x := some (hN h + 49)) o24
  rw [e116] at o24
  replace o25 := Ar.sR (i := a) (j := 74) (x := some (hN h + 49)) o25
  rw [e116] at o25
  replace o26 := Ar.sR (i := a) (j := 74) (x := some (hN h + 49)) o26
  rw [e116] at o26
  replace o27 := Ar.sR (i := a) (j := 74) (x := some (hN h + 49)) o27
  rw [e116] at o27
  replace o28 := Ar.sR (i := a) (j := 74) (x := some (hN h + 49)) o28
  rw [e116] at o28
  replace o29 := Ar.sR (i := a) (j := 74) (x := some (hN h + 49)) o29
  rw [e116] at o29
  replace o30 := Ar.sR (i := a) (j := 74) (x := some (hN h + 49)) o30
  rw [e116] at o30
  replace o31 := Ar.sR (i := a) (j := 74) (x := some (hN h + 49)) o31
  rw [e116] at o31
  replace o32 := Ar.sR (i := a) (j := 74) (x := some (hN h + 49)) o32
  rw [e116] at o32
  replace o33 := Ar.sR (i := a) (j := 74) (x := some (hN h + 49)) o33
  rw [e116] at o33
  replace o34 := Ar.sR (i := a) (j := 74) (x := some (hN h + 49)) o34
  rw [e116] at o34
  replace o35 := Ar.sR (i := a) (j := 74) (x := some (hN h + 49)) o35
  rw [e116] at o35
  replace o36 := Ar.sR (i := a) (j := 74) (x := some (hN h + 49)) o36
  rw [e116] at o36
  replace o37 := Ar.sR (i := a) (j := 74) (x := some (hN h + 49)) o37
  rw [e116] at o37
  replace o38 := Ar.sR (i := a) (j := 74) (x := some (hN h + 49)) o38
  rw [e116] at o38
  replace o39 := Ar.sR (i := a) (j := 74) (x := some (hN h + 49)) o39
  rw [e116] at o39
  replace o40 := Ar.sR (i := a) (j := 74) (x := some (hN h + 49)) o40
  rw [e116] at o40
  replace o41 := Ar.sR (i := a) (j := 74) (x := some (hN h + 49)) o41
  rw [e116] at o41
  replace o42 := Ar.sR (i := a) (j := 74) (x := some (hN h + 49)) o42
  rw [e116] at o42
  replace o43 := Ar.sR (i := a) (j := 74) (x := some (hN h + 49)) o43
  rw [e116] at o43
  replace o44 := Ar.sR (i := a) (j := 74) (x := some (hN h + 49)) o44
  rw [e116] at o44
  replace o45 := Ar.sR (i := a) (j := 74) (x := some (hN h + 49)) o45
  rw [e116] at o45
  replace o46 := Ar.sR (i := a) (j := 74) (x := some (hN h + 49)) o46
  rw [e116] at o46
  replace o47 := Ar.sR (i := a) (j := 74) (x := some (hN h + 49)) o47
  rw [e116] at o47
  replace o48 := Ar.sR (i := a) (j := 74) (x := some (hN h + 49)) o48
  rw [e116] at o48
  replace o49 := Ar.sR (i := a) (j := 74) (x := some (hN h + 49)) o49
  rw [e116] at o49
  replace hn := hn_sR (i := a) (j := 74) (x := some (hN h + 49)) hn
  rw [e116] at hn
  show Rn g mdX12_init 473 [some (.ref a)] [] H116 50 6709 none (i_Mo a h)
  refine o_aload_n (pc := 473) dX12_init_473 rfl ?_
  refine o_sipush (pc := 474) (v := 500) dX12_init_474 rfl ?_
  refine o_newaX (pc := 477) (t := 0) (N := 500) (q := hN h + 50) hn (by decide) rfl la0 dX12_init_477 (by decide) rfl (by decide) (by omega) (by decide) (by decide) (okLs_ref (Or.inl oa.1) okLs_nil) (okSt_ref (Or.inl oa.1) okSt_nil) ?_
  have o50 := Ar.madeX (h := H116) (t := 0) (n := 500) hn
  generalize e117 : hNew H116 (.inr (0, 500)) = H117
  replace oa := Ob.new (z := .inr (0, 500)) oa
  rw [e117] at oa
  replace o0 := Ar.new (z := .inr (0, 500)) o0
  rw [e117] at o0
  replace o1 := Ar.new (z := .inr (0, 500)) o1
  rw [e117] at o1
  replace o2 := Ar.new (z := .inr (0, 500)) o2
  rw [e117] at o2
  replace o3 := Ar.new (z := .inr (0, 500)) o3
  rw [e117] at o3
  replace o4 := Ar.new (z := .inr (0, 500)) o4
  rw [e117] at o4
  replace o5 := Ar.new (z := .inr (0, 500)) o5
  rw [e117] at o5
  replace o6 := Ar.new (z := .inr (0, 500)) o6
  rw [e117] at o6
  replace o7 := Ar.new (z := .inr (0, 500)) o7
  rw [e117] at o7
  replace o8 := Ar.new (z := .inr (0, 500)) o8
  rw [e117] at o8
  replace o9 := Ar.new (z := .inr (0, 500)) o9
  rw [e117] at o9
  replace o10 := Ar.new (z := .inr (0, 500)) o10
  rw [e117] at o10
  replace o11 := Ar.new (z := .inr (0, 500)) o11
  rw [e117] at o11
  replace o12 := Ar.new (z := .inr (0, 500)) o12
  rw [e117] at o12
  replace o13 := Ar.new (z := .inr (0, 500)) o13
  rw [e117] at o13
  replace o14 := Ar.new (z := .inr (0, 500)) o14
  rw [e117] at o14
  replace o15 := Ar.new (z := .inr (0, 500)) o15
  rw [e117] at o15
  replace o16 := Ar.new (z := .inr (0, 500)) o16
  rw [e117] at o16
  replace o17 := Ar.new (z := .inr (0, 500)) o17
  rw [e117] at o17
  replace o18 := Ar.new (z := .inr (0, 500)) o18
  rw [e117] at o18
  replace o19 := Ar.new (z := .inr (0, 500)) o19
  rw [e117] at o19
  replace o20 := Ar.new (z := .inr (0, 500)) o20
  rw [e117] at o20
  replace o21 := Ar.new (z := .inr (0, 500)) o21
  rw [e117] at o21
  replace o22 := Ar.new (z := .inr (0, 500)) o22
  rw [e117] at o22
  replace o23 := Ar.new (z := .inr (0, 500)) o23
  rw [e117] at o23
  replace o24 := Ar.new (z := .inr (0, 500)) o24
  rw [e117] at o24
  replace o25 := Ar.new (z := .inr (0, 500)) o25
  rw [e117] at o25
  replace o26 := Ar.new (z := .inr (0, 500)) o26
  rw [e117] at o26
  replace o27 := Ar.new (z := .inr (0, 500)) o27
  rw [e117] at o27
  replace o28 := Ar.new (z := .inr (0, 500)) o28
  rw [e117] at o28
  replace o29 := Ar.new (z := .inr (0, 500)) o29
  rw [e117] at o29
  replace o30 := Ar.new (z := .inr (0, 500)) o30
  rw [e117] at o30
  replace o31 := Ar.new (z := .inr (0, 500)) o31
  rw [e117] at o31
  replace o32 := Ar.new (z := .inr (0, 500)) o32
  rw [e117] at o32
  replace o33 := Ar.new (z := .inr (0, 500)) o33
  rw [e117] at o33
  replace o34 := Ar.new (z := .inr (0, 500)) o34
  rw [e117] at o34
  replace o35 := Ar.new (z := .inr (0, 500)) o35
  rw [e117] at o35
  replace o36 := Ar.new (z := .inr (0, 500)) o36
  rw [e117] at o36
  replace o37 := Ar.new (z := .inr (0, 500)) o37
  rw [e117] at o37
  replace o38 := Ar.new (z := .inr (0, 500)) o38
  rw [e117] at o38
  replace o39 := Ar.new (z := .inr (0, 500)) o39
  rw [e117] at o39
  replace o40 := Ar.new (z := .inr (0, 500)) o40
  rw [e117] at o40
  replace o41 := Ar.new (z := .inr (0, 500)) o41
  rw [e117] at o41
  replace o42 := Ar.new (z := .inr (0, 500)) o42
  rw [e117] at o42
  replace o43 := Ar.new (z := .inr (0, 500)) o43
  rw [e117] at o43
  replace o44 := Ar.new (z := .inr (0, 500)) o44
  rw [e117] at o44
  replace o45 := Ar.new (z := .inr (0, 500)) o45
  rw [e117] at o45
  replace o46 := Ar.new (z := .inr (0, 500)) o46
  rw [e117] at o46
  replace o47 := Ar.new (z := .inr (0, 500)) o47
  rw [e117] at o47
  replace o48 := Ar.new (z := .inr (0, 500)) o48
  rw [e117] at o48
  replace o49 := Ar.new (z := .inr (0, 500)) o49
  rw [e117] at o49
  replace hn := hn_new (z := .inr (0, 500)) hn
  rw [e117] at hn
  rw [e117] at o50
  show Rn g mdX12_init 479 [some (.ref a)] [.ref (hN h + 50), .ref a] H117 51 7209 none (i_Mo a h)
  refine o_putRF (pc := 479) (ci := 11) (k := 75) (by decide) (by decide) rfl lgX12_172 rfl ⟨rfl, rfl⟩ dX12_init_479 oa.1 oa.2 (Or.inl o50.1) ?_
  generalize e118 : sR H117 a 75 (some (hN h + 50)) = H118
  replace oa := Ob.sR (i := a) (j := 75) (x := some (hN h + 50)) oa
  rw [e118] at oa
  replace o0 := Ar.sR (i := a) (j := 75) (x := some (hN h + 50)) o0
  rw [e118] at o0
  replace o1 := Ar.sR (i := a) (j := 75) (x := some (hN h + 50)) o1
  rw [e118] at o1
  replace o2 := Ar.sR (i := a) (j := 75) (x := some (hN h + 50)) o2
  rw [e118] at o2
  replace o3 := Ar.sR (i := a) (j := 75) (x := some (hN h + 50)) o3
  rw [e118] at o3
  replace o4 := Ar.sR (i := a) (j := 75) (x := some (hN h + 50)) o4
  rw [e118] at o4
  replace o5 := Ar.sR (i := a) (j := 75) (x := some (hN h + 50)) o5
  rw [e118] at o5
  replace o6 := Ar.sR (i := a) (j := 75) (x := some (hN h + 50)) o6
  rw [e118] at o6
  replace o7 := Ar.sR (i := a) (j := 75) (x := some (hN h + 50)) o7
  rw [e118] at o7
  replace o8 := Ar.sR (i := a) (j := 75) (x := some (hN h + 50)) o8
  rw [e118] at o8
  replace o9 := Ar.sR (i := a) (j := 75) (x := some (hN h + 50)) o9
  rw [e118] at o9
  replace o10 := Ar.sR (i := a) (j := 75) (x := some (hN h + 50)) o10
  rw [e118] at o10
  replace o11 := Ar.sR (i := a) (j := 75) (x := some (hN h + 50)) o11
  rw [e118] at o11
  replace o12 := Ar.sR (i := a) (j := 75) (x := some (hN h + 50)) o12
  rw [e118] at o12
  replace o13 := Ar.sR (i := a) (j := 75) (x := some (hN h + 50)) o13
  rw [e118] at o13
  replace o14 := Ar.sR (i := a) (j := 75) (x := some (hN h + 50)) o14
  rw [e118] at o14
  replace o15 := Ar.sR (i := a) (j := 75) (x := some (hN h + 50)) o15
  rw [e118] at o15
  replace o16 := Ar.sR (i := a) (j := 75) (x := some (hN h + 50)) o16
  rw [e118] at o16
  replace o17 := Ar.sR (i := a) (j := 75) (x := some (hN h + 50)) o17
  rw [e118] at o17
  replace o18 := Ar.sR (i := a) (j := 75) (x := some (hN h + 50)) o18
  rw [e118] at o18
  replace o19 := Ar.sR (i := a) (j := 75) (x := some (hN h + 50)) o19
  rw [e118] at o19
  replace o20 := Ar.sR (i := a) (j := 75) (x := some (hN h + 50)) o20
  rw [e118] at o20
  replace o21 := Ar.sR (i := a) (j := 75) (x := some (hN h + 50)) o21
  rw [e118] at o21
  replace o22 := Ar.sR (i := a) (j := 75) (x := some (hN h + 50)) o22
  rw [e118] at o22
  replace o23 := Ar.sR (i := a) (j := 75) (x := some (hN h + 50)) o23
  rw [e118] at o23
  replace o24 := Ar.sR (i := a) (j := 75) (x := some (hN h + 50)) o24
  rw [e118] at o24
  replace o25 := Ar.sR (i := a) (j := 75) (x := some (hN h + 50)) o25
  rw [e118] at o25
  replace o26 := Ar.sR (i := a) (j := 75) (x := some (hN h + 50)) o26
  rw [e118] at o26
  replace o27 := Ar.sR (i := a) (j := 75) (x := some (hN h + 50)) o27
  rw [e118] at o27
  replace o28 := Ar.sR (i := a) (j := 75) (x := some (hN h + 50)) o28
  rw [e118] at o28
  replace o29 := Ar.sR (i := a) (j := 75) (x := some (hN h + 50)) o29
  rw [e118] at o29
  replace o30 := Ar.sR (i := a) (j := 75) (x := some (hN h + 50)) o30
  rw [e118] at o30
  replace o31 := Ar.sR (i := a) (j := 75) (x := some (hN h + 50)) o31
  rw [e118] at o31
  replace o32 := Ar.sR (i := a) (j := 75) (x := some (hN h + 50)) o32
  rw [e118] at o32
  replace o33 := Ar.sR (i := a) (j := 75) (x := some (hN h + 50)) o33
  rw [e118] at o33
  replace o34 := Ar.sR (i := a) (j := 75) (x := some (hN h + 50)) o34
  rw [e118] at o34
  replace o35 := Ar.sR (i := a) (j := 75) (x := some (hN h + 50)) o35
  rw [e118] at o35
  replace o36 := Ar.sR (i := a) (j := 75) (x := some (hN h + 50)) o36
  rw [e118] at o36
  replace o37 := Ar.sR (i := a) (j := 75) (x := some (hN h + 50)) o37
  rw [e118] at o37
  replace o38 := Ar.sR (i := a) (j := 75) (x := some (hN h + 50)) o38
  rw [e118] at o38
  replace o39 := Ar.sR (i := a) (j := 75) (x := some (hN h + 50)) o39
  rw [e118] at o39
  replace o40 := Ar.sR (i := a) (j := 75) (x := some (hN h + 50)) o40
  rw [e118] at o40
  replace o41 := Ar.sR (i := a) (j := 75) (x := some (hN h + 50)) o41
  rw [e118] at o41
  replace o42 := Ar.sR (i := a) (j := 75) (x := some (hN h + 50)) o42
  rw [e118] at o42
  replace o43 := Ar.sR (i := a) (j := 75) (x := some (hN h + 50)) o43
  rw [e118] at o43
  replace o44 := Ar.sR (i := a) (j := 75) (x := some (hN h + 50)) o44
  rw [e118] at o44
  replace o45 := Ar.sR (i := a) (j := 75) (x := some (hN h + 50)) o45
  rw [e118] at o45
  replace o46 := Ar.sR (i := a) (j := 75) (x := some (hN h + 50)) o46
  rw [e118] at o46
  replace o47 := Ar.sR (i := a) (j := 75) (x := some (hN h + 50)) o47
  rw [e118] at o47
  replace o48 := Ar.sR (i := a) (j := 75) (x := some (hN h + 50)) o48
  rw [e118] at o48
  replace o49 := Ar.sR (i := a) (j := 75) (x := some (hN h + 50)) o49
  rw [e118] at o49
  replace o50 := Ar.sR (i := a) (j := 75) (x := some (hN h + 50)) o50
  rw [e118] at o50
  replace hn := hn_sR (i := a) (j := 75) (x := some (hN h + 50)) hn
  rw [e118] at hn
  show Rn g mdX12_init 482 [some (.ref a)] [] H118 51 7209 none (i_Mo a h)
  refine o_aload_n (pc := 482) dX12_init_482 rfl ?_
  refine o_sipush (pc := 483) (v := 279) dX12_init_483 rfl ?_
  refine o_newaX (pc := 486) (t := 0) (N := 279) (q := hN h + 51) hn (by decide) rfl la0 dX12_init_486 (by decide) rfl (by decide) (by omega) (by decide) (by decide) (okLs_ref (Or.inl oa.1) okLs_nil) (okSt_ref (Or.inl oa.1) okSt_nil) ?_
  have o51 := Ar.madeX (h := H118) (t := 0) (n := 279) hn
  generalize e119 : hNew H118 (.inr (0, 279)) = H119
  replace oa := Ob.new (z := .inr (0, 279)) oa
  rw [e119] at oa
  replace o0 := Ar.new (z := .inr (0, 279)) o0
  rw [e119] at o0
  replace o1 := Ar.new (z := .inr (0, 279)) o1
  rw [e119] at o1
  replace o2 := Ar.new (z := .inr (0, 279)) o2
  rw [e119] at o2
  replace o3 := Ar.new (z := .inr (0, 279)) o3
  rw [e119] at o3
  replace o4 := Ar.new (z := .inr (0, 279)) o4
  rw [e119] at o4
  replace o5 := Ar.new (z := .inr (0, 279)) o5
  rw [e119] at o5
  replace o6 := Ar.new (z := .inr (0, 279)) o6
  rw [e119] at o6
  replace o7 := Ar.new (z := .inr (0, 279)) o7
  rw [e119] at o7
  replace o8 := Ar.new (z := .inr (0, 279)) o8
  rw [e119] at o8
  replace o9 := Ar.new (z := .inr (0, 279)) o9
  rw [e119] at o9
  replace o10 := Ar.new (z := .inr (0, 279)) o10
  rw [e119] at o10
  replace o11 := Ar.new (z := .inr (0, 279)) o11
  rw [e119] at o11
  replace o12 := Ar.new (z := .inr (0, 279)) o12
  rw [e119] at o12
  replace o13 := Ar.new (z := .inr (0, 279)) o13
  rw [e119] at o13
  replace o14 := Ar.new (z := .inr (0, 279)) o14
  rw [e119] at o14
  replace o15 := Ar.new (z := .inr (0, 279)) o15
  rw [e119] at o15
  replace o16 := Ar.new (z := .inr (0, 279)) o16
  rw [e119] at o16
  replace o17 := Ar.new (z := .inr (0, 279)) o17
  rw [e119] at o17
  replace o18 := Ar.new (z := .inr (0, 279)) o18
  rw [e119] at o18
  replace o19 := Ar.new (z := .inr (0, 279)) o19
  rw [e119] at o19
  replace o20 := Ar.new (z := .inr (0, 279)) o20
  rw [e119] at o20
  replace o21 := Ar.new (z := .inr (0, 279)) o21
  rw [e119] at o21
  replace o22 := Ar.new (z := .inr (0, 279)) o22
  rw [e119] at o22
  replace o23 := Ar.new (z := .inr (0, 279)) o23
  rw [e119] at o23
  replace o24 := Ar.new (z := .inr (0, 279)) o24
  rw [e119] at o24
  replace o25 := Ar.new (z := .inr (0, 279)) o25
  rw [e119] at o25
  replace o26 := Ar.new (z := .inr (0, 279)) o26
  rw [e119] at o26
  replace o27 := Ar.new (z := .inr (0, 279)) o27
  rw [e119] at o27
  replace o28 := Ar.new (z := .inr (0, 279)) o28
  rw [e119] at o28
  replace o29 := Ar.new (z := .inr (0, 279)) o29
  rw [e119] at o29
  replace o30 := Ar.new (z := .inr (0, 279)) o30
  rw [e119] at o30
  replace o31 := Ar.new (z := .inr (0, 279)) o31
  rw [e119] at o31
  replace o32 := Ar.new (z := .inr (0, 279)) o32
  rw [e119] at o32
  replace o33 := Ar.new (z := .inr (0, 279)) o33
  rw [e119] at o33
  replace o34 := Ar.new (z := .inr (0, 279)) o34
  rw [e119] at o34
  replace o35 := Ar.new (z := .inr (0, 279)) o35
  rw [e119] at o35
  replace o36 := Ar.new (z := .inr (0, 279)) o36
  rw [e119] at o36
  replace o37 := Ar.new (z := .inr (0, 279)) o37
  rw [e119] at o37
  replace o38 := Ar.new (z := .inr (0, 279)) o38
  rw [e119] at o38
  replace o39 := Ar.new (z := .inr (0, 279)) o39
  rw [e119] at o39
  replace o40 := Ar.new (z := .inr (0, 279)) o40
  rw [e119] at o40
  replace o41 := Ar.new (z := .inr (0, 279)) o41
  rw [e119] at o41
  replace o42 := Ar.new (z := .inr (0, 279)) o42
  rw [e119] at o42
  replace o43 := Ar.new (z := .inr (0, 279)) o43
  rw [e119] at o43
  replace o44 := Ar.new (z := .inr (0, 279)) o44
  rw [e119] at o44
  replace o45 := Ar.new (z := .inr (0, 279)) o45
  rw [e119] at o45
  replace o46 := Ar.new (z := .inr (0, 279)) o46
  rw [e119] at o46
  replace o47 := Ar.new (z := .inr (0, 279)) o47
  rw [e119] at o47
  replace o48 := Ar.new (z := .inr (0, 279)) o48
  rw [e119] at o48
  replace o49 := Ar.new (z := .inr (0, 279)) o49
  rw [e119] at o49
  replace o50 := Ar.new (z := .inr (0, 279)) o50
  rw [e119] at o50
  replace hn := hn_new (z := .inr (0, 279)) hn
  rw [e119] at hn
  rw [e119] at o51
  show Rn g mdX12_init 488 [some (.ref a)] [.ref (hN h + 51), .ref a] H119 52 7488 none (i_Mo a h)
  refine o_putRF (pc := 488) (ci := 11) (k := 76) (by decide) (by decide) rfl lgX12_175 rfl ⟨rfl, rfl⟩ dX12_init_488 oa.1 oa.2 (Or.inl o51.1) ?_
  generalize e120 : sR H119 a 76 (some (hN h + 51)) = H120
  replace oa := Ob.sR (i := a) (j := 76) (x := some (hN h + 51)) oa
  rw [e120] at oa
  replace o0 := Ar.sR (i := a) (j := 76) (x := some (hN h + 51)) o0
  rw [e120] at o0
  replace o1 := Ar.sR (i := a) (j := 76) (x := some (hN h + 51)) o1
  rw [e120] at o1
  replace o2 := Ar.sR (i := a) (j := 76) (x := some (hN h + 51)) o2
  rw [e120] at o2
  replace o3 := Ar.sR (i := a) (j := 76) (x := some (hN h + 51)) o3
  rw [e120] at o3
  replace o4 := Ar.sR (i := a) (j := 76) (x := some (hN h + 51)) o4
  rw [e120] at o4
  replace o5 := Ar.sR (i := a) (j := 76) (x := some (hN h + 51)) o5
  rw [e120] at o5
  replace o6 := Ar.sR (i := a) (j := 76) (x := some (hN h + 51)) o6
  rw [e120] at o6
  replace o7 := Ar.sR (i := a) (j := 76) (x := some (hN h + 51)) o7
  rw [e120] at o7
  replace o8 := Ar.sR (i := a) (j := 76) (x := some (hN h + 51)) o8
  rw [e120] at o8
  replace o9 := Ar.sR (i := a) (j := 76) (x := some (hN h + 51)) o9
  rw [e120] at o9
  replace o10 := Ar.sR (i := a) (j := 76) (x := some (hN h + 51)) o10
  rw [e120] at o10
  replace o11 := Ar.sR (i := a) (j := 76) (x := some (hN h + 51)) o11
  rw [e120] at o11
  replace o12 := Ar.sR (i := a) (j := 76) (x := some (hN h + 51)) o12
  rw [e120] at o12
  replace o13 := Ar.sR (i := a) (j := 76) (x := some (hN h + 51)) o13
  rw [e120] at o13
  replace o14 := Ar.sR (i := a) (j := 76) (x := some (hN h + 51)) o14
  rw [e120] at o14
  replace o15 := Ar.sR (i := a) (j := 76) (x := some (hN h + 51)) o15
  rw [e120] at o15
  replace o16 := Ar.sR (i := a) (j := 76) (x := some (hN h + 51)) o16
  rw [e120] at o16
  replace o17 := Ar.sR (i := a) (j := 76) (x := some (hN h + 51)) o17
  rw [e120] at o17
  replace o18 := Ar.sR (i := a) (j := 76) (x := some (hN h + 51)) o18
  rw [e120] at o18
  replace o19 := Ar.sR (i := a) (j := 76) (x := some (hN h + 51)) o19
  rw [e120] at o19
  replace o20 := Ar.sR (i := a) (j := 76) (x := some (hN h + 51)) o20
  rw [e120] at o20
  replace o21 := Ar.sR (i := a) (j := 76) (x := some (hN h + 51)) o21
  rw [e120] at o21
  replace o22 := Ar.sR (i := a) (j := 76) (x := some (hN h + 51)) o22
  rw [e120] at o22
  replace o23 := Ar.sR (i := a) (j := 76) (x := some (hN h + 51)) o23
  rw [e120] at o23
  replace o24 := Ar.sR (i := a) (j := 76) (x := some (hN h + 51)) o24
  rw [e120] at o24
  replace o25 := Ar.sR (i := a) (j := 76) (x := some (hN h + 51)) o25
  rw [e120] at o25
  replace o26 := Ar.sR (i := a) (j := 76) (x := some (hN h + 51)) o26
  rw [e120] at o26
  replace o27 := Ar.sR (i := a) (j := 76) (x := some (hN h + 51)) o27
  rw [e120] at o27
  replace o28 := Ar.sR (i := a) (j := 76) (x := some (hN h + 51)) o28
  rw [e120] at o28
  replace o29 := Ar.sR (i := a) (j := 76) (x := some (hN h + 51)) o29
  rw [e120] at o29
  replace o30 := Ar.sR (i := a) (j := 76) (x := some (hN h + 51)) o30
  rw [e120] at o30
  replace o31 := Ar.sR (i := a) (j := 76) (x := some (hN h + 51)) o31
  rw [e120] at o31
  replace o32 := Ar.sR (i := a) (j := 76) (x := some (hN h + 51)) o32
  rw [e120] at o32
  replace o33 := Ar.sR (i := a) (j := 76) (x := some (hN h + 51)) o33
  rw [e120] at o33
  replace o34 := Ar.sR (i := a) (j := 76) (x := some (hN h + 51)) o34
  rw [e120] at o34
  replace o35 := Ar.sR (i := a) (j := 76) (x := some (hN h + 51)) o35
  rw [e120] at o35
  replace o36 := Ar.sR (i := a) (j := 76) (x := some (hN h + 51)) o36
  rw [e120] at o36
  replace o37 := Ar.sR (i := a) (j := 76) (x := some (hN h + 51)) o37
  rw [e120] at o37
  replace o38 := Ar.sR (i := a) (j := 76) (x := some (hN h + 51)) o38
  rw [e120] at o38
  replace o39 := Ar.sR (i := a) (j := 76) (x := some (hN h + 51)) o39
  rw [e120] at o39
  replace o40 := Ar.sR (i := a) (j := 76) (x := some (hN h + 51)) o40
  rw [e120] at o40
  replace o41 := Ar.sR (i := a) (j := 76) (x := some (hN h + 51)) o41
  rw [e120] at o41
  replace o42 := Ar.sR (i := a) (j := 76) (x := some (hN h + 51)) o42
  rw [e120] at o42
  replace o43 := Ar.sR (i := a) (j := 76) (x := some (hN h + 51)) o43
  rw [e120] at o43
  replace o44 := Ar.sR (i := a) (j := 76) (x := some (hN h + 51)) o44
  rw [e120] at o44
  replace o45 := Ar.sR (i := a) (j := 76) (x := some (hN h + 51)) o45
  rw [e120] at o45
  replace o46 := Ar.sR (i := a) (j := 76) (x := some (hN h + 51)) o46
  rw [e120] at o46
  replace o47 := Ar.sR (i := a) (j := 76) (x := some (hN h + 51)) o47
  rw [e120] at o47
  replace o48 := Ar.sR (i := a) (j := 76) (x := some (hN h + 51)) o48
  rw [e120] at o48
  replace o49 := Ar.sR (i := a) (j := 76) (x := some (hN h + 51)) o49
  rw [e120] at o49
  replace o50 := Ar.sR (i := a) (j := 76) (x := some (hN h + 51)) o50
  rw [e120] at o50
  replace o51 := Ar.sR (i := a) (j := 76) (x := some (hN h + 51)) o51
  rw [e120] at o51
  replace hn := hn_sR (i := a) (j := 76) (x := some (hN h + 51)) hn
  rw [e120] at hn
  show Rn g mdX12_init 491 [some (.ref a)] [] H120 52 7488 none (i_Mo a h)
  refine o_aload_n (pc := 491) dX12_init_491 rfl ?_
  refine o_bipush (pc := 492) (v := 9) dX12_init_492 rfl ?_
  refine o_newaX (pc := 494) (t := 3) (N := 9) (q := hN h + 52) hn (by decide) rfl la3 dX12_init_494 (by decide) rfl (by decide) (by omega) (by decide) (by decide) (okLs_ref (Or.inl oa.1) okLs_nil) (okSt_ref (Or.inl oa.1) okSt_nil) ?_
  have o52 := Ar.madeX (h := H120) (t := 3) (n := 9) hn
  generalize e121 : hNew H120 (.inr (3, 9)) = H121
  replace oa := Ob.new (z := .inr (3, 9)) oa
  rw [e121] at oa
  replace o0 := Ar.new (z := .inr (3, 9)) o0
  rw [e121] at o0
  replace o1 := Ar.new (z := .inr (3, 9)) o1
  rw [e121] at o1
  replace o2 := Ar.new (z := .inr (3, 9)) o2
  rw [e121] at o2
  replace o3 := Ar.new (z := .inr (3, 9)) o3
  rw [e121] at o3
  replace o4 := Ar.new (z := .inr (3, 9)) o4
  rw [e121] at o4
  replace o5 := Ar.new (z := .inr (3, 9)) o5
  rw [e121] at o5
  replace o6 := Ar.new (z := .inr (3, 9)) o6
  rw [e121] at o6
  replace o7 := Ar.new (z := .inr (3, 9)) o7
  rw [e121] at o7
  replace o8 := Ar.new (z := .inr (3, 9)) o8
  rw [e121] at o8
  replace o9 := Ar.new (z := .inr (3, 9)) o9
  rw [e121] at o9
  replace o10 := Ar.new (z := .inr (3, 9)) o10
  rw [e121] at o10
  replace o11 := Ar.new (z := .inr (3, 9)) o11
  rw [e121] at o11
  replace o12 := Ar.new (z := .inr (3, 9)) o12
  rw [e121] at o12
  replace o13 := Ar.new (z := .inr (3, 9)) o13
  rw [e121] at o13
  replace o14 := Ar.new (z := .inr (3, 9)) o14
  rw [e121] at o14
  replace o15 := Ar.new (z := .inr (3, 9)) o15
  rw [e121] at o15
  replace o16 := Ar.new (z := .inr (3, 9)) o16
  rw [e121] at o16
  replace o17 := Ar.new (z := .inr (3, 9)) o17
  rw [e121] at o17
  replace o18 := Ar.new (z := .inr (3, 9)) o18
  rw [e121] at o18
  replace o19 := Ar.new (z := .inr (3, 9)) o19
  rw [e121] at o19
  replace o20 := Ar.new (z := .inr (3, 9)) o20
  rw [e121] at o20
  replace o21 := Ar.new (z := .inr (3, 9)) o21
  rw [e121] at o21
  replace o22 := Ar.new (z := .inr (3, 9)) o22
  rw [e121] at o22
  replace o23 := Ar.new (z := .inr (3, 9)) o23
  rw [e121] at o23
  replace o24 := Ar.new (z := .inr (3, 9)) o24
  rw [e121] at o24
  replace o25 := Ar.new (z := .inr (3, 9)) o25
  rw [e121] at o25
  replace o26 := Ar.new (z := .inr (3, 9)) o26
  rw [e121] at o26
  replace o27 := Ar.new (z := .inr (3, 9)) o27
  rw [e121] at o27
  replace o28 := Ar.new (z := .inr (3, 9)) o28
  rw [e121] at o28
  replace o29 := Ar.new (z := .inr (3, 9)) o29
  rw [e121] at o29
  replace o30 := Ar.new (z := .inr (3, 9)) o30
  rw [e121] at o30
  replace o31 := Ar.new (z := .inr (3, 9)) o31
  rw [e121] at o31
  replace o32 := Ar.new (z := .inr (3, 9)) o32
  rw [e121] at o32
  replace o33 := Ar.new (z := .inr (3, 9)) o33
  rw [e121] at o33
  replace o34 := Ar.new (z := .inr (3, 9)) o34
  rw [e121] at o34
  replace o35 := Ar.new (z := .inr (3, 9)) o35
  rw [e121] at o35
  replace o36 := Ar.new (z := .inr (3, 9)) o36
  rw [e121] at o36
  replace o37 := Ar.new (z := .inr (3, 9)) o37
  rw [e121] at o37
  replace o38 := Ar.new (z := .inr (3, 9)) o38
  rw [e121] at o38
  replace o39 := Ar.new (z := .inr (3, 9)) o39
  rw [e121] at o39
  replace o40 := Ar.new (z := .inr (3, 9)) o40
  rw [e121] at o40
  replace o41 := Ar.new (z := .inr (3, 9)) o41
  rw [e121] at o41
  replace o42 := Ar.new (z := .inr (3, 9)) o42
  rw [e121] at o42
  replace o43 := Ar.new (z := .inr (3, 9)) o43
  rw [e121] at o43
  replace o44 := Ar.new (z := .inr (3, 9)) o44
  rw [e121] at o44
  replace o45 := Ar.new (z := .inr (3, 9)) o45
  rw [e121] at o45
  replace o46 := Ar.new (z := .inr (3, 9)) o46
  rw [e121] at o46
  replace o47 := Ar.new (z := .inr (3, 9)) o47
  rw [e121] at o47
  replace o48 := Ar.new (z := .inr (3, 9)) o48
  rw [e121] at o48
  replace o49 := Ar.new (z := .inr (3, 9)) o49
  rw [e121] at o49
  replace o50 := Ar.new (z := .inr (3, 9)) o50
  rw [e121] at o50
  replace o51 := Ar.new (z := .inr (3, 9)) o51
  rw [e121] at o51
  replace hn := hn_new (z := .inr (3, 9)) hn
  rw [e121] at hn
  rw [e121] at o52
  show Rn g mdX12_init 496 [some (.ref a)] [.ref (hN h + 52), .ref a] H121 53 7497 none (i_Mo a h)
  refine o_putRF (pc := 496) (ci := 11) (k := 77) (by decide) (by decide) rfl lgX12_178 rfl ⟨rfl, rfl⟩ dX12_init_496 oa.1 oa.2 (Or.inl o52.1) ?_
  generalize e122 : sR H121 a 77 (some (hN h + 52)) = H122
  replace oa := Ob.sR (i := a) (j := 77) (x := some (hN h + 52)) oa
  rw [e122] at oa
  replace o0 := Ar.sR (i := a) (j := 77) (x := some (hN h + 52)) o0
  rw [e122] at o0
  replace o1 := Ar.sR (i := a) (j := 77) (x := some (hN h + 52)) o1
  rw [e122] at o1
  replace o2 := Ar.sR (i := a) (j := 77) (x := some (hN h + 52)) o2
  rw [e122] at o2
  replace o3 := Ar.sR (i := a) (j := 77) (x := some (hN h + 52)) o3
  rw [e122] at o3
  replace o4 := Ar.sR (i := a) (j := 77) (x := some (hN h + 52)) o4
  rw [e122] at o4
  replace o5 := Ar.sR (i := a) (j := 77) (x := some (hN h + 52)) o5
  rw [e122] at o5
  replace o6 := Ar.sR (i := a) (j := 77) (x := some (hN h + 52)) o6
  rw [e122] at o6
  replace o7 := Ar.sR (i := a) (j := 77) (x := some (hN h + 52)) o7
  rw [e122] at o7
  replace o8 := Ar.sR (i := a) (j := 77) (x := some (hN h + 52)) o8
  rw [e122] at o8
  replace o9 := Ar.sR (i := a) (j := 77) (x := some (hN h + 52)) o9
  rw [e122] at o9
  replace o10 := Ar.sR (i := a) (j := 77) (x := some (hN h + 52)) o10
  rw [e122] at o10
  replace o11 := Ar.sR (i := a) (j := 77) (x := some (hN h + 52)) o11
  rw [e122] at o11
  replace o12 := Ar.sR (i := a) (j := 77) (x := some (hN h + 52)) o12
  rw [e122] at o12
  replace o13 := Ar.sR (i := a) (j := 77) (x := some (hN h + 52)) o13
  rw [e122] at o13
  replace o14 := Ar.sR (i := a) (j := 77) (x := some (hN h + 52)) o14
  rw [e122] at o14
  replace o15 := Ar.sR (i := a) (j := 77) (x := some (hN h + 52)) o15
  rw [e122] at o15
  replace o16 := Ar.sR (i := a) (j := 77) (x := some (hN h + 52)) o16
  rw [e122] at o16
  replace o17 := Ar.sR (i := a) (j := 77) (x := some (hN h + 52)) o17
  rw [e122] at o17
  replace o18 := Ar.sR (i := a) (j := 77) (x := some (hN h + 52)) o18
  rw [e122] at o18
  replace o19 := Ar.sR (i := a) (j := 77) (x := some (hN h + 52)) o19
  rw [e122] at o19
  replace o20 := Ar.sR (i := a) (j := 77) (x := some (hN h + 52)) o20
  rw [e122] at o20
  replace o21 := Ar.sR (i := a) (j := 77) (x := some (hN h + 52)) o21
  rw [e122] at o21
  replace o22 := Ar.sR (i := a) (j := 77) (x := some (hN h + 52)) o22
  rw [e122] at o22
  replace o23 := Ar.sR (i := a) (j := 77) (x := some (hN h + 52)) o23
  rw [e122] at o23
  replace o24 := Ar.sR (i := a) (j := 77) (x := some (hN h + 52)) o24
  rw [e122] at o24
  replace o25 := Ar.sR (i := a) (j := 77) (x := some (hN h + 52)) o25
  rw [e122] at o25
  replace o26 := Ar.sR (i := a) (j := 77) (x := some (hN h + 52)) o26
  rw [e122] at o26
  replace o27 := Ar.sR (i := a) (j := 77) (x := some (hN h + 52)) o27
  rw [e122] at o27
  replace o28 := Ar.sR (i := a) (j := 77) (x := some (hN h + 52)) o28
  rw [e122] at o28
  replace o29 := Ar.sR (i := a) (j := 77) (x := some (hN h + 52)) o29
  rw [e122] at o29
  replace o30 := Ar.sR (i := a) (j := 77) (x := some (hN h + 52)) o30
  rw [e122] at o30
  replace o31 := Ar.sR (i := a) (j := 77) (x := some (hN h + 52)) o31
  rw [e122] at o31
  replace o32 := Ar.sR (i := a) (j := 77) (x := some (hN h + 52)) o32
  rw [e122] at o32
  replace o33 := Ar.sR (i := a) (j := 77) (x := some (hN h + 52)) o33
  rw [e122] at o33
  replace o34 := Ar.sR (i := a) (j := 77) (x := some (hN h + 52)) o34
  rw [e122] at o34
  replace o35 := Ar.sR (i := a) (j := 77) (x := some (hN h + 52)) o35
  rw [e122] at o35
  replace o36 := Ar.sR (i := a) (j := 77) (x := some (hN h + 52)) o36
  rw [e122] at o36
  replace o37 := Ar.sR (i := a) (j := 77) (x := some (hN h + 52)) o37
  rw [e122] at o37
  replace o38 := Ar.sR (i := a) (j := 77) (x := some (hN h + 52)) o38
  rw [e122] at o38
  replace o39 := Ar.sR (i := a) (j := 77) (x := some (hN h + 52)) o39
  rw [e122] at o39
  replace o40 := Ar.sR (i := a) (j := 77) (x := some (hN h + 52)) o40
  rw [e122] at o40
  replace o41 := Ar.sR (i := a) (j := 77) (x := some (hN h + 52)) o41
  rw [e122] at o41
  replace o42 := Ar.sR (i := a) (j := 77) (x := some (hN h + 52)) o42
  rw [e122] at o42
  replace o43 := Ar.sR (i := a) (j := 77) (x := some (hN h + 52)) o43
  rw [e122] at o43
  replace o44 := Ar.sR (i := a) (j := 77) (x := some (hN h + 52)) o44
  rw [e122] at o44
  replace o45 := Ar.sR (i := a) (j := 77) (x := some (hN h + 52)) o45
  rw [e122] at o45
  replace o46 := Ar.sR (i := a) (j := 77) (x := some (hN h + 52)) o46
  rw [e122] at o46
  replace o47 := Ar.sR (i := a) (j := 77) (x := some (hN h + 52)) o47
  rw [e122] at o47
  replace o48 := Ar.sR (i := a) (j := 77) (x := some (hN h + 52)) o48
  rw [e122] at o48
  replace o49 := Ar.sR (i := a) (j := 77) (x := some (hN h + 52)) o49
  rw [e122] at o49
  replace o50 := Ar.sR (i := a) (j := 77) (x := some (hN h + 52)) o50
  rw [e122] at o50
  replace o51 := Ar.sR (i := a) (j := 77) (x := some (hN h + 52)) o51
  rw [e122] at o51
  replace o52 := Ar.sR (i := a) (j := 77) (x := some (hN h + 52)) o52
  rw [e122] at o52
  replace hn := hn_sR (i := a) (j := 77) (x := some (hN h + 52)) hn
  rw [e122] at hn
  show Rn g mdX12_init 499 [some (.ref a)] [] H122 53 7497 none (i_Mo a h)
  refine o_aload_n (pc := 499) dX12_init_499 rfl ?_
  refine o_sipush (pc := 500) (v := 6000) dX12_init_500 rfl ?_
  refine o_newaX (pc := 503) (t := 0) (N := 6000) (q := hN h + 53) hn (by decide) rfl la0 dX12_init_503 (by decide) rfl (by decide) (by omega) (by decide) (by decide) (okLs_ref (Or.inl oa.1) okLs_nil) (okSt_ref (Or.inl oa.1) okSt_nil) ?_
  have o53 := Ar.madeX (h := H122) (t := 0) (n := 6000) hn
  generalize e123 : hNew H122 (.inr (0, 6000)) = H123
  replace oa := Ob.new (z := .inr (0, 6000)) oa
  rw [e123] at oa
  replace o0 := Ar.new (z := .inr (0, 6000)) o0
  rw [e123] at o0
  replace o1 := Ar.new (z := .inr (0, 6000)) o1
  rw [e123] at o1
  replace o2 := Ar.new (z := .inr (0, 6000)) o2
  rw [e123] at o2
  replace o3 := Ar.new (z := .inr (0, 6000)) o3
  rw [e123] at o3
  replace o4 := Ar.new (z := .inr (0, 6000)) o4
  rw [e123] at o4
  replace o5 := Ar.new (z := .inr (0, 6000)) o5
  rw [e123] at o5
  replace o6 := Ar.new (z := .inr (0, 6000)) o6
  rw [e123] at o6
  replace o7 := Ar.new (z := .inr (0, 6000)) o7
  rw [e123] at o7
  replace o8 := Ar.new (z := .inr (0, 6000)) o8
  rw [e123] at o8
  replace o9 := Ar.new (z := .inr (0, 6000)) o9
  rw [e123] at o9
  replace o10 := Ar.new (z := .inr (0, 6000)) o10
  rw [e123] at o10
  replace o11 := Ar.new (z := .inr (0, 6000)) o11
  rw [e123] at o11
  replace o12 := Ar.new (z := .inr (0, 6000)) o12
  rw [e123] at o12
  replace o13 := Ar.new (z := .inr (0, 6000)) o13
  rw [e123] at o13
  replace o14 := Ar.new (z := .inr (0, 6000)) o14
  rw [e123] at o14
  replace o15 := Ar.new (z := .inr (0, 6000)) o15
  rw [e123] at o15
  replace o16 := Ar.new (z := .inr (0, 6000)) o16
  rw [e123] at o16
  replace o17 := Ar.new (z := .inr (0, 6000)) o17
  rw [e123] at o17
  replace o18 := Ar.new (z := .inr (0, 6000)) o18
  rw [e123] at o18
  replace o19 := Ar.new (z := .inr (0, 6000)) o19
  rw [e123] at o19
  replace o20 := Ar.new (z := .inr (0, 6000)) o20
  rw [e123] at o20
  replace o21 := Ar.new (z := .inr (0, 6000)) o21
  rw [e123] at o21
  replace o22 := Ar.new (z := .inr (0, 6000)) o22
  rw [e123] at o22
  replace o23 := Ar.new (z := .inr (0, 6000)) o23
  rw [e123] at o23
  replace o24 := Ar.new (z := .inr (0, 6000)) o24
  rw [e123] at o24
  replace o25 := Ar.new (z := .inr (0, 6000)) o25
  rw [e123] at o25
  replace o26 := Ar.new (z := .inr (0, 6000)) o26
  rw [e123] at o26
  replace o27 := Ar.new (z := .inr (0, 6000)) o27
  rw [e123] at o27
  replace o28 := Ar.new (z := .inr (0, 6000)) o28
  rw [e123] at o28
  replace o29 := Ar.new (z := .inr (0, 6000)) o29
  rw [e123] at o29
  replace o30 := Ar.new (z := .inr (0, 6000)) o30
  rw [e123] at o30
  replace o31 := Ar.new (z := .inr (0, 6000)) o31
  rw [e123] at o31
  replace o32 := Ar.new (z := .inr (0, 6000)) o32
  rw [e123] at o32
  replace o33 := Ar.new (z := .inr (0, 6000)) o33
  rw [e123] at o33
  replace o34 := Ar.new (z := .inr (0, 6000)) o34
  rw [e123] at o34
  replace o35 := Ar.new (z := .inr (0, 6000)) o35
  rw [e123] at o35
  replace o36 := Ar.new (z := .inr (0, 6000)) o36
  rw [e123] at o36
  replace o37 := Ar.new (z := .inr (0, 6000)) o37
  rw [e123] at o37
  replace o38 := Ar.new (z := .inr (0, 6000)) o38
  rw [e123] at o38
  replace o39 := Ar.new (z := .inr (0, 6000)) o39
  rw [e123] at o39
  replace o40 := Ar.new (z := .inr (0, 6000)) o40
  rw [e123] at o40
  replace o41 := Ar.new (z := .inr (0, 6000)) o41
  rw [e123] at o41
  replace o42 := Ar.new (z := .inr (0, 6000)) o42
  rw [e123] at o42
  replace o43 := Ar.new (z := .inr (0, 6000)) o43
  rw [e123] at o43
  replace o44 := Ar.new (z := .inr (0, 6000)) o44
  rw [e123] at o44
  replace o45 := Ar.new (z := .inr (0, 6000)) o45
  rw [e123] at o45
  replace o46 := Ar.new (z := .inr (0, 6000)) o46
  rw [e123] at o46
  replace o47 := Ar.new (z := .inr (0, 6000)) o47
  rw [e123] at o47
  replace o48 := Ar.new (z := .inr (0, 6000)) o48
  rw [e123] at o48
  replace o49 := Ar.new (z := .inr (0, 6000)) o49
  rw [e123] at o49
  replace o50 := Ar.new (z := .inr (0, 6000)) o50
  rw [e123] at o50
  replace o51 := Ar.new (z := .inr (0, 6000)) o51
  rw [e123] at o51
  replace o52 := Ar.new (z := .inr (0, 6000)) o52
  rw [e123] at o52
  replace hn := hn_new (z := .inr (0, 6000)) hn
  rw [e123] at hn
  rw [e123] at o53
  show Rn g mdX12_init 505 [some (.ref a)] [.ref (hN h + 53), .ref a] H123 54 13497 none (i_Mo a h)
  refine o_putRF (pc := 505) (ci := 11) (k := 78) (by decide) (by decide) rfl lgX12_182 rfl ⟨rfl, rfl⟩ dX12_init_505 oa.1 oa.2 (Or.inl o53.1) ?_
  generalize e124 : sR H123 a 78 (some (hN h + 53)) = H124
  replace oa := Ob.sR (i := a) (j := 78) (x := some (hN h + 53)) oa
  rw [e124] at oa
  replace o0 := Ar.sR (i := a) (j := 78) (x := some (hN h + 53)) o0
  rw [e124] at o0
  replace o1 := Ar.sR (i := a) (j := 78) (x := some (hN h + 53)) o1
  rw [e124] at o1
  replace o2 := Ar.sR (i := a) (j := 78) (x := some (hN h + 53)) o2
  rw [e124] at o2
  replace o3 := Ar.sR (i := a) (j := 78) (x := some (hN h + 53)) o3
  rw [e124] at o3
  replace o4 := Ar.sR (i := a) (j := 78) (x := some (hN h + 53)) o4
  rw [e124] at o4
  replace o5 := Ar.sR (i := a) (j := 78) (x := some (hN h + 53)) o5
  rw [e124] at o5
  replace o6 := Ar.sR (i := a) (j := 78) (x := some (hN h + 53)) o6
  rw [e124] at o6
  replace o7 := Ar.sR (i := a) (j := 78) (x := some (hN h + 53)) o7
  rw [e124] at o7
  replace o8 := Ar.sR (i := a) (j := 78) (x := some (hN h + 53)) o8
  rw [e124] at o8
  replace o9 := Ar.sR (i := a) (j := 78) (x := some (hN h + 53)) o9
  rw [e124] at o9
  replace o10 := Ar.sR (i := a) (j := 78) (x := some (hN h + 53)) o10
  rw [e124] at o10
  replace o11 := Ar.sR (i := a) (j := 78) (x := some (hN h + 53)) o11
  rw [e124] at o11
  replace o12 := Ar.sR (i := a) (j := 78) (x := some (hN h + 53)) o12
  rw [e124] at o12
  replace o13 := Ar.sR (i := a) (j := 78) (x := some (hN h + 53)) o13
  rw [e124] at o13
  replace o14 := Ar.sR (i := a) (j := 78) (x := some (hN h + 53)) o14
  rw [e124] at o14
  replace o15 := Ar.sR (i := a) (j := 78) (x := some (hN h + 53)) o15
  rw [e124] at o15
  replace o16 := Ar.sR (i := a) (j := 78) (x := some (hN h + 53)) o16
  rw [e124] at o16
  replace o17 := Ar.sR (i := a) (j := 78) (x := some (hN h + 53)) o17
  rw [e124] at o17
  replace o18 := Ar.sR (i := a) (j := 78) (x := some (hN h + 53)) o18
  rw [e124] at o18
  replace o19 := Ar.sR (i := a) (j := 78) (x := some (hN h + 53)) o19
  rw [e124] at o19
  replace o20 := Ar.sR (i := a) (j := 78) (x := some (hN h + 53)) o20
  rw [e124] at o20
  replace o21 := Ar.sR (i := a) (j := 78) (x := some (hN h + 53)) o21
  rw [e124] at o21
  replace o22 := Ar.sR (i := a) (j := 78) (x := some (hN h + 53)) o22
  rw [e124] at o22
  replace o23 := Ar.sR (i := a) (j := 78) (x := some (hN h + 53)) o23
  rw [e124] at o23
  replace o24 := Ar.sR (i := a) (j := 78) (x := some (hN h + 53)) o24
  rw [e124] at o24
  replace o25 := Ar.sR (i := a) (j := 78) (x := some (hN h + 53)) o25
  rw [e124] at o25
  replace o26 := Ar.sR (i := a) (j := 78) (x := some (hN h + 53)) o26
  rw [e124] at o26
  replace o27 := Ar.sR (i := a) (j := 78) (x := some (hN h + 53)) o27
  rw [e124] at o27
  replace o28 := Ar.sR (i := a) (j := 78) (x := some (hN h + 53)) o28
  rw [e124] at o28
  replace o29 := Ar.sR (i := a) (j := 78) (x := some (hN h + 53)) o29
  rw [e124] at o29
  replace o30 := Ar.sR (i := a) (j := 78) (x := some (hN h + 53)) o30
  rw [e124] at o30
  replace o31 := Ar.sR (i := a) (j := 78) (x := some (hN h + 53)) o31
  rw [e124] at o31
  replace o32 := Ar.sR (i := a) (j := 78) (x := some (hN h + 53)) o32
  rw [e124] at o32
  replace o33 := Ar.sR (i := a) (j := 78) (x := some (hN h + 53)) o33
  rw [e124] at o33
  replace o34 := Ar.sR (i := a) (j := 78) (x := some (hN h + 53)) o34
  rw [e124] at o34
  replace o35 := Ar.sR (i := a) (j := 78) (x := some (hN h + 53)) o35
  rw [e124] at o35
  replace o36 := Ar.sR (i := a) (j := 78) (x := some (hN h + 53)) o36
  rw [e124] at o36
  replace o37 := Ar.sR (i := a) (j := 78) (x := some (hN h + 53)) o37
  rw [e124] at o37
  replace o38 := Ar.sR (i := a) (j := 78) (x := some (hN h + 53)) o38
  rw [e124] at o38
  replace o39 := Ar.sR (i := a) (j := 78) (x := some (hN h + 53)) o39
  rw [e124] at o39
  replace o40 := Ar.sR (i := a) (j := 78) (x := some (hN h + 53)) o40
  rw [e124] at o40
  replace o41 := Ar.sR (i := a) (j := 78) (x := some (hN h + 53)) o41
  rw [e124] at o41
  replace o42 := Ar.sR (i := a) (j := 78) (x := some (hN h + 53)) o42
  rw [e124] at o42
  replace o43 := Ar.sR (i := a) (j := 78) (x := some (hN h + 53)) o43
  rw [e124] at o43
  replace o44 := Ar.sR (i := a) (j := 78) (x := some (hN h + 53)) o44
  rw [e124] at o44
  replace o45 := Ar.sR (i := a) (j := 78) (x := some (hN h + 53)) o45
  rw [e124] at o45
  replace o46 := Ar.sR (i := a) (j := 78) (x := some (hN h + 53)) o46
  rw [e124] at o46
  replace o47 := Ar.sR (i := a) (j := 78) (x := some (hN h + 53)) o47
  rw [e124] at o47
  replace o48 := Ar.sR (i := a) (j := 78) (x := some (hN h + 53)) o48
  rw [e124] at o48
  replace o49 := Ar.sR (i := a) (j := 78) (x := some (hN h + 53)) o49
  rw [e124] at o49
  replace o50 := Ar.sR (i := a) (j := 78) (x := some (hN h + 53)) o50
  rw [e124] at o50
  replace o51 := Ar.sR (i := a) (j := 78) (x := some (hN h + 53)) o51
  rw [e124] at o51
  replace o52 := Ar.sR (i := a) (j := 78) (x := some (hN h + 53)) o52
  rw [e124] at o52
  replace o53 := Ar.sR (i := a) (j := 78) (x := some (hN h + 53)) o53
  rw [e124] at o53
  replace hn := hn_sR (i := a) (j := 78) (x := some (hN h + 53)) hn
  rw [e124] at hn
  show Rn g mdX12_init 508 [some (.ref a)] [] H124 54 13497 none (i_Mo a h)
  refine o_aload_n (pc := 508) dX12_init_508 rfl ?_
  refine o_iconst (pc := 509) (v := 4) dX12_init_509 rfl ?_
  refine o_newaX (pc := 510) (t := 3) (N := 4) (q := hN h + 54) hn (by decide) rfl la3 dX12_init_510 (by decide) rfl (by decide) (by omega) (by decide) (by decide) (okLs_ref (Or.inl oa.1) okLs_nil) (okSt_ref (Or.inl oa.1) okSt_nil) ?_
  have o54 := Ar.madeX (h := H124) (t := 3) (n := 4) hn
  generalize e125 : hNew H124 (.inr (3, 4)) = H125
  replace oa := Ob.new (z := .inr (3, 4)) oa
  rw [e125] at oa
  replace o0 := Ar.new (z := .inr (3, 4)) o0
  rw [e125] at o0
  replace o1 := Ar.new (z := .inr (3, 4)) o1
  rw [e125] at o1
  replace o2 := Ar.new (z := .inr (3, 4)) o2
  rw [e125] at o2
  replace o3 := Ar.new (z := .inr (3, 4)) o3
  rw [e125] at o3
  replace o4 := Ar.new (z := .inr (3, 4)) o4
  rw [e125] at o4
  replace o5 := Ar.new (z := .inr (3, 4)) o5
  rw [e125] at o5
  replace o6 := Ar.new (z := .inr (3, 4)) o6
  rw [e125] at o6
  replace o7 := Ar.new (z := .inr (3, 4)) o7
  rw [e125] at o7
  replace o8 := Ar.new (z := .inr (3, 4)) o8
  rw [e125] at o8
  replace o9 := Ar.new (z := .inr (3, 4)) o9
  rw [e125] at o9
  replace o10 := Ar.new (z := .inr (3, 4)) o10
  rw [e125] at o10
  replace o11 := Ar.new (z := .inr (3, 4)) o11
  rw [e125] at o11
  replace o12 := Ar.new (z := .inr (3, 4)) o12
  rw [e125] at o12
  replace o13 := Ar.new (z := .inr (3, 4)) o13
  rw [e125] at o13
  replace o14 := Ar.new (z := .inr (3, 4)) o14
  rw [e125] at o14
  replace o15 := Ar.new (z := .inr (3, 4)) o15
  rw [e125] at o15
  replace o16 := Ar.new (z := .inr (3, 4)) o16
  rw [e125] at o16
  replace o17 := Ar.new (z := .inr (3, 4)) o17
  rw [e125] at o17
  replace o18 := Ar.new (z := .inr (3, 4)) o18
  rw [e125] at o18
  replace o19 := Ar.new (z := .inr (3, 4)) o19
  rw [e125] at o19
  replace o20 := Ar.new (z := .inr (3, 4)) o20
  rw [e125] at o20
  replace o21 := Ar.new (z := .inr (3, 4)) o21
  rw [e125] at o21
  replace o22 := Ar.new (z := .inr (3, 4)) o22
  rw [e125] at o22
  replace o23 := Ar.new (z := .inr (3, 4)) o23
  rw [e125] at o23
  replace o24 := Ar.new (z := .inr (3, 4)) o24
  rw [e125] at o24
  replace o25 := Ar.new (z := .inr (3, 4)) o25
  rw [e125] at o25
  replace o26 := Ar.new (z := .inr (3, 4)) o26
  rw [e125] at o26
  replace o27 := Ar.new (z := .inr (3, 4)) o27
  rw [e125] at o27
  replace o28 := Ar.new (z := .inr (3, 4)) o28
  rw [e125] at o28
  replace o29 := Ar.new (z := .inr (3, 4)) o29
  rw [e125] at o29
  replace o30 := Ar.new (z := .inr (3, 4)) o30
  rw [e125] at o30
  replace o31 := Ar.new (z := .inr (3, 4)) o31
  rw [e125] at o31
  replace o32 := Ar.new (z := .inr (3, 4)) o32
  rw [e125] at o32
  replace o33 := Ar.new (z := .inr (3, 4)) o33
  rw [e125] at o33
  replace o34 := Ar.new (z := .inr (3, 4)) o34
  rw [e125] at o34
  replace o35 := Ar.new (z := .inr (3, 4)) o35
  rw [e125] at o35
  replace o36 := Ar.new (z := .inr (3, 4)) o36
  rw [e125] at o36
  replace o37 := Ar.new (z := .inr (3, 4)) o37
  rw [e125] at o37
  replace o38 := Ar.new (z := .inr (3, 4)) o38
  rw [e125] at o38
  replace o39 := Ar.new (z := .inr (3, 4)) o39
  rw [e125] at o39
  replace o40 := Ar.new (z := .inr (3, 4)) o40
  rw [e125] at o40
  replace o41 := Ar.new (z := .inr (3, 4)) o41
  rw [e125] at o41
  replace o42 := Ar.new (z := .inr (3, 4)) o42
  rw [e125] at o42
  replace o43 := Ar.new (z := .inr (3, 4)) o43
  rw [e125] at o43
  replace o44 := Ar.new (z := .inr (3, 4)) o44
  rw [e125] at o44
  replace o45 := Ar.new (z := .inr (3, 4)) o45
  rw [e125] at o45
  replace o46 := Ar.new (z := .inr (3, 4)) o46
  rw [e125] at o46
  replace o47 := Ar.new (z := .inr (3, 4)) o47
  rw [e125] at o47
  replace o48 := Ar.new (z := .inr (3, 4)) o48
  rw [e125] at o48
  replace o49 := Ar.new (z := .inr (3, 4)) o49
  rw [e125] at o49
  replace o50 := Ar.new (z := .inr (3, 4)) o50
  rw [e125] at o50
  replace o51 := Ar.new (z := .inr (3, 4)) o51
  rw [e125] at o51
  replace o52 := Ar.new (z := .inr (3, 4)) o52
  rw [e125] at o52
  replace o53 := Ar.new (z := .inr (3, 4)) o53
  rw [e125] at o53
  replace hn := hn_new (z := .inr (3, 4)) hn
  rw [e125] at hn
  rw [e125] at o54
  show Rn g mdX12_init 512 [some (.ref a)] [.ref (hN h + 54), .ref a] H125 55 13501 none (i_Mo a h)
  refine o_putRF (pc := 512) (ci := 11) (k := 79) (by decide) (by decide) rfl lgX12_185 rfl ⟨rfl, rfl⟩ dX12_init_512 oa.1 oa.2 (Or.inl o54.1) ?_
  generalize e126 : sR H125 a 79 (some (hN h + 54)) = H126
  replace oa := Ob.sR (i := a) (j := 79) (x := some (hN h + 54)) oa
  rw [e126] at oa
  replace o0 := Ar.sR (i := a) (j := 79) (x := some (hN h + 54)) o0
  rw [e126] at o0
  replace o1 := Ar.sR (i := a) (j := 79) (x := some (hN h + 54)) o1
  rw [e126] at o1
  replace o2 := Ar.sR (i := a) (j := 79) (x := some (hN h + 54)) o2
  rw [e126] at o2
  replace o3 := Ar.sR (i := a) (j := 79) (x := some (hN h + 54)) o3
  rw [e126] at o3
  replace o4 := Ar.sR (i := a) (j := 79) (x := some (hN h + 54)) o4
  rw [e126] at o4
  replace o5 := Ar.sR (i := a) (j := 79) (x := some (hN h + 54)) o5
  rw [e126] at o5
  replace o6 := Ar.sR (i := a) (j := 79) (x := some (hN h + 54)) o6
  rw [e126] at o6
  replace o7 := Ar.sR (i := a) (j := 79) (x := some (hN h + 54)) o7
  rw [e126] at o7
  replace o8 := Ar.sR (i := a) (j := 79) (x := some (hN h + 54)) o8
  rw [e126] at o8
  replace o9 := Ar.sR (i := a) (j := 79) (x := some (hN h + 54)) o9
  rw [e126] at o9
  replace o10 := Ar.sR (i := a) (j := 79) (x := some (hN h + 54)) o10
  rw [e126] at o10
  replace o11 := Ar.sR (i := a) (j := 79) (x := some (hN h + 54)) o11
  rw [e126] at o11
  replace o12 := Ar.sR (i := a) (j := 79) (x := some (hN h + 54)) o12
  rw [e126] at o12
  replace o13 := Ar.sR (i := a) (j := 79) (x := some (hN h + 54)) o13
  rw [e126] at o13
  replace o14 := Ar.sR (i := a) (j := 79) (x := some (hN h + 54)) o14
  rw [e126] at o14
  replace o15 := Ar.sR (i := a) (j := 79) (x := some (hN h + 54)) o15
  rw [e126] at o15
  replace o16 := Ar.sR (i := a) (j := 79) (x := some (hN h + 54)) o16
  rw [e126] at o16
  replace o17 := Ar.sR (i := a) (j := 79) (x := some (hN h + 54)) o17
  rw [e126] at o17
  replace o18 := Ar.sR (i := a) (j := 79) (x := some (hN h + 54)) o18
  rw [e126] at o18
  replace o19 := Ar.sR (i := a) (j := 79) (x := some (hN h + 54)) o19
  rw [e126] at o19
  replace o20 := Ar.sR (i := a) (j := 79) (x := some (hN h + 54)) o20
  rw [e126] at o20
  replace o21 := Ar.sR (i := a) (j := 79) (x := some (hN h + 54)) o21
  rw [e126] at o21
  replace o22 := Ar.sR (i := a) (j := 79) (x := some (hN h + 54)) o22
  rw [e126] at o22
  replace o23 := Ar.sR (i := a) (j := 79) (x := some (hN h + 54)) o23
  rw [e126] at o23
  replace o24 := Ar.sR (i := a) (j := 79) (x := some (hN h + 54)) o24
  rw [e126] at o24
  replace o25 := Ar.sR (i := a) (j := 79) (x := some (hN h + 54)) o25
  rw [e126] at o25
  replace o26 := Ar.sR (i := a) (j := 79) (x := some (hN h + 54)) o26
  rw [e126] at o26
  replace o27 := Ar.sR (i := a) (j := 79) (x := some (hN h + 54)) o27
  rw [e126] at o27
  replace o28 := Ar.sR (i := a) (j := 79) (x := some (hN h + 54)) o28
  rw [e126] at o28
  replace o29 := Ar.sR (i := a) (j := 79) (x := some (hN h + 54)) o29
  rw [e126] at o29
  replace o30 := Ar.sR (i := a) (j := 79) (x := some (hN h + 54)) o30
  rw [e126] at o30
  replace o31 := Ar.sR (i := a) (j := 79) (x := some (hN h + 54)) o31
  rw [e126] at o31
  replace o32 := Ar.sR (i := a) (j := 79) (x := some (hN h + 54)) o32
  rw [e126] at o32
  replace o33 := Ar.sR (i := a) (j := 79) (x := some (hN h + 54)) o33
  rw [e126] at o33
  replace o34 := Ar.sR (i := a) (j := 79) (x := some (hN h + 54)) o34
  rw [e126] at o34
  replace o35 := Ar.sR (i := a) (j := 79) (x := some (hN h + 54)) o35
  rw [e126] at o35
  replace o36 := Ar.sR (i := a) (j := 79) (x := some (hN h + 54)) o36
  rw [e126] at o36
  replace o37 := Ar.sR (i := a) (j := 79) (x := some (hN h + 54)) o37
  rw [e126] at o37
  replace o38 := Ar.sR (i := a) (j := 79) (x := some (hN h + 54)) o38
  rw [e126] at o38
  replace o39 := Ar.sR (i := a) (j := 79) (x := some (hN h + 54)) o39
  rw [e126] at o39
  replace o40 := Ar.sR (i := a) (j := 79) (x := some (hN h + 54)) o40
  rw [e126] at o40
  replace o41 := Ar.sR (i := a) (j := 79) (x := some (hN h + 54)) o41
  rw [e126] at o41
  replace o42 := Ar.sR (i := a) (j := 79) (x := some (hN h + 54)) o42
  rw [e126] at o42
  replace o43 := Ar.sR (i := a) (j := 79) (x := some (hN h + 54)) o43
  rw [e126] at o43
  replace o44 := Ar.sR (i := a) (j := 79) (x := some (hN h + 54)) o44
  rw [e126] at o44
  replace o45 := Ar.sR (i := a) (j := 79) (x := some (hN h + 54)) o45
  rw [e126] at o45
  replace o46 := Ar.sR (i := a) (j := 79) (x := some (hN h + 54)) o46
  rw [e126] at o46
  replace o47 := Ar.sR (i := a) (j := 79) (x := some (hN h + 54)) o47
  rw [e126] at o47
  replace o48 := Ar.sR (i := a) (j := 79) (x := some (hN h + 54)) o48
  rw [e126] at o48
  replace o49 := Ar.sR (i := a) (j := 79) (x := some (hN h + 54)) o49
  rw [e126] at o49
  replace o50 := Ar.sR (i := a) (j := 79) (x := some (hN h + 54)) o50
  rw [e126] at o50
  replace o51 := Ar.sR (i := a) (j := 79) (x := some (hN h + 54)) o51
  rw [e126] at o51
  replace o52 := Ar.sR (i := a) (j := 79) (x := some (hN h + 54)) o52
  rw [e126] at o52
  replace o53 := Ar.sR (i := a) (j := 79) (x := some (hN h + 54)) o53
  rw [e126] at o53
  replace o54 := Ar.sR (i := a) (j := 79) (x := some (hN h + 54)) o54
  rw [e126] at o54
  replace hn := hn_sR (i := a) (j := 79) (x := some (hN h + 54)) hn
  rw [e126] at hn
  show Rn g mdX12_init 515 [some (.ref a)] [] H126 55 13501 none (i_Mo a h)
  subst e1
  subst e2
  subst e3
  subst e4
  subst e5
  subst e6
  subst e7
  subst e8
  subst e9
  subst e10
  subst e11
  subst e12
  subst e13
  subst e14
  subst e15
  subst e16
  subst e17
  subst e18
  subst e19
  subst e20
  subst e21
  subst e22
  subst e23
  subst e24
  subst e25
  subst e26
  subst e27
  subst e28
  subst e29
  subst e30
  subst e31
  subst e32
  subst e33
  subst e34
  subst e35
  subst e36
  subst e37
  subst e38
  subst e39
  subst e40
  subst e41
  subst e42
  subst e43
  subst e44
  subst e45
  subst e46
  subst e47
  subst e48
  subst e49
  subst e50
  subst e51
  subst e52
  subst e53
  subst e54
  subst e55
  subst e56
  subst e57
  subst e58
  subst e59
  subst e60
  subst e61
  subst e62
  subst e63
  subst e64
  subst e65
  subst e66
  subst e67
  subst e68
  subst e69
  subst e70
  subst e71
  subst e72
  subst e73
  subst e74
  subst e75
  subst e76
  subst e77
  subst e78
  subst e79
  subst e80
  subst e81
  subst e82
  subst e83
  subst e84
  subst e85
  subst e86
  subst e87
  subst e88
  subst e89
  subst e90
  subst e91
  subst e92
  subst e93
  subst e94
  subst e95
  subst e96
  subst e97
  subst e98
  subst e99
  subst e100
  subst e101
  subst e102
  subst e103
  subst e104
  subst e105
  subst e106
  subst e107
  subst e108
  subst e109
  subst e110
  subst e111
  subst e112
  subst e113
  subst e114
  subst e115
  subst e116
  subst e117
  subst e118
  subst e119
  subst e120
  subst e121
  subst e122
  subst e123
  subst e124
  subst e125
  subst e126
  exact o_return (pc := 515) dX12_init_515 rfl (by decide) (by decide)
