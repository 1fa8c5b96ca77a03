/-! CONSTRUCTORS: what is known of a thing while others are made -/
def Ob (h : PH) (a ci : Nat) : Prop := a < hN h ∧ hS h a = .inl ci
def Ar (h : PH) (a t n : Nat) : Prop := a < hN h ∧ hS h a = .inr (t, n)
theorem Ob.new {h : PH} {a ci : Nat} {z : PSh} (o : Ob h a ci) : Ob (hNew h z) a ci := ⟨Nat.lt_succ_of_lt o.1, (hS_newn h z (Nat.ne_of_lt o.1)).trans o.2⟩
theorem Ob.made {h : PH} {ci : Nat} : Ob (hNew h (.inl ci)) (hN h) ci := ⟨Nat.lt_succ_self _, hS_new h _⟩
theorem Ar.new {h : PH} {a t n : Nat} {z : PSh} (o : Ar h a t n) : Ar (hNew h z) a t n := ⟨Nat.lt_succ_of_lt o.1, (hS_newn h z (Nat.ne_of_lt o.1)).trans o.2⟩
theorem Ar.made {h : PH} {t n : Nat} : Ar (hNew h (.inr (t, n))) (hN h) t n := ⟨Nat.lt_succ_self _, hS_new h _⟩
theorem okA_up {n m a : Nat} (h : okA n a) (hm : n ≤ m) : okA m a := h.imp (fun z => Nat.lt_of_lt_of_le z hm) id
theorem Ob.sI {h : PH} {a ci i j : Nat} {x : Int32} (o : Ob h a ci) : Ob (sI h i j x) a ci := o
theorem Ob.sR {h : PH} {a ci i j : Nat} {x : Option Nat} (o : Ob h a ci) : Ob (sR h i j x) a ci := o
theorem Ar.sI {h : PH} {a t n i j : Nat} {x : Int32} (o : Ar h a t n) : Ar (sI h i j x) a t n := o
theorem Ar.sR {h : PH} {a t n i j : Nat} {x : Option Nat} (o : Ar h a t n) : Ar (sR h i j x) a t n := o
theorem Ob.madeX {h : PH} {ci q : Nat} (e : hN h = q) : Ob (hNew h (.inl ci)) q ci := e ▸ Ob.made
theorem Ar.madeX {h : PH} {t n q : Nat} (e : hN h = q) : Ar (hNew h (.inr (t, n))) q t n := e ▸ Ar.made
theorem hn_sI {h : PH} {i j n : Nat} {x : Int32} (e : hN h = n) : hN (sI h i j x) = n := e
theorem hn_sR {h : PH} {i j n : Nat} {x : Option Nat} (e : hN h = n) : hN (sR h i j x) = n := e
theorem hn_new {h : PH} {n : Nat} {z : PSh} (e : hN h = n) : hN (hNew h z) = n + 1 := by rw [hN_new, e]
theorem okA_sI {h : PH} {i j b : Nat} {x : Int32} (o : okA (hN h) b) : okA (hN (sI h i j x)) b := o
theorem okA_sR {h : PH} {i j b : Nat} {x : Option Nat} (o : okA (hN h) b) : okA (hN (sR h i j x)) b := o
theorem okA_new {h : PH} {b : Nat} {z : PSh} (o : okA (hN h) b) : okA (hN (hNew h z)) b := okA_up o (Nat.le_succ _)
/-- a reference that was written once -/
def Hd (h : PH) (b k v : Nat) : Prop := b < hN h ∧ hR h b k = some v
theorem Hd.new {h : PH} {b k v : Nat} {z : PSh} (e : Hd h b k v) : Hd (hNew h z) b k v := ⟨Nat.lt_succ_of_lt e.1, by rw [hR_newn h z (Nat.ne_of_lt e.1)]; exact e.2⟩
theorem Hd.sI {h : PH} {b k v i j : Nat} {x : Int32} (e : Hd h b k v) : Hd (sI h i j x) b k v := e
theorem Hd.sR {h : PH} {b k v i j : Nat} {x : Option Nat} (hj : b ≠ i ∨ k ≠ j) (e : Hd h b k v) : Hd (sR h i j x) b k v := by
  refine ⟨e.1, ?_⟩
  by_cases hb : b = i
  · subst hb
    rw [hR_sR]; unfold va_up; rw [if_neg (hj.resolve_left (fun z => z rfl))]; exact e.2
  · rw [hR_sRn h j x hb]; exact e.2
theorem lt_sI {h : PH} {b i j : Nat} {x : Int32} (o : b < hN h) : b < hN (sI h i j x) := o
theorem lt_sR {h : PH} {b i j : Nat} {x : Option Nat} (o : b < hN h) : b < hN (sR h i j x) := o
theorem lt_new {h : PH} {b : Nat} {z : PSh} (o : b < hN h) : b < hN (hNew h z) := Nat.lt_succ_of_lt o
theorem Hd_set {h : PH} {b k v x : Nat} (hb : b < hN h) (hv : x = v) : Hd (sR h b k (some x)) b k v := ⟨hb, by rw [hR_sR]; unfold va_up; rw [if_pos rfl, hv]⟩
section OX
variable {g : GX} {md : MD} {pc : Nat} {ls : List (Option Value)} {st : List Value} {h : PH} {nc ns : Nat} {r : Option Value} {h2 : PH}
theorem o_newX {ci x q : Nat} (hq : hN h = q) (hci : ci < 12) (hw : Cond.classLink md.1.cls x (cR ci) ∈ TB ∧ Cond.instantiable (cR ci) (nF ci) ∈ TB ∧ Cond.initialized (cR ci) ∈ TB) (hd : decode md.2.1 pc = .ok (.new x, 3)) (hn : hN h < 1000000) (hc : nc + 1 ≤ md.2.2.2.2.cells) (hsl : ns + nF ci ≤ md.2.2.2.2.slots) (hl : okLs (hN h) ls) (hst : okSt (hN h) st)
    (kk : Rn g md (pc + 3) ls (.ref q :: st) (hNew h (.inl ci)) (nc + 1) (ns + nF ci) r h2) : Rn g md pc ls st h nc ns r h2 := by
  subst hq; exact o_new hci hw hd hn hc hsl hl hst kk
theorem o_newaX {t q : Nat} {ty : ArrayType} {n : Int32} {N : Nat} (hq : hN h = q) (ht : t < 4) (hty : newarray.typeOf ty = tA t) (hw : Cond.arrayClass (tA t) ∈ TB) (hd : decode md.2.1 pc = .ok (.newarray ty, 2)) (hz : ¬ n < 0) (hN' : n.toNatClampNeg = N) (hb : N ≤ 60000000) (hn : hN h < 1000000) (hc : nc + 1 ≤ md.2.2.2.2.cells) (hsl : ns + N ≤ md.2.2.2.2.slots) (hl : okLs (hN h) ls) (hst : okSt (hN h) st)
    (kk : Rn g md (pc + 2) ls (.ref q :: st) (hNew h (.inr (t, N))) (nc + 1) (ns + N) r h2) : Rn g md pc ls (.int n :: st) h nc ns r h2 := by
  subst hq; exact o_newa (x := 0) ht hty hw hd hz hN' hb hn hc hsl hl hst kk
theorem o_newqX {t x q : Nat} {n : Int32} {N : Nat} {C : String} (hq : hN h = q) (ht : (t = 4 ∧ C = RX2) ∨ (t = 5 ∧ C = RX10)) (hw : Cond.classLink md.1.cls x C ∈ TB) (hd : decode md.2.1 pc = .ok (.anewarray x, 3)) (hz : ¬ n < 0) (hN' : n.toNatClampNeg = N) (hb : N ≤ 60000000) (hn : hN h < 1000000) (hc : nc + 1 ≤ md.2.2.2.2.cells) (hsl : ns + N ≤ md.2.2.2.2.slots) (hl : okLs (hN h) ls) (hst : okSt (hN h) st)
    (kk : Rn g md (pc + 3) ls (.ref q :: st) (hNew h (.inr (t, N))) (nc + 1) (ns + N) r h2) : Rn g md pc ls (.int n :: st) h nc ns r h2 := by
  subst hq; exact o_newq ht hw hd hz hN' hb hn hc hsl hl hst kk
theorem o_iastX {a n j : Nat} {i x : Int32} (hd : decode md.2.1 pc = .ok (.iastore, 1)) (ha : a < hN h) (hs : hS h a = .inr (0, n)) (hi : vp_in i n) (hj : i.toNatClampNeg = j) (kk : Rn g md (pc + 1) ls st (sI h a j x) nc ns r h2) : Rn g md pc ls (.int x :: .int i :: .ref a :: st) h nc ns r h2 := by
  subst hj; exact o_iast hd ha hs hi kk
end OX
theorem okLs_nil {n : Nat} : okLs n [] := fun _ h => by cases h
theorem okLs_int {n : Nat} {x : Int32} {ls : List (Option Value)} (h : okLs n ls) : okLs n (some (.int x) :: ls) := by
  intro v hv
  rcases List.mem_cons.mp hv with e | e
  · cases e; trivial
  · exact h v e
theorem okLs_ref {n a : Nat} {ls : List (Option Value)} (ha : okA n a) (h : okLs n ls) : okLs n (some (.ref a) :: ls) := by
  intro v hv
  rcases List.mem_cons.mp hv with e | e
  · cases e; exact ha
  · exact h v e
theorem okLs_none {n : Nat} {ls : List (Option Value)} (h : okLs n ls) : okLs n (none :: ls) := by
  intro v hv
  rcases List.mem_cons.mp hv with e | e
  · cases e
  · exact h v e
theorem okSt_nil {n : Nat} : okSt n [] := fun _ h => by cases h
theorem okSt_int {n : Nat} {x : Int32} {st : List Value} (h : okSt n st) : okSt n (.int x :: st) := by
  intro v hv
  rcases List.mem_cons.mp hv with e | e
  · cases e; trivial
  · exact h v e
theorem okSt_null {n : Nat} {st : List Value} (h : okSt n st) : okSt n (.null :: st) := by
  intro v hv
  rcases List.mem_cons.mp hv with e | e
  · cases e; trivial
  · exact h v e
theorem okSt_ref {n a : Nat} {st : List Value} (ha : okA n a) (h : okSt n st) : okSt n (.ref a :: st) := by
  intro v hv
  rcases List.mem_cons.mp hv with e | e
  · cases e; exact ha
  · exact h v e
def mdX2_init : MD := (yX2_init, cX2_init, 5, none, { frames := 1, cells := 0, slots := 0, locals := 20 })
def mdX6_init : MD := (yX6_init, cX6_init, 1, none, { frames := 1, cells := 1, slots := 400, locals := 20 })
def mdX7_init : MD := (yX7_init, cX7_init, 1, none, { frames := 1, cells := 6, slots := 42, locals := 20 })
def mdX5_init : MD := (yX5_init, cX5_init, 1, none, { frames := 1, cells := 1, slots := 46, locals := 20 })
def mdX1_init : MD := (yX1_init, cX1_init, 1, none, { frames := 1, cells := 7, slots := 66, locals := 20 })
def mdX9_init : MD := (yX9_init, cX9_init, 1, none, { frames := 1, cells := 3, slots := 1377, locals := 20 })
def mdX8_init : MD := (yX8_init, cX8_init, 2, none, { frames := 2, cells := 7, slots := 57, locals := 40 })
def mdX3_init : MD := (yX3_init, cX3_init, 2, none, { frames := 1, cells := 4, slots := 489, locals := 20 })
def mdX10_init : MD := (yX10_init, cX10_init, 1, none, { frames := 2, cells := 11, slots := 1054, locals := 40 })
def mdX0_init : MD := (yX0_init, cX0_init, 1, none, { frames := 2, cells := 13, slots := 203, locals := 40 })
def mdX11_init : MD := (yX11_init, cX11_init, 1, none, { frames := 3, cells := 47, slots := 3643, locals := 61 })
def mdX12_init : MD := (yX12_init, cX12_init, 1, none, { frames := 1, cells := 55, slots := 13501, locals := 20 })
set_option maxRecDepth 100000 in
theorem loX2_3 : Cond.methodLink RX2 3 objectInit ∈ TB := (tb_at 846 (by decide +kernel) rfl)
set_option maxRecDepth 100000 in
theorem lgX2_9 : Cond.fieldLink RX2 9 ((cT 2) 0).1 ((cT 2) 0).2.1 ((cT 2) 0).2.2.1 ∈ TB := (tb_at 847 (by decide +kernel) rfl)
set_option maxRecDepth 100000 in
theorem lgX2_15 : Cond.fieldLink RX2 15 ((cT 2) 1).1 ((cT 2) 1).2.1 ((cT 2) 1).2.2.1 ∈ TB := (tb_at 848 (by decide +kernel) rfl)
set_option maxRecDepth 100000 in
theorem lgX2_19 : Cond.fieldLink RX2 19 ((cT 2) 2).1 ((cT 2) 2).2.1 ((cT 2) 2).2.2.1 ∈ TB := (tb_at 849 (by decide +kernel) rfl)
set_option maxRecDepth 100000 in
theorem lgX2_22 : Cond.fieldLink RX2 22 ((cT 2) 3).1 ((cT 2) 3).2.1 ((cT 2) 3).2.2.1 ∈ TB := (tb_at 850 (by decide +kernel) rfl)
set_option maxRecDepth 100000 in
theorem loX6_3 : Cond.methodLink RX6 3 objectInit ∈ TB := (tb_at 136 (by decide +kernel) rfl)
set_option maxRecDepth 100000 in
theorem la0 : Cond.arrayClass (tA 0) ∈ TB := (tb_at 165 (by decide +kernel) rfl)
set_option maxRecDepth 100000 in
theorem lgX6_9 : Cond.fieldLink RX6 9 ((cT 5) 0).1 ((cT 5) 0).2.1 ((cT 5) 0).2.2.1 ∈ TB := (tb_at 137 (by decide +kernel) rfl)
set_option maxRecDepth 100000 in
theorem lgX6_15 : Cond.fieldLink RX6 15 ((cT 5) 1).1 ((cT 5) 1).2.1 ((cT 5) 1).2.2.1 ∈ TB := (tb_at 138 (by decide +kernel) rfl)
set_option maxRecDepth 100000 in
theorem lgX6_19 : Cond.fieldLink RX6 19 ((cT 5) 2).1 ((cT 5) 2).2.1 ((cT 5) 2).2.2.1 ∈ TB := (tb_at 140 (by decide +kernel) rfl)
set_option maxRecDepth 100000 in
theorem lgX6_22 : Cond.fieldLink RX6 22 ((cT 5) 3).1 ((cT 5) 3).2.1 ((cT 5) 3).2.2.1 ∈ TB := (tb_at 141 (by decide +kernel) rfl)
set_option maxRecDepth 100000 in
theorem lgX6_25 : Cond.fieldLink RX6 25 ((cT 5) 4).1 ((cT 5) 4).2.1 ((cT 5) 4).2.2.1 ∈ TB := (tb_at 144 (by decide +kernel) rfl)
set_option maxRecDepth 100000 in
theorem lgX6_28 : Cond.fieldLink RX6 28 ((cT 5) 5).1 ((cT 5) 5).2.1 ((cT 5) 5).2.2.1 ∈ TB := (tb_at 147 (by decide +kernel) rfl)
set_option maxRecDepth 100000 in
theorem lgX6_31 : Cond.fieldLink RX6 31 ((cT 5) 6).1 ((cT 5) 6).2.1 ((cT 5) 6).2.2.1 ∈ TB := (tb_at 148 (by decide +kernel) rfl)
set_option maxRecDepth 100000 in
theorem loX7_3 : Cond.methodLink RX7 3 objectInit ∈ TB := (tb_at 177 (by decide +kernel) rfl)
set_option maxRecDepth 100000 in
theorem lgX7_9 : Cond.fieldLink RX7 9 ((cT 6) 0).1 ((cT 6) 0).2.1 ((cT 6) 0).2.2.1 ∈ TB := (tb_at 178 (by decide +kernel) rfl)
set_option maxRecDepth 100000 in
theorem lgX7_15 : Cond.fieldLink RX7 15 ((cT 6) 1).1 ((cT 6) 1).2.1 ((cT 6) 1).2.2.1 ∈ TB := (tb_at 181 (by decide +kernel) rfl)
set_option maxRecDepth 100000 in
theorem lgX7_19 : Cond.fieldLink RX7 19 ((cT 6) 2).1 ((cT 6) 2).2.1 ((cT 6) 2).2.2.1 ∈ TB := (tb_at 185 (by decide +kernel) rfl)
set_option maxRecDepth 100000 in
theorem lgX7_22 : Cond.fieldLink RX7 22 ((cT 6) 3).1 ((cT 6) 3).2.1 ((cT 6) 3).2.2.1 ∈ TB := (tb_at 189 (by decide +kernel) rfl)
set_option maxRecDepth 100000 in
theorem lgX7_25 : Cond.fieldLink RX7 25 ((cT 6) 4).1 ((cT 6) 4).2.1 ((cT 6) 4).2.2.1 ∈ TB := (tb_at 193 (by decide +kernel) rfl)
set_option maxRecDepth 100000 in
theorem lgX7_28 : Cond.fieldLink RX7 28 ((cT 6) 5).1 ((cT 6) 5).2.1 ((cT 6) 5).2.2.1 ∈ TB := (tb_at 196 (by decide +kernel) rfl)
set_option maxRecDepth 100000 in
theorem lgX7_31 : Cond.fieldLink RX7 31 ((cT 6) 6).1 ((cT 6) 6).2.1 ((cT 6) 6).2.2.1 ∈ TB := (tb_at 199 (by decide +kernel) rfl)
set_option maxRecDepth 100000 in
theorem lgX7_34 : Cond.fieldLink RX7 34 ((cT 6) 7).1 ((cT 6) 7).2.1 ((cT 6) 7).2.2.1 ∈ TB := (tb_at 202 (by decide +kernel) rfl)
set_option maxRecDepth 100000 in
theorem lgX7_37 : Cond.fieldLink RX7 37 ((cT 6) 8).1 ((cT 6) 8).2.1 ((cT 6) 8).2.2.1 ∈ TB := (tb_at 207 (by decide +kernel) rfl)
set_option maxRecDepth 100000 in
theorem lgX7_40 : Cond.fieldLink RX7 40 ((cT 6) 9).1 ((cT 6) 9).2.1 ((cT 6) 9).2.2.1 ∈ TB := (tb_at 213 (by decide +kernel) rfl)
set_option maxRecDepth 100000 in
theorem lgX7_44 : Cond.fieldLink RX7 44 ((cT 6) 10).1 ((cT 6) 10).2.1 ((cT 6) 10).2.2.1 ∈ TB := (tb_at 218 (by decide +kernel) rfl)
set_option maxRecDepth 100000 in
theorem lgX7_47 : Cond.fieldLink RX7 47 ((cT 6) 11).1 ((cT 6) 11).2.1 ((cT 6) 11).2.2.1 ∈ TB := (tb_at 221 (by decide +kernel) rfl)
set_option maxRecDepth 100000 in
theorem lgX7_50 : Cond.fieldLink RX7 50 ((cT 6) 12).1 ((cT 6) 12).2.1 ((cT 6) 12).2.2.1 ∈ TB := (tb_at 225 (by decide +kernel) rfl)
set_option maxRecDepth 100000 in
theorem lgX7_53 : Cond.fieldLink RX7 53 ((cT 6) 13).1 ((cT 6) 13).2.1 ((cT 6) 13).2.2.1 ∈ TB := (tb_at 229 (by decide +kernel) rfl)
set_option maxRecDepth 100000 in
theorem lgX7_56 : Cond.fieldLink RX7 56 ((cT 6) 14).1 ((cT 6) 14).2.1 ((cT 6) 14).2.2.1 ∈ TB := (tb_at 232 (by decide +kernel) rfl)
set_option maxRecDepth 100000 in
theorem loX5_5 : Cond.methodLink RX5 5 objectInit ∈ TB := (tb_at 339 (by decide +kernel) rfl)
set_option maxRecDepth 100000 in
theorem lgX5_11 : Cond.fieldLink RX5 11 ((cT 4) 0).1 ((cT 4) 0).2.1 ((cT 4) 0).2.2.1 ∈ TB := (tb_at 340 (by decide +kernel) rfl)
set_option maxRecDepth 100000 in
theorem loX1_3 : Cond.methodLink RX1 3 objectInit ∈ TB := (tb_at 398 (by decide +kernel) rfl)
set_option maxRecDepth 100000 in
theorem lgX1_9 : Cond.fieldLink RX1 9 ((cT 1) 0).1 ((cT 1) 0).2.1 ((cT 1) 0).2.2.1 ∈ TB := (tb_at 399 (by decide +kernel) rfl)
set_option maxRecDepth 100000 in
theorem lgX1_15 : Cond.fieldLink RX1 15 ((cT 1) 1).1 ((cT 1) 1).2.1 ((cT 1) 1).2.2.1 ∈ TB := (tb_at 401 (by decide +kernel) rfl)
set_option maxRecDepth 100000 in
theorem lgX1_18 : Cond.fieldLink RX1 18 ((cT 1) 2).1 ((cT 1) 2).2.1 ((cT 1) 2).2.2.1 ∈ TB := (tb_at 404 (by decide +kernel) rfl)
set_option maxRecDepth 100000 in
theorem lgX1_21 : Cond.fieldLink RX1 21 ((cT 1) 3).1 ((cT 1) 3).2.1 ((cT 1) 3).2.2.1 ∈ TB := (tb_at 407 (by decide +kernel) rfl)
set_option maxRecDepth 100000 in
theorem lgX1_24 : Cond.fieldLink RX1 24 ((cT 1) 4).1 ((cT 1) 4).2.1 ((cT 1) 4).2.2.1 ∈ TB := (tb_at 410 (by decide +kernel) rfl)
set_option maxRecDepth 100000 in
theorem lgX1_27 : Cond.fieldLink RX1 27 ((cT 1) 5).1 ((cT 1) 5).2.1 ((cT 1) 5).2.2.1 ∈ TB := (tb_at 413 (by decide +kernel) rfl)
set_option maxRecDepth 100000 in
theorem lgX1_30 : Cond.fieldLink RX1 30 ((cT 1) 6).1 ((cT 1) 6).2.1 ((cT 1) 6).2.2.1 ∈ TB := (tb_at 416 (by decide +kernel) rfl)
set_option maxRecDepth 100000 in
theorem loX9_7 : Cond.methodLink RX9 7 objectInit ∈ TB := (tb_at 504 (by decide +kernel) rfl)
set_option maxRecDepth 100000 in
theorem lgX9_13 : Cond.fieldLink RX9 13 ((cT 8) 0).1 ((cT 8) 0).2.1 ((cT 8) 0).2.2.1 ∈ TB := (tb_at 505 (by decide +kernel) rfl)
set_option maxRecDepth 100000 in
theorem lgX9_17 : Cond.fieldLink RX9 17 ((cT 8) 1).1 ((cT 8) 1).2.1 ((cT 8) 1).2.2.1 ∈ TB := (tb_at 506 (by decide +kernel) rfl)
set_option maxRecDepth 100000 in
theorem lgX9_20 : Cond.fieldLink RX9 20 ((cT 8) 2).1 ((cT 8) 2).2.1 ((cT 8) 2).2.2.1 ∈ TB := (tb_at 507 (by decide +kernel) rfl)
set_option maxRecDepth 100000 in
theorem loX8_3 : Cond.methodLink RX8 3 objectInit ∈ TB := (tb_at 171 (by decide +kernel) rfl)
set_option maxRecDepth 100000 in
theorem lnX8_9 : Cond.classLink RX8 9 (cR 6) ∈ TB ∧ Cond.instantiable (cR 6) (nF 6) ∈ TB ∧ Cond.initialized (cR 6) ∈ TB := ⟨(tb_at 172 (by decide +kernel) rfl), (tb_at 173 (by decide +kernel) rfl), (tb_at 105 (by decide +kernel) rfl)⟩
set_option maxRecDepth 100000 in
theorem stX8_11 : siteI RX8 11 mdX7_init 0 := ⟨⟨(tb_at 174 (by decide +kernel) rfl), (tb_at 176 (by decide +kernel) rfl), (tb_at 105 (by decide +kernel) rfl), by decide, by decide, by decide +kernel⟩, rfl, rfl, (tb_at 175 (by decide +kernel) rfl)⟩
set_option maxRecDepth 100000 in
theorem lgX8_12 : Cond.fieldLink RX8 12 ((cT 7) 1).1 ((cT 7) 1).2.1 ((cT 7) 1).2.2.1 ∈ TB := (tb_at 268 (by decide +kernel) rfl)
set_option maxRecDepth 100000 in
theorem lgX8_18 : Cond.fieldLink RX8 18 ((cT 7) 2).1 ((cT 7) 2).2.1 ((cT 7) 2).2.2.1 ∈ TB := (tb_at 270 (by decide +kernel) rfl)
set_option maxRecDepth 100000 in
theorem lgX8_22 : Cond.fieldLink RX8 22 ((cT 7) 0).1 ((cT 7) 0).2.1 ((cT 7) 0).2.2.1 ∈ TB := (tb_at 267 (by decide +kernel) rfl)
set_option maxRecDepth 100000 in
theorem loX3_3 : Cond.methodLink RX3 3 objectInit ∈ TB := (tb_at 283 (by decide +kernel) rfl)
set_option maxRecDepth 100000 in
theorem lgX3_9 : Cond.fieldLink RX3 9 ((cT 3) 1).1 ((cT 3) 1).2.1 ((cT 3) 1).2.2.1 ∈ TB := (tb_at 285 (by decide +kernel) rfl)
set_option maxRecDepth 100000 in
theorem lgX3_15 : Cond.fieldLink RX3 15 ((cT 3) 2).1 ((cT 3) 2).2.1 ((cT 3) 2).2.2.1 ∈ TB := (tb_at 286 (by decide +kernel) rfl)
set_option maxRecDepth 100000 in
theorem lgX3_19 : Cond.fieldLink RX3 19 ((cT 3) 3).1 ((cT 3) 3).2.1 ((cT 3) 3).2.2.1 ∈ TB := (tb_at 287 (by decide +kernel) rfl)
set_option maxRecDepth 100000 in
theorem lgX3_22 : Cond.fieldLink RX3 22 ((cT 3) 4).1 ((cT 3) 4).2.1 ((cT 3) 4).2.2.1 ∈ TB := (tb_at 288 (by decide +kernel) rfl)
set_option maxRecDepth 100000 in
theorem lgX3_25 : Cond.fieldLink RX3 25 ((cT 3) 5).1 ((cT 3) 5).2.1 ((cT 3) 5).2.2.1 ∈ TB := (tb_at 289 (by decide +kernel) rfl)
set_option maxRecDepth 100000 in
theorem lgX3_28 : Cond.fieldLink RX3 28 ((cT 3) 6).1 ((cT 3) 6).2.1 ((cT 3) 6).2.2.1 ∈ TB := (tb_at 290 (by decide +kernel) rfl)
set_option maxRecDepth 100000 in
theorem lgX3_31 : Cond.fieldLink RX3 31 ((cT 3) 7).1 ((cT 3) 7).2.1 ((cT 3) 7).2.2.1 ∈ TB := (tb_at 291 (by decide +kernel) rfl)
set_option maxRecDepth 100000 in
theorem lgX3_34 : Cond.fieldLink RX3 34 ((cT 3) 8).1 ((cT 3) 8).2.1 ((cT 3) 8).2.2.1 ∈ TB := (tb_at 292 (by decide +kernel) rfl)
set_option maxRecDepth 100000 in
theorem lgX3_37 : Cond.fieldLink RX3 37 ((cT 3) 9).1 ((cT 3) 9).2.1 ((cT 3) 9).2.2.1 ∈ TB := (tb_at 293 (by decide +kernel) rfl)
set_option maxRecDepth 100000 in
theorem lgX3_40 : Cond.fieldLink RX3 40 ((cT 3) 10).1 ((cT 3) 10).2.1 ((cT 3) 10).2.2.1 ∈ TB := (tb_at 294 (by decide +kernel) rfl)
set_option maxRecDepth 100000 in
theorem lgX3_43 : Cond.fieldLink RX3 43 ((cT 3) 11).1 ((cT 3) 11).2.1 ((cT 3) 11).2.2.1 ∈ TB := (tb_at 295 (by decide +kernel) rfl)
set_option maxRecDepth 100000 in
theorem lgX3_46 : Cond.fieldLink RX3 46 ((cT 3) 12).1 ((cT 3) 12).2.1 ((cT 3) 12).2.2.1 ∈ TB := (tb_at 296 (by decide +kernel) rfl)
set_option maxRecDepth 100000 in
theorem lgX3_49 : Cond.fieldLink RX3 49 ((cT 3) 0).1 ((cT 3) 0).2.1 ((cT 3) 0).2.2.1 ∈ TB := (tb_at 284 (by decide +kernel) rfl)
set_option maxRecDepth 100000 in
theorem loX10_3 : Cond.methodLink RX10 3 objectInit ∈ TB := (tb_at 331 (by decide +kernel) rfl)
set_option maxRecDepth 100000 in
theorem lnX10_9 : Cond.classLink RX10 9 (cR 6) ∈ TB ∧ Cond.instantiable (cR 6) (nF 6) ∈ TB ∧ Cond.initialized (cR 6) ∈ TB := ⟨(tb_at 332 (by decide +kernel) rfl), (tb_at 173 (by decide +kernel) rfl), (tb_at 105 (by decide +kernel) rfl)⟩
set_option maxRecDepth 100000 in
theorem stX10_11 : siteI RX10 11 mdX7_init 0 := ⟨⟨(tb_at 333 (by decide +kernel) rfl), (tb_at 176 (by decide +kernel) rfl), (tb_at 105 (by decide +kernel) rfl), by decide, by decide, by decide +kernel⟩, rfl, rfl, (tb_at 175 (by decide +kernel) rfl)⟩
set_option maxRecDepth 100000 in
theorem lgX10_12 : Cond.fieldLink RX10 12 ((cT 9) 0).1 ((cT 9) 0).2.1 ((cT 9) 0).2.2.1 ∈ TB := (tb_at 349 (by decide +kernel) rfl)
set_option maxRecDepth 100000 in
theorem lnX10_18 : Cond.classLink RX10 18 (cR 4) ∈ TB ∧ Cond.instantiable (cR 4) (nF 4) ∈ TB ∧ Cond.initialized (cR 4) ∈ TB := ⟨(tb_at 334 (by decide +kernel) rfl), (tb_at 335 (by decide +kernel) rfl), (tb_at 108 (by decide +kernel) rfl)⟩
set_option maxRecDepth 100000 in
theorem stX10_20 : siteI RX10 20 mdX5_init 0 := ⟨⟨(tb_at 336 (by decide +kernel) rfl), (tb_at 338 (by decide +kernel) rfl), (tb_at 108 (by decide +kernel) rfl), by decide, by decide, by decide +kernel⟩, rfl, rfl, (tb_at 337 (by decide +kernel) rfl)⟩
set_option maxRecDepth 100000 in
theorem lgX10_21 : Cond.fieldLink RX10 21 ((cT 9) 1).1 ((cT 9) 1).2.1 ((cT 9) 1).2.2.1 ∈ TB := (tb_at 351 (by decide +kernel) rfl)
set_option maxRecDepth 100000 in
theorem lgX10_25 : Cond.fieldLink RX10 25 ((cT 9) 2).1 ((cT 9) 2).2.1 ((cT 9) 2).2.2.1 ∈ TB := (tb_at 353 (by decide +kernel) rfl)
set_option maxRecDepth 100000 in
theorem lgX10_29 : Cond.fieldLink RX10 29 ((cT 9) 3).1 ((cT 9) 3).2.1 ((cT 9) 3).2.2.1 ∈ TB := (tb_at 355 (by decide +kernel) rfl)
set_option maxRecDepth 100000 in
theorem lgX10_32 : Cond.fieldLink RX10 32 ((cT 9) 4).1 ((cT 9) 4).2.1 ((cT 9) 4).2.2.1 ∈ TB := (tb_at 357 (by decide +kernel) rfl)
set_option maxRecDepth 100000 in
theorem lgX10_35 : Cond.fieldLink RX10 35 ((cT 9) 5).1 ((cT 9) 5).2.1 ((cT 9) 5).2.2.1 ∈ TB := (tb_at 360 (by decide +kernel) rfl)
set_option maxRecDepth 100000 in
theorem lgX10_39 : Cond.fieldLink RX10 39 ((cT 9) 6).1 ((cT 9) 6).2.1 ((cT 9) 6).2.2.1 ∈ TB := (tb_at 361 (by decide +kernel) rfl)
set_option maxRecDepth 100000 in
theorem lgX10_42 : Cond.fieldLink RX10 42 ((cT 9) 7).1 ((cT 9) 7).2.1 ((cT 9) 7).2.2.1 ∈ TB := (tb_at 362 (by decide +kernel) rfl)
set_option maxRecDepth 100000 in
theorem lgX10_45 : Cond.fieldLink RX10 45 ((cT 9) 8).1 ((cT 9) 8).2.1 ((cT 9) 8).2.2.1 ∈ TB := (tb_at 363 (by decide +kernel) rfl)
set_option maxRecDepth 100000 in
theorem loX0_3 : Cond.methodLink RX0 3 objectInit ∈ TB := (tb_at 390 (by decide +kernel) rfl)
set_option maxRecDepth 100000 in
theorem lnX0_9 : Cond.classLink RX0 9 (cR 4) ∈ TB ∧ Cond.instantiable (cR 4) (nF 4) ∈ TB ∧ Cond.initialized (cR 4) ∈ TB := ⟨(tb_at 391 (by decide +kernel) rfl), (tb_at 335 (by decide +kernel) rfl), (tb_at 108 (by decide +kernel) rfl)⟩
set_option maxRecDepth 100000 in
theorem stX0_11 : siteI RX0 11 mdX5_init 0 := ⟨⟨(tb_at 392 (by decide +kernel) rfl), (tb_at 338 (by decide +kernel) rfl), (tb_at 108 (by decide +kernel) rfl), by decide, by decide, by decide +kernel⟩, rfl, rfl, (tb_at 337 (by decide +kernel) rfl)⟩
set_option maxRecDepth 100000 in
theorem lgX0_12 : Cond.fieldLink RX0 12 ((cT 0) 0).1 ((cT 0) 0).2.1 ((cT 0) 0).2.2.1 ∈ TB := (tb_at 433 (by decide +kernel) rfl)
set_option maxRecDepth 100000 in
theorem lnX0_18 : Cond.classLink RX0 18 (cR 1) ∈ TB ∧ Cond.instantiable (cR 1) (nF 1) ∈ TB ∧ Cond.initialized (cR 1) ∈ TB := ⟨(tb_at 393 (by decide +kernel) rfl), (tb_at 394 (by decide +kernel) rfl), (tb_at 110 (by decide +kernel) rfl)⟩
set_option maxRecDepth 100000 in
theorem stX0_20 : siteI RX0 20 mdX1_init 0 := ⟨⟨(tb_at 395 (by decide +kernel) rfl), (tb_at 397 (by decide +kernel) rfl), (tb_at 110 (by decide +kernel) rfl), by decide, by decide, by decide +kernel⟩, rfl, rfl, (tb_at 396 (by decide +kernel) rfl)⟩
set_option maxRecDepth 100000 in
theorem lgX0_21 : Cond.fieldLink RX0 21 ((cT 0) 1).1 ((cT 0) 1).2.1 ((cT 0) 1).2.2.1 ∈ TB := (tb_at 435 (by decide +kernel) rfl)
set_option maxRecDepth 100000 in
theorem lgX0_25 : Cond.fieldLink RX0 25 ((cT 0) 2).1 ((cT 0) 2).2.1 ((cT 0) 2).2.2.1 ∈ TB := (tb_at 437 (by decide +kernel) rfl)
set_option maxRecDepth 100000 in
theorem lgX0_31 : Cond.fieldLink RX0 31 ((cT 0) 3).1 ((cT 0) 3).2.1 ((cT 0) 3).2.2.1 ∈ TB := (tb_at 439 (by decide +kernel) rfl)
set_option maxRecDepth 100000 in
theorem la1 : Cond.arrayClass (tA 1) ∈ TB := (tb_at 498 (by decide +kernel) rfl)
set_option maxRecDepth 100000 in
theorem lgX0_34 : Cond.fieldLink RX0 34 ((cT 0) 4).1 ((cT 0) 4).2.1 ((cT 0) 4).2.2.1 ∈ TB := (tb_at 440 (by decide +kernel) rfl)
set_option maxRecDepth 100000 in
theorem lgX0_38 : Cond.fieldLink RX0 38 ((cT 0) 5).1 ((cT 0) 5).2.1 ((cT 0) 5).2.2.1 ∈ TB := (tb_at 441 (by decide +kernel) rfl)
set_option maxRecDepth 100000 in
theorem lgX0_42 : Cond.fieldLink RX0 42 ((cT 0) 6).1 ((cT 0) 6).2.1 ((cT 0) 6).2.2.1 ∈ TB := (tb_at 442 (by decide +kernel) rfl)
set_option maxRecDepth 100000 in
theorem lgX0_46 : Cond.fieldLink RX0 46 ((cT 0) 7).1 ((cT 0) 7).2.1 ((cT 0) 7).2.2.1 ∈ TB := (tb_at 443 (by decide +kernel) rfl)
set_option maxRecDepth 100000 in
theorem lgX0_50 : Cond.fieldLink RX0 50 ((cT 0) 8).1 ((cT 0) 8).2.1 ((cT 0) 8).2.2.1 ∈ TB := (tb_at 445 (by decide +kernel) rfl)
set_option maxRecDepth 100000 in
theorem lgX0_53 : Cond.fieldLink RX0 53 ((cT 0) 9).1 ((cT 0) 9).2.1 ((cT 0) 9).2.2.1 ∈ TB := (tb_at 447 (by decide +kernel) rfl)
set_option maxRecDepth 100000 in
theorem lgX0_56 : Cond.fieldLink RX0 56 ((cT 0) 10).1 ((cT 0) 10).2.1 ((cT 0) 10).2.2.1 ∈ TB := (tb_at 449 (by decide +kernel) rfl)
set_option maxRecDepth 100000 in
theorem lgX0_59 : Cond.fieldLink RX0 59 ((cT 0) 11).1 ((cT 0) 11).2.1 ((cT 0) 11).2.2.1 ∈ TB := (tb_at 450 (by decide +kernel) rfl)
set_option maxRecDepth 100000 in
theorem lgX0_62 : Cond.fieldLink RX0 62 ((cT 0) 12).1 ((cT 0) 12).2.1 ((cT 0) 12).2.2.1 ∈ TB := (tb_at 451 (by decide +kernel) rfl)
set_option maxRecDepth 100000 in
theorem lgX0_65 : Cond.fieldLink RX0 65 ((cT 0) 13).1 ((cT 0) 13).2.1 ((cT 0) 13).2.2.1 ∈ TB := (tb_at 452 (by decide +kernel) rfl)
set_option maxRecDepth 100000 in
theorem lgX0_69 : Cond.fieldLink RX0 69 ((cT 0) 14).1 ((cT 0) 14).2.1 ((cT 0) 14).2.2.1 ∈ TB := (tb_at 453 (by decide +kernel) rfl)
set_option maxRecDepth 100000 in
theorem lgX0_72 : Cond.fieldLink RX0 72 ((cT 0) 15).1 ((cT 0) 15).2.1 ((cT 0) 15).2.2.1 ∈ TB := (tb_at 455 (by decide +kernel) rfl)
set_option maxRecDepth 100000 in
theorem lgX0_75 : Cond.fieldLink RX0 75 ((cT 0) 16).1 ((cT 0) 16).2.1 ((cT 0) 16).2.2.1 ∈ TB := (tb_at 457 (by decide +kernel) rfl)
set_option maxRecDepth 100000 in
theorem lgX0_78 : Cond.fieldLink RX0 78 ((cT 0) 17).1 ((cT 0) 17).2.1 ((cT 0) 17).2.2.1 ∈ TB := (tb_at 459 (by decide +kernel) rfl)
set_option maxRecDepth 100000 in
theorem loX11_1 : Cond.methodLink RX11 1 objectInit ∈ TB := (tb_at 128 (by decide +kernel) rfl)
set_option maxRecDepth 100000 in
theorem lnX11_7 : Cond.classLink RX11 7 (cR 5) ∈ TB ∧ Cond.instantiable (cR 5) (nF 5) ∈ TB ∧ Cond.initialized (cR 5) ∈ TB := ⟨(tb_at 131 (by decide +kernel) rfl), (tb_at 132 (by decide +kernel) rfl), (tb_at 103 (by decide +kernel) rfl)⟩
set_option maxRecDepth 100000 in
theorem stX11_9 : siteI RX11 9 mdX6_init 0 := ⟨⟨(tb_at 133 (by decide +kernel) rfl), (tb_at 135 (by decide +kernel) rfl), (tb_at 103 (by decide +kernel) rfl), by decide, by decide, by decide +kernel⟩, rfl, rfl, (tb_at 134 (by decide +kernel) rfl)⟩
set_option maxRecDepth 100000 in
theorem lgX11_10 : Cond.fieldLink RX11 10 ((cT 10) 0).1 ((cT 10) 0).2.1 ((cT 10) 0).2.2.1 ∈ TB := (tb_at 515 (by decide +kernel) rfl)
set_option maxRecDepth 100000 in
theorem lnX11_16 : Cond.classLink RX11 16 (cR 7) ∈ TB ∧ Cond.instantiable (cR 7) (nF 7) ∈ TB ∧ Cond.initialized (cR 7) ∈ TB := ⟨(tb_at 166 (by decide +kernel) rfl), (tb_at 167 (by decide +kernel) rfl), (tb_at 104 (by decide +kernel) rfl)⟩
set_option maxRecDepth 100000 in
theorem stX11_18 : siteI RX11 18 mdX8_init 1 := ⟨⟨(tb_at 168 (by decide +kernel) rfl), (tb_at 170 (by decide +kernel) rfl), (tb_at 104 (by decide +kernel) rfl), by decide, by decide, by decide +kernel⟩, rfl, rfl, (tb_at 169 (by decide +kernel) rfl)⟩
set_option maxRecDepth 100000 in
theorem lgX11_21 : Cond.fieldLink RX11 21 ((cT 10) 1).1 ((cT 10) 1).2.1 ((cT 10) 1).2.2.1 ∈ TB := (tb_at 516 (by decide +kernel) rfl)
set_option maxRecDepth 100000 in
theorem lnX11_25 : Cond.classLink RX11 25 (cR 3) ∈ TB ∧ Cond.instantiable (cR 3) (nF 3) ∈ TB ∧ Cond.initialized (cR 3) ∈ TB := ⟨(tb_at 278 (by decide +kernel) rfl), (tb_at 279 (by decide +kernel) rfl), (tb_at 106 (by decide +kernel) rfl)⟩
set_option maxRecDepth 100000 in
theorem stX11_27 : siteI RX11 27 mdX3_init 1 := ⟨⟨(tb_at 280 (by decide +kernel) rfl), (tb_at 282 (by decide +kernel) rfl), (tb_at 106 (by decide +kernel) rfl), by decide, by decide, by decide +kernel⟩, rfl, rfl, (tb_at 281 (by decide +kernel) rfl)⟩
set_option maxRecDepth 100000 in
theorem lgX11_28 : Cond.fieldLink RX11 28 ((cT 10) 2).1 ((cT 10) 2).2.1 ((cT 10) 2).2.2.1 ∈ TB := (tb_at 517 (by decide +kernel) rfl)
set_option maxRecDepth 100000 in
theorem lqX11_32 : Cond.classLink RX11 32 RX2 ∈ TB := (tb_at 324 (by decide +kernel) rfl)
set_option maxRecDepth 100000 in
theorem lgX11_34 : Cond.fieldLink RX11 34 ((cT 10) 3).1 ((cT 10) 3).2.1 ((cT 10) 3).2.2.1 ∈ TB := (tb_at 518 (by decide +kernel) rfl)
set_option maxRecDepth 100000 in
theorem lgX11_38 : Cond.fieldLink RX11 38 ((cT 10) 4).1 ((cT 10) 4).2.1 ((cT 10) 4).2.2.1 ∈ TB := (tb_at 519 (by decide +kernel) rfl)
set_option maxRecDepth 100000 in
theorem lnX11_42 : Cond.classLink RX11 42 (cR 9) ∈ TB ∧ Cond.instantiable (cR 9) (nF 9) ∈ TB ∧ Cond.initialized (cR 9) ∈ TB := ⟨(tb_at 326 (by decide +kernel) rfl), (tb_at 327 (by decide +kernel) rfl), (tb_at 107 (by decide +kernel) rfl)⟩
set_option maxRecDepth 100000 in
theorem stX11_44 : siteI RX11 44 mdX10_init 0 := ⟨⟨(tb_at 328 (by decide +kernel) rfl), (tb_at 330 (by decide +kernel) rfl), (tb_at 107 (by decide +kernel) rfl), by decide, by decide, by decide +kernel⟩, rfl, rfl, (tb_at 329 (by decide +kernel) rfl)⟩
set_option maxRecDepth 100000 in
theorem lgX11_45 : Cond.fieldLink RX11 45 ((cT 10) 5).1 ((cT 10) 5).2.1 ((cT 10) 5).2.2.1 ∈ TB := (tb_at 520 (by decide +kernel) rfl)
set_option maxRecDepth 100000 in
theorem lqX11_42 : Cond.classLink RX11 42 RX10 ∈ TB := (tb_at 326 (by decide +kernel) rfl)
set_option maxRecDepth 100000 in
theorem lgX11_49 : Cond.fieldLink RX11 49 ((cT 10) 6).1 ((cT 10) 6).2.1 ((cT 10) 6).2.2.1 ∈ TB := (tb_at 521 (by decide +kernel) rfl)
set_option maxRecDepth 100000 in
theorem lnX11_53 : Cond.classLink RX11 53 (cR 0) ∈ TB ∧ Cond.instantiable (cR 0) (nF 0) ∈ TB ∧ Cond.initialized (cR 0) ∈ TB := ⟨(tb_at 385 (by decide +kernel) rfl), (tb_at 386 (by decide +kernel) rfl), (tb_at 109 (by decide +kernel) rfl)⟩
set_option maxRecDepth 100000 in
theorem stX11_55 : siteI RX11 55 mdX0_init 0 := ⟨⟨(tb_at 387 (by decide +kernel) rfl), (tb_at 389 (by decide +kernel) rfl), (tb_at 109 (by decide +kernel) rfl), by decide, by decide, by decide +kernel⟩, rfl, rfl, (tb_at 388 (by decide +kernel) rfl)⟩
set_option maxRecDepth 100000 in
theorem lgX11_56 : Cond.fieldLink RX11 56 ((cT 10) 7).1 ((cT 10) 7).2.1 ((cT 10) 7).2.2.1 ∈ TB := (tb_at 522 (by decide +kernel) rfl)
set_option maxRecDepth 100000 in
theorem lnX11_60 : Cond.classLink RX11 60 (cR 8) ∈ TB ∧ Cond.instantiable (cR 8) (nF 8) ∈ TB ∧ Cond.initialized (cR 8) ∈ TB := ⟨(tb_at 499 (by decide +kernel) rfl), (tb_at 500 (by decide +kernel) rfl), (tb_at 111 (by decide +kernel) rfl)⟩
set_option maxRecDepth 100000 in
theorem stX11_62 : siteI RX11 62 mdX9_init 0 := ⟨⟨(tb_at 501 (by decide +kernel) rfl), (tb_at 503 (by decide +kernel) rfl), (tb_at 111 (by decide +kernel) rfl), by decide, by decide, by decide +kernel⟩, rfl, rfl, (tb_at 502 (by decide +kernel) rfl)⟩
set_option maxRecDepth 100000 in
theorem lgX11_63 : Cond.fieldLink RX11 63 ((cT 10) 8).1 ((cT 10) 8).2.1 ((cT 10) 8).2.2.1 ∈ TB := (tb_at 523 (by decide +kernel) rfl)
set_option maxRecDepth 100000 in
theorem loX12_3 : Cond.methodLink RX12 3 objectInit ∈ TB := (tb_at 1179 (by decide +kernel) rfl)
set_option maxRecDepth 100000 in
theorem lgX12_9 : Cond.fieldLink RX12 9 ((cT 11) 1).1 ((cT 11) 1).2.1 ((cT 11) 1).2.2.1 ∈ TB := (tb_at 1180 (by decide +kernel) rfl)
set_option maxRecDepth 100000 in
theorem lgX12_13 : Cond.fieldLink RX12 13 ((cT 11) 2).1 ((cT 11) 2).2.1 ((cT 11) 2).2.2.1 ∈ TB := (tb_at 1181 (by decide +kernel) rfl)
set_option maxRecDepth 100000 in
theorem lgX12_16 : Cond.fieldLink RX12 16 ((cT 11) 3).1 ((cT 11) 3).2.1 ((cT 11) 3).2.2.1 ∈ TB := (tb_at 1182 (by decide +kernel) rfl)
set_option maxRecDepth 100000 in
theorem lgX12_19 : Cond.fieldLink RX12 19 ((cT 11) 4).1 ((cT 11) 4).2.1 ((cT 11) 4).2.2.1 ∈ TB := (tb_at 1183 (by decide +kernel) rfl)
set_option maxRecDepth 100000 in
theorem lgX12_22 : Cond.fieldLink RX12 22 ((cT 11) 5).1 ((cT 11) 5).2.1 ((cT 11) 5).2.2.1 ∈ TB := (tb_at 1184 (by decide +kernel) rfl)
set_option maxRecDepth 100000 in
theorem lgX12_25 : Cond.fieldLink RX12 25 ((cT 11) 6).1 ((cT 11) 6).2.1 ((cT 11) 6).2.2.1 ∈ TB := (tb_at 1185 (by decide +kernel) rfl)
set_option maxRecDepth 100000 in
theorem lgX12_28 : Cond.fieldLink RX12 28 ((cT 11) 7).1 ((cT 11) 7).2.1 ((cT 11) 7).2.2.1 ∈ TB := (tb_at 1186 (by decide +kernel) rfl)
set_option maxRecDepth 100000 in
theorem lgX12_31 : Cond.fieldLink RX12 31 ((cT 11) 8).1 ((cT 11) 8).2.1 ((cT 11) 8).2.2.1 ∈ TB := (tb_at 1187 (by decide +kernel) rfl)
set_option maxRecDepth 100000 in
theorem lgX12_34 : Cond.fieldLink RX12 34 ((cT 11) 9).1 ((cT 11) 9).2.1 ((cT 11) 9).2.2.1 ∈ TB := (tb_at 1188 (by decide +kernel) rfl)
set_option maxRecDepth 100000 in
theorem lgX12_37 : Cond.fieldLink RX12 37 ((cT 11) 10).1 ((cT 11) 10).2.1 ((cT 11) 10).2.2.1 ∈ TB := (tb_at 1189 (by decide +kernel) rfl)
set_option maxRecDepth 100000 in
theorem lgX12_40 : Cond.fieldLink RX12 40 ((cT 11) 11).1 ((cT 11) 11).2.1 ((cT 11) 11).2.2.1 ∈ TB := (tb_at 1190 (by decide +kernel) rfl)
set_option maxRecDepth 100000 in
theorem lgX12_43 : Cond.fieldLink RX12 43 ((cT 11) 12).1 ((cT 11) 12).2.1 ((cT 11) 12).2.2.1 ∈ TB := (tb_at 1191 (by decide +kernel) rfl)
set_option maxRecDepth 100000 in
theorem lgX12_46 : Cond.fieldLink RX12 46 ((cT 11) 13).1 ((cT 11) 13).2.1 ((cT 11) 13).2.2.1 ∈ TB := (tb_at 1192 (by decide +kernel) rfl)
set_option maxRecDepth 100000 in
theorem lgX12_49 : Cond.fieldLink RX12 49 ((cT 11) 14).1 ((cT 11) 14).2.1 ((cT 11) 14).2.2.1 ∈ TB := (tb_at 1193 (by decide +kernel) rfl)
set_option maxRecDepth 100000 in
theorem lgX12_52 : Cond.fieldLink RX12 52 ((cT 11) 15).1 ((cT 11) 15).2.1 ((cT 11) 15).2.2.1 ∈ TB := (tb_at 1194 (by decide +kernel) rfl)
set_option maxRecDepth 100000 in
theorem lgX12_55 : Cond.fieldLink RX12 55 ((cT 11) 16).1 ((cT 11) 16).2.1 ((cT 11) 16).2.2.1 ∈ TB := (tb_at 1195 (by decide +kernel) rfl)
set_option maxRecDepth 100000 in
theorem lgX12_58 : Cond.fieldLink RX12 58 ((cT 11) 17).1 ((cT 11) 17).2.1 ((cT 11) 17).2.2.1 ∈ TB := (tb_at 1196 (by decide +kernel) rfl)
set_option maxRecDepth 100000 in
theorem lgX12_61 : Cond.fieldLink RX12 61 ((cT 11) 18).1 ((cT 11) 18).2.1 ((cT 11) 18).2.2.1 ∈ TB := (tb_at 1197 (by decide +kernel) rfl)
set_option maxRecDepth 100000 in
theorem lgX12_64 : Cond.fieldLink RX12 64 ((cT 11) 19).1 ((cT 11) 19).2.1 ((cT 11) 19).2.2.1 ∈ TB := (tb_at 1198 (by decide +kernel) rfl)
set_option maxRecDepth 100000 in
theorem lgX12_67 : Cond.fieldLink RX12 67 ((cT 11) 20).1 ((cT 11) 20).2.1 ((cT 11) 20).2.2.1 ∈ TB := (tb_at 1199 (by decide +kernel) rfl)
set_option maxRecDepth 100000 in
theorem lgX12_70 : Cond.fieldLink RX12 70 ((cT 11) 21).1 ((cT 11) 21).2.1 ((cT 11) 21).2.2.1 ∈ TB := (tb_at 1200 (by decide +kernel) rfl)
set_option maxRecDepth 100000 in
theorem lgX12_73 : Cond.fieldLink RX12 73 ((cT 11) 22).1 ((cT 11) 22).2.1 ((cT 11) 22).2.2.1 ∈ TB := (tb_at 1201 (by decide +kernel) rfl)
set_option maxRecDepth 100000 in
theorem lgX12_76 : Cond.fieldLink RX12 76 ((cT 11) 23).1 ((cT 11) 23).2.1 ((cT 11) 23).2.2.1 ∈ TB := (tb_at 1202 (by decide +kernel) rfl)
set_option maxRecDepth 100000 in
theorem lgX12_79 : Cond.fieldLink RX12 79 ((cT 11) 24).1 ((cT 11) 24).2.1 ((cT 11) 24).2.2.1 ∈ TB := (tb_at 1203 (by decide +kernel) rfl)
set_option maxRecDepth 100000 in
theorem lgX12_82 : Cond.fieldLink RX12 82 ((cT 11) 25).1 ((cT 11) 25).2.1 ((cT 11) 25).2.2.1 ∈ TB := (tb_at 1204 (by decide +kernel) rfl)
set_option maxRecDepth 100000 in
theorem lgX12_85 : Cond.fieldLink RX12 85 ((cT 11) 35).1 ((cT 11) 35).2.1 ((cT 11) 35).2.2.1 ∈ TB := (tb_at 1214 (by decide +kernel) rfl)
set_option maxRecDepth 100000 in
theorem la2 : Cond.arrayClass (tA 2) ∈ TB := (tb_at 713 (by decide +kernel) rfl)
set_option maxRecDepth 100000 in
theorem lgX12_89 : Cond.fieldLink RX12 89 ((cT 11) 36).1 ((cT 11) 36).2.1 ((cT 11) 36).2.2.1 ∈ TB := (tb_at 1215 (by decide +kernel) rfl)
set_option maxRecDepth 100000 in
theorem lgX12_93 : Cond.fieldLink RX12 93 ((cT 11) 37).1 ((cT 11) 37).2.1 ((cT 11) 37).2.2.1 ∈ TB := (tb_at 1216 (by decide +kernel) rfl)
set_option maxRecDepth 100000 in
theorem lgX12_96 : Cond.fieldLink RX12 96 ((cT 11) 38).1 ((cT 11) 38).2.1 ((cT 11) 38).2.2.1 ∈ TB := (tb_at 1217 (by decide +kernel) rfl)
set_option maxRecDepth 100000 in
theorem lgX12_99 : Cond.fieldLink RX12 99 ((cT 11) 39).1 ((cT 11) 39).2.1 ((cT 11) 39).2.2.1 ∈ TB := (tb_at 1218 (by decide +kernel) rfl)
set_option maxRecDepth 100000 in
theorem lgX12_102 : Cond.fieldLink RX12 102 ((cT 11) 40).1 ((cT 11) 40).2.1 ((cT 11) 40).2.2.1 ∈ TB := (tb_at 1219 (by decide +kernel) rfl)
set_option maxRecDepth 100000 in
theorem lgX12_105 : Cond.fieldLink RX12 105 ((cT 11) 41).1 ((cT 11) 41).2.1 ((cT 11) 41).2.2.1 ∈ TB := (tb_at 1220 (by decide +kernel) rfl)
set_option maxRecDepth 100000 in
theorem lgX12_108 : Cond.fieldLink RX12 108 ((cT 11) 42).1 ((cT 11) 42).2.1 ((cT 11) 42).2.2.1 ∈ TB := (tb_at 1221 (by decide +kernel) rfl)
set_option maxRecDepth 100000 in
theorem lgX12_111 : Cond.fieldLink RX12 111 ((cT 11) 43).1 ((cT 11) 43).2.1 ((cT 11) 43).2.2.1 ∈ TB := (tb_at 1222 (by decide +kernel) rfl)
set_option maxRecDepth 100000 in
theorem lgX12_114 : Cond.fieldLink RX12 114 ((cT 11) 44).1 ((cT 11) 44).2.1 ((cT 11) 44).2.2.1 ∈ TB := (tb_at 1223 (by decide +kernel) rfl)
set_option maxRecDepth 100000 in
theorem lgX12_118 : Cond.fieldLink RX12 118 ((cT 11) 45).1 ((cT 11) 45).2.1 ((cT 11) 45).2.2.1 ∈ TB := (tb_at 1224 (by decide +kernel) rfl)
set_option maxRecDepth 100000 in
theorem lgX12_121 : Cond.fieldLink RX12 121 ((cT 11) 46).1 ((cT 11) 46).2.1 ((cT 11) 46).2.2.1 ∈ TB := (tb_at 1225 (by decide +kernel) rfl)
set_option maxRecDepth 100000 in
theorem lgX12_124 : Cond.fieldLink RX12 124 ((cT 11) 47).1 ((cT 11) 47).2.1 ((cT 11) 47).2.2.1 ∈ TB := (tb_at 1226 (by decide +kernel) rfl)
set_option maxRecDepth 100000 in
theorem lgX12_127 : Cond.fieldLink RX12 127 ((cT 11) 48).1 ((cT 11) 48).2.1 ((cT 11) 48).2.2.1 ∈ TB := (tb_at 1227 (by decide +kernel) rfl)
set_option maxRecDepth 100000 in
theorem lgX12_130 : Cond.fieldLink RX12 130 ((cT 11) 49).1 ((cT 11) 49).2.1 ((cT 11) 49).2.2.1 ∈ TB := (tb_at 1228 (by decide +kernel) rfl)
set_option maxRecDepth 100000 in
theorem lgX12_133 : Cond.fieldLink RX12 133 ((cT 11) 50).1 ((cT 11) 50).2.1 ((cT 11) 50).2.2.1 ∈ TB := (tb_at 1229 (by decide +kernel) rfl)
set_option maxRecDepth 100000 in
theorem lgX12_136 : Cond.fieldLink RX12 136 ((cT 11) 51).1 ((cT 11) 51).2.1 ((cT 11) 51).2.2.1 ∈ TB := (tb_at 1230 (by decide +kernel) rfl)
set_option maxRecDepth 100000 in
theorem lgX12_139 : Cond.fieldLink RX12 139 ((cT 11) 52).1 ((cT 11) 52).2.1 ((cT 11) 52).2.2.1 ∈ TB := (tb_at 1231 (by decide +kernel) rfl)
set_option maxRecDepth 100000 in
theorem lgX12_142 : Cond.fieldLink RX12 142 ((cT 11) 53).1 ((cT 11) 53).2.1 ((cT 11) 53).2.2.1 ∈ TB := (tb_at 1232 (by decide +kernel) rfl)
set_option maxRecDepth 100000 in
theorem lgX12_145 : Cond.fieldLink RX12 145 ((cT 11) 54).1 ((cT 11) 54).2.1 ((cT 11) 54).2.2.1 ∈ TB := (tb_at 1233 (by decide +kernel) rfl)
set_option maxRecDepth 100000 in
theorem lgX12_148 : Cond.fieldLink RX12 148 ((cT 11) 55).1 ((cT 11) 55).2.1 ((cT 11) 55).2.2.1 ∈ TB := (tb_at 1234 (by decide +kernel) rfl)
set_option maxRecDepth 100000 in
theorem lgX12_151 : Cond.fieldLink RX12 151 ((cT 11) 56).1 ((cT 11) 56).2.1 ((cT 11) 56).2.2.1 ∈ TB := (tb_at 1235 (by decide +kernel) rfl)
set_option maxRecDepth 100000 in
theorem lgX12_154 : Cond.fieldLink RX12 154 ((cT 11) 57).1 ((cT 11) 57).2.1 ((cT 11) 57).2.2.1 ∈ TB := (tb_at 1236 (by decide +kernel) rfl)
set_option maxRecDepth 100000 in
theorem lgX12_157 : Cond.fieldLink RX12 157 ((cT 11) 64).1 ((cT 11) 64).2.1 ((cT 11) 64).2.2.1 ∈ TB := (tb_at 1243 (by decide +kernel) rfl)
set_option maxRecDepth 100000 in
theorem lgX12_160 : Cond.fieldLink RX12 160 ((cT 11) 65).1 ((cT 11) 65).2.1 ((cT 11) 65).2.2.1 ∈ TB := (tb_at 1244 (by decide +kernel) rfl)
set_option maxRecDepth 100000 in
theorem lgX12_163 : Cond.fieldLink RX12 163 ((cT 11) 72).1 ((cT 11) 72).2.1 ((cT 11) 72).2.2.1 ∈ TB := (tb_at 1251 (by decide +kernel) rfl)
set_option maxRecDepth 100000 in
theorem lgX12_166 : Cond.fieldLink RX12 166 ((cT 11) 73).1 ((cT 11) 73).2.1 ((cT 11) 73).2.2.1 ∈ TB := (tb_at 1252 (by decide +kernel) rfl)
set_option maxRecDepth 100000 in
theorem lgX12_169 : Cond.fieldLink RX12 169 ((cT 11) 74).1 ((cT 11) 74).2.1 ((cT 11) 74).2.2.1 ∈ TB := (tb_at 1253 (by decide +kernel) rfl)
set_option maxRecDepth 100000 in
theorem lgX12_172 : Cond.fieldLink RX12 172 ((cT 11) 75).1 ((cT 11) 75).2.1 ((cT 11) 75).2.2.1 ∈ TB := (tb_at 1254 (by decide +kernel) rfl)
set_option maxRecDepth 100000 in
theorem lgX12_175 : Cond.fieldLink RX12 175 ((cT 11) 76).1 ((cT 11) 76).2.1 ((cT 11) 76).2.2.1 ∈ TB := (tb_at 1255 (by decide +kernel) rfl)
set_option maxRecDepth 100000 in
theorem la3 : Cond.arrayClass (tA 3) ∈ TB := (tb_at 1426 (by decide +kernel) rfl)
set_option maxRecDepth 100000 in
theorem lgX12_178 : Cond.fieldLink RX12 178 ((cT 11) 77).1 ((cT 11) 77).2.1 ((cT 11) 77).2.2.1 ∈ TB := (tb_at 1256 (by decide +kernel) rfl)
set_option maxRecDepth 100000 in
theorem lgX12_182 : Cond.fieldLink RX12 182 ((cT 11) 78).1 ((cT 11) 78).2.1 ((cT 11) 78).2.2.1 ∈ TB := (tb_at 1257 (by decide +kernel) rfl)
set_option maxRecDepth 100000 in
theorem lgX12_185 : Cond.fieldLink RX12 185 ((cT 11) 79).1 ((cT 11) 79).2.1 ((cT 11) 79).2.2.1 ∈ TB := (tb_at 1258 (by decide +kernel) rfl)
