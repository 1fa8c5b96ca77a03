/-! A RULE AN INSTRUCTION: numbers, locals, the stack, branches -/
theorem o_iconst {g : GX} {md : MD} {pc : Nat} {ls : List (Option Value)} {st : List Value} {h : PH} {nc ns : Nat} {r : Option Value} {h2 : PH} {n : Int} {v : Int32} (hd : decode md.2.1 pc = .ok (.iconst n, 1)) (hv : Int32.ofInt n = v) (k : Rn g md (pc + 1) ls (.int v :: st) h nc ns r h2) : Rn g md pc ls (st) h nc ns r h2 := by
  intro n0 ad0 ad A p e s m args below meth c H locs la hA hE hH hS hL
  exact lv_iconst hA.1 hA.2.1 hd hv (k n0 ad0 ad A p e s m args below meth c H locs la hA hE hH hS hL)
theorem o_bipush {g : GX} {md : MD} {pc : Nat} {ls : List (Option Value)} {st : List Value} {h : PH} {nc ns : Nat} {r : Option Value} {h2 : PH} {n : Int} {v : Int32} (hd : decode md.2.1 pc = .ok (.bipush n, 2)) (hv : (Int8.ofInt n).toInt32 = v) (k : Rn g md (pc + 2) ls (.int v :: st) h nc ns r h2) : Rn g md pc ls (st) h nc ns r h2 := by
  intro n0 ad0 ad A p e s m args below meth c H locs la hA hE hH hS hL
  exact lv_bipush hA.1 hA.2.1 hd hv (k n0 ad0 ad A p e s m args below meth c H locs la hA hE hH hS hL)
theorem o_sipush {g : GX} {md : MD} {pc : Nat} {ls : List (Option Value)} {st : List Value} {h : PH} {nc ns : Nat} {r : Option Value} {h2 : PH} {n : Int} {v : Int32} (hd : decode md.2.1 pc = .ok (.sipush n, 3)) (hv : (Int16.ofInt n).toInt32 = v) (k : Rn g md (pc + 3) ls (.int v :: st) h nc ns r h2) : Rn g md pc ls (st) h nc ns r h2 := by
  intro n0 ad0 ad A p e s m args below meth c H locs la hA hE hH hS hL
  exact lv_sipush hA.1 hA.2.1 hd hv (k n0 ad0 ad A p e s m args below meth c H locs la hA hE hH hS hL)
theorem o_lconst {g : GX} {md : MD} {pc : Nat} {ls : List (Option Value)} {st : List Value} {h : PH} {nc ns : Nat} {r : Option Value} {h2 : PH} {n : Fin 2} {v : Int64} (hd : decode md.2.1 pc = .ok (.lconst n, 1)) (hv : Int64.ofNat (n : Nat) = v) (k : Rn g md (pc + 1) ls (.long v :: st) h nc ns r h2) : Rn g md pc ls (st) h nc ns r h2 := by
  intro n0 ad0 ad A p e s m args below meth c H locs la hA hE hH hS hL
  exact lv_lconst hA.1 hA.2.1 hd hv (k n0 ad0 ad A p e s m args below meth c H locs la hA hE hH hS hL)
theorem o_null {g : GX} {md : MD} {pc : Nat} {ls : List (Option Value)} {st : List Value} {h : PH} {nc ns : Nat} {r : Option Value} {h2 : PH}  (hd : decode md.2.1 pc = .ok (.aconst_null, 1))  (k : Rn g md (pc + 1) ls (.null :: st) h nc ns r h2) : Rn g md pc ls (st) h nc ns r h2 := by
  intro n0 ad0 ad A p e s m args below meth c H locs la hA hE hH hS hL
  exact lv_null hA.1 hA.2.1 hd (k n0 ad0 ad A p e s m args below meth c H locs la hA hE hH hS hL)
theorem o_ldc {g : GX} {md : MD} {pc : Nat} {ls : List (Option Value)} {st : List Value} {h : PH} {nc ns : Nat} {r : Option Value} {h2 : PH} {x : Nat} {v : Int32} (hd : decode md.2.1 pc = .ok (.ldc x, 2)) (hw : Cond.constant md.1.cls x v ∈ TB) (k : Rn g md (pc + 2) ls (.int v :: st) h nc ns r h2) : Rn g md pc ls (st) h nc ns r h2 := by
  intro n0 ad0 ad A p e s m args below meth c H locs la hA hE hH hS hL
  exact lv_ldc hA.1 hA.2.1 hA.2.2.2.2.2.1 (hA.2.2.2.2.2.2.2.1 _ hw) hd (k n0 ad0 ad A p e s m args below meth c H locs la hA hE hH hS hL)
theorem o_ldcw {g : GX} {md : MD} {pc : Nat} {ls : List (Option Value)} {st : List Value} {h : PH} {nc ns : Nat} {r : Option Value} {h2 : PH} {x : Nat} {v : Int32} (hd : decode md.2.1 pc = .ok (.ldc_w x, 3)) (hw : Cond.constant md.1.cls x v ∈ TB) (k : Rn g md (pc + 3) ls (.int v :: st) h nc ns r h2) : Rn g md pc ls (st) h nc ns r h2 := by
  intro n0 ad0 ad A p e s m args below meth c H locs la hA hE hH hS hL
  exact lv_ldcw hA.1 hA.2.1 hA.2.2.2.2.2.1 (hA.2.2.2.2.2.2.2.1 _ hw) hd (k n0 ad0 ad A p e s m args below meth c H locs la hA hE hH hS hL)
theorem o_ldc2 {g : GX} {md : MD} {pc : Nat} {ls : List (Option Value)} {st : List Value} {h : PH} {nc ns : Nat} {r : Option Value} {h2 : PH} {x : Nat} {v : Int64} (hd : decode md.2.1 pc = .ok (.ldc2_w x, 3)) (hw : Cond.constantLong md.1.cls x v ∈ TB) (k : Rn g md (pc + 3) ls (.long v :: st) h nc ns r h2) : Rn g md pc ls (st) h nc ns r h2 := by
  intro n0 ad0 ad A p e s m args below meth c H locs la hA hE hH hS hL
  exact lv_ldc2 hA.1 hA.2.1 hA.2.2.2.2.2.1 (hA.2.2.2.2.2.2.2.1 _ hw) hd (k n0 ad0 ad A p e s m args below meth c H locs la hA hE hH hS hL)
theorem o_ldcS {g : GX} {md : MD} {pc : Nat} {ls : List (Option Value)} {st : List Value} {h : PH} {nc ns : Nat} {r : Option Value} {h2 : PH} {x : Nat} {i : Nat} {q : String × Nat × String × List Int32} (hd : decode md.2.1 pc = .ok (.ldc x, 2)) (hq : txS[i]? = some q) (hc : md.1.cls = q.1) (hi : x = q.2.1) (k : Rn g md (pc + 2) ls (.ref (1000000 + i) :: st) h nc ns r h2) : Rn g md pc ls (st) h nc ns r h2 := by
  intro n0 ad0 ad A p e s m args below meth c H locs la hA hE hH hS hL
  exact va_ldcS hA.1 hA.2.1 (own := q.1) (tx := q.2.2.1) (by rw [← hc]; exact hA.2.2.2.2.2.1) (hi ▸ hA.2.2.2.2.2.2.2.2.1.2.2.2.1 i q hq) hd (W.eq (congrArg (fun z => F0 m (pc + 2) la (Value.ref z :: st.map (gv g.2.2.2 ad))) (show g.2.2.2 (1000000 + i) = ax g.2.2.2 ad (1000000 + i) from (if_neg (by omega)).symm)) (k n0 ad0 ad A p e s m args below meth c H locs la hA hE hH hS hL))
theorem o_iload_n {g : GX} {md : MD} {pc : Nat} {ls : List (Option Value)} {st : List Value} {h : PH} {nc ns : Nat} {r : Option Value} {h2 : PH} {x : Int32} {j : Fin 4} (hd : decode md.2.1 pc = .ok (.iload_n j, 1)) (hl : ls[(j : Nat)]? = some (some (.int x))) (k : Rn g md (pc + 1) ls (.int x :: st) h nc ns r h2) : Rn g md pc ls (st) h nc ns r h2 := by
  intro n0 ad0 ad A p e s m args below meth c H locs la hA hE hH hS hL
  exact lv_iload_n hA.1 hA.2.1 hd rfl (hL.2.2.2 _ _ hl) (k n0 ad0 ad A p e s m args below meth c H locs la hA hE hH hS hL)
theorem o_iload {g : GX} {md : MD} {pc : Nat} {ls : List (Option Value)} {st : List Value} {h : PH} {nc ns : Nat} {r : Option Value} {h2 : PH} {x : Int32} {j : Nat} (hd : decode md.2.1 pc = .ok (.iload j, 2)) (hl : ls[j]? = some (some (.int x))) (k : Rn g md (pc + 2) ls (.int x :: st) h nc ns r h2) : Rn g md pc ls (st) h nc ns r h2 := by
  intro n0 ad0 ad A p e s m args below meth c H locs la hA hE hH hS hL
  exact lv_iload hA.1 hA.2.1 hd (hL.2.2.2 _ _ hl) (k n0 ad0 ad A p e s m args below meth c H locs la hA hE hH hS hL)
theorem o_lload_n {g : GX} {md : MD} {pc : Nat} {ls : List (Option Value)} {st : List Value} {h : PH} {nc ns : Nat} {r : Option Value} {h2 : PH} {x : Int64} {j : Fin 4} (hd : decode md.2.1 pc = .ok (.lload_n j, 1)) (hl : ls[(j : Nat)]? = some (some (.long x))) (k : Rn g md (pc + 1) ls (.long x :: st) h nc ns r h2) : Rn g md pc ls (st) h nc ns r h2 := by
  intro n0 ad0 ad A p e s m args below meth c H locs la hA hE hH hS hL
  exact lv_lload_n hA.1 hA.2.1 hd rfl (hL.2.2.2 _ _ hl) (k n0 ad0 ad A p e s m args below meth c H locs la hA hE hH hS hL)
theorem o_lload {g : GX} {md : MD} {pc : Nat} {ls : List (Option Value)} {st : List Value} {h : PH} {nc ns : Nat} {r : Option Value} {h2 : PH} {x : Int64} {j : Nat} (hd : decode md.2.1 pc = .ok (.lload j, 2)) (hl : ls[j]? = some (some (.long x))) (k : Rn g md (pc + 2) ls (.long x :: st) h nc ns r h2) : Rn g md pc ls (st) h nc ns r h2 := by
  intro n0 ad0 ad A p e s m args below meth c H locs la hA hE hH hS hL
  exact lv_lload hA.1 hA.2.1 hd (hL.2.2.2 _ _ hl) (k n0 ad0 ad A p e s m args below meth c H locs la hA hE hH hS hL)
theorem o_aload_n {g : GX} {md : MD} {pc : Nat} {ls : List (Option Value)} {st : List Value} {h : PH} {nc ns : Nat} {r : Option Value} {h2 : PH} {x : Nat} {j : Fin 4} (hd : decode md.2.1 pc = .ok (.aload_n j, 1)) (hl : ls[(j : Nat)]? = some (some (.ref x))) (k : Rn g md (pc + 1) ls (.ref x :: st) h nc ns r h2) : Rn g md pc ls (st) h nc ns r h2 := by
  intro n0 ad0 ad A p e s m args below meth c H locs la hA hE hH hS hL
  exact lv_aload_n hA.1 hA.2.1 hd rfl (hL.2.2.2 _ _ hl) (k n0 ad0 ad A p e s m args below meth c H locs la hA hE hH hS hL)
theorem o_aload {g : GX} {md : MD} {pc : Nat} {ls : List (Option Value)} {st : List Value} {h : PH} {nc ns : Nat} {r : Option Value} {h2 : PH} {x : Nat} {j : Nat} (hd : decode md.2.1 pc = .ok (.aload j, 2)) (hl : ls[j]? = some (some (.ref x))) (k : Rn g md (pc + 2) ls (.ref x :: st) h nc ns r h2) : Rn g md pc ls (st) h nc ns r h2 := by
  intro n0 ad0 ad A p e s m args below meth c H locs la hA hE hH hS hL
  exact lv_aload hA.1 hA.2.1 hd (hL.2.2.2 _ _ hl) (k n0 ad0 ad A p e s m args below meth c H locs la hA hE hH hS hL)
theorem o_aload_nN {g : GX} {md : MD} {pc : Nat} {ls : List (Option Value)} {st : List Value} {h : PH} {nc ns : Nat} {r : Option Value} {h2 : PH} {j : Fin 4} (hd : decode md.2.1 pc = .ok (.aload_n j, 1)) (hl : ls[(j : Nat)]? = some (some .null)) (k : Rn g md (pc + 1) ls (.null :: st) h nc ns r h2) : Rn g md pc ls (st) h nc ns r h2 := by
  intro n0 ad0 ad A p e s m args below meth c H locs la hA hE hH hS hL
  exact lv_aload_nN hA.1 hA.2.1 hd rfl (hL.2.2.2 _ _ hl) (k n0 ad0 ad A p e s m args below meth c H locs la hA hE hH hS hL)
theorem o_aloadN {g : GX} {md : MD} {pc : Nat} {ls : List (Option Value)} {st : List Value} {h : PH} {nc ns : Nat} {r : Option Value} {h2 : PH} {j : Nat} (hd : decode md.2.1 pc = .ok (.aload j, 2)) (hl : ls[j]? = some (some .null)) (k : Rn g md (pc + 2) ls (.null :: st) h nc ns r h2) : Rn g md pc ls (st) h nc ns r h2 := by
  intro n0 ad0 ad A p e s m args below meth c H locs la hA hE hH hS hL
  exact lv_aloadN hA.1 hA.2.1 hd (hL.2.2.2 _ _ hl) (k n0 ad0 ad A p e s m args below meth c H locs la hA hE hH hS hL)
theorem o_iadd {g : GX} {md : MD} {pc : Nat} {ls : List (Option Value)} {st : List Value} {h : PH} {nc ns : Nat} {r : Option Value} {h2 : PH} {x y : Int32} (hd : decode md.2.1 pc = .ok (.iadd, 1))  (k : Rn g md (pc + 1) ls (.int (x + y) :: st) h nc ns r h2) : Rn g md pc ls (.int y :: .int x :: st) h nc ns r h2 := by
  intro n0 ad0 ad A p e s m args below meth c H locs la hA hE hH hS hL
  exact lv_iadd hA.1 hA.2.1 hd (k n0 ad0 ad A p e s m args below meth c H locs la hA hE hH hS hL)
theorem o_isub {g : GX} {md : MD} {pc : Nat} {ls : List (Option Value)} {st : List Value} {h : PH} {nc ns : Nat} {r : Option Value} {h2 : PH} {x y : Int32} (hd : decode md.2.1 pc = .ok (.isub, 1))  (k : Rn g md (pc + 1) ls (.int (x - y) :: st) h nc ns r h2) : Rn g md pc ls (.int y :: .int x :: st) h nc ns r h2 := by
  intro n0 ad0 ad A p e s m args below meth c H locs la hA hE hH hS hL
  exact lv_isub hA.1 hA.2.1 hd (k n0 ad0 ad A p e s m args below meth c H locs la hA hE hH hS hL)
theorem o_imul {g : GX} {md : MD} {pc : Nat} {ls : List (Option Value)} {st : List Value} {h : PH} {nc ns : Nat} {r : Option Value} {h2 : PH} {x y : Int32} (hd : decode md.2.1 pc = .ok (.imul, 1))  (k : Rn g md (pc + 1) ls (.int (x * y) :: st) h nc ns r h2) : Rn g md pc ls (.int y :: .int x :: st) h nc ns r h2 := by
  intro n0 ad0 ad A p e s m args below meth c H locs la hA hE hH hS hL
  exact lv_imul hA.1 hA.2.1 hd (k n0 ad0 ad A p e s m args below meth c H locs la hA hE hH hS hL)
theorem o_iand {g : GX} {md : MD} {pc : Nat} {ls : List (Option Value)} {st : List Value} {h : PH} {nc ns : Nat} {r : Option Value} {h2 : PH} {x y : Int32} (hd : decode md.2.1 pc = .ok (.iand, 1))  (k : Rn g md (pc + 1) ls (.int (x &&& y) :: st) h nc ns r h2) : Rn g md pc ls (.int y :: .int x :: st) h nc ns r h2 := by
  intro n0 ad0 ad A p e s m args below meth c H locs la hA hE hH hS hL
  exact lv_iand hA.1 hA.2.1 hd (k n0 ad0 ad A p e s m args below meth c H locs la hA hE hH hS hL)
theorem o_ior {g : GX} {md : MD} {pc : Nat} {ls : List (Option Value)} {st : List Value} {h : PH} {nc ns : Nat} {r : Option Value} {h2 : PH} {x y : Int32} (hd : decode md.2.1 pc = .ok (.ior, 1))  (k : Rn g md (pc + 1) ls (.int (x ||| y) :: st) h nc ns r h2) : Rn g md pc ls (.int y :: .int x :: st) h nc ns r h2 := by
  intro n0 ad0 ad A p e s m args below meth c H locs la hA hE hH hS hL
  exact lv_ior hA.1 hA.2.1 hd (k n0 ad0 ad A p e s m args below meth c H locs la hA hE hH hS hL)
theorem o_ixor {g : GX} {md : MD} {pc : Nat} {ls : List (Option Value)} {st : List Value} {h : PH} {nc ns : Nat} {r : Option Value} {h2 : PH} {x y : Int32} (hd : decode md.2.1 pc = .ok (.ixor, 1))  (k : Rn g md (pc + 1) ls (.int (x ^^^ y) :: st) h nc ns r h2) : Rn g md pc ls (.int y :: .int x :: st) h nc ns r h2 := by
  intro n0 ad0 ad A p e s m args below meth c H locs la hA hE hH hS hL
  exact lv_ixor hA.1 hA.2.1 hd (k n0 ad0 ad A p e s m args below meth c H locs la hA hE hH hS hL)
theorem o_ishl {g : GX} {md : MD} {pc : Nat} {ls : List (Option Value)} {st : List Value} {h : PH} {nc ns : Nat} {r : Option Value} {h2 : PH} {x y : Int32} (hd : decode md.2.1 pc = .ok (.ishl, 1))  (k : Rn g md (pc + 1) ls (.int (x <<< (y &&& 31)) :: st) h nc ns r h2) : Rn g md pc ls (.int y :: .int x :: st) h nc ns r h2 := by
  intro n0 ad0 ad A p e s m args below meth c H locs la hA hE hH hS hL
  exact lv_ishl hA.1 hA.2.1 hd (k n0 ad0 ad A p e s m args below meth c H locs la hA hE hH hS hL)
theorem o_ishr {g : GX} {md : MD} {pc : Nat} {ls : List (Option Value)} {st : List Value} {h : PH} {nc ns : Nat} {r : Option Value} {h2 : PH} {x y : Int32} (hd : decode md.2.1 pc = .ok (.ishr, 1))  (k : Rn g md (pc + 1) ls (.int (x >>> (y &&& 31)) :: st) h nc ns r h2) : Rn g md pc ls (.int y :: .int x :: st) h nc ns r h2 := by
  intro n0 ad0 ad A p e s m args below meth c H locs la hA hE hH hS hL
  exact lv_ishr hA.1 hA.2.1 hd (k n0 ad0 ad A p e s m args below meth c H locs la hA hE hH hS hL)
theorem o_iushr {g : GX} {md : MD} {pc : Nat} {ls : List (Option Value)} {st : List Value} {h : PH} {nc ns : Nat} {r : Option Value} {h2 : PH} {x y : Int32} (hd : decode md.2.1 pc = .ok (.iushr, 1))  (k : Rn g md (pc + 1) ls (.int (x.toUInt32 >>> (y.toUInt32 &&& Int32.toUInt32 31)).toInt32 :: st) h nc ns r h2) : Rn g md pc ls (.int y :: .int x :: st) h nc ns r h2 := by
  intro n0 ad0 ad A p e s m args below meth c H locs la hA hE hH hS hL
  exact lv_iushr hA.1 hA.2.1 hd rfl (k n0 ad0 ad A p e s m args below meth c H locs la hA hE hH hS hL)
theorem o_idiv {g : GX} {md : MD} {pc : Nat} {ls : List (Option Value)} {st : List Value} {h : PH} {nc ns : Nat} {r : Option Value} {h2 : PH} {x y : Int32} (hd : decode md.2.1 pc = .ok (.idiv, 1)) (hn : ¬ y = 0) (k : Rn g md (pc + 1) ls (.int (x / y) :: st) h nc ns r h2) : Rn g md pc ls (.int y :: .int x :: st) h nc ns r h2 := by
  intro n0 ad0 ad A p e s m args below meth c H locs la hA hE hH hS hL
  exact lv_idiv hA.1 hA.2.1 hd hn (k n0 ad0 ad A p e s m args below meth c H locs la hA hE hH hS hL)
theorem o_irem {g : GX} {md : MD} {pc : Nat} {ls : List (Option Value)} {st : List Value} {h : PH} {nc ns : Nat} {r : Option Value} {h2 : PH} {x y : Int32} (hd : decode md.2.1 pc = .ok (.irem, 1)) (hn : ¬ y = 0) (k : Rn g md (pc + 1) ls (.int (x - x / y * y) :: st) h nc ns r h2) : Rn g md pc ls (.int y :: .int x :: st) h nc ns r h2 := by
  intro n0 ad0 ad A p e s m args below meth c H locs la hA hE hH hS hL
  exact lv_irem hA.1 hA.2.1 hd hn (k n0 ad0 ad A p e s m args below meth c H locs la hA hE hH hS hL)
theorem o_ineg {g : GX} {md : MD} {pc : Nat} {ls : List (Option Value)} {st : List Value} {h : PH} {nc ns : Nat} {r : Option Value} {h2 : PH} {x : Int32} (hd : decode md.2.1 pc = .ok (.ineg, 1))  (k : Rn g md (pc + 1) ls (.int (-x) :: st) h nc ns r h2) : Rn g md pc ls (.int x :: st) h nc ns r h2 := by
  intro n0 ad0 ad A p e s m args below meth c H locs la hA hE hH hS hL
  exact lv_ineg hA.1 hA.2.1 hd (k n0 ad0 ad A p e s m args below meth c H locs la hA hE hH hS hL)
theorem o_ladd {g : GX} {md : MD} {pc : Nat} {ls : List (Option Value)} {st : List Value} {h : PH} {nc ns : Nat} {r : Option Value} {h2 : PH} {x y : Int64} (hd : decode md.2.1 pc = .ok (.ladd, 1))  (k : Rn g md (pc + 1) ls (.long (x + y) :: st) h nc ns r h2) : Rn g md pc ls (.long y :: .long x :: st) h nc ns r h2 := by
  intro n0 ad0 ad A p e s m args below meth c H locs la hA hE hH hS hL
  exact lv_ladd hA.1 hA.2.1 hd (k n0 ad0 ad A p e s m args below meth c H locs la hA hE hH hS hL)
theorem o_lsub {g : GX} {md : MD} {pc : Nat} {ls : List (Option Value)} {st : List Value} {h : PH} {nc ns : Nat} {r : Option Value} {h2 : PH} {x y : Int64} (hd : decode md.2.1 pc = .ok (.lsub, 1))  (k : Rn g md (pc + 1) ls (.long (x - y) :: st) h nc ns r h2) : Rn g md pc ls (.long y :: .long x :: st) h nc ns r h2 := by
  intro n0 ad0 ad A p e s m args below meth c H locs la hA hE hH hS hL
  exact lv_lsub hA.1 hA.2.1 hd (k n0 ad0 ad A p e s m args below meth c H locs la hA hE hH hS hL)
theorem o_lmul {g : GX} {md : MD} {pc : Nat} {ls : List (Option Value)} {st : List Value} {h : PH} {nc ns : Nat} {r : Option Value} {h2 : PH} {x y : Int64} (hd : decode md.2.1 pc = .ok (.lmul, 1))  (k : Rn g md (pc + 1) ls (.long (x * y) :: st) h nc ns r h2) : Rn g md pc ls (.long y :: .long x :: st) h nc ns r h2 := by
  intro n0 ad0 ad A p e s m args below meth c H locs la hA hE hH hS hL
  exact lv_lmul hA.1 hA.2.1 hd (k n0 ad0 ad A p e s m args below meth c H locs la hA hE hH hS hL)
theorem o_land {g : GX} {md : MD} {pc : Nat} {ls : List (Option Value)} {st : List Value} {h : PH} {nc ns : Nat} {r : Option Value} {h2 : PH} {x y : Int64} (hd : decode md.2.1 pc = .ok (.land, 1))  (k : Rn g md (pc + 1) ls (.long (x &&& y) :: st) h nc ns r h2) : Rn g md pc ls (.long y :: .long x :: st) h nc ns r h2 := by
  intro n0 ad0 ad A p e s m args below meth c H locs la hA hE hH hS hL
  exact lv_land hA.1 hA.2.1 hd (k n0 ad0 ad A p e s m args below meth c H locs la hA hE hH hS hL)
theorem o_lor {g : GX} {md : MD} {pc : Nat} {ls : List (Option Value)} {st : List Value} {h : PH} {nc ns : Nat} {r : Option Value} {h2 : PH} {x y : Int64} (hd : decode md.2.1 pc = .ok (.lor, 1))  (k : Rn g md (pc + 1) ls (.long (x ||| y) :: st) h nc ns r h2) : Rn g md pc ls (.long y :: .long x :: st) h nc ns r h2 := by
  intro n0 ad0 ad A p e s m args below meth c H locs la hA hE hH hS hL
  exact lv_lor hA.1 hA.2.1 hd (k n0 ad0 ad A p e s m args below meth c H locs la hA hE hH hS hL)
theorem o_ldiv {g : GX} {md : MD} {pc : Nat} {ls : List (Option Value)} {st : List Value} {h : PH} {nc ns : Nat} {r : Option Value} {h2 : PH} {x y : Int64} (hd : decode md.2.1 pc = .ok (.ldiv, 1)) (hn : ¬ y = 0) (k : Rn g md (pc + 1) ls (.long (x / y) :: st) h nc ns r h2) : Rn g md pc ls (.long y :: .long x :: st) h nc ns r h2 := by
  intro n0 ad0 ad A p e s m args below meth c H locs la hA hE hH hS hL
  exact lv_ldiv hA.1 hA.2.1 hd hn (k n0 ad0 ad A p e s m args below meth c H locs la hA hE hH hS hL)
theorem o_lrem {g : GX} {md : MD} {pc : Nat} {ls : List (Option Value)} {st : List Value} {h : PH} {nc ns : Nat} {r : Option Value} {h2 : PH} {x y : Int64} (hd : decode md.2.1 pc = .ok (.lrem, 1)) (hn : ¬ y = 0) (k : Rn g md (pc + 1) ls (.long (x - x / y * y) :: st) h nc ns r h2) : Rn g md pc ls (.long y :: .long x :: st) h nc ns r h2 := by
  intro n0 ad0 ad A p e s m args below meth c H locs la hA hE hH hS hL
  exact lv_lrem hA.1 hA.2.1 hd hn (k n0 ad0 ad A p e s m args below meth c H locs la hA hE hH hS hL)
theorem o_i2l {g : GX} {md : MD} {pc : Nat} {ls : List (Option Value)} {st : List Value} {h : PH} {nc ns : Nat} {r : Option Value} {h2 : PH} {x : Int32} (hd : decode md.2.1 pc = .ok (.i2l, 1))  (k : Rn g md (pc + 1) ls (.long x.toInt64 :: st) h nc ns r h2) : Rn g md pc ls (.int x :: st) h nc ns r h2 := by
  intro n0 ad0 ad A p e s m args below meth c H locs la hA hE hH hS hL
  exact lv_i2l hA.1 hA.2.1 hd rfl (k n0 ad0 ad A p e s m args below meth c H locs la hA hE hH hS hL)
theorem o_l2i {g : GX} {md : MD} {pc : Nat} {ls : List (Option Value)} {st : List Value} {h : PH} {nc ns : Nat} {r : Option Value} {h2 : PH} {x : Int64} (hd : decode md.2.1 pc = .ok (.l2i, 1))  (k : Rn g md (pc + 1) ls (.int x.toInt32 :: st) h nc ns r h2) : Rn g md pc ls (.long x :: st) h nc ns r h2 := by
  intro n0 ad0 ad A p e s m args below meth c H locs la hA hE hH hS hL
  exact lv_l2i hA.1 hA.2.1 hd rfl (k n0 ad0 ad A p e s m args below meth c H locs la hA hE hH hS hL)
theorem o_i2b {g : GX} {md : MD} {pc : Nat} {ls : List (Option Value)} {st : List Value} {h : PH} {nc ns : Nat} {r : Option Value} {h2 : PH} {x : Int32} (hd : decode md.2.1 pc = .ok (.i2b, 1))  (k : Rn g md (pc + 1) ls (.int x.toInt8.toInt32 :: st) h nc ns r h2) : Rn g md pc ls (.int x :: st) h nc ns r h2 := by
  intro n0 ad0 ad A p e s m args below meth c H locs la hA hE hH hS hL
  exact lv_i2b hA.1 hA.2.1 hd rfl (k n0 ad0 ad A p e s m args below meth c H locs la hA hE hH hS hL)
theorem o_i2c {g : GX} {md : MD} {pc : Nat} {ls : List (Option Value)} {st : List Value} {h : PH} {nc ns : Nat} {r : Option Value} {h2 : PH} {x : Int32} (hd : decode md.2.1 pc = .ok (.i2c, 1))  (k : Rn g md (pc + 1) ls (.int (x.toUInt32 % 65536).toInt32 :: st) h nc ns r h2) : Rn g md pc ls (.int x :: st) h nc ns r h2 := by
  intro n0 ad0 ad A p e s m args below meth c H locs la hA hE hH hS hL
  exact lv_i2c hA.1 hA.2.1 hd rfl (k n0 ad0 ad A p e s m args below meth c H locs la hA hE hH hS hL)
theorem o_lcmp {g : GX} {md : MD} {pc : Nat} {ls : List (Option Value)} {st : List Value} {h : PH} {nc ns : Nat} {r : Option Value} {h2 : PH} {x y : Int64} (hd : decode md.2.1 pc = .ok (.lcmp, 1))  (k : Rn g md (pc + 1) ls (.int (lg_cmp x y) :: st) h nc ns r h2) : Rn g md pc ls (.long y :: .long x :: st) h nc ns r h2 := by
  intro n0 ad0 ad A p e s m args below meth c H locs la hA hE hH hS hL
  exact W.lcmp hA.1 hA.2.1 hd (k n0 ad0 ad A p e s m args below meth c H locs la hA hE hH hS hL)
theorem o_dup {g : GX} {md : MD} {pc : Nat} {ls : List (Option Value)} {st : List Value} {h : PH} {nc ns : Nat} {r : Option Value} {h2 : PH} {v : Value} (hd : decode md.2.1 pc = .ok (.dup, 1)) (hv : v.category = 1) (k : Rn g md (pc + 1) ls (v :: v :: st) h nc ns r h2) : Rn g md pc ls (v :: st) h nc ns r h2 := by
  intro n0 ad0 ad A p e s m args below meth c H locs la hA hE hH hS hL
  exact lv_dup hA.1 hA.2.1 hd (by rw [gv_cat]; exact hv) (k n0 ad0 ad A p e s m args below meth c H locs la hA hE hH hS hL)
theorem o_pop {g : GX} {md : MD} {pc : Nat} {ls : List (Option Value)} {st : List Value} {h : PH} {nc ns : Nat} {r : Option Value} {h2 : PH} {v : Value} (hd : decode md.2.1 pc = .ok (.pop, 1)) (hv : v.category = 1) (k : Rn g md (pc + 1) ls (st) h nc ns r h2) : Rn g md pc ls (v :: st) h nc ns r h2 := by
  intro n0 ad0 ad A p e s m args below meth c H locs la hA hE hH hS hL
  exact lv_pop hA.1 hA.2.1 hd (by rw [gv_cat]; exact hv) (k n0 ad0 ad A p e s m args below meth c H locs la hA hE hH hS hL)
theorem o_dup2 {g : GX} {md : MD} {pc : Nat} {ls : List (Option Value)} {st : List Value} {h : PH} {nc ns : Nat} {r : Option Value} {h2 : PH} {v w : Value} (hd : decode md.2.1 pc = .ok (.dup2, 1)) (hv : v.category = 1) (hw : w.category = 1) (k : Rn g md (pc + 1) ls (v :: w :: v :: w :: st) h nc ns r h2) : Rn g md pc ls (v :: w :: st) h nc ns r h2 := by
  intro n0 ad0 ad A p e s m args below meth c H locs la hA hE hH hS hL
  exact lv_dup2_11 hA.1 hA.2.1 hd (by rw [gv_cat]; exact hv) (by rw [gv_cat]; exact hw) (k n0 ad0 ad A p e s m args below meth c H locs la hA hE hH hS hL)
theorem o_if_eq {g : GX} {md : MD} {pc : Nat} {ls : List (Option Value)} {st : List Value} {h : PH} {nc ns : Nat} {r : Option Value} {h2 : PH} {x : Int32} {off : Int} (t : Nat) (hd : decode md.2.1 pc = .ok (.ifCond .eq off, 3)) (ht : (pc : Int) + off = (t : Int)) (kt : x = 0 → Rn g md t ls st h nc ns r h2) (kf : ¬ x = 0 → Rn g md (pc + 3) ls st h nc ns r h2) : Rn g md pc ls (.int x :: st) h nc ns r h2 := by
  intro n0 ad0 ad A p e s m args below meth c H locs la hA hE hH hS hL
  exact lv_if_eq hA.1 hA.2.1 hd ht (fun hc => kt hc n0 ad0 ad A p e s m args below meth c H locs la hA hE hH hS hL) (fun hc => kf hc n0 ad0 ad A p e s m args below meth c H locs la hA hE hH hS hL)
theorem o_icmp_eq {g : GX} {md : MD} {pc : Nat} {ls : List (Option Value)} {st : List Value} {h : PH} {nc ns : Nat} {r : Option Value} {h2 : PH} {x y : Int32} {off : Int} (t : Nat) (hd : decode md.2.1 pc = .ok (.if_icmp .eq off, 3)) (ht : (pc : Int) + off = (t : Int)) (kt : x = y → Rn g md t ls st h nc ns r h2) (kf : ¬ x = y → Rn g md (pc + 3) ls st h nc ns r h2) : Rn g md pc ls (.int y :: .int x :: st) h nc ns r h2 := by
  intro n0 ad0 ad A p e s m args below meth c H locs la hA hE hH hS hL
  exact lv_icmp_eq hA.1 hA.2.1 hd ht (fun hc => kt hc n0 ad0 ad A p e s m args below meth c H locs la hA hE hH hS hL) (fun hc => kf hc n0 ad0 ad A p e s m args below meth c H locs la hA hE hH hS hL)
theorem o_if_ne {g : GX} {md : MD} {pc : Nat} {ls : List (Option Value)} {st : List Value} {h : PH} {nc ns : Nat} {r : Option Value} {h2 : PH} {x : Int32} {off : Int} (t : Nat) (hd : decode md.2.1 pc = .ok (.ifCond .ne off, 3)) (ht : (pc : Int) + off = (t : Int)) (kt : ¬ x = 0 → Rn g md t ls st h nc ns r h2) (kf : x = 0 → Rn g md (pc + 3) ls st h nc ns r h2) : Rn g md pc ls (.int x :: st) h nc ns r h2 := by
  intro n0 ad0 ad A p e s m args below meth c H locs la hA hE hH hS hL
  exact lv_if_ne hA.1 hA.2.1 hd ht (fun hc => kt hc n0 ad0 ad A p e s m args below meth c H locs la hA hE hH hS hL) (fun hc => kf hc n0 ad0 ad A p e s m args below meth c H locs la hA hE hH hS hL)
theorem o_icmp_ne {g : GX} {md : MD} {pc : Nat} {ls : List (Option Value)} {st : List Value} {h : PH} {nc ns : Nat} {r : Option Value} {h2 : PH} {x y : Int32} {off : Int} (t : Nat) (hd : decode md.2.1 pc = .ok (.if_icmp .ne off, 3)) (ht : (pc : Int) + off = (t : Int)) (kt : ¬ x = y → Rn g md t ls st h nc ns r h2) (kf : x = y → Rn g md (pc + 3) ls st h nc ns r h2) : Rn g md pc ls (.int y :: .int x :: st) h nc ns r h2 := by
  intro n0 ad0 ad A p e s m args below meth c H locs la hA hE hH hS hL
  exact lv_icmp_ne hA.1 hA.2.1 hd ht (fun hc => kt hc n0 ad0 ad A p e s m args below meth c H locs la hA hE hH hS hL) (fun hc => kf hc n0 ad0 ad A p e s m args below meth c H locs la hA hE hH hS hL)
theorem o_if_lt {g : GX} {md : MD} {pc : Nat} {ls : List (Option Value)} {st : List Value} {h : PH} {nc ns : Nat} {r : Option Value} {h2 : PH} {x : Int32} {off : Int} (t : Nat) (hd : decode md.2.1 pc = .ok (.ifCond .lt off, 3)) (ht : (pc : Int) + off = (t : Int)) (kt : x < 0 → Rn g md t ls st h nc ns r h2) (kf : ¬ x < 0 → Rn g md (pc + 3) ls st h nc ns r h2) : Rn g md pc ls (.int x :: st) h nc ns r h2 := by
  intro n0 ad0 ad A p e s m args below meth c H locs la hA hE hH hS hL
  exact lv_if_lt hA.1 hA.2.1 hd ht (fun hc => kt hc n0 ad0 ad A p e s m args below meth c H locs la hA hE hH hS hL) (fun hc => kf hc n0 ad0 ad A p e s m args below meth c H locs la hA hE hH hS hL)
theorem o_icmp_lt {g : GX} {md : MD} {pc : Nat} {ls : List (Option Value)} {st : List Value} {h : PH} {nc ns : Nat} {r : Option Value} {h2 : PH} {x y : Int32} {off : Int} (t : Nat) (hd : decode md.2.1 pc = .ok (.if_icmp .lt off, 3)) (ht : (pc : Int) + off = (t : Int)) (kt : x < y → Rn g md t ls st h nc ns r h2) (kf : ¬ x < y → Rn g md (pc + 3) ls st h nc ns r h2) : Rn g md pc ls (.int y :: .int x :: st) h nc ns r h2 := by
  intro n0 ad0 ad A p e s m args below meth c H locs la hA hE hH hS hL
  exact lv_icmp_lt hA.1 hA.2.1 hd ht (fun hc => kt hc n0 ad0 ad A p e s m args below meth c H locs la hA hE hH hS hL) (fun hc => kf hc n0 ad0 ad A p e s m args below meth c H locs la hA hE hH hS hL)
theorem o_if_ge {g : GX} {md : MD} {pc : Nat} {ls : List (Option Value)} {st : List Value} {h : PH} {nc ns : Nat} {r : Option Value} {h2 : PH} {x : Int32} {off : Int} (t : Nat) (hd : decode md.2.1 pc = .ok (.ifCond .ge off, 3)) (ht : (pc : Int) + off = (t : Int)) (kt : 0 ≤ x → Rn g md t ls st h nc ns r h2) (kf : ¬ 0 ≤ x → Rn g md (pc + 3) ls st h nc ns r h2) : Rn g md pc ls (.int x :: st) h nc ns r h2 := by
  intro n0 ad0 ad A p e s m args below meth c H locs la hA hE hH hS hL
  exact lv_if_ge hA.1 hA.2.1 hd ht (fun hc => kt hc n0 ad0 ad A p e s m args below meth c H locs la hA hE hH hS hL) (fun hc => kf hc n0 ad0 ad A p e s m args below meth c H locs la hA hE hH hS hL)
theorem o_icmp_ge {g : GX} {md : MD} {pc : Nat} {ls : List (Option Value)} {st : List Value} {h : PH} {nc ns : Nat} {r : Option Value} {h2 : PH} {x y : Int32} {off : Int} (t : Nat) (hd : decode md.2.1 pc = .ok (.if_icmp .ge off, 3)) (ht : (pc : Int) + off = (t : Int)) (kt : y ≤ x → Rn g md t ls st h nc ns r h2) (kf : ¬ y ≤ x → Rn g md (pc + 3) ls st h nc ns r h2) : Rn g md pc ls (.int y :: .int x :: st) h nc ns r h2 := by
  intro n0 ad0 ad A p e s m args below meth c H locs la hA hE hH hS hL
  exact lv_icmp_ge hA.1 hA.2.1 hd ht (fun hc => kt hc n0 ad0 ad A p e s m args below meth c H locs la hA hE hH hS hL) (fun hc => kf hc n0 ad0 ad A p e s m args below meth c H locs la hA hE hH hS hL)
theorem o_if_gt {g : GX} {md : MD} {pc : Nat} {ls : List (Option Value)} {st : List Value} {h : PH} {nc ns : Nat} {r : Option Value} {h2 : PH} {x : Int32} {off : Int} (t : Nat) (hd : decode md.2.1 pc = .ok (.ifCond .gt off, 3)) (ht : (pc : Int) + off = (t : Int)) (kt : 0 < x → Rn g md t ls st h nc ns r h2) (kf : ¬ 0 < x → Rn g md (pc + 3) ls st h nc ns r h2) : Rn g md pc ls (.int x :: st) h nc ns r h2 := by
  intro n0 ad0 ad A p e s m args below meth c H locs la hA hE hH hS hL
  exact lv_if_gt hA.1 hA.2.1 hd ht (fun hc => kt hc n0 ad0 ad A p e s m args below meth c H locs la hA hE hH hS hL) (fun hc => kf hc n0 ad0 ad A p e s m args below meth c H locs la hA hE hH hS hL)
theorem o_icmp_gt {g : GX} {md : MD} {pc : Nat} {ls : List (Option Value)} {st : List Value} {h : PH} {nc ns : Nat} {r : Option Value} {h2 : PH} {x y : Int32} {off : Int} (t : Nat) (hd : decode md.2.1 pc = .ok (.if_icmp .gt off, 3)) (ht : (pc : Int) + off = (t : Int)) (kt : y < x → Rn g md t ls st h nc ns r h2) (kf : ¬ y < x → Rn g md (pc + 3) ls st h nc ns r h2) : Rn g md pc ls (.int y :: .int x :: st) h nc ns r h2 := by
  intro n0 ad0 ad A p e s m args below meth c H locs la hA hE hH hS hL
  exact lv_icmp_gt hA.1 hA.2.1 hd ht (fun hc => kt hc n0 ad0 ad A p e s m args below meth c H locs la hA hE hH hS hL) (fun hc => kf hc n0 ad0 ad A p e s m args below meth c H locs la hA hE hH hS hL)
theorem o_if_le {g : GX} {md : MD} {pc : Nat} {ls : List (Option Value)} {st : List Value} {h : PH} {nc ns : Nat} {r : Option Value} {h2 : PH} {x : Int32} {off : Int} (t : Nat) (hd : decode md.2.1 pc = .ok (.ifCond .le off, 3)) (ht : (pc : Int) + off = (t : Int)) (kt : x ≤ 0 → Rn g md t ls st h nc ns r h2) (kf : ¬ x ≤ 0 → Rn g md (pc + 3) ls st h nc ns r h2) : Rn g md pc ls (.int x :: st) h nc ns r h2 := by
  intro n0 ad0 ad A p e s m args below meth c H locs la hA hE hH hS hL
  exact lv_if_le hA.1 hA.2.1 hd ht (fun hc => kt hc n0 ad0 ad A p e s m args below meth c H locs la hA hE hH hS hL) (fun hc => kf hc n0 ad0 ad A p e s m args below meth c H locs la hA hE hH hS hL)
theorem o_icmp_le {g : GX} {md : MD} {pc : Nat} {ls : List (Option Value)} {st : List Value} {h : PH} {nc ns : Nat} {r : Option Value} {h2 : PH} {x y : Int32} {off : Int} (t : Nat) (hd : decode md.2.1 pc = .ok (.if_icmp .le off, 3)) (ht : (pc : Int) + off = (t : Int)) (kt : x ≤ y → Rn g md t ls st h nc ns r h2) (kf : ¬ x ≤ y → Rn g md (pc + 3) ls st h nc ns r h2) : Rn g md pc ls (.int y :: .int x :: st) h nc ns r h2 := by
  intro n0 ad0 ad A p e s m args below meth c H locs la hA hE hH hS hL
  exact lv_icmp_le hA.1 hA.2.1 hd ht (fun hc => kt hc n0 ad0 ad A p e s m args below meth c H locs la hA hE hH hS hL) (fun hc => kf hc n0 ad0 ad A p e s m args below meth c H locs la hA hE hH hS hL)
theorem o_goto {g : GX} {md : MD} {pc : Nat} {ls : List (Option Value)} {st : List Value} {h : PH} {nc ns : Nat} {r : Option Value} {h2 : PH} {off : Int} (t : Nat) (hd : decode md.2.1 pc = .ok (.goto off, 3)) (ht : (pc : Int) + off = (t : Int)) (k : Rn g md t ls st h nc ns r h2) : Rn g md pc ls st h nc ns r h2 := by
  intro n0 ad0 ad A p e s m args below meth c H locs la hA hE hH hS hL
  exact lv_goto hA.1 hA.2.1 hd ht (k n0 ad0 ad A p e s m args below meth c H locs la hA hE hH hS hL)
theorem o_ifnonnull {g : GX} {md : MD} {pc : Nat} {ls : List (Option Value)} {st : List Value} {h : PH} {nc ns : Nat} {r : Option Value} {h2 : PH} {x : Nat} {off : Int} (t : Nat) (hd : decode md.2.1 pc = .ok (.ifnonnull off, 3)) (ht : (pc : Int) + off = (t : Int)) (k : Rn g md t ls st h nc ns r h2) : Rn g md pc ls (.ref x :: st) h nc ns r h2 := by
  intro n0 ad0 ad A p e s m args below meth c H locs la hA hE hH hS hL
  exact lv_ifnonnull hA.1 hA.2.1 hd ht (k n0 ad0 ad A p e s m args below meth c H locs la hA hE hH hS hL)
theorem o_ifnonnullN {g : GX} {md : MD} {pc : Nat} {ls : List (Option Value)} {st : List Value} {h : PH} {nc ns : Nat} {r : Option Value} {h2 : PH} {off : Int} (hd : decode md.2.1 pc = .ok (.ifnonnull off, 3)) (k : Rn g md (pc + 3) ls st h nc ns r h2) : Rn g md pc ls (.null :: st) h nc ns r h2 := by
  intro n0 ad0 ad A p e s m args below meth c H locs la hA hE hH hS hL
  exact lv_ifnonnullN hA.1 hA.2.1 hd (k n0 ad0 ad A p e s m args below meth c H locs la hA hE hH hS hL)
theorem o_lookup {g : GX} {md : MD} {pc : Nat} {ls : List (Option Value)} {st : List Value} {h : PH} {nc ns : Nat} {r : Option Value} {h2 : PH} {dflt : Int} {ps : Array (Int × Int)} {len : Nat} {x : Int32} {off : Int} (t : Nat) (hd : decode md.2.1 pc = .ok (.lookupswitch dflt ps, len)) (hp : (ps.toList.zip (ps.toList.drop 1)).all (fun (a, next) => a.1 < next.1) = true) (ho : Op.lookupswitch.offset ps.toList dflt x.toInt = off) (ht : (pc : Int) + off = (t : Int)) (k : Rn g md t ls st h nc ns r h2) : Rn g md pc ls (.int x :: st) h nc ns r h2 := by
  intro n0 ad0 ad A p e s m args below meth c H locs la hA hE hH hS hL
  exact lv_lookup hA.1 hA.2.1 hd hp ho ht (k n0 ad0 ad A p e s m args below meth c H locs la hA hE hH hS hL)
theorem o_tableIn {g : GX} {md : MD} {pc : Nat} {ls : List (Option Value)} {st : List Value} {h : PH} {nc ns : Nat} {r : Option Value} {h2 : PH} {dflt lo hi : Int} {offs : Array Int} {len : Nat} {x : Int32} {off : Int} (t : Nat) (hd : decode md.2.1 pc = .ok (.tableswitch dflt lo hi offs, len)) (h1 : ¬ x.toInt < lo) (h3 : ¬ hi < x.toInt) (ho : offs[(x.toInt - lo).toNat]? = some off) (ht : (pc : Int) + off = (t : Int)) (k : Rn g md t ls st h nc ns r h2) : Rn g md pc ls (.int x :: st) h nc ns r h2 := by
  intro n0 ad0 ad A p e s m args below meth c H locs la hA hE hH hS hL
  exact lv_tableIn hA.1 hA.2.1 hd h1 h3 ho ht (k n0 ad0 ad A p e s m args below meth c H locs la hA hE hH hS hL)
theorem o_tableOut {g : GX} {md : MD} {pc : Nat} {ls : List (Option Value)} {st : List Value} {h : PH} {nc ns : Nat} {r : Option Value} {h2 : PH} {dflt lo hi : Int} {offs : Array Int} {len : Nat} {x : Int32} (t : Nat) (hd : decode md.2.1 pc = .ok (.tableswitch dflt lo hi offs, len)) (h1 : x.toInt < lo ∨ hi < x.toInt) (ht : (pc : Int) + dflt = (t : Int)) (k : Rn g md t ls st h nc ns r h2) : Rn g md pc ls (.int x :: st) h nc ns r h2 := by
  intro n0 ad0 ad A p e s m args below meth c H locs la hA hE hH hS hL
  exact lv_tableOut hA.1 hA.2.1 hd h1 ht (k n0 ad0 ad A p e s m args below meth c H locs la hA hE hH hS hL)
/-- the listed values of the locals -/
def lvO (xt ad : Nat → Nat) (ls : List (Option Value)) : List (Nat × Value) := (List.range ls.length).filterMap (fun j => (ls[j]?.join).map (fun w => (j, gv xt ad w)))
theorem lvO_mem {xt ad : Nat → Nat} {ls : List (Option Value)} {q : Nat × Value} : q ∈ lvO xt ad ls ↔ ∃ w, ls[q.1]? = some (some w) ∧ q.2 = gv xt ad w := by
  unfold lvO
  rw [List.mem_filterMap]
  constructor
  · rintro ⟨j, hj, hq⟩
    cases hw : ls[j]? with
    | none => rw [hw] at hq; cases hq
    | some o =>
      cases o with
      | none => rw [hw] at hq; cases hq
      | some w => rw [hw] at hq; cases hq; exact ⟨w, hw, rfl⟩
  · rintro ⟨w, hw, e⟩
    refine ⟨q.1, List.mem_range.mpr (List.getElem?_eq_some_iff.mp hw).1, ?_⟩
    rw [hw]
    show some (q.1, gv xt ad w) = some q
    rw [← e]
theorem LRel.has {xt ad : Nat → Nat} {n : Nat} {ls : List (Option Value)} {la : Array Slot} (h : LRel xt ad n ls la) : lv_has la n (lvO xt ad ls) := by
  refine ⟨h.1, h.2.2.1, fun q hq => ?_⟩
  obtain ⟨w, hw, e⟩ := lvO_mem.mp hq
  rw [e]
  exact h.2.2.2 _ _ hw
/-- no long lies just ahead of the local i -/
def okL (ls : List (Option Value)) (i : Nat) : Bool := match i with
  | 0 => true
  | j + 1 => match ls[j]? with
    | some (some w) => w.category != 2
    | _ => true
theorem LRel.st1 {xt ad : Nat → Nat} {n i : Nat} {ls : List (Option Value)} {la : Array Slot} {v : Value} (h : LRel xt ad n ls la) (hi : okL ls i = true) {la2 : Array Slot} (h2 : lv_has la2 n ((i, gv xt ad v) :: (lvO xt ad ls).filter (fun q => !(q.1 == i) && !(q.1 + 1 == i && q.2.category == 2)))) : LRel xt ad n (ls.set i (some v)) la2 := by
  refine ⟨h2.1, by rw [List.length_set]; exact h.2.1, h2.2.1, fun j w hj => ?_⟩
  rw [List.getElem?_set] at hj
  by_cases e : i = j
  · subst e
    rw [if_pos rfl] at hj
    by_cases hlt : i < ls.length
    · rw [if_pos hlt] at hj
      cases hj
      exact h2.2.2 (i, gv xt ad v) List.mem_cons_self
    · rw [if_neg hlt] at hj
      cases hj
  · rw [if_neg e] at hj
    refine h2.2.2 (j, gv xt ad w) (List.mem_cons_of_mem _ (List.mem_filter.mpr ⟨lvO_mem.mpr ⟨w, hj, rfl⟩, ?_⟩))
    have e1 : (j == i) = false := by simp; omega
    have e2 : (j + 1 == i && (gv xt ad w).category == 2) = false := by
      rw [gv_cat]
      by_cases e3 : j + 1 = i
      · subst e3
        simp only [okL, hj] at hi
        simpa using hi
      · simp [e3]
    simp only [e1, e2]
    rfl
theorem LRel.st2 {xt ad : Nat → Nat} {n i : Nat} {ls : List (Option Value)} {la : Array Slot} {v : Value} (h : LRel xt ad n ls la) (hi : okL ls i = true) {la2 : Array Slot} (h2 : lv_has la2 n ((i, gv xt ad v) :: (lvO xt ad ls).filter (fun q => !(q.1 == i) && (!(q.1 == i + 1) && !(q.1 + 1 == i && q.2.category == 2))))) : LRel xt ad n ((ls.set i (some v)).set (i + 1) none) la2 := by
  refine ⟨h2.1, by rw [List.length_set, List.length_set]; exact h.2.1, h2.2.1, fun j w hj => ?_⟩
  rw [List.getElem?_set] at hj
  by_cases e9 : i + 1 = j
  · subst e9
    rw [if_pos rfl] at hj
    by_cases hlt : i + 1 < (ls.set i (some v)).length
    · rw [if_pos hlt] at hj; cases hj
    · rw [if_neg hlt] at hj; cases hj
  rw [if_neg e9, List.getElem?_set] at hj
  by_cases e : i = j
  · subst e
    rw [if_pos rfl] at hj
    by_cases hlt : i < ls.length
    · rw [if_pos hlt] at hj
      cases hj
      exact h2.2.2 (i, gv xt ad v) List.mem_cons_self
    · rw [if_neg hlt] at hj
      cases hj
  · rw [if_neg e] at hj
    refine h2.2.2 (j, gv xt ad w) (List.mem_cons_of_mem _ (List.mem_filter.mpr ⟨lvO_mem.mpr ⟨w, hj, rfl⟩, ?_⟩))
    have e1 : (j == i) = false := by simp; omega
    have e0 : (j == i + 1) = false := by simp; omega
    have e2 : (j + 1 == i && (gv xt ad w).category == 2) = false := by
      rw [gv_cat]
      by_cases e3 : j + 1 = i
      · subst e3
        simp only [okL, hj] at hi
        simpa using hi
      · simp [e3]
    simp only [e1, e0, e2]
    rfl
theorem o_istore_n {g : GX} {md : MD} {pc : Nat} {ls : List (Option Value)} {st : List Value} {h : PH} {nc ns : Nat} {r : Option Value} {h2 : PH} {x : Int32} {j : Fin 4} (hd : decode md.2.1 pc = .ok (.istore_n j, 1)) (hn : (j : Nat) < md.2.2.1) (ho : okL ls (j : Nat) = true) (k : Rn g md (pc + 1) (ls.set (j : Nat) (some (.int x))) st h nc ns r h2) : Rn g md pc ls (.int x :: st) h nc ns r h2 := by
  intro n0 ad0 ad A p e s m args below meth c H locs la hA hE hH hS hL
  exact lv_istore_n hA.1 hA.2.1 hd rfl hL.has hn rfl (fun la2 hl2 => k n0 ad0 ad A p e s m args below meth c H locs la2 hA hE hH hS (LRel.st1 (v := .int x) hL ho hl2))
theorem o_istore {g : GX} {md : MD} {pc : Nat} {ls : List (Option Value)} {st : List Value} {h : PH} {nc ns : Nat} {r : Option Value} {h2 : PH} {x : Int32} {j : Nat} (hd : decode md.2.1 pc = .ok (.istore j, 2)) (hn : j < md.2.2.1) (ho : okL ls j = true) (k : Rn g md (pc + 2) (ls.set j (some (.int x))) st h nc ns r h2) : Rn g md pc ls (.int x :: st) h nc ns r h2 := by
  intro n0 ad0 ad A p e s m args below meth c H locs la hA hE hH hS hL
  exact lv_istore hA.1 hA.2.1 hd hL.has hn rfl (fun la2 hl2 => k n0 ad0 ad A p e s m args below meth c H locs la2 hA hE hH hS (LRel.st1 (v := .int x) hL ho hl2))
theorem o_lstore_n {g : GX} {md : MD} {pc : Nat} {ls : List (Option Value)} {st : List Value} {h : PH} {nc ns : Nat} {r : Option Value} {h2 : PH} {x : Int64} {j : Fin 4} (hd : decode md.2.1 pc = .ok (.lstore_n j, 1)) (hn : (j : Nat) + 1 < md.2.2.1) (ho : okL ls (j : Nat) = true) (k : Rn g md (pc + 1) ((ls.set (j : Nat) (some (.long x))).set ((j : Nat) + 1) none) st h nc ns r h2) : Rn g md pc ls (.long x :: st) h nc ns r h2 := by
  intro n0 ad0 ad A p e s m args below meth c H locs la hA hE hH hS hL
  exact lv_lstore_n hA.1 hA.2.1 hd rfl hL.has hn rfl (fun la2 hl2 => k n0 ad0 ad A p e s m args below meth c H locs la2 hA hE hH hS (LRel.st2 (v := .long x) hL ho hl2))
theorem o_lstore {g : GX} {md : MD} {pc : Nat} {ls : List (Option Value)} {st : List Value} {h : PH} {nc ns : Nat} {r : Option Value} {h2 : PH} {x : Int64} {j : Nat} (hd : decode md.2.1 pc = .ok (.lstore j, 2)) (hn : j + 1 < md.2.2.1) (ho : okL ls j = true) (k : Rn g md (pc + 2) ((ls.set j (some (.long x))).set (j + 1) none) st h nc ns r h2) : Rn g md pc ls (.long x :: st) h nc ns r h2 := by
  intro n0 ad0 ad A p e s m args below meth c H locs la hA hE hH hS hL
  exact lv_lstore hA.1 hA.2.1 hd hL.has hn rfl (fun la2 hl2 => k n0 ad0 ad A p e s m args below meth c H locs la2 hA hE hH hS (LRel.st2 (v := .long x) hL ho hl2))
theorem o_astore_n {g : GX} {md : MD} {pc : Nat} {ls : List (Option Value)} {st : List Value} {h : PH} {nc ns : Nat} {r : Option Value} {h2 : PH} {x : Nat} {j : Fin 4} (hd : decode md.2.1 pc = .ok (.astore_n j, 1)) (hn : (j : Nat) < md.2.2.1) (ho : okL ls (j : Nat) = true) (k : Rn g md (pc + 1) (ls.set (j : Nat) (some (.ref x))) st h nc ns r h2) : Rn g md pc ls (.ref x :: st) h nc ns r h2 := by
  intro n0 ad0 ad A p e s m args below meth c H locs la hA hE hH hS hL
  exact lv_astore_n hA.1 hA.2.1 hd rfl hL.has hn rfl (fun la2 hl2 => k n0 ad0 ad A p e s m args below meth c H locs la2 hA hE hH hS (LRel.st1 (v := .ref x) hL ho hl2))
theorem o_astore {g : GX} {md : MD} {pc : Nat} {ls : List (Option Value)} {st : List Value} {h : PH} {nc ns : Nat} {r : Option Value} {h2 : PH} {x : Nat} {j : Nat} (hd : decode md.2.1 pc = .ok (.astore j, 2)) (hn : j < md.2.2.1) (ho : okL ls j = true) (k : Rn g md (pc + 2) (ls.set j (some (.ref x))) st h nc ns r h2) : Rn g md pc ls (.ref x :: st) h nc ns r h2 := by
  intro n0 ad0 ad A p e s m args below meth c H locs la hA hE hH hS hL
  exact lv_astore hA.1 hA.2.1 hd hL.has hn rfl (fun la2 hl2 => k n0 ad0 ad A p e s m args below meth c H locs la2 hA hE hH hS (LRel.st1 (v := .ref x) hL ho hl2))
theorem o_astore_nN {g : GX} {md : MD} {pc : Nat} {ls : List (Option Value)} {st : List Value} {h : PH} {nc ns : Nat} {r : Option Value} {h2 : PH} {j : Fin 4} (hd : decode md.2.1 pc = .ok (.astore_n j, 1)) (hn : (j : Nat) < md.2.2.1) (ho : okL ls (j : Nat) = true) (k : Rn g md (pc + 1) (ls.set (j : Nat) (some (.null))) st h nc ns r h2) : Rn g md pc ls (.null :: st) h nc ns r h2 := by
  intro n0 ad0 ad A p e s m args below meth c H locs la hA hE hH hS hL
  exact lv_astore_nN hA.1 hA.2.1 hd rfl hL.has hn rfl (fun la2 hl2 => k n0 ad0 ad A p e s m args below meth c H locs la2 hA hE hH hS (LRel.st1 (v := .null) hL ho hl2))
theorem o_astoreN {g : GX} {md : MD} {pc : Nat} {ls : List (Option Value)} {st : List Value} {h : PH} {nc ns : Nat} {r : Option Value} {h2 : PH} {j : Nat} (hd : decode md.2.1 pc = .ok (.astore j, 2)) (hn : j < md.2.2.1) (ho : okL ls j = true) (k : Rn g md (pc + 2) (ls.set j (some (.null))) st h nc ns r h2) : Rn g md pc ls (.null :: st) h nc ns r h2 := by
  intro n0 ad0 ad A p e s m args below meth c H locs la hA hE hH hS hL
  exact lv_astoreN hA.1 hA.2.1 hd hL.has hn rfl (fun la2 hl2 => k n0 ad0 ad A p e s m args below meth c H locs la2 hA hE hH hS (LRel.st1 (v := .null) hL ho hl2))
theorem o_iinc {g : GX} {md : MD} {pc : Nat} {ls : List (Option Value)} {st : List Value} {h : PH} {nc ns : Nat} {r : Option Value} {h2 : PH} {x : Int32} {i : Nat} {n : Int} (hd : decode md.2.1 pc = .ok (.iinc i n, 3)) (hl : ls[i]? = some (some (.int x))) (hn : i < md.2.2.1) (ho : okL ls i = true) (k : Rn g md (pc + 3) (ls.set i (some (.int (x + Int32.ofInt n)))) st h nc ns r h2) : Rn g md pc ls st h nc ns r h2 := by
  intro n0 ad0 ad A p e s m args below meth c H locs la hA hE hH hS hL
  obtain ⟨j, hj⟩ := List.getElem?_of_mem (lvO_mem (xt := g.2.2.2) (ad := ad) (q := (i, .int x)) |>.mpr ⟨.int x, hl, rfl⟩)
  exact lv_iinc hA.1 hA.2.1 hd hL.has hj rfl hn rfl (fun la2 hl2 => k n0 ad0 ad A p e s m args below meth c H locs la2 hA hE hH hS (LRel.st1 (v := .int (x + Int32.ofInt n)) hL ho hl2))
