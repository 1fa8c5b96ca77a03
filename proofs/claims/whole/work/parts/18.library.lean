section OL
variable {g : GX} {md : MD} {pc : Nat} {ls : List (Option Value)} {st : List Value} {h : PH} {nc ns : Nat} {r : Option Value} {h2 : PH}
theorem o_objInit {a x : Nat} (hw : Cond.methodLink md.1.cls x objectInit ∈ TB) (hd : decode md.2.1 pc = .ok (.invokespecial x, 3)) (hf : 1 ≤ md.2.2.2.2.frames) (hl : (st.map fun v => v.category).sum + 12 ≤ md.2.2.2.2.locals) (kk : Rn g md (pc + 3) ls st h nc ns r h2) : Rn g md pc ls (.ref a :: st) h nc ns r h2 := by
  intro n0 ad0 ad A p e s m args below meth c H locs la hA hE hH hS hL
  have hts := hA.2.2.2.2.2.2.2.1
  exact W.objInit hA.1 hA.2.1 hA.2.2.2.2.2.1 (hts _ hw) (hts _ tb_obj.1) (hts _ tb_obj.2) rfl (by rw [hA.2.2.1]; exact hL.1) rfl hd hf (by rw [cat_sum]; simpa using hl) (kk n0 ad0 ad A p e s m args below meth c H locs la hA hE hH hS hL)
theorem o_max {x : Nat} {a b : Int32} (hw : Cond.methodLink md.1.cls x Lib.Math.max.name ∈ TB) (hd : decode md.2.1 pc = .ok (.invokestatic x, 3)) (hf : 1 ≤ md.2.2.2.2.frames) (hl : (st.map fun v => v.category).sum + 13 ≤ md.2.2.2.2.locals) (hc : nc ≤ md.2.2.2.2.cells) (hs : ns ≤ md.2.2.2.2.slots) (kk : Rn g md (pc + 3) ls (.int (if a < b then b else a) :: st) h nc ns r h2) : Rn g md pc ls (.int b :: .int a :: st) h nc ns r h2 := by
  intro n0 ad0 ad A p e s m args below meth c H locs la hA hE hH hS hL
  have hts := hA.2.2.2.2.2.2.2.1
  exact va_mmax hA.1 hA.2.1 (hA.2.2.1.trans hL.1.symm) hA.2.2.2.2.2.1 (hts _ hw) (hts _ tb_max.1) (hts _ tb_max.2.1) (hts _ tb_max.2.2) hf (by rw [cat_sum]; exact hl) hc hs hd (kk n0 ad0 ad A p e s m args below meth c H locs la hA hE hH hS hL)
theorem o_min {x : Nat} {a b : Int32} (hw : Cond.methodLink md.1.cls x Lib.Math.min.name ∈ TB) (hd : decode md.2.1 pc = .ok (.invokestatic x, 3)) (hf : 1 ≤ md.2.2.2.2.frames) (hl : (st.map fun v => v.category).sum + 13 ≤ md.2.2.2.2.locals) (hc : nc ≤ md.2.2.2.2.cells) (hs : ns ≤ md.2.2.2.2.slots) (kk : Rn g md (pc + 3) ls (.int (if b < a then b else a) :: st) h nc ns r h2) : Rn g md pc ls (.int b :: .int a :: st) h nc ns r h2 := by
  intro n0 ad0 ad A p e s m args below meth c H locs la hA hE hH hS hL
  have hts := hA.2.2.2.2.2.2.2.1
  exact va_mmin hA.1 hA.2.1 (hA.2.2.1.trans hL.1.symm) hA.2.2.2.2.2.1 (hts _ hw) (hts _ tb_min.1) (hts _ tb_min.2.1) (hts _ tb_min.2.2) hf (by rw [cat_sum]; exact hl) hc hs hd (kk n0 ad0 ad A p e s m args below meth c H locs la hA hE hH hS hL)
theorem o_abs {x : Nat} {a : Int32} (hw : Cond.methodLink md.1.cls x Lib.Math.abs.name ∈ TB) (hd : decode md.2.1 pc = .ok (.invokestatic x, 3)) (hf : 1 ≤ md.2.2.2.2.frames) (hl : (st.map fun v => v.category).sum + 13 ≤ md.2.2.2.2.locals) (hc : nc ≤ md.2.2.2.2.cells) (hs : ns ≤ md.2.2.2.2.slots) (kk : Rn g md (pc + 3) ls (.int (if 0 ≤ a then a else 0 - a) :: st) h nc ns r h2) : Rn g md pc ls (.int a :: st) h nc ns r h2 := by
  intro n0 ad0 ad A p e s m args below meth c H locs la hA hE hH hS hL
  have hts := hA.2.2.2.2.2.2.2.1
  exact va_mabs hA.1 hA.2.1 (hA.2.2.1.trans hL.1.symm) hA.2.2.2.2.2.1 (hts _ hw) (hts _ tb_abs.1) (hts _ tb_abs.2.1) (hts _ tb_abs.2.2) hf (by rw [cat_sum]; exact hl) hc hs hd (kk n0 ad0 ad A p e s m args below meth c H locs la hA hE hH hS hL)
theorem o_lmax {x : Nat} {a b : Int64} (hw : Cond.methodLink md.1.cls x Lib.MathLoose.max_long.x ∈ TB) (hd : decode md.2.1 pc = .ok (.invokestatic x, 3)) (hf : 1 ≤ md.2.2.2.2.frames) (hl : (st.map fun v => v.category).sum + 15 ≤ md.2.2.2.2.locals) (hc : nc ≤ md.2.2.2.2.cells) (hs : ns ≤ md.2.2.2.2.slots) (kk : Rn g md (pc + 3) ls (.long (if b < a then a else b) :: st) h nc ns r h2) : Rn g md pc ls (.long b :: .long a :: st) h nc ns r h2 := by
  intro n0 ad0 ad A p e s m args below meth c H locs la hA hE hH hS hL
  have hts := hA.2.2.2.2.2.2.2.1
  exact va_mmax_long hA.1 hA.2.1 (hA.2.2.1.trans hL.1.symm) hA.2.2.2.2.2.1 (hts _ hw) (hts _ tb_lmax.1) (hts _ tb_lmax.2.1) (hts _ tb_lmax.2.2) hf (by rw [cat_sum]; exact hl) hc hs hd (kk n0 ad0 ad A p e s m args below meth c H locs la hA hE hH hS hL)
theorem o_lmin {x : Nat} {a b : Int64} (hw : Cond.methodLink md.1.cls x Lib.MathLoose.min_long.x ∈ TB) (hd : decode md.2.1 pc = .ok (.invokestatic x, 3)) (hf : 1 ≤ md.2.2.2.2.frames) (hl : (st.map fun v => v.category).sum + 15 ≤ md.2.2.2.2.locals) (hc : nc ≤ md.2.2.2.2.cells) (hs : ns ≤ md.2.2.2.2.slots) (kk : Rn g md (pc + 3) ls (.long (if b < a then b else a) :: st) h nc ns r h2) : Rn g md pc ls (.long b :: .long a :: st) h nc ns r h2 := by
  intro n0 ad0 ad A p e s m args below meth c H locs la hA hE hH hS hL
  have hts := hA.2.2.2.2.2.2.2.1
  exact va_mmin_long hA.1 hA.2.1 (hA.2.2.1.trans hL.1.symm) hA.2.2.2.2.2.1 (hts _ hw) (hts _ tb_lmin.1) (hts _ tb_lmin.2.1) (hts _ tb_lmin.2.2) hf (by rw [cat_sum]; exact hl) hc hs hd (kk n0 ad0 ad A p e s m args below meth c H locs la hA hE hH hS hL)
/-- System.arraycopy of int arrays -/
theorem o_copy {x a b na nb : Nat} {sp dp n : Int32} (hw : Cond.methodLink md.1.cls x arraycopyName ∈ TB) (hd : decode md.2.1 pc = .ok (.invokestatic x, 3)) (hf : 1 ≤ md.2.2.2.2.frames) (hl : (st.map fun v => v.category).sum + 18 ≤ md.2.2.2.2.locals) (ha : a < hN h) (hsa : hS h a = .inr (0, na)) (hb : b < hN h) (hsb : hS h b = .inr (0, nb)) (h1 : ¬ sp < 0) (h3 : ¬ dp < 0) (h4 : ¬ n < 0) (h5 : sp.toNatClampNeg + n.toNatClampNeg ≤ na) (h6 : dp.toNatClampNeg + n.toNatClampNeg ≤ nb)
    (kk : Rn g md (pc + 3) ls st (sA h b (va_cpy (hI h a) (hI h b) sp.toNatClampNeg dp.toNatClampNeg n.toNatClampNeg)) nc ns r h2) : Rn g md pc ls (.int n :: .int dp :: .ref b :: .int sp :: .ref a :: st) h nc ns r h2 := by
  intro n0 ad0 ad A p e s m args below meth c H locs la hA hE hH hS hL
  have hts := hA.2.2.2.2.2.2.2.1
  have e1 := ws_sI (cA := g.2.2.1) (xt := g.2.2.2) (ad := ad) (f := va_cpy (hI h a) (hI h b) sp.toNatClampNeg dp.toNatClampNeg n.toNatClampNeg) hsb (by decide) (by decide)
  rw [← ax_lt (xt := g.2.2.2) (ad := ad) hH.2.2 hb] at e1
  exact va_copyi hA.1 hA.2.1 (hA.2.2.1.trans hL.1.symm) hA.2.2.2.2.2.1 (hts _ hw) (hts _ tb_copy.1) (hts _ tb_copy.2.1) (hts _ tb_copy.2.2) hA.2.2.2.2.2.2.2.2.1.1 hH.1 hH.2.1 hS a b 0 0 (ty := .int) ((ws_arr hH.2.2 ha hsa).trans (by rw [aC_int (by decide) (by decide)])) ((ws_arr hH.2.2 hb hsb).trans (by rw [aC_int (by decide) (by decide)])) (tys_at _ (by decide)) (tys_at _ (by decide)) rfl h1 h3 h4 h5 h6 (fun _ _ => rfl) hf (by rw [cat_sum]; exact hl) hd
    (fun H1 locs1 p1 d1 s1 => kk n0 ad0 ad A p e s m args below meth c H1 locs1 la hA hE ⟨e1 ▸ p1, e1 ▸ d1, wfH_sA hH.2.2⟩ s1 hL)
end OL
