/-! Arrays.copyOf, and the things that are made behind the constructor -/
theorem ws_new2 {cA : Nat → ClassId} {xt ad : Nat → Nat} {h h1 : PH} {q : Nat} {x : va_E} (w : wfH h) (hn : hN h1 = hN h + 1) (ho : ∀ j, j < hN h → cE cA xt (va_up ad (hN h) q) h1 j = cE cA xt (va_up ad (hN h) q) h j) (hx : cE cA xt (va_up ad (hN h) q) h1 (hN h) = x) : wsO cA xt ad h ++ [(q, x)] = wsO cA xt (va_up ad (hN h) q) h1 := by
  have e : adE (hN h) ad (va_up ad (hN h) q) := fun i hi => if_neg (by omega)
  rw [← wsO_E w e]
  unfold wsO
  rw [hn, List.range_succ, List.map_append]
  congr 1
  · apply List.map_congr_left
    intro i hi
    rw [ho i (List.mem_range.mp hi)]
  · rw [List.map_singleton, hx]
    simp [va_up]
set_option maxRecDepth 100000 in
theorem tb_clone : Cond.methodLink RJ7 316 ⟨"[I", "clone", "()Ljava/lang/Object;"⟩ ∈ TB ∧ Cond.sameMethod "[I" "java/lang/Object" "clone" "()Ljava/lang/Object;" ∈ TB ∧ Cond.native ⟨"java/lang/Object", "clone", "()Ljava/lang/Object;"⟩ ∈ TB ∧ Cond.instanceMethod ⟨"java/lang/Object", "clone", "()Ljava/lang/Object;"⟩ ∈ TB ∧ Cond.selects "[I" ⟨"[I", "clone", "()Ljava/lang/Object;"⟩ ⟨"java/lang/Object", "clone", "()Ljava/lang/Object;"⟩ ∈ TB ∧ Cond.classLink RJ7 317 "[I" ∈ TB := by decide +kernel
theorem fit_int {cA : ClassId} {n : Nat} {f : Nat → Int32} : ∀ (i : Nat) (v : Value), (vp_cell cA (n, .inl f)).slots[i]? = some v → fits .int v = true := by
  intro i v h
  have h1 : (Array.ofFn (n := n) fun j => Value.int (f j.val))[i]? = some v := h
  obtain ⟨hi, e⟩ := Array.getElem?_eq_some_iff.mp h1
  rw [Array.getElem_ofFn] at e
  rw [← e]
  rfl
section OCL
variable {g : GX} {md : MD} {pc : Nat} {ls : List (Option Value)} {st : List Value} {h : PH} {nc ns : Nat} {r : Option Value} {h2 : PH}
theorem o_clone {a n : Nat} (hm : md.1.cls = RJ7) (hd : decode md.2.1 pc = .ok (.invokevirtual 316, 3)) (ha : a < hN h) (hs : hS h a = .inr (0, n)) (hf : 1 ≤ md.2.2.2.2.frames) (hlo : (st.map fun v => v.category).sum + 14 ≤ md.2.2.2.2.locals) (hn : hN h < 1000000) (hc : nc + 1 ≤ md.2.2.2.2.cells) (hsl : ns + n ≤ md.2.2.2.2.slots) (hl : okLs (hN h) ls) (hst : okSt (hN h) st)
    (kk : Rn g md (pc + 3) ls (.ref (hN h) :: st) (sA (hNew h (.inr (0, n))) (hN h) (hI h a)) (nc + 1) (ns + n) r h2) : Rn g md pc ls (.ref a :: st) h nc ns r h2 := by
  intro n0 ad0 ad A p e s m args below meth c H locs la hA hE hH hSv hLv
  have hts := hA.2.2.2.2.2.2.2.1
  have hown := hA.2.2.2.2.2.1
  rw [hm] at hown
  have hK := hA.2.2.2.2.2.2.2.2.1.1
  have hnm : s.vm.findClass "[I" = some (g.2.2.1 0) := (hK.2 0 _ rfl).2
  refine va_clone hA.1 hA.2.1 (hA.2.2.1.trans hLv.1.symm) hown (hts _ tb_clone.1) (hts _ tb_clone.2.1) (hts _ tb_clone.2.2.1) (hts _ tb_clone.2.2.2.1) (hts _ tb_clone.2.2.2.2.1) hA.2.2.2.2.2.2.2.2.1.2.2.2.2.2.2.2.2.2.2 hK hH.1 hH.2.1 hSv hA.2.2.2.2.2.2.2.2.2 a 0 ((ws_arr hH.2.2 ha hs).trans (by rw [aC_int (by decide) (by decide)])) (tys_at _ (by decide)) hnm fit_int hf (by rw [cat_sum]; exact hlo) hc hsl hd ?_
  intro q H1 k1 p1 d1 s1
  have e1 := ws_new2 (cA := g.2.2.1) (xt := g.2.2.2) (ad := ad) (h1 := sA (hNew h (.inr (0, n))) (hN h) (hI h a)) (q := q) (x := .inl (g.2.2.1 0, n, .inl (hI h a))) hH.2.2 rfl
    (fun j hj => cE_congr (hS_newn h (.inr (0, n)) (by omega)) ((hI_sAn (hNew h (.inr (0, n))) (hI h a) (show j ≠ hN h by omega)).trans (hI_newn h (.inr (0, n)) (by omega))) (hL_newn h (.inr (0, n)) (by omega)) (hR_newn h (.inr (0, n)) (by omega)))
    (by
      rw [cE_arr (show hS (sA (hNew h (.inr (0, n))) (hN h) (hI h a)) (hN h) = .inr (0, n) from hS_new h _), aC_int (by decide) (by decide), hI_sA])
  rw [e1] at p1 d1
  have key := kk n0 ad0 (va_up ad (hN h) q) A p e s m args below meth c H1 locs la hA hE.up ⟨p1, d1, wfH_sA (wfH_new hH.2.2 hn)⟩ s1 (hLv.E (Nat.le_of_lt hn) adE_up hl)
  rw [List.map_cons, st_E (Nat.le_of_lt hn) adE_up hst] at key
  refine W.eq ?_ key
  simp [gv, ax, hn, va_up]
theorem o_castI {a n : Nat} (hm : md.1.cls = RJ7) (hd : decode md.2.1 pc = .ok (.checkcast 317, 3)) (ha : a < hN h) (hs : hS h a = .inr (0, n)) (kk : Rn g md (pc + 3) ls (.ref a :: st) h nc ns r h2) : Rn g md pc ls (.ref a :: st) h nc ns r h2 := by
  intro n0 ad0 ad A p e s m args below meth c H locs la hA hE hH hSv hLv
  have hts := hA.2.2.2.2.2.2.2.1
  have hown := hA.2.2.2.2.2.1
  rw [hm] at hown
  have hK := hA.2.2.2.2.2.2.2.2.1.1
  have hnm : s.vm.findClass "[I" = some (g.2.2.1 0) := (hK.2 0 _ rfl).2
  exact va_castA hA.1 hA.2.1 hown (hts _ tb_clone.2.2.2.2.2) hH.1 a (ws_arr hH.2.2 ha hs) hnm hd (kk n0 ad0 ad A p e s m args below meth c H locs la hA hE hH hSv hLv)
end OCL
def mdCopy : MD := (yJ7_copyOf_59c91, cJ7_copyOf_59c91, 3, some (.array .int), { frames := 1, cells := 1, slots := 400, locals := 26 })
/-- what a copy holds -/
def cpF (f : Nat → Int32) (na N : Nat) : Nat → Int32 := if N = na then f else va_cpy f (fun _ => 0) 0 0 (if N < na then N else na)
def hCopy (h : PH) (a na N : Nat) : PH := sA (hNew h (.inr (0, N))) (hN h) (cpF (hI h a) na N)
theorem kJ7_copyOf {g : GX} {h : PH} {a na N : Nat} (ha : a < hN h) (hs : hS h a = .inr (0, na)) (hna : na ≤ 400) (hN4 : N ≤ 400) (hn : hN h < 1000000) : Cn g mdCopy [.ref a, .int (nI N)] h (some (.ref (hN h))) (hCopy h a na N) := by
  refine Cn.of (by decide) (Nat.le_of_ble_eq_true rfl) ?_
  show Rn g mdCopy 0 [some (.ref a), some (.int (nI N)), none] [] h 0 0 (some (.ref (hN h))) (hCopy h a na N)
  refine o_iload_n (pc := 0) dJ7_copyOf_59c91_0 rfl ?_
  refine o_aload_n (pc := 1) dJ7_copyOf_59c91_1 rfl ?_
  refine o_alen (pc := 2) (t := 0) (by decide) dJ7_copyOf_59c91_2 ha hs ?_
  refine o_icmp_ne (pc := 3) 14 dJ7_copyOf_59c91_3 rfl (fun hc => ?_) (fun hc => ?_)
  · have hne : ¬ N = na := fun e => hc (by rw [e]; rfl)
    refine o_iload_n (pc := 14) dJ7_copyOf_59c91_14 rfl ?_
    refine o_newa (pc := 15) (x := 0) (t := 0) (N := N) (by decide) rfl la0 dJ7_copyOf_59c91_15 (nI_pos (by omega)) (nI_clamp (by omega)) (by omega) hn (by decide) (show 0 + N ≤ 400 by omega) (okLs_ref (Or.inl ha) (okLs_int (okLs_none okLs_nil))) okSt_nil ?_
    have oA : Ar (hNew h (.inr (0, N))) a 0 na := Ar.new ⟨ha, hs⟩
    have oB : Ar (hNew h (.inr (0, N))) (hN h) 0 N := Ar.made
    have hIa : hI (hNew h (.inr (0, N))) a = hI h a := hI_newn h _ (Nat.ne_of_lt ha)
    have hIb : hI (hNew h (.inr (0, N))) (hN h) = fun _ => 0 := hI_new h _
    have ef : hCopy h a na N = sA (hNew h (.inr (0, N))) (hN h) (va_cpy (hI (hNew h (.inr (0, N))) a) (hI (hNew h (.inr (0, N))) (hN h)) 0 0 (if N < na then N else na)) := by
      unfold hCopy cpF
      rw [if_neg hne, hIa, hIb]
    rw [ef]
    refine o_astore_n (pc := 17) dJ7_copyOf_59c91_17 (by decide) rfl ?_
    show Rn g mdCopy 18 [some (.ref a), some (.int (nI N)), some (.ref (hN h))] [] _ 1 (0 + N) _ _
    refine o_aload_n (pc := 18) dJ7_copyOf_59c91_18 rfl ?_
    refine o_iconst (pc := 19) (v := 0) dJ7_copyOf_59c91_19 rfl ?_
    refine o_aload_n (pc := 20) dJ7_copyOf_59c91_20 rfl ?_
    refine o_iconst (pc := 21) (v := 0) dJ7_copyOf_59c91_21 rfl ?_
    refine o_aload_n (pc := 22) dJ7_copyOf_59c91_22 rfl ?_
    refine o_alen (pc := 23) (t := 0) (by decide) dJ7_copyOf_59c91_23 oA.1 oA.2 ?_
    refine o_iload_n (pc := 24) dJ7_copyOf_59c91_24 rfl ?_
    refine o_min (pc := 25) lmJ7_304 dJ7_copyOf_59c91_25 (by decide) (Nat.le_of_ble_eq_true rfl) (by decide) (show 0 + N ≤ 400 by omega) ?_
    have em : (if nI N < Int32.ofNat na then nI N else Int32.ofNat na) = nI (if N < na then N else na) := by
      show (if nI N < nI na then nI N else nI na) = _
      by_cases hlt : N < na
      · rw [if_pos hlt, if_pos (nI_lt hlt (by omega))]
      · rw [if_neg hlt, if_neg (nI_nlt (by omega) (by omega))]
    rw [em]
    have hk : (if N < na then N else na) ≤ 400 ∧ (if N < na then N else na) ≤ na ∧ (if N < na then N else na) ≤ N := by split <;> omega
    generalize (if N < na then N else na) = k at hk ⊢
    have hkc : (nI k).toNatClampNeg = k := nI_clamp (by omega)
    have h0c : (0 : Int32).toNatClampNeg = 0 := rfl
    refine o_copy (pc := 28) (na := na) (nb := N) lmJ7_150 dJ7_copyOf_59c91_28 (by decide) (Nat.le_of_ble_eq_true rfl) oA.1 oA.2 oB.1 oB.2 (by decide) (by decide) (nI_pos (by omega)) (by rw [hkc, h0c]; omega) (by rw [hkc, h0c]; omega) ?_
    rw [hkc, h0c]
    refine o_aload_n (pc := 31) dJ7_copyOf_59c91_31 rfl ?_
    exact o_areturn (pc := 32) dJ7_copyOf_59c91_32 rfl (Or.inr ⟨_, rfl⟩) (Or.inr ⟨_, rfl⟩) (by decide) (show 0 + N ≤ 400 by omega)
  · have he : N = na := (nI_eq (by omega) (by omega)).mp hc
    subst he
    have ef : hCopy h a N N = sA (hNew h (.inr (0, N))) (hN h) (hI h a) := by
      unfold hCopy cpF
      rw [if_pos rfl]
    rw [ef]
    refine o_aload_n (pc := 6) dJ7_copyOf_59c91_6 rfl ?_
    refine o_clone (pc := 7) rfl dJ7_copyOf_59c91_7 ha hs (by decide) (Nat.le_of_ble_eq_true rfl) hn (by decide) (show 0 + N ≤ 400 by omega) (okLs_ref (Or.inl ha) (okLs_int (okLs_none okLs_nil))) okSt_nil ?_
    have oB : Ar (hNew h (.inr (0, N))) (hN h) 0 N := Ar.made
    refine o_castI (pc := 10) rfl dJ7_copyOf_59c91_10 oB.1 oB.2 ?_
    exact o_areturn (pc := 13) dJ7_copyOf_59c91_13 rfl (Or.inr ⟨_, rfl⟩) (Or.inr ⟨_, rfl⟩) (by decide) (show 0 + N ≤ 400 by omega)
