/-! THE LAW: what its entry knows of what lies outside -/
def nwF : List Cond := flatC (Jvm.Cond.and given_1 narrow_1)
/-- where the words on the texts stand -/
def txX : List Nat := [52, 60, 70, 80, 88, 96, 104, 111, 122, 133, 142, 151, 160, 168, 177, 187, 195, 204, 214, 221, 230, 241, 247, 254, 260, 269, 281, 293, 302, 311, 320, 332, 342, 352, 362, 371, 381, 392, 401, 411, 422, 430, 440, 447, 455, 463]
def txR : List Nat := [597, 654, 655, 656, 657, 728, 743, 755, 756, 757, 758, 759, 760, 761, 762, 763, 764, 765, 766, 767, 768, 815, 820, 821, 1466, 1467, 1468, 1469, 1470, 1534, 1558, 1559, 1560, 1561, 1562, 1563, 1564, 1565, 1566, 1567, 1568, 1569, 1570, 1583, 1600, 1601]
def tmT (k : Nat) : Term := match txS[k]? with
  | some q => .string q.1 q.2.1
  | none => .string "" 0
abbrev tmV (k : Nat) : Term := .field (tmT k) "java/lang/String" "value" "[B"
abbrev tgT : Term := .static "LateAlways$Sign" "TIGHTNESS" "[I"
set_option maxRecDepth 100000 in
theorem nw_ex : ∀ k, k < 46 → nwF[txX.getD k 0]? = some (Cond.exactly (tmT k) "java/lang/String") := by decide +kernel
set_option maxRecDepth 100000 in
theorem nw_co : ∀ k, k < 46 → nwF[txX.getD k 0 + 1]? = some (Cond.eq (.field (tmT k) "java/lang/String" "coder" "B") (.int 0)) := by decide +kernel
set_option maxRecDepth 100000 in
theorem nw_ar : ∀ k, k < 46 → nwF[txX.getD k 0 + 2]? = some (Cond.arrayOf (tmV k) .byte) := by decide +kernel
set_option maxRecDepth 100000 in
theorem nw_le : ∀ k, k < 46 → nwF[txX.getD k 0 + 3]? = some (Cond.eq (.length (tmV k)) (.int (Int32.ofNat (txB k).length))) := by decide +kernel
set_option maxRecDepth 100000 in
theorem nw_el : ∀ k, k < 46 → ∀ j, j < (txB k).length → nwF[txX.getD k 0 + 4 + j]? = some (Cond.eq (.elem (tmV k) (.int (Int32.ofNat j))) (.int ((txB k).getD j 0))) := by decide +kernel
set_option maxRecDepth 100000 in
theorem nw_tg : ∀ j, j < 16 → nwF[([12, 13, 14, 15, 16, 17, 18, 19, 20, 21, 22, 23, 24, 25, 26, 27] : List Nat).getD j 0]? = some (Cond.eq (.elem tgT (.int (Int32.ofNat j))) (.int (tgS j))) := by decide +kernel
set_option maxRecDepth 100000 in
theorem nw_tA : nwF[10]? = some (Cond.arrayOf tgT .int) := by decide +kernel
set_option maxRecDepth 100000 in
theorem nw_tL : nwF[11]? = some (Cond.eq (.length tgT) (.int (Int32.ofNat 16))) := by decide +kernel
set_option maxRecDepth 100000 in
theorem nw_cs : nwF[4]? = some (Cond.eq (.static "java/lang/String" "COMPACT_STRINGS" "Z") (.int 1)) := by decide +kernel
set_option maxRecDepth 100000 in
theorem nw_fo : nwF[5]? = some (Cond.isRef (.static "jdk/internal/util/Preconditions" "SIOOBE_FORMATTER" "Ljava/util/function/BiFunction;")) := by decide +kernel
set_option maxRecDepth 100000 in
theorem lw_sr : ∀ k, k < 46 → lw_tbl[txR.getD k 0]? = some (match txS[k]? with | some q => Cond.stringRef q.1 q.2.1 q.2.2.1 | none => .tt) := by decide +kernel
set_option maxRecDepth 100000 in
theorem inst_all : ∀ ci, ci < 12 → Cond.instantiable (cR ci) (nF ci) ∈ TB := cls_all (tb_at 386 (by decide +kernel) rfl) (tb_at 394 (by decide +kernel) rfl) (tb_at 828 (by decide +kernel) rfl) (tb_at 279 (by decide +kernel) rfl) (tb_at 335 (by decide +kernel) rfl) (tb_at 132 (by decide +kernel) rfl) (tb_at 173 (by decide +kernel) rfl) (tb_at 167 (by decide +kernel) rfl) (tb_at 500 (by decide +kernel) rfl) (tb_at 327 (by decide +kernel) rfl) (tb_at 124 (by decide +kernel) rfl) (tb_at 1175 (by decide +kernel) rfl)
set_option maxRecDepth 100000 in
theorem lw_ao4 : Cond.arrayOver (.object RX2) ∈ lw_tbl := List.mem_of_getElem? (i := 325) (by decide +kernel)
set_option maxRecDepth 100000 in
theorem lw_ao5 : Cond.arrayOver (.object RX10) ∈ lw_tbl := List.mem_of_getElem? (i := 384) (by decide +kernel)
set_option maxRecDepth 100000 in
theorem lw_ls1 : Cond.laysStatic "LateAlways$Sign" "TIGHTNESS" "[I" ∈ lw_tbl ∧ Cond.initialized "LateAlways$Sign" ∈ lw_tbl := ⟨List.mem_of_getElem? (i := 791) (by decide +kernel), (List.mem_of_getElem? (i := 120) (by decide +kernel))⟩
set_option maxRecDepth 100000 in
theorem lw_ls2 : Cond.laysStatic "java/lang/String" "COMPACT_STRINGS" "Z" ∈ lw_tbl ∧ Cond.initialized "java/lang/String" ∈ lw_tbl := ⟨List.mem_of_getElem? (i := 611) (by decide +kernel), (List.mem_of_getElem? (i := 113) (by decide +kernel))⟩
set_option maxRecDepth 100000 in
theorem lw_ls3 : Cond.laysStatic "jdk/internal/util/Preconditions" "SIOOBE_FORMATTER" "Ljava/util/function/BiFunction;" ∈ lw_tbl ∧ Cond.initialized "jdk/internal/util/Preconditions" ∈ lw_tbl := ⟨List.mem_of_getElem? (i := 627) (by decide +kernel), (List.mem_of_getElem? (i := 115) (by decide +kernel))⟩
set_option maxRecDepth 100000 in
theorem lw_ca : Cond.castable "[I" "java/lang/Cloneable" ∈ lw_tbl := List.mem_of_getElem? (i := 837) (by decide +kernel)
theorem arr_prim {s : State} {a : Array Value} {t : Nat} (ht : t < 4) (h : (Cond.arrayClass (tA t)).before a s = true) : ∃ cA, ArrOfT s cA (tA t) ∧ va_RA s cA (tA t) := by
  obtain ⟨cA, kA, comp, h1, h2, h3⟩ := Cond.arrayClass_spec h
  refine ⟨cA, fun N z => ⟨(fun k h => by cases h), kA, h2, comp, h3⟩, ?_⟩
  match t, ht with
  | 0, _ => exact h1
  | 1, _ => exact h1
  | 2, _ => exact h1
  | 3, _ => exact h1
  | n + 4, h => exact absurd h (by omega)
theorem arr_ref {s : State} {a : Array Value} {C : String} (h : (Cond.arrayOver (.object C)).before a s = true) : ∃ cA, ArrOfT s cA (.object C) ∧ va_RA s cA (.object C) := by
  obtain ⟨comp, cA, kA, h1, h2, h3, h4, h5⟩ := Cond.arrayOver_spec h
  exact ⟨cA, fun N z => ⟨(fun k h => by cases h), kA, h3, comp, h4⟩, kA, comp, h3, h4, h1, h5⟩
theorem txS_at {k : Nat} (hk : k < 46) : ∃ q, txS[k]? = some q ∧ tmT k = .string q.1 q.2.1 := by
  have hl : k < txS.length := hk
  refine ⟨txS[k], List.getElem?_eq_getElem hl, ?_⟩
  unfold tmT
  rw [List.getElem?_eq_getElem hl]
theorem txB_lt : ∀ k, k < 46 → (txB k).length < 2 ^ 31 := by decide +kernel
theorem start_K {p : Program} {s : State} {m : MethodId} {meth : Method} {c : Code} {b L : Nat} {xs : Nat → Int32} (l : Launch) (C0 : lw_At p s m meth c b L xs) : ∃ g : GX, g.1 = l ∧ LX g p s m meth c b L xs := by
  have hts := C0.2.2.2.2.2.1
  have htB := TB_of hts
  have hs : ∀ (i : Nat) (w : Cond), nwF[i]? = some w → w.before #[Value.ref b] s = true := fun i w h => flat_of_before _ C0.2.2.2.2.2.2.2.2.2 w (List.mem_of_getElem? h)
  have hA : ∀ a : Nat, a < s.heap.size → ¬ lA s a := fun a h => Nat.not_le.mpr h
  -- classes
  have k1 : ∀ ci : Nat, ∃ q : ClassId × (Nat → Nat), ci < 12 → u_Kn s (cR ci) (cT ci) (nF ci) q.1 q.2 := by
    intro ci
    by_cases h : ci < 12
    · obtain ⟨cC, iS, hk⟩ := u_known htB (inTB ci h) (htB _ (inst_all ci h))
      exact ⟨(cC, iS), fun _ => hk⟩
    · exact ⟨(0, fun _ => 0), fun q => absurd q h⟩
  obtain ⟨fD, hD⟩ := Classical.axiomOfChoice k1
  -- arrays
  have k2 : ∀ t : Nat, ∃ cA : ClassId, t < 6 → ArrOfT s cA (tA t) ∧ va_RA s cA (tA t) := by
    intro t
    match t with
    | 0 => obtain ⟨cA, h⟩ := arr_prim (by decide) (htB _ la0); exact ⟨cA, fun _ => h⟩
    | 1 => obtain ⟨cA, h⟩ := arr_prim (by decide) (htB _ la1); exact ⟨cA, fun _ => h⟩
    | 2 => obtain ⟨cA, h⟩ := arr_prim (by decide) (htB _ la2); exact ⟨cA, fun _ => h⟩
    | 3 => obtain ⟨cA, h⟩ := arr_prim (by decide) (htB _ la3); exact ⟨cA, fun _ => h⟩
    | 4 => obtain ⟨cA, h⟩ := arr_ref (hts _ lw_ao4); exact ⟨cA, fun _ => h⟩
    | 5 => obtain ⟨cA, h⟩ := arr_ref (hts _ lw_ao5); exact ⟨cA, fun _ => h⟩
    | n + 6 => exact ⟨0, fun h => absurd h (by omega)⟩
  obtain ⟨cA, hcA⟩ := Classical.axiomOfChoice k2
  -- texts
  have k3 : ∀ k : Nat, ∃ q : Nat × Nat, k < 46 → (tmT k).eval #[Value.ref b] s none [] s = some (.ref q.1) ∧ va_O "java/lang/String" q.1 (lA s) s s.heap ∧ va_OF "java/lang/String" "coder" "B" (.int 0) q.1 (lA s) s s.heap ∧ va_OF "java/lang/String" "value" "[B" (.ref q.2) q.1 (lA s) s s.heap ∧ va_T .byte q.2 (txB k).length (fun j => .int ((txB k).getD j 0)) (lA s) s s.heap := by
    intro k
    by_cases hk : k < 46
    · have hex := hs _ _ (nw_ex k hk)
      obtain ⟨a, c, cC, kA, q1, -⟩ := Cond.exactly_spec (args := #[Value.ref b]) (first := s) (o := none) (s := s) (idx := []) (t := tmT k) (cls := "java/lang/String") hex
      obtain ⟨t, ht, hT⟩ := va_Tof (f := fun j => .int ((txB k).getD j 0)) (A := lA s) (txB_lt k hk) (hs _ _ (nw_ar k hk)) (va_eqt (hs _ _ (nw_le k hk))) (fun j hj => va_eqt (hs _ _ (nw_el k hk j hj))) hA
      exact ⟨(a, t), fun _ => ⟨q1, va_Oof hex q1 hA, vk_OFof q1 (va_eqt (hs _ _ (nw_co k hk))) hA, vk_OFof q1 ht hA, hT⟩⟩
    · exact ⟨(0, 0), fun h => absurd h hk⟩
  obtain ⟨fT, hfT⟩ := Classical.axiomOfChoice k3
  -- the table of a sign's tightness
  obtain ⟨tT, htT, hTT⟩ := va_Tof (f := fun j => .int (tgS j)) (A := lA s) (N := 16) (by decide) (hs _ _ nw_tA) (va_eqt (hs _ _ nw_tL)) (fun j hj => va_eqt (hs _ _ (nw_tg j hj))) hA
  have hZ := va_Zof (A := lA s) (hts _ lw_ls1.1) (hts _ lw_ls1.2) htT hA
  have hZc := va_Zof (A := lA s) (hts _ lw_ls2.1) (hts _ lw_ls2.2) (va_eqi (hs _ _ nw_cs)) hA
  have hZf := va_Zqof (A := lA s) (hts _ lw_ls3.1) (hts _ lw_ls3.2) (hs _ _ nw_fo) hA
  obtain ⟨tF, hF⟩ : ∃ tF : Nat, va_Z "jdk/internal/util/Preconditions" "SIOOBE_FORMATTER" "Ljava/util/function/BiFunction;" .null (lA s) s s.heap ∨ va_Z "jdk/internal/util/Preconditions" "SIOOBE_FORMATTER" "Ljava/util/function/BiFunction;" (.ref tF) (lA s) s s.heap := by
    rcases hZf with h | ⟨t, h⟩
    · exact ⟨0, Or.inl h⟩
    · exact ⟨t, Or.inr h⟩
  obtain ⟨xt, x1, x2, x3, x4⟩ : ∃ xt : Nat → Nat, (∀ k, k < 46 → xt (1000000 + k) = (fT k).1) ∧ (∀ k, k < 46 → xt (1100000 + k) = (fT k).2) ∧ xt 2000000 = tT ∧ xt 3000000 = tF := by
    refine ⟨fun i => if i = 2000000 then tT else if i = 3000000 then tF else if i < 1100000 then (fT (i - 1000000)).1 else (fT (i - 1100000)).2, fun k hk => ?_, fun k hk => ?_, ?_, ?_⟩
    · show (if 1000000 + k = 2000000 then tT else if 1000000 + k = 3000000 then tF else if 1000000 + k < 1100000 then (fT (1000000 + k - 1000000)).1 else (fT (1000000 + k - 1100000)).2) = _
      rw [if_neg (by omega), if_neg (by omega), if_pos (by omega), Nat.add_sub_cancel_left]
    · show (if 1100000 + k = 2000000 then tT else if 1100000 + k = 3000000 then tF else if 1100000 + k < 1100000 then (fT (1100000 + k - 1000000)).1 else (fT (1100000 + k - 1100000)).2) = _
      rw [if_neg (by omega), if_neg (by omega), if_neg (by omega), Nat.add_sub_cancel_left]
    · show (if 2000000 = 2000000 then tT else _) = tT
      rw [if_pos rfl]
    · show (if 3000000 = 2000000 then tT else if 3000000 = 3000000 then tF else _) = tF
      rw [if_neg (by omega), if_pos rfl]
  refine ⟨(l, (fun ci => (fD ci).1, fun ci => (fD ci).2), cA, xt), rfl, C0, ⟨fun ci q hq => ?_, fun k q hq => ?_⟩, TB_nil htB, fun k hk => ?_, fun k q hq => ?_, ?_, ?_, hZc, va_AO.of (hts _ lw_ao4), va_AO.of (hts _ lw_ao5), ?_, ?_⟩
  · have hc : ci < 12 := by
      rcases Nat.lt_or_ge ci 12 with h | h
      · exact h
      · rw [List.getElem?_eq_none (show cls12.length ≤ ci from h)] at hq
        cases hq
    rw [cls_at ci hc] at hq
    cases hq
    exact hD ci hc
  · have hc : k < 6 := by
      rcases Nat.lt_or_ge k 6 with h | h
      · exact h
      · rw [List.getElem?_eq_none (show (tysA cA).length ≤ k from h)] at hq
        cases hq
    have e : q = (cA k, tA k) := by
      match k, hc with
      | 0, _ => cases hq; rfl
      | 1, _ => cases hq; rfl
      | 2, _ => cases hq; rfl
      | 3, _ => cases hq; rfl
      | 4, _ => cases hq; rfl
      | 5, _ => cases hq; rfl
      | n + 6, h => exact absurd h (by omega)
    rw [e]
    exact hcA k hc
  · have hk : k < 46 := hk
    show va_O "java/lang/String" (xt (1000000 + k)) (lA s) s s.heap ∧ va_OF "java/lang/String" "coder" "B" (.int 0) (xt (1000000 + k)) (lA s) s s.heap ∧ va_OF "java/lang/String" "value" "[B" (.ref (xt (1100000 + k))) (xt (1000000 + k)) (lA s) s s.heap ∧ va_T .byte (xt (1100000 + k)) (txB k).length (fun j => .int ((txB k).getD j 0)) (lA s) s s.heap
    rw [x1 k hk, x2 k hk]
    exact (hfT k hk).2
  · have hk : k < 46 := by
      rcases Nat.lt_or_ge k 46 with h | h
      · exact h
      · rw [List.getElem?_eq_none (show txS.length ≤ k from h)] at hq
        cases hq
    have h1 := lw_sr k hk
    rw [hq] at h1
    have h2 := (hfT k hk).1
    have e : tmT k = .string q.1 q.2.1 := by unfold tmT; rw [hq]
    rw [e] at h2
    show vk_R q.1 q.2.1 q.2.2.1 (xt (1000000 + k)) s
    rw [x1 k hk]
    exact vk_R.of (hts _ (List.mem_of_getElem? h1)) h2
  · show va_Z "LateAlways$Sign" "TIGHTNESS" "[I" (.ref (xt 2000000)) (lA s) s s.heap
    rw [x3]; exact hZ
  · show va_T .int (xt 2000000) 16 (fun j => .int (tgS j)) (lA s) s s.heap
    rw [x3]; exact hTT
  · show va_Z "jdk/internal/util/Preconditions" "SIOOBE_FORMATTER" "Ljava/util/function/BiFunction;" .null (lA s) s s.heap ∨ va_Z "jdk/internal/util/Preconditions" "SIOOBE_FORMATTER" "Ljava/util/function/BiFunction;" (.ref (xt 3000000)) (lA s) s s.heap
    rw [x4]; exact hF
  · exact hts _ lw_ca
