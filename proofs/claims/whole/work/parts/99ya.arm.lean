/-! THE LAW: an arm of its switch -/
section LAb
variable {p : Program} {e : Env} {s : State} {m : MethodId} {below : List Frame} {meth : Method} {c : Code} {H : Heap} {locs : List Loc} {nc ns : Nat} {Q : State → Prop} {b L : Nat} {xs : Nat → Int32} {g : GX} {a1 a2 : Nat → Nat} {ls : Array Slot} {q0 q1 i : Nat}
theorem ofi : ∀ j : Nat, j < 5 → Int32.ofInt ((j : Int) + 1) = nI (j + 1) := by decide +kernel
abbrev vsN (xs : Nat → Int32) (i n : Nat) : List Value := (List.range' 0 n).map (fun j => Value.int (xs (i + 1 + j)))
theorem l_args {P n : Nat} (D : argsAt P n) (hX : LX g p s m meth c b L xs) (hSv : va_S (lA s) s.heap H locs) (hl : lv_has ls 4 [(0, .ref b), (1, .ref q0), (2, .ref q1), (3, .int (nI i))]) (hi : i + 6 ≤ L) (hn : n ≤ 5) (hL : L ≤ 3072) : ∀ (k j : Nat) (st : List Value), j + k = n → W p g.1 e room_1 s m #[Value.ref b] below meth c H locs nc ns Q (F0 m (P + 5 * n) ls (((List.range' j k).map (fun j => Value.int (xs (i + 1 + j)))).reverse ++ st)) → W p g.1 e room_1 s m #[Value.ref b] below meth c H locs nc ns Q (F0 m (P + 5 * j) ls st) := by
  have hx := hX.1.1
  have hb := hX.1.2.1
  have hXs := hX.1.2.2.2.2.2.2.1
  have hbl := hX.1.2.2.2.2.2.2.2.1
  have hbA : ¬ lA s b := Nat.not_le.mpr hbl
  intro k
  induction k with
  | zero =>
    intro j st hj h
    obtain rfl : j = n := by omega
    exact h
  | succ k ih =>
    intro j st hj h
    obtain ⟨d1, d2, d3, d4, d5⟩ := D j (by omega)
    refine lv_aload_n hx hb d1 rfl (lv_at hl 0 rfl) ?_
    refine lv_iload_n hx hb d2 rfl (lv_at hl 3 rfl) ?_
    refine lv_iconst hx hb d3 (ofi j (by omega)) ?_
    refine lv_iadd hx hb d4 ?_
    rw [nj_add]
    refine va_sld hx hb hXs hbl hbA hSv (vp_in_nI (by omega) (by omega)) d5 ?_
    rw [nI_clamp (by omega)]
    refine ih (j + 1) (.int (xs (i + (j + 1))) :: st) (by omega) ?_
    have e1 : ((List.range' (j + 1) k).map (fun j => Value.int (xs (i + 1 + j)))).reverse ++ (Value.int (xs (i + (j + 1))) :: st) = ((List.range' j (k + 1)).map (fun j => Value.int (xs (i + 1 + j)))).reverse ++ st := by
      rw [List.range'_succ, List.map_cons, List.reverse_cons, List.append_assoc, show i + (j + 1) = i + 1 + j by omega]
      rfl
    rw [e1]
    exact h
theorem l_args0 {P n : Nat} (D : argsAt P n) (hX : LX g p s m meth c b L xs) (hSv : va_S (lA s) s.heap H locs) (hl : lv_has ls 4 [(0, .ref b), (1, .ref q0), (2, .ref q1), (3, .int (nI i))]) (hi : i + 6 ≤ L) (hn : n ≤ 5) (hL : L ≤ 3072) {st : List Value} (h : W p g.1 e room_1 s m #[Value.ref b] below meth c H locs nc ns Q (F0 m (P + 5 * n) ls ((vsN xs i n).reverse ++ st))) : W p g.1 e room_1 s m #[Value.ref b] below meth c H locs nc ns Q (F0 m P ls st) :=
  l_args D hX hSv hl hi hn hL n 0 st (by omega) h
theorem vsN_gv {xt ad : Nat → Nat} {n : Nat} : (vsN xs i n).map (gv xt ad) = vsN xs i n := by
  unfold vsN
  rw [List.map_map]
  rfl
theorem vsN_len {n : Nat} : (vsN xs i n).length = n := by simp [vsN]
theorem l_arm {P n x y : Nat} {mc mm : MD} {t : PH} {z z' : ST} {d : Nat} (D : armD P n x y) (hwc : siteV R_law x RX11 mc n) (hwm : siteV R_law y RX12 mm n) (hfc : mc.2.2.2.2.frames + 1 ≤ 16 ∧ 8 + (mc.2.2.1 + 11) + mc.2.2.2.2.locals ≤ 612) (hfm : mm.2.2.2.2.frames + 1 ≤ 16 ∧ 8 + (mm.2.2.1 + 11) + mm.2.2.2.2.locals ≤ 612) (hcc : mc.2.2.2.2.cells ≤ 12 ∧ mc.2.2.2.2.slots ≤ 1204) (hcm : mm.2.2.2.2.cells = 0 ∧ mm.2.2.2.2.slots = 0)
    (hX : LX g p s m meth c b L xs) (hT2 : TwoH g (lA s) a1 a2 (cW t z) (mW z') H) (hSv : va_S (lA s) s.heap H locs) (hl : lv_has ls 4 [(0, .ref b), (1, .ref (a1 0)), (2, .ref (a2 0)), (3, .int (nI i))]) (hi : i + 6 ≤ L) (hn : n ≤ 5) (hL : L ≤ 3072) (hrm : nc ≤ 10000 ∧ ns ≤ 700000) (hst : StepOK g mc mm (vsN xs i n) t z z' d)
    (kk : ∀ (t' : PH) (w w' : ST) (a1' a2' : Nat → Nat) (H1 : Heap) (locs1 : List Loc), INV t' w w' (d + 1) → t'.1 ≤ t.1 + 12 → a1' 0 = a1 0 → a2' 0 = a2 0 → TwoH g (lA s) a1' a2' (cW t' w) (mW w') H1 → va_S (lA s) s.heap H1 locs1 → W p g.1 e room_1 s m #[Value.ref b] below meth c H1 locs1 (nc + 12) (ns + 1204) Q (F0 m 1102 ls [])) :
    W p g.1 e room_1 s m #[Value.ref b] below meth c H locs nc ns Q (F0 m P ls []) := by
  have hx := hX.1.1
  have hb := hX.1.2.1
  obtain ⟨a, t', w, w', kc, km, hI', ht'⟩ := hst
  obtain ⟨D1, D2, D3, D4, D5, D6, D7⟩ := D
  have h0c : 0 < hN (cW t z) := by show 0 < 48 + t.1; omega
  have h0m : 0 < hN (mW z') := by show 0 < 56; omega
  refine lv_aload_n hx hb D1 rfl (lv_at hl 1 rfl) ?_
  refine l_args0 D2 hX hSv hl hi hn hL ?_
  refine l_callV (ci := 10) hX hT2 hSv hl.1 D3 kc (by decide) rfl h0c vsN_gv (by rw [vsN_len]; exact hwc) hfc (by omega) (by simp) (fun a1' H1 locs1 hE hT3 hS3 => ?_)
  have e1 : a1' 0 = a1 0 := hE.2.1 0 h0c
  refine lv_aload_n (rest := [.int a]) hx hb D4 rfl (lv_at hl 2 rfl) ?_
  refine l_args0 D5 hX hS3 hl hi hn hL ?_
  refine l_callV (ci := 11) hX hT3.sym hS3 hl.1 D6 km (by decide) rfl h0m vsN_gv (by rw [vsN_len]; exact hwm) hfm (by omega) (by simp [Value.category]) (fun a2' H2 locs2 hE2 hT4 hS4 => ?_)
  have e2 : a2' 0 = a2 0 := hE2.2.1 0 h0m
  refine lv_icmp_eq (tgt := 1102) (x := a) (y := a) (rest := []) hx hb D7 (by omega) (fun _ => ?_) (fun h => absurd rfl h)
  exact W.widen (k := nc + 12) (n := ns + 1204) (by omega) (by omega) (kk t' w w' a1' a2' H2 locs2 hI' ht' e1 e2 hT4.sym hS4)
end LAb
