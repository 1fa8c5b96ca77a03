/-! RULES: new things, arrays of references, what lies outside, returns, calls -/
theorem cls_dv : ∀ ci, ci < 12 → ∀ k, k < nF ci → defaultValue (tyF ci k) = if isRf (tyF ci k) = true then Value.null else .int 0 := cls_all (by decide) (by decide) (by decide) (by decide) (by decide) (by decide) (by decide) (by decide) (by decide) (by decide) (by decide) (by decide)
def okLs (n : Nat) (ls : List (Option Value)) : Prop := ∀ v, some v ∈ ls → okV n v
def okSt (n : Nat) (st : List Value) : Prop := ∀ v, v ∈ st → okV n v
theorem LRel.E {xt ad ad2 : Nat → Nat} {n N : Nat} {ls : List (Option Value)} {la : Array Slot} (h : LRel xt ad n ls la) (hN : N ≤ 1000000) (e : adE N ad ad2) (ho : okLs N ls) : LRel xt ad2 n ls la :=
  ⟨h.1, h.2.1, h.2.2.1, fun i v hi => by rw [gv_E hN e (ho v (List.mem_of_getElem? hi))]; exact h.2.2.2 i v hi⟩
theorem st_E {xt ad ad2 : Nat → Nat} {N : Nat} {st : List Value} (hN : N ≤ 1000000) (e : adE N ad ad2) (ho : okSt N st) : st.map (gv xt ad2) = st.map (gv xt ad) :=
  List.map_congr_left (fun v hv => gv_E hN e (ho v hv))
theorem adE_up {n q : Nat} {ad : Nat → Nat} : adE n ad (va_up ad n q) := fun i hi => if_neg (by omega)
theorem Ee.up {n0 n q : Nat} {ad0 ad : Nat → Nat} (h : Ee n0 ad0 n ad) : Ee n0 ad0 (n + 1) (va_up ad n q) := by
  have h1 := h.1
  exact ⟨by omega, fun i hi => (adE_up i (by omega)).trans (h.2.1 i hi), fun e => by omega⟩
theorem RA_eq {cA : ClassId} {cB : ClassId} {s : State} {t : Nat} (a : va_RA s cA (tA t)) (b : va_RA s cB (tA t)) : cA = cB := by
  match t with
  | 0 => exact Option.some.inj (a.symm.trans b)
  | 1 => exact Option.some.inj (a.symm.trans b)
  | 2 => exact Option.some.inj (a.symm.trans b)
  | 3 => exact Option.some.inj (a.symm.trans b)
  | 4 => obtain ⟨_, _, _, _, _, a⟩ := a; obtain ⟨_, _, _, _, _, b⟩ := b; exact Option.some.inj (a.symm.trans b)
  | n + 5 => obtain ⟨_, _, _, _, _, a⟩ := a; obtain ⟨_, _, _, _, _, b⟩ := b; exact Option.some.inj (a.symm.trans b)
section OC
variable {g : GX} {md : MD} {pc : Nat} {ls : List (Option Value)} {st : List Value} {h : PH} {nc ns : Nat} {r : Option Value} {h2 : PH}
theorem o_new {ci x : Nat} (hci : ci < 12) (hw : Cond.classLink md.1.cls x (cR ci) ∈ TB ∧ Cond.instantiable (cR ci) (nF ci) ∈ TB ∧ Cond.initialized (cR ci) ∈ TB) (hd : decode md.2.1 pc = .ok (.new x, 3)) (hn : hN h < 1000000) (hc : nc + 1 ≤ md.2.2.2.2.cells) (hsl : ns + nF ci ≤ md.2.2.2.2.slots) (hl : okLs (hN h) ls) (hst : okSt (hN h) st)
    (kk : Rn g md (pc + 3) ls (.ref (hN h) :: st) (hNew h (.inl ci)) (nc + 1) (ns + nF ci) r h2) : Rn g md pc ls st h nc ns r h2 := by
  intro n0 ad0 ad A p e s m args below meth c H locs la hA hE hH hS hL
  refine va_new hA.1 hA.2.1 (Ts := TB) (fs := (List.range (nF ci)).map (fun k => if isRf (tyF ci k) = true then Value.null else .int 0)) hA.2.2.2.2.2.2.2.1 (inTB ci hci) (tyF ci) (cls_ty ci hci) hA.2.2.2.2.2.1 (hA.2.2.2.2.2.2.2.1 _ hw.1) (hA.2.2.2.2.2.2.2.1 _ hw.2.1) (hA.2.2.2.2.2.2.2.1 _ hw.2.2) hA.2.2.2.2.2.2.2.2.1.1 hH.1 hH.2.1 hS hA.2.2.2.2.2.2.2.2.2 (cls_at ci hci) ?_ hc hsl hd ?_
  · intro j hj
    rw [cls_dv ci hci j hj]
    simp [vp_V, hj]
  · intro q H1 p1 d1 s1
    have e1 := ws_new (cA := g.2.2.1) (xt := g.2.2.2) (ad := ad) (z := .inl ci) (q := q) (x := .inr (ci, (List.range (nF ci)).map (fun k => if isRf (tyF ci k) = true then Value.null else .int 0))) hH.2.2 hn (by
      rw [cE_obj (hS_new h (.inl ci))]
      congr 2
      apply List.map_congr_left
      intro k _
      simp only [fV, hI_new, hR_new]
      rfl)
    rw [e1] at p1 d1
    have key := kk n0 ad0 (va_up ad (hN h) q) A p e s m args below meth c H1 locs la hA hE.up ⟨p1, d1, wfH_new hH.2.2 hn⟩ s1 (hL.E (Nat.le_of_lt hn) adE_up hl)
    rw [List.map_cons, st_E (Nat.le_of_lt hn) adE_up hst] at key
    refine W.eq ?_ key
    simp [gv, ax, hn, va_up]
theorem o_newa {t x : Nat} {ty : ArrayType} {n : Int32} {N : Nat} (ht : t < 4) (hty : newarray.typeOf ty = tA t) (hw : Cond.arrayClass (tA t) ∈ TB) (hd : decode md.2.1 pc = .ok (.newarray ty, 2)) (hz : ¬ n < 0) (hN' : n.toNatClampNeg = N) (hb : N ≤ 60000000) (hn : hN h < 1000000) (hc : nc + 1 ≤ md.2.2.2.2.cells) (hsl : ns + N ≤ md.2.2.2.2.slots) (hl : okLs (hN h) ls) (hst : okSt (hN h) st)
    (kk : Rn g md (pc + 2) ls (.ref (hN h) :: st) (hNew h (.inr (t, N))) (nc + 1) (ns + N) r h2) : Rn g md pc ls (.int n :: st) h nc ns r h2 := by
  intro n0 ad0 ad A p e s m args below meth c H locs la hA hE hH hS hL
  have hcb : N * componentBytes (tA t) ≤ 536870912 := by
    match t, ht with
    | 0, _ => show N * 4 ≤ _; omega
    | 1, _ => show N * 8 ≤ _; omega
    | 2, _ => show N * 1 ≤ _; omega
    | 3, _ => show N * 1 ≤ _; omega
    | n + 4, h => exact absurd h (by omega)
  have hcell : ∀ cA : ClassId, vp_cell cA (N, if t = 1 then .inr (.inl (fun _ => 0)) else .inl (fun _ => 0)) = arrV cA N (fun _ => defaultValue (tA t)) := by
    intro cA
    match t, ht with
    | 0, _ => rfl
    | 1, _ => rfl
    | 2, _ => rfl
    | 3, _ => rfl
    | n + 4, h => exact absurd h (by omega)
  refine va_newa hA.1 hA.2.1 (ty := tA t) (N' := N) (a0 := (N, if t = 1 then .inr (.inl (fun _ => 0)) else .inl (fun _ => 0))) (by rw [hty]; exact hA.2.2.2.2.2.2.2.1 _ hw) hty hA.2.2.2.2.2.2.2.2.1.1 hH.1 hH.2.1 hS hA.2.2.2.2.2.2.2.2.2 hcell hz hN' hcb hc hsl hd ?_
  intro q cA H1 k1 p1 d1 s1
  have ec : cA = g.2.2.1 t := RA_eq (k1.2 6 (cA, tA t) rfl).2 (hA.2.2.2.2.2.2.2.2.1.1.2 t _ (tys_at _ (by omega))).2
  subst ec
  have e1 := ws_new (cA := g.2.2.1) (xt := g.2.2.2) (ad := ad) (z := .inr (t, N)) (q := q) (x := .inl (g.2.2.1 t, N, if t = 1 then .inr (.inl (fun _ => 0)) else .inl (fun _ => 0))) hH.2.2 hn (by
    rw [cE_arr (hS_new h (.inr (t, N)))]
    simp only [aC, hI_new, hL_new, if_pos ht])
  rw [e1] at p1 d1
  have key := kk n0 ad0 (va_up ad (hN h) q) A p e s m args below meth c H1 locs la hA hE.up ⟨p1, d1, wfH_new hH.2.2 hn⟩ s1 (hL.E (Nat.le_of_lt hn) adE_up hl)
  rw [List.map_cons, st_E (Nat.le_of_lt hn) adE_up hst] at key
  refine W.eq ?_ key
  simp [gv, ax, hn, va_up]
theorem o_newq {t x : Nat} {n : Int32} {N : Nat} {C : String} (ht : (t = 4 ∧ C = RX2) ∨ (t = 5 ∧ C = RX10)) (hw : Cond.classLink md.1.cls x C ∈ TB) (hd : decode md.2.1 pc = .ok (.anewarray x, 3)) (hz : ¬ n < 0) (hN' : n.toNatClampNeg = N) (hb : N ≤ 60000000) (hn : hN h < 1000000) (hc : nc + 1 ≤ md.2.2.2.2.cells) (hsl : ns + N ≤ md.2.2.2.2.slots) (hl : okLs (hN h) ls) (hst : okSt (hN h) st)
    (kk : Rn g md (pc + 3) ls (.ref (hN h) :: st) (hNew h (.inr (t, N))) (nc + 1) (ns + N) r h2) : Rn g md pc ls (.int n :: st) h nc ns r h2 := by
  intro n0 ad0 ad A p e s m args below meth c H locs la hA hE hH hS hL
  have hX := hA.2.2.2.2.2.2.2.2.1.2.2
  have hAO : va_AO C s := by
    rcases ht with ⟨-, rfl⟩ | ⟨-, rfl⟩
    · exact hX.2.2.2.2.2.1
    · exact hX.2.2.2.2.2.2.1
  have htA : tA t = .object C := by rcases ht with ⟨rfl, rfl⟩ | ⟨rfl, rfl⟩ <;> rfl
  have ht6 : t < 6 ∧ ¬ t = 1 ∧ ¬ t < 4 := by rcases ht with ⟨rfl, -⟩ | ⟨rfl, -⟩ <;> decide
  refine va_newq hA.1 hA.2.1 hA.2.2.2.2.2.1 (hA.2.2.2.2.2.2.2.1 _ hw) hAO hA.2.2.2.2.2.2.2.2.1.1 hH.1 hH.2.1 hS hA.2.2.2.2.2.2.2.2.2 hz hN' (by omega) hc hsl hd ?_
  intro q cA H1 k1 p1 d1 s1
  have ec : cA = g.2.2.1 t := RA_eq (t := t) (by rw [htA]; exact (k1.2 6 (cA, .object C) rfl).2) (hA.2.2.2.2.2.2.2.2.1.1.2 t _ (tys_at _ ht6.1)).2
  subst ec
  have e1 := ws_new (cA := g.2.2.1) (xt := g.2.2.2) (ad := ad) (z := .inr (t, N)) (q := q) (x := .inl (g.2.2.1 t, N, .inr (.inr (.inr (.inr (fun _ => none)))))) hH.2.2 hn (by
    rw [cE_arr (hS_new h (.inr (t, N)))]
    simp only [aC, hR_new, if_neg ht6.2.1, if_neg ht6.2.2]
    rfl)
  rw [e1] at p1 d1
  have key := kk n0 ad0 (va_up ad (hN h) q) A p e s m args below meth c H1 locs la hA hE.up ⟨p1, d1, wfH_new hH.2.2 hn⟩ s1 (hL.E (Nat.le_of_lt hn) adE_up hl)
  rw [List.map_cons, st_E (Nat.le_of_lt hn) adE_up hst] at key
  refine W.eq ?_ key
  simp [gv, ax, hn, va_up]
theorem o_aald {a n t : Nat} {i : Int32} {v : Value} (ht : t = 4 ∨ t = 5) (hd : decode md.2.1 pc = .ok (.aaload, 1)) (ha : a < hN h) (hs : hS h a = .inr (t, n)) (hi : vp_in i n) (hv : ∀ xt ad, va_rf ((hR h a i.toNatClampNeg).map (ax xt ad)) = gv xt ad v) (kk : Rn g md (pc + 1) ls (v :: st) h nc ns r h2) : Rn g md pc ls (.int i :: .ref a :: st) h nc ns r h2 := by
  intro n0 ad0 ad A p e s m args below meth c H locs la hA hE hH hS hL
  have key := kk n0 ad0 ad A p e s m args below meth c H locs la hA hE hH hS hL
  rw [List.map_cons, ← hv g.2.2.2 ad] at key
  rcases ht with rfl | rfl
  · exact va_aldq hA.1 hA.2.1 hA.2.2.2.2.2.2.2.2.1.1 hH.1 a 4 (ws_arr hH.2.2 ha hs) (tys_at _ (by decide)) hi hd key
  · exact va_aldq hA.1 hA.2.1 hA.2.2.2.2.2.2.2.2.1.1 hH.1 a 5 (ws_arr hH.2.2 ha hs) (tys_at _ (by decide)) hi hd key
theorem o_aaldR {a n t b : Nat} {i : Int32} (ht : t = 4 ∨ t = 5) (hd : decode md.2.1 pc = .ok (.aaload, 1)) (ha : a < hN h) (hs : hS h a = .inr (t, n)) (hi : vp_in i n) (hb : hR h a i.toNatClampNeg = some b) (kk : Rn g md (pc + 1) ls (.ref b :: st) h nc ns r h2) : Rn g md pc ls (.int i :: .ref a :: st) h nc ns r h2 :=
  o_aald ht hd ha hs hi (fun xt ad => by rw [hb]; rfl) kk
theorem o_aaldN {a n t : Nat} {i : Int32} (ht : t = 4 ∨ t = 5) (hd : decode md.2.1 pc = .ok (.aaload, 1)) (ha : a < hN h) (hs : hS h a = .inr (t, n)) (hi : vp_in i n) (hb : hR h a i.toNatClampNeg = none) (kk : Rn g md (pc + 1) ls (.null :: st) h nc ns r h2) : Rn g md pc ls (.int i :: .ref a :: st) h nc ns r h2 :=
  o_aald ht hd ha hs hi (fun xt ad => by rw [hb]; rfl) kk
theorem o_aast {a n t b ci : Nat} {i : Int32} (ht : (t = 4 ∧ ci = 2) ∨ (t = 5 ∧ ci = 9)) (hd : decode md.2.1 pc = .ok (.aastore, 1)) (ha : a < hN h) (hs : hS h a = .inr (t, n)) (hi : vp_in i n) (hb : b < hN h) (hsb : hS h b = .inl ci) (kk : Rn g md (pc + 1) ls st (sR h a i.toNatClampNeg (some b)) nc ns r h2) : Rn g md pc ls (.ref b :: .int i :: .ref a :: st) h nc ns r h2 := by
  intro n0 ad0 ad A p e s m args below meth c H locs la hA hE hH hS hL
  rcases ht with ⟨rfl, rfl⟩ | ⟨rfl, rfl⟩
  · have e1 := ws_sR (cA := g.2.2.1) (xt := g.2.2.2) (ad := ad) (j := i.toNatClampNeg) (x := b) hs (by decide) (by decide)
    rw [← ax_lt (xt := g.2.2.2) (ad := ad) hH.2.2 ha] at e1
    exact va_astq hA.1 hA.2.1 hA.2.2.2.2.2.2.2.2.1.1 hH.1 hH.2.1 hS a 4 b 2 (ws_arr hH.2.2 ha hs) (r := (cR 2, cT 2, nF 2)) (tys_at _ (by decide)) (ws_obj hH.2.2 hb hsb) (cls_at 2 (by decide)) hi hd
      (fun H1 locs1 p1 d1 s1 => kk n0 ad0 ad A p e s m args below meth c H1 locs1 la hA hE ⟨e1 ▸ p1, e1 ▸ d1, wfH_sR hH.2.2 (fun _ e => Option.some.inj e ▸ Or.inl hb)⟩ s1 hL)
  · have e1 := ws_sR (cA := g.2.2.1) (xt := g.2.2.2) (ad := ad) (j := i.toNatClampNeg) (x := b) hs (by decide) (by decide)
    rw [← ax_lt (xt := g.2.2.2) (ad := ad) hH.2.2 ha] at e1
    exact va_astq hA.1 hA.2.1 hA.2.2.2.2.2.2.2.2.1.1 hH.1 hH.2.1 hS a 5 b 9 (ws_arr hH.2.2 ha hs) (r := (cR 9, cT 9, nF 9)) (tys_at _ (by decide)) (ws_obj hH.2.2 hb hsb) (cls_at 9 (by decide)) hi hd
      (fun H1 locs1 p1 d1 s1 => kk n0 ad0 ad A p e s m args below meth c H1 locs1 la hA hE ⟨e1 ▸ p1, e1 ▸ d1, wfH_sR hH.2.2 (fun _ e => Option.some.inj e ▸ Or.inl hb)⟩ s1 hL)
/-! what lies outside -/
theorem o_tight {x : Nat} (hw : Cond.fieldLink md.1.cls x "LateAlways$Sign" "TIGHTNESS" "[I" ∈ TB) (hd : decode md.2.1 pc = .ok (.getstatic x, 3)) (kk : Rn g md (pc + 3) ls (.ref 2000000 :: st) h nc ns r h2) : Rn g md pc ls st h nc ns r h2 := by
  intro n0 ad0 ad A p e s m args below meth c H locs la hA hE hH hS hL
  exact va_gets hA.1 hA.2.1 hA.2.2.2.2.2.2.2.2.1.2.2.2.2.1 hS hA.2.2.2.2.2.1 (hA.2.2.2.2.2.2.2.1 _ hw) (fun _ h9 => h9) hd (kk n0 ad0 ad A p e s m args below meth c H locs la hA hE hH hS hL)
theorem o_tlen (hd : decode md.2.1 pc = .ok (.arraylength, 1)) (kk : Rn g md (pc + 1) ls (.int 16 :: st) h nc ns r h2) : Rn g md pc ls (.ref 2000000 :: st) h nc ns r h2 := by
  intro n0 ad0 ad A p e s m args below meth c H locs la hA hE hH hS hL
  exact va_tlen hA.1 hA.2.1 hA.2.2.2.2.2.2.2.2.1.2.2.2.2.2.1 hS rfl hd (kk n0 ad0 ad A p e s m args below meth c H locs la hA hE hH hS hL)
theorem o_tald {i : Int32} (hd : decode md.2.1 pc = .ok (.iaload, 1)) (hi : vp_in i 16) (kk : Rn g md (pc + 1) ls (.int (tgS i.toNatClampNeg) :: st) h nc ns r h2) : Rn g md pc ls (.int i :: .ref 2000000 :: st) h nc ns r h2 := by
  intro n0 ad0 ad A p e s m args below meth c H locs la hA hE hH hS hL
  exact va_ti hA.1 hA.2.1 hA.2.2.2.2.2.2.2.2.1.2.2.2.2.2.1 hS hi rfl hd (kk n0 ad0 ad A p e s m args below meth c H locs la hA hE hH hS hL)
theorem o_compact {x : Nat} (hw : Cond.fieldLink md.1.cls x "java/lang/String" "COMPACT_STRINGS" "Z" ∈ TB) (hd : decode md.2.1 pc = .ok (.getstatic x, 3)) (kk : Rn g md (pc + 3) ls (.int 1 :: st) h nc ns r h2) : Rn g md pc ls st h nc ns r h2 := by
  intro n0 ad0 ad A p e s m args below meth c H locs la hA hE hH hS hL
  exact va_gets hA.1 hA.2.1 hA.2.2.2.2.2.2.2.2.1.2.2.2.2.2.2.1 hS hA.2.2.2.2.2.1 (hA.2.2.2.2.2.2.2.1 _ hw) (fun _ h9 => h9) hd (kk n0 ad0 ad A p e s m args below meth c H locs la hA hE hH hS hL)
theorem o_fmt {x : Nat} (hw : Cond.fieldLink md.1.cls x "jdk/internal/util/Preconditions" "SIOOBE_FORMATTER" "Ljava/util/function/BiFunction;" ∈ TB) (hd : decode md.2.1 pc = .ok (.getstatic x, 3)) (k1 : Rn g md (pc + 3) ls (.null :: st) h nc ns r h2) (k2 : Rn g md (pc + 3) ls (.ref 3000000 :: st) h nc ns r h2) : Rn g md pc ls st h nc ns r h2 := by
  intro n0 ad0 ad A p e s m args below meth c H locs la hA hE hH hS hL
  rcases hA.2.2.2.2.2.2.2.2.1.2.2.2.2.2.2.2.2.2.1 with hz | hz
  · exact va_gets hA.1 hA.2.1 hz hS hA.2.2.2.2.2.1 (hA.2.2.2.2.2.2.2.1 _ hw) (fun _ h9 => h9) hd (k1 n0 ad0 ad A p e s m args below meth c H locs la hA hE hH hS hL)
  · exact va_gets hA.1 hA.2.1 hz hS hA.2.2.2.2.2.1 (hA.2.2.2.2.2.2.2.1 _ hw) (fun _ h9 => h9) hd (k2 n0 ad0 ad A p e s m args below meth c H locs la hA hE hH hS hL)
theorem ax_out {xt ad : Nat → Nat} {i : Nat} (hi : 1000000 ≤ i) : ax xt ad i = xt i := if_neg (by omega)
theorem o_coder {x k : Nat} (hk : k < txN) (hw : Cond.fieldLink md.1.cls x "java/lang/String" "coder" "B" ∈ TB) (hd : decode md.2.1 pc = .ok (.getfield x, 3)) (kk : Rn g md (pc + 3) ls (.int 0 :: st) h nc ns r h2) : Rn g md pc ls (.ref (1000000 + k) :: st) h nc ns r h2 := by
  intro n0 ad0 ad A p e s m args below meth c H locs la hA hE hH hS hL
  refine W.eq (g2 := F0 m pc la (.ref (g.2.2.2 (1000000 + k)) :: st.map (gv g.2.2.2 ad))) (by rw [List.map_cons, gv, ax_out (by omega)]) ?_
  exact vk_getf hA.1 hA.2.1 (hA.2.2.2.2.2.2.2.2.1.2.2.1 k hk).2.1 hS hA.2.2.2.2.2.1 (hA.2.2.2.2.2.2.2.1 _ hw) (fun _ h9 => h9) hd (kk n0 ad0 ad A p e s m args below meth c H locs la hA hE hH hS hL)
theorem o_bytes {x k : Nat} (hk : k < txN) (hw : Cond.fieldLink md.1.cls x "java/lang/String" "value" "[B" ∈ TB) (hd : decode md.2.1 pc = .ok (.getfield x, 3)) (kk : Rn g md (pc + 3) ls (.ref (1100000 + k) :: st) h nc ns r h2) : Rn g md pc ls (.ref (1000000 + k) :: st) h nc ns r h2 := by
  intro n0 ad0 ad A p e s m args below meth c H locs la hA hE hH hS hL
  have key := kk n0 ad0 ad A p e s m args below meth c H locs la hA hE hH hS hL
  rw [List.map_cons, gv, ax_out (by omega)] at key
  refine W.eq (g2 := F0 m pc la (.ref (g.2.2.2 (1000000 + k)) :: st.map (gv g.2.2.2 ad))) (by rw [List.map_cons, gv, ax_out (by omega)]) ?_
  exact vk_getf hA.1 hA.2.1 (hA.2.2.2.2.2.2.2.2.1.2.2.1 k hk).2.2.1 hS hA.2.2.2.2.2.1 (hA.2.2.2.2.2.2.2.1 _ hw) (fun _ h9 => h9) hd key
theorem o_blen {k : Nat} (hk : k < txN) (hd : decode md.2.1 pc = .ok (.arraylength, 1)) (kk : Rn g md (pc + 1) ls (.int (Int32.ofNat (txB k).length) :: st) h nc ns r h2) : Rn g md pc ls (.ref (1100000 + k) :: st) h nc ns r h2 := by
  intro n0 ad0 ad A p e s m args below meth c H locs la hA hE hH hS hL
  refine W.eq (g2 := F0 m pc la (.ref (g.2.2.2 (1100000 + k)) :: st.map (gv g.2.2.2 ad))) (by rw [List.map_cons, gv, ax_out (by omega)]) ?_
  exact va_tlen hA.1 hA.2.1 (hA.2.2.2.2.2.2.2.2.1.2.2.1 k hk).2.2.2 hS rfl hd (kk n0 ad0 ad A p e s m args below meth c H locs la hA hE hH hS hL)
theorem o_btald {k : Nat} {i : Int32} (hk : k < txN) (hi : vp_in i (txB k).length) (hd : decode md.2.1 pc = .ok (.baload, 1)) (kk : Rn g md (pc + 1) ls (.int ((txB k).getD i.toNatClampNeg 0) :: st) h nc ns r h2) : Rn g md pc ls (.int i :: .ref (1100000 + k) :: st) h nc ns r h2 := by
  intro n0 ad0 ad A p e s m args below meth c H locs la hA hE hH hS hL
  refine W.eq (g2 := F0 m pc la (.int i :: .ref (g.2.2.2 (1100000 + k)) :: st.map (gv g.2.2.2 ad))) (by simp [gv, ax_out (show 1000000 ≤ 1100000 + k by omega)]) ?_
  exact va_tb hA.1 hA.2.1 (hA.2.2.2.2.2.2.2.2.1.2.2.1 k hk).2.2.2 hS hi rfl hd (kk n0 ad0 ad A p e s m args below meth c H locs la hA hE hH hS hL)
/-! returns -/
theorem o_ireturn {v : Int32} (hd : decode md.2.1 pc = .ok (.ireturn, 1)) (hr : md.2.2.2.1 = some .int) (hc : nc ≤ md.2.2.2.2.cells) (hs : ns ≤ md.2.2.2.2.slots) : Rn g md pc ls [.int v] h nc ns (some (.int v)) h := by
  intro n0 ad0 ad A p e s m args below meth c H locs la hA hE hH hS hL
  refine W.widen hc hs ?_
  exact W.iret hA.1 hA.2.1 (hA.2.2.2.1.trans hr) (fun t ht hW => ⟨⟨ad, rfl, hE, by rw [ht]; exact hH⟩, hS.F ht⟩) hS.2.2 hd hA.2.2.2.2.1
theorem o_zreturn {v : Int32} {ty : FieldType} (hd : decode md.2.1 pc = .ok (.ireturn, 1)) (hr : md.2.2.2.1 = some ty) (hn : narrow ty (.int v) = .int v) (hc : nc ≤ md.2.2.2.2.cells) (hs : ns ≤ md.2.2.2.2.slots) : Rn g md pc ls [.int v] h nc ns (some (.int v)) h := by
  intro n0 ad0 ad A p e s m args below meth c H locs la hA hE hH hS hL
  refine W.widen hc hs ?_
  exact W.zret hA.1 hA.2.1 (hA.2.2.2.1.trans hr) hn (fun t ht hW => ⟨⟨ad, rfl, hE, by rw [ht]; exact hH⟩, hS.F ht⟩) hS.2.2 hd hA.2.2.2.2.1
theorem o_lreturn {v : Int64} (hd : decode md.2.1 pc = .ok (.lreturn, 1)) (hr : md.2.2.2.1 = some .long) (hc : nc ≤ md.2.2.2.2.cells) (hs : ns ≤ md.2.2.2.2.slots) : Rn g md pc ls [.long v] h nc ns (some (.long v)) h := by
  intro n0 ad0 ad A p e s m args below meth c H locs la hA hE hH hS hL
  refine W.widen hc hs ?_
  exact W.lret hA.1 hA.2.1 (hA.2.2.2.1.trans hr) (fun t ht hW => ⟨⟨ad, rfl, hE, by rw [ht]; exact hH⟩, hS.F ht⟩) hS.2.2 hd hA.2.2.2.2.1
theorem o_areturn {v : Value} {rt : FieldType} (hd : decode md.2.1 pc = .ok (.areturn, 1)) (hr : md.2.2.2.1 = some rt) (hrt : (∃ n, rt = .object n) ∨ ∃ t, rt = .array t) (hv : v = .null ∨ ∃ a, v = .ref a) (hc : nc ≤ md.2.2.2.2.cells) (hs : ns ≤ md.2.2.2.2.slots) : Rn g md pc ls [v] h nc ns (some v) h := by
  intro n0 ad0 ad A p e s m args below meth c H locs la hA hE hH hS hL
  refine W.widen hc hs ?_
  exact W.aret hA.1 hA.2.1 (hA.2.2.2.1.trans hr) hrt (by rcases hv with rfl | ⟨a, rfl⟩; exact Or.inl rfl; exact Or.inr ⟨_, rfl⟩) (fun t ht hW => ⟨⟨ad, rfl, hE, by rw [ht]; exact hH⟩, hS.F ht⟩) hS.2.2 hd hA.2.2.2.2.1
theorem o_return (hd : decode md.2.1 pc = .ok (.return_, 1)) (hr : md.2.2.2.1 = none) (hc : nc ≤ md.2.2.2.2.cells) (hs : ns ≤ md.2.2.2.2.slots) : Rn g md pc ls [] h nc ns none h := by
  intro n0 ad0 ad A p e s m args below meth c H locs la hA hE hH hS hL
  refine W.widen hc hs ?_
  exact W.vret hA.1 hA.2.1 (hA.2.2.2.1.trans hr) (fun t ht hW => ⟨⟨ad, rfl, hE, by rw [ht]; exact hH⟩, hS.F ht⟩) hS.2.2 hd hA.2.2.2.2.1
end OC
