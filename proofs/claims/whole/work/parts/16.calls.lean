/-! RULES OF CALLS -/
section CB
variable {p : Program} {l : Launch} {e : Env} {R : Room} {s : State} {m : MethodId} {args : Array Value} {below : List Frame} {meth : Method} {c : Code} {H : Heap} {locs : List Loc} {cells slots : Nat} {Q : State → Prop}
theorem q_callB {g : GX} {A : Nat → Prop} {md md2 : MD} {x n nc ns : Nat} (hA : Amb g md A p s m args meth c) (hb : siteB md.1.cls x md2 n) (hf : fitR md md2 nc ns) : CallB md.2.2.2.2 s args md.1.cls x md2.1 md2.2.1 md2.2.2.1 md2.2.2.2.1 [.code md2.1 md2.2.1 md2.2.2.1 md2.2.2.2.1] md2.2.2.2.2 md2.2.2.2.2.cells md2.2.2.2.2.slots n := by
  have hts := hA.2.2.2.2.2.2.2.1
  refine ⟨rfl, rfl, hf.1, hf.2.1, fun w hw a' U hW => ?_, List.mem_cons_self, hts _ hb.2.1, hts _ hb.2.2.1, ⟨hb.2.2.2.1, hb.2.2.2.2.1⟩, fun sig h => ?_, hts _ hb.1⟩
  · rw [List.mem_singleton.mp hw]
    exact TB_warm hW hA.2.2.2.2.2.2.2.2.1.2.1 a' _ hb.2.1
  · have h2 := hb.2.2.2.2.2
    rw [h] at h2
    exact (Option.some.inj h2).symm
theorem q_sub {g : GX} {A : Nat → Prop} {md : MD} {ad : Nat → Nat} {h : PH} (hA : Amb g md A p s m args meth c) (hH : HRel g.2.1 g.2.2.1 g.2.2.2 A ad h H) (hS : va_S A s.heap H locs) : ∀ q, va_A (wsO g.2.2.1 g.2.2.2 ad h) H.size q → A q := by
  rintro q (⟨k, e, hk⟩ | hq)
  · exact hH.2.1.2 k (q, e) hk
  · exact hA.2.2.2.2.2.2.2.2.2 q (Nat.le_trans hS.1 hq)
theorem q_pre {g : GX} {A : Nat → Prop} {md : MD} {ad : Nat → Nat} {h : PH} {vs : List Value} (hA : Amb g md A p s m args meth c) (hH : HRel g.2.1 g.2.2.1 g.2.2.2 A ad h H) (hS : va_S A s.heap H locs) : PreS s H (va_Pc (vs.map (gv g.2.2.2 ad)) (fun U => U.heap.size = H.size ∧ HRel g.2.1 g.2.2.1 g.2.2.2 (fun _ => True) ad h U.heap ∧ Kx g (va_A (wsO g.2.2.1 g.2.2.2 ad h) H.size) U)) (vs.map (gv g.2.2.2 ad)) := by
  refine ⟨fun a U gf mk hq => ?_, fun U hU hW => ⟨rfl, by rw [hU], ?_, ?_⟩⟩
  · obtain ⟨q0, q1, q2, q3⟩ := hq
    exact ⟨q0, q1, q2, q3.go (U := U.calling gf mk a) (State.WarmedH.refl U) (fun _ _ _ => rfl) (fun _ z => z)⟩
  · rw [hU]
    exact ⟨hH.1, hH.2.1.weaken (fun _ _ _ _ => trivial), hH.2.2⟩
  · refine hA.2.2.2.2.2.2.2.2.1.go hW (fun a h1 h2 => ?_) (q_sub hA hH hS)
    rw [hU]
    exact hS.2.1 a h1 h2
theorem q_go {g : GX} {A A1 : Nat → Prop} {n1 : Nat} {ad : Nat → Nat} {rv : Option Value} {h1 : PH} {a : Array Value} {pc mc ms : Nat} {la : Array Slot} {st0 rest : List Value} {free : Addr → Prop} (hr : va_Run p l e R s m args below meth c H locs cells slots mc ms (F0 m pc la st0) rest (Qm g A1 n1 ad rv h1 a) free) (hS : va_S A s.heap H locs) (hA : ∀ q, A1 q → A q) (hf : ∀ q, free q → A q)
    (kk : ∀ (ad2 : Nat → Nat) (H1 : Heap) (locs1 : List Loc), Ee n1 ad (hN h1) ad2 → HRel g.2.1 g.2.2.1 g.2.2.2 A ad2 h1 H1 → va_S A s.heap H1 locs1 → W p l e R s m args below meth c H1 locs1 (cells + mc) (slots + ms) Q (F0 m (pc + 3) la ((rv.map (gv g.2.2.2 ad2)).toList ++ rest))) : W p l e R s m args below meth c H locs cells slots Q (F0 m pc la st0) := by
  intro T hT X
  obtain ⟨v, st₀, t, T', L, h0, X', hL, e1, e2, ⟨⟨ad2, hv, he, hh⟩, hz, hk⟩, st⟩ := hr T hT X
  cases hv
  rw [h0] at hz hk
  obtain ⟨t2, a1, b1⟩ := kk ad2 T'.heap (locs ++ L) he (by rw [e1]; exact ⟨hh.1, hh.2.1.weaken (fun _ q _ z => hA _ z), hh.2.2⟩)
    ⟨Nat.le_trans hS.1 (by rw [e1]; exact hz), fun q h1 h2 => by rw [e1, hk q (Nat.lt_of_lt_of_le h1 hS.1) (fun z => h2 (hA q z))]; exact hS.2.1 q h1 h2, fun q hq => by
      rcases List.mem_append.mp hq with h | h
      · exact hS.2.2 q h
      · exact hf _ (hL q h)⟩ T' rfl X'
  exact ⟨t2, st t2 a1, b1⟩
end CB
section OK
variable {g : GX} {md md2 : MD} {pc : Nat} {ls : List (Option Value)} {st vs : List Value} {h h1 : PH} {nc ns : Nat} {rv r : Option Value} {h2 : PH}
theorem map_rev {α β : Type} (f : α → β) (as bs : List α) : (as.reverse ++ bs).map f = (as.map f).reverse ++ bs.map f := by rw [List.map_append, List.map_reverse]
theorem cat_sum (xt ad : Nat → Nat) (st : List Value) : ((st.map (gv xt ad)).map fun v => v.category).sum = (st.map fun v => v.category).sum := by
  rw [List.map_map]
  congr 1
  apply List.map_congr_left
  intro v _
  exact gv_cat xt ad v
/-- behind a call: the locals and the stack as they were -/
def sameL (h h1 : PH) (ls : List (Option Value)) (st : List Value) : Prop := hN h1 = hN h ∨ (okLs (hN h) ls ∧ okSt (hN h) st)
theorem q_back {p : Program} {e : Env} {s : State} {m : MethodId} {args : Array Value} {below : List Frame} {meth : Method} {c : Code} {A : Nat → Prop} {n0 : Nat} {ad0 ad : Nat → Nat} {H : Heap} {la : Array Slot} (hsame : sameL h h1 ls st)
    (hA : Amb g md A p s m args meth c) (hE : Ee n0 ad0 (hN h) ad) (hH : HRel g.2.1 g.2.2.1 g.2.2.2 A ad h H) (hL : LRel g.2.2.2 ad md.2.2.1 ls la)
    (kk : Rn g md (pc + 3) ls (rv.toList ++ st) h1 (nc + md2.2.2.2.2.cells) (ns + md2.2.2.2.2.slots) r h2) :
    ∀ (ad2 : Nat → Nat) (H1 : Heap) (locs1 : List Loc), Ee (hN h) ad (hN h1) ad2 → HRel g.2.1 g.2.2.1 g.2.2.2 A ad2 h1 H1 → va_S A s.heap H1 locs1 → W p g.1 e md.2.2.2.2 s m args below meth c H1 locs1 (nc + md2.2.2.2.2.cells) (ns + md2.2.2.2.2.slots) (MQ below (Qm g A n0 ad0 r h2) args s md.2.2.2.2.cells md.2.2.2.2.slots A) (F0 m (pc + 3) la ((rv.map (gv g.2.2.2 ad2)).toList ++ st.map (gv g.2.2.2 ad))) := by
  intro ad2 H1 locs1 he hh hs
  have e2 : LRel g.2.2.2 ad2 md.2.2.1 ls la ∧ st.map (gv g.2.2.2 ad2) = st.map (gv g.2.2.2 ad) := by
    rcases hsame with e | ⟨e1, e2⟩
    · rw [he.2.2 e]; exact ⟨hL, rfl⟩
    · exact ⟨hL.E hH.2.2.1 he.2.1 e1, st_E hH.2.2.1 he.2.1 e2⟩
  have key := kk n0 ad0 ad2 A p e s m args below meth c H1 locs1 la hA (hE.tr he) hh hs e2.1
  rw [List.map_append, e2.2] at key
  refine W.eq ?_ key
  cases rv <;> rfl
theorem o_callV {b ci x : Nat} (hd : decode md.2.1 pc = .ok (.invokevirtual x, 3)) (hC : Cn g md2 (.ref b :: vs) h rv h1) (hci : ci < 12) (hs : hS h b = .inl ci) (hb : b < hN h) (hw : siteV md.1.cls x (cR ci) md2 vs.length) (hf : fitR md md2 nc ns) (hst : (st.map fun v => v.category).sum ≤ 8) (hsame : sameL h h1 ls st)
    (kk : Rn g md (pc + 3) ls (rv.toList ++ st) h1 (nc + md2.2.2.2.2.cells) (ns + md2.2.2.2.2.slots) r h2) : Rn g md pc ls (vs.reverse ++ .ref b :: st) h nc ns r h2 := by
  intro n0 ad0 ad A p e s m args below meth c H locs la hA hE hH hS hL
  have hpre := q_pre (vs := .ref b :: vs) hA hH hS
  have hts := hA.2.2.2.2.2.2.2.1
  rw [map_rev, List.map_cons]
  refine q_go (va_runV (As := vs.map (gv g.2.2.2 ad)) (rest := st.map (gv g.2.2.2 ad)) (n := vs.length) (nL := md.2.2.1) (Ts := TB) ⟨hA.1, hA.2.1, hA.2.2.1, hA.2.2.2.2.2.1, hts⟩ (hC ad H.size) ⟨q_callB hA hw.1 hf, hts _ hw.2.1, hts _ hw.2.2⟩
    ⟨hpre.1, va_recv hA.2.2.2.2.2.2.2.2.1.1 hH.1 (cls_at ci hci) (ws_obj hH.2.2 hb hs), hpre.2⟩ rfl (List.length_map ..) hL.1 rfl (by rw [cat_sum]; simpa using hst) hd ⟨hf.2.2.1, hf.2.2.2⟩) hS (q_sub hA hH hS) (q_sub hA hH hS) (q_back hsame hA hE hH hL kk)
theorem o_callS {x : Nat} (hd : decode md.2.1 pc = .ok (.invokestatic x, 3)) (hC : Cn g md2 vs h rv h1) (hw : siteS md.1.cls x md2 vs.length) (hf : fitR md md2 nc ns) (hst : (st.map fun v => v.category).sum ≤ 8) (hsame : sameL h h1 ls st)
    (kk : Rn g md (pc + 3) ls (rv.toList ++ st) h1 (nc + md2.2.2.2.2.cells) (ns + md2.2.2.2.2.slots) r h2) : Rn g md pc ls (vs.reverse ++ st) h nc ns r h2 := by
  intro n0 ad0 ad A p e s m args below meth c H locs la hA hE hH hS hL
  have hpre := q_pre (vs := vs) hA hH hS
  have hts := hA.2.2.2.2.2.2.2.1
  rw [map_rev]
  refine q_go (va_runS (As := vs.map (gv g.2.2.2 ad)) (rest := st.map (gv g.2.2.2 ad)) (n := vs.length) (nL := md.2.2.1) (Ts := TB) ⟨hA.1, hA.2.1, hA.2.2.1, hA.2.2.2.2.2.1, hts⟩ (hC ad H.size) ⟨q_callB hA hw.1 hf, hts _ hw.2⟩
    hpre rfl (List.length_map ..) hL.1 rfl (by rw [cat_sum]; simpa using hst) hd ⟨hf.2.2.1, hf.2.2.2⟩) hS (q_sub hA hH hS) (q_sub hA hH hS) (q_back hsame hA hE hH hL kk)
theorem o_callI {b x : Nat} (hd : decode md.2.1 pc = .ok (.invokespecial x, 3)) (hC : Cn g md2 (.ref b :: vs) h rv h1) (hw : siteI md.1.cls x md2 vs.length) (hf : fitR md md2 nc ns) (hst : (st.map fun v => v.category).sum ≤ 8) (hsame : sameL h h1 ls st)
    (kk : Rn g md (pc + 3) ls (rv.toList ++ st) h1 (nc + md2.2.2.2.2.cells) (ns + md2.2.2.2.2.slots) r h2) : Rn g md pc ls (vs.reverse ++ .ref b :: st) h nc ns r h2 := by
  intro n0 ad0 ad A p e s m args below meth c H locs la hA hE hH hS hL
  have hpre := q_pre (vs := .ref b :: vs) hA hH hS
  have hts := hA.2.2.2.2.2.2.2.1
  have hcb := q_callB hA hw.1 hf
  rw [hw.2.2.1] at hcb
  rw [map_rev, List.map_cons]
  refine q_go (va_runI (As := vs.map (gv g.2.2.2 ad)) (rest := st.map (gv g.2.2.2 ad)) (n := vs.length) (nL := md.2.2.1) (Ts := TB) ⟨hA.1, hA.2.1, hA.2.2.1, hA.2.2.2.2.2.1, hts⟩ (by have := hC ad H.size; rw [hw.2.2.1] at this; exact this) ⟨hcb, hw.2.1, hts _ hw.2.2.2⟩
    hpre rfl (List.length_map ..) hL.1 rfl (by rw [cat_sum]; simpa using hst) hd ⟨hf.2.2.1, hf.2.2.2⟩) hS (q_sub hA hH hS) (q_sub hA hH hS) (q_back hsame hA hE hH hL kk)
/-- a call of a text's method -/
theorem o_callT {k x : Nat} (hd : decode md.2.1 pc = .ok (.invokevirtual x, 3)) (hC : Cn g md2 (.ref (1000000 + k) :: vs) h rv h1) (hk : k < txN) (hw : siteV md.1.cls x "java/lang/String" md2 vs.length) (hf : fitR md md2 nc ns) (hst : (st.map fun v => v.category).sum ≤ 8) (hsame : sameL h h1 ls st)
    (kk : Rn g md (pc + 3) ls (rv.toList ++ st) h1 (nc + md2.2.2.2.2.cells) (ns + md2.2.2.2.2.slots) r h2) : Rn g md pc ls (vs.reverse ++ .ref (1000000 + k) :: st) h nc ns r h2 := by
  intro n0 ad0 ad A p e s m args below meth c H locs la hA hE hH hS hL
  have hpre := q_pre (vs := .ref (1000000 + k) :: vs) hA hH hS
  have hts := hA.2.2.2.2.2.2.2.1
  have hO := (hA.2.2.2.2.2.2.2.2.1.2.2.1 k hk).1
  have hrec : ∃ cell : Cell, H[ax g.2.2.2 ad (1000000 + k)]? = some cell ∧ cell.vm.isStatics = false ∧ s.vm.findClass "java/lang/String" = some cell.cls := by
    rw [ax_out (by omega)]
    obtain ⟨cell, q1, q2, q3, q4⟩ := hO
    exact ⟨cell, by rw [hS.2.1 _ (Array.getElem?_eq_some_iff.mp q1).1 q4]; exact q1, q2, q3⟩
  rw [map_rev, List.map_cons]
  refine q_go (va_runV (As := vs.map (gv g.2.2.2 ad)) (rest := st.map (gv g.2.2.2 ad)) (n := vs.length) (nL := md.2.2.1) (Ts := TB) ⟨hA.1, hA.2.1, hA.2.2.1, hA.2.2.2.2.2.1, hts⟩ (hC ad H.size) ⟨q_callB hA hw.1 hf, hts _ hw.2.1, hts _ hw.2.2⟩
    ⟨hpre.1, hrec, hpre.2⟩ rfl (List.length_map ..) hL.1 rfl (by rw [cat_sum]; simpa using hst) hd ⟨hf.2.2.1, hf.2.2.2⟩) hS (q_sub hA hH hS) (q_sub hA hH hS) (q_back hsame hA hE hH hL kk)
end OK
