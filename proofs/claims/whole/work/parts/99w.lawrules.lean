/-! THE LAW: two worlds beside each other -/
def R_law : String := "LateAlwaysLaw"
def lw_P (b : Addr) (xs : List Int32) (args : Array Value) (s : State) : Prop := args = #[.ref b] ∧ s.IntsAt b xs ∧ xs.length ≤ 3072 ∧ (Jvm.Cond.and given_1 narrow_1).before args s = true
def lw_Q (_ : Array Value) (s : State) (o : Outcome) (t : State) : Prop := o = .returned (some (.int 1)) ∧ Framed s o t [] 600000 7302250
def lw_Z (below : List Frame) (a : Array Value) (s : State) : State → Prop := fun t => ∃ o, t.status = .running ∧ Ended t below o ∧ lw_Q a s o t
/-- what holds at the law's entry -/
def lw_At (p : Program) (s : State) (m : MethodId) (meth : Method) (c : Code) (b L : Nat) (xs : Nat → Int32) : Prop :=
  p.tables.exec = Jvm.exec ∧ c.code = code ∧ meth.sig.returnType = ret ∧ c.maxLocals = 4 ∧ s.vm.findClass R_law = some m.cls ∧ (∀ w ∈ lw_tbl, w.before #[Value.ref b] s = true) ∧ va_X b L xs s s.heap ∧ b < s.heap.size ∧ meth.locks = false ∧ (Jvm.Cond.and given_1 narrow_1).before #[Value.ref b] s = true
theorem TB_of {s : State} {a : Array Value} (h : ∀ w ∈ lw_tbl, w.before a s = true) : ∀ w ∈ TB, w.before a s = true := fun w hw => h w (List.mem_filter.mp hw).1
theorem TB_nil {s : State} {a : Array Value} (h : ∀ w ∈ TB, w.before a s = true) : ∀ w ∈ TB, w.before #[] s = true := by
  intro w hw
  have hk := (List.mem_filter.mp hw).2
  have hb := h w hw
  cases w <;> first
    | exact hb
    | exact word_at (State.WarmedH.refl s) (good_of_word hk) hb
/-- the worlds of two pure heaps, apart -/
def TwoH (g : GX) (A : Nat → Prop) (a1 a2 : Nat → Nat) (h1 h2 : PH) (H : Heap) : Prop :=
  HRel g.2.1 g.2.2.1 g.2.2.2 A a1 h1 H ∧ HRel g.2.1 g.2.2.1 g.2.2.2 A a2 h2 H ∧ ∀ i j, i < hN h1 → j < hN h2 → a1 i ≠ a2 j
theorem TwoH.sym {g : GX} {A : Nat → Prop} {a1 a2 : Nat → Nat} {h1 h2 : PH} {H : Heap} (h : TwoH g A a1 a2 h1 h2 H) : TwoH g A a2 a1 h2 h1 H := ⟨h.2.1, h.1, fun i j hi hj e => h.2.2 j i hj hi e.symm⟩
theorem ws_inv {cA : Nat → ClassId} {xt ad : Nat → Nat} {h : PH} {k : Nat} {q : Nat × va_E} (e : (wsO cA xt ad h)[k]? = some q) : k < hN h ∧ q.1 = ad k := by
  have hk : k < hN h := by
    have := (List.getElem?_eq_some_iff.mp e).1
    rw [wsO_len] at this
    exact this
  rw [wsO_at hk] at e
  cases e
  exact ⟨hk, rfl⟩
theorem two_out {g : GX} {A : Nat → Prop} {a1 a2 : Nat → Nat} {h1 h2 : PH} {H : Heap} (h : TwoH g A a1 a2 h1 h2 H) {j : Nat} (hj : j < hN h2) : a2 j < H.size ∧ ¬ va_A (wsO g.2.2.1 g.2.2.2 a1 h1) H.size (a2 j) := by
  have hl : a2 j < H.size := (h.2.1.1 j _ (wsO_at hj)).lt
  refine ⟨hl, fun z => ?_⟩
  rcases z with ⟨k, e, hk⟩ | z
  · obtain ⟨q1, q2⟩ := ws_inv hk
    exact h.2.2 k j q1 hj q2.symm
  · omega
section LB
variable {p : Program} {e : Env} {s : State} {m : MethodId} {below : List Frame} {meth : Method} {c : Code} {H : Heap} {locs : List Loc} {nc ns : Nat} {Q : State → Prop} {b L : Nat} {xs : Nat → Int32} {g : GX} {a1 a2 : Nat → Nat} {h1 h2 h1' : PH}
/-- the law's own kind of cell -/
def lA (s : State) (q : Nat) : Prop := s.heap.size ≤ q
def LX (g : GX) (p : Program) (s : State) (m : MethodId) (meth : Method) (c : Code) (b L : Nat) (xs : Nat → Int32) : Prop := lw_At p s m meth c b L xs ∧ Kx g (lA s) s
theorem l_go {n1 : Nat} {rv : Option Value} {a : Array Value} {pc mc ms : Nat} {la : Array Slot} {st0 rest : List Value} (hT2 : TwoH g (lA s) a1 a2 h1 h2 H) (hn : n1 = hN h1)
    (hr : va_Run p g.1 e room_1 s m #[Value.ref b] below meth c H locs nc ns mc ms (F0 m pc la st0) rest (Qm g (va_A (wsO g.2.2.1 g.2.2.2 a1 h1) H.size) n1 a1 rv h1' a) (va_A (wsO g.2.2.1 g.2.2.2 a1 h1) H.size)) (hS : va_S (lA s) s.heap H locs)
    (kk : ∀ (a1' : Nat → Nat) (H1 : Heap) (locs1 : List Loc), Ee (hN h1) a1 (hN h1') a1' → TwoH g (lA s) a1' a2 h1' h2 H1 → va_S (lA s) s.heap H1 locs1 → W p g.1 e room_1 s m #[Value.ref b] below meth c H1 locs1 (nc + mc) (ns + ms) Q (F0 m (pc + 3) la ((rv.map (gv g.2.2.2 a1')).toList ++ rest))) : W p g.1 e room_1 s m #[Value.ref b] below meth c H locs nc ns Q (F0 m pc la st0) := by
  subst hn
  have hsub : ∀ q, va_A (wsO g.2.2.1 g.2.2.2 a1 h1) H.size q → lA s q := by
    rintro q (⟨k, x, hk⟩ | hq)
    · exact hT2.1.2.1.2 k (q, x) hk
    · exact Nat.le_trans hS.1 hq
  intro T hT X
  obtain ⟨v, st₀, t, T', Lc, h0, X', hL, e1, e2, ⟨⟨ad2, hv, he, hh⟩, hz, hk⟩, st⟩ := hr T hT X
  cases hv
  rw [h0] at hz hk
  obtain ⟨t2, q1, q2⟩ := kk ad2 T'.heap (locs ++ Lc) he
    ⟨by rw [e1]; exact ⟨hh.1, hh.2.1.weaken (fun _ q _ z => hsub _ z), hh.2.2⟩,
     ⟨hT2.2.1.1.kept (fun k q hkq => by
        obtain ⟨w1, w2⟩ := ws_inv hkq
        obtain ⟨w3, w4⟩ := two_out hT2 w1
        rw [e1, w2]
        exact hk _ w3 w4), hT2.2.1.2.1, hT2.2.1.2.2⟩,
     fun i j hi hj ee => (two_out hT2 hj).2 (by
        have := hh.2.1.2 i _ (wsO_at hi)
        rw [← ee]
        exact this)⟩
    ⟨Nat.le_trans hS.1 (by rw [e1]; exact hz), fun q w1 w2 => by rw [e1, hk q (Nat.lt_of_lt_of_le w1 hS.1) (fun z => w2 (hsub q z))]; exact hS.2.1 q w1 w2, fun q hq => by
      rcases List.mem_append.mp hq with h | h
      · exact hS.2.2 q h
      · exact hsub _ (hL q h)⟩ T' rfl X'
  exact ⟨t2, st t2 q1, q2⟩
theorem l_callB {md2 : MD} {x n : Nat} (hX : LX g p s m meth c b L xs) (hb : siteB R_law x md2 n) (hf : md2.2.2.2.2.frames + 1 ≤ 16 ∧ 8 + (md2.2.2.1 + 11) + md2.2.2.2.2.locals ≤ 612) : CallB room_1 s #[Value.ref b] R_law x md2.1 md2.2.1 md2.2.2.1 md2.2.2.2.1 [.code md2.1 md2.2.1 md2.2.2.1 md2.2.2.2.1] md2.2.2.2.2 md2.2.2.2.2.cells md2.2.2.2.2.slots n := by
  have hts := TB_of hX.1.2.2.2.2.2.1
  refine ⟨rfl, rfl, hf.1, hf.2, fun w hw a' U hW => ?_, List.mem_cons_self, hts _ hb.2.1, hts _ hb.2.2.1, ⟨hb.2.2.2.1, hb.2.2.2.2.1⟩, fun sig h => ?_, hts _ hb.1⟩
  · rw [List.mem_singleton.mp hw]
    exact TB_warm hW hX.2.2.1 a' _ hb.2.1
  · have h2 := hb.2.2.2.2.2
    rw [h] at h2
    exact (Option.some.inj h2).symm
theorem l_pre {vs : List Value} (hX : LX g p s m meth c b L xs) (hH : HRel g.2.1 g.2.2.1 g.2.2.2 (lA s) a1 h1 H) (hS : va_S (lA s) s.heap H locs) : PreS s H (va_Pc (vs.map (gv g.2.2.2 a1)) (fun U => U.heap.size = H.size ∧ HRel g.2.1 g.2.2.1 g.2.2.2 (fun _ => True) a1 h1 U.heap ∧ Kx g (va_A (wsO g.2.2.1 g.2.2.2 a1 h1) H.size) U)) (vs.map (gv g.2.2.2 a1)) := by
  refine ⟨fun a U gf mk hq => ?_, fun U hU hW => ⟨rfl, by rw [hU], ?_, ?_⟩⟩
  · obtain ⟨q0, q1, q2, q3⟩ := hq
    exact ⟨q0, q1, q2, q3.go (U := U.calling gf mk a) (State.WarmedH.refl U) (fun _ _ _ => rfl) (fun _ z => z)⟩
  · rw [hU]
    exact ⟨hH.1, hH.2.1.weaken (fun _ _ _ _ => trivial), hH.2.2⟩
  · refine hX.2.go hW (fun a h1 h2 => ?_) ?_
    · rw [hU]
      exact hS.2.1 a h1 h2
    · rintro q (⟨k, x, hk⟩ | hq)
      · exact hH.2.1.2 k (q, x) hk
      · exact Nat.le_trans hS.1 hq
/-- a call of the object 0 of the first world -/
theorem l_callV {md2 : MD} {ci x pc : Nat} {vs rest : List Value} {rv : Option Value} {la : Array Slot} (hX : LX g p s m meth c b L xs) (hT2 : TwoH g (lA s) a1 a2 h1 h2 H) (hSv : va_S (lA s) s.heap H locs) (hl : la.size = 4) (hd : decode code pc = .ok (.invokevirtual x, 3)) (hC : Cn g md2 (.ref 0 :: vs) h1 rv h1') (hci : ci < 12) (hs : hS h1 0 = .inl ci) (h0 : 0 < hN h1) (hv : vs.map (gv g.2.2.2 a1) = vs) (hw : siteV R_law x (cR ci) md2 vs.length) (hf : md2.2.2.2.2.frames + 1 ≤ 16 ∧ 8 + (md2.2.2.1 + 11) + md2.2.2.2.2.locals ≤ 612) (hrm : nc + md2.2.2.2.2.cells ≤ 600000 ∧ ns + md2.2.2.2.2.slots ≤ 7302250) (hst : (rest.map fun v => v.category).sum ≤ 8)
    (kk : ∀ (a1' : Nat → Nat) (H1 : Heap) (locs1 : List Loc), Ee (hN h1) a1 (hN h1') a1' → TwoH g (lA s) a1' a2 h1' h2 H1 → va_S (lA s) s.heap H1 locs1 → W p g.1 e room_1 s m #[Value.ref b] below meth c H1 locs1 (nc + md2.2.2.2.2.cells) (ns + md2.2.2.2.2.slots) Q (F0 m (pc + 3) la ((rv.map (gv g.2.2.2 a1')).toList ++ rest))) : W p g.1 e room_1 s m #[Value.ref b] below meth c H locs nc ns Q (F0 m pc la (vs.reverse ++ .ref (a1 0) :: rest)) := by
  have hpre := l_pre (vs := .ref 0 :: vs) hX hT2.1 hSv
  have hts := TB_of hX.1.2.2.2.2.2.1
  have e0 : ax g.2.2.2 a1 0 = a1 0 := ax_lt hT2.1.2.2 h0
  rw [List.map_cons, hv] at hpre
  have hpre : PreS s H _ (.ref (ax g.2.2.2 a1 0) :: vs) := hpre
  have hM := hC a1 H.size
  rw [List.map_cons, hv] at hM
  rw [e0] at hpre
  have eg : gv g.2.2.2 a1 (.ref 0) = .ref (a1 0) := by show Value.ref (ax g.2.2.2 a1 0) = _; rw [e0]
  rw [eg] at hM hpre
  refine l_go hT2 rfl (va_runV (As := vs) (rest := rest) (n := vs.length) (nL := 4) (Ts := TB) ⟨hX.1.1, hX.1.2.1, hX.1.2.2.2.1, hX.1.2.2.2.2.1, hts⟩ hM ⟨l_callB hX hw.1 hf, hts _ hw.2.1, hts _ hw.2.2⟩
    ⟨hpre.1, ?_, hpre.2⟩ rfl rfl hl rfl (lv_room hst) hd hrm) hSv kk
  have := va_recv hX.2.1 hT2.1.1 (cls_at ci hci) (ws_obj hT2.1.2.2 h0 hs)
  rw [e0] at this
  exact this
/-- a constructor's call -/
theorem l_callI {md2 : MD} {x pc : Nat} {rest : List Value} {la : Array Slot} (hX : LX g p s m meth c b L xs) (hT2 : TwoH g (lA s) a1 a2 h1 h2 H) (hS : va_S (lA s) s.heap H locs) (hl : la.size = 4) (hd : decode code pc = .ok (.invokespecial x, 3)) (hC : Cn g md2 [.ref 0] h1 none h1') (h0 : 0 < hN h1) (hw : siteI R_law x md2 0) (hf : md2.2.2.2.2.frames + 1 ≤ 16 ∧ 8 + (md2.2.2.1 + 11) + md2.2.2.2.2.locals ≤ 612) (hrm : nc + md2.2.2.2.2.cells ≤ 600000 ∧ ns + md2.2.2.2.2.slots ≤ 7302250) (hst : (rest.map fun v => v.category).sum ≤ 8)
    (kk : ∀ (a1' : Nat → Nat) (H1 : Heap) (locs1 : List Loc), Ee (hN h1) a1 (hN h1') a1' → TwoH g (lA s) a1' a2 h1' h2 H1 → va_S (lA s) s.heap H1 locs1 → W p g.1 e room_1 s m #[Value.ref b] below meth c H1 locs1 (nc + md2.2.2.2.2.cells) (ns + md2.2.2.2.2.slots) Q (F0 m (pc + 3) la rest)) : W p g.1 e room_1 s m #[Value.ref b] below meth c H locs nc ns Q (F0 m pc la (.ref (a1 0) :: rest)) := by
  have hpre := l_pre (vs := [.ref 0]) hX hT2.1 hS
  have hts := TB_of hX.1.2.2.2.2.2.1
  have e0 : ax g.2.2.2 a1 0 = a1 0 := ax_lt hT2.1.2.2 h0
  have hM := hC a1 H.size
  have eg : [Value.ref 0].map (gv g.2.2.2 a1) = [.ref (a1 0)] := by show [Value.ref (ax g.2.2.2 a1 0)] = _; rw [e0]
  rw [eg] at hM hpre
  have hcb := l_callB hX hw.1 hf
  rw [hw.2.2.1] at hcb hM
  exact l_go (rv := none) hT2 rfl (va_runI (As := []) (rest := rest) (n := 0) (nL := 4) (Ts := TB) ⟨hX.1.1, hX.1.2.1, hX.1.2.2.2.1, hX.1.2.2.2.2.1, hts⟩ hM ⟨hcb, hw.2.1, hts _ hw.2.2.2⟩
    hpre rfl rfl hl rfl (lv_room hst) hd hrm) hS kk
/-- a new object in the first world, which holds nothing yet -/
theorem l_new {ci x pc k0 : Nat} {rest : List Value} {la : Array Slot} (hX : LX g p s m meth c b L xs) (h2H : HRel g.2.1 g.2.2.1 g.2.2.2 (lA s) a2 h2 H) (hSv : va_S (lA s) s.heap H locs) (hci : ci < 12) (hw : Cond.classLink R_law x (cR ci) ∈ TB ∧ Cond.instantiable (cR ci) (nF ci) ∈ TB ∧ Cond.initialized (cR ci) ∈ TB) (hd : decode code pc = .ok (.new x, 3)) (hc : nc + 1 ≤ 600000) (hsl : ns + nF ci ≤ 7302250)
    (kk : ∀ (a1' : Nat → Nat) (H1 : Heap), TwoH g (lA s) a1' a2 (hNew (pe0 k0) (.inl ci)) h2 H1 → va_S (lA s) s.heap H1 locs → W p g.1 e room_1 s m #[Value.ref b] below meth c H1 locs (nc + 1) (ns + nF ci) Q (F0 m (pc + 3) la (.ref (a1' 0) :: rest))) : W p g.1 e room_1 s m #[Value.ref b] below meth c H locs nc ns Q (F0 m pc la rest) := by
  have hts := TB_of hX.1.2.2.2.2.2.1
  refine va_new hX.1.1 hX.1.2.1 (Ts := TB) (fs := (List.range (nF ci)).map (fun k => if isRf (tyF ci k) = true then Value.null else .int 0)) hts (inTB ci hci) (tyF ci) (cls_ty ci hci) hX.1.2.2.2.2.1 (hts _ hw.1) (hts _ hw.2.1) (hts _ hw.2.2) hX.2.1 h2H.1 h2H.2.1 hSv (fun q hq => hq) (cls_at ci hci) ?_ hc hsl hd ?_
  · intro j hj
    rw [cls_dv ci hci j hj]
    simp [vp_V, hj]
  · intro q H1 p1 d1 s1
    have hlen : (wsO g.2.2.1 g.2.2.2 a2 h2).length = hN h2 := wsO_len
    have hlast : (wsO g.2.2.1 g.2.2.2 a2 h2 ++ [(q, (Sum.inr (ci, (List.range (nF ci)).map (fun k => if isRf (tyF ci k) = true then Value.null else .int 0)) : va_E))])[hN h2]? = some (q, .inr (ci, (List.range (nF ci)).map (fun k => if isRf (tyF ci k) = true then Value.null else .int 0))) := by
      rw [List.getElem?_append_right (by omega), hlen, Nat.sub_self]; rfl
    have hold : ∀ (k : Nat) (y : Nat × va_E), (wsO g.2.2.1 g.2.2.2 a2 h2)[k]? = some y → (wsO g.2.2.1 g.2.2.2 a2 h2 ++ [(q, (Sum.inr (ci, (List.range (nF ci)).map (fun k => if isRf (tyF ci k) = true then Value.null else .int 0)) : va_E))])[k]? = some y := fun k y hy => by
      rw [List.getElem?_append_left (List.getElem?_eq_some_iff.mp hy).1]; exact hy
    have e1 : wsO g.2.2.1 g.2.2.2 (fun _ => q) (hNew (pe0 k0) (.inl ci)) = [(q, .inr (ci, (List.range (nF ci)).map (fun k => if isRf (tyF ci k) = true then Value.null else .int 0)))] := by
      show [(q, cE g.2.2.1 g.2.2.2 (fun _ => q) (hNew (pe0 k0) (.inl ci)) 0)] = _
      rw [cE_obj (show hS (hNew (pe0 k0) (.inl ci)) 0 = .inl ci from hS_new (pe0 k0) (.inl ci))]
      congr 4
    refine kk (fun _ => q) H1 ⟨⟨?_, ?_, ?_⟩, ⟨fun k y hy => p1 k y (hold k y hy), ⟨fun i j y z hy hz => d1.1 i j y z (hold i y hy) (hold j z hz), fun k y hy => d1.2 k y (hold k y hy)⟩, h2H.2.2⟩, fun i j hi hj ee => ?_⟩ s1
    · rw [e1]
      intro k y hy
      cases k with
      | zero => cases hy; exact p1 _ _ hlast
      | succ k => simp at hy
    · rw [e1]
      refine ⟨fun i j y z hy hz _ => ?_, fun k y hy => ?_⟩
      · cases i with
        | succ i => simp at hy
        | zero => cases j with
          | zero => rfl
          | succ j => simp at hz
      · cases k with
        | zero => cases hy; exact d1.2 _ _ hlast
        | succ k => simp at hy
    · exact wfH_new ⟨show 0 ≤ 1000000 by decide, fun i k a hi _ => absurd hi (by show ¬ i < 0; omega)⟩ (show 0 < 1000000 by decide)
    · have h3 := d1.1 _ _ _ _ hlast (hold j _ (wsO_at hj)) ee
      omega
end LB
