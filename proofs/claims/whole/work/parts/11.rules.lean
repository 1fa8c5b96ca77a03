/-! THE JUDGEMENTS OVER THE PURE WORLD: Rn (from a place of a method's code it comes to its end with the answer r and the heap h2), Cn (a method's contract, of just one answer and one heap) -/
theorem TB_warm {s U : State} (hW : s.WarmedH U.vm) (h : ∀ w ∈ TB, w.before #[] s = true) (a : Array Value) : ∀ w ∈ TB, w.before a U = true := by
  intro w hw
  have hk := (List.mem_filter.mp hw).2
  have hb := h w hw
  cases w <;> first
    | exact va_Nw.use rfl (va_Nw.warmF hW hb)
    | exact word_at hW (good_of_word hk) hb
/-- the launch; the classes' numbers and slots; the array classes; what lies outside -/
abbrev GX : Type := Launch × va_G × (Nat → ClassId) × (Nat → Nat)
/-- the texts: class, entry, text, its bytes -/
def txS : List (String × Nat × String × List Int32) := [
  ("LateAlways$TownReader", 55, "town", [116, 111, 119, 110]),
  ("LateAlways$TownReader", 66, "person", [112, 101, 114, 115, 111, 110]),
  ("LateAlways$TownReader", 71, "exempt", [101, 120, 101, 109, 112, 116]),
  ("LateAlways$TownReader", 76, "meet", [109, 101, 101, 116]),
  ("LateAlways$TownReader", 84, "fine", [102, 105, 110, 101]),
  ("LateAlways$RuleReader", 87, "late", [108, 97, 116, 101]),
  ("LateAlways$RuleReader", 105, "not", [110, 111, 116]),
  ("LateAlways$Sign", 15, "person", [112, 101, 114, 115, 111, 110]),
  ("LateAlways$Sign", 17, "meeting", [109, 101, 101, 116, 105, 110, 103]),
  ("LateAlways$Sign", 19, "asked", [97, 115, 107, 101, 100]),
  ("LateAlways$Sign", 21, "habit", [104, 97, 98, 105, 116]),
  ("LateAlways$Sign", 23, "least", [108, 101, 97, 115, 116]),
  ("LateAlways$Sign", 25, "most", [109, 111, 115, 116]),
  ("LateAlways$Sign", 27, "other", [111, 116, 104, 101, 114]),
  ("LateAlways$Sign", 29, "theirs", [116, 104, 101, 105, 114, 115]),
  ("LateAlways$Sign", 31, "mine", [109, 105, 110, 101]),
  ("LateAlways$Sign", 33, "fined", [102, 105, 110, 101, 100]),
  ("LateAlways$Sign", 35, "waited", [119, 97, 105, 116, 101, 100]),
  ("LateAlways$Sign", 37, "day", [100, 97, 121]),
  ("LateAlways$Sign", 39, "clock", [99, 108, 111, 99, 107]),
  ("LateAlways$Sign", 41, "exempt", [101, 120, 101, 109, 112, 116]),
  ("LateAlways$RuleReader", 158, "if", [105, 102]),
  ("LateAlways$RuleReader", 160, "and", [97, 110, 100]),
  ("LateAlways$RuleReader", 162, "or", [111, 114]),
  ("LateAlwaysModel", 321, "town", [116, 111, 119, 110]),
  ("LateAlwaysModel", 202, "person", [112, 101, 114, 115, 111, 110]),
  ("LateAlwaysModel", 222, "exempt", [101, 120, 101, 109, 112, 116]),
  ("LateAlwaysModel", 323, "meet", [109, 101, 101, 116]),
  ("LateAlwaysModel", 325, "fine", [102, 105, 110, 101]),
  ("LateAlwaysModel", 369, "late", [108, 97, 116, 101]),
  ("LateAlwaysModel", 204, "meeting", [109, 101, 101, 116, 105, 110, 103]),
  ("LateAlwaysModel", 206, "asked", [97, 115, 107, 101, 100]),
  ("LateAlwaysModel", 207, "habit", [104, 97, 98, 105, 116]),
  ("LateAlwaysModel", 208, "least", [108, 101, 97, 115, 116]),
  ("LateAlwaysModel", 210, "most", [109, 111, 115, 116]),
  ("LateAlwaysModel", 212, "other", [111, 116, 104, 101, 114]),
  ("LateAlwaysModel", 213, "theirs", [116, 104, 101, 105, 114, 115]),
  ("LateAlwaysModel", 215, "mine", [109, 105, 110, 101]),
  ("LateAlwaysModel", 217, "fined", [102, 105, 110, 101, 100]),
  ("LateAlwaysModel", 218, "waited", [119, 97, 105, 116, 101, 100]),
  ("LateAlwaysModel", 219, "day", [100, 97, 121]),
  ("LateAlwaysModel", 221, "clock", [99, 108, 111, 99, 107]),
  ("LateAlwaysModel", 371, "if", [105, 102]),
  ("LateAlwaysModel", 303, "not", [110, 111, 116]),
  ("LateAlwaysModel", 317, "and", [97, 110, 100]),
  ("LateAlwaysModel", 319, "or", [111, 114])]
def txN : Nat := 46
def txB (k : Nat) : List Int32 := match txS[k]? with
  | some q => q.2.2.2
  | none => []
/-- Sign.TIGHTNESS -/
def tgS (j : Nat) : Int32 := ([7, 7, 5, 5, 6, 6, 6, 4, 4, 4, 4, 4, 2, 1, 3, 0] : List Int32).getD j 0
def Xt (xt : Nat → Nat) (A : Nat → Prop) (U : State) : Prop :=
  (∀ k, k < txN → va_O "java/lang/String" (xt (1000000 + k)) A U U.heap ∧ va_OF "java/lang/String" "coder" "B" (.int 0) (xt (1000000 + k)) A U U.heap ∧ va_OF "java/lang/String" "value" "[B" (.ref (xt (1100000 + k))) (xt (1000000 + k)) A U U.heap ∧ va_T .byte (xt (1100000 + k)) (txB k).length (fun j => .int ((txB k).getD j 0)) A U U.heap) ∧
  (∀ k q, txS[k]? = some q → vk_R q.1 q.2.1 q.2.2.1 (xt (1000000 + k)) U) ∧
  va_Z "LateAlways$Sign" "TIGHTNESS" "[I" (.ref (xt 2000000)) A U U.heap ∧ va_T .int (xt 2000000) 16 (fun j => .int (tgS j)) A U U.heap ∧
  va_Z "java/lang/String" "COMPACT_STRINGS" "Z" (.int 1) A U U.heap ∧ va_AO RX2 U ∧ va_AO RX10 U ∧
  (va_Z "jdk/internal/util/Preconditions" "SIOOBE_FORMATTER" "Ljava/util/function/BiFunction;" .null A U U.heap ∨ va_Z "jdk/internal/util/Preconditions" "SIOOBE_FORMATTER" "Ljava/util/function/BiFunction;" (.ref (xt 3000000)) A U U.heap) ∧ va_Nw (.castable "[I" "java/lang/Cloneable") U
theorem Xt.go {xt : Nat → Nat} {A B : Nat → Prop} {u U : State} (h : Xt xt A u) (hW : u.WarmedH U.vm) (hq : ∀ a : Nat, a < u.heap.size → ¬ A a → U.heap[a]? = u.heap[a]?) (hAB : ∀ q, B q → A q) : Xt xt B U := by
  obtain ⟨h1, h2, h3, h4, h5, h6, h7, h8, h9⟩ := h
  refine ⟨fun k hk => ?_, fun k q hk => (h2 k q hk).warm hW, ((h3.kept hq).narrow hAB).moved hW.alike, ((h4.kept hq).narrow hAB).moved hW.alike, ((h5.kept hq).narrow hAB).moved hW.alike, h6.moved hW.alike, h7.moved hW.alike, h8.imp (fun z => ((z.kept hq).narrow hAB).moved hW.alike) (fun z => ((z.kept hq).narrow hAB).moved hW.alike), h9.warmC hW⟩
  obtain ⟨a1, a2, a3, a4⟩ := h1 k hk
  exact ⟨((a1.kept hq).narrow hAB).moved hW.alike, ((a2.kept hq).narrow hAB).moved hW.alike, ((a3.kept hq).narrow hAB).moved hW.alike, ((a4.kept hq).narrow hAB).moved hW.alike⟩
/-- what is known of a state at a method's begin -/
def Kx (g : GX) (A : Nat → Prop) (U : State) : Prop := va_K g.2.1 cls12 (tysA g.2.2.1) U ∧ (∀ w ∈ TB, w.before #[] U = true) ∧ Xt g.2.2.2 A U
theorem Kx.go {g : GX} {A B : Nat → Prop} {u U : State} (h : Kx g A u) (hW : u.WarmedH U.vm) (hq : ∀ a : Nat, a < u.heap.size → ¬ A a → U.heap[a]? = u.heap[a]?) (hAB : ∀ q, B q → A q) : Kx g B U :=
  ⟨h.1.moved hW.alike, TB_warm hW h.2.1 _, h.2.2.go hW hq hAB⟩
/-- the ways to address since a method's begin -/
def Ee (n0 : Nat) (ad0 : Nat → Nat) (n : Nat) (ad : Nat → Nat) : Prop := n0 ≤ n ∧ adE n0 ad0 ad ∧ (n = n0 → ad = ad0)
theorem Ee.rf {n : Nat} {ad : Nat → Nat} : Ee n ad n ad := ⟨Nat.le_refl _, fun _ _ => rfl, fun _ => rfl⟩
theorem Ee.tr {n0 n1 n2 : Nat} {a0 a1 a2 : Nat → Nat} (h : Ee n0 a0 n1 a1) (k : Ee n1 a1 n2 a2) : Ee n0 a0 n2 a2 := by
  refine ⟨Nat.le_trans h.1 k.1, fun i hi => (k.2.1 i (Nat.lt_of_lt_of_le hi h.1)).trans (h.2.1 i hi), fun e => ?_⟩
  have h1 := h.1
  have k1 := k.1
  rw [k.2.2 (by omega), h.2.2 (by omega)]
def Qm (g : GX) (A : Nat → Prop) (n0 : Nat) (ad0 : Nat → Nat) (r : Option Value) (h2 : PH) : Array Value → State → Outcome → State → Prop := fun _ st oc t =>
  (∃ ad2 : Nat → Nat, oc = .returned (r.map (gv g.2.2.2 ad2)) ∧ Ee n0 ad0 (hN h2) ad2 ∧ HRel g.2.1 g.2.2.1 g.2.2.2 A ad2 h2 t.heap) ∧ va_F A st t
/-- the locals -/
def LRel (xt ad : Nat → Nat) (n : Nat) (ls : List (Option Value)) (la : Array Slot) : Prop := la.size = n ∧ ls.length = n ∧ lv_wf la ∧ ∀ (i : Nat) (v : Value), ls[i]? = some (some v) → la[i]? = some (.val (gv xt ad v))
/-- around a method's run -/
def Amb (g : GX) (md : MD) (A : Nat → Prop) (p : Program) (s : State) (m : MethodId) (args : Array Value) (meth : Method) (c : Code) : Prop :=
  p.tables.exec = Jvm.exec ∧ c.code = md.2.1 ∧ c.maxLocals = md.2.2.1 ∧ meth.sig.returnType = md.2.2.2.1 ∧ meth.locks = false ∧ s.vm.findClass md.1.cls = some m.cls ∧ meth.name = md.1.name ∧ (∀ w ∈ TB, w.before args s = true) ∧ Kx g A s ∧ (∀ q, s.heap.size ≤ q → A q)
def Rn (g : GX) (md : MD) (pc : Nat) (ls : List (Option Value)) (st : List Value) (h : PH) (nc ns : Nat) (r : Option Value) (h2 : PH) : Prop :=
  ∀ (n0 : Nat) (ad0 ad : Nat → Nat) (A : Nat → Prop) (p : Program) (e : Env) (s : State) (m : MethodId) (args : Array Value) (below : List Frame) (meth : Method) (c : Code) (H : Heap) (locs : List Loc) (la : Array Slot),
    Amb g md A p s m args meth c → Ee n0 ad0 (hN h) ad → HRel g.2.1 g.2.2.1 g.2.2.2 A ad h H → va_S A s.heap H locs → LRel g.2.2.2 ad md.2.2.1 ls la →
    W p g.1 e md.2.2.2.2 s m args below meth c H locs nc ns (MQ below (Qm g A n0 ad0 r h2) args s md.2.2.2.2.cells md.2.2.2.2.slots A) (F0 m pc la (st.map (gv g.2.2.2 ad)))
/-- a method's contract: from the heap h, with the arguments vs, it answers r, and the heap is h2 -/
def Cn (g : GX) (md : MD) (vs : List Value) (h : PH) (r : Option Value) (h2 : PH) : Prop :=
  ∀ (ad : Nat → Nat) (sz : Nat), Met g.1 md.1 [.code md.1 md.2.1 md.2.2.1 md.2.2.2.1] md.2.2.2.2
    (va_Pc (vs.map (gv g.2.2.2 ad)) (fun U => U.heap.size = sz ∧ HRel g.2.1 g.2.2.1 g.2.2.2 (fun _ => True) ad h U.heap ∧ Kx g (va_A (wsO g.2.2.1 g.2.2.2 ad h) sz) U))
    (Qm g (va_A (wsO g.2.2.1 g.2.2.2 ad h) sz) (hN h) ad r h2) md.2.2.2.2.cells md.2.2.2.2.slots (va_A (wsO g.2.2.1 g.2.2.2 ad h) sz)
/-- the locals with which a method begins -/
def lsE : List Value → List (Option Value)
  | [] => []
  | v :: vs => if v.category = 2 then some v :: none :: lsE vs else some v :: lsE vs
def lsB (vs : List Value) (n : Nat) : List (Option Value) := lsE vs ++ List.replicate (n - (lsE vs).length) none
theorem gv_cat (xt ad : Nat → Nat) (v : Value) : (gv xt ad v).category = v.category := by cases v <;> rfl
theorem lsE_len (xt ad : Nat → Nat) (vs : List Value) : (lg_sl (vs.map (gv xt ad))).length = (lsE vs).length := by
  induction vs with
  | nil => rfl
  | cons v vs ih =>
    simp only [lg_sl] at ih
    simp only [lg_sl, List.map_cons, List.flatMap_cons, List.length_append, lsE, gv_cat, ih]
    by_cases e : v.category = 2
    · rw [if_pos e, if_pos e]; simp; omega
    · rw [if_neg e, if_neg e]; simp; omega
theorem lsE_at (xt ad : Nat → Nat) (vs : List Value) : ∀ (i b : Nat) (v : Value), (lsE vs)[i]? = some (some v) → (b + i, gv xt ad v) ∈ lv_args b (vs.map (gv xt ad)) := by
  induction vs with
  | nil => intro i b v h; simp [lsE] at h
  | cons w vs ih =>
    intro i b v h
    simp only [List.map_cons, lv_args, gv_cat]
    by_cases e : w.category = 2
    · rw [lsE, if_pos e] at h
      rw [if_pos e]
      match i, h with
      | 0, h => cases h; exact List.mem_cons_self
      | 1, h => cases h
      | i + 2, h =>
        refine List.mem_cons_of_mem _ ?_
        have := ih i (b + 2) v (by simpa using h)
        rw [show b + (i + 2) = b + 2 + i by omega]
        exact this
    · rw [lsE, if_neg e] at h
      rw [if_neg e]
      match i, h with
      | 0, h => cases h; exact List.mem_cons_self
      | i + 1, h =>
        refine List.mem_cons_of_mem _ ?_
        have := ih i (b + 1) v (by simpa using h)
        rw [show b + (i + 1) = b + 1 + i by omega]
        exact this
theorem Cn.of {g : GX} {md : MD} {vs : List Value} {h : PH} {r : Option Value} {h2 : PH} (hy : plainName md.1.cls = true) (hl : (lsE vs).length ≤ md.2.2.1) (k : Rn g md 0 (lsB vs md.2.2.1) [] h 0 0 r h2) : Cn g md vs h r h2 := by
  intro ad sz
  refine Met.ofW (cc := md.2.1) (maxL := md.2.2.1) (ret := md.2.2.2.1) hy rfl ?_
  intro p e s m args below meth c s₁ B hml hv
  obtain ⟨rfl, rfl, hH, hK⟩ := hv
  have he := lv_entry (vs.map (gv g.2.2.2 ad)) (n := md.2.2.1) (by rw [lsE_len]; exact hl)
  rw [lg_entry_eq]
  have hHA : HRel g.2.1 g.2.2.1 g.2.2.2 (va_A (wsO g.2.2.1 g.2.2.2 ad h) s.heap.size) ad h s.heap := ⟨hH.1, hH.2.1.self, hH.2.2⟩
  refine k (hN h) ad ad (va_A (wsO g.2.2.1 g.2.2.2 ad h) s.heap.size) p e s m _ below meth c s.heap [] _ ?_ Ee.rf hHA va_S.rf ?_
  · exact ⟨B.exec, B.bytes, hml, B.returns, B.notSynchronized, findClass_of_methodNamed B.named, (name_of_methodNamed B.named B.method).1, TB_warm (State.WarmedH.refl s) hK.2.1 _, hK, fun q hq => Or.inr hq⟩
  · refine ⟨he.1, by simp [lsB]; omega, he.2.1, fun i v hi => ?_⟩
    have h1 : (lsE vs)[i]? = some (some v) := by
      unfold lsB at hi
      by_cases hlt : i < (lsE vs).length
      · rwa [List.getElem?_append_left hlt] at hi
      · rw [List.getElem?_append_right (by omega)] at hi
        have := List.mem_of_getElem? hi
        rw [List.mem_replicate] at this
        cases this.2
    have h3 := he.2.2 _ (lsE_at g.2.2.2 ad vs i 0 v h1)
    simpa using h3
