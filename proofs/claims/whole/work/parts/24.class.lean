/-! THE CLASS: 48 things that stay (0 to 47), behind them rules and images -/
def cS (i : Nat) : PSh := match i with
  | 0 => .inl 10
  | 1 => .inl 5
  | 2 => .inr (0, 400)
  | 3 => .inl 7
  | 4 => .inl 6
  | 5 => .inr (0, 5)
  | 6 => .inr (0, 5)
  | 7 => .inr (0, 8)
  | 8 => .inr (0, 8)
  | 9 => .inr (0, 8)
  | 10 => .inr (0, 8)
  | 11 => .inl 3
  | 12 => .inr (0, 400)
  | 13 => .inr (0, 13)
  | 14 => .inr (0, 12)
  | 15 => .inr (0, 64)
  | 16 => .inr (4, 6)
  | 17 => .inl 9
  | 18 => .inl 6
  | 19 => .inr (0, 5)
  | 20 => .inr (0, 5)
  | 21 => .inr (0, 8)
  | 22 => .inr (0, 8)
  | 23 => .inr (0, 8)
  | 24 => .inr (0, 8)
  | 25 => .inl 4
  | 26 => .inr (0, 46)
  | 27 => .inr (0, 30)
  | 28 => .inr (0, 920)
  | 29 => .inr (5, 4)
  | 30 => .inl 0
  | 31 => .inl 4
  | 32 => .inr (0, 46)
  | 33 => .inl 1
  | 34 => .inr (0, 8)
  | 35 => .inr (0, 8)
  | 36 => .inr (0, 8)
  | 37 => .inr (0, 16)
  | 38 => .inr (0, 16)
  | 39 => .inr (0, 5)
  | 40 => .inr (0, 5)
  | 41 => .inr (0, 5)
  | 42 => .inr (0, 14)
  | 43 => .inr (1, 64)
  | 44 => .inl 8
  | 45 => .inr (0, 98)
  | 46 => .inr (0, 279)
  | 47 => .inr (0, 1000)
  | _ => .inl 10
def cR_0 (k : Nat) : Option Nat := match k with
  | 0 => some 1
  | 1 => some 3
  | 2 => some 11
  | 3 => some 16
  | 5 => some 17
  | 6 => some 29
  | 7 => some 30
  | 8 => some 44
  | _ => none
def cR_1 (k : Nat) : Option Nat := match k with
  | 0 => some 2
  | _ => none
def cR_3 (k : Nat) : Option Nat := match k with
  | 0 => some 1
  | 1 => some 4
  | _ => none
def cR_4 (k : Nat) : Option Nat := match k with
  | 9 => some 5
  | 10 => some 6
  | 11 => some 7
  | 12 => some 8
  | 13 => some 9
  | 14 => some 10
  | _ => none
def cR_11 (k : Nat) : Option Nat := match k with
  | 0 => some 1
  | 1 => some 12
  | 3 => some 13
  | 4 => some 14
  | 6 => some 15
  | _ => none
def cR_17 (k : Nat) : Option Nat := match k with
  | 0 => some 18
  | 1 => some 25
  | 5 => some 27
  | 6 => some 28
  | _ => none
def cR_18 (k : Nat) : Option Nat := match k with
  | 9 => some 19
  | 10 => some 20
  | 11 => some 21
  | 12 => some 22
  | 13 => some 23
  | 14 => some 24
  | _ => none
def cR_25 (k : Nat) : Option Nat := match k with
  | 0 => some 26
  | _ => none
def cR_30 (k : Nat) : Option Nat := match k with
  | 0 => some 31
  | 1 => some 33
  | 2 => some 41
  | 3 => some 42
  | 4 => some 43
  | _ => none
def cR_31 (k : Nat) : Option Nat := match k with
  | 0 => some 32
  | _ => none
def cR_33 (k : Nat) : Option Nat := match k with
  | 0 => some 34
  | 1 => some 35
  | 2 => some 36
  | 3 => some 37
  | 4 => some 38
  | 5 => some 39
  | 6 => some 40
  | _ => none
def cR_44 (k : Nat) : Option Nat := match k with
  | 0 => some 45
  | 1 => some 46
  | 2 => some 47
  | _ => none
def cRs (i k : Nat) : Option Nat := match i with
  | 0 => cR_0 k
  | 1 => cR_1 k
  | 3 => cR_3 k
  | 4 => cR_4 k
  | 11 => cR_11 k
  | 17 => cR_17 k
  | 18 => cR_18 k
  | 25 => cR_25 k
  | 30 => cR_30 k
  | 31 => cR_31 k
  | 33 => cR_33 k
  | 44 => cR_44 k
  | _ => none
def cSh (t : PH) (a : Nat) : PSh := if a < 48 then cS a else t.2.1 a
/-- the references: m has course.town (0) and course.rule (1) -/
def cR30 (m : Nat → Option Nat) (k : Nat) : Option Nat := match k with
  | 5 => m 0
  | 6 => m 1
  | k => cR_30 k
def cRr (t : PH) (m : Nat → Option Nat) (i k : Nat) : Option Nat := match i with
  | 16 => t.2.2.2.2 16 k
  | 29 => t.2.2.2.2 29 k
  | 30 => cR30 m k
  | i => if i < 48 then cRs i k else t.2.2.2.2 i k
def cW (t : PH) (s : ST) : PH := (48 + t.1, cSh t, s.1, s.2.1, cRr t s.2.2)
def mr (s : ST) (j : Nat) : Option Nat := s.2.2 j
def sm (s : ST) (j : Nat) (o : Option Nat) : ST := (s.1, s.2.1, fun i => if i = j then o else s.2.2 i)
def sAr (s : ST) (a : Nat) (f : Nat → Int32) : ST := ((fun b => if b = a then f else s.1 b), s.2.1, s.2.2)
def rR (t : PH) (a j : Nat) : Option Nat := t.2.2.2.2 a j
/-- a reference of a thing that isn't the course or an array of references -/
def cRf (t : PH) (a k : Nat) : Option Nat := if a < 48 then cRs a k else t.2.2.2.2 a k
def alT (t : PH) (a : Nat) : Nat := match cSh t a with
  | .inr q => q.2
  | _ => 0
abbrev isTw (t : PH) (a : Nat) : Prop := a + 7 ≤ 48 + t.1 ∧ cSh t a = .inl 6 ∧ (cRf t a 9 = some (a + 1) ∧ cRf t a 10 = some (a + 2) ∧ cRf t a 11 = some (a + 3) ∧ cRf t a 12 = some (a + 4) ∧ cRf t a 13 = some (a + 5) ∧ cRf t a 14 = some (a + 6)) ∧ cSh t (a + 1) = .inr (0, 5) ∧ cSh t (a + 2) = .inr (0, 5) ∧ cSh t (a + 3) = .inr (0, 8) ∧ cSh t (a + 4) = .inr (0, 8) ∧ cSh t (a + 5) = .inr (0, 8) ∧ cSh t (a + 6) = .inr (0, 8)
abbrev isSt (t : PH) (a : Nat) : Prop := a + 2 ≤ 48 + t.1 ∧ cSh t a = .inl 4 ∧ cRf t a 0 = some (a + 1) ∧ cSh t (a + 1) = .inr (0, 46)
abbrev isWh (t : PH) (a : Nat) : Prop := a + 12 ≤ 48 + t.1 ∧ cSh t a = .inl 9 ∧ (cRf t a 0 = some (a + 1) ∧ cRf t a 1 = some (a + 8) ∧ cRf t a 5 = some (a + 10) ∧ cRf t a 6 = some (a + 11)) ∧ isTw t (a + 1) ∧ isSt t (a + 8) ∧ cSh t (a + 10) = .inr (0, 30) ∧ cSh t (a + 11) = .inr (0, 920)
abbrev isRl (t : PH) (a : Nat) : Prop := a + 4 ≤ 48 + t.1 ∧ cSh t a = .inl 2 ∧ (cRf t a 1 = some (a + 1) ∧ cRf t a 2 = some (a + 2) ∧ cRf t a 3 = some (a + 3)) ∧ cSh t (a + 1) = .inr (0, alT t (a + 1)) ∧ cSh t (a + 2) = .inr (0, alT t (a + 2)) ∧ cSh t (a + 3) = .inr (0, alT t (a + 3))
def okO (t : PH) (o : Option Nat) : Bool := match o with
  | none => true
  | some b => decide (b < 48 + t.1)
def om {α : Type} (o : Option Nat) (a : Option α) (k : Nat → Option α) : Option α := match o with
  | none => a
  | some q => k q
theorem om_n {α : Type} {o : Option Nat} {a : Option α} {k : Nat → Option α} {r : α} (h : om o a k = some r) (e : o = none) : a = some r := by rw [e] at h; exact h
theorem om_s {α : Type} {o : Option Nat} {a : Option α} {k : Nat → Option α} {r : α} {q : Nat} (h : om o a k = some r) (e : o = some q) : k q = some r := by rw [e] at h; exact h
theorem om_f {α : Type} {o : Option Nat} {k : Nat → Option α} {r : α} (h : om o none k = some r) : ∃ q, o = some q ∧ k q = some r := by
  cases o with
  | none => cases h
  | some q => exact ⟨q, rfl, h⟩
theorem lt48 {t : PH} {a : Nat} (h : a < 48) : a < 48 + t.1 := Nat.lt_of_lt_of_le h (Nat.le_add_right _ _)
theorem tw4 (t : PH) : isTw t 4 := ⟨by omega, rfl, ⟨rfl, rfl, rfl, rfl, rfl, rfl⟩, rfl, rfl, rfl, rfl, rfl, rfl⟩
theorem tw18 (t : PH) : isTw t 18 := ⟨by omega, rfl, ⟨rfl, rfl, rfl, rfl, rfl, rfl⟩, rfl, rfl, rfl, rfl, rfl, rfl⟩
theorem st25 (t : PH) : isSt t 25 := ⟨by omega, rfl, rfl, rfl⟩
theorem st31 (t : PH) : isSt t 31 := ⟨by omega, rfl, rfl, rfl⟩
theorem wh17 (t : PH) : isWh t 17 := ⟨by omega, rfl, ⟨rfl, rfl, rfl, rfl⟩, tw18 t, st25 t, rfl, rfl⟩
/-- a reference of an object that isn't the course -/
theorem hR_cW {t : PH} {s : ST} {a ci k : Nat} (hs : cSh t a = .inl ci) (hc : ci ≠ 0) : hR (cW t s) a k = cRf t a k := by
  show cRr t s.2.2 a k = cRf t a k
  unfold cRr cRf
  split
  · exact absurd hs (by intro h; cases h)
  · exact absurd hs (by intro h; cases h)
  · have : Sum.inl 0 = (Sum.inl ci : PSh) := hs
    cases this
    exact absurd rfl hc
  · rfl
theorem gv_rf (xt ad : Nat → Nat) (o : Option Nat) : gv xt ad (va_rf o) = va_rf (o.map (ax xt ad)) := by cases o <;> rfl
theorem rf_cat (o : Option Nat) : (va_rf o).category = 1 := by cases o <;> rfl
theorem cW_sm {t : PH} {s : ST} {k j : Nat} {o : Option Nat} (h : (k = 5 ∧ j = 0) ∨ (k = 6 ∧ j = 1)) : sR (cW t s) 30 k o = cW t (sm s j o) := by
  have e : ∀ a b, (fun a => if a = 30 then va_up (cRr t s.2.2 30) k o else cRr t s.2.2 a) a b = cRr t (sm s j o).2.2 a b := by
    intro a b
    by_cases ha : a = 30
    · subst ha
      show (if 30 = 30 then va_up (cRr t s.2.2 30) k o else cRr t s.2.2 30) b = _
      rw [if_pos rfl]
      rcases h with ⟨rfl, rfl⟩ | ⟨rfl, rfl⟩
      · unfold va_up
        by_cases hb : b = 5
        · subst hb; rfl
        · rw [if_neg hb]
          show cR30 s.2.2 b = cR30 (sm s 0 o).2.2 b
          unfold cR30
          split
          · exact absurd rfl hb
          · rfl
          · rfl
      · unfold va_up
        by_cases hb : b = 6
        · subst hb; rfl
        · rw [if_neg hb]
          show cR30 s.2.2 b = cR30 (sm s 1 o).2.2 b
          unfold cR30
          split
          · rfl
          · exact absurd rfl hb
          · rfl
    · show (if a = 30 then va_up (cRr t s.2.2 30) k o else cRr t s.2.2 a) b = _
      rw [if_neg ha]
      unfold cRr
      split
      · rfl
      · rfl
      · exact absurd rfl ha
      · rfl
  show (48 + t.1, cSh t, s.1, s.2.1, (fun a => if a = 30 then va_up (cRr t s.2.2 30) k o else cRr t s.2.2 a)) = (48 + t.1, cSh t, s.1, s.2.1, cRr t (sm s j o).2.2)
  rw [funext (fun a => funext (fun b => e a b))]
def cpB (sp dp n : Int32) (na nb : Nat) : Bool := decide (¬ sp < 0 ∧ ¬ dp < 0 ∧ ¬ n < 0 ∧ sp.toNatClampNeg + n.toNatClampNeg ≤ na ∧ dp.toNatClampNeg + n.toNatClampNeg ≤ nb)
theorem cpB_in {sp dp n : Int32} {na nb : Nat} (h : cpB sp dp n na nb = true) : ¬ sp < 0 ∧ ¬ dp < 0 ∧ ¬ n < 0 ∧ sp.toNatClampNeg + n.toNatClampNeg ≤ na ∧ dp.toNatClampNeg + n.toNatClampNeg ≤ nb := of_decide_eq_true h
def imx (a b : Int32) : Int32 := if a < b then b else a
def imn (a b : Int32) : Int32 := if b < a then b else a
def iab (a : Int32) : Int32 := if 0 ≤ a then a else 0 - a
def lmx (a b : Int64) : Int64 := if b < a then a else b
def lmn (a b : Int64) : Int64 := if b < a then b else a
section CR
variable {g : GX} {md : MD} {pc : Nat} {ls : List (Option Value)} {st : List Value} {t : PH} {s : ST} {nc ns : Nat} {r : Option Value} {h2 : PH}
theorem c_getI {x : Nat} (ci k a : Nat) (hci : ci < 12) (hk : k < nF ci) (hr : isRf (tyF ci k) = false) (ha : a < 48 + t.1) (hs : cSh t a = .inl ci) (hw : lkF md.1.cls x ci k) (hd : decode md.2.1 pc = .ok (.getfield x, 3)) (kk : Rn g md (pc + 3) ls (.int (gi s a k) :: st) (cW t s) nc ns r h2) : Rn g md pc ls (.ref a :: st) (cW t s) nc ns r h2 :=
  o_getI hci hk hr hw hd ha hs kk
theorem c_getR {x : Nat} (ci k a b : Nat) (hci : ci < 12) (hk : k < nF ci) (hr : isRf (tyF ci k) = true) (ha : a < 48 + t.1) (hs : cSh t a = .inl ci) (hb : hR (cW t s) a k = some b) (hw : lkF md.1.cls x ci k) (hd : decode md.2.1 pc = .ok (.getfield x, 3)) (kk : Rn g md (pc + 3) ls (.ref b :: st) (cW t s) nc ns r h2) : Rn g md pc ls (.ref a :: st) (cW t s) nc ns r h2 :=
  o_getR hci hk hr hw hd ha hs hb kk
theorem c_getO {x : Nat} (k j : Nat) (h : (k = 5 ∧ j = 0) ∨ (k = 6 ∧ j = 1)) (hw : lkF md.1.cls x 0 k) (hd : decode md.2.1 pc = .ok (.getfield x, 3)) (kk : Rn g md (pc + 3) ls (va_rf (mr s j) :: st) (cW t s) nc ns r h2) : Rn g md pc ls (.ref 30 :: st) (cW t s) nc ns r h2 := by
  refine o_getV (ci := 0) (k := k) (by decide) (by rcases h with ⟨rfl, -⟩ | ⟨rfl, -⟩ <;> decide) hw hd (lt48 (by decide) : 30 < 48 + t.1) rfl (fun xt ad => ?_) kk
  rw [gv_rf]
  rcases h with ⟨rfl, rfl⟩ | ⟨rfl, rfl⟩ <;> rfl
theorem c_putI {x : Nat} {v : Int32} (ci k a : Nat) (hci : ci < 12) (hk : k < nF ci) (hr : isRf (tyF ci k) = false) (hf : ((cT ci) k).2.2.2 = false) (ha : a < 48 + t.1) (hs : cSh t a = .inl ci) (hw : lkF md.1.cls x ci k) (hn : narrow (tyF ci k) (.int v) = .int v ∧ fits (tyF ci k) (.int v) = true) (hd : decode md.2.1 pc = .ok (.putfield x, 3)) (kk : Rn g md (pc + 3) ls st (cW t (si s a k v)) nc ns r h2) : Rn g md pc ls (.int v :: .ref a :: st) (cW t s) nc ns r h2 :=
  o_putI hci hk hr hw hf hd ha hs hn kk
theorem c_putO {x : Nat} (k j : Nat) (o : Option Nat) (h : (k = 5 ∧ j = 0) ∨ (k = 6 ∧ j = 1)) (ho : okO t o = true) (hw : lkF md.1.cls x 0 k) (hd : decode md.2.1 pc = .ok (.putfield x, 3)) (kk : Rn g md (pc + 3) ls st (cW t (sm s j o)) nc ns r h2) : Rn g md pc ls (va_rf o :: .ref 30 :: st) (cW t s) nc ns r h2 := by
  rw [← cW_sm h] at kk
  have hk : k < nF 0 ∧ isRf (tyF 0 k) = true ∧ ((cT 0) k).2.2.2 = false := by rcases h with ⟨rfl, -⟩ | ⟨rfl, -⟩ <;> decide
  cases o with
  | none => exact o_putN (ci := 0) (by decide) hk.1 hk.2.1 hw hk.2.2 hd (lt48 (by decide) : 30 < 48 + t.1) rfl kk
  | some b => exact o_putR (ci := 0) (by decide) hk.1 hk.2.1 hw hk.2.2 hd (lt48 (by decide) : 30 < 48 + t.1) rfl (Or.inl (of_decide_eq_true ho)) kk
theorem c_iald {a n : Nat} {i : Int32} (ha : a < 48 + t.1) (hs : cSh t a = .inr (0, n)) (hi : inb i n = true) (hd : decode md.2.1 pc = .ok (.iaload, 1)) (kk : Rn g md (pc + 1) ls (.int (gi s a (ix i)) :: st) (cW t s) nc ns r h2) : Rn g md pc ls (.int i :: .ref a :: st) (cW t s) nc ns r h2 :=
  o_iald hd ha hs (inb_in hi) kk
theorem c_lald {a n : Nat} {i : Int32} (ha : a < 48 + t.1) (hs : cSh t a = .inr (1, n)) (hi : inb i n = true) (hd : decode md.2.1 pc = .ok (.laload, 1)) (kk : Rn g md (pc + 1) ls (.long (gl s a (ix i)) :: st) (cW t s) nc ns r h2) : Rn g md pc ls (.int i :: .ref a :: st) (cW t s) nc ns r h2 :=
  o_lald hd ha hs (inb_in hi) kk
theorem c_iast {a n : Nat} {i x : Int32} (ha : a < 48 + t.1) (hs : cSh t a = .inr (0, n)) (hi : inb i n = true) (hd : decode md.2.1 pc = .ok (.iastore, 1)) (kk : Rn g md (pc + 1) ls st (cW t (si s a (ix i) x)) nc ns r h2) : Rn g md pc ls (.int x :: .int i :: .ref a :: st) (cW t s) nc ns r h2 :=
  o_iast hd ha hs (inb_in hi) kk
theorem c_last {a n : Nat} {i : Int32} {x : Int64} (ha : a < 48 + t.1) (hs : cSh t a = .inr (1, n)) (hi : inb i n = true) (hd : decode md.2.1 pc = .ok (.lastore, 1)) (kk : Rn g md (pc + 1) ls st (cW t (sl s a (ix i) x)) nc ns r h2) : Rn g md pc ls (.long x :: .int i :: .ref a :: st) (cW t s) nc ns r h2 :=
  o_last hd ha hs (inb_in hi) kk
theorem c_alen {a n y : Nat} (v : Int32) (hy : y < 6) (ha : a < 48 + t.1) (hs : cSh t a = .inr (y, n)) (hv : Int32.ofNat n = v) (hd : decode md.2.1 pc = .ok (.arraylength, 1)) (kk : Rn g md (pc + 1) ls (.int v :: st) (cW t s) nc ns r h2) : Rn g md pc ls (.ref a :: st) (cW t s) nc ns r h2 :=
  o_alen hy hd ha hs (hv ▸ kk)
theorem c_aald {i : Int32} (a n y : Nat) (h : (a = 16 ∧ n = 6 ∧ y = 4) ∨ (a = 29 ∧ n = 4 ∧ y = 5)) (hi : inb i n = true) (hd : decode md.2.1 pc = .ok (.aaload, 1)) (kk : Rn g md (pc + 1) ls (va_rf (rR t a (ix i)) :: st) (cW t s) nc ns r h2) : Rn g md pc ls (.int i :: .ref a :: st) (cW t s) nc ns r h2 := by
  rcases h with ⟨rfl, rfl, rfl⟩ | ⟨rfl, rfl, rfl⟩
  · exact o_aald (t := 4) (n := 6) (Or.inl rfl) hd (lt48 (by decide) : 16 < 48 + t.1) rfl (inb_in hi) (fun xt ad => by rw [gv_rf]; rfl) kk
  · exact o_aald (t := 5) (n := 4) (Or.inr rfl) hd (lt48 (by decide) : 29 < 48 + t.1) rfl (inb_in hi) (fun xt ad => by rw [gv_rf]; rfl) kk
theorem c_copy {x : Nat} (a b na nb : Nat) {sp dp n : Int32} (hw : Cond.methodLink md.1.cls x arraycopyName ∈ TB) (hd : decode md.2.1 pc = .ok (.invokestatic x, 3)) (hf : 1 ≤ md.2.2.2.2.frames) (hl : (st.map fun v => v.category).sum + 18 ≤ md.2.2.2.2.locals) (ha : a < 48 + t.1) (hsa : cSh t a = .inr (0, na)) (hb : b < 48 + t.1) (hsb : cSh t b = .inr (0, nb)) (hc : cpB sp dp n na nb = true)
    (kk : Rn g md (pc + 3) ls st (cW t (sAr s b (va_cpy (s.1 a) (s.1 b) (ix sp) (ix dp) (ix n)))) nc ns r h2) : Rn g md pc ls (.int n :: .int dp :: .ref b :: .int sp :: .ref a :: st) (cW t s) nc ns r h2 := by
  obtain ⟨h1, h3, h4, h5, h6⟩ := cpB_in hc
  exact o_copy hw hd hf hl ha hsa hb hsb h1 h3 h4 h5 h6 kk
theorem c_callV {md2 : MD} {x : Nat} {s1 : ST} {rv : Option Value} (ci b : Nat) (vs : List Value) (hci : ci < 12) (ha : b < 48 + t.1) (hs : cSh t b = .inl ci) (hd : decode md.2.1 pc = .ok (.invokevirtual x, 3)) (hC : Cn g md2 (.ref b :: vs) (cW t s) rv (cW t s1)) (hw : siteV md.1.cls x (cR ci) md2 vs.length) (hf : fitR md md2 nc ns) (hz : md2.2.2.2.2.cells = 0 ∧ md2.2.2.2.2.slots = 0) (hst : (st.map fun v => v.category).sum ≤ 8) (kk : Rn g md (pc + 3) ls (rv.toList ++ st) (cW t s1) nc ns r h2) : Rn g md pc ls (vs.reverse ++ .ref b :: st) (cW t s) nc ns r h2 :=
  o_callV (ci := ci) hd hC hci hs ha hw hf hst (Or.inl rfl) (by rw [hz.1, hz.2]; exact kk)
theorem c_callS {md2 : MD} {x : Nat} {s1 : ST} {rv : Option Value} (vs : List Value) (hd : decode md.2.1 pc = .ok (.invokestatic x, 3)) (hC : Cn g md2 vs (cW t s) rv (cW t s1)) (hw : siteS md.1.cls x md2 vs.length) (hf : fitR md md2 nc ns) (hz : md2.2.2.2.2.cells = 0 ∧ md2.2.2.2.2.slots = 0) (hst : (st.map fun v => v.category).sum ≤ 8) (kk : Rn g md (pc + 3) ls (rv.toList ++ st) (cW t s1) nc ns r h2) : Rn g md pc ls (vs.reverse ++ st) (cW t s) nc ns r h2 :=
  o_callS hd hC hw hf hst (Or.inl rfl) (by rw [hz.1, hz.2]; exact kk)
theorem o_ifnonnullV {h : PH} {off : Int} (o : Option Nat) (u : Nat) (hd : decode md.2.1 pc = .ok (.ifnonnull off, 3)) (ht : (pc : Int) + off = (u : Int)) (ks : ∀ q, o = some q → Rn g md u ls st h nc ns r h2) (kn : o = none → Rn g md (pc + 3) ls st h nc ns r h2) : Rn g md pc ls (va_rf o :: st) h nc ns r h2 := by
  cases o with
  | none => exact o_ifnonnullN hd (kn rfl)
  | some q => exact o_ifnonnull u hd ht (ks q rfl)
theorem o_aload_nV {h : PH} {j : Fin 4} {o : Option Nat} (hd : decode md.2.1 pc = .ok (.aload_n j, 1)) (hl : ls[(j : Nat)]? = some (some (va_rf o))) (k : Rn g md (pc + 1) ls (va_rf o :: st) h nc ns r h2) : Rn g md pc ls st h nc ns r h2 := by
  cases o with
  | none => exact o_aload_nN hd hl k
  | some q => exact o_aload_n hd hl k
theorem o_areturnV {h : PH} {o : Option Nat} {rt : FieldType} (hd : decode md.2.1 pc = .ok (.areturn, 1)) (hr : md.2.2.2.1 = some rt) (hrt : (∃ n, rt = .object n) ∨ ∃ t, rt = .array t) (hc : nc ≤ md.2.2.2.2.cells) (hs : ns ≤ md.2.2.2.2.slots) : Rn g md pc ls [va_rf o] h nc ns (some (va_rf o)) h :=
  o_areturn hd hr hrt (by cases o with | none => exact Or.inl rfl | some q => exact Or.inr ⟨_, rfl⟩) hc hs
end CR
