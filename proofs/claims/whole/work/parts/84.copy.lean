/-! WHOLES COPIED -/
theorem vc0 {α : Type} {f g : Nat → α} {n j : Nat} (h : j < n) : va_cpy f g 0 0 n j = f j := by
  show (if 0 ≤ j ∧ j < 0 + n then f (0 + (j - 0)) else g j) = _
  rw [if_pos (by omega), show 0 + (j - 0) = j by omega]
theorem f1_si {s : ST} {a b j : Nat} {x : Int32} (h : b ≠ a) : (si s a j x).1 b = s.1 b := by
  show (if b = a then upd (s.1 a) j x else s.1 b) = _
  rw [if_neg h]
theorem f1_sAr {s : ST} {a b : Nat} {f : Nat → Int32} (h : b ≠ a) : (sAr s a f).1 b = s.1 b := by
  show (if b = a then f else s.1 b) = _
  rw [if_neg h]
theorem gi_sArn {s : ST} {a b j : Nat} {f : Nat → Int32} (h : b ≠ a) : gi (sAr s a f) b j = gi s b j := by rw [gi_sAr, if_neg h]
theorem gi_sArs {s : ST} {a j : Nat} {f : Nat → Int32} : gi (sAr s a f) a j = f j := by rw [gi_sAr, if_pos rfl]
theorem si_22 (s : ST) (a j : Nat) (x : Int32) : (si s a j x).2.2 = s.2.2 := rfl
theorem sAr_22 (s : ST) (a : Nat) (f : Nat → Int32) : (sAr s a f).2.2 = s.2.2 := rfl
def twE (a p : Nat) (s : ST) : ST := sAr (sAr (sAr (sAr (sAr (sAr (si (si (si (si (si (si (si (si (si s a 0 (gi s p 0)) a 1 (gi s p 1)) a 2 (gi s p 2)) a 3 (gi s p 3)) a 4 (gi s p 4)) a 5 (gi s p 5)) a 6 (gi s p 6)) a 7 (gi s p 7)) a 8 (gi s p 8)) (a + 1) (va_cpy (s.1 (p + 1)) (s.1 (a + 1)) 0 0 5)) (a + 2) (va_cpy (s.1 (p + 2)) (s.1 (a + 2)) 0 0 5)) (a + 3) (va_cpy (s.1 (p + 3)) (s.1 (a + 3)) 0 0 8)) (a + 4) (va_cpy (s.1 (p + 4)) (s.1 (a + 4)) 0 0 8)) (a + 5) (va_cpy (s.1 (p + 5)) (s.1 (a + 5)) 0 0 8)) (a + 6) (va_cpy (s.1 (p + 6)) (s.1 (a + 6)) 0 0 8)
theorem tw_eq {a p : Nat} {s : ST} (hd : a + 6 < p ∨ p + 6 < a) (hb : bz (gi s p 0) = true) : fX7_copyFrom_Tw_Tw a p s = some (twE a p s) := by
  unfold fX7_copyFrom_Tw_Tw twE
  rw [ck_t hb]
  simp (disch := omega) only [lt_v, ck_t (show cpB 0 0 5 5 5 = true by decide), ck_t (show cpB 0 0 8 8 8 = true by decide), ix_lit, gi_ne, f1_si, f1_sAr]
theorem twE_o {a p x j : Nat} {s : ST} (h : ¬ (a ≤ x ∧ x ≤ a + 6)) : gi (twE a p s) x j = gi s x j := by
  unfold twE
  simp (disch := omega) only [gi_sArn, gi_ne]
theorem twE_0 {a p j : Nat} {s : ST} (h : j < 9) : gi (twE a p s) a j = gi s p j := by
  unfold twE
  simp (disch := omega) only [gi_sArn]
  have : j = 0 ∨ j = 1 ∨ j = 2 ∨ j = 3 ∨ j = 4 ∨ j = 5 ∨ j = 6 ∨ j = 7 ∨ j = 8 := by omega
  rcases this with rfl | rfl | rfl | rfl | rfl | rfl | rfl | rfl | rfl <;> simp (disch := omega) only [gi_same, gi_dif]
theorem twE_1 {a p j : Nat} {s : ST} (h : j < 5) : gi (twE a p s) (a + 1) j = gi s (p + 1) j := by
  unfold twE
  simp (disch := omega) only [gi_sArn, gi_sArs, vc0]; rfl
theorem twE_2 {a p j : Nat} {s : ST} (h : j < 5) : gi (twE a p s) (a + 2) j = gi s (p + 2) j := by
  unfold twE
  simp (disch := omega) only [gi_sArn, gi_sArs, vc0]; rfl
theorem twE_3 {a p j : Nat} {s : ST} (h : j < 8) : gi (twE a p s) (a + 3) j = gi s (p + 3) j := by
  unfold twE
  simp (disch := omega) only [gi_sArn, gi_sArs, vc0]; rfl
theorem twE_4 {a p j : Nat} {s : ST} (h : j < 8) : gi (twE a p s) (a + 4) j = gi s (p + 4) j := by
  unfold twE
  simp (disch := omega) only [gi_sArn, gi_sArs, vc0]; rfl
theorem twE_5 {a p j : Nat} {s : ST} (h : j < 8) : gi (twE a p s) (a + 5) j = gi s (p + 5) j := by
  unfold twE
  simp (disch := omega) only [gi_sArn, gi_sArs, vc0]; rfl
theorem twE_6 {a p j : Nat} {s : ST} (h : j < 8) : gi (twE a p s) (a + 6) j = gi s (p + 6) j := by
  unfold twE
  simp (disch := omega) only [gi_sArs, vc0]; rfl
theorem f1g (s : ST) (a : Nat) : s.1 a = fun j => gi s a j := rfl
/-- a whole copied: all that is looked at -/
theorem wh_copy {a p : Nat} {s : ST} (hd : a + 11 < p ∨ p + 11 < a) (hb : bz (gi s (p + 1) 0) = true) : ∃ z, fX10_copyFrom_Wh_Wh a p s = some z ∧ EqX (gi s) p (gi z) a ∧ (∀ x j, ¬ (a ≤ x ∧ x ≤ a + 11) → gi z x j = gi s x j) ∧ z.2.2 = s.2.2 := by
  obtain ⟨z1, hz1⟩ : ∃ z, twE (a + 1) (p + 1) s = z := ⟨_, rfl⟩
  have o1 : ∀ x j, ¬ (a + 1 ≤ x ∧ x ≤ a + 7) → gi z1 x j = gi s x j := fun x j h => by rw [← hz1]; exact twE_o (by omega)
  obtain ⟨z2, hz2⟩ : ∃ z, sAr z1 (a + 9) (va_cpy (z1.1 (p + 9)) (z1.1 (a + 9)) 0 0 46) = z := ⟨_, rfl⟩
  have o2 : ∀ x j, x ≠ a + 9 → gi z2 x j = gi z1 x j := fun x j h => by rw [← hz2]; exact gi_sArn h
  obtain ⟨z3, hz3⟩ : ∃ z, si (si (si z2 a 2 (gi z2 p 2)) a 3 (gi z2 p 3)) a 4 (gi z2 p 4) = z := ⟨_, rfl⟩
  have o3 : ∀ x j, x ≠ a → gi z3 x j = gi z2 x j := fun x j h => by rw [← hz3, gi_ne h, gi_ne h, gi_ne h]
  obtain ⟨z4, hz4⟩ : ∃ z, sAr z3 (a + 10) (va_cpy (z3.1 (p + 10)) (z3.1 (a + 10)) 0 0 30) = z := ⟨_, rfl⟩
  have o4 : ∀ x j, x ≠ a + 10 → gi z4 x j = gi z3 x j := fun x j h => by rw [← hz4]; exact gi_sArn h
  obtain ⟨z5, hz5⟩ : ∃ z, sAr z4 (a + 11) (va_cpy (z4.1 (p + 11)) (z4.1 (a + 11)) 0 0 920) = z := ⟨_, rfl⟩
  have o5 : ∀ x j, x ≠ a + 11 → gi z5 x j = gi z4 x j := fun x j h => by rw [← hz5]; exact gi_sArn h
  obtain ⟨z6, hz6⟩ : ∃ z, si (si z5 a 7 (gi z5 p 7)) a 8 (gi z5 p 8) = z := ⟨_, rfl⟩
  have o6 : ∀ x j, x ≠ a → gi z6 x j = gi z5 x j := fun x j h => by rw [← hz6, gi_ne h, gi_ne h]
  have e3 : ∀ j, j = 2 ∨ j = 3 ∨ j = 4 → gi z3 a j = gi s p j := fun j hj => by
    have q : ∀ i, gi z2 p i = gi s p i := fun i => by rw [o2 _ _ (by omega), o1 _ _ (by omega)]
    rw [← hz3, q, q, q]
    rcases hj with rfl | rfl | rfl <;> simp (disch := omega) only [gi_same, gi_dif]
  have q5 : ∀ i, gi z5 p i = gi s p i := fun i => by rw [o5 _ _ (by omega), o4 _ _ (by omega), o3 _ _ (by omega), o2 _ _ (by omega), o1 _ _ (by omega)]
  have t1 : ∀ x j, a + 1 ≤ x → x ≤ a + 7 → gi z6 x j = gi z1 x j := fun x j h1 h2 => by
    rw [o6 _ _ (by omega), o5 _ _ (by omega), o4 _ _ (by omega), o3 _ _ (by omega), o2 _ _ (by omega)]
  refine ⟨z6, ?_, ⟨fun j hj => ?_, fun j hj => ?_, fun j hj => ?_, fun j hj => ?_, fun j hj => ?_, fun j hj => ?_, fun j hj => ?_, fun j hj => ?_, fun j hj => ?_, fun j hj => ?_, fun j hj => ?_⟩, fun x j h => ?_, ?_⟩
  · unfold fX10_copyFrom_Wh_Wh fX5_copyFrom_St_St
    rw [tw_eq (by omega) hb, bd_s, hz1, ck_t (by decide), lt_v, bd_s, ix_lit (by decide), ix_lit (by decide), show a + 8 + 1 = a + 9 from rfl, show p + 8 + 1 = p + 9 from rfl, hz2]
    simp (disch := omega) only [lt_v, gi_ne]
    rw [hz3, ck_t (by decide), ix_lit (by decide), ix_lit (by decide), hz4, ck_t (by decide), hz5, hz6]
  · by_cases e : j = 2 ∨ j = 3 ∨ j = 4
    · rw [← hz6, gi_dif (by omega), gi_dif (by omega), o5 _ _ (by omega), o4 _ _ (by omega)]; exact e3 j e
    · rw [← hz6, q5, q5]
      have : j = 7 ∨ j = 8 := by omega
      rcases this with rfl | rfl <;> simp (disch := omega) only [gi_same, gi_dif]
  · rw [t1 _ _ (by omega) (by omega), ← hz1]; exact twE_0 hj
  · rw [t1 _ _ (by omega) (by omega), ← hz1]; exact twE_1 hj
  · rw [t1 _ _ (by omega) (by omega), ← hz1]; exact twE_2 hj
  · rw [t1 _ _ (by omega) (by omega), ← hz1]; exact twE_3 hj
  · rw [t1 _ _ (by omega) (by omega), ← hz1]; exact twE_4 hj
  · rw [t1 _ _ (by omega) (by omega), ← hz1]; exact twE_5 hj
  · rw [t1 _ _ (by omega) (by omega), ← hz1]; exact twE_6 hj
  · rw [o6 _ _ (by omega), o5 _ _ (by omega), o4 _ _ (by omega), o3 _ _ (by omega), ← hz2, gi_sArs, vc0 hj]
    exact o1 _ _ (by omega)
  · rw [o6 _ _ (by omega), o5 _ _ (by omega), ← hz4, gi_sArs, vc0 hj]
    show gi z3 (p + 10) j = _
    rw [o3 _ _ (by omega), o2 _ _ (by omega), o1 _ _ (by omega)]
  · rw [o6 _ _ (by omega), ← hz5, gi_sArs, vc0 hj]
    show gi z4 (p + 11) j = _
    rw [o4 _ _ (by omega), o3 _ _ (by omega), o2 _ _ (by omega), o1 _ _ (by omega)]
  · rw [o6 _ _ (by omega), o5 _ _ (by omega), o4 _ _ (by omega), o3 _ _ (by omega), o2 _ _ (by omega), o1 _ _ (by omega)]
  · rw [← hz6, ← hz5, ← hz4, ← hz3, ← hz2, ← hz1]
    unfold twE
    simp only [si_22, sAr_22]
/-! what is made leaves what is there -/
def Ext (n : Nat) (h h' : PH) : Prop := n ≤ hN h' ∧ ∀ a, a < n → hS h' a = hS h a ∧ hI h' a = hI h a ∧ ∀ k, hR h' a k = hR h a k
theorem Ext.rfl {n : Nat} {h : PH} (hn : n ≤ hN h) : Ext n h h := ⟨hn, fun _ _ => ⟨Eq.refl _, Eq.refl _, fun _ => Eq.refl _⟩⟩
theorem Ext.new {n : Nat} {h h' : PH} {z : PSh} (e : Ext n h h') : Ext n h (hNew h' z) := by
  refine ⟨Nat.le_succ_of_le e.1, fun a ha => ?_⟩
  have hne : a ≠ h'.1 := by have : n ≤ h'.1 := e.1; omega
  obtain ⟨e1, e2, e3⟩ := e.2 a ha
  refine ⟨?_, ?_, fun k => ?_⟩
  · rw [← e1]; show (if a = h'.1 then z else h'.2.1 a) = _; rw [if_neg hne]; exact Eq.refl _
  · rw [← e2]; show (if a = h'.1 then (fun _ => 0) else h'.2.2.1 a) = _; rw [if_neg hne]; exact Eq.refl _
  · rw [← e3]; show (if a = h'.1 then (fun _ => none) else h'.2.2.2.2 a) k = _; rw [if_neg hne]; exact Eq.refl _
theorem Ext.sI {n i j : Nat} {h h' : PH} {x : Int32} (e : Ext n h h') (hi : n ≤ i) : Ext n h (sI h' i j x) := by
  refine ⟨e.1, fun a ha => ?_⟩
  obtain ⟨e1, e2, e3⟩ := e.2 a ha
  refine ⟨e1, ?_, e3⟩
  rw [← e2]
  show (if a = i then upd (hI h' i) j x else h'.2.2.1 a) = _
  rw [if_neg (by omega)]; exact Eq.refl _
theorem Ext.sR {n i j : Nat} {h h' : PH} {x : Option Nat} (e : Ext n h h') (hi : n ≤ i) : Ext n h (sR h' i j x) := by
  refine ⟨e.1, fun a ha => ?_⟩
  obtain ⟨e1, e2, e3⟩ := e.2 a ha
  refine ⟨e1, e2, fun k => ?_⟩
  rw [← e3]
  show (if a = i then va_up (h'.2.2.2.2 i) j x else h'.2.2.2.2 a) k = _
  rw [if_neg (by omega)]; exact Eq.refl _
theorem Ext.town {n a : Nat} {h h' : PH} (e : Ext n h h') (ha : n ≤ a) : Ext n h (i_Town a h') := by
  unfold i_Town
  exact (((((((((((((((((((e.sI ha).sI ha).sI ha).sI ha).sI ha).sI ha).sI ha).sI ha).sI ha).new).sR ha).new).sR ha).new).sR ha).new).sR ha).new).sR ha).new.sR ha
theorem Ext.state {n a : Nat} {h h' : PH} (e : Ext n h h') (ha : n ≤ a) : Ext n h (i_State a h') := by
  unfold i_State
  exact (e.new).sR ha
theorem Ext.whole {n a : Nat} {h h' : PH} (e : Ext n h h') (ha : n ≤ a) : Ext n h (i_Whole a h') := by
  unfold i_Whole
  have h1 := ((Ext.town (a := hN h') (e.new (z := .inl 6)) e.1).sR (j := 0) (x := some (hN h')) ha).new (z := .inl 4)
  have h2 := ((((((Ext.state (a := hN h' + 7) h1 (Nat.le_trans e.1 (Nat.le_add_right _ _))).sR (j := 1) (x := some (hN h' + 7)) ha).sI (j := 2) (x := -1) ha).sI (j := 3) (x := 0) ha).sI (j := 4) (x := 0) ha).new (z := .inr (0, 30))).sR (j := 5) (x := some (hN h' + 9)) ha
  exact (((h2.new (z := .inr (0, 920))).sR ha).sI ha).sI ha
theorem va_up_s (f : Nat → Option Nat) (k : Nat) (x : Option Nat) (j : Nat) : va_up f k x j = if j = k then x else f j := rfl
