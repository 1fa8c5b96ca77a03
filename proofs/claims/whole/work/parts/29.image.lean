theorem stay_Town {h : PH} {m : Nat → Option Nat} {a : Nat} (ha : 48 ≤ a) (e : stayH h m) : stayH (i_Town a h) m := by
  unfold i_Town
  exact (stay_sR (Or.inl ha) (stay_new (stay_sR (Or.inl ha) (stay_new (stay_sR (Or.inl ha) (stay_new (stay_sR (Or.inl ha) (stay_new (stay_sR (Or.inl ha) (stay_new (stay_sR (Or.inl ha) (stay_new (stay_sI (stay_sI (stay_sI (stay_sI (stay_sI (stay_sI (stay_sI (stay_sI (stay_sI e)))))))))))))))))))))
theorem stay_State {h : PH} {m : Nat → Option Nat} {a : Nat} (ha : 48 ≤ a) (e : stayH h m) : stayH (i_State a h) m := by
  unfold i_State
  exact (stay_sR (Or.inl ha) (stay_new e))
theorem stay_Whole {h : PH} {m : Nat → Option Nat} {a : Nat} (ha : 48 ≤ a) (e : stayH h m) : stayH (i_Whole a h) m := by
  unfold i_Whole
  exact (stay_sI (stay_sI (stay_sR (Or.inl ha) (stay_new (stay_sR (Or.inl ha) (stay_new (stay_sI (stay_sI (stay_sI (stay_sR (Or.inl ha) (stay_State (by have := e.1; omega) (stay_new (stay_sR (Or.inl ha) (stay_Town (by have := e.1; omega) (stay_new e)))))))))))))))
theorem uT_sh {h : PH} {a : Nat} (ha : 48 ≤ a) : cSh (uT h) a = hS h a := if_neg (by omega)
theorem uT_rf {h : PH} {a k : Nat} (ha : 48 ≤ a) : cRf (uT h) a k = hR h a k := if_neg (by omega)
/-! LateAlways.image: the heap with a new image -/
def imH (t : PH) (s : ST) (k : Nat) : PH := sR (i_Whole (48 + t.1) (hNew (cW t s) (.inl 9))) 29 k (some (48 + t.1))
theorem stay_im (t : PH) (s : ST) (k : Nat) : stayH (imH t s k) s.2.2 :=
  stay_sR (Or.inr (Or.inr rfl)) (stay_Whole (Nat.le_add_right _ _) (stay_new (stay_cW t s)))
theorem im_Wh (t : PH) (s : ST) (k : Nat) : isWh (uT (imH t s k)) (48 + t.1) := by
  unfold imH
  have hn : hN (hNew (cW t s) (.inl 9)) = 48 + t.1 + 1 := rfl
  have oW : Ob (i_Whole (48 + t.1) (hNew (cW t s) (.inl 9))) (48 + t.1) 9 := ob_Whole Ob.made
  have hN2 : hN (i_Whole (48 + t.1) (hNew (cW t s) (.inl 9))) = 48 + t.1 + 12 := hn_Whole hn
  have f0 := Whole_f0 (a := 48 + t.1) hn (by omega)
  have f1 := Whole_f1 (a := 48 + t.1) hn (by omega)
  have f2 := Whole_f2 (a := 48 + t.1) hn (by omega)
  have f3 := Whole_f3 (a := 48 + t.1) hn (by omega)
  have f4 := Whole_f4 (a := 48 + t.1) hn (by omega)
  have f5 := Whole_f5 (a := 48 + t.1) hn (by omega)
  have f6 := Whole_f6 (a := 48 + t.1) hn (by omega)
  have f7 := Whole_f7 (a := 48 + t.1) hn (by omega)
  have f8 := Whole_f8 (a := 48 + t.1) hn (by omega)
  have f9 := Whole_f9 (a := 48 + t.1) hn (by omega)
  have f10 := Whole_f10 (a := 48 + t.1) hn (by omega)
  have f11 := Whole_f11 (a := 48 + t.1) hn (by omega)
  have f12 := Whole_f12 (a := 48 + t.1) hn (by omega)
  have f13 := Whole_f13 (a := 48 + t.1) hn (by omega)
  have f14 := Whole_f14 (a := 48 + t.1) hn (by omega)
  have f15 := Whole_f15 (a := 48 + t.1) hn (by omega)
  have f16 := Whole_f16 (a := 48 + t.1) hn (by omega)
  have f17 := Whole_f17 (a := 48 + t.1) hn (by omega)
  have f18 := Whole_f18 (a := 48 + t.1) hn (by omega)
  have f19 := Whole_f19 (a := 48 + t.1) hn (by omega)
  have f20 := Whole_f20 (a := 48 + t.1) hn (by omega)
  have f21 := Whole_f21 (a := 48 + t.1) hn (by omega)
  have hw : 48 ≤ 48 + t.1 := Nat.le_add_right _ _
  generalize 48 + t.1 = w at *
  generalize i_Whole w (hNew (cW t s) (.inl 9)) = h at *
  have sh : ∀ a, 48 ≤ a → cSh (uT (sR h 29 k (some w))) a = hS h a := fun a ha => uT_sh (h := sR h 29 k (some w)) ha
  have rf : ∀ a j v, 48 ≤ a → Hd h a j v → cRf (uT (sR h 29 k (some w))) a j = some v := fun a j v ha d => by
    rw [uT_rf (h := sR h 29 k (some w)) ha]
    exact (Hd.sR (Or.inl (by omega)) d).2
  have bd : ∀ j, j ≤ 12 → w + j ≤ 48 + (uT (sR h 29 k (some w))).1 := by
    intro j hj
    show w + j ≤ 48 + (hN h - 48)
    omega
  refine ⟨bd 12 (by omega), (sh w hw).trans oW.2, ⟨rf w 0 _ hw f13, rf w 1 _ hw f17, rf w 5 _ hw f19, rf w 6 _ hw f21⟩, ?_, ?_, (sh _ (by omega)).trans f18.2, (sh _ (by omega)).trans f20.2⟩
  · refine ⟨bd 8 (by omega), (sh _ (by omega)).trans f0.2, ⟨rf _ 9 _ (by omega) f2, rf _ 10 _ (by omega) f4, rf _ 11 _ (by omega) f6, rf _ 12 _ (by omega) f8, rf _ 13 _ (by omega) f10, rf _ 14 _ (by omega) f12⟩, (sh _ (by omega)).trans f1.2, (sh _ (by omega)).trans f3.2, (sh _ (by omega)).trans f5.2, (sh _ (by omega)).trans f7.2, (sh _ (by omega)).trans f9.2, (sh _ (by omega)).trans f11.2⟩
  · exact ⟨bd 10 (by omega), (sh _ (by omega)).trans f14.2, rf _ 0 _ (by omega) f16, (sh _ (by omega)).trans f15.2⟩
