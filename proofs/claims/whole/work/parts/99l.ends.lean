/-! RULES: a clause's end, if -/
section SL
variable {B : Nat → Nat} {n R : Nat}
theorem CV_step0 {x p pl : Nat} {s z : ST} {e : Nat → Nat × Nat} {Lc : Nat} {P Q : List Nat} {cnt dep : Nat} (h : CV B n x p s e Lc P Q cnt dep) (f : FT s z) (h2 : gi z 1 2 = nI pl) (h3 : p ≤ pl) (h5 : pl ≤ n) : CV B n x pl z e Lc P Q cnt dep := by
  obtain ⟨tc, c3, c2, l2, l7, l8, l9, l12, l15, hp, hx⟩ := h
  exact ⟨f.TC tc, by rw [f.1 _ _ (by omega)]; exact c3, h2, by rw [f.1 _ _ (by omega)]; exact l2, by rw [f.1 _ _ (by omega)]; exact l7, by rw [f.1 _ _ (by omega)]; exact l8, by rw [f.1 _ _ (by omega)]; exact l9, fun i hi => by rw [f.1 _ _ (by omega)]; exact l12 i hi, Stk_w _ (fun i _ => f.1 _ _ (by omega)) l15, h5, by omega⟩
theorem endC {x p cl : Nat} {u : ST} {e : Nat → Nat × Nat} {Lc : Nat} {P : List Nat} {cnt : Nat} (h : CV B n x p u e Lc P [] cnt 0) (h5 : gi u 11 5 = nI cl) (hcl : cl < 12) (hl : (P ++ []).length ≤ 60) (hL : Lc + P.length ≤ 300) (he : ∀ j, j < P.length → e (Lc + j) = (P.getD j 0, 0)) (h15 : ∀ k, k ∈ P ++ [] → k ≤ 15) :
    ∃ w, fX3_endClause u = some w ∧ CV B n x p w e (Lc + P.length) [] [] cnt 0 ∧ gi w 11 5 = nI (cl + 1) ∧ gi w 13 (cl + 1) = nI (Lc + P.length) ∧ (gi u 11 12 = 0 → gi w 14 cl = nI (Lc + P.length)) ∧ gi w 11 11 = (if gi u 1 4 = 59 then 0 else 4) ∧ FX (fun a j => (a = 11 ∧ (j = 2 ∨ j = 5 ∨ j = 7 ∨ j = 9 ∨ j = 11)) ∨ a = 12 ∨ (a = 13 ∧ j = cl + 1) ∨ (a = 14 ∧ j = cl ∧ gi u 11 12 = 0)) u w := by
  obtain ⟨w, w1, w2, w3⟩ := CV_flush (a := 0) h (by omega) hl hL he h15 (fun _ _ => Nat.zero_le _) (fun k hk => absurd hk (by simp))
  have w1 : fX3_writeWaiting 0 u = some w := w1
  have k2 := w2.2.2.2.1
  have k5 : gi w 11 5 = nI cl := by rw [w3 _ _ (by unfold eW; omega)]; exact h5
  have fin : ∀ v : ST, FX cI w v → gi v 11 5 = nI cl → gi v 11 2 = nI (Lc + P.length) → gi v 1 4 = gi u 1 4 → ∃ y, (lt (si v 11 5 ((gi v 11 5) + 1)) (fun s11 => ck (inb (gi s11 11 5) 13) (lt (si s11 13 (ix (gi s11 11 5)) (gi s11 11 2)) (fun s13 => (if (gi s13 1 4) = 59 then some 0 else some 4 : Option (Int32)).bind (fun w14 => lt (si s13 11 11 w14) (fun s17 => some s17)))))) = some y ∧ FX cI w y ∧ FX (fun a j => (a = 11 ∧ (j = 5 ∨ j = 11)) ∨ (a = 13 ∧ j = cl + 1)) v y ∧ gi y 11 5 = nI (cl + 1) ∧ gi y 13 (cl + 1) = nI (Lc + P.length) ∧ gi y 11 11 = (if gi u 1 4 = 59 then 0 else 4) := fun v f1 f2 f3 f4 => by
    have e4 : (if gi u 1 4 = 59 then some 0 else some 4 : Option Int32) = some (if gi u 1 4 = 59 then 0 else 4) := by split <;> rfl
    refine ⟨si (si (si v 11 5 (nI (cl + 1))) 13 (cl + 1) (nI (Lc + P.length))) 11 11 (if gi u 1 4 = 59 then 0 else 4), ?_, f1.trans (((FX.si (by unfold cI; omega)).trans (FX.si (by unfold cI; omega))).trans (FX.si (by unfold cI; omega))), ((FX.si (by omega)).trans (FX.si (by omega))).trans (FX.si (by omega)), by rw [gi_dif (by decide), gi_ne (by decide), gi_same], by rw [gi_ne (by decide), gi_same], gi_same _ _ _ _⟩
    rw [lt_v, f2, nj_addr, gi_same, ck_t (inb_t (by omega) (by decide)), lt_v, ix_nI (by omega), gi_dif (by decide), f3, gi_ne (by decide), gi_ne (by decide), f4, e4, bd_s, lt_v]
  unfold fX3_endClause
  by_cases c : gi u 11 12 = 0
  · obtain ⟨y, y1, y2, y3, y4, y5, y6⟩ := fin (si w 14 cl (nI (Lc + P.length))) (FX.si (by unfold cI; omega)) (by rw [gi_ne (by decide)]; exact k5) (by rw [gi_ne (by decide)]; exact k2) (by rw [gi_ne (by decide)]; exact w3 _ _ (by unfold eW; omega))
    refine ⟨y, ?_, CV_cw w2 y2, y4, y5, fun _ => by rw [y3 _ _ (by omega), gi_same], y6, ?_⟩
    · rw [if_pos c, bd_s, w1, bd_s, if_pos rfl, k5, ck_t (inb_t (by omega) (by decide)), k2, lt_v, ix_nI (by omega), bd_s]
      exact y1
    · exact ((w3.w (by unfold eW; omega)).trans (FX.si (Or.inr (Or.inr (Or.inr ⟨rfl, rfl, c⟩))))).trans (y3.w (by omega))
  · obtain ⟨y, y1, y2, y3, y4, y5, y6⟩ := fin w FX.rfl k5 k2 (w3 _ _ (by unfold eW; omega))
    refine ⟨y, ?_, CV_cw w2 y2, y4, y5, fun q => absurd q c, y6, ?_⟩
    · rw [if_neg c, bd_s, w1, bd_s, if_neg n10, bd_s]
      exact y1
    · exact (w3.w (by unfold eW; omega)).trans (y3.w (by omega))
end SL
