/-! a meeting in the reference -/
def mtS (z : ST) (m a b fr : Nat) (x2 BG lA lB wt eA oA eB oB cA cB pA pB fv EA EB hv mv v60 v61 v62 : Int32) : ST :=
  si (si (si (si (si (si (si (si (si (si (si (si (si (si (si (si (si (si (si (si (si (si (si z 1 11 x2) 40 m BG) 41 m lA) 42 m lB) 43 m wt) 38 a eA) 39 a oA) 38 b eB) 39 b oB) 44 m cA) 45 m cB) 5 a pA) 5 b pB) 6 fr fv) 37 a EA) 37 b EB) 4 a lA) 4 b lB) 11 m hv) 12 m mv) 0 60 v60) 0 61 v61) 0 62 v62
section MT
variable {z : ST} {m a b fr j : Nat} {x2 BG lA lB wt eA oA eB oB cA cB pA pB fv EA EB hv mv v60 v61 v62 : Int32}
theorem mtS_40 : gi (mtS z m a b fr x2 BG lA lB wt eA oA eB oB cA cB pA pB fv EA EB hv mv v60 v61 v62) 40 j = if j = m then BG else gi z 40 j := by
  unfold mtS; simp only [gi_si, ↓reduceIte, Nat.reduceEqDiff]
theorem mtS_41 : gi (mtS z m a b fr x2 BG lA lB wt eA oA eB oB cA cB pA pB fv EA EB hv mv v60 v61 v62) 41 j = if j = m then lA else gi z 41 j := by
  unfold mtS; simp only [gi_si, ↓reduceIte, Nat.reduceEqDiff]
theorem mtS_42 : gi (mtS z m a b fr x2 BG lA lB wt eA oA eB oB cA cB pA pB fv EA EB hv mv v60 v61 v62) 42 j = if j = m then lB else gi z 42 j := by
  unfold mtS; simp only [gi_si, ↓reduceIte, Nat.reduceEqDiff]
theorem mtS_43 : gi (mtS z m a b fr x2 BG lA lB wt eA oA eB oB cA cB pA pB fv EA EB hv mv v60 v61 v62) 43 j = if j = m then wt else gi z 43 j := by
  unfold mtS; simp only [gi_si, ↓reduceIte, Nat.reduceEqDiff]
theorem mtS_44 : gi (mtS z m a b fr x2 BG lA lB wt eA oA eB oB cA cB pA pB fv EA EB hv mv v60 v61 v62) 44 j = if j = m then cA else gi z 44 j := by
  unfold mtS; simp only [gi_si, ↓reduceIte, Nat.reduceEqDiff]
theorem mtS_45 : gi (mtS z m a b fr x2 BG lA lB wt eA oA eB oB cA cB pA pB fv EA EB hv mv v60 v61 v62) 45 j = if j = m then cB else gi z 45 j := by
  unfold mtS; simp only [gi_si, ↓reduceIte, Nat.reduceEqDiff]
theorem mtS_37 : gi (mtS z m a b fr x2 BG lA lB wt eA oA eB oB cA cB pA pB fv EA EB hv mv v60 v61 v62) 37 j = if j = b then EB else if j = a then EA else gi z 37 j := by
  unfold mtS; simp only [gi_si, ↓reduceIte, Nat.reduceEqDiff]
theorem mtS_38 : gi (mtS z m a b fr x2 BG lA lB wt eA oA eB oB cA cB pA pB fv EA EB hv mv v60 v61 v62) 38 j = if j = b then eB else if j = a then eA else gi z 38 j := by
  unfold mtS; simp only [gi_si, ↓reduceIte, Nat.reduceEqDiff]
theorem mtS_39 : gi (mtS z m a b fr x2 BG lA lB wt eA oA eB oB cA cB pA pB fv EA EB hv mv v60 v61 v62) 39 j = if j = b then oB else if j = a then oA else gi z 39 j := by
  unfold mtS; simp only [gi_si, ↓reduceIte, Nat.reduceEqDiff]
theorem mtS_36 : gi (mtS z m a b fr x2 BG lA lB wt eA oA eB oB cA cB pA pB fv EA EB hv mv v60 v61 v62) 36 j = gi z 36 j := by
  unfold mtS; simp only [gi_si, ↓reduceIte, Nat.reduceEqDiff]
theorem mtS_x : gi (mtS z m a b fr x2 BG lA lB wt eA oA eB oB cA cB pA pB fv EA EB hv mv v60 v61 v62) 1 11 = x2 := by
  unfold mtS; simp only [gi_si, ↓reduceIte, Nat.reduceEqDiff]
theorem mtS_60 : gi (mtS z m a b fr x2 BG lA lB wt eA oA eB oB cA cB pA pB fv EA EB hv mv v60 v61 v62) 0 60 = v60 := by
  unfold mtS; simp only [gi_si, ↓reduceIte, Nat.reduceEqDiff]
theorem mtS_61 : gi (mtS z m a b fr x2 BG lA lB wt eA oA eB oB cA cB pA pB fv EA EB hv mv v60 v61 v62) 0 61 = v61 := by
  unfold mtS; simp only [gi_si, ↓reduceIte, Nat.reduceEqDiff]
theorem mtS_62 : gi (mtS z m a b fr x2 BG lA lB wt eA oA eB oB cA cB pA pB fv EA EB hv mv v60 v61 v62) 0 62 = v62 := by
  unfold mtS; simp only [gi_si, ↓reduceIte, Nat.reduceEqDiff]
theorem mtS_kM : kM (mtS z m a b fr x2 BG lA lB wt eA oA eB oB cA cB pA pB fv EA EB hv mv v60 v61 v62) = kM z := by
  unfold mtS
  rw [kM_si rfl, kM_si rfl, kM_si rfl, kM_si rfl, kM_si rfl, kM_si rfl, kM_si rfl, kM_si rfl, kM_si rfl, kM_si rfl, kM_si rfl, kM_si rfl, kM_si rfl, kM_si rfl, kM_si rfl, kM_si rfl, kM_si rfl, kM_si rfl, kM_si rfl, kM_si rfl, kM_si rfl, kM_si rfl, kM_si rfl]
theorem mtS_lv (ha : a < 5) (hb : b < 5) (hf : fr < 5) (hm : m < 8) : lv (mtS z m a b fr x2 BG lA lB wt eA oA eB oB cA cB pA pB fv EA EB hv mv v60 v61 v62) = upd (upd (upd (upd (upd (upd (upd (lv z) (10 + a) pA) (10 + b) pB) (15 + fr) fv) (5 + a) lA) (5 + b) lB) (28 + m) hv) (36 + m) mv := by
  unfold mtS
  rw [lv_si_o _ (by omega), lv_si_o _ (by omega), lv_si_o _ (by omega), lv_si12 _ hm, lv_si11 _ hm, lv_si4 _ hb, lv_si4 _ ha, lv_si_o _ (by omega), lv_si_o _ (by omega), lv_si6 _ hf, lv_si5 _ hb, lv_si5 _ ha, lv_si_o _ (by omega), lv_si_o _ (by omega), lv_si_o _ (by omega), lv_si_o _ (by omega), lv_si_o _ (by omega), lv_si_o _ (by omega), lv_si_o _ (by omega), lv_si_o _ (by omega), lv_si_o _ (by omega), lv_si_o _ (by omega), lv_si_o _ (by omega)]
end MT
theorem upR_rwM {c : Nat → Int32} {a b m fr j : Nat} {lA lB fA fB w1 w2 wt hv mv : Int32} {hd : Bool} (ha : a < 5) (hb : b < 5) (hab : a ≠ b) (hm : m < 8) (hf : (fr = a ∧ w1 = wt ∧ w2 = 0) ∨ (fr = b ∧ w1 = 0 ∧ w2 = wt)) (hh : (hv = c (28 + m) + 1 ∧ mv = c (36 + m) + 0 ∧ hd = true) ∨ (hv = c (28 + m) + 0 ∧ mv = c (36 + m) + 1 ∧ hd = false)) :
    upd (upd (upd (upd (upd (upd (upd c (10 + a) (c (10 + a) + fA)) (10 + b) (c (10 + b) + fB)) (15 + fr) (c (15 + fr) + wt)) (5 + a) lA) (5 + b) lB) (28 + m) hv) (36 + m) mv j = rwM c a b m lA lB fA fB w1 w2 hd j := by
  have z0 : ∀ x : Int32, x + 0 = x := fun x => by grind
  have : j = 5 + a ∨ j = 5 + b ∨ j = 10 + a ∨ j = 10 + b ∨ j = 15 + a ∨ j = 15 + b ∨ j = 28 + m ∨ j = 36 + m ∨ (j ≠ 5 + a ∧ j ≠ 5 + b ∧ j ≠ 10 + a ∧ j ≠ 10 + b ∧ j ≠ 15 + a ∧ j ≠ 15 + b ∧ j ≠ 28 + m ∧ j ≠ 36 + m) := by omega
  simp only [upd_eq]
  unfold rwM
  rcases hf with ⟨rfl, rfl, rfl⟩ | ⟨rfl, rfl, rfl⟩
  · rcases hh with ⟨rfl, rfl, rfl⟩ | ⟨rfl, rfl, rfl⟩
    · rcases this with rfl | rfl | rfl | rfl | rfl | rfl | rfl | rfl | h <;> simp (disch := omega) only [if_pos, if_neg, eq_self, if_true, z0]
    · rcases this with rfl | rfl | rfl | rfl | rfl | rfl | rfl | rfl | h <;> simp (disch := omega) only [if_pos, if_neg, eq_self, if_true, Bool.false_eq_true, if_false, z0]
  · rcases hh with ⟨rfl, rfl, rfl⟩ | ⟨rfl, rfl, rfl⟩
    · rcases this with rfl | rfl | rfl | rfl | rfl | rfl | rfl | rfl | h <;> simp (disch := omega) only [if_pos, if_neg, eq_self, if_true, z0]
    · rcases this with rfl | rfl | rfl | rfl | rfl | rfl | rfl | rfl | h <;> simp (disch := omega) only [if_pos, if_neg, eq_self, if_true, Bool.false_eq_true, if_false, z0]
theorem meetM {s s1 s2 : ST} {m a b : Nat} {pA pB uA uB x2 X Y w1 w2 fA fB eA eB oA oB mi wt bg : Int32} {hd : Bool} (hm : m < 8) (ha : a < 5) (hb : b < 5) (hab : a ≠ b)
    (ha1 : gi s 7 m = nI a) (hb1 : gi s 8 m = nI b)
    (e1 : (if gi s 0 57 = nI m then some (gi s 0 58, s) else (fX12_meansOf (nI a) (nI m) s).bind (fun q9 => some (q9.1, q9.2)) : Option (Int32 × ST)) = some (pA, s1))
    (e2 : (if gi s1 0 57 = nI m then some (gi s1 0 59, s1) else (fX12_meansOf (nI b) (nI m) s1).bind (fun q9 => some (q9.1, q9.2)) : Option (Int32 × ST)) = some (pB, s2)) (F : LL s s2)
    (hA : drU (gi s 0 63) pA (gi s 1 11) = uA)
    (hB : drU (gi s 0 63) pB (drX (gi s 0 63) (gi s 1 11)) = uB)
    (hx : drX (gi s 0 63) (drX (gi s 0 63) (gi s 1 11)) = x2)
    (hmi : gi s 9 m = mi)
    (hX : cmV ((mi + uA) - gi s 3 a) (gi s 37 a) = X) (hY : cmV ((mi + uB) - gi s 3 b) (gi s 37 b) = Y)
    (hh : decide ((if X ≤ Y then Y - X else X - Y) ≤ gi s 1 2) = hd)
    (hwt : (if hd = true then (if X ≤ Y then Y - X else X - Y) else gi s 1 2) = wt)
    (hbg : (if X ≤ Y then Y else X) = bg)
    (hw1 : (if X ≤ Y then wt else 0) = w1) (hw2 : (if X ≤ Y then 0 else wt) = w2)
    (hfA : fnV (exB (gi s 1 8) a) (X - mi) (gi s 1 0) (gi s 1 1) (gi s 1 5) (gi s 1 6) = fA)
    (hfB : fnV (exB (gi s 1 8) b) (Y - mi) (gi s 1 0) (gi s 1 1) (gi s 1 5) (gi s 1 6) = fB)
    (heA : eaV (exB (gi s 1 8) a) (X - mi) (gi s 1 0) (gi s 38 a) = eA)
    (heB : eaV (exB (gi s 1 8) b) (Y - mi) (gi s 1 0) (gi s 38 b) = eB)
    (hoA : ovV (exB (gi s 1 8) a) (X - mi) (gi s 1 0) (gi s 1 1) (gi s 39 a) = oA)
    (hoB : ovV (exB (gi s 1 8) b) (Y - mi) (gi s 1 0) (gi s 1 1) (gi s 39 b) = oB) :
    ∃ z, fX12_meets (nI m) s = some z ∧ kM z = kM s ∧
      (∀ j, lv z j = rwM (lv s) a b m (X - mi) (Y - mi) fA fB w1 w2 hd j) ∧
      (∀ j, gi z 37 j = tw (s.1 37) a b (if hd = true then bg + gi s 10 m else X + w1) (if hd = true then bg + gi s 10 m else Y + w2) j) ∧
      (∀ j, gi z 38 j = tw (s.1 38) a b eA eB j) ∧
      (∀ j, gi z 39 j = tw (s.1 39) a b oA oB j) ∧
      (∀ j, gi z 40 j = if j = m then (if hd = true then bg else -1) else gi s 40 j) ∧
      (∀ j, gi z 41 j = if j = m then X - mi else gi s 41 j) ∧
      (∀ j, gi z 42 j = if j = m then Y - mi else gi s 42 j) ∧
      (∀ j, gi z 43 j = if j = m then wt else gi s 43 j) ∧
      (∀ j, gi z 44 j = if j = m then fA + w1 else gi s 44 j) ∧
      (∀ j, gi z 45 j = if j = m then fB + w2 else gi s 45 j) ∧
      (∀ j, gi z 36 j = gi s 36 j) ∧
      gi z 1 11 = x2 ∧ gi z 0 60 = (if hd = true then gi s 0 60 else gi s 0 60 + 1) ∧ gi z 0 61 = gi s 0 61 + ((fA + fB) + wt) ∧ gi z 0 62 = gi s 0 62 + wt := by
  have G : ∀ x j, gi s2 x j = gi s x j := fun x j => F.gi x j
  have kba : (nI b = nI a) = False := by rw [nj_eq (by omega) (by omega)]; exact eq_false (fun h => hab h.symm)
  have kab : (nI a = nI b) = False := by rw [nj_eq (by omega) (by omega)]; exact eq_false hab
  have jba : (b = a) = False := eq_false (fun h => hab h.symm)
  have jab : (a = b) = False := eq_false hab
  have F2 : kM s2 = kM s := kM_of F.1
  have L2 : lv s2 = lv s := by funext j; unfold lv; simp only [G]
  have z0 : ((0 : Int32) = 0) = True := eq_true rfl
  by_cases hxy : X ≤ Y
  · rw [if_pos hxy] at hh hbg hw1 hw2
    simp only [if_pos hxy] at hwt
    subst hbg hw1 hw2
    cases hd
    · have hh : ¬ (Y - X) ≤ gi s 1 2 := of_decide_eq_false hh
      have hwt : gi s 1 2 = wt := hwt
      rw [hwt] at hh
      have E : fX12_meets (nI m) s = some (mtS s2 m a b a x2 (-1) (X - mi) (Y - mi) wt eA oA eB oB (fA + wt) (fB + 0) (gi s 5 a + fA) (gi s 5 b + fB) (gi s 6 a + wt) (X + wt) Y (gi s 11 m + 0) (gi s 12 m + 1) (gi s 0 60 + 1) (gi s 0 61 + ((fA + fB) + wt)) (gi s 0 62 + wt)) := by
        unfold fX12_meets mtS
        rw [ck_t (inb_t hm (by decide)), lt_v, ck_t (inb_t hm (by decide)), lt_v]
        try dsimp only
        rw [ix_nI (n := m) (by omega), ha1, hb1, e1, bd_s]
        try dsimp only
        rw [e2, bd_s]
        try dsimp only
        rw [drawM, bd_s]
        try dsimp only
        rw [drawM, bd_s]
        try dsimp only
        rw [comes_ev ha hm, bd_s]
        try dsimp only
        rw [comes_ev hb hm, bd_s]
        try dsimp only
        simp (disch := omega) only [gi_ne, gi_same, si_si, G, hA, hB, hx, hmi, hX, hY]
        simp (disch := omega) only [↓ite_bind, ↓ck_bind, ↓lt_bind, ↓Option.bind_assoc, ↓bd_s, ↓lt_v, ↓ck_v, ↓reduceIte, Bool.false_eq_true, Bool.true_eq_false, bd_s, nj_add, nj_addl, nj_addr, nj_mull, nj_mulr, nj_subr, nj_pred, ix_nI, ix_lit, inb_t, inb_l, gi_si, gi_sl, gl_si, gl_sl, gi_sAr, gl_sAr, mr_si, mr_sl, mr_sm, gi_sm, gl_sm, mr_sAr, Nat.reduceEqDiff, fines_ev, G, hmi, hh, hxy, hwt, if_true, if_false, i10, i00, kba, kab, jba, jab, hfA, hfB, heA, heB, hoA, hoB]
      refine ⟨_, E, ?_, fun j => ?_, fun j => ?_, fun j => ?_, fun j => ?_, fun j => ?_, fun j => ?_, fun j => ?_, fun j => ?_, fun j => ?_, fun j => ?_, fun j => ?_, mtS_x, ?_, mtS_61, mtS_62⟩
      · rw [mtS_kM, F2]
      · rw [mtS_lv ha hb (by omega) hm, L2, lv_fined s ha, lv_fined s hb, lv_waited s ha, lv_held s hm, lv_missed s hm]
        exact upR_rwM ha hb hab hm (Or.inl ⟨rfl, rfl, rfl⟩) (Or.inr ⟨rfl, rfl, rfl⟩)
      · rw [mtS_37, G]; unfold tw
        by_cases c1 : j = a
        · rw [if_neg (by omega), if_pos c1, if_pos c1]; exact (if_neg (by decide)).symm
        · rw [if_neg c1, if_neg c1]
          by_cases c2 : j = b
          · rw [if_pos c2, if_pos c2]; show Y = (if false = true then _ else Y + 0); rw [if_neg (by decide)]; grind
          · rw [if_neg c2, if_neg c2]; rfl
      · rw [mtS_38, G]; unfold tw
        by_cases c1 : j = a
        · rw [if_neg (by omega), if_pos c1, if_pos c1]
        · rw [if_neg c1, if_neg c1]; rfl
      · rw [mtS_39, G]; unfold tw
        by_cases c1 : j = a
        · rw [if_neg (by omega), if_pos c1, if_pos c1]
        · rw [if_neg c1, if_neg c1]; rfl
      · rw [mtS_40, G]; rfl
      · rw [mtS_41, G]
      · rw [mtS_42, G]
      · rw [mtS_43, G]
      · rw [mtS_44, G]
      · rw [mtS_45, G]
      · rw [mtS_36, G]
      · rw [mtS_60]; rfl
    · have hh : (Y - X) ≤ gi s 1 2 := of_decide_eq_true hh
      have hwt : Y - X = wt := hwt
      rw [hwt] at hh
      have E : fX12_meets (nI m) s = some (mtS s2 m a b a x2 Y (X - mi) (Y - mi) wt eA oA eB oB (fA + wt) (fB + 0) (gi s 5 a + fA) (gi s 5 b + fB) (gi s 6 a + wt) (Y + gi s 10 m) (Y + gi s 10 m) (gi s 11 m + 1) (gi s 12 m + 0) (gi s 0 60 + 0) (gi s 0 61 + ((fA + fB) + wt)) (gi s 0 62 + wt)) := by
        unfold fX12_meets mtS
        rw [ck_t (inb_t hm (by decide)), lt_v, ck_t (inb_t hm (by decide)), lt_v]
        try dsimp only
        rw [ix_nI (n := m) (by omega), ha1, hb1, e1, bd_s]
        try dsimp only
        rw [e2, bd_s]
        try dsimp only
        rw [drawM, bd_s]
        try dsimp only
        rw [drawM, bd_s]
        try dsimp only
        rw [comes_ev ha hm, bd_s]
        try dsimp only
        rw [comes_ev hb hm, bd_s]
        try dsimp only
        simp (disch := omega) only [gi_ne, gi_same, si_si, G, hA, hB, hx, hmi, hX, hY]
        simp (disch := omega) only [↓ite_bind, ↓ck_bind, ↓lt_bind, ↓Option.bind_assoc, ↓bd_s, ↓lt_v, ↓ck_v, ↓reduceIte, Bool.false_eq_true, Bool.true_eq_false, bd_s, nj_add, nj_addl, nj_addr, nj_mull, nj_mulr, nj_subr, nj_pred, ix_nI, ix_lit, inb_t, inb_l, gi_si, gi_sl, gl_si, gl_sl, gi_sAr, gl_sAr, mr_si, mr_sl, mr_sm, gi_sm, gl_sm, mr_sAr, Nat.reduceEqDiff, fines_ev, G, hmi, hh, hxy, hwt, if_true, if_false, i10, i00, kba, kab, jba, jab, hfA, hfB, heA, heB, hoA, hoB]
      refine ⟨_, E, ?_, fun j => ?_, fun j => ?_, fun j => ?_, fun j => ?_, fun j => ?_, fun j => ?_, fun j => ?_, fun j => ?_, fun j => ?_, fun j => ?_, fun j => ?_, mtS_x, ?_, mtS_61, mtS_62⟩
      · rw [mtS_kM, F2]
      · rw [mtS_lv ha hb (by omega) hm, L2, lv_fined s ha, lv_fined s hb, lv_waited s ha, lv_held s hm, lv_missed s hm]
        exact upR_rwM ha hb hab hm (Or.inl ⟨rfl, rfl, rfl⟩) (Or.inl ⟨rfl, rfl, rfl⟩)
      · rw [mtS_37, G]; unfold tw
        by_cases c1 : j = a
        · rw [if_neg (by omega), if_pos c1, if_pos c1]; rfl
        · rw [if_neg c1, if_neg c1]
          by_cases c2 : j = b
          · rw [if_pos c2, if_pos c2]; rfl
          · rw [if_neg c2, if_neg c2]; rfl
      · rw [mtS_38, G]; unfold tw
        by_cases c1 : j = a
        · rw [if_neg (by omega), if_pos c1, if_pos c1]
        · rw [if_neg c1, if_neg c1]; rfl
      · rw [mtS_39, G]; unfold tw
        by_cases c1 : j = a
        · rw [if_neg (by omega), if_pos c1, if_pos c1]
        · rw [if_neg c1, if_neg c1]; rfl
      · rw [mtS_40, G]; rfl
      · rw [mtS_41, G]
      · rw [mtS_42, G]
      · rw [mtS_43, G]
      · rw [mtS_44, G]
      · rw [mtS_45, G]
      · rw [mtS_36, G]
      · rw [mtS_60]; show _ + 0 = (if true = true then _ else _); rw [if_pos rfl]; grind
  · rw [if_neg hxy] at hh hbg hw1 hw2
    simp only [if_neg hxy] at hwt
    subst hbg hw1 hw2
    cases hd
    · have hh : ¬ (X - Y) ≤ gi s 1 2 := of_decide_eq_false hh
      have hwt : gi s 1 2 = wt := hwt
      rw [hwt] at hh
      have E : fX12_meets (nI m) s = some (mtS s2 m a b b x2 (-1) (X - mi) (Y - mi) wt eA oA eB oB (fA + 0) (fB + wt) (gi s 5 a + fA) (gi s 5 b + fB) (gi s 6 b + wt) X (Y + wt) (gi s 11 m + 0) (gi s 12 m + 1) (gi s 0 60 + 1) (gi s 0 61 + ((fA + fB) + wt)) (gi s 0 62 + wt)) := by
        unfold fX12_meets mtS
        rw [ck_t (inb_t hm (by decide)), lt_v, ck_t (inb_t hm (by decide)), lt_v]
        try dsimp only
        rw [ix_nI (n := m) (by omega), ha1, hb1, e1, bd_s]
        try dsimp only
        rw [e2, bd_s]
        try dsimp only
        rw [drawM, bd_s]
        try dsimp only
        rw [drawM, bd_s]
        try dsimp only
        rw [comes_ev ha hm, bd_s]
        try dsimp only
        rw [comes_ev hb hm, bd_s]
        try dsimp only
        simp (disch := omega) only [gi_ne, gi_same, si_si, G, hA, hB, hx, hmi, hX, hY]
        simp (disch := omega) only [↓ite_bind, ↓ck_bind, ↓lt_bind, ↓Option.bind_assoc, ↓bd_s, ↓lt_v, ↓ck_v, ↓reduceIte, Bool.false_eq_true, Bool.true_eq_false, bd_s, nj_add, nj_addl, nj_addr, nj_mull, nj_mulr, nj_subr, nj_pred, ix_nI, ix_lit, inb_t, inb_l, gi_si, gi_sl, gl_si, gl_sl, gi_sAr, gl_sAr, mr_si, mr_sl, mr_sm, gi_sm, gl_sm, mr_sAr, Nat.reduceEqDiff, fines_ev, G, hmi, hh, hxy, hwt, if_true, if_false, i10, i00, kba, kab, jba, jab, hfA, hfB, heA, heB, hoA, hoB]
      refine ⟨_, E, ?_, fun j => ?_, fun j => ?_, fun j => ?_, fun j => ?_, fun j => ?_, fun j => ?_, fun j => ?_, fun j => ?_, fun j => ?_, fun j => ?_, fun j => ?_, mtS_x, ?_, mtS_61, mtS_62⟩
      · rw [mtS_kM, F2]
      · rw [mtS_lv ha hb (by omega) hm, L2, lv_fined s ha, lv_fined s hb, lv_waited s hb, lv_held s hm, lv_missed s hm]
        exact upR_rwM ha hb hab hm (Or.inr ⟨rfl, rfl, rfl⟩) (Or.inr ⟨rfl, rfl, rfl⟩)
      · rw [mtS_37, G]; unfold tw
        by_cases c1 : j = a
        · rw [if_neg (by omega), if_pos c1, if_pos c1]; show X = (if false = true then _ else X + 0); rw [if_neg (by decide)]; grind
        · rw [if_neg c1, if_neg c1]
          by_cases c2 : j = b
          · rw [if_pos c2, if_pos c2]; exact (if_neg (by decide)).symm
          · rw [if_neg c2, if_neg c2]; rfl
      · rw [mtS_38, G]; unfold tw
        by_cases c1 : j = a
        · rw [if_neg (by omega), if_pos c1, if_pos c1]
        · rw [if_neg c1, if_neg c1]; rfl
      · rw [mtS_39, G]; unfold tw
        by_cases c1 : j = a
        · rw [if_neg (by omega), if_pos c1, if_pos c1]
        · rw [if_neg c1, if_neg c1]; rfl
      · rw [mtS_40, G]; rfl
      · rw [mtS_41, G]
      · rw [mtS_42, G]
      · rw [mtS_43, G]
      · rw [mtS_44, G]
      · rw [mtS_45, G]
      · rw [mtS_36, G]
      · rw [mtS_60]; rfl
    · have hh : (X - Y) ≤ gi s 1 2 := of_decide_eq_true hh
      have hwt : X - Y = wt := hwt
      rw [hwt] at hh
      have E : fX12_meets (nI m) s = some (mtS s2 m a b b x2 X (X - mi) (Y - mi) wt eA oA eB oB (fA + 0) (fB + wt) (gi s 5 a + fA) (gi s 5 b + fB) (gi s 6 b + wt) (X + gi s 10 m) (X + gi s 10 m) (gi s 11 m + 1) (gi s 12 m + 0) (gi s 0 60 + 0) (gi s 0 61 + ((fA + fB) + wt)) (gi s 0 62 + wt)) := by
        unfold fX12_meets mtS
        rw [ck_t (inb_t hm (by decide)), lt_v, ck_t (inb_t hm (by decide)), lt_v]
        try dsimp only
        rw [ix_nI (n := m) (by omega), ha1, hb1, e1, bd_s]
        try dsimp only
        rw [e2, bd_s]
        try dsimp only
        rw [drawM, bd_s]
        try dsimp only
        rw [drawM, bd_s]
        try dsimp only
        rw [comes_ev ha hm, bd_s]
        try dsimp only
        rw [comes_ev hb hm, bd_s]
        try dsimp only
        simp (disch := omega) only [gi_ne, gi_same, si_si, G, hA, hB, hx, hmi, hX, hY]
        simp (disch := omega) only [↓ite_bind, ↓ck_bind, ↓lt_bind, ↓Option.bind_assoc, ↓bd_s, ↓lt_v, ↓ck_v, ↓reduceIte, Bool.false_eq_true, Bool.true_eq_false, bd_s, nj_add, nj_addl, nj_addr, nj_mull, nj_mulr, nj_subr, nj_pred, ix_nI, ix_lit, inb_t, inb_l, gi_si, gi_sl, gl_si, gl_sl, gi_sAr, gl_sAr, mr_si, mr_sl, mr_sm, gi_sm, gl_sm, mr_sAr, Nat.reduceEqDiff, fines_ev, G, hmi, hh, hxy, hwt, if_true, if_false, i10, i00, kba, kab, jba, jab, hfA, hfB, heA, heB, hoA, hoB]
      refine ⟨_, E, ?_, fun j => ?_, fun j => ?_, fun j => ?_, fun j => ?_, fun j => ?_, fun j => ?_, fun j => ?_, fun j => ?_, fun j => ?_, fun j => ?_, fun j => ?_, mtS_x, ?_, mtS_61, mtS_62⟩
      · rw [mtS_kM, F2]
      · rw [mtS_lv ha hb (by omega) hm, L2, lv_fined s ha, lv_fined s hb, lv_waited s hb, lv_held s hm, lv_missed s hm]
        exact upR_rwM ha hb hab hm (Or.inr ⟨rfl, rfl, rfl⟩) (Or.inl ⟨rfl, rfl, rfl⟩)
      · rw [mtS_37, G]; unfold tw
        by_cases c1 : j = a
        · rw [if_neg (by omega), if_pos c1, if_pos c1]; rfl
        · rw [if_neg c1, if_neg c1]
          by_cases c2 : j = b
          · rw [if_pos c2, if_pos c2]; rfl
          · rw [if_neg c2, if_neg c2]; rfl
      · rw [mtS_38, G]; unfold tw
        by_cases c1 : j = a
        · rw [if_neg (by omega), if_pos c1, if_pos c1]
        · rw [if_neg c1, if_neg c1]; rfl
      · rw [mtS_39, G]; unfold tw
        by_cases c1 : j = a
        · rw [if_neg (by omega), if_pos c1, if_pos c1]
        · rw [if_neg c1, if_neg c1]; rfl
      · rw [mtS_40, G]; rfl
      · rw [mtS_41, G]
      · rw [mtS_42, G]
      · rw [mtS_43, G]
      · rw [mtS_44, G]
      · rw [mtS_45, G]
      · rw [mtS_36, G]
      · rw [mtS_60]; show _ + 0 = (if true = true then _ else _); rw [if_pos rfl]; grind
