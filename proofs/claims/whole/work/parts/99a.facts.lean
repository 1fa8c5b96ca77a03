/-! RULES: comparisons by both -/
section SA
variable {B : Nat → Nat} {n R : Nat}
def cmpK (q2 : ST) : Option ST := (fX12_sign q2).bind (fun q4 => (if q4 = 60 then some false else if q4 = 61 then some false else if q4 = 62 then some false else some true : Option Bool).bind (fun b5 => if b5 = true then (fX12_fails 0 (gi q2 0 27) q2).bind (fun q9 => some q9) else (fX12_isCounted (gi q2 0 27) q2).bind (fun q11 => lt (si q11 0 27 ((gi q11 0 27) + 1)) (fun s12 => (if q4 = 61 then some false else (fX12_sign s12).bind (fun q17 => if q17 = 61 then some true else some false) : Option Bool).bind (fun b13 => (if b13 = true then some 1 else some 0 : Option (Int32)).bind (fun w18 => (if w18 = 0 then some 0 else some 1 : Option (Int32)).bind (fun w21 => lt (si s12 0 27 ((gi s12 0 27) + w21)) (fun s24 => (fX12_sum s24).bind (fun q26 => (if q4 = 61 then some 6 else if q4 = 60 then if w18 = 0 then some 4 else some 5 else if w18 = 0 then some 8 else some 7 : Option (Int32)).bind (fun w27 => (fX12_entry w27 0 q26).bind (fun q31 => some q31)))))))))))
theorem cmp_K (s : ST) : fX12_compared s = (fX12_sum s).bind cmpK := rfl
theorem b18 (b : Bool) : ∃ j, j ≤ 1 ∧ (if b = true then some 1 else some 0 : Option Int32) = some (nI j) ∧ (if nI j = 0 then some 0 else some 1 : Option Int32) = some (nI j) ∧ (b = true ↔ j = 1) := by
  cases b
  · exact ⟨0, by omega, rfl, rfl, by simp⟩
  · exact ⟨1, by omega, rfl, rfl, by simp⟩
/-- behind the sign of a comparison, with a fault -/
theorem cmpT {b f p : Nat} {q4 : Int32} {z : ST} (h : FF B n b f z) (hp : gi z 0 27 = nI p) (hpb : p ≤ 400) : ∃ w, (lt (si z 0 27 ((gi z 0 27) + 1)) (fun s12 => (if q4 = 61 then some false else (fX12_sign s12).bind (fun q17 => if q17 = 61 then some true else some false) : Option Bool).bind (fun b13 => (if b13 = true then some 1 else some 0 : Option (Int32)).bind (fun w18 => (if w18 = 0 then some 0 else some 1 : Option (Int32)).bind (fun w21 => lt (si s12 0 27 ((gi s12 0 27) + w21)) (fun s24 => (fX12_sum s24).bind (fun q26 => (if q4 = 61 then some 6 else if q4 = 60 then if w18 = 0 then some 4 else some 5 else if w18 = 0 then some 8 else some 7 : Option (Int32)).bind (fun w27 => (fX12_entry w27 0 q26).bind (fun q31 => some q31))))))))) = some w ∧ FF B n 402 f w ∧ FX (uSm R) z w := by
  have h1 : FF B n 402 f (si z 0 27 (nI (p + 1))) := FF_c h (by omega)
  rw [lt_v, hp, nj_addr]
  have e13 : ∃ o : Bool, (if q4 = 61 then some false else (fX12_sign (si z 0 27 (nI (p + 1)))).bind (fun q17 => if q17 = 61 then some true else some false) : Option Bool) = some o := by
    split
    · exact ⟨_, rfl⟩
    · rw [sg_ev h1.1.1 (gi_same _ _ _ _) (by omega), bd_s]
      generalize (if p + 1 < n then nI (B (p + 1)) else -1) = q
      by_cases c : q = 61
      · exact ⟨true, if_pos c⟩
      · exact ⟨false, if_neg c⟩
  obtain ⟨o, ho⟩ := e13
  obtain ⟨j, j1, j2, j3, -⟩ := b18 o
  rw [ho, bd_s, j2, bd_s, j3, bd_s, lt_v, gi_same, nj_add, si_si]
  obtain ⟨w, w1, w2, w3⟩ := sumF (R := R) (FF_c (b2 := 402) (q := p + 1 + j) h (by omega)) (by omega) (by omega)
  have e27 : ∃ v : Int32, (if q4 = 61 then some 6 else if q4 = 60 then if nI j = 0 then some 4 else some 5 else if nI j = 0 then some 8 else some 7 : Option (Int32)) = some v := by
    split
    · exact ⟨_, rfl⟩
    · split
      · split
        · exact ⟨_, rfl⟩
        · exact ⟨_, rfl⟩
      · split
        · exact ⟨_, rfl⟩
        · exact ⟨_, rfl⟩
  obtain ⟨v, hv⟩ := e27
  rw [w1, bd_s, hv, bd_s, ent_F (FF_ne w2), bd_s]
  exact ⟨w, rfl, w2, fq27.trans w3⟩
theorem cmpF {f : Nat} {z : ST} (h : FF B n 400 f z) : ∃ w, cmpK z = some w ∧ FF B n 402 f w ∧ FX (uSm R) z w := by
  have nf := FF_ne h
  obtain ⟨⟨h0, h5⟩, h1, h2, h3, p, h4, h6⟩ := h
  have hF : FF B n 400 f z := ⟨⟨h0, h5⟩, h1, h2, h3, p, h4, h6⟩
  unfold cmpK
  rw [sg_ev h0 h6 (by omega), bd_s]
  generalize (if p < n then nI (B p) else -1) = q
  have e5 : ∃ o : Bool, (if q = 60 then some false else if q = 61 then some false else if q = 62 then some false else some true : Option Bool) = some o := by
    split
    · exact ⟨_, rfl⟩
    · split
      · exact ⟨_, rfl⟩
      · split
        · exact ⟨_, rfl⟩
        · exact ⟨_, rfl⟩
  obtain ⟨o, ho⟩ := e5
  rw [ho, bd_s]
  cases o with
  | true => exact ⟨z, by rw [if_pos rfl, failN nf, bd_s], ⟨⟨h0, h5⟩, h1, h2, h3, p, by omega, h6⟩, FX.rfl⟩
  | false =>
    rw [if_neg nft, cnt_F nf, bd_s]
    obtain ⟨w, w1, w2, w3⟩ := cmpT (R := R) (p := p) (q4 := q) (FF_33 (y := gi z 0 33 + 1) hF) (by rw [gi_dif (by decide)]; exact h6) h4
    exact ⟨w, w1, w2, FX.trans (FX.si (by unfold uSm; omega)) w3⟩
theorem xC_R : ∀ a j, xCm a j → xRl a j := by unfold xCm xSm xRl; omega
theorem xS_C : ∀ a j, xSm a j → xCm a j := fun a j h => Or.inl h
theorem sg_cmp {op : Nat} (s : ST) (h : 4 ≤ op ∧ op ≤ 8) : fX4_isOfSum (nI (sg op)) s = some 0 ∧ fX4_isOfFact (nI (sg op)) s = some 1 ∧ tgN op = 4 := by
  obtain rfl | rfl | rfl | rfl | rfl : op = 4 ∨ op = 5 ∨ op = 6 ∨ op = 7 ∨ op = 8 := by omega
  all_goals exact ⟨rfl, rfl, rfl⟩
/-- the sign of a comparison -/
theorem cmp_tok {st pl : Nat} {tok val : Int32} {z' : ST} (h : Tok B n st tok pl val) (h1 : st < n) (h2 : B st = 60 ∨ B st = 61 ∨ B st = 62) (tv : TV z' B n) (h27 : gi z' 0 27 = nI st) (hn : n ≤ 400) :
    ∃ op j, 4 ≤ op ∧ op ≤ 8 ∧ j ≤ 1 ∧ pl = st + 1 + j ∧ pl ≤ n ∧ (∀ s, fX4_ofToken tok s = some (nI (sg op))) ∧ ∀ q11, TV q11 B n → gi q11 0 27 = nI st → (lt (si q11 0 27 ((gi q11 0 27) + 1)) (fun s12 => (if nI (B st) = 61 then some false else (fX12_sign s12).bind (fun q17 => if q17 = 61 then some true else some false) : Option Bool).bind (fun b13 => (if b13 = true then some 1 else some 0 : Option (Int32)).bind (fun w18 => (if w18 = 0 then some 0 else some 1 : Option (Int32)).bind (fun w21 => lt (si s12 0 27 ((gi s12 0 27) + w21)) (fun s24 => (fX12_sum s24).bind (fun q26 => (if nI (B st) = 61 then some 6 else if nI (B st) = 60 then if w18 = 0 then some 4 else some 5 else if w18 = 0 then some 8 else some 7 : Option (Int32)).bind (fun w27 => (fX12_entry w27 0 q26).bind (fun q31 => some q31))))))))) = (fX12_sum (si q11 0 27 (nI pl))).bind (fun q26 => (fX12_entry (nI op) 0 q26).bind (fun q31 => some q31)) := by
  have hd : isD (B st) = false := by rcases h2 with e | e | e <;> rw [e] <;> rfl
  have hL : isL (B st) = false := by rcases h2 with e | e | e <;> rw [e] <;> rfl
  rcases h with ⟨e1, _⟩ | ⟨_, e2, _⟩ | ⟨_, _, e3, _⟩ | ⟨_, _, _, e4⟩
  · omega
  · rw [hd] at e2; cases e2
  · rw [hL] at e3; cases e3
  · rcases e4 with ⟨⟨e5, e6, e7⟩, e8, rfl⟩ | ⟨e5, e6, rfl⟩
    · rcases e5 with e5 | e5
      · refine ⟨5, 1, by omega, by omega, by omega, rfl, by omega, fun s => by rw [e8, e5]; rfl, fun q11 t q => ?_⟩
        rw [lt_v, q, nj_addr, e5, if_neg (show ¬ nI 60 = 61 by decide), sg_ev (TV_si t (by decide)) (gi_same _ _ _ _) (by omega), bd_s, if_pos e6, e7, if_pos (show nI 61 = 61 from rfl), bd_s, if_pos rfl, bd_s, if_neg n10, bd_s, lt_v, gi_same, nj_addr, si_si]
        rfl
      · refine ⟨7, 1, by omega, by omega, by omega, rfl, by omega, fun s => by rw [e8, e5]; rfl, fun q11 t q => ?_⟩
        rw [lt_v, q, nj_addr, e5, if_neg (show ¬ nI 62 = 61 by decide), sg_ev (TV_si t (by decide)) (gi_same _ _ _ _) (by omega), bd_s, if_pos e6, e7, if_pos (show nI 61 = 61 from rfl), bd_s, if_pos rfl, bd_s, if_neg n10, bd_s, lt_v, gi_same, nj_addr, si_si]
        rfl
    · rcases h2 with e | e | e
      · refine ⟨4, 0, by omega, by omega, by omega, rfl, by omega, fun s => by rw [e6, e]; rfl, fun q11 t q => ?_⟩
        have ne : ¬ (if st + 1 < n then nI (B (st + 1)) else -1) = 61 := by
          by_cases c : st + 1 < n
          · have := (t.2.2 _ c).1
            rw [if_pos c, nj_eqr (by omega) (by decide)]; exact fun q => e5 ⟨Or.inl e, c, q⟩
          · rw [if_neg c]; decide
        rw [lt_v, q, nj_addr, e, if_neg (show ¬ nI 60 = 61 by decide), sg_ev (TV_si t (by decide)) (gi_same _ _ _ _) (by omega), bd_s, if_neg ne, bd_s, if_neg nft, bd_s, if_pos rfl, bd_s, lt_v, gi_same, nj_addr, si_si]
        rfl
      · refine ⟨6, 0, by omega, by omega, by omega, rfl, by omega, fun s => by rw [e6, e]; rfl, fun q11 t q => ?_⟩
        rw [lt_v, q, nj_addr, e, if_pos (show nI 61 = 61 from rfl), bd_s, if_neg nft, bd_s, if_pos rfl, bd_s, lt_v, gi_same, nj_addr, si_si]
        rfl
      · refine ⟨8, 0, by omega, by omega, by omega, rfl, by omega, fun s => by rw [e6, e]; rfl, fun q11 t q => ?_⟩
        have ne : ¬ (if st + 1 < n then nI (B (st + 1)) else -1) = 61 := by
          by_cases c : st + 1 < n
          · have := (t.2.2 _ c).1
            rw [if_pos c, nj_eqr (by omega) (by decide)]; exact fun q => e5 ⟨Or.inr e, c, q⟩
          · rw [if_neg c]; decide
        rw [lt_v, q, nj_addr, e, if_neg (show ¬ nI 62 = 61 by decide), sg_ev (TV_si t (by decide)) (gi_same _ _ _ _) (by omega), bd_s, if_neg ne, bd_s, if_neg nft, bd_s, if_pos rfl, bd_s, lt_v, gi_same, nj_addr, si_si]
        rfl
end SA
