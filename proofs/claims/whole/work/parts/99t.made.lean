/-! RULES: the rule that was made -/
theorem Ext.sA {n i : Nat} {h h' : PH} {f : Nat → Int32} (e : Ext n h h') (hi : n ≤ i) : Ext n h (sA h' i f) := by
  refine ⟨e.1, fun a ha => ?_⟩
  obtain ⟨e1, e2, e3⟩ := e.2 a ha
  refine ⟨e1, ?_, e3⟩
  rw [hI_sAn _ _ (show a ≠ i by omega)]
  exact e2
theorem Ext.copy {n a na N : Nat} {h h' : PH} (e : Ext n h h') : Ext n h (hCopy h' a na N) := by
  unfold hCopy
  exact Ext.sA (Ext.new e) e.1
theorem cpF_at {f : Nat → Int32} {na N i : Nat} (h : N ≤ na) (hi : i < N) : cpF f na N i = f i := by
  unfold cpF
  by_cases e : N = na
  · rw [if_pos e]
  · rw [if_neg e, if_pos (by omega)]
    exact vc0 hi
theorem hI_copied {h : PH} {a na N q : Nat} (e : hN h = q) : hI (hCopy h a na N) q = cpF (hI h a) na N := by
  unfold hCopy
  rw [e]
  exact hI_sA _ _ _
theorem Hd_put {h : PH} {b k v : Nat} (hb : b < hN h) : Hd (sR h b k (some v)) b k v := Hd_set hb rfl
theorem rtw_all {t : PH} {s : ST} {L c q : Nat} (eL : gi s 11 2 = nI L) (ec : gi s 11 5 = nI c) (hL : L ≤ 400) (hc : c ≤ 12) (hq : 48 + t.1 = q) :
    Ext q (cW t s) (rtwH t s) ∧ hN (rtwH t s) = q + 4 ∧ Ob (rtwH t s) q 2 ∧ Hd (rtwH t s) q 1 (q + 1) ∧ Hd (rtwH t s) q 2 (q + 2) ∧ Hd (rtwH t s) q 3 (q + 3) ∧ Ar (rtwH t s) (q + 1) 0 L ∧ Ar (rtwH t s) (q + 2) 0 (c + 1) ∧ Ar (rtwH t s) (q + 3) 0 c ∧ hI (rtwH t s) q 0 = nI c ∧ (∀ i, i < L → hI (rtwH t s) (q + 1) i = gi s 12 i) ∧ (∀ i, i < c + 1 → hI (rtwH t s) (q + 2) i = gi s 13 i) ∧ (∀ i, i < c → hI (rtwH t s) (q + 3) i = gi s 14 i) := by
  unfold rtwH
  rw [eL, ec, ix_nI (by omega), ix_nI (by omega), hq]
  have hq48 : 48 ≤ q := by omega
  have n0 : hN (cW t s) = q := hq
  have g12 : hI (cW t s) 12 = gi s 12 := rfl
  have g13 : hI (cW t s) 13 = gi s 13 := rfl
  have g14 : hI (cW t s) 14 = gi s 14 := rfl
  have x0 : Ext q (cW t s) (cW t s) := Ext.rfl (by omega)
  generalize hg : cW t s = h at n0 g12 g13 g14 x0 ⊢
  clear hg
  have x1 : Ext q h (hNew h (.inl 2)) := x0.new
  have o1 : Ob (hNew h (.inl 2)) q 2 := Ob.madeX n0
  have n1 : hN (hNew h (.inl 2)) = q + 1 := hn_new n0
  generalize hNew h (.inl 2) = h1 at x1 o1 n1 ⊢
  have x2 : Ext q h (hCopy h1 12 400 L) := x1.copy
  have o2 : Ob (hCopy h1 12 400 L) q 2 := o1.copy
  have n2 : hN (hCopy h1 12 400 L) = q + 2 := hn_copy n1
  have a2 : Ar (hCopy h1 12 400 L) (q + 1) 0 L := Ar.copied n1
  have c2 : ∀ i, i < L → hI (hCopy h1 12 400 L) (q + 1) i = gi s 12 i := fun i hi => by
    rw [hI_copied n1, cpF_at hL hi, (x1.2 12 (by omega)).2.1, g12]
  generalize hCopy h1 12 400 L = hh2 at x2 o2 n2 a2 c2 ⊢
  have x3 : Ext q h (hCopy hh2 13 13 (c + 1)) := x2.copy
  have o3 : Ob (hCopy hh2 13 13 (c + 1)) q 2 := o2.copy
  have n3 : hN (hCopy hh2 13 13 (c + 1)) = q + 3 := hn_copy n2
  have a3 : Ar (hCopy hh2 13 13 (c + 1)) (q + 1) 0 L := a2.copy
  have b3 : Ar (hCopy hh2 13 13 (c + 1)) (q + 2) 0 (c + 1) := Ar.copied n2
  have c3 : ∀ i, i < L → hI (hCopy hh2 13 13 (c + 1)) (q + 1) i = gi s 12 i := fun i hi => by
    rw [hI_copy (by omega)]; exact c2 i hi
  have d3 : ∀ i, i < c + 1 → hI (hCopy hh2 13 13 (c + 1)) (q + 2) i = gi s 13 i := fun i hi => by
    rw [hI_copied n2, cpF_at (by omega) hi, (x2.2 13 (by omega)).2.1, g13]
  generalize hCopy hh2 13 13 (c + 1) = h3 at x3 o3 n3 a3 b3 c3 d3 ⊢
  have x4 : Ext q h (hCopy h3 14 12 c) := x3.copy
  have o4 : Ob (hCopy h3 14 12 c) q 2 := o3.copy
  have n4 : hN (hCopy h3 14 12 c) = q + 4 := hn_copy n3
  have a4 : Ar (hCopy h3 14 12 c) (q + 1) 0 L := a3.copy
  have b4 : Ar (hCopy h3 14 12 c) (q + 2) 0 (c + 1) := b3.copy
  have e4 : Ar (hCopy h3 14 12 c) (q + 3) 0 c := Ar.copied n3
  have c4 : ∀ i, i < L → hI (hCopy h3 14 12 c) (q + 1) i = gi s 12 i := fun i hi => by
    rw [hI_copy (by omega)]; exact c3 i hi
  have d4 : ∀ i, i < c + 1 → hI (hCopy h3 14 12 c) (q + 2) i = gi s 13 i := fun i hi => by
    rw [hI_copy (by omega)]; exact d3 i hi
  have f4 : ∀ i, i < c → hI (hCopy h3 14 12 c) (q + 3) i = gi s 14 i := fun i hi => by
    rw [hI_copied n3, cpF_at (by omega) hi, (x3.2 14 (by omega)).2.1, g14]
  generalize hCopy h3 14 12 c = h4 at x4 o4 n4 a4 b4 e4 c4 d4 f4 ⊢
  refine ⟨?_, ?_, ob_Rule o4, ?_, ?_, ?_, ar_Rule a4, ar_Rule b4, ar_Rule e4, ?_, fun i hi => ?_, fun i hi => ?_, fun i hi => ?_⟩
  · unfold i_Rule
    exact (((x4.sI (Nat.le_refl _)).sR (Nat.le_refl _)).sR (Nat.le_refl _)).sR (Nat.le_refl _)
  · exact hn_Rule n4
  · unfold i_Rule
    exact Hd.sR (Or.inr (by decide)) (Hd.sR (Or.inr (by decide)) (Hd_put (show q < hN (sI h4 q 0 (nI c)) from o4.1)))
  · unfold i_Rule
    exact Hd.sR (Or.inr (by decide)) (Hd_put (show q < hN (sR (sI h4 q 0 (nI c)) q 1 (some (q + 1))) from o4.1))
  · unfold i_Rule
    exact Hd_put (show q < hN (sR (sR (sI h4 q 0 (nI c)) q 1 (some (q + 1))) q 2 (some (q + 2))) from o4.1)
  · unfold i_Rule
    rw [hI_sR, hI_sR, hI_sR]
    unfold sI
    rw [hI_sA]
    exact if_pos rfl
  · rw [hI_Rule (by omega)]; exact c4 i hi
  · rw [hI_Rule (by omega)]; exact d4 i hi
  · rw [hI_Rule (by omega)]; exact f4 i hi
/-- the heap behind rule(): what is old, what is new -/
theorem rul_all {t : PH} {s : ST} {L c q R : Nat} (eL : gi s 11 2 = nI L) (ec : gi s 11 5 = nI c) (e4 : gi s 0 4 = nI R) (hR6 : R < 6) (hL : L ≤ 400) (hc : c ≤ 12) (hq : 48 + t.1 = q) :
    hN (ruH t s) = q + 4 ∧ (∀ x, x < q → hS (ruH t s) x = cSh t x) ∧ (∀ x j, x < q → ¬ (x = 0 ∧ j = 4) → hI (ruH t s) x j = gi s x j) ∧ hI (ruH t s) 0 4 = nI (R + 1) ∧ (∀ x k, x < q → ¬ (x = 16 ∧ k = R) → hR (ruH t s) x k = hR (cW t s) x k) ∧ hR (ruH t s) 16 R = some q ∧ isRl (uT (ruH t s)) q ∧ alT (uT (ruH t s)) (q + 1) = L ∧ alT (uT (ruH t s)) (q + 2) = c + 1 ∧ alT (uT (ruH t s)) (q + 3) = c ∧ hI (ruH t s) q 0 = nI c ∧ (∀ i, i < L → hI (ruH t s) (q + 1) i = gi s 12 i) ∧ (∀ i, i < c + 1 → hI (ruH t s) (q + 2) i = gi s 13 i) ∧ (∀ i, i < c → hI (ruH t s) (q + 3) i = gi s 14 i) := by
  obtain ⟨x, n, o, d1, d2, d3, a1, a2, a3, v0, v1, v2, v3⟩ := rtw_all eL ec hL hc hq
  unfold ruH
  rw [e4, ix_nI (by omega), hq, nj_addr]
  have xS : ∀ y, hS (cW t s) y = cSh t y := fun _ => rfl
  have xI : ∀ y j, hI (cW t s) y j = gi s y j := fun _ _ => rfl
  have hq48 : 48 ≤ q := by omega
  generalize rtwH t s = h at x n o d1 d2 d3 a1 a2 a3 v0 v1 v2 v3 ⊢
  have hN2 : hN (sI (sR h 16 R (some q)) 0 4 (nI (R + 1))) = q + 4 := n
  have hS2 : ∀ y, hS (sI (sR h 16 R (some q)) 0 4 (nI (R + 1))) y = hS h y := fun _ => rfl
  have hI2 : ∀ y, y ≠ 0 → hI (sI (sR h 16 R (some q)) 0 4 (nI (R + 1))) y = hI h y := fun y e => by
    unfold sI
    rw [hI_sAn _ _ e]; rfl
  have hI0 : ∀ j, hI (sI (sR h 16 R (some q)) 0 4 (nI (R + 1))) 0 j = if j = 4 then nI (R + 1) else hI h 0 j := fun j => by
    unfold sI
    rw [hI_sA]; rfl
  have hR2 : ∀ y k, hR (sI (sR h 16 R (some q)) 0 4 (nI (R + 1))) y k = if y = 16 then (if k = R then some q else hR h 16 k) else hR h y k := fun y k => hR_sRe h 16 R (some q) y k
  generalize sI (sR h 16 R (some q)) 0 4 (nI (R + 1)) = H at hN2 hS2 hI2 hI0 hR2 ⊢
  have sh : ∀ y, 48 ≤ y → cSh (uT H) y = hS h y := fun y hy => by rw [uT_sh hy, hS2]
  have al : ∀ y m, 48 ≤ y → hS h y = .inr (0, m) → alT (uT H) y = m := fun y m hy e => by unfold alT; rw [sh y hy, e]
  refine ⟨hN2, fun y hy => ?_, fun y j hy hne => ?_, ?_, fun y k hy hne => ?_, ?_, ⟨?_, ?_, ⟨?_, ?_, ?_⟩, ?_, ?_, ?_⟩, al _ _ (by omega) a1.2, al _ _ (by omega) a2.2, al _ _ (by omega) a3.2, ?_, fun i hi => ?_, fun i hi => ?_, fun i hi => ?_⟩
  · rw [hS2, (x.2 y hy).1, xS]
  · by_cases e : y = 0
    · subst e
      rw [hI0, if_neg (fun e => hne ⟨rfl, e⟩), (x.2 0 hy).2.1, xI]
    · rw [hI2 y e, (x.2 y hy).2.1, xI]
  · rw [hI0, if_pos rfl]
  · rw [hR2]
    by_cases e : y = 16
    · subst e
      rw [if_pos rfl, if_neg (fun e => hne ⟨rfl, e⟩), (x.2 16 hy).2.2]
    · rw [if_neg e, (x.2 y hy).2.2]
  · rw [hR2, if_pos rfl, if_pos rfl]
  · show q + 4 ≤ 48 + (hN H - 48)
    omega
  · rw [sh _ (by omega)]; exact o.2
  · rw [uT_rf (by omega), hR2, if_neg (by omega)]; exact d1.2
  · rw [uT_rf (by omega), hR2, if_neg (by omega)]; exact d2.2
  · rw [uT_rf (by omega), hR2, if_neg (by omega)]; exact d3.2
  · rw [al _ _ (by omega) a1.2, sh _ (by omega)]; exact a1.2
  · rw [al _ _ (by omega) a2.2, sh _ (by omega)]; exact a2.2
  · rw [al _ _ (by omega) a3.2, sh _ (by omega)]; exact a3.2
  · rw [hI2 _ (by omega)]; exact v0
  · rw [hI2 _ (by omega)]; exact v1 i hi
  · rw [hI2 _ (by omega)]; exact v2 i hi
  · rw [hI2 _ (by omega)]; exact v3 i hi
/-- what holds between calls, behind rule() -/
theorem IN0_ru {t t' : PH} {C C' V V' : Vw} {d d' R R' : Nat} (h : IN0 t C V d) (hd : d ≤ d') (e4 : C 0 4 = nI R) (hR6 : R ≤ 6) (hs : ∀ x, 48 ≤ x → x < 48 + t.1 → cSh t' x = cSh t x ∧ ∀ k, cRf t' x k = cRf t x k) (ht : t.1 ≤ t'.1)
    (r16 : ∀ j, j < R → rR t' 16 j = rR t 16 j) (r29 : ∀ j, rR t' 29 j = rR t 29 j)
    (eC : ∀ x j, x < 48 + t.1 → (17 ≤ x ∧ x ≤ 28 ∨ 48 ≤ x) → C' x j = C x j) (e11 : C' 1 1 = 0) (e26 : V' 0 26 = 0) (e35 : V' 0 35 = V 0 35) (e66 : V' 0 66 = V 0 66) (e04 : C' 0 4 = nI R') (e30 : V' 0 30 = nI R')
    (eV : ∀ a j, ((1 ≤ a ∧ a ≤ 18) ∨ a = 46 ∨ a = 55 ∨ a = 54 ∨ ((a = 27 ∨ a = 28) ∧ j < 300 * R) ∨ (a = 29 ∧ j < R) ∨ ((a = 30 ∨ a = 31 ∨ a = 32) ∧ j < 12 * R)) → V' a j = V a j)
    (hN : R' = R ∨ (R' = R + 1 ∧ R < 6 ∧ ∃ q, rR t' 16 R = some q ∧ RlS t' C' V' q R ∧ 48 + t.1 ≤ q)) : IN0 t' C' V' d' := by
  obtain ⟨tp, w35, R0, own, r0, r1, r2, r3, r4, r5⟩ := h
  have hRR : R0 = R := by
    rw [r1, nj_eq (by omega) (by omega)] at e4; exact e4
  subst hRR
  have hV : EqV V V' := ⟨fun j _ => eV _ _ (by omega), fun j _ => eV _ _ (by omega), fun j _ => eV _ _ (by omega), fun j _ => eV _ _ (by omega), fun j _ => eV _ _ (by omega), fun j _ => eV _ _ (by omega), fun j _ => eV _ _ (by omega), fun j _ => eV _ _ (by omega), fun j _ => eV _ _ (by omega), fun j _ => eV _ _ (by omega), fun j _ => eV _ _ (by omega), fun j _ => eV _ _ (by omega), fun j _ => eV _ _ (by omega), fun j _ => eV _ _ (by omega), fun j _ => eV _ _ (by omega), fun j _ => eV _ _ (by omega), fun j _ => eV _ _ (by omega), fun j _ => eV _ _ (by omega), fun j _ => eV _ _ (by omega)⟩
  have hRle : R0 ≤ R' := by rcases hN with e | ⟨e, _⟩ <;> omega
  refine ⟨⟨0, by omega, e11, e26, fun i hi => absurd hi (by omega)⟩, by rw [e35]; exact w35, R', fun x => if 48 + t.1 ≤ x then R0 else own x, by rcases hN with e | ⟨e, e2, _⟩ <;> omega, e04, e30, fun r hr => ?_, WhR_eq (EqW_row (fun i hi => funext (fun j => eC _ _ (by omega) (by omega)))) hV e66 hRle hd r4, fun k hk => ?_⟩
  · by_cases hr0 : r < R0
    · obtain ⟨q, q1, q2, q3⟩ := r3 r hr0
      have hq48 := q2.1
      have hq4 := q2.2.1.1
      refine ⟨q, by rw [r16 r hr0]; exact q1, RlS_eq hs ht (fun i hi => funext (fun j => eC _ _ (by omega) (by omega))) (fun i hi => eV _ _ (by omega)) (fun i hi => eV _ _ (by omega)) (eV _ _ (by omega)) (fun i hi => eV _ _ (by omega)) (fun i hi => eV _ _ (by omega)) (fun i hi => eV _ _ (by omega)) q2, fun i hi => ?_⟩
      show (if 48 + t.1 ≤ q + i then R0 else own (q + i)) = r
      rw [if_neg (by omega)]; exact q3 i hi
    · rcases hN with e | ⟨e, e2, q, q1, q2, q3⟩
      · omega
      · obtain rfl : r = R0 := by omega
        exact ⟨q, q1, q2, fun i hi => if_pos (by omega)⟩
  · rcases r5 k hk with ⟨q1, q2⟩ | ⟨w, q1, q2, q3, q4, q5, q6⟩
    · exact Or.inl ⟨by rw [r29]; exact q1, by rw [eV _ _ (by omega)]; exact q2⟩
    · have h12 := q3.1
      refine Or.inr ⟨w, by rw [r29]; exact q1, by rw [eV _ _ (by omega)]; exact q2, isWh_ext q4 hs ht q3, q4, fun i hi => ?_, WhR_eq (EqW_row (fun i hi => funext (fun j => eC _ _ (by omega) (by omega)))) (EqV_im (fun i hi => eV _ _ (by omega))) (eV _ _ (by omega)) hRle hd q6⟩
      show (if 48 + t.1 ≤ w + i then R0 else own (w + i)) = 6 + k
      rw [if_neg (by omega)]; exact q5 i hi
