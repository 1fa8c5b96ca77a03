/-! RULES: tests by both -/
section SC
variable {B : Nat → Nat} {n R : Nat}
theorem SV_entry2 {x p p' op dep2 g2 : Nat} {z z' : ST} {e : Nat → Nat × Nat} {Lc : Nat} {P Q : List Nat} {cnt dep S : Nat} {T T1 : List Bool} {g M : Nat} (h : SV B n R x p p' z z' e Lc P (op :: Q) cnt dep S T g M) (h9 : dep + P.count 9 = dep2 + (P ++ [op]).count 9) (hd : dep2 ≤ 10) (ty : tyS (op, 0) T = some T1) (hl : T1.length + 1 + g2 ≤ T.length + g) (hl2 : T1.length ≤ T.length) :
    ∃ w', fX12_entry (nI op) 0 z' = some w' ∧ FX (uSm R) z' w' ∧ SV B n R x p p' z w' (ins e (Lc + P.length) (op, 0)) Lc (P ++ [op]) Q cnt dep2 S T1 g2 M := by
  obtain ⟨⟨tc, c3, c2, l2, l7, l8, l9, l12, l15, hp, hx⟩, ⟨tv, v28, v27, v31, v29, v33, v35, vE, hp'⟩, hb, ⟨b1, b2, b3, b4, b5, b6, b7, b8, b9, b10, b11⟩⟩ := h
  have he := ent_ok (R := R) (s := z') (v := op) (w := 0) (L := Lc + P.length) v28 v29 v31 b2 (by omega)
  have he : fX12_entry (nI op) 0 z' = _ := he
  obtain ⟨w', hw⟩ : ∃ w, si (si (si z' 27 (300 * R + (Lc + P.length)) (nI op)) 28 (300 * R + (Lc + P.length)) (nI 0)) 0 31 (nI (Lc + P.length + 1)) = w := ⟨_, rfl⟩
  rw [hw] at he
  have hlen : (P ++ [op]).length = P.length + 1 := by simp
  have happ : P ++ [op] ++ Q = P ++ (op :: Q) := by simp
  have fw : FX (uSm R) z' w' := by
    rw [← hw]
    exact ((FX.si (by unfold uSm; omega)).trans (FX.si (by unfold uSm; omega))).trans (FX.si (by unfold uSm; omega))
  refine ⟨w', he, fw, ⟨tc, c3, c2, l2, by rw [happ]; exact l7, l8, ?_, fun i hi => by rw [ins_o (by omega)]; exact l12 i hi, by rw [happ]; exact l15, hp, hx⟩, ⟨FX_TV (fw.w uS_R) tv, ?_, ?_, ?_, ?_, ?_, ?_, fun i hi => ?_, hp'⟩, hb, ⟨b1, b2, hd, by rw [happ]; exact b4, fun j hj => ?_, by rw [happ]; exact b6, by omega, ?_, by omega, b10, by omega⟩⟩
  · rw [l9, h9]
  · rw [← hw, gi_dif (by decide), gi_ne (by decide), gi_ne (by decide)]; exact v28
  · rw [← hw, gi_dif (by decide), gi_ne (by decide), gi_ne (by decide)]; exact v27
  · rw [← hw, gi_same, hlen]; rfl
  · rw [← hw, gi_dif (by decide), gi_ne (by decide), gi_ne (by decide)]; exact v29
  · rw [← hw, gi_dif (by decide), gi_ne (by decide), gi_ne (by decide)]; exact v33
  · rw [← hw, gi_dif (by decide), gi_ne (by decide), gi_ne (by decide)]; exact v35
  · by_cases c : i = Lc + P.length
    · subst c
      exact ⟨by rw [← hw, gi_ne (by decide), gi_ne (by decide), gi_same, ins_s], by rw [← hw, gi_ne (by decide), gi_same, ins_s], by rw [ins_s]; exact Nat.zero_le _⟩
    · obtain ⟨q1, q2, q3⟩ := vE i (by omega)
      exact ⟨by rw [← hw, gi_ne (by decide), gi_ne (by decide), gi_dif (by omega), ins_o c]; exact q1, by rw [← hw, gi_ne (by decide), gi_dif (by omega), gi_ne (by decide), ins_o c]; exact q2, by rw [ins_o c]; exact q3⟩
  · by_cases c : j = P.length
    · subst c
      rw [ins_s]
      simp
    · rw [ins_o (by omega), b5 j (by omega)]
      have : (P ++ [op]).getD j 0 = P.getD j 0 := by
        rw [List.getD_eq_getElem?_getD, List.getD_eq_getElem?_getD, List.getElem?_append_left (by omega)]
      rw [this]
  · rw [hlen, show Lc + (P.length + 1) - S = Lc + P.length + 1 - S by omega]
    exact ty_ins b7 b8 ty
/-- the reference's pile: brackets, nots, an and over an or -/
def sh : List Nat → Prop
  | [] => True
  | u :: L => (u = 9 ∨ u = 10 ∨ u = 11 ∨ u = 12) ∧ (∀ l, l ∈ L.head? → u = 12 ∨ tgN l < tgN u ∨ (u = 9 ∧ l = 9)) ∧ sh L
def hd9 (L : List Nat) : Nat := if L.head? = some 11 then 1 else if L.head? = some 10 then 2 else 0
theorem hd9_2 (L : List Nat) : hd9 L ≤ 2 := by
  unfold hd9
  split
  · omega
  · split <;> omega
theorem sh_len : ∀ (L : List Nat), sh L → L.length ≤ 3 * (L.count 9 + L.count 12) + hd9 L
  | [], _ => by simp
  | u :: L, h => by
    have ih := sh_len L h.2.2
    obtain ⟨h1, h2, _⟩ := h
    have hh : hd9 L ≤ 2 := hd9_2 L
    simp only [List.length_cons, List.count_cons]
    rcases h1 with rfl | rfl | rfl | rfl
    · simp; omega
    · have : hd9 L ≤ 1 := by
        unfold hd9
        split
        · omega
        · split
          · rename_i q
            have := h2 10 q
            simp [tgN] at this
          · omega
      have e : hd9 (10 :: L) = 2 := rfl
      simp; omega
    · have : hd9 L = 0 := by
        unfold hd9
        split
        · rename_i q
          have := h2 11 q
          simp [tgN] at this
        · split
          · rename_i q
            have := h2 10 q
            simp [tgN] at this
          · rfl
      have e : hd9 (11 :: L) = 1 := rfl
      simp; omega
    · simp; omega
theorem sh_32 {L : List Nat} (h : sh L) (k : L.count 9 + L.count 12 ≤ 10) : L.length ≤ 32 := by
  have h1 := sh_len L h
  have h2 : hd9 L ≤ 2 := hd9_2 L
  omega
theorem sh_app : ∀ (A K : List Nat), sh (A ++ K) → sh K
  | [], _, h => h
  | _ :: A, K, h => sh_app A K h.2.2
def TTs (K : List Nat) : List Bool := List.replicate (K.count 10 + K.count 11) true
def FS (B : Nat → Nat) (n R x p p' : Nat) (s s' : ST) (e : Nat → Nat × Nat) (Lc : Nat) (P K : List Nat) (cnt S : Nat) (ld : List Bool) (M : Nat) : Prop :=
  SV B n R x p p' s s' e Lc P K cnt (K.count 9 + K.count 12) S (ld ++ TTs K) (K.count 9) M ∧ (gi s' 0 34 = nI K.length ∧ Stk (gi s' 33) K ∧ gi s' 0 32 = nI (K.count 9 + K.count 12)) ∧ gi s 11 10 = nI (K.count 12) ∧ sh K ∧ 3 * M ≤ p
theorem top_ev {s : ST} {K : List Nat} (h : gi s 0 34 = nI K.length) (k : Stk (gi s 33) K) (hl : K.length ≤ 60) : fX12_top s = some (if K.head?.isSome then nI (K.headD 0) else -1) := by
  unfold fX12_top
  rw [h]
  cases K with
  | nil => rfl
  | cons u K =>
    have e1 : nI (u :: K).length - 1 = nI K.length := by rw [nj_subr (by simp)]; rfl
    simp only [List.length_cons] at hl
    rw [if_neg (by rw [nj_eqr (by simp; omega) (by decide)]; simp), e1, ck_t (inb_t (by omega) (by decide)), bd_s, ix_nI (by omega), k.1]
    rfl
theorem top_ne {s : ST} {K : List Nat} {a : Nat} (h : gi s 0 34 = nI K.length) (k : Stk (gi s 33) K) (hl : K.length ≤ 60) (ha : a ≤ 15) (h15 : ∀ u, u ∈ K → u ≤ 15) (hn : ∀ u, u ∈ K.head? → u ≠ a) : ∃ q, fX12_top s = some q ∧ ¬ q = nI a := by
  refine ⟨_, top_ev h k hl, ?_⟩
  cases K with
  | nil => exact fun q => nj_nm (a := a) (k := 1) (by omega) (by decide) (by decide) q.symm
  | cons u K =>
    have h1 := hn u rfl
    have h2 := h15 u (by simp)
    show ¬ nI u = nI a
    rw [nj_eq (by omega) (by omega)]; exact h1
theorem ty_pop {a : Nat} {K : List Nat} (h : a = 9 ∨ a = 10 ∨ a = 11) : tyS (a, 0) (true :: TTs (a :: K)) = some (true :: TTs K) ∧ (TTs (a :: K)).length = (TTs K).length + (if a = 9 then 0 else 1) := by
  unfold TTs
  rcases h with rfl | rfl | rfl
  · exact ⟨rfl, rfl⟩
  · have e : (10 :: K).count 10 + (10 :: K).count 11 = (K.count 10 + K.count 11) + 1 := by
      rw [List.count_cons_self, List.count_cons_of_ne (by decide)]; omega
    rw [e, List.replicate_succ]
    exact ⟨rfl, by simp⟩
  · have e : (11 :: K).count 10 + (11 :: K).count 11 = (K.count 10 + K.count 11) + 1 := by
      rw [List.count_cons_self, List.count_cons_of_ne (by decide)]; omega
    rw [e, List.replicate_succ]
    exact ⟨rfl, by simp⟩
/-- one sign of the pile is answered -/
theorem pop1 {x p p' a : Nat} {s s' : ST} {e : Nat → Nat × Nat} {Lc : Nat} {P K : List Nat} {cnt S M : Nat} (h : FS B n R x p p' s s' e Lc P (a :: K) cnt S [true] M) (ha : a = 9 ∨ a = 10 ∨ a = 11) : ∃ w', fX12_entry (nI a) 0 s' = some w' ∧ FX (uTs R) s' (si (si w' 0 34 (nI K.length)) 0 32 (nI (K.count 9 + K.count 12))) ∧ gi w' 0 34 = nI (K.length + 1) ∧ gi w' 0 32 = nI ((a :: K).count 9 + (a :: K).count 12) ∧ FS B n R x p p' s (si (si w' 0 34 (nI K.length)) 0 32 (nI (K.count 9 + K.count 12))) (ins e (Lc + P.length) (a, 0)) Lc (P ++ [a]) K cnt S [true] M := by
  obtain ⟨h1, ⟨h2, h3, h4⟩, h5, h6, h7⟩ := h
  obtain ⟨t1, t2⟩ := ty_pop (K := K) ha
  have c12 : (a :: K).count 12 = K.count 12 := List.count_cons_of_ne (by omega)
  have c9 : (a :: K).count 9 = K.count 9 + (if a = 9 then 1 else 0) := by
    rw [List.count_cons]; simp
  have d10 := h1.2.2.2.2.2.1
  obtain ⟨w', w1, w2, w3⟩ := SV_entry2 (dep2 := K.count 9 + K.count 12) (g2 := K.count 9) h1 (by rw [c12, c9, List.count_append]; simp [List.count_cons]; omega) (by rw [c12, c9] at d10; omega) t1 (by rw [c9]; simp only [List.cons_append, List.nil_append, List.length_cons, t2]; split <;> omega) (by simp only [List.cons_append, List.nil_append, List.length_cons, t2]; omega)
  have u34 : gi w' 0 34 = gi s' 0 34 := w2 _ _ (by unfold uSm; omega)
  have u32 : gi w' 0 32 = gi s' 0 32 := w2 _ _ (by unfold uSm; omega)
  have fz : FX (uTs R) w' (si (si w' 0 34 (nI K.length)) 0 32 (nI (K.count 9 + K.count 12))) := (FX.si (by unfold uTs uSm; omega)).trans (FX.si (by unfold uTs uSm; omega))
  refine ⟨w', w1, (w2.w (fun _ _ q => Or.inl q)).trans fz, u34.trans h2, u32.trans h4, ⟨w3.1, ?_, w3.2.2.1, w3.2.2.2⟩, ⟨by rw [gi_dif (by decide), gi_same], Stk_w _ (fun i _ => by rw [gi_ne (by decide), gi_ne (by decide)]; exact w2 _ _ (by unfold uSm; omega)) h3.2, gi_same _ _ _ _⟩, by rw [h5, c12], h6.2.2, h7⟩
  obtain ⟨tv, v28, v27, v31, v29, v33, v35, vE, hp'⟩ := w3.2.1
  refine ⟨TV_si (TV_si tv (by decide)) (by decide), ?_, ?_, ?_, ?_, ?_, ?_, fun i hi => ?_, hp'⟩
  · rw [gi_dif (by decide), gi_dif (by decide)]; exact v28
  · rw [gi_dif (by decide), gi_dif (by decide)]; exact v27
  · rw [gi_dif (by decide), gi_dif (by decide)]; exact v31
  · rw [gi_dif (by decide), gi_dif (by decide)]; exact v29
  · rw [gi_dif (by decide), gi_dif (by decide)]; exact v33
  · rw [gi_dif (by decide), gi_dif (by decide)]; exact v35
  · rw [gi_ne (by decide), gi_ne (by decide), gi_ne (by decide), gi_ne (by decide)]; exact vE i hi
theorem ansL {x p p' a Lc cnt S M : Nat} {s : ST} (ha : a = 9 ∨ a = 10 ∨ a = 11) : ∀ (K P : List Nat) (s' : ST) (e : Nat → Nat × Nat) (f : Nat), K.length < f → FS B n R x p p' s s' e Lc P K cnt S [true] M →
    ∃ z' e2 A K2, fX12_answers_L0 (nI a) f s' = some z' ∧ K = A ++ K2 ∧ (∀ k, k ∈ A → k = a) ∧ (∀ k, k ∈ K2.head? → k ≠ a) ∧ FS B n R x p p' s z' e2 Lc (P ++ A) K2 cnt S [true] M ∧ FX (uTs R) s' z' ∧ (∀ i, i < Lc + P.length → e2 i = e i) := by
  have haa : ∀ K : List Nat, (∀ k, k ∈ K.head? → k ≠ a) → ∀ (P : List Nat) (s' : ST) (e : Nat → Nat × Nat) (f : Nat), 0 < f → FS B n R x p p' s s' e Lc P K cnt S [true] M → fX12_answers_L0 (nI a) f s' = some s' := fun K hK P s' e f hf h => by
    obtain ⟨f, rfl⟩ : ∃ m, f = m + 1 := ⟨f - 1, by omega⟩
    have hl := h.1.2.2.2.2.2.2.1
    have h15 := h.1.2.2.2.2.2.2.2.2.1
    obtain ⟨q, q1, q2⟩ := top_ne h.2.1.1 h.2.1.2.1 (by rw [List.length_append] at hl; omega) (show a ≤ 15 by omega) (fun u hu => h15 u (List.mem_append_right _ hu)) hK
    rw [fX12_answers_L0, q1, bd_s, if_neg q2, bd_s, if_neg nft]
  intro K
  induction K with
  | nil =>
    intro P s' e f hf h
    exact ⟨s', e, [], [], haa [] (by simp) P s' e f (by omega) h, rfl, by simp, by simp, by rw [List.append_nil]; exact h, FX.rfl, fun _ _ => rfl⟩
  | cons u K ih =>
    intro P s' e f hf h
    by_cases c : u = a
    · subst c
      obtain ⟨f, rfl⟩ : ∃ m, f = m + 1 := ⟨f - 1, by omega⟩
      obtain ⟨w', w1, w2, w3, w4, w5⟩ := pop1 h ha
      simp only [List.length_cons] at hf
      obtain ⟨z', e2, A, K2, a1, a2, a3, a4, a5, a6, a7⟩ := ih (P ++ [u]) _ _ f (by omega) w5
      have hl := h.1.2.2.2.2.2.2.1
      have ht := top_ev h.2.1.1 h.2.1.2.1 (by rw [List.length_append] at hl; omega)
      have ht : fX12_top s' = some (nI u) := ht
      have v28 := h.1.2.1.2.1
      have e1 : nI (K.length + 1) - 1 = nI K.length := by rw [nj_subr (by omega)]; rfl
      have ew : ∃ v : Int32, (if nI u = 9 then some 1 else some 0 : Option Int32) = some v ∧ nI ((u :: K).count 9 + (u :: K).count 12) - v = nI (K.count 9 + K.count 12) := by
        rcases ha with rfl | rfl | rfl
        · refine ⟨1, rfl, ?_⟩
          rw [List.count_cons_self, List.count_cons_of_ne (by decide), nj_subr (by omega)]
          congr 1
          show List.count 9 K + 1 + List.count 12 K - 1 = _
          omega
        · refine ⟨0, rfl, ?_⟩
          rw [List.count_cons_of_ne (by decide), List.count_cons_of_ne (by decide), nj_subr (by omega)]; rfl
        · refine ⟨0, rfl, ?_⟩
          rw [List.count_cons_of_ne (by decide), List.count_cons_of_ne (by decide), nj_subr (by omega)]; rfl
      obtain ⟨v, v1, v2⟩ := ew
      refine ⟨z', e2, u :: A, K2, ?_, by rw [a2]; rfl, fun k hk => ?_, a4, by rw [show P ++ u :: A = P ++ [u] ++ A by simp]; exact a5, w2.trans a6, fun i hi => ?_⟩
      · rw [fX12_answers_L0, ht, bd_s, if_pos rfl, if_pos v28, bd_s, if_pos rfl, w1, bd_s, lt_v, w3, e1, v1, bd_s, lt_v, gi_dif (by decide), w4, v2]
        exact a1
      · rcases List.mem_cons.1 hk with q | q
        · exact q
        · exact a3 k q
      · rw [a7 i (by simp; omega), ins_o (by omega)]
    · exact ⟨s', e, [], u :: K, haa (u :: K) (fun k hk => by simp at hk; rw [← hk]; exact c) P s' e f (by omega) h, rfl, by simp, fun k hk => by simp at hk; rw [← hk]; exact c, by rw [List.append_nil]; exact h, FX.rfl, fun _ _ => rfl⟩
end SC
