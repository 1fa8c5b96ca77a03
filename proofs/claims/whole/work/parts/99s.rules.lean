/-! RULES: all clauses by both -/
section SS1
variable {B : Nat → Nat} {n R : Nat}
def eitherR (B : Nat → Nat) (n R N x : Nat) (s z' : ST) : Prop := (∃ fl y, RnC x s y ∧ 1 ≤ fl ∧ fl ≤ 4000 ∧ gi y 1 3 = nI fl ∧ gi z' 0 28 = nI fl ∧ FX xRl s y) ∨ (∃ y, RnC x s y ∧ FX xRl s y ∧ RF R N y z')
theorem eF_R {cl : Nat} {k : Int32} : ∀ a j, eF cl k a j → xRl a j := fun a j q => by
  unfold xRl
  rcases q with q | q | q | q | q <;> omega
theorem rlL : ∀ (m cl x p p' f : Nat) (s s' : ST) (e : Nat → Nat × Nat) (Lc cnt M : Nat) (St Tt : Nat → Nat), cl + m = 12 → m + 2 < f → SV B n R x p p' s s' e Lc [] [] cnt 0 Lc [] 0 M → gi s' 0 32 = 0 → gi s 11 10 = 0 → 3 * M ≤ p → gi s 11 11 = 0 → gi s 11 5 = nI cl → TBk R s s' e cl St Tt → St cl = Lc → (∀ c, c ≤ cl → St c ≤ Lc) →
    ∃ N z', fX12_rule_L27 f (nI cl) 1 s' = some (nI N, 0, z') ∧ N ≤ 13 ∧ FX (uRl R) s' z' ∧ eitherR B n R N x s z' := by
  intro m
  induction m with
  | zero =>
    intro cl x p p' f s s' e Lc cnt M St Tt hm hf h h32 h10 hM h11 h5 hT hSt hS
    obtain ⟨f, rfl⟩ : ∃ m, f = m + 1 + 1 := ⟨f - 2, by omega⟩
    obtain ⟨z', a1, a2, a3⟩ := clause_b h h32 h10 hM h11 h5 (by omega)
    rw [fX12_rule_L27, if_neg n10, a1, bd_s, lt_v, nj_addr]
    rcases a3 with ⟨fl, y, b1, b2, b3, b4⟩ | ⟨x2, z, b1, b2, b3, b4⟩
    · obtain ⟨w, c1, c2, c3⟩ := goes_F (R := R) b1 (by omega) (by omega)
      refine ⟨cl + 1, w, ?_, by omega, (a2.w uK_R).trans (c3.w uS_R), Or.inl ⟨fl, y, b2, c2.2.1, c2.2.2.1, b3, c2.2.2.2.1, b4⟩⟩
      rw [c1, bd_s]
      show fX12_rule_L27 (f + 1) (nI (cl + 1)) 0 w = _
      rw [fX12_rule_L27, if_pos rfl]
    · omega
  | succ m ih =>
    intro cl x p p' f s s' e Lc cnt M St Tt hm hf h h32 h10 hM h11 h5 hT hSt hS
    obtain ⟨f, rfl⟩ : ∃ m, f = m + 1 + 1 := ⟨f - 2, by omega⟩
    obtain ⟨z', a1, a2, a3⟩ := clause_b h h32 h10 hM h11 h5 (by omega)
    rw [fX12_rule_L27, if_neg n10, a1, bd_s, lt_v, nj_addr]
    rcases a3 with ⟨fl, y, b1, b2, b3, b4⟩ | ⟨x2, z, go, fz, hcl, p2, p2', e2, Lc2, P2, cnt2, M2, S2, T2, tt, hS2, r1, r2, r3, r4, r5, r6, r7, r8, r9, r10, r11, r12, r13, r14, r15, r16, r17, r18⟩
    · obtain ⟨w, c1, c2, c3⟩ := goes_F (R := R) b1 (by omega) (by omega)
      refine ⟨cl + 1, w, ?_, by omega, (a2.w uK_R).trans (c3.w uS_R), Or.inl ⟨fl, y, b2, c2.2.1, c2.2.2.1, b3, c2.2.2.2.1, b4⟩⟩
      rw [c1, bd_s]
      show fX12_rule_L27 (f + 1) (nI (cl + 1)) 0 w = _
      rw [fX12_rule_L27, if_pos rfl]
    · obtain ⟨tv, v28, v27, v31, v29, v33, v35, vE, hp'⟩ := hS2.2.1
      have hgo := goes_ev tv v28 v27 r1 hp'
      have hn := tv.1
      obtain ⟨d1, d2, d3, d4, d5, d6, d7, d8, d9, d10, d11⟩ := hS2.2.2.2
      have z5 : gi z 11 5 = nI cl := by rw [fz _ _ (by unfold xK; omega)]; exact h5
      rcases fin_both hS2 r1 r2 r3 r4 z5 hcl (fun q => (r7 q).1) (fun q => (r8 q).1) with ⟨e1, w, w1, w2, w3, w4, w5, w6⟩ | ⟨e1, e3, e4, w, w1, w2, w3, w4, w5, w6, w7⟩ | ⟨e1, e3, y, y1, y2, y3⟩
      · rw [if_pos e1] at hgo
        have f27 : FX (uSm R) z' (si z' 0 27 (nI (p2' + 1))) := fq27
        have k14 : gi w 14 cl = nI tt := by
          by_cases c : gi z 11 12 = 0
          · rw [w5 c, (r7 c).2]
          · rw [w6 14 cl (fun q => by
              rcases q with q | q | q | q | q
              · omega
              · omega
              · omega
              · omega
              · exact c q.2.2)]
            exact (r8 c).2
        refine ⟨cl + 1, _, ?_, by omega, (a2.w uK_R).trans (f27.w uS_R), Or.inr ⟨w, go w w1, (fz.w xK_R).trans (w6.w eF_R), Lc2 + P2.length, e2, _, _, by omega, w2.2.1, by rw [gi_dif (by decide)]; exact v28, w3, w2.2.2.2.1, by omega, fun i hi => ⟨w2.2.2.2.2.2.2.2.1 i hi, ?_⟩, TB_next hT hSt hS r17 fz a2 w6 f27 r9 k14 r10 r11 r12 r13 r14 r15 r16, by rw [if_pos rfl]; exact w4, fun c hc => ?_⟩⟩
        · rw [hgo, bd_s]
          show fX12_rule_L27 (f + 1) (nI (cl + 1)) 0 _ = _
          rw [fX12_rule_L27, if_pos rfl]
        · rw [gi_ne (by decide), gi_ne (by decide)]; exact vE i hi
        · show (if c = cl + 1 then Lc2 + P2.length else St c) ≤ _
          split
          · exact Nat.le_refl _
          · have := hS c (by omega); omega
      · rw [if_neg (show ¬ p2' = n by omega), if_pos e3] at hgo
        have f27 : FX (uSm R) z' (si z' 0 27 (nI (p2' + 1))) := fq27
        have k14 : gi w 14 cl = nI tt := by
          by_cases c : gi z 11 12 = 0
          · rw [w5 c, (r7 c).2]
          · rw [w7 14 cl (fun q => by
              rcases q with q | q | q | q | q
              · omega
              · omega
              · omega
              · omega
              · exact c q.2.2)]
            exact (r8 c).2
        rw [hgo, bd_s]
        obtain ⟨N, y', g1, g2, g3, g4⟩ := ih (cl + 1) (x2 + 1) (p2' + 1) (p2' + 1) (f + 1) w (si z' 0 27 (nI (p2' + 1))) e2 (Lc2 + P2.length) cnt2 M2 _ _ (by omega) (by omega) w2 (by rw [gi_dif (by decide)]; exact r5) (by rw [w7 _ _ (fun q => by unfold eF at q; omega)]; exact r4) (by omega) w6 w3 (TB_next hT hSt hS r17 fz a2 w7 f27 r9 k14 r10 r11 r12 r13 r14 r15 r16) (if_pos rfl) (fun c hc => by
          show (if c = cl + 1 then Lc2 + P2.length else St c) ≤ _
          split
          · exact Nat.le_refl _
          · have := hS c (by omega); omega)
        refine ⟨N, y', g1, g2, (a2.w uK_R).trans ((f27.w uS_R).trans g3), ?_⟩
        have fsw : FX xRl s w := (fz.w xK_R).trans (w7.w eF_R)
        rcases g4 with ⟨fl, y, q1, q2, q3, q4, q5, q6⟩ | ⟨y, q1, q2, q3⟩
        · exact Or.inl ⟨fl, y, go y (w1 y q1), q2, q3, q4, q5, fsw.trans q6⟩
        · exact Or.inr ⟨y, go y (w1 y q1), fsw.trans q2, q3⟩
      · rw [if_neg (show ¬ p2' = n by omega), if_neg e3] at hgo
        refine ⟨cl + 1, si (si z' 0 28 (nI (1 + 8 * p2' + 0))) 0 27 (nI (p2' + 1)), ?_, by omega, (a2.w uK_R).trans (FX.trans (FX.si (a := 0) (j := 28) (by unfold uRl uTs uSm; omega)) (FX.si (a := 0) (j := 27) (by unfold uRl uTs uSm; omega))), Or.inl ⟨1 + 8 * p2' + 0, y, go y y1, by omega, by omega, y2, by rw [gi_dif (by decide), gi_same], (fz.w xK_R).trans y3⟩⟩
        rw [hgo, bd_s]
        show fX12_rule_L27 (f + 1) (nI (cl + 1)) 0 _ = _
        rw [fX12_rule_L27, if_pos rfl]
end SS1
