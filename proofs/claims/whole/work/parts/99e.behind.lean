/-! RULES: behind a fact -/
section SE
variable {B : Nat → Nat} {n R : Nat}
theorem ot_any (t : Int32) (s : ST) : ∃ q a b, fX4_ofToken t s = some q ∧ fX4_isOfSum q s = some a ∧ fX4_isOfFact q s = some b := by
  unfold fX4_ofToken
  by_cases c1 : t = 37
  · exact ⟨6, 1, 0, if_pos c1, rfl, rfl⟩
  by_cases c2 : t = 42
  · exact ⟨4, 1, 0, by rw [if_neg c1, if_pos c2], rfl, rfl⟩
  by_cases c3 : t = 43
  · exact ⟨2, 1, 0, by rw [if_neg c1, if_neg c2, if_pos c3], rfl, rfl⟩
  by_cases c4 : t = 45
  · exact ⟨3, 1, 0, by rw [if_neg c1, if_neg c2, if_neg c3, if_pos c4], rfl, rfl⟩
  by_cases c5 : t = 47
  · exact ⟨5, 1, 0, by rw [if_neg c1, if_neg c2, if_neg c3, if_neg c4, if_pos c5], rfl, rfl⟩
  by_cases c6 : t = 60
  · exact ⟨7, 0, 1, by rw [if_neg c1, if_neg c2, if_neg c3, if_neg c4, if_neg c5, if_pos c6], rfl, rfl⟩
  by_cases c7 : t = 61
  · exact ⟨9, 0, 1, by rw [if_neg c1, if_neg c2, if_neg c3, if_neg c4, if_neg c5, if_neg c6, if_pos c7], rfl, rfl⟩
  by_cases c8 : t = 62
  · exact ⟨11, 0, 1, by rw [if_neg c1, if_neg c2, if_neg c3, if_neg c4, if_neg c5, if_neg c6, if_neg c7, if_pos c8], rfl, rfl⟩
  by_cases c9 : t = 316
  · exact ⟨8, 0, 1, by rw [if_neg c1, if_neg c2, if_neg c3, if_neg c4, if_neg c5, if_neg c6, if_neg c7, if_neg c8, if_pos c9], rfl, rfl⟩
  by_cases c10 : t = 318
  · exact ⟨10, 0, 1, by rw [if_neg c1, if_neg c2, if_neg c3, if_neg c4, if_neg c5, if_neg c6, if_neg c7, if_neg c8, if_neg c9, if_pos c10], rfl, rfl⟩
  · exact ⟨-1, 0, 0, by rw [if_neg c1, if_neg c2, if_neg c3, if_neg c4, if_neg c5, if_neg c6, if_neg c7, if_neg c8, if_neg c9, if_neg c10], rfl, rfl⟩
/-- behind a fact, a sum: no sign of a sum stands there, or none may -/
def KD (B : Nat → Nat) (n p' : Nat) (k : Int32) : Prop := (k = 2 ∧ NS B n p') ∨ k = 3 ∨ (k = 0 ∧ NS B n p')
theorem rs_any {p' pl : Nat} {val : Int32} {u : ST} (hk : KD B n p' (gi u 11 12)) (h : Tok B n p' (gi u 1 4) pl val) (tv : ∀ i, i < n → B i < 256) :
    fX3_readSign u = (fX3_isEndOfClause u).bind (fun q21 => if q21 = 0 then if (gi u 11 12) = 0 then fX3_readIf u else fX3_readBehindFact u else fX3_endClause u) := by
  have n1 : ¬ gi u 11 12 = 1 := by
    rcases hk with ⟨e, _⟩ | e | ⟨e, _⟩ <;> rw [e] <;> decide
  obtain ⟨q, a, b, q1, q2, q3⟩ := ot_any (gi u 1 4) u
  have hns : NS B n p' → fX3_readSign u = if gi u 11 12 = 1 then fX6_blame 0 u else (fX3_isEndOfClause u).bind (fun q21 => if q21 = 0 then if (gi u 11 12) = 0 then fX3_readIf u else fX3_readBehindFact u else fX3_endClause u) := fun hs => by
    by_cases c : p' < n ∧ (B p' = 60 ∨ B p' = 61 ∨ B p' = 62)
    · have : ∃ op, (4 ≤ op ∧ op ≤ 8) ∧ fX4_ofToken (gi u 1 4) u = some (nI (sg op)) := by
        have hd : isD (B p') = false := by rcases c.2 with e | e | e <;> rw [e] <;> rfl
        have hL : isL (B p') = false := by rcases c.2 with e | e | e <;> rw [e] <;> rfl
        rcases h with ⟨e1, _⟩ | ⟨_, e2, _⟩ | ⟨_, _, e3, _⟩ | ⟨_, _, _, e4⟩
        · omega
        · rw [hd] at e2; cases e2
        · rw [hL] at e3; cases e3
        · rcases e4 with ⟨⟨e5, _⟩, e8, _⟩ | ⟨_, e6, _⟩
          · rcases e5 with e5 | e5
            · exact ⟨5, by omega, by rw [e8, e5]; rfl⟩
            · exact ⟨7, by omega, by rw [e8, e5]; rfl⟩
          · rcases c.2 with e | e | e
            · exact ⟨4, by omega, by rw [e6, e]; rfl⟩
            · exact ⟨6, by omega, by rw [e6, e]; rfl⟩
            · exact ⟨8, by omega, by rw [e6, e]; rfl⟩
      obtain ⟨op, o1, o2⟩ := this
      obtain ⟨s1, s2, _⟩ := sg_cmp u o1
      exact rs_gen o2 s1 s2 (Or.inl rfl) (Or.inr n1)
    · exact rs_gen (no_tok h (fun q => tv _ q) hs.2.1 hs.2.2 c u) (of_m1 u).1 (of_m1 u).2 (Or.inl rfl) (Or.inl rfl)
  rcases hk with ⟨_, e⟩ | e | ⟨_, e⟩
  · rw [hns e, if_neg n1]
  · rw [rs_gen q1 q2 q3 (Or.inr e) (Or.inr n1), if_neg n1]
  · rw [hns e, if_neg n1]
theorem eoc {u : ST} {br : Nat} (h : gi u 11 10 = nI br) (hb : br ≤ 10) : fX3_isEndOfClause u = some (if br = 0 ∧ (gi u 1 4 = 59 ∨ gi u 1 4 = -1) then 1 else 0) := by
  unfold fX3_isEndOfClause
  rw [h]
  by_cases c : br = 0
  · rw [c, if_pos (show nI 0 = 0 from rfl)]
    by_cases c1 : gi u 1 4 = 59
    · rw [if_pos c1, bd_s, if_pos rfl, bd_s, ck_t (show bz 1 = true from rfl), if_pos ⟨rfl, Or.inl c1⟩]
    · by_cases c2 : gi u 1 4 = -1
      · rw [if_neg c1, if_pos c2, bd_s, if_pos rfl, bd_s, ck_t (show bz 1 = true from rfl), if_pos ⟨rfl, Or.inr c2⟩]
      · rw [if_neg c1, if_neg c2, bd_s, if_neg nft, bd_s, ck_t (show bz 0 = true from rfl), if_neg (fun q => by rcases q.2 with e | e; exact c1 e; exact c2 e)]
  · rw [if_neg (show ¬ nI br = 0 by rw [nj_eqr (by omega) (by decide)]; exact c), bd_s, ck_t (show bz 0 = true from rfl), if_neg (fun q => c q.1)]
/-- what is left of the pile -/
theorem sh_r {a : Nat} : ∀ (A K : List Nat), sh (A ++ K) → (∀ k, k ∈ A → k = a) → (∀ k, k ∈ K.head? → k ≠ a) → (a = 9 ∨ a = 10 ∨ a = 11) → A ≠ [] → ∀ k, k ∈ K.head? → tgN k < tgN a
  | [], _, _, _, _, _, h => absurd rfl h
  | [u], K, h, hA, hK, ha, _ => fun k hk => by
    have e := hA u (by simp)
    have h1 := h.2.1 k hk
    have h2 := hK k hk
    rcases h1 with q | q | q
    · omega
    · rw [← e]; exact q
    · omega
  | u :: v :: A, K, h, hA, hK, ha, _ => sh_r (v :: A) K h.2.2 (fun k hk => hA k (by simp [List.mem_cons.1 hk])) hK ha (by simp)
theorem wd_eq : txB 43 = txB 6 ∧ txB 44 = txB 22 ∧ txB 45 = txB 23 ∧ txB 42 = txB 21 ∧ txB 29 = txB 5 ∧ (txB 6).length = 3 ∧ (txB 22).length = 3 ∧ (txB 23).length = 2 ∧ (txB 21).length = 2 ∧ (txB 5).length = 4 := by decide +kernel
theorem wd_tok {st pl w : Nat} {tok val : Int32} (h : Tok B n st tok pl val) (hw : wdb B n st (txB w) = true) (hl : 1 ≤ (txB w).length) (hs : st ≤ n) : st < n ∧ tok = -3 ∧ pl = st + (txB w).length ∧ isL (B st) = true := by
  have hle : le B n st - st = (txB w).length := by
    unfold wdb at hw
    simp at hw
    exact hw.1
  have hge : st ≤ le B n st := ru_ge
  have c : st < n ∧ isL (B st) = true := by
    by_cases c : st < n ∧ isL (B st) = true
    · exact c
    · rw [le_no c] at hle; omega
  rcases h with ⟨e1, _⟩ | ⟨_, e2, _⟩ | ⟨_, _, _, e4, e5⟩ | ⟨_, _, e3, _⟩
  · omega
  · have h2 := c.2
    unfold isD at e2
    unfold isL at h2
    simp at e2 h2
    omega
  · exact ⟨c.1, e4, by omega, c.2⟩
  · rw [c.2] at e3; cases e3
end SE
