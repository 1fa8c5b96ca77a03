/-! WHAT A QUESTION LEAVES, AND THE REFERENCE'S WAY BACK -/
def scr (a j : Nat) : Bool := (a == 0 && ((decide (56 ≤ j) && decide (j ≤ 63)) || (decide (69 ≤ j) && decide (j ≤ 71)) || j == 80 || j == 81)) || (decide (36 ≤ a) && decide (a ≤ 45)) || (decide (48 ≤ a) && decide (a ≤ 53)) || (a == 54 && decide (4800 ≤ j))
def svr (a : Nat) : Bool := a == 1 || a == 3 || a == 4 || a == 5 || a == 6 || a == 9 || a == 11 || a == 12
def svn (a : Nat) : Nat := if a = 1 then 13 else if a ≤ 6 then 5 else 8
def kQ (s : ST) (a j : Nat) : Int32 := if (scr a j || svr a) = true then 0 else gi s a j
def kR (s : ST) (a j : Nat) : Int32 := if (scr a j || (svr a && decide (svn a ≤ j))) = true then 0 else gi s a j
def kN (s : ST) (a j : Nat) : Int32 := if 30 ≤ a ∧ a ≤ 47 then 0 else gi s a j
theorem kQ_g {s z : ST} (h : kQ z = kQ s) {a j : Nat} (hc : (scr a j || svr a) = false) : gi z a j = gi s a j := by
  have := congrFun (congrFun h a) j
  unfold kQ at this
  rw [hc] at this
  exact this
theorem kR_g {s z : ST} (h : kR z = kR s) {a j : Nat} (hc : (scr a j || (svr a && decide (svn a ≤ j))) = false) : gi z a j = gi s a j := by
  have := congrFun (congrFun h a) j
  unfold kR at this
  rw [hc] at this
  exact this
theorem kN_g {s z : ST} (h : kN z = kN s) {a j : Nat} (hc : ¬ (30 ≤ a ∧ a ≤ 47)) : gi z a j = gi s a j := by
  have := congrFun (congrFun h a) j
  unfold kN at this
  rw [if_neg hc, if_neg hc] at this
  exact this
theorem kN_of {s z : ST} (h : ∀ a j, ¬ (30 ≤ a ∧ a ≤ 47) → gi z a j = gi s a j) : kN z = kN s := by
  funext a j
  unfold kN
  by_cases e : 30 ≤ a ∧ a ≤ 47
  · rw [if_pos e, if_pos e]
  · rw [if_neg e, if_neg e, h a j e]
theorem kQ_of {s z : ST} (h : ∀ a j, (scr a j || svr a) = false → gi z a j = gi s a j) : kQ z = kQ s := by
  funext a j
  unfold kQ
  by_cases e : (scr a j || svr a) = true
  · rw [if_pos e, if_pos e]
  · rw [if_neg e, if_neg e, h a j (by simpa using e)]
theorem kR_of {s z : ST} (h : ∀ a j, (scr a j || (svr a && decide (svn a ≤ j))) = false → gi z a j = gi s a j) : kR z = kR s := by
  funext a j
  unfold kR
  by_cases e : (scr a j || (svr a && decide (svn a ≤ j))) = true
  · rw [if_pos e, if_pos e]
  · rw [if_neg e, if_neg e, h a j (by simpa using e)]
theorem kQ_kR {s z : ST} (h : kR z = kR s) : kQ z = kQ s := kQ_of (fun a j e => kR_g h (by
  simp only [Bool.or_eq_false_iff] at e ⊢
  exact ⟨e.1, by rw [e.2]; rfl⟩))
theorem kQ_kM {s z : ST} (h : kM z = kM s) : kQ z = kQ s := kQ_of (fun a j e => kM_g h (by
  simp only [Bool.or_eq_false_iff] at e
  obtain ⟨e1, e2⟩ := e
  unfold scr at e1
  unfold svr at e2
  unfold chM
  simp at e1 e2 ⊢
  grind))
theorem kN_kC {s z : ST} (h : kC z = kC s) : kN z = kN s := kN_of (fun a j e => kC_g h (by
  unfold chC
  simp
  omega))
/-- the copy of the eight rows -/
def SvK (s0 z : ST) : Prop := (∀ j, j < 13 → gi z 54 (4800 + j) = gi s0 1 j) ∧ (∀ j, j < 5 → gi z 54 (4800 + 13 + j) = gi s0 3 j) ∧ (∀ j, j < 5 → gi z 54 (4800 + 18 + j) = gi s0 4 j) ∧ (∀ j, j < 5 → gi z 54 (4800 + 23 + j) = gi s0 5 j) ∧ (∀ j, j < 5 → gi z 54 (4800 + 28 + j) = gi s0 6 j) ∧ (∀ j, j < 8 → gi z 54 (4800 + 33 + j) = gi s0 9 j) ∧ (∀ j, j < 8 → gi z 54 (4800 + 41 + j) = gi s0 11 j) ∧ (∀ j, j < 8 → gi z 54 (4800 + 49 + j) = gi s0 12 j)
theorem SvK_54 {s0 z y : ST} (h : SvK s0 z) (e : ∀ j, gi y 54 j = gi z 54 j) : SvK s0 y := by
  obtain ⟨h1, h2, h3, h4, h5, h6, h7, h8⟩ := h
  exact ⟨fun j hj => by rw [e]; exact h1 j hj, fun j hj => by rw [e]; exact h2 j hj, fun j hj => by rw [e]; exact h3 j hj, fun j hj => by rw [e]; exact h4 j hj, fun j hj => by rw [e]; exact h5 j hj, fun j hj => by rw [e]; exact h6 j hj, fun j hj => by rw [e]; exact h7 j hj, fun j hj => by rw [e]; exact h8 j hj⟩
theorem SvK_rows {s0 s1 z : ST} (h : SvK s0 z) (e1 : ∀ j, j < 13 → gi s1 1 j = gi s0 1 j) (e2 : ∀ j, j < 5 → gi s1 3 j = gi s0 3 j) (e3 : ∀ j, j < 5 → gi s1 4 j = gi s0 4 j) (e4 : ∀ j, j < 5 → gi s1 5 j = gi s0 5 j) (e5 : ∀ j, j < 5 → gi s1 6 j = gi s0 6 j) (e6 : ∀ j, j < 8 → gi s1 9 j = gi s0 9 j) (e7 : ∀ j, j < 8 → gi s1 11 j = gi s0 11 j) (e8 : ∀ j, j < 8 → gi s1 12 j = gi s0 12 j) : SvK s1 z := by
  obtain ⟨h1, h2, h3, h4, h5, h6, h7, h8⟩ := h
  exact ⟨fun j hj => by rw [e1 j hj]; exact h1 j hj, fun j hj => by rw [e2 j hj]; exact h2 j hj, fun j hj => by rw [e3 j hj]; exact h3 j hj, fun j hj => by rw [e4 j hj]; exact h4 j hj, fun j hj => by rw [e5 j hj]; exact h5 j hj, fun j hj => by rw [e6 j hj]; exact h6 j hj, fun j hj => by rw [e7 j hj]; exact h7 j hj, fun j hj => by rw [e8 j hj]; exact h8 j hj⟩
theorem svr_row {a : Nat} (h : svr a = true) : a = 1 ∨ a = 3 ∨ a = 4 ∨ a = 5 ∨ a = 6 ∨ a = 9 ∨ a = 11 ∨ a = 12 := by
  unfold svr at h; simp at h; omega
theorem kR_rows {s z : ST} (h : kQ z = kQ s) (e1 : ∀ j, j < 13 → gi z 1 j = gi s 1 j) (e2 : ∀ j, j < 5 → gi z 3 j = gi s 3 j) (e3 : ∀ j, j < 5 → gi z 4 j = gi s 4 j) (e4 : ∀ j, j < 5 → gi z 5 j = gi s 5 j) (e5 : ∀ j, j < 5 → gi z 6 j = gi s 6 j) (e6 : ∀ j, j < 8 → gi z 9 j = gi s 9 j) (e7 : ∀ j, j < 8 → gi z 11 j = gi s 11 j) (e8 : ∀ j, j < 8 → gi z 12 j = gi s 12 j) : kR z = kR s := by
  refine kR_of (fun a j e => ?_)
  simp only [Bool.or_eq_false_iff, Bool.and_eq_false_iff] at e
  by_cases hs : svr a = true
  · have e2' := e.2.resolve_left (by rw [hs]; decide)
    have hj : j < svn a := by simpa using e2'
    rcases svr_row hs with rfl | rfl | rfl | rfl | rfl | rfl | rfl | rfl
    · exact e1 j hj
    · exact e2 j hj
    · exact e3 j hj
    · exact e4 j hj
    · exact e5 j hj
    · exact e6 j hj
    · exact e7 j hj
    · exact e8 j hj
  · exact kQ_g h (by rw [e.1]; simpa using hs)
theorem lv_kR {s z : ST} (h : kR z = kR s) {j : Nat} (hj : j < 46) : lv z j = lv s j := by
  unfold lv
  by_cases h1 : j < 5
  · rw [if_pos h1, if_pos h1]; exact kR_g h (by unfold scr svr svn; simp; omega)
  rw [if_neg h1, if_neg h1]
  by_cases h2 : j < 10
  · rw [if_pos h2, if_pos h2]; exact kR_g h (by unfold scr svr svn; simp; omega)
  rw [if_neg h2, if_neg h2]
  by_cases h3 : j < 15
  · rw [if_pos h3, if_pos h3]; exact kR_g h (by unfold scr svr svn; simp; omega)
  rw [if_neg h3, if_neg h3]
  by_cases h4 : j < 20
  · rw [if_pos h4, if_pos h4]; exact kR_g h (by unfold scr svr svn; simp; omega)
  rw [if_neg h4, if_neg h4]
  by_cases h5 : j < 28
  · rw [if_pos h5, if_pos h5]; exact kR_g h (by unfold scr svr svn; simp; omega)
  rw [if_neg h5, if_neg h5]
  by_cases h6 : j < 36
  · rw [if_pos h6, if_pos h6]; exact kR_g h (by unfold scr svr svn; simp; omega)
  rw [if_neg h6, if_neg h6]
  by_cases h7 : j < 44
  · rw [if_pos h7, if_pos h7]; exact kR_g h (by unfold scr svr svn; simp; omega)
  rw [if_neg h7, if_neg h7]
  by_cases h8 : j = 44
  · rw [if_pos h8, if_pos h8]; exact kR_g h (by decide)
  · rw [if_neg h8, if_neg h8]; exact kR_g h (by decide)
theorem keeps_ev (s : ST) : ∃ z, fX12_keepsAll s = some z ∧ kR z = kR s ∧ SvK s z ∧ (∀ j, j ≠ 80 → j ≠ 81 → gi z 0 j = gi s 0 j) ∧ Fr [0, 54] s z := by
  obtain ⟨z1, z2, z3, z4, z5, z6, z7, z8, a1, a2, a3, a4, a5, a6, a7, a8, b, c, d1, d2, d3, d4, d5, d6, d7, d8, e, f⟩ := carS8 (B := 4800) (s := si (si s 0 80 (1200 * 4)) 0 81 0) (by omega) (gi_same _ _ _ _) (by rw [gi_dif (by decide), gi_same]; rfl)
  have fr : Fr [0, 54] s z8 := ((Fr.si (by decide)).trans (Fr.si (by decide))).trans f
  have hz : ∀ j, j ≠ 80 → j ≠ 81 → gi z8 0 j = gi s 0 j := fun j h1 h2 => by rw [c j h1, gi_dif h2, gi_dif h1]
  refine ⟨z8, ?_, ?_, ?_, hz, fr⟩
  · unfold fX12_keepsAll fX12_carriesAll
    simp only [lt_v, ck_t (show bz 0 = true by decide), a1, a2, a3, a4, a5, a6, a7, a8, bd_s, if_true]
  · refine kR_of (fun a j h => ?_)
    simp only [Bool.or_eq_false_iff] at h
    by_cases h0 : a = 0
    · subst h0
      have := h.1
      unfold scr at this
      simp at this
      exact hz j (by omega) (by omega)
    · by_cases h1 : a = 54
      · subst h1
        have := h.1
        unfold scr at this
        simp at this
        rw [e j (Or.inl (by omega)), gi_ne (by decide), gi_ne (by decide)]
      · exact fr.gi (by simp only [List.mem_cons, List.not_mem_nil, or_false]; omega) j
  · refine ⟨fun j hj => ?_, fun j hj => ?_, fun j hj => ?_, fun j hj => ?_, fun j hj => ?_, fun j hj => ?_, fun j hj => ?_, fun j hj => ?_⟩
    · rw [d1 j hj, gi_ne (by decide), gi_ne (by decide)]
    · rw [d2 j hj, gi_ne (by decide), gi_ne (by decide)]
    · rw [d3 j hj, gi_ne (by decide), gi_ne (by decide)]
    · rw [d4 j hj, gi_ne (by decide), gi_ne (by decide)]
    · rw [d5 j hj, gi_ne (by decide), gi_ne (by decide)]
    · rw [d6 j hj, gi_ne (by decide), gi_ne (by decide)]
    · rw [d7 j hj, gi_ne (by decide), gi_ne (by decide)]
    · rw [d8 j hj, gi_ne (by decide), gi_ne (by decide)]
theorem lays_ev {s0 s : ST} (hk : kQ s = kQ s0) (hs : SvK s0 s) : ∃ z, fX12_laysBack s = some z ∧ kR z = kR s0 ∧ SvK s0 z ∧ (∀ j, j ≠ 80 → j ≠ 81 → gi z 0 j = gi s 0 j) ∧ Fr [0, 1, 3, 4, 5, 6, 9, 11, 12] s z := by
  obtain ⟨z1, z2, z3, z4, z5, z6, z7, z8, a1, a2, a3, a4, a5, a6, a7, a8, b, c, d1, d2, d3, d4, d5, d6, d7, d8, -, -, -, -, -, -, -, -, f⟩ := carL8 (B := 4800) (s := si (si s 0 80 (1200 * 4)) 0 81 1) (by omega) (gi_same _ _ _ _) (by rw [gi_dif (by decide), gi_same]; rfl)
  have fr : Fr [0, 1, 3, 4, 5, 6, 9, 11, 12] s z8 := ((Fr.si (by decide)).trans (Fr.si (by decide))).trans f
  have hz : ∀ j, j ≠ 80 → j ≠ 81 → gi z8 0 j = gi s 0 j := fun j h1 h2 => by rw [c j h1, gi_dif h2, gi_dif h1]
  have h54 : ∀ j, gi (si (si s 0 80 (1200 * 4)) 0 81 1) 54 j = gi s 54 j := fun j => by rw [gi_ne (by decide), gi_ne (by decide)]
  obtain ⟨h1, h2, h3, h4, h5, h6, h7, h8⟩ := hs
  refine ⟨z8, ?_, ?_, ?_, hz, fr⟩
  · unfold fX12_laysBack fX12_carriesAll
    simp only [lt_v, ck_t (show bz 1 = true by decide), a1, a2, a3, a4, a5, a6, a7, a8, bd_s, if_true]
  · refine kR_rows (kQ_of (fun a j h => ?_)) (fun j hj => ?_) (fun j hj => ?_) (fun j hj => ?_) (fun j hj => ?_) (fun j hj => ?_) (fun j hj => ?_) (fun j hj => ?_) (fun j hj => ?_)
    · by_cases h0 : a = 0
      · subst h0
        have h' := h
        unfold scr at h'
        simp at h'
        rw [hz j (by omega) (by omega)]
        exact kQ_g hk h
      · have h' := h
        simp only [Bool.or_eq_false_iff] at h'
        have h9 := h'.2
        unfold svr at h9
        simp at h9
        rw [fr.gi (by simp only [List.mem_cons, List.not_mem_nil, or_false]; omega) j]
        exact kQ_g hk h
    · rw [d1 j hj, h54]; exact h1 j hj
    · rw [d2 j hj, h54]; exact h2 j hj
    · rw [d3 j hj, h54]; exact h3 j hj
    · rw [d4 j hj, h54]; exact h4 j hj
    · rw [d5 j hj, h54]; exact h5 j hj
    · rw [d6 j hj, h54]; exact h6 j hj
    · rw [d7 j hj, h54]; exact h7 j hj
    · rw [d8 j hj, h54]; exact h8 j hj
  · exact SvK_54 ⟨h1, h2, h3, h4, h5, h6, h7, h8⟩ (fun j => fr.gi (by decide) j)
