/-! a meeting by both: from states that are tied to states that are tied -/
def Bk (s s' : ST) (m : Nat) : Prop := gi s 35 m = gi s' 40 m ∧ gi s 37 (2 * m) = gi s' 41 m ∧ gi s 37 (2 * m + 1) = gi s' 42 m ∧ gi s 36 m = gi s' 43 m ∧ gi s 38 (2 * m) = gi s' 44 m ∧ gi s 38 (2 * m + 1) = gi s' 45 m
/-- B bounds the ends, k the counts, M, C, W are what the class had counted at the day's begin, D is the day -/
def DRd (np nm k : Nat) (M C W D E : Int32) (s s' : ST) : Prop :=
  SR np nm (s.1 32) (lv s') ∧ (∀ q, q < np → -20 ≤ lv s' q ∧ lv s' q ≤ 20) ∧ (∀ m, m < nm → 0 ≤ lv s' (20 + m) ∧ lv s' (20 + m) ≤ 600) ∧ (lv s' 45 = D ∧ (gi s' 0 63 = 0 → gi s' 1 11 = E) ∧ ∃ c, c ≤ 200 * k ∧ gi s' 0 61 = nI c) ∧
  (∀ q, q < np → gi s 39 q = gi s' 37 q ∧ -1000000 ≤ gi s' 37 q ∧ gi s' 37 q ≤ nI (1000 + 200 * k)) ∧
  (∀ q, q < np → ∃ e o, e ≤ k ∧ o ≤ k ∧ gi s' 38 q = nI e ∧ gi s' 39 q = nI o ∧ gi s 40 q = nI o - nI e) ∧
  gi s 30 15 = M + gi s' 0 60 ∧ gi s 30 16 = C + gi s' 0 61 ∧ gi s 30 17 = W + gi s' 0 62 ∧ (gi s' 0 63 ≠ 0 → gi s 30 14 = gi s' 1 11)
theorem drU_b {d p x : Int32} (h1 : -30 ≤ p) (h2 : p ≤ 120) : -30 ≤ drU d p x ∧ drU d p x ≤ 120 := by
  unfold drU dwn imx imn
  by_cases h : d = 0
  · rw [if_pos h]; exact ⟨h1, h2⟩
  · rw [if_neg h]; generalize (p + dva (dnx x)) - 5 = y; grind
theorem dr_eq {d p x y : Int32} (h : d ≠ 0 → x = y) : drU d p x = drU d p y := by
  unfold drU
  by_cases e : d = 0
  · rw [if_pos e, if_pos e]
  · rw [h e]
theorem drx_eq {d x y : Int32} (h : d ≠ 0 → x = y) : d ≠ 0 → drX d x = drX d y := by
  intro e; rw [h e]
/-! small numbers -/
theorem sm_s {a b : Int32} (h1 : -10000000 ≤ a) (h2 : a ≤ 10000000) (h3 : -10000000 ≤ b) (h4 : b ≤ 10000000) : (a - b).toInt = a.toInt - b.toInt := by
  rw [Int32.le_iff_toInt_le] at h1 h2 h3 h4
  have e1 : (-10000000 : Int32).toInt = -10000000 := by decide
  have e2 : (10000000 : Int32).toInt = 10000000 := by decide
  rw [e1] at h1 h3
  rw [e2] at h2 h4
  rw [Int32.toInt_sub, Int.bmod_def]
  omega
theorem sm_a {a b : Int32} (h1 : -10000000 ≤ a) (h2 : a ≤ 10000000) (h3 : -10000000 ≤ b) (h4 : b ≤ 10000000) : (a + b).toInt = a.toInt + b.toInt := by
  rw [Int32.le_iff_toInt_le] at h1 h2 h3 h4
  have e1 : (-10000000 : Int32).toInt = -10000000 := by decide
  have e2 : (10000000 : Int32).toInt = 10000000 := by decide
  rw [e1] at h1 h3
  rw [e2] at h2 h4
  rw [Int32.toInt_add, Int.bmod_def]
  omega
theorem sm_le {x lo hi y : Int32} (h : x ≤ lo) (h2 : lo ≤ y) : x ≤ y := Int32.le_trans h h2
theorem sb_ge {X Y : Int32} (h1 : -1000 ≤ X) (h2 : X ≤ 100000) (h3 : -1000 ≤ Y) (h4 : Y ≤ 100000) : (0 ≤ X - Y) = (Y ≤ X) := by
  rw [Int32.le_iff_toInt_le, Int32.le_iff_toInt_le, sm_s (by grind) (by grind) (by grind) (by grind)]
  show ((0 : Int) ≤ _) = _
  exact propext ⟨fun h => by omega, fun h => by omega⟩
theorem sb_r (X Y : Int32) : 0 - (X - Y) = Y - X := by grind
theorem mt_b {X Y pa : Int32} (h1 : -1000 ≤ X) (h2 : X ≤ 100000) (h3 : -1000 ≤ Y) (h4 : Y ≤ 100000) :
    decide (iab (X - Y) ≤ pa) = decide ((if X ≤ Y then Y - X else X - Y) ≤ pa) := by
  unfold iab
  rw [sb_r]
  simp only [sb_ge h1 h2 h3 h4]
  by_cases e1 : X ≤ Y
  · by_cases e2 : Y ≤ X
    · have : X = Y := Int32.le_antisymm e1 e2
      subst this
      rw [if_pos e1]
    · rw [if_pos e1, if_neg e2]
  · have e2 : Y ≤ X := by grind
    rw [if_neg e1, if_pos e2]
theorem mn_0 {p d : Int32} (h : d ≤ 0) (hp : 0 ≤ p) : imx 0 (imn p d) = 0 := by unfold imx imn; grind
theorem mn_1 {p d : Int32} (h : 0 ≤ d) (hp : 0 ≤ p) : imx 0 (imn p d) = if decide (d ≤ p) = true then d else p := by unfold imx imn; simp only [decide_eq_true_eq]; grind
theorem sb_le {X Y : Int32} (h1 : -1000 ≤ X) (h2 : X ≤ 100000) (h3 : -1000 ≤ Y) (h4 : Y ≤ 100000) (h : X ≤ Y) : X - Y ≤ 0 := by
  rw [Int32.le_iff_toInt_le] at h
  rw [Int32.le_iff_toInt_le, sm_s (by grind) (by grind) (by grind) (by grind)]
  show _ ≤ (0 : Int)
  omega
theorem mt_w1 {X Y pa : Int32} (h1 : -1000 ≤ X) (h2 : X ≤ 100000) (h3 : -1000 ≤ Y) (h4 : Y ≤ 100000) (h5 : 0 ≤ pa) :
    imx 0 (imn pa (Y - X)) = if X ≤ Y then (if decide ((if X ≤ Y then Y - X else X - Y) ≤ pa) = true then (if X ≤ Y then Y - X else X - Y) else pa) else 0 := by
  by_cases e1 : X ≤ Y
  · simp only [if_pos e1]
    exact mn_1 (by rw [sb_ge h3 h4 h1 h2]; exact e1) h5
  · simp only [if_neg e1]
    exact mn_0 (sb_le h3 h4 h1 h2 (by grind)) h5
theorem mt_w2 {X Y pa : Int32} (h1 : -1000 ≤ X) (h2 : X ≤ 100000) (h3 : -1000 ≤ Y) (h4 : Y ≤ 100000) (h5 : 0 ≤ pa) :
    imx 0 (imn pa (X - Y)) = if X ≤ Y then 0 else (if decide ((if X ≤ Y then Y - X else X - Y) ≤ pa) = true then (if X ≤ Y then Y - X else X - Y) else pa) := by
  by_cases e1 : X ≤ Y
  · simp only [if_pos e1]
    exact mn_0 (sb_le h1 h2 h3 h4 e1) h5
  · simp only [if_neg e1]
    exact mn_1 (by rw [sb_ge h1 h2 h3 h4]; grind) h5
theorem cm_b {mi u c : Int32} (h1 : 0 ≤ mi) (h2 : mi ≤ 600) (h3 : -30 ≤ u) (h4 : u ≤ 120) (h5 : -20 ≤ c) (h6 : c ≤ 20) : -1000 ≤ (mi + u) - c ∧ (mi + u) - c ≤ 1000 := by
  have e1 : (mi + u).toInt = mi.toInt + u.toInt := sm_a (by grind) (by grind) (by grind) (by grind)
  have e2 : -30 ≤ mi + u ∧ mi + u ≤ 720 := by
    rw [Int32.le_iff_toInt_le] at *
    rw [Int32.le_iff_toInt_le, e1]
    have a1 : (0 : Int32).toInt = 0 := by decide
    have a2 : (600 : Int32).toInt = 600 := by decide
    have a3 : (-30 : Int32).toInt = -30 := by decide
    have a4 : (120 : Int32).toInt = 120 := by decide
    have a5 : (720 : Int32).toInt = 720 := by decide
    omega
  have e3 : ((mi + u) - c).toInt = (mi + u).toInt - c.toInt := sm_s (by grind) (by grind) (by grind) (by grind)
  obtain ⟨e4, e5⟩ := e2
  rw [Int32.le_iff_toInt_le] at *
  rw [Int32.le_iff_toInt_le, e3]
  have a1 : (-1000 : Int32).toInt = -1000 := by decide
  have a2 : (1000 : Int32).toInt = 1000 := by decide
  have a3 : (-30 : Int32).toInt = -30 := by decide
  have a4 : (720 : Int32).toInt = 720 := by decide
  have a5 : (-20 : Int32).toInt = -20 := by decide
  have a6 : (20 : Int32).toInt = 20 := by decide
  omega
theorem im_b {v e B : Int32} (h1 : -1000 ≤ v) (h2 : v ≤ 1000) (h3 : e ≤ B) (h4 : 1000 ≤ B) : -1000 ≤ imx v e ∧ imx v e ≤ B := by unfold imx; grind
theorem en_b {X w B : Int32} (h1 : -1000 ≤ X) (h2 : X ≤ B) (h3 : B ≤ 3000) (h4 : 0 ≤ w) (h5 : w ≤ 99) : -1000000 ≤ X + w ∧ X + w ≤ B + 200 := by
  have e1 : (X + w).toInt = X.toInt + w.toInt := sm_a (by grind) (by grind) (by grind) (by grind)
  have e2 : (B + 200).toInt = B.toInt + 200 := sm_a (by grind) (by grind) (by decide) (by decide)
  rw [Int32.le_iff_toInt_le] at *
  rw [Int32.le_iff_toInt_le, e1, e2]
  have a1 : (-1000 : Int32).toInt = -1000 := by decide
  have a2 : (-1000000 : Int32).toInt = -1000000 := by decide
  have a3 : (0 : Int32).toInt = 0 := by decide
  have a4 : (99 : Int32).toInt = 99 := by decide
  omega
theorem en_c {x B : Int32} (h2 : x ≤ B) (h3 : B ≤ 3000) (h4 : 1000 ≤ B) : x ≤ B + 200 := by
  have e2 : (B + 200).toInt = B.toInt + 200 := sm_a (by grind) (by grind) (by decide) (by decide)
  rw [Int32.le_iff_toInt_le] at *
  rw [e2]
  omega
theorem ww_e {c : Prop} [Decidable c] {w : Int32} : (if c then w else 0) + (if c then 0 else w) = w := by
  by_cases h : c
  · rw [if_pos h, if_pos h]; exact Int32.add_zero w
  · rw [if_neg h, if_neg h]; exact Int32.zero_add w
theorem bg_e (X Y : Int32) : X + (if X ≤ Y then (if X ≤ Y then Y - X else X - Y) else 0) = if X ≤ Y then Y else X := by
  by_cases h : X ≤ Y
  · rw [if_pos h, if_pos h, if_pos h]; grind
  · rw [if_neg h, if_neg h]; grind
theorem bg_b {X Y B : Int32} (h1 : -1000 ≤ X) (h2 : X ≤ B) (h3 : -1000 ≤ Y) (h4 : Y ≤ B) : -1000 ≤ (if X ≤ Y then Y else X) ∧ (if X ≤ Y then Y else X) ≤ B := by grind
theorem wt_b {X Y pa : Int32} (h1 : -1000 ≤ X) (h2 : X ≤ 100000) (h3 : -1000 ≤ Y) (h4 : Y ≤ 100000) (h5 : 0 ≤ pa) (h6 : pa ≤ 99) : 0 ≤ (if decide ((if X ≤ Y then Y - X else X - Y) ≤ pa) = true then (if X ≤ Y then Y - X else X - Y) else pa) ∧ (if decide ((if X ≤ Y then Y - X else X - Y) ≤ pa) = true then (if X ≤ Y then Y - X else X - Y) else pa) ≤ 99 := by
  have h0 : 0 ≤ (if X ≤ Y then Y - X else X - Y) := by
    by_cases e1 : X ≤ Y
    · rw [if_pos e1, sb_ge h3 h4 h1 h2]; exact e1
    · rw [if_neg e1, sb_ge h1 h2 h3 h4]; grind
  simp only [decide_eq_true_eq]
  generalize (if X ≤ Y then Y - X else X - Y) = d at *
  grind
theorem if_b {c : Prop} [Decidable c] {w : Int32} (h1 : 0 ≤ w) (h2 : w ≤ 99) : (0 ≤ (if c then w else 0) ∧ (if c then w else 0) ≤ 99) ∧ (0 ≤ (if c then 0 else w) ∧ (if c then 0 else w) ≤ 99) := by
  by_cases h : c
  · simp only [if_pos h]; exact ⟨⟨h1, h2⟩, by decide, by decide⟩
  · simp only [if_neg h]; exact ⟨⟨by decide, by decide⟩, h1, h2⟩
theorem gu_b {x : Bool} {l lo hi : Int32} {e o k : Nat} (he : e ≤ k) (ho : o ≤ k) : ∃ e2 o2, e2 ≤ k + 1 ∧ o2 ≤ k + 1 ∧ eaV x l lo (nI e) = nI e2 ∧ ovV x l lo hi (nI o) = nI o2 ∧ guV x l lo hi (nI o - nI e) = nI o2 - nI e2 := by
  unfold eaV ovV guV
  cases x
  · by_cases h1 : lo ≤ l
    · by_cases h2 : l ≤ hi
      · exact ⟨e, o, by omega, by omega, by simp [h1], by simp [h1, h2], by simp [h1, h2]⟩
      · refine ⟨e, o + 1, by omega, by omega, by simp [h1], by simp only [h1, h2, Bool.false_eq_true, if_false, if_true]; exact nj_addr o 1, ?_⟩
        simp only [h1, h2, Bool.false_eq_true, if_false, if_true]
        rw [← nj_add o 1]; show _ = nI o + 1 - nI e; grind
    · refine ⟨e + 1, o, by omega, by omega, by simp only [h1, Bool.false_eq_true, if_false]; exact nj_addr e 1, by simp [h1], ?_⟩
      simp only [h1, Bool.false_eq_true, if_false]
      rw [← nj_add e 1]; show _ = nI o - (nI e + 1); grind
  · exact ⟨e, o, by omega, by omega, by simp, by simp, by simp⟩
theorem ac4 (C x f w g v : Int32) : C + x + (f + w) + (g + v) = C + (x + ((f + g) + (w + v))) := by grind
theorem ac3 (C x w v : Int32) : C + x + w + v = C + (x + (w + v)) := by grind
theorem lv_LL {s s2 : ST} (h : LL s s2) : lv s2 = lv s := by funext j; unfold lv; simp only [h.gi]
theorem rwM_vis {np nm a b m : Nat} {c c' : Nat → Int32} {lA lB fA fB w1 w2 : Int32} {hd : Bool} (h : SR np nm c c') : SR np nm (rwM c a b m lA lB fA fB w1 w2 hd) (rwM c' a b m lA lB fA fB w1 w2 hd) := by
  intro j hj
  unfold rwM
  rw [h j hj]
theorem rwM_o {a b m j : Nat} {c : Nat → Int32} {lA lB fA fB w1 w2 : Int32} {hd : Bool} (h : j ≠ 5 + a ∧ j ≠ 5 + b ∧ j ≠ 10 + a ∧ j ≠ 10 + b ∧ j ≠ 15 + a ∧ j ≠ 15 + b ∧ j ≠ 28 + m ∧ j ≠ 36 + m) : rwM c a b m lA lB fA fB w1 w2 hd j = c j := by
  obtain ⟨h1, h2, h3, h4, h5, h6, h7, h8⟩ := h
  unfold rwM
  rw [if_neg h1, if_neg h2, if_neg h3, if_neg h4, if_neg h5, if_neg h6, if_neg h7, if_neg h8]
theorem fn_b {x : Bool} {l lo hi fe fo : Int32} (h1 : 0 ≤ fe ∧ fe ≤ 9) (h2 : 0 ≤ fo ∧ fo ≤ 9) : ∃ a, a ≤ 9 ∧ fnV x l lo hi fe fo = nI a := by
  obtain ⟨a, a1, a2⟩ := nj_ofl h1.1 (show fe ≤ nI 9 from h1.2) (by omega)
  obtain ⟨b, b1, b2⟩ := nj_ofl h2.1 (show fo ≤ nI 9 from h2.2) (by omega)
  unfold fnV
  by_cases c1 : x = true
  · exact ⟨0, by omega, by rw [if_pos c1]; rfl⟩
  rw [if_neg c1]
  by_cases c2 : lo ≤ l
  · rw [if_pos c2]
    by_cases c3 : l ≤ hi
    · exact ⟨0, by omega, by rw [if_pos c3]; rfl⟩
    · exact ⟨b, b1, by rw [if_neg c3]; exact b2⟩
  · exact ⟨a, a1, by rw [if_neg c2]; exact a2⟩
theorem meet_both {t : PH} {s s' : ST} {np nm k m : Nat} {M C W D E : Int32} (hp : DRp t (kC s) (mr s) (kM s') np nm) (hr : DRd np nm k M C W D E s s') (hm : m < nm) (hk : k < 8) :
    ∃ z z', fX0_goThrough (nI m) t s = some z ∧ fX12_meets (nI m) s' = some z' ∧ DRd np nm (k + 1) M C W D E z z' ∧ kC z = kC s ∧ z.2.2 = s.2.2 ∧ kM z' = kM s' ∧ (∀ j, gi z 34 j = gi s 34 j) ∧ (∀ j, gi z' 36 j = gi s' 36 j) ∧
      Bk z z' m ∧ (∀ m2, m2 ≠ m → Bk s s' m2 → Bk z z' m2) ∧ (∀ j, ¬ vis np nm j → gi z 32 j = gi s 32 j) := by
  obtain ⟨r1, r2, r3, r4, r5, r6, r7, r8, r9, r10⟩ := hr
  have hp0 := hp
  obtain ⟨p1, p2, p3, p4, p5, p6, p7, p8, p9, p10, p11, p12, p13, p14, p15, p16, p17, p18, p19⟩ := hp
  obtain ⟨a, b, ha, hb, hab, m1, m2, m3, m4, m5, m6, m7⟩ := p14 m hm
  rw [kC_v rfl] at m1 m3 m5
  rw [kM_v rfl] at m2 m4 m5 m6 m7
  have p8 : gi s 30 7 = gi s' 1 0 := by rwa [kC_v rfl, kM_v rfl] at p8
  have p9 : gi s 30 8 = gi s' 1 1 := by rwa [kC_v rfl, kM_v rfl] at p9
  have p10 : gi s 18 3 = gi s' 1 2 := by rwa [kC_v rfl, kM_v rfl] at p10
  have p11 : 0 ≤ gi s' 1 2 ∧ gi s' 1 2 ≤ 99 := by rwa [kM_v rfl] at p11
  have p12 : gi s 18 4 = gi s' 1 5 ∧ gi s 18 5 = gi s' 1 6 ∧ (0 ≤ gi s' 1 5 ∧ gi s' 1 5 ≤ 9) ∧ 0 ≤ gi s' 1 6 ∧ gi s' 1 6 ≤ 9 := by
    have := p12 (by omega)
    rwa [kC_v rfl, kC_v rfl, kM_v rfl, kM_v rfl] at this
  have p16 : gi s 30 10 = gi s' 0 57 := by rwa [kC_v rfl, kM_v rfl] at p16
  have p17 : gi s' 0 57 ≠ -1 → gi s 30 11 = gi s' 0 58 ∧ gi s 30 12 = gi s' 0 59 ∧ (0 ≤ gi s' 0 58 ∧ gi s' 0 58 ≤ 60) ∧ 0 ≤ gi s' 0 59 ∧ gi s' 0 59 ≤ 60 := by
    simp only [kC_v (show chC 30 11 = false from rfl), kC_v (show chC 30 12 = false from rfl), kM_v (show chM 0 57 = false from rfl), kM_v (show chM 0 58 = false from rfl), kM_v (show chM 0 59 = false from rfl)] at p17
    exact p17
  have p18 : gi s 30 13 = gi s' 0 63 := by rwa [kC_v rfl, kM_v rfl] at p18
  -- what both mean
  obtain ⟨vA, s1, s1', e1, e1', F1, G1, b1, b2⟩ := both_mean hp0 r1 ha hb hab hm (Or.inl ⟨m2, m4⟩)
  have hp1 : DRp t (kC s1) (mr s1) (kM s1') np nm := by
    rw [F1.kC, show mr s1 = mr s from funext F1.mr, kM_of G1.1]; exact hp0
  have r1' : SR np nm (s1.1 32) (lv s1') := by
    rw [F1.1 32 (by decide), lv_LL G1]; exact r1
  obtain ⟨vB, s2, s2', e2, e2', F2, G2, b3, b4⟩ := both_mean hp1 r1' hb ha (fun h => hab h.symm) hm (Or.inr ⟨by rw [G1.gi]; exact m2, by rw [G1.gi]; exact m4⟩)
  have F : FC s s2 := ⟨fun x hx => (F2.1 x hx).trans (F1.1 x hx), F2.2.trans F1.2⟩
  -- what the reference takes
  obtain ⟨pA, pB, y1, y2, t1, t2, GG, q1, q2, q3, q4, q5, q6⟩ : ∃ pA pB y1 y2, (if gi s' 0 57 = nI m then some (gi s' 0 58, s') else (fX12_meansOf (nI a) (nI m) s').bind (fun q9 => some (q9.1, q9.2)) : Option (Int32 × ST)) = some (pA, y1) ∧
      (if gi y1 0 57 = nI m then some (gi y1 0 59, y1) else (fX12_meansOf (nI b) (nI m) y1).bind (fun q9 => some (q9.1, q9.2)) : Option (Int32 × ST)) = some (pB, y2) ∧ LL s' y2 ∧
      (if nI m = gi s 30 10 then gi s 30 11 else vA) = pA ∧ (if nI m = gi s 30 10 then gi s 30 12 else vB) = pB ∧ -30 ≤ pA ∧ pA ≤ 120 ∧ -30 ≤ pB ∧ pB ≤ 120 := by
    by_cases hf : gi s' 0 57 = nI m
    · have hn : gi s' 0 57 ≠ -1 := by rw [hf]; exact nj_nm (by omega) (by decide) (by decide)
      obtain ⟨u1, u2, ⟨u3, u4⟩, u5, u6⟩ := p17 hn
      refine ⟨gi s' 0 58, gi s' 0 59, s', s', by rw [if_pos hf], by rw [if_pos hf], LL.rfl, ?_, ?_, ?_, ?_, ?_, ?_⟩
      · rw [if_pos (by rw [p16, hf]), u1]
      · rw [if_pos (by rw [p16, hf]), u2]
      · exact Int32.le_trans (by decide) u3
      · exact Int32.le_trans u4 (by decide)
      · exact Int32.le_trans (by decide) u5
      · exact Int32.le_trans u6 (by decide)
    · refine ⟨vA, vB, s1', s2', by rw [if_neg hf, e1', bd_s], by rw [if_neg (by rw [G1.gi]; exact hf), e2', bd_s], G1.trans G2, ?_, ?_, b1, b2, b3, b4⟩
      · rw [if_neg (by rw [p16]; exact fun h => hf h.symm)]
      · rw [if_neg (by rw [p16]; exact fun h => hf h.symm)]
  have x44 : gi s 32 44 = gi s' 1 8 := by rw [lv_exempt]; exact r1 _ (by unfold vis; omega)
  have xm : gi s 32 (20 + m) = gi s' 9 m := by rw [lv_minute _ (by omega)]; exact r1 _ (by unfold vis; omega)
  have xca : gi s 32 a = gi s' 3 a := by rw [lv_clock _ (by omega)]; exact r1 _ (by unfold vis; omega)
  have xcb : gi s 32 b = gi s' 3 b := by rw [lv_clock _ (by omega)]; exact r1 _ (by unfold vis; omega)
  have hca := r2 a ha
  have hcb := r2 b hb
  have hmb := r3 m hm
  rw [← lv_clock _ (by omega)] at hca hcb
  rw [← lv_minute _ (by omega)] at hmb
  obtain ⟨d1, d2, d3⟩ := r5 a ha
  obtain ⟨d4, d5, d6⟩ := r5 b hb
  obtain ⟨ea, oa, v1, v2, v3, v4, v5⟩ := r6 a ha
  obtain ⟨eb, ob, v6, v7, v8, v9, v10⟩ := r6 b hb
  have hB0 : nI (1000 + 200 * k) ≤ 3000 := by rw [nj_ler (by omega) (by decide)]; omega
  have hB1 : 1000 ≤ nI (1000 + 200 * k) := by rw [nj_lel (by decide) (by omega)]; omega
  have hBs : nI (1000 + 200 * (k + 1)) = nI (1000 + 200 * k) + 200 := by rw [nj_addr]; exact congrArg nI (by omega)
  -- names
  obtain ⟨uA, hA⟩ : ∃ u, drU (gi s' 0 63) pA (gi s' 1 11) = u := ⟨_, rfl⟩
  obtain ⟨uB, hB⟩ : ∃ u, drU (gi s' 0 63) pB (drX (gi s' 0 63) (gi s' 1 11)) = u := ⟨_, rfl⟩
  have hAc : drU (gi s 30 13) (if nI m = gi s 30 10 then gi s 30 11 else vA) (gi s 30 14) = uA := by rw [q1, p18, dr_eq r10, hA]
  have hBc : drU (gi s 30 13) (if nI m = gi s 30 10 then gi s 30 12 else vB) (drX (gi s 30 13) (gi s 30 14)) = uB := by rw [q2, p18, dr_eq (drx_eq r10), hB]
  have uAb := hA ▸ drU_b (d := gi s' 0 63) (x := gi s' 1 11) q3 q4
  have uBb := hB ▸ drU_b (d := gi s' 0 63) (x := drX (gi s' 0 63) (gi s' 1 11)) q5 q6
  obtain ⟨mi, hmi⟩ : ∃ u, gi s' 9 m = u := ⟨_, rfl⟩
  rw [hmi] at xm hmb
  have lA : -1000 ≤ (mi + uA) - gi s' 3 a ∧ (mi + uA) - gi s' 3 a ≤ 1000 := cm_b hmb.1 hmb.2 uAb.1 uAb.2 hca.1 hca.2
  have lB : -1000 ≤ (mi + uB) - gi s' 3 b ∧ (mi + uB) - gi s' 3 b ≤ 1000 := cm_b hmb.1 hmb.2 uBb.1 uBb.2 hcb.1 hcb.2
  obtain ⟨X, hX⟩ : ∃ u, cmV ((mi + uA) - gi s' 3 a) (gi s' 37 a) = u := ⟨_, rfl⟩
  obtain ⟨Y, hY⟩ : ∃ u, cmV ((mi + uB) - gi s' 3 b) (gi s' 37 b) = u := ⟨_, rfl⟩
  have hXc : imx ((mi + uA) - gi s 32 a) (gi s 39 a) = X := by rw [xca, d1, ← cm_im lA.1, hX]
  have hYc : imx ((mi + uB) - gi s 32 b) (gi s 39 b) = Y := by rw [xcb, d4, ← cm_im lB.1, hY]
  have Xb : -1000 ≤ X ∧ X ≤ nI (1000 + 200 * k) := by rw [← hX, cm_im lA.1]; exact im_b lA.1 lA.2 d3 hB1
  have Yb : -1000 ≤ Y ∧ Y ≤ nI (1000 + 200 * k) := by rw [← hY, cm_im lB.1]; exact im_b lB.1 lB.2 d6 hB1
  obtain ⟨hd, hh⟩ : ∃ u, decide ((if X ≤ Y then Y - X else X - Y) ≤ gi s' 1 2) = u := ⟨_, rfl⟩
  obtain ⟨wt, hwt⟩ : ∃ u, (if hd = true then (if X ≤ Y then Y - X else X - Y) else gi s' 1 2) = u := ⟨_, rfl⟩
  obtain ⟨w1, hw1⟩ : ∃ u, (if X ≤ Y then wt else 0) = u := ⟨_, rfl⟩
  obtain ⟨w2, hw2⟩ : ∃ u, (if X ≤ Y then 0 else wt) = u := ⟨_, rfl⟩
  have X1 : X ≤ 100000 := Int32.le_trans (Int32.le_trans Xb.2 hB0) (by decide)
  have Y1 : Y ≤ 100000 := Int32.le_trans (Int32.le_trans Yb.2 hB0) (by decide)
  have hhc : decide (iab (X - Y) ≤ gi s 18 3) = hd := by rw [p10, mt_b Xb.1 X1 Yb.1 Y1, hh]
  have hw1c : imx 0 (imn (gi s 18 3) (Y - X)) = w1 := by rw [p10, mt_w1 Xb.1 X1 Yb.1 Y1 p11.1, hh, hwt, hw1]
  have hw2c : imx 0 (imn (gi s 18 3) (X - Y)) = w2 := by rw [p10, mt_w2 Xb.1 X1 Yb.1 Y1 p11.1, hh, hwt, hw2]
  have hww : w1 + w2 = wt := by rw [← hw1, ← hw2]; exact ww_e
  have wtb : 0 ≤ wt ∧ wt ≤ 99 := by
    have := wt_b Xb.1 X1 Yb.1 Y1 p11.1 p11.2
    rw [hh, hwt] at this
    exact this
  have w12 := if_b (c := X ≤ Y) wtb.1 wtb.2
  rw [hw1, hw2] at w12
  obtain ⟨w1b, w2b⟩ := w12
  have hbg : hd = true → X + w1 = if X ≤ Y then Y else X := by
    intro h
    rw [if_pos h] at hwt
    rw [← hw1, ← hwt]
    exact bg_e X Y
  have fAc : fnV (exB (gi s 32 44) a) (X - mi) (gi s 30 7) (gi s 30 8) (gi s 18 4) (gi s 18 5) = fnV (exB (gi s' 1 8) a) (X - mi) (gi s' 1 0) (gi s' 1 1) (gi s' 1 5) (gi s' 1 6) := by rw [x44, p8, p9, p12.1, p12.2.1]
  have fBc : fnV (exB (gi s 32 44) b) (Y - mi) (gi s 30 7) (gi s 30 8) (gi s 18 4) (gi s 18 5) = fnV (exB (gi s' 1 8) b) (Y - mi) (gi s' 1 0) (gi s' 1 1) (gi s' 1 5) (gi s' 1 6) := by rw [x44, p8, p9, p12.1, p12.2.1]
  obtain ⟨z, c0, c1, c2, c3, c4, c5, c6, c7, c8, c9, c10, c11, c12, c13, c14⟩ := goC (by omega) (by omega) (by omega) hab p3 m1 m3 e1 e2 F hAc hBc rfl xm hXc hYc hw1c hw2c hhc fAc fBc rfl rfl
  obtain ⟨z', g0, g1, g2, g3, g4, g5, g6, g7, g8, g9, g10, g11, g12, g13, g14, g15, g16⟩ := meetM (by omega) (by omega) (by omega) hab m2 m4 t1 t2 GG hA hB rfl hmi hX hY hh hwt rfl hw1 hw2 rfl rfl rfl rfl rfl rfl
  obtain ⟨eA, oA, i1, i2, i3, i4, i5⟩ := gu_b (x := exB (gi s' 1 8) a) (l := X - mi) (lo := gi s' 1 0) (hi := gi s' 1 1) v1 v2
  obtain ⟨eB, oB, i6, i7, i8, i9, i10⟩ := gu_b (x := exB (gi s' 1 8) b) (l := Y - mi) (lo := gi s' 1 0) (hi := gi s' 1 1) v6 v7
  refine ⟨z, z', c0, g0, ⟨?_, ?_, ?_, ?_, ?_, ?_, ?_, ?_, ?_, ?_⟩, c1, c2, g1, c10, g12, ?_, ?_, ?_⟩
  · intro j hj
    rw [show z.1 32 j = gi z 32 j from rfl, c3, g2]
    exact rwM_vis r1 j hj
  · intro q hq
    rw [g2, rwM_o (by omega)]; exact r2 q hq
  · intro q hq
    rw [g2, rwM_o (by omega)]; exact r3 q hq
  · refine ⟨by rw [g2, rwM_o (by omega)]; exact r4.1, fun h => ?_, ?_⟩
    rotate_left
    · obtain ⟨cc, y1, y2⟩ := r4.2.2
      obtain ⟨fa, y3, y4⟩ := fn_b (x := exB (gi s' 1 8) a) (l := X - mi) (lo := gi s' 1 0) (hi := gi s' 1 1) p12.2.2.1 p12.2.2.2
      obtain ⟨fb, y5, y6⟩ := fn_b (x := exB (gi s' 1 8) b) (l := Y - mi) (lo := gi s' 1 0) (hi := gi s' 1 1) p12.2.2.1 p12.2.2.2
      obtain ⟨ww, y7, y8⟩ := nj_ofl wtb.1 (show wt ≤ nI 99 from wtb.2) (by omega)
      exact ⟨cc + ((fa + fb) + ww), by omega, by rw [g15, y2, y4, y6, y8, nj_add, nj_add, nj_add]⟩
    have h : gi s' 0 63 = 0 := by
      have := kM_g g1 (a := 0) (j := 63) rfl
      rwa [this] at h
    rw [g13]
    unfold drX
    rw [if_pos h, if_pos h]
    exact r4.2.1 h
  · intro q hq
    rw [c4, g3, hBs]
    obtain ⟨d7, d8, d9⟩ := r5 q hq
    have d7 : s.1 39 q = s'.1 37 q := d7
    have d8 : -1000000 ≤ s'.1 37 q := d8
    have d9 : s'.1 37 q ≤ nI (1000 + 200 * k) := d9
    have fin : ∀ x y : Int32, (-1000000 ≤ x ∧ x ≤ nI (1000 + 200 * k) + 200) → (-1000000 ≤ y ∧ y ≤ nI (1000 + 200 * k) + 200) → tw (s.1 39) a b x y q = tw (s'.1 37) a b x y q ∧ -1000000 ≤ tw (s'.1 37) a b x y q ∧ tw (s'.1 37) a b x y q ≤ nI (1000 + 200 * k) + 200 := by
      intro x y hx hy
      unfold tw
      by_cases c1 : q = a
      · simp only [if_pos c1]; exact ⟨trivial, hx⟩
      · simp only [if_neg c1]
        by_cases c2 : q = b
        · simp only [if_pos c2]; exact ⟨trivial, hy⟩
        · simp only [if_neg c2]; exact ⟨d7, d8, en_c d9 hB0 hB1⟩
    rw [m5]
    cases hd
    · simp only [Bool.false_eq_true, if_false]
      exact fin _ _ (en_b Xb.1 Xb.2 hB0 w1b.1 w1b.2) (en_b Yb.1 Yb.2 hB0 w2b.1 w2b.2)
    · have hbg := hbg rfl
      rw [hbg]
      simp only [if_true]
      have bb := bg_b Xb.1 Xb.2 Yb.1 Yb.2
      have ee := en_b bb.1 bb.2 hB0 (Int32.le_trans (by decide) m6) (Int32.le_trans m7 (by decide))
      exact fin _ _ ee ee
  · intro q hq
    rw [c5, g4, g5]
    unfold tw
    by_cases j1 : q = a
    · subst j1
      rw [if_pos rfl, if_pos rfl, if_pos rfl, v3, v4, x44, p8, p9, v5]
      exact ⟨eA, oA, i1, i2, i3, i4, i5⟩
    · rw [if_neg j1, if_neg j1, if_neg j1]
      by_cases j2 : q = b
      · subst j2
        rw [if_pos rfl, if_pos rfl, if_pos rfl, v8, v9, x44, p8, p9, v10]
        exact ⟨eB, oB, i6, i7, i8, i9, i10⟩
      · rw [if_neg j2, if_neg j2, if_neg j2]
        obtain ⟨e, o, w1, w2, w3, w4, w5⟩ := r6 q hq
        exact ⟨e, o, by omega, by omega, w3, w4, w5⟩
  · rw [c12, g14, r7]; cases hd
    · simp only [Bool.false_eq_true, if_false]; exact Int32.add_assoc _ _ _
    · simp only [if_true]
  · rw [c13, g15, r8, ← hww]; exact ac4 _ _ _ _ _ _
  · rw [c14, g16, r9, ← hww]; exact ac3 _ _ _ _
  · intro h
    have h : gi s' 0 63 ≠ 0 := by
      have := kM_g g1 (a := 0) (j := 63) rfl
      rwa [this] at h
    rw [c11, g13, p18, r10 h]
  · unfold Bk
    rw [c6, c7, c8, c8, c9, c9, g6, g7, g8, g9, g10, g11]
    refine ⟨?_, ?_, ?_, ?_, ?_, ?_⟩
    · rw [if_pos rfl, if_pos rfl]
      cases hd
      · rfl
      · exact hbg rfl
    · rw [if_neg (by omega), if_pos rfl, if_pos rfl]
    · rw [if_pos rfl, if_pos rfl]
    · rw [if_pos rfl, if_pos rfl, hww]
    · rw [if_neg (by omega), if_pos rfl, if_pos rfl]
    · rw [if_pos rfl, if_pos rfl]
  · intro n hn hb
    unfold Bk at hb ⊢
    rw [c6, c7, c8, c8, c9, c9, g6, g7, g8, g9, g10, g11]
    rw [if_neg hn, if_neg hn, if_neg hn, if_neg hn, if_neg hn, if_neg hn, if_neg hn, if_neg hn, if_neg (by omega), if_neg (by omega), if_neg (by omega), if_neg (by omega), if_neg (by omega), if_neg (by omega), if_neg (by omega), if_neg (by omega)]
    exact hb
  · intro j hj
    unfold vis at hj
    rw [c3, rwM_o (by omega)]; rfl
