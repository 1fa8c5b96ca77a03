/-! WHAT TIES THE CLASS TO THE REFERENCE -/
/-- a rule's entries by the reference's sorts: what lies on the stack, by kind (true: a truth) -/
def tyS (x : Nat × Nat) (T : List Bool) : Option (List Bool) :=
  if x.1 = 0 then (if x.2 ≤ 99999 ∧ T.length < 60 then some (false :: T) else none)
  else if x.1 = 1 then (if x.2 < 14 ∧ T.length < 60 then some (false :: T) else none)
  else if x.1 = 9 then (match T with | true :: U => some (true :: U) | _ => none)
  else if x.1 = 10 ∨ x.1 = 11 then (match T with | true :: true :: U => some (true :: U) | _ => none)
  else if 4 ≤ x.1 ∧ x.1 ≤ 8 then (match T with | false :: false :: U => some (true :: U) | _ => none)
  else if x.1 = 2 ∨ x.1 = 3 ∨ x.1 = 13 ∨ x.1 = 14 ∨ x.1 = 15 then (match T with | false :: false :: U => some (false :: U) | _ => none)
  else none
def tyR (e : Nat → Nat × Nat) : Nat → Nat → List Bool → Option (List Bool)
  | 0, _, T => some T
  | n + 1, i, T => (tyS (e i) T).bind (tyR e n (i + 1))
/-- the class's sign of the reference's sort -/
def sg (k : Nat) : Nat := match k with
  | 0 => 0 | 1 => 1 | 2 => 2 | 3 => 3 | 4 => 7 | 5 => 8 | 6 => 9 | 7 => 10 | 8 => 11 | 9 => 14 | 10 => 12 | 11 => 13 | 12 => 15 | 13 => 4 | 14 => 5 | _ => 6
/-- a rule in the class (thing q) and in the reference (number r) -/
def RlS (t : PH) (C V : Nat → Nat → Int32) (q r : Nat) : Prop :=
  48 ≤ q ∧ isRl t q ∧ r < 6 ∧ ∃ (n L : Nat) (S T : Nat → Nat) (e : Nat → Nat × Nat), n ≤ 12 ∧ L ≤ 300 ∧ alT t (q + 1) = L ∧ alT t (q + 2) = n + 1 ∧ alT t (q + 3) = n ∧ C q 0 = nI n ∧ V 29 r = nI n ∧
    (∀ c, c ≤ n → S c ≤ L ∧ C (q + 2) c = nI (S c)) ∧
    (∀ c, c < n → S c ≤ T c ∧ T c ≤ S (c + 1) ∧ C (q + 3) c = nI (T c) ∧ V 30 (12 * r + c) = nI (S c) ∧ V 31 (12 * r + c) = nI (T c) ∧ V 32 (12 * r + c) = nI (S (c + 1)) ∧ tyR e (T c - S c) (S c) [] = some [false] ∧ (T c < S (c + 1) → tyR e (S (c + 1) - T c) (T c) [] = some [true])) ∧
    (∀ i, i < L → C (q + 1) i = nI (sg (e i).1 + 32 * (e i).2) ∧ V 27 (300 * r + i) = nI (e i).1 ∧ V 28 (300 * r + i) = nI (e i).2 ∧ (e i).2 ≤ 99999)
/-! the cells of a state -/
/-- those that show: clocks, last, of all fines and waits, minutes, held, missed, exempt, day -/
def vis (np nm j : Nat) : Prop := j < np ∨ (5 ≤ j ∧ j < 5 + np) ∨ (10 ≤ j ∧ j < 20) ∨ (20 ≤ j ∧ j < 20 + nm) ∨ (28 ≤ j ∧ j < 28 + nm) ∨ (36 ≤ j ∧ j < 36 + nm) ∨ j = 44 ∨ j = 45
def SR (np nm : Nat) (c r : Nat → Int32) : Prop := ∀ j, vis np nm j → c j = r j
/-- their bounds; the day is at most d -/
def SB (np nm d : Nat) (c : Nat → Int32) : Prop := (∀ q, q < np → -20 ≤ c q ∧ c q ≤ 20) ∧ (∀ m, m < nm → 0 ≤ c (20 + m) ∧ c (20 + m) ≤ 600) ∧ ∃ y, y ≤ d ∧ c 45 = nI y
/-- the reference's rows in the class's order -/
def lv (s : ST) (j : Nat) : Int32 :=
  if j < 5 then gi s 3 j else if j < 10 then gi s 4 (j - 5) else if j < 15 then gi s 5 (j - 10) else if j < 20 then gi s 6 (j - 15)
  else if j < 28 then gi s 9 (j - 20) else if j < 36 then gi s 11 (j - 28) else if j < 44 then gi s 12 (j - 36) else if j = 44 then gi s 1 8 else gi s 1 9
theorem lv_si_o (s : ST) {a j : Nat} {x : Int32} (h : ¬ (a = 1 ∧ (j = 8 ∨ j = 9)) ∧ a ≠ 3 ∧ a ≠ 4 ∧ a ≠ 5 ∧ a ≠ 6 ∧ a ≠ 9 ∧ a ≠ 11 ∧ a ≠ 12) : lv (si s a j x) = lv s := by
  funext k
  unfold lv
  simp only [gi_si]
  grind
theorem lv_sl (s : ST) {a j : Nat} {x : Int64} : lv (sl s a j x) = lv s := rfl
theorem upd_eq (f : Nat → Int32) (k : Nat) (x : Int32) (j : Nat) : upd f k x j = if j = k then x else f j := rfl
theorem lv_si3 (s : ST) {j : Nat} {x : Int32} (h : j < 5) : lv (si s 3 j x) = upd (lv s) j x := by
  funext k; rw [upd_eq]; unfold lv; simp only [gi_si]; grind
theorem lv_si4 (s : ST) {j : Nat} {x : Int32} (h : j < 5) : lv (si s 4 j x) = upd (lv s) (5 + j) x := by
  funext k; rw [upd_eq]; unfold lv; simp only [gi_si]; grind
theorem lv_si5 (s : ST) {j : Nat} {x : Int32} (h : j < 5) : lv (si s 5 j x) = upd (lv s) (10 + j) x := by
  funext k; rw [upd_eq]; unfold lv; simp only [gi_si]; grind
theorem lv_si6 (s : ST) {j : Nat} {x : Int32} (h : j < 5) : lv (si s 6 j x) = upd (lv s) (15 + j) x := by
  funext k; rw [upd_eq]; unfold lv; simp only [gi_si]; grind
theorem lv_si9 (s : ST) {j : Nat} {x : Int32} (h : j < 8) : lv (si s 9 j x) = upd (lv s) (20 + j) x := by
  funext k; rw [upd_eq]; unfold lv; simp only [gi_si]; grind
theorem lv_si11 (s : ST) {j : Nat} {x : Int32} (h : j < 8) : lv (si s 11 j x) = upd (lv s) (28 + j) x := by
  funext k; rw [upd_eq]; unfold lv; simp only [gi_si]; grind
theorem lv_si12 (s : ST) {j : Nat} {x : Int32} (h : j < 8) : lv (si s 12 j x) = upd (lv s) (36 + j) x := by
  funext k; rw [upd_eq]; unfold lv; simp only [gi_si]; grind
/-- (behind 45 lies the day again: only 44 and 45 are looked at) -/
theorem lv_si8 (s : ST) {x : Int32} : lv (si s 1 8 x) = upd (lv s) 44 x := by
  funext k; rw [upd_eq]; unfold lv; simp only [gi_si]; grind
theorem lv_day (s : ST) {x : Int32} (k : Nat) (h : k < 46) : lv (si s 1 9 x) k = upd (lv s) 45 x k := by
  rw [upd_eq]; unfold lv; simp only [gi_si]; grind
theorem lv_clock (s : ST) {q : Nat} (h : q < 5) : gi s 3 q = lv s q := by unfold lv; rw [if_pos h]
theorem lv_last (s : ST) {q : Nat} (h : q < 5) : gi s 4 q = lv s (5 + q) := by unfold lv; grind
theorem lv_fined (s : ST) {q : Nat} (h : q < 5) : gi s 5 q = lv s (10 + q) := by unfold lv; grind
theorem lv_waited (s : ST) {q : Nat} (h : q < 5) : gi s 6 q = lv s (15 + q) := by unfold lv; grind
theorem lv_minute (s : ST) {q : Nat} (h : q < 8) : gi s 9 q = lv s (20 + q) := by unfold lv; grind
theorem lv_held (s : ST) {q : Nat} (h : q < 8) : gi s 11 q = lv s (28 + q) := by unfold lv; grind
theorem lv_missed (s : ST) {q : Nat} (h : q < 8) : gi s 12 q = lv s (36 + q) := by unfold lv; grind
theorem lv_exempt (s : ST) : gi s 1 8 = lv s 44 := rfl
theorem lv_day0 (s : ST) : gi s 1 9 = lv s 45 := rfl
