/-! FUNCTIONS IN STEAD OF CODE: what the printed functions are made of -/
/-- ints, longs, references that change -/
abbrev ST : Type := (Nat → Nat → Int32) × (Nat → Nat → Int64) × (Nat → Option Nat)
def gi (s : ST) (a j : Nat) : Int32 := s.1 a j
def gl (s : ST) (a j : Nat) : Int64 := s.2.1 a j
def si (s : ST) (a j : Nat) (x : Int32) : ST := ((fun b => if b = a then upd (s.1 a) j x else s.1 b), s.2.1, s.2.2)
def sl (s : ST) (a j : Nat) (x : Int64) : ST := (s.1, (fun b => if b = a then vp_updL (s.2.1 a) j x else s.2.1 b), s.2.2)
def ix (i : Int32) : Nat := i.toNatClampNeg
def inb (i : Int32) (n : Nat) : Bool := decide (¬ (i < 0 ∨ n ≤ i.toNatClampNeg))
def bz (v : Int32) : Bool := v == 0 || v == 1
def ck {α : Type} (b : Bool) (x : Option α) : Option α := if b = true then x else none
def lt {α β : Type} (e : β) (k : β → Option α) : Option α := k e
theorem inb_in {i : Int32} {n : Nat} (h : inb i n = true) : vp_in i n := by
  have h1 : ¬ (i < 0 ∨ n ≤ i.toNatClampNeg) := of_decide_eq_true h
  exact h1
theorem ck_elim {α : Type} {b : Bool} {x : Option α} {q : α} (h : ck b x = some q) : b = true ∧ x = some q := by
  unfold ck at h
  by_cases e : b = true
  · rw [if_pos e] at h; exact ⟨e, h⟩
  · rw [if_neg e] at h; cases h
theorem bd_elim {α β : Type} {o : Option β} {k : β → Option α} {q : α} (h : o.bind k = some q) : ∃ a, o = some a ∧ k a = some q := by
  cases o with
  | none => cases h
  | some a => exact ⟨a, rfl, h⟩
theorem it_t {α : Type} {c : Prop} [Decidable c] {a b o : α} (h : (if c then a else b) = o) (hc : c) : a = o := by rw [if_pos hc] at h; exact h
theorem it_f {α : Type} {c : Prop} [Decidable c] {a b o : α} (h : (if c then a else b) = o) (hc : ¬ c) : b = o := by rw [if_neg hc] at h; exact h
theorem bz_n {v : Int32} (h : bz v = true) : narrow .boolean (.int v) = .int v ∧ fits .boolean (.int v) = true := by
  unfold bz at h
  simp only [Bool.or_eq_true, beq_iff_eq] at h
  rcases h with rfl | rfl <;> exact ⟨rfl, rfl⟩
theorem lz_i {α : Type} {g : GX} {md : MD} {pc : Nat} {ls : List (Option Value)} {st : List Value} {h : PH} {nc ns : Nat} {r : Option Value} {h2 : PH} {q : α} {e : Int32} {k : Int32 → Option α} (hf : lt e k = some q) (H : ∀ v, k v = some q → Rn g md pc ls (.int v :: st) h nc ns r h2) : Rn g md pc ls (.int e :: st) h nc ns r h2 := H e hf
theorem lz_l {α : Type} {g : GX} {md : MD} {pc : Nat} {ls : List (Option Value)} {st : List Value} {h : PH} {nc ns : Nat} {r : Option Value} {h2 : PH} {q : α} {e : Int64} {k : Int64 → Option α} (hf : lt e k = some q) (H : ∀ v, k v = some q → Rn g md pc ls (.long v :: st) h nc ns r h2) : Rn g md pc ls (.long e :: st) h nc ns r h2 := H e hf
theorem lz_s {α : Type} {g : GX} {md : MD} {pc : Nat} {ls : List (Option Value)} {st : List Value} (w : ST → PH) {nc ns : Nat} {r : Option Value} {h2 : PH} {q : α} {e : ST} {k : ST → Option α} (hf : lt e k = some q) (H : ∀ v, k v = some q → Rn g md pc ls st (w v) nc ns r h2) : Rn g md pc ls st (w e) nc ns r h2 := H e hf
/-- fewer locals are known -/
def kpL : List Bool → List (Option Value) → List (Option Value)
  | b :: bs, o :: os => (if b then o else none) :: kpL bs os
  | [], os => os
  | _, [] => []
theorem kpL_at : ∀ (bs : List Bool) (os : List (Option Value)) (i : Nat) (v : Value), (kpL bs os)[i]? = some (some v) → os[i]? = some (some v)
  | [], os, i, v, h => by simpa [kpL] using h
  | b :: bs, [], i, v, h => by simp [kpL] at h
  | b :: bs, o :: os, 0, v, h => by
    cases b
    · simp [kpL] at h
    · simpa [kpL] using h
  | b :: bs, o :: os, i + 1, v, h => by
    simp only [kpL, List.getElem?_cons_succ] at h ⊢
    exact kpL_at bs os i v h
theorem kpL_len : ∀ (bs : List Bool) (os : List (Option Value)), (kpL bs os).length = os.length
  | [], os => by simp [kpL]
  | b :: bs, [] => by simp [kpL]
  | b :: bs, o :: os => by simp [kpL, kpL_len bs os]
theorem o_keep {g : GX} {md : MD} {pc : Nat} {ls : List (Option Value)} {st : List Value} {h : PH} {nc ns : Nat} {r : Option Value} {h2 : PH} (bs : List Bool) (k : Rn g md pc (kpL bs ls) st h nc ns r h2) : Rn g md pc ls st h nc ns r h2 := by
  intro n0 ad0 ad A p e s m args below meth c H locs la hA hE hH hS hL
  exact k n0 ad0 ad A p e s m args below meth c H locs la hA hE hH hS ⟨hL.1, by rw [kpL_len]; exact hL.2.1, hL.2.2.1, fun i v hi => hL.2.2.2 i v (kpL_at bs ls i v hi)⟩
/-- a switch's default -/
theorem sw_out {x : Int32} (lo : Int) (N : Nat) (h : ∀ n : Nat, n ≤ N → ¬ x.toInt = lo + n) : x.toInt < lo ∨ lo + N < x.toInt := by
  by_cases e : x.toInt < lo
  · exact Or.inl e
  · by_cases e2 : lo + N < x.toInt
    · exact Or.inr e2
    · exact absurd (by omega) (h (x.toInt - lo).toNat (by omega))
theorem sw_ne {x c : Int32} {n : Int} (h : ¬ x = c) (hc : c.toInt = n) : ¬ x.toInt = n := fun e => h (Int32.toInt_inj.mp (e.trans hc.symm))
theorem lt_elim {α β : Type} {e : β} {k : β → Option α} {q : α} (h : lt e k = some q) : ∃ v, e = v ∧ k v = some q := ⟨e, rfl, h⟩
/-- how often a loop may go round -/
def FUEL : Nat := 5000
/-- texts: the number w stands for the text w - 1000000 of txS -/
def okT (w : Nat) : Bool := decide (1000000 ≤ w ∧ w < 1000046)
def tlen (w : Nat) : Int32 := Int32.ofNat (txB (w - 1000000)).length
def tch (w : Nat) (j : Int32) : Int32 := (((txB (w - 1000000)).getD (ix j) 0 &&& 255).toUInt32 % 65536).toInt32
