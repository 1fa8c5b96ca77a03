/-! THE TWO AS FUNCTIONS: reckoning with small numbers, and with states -/
theorem ix_nI {n : Nat} (h : n < 2147483648) : ix (nI n) = n := nI_clamp h
theorem nj_toInt {n : Nat} (h : n < 2147483648) : (nI n).toInt = (n : Int) := Int32.toInt_ofNat_of_lt h
theorem lit_nI (n : Nat) : (OfNat.ofNat n : Int32) = nI (OfNat.ofNat n) := rfl
theorem ix_lit {n : Nat} (h : (OfNat.ofNat n : Nat) < 2147483648) : ix (no_index (OfNat.ofNat n) : Int32) = OfNat.ofNat n := by rw [lit_nI]; exact ix_nI h
theorem nj_add (a b : Nat) : nI a + nI b = nI (a + b) := (Int32.ofNat_add a b).symm
theorem nj_addl (a b : Nat) : (no_index (OfNat.ofNat a) : Int32) + nI b = nI ((OfNat.ofNat a) + b) := by rw [lit_nI]; exact nj_add _ _
theorem nj_addr (a b : Nat) : nI a + (no_index (OfNat.ofNat b) : Int32) = nI (a + (OfNat.ofNat b)) := by rw [lit_nI]; exact nj_add _ _
theorem nj_mul (a b : Nat) : nI a * nI b = nI (a * b) := (Int32.ofNat_mul a b).symm
theorem nj_mull (a b : Nat) : (no_index (OfNat.ofNat a) : Int32) * nI b = nI ((OfNat.ofNat a) * b) := by rw [lit_nI]; exact nj_mul _ _
theorem nj_mulr (a b : Nat) : nI a * (no_index (OfNat.ofNat b) : Int32) = nI (a * (OfNat.ofNat b)) := by rw [lit_nI]; exact nj_mul _ _
theorem nj_sub {a b : Nat} (h : b ≤ a) : nI a - nI b = nI (a - b) := by
  obtain ⟨c, rfl⟩ := Nat.le.dest h
  rw [← nj_add, Nat.add_sub_cancel_left]
  grind
theorem nj_subr {a b : Nat} (h : (OfNat.ofNat b) ≤ a) : nI a - (no_index (OfNat.ofNat b) : Int32) = nI (a - (OfNat.ofNat b)) := by rw [lit_nI]; exact nj_sub h
theorem nj_pred {a : Nat} (h : 1 ≤ a) : nI a + (-1) = nI (a - 1) := by
  have := nj_subr (a := a) (b := 1) h
  rw [← this]; grind
theorem nj_le {a b : Nat} (ha : a < 2147483648) (hb : b < 2147483648) : (nI a ≤ nI b) = (a ≤ b) := by
  rw [Int32.le_iff_toInt_le, nj_toInt ha, nj_toInt hb, Int.ofNat_le]
theorem nj_lt {a b : Nat} (ha : a < 2147483648) (hb : b < 2147483648) : (nI a < nI b) = (a < b) := by
  rw [Int32.lt_iff_toInt_lt, nj_toInt ha, nj_toInt hb, Int.ofNat_lt]
theorem nj_eq {a b : Nat} (ha : a < 2147483648) (hb : b < 2147483648) : (nI a = nI b) = (a = b) := by
  refine propext ⟨fun h => ?_, fun h => by rw [h]⟩
  have := congrArg Int32.toInt h
  rw [nj_toInt ha, nj_toInt hb] at this
  omega
theorem nj_lel {a b : Nat} (ha : (OfNat.ofNat a) < 2147483648) (hb : b < 2147483648) : ((no_index (OfNat.ofNat a) : Int32) ≤ nI b) = ((OfNat.ofNat a) ≤ b) := by rw [lit_nI]; exact nj_le ha hb
theorem nj_ler {a b : Nat} (ha : a < 2147483648) (hb : (OfNat.ofNat b) < 2147483648) : (nI a ≤ (no_index (OfNat.ofNat b) : Int32)) = (a ≤ (OfNat.ofNat b)) := by rw [lit_nI]; exact nj_le ha hb
theorem nj_ltl {a b : Nat} (ha : (OfNat.ofNat a) < 2147483648) (hb : b < 2147483648) : ((no_index (OfNat.ofNat a) : Int32) < nI b) = ((OfNat.ofNat a) < b) := by rw [lit_nI]; exact nj_lt ha hb
theorem nj_ltr {a b : Nat} (ha : a < 2147483648) (hb : (OfNat.ofNat b) < 2147483648) : (nI a < (no_index (OfNat.ofNat b) : Int32)) = (a < (OfNat.ofNat b)) := by rw [lit_nI]; exact nj_lt ha hb
theorem nj_eql {a b : Nat} (ha : (OfNat.ofNat a) < 2147483648) (hb : b < 2147483648) : ((no_index (OfNat.ofNat a) : Int32) = nI b) = ((OfNat.ofNat a) = b) := by rw [lit_nI]; exact nj_eq ha hb
theorem nj_eqr {a b : Nat} (ha : a < 2147483648) (hb : (OfNat.ofNat b) < 2147483648) : (nI a = (no_index (OfNat.ofNat b) : Int32)) = (a = (OfNat.ofNat b)) := by rw [lit_nI]; exact nj_eq ha hb
theorem nj_nn {a : Nat} (ha : a < 2147483648) : ¬ nI a < 0 := by
  rw [nj_ltr ha (by decide)]; omega
theorem nj_nm {a k : Nat} (ha : a < 2147483648) (hk : 0 < (OfNat.ofNat k : Nat)) (hk2 : (OfNat.ofNat k : Nat) < 2147483648) : ¬ nI a = -(no_index (OfNat.ofNat k) : Int32) := by
  intro h
  have h0 : nI a < 0 := by
    rw [h, lit_nI, Int32.lt_iff_toInt_lt, Int32.toInt_neg, nj_toInt hk2]
    have : (-((OfNat.ofNat k : Nat) : Int)).bmod (2 ^ 32) = -((OfNat.ofNat k : Nat) : Int) := by
      rw [Int.bmod_def]; split <;> omega
    rw [this]
    show -((OfNat.ofNat k : Nat) : Int) < 0
    omega
  exact nj_nn ha h0
theorem inb_nI {n k : Nat} (h : n < 2147483648) : inb (nI n) k = decide (n < k) := by
  unfold inb
  rw [nI_clamp h]
  have := nj_nn h
  by_cases e : n < k
  · rw [decide_eq_true e]; exact decide_eq_true (fun h => h.elim this (fun h => by omega))
  · rw [decide_eq_false e]; exact decide_eq_false (by intro h; exact h (Or.inr (by omega)))
theorem inb_lit {n k : Nat} (h : (OfNat.ofNat n : Nat) < 2147483648) : inb (no_index (OfNat.ofNat n) : Int32) k = decide ((OfNat.ofNat n : Nat) < k) := by rw [lit_nI]; exact inb_nI h
/-- a small number that is not below nothing -/
theorem nj_of {x : Int32} {k : Nat} (h0 : ¬ x < 0) (h1 : x < nI k) (hk : k < 2147483648) : ∃ n, n < k ∧ x = nI n := by
  refine ⟨x.toNatClampNeg, ?_, ?_⟩
  · rw [Int32.lt_iff_toInt_lt, nj_toInt hk] at h1
    have : ((x.toNatClampNeg : Nat) : Int) = max x.toInt 0 := by
      rw [Int32.toNatClampNeg]; omega
    have h2 : ¬ x.toInt < 0 := fun h => h0 (Int32.lt_iff_toInt_lt.mpr h)
    omega
  · apply Int32.toInt_inj.mp
    have h2 : ¬ x.toInt < 0 := fun h => h0 (Int32.lt_iff_toInt_lt.mpr h)
    have : ((x.toNatClampNeg : Nat) : Int) = max x.toInt 0 := by
      rw [Int32.toNatClampNeg]; omega
    rw [nj_toInt (by rw [Int32.lt_iff_toInt_lt, nj_toInt hk] at h1; omega)]
    omega
theorem nj_ofl {x : Int32} {k : Nat} (h0 : 0 ≤ x) (h1 : x ≤ nI k) (hk : k < 2147483647) : ∃ n, n ≤ k ∧ x = nI n := by
  have h2 : ¬ x < 0 := by grind
  have h3 : x < nI (k + 1) := by
    rw [Int32.le_iff_toInt_le, nj_toInt (by omega)] at h1
    rw [Int32.lt_iff_toInt_lt, nj_toInt (by omega)]; omega
  obtain ⟨n, hn, e⟩ := nj_of h2 h3 (by omega)
  exact ⟨n, by omega, e⟩
/-! states -/
theorem gi_si (s : ST) (a j b k : Nat) (x : Int32) : gi (si s a j x) b k = if b = a then (if k = j then x else gi s a k) else gi s b k := by
  show (if b = a then upd (s.1 a) j x else s.1 b) k = _
  by_cases e : b = a
  · rw [if_pos e, if_pos e]; rfl
  · rw [if_neg e, if_neg e]; rfl
theorem gi_sl (s : ST) (a j b k : Nat) (x : Int64) : gi (sl s a j x) b k = gi s b k := rfl
theorem gl_si (s : ST) (a j b k : Nat) (x : Int32) : gl (si s a j x) b k = gl s b k := rfl
theorem gl_sl (s : ST) (a j b k : Nat) (x : Int64) : gl (sl s a j x) b k = if b = a then (if k = j then x else gl s a k) else gl s b k := by
  show (if b = a then vp_updL (s.2.1 a) j x else s.2.1 b) k = _
  by_cases e : b = a
  · rw [if_pos e, if_pos e]; rfl
  · rw [if_neg e, if_neg e]; rfl
theorem gi_sAr (s : ST) (a b k : Nat) (f : Nat → Int32) : gi (sAr s a f) b k = if b = a then f k else gi s b k := by
  show (if b = a then f else s.1 b) k = _
  by_cases e : b = a
  · rw [if_pos e, if_pos e]
  · rw [if_neg e, if_neg e]; rfl
theorem gl_sAr (s : ST) (a b k : Nat) (f : Nat → Int32) : gl (sAr s a f) b k = gl s b k := rfl
theorem gi_sm (s : ST) (a b k : Nat) (o : Option Nat) : gi (sm s a o) b k = gi s b k := rfl
theorem gl_sm (s : ST) (a b k : Nat) (o : Option Nat) : gl (sm s a o) b k = gl s b k := rfl
theorem mr_si (s : ST) (a j b : Nat) (x : Int32) : mr (si s a j x) b = mr s b := rfl
theorem mr_sl (s : ST) (a j b : Nat) (x : Int64) : mr (sl s a j x) b = mr s b := rfl
theorem mr_sAr (s : ST) (a b : Nat) (f : Nat → Int32) : mr (sAr s a f) b = mr s b := rfl
theorem mr_sm (s : ST) (a b : Nat) (o : Option Nat) : mr (sm s a o) b = if b = a then o else mr s b := rfl
theorem f1_gi (s : ST) (a j : Nat) : s.1 a j = gi s a j := rfl
theorem ck_t {α : Type} {b : Bool} {x : Option α} (h : b = true) : ck b x = x := if_pos h
/-! longs -/
theorem cmp_lt {a b : Int64} : (lg_cmp a b < 0) = (a < b) := by unfold lg_cmp; grind
theorem cmp_ge {a b : Int64} : (0 ≤ lg_cmp a b) = (b ≤ a) := by unfold lg_cmp; grind
theorem cmp_gt {a b : Int64} : (0 < lg_cmp a b) = (b < a) := by unfold lg_cmp; grind
theorem cmp_le {a b : Int64} : (lg_cmp a b ≤ 0) = (a ≤ b) := by unfold lg_cmp; grind
theorem cmp_eq {a b : Int64} : (lg_cmp a b = 0) = (a = b) := by unfold lg_cmp; grind
theorem FUEL_eq : FUEL = 5000 := rfl
theorem nj_bv (n : Nat) : (nI n).toBitVec = BitVec.ofNat 32 n := rfl
theorem nj_and31 {n : Nat} (h : n < 2147483648) : nI n &&& 31 = nI (n % 32) := by
  apply Int32.toBitVec_inj.mp
  rw [Int32.toBitVec_and, nj_bv, nj_bv]
  apply BitVec.eq_of_toNat_eq
  rw [BitVec.toNat_and, BitVec.toNat_ofNat, BitVec.toNat_ofNat]
  show (n % 4294967296) &&& 31 = n % 32 % 4294967296
  rw [show (31 : Nat) = 2 ^ 5 - 1 from rfl, Nat.and_two_pow_sub_one_eq_mod]
  omega
theorem sh5 : (5 : Int32).toBitVec.smod 32 = 5#32 := by decide
theorem nj_shr5 {n : Nat} (h : n < 2147483648) : nI n >>> (5 : Int32) = nI (n / 32) := by
  apply Int32.toInt_inj.mp
  have h2 : n / 32 ≤ n := Nat.div_le_self _ _
  rw [nj_toInt (by omega)]
  show (nI n >>> (5 : Int32)).toBitVec.toInt = _
  rw [Int32.toBitVec_shiftRight, sh5, BitVec.toInt_sshiftRight']
  rw [show (nI n).toBitVec.toInt = (n : Int) from nj_toInt h, Int.shiftRight_eq_div_pow]
  simp
theorem and531 : (5 : Int32) &&& 31 = 5 := by decide
theorem nj_toInt64 {n : Nat} (h : n < 2147483648) : (nI n).toInt64 = Int64.ofNat n := by
  apply Int64.toInt_inj.mp
  rw [Int32.toInt_toInt64, nj_toInt h, Int64.toInt_ofNat_of_lt (by omega)]
theorem nj_le_t {a b : Nat} (h : a ≤ b) (hb : b < 2147483648) : (nI a ≤ nI b) = True := by rw [nj_le (by omega) hb]; exact eq_true h
theorem nj_le_f {a b : Nat} (h : b < a) (hb : a < 2147483648) : (nI a ≤ nI b) = False := by rw [nj_le hb (by omega)]; exact eq_false (by omega)
theorem nj_lt_t {a b : Nat} (h : a < b) (hb : b < 2147483648) : (nI a < nI b) = True := by rw [nj_lt (by omega) hb]; exact eq_true h
theorem nj_lt_f {a b : Nat} (h : b ≤ a) (hb : a < 2147483648) : (nI a < nI b) = False := by rw [nj_lt hb (by omega)]; exact eq_false (by omega)
theorem nj_lel_t {a b : Nat} (h : OfNat.ofNat a ≤ b) (hb : b < 2147483648) : ((no_index (OfNat.ofNat a) : Int32) ≤ nI b) = True := nj_le_t h hb
theorem nj_lel_f {a b : Nat} (h : b < OfNat.ofNat a) (hb : OfNat.ofNat a < 2147483648) : ((no_index (OfNat.ofNat a) : Int32) ≤ nI b) = False := nj_le_f h hb
theorem nj_ler_t {a b : Nat} (h : a ≤ OfNat.ofNat b) (hb : OfNat.ofNat b < 2147483648) : (nI a ≤ (no_index (OfNat.ofNat b) : Int32)) = True := nj_le_t h hb
theorem nj_ler_f {a b : Nat} (h : OfNat.ofNat b < a) (hb : a < 2147483648) : (nI a ≤ (no_index (OfNat.ofNat b) : Int32)) = False := nj_le_f h hb
theorem nj_ltl_t {a b : Nat} (h : OfNat.ofNat a < b) (hb : b < 2147483648) : ((no_index (OfNat.ofNat a) : Int32) < nI b) = True := nj_lt_t h hb
theorem nj_ltl_f {a b : Nat} (h : b ≤ OfNat.ofNat a) (hb : OfNat.ofNat a < 2147483648) : ((no_index (OfNat.ofNat a) : Int32) < nI b) = False := nj_lt_f h hb
theorem nj_ltr_t {a b : Nat} (h : a < OfNat.ofNat b) (hb : OfNat.ofNat b < 2147483648) : (nI a < (no_index (OfNat.ofNat b) : Int32)) = True := nj_lt_t h hb
theorem nj_ltr_f {a b : Nat} (h : OfNat.ofNat b ≤ a) (hb : a < 2147483648) : (nI a < (no_index (OfNat.ofNat b) : Int32)) = False := nj_lt_f h hb
theorem nj_eq_t {a b : Nat} (h : a = b) : (nI a = nI b) = True := eq_true (by rw [h])
theorem nj_eq_f {a b : Nat} (h : a ≠ b) (ha : a < 2147483648) (hb : b < 2147483648) : (nI a = nI b) = False := by rw [nj_eq ha hb]; exact eq_false h
theorem nj_eqr_t {a b : Nat} (h : a = OfNat.ofNat b) : (nI a = (no_index (OfNat.ofNat b) : Int32)) = True := nj_eq_t h
theorem nj_eqr_f {a b : Nat} (h : a ≠ OfNat.ofNat b) (ha : a < 2147483648) (hb : OfNat.ofNat b < 2147483648) : (nI a = (no_index (OfNat.ofNat b) : Int32)) = False := nj_eq_f h ha hb
theorem nj_m1 {a : Nat} (ha : a < 2147483648) : (nI a = -1) = False := eq_false (nj_nm ha (by decide) (by decide))
theorem nj_m2 {a : Nat} (ha : a < 2147483648) : (nI a = -2) = False := eq_false (nj_nm ha (by decide) (by decide))
theorem inb_t {n k : Nat} (h : n < k) (hk : k < 2147483648) : inb (nI n) k = true := by rw [inb_nI (by omega)]; exact decide_eq_true h
theorem inb_l {n k : Nat} (h : OfNat.ofNat n < k) (hk : k < 2147483648) : inb (no_index (OfNat.ofNat n) : Int32) k = true := inb_t h hk
theorem ite_bind {α β : Type} {c : Prop} [Decidable c] (a b : Option α) (k : α → Option β) : Option.bind (if c then a else b) k = if c then a.bind k else b.bind k := by
  by_cases h : c
  · rw [if_pos h, if_pos h]
  · rw [if_neg h, if_neg h]
theorem ck_bind {α β : Type} (b : Bool) (x : Option α) (k : α → Option β) : Option.bind (ck b x) k = ck b (x.bind k) := by
  cases b <;> rfl
theorem lt_bind {α β γ : Type} (e : γ) (g : γ → Option α) (k : α → Option β) : Option.bind (lt e g) k = lt e (fun v => (g v).bind k) := id (Eq.refl _)
theorem lt_v {α β : Type} (e : β) (k : β → Option α) : lt e k = k e := id (Eq.refl _)
theorem bd_s {α β : Type} (a : α) (k : α → Option β) : Option.bind (some a) k = k a := id (Eq.refl _)
theorem ck_v {α : Type} (b : Bool) (x : Option α) : ck b x = if b = true then x else none := id (Eq.refl _)
