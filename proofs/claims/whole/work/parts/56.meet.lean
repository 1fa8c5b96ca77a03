/-! ONE MEETING, BY BOTH: what each makes of it -/
theorem si_self (s : ST) (a j : Nat) : si s a j (gi s a j) = s := by
  refine Prod.ext (funext fun b => ?_) rfl
  show (if b = a then upd (s.1 a) j (s.1 a j) else s.1 b) = s.1 b
  by_cases e : b = a
  · subst e
    rw [if_pos rfl]
    funext k
    rw [upd_eq]
    by_cases h : k = j
    · rw [if_pos h, h]
    · rw [if_neg h]
  · rw [if_neg e]
theorem si_si (s : ST) (a j : Nat) (x y : Int32) : si (si s a j x) a j y = si s a j y := by
  refine Prod.ext (funext fun b => ?_) rfl
  show (if b = a then upd (if a = a then upd (s.1 a) j x else s.1 a) j y else if b = a then upd (s.1 a) j x else s.1 b) = if b = a then upd (s.1 a) j y else s.1 b
  by_cases e : b = a
  · rw [if_pos e, if_pos e, if_pos rfl]
    funext k
    rw [upd_eq, upd_eq, upd_eq]
    by_cases h : k = j
    · rw [if_pos h, if_pos h]
    · rw [if_neg h, if_neg h, if_neg h]
  · rw [if_neg e, if_neg e, if_neg e]
theorem si_self2 (s : ST) (a b j k : Nat) (x : Int32) (h : b ≠ a) : si (si s a j x) b k (gi s b k) = si s a j x := by
  have := si_self (si s a j x) b k
  rwa [gi_si, if_neg h] at this
theorem ite_some {α : Type} {c : Prop} [Decidable c] (x y : α) : (if c then some x else some y) = some (if c then x else y) := by
  by_cases h : c
  · rw [if_pos h, if_pos h]
  · rw [if_neg h, if_neg h]
def exB (x : Int32) (q : Nat) : Bool := decide (((x >>> (nI q &&& 31)) &&& 1) = 1)
theorem hasB (x : Int32) (q : Nat) (s : ST) : fX12_has x (nI q) s = some (if exB x q = true then 1 else 0) := by
  rw [hasx]; unfold exB; simp only [decide_eq_true_eq]
theorem exB31 (q : Nat) (s : ST) : fX5_isExempt_31 (nI q) s = some (if exB (gi s 32 44) q = true then 1 else 0) := by
  rw [exx]; unfold exB; simp only [decide_eq_true_eq]
def fnV (x : Bool) (l lo hi fe fo : Int32) : Int32 := if x = true then 0 else if lo ≤ l then (if l ≤ hi then 0 else fo) else fe
def eaV (x : Bool) (l lo e : Int32) : Int32 := if x = true then e else if lo ≤ l then e else e + 1
def ovV (x : Bool) (l lo hi o : Int32) : Int32 := if x = true then o else if lo ≤ l then (if l ≤ hi then o else o + 1) else o
def guV (x : Bool) (l lo hi g : Int32) : Int32 := if x = true then g else if lo ≤ l then (if l ≤ hi then g else g + 1) else g - 1
theorem fines_ev {s : ST} {q : Nat} {l : Int32} (hq : q < 5) : fX12_finesOf (nI q) l s = some (fnV (exB (gi s 1 8) q) l (gi s 1 0) (gi s 1 1) (gi s 1 5) (gi s 1 6), si (si s 38 q (eaV (exB (gi s 1 8) q) l (gi s 1 0) (gi s 38 q))) 39 q (ovV (exB (gi s 1 8) q) l (gi s 1 0) (gi s 1 1) (gi s 39 q))) := by
  have n1 : ∀ x : Int32, si (si s 38 q x) 39 q (gi s 39 q) = si s 38 q x := fun x => si_self2 s 38 39 q q x (by decide)
  unfold fX12_finesOf fnV eaV ovV
  cases hx : exB (gi s 1 8) q
  · by_cases h1 : gi s 1 0 ≤ l
    · by_cases h2 : l ≤ gi s 1 1
      · simp (disch := omega) only [↓ite_bind, ↓ck_bind, ↓lt_bind, ↓Option.bind_assoc, ↓bd_s, ↓lt_v, ↓ck_v, ↓reduceIte, Bool.false_eq_true, Bool.true_eq_false, bd_s, nj_add, nj_addl, nj_addr, nj_mull, nj_mulr, nj_subr, nj_pred, ix_nI, ix_lit, inb_t, inb_l, hasB, hx, h1, h2, i10, i00, gi_si, gi_sl, gl_si, gl_sl, gi_sAr, gl_sAr, mr_si, mr_sl, mr_sm, gi_sm, gl_sm, mr_sAr, Nat.reduceEqDiff, si_self, n1, if_true, if_false]
      · simp (disch := omega) only [↓ite_bind, ↓ck_bind, ↓lt_bind, ↓Option.bind_assoc, ↓bd_s, ↓lt_v, ↓ck_v, ↓reduceIte, Bool.false_eq_true, Bool.true_eq_false, bd_s, nj_add, nj_addl, nj_addr, nj_mull, nj_mulr, nj_subr, nj_pred, ix_nI, ix_lit, inb_t, inb_l, hasB, hx, h1, h2, i10, i00, gi_si, gi_sl, gl_si, gl_sl, gi_sAr, gl_sAr, mr_si, mr_sl, mr_sm, gi_sm, gl_sm, mr_sAr, Nat.reduceEqDiff, si_self, n1, if_true, if_false]
    · simp (disch := omega) only [↓ite_bind, ↓ck_bind, ↓lt_bind, ↓Option.bind_assoc, ↓bd_s, ↓lt_v, ↓ck_v, ↓reduceIte, Bool.false_eq_true, Bool.true_eq_false, bd_s, nj_add, nj_addl, nj_addr, nj_mull, nj_mulr, nj_subr, nj_pred, ix_nI, ix_lit, inb_t, inb_l, hasB, hx, h1, i10, i00, gi_si, gi_sl, gl_si, gl_sl, gi_sAr, gl_sAr, mr_si, mr_sl, mr_sm, gi_sm, gl_sm, mr_sAr, Nat.reduceEqDiff, si_self, n1, if_true, if_false]
  · simp (disch := omega) only [↓ite_bind, ↓ck_bind, ↓lt_bind, ↓Option.bind_assoc, ↓bd_s, ↓lt_v, ↓ck_v, ↓reduceIte, Bool.false_eq_true, Bool.true_eq_false, bd_s, nj_add, nj_addl, nj_addr, nj_mull, nj_mulr, nj_subr, nj_pred, ix_nI, ix_lit, inb_t, inb_l, hasB, hx, i10, i00, gi_si, gi_sl, gl_si, gl_sl, gi_sAr, gl_sAr, mr_si, mr_sl, mr_sm, gi_sm, gl_sm, mr_sAr, Nat.reduceEqDiff, si_self, n1, if_true, if_false]
def chS (sd p : Nat) (l w f g : Int32) (s : ST) : ST := si (si (si (si (si (si (si (si s 40 p g) 32 (5 + p) l) 32 (10 + p) (gi s 32 (10 + p) + f)) 32 (15 + p) (gi s 32 (15 + p) + w)) 37 sd l) 38 sd (f + w)) 30 16 (gi s 30 16 + (f + w))) 30 17 (gi s 30 17 + w)
theorem charge_ev {s : ST} {sd p : Nat} {l w : Int32} (hp : p < 5) (hs : sd < 16) (h18 : mr s 0 = some 18) : fX0_charge (nI sd) (nI p) l w s = some (chS sd p l w (fnV (exB (gi s 32 44) p) l (gi s 30 7) (gi s 30 8) (gi s 18 4) (gi s 18 5)) (guV (exB (gi s 32 44) p) l (gi s 30 7) (gi s 30 8) (gi s 40 p)) s) := by
  have k1 : (10 + p = 5 + p) = False := eq_false (by omega)
  have k2 : (15 + p = 5 + p) = False := eq_false (by omega)
  have k3 : (15 + p = 10 + p) = False := eq_false (by omega)
  have k4 : decide (mr s 0 = some 18) = true := decide_eq_true h18
  unfold fX0_charge fnV guV chS
  cases hx : exB (gi s 32 44) p
  · by_cases h1 : gi s 30 7 ≤ l
    · by_cases h2 : l ≤ gi s 30 8
      · simp (disch := omega) only [↓ite_bind, ↓ck_bind, ↓lt_bind, ↓Option.bind_assoc, ↓bd_s, ↓lt_v, ↓ck_v, ↓reduceIte, Bool.false_eq_true, Bool.true_eq_false, bd_s, nj_add, nj_addl, nj_addr, nj_mull, nj_mulr, nj_subr, nj_pred, ix_nI, ix_lit, inb_t, inb_l, exB31, hx, h1, h2, i10, i00, gi_si, gi_sl, gl_si, gl_sl, gi_sAr, gl_sAr, mr_si, mr_sl, mr_sm, gi_sm, gl_sm, mr_sAr, Nat.reduceEqDiff, si_self, k1, k2, k3, k4, if_true, if_false]
      · simp (disch := omega) only [↓ite_bind, ↓ck_bind, ↓lt_bind, ↓Option.bind_assoc, ↓bd_s, ↓lt_v, ↓ck_v, ↓reduceIte, Bool.false_eq_true, Bool.true_eq_false, bd_s, nj_add, nj_addl, nj_addr, nj_mull, nj_mulr, nj_subr, nj_pred, ix_nI, ix_lit, inb_t, inb_l, exB31, hx, h1, h2, i10, i00, gi_si, gi_sl, gl_si, gl_sl, gi_sAr, gl_sAr, mr_si, mr_sl, mr_sm, gi_sm, gl_sm, mr_sAr, Nat.reduceEqDiff, si_self, k1, k2, k3, k4, if_true, if_false]
    · simp (disch := omega) only [↓ite_bind, ↓ck_bind, ↓lt_bind, ↓Option.bind_assoc, ↓bd_s, ↓lt_v, ↓ck_v, ↓reduceIte, Bool.false_eq_true, Bool.true_eq_false, bd_s, nj_add, nj_addl, nj_addr, nj_mull, nj_mulr, nj_subr, nj_pred, ix_nI, ix_lit, inb_t, inb_l, exB31, hx, h1, i10, i00, gi_si, gi_sl, gl_si, gl_sl, gi_sAr, gl_sAr, mr_si, mr_sl, mr_sm, gi_sm, gl_sm, mr_sAr, Nat.reduceEqDiff, si_self, k1, k2, k3, k4, if_true, if_false]
  · simp (disch := omega) only [↓ite_bind, ↓ck_bind, ↓lt_bind, ↓Option.bind_assoc, ↓bd_s, ↓lt_v, ↓ck_v, ↓reduceIte, Bool.false_eq_true, Bool.true_eq_false, bd_s, nj_add, nj_addl, nj_addr, nj_mull, nj_mulr, nj_subr, nj_pred, ix_nI, ix_lit, inb_t, inb_l, exB31, hx, i10, i00, gi_si, gi_sl, gl_si, gl_sl, gi_sAr, gl_sAr, mr_si, mr_sl, mr_sm, gi_sm, gl_sm, mr_sAr, Nat.reduceEqDiff, si_self, k1, k2, k3, k4, if_true, if_false]
/-! draws -/
def dnx (x : Int32) : Int32 := (((x.toInt64 * 1103515245) + 12345) - ((x.toInt64 * 1103515245) + 12345) / 2147483648 * 2147483648).toInt32
def dva (x : Int32) : Int32 := (x / 65536) - (x / 65536) / 11 * 11
def dwn (p x : Int32) : Int32 := imx (-30) (imn 120 ((p + dva x) - 5))
def drU (d p x : Int32) : Int32 := if d = 0 then p else dwn p (dnx x)
def drX (d x : Int32) : Int32 := if d = 0 then x else dnx x
theorem wd_ev (p : Int32) (s : ST) : fX0_withDraw p s = some (dwn p (dnx (gi s 30 14)), si s 30 14 (dnx (gi s 30 14))) := by
  unfold fX0_withDraw dwn dva
  simp only [lt_v, gi_si, if_true]
  rfl
theorem drawC (d p q : Int32) (s : ST) : (if d = 0 then some (p, q, s) else (fX0_withDraw p s).bind (fun q20 => (fX0_withDraw q q20.2).bind (fun q22 => some (q20.1, q22.1, q22.2))) : Option (Int32 × Int32 × ST)) = some (drU d p (gi s 30 14), drU d q (drX d (gi s 30 14)), si s 30 14 (drX d (drX d (gi s 30 14)))) := by
  unfold drU drX
  by_cases h : d = 0
  · simp only [if_pos h, si_self]
  · simp only [if_neg h, wd_ev, bd_s, gi_si, if_true, si_si]
theorem drawM (p : Int32) (s : ST) : fX12_drawnMore p s = some (drU (gi s 0 63) p (gi s 1 11), si s 1 11 (drX (gi s 0 63) (gi s 1 11))) := by
  unfold fX12_drawnMore drU drX
  by_cases h : gi s 0 63 = 0
  · simp only [if_pos h, si_self, bd_s]
  · simp only [if_neg h]
    unfold fX12_draws
    simp (disch := omega) only [↓ite_bind, ↓ck_bind, ↓lt_bind, ↓Option.bind_assoc, ↓bd_s, ↓lt_v, ↓ck_v, ↓reduceIte, Bool.false_eq_true, Bool.true_eq_false, bd_s, nj_add, nj_addl, nj_addr, nj_mull, nj_mulr, nj_subr, nj_pred, ix_nI, ix_lit, inb_t, inb_l, gi_si, gi_sl, gl_si, gl_sl, gi_sAr, gl_sAr, mr_si, mr_sl, mr_sm, gi_sm, gl_sm, mr_sAr, Nat.reduceEqDiff, if_true, hl_m, hl_n]
    rfl
theorem fixC (c : Prop) [Decidable c] (a b p q : Int32) : (if c then lt a (fun v14 => lt b (fun v15 => some (v14, v15))) else some (p, q) : Option (Int32 × Int32)) = some (if c then a else p, if c then b else q) := by
  by_cases h : c
  · simp only [if_pos h]; rfl
  · simp only [if_neg h]
/-! coming -/
def cmV (v e : Int32) : Int32 := if e = -1000000 then v else if e ≤ v then v else e
theorem comes_ev {s : ST} {a m : Nat} {u : Int32} (ha : a < 5) (hm : m < 8) : fX12_comes (nI a) (nI m) u s = some (cmV ((gi s 9 m + u) - gi s 3 a) (gi s 37 a)) := by
  unfold fX12_comes cmV
  simp (disch := omega) only [↓ck_bind, ↓lt_bind, ↓Option.bind_assoc, ↓bd_s, ↓lt_v, ↓ck_v, ↓reduceIte, bd_s, nj_add, nj_addl, nj_addr, nj_mull, nj_mulr, nj_subr, nj_pred, ix_nI, ix_lit, inb_t, inb_l]
  by_cases h : gi s 37 a = -1000000
  · simp only [h, if_true, bd_s, Bool.false_eq_true, if_false]
  · by_cases h2 : gi s 37 a ≤ (gi s 9 m + u) - gi s 3 a
    · simp only [h, h2, if_true, bd_s, Bool.false_eq_true, if_false]
    · simp only [h, h2, if_true, bd_s, Bool.false_eq_true, if_false]
theorem when_ev {s : ST} {a m : Nat} {u : Int32} (ha : a < 5) (hm : m < 8) : fX0_whenComes (nI a) (nI m) u s = some (imx ((gi s 32 (20 + m) + u) - gi s 32 a) (gi s 39 a)) := by
  unfold fX0_whenComes
  simp (disch := omega) only [↓ite_bind, ↓ck_bind, ↓lt_bind, ↓Option.bind_assoc, ↓bd_s, ↓lt_v, ↓ck_v, ↓reduceIte, Bool.false_eq_true, Bool.true_eq_false, bd_s, nj_add, nj_addl, nj_addr, nj_mull, nj_mulr, nj_subr, nj_pred, ix_nI, ix_lit, inb_t, inb_l, Nat.zero_add]
theorem cm_im {v e : Int32} (h : -1000 ≤ v) : cmV v e = imx v e := by
  unfold cmV imx
  grind
/-! the cells behind a meeting -/
def rwM (c : Nat → Int32) (a b m : Nat) (lA lB fA fB w1 w2 : Int32) (hd : Bool) (j : Nat) : Int32 :=
  if j = 5 + a then lA else if j = 5 + b then lB else if j = 10 + a then c j + fA else if j = 10 + b then c j + fB else if j = 15 + a then c j + w1 else if j = 15 + b then c j + w2
  else if j = 28 + m then (if hd = true then c j + 1 else c j) else if j = 36 + m then (if hd = true then c j else c j + 1) else c j
def tw (f : Nat → Int32) (a b : Nat) (x y : Int32) (j : Nat) : Int32 := if j = a then x else if j = b then y else f j
