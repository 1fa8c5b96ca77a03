/-! RULES: whether a clause follows -/
section SN
variable {B : Nat → Nat} {n R : Nat}
theorem goes_ev {s : ST} {p : Nat} (tv : TV s B n) (h28 : gi s 0 28 = 0) (h27 : gi s 0 27 = nI p) (hbl : bl B n p = p) (hp : p ≤ n) : fX12_goesOn s = some (if p = n then (0, si s 0 27 (nI (p + 1))) else if B p = 59 then (1, si s 0 27 (nI (p + 1))) else (0, si (si s 0 28 (nI (1 + 8 * p + 0))) 0 27 (nI (p + 1)))) := by
  have hn := tv.1
  have h26 := tv.2.1
  unfold fX12_goesOn
  rw [blanks_ev tv h27 (by omega), hbl, si_id h27, bd_s, if_pos h28, h26, h27]
  by_cases c : p = n
  · have e1 : nI n ≤ nI p := by rw [nj_le (by omega) (by omega)]; omega
    rw [if_pos e1, bd_s, if_neg nft, bd_s, if_pos h28, h26, h27, if_pos e1, bd_s, if_neg nft, bd_s, lt_v, nj_addr, ck_t (show bz 0 = true from rfl), if_pos c]
  · have e1 : ¬ nI n ≤ nI p := by rw [nj_le (by omega) (by omega)]; omega
    have hb := (tv.2.2 p (by omega)).1
    rw [if_neg e1, sg_ev tv h27 (by omega), bd_s, if_pos (show p < n by omega), if_neg c]
    by_cases c2 : B p = 59
    · rw [if_pos (show nI (B p) = 59 by rw [c2]; rfl), bd_s, if_neg nft, bd_s, if_pos h28, h26, h27, if_neg e1, bd_s, if_pos rfl, bd_s, lt_v, nj_addr, ck_t (show bz 1 = true from rfl), if_pos c2]
    · have hf := fail0 (s := s) (c := 0) (p := p) h28
      have hf : fX12_fails 0 (nI p) s = some (si s 0 28 (nI (1 + 8 * p + 0))) := hf
      rw [if_neg (show ¬ nI (B p) = 59 by rw [nj_eqr (by omega) (by decide)]; exact c2), bd_s, if_pos rfl, hf, bd_s, bd_s, gi_same, if_neg (show ¬ nI (1 + 8 * p + 0) = 0 by rw [nj_eqr (by omega) (by decide)]; omega), bd_s, if_neg nft, bd_s, lt_v, gi_dif (by decide), h27, nj_addr, ck_t (show bz 0 = true from rfl), if_neg c2]
theorem goes_F {s : ST} {b f : Nat} (h : FF B n b f s) (hb : 400 ≤ b) (hb2 : b < 1000) : ∃ z, fX12_goesOn s = some (0, z) ∧ FF B n (b + 1) f z ∧ FX (uSm R) s z := by
  have nf := FF_ne h
  obtain ⟨⟨h0, h5⟩, h1, h2, h3, p, h4, h6⟩ := h
  have hn := h0.1
  have hbb : bl B n p ≤ b := bl_b (by omega) h4
  have nf2 : ¬ gi (si s 0 27 (nI (bl B n p))) 0 28 = 0 := by rw [gi_dif (by decide)]; exact nf
  refine ⟨si s 0 27 (nI (bl B n p + 1)), ?_, FF_c (b := b) ⟨⟨h0, h5⟩, h1, h2, h3, p, h4, h6⟩ (by omega), fq27⟩
  unfold fX12_goesOn
  rw [blanks_ev h0 h6 (by omega), bd_s, if_neg nf2, bd_s, if_neg nft, bd_s, if_neg nf2, bd_s, if_neg nft, bd_s, lt_v, gi_same, nj_addr, si_si, ck_t (show bz 0 = true from rfl)]
end SN
