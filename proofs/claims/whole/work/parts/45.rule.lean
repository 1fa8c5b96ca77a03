/-- rule(): the answer, the things, the state -/
def fX11_rule (t : PH) (s : ST) : Option (Int32 × PH × ST) :=
  if gi s 0 4 < 6 then (fX3_read s).bind (fun q => lt (si q.2 1 1 0) (fun s1 =>
    if q.1 = 0 then ck (inb (gi s1 11 2) 401) (ck (inb (gi s1 11 5) 13) (ck (inb (gi s1 0 4) 6) (ck (decide (t.1 + 60 < 1000000)) (some (gi s1 0 4 + 1 - 1, uT (ruH t s1), uS (ruH t s1) s1.2.2)))))
    else some ((-2) - q.1, t, s1))) else some ((-1), t, s)
set_option maxRecDepth 20000 in
theorem kX11_rule {g : GX} {t : PH} {s : ST} {q : Int32 × PH × ST} (hf : fX11_rule t s = some q) : Cn g mdRule [.ref 0] (cW t s) (some (.int q.1)) (cW q.2.1 q.2.2) := by
  refine Cn.of (by decide) (Nat.le_of_ble_eq_true rfl) ?_
  show Rn g mdRule 0 [some (.ref 0), none] [] (cW t s) 0 0 (some (.int q.1)) (cW q.2.1 q.2.2)
  unfold fX11_rule at hf
  refine o_aload_n (pc := 0) dX11_rule_0 rfl ?_
  refine c_getI (pc := 1) 10 4 0 (by decide) (by decide) rfl (lt48 (by decide)) rfl lkX11_38 dX11_rule_1 ?_
  refine o_bipush (pc := 4) (v := 6) dX11_rule_4 rfl ?_
  refine o_icmp_lt (pc := 6) 11 dX11_rule_6 rfl (fun hc => ?_) (fun hc => ?_)
  · have hf := it_t hf hc
    refine o_aload_n (pc := 11) dX11_rule_11 rfl ?_
    refine c_getR (pc := 12) 10 2 0 11 (by decide) (by decide) rfl (lt48 (by decide)) rfl rfl lkX11_28 dX11_rule_12 ?_
    obtain ⟨q1, hk1, hf⟩ := bd_elim hf
    refine c_callV (pc := 15) 3 11 [] (by decide) (lt48 (by decide)) rfl dX11_rule_15 (kX3_read hk1) stX11_92 ⟨by decide, by decide, by decide, by decide⟩ ⟨rfl, rfl⟩ (Nat.le_of_ble_eq_true rfl) ?_
    refine o_istore_n (pc := 18) dX11_rule_18 (by decide) rfl ?_
    show Rn g mdRule 19 [some (.ref 0), some (.int q1.1)] [] (cW t q1.2) 0 0 (some (.int q.1)) (cW q.2.1 q.2.2)
    refine o_aload_n (pc := 19) dX11_rule_19 rfl ?_
    refine c_getR (pc := 20) 10 0 0 1 (by decide) (by decide) rfl (lt48 (by decide)) rfl rfl lkX11_10 dX11_rule_20 ?_
    refine o_iconst (pc := 23) (v := 0) dX11_rule_23 rfl ?_
    refine c_putI (pc := 24) 5 1 1 (by decide) (by decide) rfl rfl (lt48 (by decide)) rfl lkX11_67 ⟨rfl, rfl⟩ dX11_rule_24 ?_
    refine lz_s (cW t) hf (fun s1 hf => ?_)
    show Rn g mdRule 27 [some (.ref 0), some (.int q1.1)] [] (cW t s1) 0 0 (some (.int q.1)) (cW q.2.1 q.2.2)
    refine o_iload_n (pc := 27) dX11_rule_27 rfl ?_
    refine o_if_eq (pc := 28) 36 dX11_rule_28 rfl (fun hc => ?_) (fun hc => ?_)
    · have hf := it_t hf hc
      obtain ⟨h1, hf⟩ := ck_elim hf
      obtain ⟨h2, hf⟩ := ck_elim hf
      obtain ⟨h3, hf⟩ := ck_elim hf
      obtain ⟨h4, hf⟩ := ck_elim hf
      have h4 := of_decide_eq_true h4
      obtain rfl := Option.some.inj hf
      refine o_aload_n (pc := 36) dX11_rule_36 rfl ?_
      refine c_getR (pc := 37) 10 3 0 16 (by decide) (by decide) rfl (lt48 (by decide)) rfl rfl lkX11_34 dX11_rule_37 ?_
      refine o_aload_n (pc := 40) dX11_rule_40 rfl ?_
      refine c_getI (pc := 41) 10 4 0 (by decide) (by decide) rfl (lt48 (by decide)) rfl lkX11_38 dX11_rule_41 ?_
      refine o_aload_n (pc := 44) dX11_rule_44 rfl ?_
      refine c_getR (pc := 45) 10 2 0 11 (by decide) (by decide) rfl (lt48 (by decide)) rfl rfl lkX11_28 dX11_rule_45 ?_
      refine o_callV (pc := 48) (md2 := mdRtw) (ci := 3) (b := 11) (vs := []) dX11_rule_48 (kRtw h1 h2 h4) (by decide) rfl (lt48 (by decide) : 11 < 48 + t.1) stX11_93 ⟨by decide, by decide, by decide, by decide⟩ (Nat.le_of_ble_eq_true rfl) (Or.inr ⟨okLs_ref (Or.inl (lt48 (by decide) : 0 < 48 + t.1)) (okLs_int okLs_nil), okSt_int (okSt_ref (Or.inl (lt48 (by decide) : 16 < 48 + t.1)) okSt_nil)⟩) ?_
      show Rn g mdRule 51 [some (.ref 0), some (.int q1.1)] [.ref (48 + t.1), .int (gi s1 0 4), .ref 16] (rtwH t s1) 4 1204 _ (cW (uT (ruH t s1)) (uS (ruH t s1) s1.2.2))
      rw [← cW_raw (stay_ru t s1)]
      have a16 : Ar (rtwH t s1) 16 4 6 := ar_rtw ⟨lt48 (by decide), rfl⟩
      have o0 : Ob (rtwH t s1) 0 10 := ob_rtw ⟨lt48 (by decide), rfl⟩
      have e4 : hI (rtwH t s1) 0 4 = gi s1 0 4 := by rw [hI_rtw (by decide)]; rfl
      have oq : Ob (rtwH t s1) (48 + t.1) 2 := obq_rtw
      unfold ruH ix
      generalize rtwH t s1 = hh at a16 o0 e4 oq ⊢
      generalize gi s1 0 4 = rc at h3 e4 ⊢
      refine o_aast (pc := 51) (t := 4) (n := 6) (ci := 2) (Or.inl ⟨rfl, rfl⟩) dX11_rule_51 a16.1 a16.2 (inb_in h3) oq.1 oq.2 ?_
      refine o_aload_n (pc := 52) dX11_rule_52 rfl ?_
      refine o_dup (pc := 53) dX11_rule_53 rfl ?_
      refine o_getI (pc := 54) (ci := 10) (k := 4) (by decide) (by decide) rfl lkX11_38 dX11_rule_54 o0.1 o0.2 ?_
      rw [show hI (sR hh 16 rc.toNatClampNeg (some (48 + t.1))) 0 4 = rc from e4]
      refine o_iconst (pc := 57) (v := 1) dX11_rule_57 rfl ?_
      refine o_iadd (pc := 58) dX11_rule_58 ?_
      refine o_putI (pc := 59) (ci := 10) (k := 4) (by decide) (by decide) rfl lkX11_38 rfl dX11_rule_59 o0.1 o0.2 ⟨rfl, rfl⟩ ?_
      refine o_aload_n (pc := 62) dX11_rule_62 rfl ?_
      refine o_getI (pc := 63) (ci := 10) (k := 4) (by decide) (by decide) rfl lkX11_38 dX11_rule_63 o0.1 o0.2 ?_
      rw [show hI (sI (sR hh 16 rc.toNatClampNeg (some (48 + t.1))) 0 4 (rc + 1)) 0 4 = rc + 1 by unfold sI; rw [hI_sA]; simp [upd]]
      refine o_iconst (pc := 66) (v := 1) dX11_rule_66 rfl ?_
      refine o_isub (pc := 67) dX11_rule_67 ?_
      exact o_ireturn (pc := 68) dX11_rule_68 rfl (by decide) (by decide)
    · have hf := it_f hf hc
      refine o_bipush (pc := 31) (v := (-2)) dX11_rule_31 rfl ?_
      refine o_iload_n (pc := 33) dX11_rule_33 rfl ?_
      refine o_isub (pc := 34) dX11_rule_34 ?_
      obtain rfl := Option.some.inj hf
      exact o_ireturn (pc := 35) dX11_rule_35 rfl (by decide) (by decide)
  · have hf := it_f hf hc
    refine o_iconst (pc := 9) (v := (-1)) dX11_rule_9 rfl ?_
    obtain rfl := Option.some.inj hf
    exact o_ireturn (pc := 10) dX11_rule_10 rfl (by decide) (by decide)
