/-! texts: length and charAt -/
set_option maxRecDepth 100000 in
theorem lfJ0_9 : Cond.fieldLink RJ0 9 "java/lang/String" "value" "[B" ∈ TB := (tb_at 1874 (by decide +kernel) rfl)
set_option maxRecDepth 100000 in
theorem lfJ0_15 : Cond.fieldLink RJ0 15 "java/lang/String" "coder" "B" ∈ TB := (tb_at 1875 (by decide +kernel) rfl)
set_option maxRecDepth 100000 in
theorem lfJ0_38 : Cond.fieldLink RJ0 38 "java/lang/String" "COMPACT_STRINGS" "Z" ∈ TB := (tb_at 610 (by decide +kernel) rfl)
set_option maxRecDepth 100000 in
theorem stJ0_335 : siteV RJ0 335 "java/lang/String" mdJ0_coder_7d493 0 := ⟨⟨(tb_at 606 (by decide +kernel) rfl), (tb_at 609 (by decide +kernel) rfl), (tb_at 113 (by decide +kernel) rfl), by decide, by decide, by decide +kernel⟩, (tb_at 607 (by decide +kernel) rfl), (tb_at 608 (by decide +kernel) rfl)⟩
set_option maxRecDepth 100000 in
theorem stJ0_492 : siteV RJ0 492 "java/lang/String" mdJ0_isLatin1_aae02 0 := ⟨⟨(tb_at 616 (by decide +kernel) rfl), (tb_at 619 (by decide +kernel) rfl), (tb_at 113 (by decide +kernel) rfl), by decide, by decide, by decide +kernel⟩, (tb_at 617 (by decide +kernel) rfl), (tb_at 618 (by decide +kernel) rfl)⟩
set_option maxRecDepth 100000 in
theorem stJ0_495 : siteS RJ0 495 mdJ1_charAt_3b067 2 := ⟨⟨(tb_at 620 (by decide +kernel) rfl), (tb_at 622 (by decide +kernel) rfl), (tb_at 114 (by decide +kernel) rfl), by decide, by decide, by decide +kernel⟩, (tb_at 621 (by decide +kernel) rfl)⟩
set_option maxRecDepth 100000 in
theorem lfJ0_1053 : Cond.fieldLink RJ0 1053 "jdk/internal/util/Preconditions" "SIOOBE_FORMATTER" "Ljava/util/function/BiFunction;" ∈ TB := (tb_at 626 (by decide +kernel) rfl)
set_option maxRecDepth 100000 in
theorem stJ0_1059 : siteS RJ0 1059 mdJ3_checkIndex_8e157 3 := ⟨⟨(tb_at 628 (by decide +kernel) rfl), (tb_at 630 (by decide +kernel) rfl), (tb_at 115 (by decide +kernel) rfl), by decide, by decide, by decide +kernel⟩, (tb_at 629 (by decide +kernel) rfl)⟩
set_option maxRecDepth 100000 in
theorem stJ1_9 : siteS RJ1 9 mdJ0_checkIndex_df160 2 := ⟨⟨(tb_at 623 (by decide +kernel) rfl), (tb_at 625 (by decide +kernel) rfl), (tb_at 113 (by decide +kernel) rfl), by decide, by decide, by decide +kernel⟩, (tb_at 624 (by decide +kernel) rfl)⟩
section LW
variable {p : Program} {l : Launch} {e : Env} {R : Room} {s : State} {m : MethodId} {args : Array Value} {below : List Frame} {meth : Method} {c : Code} {H : Heap} {locs : List Loc} {cells slots : Nat} {Q : State → Prop}
theorem x_ldcwS {T : State} (X : Stand p l e R s m args below meth c T locs cells slots) (hexec : p.tables.exec = Jvm.exec) {own text : String} {index : Nat} {a : Addr} (hown : s.vm.findClass own = some m.cls)
    (hconst : (Cond.stringRef own index text).before #[] s = true) (hev : (Term.string own index).eval #[] s none [] s = some (.ref a)) {g : JFrame} (hg : g.method = m) (hdg : decode c.code g.pc = .ok (.ldc_w index, 3)) :
    ∀ target, Steps p.tables e below (T.setTop { g with pc := g.pc + 3, stack := .ref a :: g.stack }) target → Steps p.tables e below (T.setTop g) target := by
  obtain ⟨k, cf, i, a', hk, hcf, hcp, -, hr, hev'⟩ := Cond.stringRef_spec hown hconst
  cases hev.symm.trans hev'
  obtain ⟨k', hk', he⟩ := X.warmed.alike.2.2 _ _ hk
  have hr' : k'.resolved[index]? = some (some (.string a)) := by
    rcases X.warmed.entry hk hk' index with h | ⟨h, -⟩
    · rw [h]; exact hr
    · rw [hr] at h; cases h
  intro target hrest
  subst hg
  jvm_step X.here [hexec, hdg, ldc_w.wp_string (e := e) (s := T) (f := g) X.here.top hk' (by rw [he]; exact hcf) hcp hr']
  exact hrest
theorem x_ldcw {cc : ByteArray} {pc : Nat} {ls : Array Slot} {rest : List Value} (hexec : p.tables.exec = Jvm.exec) (hb : c.code = cc) {own tx : String} {index q : Nat} (hown : s.vm.findClass own = some m.cls) (hZ : vk_R own index tx q s) (hdg : decode cc pc = .ok (.ldc_w index, 3))
    (k : W p l e R s m args below meth c H locs cells slots Q (F0 m (pc + 3) ls (.ref q :: rest))) : W p l e R s m args below meth c H locs cells slots Q (F0 m pc ls rest) := by
  intro T hT X
  obtain ⟨t, a1, b1⟩ := k T hT X
  exact ⟨t, x_ldcwS X hexec hown (text := tx) (a := q) hZ.1 hZ.2 (g := F0 m pc ls rest) rfl (by rw [hb]; exact hdg) t a1, b1⟩
end LW
theorem o_ldcSw {g : GX} {md : MD} {pc : Nat} {ls : List (Option Value)} {st : List Value} {h : PH} {nc ns : Nat} {r : Option Value} {h2 : PH} {x : Nat} {i : Nat} {q : String × Nat × String × List Int32} (hd : decode md.2.1 pc = .ok (.ldc_w x, 3)) (hq : txS[i]? = some q) (hc : md.1.cls = q.1) (hi : x = q.2.1) (k : Rn g md (pc + 3) ls (.ref (1000000 + i) :: st) h nc ns r h2) : Rn g md pc ls (st) h nc ns r h2 := by
  intro n0 ad0 ad A p e s m args below meth c H locs la hA hE hH hS hL
  exact x_ldcw hA.1 hA.2.1 (own := q.1) (tx := q.2.2.1) (by rw [← hc]; exact hA.2.2.2.2.2.1) (hi ▸ hA.2.2.2.2.2.2.2.2.1.2.2.2.1 i q hq) hd (W.eq (congrArg (fun z => F0 m (pc + 3) la (Value.ref z :: st.map (gv g.2.2.2 ad))) (show g.2.2.2 (1000000 + i) = ax g.2.2.2 ad (1000000 + i) from (if_neg (by omega)).symm)) (k n0 ad0 ad A p e s m args below meth c H locs la hA hE hH hS hL))
theorem okT_k {w : Nat} (h : okT w = true) : ∃ k, k < txN ∧ w = 1000000 + k := by
  have h1 : 1000000 ≤ w ∧ w < 1000046 := of_decide_eq_true h
  exact ⟨w - 1000000, by unfold txN; omega, by omega⟩
theorem kJ0_coder {g : GX} {h : PH} {k : Nat} (hk : k < txN) : Cn g mdJ0_coder_7d493 [.ref (1000000 + k)] h (some (.int 0)) h := by
  refine Cn.of (by decide) (Nat.le_of_ble_eq_true rfl) ?_
  show Rn g mdJ0_coder_7d493 0 [some (.ref (1000000 + k))] [] h 0 0 (some (.int 0)) h
  refine o_compact (pc := 0) lfJ0_38 dJ0_coder_7d493_0 ?_
  refine o_if_eq (pc := 3) 13 dJ0_coder_7d493_3 rfl (fun hc => absurd hc (by decide)) (fun _ => ?_)
  refine o_aload_n (pc := 6) dJ0_coder_7d493_6 rfl ?_
  refine o_coder (pc := 7) hk lfJ0_15 dJ0_coder_7d493_7 ?_
  refine o_goto (pc := 10) 14 dJ0_coder_7d493_10 rfl ?_
  exact o_zreturn (pc := 14) dJ0_coder_7d493_14 rfl rfl (Nat.zero_le _) (Nat.zero_le _)
theorem kJ0_latin {g : GX} {h : PH} {k : Nat} (hk : k < txN) : Cn g mdJ0_isLatin1_aae02 [.ref (1000000 + k)] h (some (.int 1)) h := by
  refine Cn.of (by decide) (Nat.le_of_ble_eq_true rfl) ?_
  show Rn g mdJ0_isLatin1_aae02 0 [some (.ref (1000000 + k))] [] h 0 0 (some (.int 1)) h
  refine o_compact (pc := 0) lfJ0_38 dJ0_isLatin1_aae02_0 ?_
  refine o_if_eq (pc := 3) 17 dJ0_isLatin1_aae02_3 rfl (fun hc => absurd hc (by decide)) (fun _ => ?_)
  refine o_aload_n (pc := 6) dJ0_isLatin1_aae02_6 rfl ?_
  refine o_coder (pc := 7) hk lfJ0_15 dJ0_isLatin1_aae02_7 ?_
  refine o_if_ne (pc := 10) 17 dJ0_isLatin1_aae02_10 rfl (fun hc => absurd rfl hc) (fun _ => ?_)
  refine o_iconst (pc := 13) (v := 1) dJ0_isLatin1_aae02_13 rfl ?_
  refine o_goto (pc := 14) 18 dJ0_isLatin1_aae02_14 rfl ?_
  exact o_zreturn (pc := 18) dJ0_isLatin1_aae02_18 rfl rfl (Nat.zero_le _) (Nat.zero_le _)
theorem kJ0_length {g : GX} {h : PH} {k : Nat} (hk : k < txN) : Cn g mdJ0_length_8abf5 [.ref (1000000 + k)] h (some (.int (Int32.ofNat (txB k).length))) h := by
  refine Cn.of (by decide) (Nat.le_of_ble_eq_true rfl) ?_
  show Rn g mdJ0_length_8abf5 0 [some (.ref (1000000 + k))] [] h 0 0 (some (.int (Int32.ofNat (txB k).length))) h
  refine o_aload_n (pc := 0) dJ0_length_8abf5_0 rfl ?_
  refine o_bytes (pc := 1) hk lfJ0_9 dJ0_length_8abf5_1 ?_
  refine o_blen (pc := 4) hk dJ0_length_8abf5_4 ?_
  refine o_aload_n (pc := 5) dJ0_length_8abf5_5 rfl ?_
  refine o_callT (pc := 6) (vs := []) dJ0_length_8abf5_6 (kJ0_coder hk) hk stJ0_335 ⟨by decide, by decide, by decide, by decide⟩ (Nat.le_of_ble_eq_true rfl) (Or.inl rfl) ?_
  show Rn g mdJ0_length_8abf5 9 [some (.ref (1000000 + k))] [.int 0, .int (Int32.ofNat (txB k).length)] h 0 0 (some (.int (Int32.ofNat (txB k).length))) h
  refine o_ishr (pc := 9) dJ0_length_8abf5_9 ?_
  rw [sb_shr0]
  exact o_ireturn (pc := 10) dJ0_length_8abf5_10 rfl (Nat.zero_le _) (Nat.zero_le _)
theorem kJ3_check {g : GX} {h : PH} {i n : Int32} {v : Value} (h0 : ¬ i < 0) (h1 : i < n) (hv : v.category = 1) : Cn g mdJ3_checkIndex_8e157 [.int i, .int n, v] h (some (.int i)) h := by
  have hls : lsE [.int i, .int n, v] = [some (.int i), some (.int n), some v] := by
    have h2 : ¬ v.category = 2 := by omega
    simp only [lsE, if_neg h2]
    rfl
  refine Cn.of (by decide) (by rw [hls]; exact Nat.le_of_ble_eq_true rfl) ?_
  have e : lsB [.int i, .int n, v] mdJ3_checkIndex_8e157.2.2.1 = [some (.int i), some (.int n), some v] := by unfold lsB; rw [hls]; rfl
  rw [e]
  refine o_iload_n (pc := 0) dJ3_checkIndex_8e157_0 rfl ?_
  refine o_if_lt (pc := 1) 9 dJ3_checkIndex_8e157_1 rfl (fun hc => absurd hc h0) (fun _ => ?_)
  refine o_iload_n (pc := 4) dJ3_checkIndex_8e157_4 rfl ?_
  refine o_iload_n (pc := 5) dJ3_checkIndex_8e157_5 rfl ?_
  refine o_icmp_lt (pc := 6) 16 dJ3_checkIndex_8e157_6 rfl (fun _ => ?_) (fun hc => absurd h1 hc)
  refine o_iload_n (pc := 16) dJ3_checkIndex_8e157_16 rfl ?_
  exact o_ireturn (pc := 17) dJ3_checkIndex_8e157_17 rfl (Nat.zero_le _) (Nat.zero_le _)
theorem kJ0_check {g : GX} {h : PH} {i n : Int32} (h0 : ¬ i < 0) (h1 : i < n) : Cn g mdJ0_checkIndex_df160 [.int i, .int n] h none h := by
  refine Cn.of (by decide) (Nat.le_of_ble_eq_true rfl) ?_
  show Rn g mdJ0_checkIndex_df160 0 [some (.int i), some (.int n)] [] h 0 0 none h
  refine o_iload_n (pc := 0) dJ0_checkIndex_df160_0 rfl ?_
  refine o_iload_n (pc := 1) dJ0_checkIndex_df160_1 rfl ?_
  refine o_fmt (pc := 2) lfJ0_1053 dJ0_checkIndex_df160_2 ?_ ?_
  · refine o_callS (pc := 5) (vs := [.int i, .int n, .null]) dJ0_checkIndex_df160_5 (kJ3_check h0 h1 rfl) stJ0_1059 ⟨by decide, by decide, by decide, by decide⟩ (Nat.le_of_ble_eq_true rfl) (Or.inl rfl) ?_
    show Rn g mdJ0_checkIndex_df160 8 [some (.int i), some (.int n)] [.int i] h 0 0 none h
    refine o_pop (pc := 8) dJ0_checkIndex_df160_8 rfl ?_
    exact o_return (pc := 9) dJ0_checkIndex_df160_9 rfl (Nat.zero_le _) (Nat.zero_le _)
  · refine o_callS (pc := 5) (vs := [.int i, .int n, .ref 3000000]) dJ0_checkIndex_df160_5 (kJ3_check h0 h1 rfl) stJ0_1059 ⟨by decide, by decide, by decide, by decide⟩ (Nat.le_of_ble_eq_true rfl) (Or.inl rfl) ?_
    show Rn g mdJ0_checkIndex_df160 8 [some (.int i), some (.int n)] [.int i] h 0 0 none h
    refine o_pop (pc := 8) dJ0_checkIndex_df160_8 rfl ?_
    exact o_return (pc := 9) dJ0_checkIndex_df160_9 rfl (Nat.zero_le _) (Nat.zero_le _)
theorem kJ1_charAt {g : GX} {h : PH} {k : Nat} {i : Int32} (hk : k < txN) (h0 : ¬ i < 0) (h1 : i < Int32.ofNat (txB k).length) (hi : vp_in i (txB k).length) : Cn g mdJ1_charAt_3b067 [.ref (1100000 + k), .int i] h (some (.int ((((txB k).getD i.toNatClampNeg 0 &&& 255).toUInt32 % 65536).toInt32))) h := by
  refine Cn.of (by decide) (Nat.le_of_ble_eq_true rfl) ?_
  show Rn g mdJ1_charAt_3b067 0 [some (.ref (1100000 + k)), some (.int i)] [] h 0 0 (some (.int ((((txB k).getD i.toNatClampNeg 0 &&& 255).toUInt32 % 65536).toInt32))) h
  refine o_iload_n (pc := 0) dJ1_charAt_3b067_0 rfl ?_
  refine o_aload_n (pc := 1) dJ1_charAt_3b067_1 rfl ?_
  refine o_blen (pc := 2) hk dJ1_charAt_3b067_2 ?_
  refine o_callS (pc := 3) (vs := [.int i, .int (Int32.ofNat (txB k).length)]) dJ1_charAt_3b067_3 (kJ0_check h0 h1) stJ1_9 ⟨by decide, by decide, by decide, by decide⟩ (Nat.le_of_ble_eq_true rfl) (Or.inl rfl) ?_
  show Rn g mdJ1_charAt_3b067 6 [some (.ref (1100000 + k)), some (.int i)] [] h 0 0 _ h
  refine o_aload_n (pc := 6) dJ1_charAt_3b067_6 rfl ?_
  refine o_iload_n (pc := 7) dJ1_charAt_3b067_7 rfl ?_
  refine o_btald (pc := 8) hk hi dJ1_charAt_3b067_8 ?_
  refine o_sipush (pc := 9) (v := 255) dJ1_charAt_3b067_9 rfl ?_
  refine o_iand (pc := 12) dJ1_charAt_3b067_12 ?_
  refine o_i2c (pc := 13) dJ1_charAt_3b067_13 ?_
  exact o_zreturn (pc := 14) dJ1_charAt_3b067_14 rfl (pk_nc _) (Nat.zero_le _) (Nat.zero_le _)
theorem kJ0_charAt {g : GX} {h : PH} {k : Nat} {i : Int32} (hk : k < txN) (h0 : ¬ i < 0) (h1 : i < Int32.ofNat (txB k).length) (hi : vp_in i (txB k).length) : Cn g mdJ0_charAt_5068e [.ref (1000000 + k), .int i] h (some (.int ((((txB k).getD i.toNatClampNeg 0 &&& 255).toUInt32 % 65536).toInt32))) h := by
  refine Cn.of (by decide) (Nat.le_of_ble_eq_true rfl) ?_
  show Rn g mdJ0_charAt_5068e 0 [some (.ref (1000000 + k)), some (.int i)] [] h 0 0 _ h
  refine o_aload_n (pc := 0) dJ0_charAt_5068e_0 rfl ?_
  refine o_callT (pc := 1) (vs := []) dJ0_charAt_5068e_1 (kJ0_latin hk) hk stJ0_492 ⟨by decide, by decide, by decide, by decide⟩ (Nat.le_of_ble_eq_true rfl) (Or.inl rfl) ?_
  show Rn g mdJ0_charAt_5068e 4 [some (.ref (1000000 + k)), some (.int i)] [.int 1] h 0 0 _ h
  refine o_if_eq (pc := 4) 16 dJ0_charAt_5068e_4 rfl (fun hc => absurd hc (by decide)) (fun _ => ?_)
  refine o_aload_n (pc := 7) dJ0_charAt_5068e_7 rfl ?_
  refine o_bytes (pc := 8) hk lfJ0_9 dJ0_charAt_5068e_8 ?_
  refine o_iload_n (pc := 11) dJ0_charAt_5068e_11 rfl ?_
  refine o_callS (pc := 12) (vs := [.ref (1100000 + k), .int i]) dJ0_charAt_5068e_12 (kJ1_charAt hk h0 h1 hi) stJ0_495 ⟨by decide, by decide, by decide, by decide⟩ (Nat.le_of_ble_eq_true rfl) (Or.inl rfl) ?_
  exact o_zreturn (pc := 15) dJ0_charAt_5068e_15 rfl (pk_nc _) (Nat.zero_le _) (Nat.zero_le _)
theorem tx_small : ∀ k, k < txN → (txB k).length < 16 := by unfold txN; decide
section TT
variable {g : GX} {md : MD} {pc : Nat} {ls : List (Option Value)} {st : List Value} {h : PH} {nc ns : Nat} {r : Option Value} {h2 : PH}
theorem o_tlength {w x : Nat} (hw : okT w = true) (hd : decode md.2.1 pc = .ok (.invokevirtual x, 3)) (hs : siteV md.1.cls x "java/lang/String" mdJ0_length_8abf5 0) (hf : fitR md mdJ0_length_8abf5 nc ns) (hst : (st.map fun v => v.category).sum ≤ 8) (kk : Rn g md (pc + 3) ls (.int (tlen w) :: st) h nc ns r h2) : Rn g md pc ls (.ref w :: st) h nc ns r h2 := by
  obtain ⟨k, hk, rfl⟩ := okT_k hw
  refine o_callT (vs := []) hd (kJ0_length hk) hk hs hf hst (Or.inl rfl) ?_
  unfold tlen at kk
  rw [Nat.add_sub_cancel_left] at kk
  exact kk
theorem o_tcharAt {w x : Nat} {j : Int32} (hw : okT w = true) (hj : inb j (txB (w - 1000000)).length = true) (hd : decode md.2.1 pc = .ok (.invokevirtual x, 3)) (hs : siteV md.1.cls x "java/lang/String" mdJ0_charAt_5068e 1) (hf : fitR md mdJ0_charAt_5068e nc ns) (hst : (st.map fun v => v.category).sum ≤ 8) (kk : Rn g md (pc + 3) ls (.int (tch w j) :: st) h nc ns r h2) : Rn g md pc ls (.int j :: .ref w :: st) h nc ns r h2 := by
  obtain ⟨k, hk, rfl⟩ := okT_k hw
  rw [Nat.add_sub_cancel_left] at hj
  have hs' := tx_small k hk
  obtain ⟨n, hn, rfl⟩ := vp_in_of (inb_in hj) (by omega)
  refine o_callT (vs := [.int (nI n)]) hd (kJ0_charAt hk (nI_pos (by omega)) (nI_lt hn (by omega)) (inb_in hj)) hk hs hf hst (Or.inl rfl) ?_
  unfold tch ix at kk
  rw [Nat.add_sub_cancel_left] at kk
  exact kk
end TT
