def fX12_readsMeeting (s : ST) : Option (ST) :=
  ck (inb 4 9) (lt (gi s 19 (ix 4) : Int32) (fun v2 => (fX12_onePerson s).bind (fun q4 => (fX12_blanks q4.2).bind (fun q6 => lt (gi q6 0 27 : Int32) (fun v7 => (fX12_onePerson q6).bind (fun q9 => (if (gi q9.2 0 28) = 0 then if q4.1 = q9.1 then some true else some false else some false : Option Bool).bind (fun b10 => (if b10 = true then (fX12_fails 1 v7 q9.2).bind (fun q17 => some q17) else some q9.2 : Option (ST)).bind (fun w13 => ck (inb v2 8) (lt (si w13 22 (ix v2) q4.1) (fun s19 => ck (inb v2 8) (lt (si s19 23 (ix v2) q9.1) (fun s21 => (fX12_amount 0 600 s21).bind (fun q23 => ck (inb v2 8) (lt (si q23.2 24 (ix v2) q23.1) (fun s25 => (fX12_amount 1 60 s25).bind (fun q27 => ck (inb v2 8) (lt (si q27.2 25 (ix v2) q27.1) (fun s29 => ck (inb 4 9) (ck (inb 4 9) (lt (si s29 19 (ix 4) ((gi s29 19 (ix 4)) + 1)) (fun s32 => some s32)))))))))))))))))))))
set_option maxRecDepth 20000 in
theorem kX12_readsMeeting {g : GX} {s : ST} {q : ST} (hf : fX12_readsMeeting s = some q) : Cn g mdX12_readsMeeting [.ref 0] (mW s) none (mW q) := by
  refine Cn.of (by decide) (Nat.le_of_ble_eq_true rfl) ?_
  show Rn g mdX12_readsMeeting 0 [some (.ref 0), none, none, none, none] [] (mW s) 0 0 none (mW q)
  unfold fX12_readsMeeting at hf
  refine o_aload_n (pc := 0) dX12_readsMeeting_0 rfl ?_
  refine m_getA (pc := 1) 19 19 (by decide) rfl rfl lkX12_64 dX12_readsMeeting_1 ?_
  refine o_iconst (pc := 4) (v := 4) dX12_readsMeeting_4 rfl ?_
  obtain ⟨hk1, hf⟩ := ck_elim hf
  refine m_iald (pc := 5) (by decide) rfl hk1 dX12_readsMeeting_5 ?_
  refine lz_i hf (fun v2 hf => ?_)
  refine o_istore_n (pc := 6) dX12_readsMeeting_6 (by decide) rfl ?_
  show Rn g mdX12_readsMeeting 7 [some (.ref 0), some (.int v2), none, none, none] [] (mW s) 0 0 none (mW q)
  refine o_aload_n (pc := 7) dX12_readsMeeting_7 rfl ?_
  obtain ⟨q4, hk3, hf⟩ := bd_elim hf
  refine m_callV (pc := 8) [] dX12_readsMeeting_8 (kX12_onePerson hk3) stX12_331 ⟨by decide, by decide, by decide, by decide⟩ ⟨rfl, rfl⟩ (Nat.le_of_ble_eq_true rfl) ?_
  show Rn g mdX12_readsMeeting 11 [some (.ref 0), some (.int v2), none, none, none] [.int q4.1] (mW q4.2) 0 0 none (mW q)
  refine o_istore_n (pc := 11) dX12_readsMeeting_11 (by decide) rfl ?_
  show Rn g mdX12_readsMeeting 12 [some (.ref 0), some (.int v2), some (.int q4.1), none, none] [] (mW q4.2) 0 0 none (mW q)
  refine o_aload_n (pc := 12) dX12_readsMeeting_12 rfl ?_
  obtain ⟨q6, hk5, hf⟩ := bd_elim hf
  refine m_callV (pc := 13) [] dX12_readsMeeting_13 (kX12_blanks hk5) stX12_246 ⟨by decide, by decide, by decide, by decide⟩ ⟨rfl, rfl⟩ (Nat.le_of_ble_eq_true rfl) ?_
  show Rn g mdX12_readsMeeting 16 [some (.ref 0), some (.int v2), some (.int q4.1), none, none] [] (mW q6) 0 0 none (mW q)
  refine o_aload_n (pc := 16) dX12_readsMeeting_16 rfl ?_
  refine m_getI (pc := 17) 27 (by decide) rfl lkX12_227 dX12_readsMeeting_17 ?_
  refine lz_i hf (fun v7 hf => ?_)
  refine o_istore_n (pc := 20) dX12_readsMeeting_20 (by decide) rfl ?_
  show Rn g mdX12_readsMeeting 21 [some (.ref 0), some (.int v2), some (.int q4.1), some (.int v7), none] [] (mW q6) 0 0 none (mW q)
  refine o_aload_n (pc := 21) dX12_readsMeeting_21 rfl ?_
  obtain ⟨q9, hk8, hf⟩ := bd_elim hf
  refine m_callV (pc := 22) [] dX12_readsMeeting_22 (kX12_onePerson hk8) stX12_331 ⟨by decide, by decide, by decide, by decide⟩ ⟨rfl, rfl⟩ (Nat.le_of_ble_eq_true rfl) ?_
  show Rn g mdX12_readsMeeting 25 [some (.ref 0), some (.int v2), some (.int q4.1), some (.int v7), none] [.int q9.1] (mW q9.2) 0 0 none (mW q)
  refine o_istore (pc := 25) dX12_readsMeeting_25 (by decide) rfl ?_
  show Rn g mdX12_readsMeeting 27 [some (.ref 0), some (.int v2), some (.int q4.1), some (.int v7), some (.int q9.1)] [] (mW q9.2) 0 0 none (mW q)
  refine o_aload_n (pc := 27) dX12_readsMeeting_27 rfl ?_
  refine m_getI (pc := 28) 28 (by decide) rfl lkX12_224 dX12_readsMeeting_28 ?_
  obtain ⟨b10, hr11, hf⟩ := bd_elim hf
  obtain ⟨w13, hr14, hf⟩ := bd_elim hf
  have K15 : Rn g mdX12_readsMeeting 46 [some (.ref 0), some (.int v2), some (.int q4.1), none, some (.int q9.1)] [] (mW w13) 0 0 none (mW q) := by
    refine o_aload_n (pc := 46) dX12_readsMeeting_46 rfl ?_
    refine m_getA (pc := 47) 22 22 (by decide) rfl rfl lkX12_73 dX12_readsMeeting_47 ?_
    refine o_iload_n (pc := 50) dX12_readsMeeting_50 rfl ?_
    refine o_iload_n (pc := 51) dX12_readsMeeting_51 rfl ?_
    obtain ⟨hk18, hf⟩ := ck_elim hf
    refine m_iast (pc := 52) (by decide) rfl hk18 dX12_readsMeeting_52 ?_
    refine lz_s (mW) hf (fun s19 hf => ?_)
    show Rn g mdX12_readsMeeting 53 [some (.ref 0), some (.int v2), some (.int q4.1), none, some (.int q9.1)] [] (mW s19) 0 0 none (mW q)
    refine o_aload_n (pc := 53) dX12_readsMeeting_53 rfl ?_
    refine m_getA (pc := 54) 23 23 (by decide) rfl rfl lkX12_76 dX12_readsMeeting_54 ?_
    refine o_iload_n (pc := 57) dX12_readsMeeting_57 rfl ?_
    refine o_iload (pc := 58) dX12_readsMeeting_58 rfl ?_
    obtain ⟨hk20, hf⟩ := ck_elim hf
    refine m_iast (pc := 60) (by decide) rfl hk20 dX12_readsMeeting_60 ?_
    refine lz_s (mW) hf (fun s21 hf => ?_)
    show Rn g mdX12_readsMeeting 61 [some (.ref 0), some (.int v2), some (.int q4.1), none, some (.int q9.1)] [] (mW s21) 0 0 none (mW q)
    refine o_aload_n (pc := 61) dX12_readsMeeting_61 rfl ?_
    refine m_getA (pc := 62) 24 24 (by decide) rfl rfl lkX12_79 dX12_readsMeeting_62 ?_
    refine o_iload_n (pc := 65) dX12_readsMeeting_65 rfl ?_
    refine o_aload_n (pc := 66) dX12_readsMeeting_66 rfl ?_
    refine o_iconst (pc := 67) (v := 0) dX12_readsMeeting_67 rfl ?_
    refine o_sipush (pc := 68) (v := 600) dX12_readsMeeting_68 rfl ?_
    obtain ⟨q23, hk22, hf⟩ := bd_elim hf
    refine m_callV (pc := 71) [.int 0, .int 600] dX12_readsMeeting_71 (kX12_amount hk22) stX12_327 ⟨by decide, by decide, by decide, by decide⟩ ⟨rfl, rfl⟩ (Nat.le_of_ble_eq_true rfl) ?_
    show Rn g mdX12_readsMeeting 74 [some (.ref 0), some (.int v2), some (.int q4.1), none, some (.int q9.1)] [.int q23.1, .int v2, .ref 24] (mW q23.2) 0 0 none (mW q)
    obtain ⟨hk24, hf⟩ := ck_elim hf
    refine m_iast (pc := 74) (by decide) rfl hk24 dX12_readsMeeting_74 ?_
    refine lz_s (mW) hf (fun s25 hf => ?_)
    show Rn g mdX12_readsMeeting 75 [some (.ref 0), some (.int v2), some (.int q4.1), none, some (.int q9.1)] [] (mW s25) 0 0 none (mW q)
    refine o_aload_n (pc := 75) dX12_readsMeeting_75 rfl ?_
    refine m_getA (pc := 76) 25 25 (by decide) rfl rfl lkX12_82 dX12_readsMeeting_76 ?_
    refine o_iload_n (pc := 79) dX12_readsMeeting_79 rfl ?_
    refine o_aload_n (pc := 80) dX12_readsMeeting_80 rfl ?_
    refine o_iconst (pc := 81) (v := 1) dX12_readsMeeting_81 rfl ?_
    refine o_bipush (pc := 82) (v := 60) dX12_readsMeeting_82 rfl ?_
    obtain ⟨q27, hk26, hf⟩ := bd_elim hf
    refine m_callV (pc := 84) [.int 1, .int 60] dX12_readsMeeting_84 (kX12_amount hk26) stX12_327 ⟨by decide, by decide, by decide, by decide⟩ ⟨rfl, rfl⟩ (Nat.le_of_ble_eq_true rfl) ?_
    show Rn g mdX12_readsMeeting 87 [some (.ref 0), some (.int v2), some (.int q4.1), none, some (.int q9.1)] [.int q27.1, .int v2, .ref 25] (mW q27.2) 0 0 none (mW q)
    obtain ⟨hk28, hf⟩ := ck_elim hf
    refine m_iast (pc := 87) (by decide) rfl hk28 dX12_readsMeeting_87 ?_
    refine lz_s (mW) hf (fun s29 hf => ?_)
    show Rn g mdX12_readsMeeting 88 [some (.ref 0), some (.int v2), some (.int q4.1), none, some (.int q9.1)] [] (mW s29) 0 0 none (mW q)
    refine o_aload_n (pc := 88) dX12_readsMeeting_88 rfl ?_
    refine m_getA (pc := 89) 19 19 (by decide) rfl rfl lkX12_64 dX12_readsMeeting_89 ?_
    refine o_iconst (pc := 92) (v := 4) dX12_readsMeeting_92 rfl ?_
    refine o_dup2 (pc := 93) dX12_readsMeeting_93 rfl rfl ?_
    obtain ⟨hk30, hf⟩ := ck_elim hf
    refine m_iald (pc := 94) (by decide) rfl hk30 dX12_readsMeeting_94 ?_
    refine o_iconst (pc := 95) (v := 1) dX12_readsMeeting_95 rfl ?_
    refine o_iadd (pc := 96) dX12_readsMeeting_96 ?_
    obtain ⟨hk31, hf⟩ := ck_elim hf
    refine m_iast (pc := 97) (by decide) rfl hk31 dX12_readsMeeting_97 ?_
    refine lz_s (mW) hf (fun s32 hf => ?_)
    show Rn g mdX12_readsMeeting 98 [some (.ref 0), some (.int v2), some (.int q4.1), none, some (.int q9.1)] [] (mW s32) 0 0 none (mW q)
    obtain rfl := Option.some.inj hf
    exact o_return (pc := 98) dX12_readsMeeting_98 rfl (Nat.zero_le _) (Nat.zero_le _)
  clear hf
  have KB12 : (b10 = true → Rn g mdX12_readsMeeting 40 [some (.ref 0), some (.int v2), some (.int q4.1), some (.int v7), some (.int q9.1)] [] (mW q9.2) 0 0 none (mW q)) ∧ (¬ b10 = true → Rn g mdX12_readsMeeting 46 [some (.ref 0), some (.int v2), some (.int q4.1), some (.int v7), some (.int q9.1)] [] (mW q9.2) 0 0 none (mW q)) := by
    refine ⟨fun hc => ?_, fun hc => ?_⟩
    · have hr14 := it_t hr14 hc
      refine o_aload_n (pc := 40) dX12_readsMeeting_40 rfl ?_
      refine o_iconst (pc := 41) (v := 1) dX12_readsMeeting_41 rfl ?_
      refine o_iload_n (pc := 42) dX12_readsMeeting_42 rfl ?_
      obtain ⟨q17, hk16, hr14⟩ := bd_elim hr14
      refine m_callV (pc := 43) [.int 1, .int v7] dX12_readsMeeting_43 (kX12_fails hk16) stX12_262 ⟨by decide, by decide, by decide, by decide⟩ ⟨rfl, rfl⟩ (Nat.le_of_ble_eq_true rfl) ?_
      show Rn g mdX12_readsMeeting 46 [some (.ref 0), some (.int v2), some (.int q4.1), some (.int v7), some (.int q9.1)] [] (mW q17) 0 0 none (mW q)
      obtain rfl := Option.some.inj hr14
      refine o_keep [true, true, true, false, true] ?_
      exact K15
    · have hr14 := it_f hr14 hc
      obtain rfl := Option.some.inj hr14
      refine o_keep [true, true, true, false, true] ?_
      exact K15
  clear hr14
  refine o_if_ne (pc := 31) 46 dX12_readsMeeting_31 rfl (fun hc => ?_) (fun hc => ?_)
  · have hr11 := it_f hr11 hc
    obtain rfl := Option.some.inj hr11
    exact KB12.2 (by decide)
  · have hr11 := it_t hr11 hc
    refine o_iload_n (pc := 34) dX12_readsMeeting_34 rfl ?_
    refine o_iload (pc := 35) dX12_readsMeeting_35 rfl ?_
    refine o_icmp_ne (pc := 37) 46 dX12_readsMeeting_37 rfl (fun hc => ?_) (fun hc => ?_)
    · have hr11 := it_f hr11 hc
      obtain rfl := Option.some.inj hr11
      exact KB12.2 (by decide)
    · have hr11 := it_t hr11 hc
      obtain rfl := Option.some.inj hr11
      exact KB12.1 rfl
def fX12_townPart (p0 : Int32) (s : ST) : Option (ST) :=
  (if p0 = 0 then (fX12_amount 0 59 s).bind (fun q6 => ck (inb 0 9) (lt (si q6.2 19 (ix 0) q6.1) (fun s8 => ck (inb 0 9) ((if (gi s8 19 (ix 0)) ≤ 1 then some 1 else ck (inb 0 9) (some (gi s8 19 (ix 0))) : Option (Int32)).bind (fun w10 => (fX12_amount w10 60 s8).bind (fun q15 => ck (inb 1 9) (lt (si q15.2 19 (ix 1) q15.1) (fun s17 => (fX12_amount 1 99 s17).bind (fun q19 => ck (inb 2 9) (lt (si q19.2 19 (ix 2) q19.1) (fun s21 => some s21))))))))))) else if p0 = 1 then ck (inb 3 9) (lt (gi s 19 (ix 3) : Int32) (fun v24 => (fX12_amount 0 80 s).bind (fun q26 => ck (inb v24 5) (lt (si q26.2 20 (ix v24) (q26.1 - 20)) (fun s28 => (fX12_amount 0 40 s28).bind (fun q30 => ck (inb v24 5) (lt (si q30.2 21 (ix v24) (q30.1 - 20)) (fun s32 => ck (inb 3 9) (ck (inb 3 9) (lt (si s32 19 (ix 3) ((gi s32 19 (ix 3)) + 1)) (fun s35 => some s35))))))))))) else if p0 = 2 then (fX12_onePerson s).bind (fun q38 => ck (inb 8 9) ((if (gi q38.2 0 28) = 0 then some (1 <<< (q38.1 &&& 31)) else some 0 : Option (Int32)).bind (fun w40 => ck (inb 8 9) (lt (si q38.2 19 (ix 8) ((gi q38.2 19 (ix 8)) ||| w40)) (fun s44 => some s44))))) else if p0 = 3 then (fX12_readsMeeting s).bind (fun q47 => some q47) else (fX12_amount 0 9 s).bind (fun q49 => ck (inb 5 9) (lt (si q49.2 19 (ix 5) q49.1) (fun s51 => (fX12_amount 0 9 s51).bind (fun q53 => ck (inb 6 9) (lt (si q53.2 19 (ix 6) q53.1) (fun s55 => ck (inb 7 9) (lt (si s55 19 (ix 7) 1) (fun s57 => some s57)))))))) : Option (ST)).bind (fun w1 => some w1)
set_option maxRecDepth 20000 in
theorem kX12_townPart {g : GX} {p0 : Int32} {s : ST} {q : ST} (hf : fX12_townPart p0 s = some q) : Cn g mdX12_townPart [.ref 0, .int p0] (mW s) none (mW q) := by
  refine Cn.of (by decide) (Nat.le_of_ble_eq_true rfl) ?_
  show Rn g mdX12_townPart 0 [some (.ref 0), some (.int p0), none] [] (mW s) 0 0 none (mW q)
  unfold fX12_townPart at hf
  refine o_iload_n (pc := 0) dX12_townPart_0 rfl ?_
  obtain ⟨w1, hr2, hf⟩ := bd_elim hf
  have K3 : Rn g mdX12_townPart 219 [none, none, none] [] (mW w1) 0 0 none (mW q) := by
    obtain rfl := Option.some.inj hf
    exact o_return (pc := 219) dX12_townPart_219 rfl (Nat.zero_le _) (Nat.zero_le _)
  clear hf
  by_cases hx4 : p0 = 0
  · have hr2 := it_t hr2 hx4
    refine o_tableIn (pc := 1) 32 dX12_townPart_1 (by rw [hx4] <;> decide) (by rw [hx4] <;> decide) (by rw [hx4] <;> rfl) rfl ?_
    refine o_aload_n (pc := 32) dX12_townPart_32 rfl ?_
    refine m_getA (pc := 33) 19 19 (by decide) rfl rfl lkX12_64 dX12_townPart_33 ?_
    refine o_iconst (pc := 36) (v := 0) dX12_townPart_36 rfl ?_
    refine o_aload_n (pc := 37) dX12_townPart_37 rfl ?_
    refine o_iconst (pc := 38) (v := 0) dX12_townPart_38 rfl ?_
    refine o_bipush (pc := 39) (v := 59) dX12_townPart_39 rfl ?_
    obtain ⟨q6, hk5, hr2⟩ := bd_elim hr2
    refine m_callV (pc := 41) [.int 0, .int 59] dX12_townPart_41 (kX12_amount hk5) stX12_327 ⟨by decide, by decide, by decide, by decide⟩ ⟨rfl, rfl⟩ (Nat.le_of_ble_eq_true rfl) ?_
    show Rn g mdX12_townPart 44 [some (.ref 0), some (.int p0), none] [.int q6.1, .int 0, .ref 19] (mW q6.2) 0 0 none (mW q)
    obtain ⟨hk7, hr2⟩ := ck_elim hr2
    refine m_iast (pc := 44) (by decide) rfl hk7 dX12_townPart_44 ?_
    refine lz_s (mW) hr2 (fun s8 hr2 => ?_)
    show Rn g mdX12_townPart 45 [some (.ref 0), some (.int p0), none] [] (mW s8) 0 0 none (mW q)
    refine o_aload_n (pc := 45) dX12_townPart_45 rfl ?_
    refine m_getA (pc := 46) 19 19 (by decide) rfl rfl lkX12_64 dX12_townPart_46 ?_
    refine o_iconst (pc := 49) (v := 1) dX12_townPart_49 rfl ?_
    refine o_aload_n (pc := 50) dX12_townPart_50 rfl ?_
    refine o_aload_n (pc := 51) dX12_townPart_51 rfl ?_
    refine m_getA (pc := 52) 19 19 (by decide) rfl rfl lkX12_64 dX12_townPart_52 ?_
    refine o_iconst (pc := 55) (v := 0) dX12_townPart_55 rfl ?_
    obtain ⟨hk9, hr2⟩ := ck_elim hr2
    refine m_iald (pc := 56) (by decide) rfl hk9 dX12_townPart_56 ?_
    refine o_iconst (pc := 57) (v := 1) dX12_townPart_57 rfl ?_
    obtain ⟨w10, hr11, hr2⟩ := bd_elim hr2
    have K12 : Rn g mdX12_townPart 71 [some (.ref 0), none, none] [.int w10, .ref 0, .int 1, .ref 19] (mW s8) 0 0 none (mW q) := by
      refine o_bipush (pc := 71) (v := 60) dX12_townPart_71 rfl ?_
      obtain ⟨q15, hk14, hr2⟩ := bd_elim hr2
      refine m_callV (pc := 73) [.int w10, .int 60] dX12_townPart_73 (kX12_amount hk14) stX12_327 ⟨by decide, by decide, by decide, by decide⟩ ⟨rfl, rfl⟩ (Nat.le_of_ble_eq_true rfl) ?_
      show Rn g mdX12_townPart 76 [some (.ref 0), none, none] [.int q15.1, .int 1, .ref 19] (mW q15.2) 0 0 none (mW q)
      obtain ⟨hk16, hr2⟩ := ck_elim hr2
      refine m_iast (pc := 76) (by decide) rfl hk16 dX12_townPart_76 ?_
      refine lz_s (mW) hr2 (fun s17 hr2 => ?_)
      show Rn g mdX12_townPart 77 [some (.ref 0), none, none] [] (mW s17) 0 0 none (mW q)
      refine o_aload_n (pc := 77) dX12_townPart_77 rfl ?_
      refine m_getA (pc := 78) 19 19 (by decide) rfl rfl lkX12_64 dX12_townPart_78 ?_
      refine o_iconst (pc := 81) (v := 2) dX12_townPart_81 rfl ?_
      refine o_aload_n (pc := 82) dX12_townPart_82 rfl ?_
      refine o_iconst (pc := 83) (v := 1) dX12_townPart_83 rfl ?_
      refine o_bipush (pc := 84) (v := 99) dX12_townPart_84 rfl ?_
      obtain ⟨q19, hk18, hr2⟩ := bd_elim hr2
      refine m_callV (pc := 86) [.int 1, .int 99] dX12_townPart_86 (kX12_amount hk18) stX12_327 ⟨by decide, by decide, by decide, by decide⟩ ⟨rfl, rfl⟩ (Nat.le_of_ble_eq_true rfl) ?_
      show Rn g mdX12_townPart 89 [some (.ref 0), none, none] [.int q19.1, .int 2, .ref 19] (mW q19.2) 0 0 none (mW q)
      obtain ⟨hk20, hr2⟩ := ck_elim hr2
      refine m_iast (pc := 89) (by decide) rfl hk20 dX12_townPart_89 ?_
      refine lz_s (mW) hr2 (fun s21 hr2 => ?_)
      show Rn g mdX12_townPart 90 [some (.ref 0), none, none] [] (mW s21) 0 0 none (mW q)
      refine o_goto (pc := 90) 219 dX12_townPart_90 rfl ?_
      obtain rfl := Option.some.inj hr2
      refine o_keep [false, false, false] ?_
      exact K3
    clear hr2
    refine o_icmp_le (pc := 58) 70 dX12_townPart_58 rfl (fun hc => ?_) (fun hc => ?_)
    · have hr11 := it_t hr11 hc
      refine o_iconst (pc := 70) (v := 1) dX12_townPart_70 rfl ?_
      obtain rfl := Option.some.inj hr11
      refine o_keep [true, false, false] ?_
      exact K12
    · have hr11 := it_f hr11 hc
      refine o_aload_n (pc := 61) dX12_townPart_61 rfl ?_
      refine m_getA (pc := 62) 19 19 (by decide) rfl rfl lkX12_64 dX12_townPart_62 ?_
      refine o_iconst (pc := 65) (v := 0) dX12_townPart_65 rfl ?_
      obtain ⟨hk13, hr11⟩ := ck_elim hr11
      refine m_iald (pc := 66) (by decide) rfl hk13 dX12_townPart_66 ?_
      refine o_goto (pc := 67) 71 dX12_townPart_67 rfl ?_
      obtain rfl := Option.some.inj hr11
      refine o_keep [true, false, false] ?_
      exact K12
  have hr2 := it_f hr2 hx4
  by_cases hx22 : p0 = 1
  · have hr2 := it_t hr2 hx22
    refine o_tableIn (pc := 1) 93 dX12_townPart_1 (by rw [hx22] <;> decide) (by rw [hx22] <;> decide) (by rw [hx22] <;> rfl) rfl ?_
    refine o_aload_n (pc := 93) dX12_townPart_93 rfl ?_
    refine m_getA (pc := 94) 19 19 (by decide) rfl rfl lkX12_64 dX12_townPart_94 ?_
    refine o_iconst (pc := 97) (v := 3) dX12_townPart_97 rfl ?_
    obtain ⟨hk23, hr2⟩ := ck_elim hr2
    refine m_iald (pc := 98) (by decide) rfl hk23 dX12_townPart_98 ?_
    refine lz_i hr2 (fun v24 hr2 => ?_)
    refine o_istore_n (pc := 99) dX12_townPart_99 (by decide) rfl ?_
    show Rn g mdX12_townPart 100 [some (.ref 0), some (.int p0), some (.int v24)] [] (mW s) 0 0 none (mW q)
    refine o_aload_n (pc := 100) dX12_townPart_100 rfl ?_
    refine m_getA (pc := 101) 20 20 (by decide) rfl rfl lkX12_67 dX12_townPart_101 ?_
    refine o_iload_n (pc := 104) dX12_townPart_104 rfl ?_
    refine o_aload_n (pc := 105) dX12_townPart_105 rfl ?_
    refine o_iconst (pc := 106) (v := 0) dX12_townPart_106 rfl ?_
    refine o_bipush (pc := 107) (v := 80) dX12_townPart_107 rfl ?_
    obtain ⟨q26, hk25, hr2⟩ := bd_elim hr2
    refine m_callV (pc := 109) [.int 0, .int 80] dX12_townPart_109 (kX12_amount hk25) stX12_327 ⟨by decide, by decide, by decide, by decide⟩ ⟨rfl, rfl⟩ (Nat.le_of_ble_eq_true rfl) ?_
    show Rn g mdX12_townPart 112 [some (.ref 0), some (.int p0), some (.int v24)] [.int q26.1, .int v24, .ref 20] (mW q26.2) 0 0 none (mW q)
    refine o_bipush (pc := 112) (v := 20) dX12_townPart_112 rfl ?_
    refine o_isub (pc := 114) dX12_townPart_114 ?_
    obtain ⟨hk27, hr2⟩ := ck_elim hr2
    refine m_iast (pc := 115) (by decide) rfl hk27 dX12_townPart_115 ?_
    refine lz_s (mW) hr2 (fun s28 hr2 => ?_)
    show Rn g mdX12_townPart 116 [some (.ref 0), some (.int p0), some (.int v24)] [] (mW s28) 0 0 none (mW q)
    refine o_aload_n (pc := 116) dX12_townPart_116 rfl ?_
    refine m_getA (pc := 117) 21 21 (by decide) rfl rfl lkX12_70 dX12_townPart_117 ?_
    refine o_iload_n (pc := 120) dX12_townPart_120 rfl ?_
    refine o_aload_n (pc := 121) dX12_townPart_121 rfl ?_
    refine o_iconst (pc := 122) (v := 0) dX12_townPart_122 rfl ?_
    refine o_bipush (pc := 123) (v := 40) dX12_townPart_123 rfl ?_
    obtain ⟨q30, hk29, hr2⟩ := bd_elim hr2
    refine m_callV (pc := 125) [.int 0, .int 40] dX12_townPart_125 (kX12_amount hk29) stX12_327 ⟨by decide, by decide, by decide, by decide⟩ ⟨rfl, rfl⟩ (Nat.le_of_ble_eq_true rfl) ?_
    show Rn g mdX12_townPart 128 [some (.ref 0), some (.int p0), some (.int v24)] [.int q30.1, .int v24, .ref 21] (mW q30.2) 0 0 none (mW q)
    refine o_bipush (pc := 128) (v := 20) dX12_townPart_128 rfl ?_
    refine o_isub (pc := 130) dX12_townPart_130 ?_
    obtain ⟨hk31, hr2⟩ := ck_elim hr2
    refine m_iast (pc := 131) (by decide) rfl hk31 dX12_townPart_131 ?_
    refine lz_s (mW) hr2 (fun s32 hr2 => ?_)
    show Rn g mdX12_townPart 132 [some (.ref 0), some (.int p0), some (.int v24)] [] (mW s32) 0 0 none (mW q)
    refine o_aload_n (pc := 132) dX12_townPart_132 rfl ?_
    refine m_getA (pc := 133) 19 19 (by decide) rfl rfl lkX12_64 dX12_townPart_133 ?_
    refine o_iconst (pc := 136) (v := 3) dX12_townPart_136 rfl ?_
    refine o_dup2 (pc := 137) dX12_townPart_137 rfl rfl ?_
    obtain ⟨hk33, hr2⟩ := ck_elim hr2
    refine m_iald (pc := 138) (by decide) rfl hk33 dX12_townPart_138 ?_
    refine o_iconst (pc := 139) (v := 1) dX12_townPart_139 rfl ?_
    refine o_iadd (pc := 140) dX12_townPart_140 ?_
    obtain ⟨hk34, hr2⟩ := ck_elim hr2
    refine m_iast (pc := 141) (by decide) rfl hk34 dX12_townPart_141 ?_
    refine lz_s (mW) hr2 (fun s35 hr2 => ?_)
    show Rn g mdX12_townPart 142 [some (.ref 0), some (.int p0), some (.int v24)] [] (mW s35) 0 0 none (mW q)
    refine o_goto (pc := 142) 219 dX12_townPart_142 rfl ?_
    obtain rfl := Option.some.inj hr2
    refine o_keep [false, false, false] ?_
    exact K3
  have hr2 := it_f hr2 hx22
  by_cases hx36 : p0 = 2
  · have hr2 := it_t hr2 hx36
    refine o_tableIn (pc := 1) 145 dX12_townPart_1 (by rw [hx36] <;> decide) (by rw [hx36] <;> decide) (by rw [hx36] <;> rfl) rfl ?_
    refine o_aload_n (pc := 145) dX12_townPart_145 rfl ?_
    obtain ⟨q38, hk37, hr2⟩ := bd_elim hr2
    refine m_callV (pc := 146) [] dX12_townPart_146 (kX12_onePerson hk37) stX12_331 ⟨by decide, by decide, by decide, by decide⟩ ⟨rfl, rfl⟩ (Nat.le_of_ble_eq_true rfl) ?_
    show Rn g mdX12_townPart 149 [some (.ref 0), some (.int p0), none] [.int q38.1] (mW q38.2) 0 0 none (mW q)
    refine o_istore_n (pc := 149) dX12_townPart_149 (by decide) rfl ?_
    show Rn g mdX12_townPart 150 [some (.ref 0), some (.int p0), some (.int q38.1)] [] (mW q38.2) 0 0 none (mW q)
    refine o_aload_n (pc := 150) dX12_townPart_150 rfl ?_
    refine m_getA (pc := 151) 19 19 (by decide) rfl rfl lkX12_64 dX12_townPart_151 ?_
    refine o_bipush (pc := 154) (v := 8) dX12_townPart_154 rfl ?_
    refine o_dup2 (pc := 156) dX12_townPart_156 rfl rfl ?_
    obtain ⟨hk39, hr2⟩ := ck_elim hr2
    refine m_iald (pc := 157) (by decide) rfl hk39 dX12_townPart_157 ?_
    refine o_aload_n (pc := 158) dX12_townPart_158 rfl ?_
    refine m_getI (pc := 159) 28 (by decide) rfl lkX12_224 dX12_townPart_159 ?_
    obtain ⟨w40, hr41, hr2⟩ := bd_elim hr2
    have K42 : Rn g mdX12_townPart 172 [none, none, none] [.int w40, .int (gi q38.2 19 (ix 8)), .int 8, .ref 19] (mW q38.2) 0 0 none (mW q) := by
      refine o_ior (pc := 172) dX12_townPart_172 ?_
      obtain ⟨hk43, hr2⟩ := ck_elim hr2
      refine m_iast (pc := 173) (by decide) rfl hk43 dX12_townPart_173 ?_
      refine lz_s (mW) hr2 (fun s44 hr2 => ?_)
      show Rn g mdX12_townPart 174 [none, none, none] [] (mW s44) 0 0 none (mW q)
      refine o_goto (pc := 174) 219 dX12_townPart_174 rfl ?_
      obtain rfl := Option.some.inj hr2
      exact K3
    clear hr2
    refine o_if_ne (pc := 162) 171 dX12_townPart_162 rfl (fun hc => ?_) (fun hc => ?_)
    · have hr41 := it_f hr41 hc
      refine o_iconst (pc := 171) (v := 0) dX12_townPart_171 rfl ?_
      obtain rfl := Option.some.inj hr41
      refine o_keep [false, false, false] ?_
      exact K42
    · have hr41 := it_t hr41 hc
      refine o_iconst (pc := 165) (v := 1) dX12_townPart_165 rfl ?_
      refine o_iload_n (pc := 166) dX12_townPart_166 rfl ?_
      refine o_ishl (pc := 167) dX12_townPart_167 ?_
      refine o_goto (pc := 168) 172 dX12_townPart_168 rfl ?_
      obtain rfl := Option.some.inj hr41
      refine o_keep [false, false, false] ?_
      exact K42
  have hr2 := it_f hr2 hx36
  by_cases hx45 : p0 = 3
  · have hr2 := it_t hr2 hx45
    refine o_tableIn (pc := 1) 177 dX12_townPart_1 (by rw [hx45] <;> decide) (by rw [hx45] <;> decide) (by rw [hx45] <;> rfl) rfl ?_
    refine o_aload_n (pc := 177) dX12_townPart_177 rfl ?_
    obtain ⟨q47, hk46, hr2⟩ := bd_elim hr2
    refine m_callV (pc := 178) [] dX12_townPart_178 (kX12_readsMeeting hk46) stX12_334 ⟨by decide, by decide, by decide, by decide⟩ ⟨rfl, rfl⟩ (Nat.le_of_ble_eq_true rfl) ?_
    show Rn g mdX12_townPart 181 [some (.ref 0), some (.int p0), none] [] (mW q47) 0 0 none (mW q)
    refine o_goto (pc := 181) 219 dX12_townPart_181 rfl ?_
    obtain rfl := Option.some.inj hr2
    refine o_keep [false, false, false] ?_
    exact K3
  have hr2 := it_f hr2 hx45
  refine o_tableOut (pc := 1) 184 dX12_townPart_1 (sw_out 0 3 (fun n hn => ?_)) rfl ?_
  · match n, hn with
    | 0, _ => exact sw_ne hx4 rfl
    | 1, _ => exact sw_ne hx22 rfl
    | 2, _ => exact sw_ne hx36 rfl
    | 3, _ => exact sw_ne hx45 rfl
    | n + 4, h => exact absurd h (by omega)
  · refine o_aload_n (pc := 184) dX12_townPart_184 rfl ?_
    refine m_getA (pc := 185) 19 19 (by decide) rfl rfl lkX12_64 dX12_townPart_185 ?_
    refine o_iconst (pc := 188) (v := 5) dX12_townPart_188 rfl ?_
    refine o_aload_n (pc := 189) dX12_townPart_189 rfl ?_
    refine o_iconst (pc := 190) (v := 0) dX12_townPart_190 rfl ?_
    refine o_bipush (pc := 191) (v := 9) dX12_townPart_191 rfl ?_
    obtain ⟨q49, hk48, hr2⟩ := bd_elim hr2
    refine m_callV (pc := 193) [.int 0, .int 9] dX12_townPart_193 (kX12_amount hk48) stX12_327 ⟨by decide, by decide, by decide, by decide⟩ ⟨rfl, rfl⟩ (Nat.le_of_ble_eq_true rfl) ?_
    show Rn g mdX12_townPart 196 [some (.ref 0), some (.int p0), none] [.int q49.1, .int 5, .ref 19] (mW q49.2) 0 0 none (mW q)
    obtain ⟨hk50, hr2⟩ := ck_elim hr2
    refine m_iast (pc := 196) (by decide) rfl hk50 dX12_townPart_196 ?_
    refine lz_s (mW) hr2 (fun s51 hr2 => ?_)
    show Rn g mdX12_townPart 197 [some (.ref 0), some (.int p0), none] [] (mW s51) 0 0 none (mW q)
    refine o_aload_n (pc := 197) dX12_townPart_197 rfl ?_
    refine m_getA (pc := 198) 19 19 (by decide) rfl rfl lkX12_64 dX12_townPart_198 ?_
    refine o_bipush (pc := 201) (v := 6) dX12_townPart_201 rfl ?_
    refine o_aload_n (pc := 203) dX12_townPart_203 rfl ?_
    refine o_iconst (pc := 204) (v := 0) dX12_townPart_204 rfl ?_
    refine o_bipush (pc := 205) (v := 9) dX12_townPart_205 rfl ?_
    obtain ⟨q53, hk52, hr2⟩ := bd_elim hr2
    refine m_callV (pc := 207) [.int 0, .int 9] dX12_townPart_207 (kX12_amount hk52) stX12_327 ⟨by decide, by decide, by decide, by decide⟩ ⟨rfl, rfl⟩ (Nat.le_of_ble_eq_true rfl) ?_
    show Rn g mdX12_townPart 210 [some (.ref 0), some (.int p0), none] [.int q53.1, .int 6, .ref 19] (mW q53.2) 0 0 none (mW q)
    obtain ⟨hk54, hr2⟩ := ck_elim hr2
    refine m_iast (pc := 210) (by decide) rfl hk54 dX12_townPart_210 ?_
    refine lz_s (mW) hr2 (fun s55 hr2 => ?_)
    show Rn g mdX12_townPart 211 [some (.ref 0), some (.int p0), none] [] (mW s55) 0 0 none (mW q)
    refine o_aload_n (pc := 211) dX12_townPart_211 rfl ?_
    refine m_getA (pc := 212) 19 19 (by decide) rfl rfl lkX12_64 dX12_townPart_212 ?_
    refine o_bipush (pc := 215) (v := 7) dX12_townPart_215 rfl ?_
    refine o_iconst (pc := 217) (v := 1) dX12_townPart_217 rfl ?_
    obtain ⟨hk56, hr2⟩ := ck_elim hr2
    refine m_iast (pc := 218) (by decide) rfl hk56 dX12_townPart_218 ?_
    refine lz_s (mW) hr2 (fun s57 hr2 => ?_)
    show Rn g mdX12_townPart 219 [some (.ref 0), some (.int p0), none] [] (mW s57) 0 0 none (mW q)
    obtain rfl := Option.some.inj hr2
    refine o_keep [false, false, false] ?_
    exact K3
def fX12_isFull (p0 : Int32) (p1 : Int32) (s : ST) : Option (Int32) :=
  if p1 = 40 then some 1 else (if p0 = 0 then some 1 else some 0 : Option (Int32)).bind (fun w1 => (if p1 = 0 then some 1 else some 0 : Option (Int32)).bind (fun w4 => if w1 = w4 then if p0 = 1 then ck (inb 3 9) ((if (gi s 19 (ix 3)) = 5 then some 1 else some 0 : Option (Int32)).bind (fun w9 => ck (bz w9) (some w9))) else if p0 = 2 then some 0 else if p0 = 3 then ck (inb 4 9) ((if (gi s 19 (ix 4)) = 8 then some 1 else some 0 : Option (Int32)).bind (fun w16 => ck (bz w16) (some w16))) else if p0 = 4 then ck (inb 7 9) ((if (gi s 19 (ix 7)) = 1 then some 1 else some 0 : Option (Int32)).bind (fun w22 => ck (bz w22) (some w22))) else some 0 else some 1))
set_option maxRecDepth 20000 in
theorem kX12_isFull {g : GX} {p0 : Int32} {p1 : Int32} {s : ST} {q : Int32} (hf : fX12_isFull p0 p1 s = some q) : Cn g mdX12_isFull [.ref 0, .int p0, .int p1] (mW s) (some (.int q)) (mW s) := by
  refine Cn.of (by decide) (Nat.le_of_ble_eq_true rfl) ?_
  show Rn g mdX12_isFull 0 [some (.ref 0), some (.int p0), some (.int p1)] [] (mW s) 0 0 (some (.int q)) (mW s)
  unfold fX12_isFull at hf
  refine o_iload_n (pc := 0) dX12_isFull_0 rfl ?_
  refine o_bipush (pc := 1) (v := 40) dX12_isFull_1 rfl ?_
  refine o_icmp_eq (pc := 3) 27 dX12_isFull_3 rfl (fun hc => ?_) (fun hc => ?_)
  · have hf := it_t hf hc
    refine o_iconst (pc := 27) (v := 1) dX12_isFull_27 rfl ?_
    obtain rfl := Option.some.inj hf
    exact o_zreturn (pc := 28) dX12_isFull_28 rfl rfl (Nat.zero_le _) (Nat.zero_le _)
  · have hf := it_f hf hc
    refine o_iload_n (pc := 6) dX12_isFull_6 rfl ?_
    obtain ⟨w1, hr2, hf⟩ := bd_elim hf
    have K3 : Rn g mdX12_isFull 15 [some (.ref 0), some (.int p0), some (.int p1)] [.int w1] (mW s) 0 0 (some (.int q)) (mW s) := by
      refine o_iload_n (pc := 15) dX12_isFull_15 rfl ?_
      obtain ⟨w4, hr5, hf⟩ := bd_elim hf
      have K6 : Rn g mdX12_isFull 24 [some (.ref 0), some (.int p0), none] [.int w4, .int w1] (mW s) 0 0 (some (.int q)) (mW s) := by
        refine o_icmp_eq (pc := 24) 29 dX12_isFull_24 rfl (fun hc => ?_) (fun hc => ?_)
        · have hf := it_t hf hc
          refine o_iload_n (pc := 29) dX12_isFull_29 rfl ?_
          by_cases hx7 : p0 = 1
          · have hf := it_t hf hx7
            refine o_tableIn (pc := 30) 60 dX12_isFull_30 (by rw [hx7] <;> decide) (by rw [hx7] <;> decide) (by rw [hx7] <;> rfl) rfl ?_
            refine o_aload_n (pc := 60) dX12_isFull_60 rfl ?_
            refine m_getA (pc := 61) 19 19 (by decide) rfl rfl lkX12_64 dX12_isFull_61 ?_
            refine o_iconst (pc := 64) (v := 3) dX12_isFull_64 rfl ?_
            obtain ⟨hk8, hf⟩ := ck_elim hf
            refine m_iald (pc := 65) (by decide) rfl hk8 dX12_isFull_65 ?_
            refine o_iconst (pc := 66) (v := 5) dX12_isFull_66 rfl ?_
            obtain ⟨w9, hr10, hf⟩ := bd_elim hf
            have K11 : Rn g mdX12_isFull 75 [none, none, none] [.int w9] (mW s) 0 0 (some (.int q)) (mW s) := by
              obtain ⟨hk12, hf⟩ := ck_elim hf
              obtain rfl := Option.some.inj hf
              exact o_zreturn (pc := 75) dX12_isFull_75 rfl (bz_n hk12).1 (Nat.zero_le _) (Nat.zero_le _)
            clear hf
            refine o_icmp_ne (pc := 67) 74 dX12_isFull_67 rfl (fun hc => ?_) (fun hc => ?_)
            · have hr10 := it_f hr10 hc
              refine o_iconst (pc := 74) (v := 0) dX12_isFull_74 rfl ?_
              obtain rfl := Option.some.inj hr10
              refine o_keep [false, false, false] ?_
              exact K11
            · have hr10 := it_t hr10 hc
              refine o_iconst (pc := 70) (v := 1) dX12_isFull_70 rfl ?_
              refine o_goto (pc := 71) 75 dX12_isFull_71 rfl ?_
              obtain rfl := Option.some.inj hr10
              refine o_keep [false, false, false] ?_
              exact K11
          have hf := it_f hf hx7
          by_cases hx13 : p0 = 2
          · have hf := it_t hf hx13
            refine o_tableIn (pc := 30) 110 dX12_isFull_30 (by rw [hx13] <;> decide) (by rw [hx13] <;> decide) (by rw [hx13] <;> rfl) rfl ?_
            refine o_iconst (pc := 110) (v := 0) dX12_isFull_110 rfl ?_
            obtain rfl := Option.some.inj hf
            exact o_zreturn (pc := 111) dX12_isFull_111 rfl rfl (Nat.zero_le _) (Nat.zero_le _)
          have hf := it_f hf hx13
          by_cases hx14 : p0 = 3
          · have hf := it_t hf hx14
            refine o_tableIn (pc := 30) 76 dX12_isFull_30 (by rw [hx14] <;> decide) (by rw [hx14] <;> decide) (by rw [hx14] <;> rfl) rfl ?_
            refine o_aload_n (pc := 76) dX12_isFull_76 rfl ?_
            refine m_getA (pc := 77) 19 19 (by decide) rfl rfl lkX12_64 dX12_isFull_77 ?_
            refine o_iconst (pc := 80) (v := 4) dX12_isFull_80 rfl ?_
            obtain ⟨hk15, hf⟩ := ck_elim hf
            refine m_iald (pc := 81) (by decide) rfl hk15 dX12_isFull_81 ?_
            refine o_bipush (pc := 82) (v := 8) dX12_isFull_82 rfl ?_
            obtain ⟨w16, hr17, hf⟩ := bd_elim hf
            have K18 : Rn g mdX12_isFull 92 [none, none, none] [.int w16] (mW s) 0 0 (some (.int q)) (mW s) := by
              obtain ⟨hk19, hf⟩ := ck_elim hf
              obtain rfl := Option.some.inj hf
              exact o_zreturn (pc := 92) dX12_isFull_92 rfl (bz_n hk19).1 (Nat.zero_le _) (Nat.zero_le _)
            clear hf
            refine o_icmp_ne (pc := 84) 91 dX12_isFull_84 rfl (fun hc => ?_) (fun hc => ?_)
            · have hr17 := it_f hr17 hc
              refine o_iconst (pc := 91) (v := 0) dX12_isFull_91 rfl ?_
              obtain rfl := Option.some.inj hr17
              refine o_keep [false, false, false] ?_
              exact K18
            · have hr17 := it_t hr17 hc
              refine o_iconst (pc := 87) (v := 1) dX12_isFull_87 rfl ?_
              refine o_goto (pc := 88) 92 dX12_isFull_88 rfl ?_
              obtain rfl := Option.some.inj hr17
              refine o_keep [false, false, false] ?_
              exact K18
          have hf := it_f hf hx14
          by_cases hx20 : p0 = 4
          · have hf := it_t hf hx20
            refine o_tableIn (pc := 30) 93 dX12_isFull_30 (by rw [hx20] <;> decide) (by rw [hx20] <;> decide) (by rw [hx20] <;> rfl) rfl ?_
            refine o_aload_n (pc := 93) dX12_isFull_93 rfl ?_
            refine m_getA (pc := 94) 19 19 (by decide) rfl rfl lkX12_64 dX12_isFull_94 ?_
            refine o_bipush (pc := 97) (v := 7) dX12_isFull_97 rfl ?_
            obtain ⟨hk21, hf⟩ := ck_elim hf
            refine m_iald (pc := 99) (by decide) rfl hk21 dX12_isFull_99 ?_
            refine o_iconst (pc := 100) (v := 1) dX12_isFull_100 rfl ?_
            obtain ⟨w22, hr23, hf⟩ := bd_elim hf
            have K24 : Rn g mdX12_isFull 109 [none, none, none] [.int w22] (mW s) 0 0 (some (.int q)) (mW s) := by
              obtain ⟨hk25, hf⟩ := ck_elim hf
              obtain rfl := Option.some.inj hf
              exact o_zreturn (pc := 109) dX12_isFull_109 rfl (bz_n hk25).1 (Nat.zero_le _) (Nat.zero_le _)
            clear hf
            refine o_icmp_ne (pc := 101) 108 dX12_isFull_101 rfl (fun hc => ?_) (fun hc => ?_)
            · have hr23 := it_f hr23 hc
              refine o_iconst (pc := 108) (v := 0) dX12_isFull_108 rfl ?_
              obtain rfl := Option.some.inj hr23
              refine o_keep [false, false, false] ?_
              exact K24
            · have hr23 := it_t hr23 hc
              refine o_iconst (pc := 104) (v := 1) dX12_isFull_104 rfl ?_
              refine o_goto (pc := 105) 109 dX12_isFull_105 rfl ?_
              obtain rfl := Option.some.inj hr23
              refine o_keep [false, false, false] ?_
              exact K24
          have hf := it_f hf hx20
          refine o_tableOut (pc := 30) 110 dX12_isFull_30 (sw_out 1 3 (fun n hn => ?_)) rfl ?_
          · match n, hn with
            | 0, _ => exact sw_ne hx7 rfl
            | 1, _ => exact sw_ne hx13 rfl
            | 2, _ => exact sw_ne hx14 rfl
            | 3, _ => exact sw_ne hx20 rfl
            | n + 4, h => exact absurd h (by omega)
          · refine o_iconst (pc := 110) (v := 0) dX12_isFull_110 rfl ?_
            obtain rfl := Option.some.inj hf
            exact o_zreturn (pc := 111) dX12_isFull_111 rfl rfl (Nat.zero_le _) (Nat.zero_le _)
        · have hf := it_f hf hc
          refine o_iconst (pc := 27) (v := 1) dX12_isFull_27 rfl ?_
          obtain rfl := Option.some.inj hf
          exact o_zreturn (pc := 28) dX12_isFull_28 rfl rfl (Nat.zero_le _) (Nat.zero_le _)
      clear hf
      refine o_if_ne (pc := 16) 23 dX12_isFull_16 rfl (fun hc => ?_) (fun hc => ?_)
      · have hr5 := it_f hr5 hc
        refine o_iconst (pc := 23) (v := 0) dX12_isFull_23 rfl ?_
        obtain rfl := Option.some.inj hr5
        refine o_keep [true, true, false] ?_
        exact K6
      · have hr5 := it_t hr5 hc
        refine o_iconst (pc := 19) (v := 1) dX12_isFull_19 rfl ?_
        refine o_goto (pc := 20) 24 dX12_isFull_20 rfl ?_
        obtain rfl := Option.some.inj hr5
        refine o_keep [true, true, false] ?_
        exact K6
    clear hf
    refine o_if_ne (pc := 7) 14 dX12_isFull_7 rfl (fun hc => ?_) (fun hc => ?_)
    · have hr2 := it_f hr2 hc
      refine o_iconst (pc := 14) (v := 0) dX12_isFull_14 rfl ?_
      obtain rfl := Option.some.inj hr2
      exact K3
    · have hr2 := it_t hr2 hc
      refine o_iconst (pc := 10) (v := 1) dX12_isFull_10 rfl ?_
      refine o_goto (pc := 11) 15 dX12_isFull_11 rfl ?_
      obtain rfl := Option.some.inj hr2
      exact K3
def fX12_townClause_L11 (a1 : Int32) (a2 : Int32) : Nat → Int32 → ST → Option (Int32)
  | 0, _, _ => none
  | n + 1, x3, s => (if 5 ≤ x3 then some false else (fX12_townWord x3 s).bind (fun q8 => (fX12_stood q8 s).bind (fun q10 => if q10 = 0 then some true else some false)) : Option Bool).bind (fun b4 => if b4 = true then lt (x3 + 1) (fun v11 => fX12_townClause_L11 a1 a2 n v11 s) else some x3)
def fX12_townClause (p0 : Int32) (s : ST) : Option (ST) :=
  (fX12_blanks s).bind (fun q2 => lt (gi q2 0 27 : Int32) (fun v3 => (fX12_townClause_L11 p0 v3 FUEL 0 q2).bind (fun w12 => if w12 = 5 then (fX12_fails 0 v3 q2).bind (fun q26 => some q26) else (fX12_isFull w12 p0 q2).bind (fun q16 => if q16 = 0 then (fX12_townWord w12 q2).bind (fun q18 => ck (okT q18) (lt (si q2 0 27 ((gi q2 0 27) + (tlen q18))) (fun s20 => (fX12_townPart w12 s20).bind (fun q22 => some q22)))) else (fX12_fails 4 v3 q2).bind (fun q24 => some q24)))))
set_option maxRecDepth 20000 in
theorem kX12_townClause_L11 {g : GX} (a1 : Int32) (a2 : Int32) (s : ST) {r : Option Value} {h2 : PH} : ∀ (n : Nat) (x3 : Int32) {w : Int32}, fX12_townClause_L11 a1 a2 n x3 s = some w → Rn g mdX12_townClause 33 [some (.ref 0), some (.int a1), some (.int a2), some (.int w)] [] (mW s) 0 0 r h2 → Rn g mdX12_townClause 11 [some (.ref 0), some (.int a1), some (.int a2), some (.int x3)] [] (mW s) 0 0 r h2 := by
  intro n
  induction n with
  | zero => intro x3 w hf K; cases hf
  | succ n ih =>
    intro x3 w hf K
    rw [fX12_townClause_L11] at hf
    refine o_iload_n (pc := 11) dX12_townClause_11 rfl ?_
    refine o_iconst (pc := 12) (v := 5) dX12_townClause_12 rfl ?_
    obtain ⟨b4, hr5, hf⟩ := bd_elim hf
    have KB6 : (b4 = true → Rn g mdX12_townClause 27 [some (.ref 0), some (.int a1), some (.int a2), some (.int x3)] [] (mW s) 0 0 r h2) ∧ (¬ b4 = true → Rn g mdX12_townClause 33 [some (.ref 0), some (.int a1), some (.int a2), some (.int x3)] [] (mW s) 0 0 r h2) := by
      refine ⟨fun hc => ?_, fun hc => ?_⟩
      · have hf := it_t hf hc
        refine o_iinc (pc := 27) dX12_townClause_27 rfl (by decide) rfl ?_
        show Rn g mdX12_townClause 30 [some (.ref 0), some (.int a1), some (.int a2), some (.int (x3 + 1))] [] (mW s) 0 0 r h2
        obtain ⟨v11, ev11, hf⟩ := lt_elim hf
        rw [ev11]
        show Rn g mdX12_townClause 30 [some (.ref 0), some (.int a1), some (.int a2), some (.int v11)] [] (mW s) 0 0 r h2
        refine o_goto (pc := 30) 11 dX12_townClause_30 rfl ?_
        exact ih _ hf K
      · have hf := it_f hf hc
        obtain rfl := Option.some.inj hf
        exact K
    clear hf
    refine o_icmp_ge (pc := 13) 33 dX12_townClause_13 rfl (fun hc => ?_) (fun hc => ?_)
    · have hr5 := it_t hr5 hc
      obtain rfl := Option.some.inj hr5
      exact KB6.2 (by decide)
    · have hr5 := it_f hr5 hc
      refine o_aload_n (pc := 16) dX12_townClause_16 rfl ?_
      refine o_iload_n (pc := 17) dX12_townClause_17 rfl ?_
      obtain ⟨q8, hk7, hr5⟩ := bd_elim hr5
      refine m_callS (pc := 18) [.int x3] dX12_townClause_18 (kX12_townWord hk7) stX12_337 ⟨by decide, by decide, by decide, by decide⟩ ⟨rfl, rfl⟩ (Nat.le_of_ble_eq_true rfl) ?_
      show Rn g mdX12_townClause 21 [some (.ref 0), some (.int a1), some (.int a2), some (.int x3)] [.ref q8, .ref 0] (mW s) 0 0 r h2
      obtain ⟨q10, hk9, hr5⟩ := bd_elim hr5
      refine m_callV (pc := 21) [.ref q8] dX12_townClause_21 (kX12_stood hk9) stX12_249 ⟨by decide, by decide, by decide, by decide⟩ ⟨rfl, rfl⟩ (Nat.le_of_ble_eq_true rfl) ?_
      show Rn g mdX12_townClause 24 [some (.ref 0), some (.int a1), some (.int a2), some (.int x3)] [.int q10] (mW s) 0 0 r h2
      refine o_if_ne (pc := 24) 33 dX12_townClause_24 rfl (fun hc => ?_) (fun hc => ?_)
      · have hr5 := it_f hr5 hc
        obtain rfl := Option.some.inj hr5
        exact KB6.2 (by decide)
      · have hr5 := it_t hr5 hc
        obtain rfl := Option.some.inj hr5
        exact KB6.1 rfl
set_option maxRecDepth 20000 in
theorem kX12_townClause {g : GX} {p0 : Int32} {s : ST} {q : ST} (hf : fX12_townClause p0 s = some q) : Cn g mdX12_townClause [.ref 0, .int p0] (mW s) none (mW q) := by
  refine Cn.of (by decide) (Nat.le_of_ble_eq_true rfl) ?_
  show Rn g mdX12_townClause 0 [some (.ref 0), some (.int p0), none, none] [] (mW s) 0 0 none (mW q)
  unfold fX12_townClause at hf
  refine o_aload_n (pc := 0) dX12_townClause_0 rfl ?_
  obtain ⟨q2, hk1, hf⟩ := bd_elim hf
  refine m_callV (pc := 1) [] dX12_townClause_1 (kX12_blanks hk1) stX12_246 ⟨by decide, by decide, by decide, by decide⟩ ⟨rfl, rfl⟩ (Nat.le_of_ble_eq_true rfl) ?_
  show Rn g mdX12_townClause 4 [some (.ref 0), some (.int p0), none, none] [] (mW q2) 0 0 none (mW q)
  refine o_aload_n (pc := 4) dX12_townClause_4 rfl ?_
  refine m_getI (pc := 5) 27 (by decide) rfl lkX12_227 dX12_townClause_5 ?_
  refine lz_i hf (fun v3 hf => ?_)
  refine o_istore_n (pc := 8) dX12_townClause_8 (by decide) rfl ?_
  show Rn g mdX12_townClause 9 [some (.ref 0), some (.int p0), some (.int v3), none] [] (mW q2) 0 0 none (mW q)
  refine o_iconst (pc := 9) (v := 0) dX12_townClause_9 rfl ?_
  refine o_istore_n (pc := 10) dX12_townClause_10 (by decide) rfl ?_
  show Rn g mdX12_townClause 11 [some (.ref 0), some (.int p0), some (.int v3), some (.int 0)] [] (mW q2) 0 0 none (mW q)
  obtain ⟨w12, hl13, hf⟩ := bd_elim hf
  have K14 : Rn g mdX12_townClause 33 [some (.ref 0), some (.int p0), some (.int v3), some (.int w12)] [] (mW q2) 0 0 none (mW q) := by
    refine o_iload_n (pc := 33) dX12_townClause_33 rfl ?_
    refine o_iconst (pc := 34) (v := 5) dX12_townClause_34 rfl ?_
    refine o_icmp_ne (pc := 35) 45 dX12_townClause_35 rfl (fun hc => ?_) (fun hc => ?_)
    · have hf := it_f hf hc
      refine o_aload_n (pc := 45) dX12_townClause_45 rfl ?_
      refine o_iload_n (pc := 46) dX12_townClause_46 rfl ?_
      refine o_iload_n (pc := 47) dX12_townClause_47 rfl ?_
      obtain ⟨q16, hk15, hf⟩ := bd_elim hf
      refine m_callV (pc := 48) [.int w12, .int p0] dX12_townClause_48 (kX12_isFull hk15) stX12_340 ⟨by decide, by decide, by decide, by decide⟩ ⟨rfl, rfl⟩ (Nat.le_of_ble_eq_true rfl) ?_
      show Rn g mdX12_townClause 51 [some (.ref 0), some (.int p0), some (.int v3), some (.int w12)] [.int q16] (mW q2) 0 0 none (mW q)
      refine o_if_eq (pc := 51) 61 dX12_townClause_51 rfl (fun hc => ?_) (fun hc => ?_)
      · have hf := it_t hf hc
        refine o_aload_n (pc := 61) dX12_townClause_61 rfl ?_
        refine o_dup (pc := 62) dX12_townClause_62 rfl ?_
        refine m_getI (pc := 63) 27 (by decide) rfl lkX12_227 dX12_townClause_63 ?_
        refine o_iload_n (pc := 66) dX12_townClause_66 rfl ?_
        obtain ⟨q18, hk17, hf⟩ := bd_elim hf
        refine m_callS (pc := 67) [.int w12] dX12_townClause_67 (kX12_townWord hk17) stX12_337 ⟨by decide, by decide, by decide, by decide⟩ ⟨rfl, rfl⟩ (Nat.le_of_ble_eq_true rfl) ?_
        show Rn g mdX12_townClause 70 [some (.ref 0), some (.int p0), some (.int v3), some (.int w12)] [.ref q18, .int (gi q2 0 27), .ref 0] (mW q2) 0 0 none (mW q)
        obtain ⟨hk19, hf⟩ := ck_elim hf
        refine o_tlength (pc := 70) hk19 dX12_townClause_70 stX12_238 ⟨by decide, by decide, by decide, by decide⟩ (Nat.le_of_ble_eq_true rfl) ?_
        show Rn g mdX12_townClause 73 [some (.ref 0), some (.int p0), some (.int v3), some (.int w12)] [.int (tlen q18), .int (gi q2 0 27), .ref 0] (mW q2) 0 0 none (mW q)
        refine o_iadd (pc := 73) dX12_townClause_73 ?_
        refine m_putI (pc := 74) 27 (by decide) rfl rfl lkX12_227 ⟨rfl, rfl⟩ dX12_townClause_74 ?_
        refine lz_s (mW) hf (fun s20 hf => ?_)
        show Rn g mdX12_townClause 77 [some (.ref 0), some (.int p0), some (.int v3), some (.int w12)] [] (mW s20) 0 0 none (mW q)
        refine o_aload_n (pc := 77) dX12_townClause_77 rfl ?_
        refine o_iload_n (pc := 78) dX12_townClause_78 rfl ?_
        obtain ⟨q22, hk21, hf⟩ := bd_elim hf
        refine m_callV (pc := 79) [.int w12] dX12_townClause_79 (kX12_townPart hk21) stX12_344 ⟨by decide, by decide, by decide, by decide⟩ ⟨rfl, rfl⟩ (Nat.le_of_ble_eq_true rfl) ?_
        show Rn g mdX12_townClause 82 [some (.ref 0), some (.int p0), some (.int v3), some (.int w12)] [] (mW q22) 0 0 none (mW q)
        obtain rfl := Option.some.inj hf
        exact o_return (pc := 82) dX12_townClause_82 rfl (Nat.zero_le _) (Nat.zero_le _)
      · have hf := it_f hf hc
        refine o_aload_n (pc := 54) dX12_townClause_54 rfl ?_
        refine o_iconst (pc := 55) (v := 4) dX12_townClause_55 rfl ?_
        refine o_iload_n (pc := 56) dX12_townClause_56 rfl ?_
        obtain ⟨q24, hk23, hf⟩ := bd_elim hf
        refine m_callV (pc := 57) [.int 4, .int v3] dX12_townClause_57 (kX12_fails hk23) stX12_262 ⟨by decide, by decide, by decide, by decide⟩ ⟨rfl, rfl⟩ (Nat.le_of_ble_eq_true rfl) ?_
        show Rn g mdX12_townClause 60 [some (.ref 0), some (.int p0), some (.int v3), some (.int w12)] [] (mW q24) 0 0 none (mW q)
        obtain rfl := Option.some.inj hf
        exact o_return (pc := 60) dX12_townClause_60 rfl (Nat.zero_le _) (Nat.zero_le _)
    · have hf := it_t hf hc
      refine o_aload_n (pc := 38) dX12_townClause_38 rfl ?_
      refine o_iconst (pc := 39) (v := 0) dX12_townClause_39 rfl ?_
      refine o_iload_n (pc := 40) dX12_townClause_40 rfl ?_
      obtain ⟨q26, hk25, hf⟩ := bd_elim hf
      refine m_callV (pc := 41) [.int 0, .int v3] dX12_townClause_41 (kX12_fails hk25) stX12_262 ⟨by decide, by decide, by decide, by decide⟩ ⟨rfl, rfl⟩ (Nat.le_of_ble_eq_true rfl) ?_
      show Rn g mdX12_townClause 44 [some (.ref 0), some (.int p0), some (.int v3), some (.int w12)] [] (mW q26) 0 0 none (mW q)
      obtain rfl := Option.some.inj hf
      exact o_return (pc := 44) dX12_townClause_44 rfl (Nat.zero_le _) (Nat.zero_le _)
  exact kX12_townClause_L11 _ _ _ _ _ hl13 K14
def fX12_copies_2_4_L2 : Nat → Int32 → ST → Option (Int32 × ST)
  | 0, _, _ => none
  | n + 1, x2, s => if 5 ≤ x2 then some (x2, s) else ck (inb x2 5) (ck (inb x2 5) (lt (si s 4 (ix x2) (gi s 2 (ix x2))) (fun s3 => lt (x2 + 1) (fun v4 => fX12_copies_2_4_L2 n v4 s3))))
def fX12_copies_2_4 (s : ST) : Option (ST) :=
  (fX12_copies_2_4_L2 FUEL 0 s).bind (fun w5 => some w5.2)
set_option maxRecDepth 20000 in
theorem kX12_copies_2_4_L2 {g : GX} {r : Option Value} {h2 : PH} : ∀ (n : Nat) (x2 : Int32) (s : ST) {w : Int32 × ST}, fX12_copies_2_4_L2 n x2 s = some w → Rn g mdX12_copies 20 [none, none, none] [] (mW w.2) 0 0 r h2 → Rn g mdX12_copies 2 [some (.ref 2), some (.ref 4), some (.int x2)] [] (mW s) 0 0 r h2 := by
  intro n
  induction n with
  | zero => intro x2 s w hf K; cases hf
  | succ n ih =>
    intro x2 s w hf K
    rw [fX12_copies_2_4_L2] at hf
    refine o_iload_n (pc := 2) dX12_copies_2 rfl ?_
    refine o_aload_n (pc := 3) dX12_copies_3 rfl ?_
    refine m_alen (pc := 4) 5 (by decide) (by decide) rfl rfl dX12_copies_4 ?_
    refine o_icmp_ge (pc := 5) 20 dX12_copies_5 rfl (fun hc => ?_) (fun hc => ?_)
    · have hf := it_t hf hc
      obtain rfl := Option.some.inj hf
      refine o_keep [false, false, false] ?_
      exact K
    · have hf := it_f hf hc
      refine o_aload_n (pc := 8) dX12_copies_8 rfl ?_
      refine o_iload_n (pc := 9) dX12_copies_9 rfl ?_
      refine o_aload_n (pc := 10) dX12_copies_10 rfl ?_
      refine o_iload_n (pc := 11) dX12_copies_11 rfl ?_
      obtain ⟨hk1, hf⟩ := ck_elim hf
      refine m_iald (pc := 12) (by decide) rfl hk1 dX12_copies_12 ?_
      obtain ⟨hk2, hf⟩ := ck_elim hf
      refine m_iast (pc := 13) (by decide) rfl hk2 dX12_copies_13 ?_
      refine lz_s (mW) hf (fun s3 hf => ?_)
      show Rn g mdX12_copies 14 [some (.ref 2), some (.ref 4), some (.int x2)] [] (mW s3) 0 0 r h2
      refine o_iinc (pc := 14) dX12_copies_14 rfl (by decide) rfl ?_
      show Rn g mdX12_copies 17 [some (.ref 2), some (.ref 4), some (.int (x2 + 1))] [] (mW s3) 0 0 r h2
      obtain ⟨v4, ev4, hf⟩ := lt_elim hf
      rw [ev4]
      show Rn g mdX12_copies 17 [some (.ref 2), some (.ref 4), some (.int v4)] [] (mW s3) 0 0 r h2
      refine o_goto (pc := 17) 2 dX12_copies_17 rfl ?_
      exact ih _ _ hf K
set_option maxRecDepth 20000 in
theorem kX12_copies_2_4 {g : GX} {s : ST} {q : ST} (hf : fX12_copies_2_4 s = some q) : Cn g mdX12_copies [.ref 2, .ref 4] (mW s) none (mW q) := by
  refine Cn.of (by decide) (Nat.le_of_ble_eq_true rfl) ?_
  show Rn g mdX12_copies 0 [some (.ref 2), some (.ref 4), none] [] (mW s) 0 0 none (mW q)
  unfold fX12_copies_2_4 at hf
  refine o_iconst (pc := 0) (v := 0) dX12_copies_0 rfl ?_
  refine o_istore_n (pc := 1) dX12_copies_1 (by decide) rfl ?_
  show Rn g mdX12_copies 2 [some (.ref 2), some (.ref 4), some (.int 0)] [] (mW s) 0 0 none (mW q)
  obtain ⟨w5, hl6, hf⟩ := bd_elim hf
  have K7 : Rn g mdX12_copies 20 [none, none, none] [] (mW w5.2) 0 0 none (mW q) := by
    obtain rfl := Option.some.inj hf
    exact o_return (pc := 20) dX12_copies_20 rfl (Nat.zero_le _) (Nat.zero_le _)
  exact kX12_copies_2_4_L2 _ _ _ hl6 K7
def fX12_copies_16_3_L2 : Nat → Int32 → ST → Option (Int32 × ST)
  | 0, _, _ => none
  | n + 1, x2, s => if 5 ≤ x2 then some (x2, s) else ck (inb x2 5) (ck (inb x2 5) (lt (si s 3 (ix x2) (gi s 16 (ix x2))) (fun s3 => lt (x2 + 1) (fun v4 => fX12_copies_16_3_L2 n v4 s3))))
def fX12_copies_16_3 (s : ST) : Option (ST) :=
  (fX12_copies_16_3_L2 FUEL 0 s).bind (fun w5 => some w5.2)
set_option maxRecDepth 20000 in
theorem kX12_copies_16_3_L2 {g : GX} {r : Option Value} {h2 : PH} : ∀ (n : Nat) (x2 : Int32) (s : ST) {w : Int32 × ST}, fX12_copies_16_3_L2 n x2 s = some w → Rn g mdX12_copies 20 [none, none, none] [] (mW w.2) 0 0 r h2 → Rn g mdX12_copies 2 [some (.ref 16), some (.ref 3), some (.int x2)] [] (mW s) 0 0 r h2 := by
  intro n
  induction n with
  | zero => intro x2 s w hf K; cases hf
  | succ n ih =>
    intro x2 s w hf K
    rw [fX12_copies_16_3_L2] at hf
    refine o_iload_n (pc := 2) dX12_copies_2 rfl ?_
    refine o_aload_n (pc := 3) dX12_copies_3 rfl ?_
    refine m_alen (pc := 4) 5 (by decide) (by decide) rfl rfl dX12_copies_4 ?_
    refine o_icmp_ge (pc := 5) 20 dX12_copies_5 rfl (fun hc => ?_) (fun hc => ?_)
    · have hf := it_t hf hc
      obtain rfl := Option.some.inj hf
      refine o_keep [false, false, false] ?_
      exact K
    · have hf := it_f hf hc
      refine o_aload_n (pc := 8) dX12_copies_8 rfl ?_
      refine o_iload_n (pc := 9) dX12_copies_9 rfl ?_
      refine o_aload_n (pc := 10) dX12_copies_10 rfl ?_
      refine o_iload_n (pc := 11) dX12_copies_11 rfl ?_
      obtain ⟨hk1, hf⟩ := ck_elim hf
      refine m_iald (pc := 12) (by decide) rfl hk1 dX12_copies_12 ?_
      obtain ⟨hk2, hf⟩ := ck_elim hf
      refine m_iast (pc := 13) (by decide) rfl hk2 dX12_copies_13 ?_
      refine lz_s (mW) hf (fun s3 hf => ?_)
      show Rn g mdX12_copies 14 [some (.ref 16), some (.ref 3), some (.int x2)] [] (mW s3) 0 0 r h2
      refine o_iinc (pc := 14) dX12_copies_14 rfl (by decide) rfl ?_
      show Rn g mdX12_copies 17 [some (.ref 16), some (.ref 3), some (.int (x2 + 1))] [] (mW s3) 0 0 r h2
      obtain ⟨v4, ev4, hf⟩ := lt_elim hf
      rw [ev4]
      show Rn g mdX12_copies 17 [some (.ref 16), some (.ref 3), some (.int v4)] [] (mW s3) 0 0 r h2
      refine o_goto (pc := 17) 2 dX12_copies_17 rfl ?_
      exact ih _ _ hf K
set_option maxRecDepth 20000 in
theorem kX12_copies_16_3 {g : GX} {s : ST} {q : ST} (hf : fX12_copies_16_3 s = some q) : Cn g mdX12_copies [.ref 16, .ref 3] (mW s) none (mW q) := by
  refine Cn.of (by decide) (Nat.le_of_ble_eq_true rfl) ?_
  show Rn g mdX12_copies 0 [some (.ref 16), some (.ref 3), none] [] (mW s) 0 0 none (mW q)
  unfold fX12_copies_16_3 at hf
  refine o_iconst (pc := 0) (v := 0) dX12_copies_0 rfl ?_
  refine o_istore_n (pc := 1) dX12_copies_1 (by decide) rfl ?_
  show Rn g mdX12_copies 2 [some (.ref 16), some (.ref 3), some (.int 0)] [] (mW s) 0 0 none (mW q)
  obtain ⟨w5, hl6, hf⟩ := bd_elim hf
  have K7 : Rn g mdX12_copies 20 [none, none, none] [] (mW w5.2) 0 0 none (mW q) := by
    obtain rfl := Option.some.inj hf
    exact o_return (pc := 20) dX12_copies_20 rfl (Nat.zero_le _) (Nat.zero_le _)
  exact kX12_copies_16_3_L2 _ _ _ hl6 K7
def fX12_copies_17_9_L2 : Nat → Int32 → ST → Option (Int32 × ST)
  | 0, _, _ => none
  | n + 1, x2, s => if 8 ≤ x2 then some (x2, s) else ck (inb x2 8) (ck (inb x2 8) (lt (si s 9 (ix x2) (gi s 17 (ix x2))) (fun s3 => lt (x2 + 1) (fun v4 => fX12_copies_17_9_L2 n v4 s3))))
def fX12_copies_17_9 (s : ST) : Option (ST) :=
  (fX12_copies_17_9_L2 FUEL 0 s).bind (fun w5 => some w5.2)
set_option maxRecDepth 20000 in
theorem kX12_copies_17_9_L2 {g : GX} {r : Option Value} {h2 : PH} : ∀ (n : Nat) (x2 : Int32) (s : ST) {w : Int32 × ST}, fX12_copies_17_9_L2 n x2 s = some w → Rn g mdX12_copies 20 [none, none, none] [] (mW w.2) 0 0 r h2 → Rn g mdX12_copies 2 [some (.ref 17), some (.ref 9), some (.int x2)] [] (mW s) 0 0 r h2 := by
  intro n
  induction n with
  | zero => intro x2 s w hf K; cases hf
  | succ n ih =>
    intro x2 s w hf K
    rw [fX12_copies_17_9_L2] at hf
    refine o_iload_n (pc := 2) dX12_copies_2 rfl ?_
    refine o_aload_n (pc := 3) dX12_copies_3 rfl ?_
    refine m_alen (pc := 4) 8 (by decide) (by decide) rfl rfl dX12_copies_4 ?_
    refine o_icmp_ge (pc := 5) 20 dX12_copies_5 rfl (fun hc => ?_) (fun hc => ?_)
    · have hf := it_t hf hc
      obtain rfl := Option.some.inj hf
      refine o_keep [false, false, false] ?_
      exact K
    · have hf := it_f hf hc
      refine o_aload_n (pc := 8) dX12_copies_8 rfl ?_
      refine o_iload_n (pc := 9) dX12_copies_9 rfl ?_
      refine o_aload_n (pc := 10) dX12_copies_10 rfl ?_
      refine o_iload_n (pc := 11) dX12_copies_11 rfl ?_
      obtain ⟨hk1, hf⟩ := ck_elim hf
      refine m_iald (pc := 12) (by decide) rfl hk1 dX12_copies_12 ?_
      obtain ⟨hk2, hf⟩ := ck_elim hf
      refine m_iast (pc := 13) (by decide) rfl hk2 dX12_copies_13 ?_
      refine lz_s (mW) hf (fun s3 hf => ?_)
      show Rn g mdX12_copies 14 [some (.ref 17), some (.ref 9), some (.int x2)] [] (mW s3) 0 0 r h2
      refine o_iinc (pc := 14) dX12_copies_14 rfl (by decide) rfl ?_
      show Rn g mdX12_copies 17 [some (.ref 17), some (.ref 9), some (.int (x2 + 1))] [] (mW s3) 0 0 r h2
      obtain ⟨v4, ev4, hf⟩ := lt_elim hf
      rw [ev4]
      show Rn g mdX12_copies 17 [some (.ref 17), some (.ref 9), some (.int v4)] [] (mW s3) 0 0 r h2
      refine o_goto (pc := 17) 2 dX12_copies_17 rfl ?_
      exact ih _ _ hf K
set_option maxRecDepth 20000 in
theorem kX12_copies_17_9 {g : GX} {s : ST} {q : ST} (hf : fX12_copies_17_9 s = some q) : Cn g mdX12_copies [.ref 17, .ref 9] (mW s) none (mW q) := by
  refine Cn.of (by decide) (Nat.le_of_ble_eq_true rfl) ?_
  show Rn g mdX12_copies 0 [some (.ref 17), some (.ref 9), none] [] (mW s) 0 0 none (mW q)
  unfold fX12_copies_17_9 at hf
  refine o_iconst (pc := 0) (v := 0) dX12_copies_0 rfl ?_
  refine o_istore_n (pc := 1) dX12_copies_1 (by decide) rfl ?_
  show Rn g mdX12_copies 2 [some (.ref 17), some (.ref 9), some (.int 0)] [] (mW s) 0 0 none (mW q)
  obtain ⟨w5, hl6, hf⟩ := bd_elim hf
  have K7 : Rn g mdX12_copies 20 [none, none, none] [] (mW w5.2) 0 0 none (mW q) := by
    obtain rfl := Option.some.inj hf
    exact o_return (pc := 20) dX12_copies_20 rfl (Nat.zero_le _) (Nat.zero_le _)
  exact kX12_copies_17_9_L2 _ _ _ hl6 K7
def fX12_copies_20_2_L2 : Nat → Int32 → ST → Option (Int32 × ST)
  | 0, _, _ => none
  | n + 1, x2, s => if 5 ≤ x2 then some (x2, s) else ck (inb x2 5) (ck (inb x2 5) (lt (si s 2 (ix x2) (gi s 20 (ix x2))) (fun s3 => lt (x2 + 1) (fun v4 => fX12_copies_20_2_L2 n v4 s3))))
def fX12_copies_20_2 (s : ST) : Option (ST) :=
  (fX12_copies_20_2_L2 FUEL 0 s).bind (fun w5 => some w5.2)
set_option maxRecDepth 20000 in
theorem kX12_copies_20_2_L2 {g : GX} {r : Option Value} {h2 : PH} : ∀ (n : Nat) (x2 : Int32) (s : ST) {w : Int32 × ST}, fX12_copies_20_2_L2 n x2 s = some w → Rn g mdX12_copies 20 [none, none, none] [] (mW w.2) 0 0 r h2 → Rn g mdX12_copies 2 [some (.ref 20), some (.ref 2), some (.int x2)] [] (mW s) 0 0 r h2 := by
  intro n
  induction n with
  | zero => intro x2 s w hf K; cases hf
  | succ n ih =>
    intro x2 s w hf K
    rw [fX12_copies_20_2_L2] at hf
    refine o_iload_n (pc := 2) dX12_copies_2 rfl ?_
    refine o_aload_n (pc := 3) dX12_copies_3 rfl ?_
    refine m_alen (pc := 4) 5 (by decide) (by decide) rfl rfl dX12_copies_4 ?_
    refine o_icmp_ge (pc := 5) 20 dX12_copies_5 rfl (fun hc => ?_) (fun hc => ?_)
    · have hf := it_t hf hc
      obtain rfl := Option.some.inj hf
      refine o_keep [false, false, false] ?_
      exact K
    · have hf := it_f hf hc
      refine o_aload_n (pc := 8) dX12_copies_8 rfl ?_
      refine o_iload_n (pc := 9) dX12_copies_9 rfl ?_
      refine o_aload_n (pc := 10) dX12_copies_10 rfl ?_
      refine o_iload_n (pc := 11) dX12_copies_11 rfl ?_
      obtain ⟨hk1, hf⟩ := ck_elim hf
      refine m_iald (pc := 12) (by decide) rfl hk1 dX12_copies_12 ?_
      obtain ⟨hk2, hf⟩ := ck_elim hf
      refine m_iast (pc := 13) (by decide) rfl hk2 dX12_copies_13 ?_
      refine lz_s (mW) hf (fun s3 hf => ?_)
      show Rn g mdX12_copies 14 [some (.ref 20), some (.ref 2), some (.int x2)] [] (mW s3) 0 0 r h2
      refine o_iinc (pc := 14) dX12_copies_14 rfl (by decide) rfl ?_
      show Rn g mdX12_copies 17 [some (.ref 20), some (.ref 2), some (.int (x2 + 1))] [] (mW s3) 0 0 r h2
      obtain ⟨v4, ev4, hf⟩ := lt_elim hf
      rw [ev4]
      show Rn g mdX12_copies 17 [some (.ref 20), some (.ref 2), some (.int v4)] [] (mW s3) 0 0 r h2
      refine o_goto (pc := 17) 2 dX12_copies_17 rfl ?_
      exact ih _ _ hf K
set_option maxRecDepth 20000 in
theorem kX12_copies_20_2 {g : GX} {s : ST} {q : ST} (hf : fX12_copies_20_2 s = some q) : Cn g mdX12_copies [.ref 20, .ref 2] (mW s) none (mW q) := by
  refine Cn.of (by decide) (Nat.le_of_ble_eq_true rfl) ?_
  show Rn g mdX12_copies 0 [some (.ref 20), some (.ref 2), none] [] (mW s) 0 0 none (mW q)
  unfold fX12_copies_20_2 at hf
  refine o_iconst (pc := 0) (v := 0) dX12_copies_0 rfl ?_
  refine o_istore_n (pc := 1) dX12_copies_1 (by decide) rfl ?_
  show Rn g mdX12_copies 2 [some (.ref 20), some (.ref 2), some (.int 0)] [] (mW s) 0 0 none (mW q)
  obtain ⟨w5, hl6, hf⟩ := bd_elim hf
  have K7 : Rn g mdX12_copies 20 [none, none, none] [] (mW w5.2) 0 0 none (mW q) := by
    obtain rfl := Option.some.inj hf
    exact o_return (pc := 20) dX12_copies_20 rfl (Nat.zero_le _) (Nat.zero_le _)
  exact kX12_copies_20_2_L2 _ _ _ hl6 K7
def fX12_copies_21_16_L2 : Nat → Int32 → ST → Option (Int32 × ST)
  | 0, _, _ => none
  | n + 1, x2, s => if 5 ≤ x2 then some (x2, s) else ck (inb x2 5) (ck (inb x2 5) (lt (si s 16 (ix x2) (gi s 21 (ix x2))) (fun s3 => lt (x2 + 1) (fun v4 => fX12_copies_21_16_L2 n v4 s3))))
def fX12_copies_21_16 (s : ST) : Option (ST) :=
  (fX12_copies_21_16_L2 FUEL 0 s).bind (fun w5 => some w5.2)
set_option maxRecDepth 20000 in
theorem kX12_copies_21_16_L2 {g : GX} {r : Option Value} {h2 : PH} : ∀ (n : Nat) (x2 : Int32) (s : ST) {w : Int32 × ST}, fX12_copies_21_16_L2 n x2 s = some w → Rn g mdX12_copies 20 [none, none, none] [] (mW w.2) 0 0 r h2 → Rn g mdX12_copies 2 [some (.ref 21), some (.ref 16), some (.int x2)] [] (mW s) 0 0 r h2 := by
  intro n
  induction n with
  | zero => intro x2 s w hf K; cases hf
  | succ n ih =>
    intro x2 s w hf K
    rw [fX12_copies_21_16_L2] at hf
    refine o_iload_n (pc := 2) dX12_copies_2 rfl ?_
    refine o_aload_n (pc := 3) dX12_copies_3 rfl ?_
    refine m_alen (pc := 4) 5 (by decide) (by decide) rfl rfl dX12_copies_4 ?_
    refine o_icmp_ge (pc := 5) 20 dX12_copies_5 rfl (fun hc => ?_) (fun hc => ?_)
    · have hf := it_t hf hc
      obtain rfl := Option.some.inj hf
      refine o_keep [false, false, false] ?_
      exact K
    · have hf := it_f hf hc
      refine o_aload_n (pc := 8) dX12_copies_8 rfl ?_
      refine o_iload_n (pc := 9) dX12_copies_9 rfl ?_
      refine o_aload_n (pc := 10) dX12_copies_10 rfl ?_
      refine o_iload_n (pc := 11) dX12_copies_11 rfl ?_
      obtain ⟨hk1, hf⟩ := ck_elim hf
      refine m_iald (pc := 12) (by decide) rfl hk1 dX12_copies_12 ?_
      obtain ⟨hk2, hf⟩ := ck_elim hf
      refine m_iast (pc := 13) (by decide) rfl hk2 dX12_copies_13 ?_
      refine lz_s (mW) hf (fun s3 hf => ?_)
      show Rn g mdX12_copies 14 [some (.ref 21), some (.ref 16), some (.int x2)] [] (mW s3) 0 0 r h2
      refine o_iinc (pc := 14) dX12_copies_14 rfl (by decide) rfl ?_
      show Rn g mdX12_copies 17 [some (.ref 21), some (.ref 16), some (.int (x2 + 1))] [] (mW s3) 0 0 r h2
      obtain ⟨v4, ev4, hf⟩ := lt_elim hf
      rw [ev4]
      show Rn g mdX12_copies 17 [some (.ref 21), some (.ref 16), some (.int v4)] [] (mW s3) 0 0 r h2
      refine o_goto (pc := 17) 2 dX12_copies_17 rfl ?_
      exact ih _ _ hf K
set_option maxRecDepth 20000 in
theorem kX12_copies_21_16 {g : GX} {s : ST} {q : ST} (hf : fX12_copies_21_16 s = some q) : Cn g mdX12_copies [.ref 21, .ref 16] (mW s) none (mW q) := by
  refine Cn.of (by decide) (Nat.le_of_ble_eq_true rfl) ?_
  show Rn g mdX12_copies 0 [some (.ref 21), some (.ref 16), none] [] (mW s) 0 0 none (mW q)
  unfold fX12_copies_21_16 at hf
  refine o_iconst (pc := 0) (v := 0) dX12_copies_0 rfl ?_
  refine o_istore_n (pc := 1) dX12_copies_1 (by decide) rfl ?_
  show Rn g mdX12_copies 2 [some (.ref 21), some (.ref 16), some (.int 0)] [] (mW s) 0 0 none (mW q)
  obtain ⟨w5, hl6, hf⟩ := bd_elim hf
  have K7 : Rn g mdX12_copies 20 [none, none, none] [] (mW w5.2) 0 0 none (mW q) := by
    obtain rfl := Option.some.inj hf
    exact o_return (pc := 20) dX12_copies_20 rfl (Nat.zero_le _) (Nat.zero_le _)
  exact kX12_copies_21_16_L2 _ _ _ hl6 K7
def fX12_copies_22_7_L2 : Nat → Int32 → ST → Option (Int32 × ST)
  | 0, _, _ => none
  | n + 1, x2, s => if 8 ≤ x2 then some (x2, s) else ck (inb x2 8) (ck (inb x2 8) (lt (si s 7 (ix x2) (gi s 22 (ix x2))) (fun s3 => lt (x2 + 1) (fun v4 => fX12_copies_22_7_L2 n v4 s3))))
def fX12_copies_22_7 (s : ST) : Option (ST) :=
  (fX12_copies_22_7_L2 FUEL 0 s).bind (fun w5 => some w5.2)
set_option maxRecDepth 20000 in
theorem kX12_copies_22_7_L2 {g : GX} {r : Option Value} {h2 : PH} : ∀ (n : Nat) (x2 : Int32) (s : ST) {w : Int32 × ST}, fX12_copies_22_7_L2 n x2 s = some w → Rn g mdX12_copies 20 [none, none, none] [] (mW w.2) 0 0 r h2 → Rn g mdX12_copies 2 [some (.ref 22), some (.ref 7), some (.int x2)] [] (mW s) 0 0 r h2 := by
  intro n
  induction n with
  | zero => intro x2 s w hf K; cases hf
  | succ n ih =>
    intro x2 s w hf K
    rw [fX12_copies_22_7_L2] at hf
    refine o_iload_n (pc := 2) dX12_copies_2 rfl ?_
    refine o_aload_n (pc := 3) dX12_copies_3 rfl ?_
    refine m_alen (pc := 4) 8 (by decide) (by decide) rfl rfl dX12_copies_4 ?_
    refine o_icmp_ge (pc := 5) 20 dX12_copies_5 rfl (fun hc => ?_) (fun hc => ?_)
    · have hf := it_t hf hc
      obtain rfl := Option.some.inj hf
      refine o_keep [false, false, false] ?_
      exact K
    · have hf := it_f hf hc
      refine o_aload_n (pc := 8) dX12_copies_8 rfl ?_
      refine o_iload_n (pc := 9) dX12_copies_9 rfl ?_
      refine o_aload_n (pc := 10) dX12_copies_10 rfl ?_
      refine o_iload_n (pc := 11) dX12_copies_11 rfl ?_
      obtain ⟨hk1, hf⟩ := ck_elim hf
      refine m_iald (pc := 12) (by decide) rfl hk1 dX12_copies_12 ?_
      obtain ⟨hk2, hf⟩ := ck_elim hf
      refine m_iast (pc := 13) (by decide) rfl hk2 dX12_copies_13 ?_
      refine lz_s (mW) hf (fun s3 hf => ?_)
      show Rn g mdX12_copies 14 [some (.ref 22), some (.ref 7), some (.int x2)] [] (mW s3) 0 0 r h2
      refine o_iinc (pc := 14) dX12_copies_14 rfl (by decide) rfl ?_
      show Rn g mdX12_copies 17 [some (.ref 22), some (.ref 7), some (.int (x2 + 1))] [] (mW s3) 0 0 r h2
      obtain ⟨v4, ev4, hf⟩ := lt_elim hf
      rw [ev4]
      show Rn g mdX12_copies 17 [some (.ref 22), some (.ref 7), some (.int v4)] [] (mW s3) 0 0 r h2
      refine o_goto (pc := 17) 2 dX12_copies_17 rfl ?_
      exact ih _ _ hf K
set_option maxRecDepth 20000 in
theorem kX12_copies_22_7 {g : GX} {s : ST} {q : ST} (hf : fX12_copies_22_7 s = some q) : Cn g mdX12_copies [.ref 22, .ref 7] (mW s) none (mW q) := by
  refine Cn.of (by decide) (Nat.le_of_ble_eq_true rfl) ?_
  show Rn g mdX12_copies 0 [some (.ref 22), some (.ref 7), none] [] (mW s) 0 0 none (mW q)
  unfold fX12_copies_22_7 at hf
  refine o_iconst (pc := 0) (v := 0) dX12_copies_0 rfl ?_
  refine o_istore_n (pc := 1) dX12_copies_1 (by decide) rfl ?_
  show Rn g mdX12_copies 2 [some (.ref 22), some (.ref 7), some (.int 0)] [] (mW s) 0 0 none (mW q)
  obtain ⟨w5, hl6, hf⟩ := bd_elim hf
  have K7 : Rn g mdX12_copies 20 [none, none, none] [] (mW w5.2) 0 0 none (mW q) := by
    obtain rfl := Option.some.inj hf
    exact o_return (pc := 20) dX12_copies_20 rfl (Nat.zero_le _) (Nat.zero_le _)
  exact kX12_copies_22_7_L2 _ _ _ hl6 K7
def fX12_copies_23_8_L2 : Nat → Int32 → ST → Option (Int32 × ST)
  | 0, _, _ => none
  | n + 1, x2, s => if 8 ≤ x2 then some (x2, s) else ck (inb x2 8) (ck (inb x2 8) (lt (si s 8 (ix x2) (gi s 23 (ix x2))) (fun s3 => lt (x2 + 1) (fun v4 => fX12_copies_23_8_L2 n v4 s3))))
def fX12_copies_23_8 (s : ST) : Option (ST) :=
  (fX12_copies_23_8_L2 FUEL 0 s).bind (fun w5 => some w5.2)
set_option maxRecDepth 20000 in
theorem kX12_copies_23_8_L2 {g : GX} {r : Option Value} {h2 : PH} : ∀ (n : Nat) (x2 : Int32) (s : ST) {w : Int32 × ST}, fX12_copies_23_8_L2 n x2 s = some w → Rn g mdX12_copies 20 [none, none, none] [] (mW w.2) 0 0 r h2 → Rn g mdX12_copies 2 [some (.ref 23), some (.ref 8), some (.int x2)] [] (mW s) 0 0 r h2 := by
  intro n
  induction n with
  | zero => intro x2 s w hf K; cases hf
  | succ n ih =>
    intro x2 s w hf K
    rw [fX12_copies_23_8_L2] at hf
    refine o_iload_n (pc := 2) dX12_copies_2 rfl ?_
    refine o_aload_n (pc := 3) dX12_copies_3 rfl ?_
    refine m_alen (pc := 4) 8 (by decide) (by decide) rfl rfl dX12_copies_4 ?_
    refine o_icmp_ge (pc := 5) 20 dX12_copies_5 rfl (fun hc => ?_) (fun hc => ?_)
    · have hf := it_t hf hc
      obtain rfl := Option.some.inj hf
      refine o_keep [false, false, false] ?_
      exact K
    · have hf := it_f hf hc
      refine o_aload_n (pc := 8) dX12_copies_8 rfl ?_
      refine o_iload_n (pc := 9) dX12_copies_9 rfl ?_
      refine o_aload_n (pc := 10) dX12_copies_10 rfl ?_
      refine o_iload_n (pc := 11) dX12_copies_11 rfl ?_
      obtain ⟨hk1, hf⟩ := ck_elim hf
      refine m_iald (pc := 12) (by decide) rfl hk1 dX12_copies_12 ?_
      obtain ⟨hk2, hf⟩ := ck_elim hf
      refine m_iast (pc := 13) (by decide) rfl hk2 dX12_copies_13 ?_
      refine lz_s (mW) hf (fun s3 hf => ?_)
      show Rn g mdX12_copies 14 [some (.ref 23), some (.ref 8), some (.int x2)] [] (mW s3) 0 0 r h2
      refine o_iinc (pc := 14) dX12_copies_14 rfl (by decide) rfl ?_
      show Rn g mdX12_copies 17 [some (.ref 23), some (.ref 8), some (.int (x2 + 1))] [] (mW s3) 0 0 r h2
      obtain ⟨v4, ev4, hf⟩ := lt_elim hf
      rw [ev4]
      show Rn g mdX12_copies 17 [some (.ref 23), some (.ref 8), some (.int v4)] [] (mW s3) 0 0 r h2
      refine o_goto (pc := 17) 2 dX12_copies_17 rfl ?_
      exact ih _ _ hf K
set_option maxRecDepth 20000 in
theorem kX12_copies_23_8 {g : GX} {s : ST} {q : ST} (hf : fX12_copies_23_8 s = some q) : Cn g mdX12_copies [.ref 23, .ref 8] (mW s) none (mW q) := by
  refine Cn.of (by decide) (Nat.le_of_ble_eq_true rfl) ?_
  show Rn g mdX12_copies 0 [some (.ref 23), some (.ref 8), none] [] (mW s) 0 0 none (mW q)
  unfold fX12_copies_23_8 at hf
  refine o_iconst (pc := 0) (v := 0) dX12_copies_0 rfl ?_
  refine o_istore_n (pc := 1) dX12_copies_1 (by decide) rfl ?_
  show Rn g mdX12_copies 2 [some (.ref 23), some (.ref 8), some (.int 0)] [] (mW s) 0 0 none (mW q)
  obtain ⟨w5, hl6, hf⟩ := bd_elim hf
  have K7 : Rn g mdX12_copies 20 [none, none, none] [] (mW w5.2) 0 0 none (mW q) := by
    obtain rfl := Option.some.inj hf
    exact o_return (pc := 20) dX12_copies_20 rfl (Nat.zero_le _) (Nat.zero_le _)
  exact kX12_copies_23_8_L2 _ _ _ hl6 K7
def fX12_copies_24_17_L2 : Nat → Int32 → ST → Option (Int32 × ST)
  | 0, _, _ => none
  | n + 1, x2, s => if 8 ≤ x2 then some (x2, s) else ck (inb x2 8) (ck (inb x2 8) (lt (si s 17 (ix x2) (gi s 24 (ix x2))) (fun s3 => lt (x2 + 1) (fun v4 => fX12_copies_24_17_L2 n v4 s3))))
def fX12_copies_24_17 (s : ST) : Option (ST) :=
  (fX12_copies_24_17_L2 FUEL 0 s).bind (fun w5 => some w5.2)
set_option maxRecDepth 20000 in
theorem kX12_copies_24_17_L2 {g : GX} {r : Option Value} {h2 : PH} : ∀ (n : Nat) (x2 : Int32) (s : ST) {w : Int32 × ST}, fX12_copies_24_17_L2 n x2 s = some w → Rn g mdX12_copies 20 [none, none, none] [] (mW w.2) 0 0 r h2 → Rn g mdX12_copies 2 [some (.ref 24), some (.ref 17), some (.int x2)] [] (mW s) 0 0 r h2 := by
  intro n
  induction n with
  | zero => intro x2 s w hf K; cases hf
  | succ n ih =>
    intro x2 s w hf K
    rw [fX12_copies_24_17_L2] at hf
    refine o_iload_n (pc := 2) dX12_copies_2 rfl ?_
    refine o_aload_n (pc := 3) dX12_copies_3 rfl ?_
    refine m_alen (pc := 4) 8 (by decide) (by decide) rfl rfl dX12_copies_4 ?_
    refine o_icmp_ge (pc := 5) 20 dX12_copies_5 rfl (fun hc => ?_) (fun hc => ?_)
    · have hf := it_t hf hc
      obtain rfl := Option.some.inj hf
      refine o_keep [false, false, false] ?_
      exact K
    · have hf := it_f hf hc
      refine o_aload_n (pc := 8) dX12_copies_8 rfl ?_
      refine o_iload_n (pc := 9) dX12_copies_9 rfl ?_
      refine o_aload_n (pc := 10) dX12_copies_10 rfl ?_
      refine o_iload_n (pc := 11) dX12_copies_11 rfl ?_
      obtain ⟨hk1, hf⟩ := ck_elim hf
      refine m_iald (pc := 12) (by decide) rfl hk1 dX12_copies_12 ?_
      obtain ⟨hk2, hf⟩ := ck_elim hf
      refine m_iast (pc := 13) (by decide) rfl hk2 dX12_copies_13 ?_
      refine lz_s (mW) hf (fun s3 hf => ?_)
      show Rn g mdX12_copies 14 [some (.ref 24), some (.ref 17), some (.int x2)] [] (mW s3) 0 0 r h2
      refine o_iinc (pc := 14) dX12_copies_14 rfl (by decide) rfl ?_
      show Rn g mdX12_copies 17 [some (.ref 24), some (.ref 17), some (.int (x2 + 1))] [] (mW s3) 0 0 r h2
      obtain ⟨v4, ev4, hf⟩ := lt_elim hf
      rw [ev4]
      show Rn g mdX12_copies 17 [some (.ref 24), some (.ref 17), some (.int v4)] [] (mW s3) 0 0 r h2
      refine o_goto (pc := 17) 2 dX12_copies_17 rfl ?_
      exact ih _ _ hf K
set_option maxRecDepth 20000 in
theorem kX12_copies_24_17 {g : GX} {s : ST} {q : ST} (hf : fX12_copies_24_17 s = some q) : Cn g mdX12_copies [.ref 24, .ref 17] (mW s) none (mW q) := by
  refine Cn.of (by decide) (Nat.le_of_ble_eq_true rfl) ?_
  show Rn g mdX12_copies 0 [some (.ref 24), some (.ref 17), none] [] (mW s) 0 0 none (mW q)
  unfold fX12_copies_24_17 at hf
  refine o_iconst (pc := 0) (v := 0) dX12_copies_0 rfl ?_
  refine o_istore_n (pc := 1) dX12_copies_1 (by decide) rfl ?_
  show Rn g mdX12_copies 2 [some (.ref 24), some (.ref 17), some (.int 0)] [] (mW s) 0 0 none (mW q)
  obtain ⟨w5, hl6, hf⟩ := bd_elim hf
  have K7 : Rn g mdX12_copies 20 [none, none, none] [] (mW w5.2) 0 0 none (mW q) := by
    obtain rfl := Option.some.inj hf
    exact o_return (pc := 20) dX12_copies_20 rfl (Nat.zero_le _) (Nat.zero_le _)
  exact kX12_copies_24_17_L2 _ _ _ hl6 K7
def fX12_copies_25_10_L2 : Nat → Int32 → ST → Option (Int32 × ST)
  | 0, _, _ => none
  | n + 1, x2, s => if 8 ≤ x2 then some (x2, s) else ck (inb x2 8) (ck (inb x2 8) (lt (si s 10 (ix x2) (gi s 25 (ix x2))) (fun s3 => lt (x2 + 1) (fun v4 => fX12_copies_25_10_L2 n v4 s3))))
def fX12_copies_25_10 (s : ST) : Option (ST) :=
  (fX12_copies_25_10_L2 FUEL 0 s).bind (fun w5 => some w5.2)
set_option maxRecDepth 20000 in
theorem kX12_copies_25_10_L2 {g : GX} {r : Option Value} {h2 : PH} : ∀ (n : Nat) (x2 : Int32) (s : ST) {w : Int32 × ST}, fX12_copies_25_10_L2 n x2 s = some w → Rn g mdX12_copies 20 [none, none, none] [] (mW w.2) 0 0 r h2 → Rn g mdX12_copies 2 [some (.ref 25), some (.ref 10), some (.int x2)] [] (mW s) 0 0 r h2 := by
  intro n
  induction n with
  | zero => intro x2 s w hf K; cases hf
  | succ n ih =>
    intro x2 s w hf K
    rw [fX12_copies_25_10_L2] at hf
    refine o_iload_n (pc := 2) dX12_copies_2 rfl ?_
    refine o_aload_n (pc := 3) dX12_copies_3 rfl ?_
    refine m_alen (pc := 4) 8 (by decide) (by decide) rfl rfl dX12_copies_4 ?_
    refine o_icmp_ge (pc := 5) 20 dX12_copies_5 rfl (fun hc => ?_) (fun hc => ?_)
    · have hf := it_t hf hc
      obtain rfl := Option.some.inj hf
      refine o_keep [false, false, false] ?_
      exact K
    · have hf := it_f hf hc
      refine o_aload_n (pc := 8) dX12_copies_8 rfl ?_
      refine o_iload_n (pc := 9) dX12_copies_9 rfl ?_
      refine o_aload_n (pc := 10) dX12_copies_10 rfl ?_
      refine o_iload_n (pc := 11) dX12_copies_11 rfl ?_
      obtain ⟨hk1, hf⟩ := ck_elim hf
      refine m_iald (pc := 12) (by decide) rfl hk1 dX12_copies_12 ?_
      obtain ⟨hk2, hf⟩ := ck_elim hf
      refine m_iast (pc := 13) (by decide) rfl hk2 dX12_copies_13 ?_
      refine lz_s (mW) hf (fun s3 hf => ?_)
      show Rn g mdX12_copies 14 [some (.ref 25), some (.ref 10), some (.int x2)] [] (mW s3) 0 0 r h2
      refine o_iinc (pc := 14) dX12_copies_14 rfl (by decide) rfl ?_
      show Rn g mdX12_copies 17 [some (.ref 25), some (.ref 10), some (.int (x2 + 1))] [] (mW s3) 0 0 r h2
      obtain ⟨v4, ev4, hf⟩ := lt_elim hf
      rw [ev4]
      show Rn g mdX12_copies 17 [some (.ref 25), some (.ref 10), some (.int v4)] [] (mW s3) 0 0 r h2
      refine o_goto (pc := 17) 2 dX12_copies_17 rfl ?_
      exact ih _ _ hf K
set_option maxRecDepth 20000 in
theorem kX12_copies_25_10 {g : GX} {s : ST} {q : ST} (hf : fX12_copies_25_10 s = some q) : Cn g mdX12_copies [.ref 25, .ref 10] (mW s) none (mW q) := by
  refine Cn.of (by decide) (Nat.le_of_ble_eq_true rfl) ?_
  show Rn g mdX12_copies 0 [some (.ref 25), some (.ref 10), none] [] (mW s) 0 0 none (mW q)
  unfold fX12_copies_25_10 at hf
  refine o_iconst (pc := 0) (v := 0) dX12_copies_0 rfl ?_
  refine o_istore_n (pc := 1) dX12_copies_1 (by decide) rfl ?_
  show Rn g mdX12_copies 2 [some (.ref 25), some (.ref 10), some (.int 0)] [] (mW s) 0 0 none (mW q)
  obtain ⟨w5, hl6, hf⟩ := bd_elim hf
  have K7 : Rn g mdX12_copies 20 [none, none, none] [] (mW w5.2) 0 0 none (mW q) := by
    obtain rfl := Option.some.inj hf
    exact o_return (pc := 20) dX12_copies_20 rfl (Nat.zero_le _) (Nat.zero_le _)
  exact kX12_copies_25_10_L2 _ _ _ hl6 K7
def fX12_goesOn (s : ST) : Option (Int32 × ST) :=
  (fX12_blanks s).bind (fun q2 => (if (gi q2 0 28) = 0 then if (gi q2 0 26) ≤ (gi q2 0 27) then some false else (fX12_sign q2).bind (fun q7 => if q7 = 59 then some false else some true) else some false : Option Bool).bind (fun b3 => (if b3 = true then (fX12_fails 0 (gi q2 0 27) q2).bind (fun q12 => some q12) else some q2 : Option (ST)).bind (fun w8 => (if (gi w8 0 28) = 0 then if (gi w8 0 26) ≤ (gi w8 0 27) then some false else some true else some false : Option Bool).bind (fun b13 => (if b13 = true then some 1 else some 0 : Option (Int32)).bind (fun w16 => lt (si w8 0 27 ((gi w8 0 27) + 1)) (fun s19 => ck (bz w16) (some (w16, s19))))))))
set_option maxRecDepth 20000 in
theorem kX12_goesOn {g : GX} {s : ST} {q : Int32 × ST} (hf : fX12_goesOn s = some q) : Cn g mdX12_goesOn [.ref 0] (mW s) (some (.int q.1)) (mW q.2) := by
  refine Cn.of (by decide) (Nat.le_of_ble_eq_true rfl) ?_
  show Rn g mdX12_goesOn 0 [some (.ref 0), none] [] (mW s) 0 0 (some (.int q.1)) (mW q.2)
  unfold fX12_goesOn at hf
  refine o_aload_n (pc := 0) dX12_goesOn_0 rfl ?_
  obtain ⟨q2, hk1, hf⟩ := bd_elim hf
  refine m_callV (pc := 1) [] dX12_goesOn_1 (kX12_blanks hk1) stX12_246 ⟨by decide, by decide, by decide, by decide⟩ ⟨rfl, rfl⟩ (Nat.le_of_ble_eq_true rfl) ?_
  show Rn g mdX12_goesOn 4 [some (.ref 0), none] [] (mW q2) 0 0 (some (.int q.1)) (mW q.2)
  refine o_aload_n (pc := 4) dX12_goesOn_4 rfl ?_
  refine m_getI (pc := 5) 28 (by decide) rfl lkX12_224 dX12_goesOn_5 ?_
  obtain ⟨b3, hr4, hf⟩ := bd_elim hf
  obtain ⟨w8, hr9, hf⟩ := bd_elim hf
  have K10 : Rn g mdX12_goesOn 40 [some (.ref 0), none] [] (mW w8) 0 0 (some (.int q.1)) (mW q.2) := by
    refine o_aload_n (pc := 40) dX12_goesOn_40 rfl ?_
    refine m_getI (pc := 41) 28 (by decide) rfl lkX12_224 dX12_goesOn_41 ?_
    obtain ⟨b13, hr14, hf⟩ := bd_elim hf
    obtain ⟨w16, hr17, hf⟩ := bd_elim hf
    have K18 : Rn g mdX12_goesOn 63 [some (.ref 0), none] [.int w16] (mW w8) 0 0 (some (.int q.1)) (mW q.2) := by
      refine o_istore_n (pc := 63) dX12_goesOn_63 (by decide) rfl ?_
      show Rn g mdX12_goesOn 64 [some (.ref 0), some (.int w16)] [] (mW w8) 0 0 (some (.int q.1)) (mW q.2)
      refine o_aload_n (pc := 64) dX12_goesOn_64 rfl ?_
      refine o_dup (pc := 65) dX12_goesOn_65 rfl ?_
      refine m_getI (pc := 66) 27 (by decide) rfl lkX12_227 dX12_goesOn_66 ?_
      refine o_iconst (pc := 69) (v := 1) dX12_goesOn_69 rfl ?_
      refine o_iadd (pc := 70) dX12_goesOn_70 ?_
      refine m_putI (pc := 71) 27 (by decide) rfl rfl lkX12_227 ⟨rfl, rfl⟩ dX12_goesOn_71 ?_
      refine lz_s (mW) hf (fun s19 hf => ?_)
      show Rn g mdX12_goesOn 74 [some (.ref 0), some (.int w16)] [] (mW s19) 0 0 (some (.int q.1)) (mW q.2)
      refine o_iload_n (pc := 74) dX12_goesOn_74 rfl ?_
      obtain ⟨hk20, hf⟩ := ck_elim hf
      obtain rfl := Option.some.inj hf
      exact o_zreturn (pc := 75) dX12_goesOn_75 rfl (bz_n hk20).1 (Nat.zero_le _) (Nat.zero_le _)
    clear hf
    have KB15 : (b13 = true → Rn g mdX12_goesOn 58 [some (.ref 0), none] [] (mW w8) 0 0 (some (.int q.1)) (mW q.2)) ∧ (¬ b13 = true → Rn g mdX12_goesOn 62 [some (.ref 0), none] [] (mW w8) 0 0 (some (.int q.1)) (mW q.2)) := by
      refine ⟨fun hc => ?_, fun hc => ?_⟩
      · have hr17 := it_t hr17 hc
        refine o_iconst (pc := 58) (v := 1) dX12_goesOn_58 rfl ?_
        refine o_goto (pc := 59) 63 dX12_goesOn_59 rfl ?_
        obtain rfl := Option.some.inj hr17
        exact K18
      · have hr17 := it_f hr17 hc
        refine o_iconst (pc := 62) (v := 0) dX12_goesOn_62 rfl ?_
        obtain rfl := Option.some.inj hr17
        exact K18
    clear hr17
    refine o_if_ne (pc := 44) 62 dX12_goesOn_44 rfl (fun hc => ?_) (fun hc => ?_)
    · have hr14 := it_f hr14 hc
      obtain rfl := Option.some.inj hr14
      exact KB15.2 (by decide)
    · have hr14 := it_t hr14 hc
      refine o_aload_n (pc := 47) dX12_goesOn_47 rfl ?_
      refine m_getI (pc := 48) 27 (by decide) rfl lkX12_227 dX12_goesOn_48 ?_
      refine o_aload_n (pc := 51) dX12_goesOn_51 rfl ?_
      refine m_getI (pc := 52) 26 (by decide) rfl lkX12_195 dX12_goesOn_52 ?_
      refine o_icmp_ge (pc := 55) 62 dX12_goesOn_55 rfl (fun hc => ?_) (fun hc => ?_)
      · have hr14 := it_t hr14 hc
        obtain rfl := Option.some.inj hr14
        exact KB15.2 (by decide)
      · have hr14 := it_f hr14 hc
        obtain rfl := Option.some.inj hr14
        exact KB15.1 rfl
  clear hf
  have KB5 : (b3 = true → Rn g mdX12_goesOn 31 [some (.ref 0), none] [] (mW q2) 0 0 (some (.int q.1)) (mW q.2)) ∧ (¬ b3 = true → Rn g mdX12_goesOn 40 [some (.ref 0), none] [] (mW q2) 0 0 (some (.int q.1)) (mW q.2)) := by
    refine ⟨fun hc => ?_, fun hc => ?_⟩
    · have hr9 := it_t hr9 hc
      refine o_aload_n (pc := 31) dX12_goesOn_31 rfl ?_
      refine o_iconst (pc := 32) (v := 0) dX12_goesOn_32 rfl ?_
      refine o_aload_n (pc := 33) dX12_goesOn_33 rfl ?_
      refine m_getI (pc := 34) 27 (by decide) rfl lkX12_227 dX12_goesOn_34 ?_
      obtain ⟨q12, hk11, hr9⟩ := bd_elim hr9
      refine m_callV (pc := 37) [.int 0, .int (gi q2 0 27)] dX12_goesOn_37 (kX12_fails hk11) stX12_262 ⟨by decide, by decide, by decide, by decide⟩ ⟨rfl, rfl⟩ (Nat.le_of_ble_eq_true rfl) ?_
      show Rn g mdX12_goesOn 40 [some (.ref 0), none] [] (mW q12) 0 0 (some (.int q.1)) (mW q.2)
      obtain rfl := Option.some.inj hr9
      exact K10
    · have hr9 := it_f hr9 hc
      obtain rfl := Option.some.inj hr9
      exact K10
  clear hr9
  refine o_if_ne (pc := 8) 40 dX12_goesOn_8 rfl (fun hc => ?_) (fun hc => ?_)
  · have hr4 := it_f hr4 hc
    obtain rfl := Option.some.inj hr4
    exact KB5.2 (by decide)
  · have hr4 := it_t hr4 hc
    refine o_aload_n (pc := 11) dX12_goesOn_11 rfl ?_
    refine m_getI (pc := 12) 27 (by decide) rfl lkX12_227 dX12_goesOn_12 ?_
    refine o_aload_n (pc := 15) dX12_goesOn_15 rfl ?_
    refine m_getI (pc := 16) 26 (by decide) rfl lkX12_195 dX12_goesOn_16 ?_
    refine o_icmp_ge (pc := 19) 40 dX12_goesOn_19 rfl (fun hc => ?_) (fun hc => ?_)
    · have hr4 := it_t hr4 hc
      obtain rfl := Option.some.inj hr4
      exact KB5.2 (by decide)
    · have hr4 := it_f hr4 hc
      refine o_aload_n (pc := 22) dX12_goesOn_22 rfl ?_
      obtain ⟨q7, hk6, hr4⟩ := bd_elim hr4
      refine m_callV (pc := 23) [] dX12_goesOn_23 (kX12_sign hk6) stX12_230 ⟨by decide, by decide, by decide, by decide⟩ ⟨rfl, rfl⟩ (Nat.le_of_ble_eq_true rfl) ?_
      show Rn g mdX12_goesOn 26 [some (.ref 0), none] [.int q7] (mW q2) 0 0 (some (.int q.1)) (mW q.2)
      refine o_bipush (pc := 26) (v := 59) dX12_goesOn_26 rfl ?_
      refine o_icmp_eq (pc := 28) 40 dX12_goesOn_28 rfl (fun hc => ?_) (fun hc => ?_)
      · have hr4 := it_t hr4 hc
        obtain rfl := Option.some.inj hr4
        exact KB5.2 (by decide)
      · have hr4 := it_f hr4 hc
        obtain rfl := Option.some.inj hr4
        exact KB5.1 rfl
def fX12_starts (s : ST) : Option (ST) :=
  lt (si s 0 27 0) (fun s1 => lt (si s1 0 28 0) (fun s2 => lt (si s2 0 31 0) (fun s3 => lt (si s3 0 32 0) (fun s4 => lt (si s4 0 33 0) (fun s5 => some s5)))))
set_option maxRecDepth 20000 in
theorem kX12_starts {g : GX} {s : ST} {q : ST} (hf : fX12_starts s = some q) : Cn g mdX12_starts [.ref 0] (mW s) none (mW q) := by
  refine Cn.of (by decide) (Nat.le_of_ble_eq_true rfl) ?_
  show Rn g mdX12_starts 0 [some (.ref 0)] [] (mW s) 0 0 none (mW q)
  unfold fX12_starts at hf
  refine o_aload_n (pc := 0) dX12_starts_0 rfl ?_
  refine o_iconst (pc := 1) (v := 0) dX12_starts_1 rfl ?_
  refine m_putI (pc := 2) 27 (by decide) rfl rfl lkX12_227 ⟨rfl, rfl⟩ dX12_starts_2 ?_
  refine lz_s (mW) hf (fun s1 hf => ?_)
  show Rn g mdX12_starts 5 [some (.ref 0)] [] (mW s1) 0 0 none (mW q)
  refine o_aload_n (pc := 5) dX12_starts_5 rfl ?_
  refine o_iconst (pc := 6) (v := 0) dX12_starts_6 rfl ?_
  refine m_putI (pc := 7) 28 (by decide) rfl rfl lkX12_224 ⟨rfl, rfl⟩ dX12_starts_7 ?_
  refine lz_s (mW) hf (fun s2 hf => ?_)
  show Rn g mdX12_starts 10 [some (.ref 0)] [] (mW s2) 0 0 none (mW q)
  refine o_aload_n (pc := 10) dX12_starts_10 rfl ?_
  refine o_iconst (pc := 11) (v := 0) dX12_starts_11 rfl ?_
  refine m_putI (pc := 12) 31 (by decide) rfl rfl lkX12_256 ⟨rfl, rfl⟩ dX12_starts_12 ?_
  refine lz_s (mW) hf (fun s3 hf => ?_)
  show Rn g mdX12_starts 15 [some (.ref 0)] [] (mW s3) 0 0 none (mW q)
  refine o_aload_n (pc := 15) dX12_starts_15 rfl ?_
  refine o_iconst (pc := 16) (v := 0) dX12_starts_16 rfl ?_
  refine m_putI (pc := 17) 32 (by decide) rfl rfl lkX12_297 ⟨rfl, rfl⟩ dX12_starts_17 ?_
  refine lz_s (mW) hf (fun s4 hf => ?_)
  show Rn g mdX12_starts 20 [some (.ref 0)] [] (mW s4) 0 0 none (mW q)
  refine o_aload_n (pc := 20) dX12_starts_20 rfl ?_
  refine o_iconst (pc := 21) (v := 0) dX12_starts_21 rfl ?_
  refine m_putI (pc := 22) 33 (by decide) rfl rfl lkX12_259 ⟨rfl, rfl⟩ dX12_starts_22 ?_
  refine lz_s (mW) hf (fun s5 hf => ?_)
  show Rn g mdX12_starts 25 [some (.ref 0)] [] (mW s5) 0 0 none (mW q)
  obtain rfl := Option.some.inj hf
  exact o_return (pc := 25) dX12_starts_25 rfl (Nat.zero_le _) (Nat.zero_le _)
def fX12_readsAll_L6 : Nat → Int32 → ST → Option (Int32 × ST)
  | 0, _, _ => none
  | n + 1, x1, s => if 9 ≤ x1 then some (x1, s) else (if x1 = 5 then some true else if x1 = 6 then some true else some false : Option Bool).bind (fun b3 => (if b3 = true then some 1 else some 0 : Option (Int32)).bind (fun w6 => ck (inb x1 9) (lt (si s 19 (ix x1) w6) (fun s10 => lt (x1 + 1) (fun v11 => fX12_readsAll_L6 n v11 s10)))))
def fX12_readsAll_L44 : Nat → Int32 → Int32 → ST → Option (Int32 × Int32 × ST)
  | 0, _, _, _ => none
  | n + 1, x1, x2, s => if x2 = 0 then some (x1, x2, s) else (fX12_townClause x1 s).bind (fun q16 => lt (x1 + 1) (fun v17 => (fX12_goesOn q16).bind (fun q19 => fX12_readsAll_L44 n v17 q19.1 q19.2)))
def fX12_readsAll (s : ST) : Option (ST) :=
  (fX12_starts s).bind (fun q2 => (fX12_readsAll_L6 FUEL 0 q2).bind (fun w12 => (fX12_readsAll_L44 FUEL 0 1 w12.2).bind (fun w20 => lt (si w20.2.2 0 26 0) (fun s23 => some s23))))
set_option maxRecDepth 20000 in
theorem kX12_readsAll_L6 {g : GX} {r : Option Value} {h2 : PH} : ∀ (n : Nat) (x1 : Int32) (s : ST) {w : Int32 × ST}, fX12_readsAll_L6 n x1 s = some w → Rn g mdX12_readsAll 40 [some (.ref 0), none, none] [] (mW w.2) 0 0 r h2 → Rn g mdX12_readsAll 6 [some (.ref 0), some (.int x1), none] [] (mW s) 0 0 r h2 := by
  intro n
  induction n with
  | zero => intro x1 s w hf K; cases hf
  | succ n ih =>
    intro x1 s w hf K
    rw [fX12_readsAll_L6] at hf
    refine o_iload_n (pc := 6) dX12_readsAll_6 rfl ?_
    refine o_bipush (pc := 7) (v := 9) dX12_readsAll_7 rfl ?_
    refine o_icmp_ge (pc := 9) 40 dX12_readsAll_9 rfl (fun hc => ?_) (fun hc => ?_)
    · have hf := it_t hf hc
      obtain rfl := Option.some.inj hf
      refine o_keep [true, false, false] ?_
      exact K
    · have hf := it_f hf hc
      refine o_aload_n (pc := 12) dX12_readsAll_12 rfl ?_
      refine m_getA (pc := 13) 19 19 (by decide) rfl rfl lkX12_64 dX12_readsAll_13 ?_
      refine o_iload_n (pc := 16) dX12_readsAll_16 rfl ?_
      refine o_iload_n (pc := 17) dX12_readsAll_17 rfl ?_
      refine o_iconst (pc := 18) (v := 5) dX12_readsAll_18 rfl ?_
      obtain ⟨b3, hr4, hf⟩ := bd_elim hf
      obtain ⟨w6, hr7, hf⟩ := bd_elim hf
      have K8 : Rn g mdX12_readsAll 33 [some (.ref 0), some (.int x1), none] [.int w6, .int x1, .ref 19] (mW s) 0 0 r h2 := by
        obtain ⟨hk9, hf⟩ := ck_elim hf
        refine m_iast (pc := 33) (by decide) rfl hk9 dX12_readsAll_33 ?_
        refine lz_s (mW) hf (fun s10 hf => ?_)
        show Rn g mdX12_readsAll 34 [some (.ref 0), some (.int x1), none] [] (mW s10) 0 0 r h2
        refine o_iinc (pc := 34) dX12_readsAll_34 rfl (by decide) rfl ?_
        show Rn g mdX12_readsAll 37 [some (.ref 0), some (.int (x1 + 1)), none] [] (mW s10) 0 0 r h2
        obtain ⟨v11, ev11, hf⟩ := lt_elim hf
        rw [ev11]
        show Rn g mdX12_readsAll 37 [some (.ref 0), some (.int v11), none] [] (mW s10) 0 0 r h2
        refine o_goto (pc := 37) 6 dX12_readsAll_37 rfl ?_
        exact ih _ _ hf K
      clear hf
      have KB5 : (b3 = true → Rn g mdX12_readsAll 28 [some (.ref 0), some (.int x1), none] [.int x1, .ref 19] (mW s) 0 0 r h2) ∧ (¬ b3 = true → Rn g mdX12_readsAll 32 [some (.ref 0), some (.int x1), none] [.int x1, .ref 19] (mW s) 0 0 r h2) := by
        refine ⟨fun hc => ?_, fun hc => ?_⟩
        · have hr7 := it_t hr7 hc
          refine o_iconst (pc := 28) (v := 1) dX12_readsAll_28 rfl ?_
          refine o_goto (pc := 29) 33 dX12_readsAll_29 rfl ?_
          obtain rfl := Option.some.inj hr7
          exact K8
        · have hr7 := it_f hr7 hc
          refine o_iconst (pc := 32) (v := 0) dX12_readsAll_32 rfl ?_
          obtain rfl := Option.some.inj hr7
          exact K8
      clear hr7
      refine o_icmp_eq (pc := 19) 28 dX12_readsAll_19 rfl (fun hc => ?_) (fun hc => ?_)
      · have hr4 := it_t hr4 hc
        obtain rfl := Option.some.inj hr4
        exact KB5.1 rfl
      · have hr4 := it_f hr4 hc
        refine o_iload_n (pc := 22) dX12_readsAll_22 rfl ?_
        refine o_bipush (pc := 23) (v := 6) dX12_readsAll_23 rfl ?_
        refine o_icmp_ne (pc := 25) 32 dX12_readsAll_25 rfl (fun hc => ?_) (fun hc => ?_)
        · have hr4 := it_f hr4 hc
          obtain rfl := Option.some.inj hr4
          exact KB5.2 (by decide)
        · have hr4 := it_t hr4 hc
          obtain rfl := Option.some.inj hr4
          exact KB5.1 rfl
set_option maxRecDepth 20000 in
theorem kX12_readsAll_L44 {g : GX} {r : Option Value} {h2 : PH} : ∀ (n : Nat) (x1 : Int32) (x2 : Int32) (s : ST) {w : Int32 × Int32 × ST}, fX12_readsAll_L44 n x1 x2 s = some w → Rn g mdX12_readsAll 64 [some (.ref 0), none, none] [] (mW w.2.2) 0 0 r h2 → Rn g mdX12_readsAll 44 [some (.ref 0), some (.int x1), some (.int x2)] [] (mW s) 0 0 r h2 := by
  intro n
  induction n with
  | zero => intro x1 x2 s w hf K; cases hf
  | succ n ih =>
    intro x1 x2 s w hf K
    rw [fX12_readsAll_L44] at hf
    refine o_iload_n (pc := 44) dX12_readsAll_44 rfl ?_
    refine o_if_eq (pc := 45) 64 dX12_readsAll_45 rfl (fun hc => ?_) (fun hc => ?_)
    · have hf := it_t hf hc
      obtain rfl := Option.some.inj hf
      refine o_keep [true, false, false] ?_
      exact K
    · have hf := it_f hf hc
      refine o_aload_n (pc := 48) dX12_readsAll_48 rfl ?_
      refine o_iload_n (pc := 49) dX12_readsAll_49 rfl ?_
      obtain ⟨q16, hk15, hf⟩ := bd_elim hf
      refine m_callV (pc := 50) [.int x1] dX12_readsAll_50 (kX12_townClause hk15) stX12_350 ⟨by decide, by decide, by decide, by decide⟩ ⟨rfl, rfl⟩ (Nat.le_of_ble_eq_true rfl) ?_
      show Rn g mdX12_readsAll 53 [some (.ref 0), some (.int x1), some (.int x2)] [] (mW q16) 0 0 r h2
      refine o_iinc (pc := 53) dX12_readsAll_53 rfl (by decide) rfl ?_
      show Rn g mdX12_readsAll 56 [some (.ref 0), some (.int (x1 + 1)), some (.int x2)] [] (mW q16) 0 0 r h2
      obtain ⟨v17, ev17, hf⟩ := lt_elim hf
      rw [ev17]
      show Rn g mdX12_readsAll 56 [some (.ref 0), some (.int v17), some (.int x2)] [] (mW q16) 0 0 r h2
      refine o_aload_n (pc := 56) dX12_readsAll_56 rfl ?_
      obtain ⟨q19, hk18, hf⟩ := bd_elim hf
      refine m_callV (pc := 57) [] dX12_readsAll_57 (kX12_goesOn hk18) stX12_353 ⟨by decide, by decide, by decide, by decide⟩ ⟨rfl, rfl⟩ (Nat.le_of_ble_eq_true rfl) ?_
      show Rn g mdX12_readsAll 60 [some (.ref 0), some (.int v17), some (.int x2)] [.int q19.1] (mW q19.2) 0 0 r h2
      refine o_istore_n (pc := 60) dX12_readsAll_60 (by decide) rfl ?_
      show Rn g mdX12_readsAll 61 [some (.ref 0), some (.int v17), some (.int q19.1)] [] (mW q19.2) 0 0 r h2
      refine o_goto (pc := 61) 44 dX12_readsAll_61 rfl ?_
      exact ih _ _ _ hf K
set_option maxRecDepth 20000 in
theorem kX12_readsAll {g : GX} {s : ST} {q : ST} (hf : fX12_readsAll s = some q) : Cn g mdX12_readsAll [.ref 0] (mW s) none (mW q) := by
  refine Cn.of (by decide) (Nat.le_of_ble_eq_true rfl) ?_
  show Rn g mdX12_readsAll 0 [some (.ref 0), none, none] [] (mW s) 0 0 none (mW q)
  unfold fX12_readsAll at hf
  refine o_aload_n (pc := 0) dX12_readsAll_0 rfl ?_
  obtain ⟨q2, hk1, hf⟩ := bd_elim hf
  refine m_callV (pc := 1) [] dX12_readsAll_1 (kX12_starts hk1) stX12_347 ⟨by decide, by decide, by decide, by decide⟩ ⟨rfl, rfl⟩ (Nat.le_of_ble_eq_true rfl) ?_
  show Rn g mdX12_readsAll 4 [some (.ref 0), none, none] [] (mW q2) 0 0 none (mW q)
  refine o_iconst (pc := 4) (v := 0) dX12_readsAll_4 rfl ?_
  refine o_istore_n (pc := 5) dX12_readsAll_5 (by decide) rfl ?_
  show Rn g mdX12_readsAll 6 [some (.ref 0), some (.int 0), none] [] (mW q2) 0 0 none (mW q)
  obtain ⟨w12, hl13, hf⟩ := bd_elim hf
  have K14 : Rn g mdX12_readsAll 40 [some (.ref 0), none, none] [] (mW w12.2) 0 0 none (mW q) := by
    refine o_iconst (pc := 40) (v := 0) dX12_readsAll_40 rfl ?_
    refine o_istore_n (pc := 41) dX12_readsAll_41 (by decide) rfl ?_
    show Rn g mdX12_readsAll 42 [some (.ref 0), some (.int 0), none] [] (mW w12.2) 0 0 none (mW q)
    refine o_iconst (pc := 42) (v := 1) dX12_readsAll_42 rfl ?_
    refine o_istore_n (pc := 43) dX12_readsAll_43 (by decide) rfl ?_
    show Rn g mdX12_readsAll 44 [some (.ref 0), some (.int 0), some (.int 1)] [] (mW w12.2) 0 0 none (mW q)
    obtain ⟨w20, hl21, hf⟩ := bd_elim hf
    have K22 : Rn g mdX12_readsAll 64 [some (.ref 0), none, none] [] (mW w20.2.2) 0 0 none (mW q) := by
      refine o_aload_n (pc := 64) dX12_readsAll_64 rfl ?_
      refine o_iconst (pc := 65) (v := 0) dX12_readsAll_65 rfl ?_
      refine m_putI (pc := 66) 26 (by decide) rfl rfl lkX12_195 ⟨rfl, rfl⟩ dX12_readsAll_66 ?_
      refine lz_s (mW) hf (fun s23 hf => ?_)
      show Rn g mdX12_readsAll 69 [some (.ref 0), none, none] [] (mW s23) 0 0 none (mW q)
      obtain rfl := Option.some.inj hf
      exact o_return (pc := 69) dX12_readsAll_69 rfl (Nat.zero_le _) (Nat.zero_le _)
    exact kX12_readsAll_L44 _ _ _ _ hl21 K22
  exact kX12_readsAll_L6 _ _ _ hl13 K14
def fX12_begins_L56 : Nat → Int32 → ST → Option (Int32 × ST)
  | 0, _, _ => none
  | n + 1, x1, s => if 5 ≤ x1 then some (x1, s) else ck (inb x1 5) (lt (si s 5 (ix x1) 0) (fun s13 => ck (inb x1 5) (lt (si s13 6 (ix x1) 0) (fun s15 => lt (x1 + 1) (fun v16 => fX12_begins_L56 n v16 s15)))))
def fX12_begins_L83 : Nat → Int32 → ST → Option (Int32 × ST)
  | 0, _, _ => none
  | n + 1, x1, s => if 8 ≤ x1 then some (x1, s) else ck (inb x1 8) (lt (si s 11 (ix x1) 0) (fun s21 => ck (inb x1 8) (lt (si s21 12 (ix x1) 0) (fun s23 => lt (x1 + 1) (fun v24 => fX12_begins_L83 n v24 s23)))))
def fX12_begins (s : ST) : Option (ST) :=
  (fX12_copies_16_3 s).bind (fun q2 => (fX12_copies_2_4 q2).bind (fun q4 => (fX12_copies_17_9 q4).bind (fun q6 => ck (inb 0 1) (ck (inb 8 13) (lt (si q6 1 (ix 8) (gi q6 18 (ix 0))) (fun s9 => ck (inb 9 13) (lt (si s9 1 (ix 9) 0) (fun s11 => (fX12_begins_L56 FUEL 0 s11).bind (fun w17 => (fX12_begins_L83 FUEL 0 w17.2).bind (fun w25 => some w25.2))))))))))
set_option maxRecDepth 20000 in
theorem kX12_begins_L56 {g : GX} {r : Option Value} {h2 : PH} : ∀ (n : Nat) (x1 : Int32) (s : ST) {w : Int32 × ST}, fX12_begins_L56 n x1 s = some w → Rn g mdX12_begins 81 [some (.ref 0), none] [] (mW w.2) 0 0 r h2 → Rn g mdX12_begins 56 [some (.ref 0), some (.int x1)] [] (mW s) 0 0 r h2 := by
  intro n
  induction n with
  | zero => intro x1 s w hf K; cases hf
  | succ n ih =>
    intro x1 s w hf K
    rw [fX12_begins_L56] at hf
    refine o_iload_n (pc := 56) dX12_begins_56 rfl ?_
    refine o_iconst (pc := 57) (v := 5) dX12_begins_57 rfl ?_
    refine o_icmp_ge (pc := 58) 81 dX12_begins_58 rfl (fun hc => ?_) (fun hc => ?_)
    · have hf := it_t hf hc
      obtain rfl := Option.some.inj hf
      refine o_keep [true, false] ?_
      exact K
    · have hf := it_f hf hc
      refine o_aload_n (pc := 61) dX12_begins_61 rfl ?_
      refine m_getA (pc := 62) 5 5 (by decide) rfl rfl lkX12_22 dX12_begins_62 ?_
      refine o_iload_n (pc := 65) dX12_begins_65 rfl ?_
      refine o_iconst (pc := 66) (v := 0) dX12_begins_66 rfl ?_
      obtain ⟨hk12, hf⟩ := ck_elim hf
      refine m_iast (pc := 67) (by decide) rfl hk12 dX12_begins_67 ?_
      refine lz_s (mW) hf (fun s13 hf => ?_)
      show Rn g mdX12_begins 68 [some (.ref 0), some (.int x1)] [] (mW s13) 0 0 r h2
      refine o_aload_n (pc := 68) dX12_begins_68 rfl ?_
      refine m_getA (pc := 69) 6 6 (by decide) rfl rfl lkX12_25 dX12_begins_69 ?_
      refine o_iload_n (pc := 72) dX12_begins_72 rfl ?_
      refine o_iconst (pc := 73) (v := 0) dX12_begins_73 rfl ?_
      obtain ⟨hk14, hf⟩ := ck_elim hf
      refine m_iast (pc := 74) (by decide) rfl hk14 dX12_begins_74 ?_
      refine lz_s (mW) hf (fun s15 hf => ?_)
      show Rn g mdX12_begins 75 [some (.ref 0), some (.int x1)] [] (mW s15) 0 0 r h2
      refine o_iinc (pc := 75) dX12_begins_75 rfl (by decide) rfl ?_
      show Rn g mdX12_begins 78 [some (.ref 0), some (.int (x1 + 1))] [] (mW s15) 0 0 r h2
      obtain ⟨v16, ev16, hf⟩ := lt_elim hf
      rw [ev16]
      show Rn g mdX12_begins 78 [some (.ref 0), some (.int v16)] [] (mW s15) 0 0 r h2
      refine o_goto (pc := 78) 56 dX12_begins_78 rfl ?_
      exact ih _ _ hf K
set_option maxRecDepth 20000 in
theorem kX12_begins_L83 {g : GX} {r : Option Value} {h2 : PH} : ∀ (n : Nat) (x1 : Int32) (s : ST) {w : Int32 × ST}, fX12_begins_L83 n x1 s = some w → Rn g mdX12_begins 109 [none, none] [] (mW w.2) 0 0 r h2 → Rn g mdX12_begins 83 [some (.ref 0), some (.int x1)] [] (mW s) 0 0 r h2 := by
  intro n
  induction n with
  | zero => intro x1 s w hf K; cases hf
  | succ n ih =>
    intro x1 s w hf K
    rw [fX12_begins_L83] at hf
    refine o_iload_n (pc := 83) dX12_begins_83 rfl ?_
    refine o_bipush (pc := 84) (v := 8) dX12_begins_84 rfl ?_
    refine o_icmp_ge (pc := 86) 109 dX12_begins_86 rfl (fun hc => ?_) (fun hc => ?_)
    · have hf := it_t hf hc
      obtain rfl := Option.some.inj hf
      refine o_keep [false, false] ?_
      exact K
    · have hf := it_f hf hc
      refine o_aload_n (pc := 89) dX12_begins_89 rfl ?_
      refine m_getA (pc := 90) 11 11 (by decide) rfl rfl lkX12_40 dX12_begins_90 ?_
      refine o_iload_n (pc := 93) dX12_begins_93 rfl ?_
      refine o_iconst (pc := 94) (v := 0) dX12_begins_94 rfl ?_
      obtain ⟨hk20, hf⟩ := ck_elim hf
      refine m_iast (pc := 95) (by decide) rfl hk20 dX12_begins_95 ?_
      refine lz_s (mW) hf (fun s21 hf => ?_)
      show Rn g mdX12_begins 96 [some (.ref 0), some (.int x1)] [] (mW s21) 0 0 r h2
      refine o_aload_n (pc := 96) dX12_begins_96 rfl ?_
      refine m_getA (pc := 97) 12 12 (by decide) rfl rfl lkX12_43 dX12_begins_97 ?_
      refine o_iload_n (pc := 100) dX12_begins_100 rfl ?_
      refine o_iconst (pc := 101) (v := 0) dX12_begins_101 rfl ?_
      obtain ⟨hk22, hf⟩ := ck_elim hf
      refine m_iast (pc := 102) (by decide) rfl hk22 dX12_begins_102 ?_
      refine lz_s (mW) hf (fun s23 hf => ?_)
      show Rn g mdX12_begins 103 [some (.ref 0), some (.int x1)] [] (mW s23) 0 0 r h2
      refine o_iinc (pc := 103) dX12_begins_103 rfl (by decide) rfl ?_
      show Rn g mdX12_begins 106 [some (.ref 0), some (.int (x1 + 1))] [] (mW s23) 0 0 r h2
      obtain ⟨v24, ev24, hf⟩ := lt_elim hf
      rw [ev24]
      show Rn g mdX12_begins 106 [some (.ref 0), some (.int v24)] [] (mW s23) 0 0 r h2
      refine o_goto (pc := 106) 83 dX12_begins_106 rfl ?_
      exact ih _ _ hf K
set_option maxRecDepth 20000 in
theorem kX12_begins {g : GX} {s : ST} {q : ST} (hf : fX12_begins s = some q) : Cn g mdX12_begins [.ref 0] (mW s) none (mW q) := by
  refine Cn.of (by decide) (Nat.le_of_ble_eq_true rfl) ?_
  show Rn g mdX12_begins 0 [some (.ref 0), none] [] (mW s) 0 0 none (mW q)
  unfold fX12_begins at hf
  refine o_aload_n (pc := 0) dX12_begins_0 rfl ?_
  refine m_getA (pc := 1) 16 16 (by decide) rfl rfl lkX12_55 dX12_begins_1 ?_
  refine o_aload_n (pc := 4) dX12_begins_4 rfl ?_
  refine m_getA (pc := 5) 3 3 (by decide) rfl rfl lkX12_16 dX12_begins_5 ?_
  obtain ⟨q2, hk1, hf⟩ := bd_elim hf
  refine m_callS (pc := 8) [.ref 16, .ref 3] dX12_begins_8 (kX12_copies_16_3 hk1) stX12_356 ⟨by decide, by decide, by decide, by decide⟩ ⟨rfl, rfl⟩ (Nat.le_of_ble_eq_true rfl) ?_
  show Rn g mdX12_begins 11 [some (.ref 0), none] [] (mW q2) 0 0 none (mW q)
  refine o_aload_n (pc := 11) dX12_begins_11 rfl ?_
  refine m_getA (pc := 12) 2 2 (by decide) rfl rfl lkX12_13 dX12_begins_12 ?_
  refine o_aload_n (pc := 15) dX12_begins_15 rfl ?_
  refine m_getA (pc := 16) 4 4 (by decide) rfl rfl lkX12_19 dX12_begins_16 ?_
  obtain ⟨q4, hk3, hf⟩ := bd_elim hf
  refine m_callS (pc := 19) [.ref 2, .ref 4] dX12_begins_19 (kX12_copies_2_4 hk3) stX12_356 ⟨by decide, by decide, by decide, by decide⟩ ⟨rfl, rfl⟩ (Nat.le_of_ble_eq_true rfl) ?_
  show Rn g mdX12_begins 22 [some (.ref 0), none] [] (mW q4) 0 0 none (mW q)
  refine o_aload_n (pc := 22) dX12_begins_22 rfl ?_
  refine m_getA (pc := 23) 17 17 (by decide) rfl rfl lkX12_58 dX12_begins_23 ?_
  refine o_aload_n (pc := 26) dX12_begins_26 rfl ?_
  refine m_getA (pc := 27) 9 9 (by decide) rfl rfl lkX12_34 dX12_begins_27 ?_
  obtain ⟨q6, hk5, hf⟩ := bd_elim hf
  refine m_callS (pc := 30) [.ref 17, .ref 9] dX12_begins_30 (kX12_copies_17_9 hk5) stX12_356 ⟨by decide, by decide, by decide, by decide⟩ ⟨rfl, rfl⟩ (Nat.le_of_ble_eq_true rfl) ?_
  show Rn g mdX12_begins 33 [some (.ref 0), none] [] (mW q6) 0 0 none (mW q)
  refine o_aload_n (pc := 33) dX12_begins_33 rfl ?_
  refine m_getA (pc := 34) 1 1 (by decide) rfl rfl lkX12_9 dX12_begins_34 ?_
  refine o_bipush (pc := 37) (v := 8) dX12_begins_37 rfl ?_
  refine o_aload_n (pc := 39) dX12_begins_39 rfl ?_
  refine m_getA (pc := 40) 18 18 (by decide) rfl rfl lkX12_61 dX12_begins_40 ?_
  refine o_iconst (pc := 43) (v := 0) dX12_begins_43 rfl ?_
  obtain ⟨hk7, hf⟩ := ck_elim hf
  refine m_iald (pc := 44) (by decide) rfl hk7 dX12_begins_44 ?_
  obtain ⟨hk8, hf⟩ := ck_elim hf
  refine m_iast (pc := 45) (by decide) rfl hk8 dX12_begins_45 ?_
  refine lz_s (mW) hf (fun s9 hf => ?_)
  show Rn g mdX12_begins 46 [some (.ref 0), none] [] (mW s9) 0 0 none (mW q)
  refine o_aload_n (pc := 46) dX12_begins_46 rfl ?_
  refine m_getA (pc := 47) 1 1 (by decide) rfl rfl lkX12_9 dX12_begins_47 ?_
  refine o_bipush (pc := 50) (v := 9) dX12_begins_50 rfl ?_
  refine o_iconst (pc := 52) (v := 0) dX12_begins_52 rfl ?_
  obtain ⟨hk10, hf⟩ := ck_elim hf
  refine m_iast (pc := 53) (by decide) rfl hk10 dX12_begins_53 ?_
  refine lz_s (mW) hf (fun s11 hf => ?_)
  show Rn g mdX12_begins 54 [some (.ref 0), none] [] (mW s11) 0 0 none (mW q)
  refine o_iconst (pc := 54) (v := 0) dX12_begins_54 rfl ?_
  refine o_istore_n (pc := 55) dX12_begins_55 (by decide) rfl ?_
  show Rn g mdX12_begins 56 [some (.ref 0), some (.int 0)] [] (mW s11) 0 0 none (mW q)
  obtain ⟨w17, hl18, hf⟩ := bd_elim hf
  have K19 : Rn g mdX12_begins 81 [some (.ref 0), none] [] (mW w17.2) 0 0 none (mW q) := by
    refine o_iconst (pc := 81) (v := 0) dX12_begins_81 rfl ?_
    refine o_istore_n (pc := 82) dX12_begins_82 (by decide) rfl ?_
    show Rn g mdX12_begins 83 [some (.ref 0), some (.int 0)] [] (mW w17.2) 0 0 none (mW q)
    obtain ⟨w25, hl26, hf⟩ := bd_elim hf
    have K27 : Rn g mdX12_begins 109 [none, none] [] (mW w25.2) 0 0 none (mW q) := by
      obtain rfl := Option.some.inj hf
      exact o_return (pc := 109) dX12_begins_109 rfl (Nat.zero_le _) (Nat.zero_le _)
    exact kX12_begins_L83 _ _ _ hl26 K27
  exact kX12_begins_L56 _ _ _ hl18 K19
def fX12_town_L21 : Nat → Int32 → ST → Option (Int32 × ST)
  | 0, _, _ => none
  | n + 1, x1, s => if 11 ≤ x1 then some (x1, s) else (if 9 ≤ x1 then some 0 else ck (inb x1 9) (some (gi s 19 (ix x1))) : Option (Int32)).bind (fun w3 => ck (inb x1 13) (lt (si s 1 (ix x1) w3) (fun s8 => lt (x1 + 1) (fun v9 => fX12_town_L21 n v9 s8))))
def fX12_town (s : ST) : Option (Int32 × ST) :=
  (fX12_readsAll s).bind (fun q2 => if (gi q2 0 28) ≤ 0 then (fX12_town_L21 FUEL 0 q2).bind (fun w10 => (fX12_copies_20_2 w10.2).bind (fun q14 => (fX12_copies_21_16 q14).bind (fun q16 => (fX12_copies_22_7 q16).bind (fun q18 => (fX12_copies_23_8 q18).bind (fun q20 => (fX12_copies_24_17 q20).bind (fun q22 => (fX12_copies_25_10 q22).bind (fun q24 => ck (inb 8 9) (ck (inb 0 1) (lt (si q24 18 (ix 0) (gi q24 19 (ix 8))) (fun s27 => (fX12_begins s27).bind (fun q29 => lt (si q29 0 66 0) (fun s30 => ck (inb 4 13) (some (gi s30 1 (ix 4), s30)))))))))))))) else some ((-2) - (gi q2 0 28), q2))
set_option maxRecDepth 20000 in
theorem kX12_town_L21 {g : GX} {r : Option Value} {h2 : PH} : ∀ (n : Nat) (x1 : Int32) (s : ST) {w : Int32 × ST}, fX12_town_L21 n x1 s = some w → Rn g mdX12_town 55 [some (.ref 0), none] [] (mW w.2) 0 0 r h2 → Rn g mdX12_town 21 [some (.ref 0), some (.int x1)] [] (mW s) 0 0 r h2 := by
  intro n
  induction n with
  | zero => intro x1 s w hf K; cases hf
  | succ n ih =>
    intro x1 s w hf K
    rw [fX12_town_L21] at hf
    refine o_iload_n (pc := 21) dX12_town_21 rfl ?_
    refine o_bipush (pc := 22) (v := 11) dX12_town_22 rfl ?_
    refine o_icmp_ge (pc := 24) 55 dX12_town_24 rfl (fun hc => ?_) (fun hc => ?_)
    · have hf := it_t hf hc
      obtain rfl := Option.some.inj hf
      refine o_keep [true, false] ?_
      exact K
    · have hf := it_f hf hc
      refine o_aload_n (pc := 27) dX12_town_27 rfl ?_
      refine m_getA (pc := 28) 1 1 (by decide) rfl rfl lkX12_9 dX12_town_28 ?_
      refine o_iload_n (pc := 31) dX12_town_31 rfl ?_
      refine o_iload_n (pc := 32) dX12_town_32 rfl ?_
      refine o_bipush (pc := 33) (v := 9) dX12_town_33 rfl ?_
      obtain ⟨w3, hr4, hf⟩ := bd_elim hf
      have K5 : Rn g mdX12_town 48 [some (.ref 0), some (.int x1)] [.int w3, .int x1, .ref 1] (mW s) 0 0 r h2 := by
        obtain ⟨hk7, hf⟩ := ck_elim hf
        refine m_iast (pc := 48) (by decide) rfl hk7 dX12_town_48 ?_
        refine lz_s (mW) hf (fun s8 hf => ?_)
        show Rn g mdX12_town 49 [some (.ref 0), some (.int x1)] [] (mW s8) 0 0 r h2
        refine o_iinc (pc := 49) dX12_town_49 rfl (by decide) rfl ?_
        show Rn g mdX12_town 52 [some (.ref 0), some (.int (x1 + 1))] [] (mW s8) 0 0 r h2
        obtain ⟨v9, ev9, hf⟩ := lt_elim hf
        rw [ev9]
        show Rn g mdX12_town 52 [some (.ref 0), some (.int v9)] [] (mW s8) 0 0 r h2
        refine o_goto (pc := 52) 21 dX12_town_52 rfl ?_
        exact ih _ _ hf K
      clear hf
      refine o_icmp_ge (pc := 35) 47 dX12_town_35 rfl (fun hc => ?_) (fun hc => ?_)
      · have hr4 := it_t hr4 hc
        refine o_iconst (pc := 47) (v := 0) dX12_town_47 rfl ?_
        obtain rfl := Option.some.inj hr4
        exact K5
      · have hr4 := it_f hr4 hc
        refine o_aload_n (pc := 38) dX12_town_38 rfl ?_
        refine m_getA (pc := 39) 19 19 (by decide) rfl rfl lkX12_64 dX12_town_39 ?_
        refine o_iload_n (pc := 42) dX12_town_42 rfl ?_
        obtain ⟨hk6, hr4⟩ := ck_elim hr4
        refine m_iald (pc := 43) (by decide) rfl hk6 dX12_town_43 ?_
        refine o_goto (pc := 44) 48 dX12_town_44 rfl ?_
        obtain rfl := Option.some.inj hr4
        exact K5
set_option maxRecDepth 20000 in
theorem kX12_town {g : GX} {s : ST} {q : Int32 × ST} (hf : fX12_town s = some q) : Cn g mdX12_town [.ref 0] (mW s) (some (.int q.1)) (mW q.2) := by
  refine Cn.of (by decide) (Nat.le_of_ble_eq_true rfl) ?_
  show Rn g mdX12_town 0 [some (.ref 0), none] [] (mW s) 0 0 (some (.int q.1)) (mW q.2)
  unfold fX12_town at hf
  refine o_aload_n (pc := 0) dX12_town_0 rfl ?_
  obtain ⟨q2, hk1, hf⟩ := bd_elim hf
  refine m_callV (pc := 1) [] dX12_town_1 (kX12_readsAll hk1) stX12_360 ⟨by decide, by decide, by decide, by decide⟩ ⟨rfl, rfl⟩ (Nat.le_of_ble_eq_true rfl) ?_
  show Rn g mdX12_town 4 [some (.ref 0), none] [] (mW q2) 0 0 (some (.int q.1)) (mW q.2)
  refine o_aload_n (pc := 4) dX12_town_4 rfl ?_
  refine m_getI (pc := 5) 28 (by decide) rfl lkX12_224 dX12_town_5 ?_
  refine o_if_le (pc := 8) 19 dX12_town_8 rfl (fun hc => ?_) (fun hc => ?_)
  · have hf := it_t hf hc
    refine o_iconst (pc := 19) (v := 0) dX12_town_19 rfl ?_
    refine o_istore_n (pc := 20) dX12_town_20 (by decide) rfl ?_
    show Rn g mdX12_town 21 [some (.ref 0), some (.int 0)] [] (mW q2) 0 0 (some (.int q.1)) (mW q.2)
    obtain ⟨w10, hl11, hf⟩ := bd_elim hf
    have K12 : Rn g mdX12_town 55 [some (.ref 0), none] [] (mW w10.2) 0 0 (some (.int q.1)) (mW q.2) := by
      refine o_aload_n (pc := 55) dX12_town_55 rfl ?_
      refine m_getA (pc := 56) 20 20 (by decide) rfl rfl lkX12_67 dX12_town_56 ?_
      refine o_aload_n (pc := 59) dX12_town_59 rfl ?_
      refine m_getA (pc := 60) 2 2 (by decide) rfl rfl lkX12_13 dX12_town_60 ?_
      obtain ⟨q14, hk13, hf⟩ := bd_elim hf
      refine m_callS (pc := 63) [.ref 20, .ref 2] dX12_town_63 (kX12_copies_20_2 hk13) stX12_356 ⟨by decide, by decide, by decide, by decide⟩ ⟨rfl, rfl⟩ (Nat.le_of_ble_eq_true rfl) ?_
      show Rn g mdX12_town 66 [some (.ref 0), none] [] (mW q14) 0 0 (some (.int q.1)) (mW q.2)
      refine o_aload_n (pc := 66) dX12_town_66 rfl ?_
      refine m_getA (pc := 67) 21 21 (by decide) rfl rfl lkX12_70 dX12_town_67 ?_
      refine o_aload_n (pc := 70) dX12_town_70 rfl ?_
      refine m_getA (pc := 71) 16 16 (by decide) rfl rfl lkX12_55 dX12_town_71 ?_
      obtain ⟨q16, hk15, hf⟩ := bd_elim hf
      refine m_callS (pc := 74) [.ref 21, .ref 16] dX12_town_74 (kX12_copies_21_16 hk15) stX12_356 ⟨by decide, by decide, by decide, by decide⟩ ⟨rfl, rfl⟩ (Nat.le_of_ble_eq_true rfl) ?_
      show Rn g mdX12_town 77 [some (.ref 0), none] [] (mW q16) 0 0 (some (.int q.1)) (mW q.2)
      refine o_aload_n (pc := 77) dX12_town_77 rfl ?_
      refine m_getA (pc := 78) 22 22 (by decide) rfl rfl lkX12_73 dX12_town_78 ?_
      refine o_aload_n (pc := 81) dX12_town_81 rfl ?_
      refine m_getA (pc := 82) 7 7 (by decide) rfl rfl lkX12_28 dX12_town_82 ?_
      obtain ⟨q18, hk17, hf⟩ := bd_elim hf
      refine m_callS (pc := 85) [.ref 22, .ref 7] dX12_town_85 (kX12_copies_22_7 hk17) stX12_356 ⟨by decide, by decide, by decide, by decide⟩ ⟨rfl, rfl⟩ (Nat.le_of_ble_eq_true rfl) ?_
      show Rn g mdX12_town 88 [some (.ref 0), none] [] (mW q18) 0 0 (some (.int q.1)) (mW q.2)
      refine o_aload_n (pc := 88) dX12_town_88 rfl ?_
      refine m_getA (pc := 89) 23 23 (by decide) rfl rfl lkX12_76 dX12_town_89 ?_
      refine o_aload_n (pc := 92) dX12_town_92 rfl ?_
      refine m_getA (pc := 93) 8 8 (by decide) rfl rfl lkX12_31 dX12_town_93 ?_
      obtain ⟨q20, hk19, hf⟩ := bd_elim hf
      refine m_callS (pc := 96) [.ref 23, .ref 8] dX12_town_96 (kX12_copies_23_8 hk19) stX12_356 ⟨by decide, by decide, by decide, by decide⟩ ⟨rfl, rfl⟩ (Nat.le_of_ble_eq_true rfl) ?_
      show Rn g mdX12_town 99 [some (.ref 0), none] [] (mW q20) 0 0 (some (.int q.1)) (mW q.2)
      refine o_aload_n (pc := 99) dX12_town_99 rfl ?_
      refine m_getA (pc := 100) 24 24 (by decide) rfl rfl lkX12_79 dX12_town_100 ?_
      refine o_aload_n (pc := 103) dX12_town_103 rfl ?_
      refine m_getA (pc := 104) 17 17 (by decide) rfl rfl lkX12_58 dX12_town_104 ?_
      obtain ⟨q22, hk21, hf⟩ := bd_elim hf
      refine m_callS (pc := 107) [.ref 24, .ref 17] dX12_town_107 (kX12_copies_24_17 hk21) stX12_356 ⟨by decide, by decide, by decide, by decide⟩ ⟨rfl, rfl⟩ (Nat.le_of_ble_eq_true rfl) ?_
      show Rn g mdX12_town 110 [some (.ref 0), none] [] (mW q22) 0 0 (some (.int q.1)) (mW q.2)
      refine o_aload_n (pc := 110) dX12_town_110 rfl ?_
      refine m_getA (pc := 111) 25 25 (by decide) rfl rfl lkX12_82 dX12_town_111 ?_
      refine o_aload_n (pc := 114) dX12_town_114 rfl ?_
      refine m_getA (pc := 115) 10 10 (by decide) rfl rfl lkX12_37 dX12_town_115 ?_
      obtain ⟨q24, hk23, hf⟩ := bd_elim hf
      refine m_callS (pc := 118) [.ref 25, .ref 10] dX12_town_118 (kX12_copies_25_10 hk23) stX12_356 ⟨by decide, by decide, by decide, by decide⟩ ⟨rfl, rfl⟩ (Nat.le_of_ble_eq_true rfl) ?_
      show Rn g mdX12_town 121 [some (.ref 0), none] [] (mW q24) 0 0 (some (.int q.1)) (mW q.2)
      refine o_aload_n (pc := 121) dX12_town_121 rfl ?_
      refine m_getA (pc := 122) 18 18 (by decide) rfl rfl lkX12_61 dX12_town_122 ?_
      refine o_iconst (pc := 125) (v := 0) dX12_town_125 rfl ?_
      refine o_aload_n (pc := 126) dX12_town_126 rfl ?_
      refine m_getA (pc := 127) 19 19 (by decide) rfl rfl lkX12_64 dX12_town_127 ?_
      refine o_bipush (pc := 130) (v := 8) dX12_town_130 rfl ?_
      obtain ⟨hk25, hf⟩ := ck_elim hf
      refine m_iald (pc := 132) (by decide) rfl hk25 dX12_town_132 ?_
      obtain ⟨hk26, hf⟩ := ck_elim hf
      refine m_iast (pc := 133) (by decide) rfl hk26 dX12_town_133 ?_
      refine lz_s (mW) hf (fun s27 hf => ?_)
      show Rn g mdX12_town 134 [some (.ref 0), none] [] (mW s27) 0 0 (some (.int q.1)) (mW q.2)
      refine o_aload_n (pc := 134) dX12_town_134 rfl ?_
      obtain ⟨q29, hk28, hf⟩ := bd_elim hf
      refine m_callV (pc := 135) [] dX12_town_135 (kX12_begins hk28) stX12_363 ⟨by decide, by decide, by decide, by decide⟩ ⟨rfl, rfl⟩ (Nat.le_of_ble_eq_true rfl) ?_
      show Rn g mdX12_town 138 [some (.ref 0), none] [] (mW q29) 0 0 (some (.int q.1)) (mW q.2)
      refine o_aload_n (pc := 138) dX12_town_138 rfl ?_
      refine o_iconst (pc := 139) (v := 0) dX12_town_139 rfl ?_
      refine m_putI (pc := 140) 66 (by decide) rfl rfl lkX12_366 ⟨rfl, rfl⟩ dX12_town_140 ?_
      refine lz_s (mW) hf (fun s30 hf => ?_)
      show Rn g mdX12_town 143 [some (.ref 0), none] [] (mW s30) 0 0 (some (.int q.1)) (mW q.2)
      refine o_aload_n (pc := 143) dX12_town_143 rfl ?_
      refine m_getA (pc := 144) 1 1 (by decide) rfl rfl lkX12_9 dX12_town_144 ?_
      refine o_iconst (pc := 147) (v := 4) dX12_town_147 rfl ?_
      obtain ⟨hk31, hf⟩ := ck_elim hf
      refine m_iald (pc := 148) (by decide) rfl hk31 dX12_town_148 ?_
      obtain rfl := Option.some.inj hf
      exact o_ireturn (pc := 149) dX12_town_149 rfl (Nat.zero_le _) (Nat.zero_le _)
    exact kX12_town_L21 _ _ _ hl11 K12
  · have hf := it_f hf hc
    refine o_bipush (pc := 11) (v := (-2)) dX12_town_11 rfl ?_
    refine o_aload_n (pc := 13) dX12_town_13 rfl ?_
    refine m_getI (pc := 14) 28 (by decide) rfl lkX12_224 dX12_town_14 ?_
    refine o_isub (pc := 17) dX12_town_17 ?_
    obtain rfl := Option.some.inj hf
    exact o_ireturn (pc := 18) dX12_town_18 rfl (Nat.zero_le _) (Nat.zero_le _)
def fX12_ruleClause (p0 : Int32) (s : ST) : Option (ST) :=
  (fX12_blanks s).bind (fun q2 => lt (gi q2 0 27 : Int32) (fun v3 => (fX12_stood 1000029 q2).bind (fun q5 => if q5 = 0 then (fX12_fails 0 v3 q2).bind (fun q26 => some q26) else if p0 = 12 then (fX12_fails 4 v3 q2).bind (fun q24 => some q24) else lt (si q2 0 27 ((gi q2 0 27) + 4)) (fun s6 => lt ((12 * (gi s6 0 29)) + p0 : Int32) (fun v7 => ck (inb v7 72) (lt (si s6 30 (ix v7) (gi s6 0 31)) (fun s9 => (fX12_sum s9).bind (fun q11 => ck (inb v7 72) (lt (si q11 31 (ix v7) (gi q11 0 31)) (fun s13 => (if (gi s13 0 28) = 0 then (fX12_takes 1000042 s13).bind (fun q18 => if q18.1 = 0 then some q18.2 else (fX12_test q18.2).bind (fun q20 => some q20)) else some s13 : Option (ST)).bind (fun w14 => ck (inb v7 72) (lt (si w14 32 (ix v7) (gi w14 0 31)) (fun s22 => some s22)))))))))))))
set_option maxRecDepth 20000 in
theorem kX12_ruleClause {g : GX} {p0 : Int32} {s : ST} {q : ST} (hf : fX12_ruleClause p0 s = some q) : Cn g mdX12_ruleClause [.ref 0, .int p0] (mW s) none (mW q) := by
  refine Cn.of (by decide) (Nat.le_of_ble_eq_true rfl) ?_
  show Rn g mdX12_ruleClause 0 [some (.ref 0), some (.int p0), none, none] [] (mW s) 0 0 none (mW q)
  unfold fX12_ruleClause at hf
  refine o_aload_n (pc := 0) dX12_ruleClause_0 rfl ?_
  obtain ⟨q2, hk1, hf⟩ := bd_elim hf
  refine m_callV (pc := 1) [] dX12_ruleClause_1 (kX12_blanks hk1) stX12_246 ⟨by decide, by decide, by decide, by decide⟩ ⟨rfl, rfl⟩ (Nat.le_of_ble_eq_true rfl) ?_
  show Rn g mdX12_ruleClause 4 [some (.ref 0), some (.int p0), none, none] [] (mW q2) 0 0 none (mW q)
  refine o_aload_n (pc := 4) dX12_ruleClause_4 rfl ?_
  refine m_getI (pc := 5) 27 (by decide) rfl lkX12_227 dX12_ruleClause_5 ?_
  refine lz_i hf (fun v3 hf => ?_)
  refine o_istore_n (pc := 8) dX12_ruleClause_8 (by decide) rfl ?_
  show Rn g mdX12_ruleClause 9 [some (.ref 0), some (.int p0), some (.int v3), none] [] (mW q2) 0 0 none (mW q)
  refine o_aload_n (pc := 9) dX12_ruleClause_9 rfl ?_
  refine o_ldcSw (pc := 10) (i := 29) dX12_ruleClause_10 rfl rfl rfl ?_
  show Rn g mdX12_ruleClause 13 [some (.ref 0), some (.int p0), some (.int v3), none] [.ref 1000029, .ref 0] (mW q2) 0 0 none (mW q)
  obtain ⟨q5, hk4, hf⟩ := bd_elim hf
  refine m_callV (pc := 13) [.ref 1000029] dX12_ruleClause_13 (kX12_stood hk4) stX12_249 ⟨by decide, by decide, by decide, by decide⟩ ⟨rfl, rfl⟩ (Nat.le_of_ble_eq_true rfl) ?_
  show Rn g mdX12_ruleClause 16 [some (.ref 0), some (.int p0), some (.int v3), none] [.int q5] (mW q2) 0 0 none (mW q)
  refine o_if_ne (pc := 16) 26 dX12_ruleClause_16 rfl (fun hc => ?_) (fun hc => ?_)
  · have hf := it_f hf hc
    refine o_iload_n (pc := 26) dX12_ruleClause_26 rfl ?_
    refine o_bipush (pc := 27) (v := 12) dX12_ruleClause_27 rfl ?_
    refine o_icmp_ne (pc := 29) 39 dX12_ruleClause_29 rfl (fun hc => ?_) (fun hc => ?_)
    · have hf := it_f hf hc
      refine o_aload_n (pc := 39) dX12_ruleClause_39 rfl ?_
      refine o_dup (pc := 40) dX12_ruleClause_40 rfl ?_
      refine m_getI (pc := 41) 27 (by decide) rfl lkX12_227 dX12_ruleClause_41 ?_
      refine o_iconst (pc := 44) (v := 4) dX12_ruleClause_44 rfl ?_
      refine o_iadd (pc := 45) dX12_ruleClause_45 ?_
      refine m_putI (pc := 46) 27 (by decide) rfl rfl lkX12_227 ⟨rfl, rfl⟩ dX12_ruleClause_46 ?_
      refine lz_s (mW) hf (fun s6 hf => ?_)
      show Rn g mdX12_ruleClause 49 [some (.ref 0), some (.int p0), some (.int v3), none] [] (mW s6) 0 0 none (mW q)
      refine o_bipush (pc := 49) (v := 12) dX12_ruleClause_49 rfl ?_
      refine o_aload_n (pc := 51) dX12_ruleClause_51 rfl ?_
      refine m_getI (pc := 52) 29 (by decide) rfl lkX12_253 dX12_ruleClause_52 ?_
      refine o_imul (pc := 55) dX12_ruleClause_55 ?_
      refine o_iload_n (pc := 56) dX12_ruleClause_56 rfl ?_
      refine o_iadd (pc := 57) dX12_ruleClause_57 ?_
      refine lz_i hf (fun v7 hf => ?_)
      refine o_istore_n (pc := 58) dX12_ruleClause_58 (by decide) rfl ?_
      show Rn g mdX12_ruleClause 59 [some (.ref 0), some (.int p0), some (.int v3), some (.int v7)] [] (mW s6) 0 0 none (mW q)
      refine o_aload_n (pc := 59) dX12_ruleClause_59 rfl ?_
      refine m_getA (pc := 60) 40 30 (by decide) rfl rfl lkX12_102 dX12_ruleClause_60 ?_
      refine o_iload_n (pc := 63) dX12_ruleClause_63 rfl ?_
      refine o_aload_n (pc := 64) dX12_ruleClause_64 rfl ?_
      refine m_getI (pc := 65) 31 (by decide) rfl lkX12_256 dX12_ruleClause_65 ?_
      obtain ⟨hk8, hf⟩ := ck_elim hf
      refine m_iast (pc := 68) (by decide) rfl hk8 dX12_ruleClause_68 ?_
      refine lz_s (mW) hf (fun s9 hf => ?_)
      show Rn g mdX12_ruleClause 69 [some (.ref 0), some (.int p0), some (.int v3), some (.int v7)] [] (mW s9) 0 0 none (mW q)
      refine o_aload_n (pc := 69) dX12_ruleClause_69 rfl ?_
      obtain ⟨q11, hk10, hf⟩ := bd_elim hf
      refine m_callV (pc := 70) [] dX12_ruleClause_70 (kX12_sum hk10) stX12_291 ⟨by decide, by decide, by decide, by decide⟩ ⟨rfl, rfl⟩ (Nat.le_of_ble_eq_true rfl) ?_
      show Rn g mdX12_ruleClause 73 [some (.ref 0), some (.int p0), some (.int v3), some (.int v7)] [] (mW q11) 0 0 none (mW q)
      refine o_aload_n (pc := 73) dX12_ruleClause_73 rfl ?_
      refine m_getA (pc := 74) 41 31 (by decide) rfl rfl lkX12_105 dX12_ruleClause_74 ?_
      refine o_iload_n (pc := 77) dX12_ruleClause_77 rfl ?_
      refine o_aload_n (pc := 78) dX12_ruleClause_78 rfl ?_
      refine m_getI (pc := 79) 31 (by decide) rfl lkX12_256 dX12_ruleClause_79 ?_
      obtain ⟨hk12, hf⟩ := ck_elim hf
      refine m_iast (pc := 82) (by decide) rfl hk12 dX12_ruleClause_82 ?_
      refine lz_s (mW) hf (fun s13 hf => ?_)
      show Rn g mdX12_ruleClause 83 [some (.ref 0), some (.int p0), some (.int v3), some (.int v7)] [] (mW s13) 0 0 none (mW q)
      refine o_aload_n (pc := 83) dX12_ruleClause_83 rfl ?_
      refine m_getI (pc := 84) 28 (by decide) rfl lkX12_224 dX12_ruleClause_84 ?_
      obtain ⟨w14, hr15, hf⟩ := bd_elim hf
      have K16 : Rn g mdX12_ruleClause 104 [some (.ref 0), none, none, some (.int v7)] [] (mW w14) 0 0 none (mW q) := by
        refine o_aload_n (pc := 104) dX12_ruleClause_104 rfl ?_
        refine m_getA (pc := 105) 42 32 (by decide) rfl rfl lkX12_108 dX12_ruleClause_105 ?_
        refine o_iload_n (pc := 108) dX12_ruleClause_108 rfl ?_
        refine o_aload_n (pc := 109) dX12_ruleClause_109 rfl ?_
        refine m_getI (pc := 110) 31 (by decide) rfl lkX12_256 dX12_ruleClause_110 ?_
        obtain ⟨hk21, hf⟩ := ck_elim hf
        refine m_iast (pc := 113) (by decide) rfl hk21 dX12_ruleClause_113 ?_
        refine lz_s (mW) hf (fun s22 hf => ?_)
        show Rn g mdX12_ruleClause 114 [some (.ref 0), none, none, some (.int v7)] [] (mW s22) 0 0 none (mW q)
        obtain rfl := Option.some.inj hf
        exact o_return (pc := 114) dX12_ruleClause_114 rfl (Nat.zero_le _) (Nat.zero_le _)
      clear hf
      refine o_if_ne (pc := 87) 104 dX12_ruleClause_87 rfl (fun hc => ?_) (fun hc => ?_)
      · have hr15 := it_f hr15 hc
        obtain rfl := Option.some.inj hr15
        refine o_keep [true, false, false, true] ?_
        exact K16
      · have hr15 := it_t hr15 hc
        refine o_aload_n (pc := 90) dX12_ruleClause_90 rfl ?_
        refine o_ldcSw (pc := 91) (i := 42) dX12_ruleClause_91 rfl rfl rfl ?_
        show Rn g mdX12_ruleClause 94 [some (.ref 0), some (.int p0), some (.int v3), some (.int v7)] [.ref 1000042, .ref 0] (mW s13) 0 0 none (mW q)
        obtain ⟨q18, hk17, hr15⟩ := bd_elim hr15
        refine m_callV (pc := 94) [.ref 1000042] dX12_ruleClause_94 (kX12_takes hk17) stX12_373 ⟨by decide, by decide, by decide, by decide⟩ ⟨rfl, rfl⟩ (Nat.le_of_ble_eq_true rfl) ?_
        show Rn g mdX12_ruleClause 97 [some (.ref 0), some (.int p0), some (.int v3), some (.int v7)] [.int q18.1] (mW q18.2) 0 0 none (mW q)
        refine o_if_eq (pc := 97) 104 dX12_ruleClause_97 rfl (fun hc => ?_) (fun hc => ?_)
        · have hr15 := it_t hr15 hc
          obtain rfl := Option.some.inj hr15
          refine o_keep [true, false, false, true] ?_
          exact K16
        · have hr15 := it_f hr15 hc
          refine o_aload_n (pc := 100) dX12_ruleClause_100 rfl ?_
          obtain ⟨q20, hk19, hr15⟩ := bd_elim hr15
          refine m_callV (pc := 101) [] dX12_ruleClause_101 (kX12_test hk19) stX12_376 ⟨by decide, by decide, by decide, by decide⟩ ⟨rfl, rfl⟩ (Nat.le_of_ble_eq_true rfl) ?_
          show Rn g mdX12_ruleClause 104 [some (.ref 0), some (.int p0), some (.int v3), some (.int v7)] [] (mW q20) 0 0 none (mW q)
          obtain rfl := Option.some.inj hr15
          refine o_keep [true, false, false, true] ?_
          exact K16
    · have hf := it_t hf hc
      refine o_aload_n (pc := 32) dX12_ruleClause_32 rfl ?_
      refine o_iconst (pc := 33) (v := 4) dX12_ruleClause_33 rfl ?_
      refine o_iload_n (pc := 34) dX12_ruleClause_34 rfl ?_
      obtain ⟨q24, hk23, hf⟩ := bd_elim hf
      refine m_callV (pc := 35) [.int 4, .int v3] dX12_ruleClause_35 (kX12_fails hk23) stX12_262 ⟨by decide, by decide, by decide, by decide⟩ ⟨rfl, rfl⟩ (Nat.le_of_ble_eq_true rfl) ?_
      show Rn g mdX12_ruleClause 38 [some (.ref 0), some (.int p0), some (.int v3), none] [] (mW q24) 0 0 none (mW q)
      obtain rfl := Option.some.inj hf
      exact o_return (pc := 38) dX12_ruleClause_38 rfl (Nat.zero_le _) (Nat.zero_le _)
  · have hf := it_t hf hc
    refine o_aload_n (pc := 19) dX12_ruleClause_19 rfl ?_
    refine o_iconst (pc := 20) (v := 0) dX12_ruleClause_20 rfl ?_
    refine o_iload_n (pc := 21) dX12_ruleClause_21 rfl ?_
    obtain ⟨q26, hk25, hf⟩ := bd_elim hf
    refine m_callV (pc := 22) [.int 0, .int v3] dX12_ruleClause_22 (kX12_fails hk25) stX12_262 ⟨by decide, by decide, by decide, by decide⟩ ⟨rfl, rfl⟩ (Nat.le_of_ble_eq_true rfl) ?_
    show Rn g mdX12_ruleClause 25 [some (.ref 0), some (.int p0), some (.int v3), none] [] (mW q26) 0 0 none (mW q)
    obtain rfl := Option.some.inj hf
    exact o_return (pc := 25) dX12_ruleClause_25 rfl (Nat.zero_le _) (Nat.zero_le _)
def fX12_rule_L27 : Nat → Int32 → Int32 → ST → Option (Int32 × Int32 × ST)
  | 0, _, _, _ => none
  | n + 1, x1, x2, s => if x2 = 0 then some (x1, x2, s) else (fX12_ruleClause x1 s).bind (fun q5 => lt (x1 + 1) (fun v6 => (fX12_goesOn q5).bind (fun q8 => fX12_rule_L27 n v6 q8.1 q8.2)))
def fX12_rule (s : ST) : Option (Int32 × ST) :=
  if (gi s 0 30) = 6 then some ((-1), s) else lt (si s 0 29 (gi s 0 30)) (fun s1 => (fX12_starts s1).bind (fun q3 => (fX12_rule_L27 FUEL 0 1 q3).bind (fun w9 => lt (si w9.2.2 0 26 0) (fun s12 => ck (inb (gi s12 0 29) 6) (lt (si s12 29 (ix (gi s12 0 29)) w9.1) (fun s14 => (if (gi s14 0 28) = 0 then some 1 else some 0 : Option (Int32)).bind (fun w15 => lt (si s14 0 30 ((gi s14 0 30) + w15)) (fun s18 => (if (gi s18 0 28) ≤ 0 then some ((gi s18 0 30) - 1) else some ((-2) - (gi s18 0 28)) : Option (Int32)).bind (fun w19 => some (w19, s18))))))))))
set_option maxRecDepth 20000 in
theorem kX12_rule_L27 {g : GX} {r : Option Value} {h2 : PH} : ∀ (n : Nat) (x1 : Int32) (x2 : Int32) (s : ST) {w : Int32 × Int32 × ST}, fX12_rule_L27 n x1 x2 s = some w → Rn g mdX12_rule 47 [some (.ref 0), some (.int w.1), none] [] (mW w.2.2) 0 0 r h2 → Rn g mdX12_rule 27 [some (.ref 0), some (.int x1), some (.int x2)] [] (mW s) 0 0 r h2 := by
  intro n
  induction n with
  | zero => intro x1 x2 s w hf K; cases hf
  | succ n ih =>
    intro x1 x2 s w hf K
    rw [fX12_rule_L27] at hf
    refine o_iload_n (pc := 27) dX12_rule_27 rfl ?_
    refine o_if_eq (pc := 28) 47 dX12_rule_28 rfl (fun hc => ?_) (fun hc => ?_)
    · have hf := it_t hf hc
      obtain rfl := Option.some.inj hf
      refine o_keep [true, true, false] ?_
      exact K
    · have hf := it_f hf hc
      refine o_aload_n (pc := 31) dX12_rule_31 rfl ?_
      refine o_iload_n (pc := 32) dX12_rule_32 rfl ?_
      obtain ⟨q5, hk4, hf⟩ := bd_elim hf
      refine m_callV (pc := 33) [.int x1] dX12_rule_33 (kX12_ruleClause hk4) stX12_382 ⟨by decide, by decide, by decide, by decide⟩ ⟨rfl, rfl⟩ (Nat.le_of_ble_eq_true rfl) ?_
      show Rn g mdX12_rule 36 [some (.ref 0), some (.int x1), some (.int x2)] [] (mW q5) 0 0 r h2
      refine o_iinc (pc := 36) dX12_rule_36 rfl (by decide) rfl ?_
      show Rn g mdX12_rule 39 [some (.ref 0), some (.int (x1 + 1)), some (.int x2)] [] (mW q5) 0 0 r h2
      obtain ⟨v6, ev6, hf⟩ := lt_elim hf
      rw [ev6]
      show Rn g mdX12_rule 39 [some (.ref 0), some (.int v6), some (.int x2)] [] (mW q5) 0 0 r h2
      refine o_aload_n (pc := 39) dX12_rule_39 rfl ?_
      obtain ⟨q8, hk7, hf⟩ := bd_elim hf
      refine m_callV (pc := 40) [] dX12_rule_40 (kX12_goesOn hk7) stX12_353 ⟨by decide, by decide, by decide, by decide⟩ ⟨rfl, rfl⟩ (Nat.le_of_ble_eq_true rfl) ?_
      show Rn g mdX12_rule 43 [some (.ref 0), some (.int v6), some (.int x2)] [.int q8.1] (mW q8.2) 0 0 r h2
      refine o_istore_n (pc := 43) dX12_rule_43 (by decide) rfl ?_
      show Rn g mdX12_rule 44 [some (.ref 0), some (.int v6), some (.int q8.1)] [] (mW q8.2) 0 0 r h2
      refine o_goto (pc := 44) 27 dX12_rule_44 rfl ?_
      exact ih _ _ _ hf K
set_option maxRecDepth 20000 in
theorem kX12_rule {g : GX} {s : ST} {q : Int32 × ST} (hf : fX12_rule s = some q) : Cn g mdX12_rule [.ref 0] (mW s) (some (.int q.1)) (mW q.2) := by
  refine Cn.of (by decide) (Nat.le_of_ble_eq_true rfl) ?_
  show Rn g mdX12_rule 0 [some (.ref 0), none, none] [] (mW s) 0 0 (some (.int q.1)) (mW q.2)
  unfold fX12_rule at hf
  refine o_aload_n (pc := 0) dX12_rule_0 rfl ?_
  refine m_getI (pc := 1) 30 (by decide) rfl lkX12_379 dX12_rule_1 ?_
  refine o_bipush (pc := 4) (v := 6) dX12_rule_4 rfl ?_
  refine o_icmp_ne (pc := 6) 11 dX12_rule_6 rfl (fun hc => ?_) (fun hc => ?_)
  · have hf := it_f hf hc
    refine o_aload_n (pc := 11) dX12_rule_11 rfl ?_
    refine o_aload_n (pc := 12) dX12_rule_12 rfl ?_
    refine m_getI (pc := 13) 30 (by decide) rfl lkX12_379 dX12_rule_13 ?_
    refine m_putI (pc := 16) 29 (by decide) rfl rfl lkX12_253 ⟨rfl, rfl⟩ dX12_rule_16 ?_
    refine lz_s (mW) hf (fun s1 hf => ?_)
    show Rn g mdX12_rule 19 [some (.ref 0), none, none] [] (mW s1) 0 0 (some (.int q.1)) (mW q.2)
    refine o_aload_n (pc := 19) dX12_rule_19 rfl ?_
    obtain ⟨q3, hk2, hf⟩ := bd_elim hf
    refine m_callV (pc := 20) [] dX12_rule_20 (kX12_starts hk2) stX12_347 ⟨by decide, by decide, by decide, by decide⟩ ⟨rfl, rfl⟩ (Nat.le_of_ble_eq_true rfl) ?_
    show Rn g mdX12_rule 23 [some (.ref 0), none, none] [] (mW q3) 0 0 (some (.int q.1)) (mW q.2)
    refine o_iconst (pc := 23) (v := 0) dX12_rule_23 rfl ?_
    refine o_istore_n (pc := 24) dX12_rule_24 (by decide) rfl ?_
    show Rn g mdX12_rule 25 [some (.ref 0), some (.int 0), none] [] (mW q3) 0 0 (some (.int q.1)) (mW q.2)
    refine o_iconst (pc := 25) (v := 1) dX12_rule_25 rfl ?_
    refine o_istore_n (pc := 26) dX12_rule_26 (by decide) rfl ?_
    show Rn g mdX12_rule 27 [some (.ref 0), some (.int 0), some (.int 1)] [] (mW q3) 0 0 (some (.int q.1)) (mW q.2)
    obtain ⟨w9, hl10, hf⟩ := bd_elim hf
    have K11 : Rn g mdX12_rule 47 [some (.ref 0), some (.int w9.1), none] [] (mW w9.2.2) 0 0 (some (.int q.1)) (mW q.2) := by
      refine o_aload_n (pc := 47) dX12_rule_47 rfl ?_
      refine o_iconst (pc := 48) (v := 0) dX12_rule_48 rfl ?_
      refine m_putI (pc := 49) 26 (by decide) rfl rfl lkX12_195 ⟨rfl, rfl⟩ dX12_rule_49 ?_
      refine lz_s (mW) hf (fun s12 hf => ?_)
      show Rn g mdX12_rule 52 [some (.ref 0), some (.int w9.1), none] [] (mW s12) 0 0 (some (.int q.1)) (mW q.2)
      refine o_aload_n (pc := 52) dX12_rule_52 rfl ?_
      refine m_getA (pc := 53) 39 29 (by decide) rfl rfl lkX12_99 dX12_rule_53 ?_
      refine o_aload_n (pc := 56) dX12_rule_56 rfl ?_
      refine m_getI (pc := 57) 29 (by decide) rfl lkX12_253 dX12_rule_57 ?_
      refine o_iload_n (pc := 60) dX12_rule_60 rfl ?_
      obtain ⟨hk13, hf⟩ := ck_elim hf
      refine m_iast (pc := 61) (by decide) rfl hk13 dX12_rule_61 ?_
      refine lz_s (mW) hf (fun s14 hf => ?_)
      show Rn g mdX12_rule 62 [some (.ref 0), some (.int w9.1), none] [] (mW s14) 0 0 (some (.int q.1)) (mW q.2)
      refine o_aload_n (pc := 62) dX12_rule_62 rfl ?_
      refine o_dup (pc := 63) dX12_rule_63 rfl ?_
      refine m_getI (pc := 64) 30 (by decide) rfl lkX12_379 dX12_rule_64 ?_
      refine o_aload_n (pc := 67) dX12_rule_67 rfl ?_
      refine m_getI (pc := 68) 28 (by decide) rfl lkX12_224 dX12_rule_68 ?_
      obtain ⟨w15, hr16, hf⟩ := bd_elim hf
      have K17 : Rn g mdX12_rule 79 [some (.ref 0), none, none] [.int w15, .int (gi s14 0 30), .ref 0] (mW s14) 0 0 (some (.int q.1)) (mW q.2) := by
        refine o_iadd (pc := 79) dX12_rule_79 ?_
        refine m_putI (pc := 80) 30 (by decide) rfl rfl lkX12_379 ⟨rfl, rfl⟩ dX12_rule_80 ?_
        refine lz_s (mW) hf (fun s18 hf => ?_)
        show Rn g mdX12_rule 83 [some (.ref 0), none, none] [] (mW s18) 0 0 (some (.int q.1)) (mW q.2)
        refine o_aload_n (pc := 83) dX12_rule_83 rfl ?_
        refine m_getI (pc := 84) 28 (by decide) rfl lkX12_224 dX12_rule_84 ?_
        obtain ⟨w19, hr20, hf⟩ := bd_elim hf
        have K21 : Rn g mdX12_rule 106 [none, none, none] [.int w19] (mW s18) 0 0 (some (.int q.1)) (mW q.2) := by
          obtain rfl := Option.some.inj hf
          exact o_ireturn (pc := 106) dX12_rule_106 rfl (Nat.zero_le _) (Nat.zero_le _)
        clear hf
        refine o_if_le (pc := 87) 100 dX12_rule_87 rfl (fun hc => ?_) (fun hc => ?_)
        · have hr20 := it_t hr20 hc
          refine o_aload_n (pc := 100) dX12_rule_100 rfl ?_
          refine m_getI (pc := 101) 30 (by decide) rfl lkX12_379 dX12_rule_101 ?_
          refine o_iconst (pc := 104) (v := 1) dX12_rule_104 rfl ?_
          refine o_isub (pc := 105) dX12_rule_105 ?_
          obtain rfl := Option.some.inj hr20
          refine o_keep [false, false, false] ?_
          exact K21
        · have hr20 := it_f hr20 hc
          refine o_bipush (pc := 90) (v := (-2)) dX12_rule_90 rfl ?_
          refine o_aload_n (pc := 92) dX12_rule_92 rfl ?_
          refine m_getI (pc := 93) 28 (by decide) rfl lkX12_224 dX12_rule_93 ?_
          refine o_isub (pc := 96) dX12_rule_96 ?_
          refine o_goto (pc := 97) 106 dX12_rule_97 rfl ?_
          obtain rfl := Option.some.inj hr20
          refine o_keep [false, false, false] ?_
          exact K21
      clear hf
      refine o_if_ne (pc := 71) 78 dX12_rule_71 rfl (fun hc => ?_) (fun hc => ?_)
      · have hr16 := it_f hr16 hc
        refine o_iconst (pc := 78) (v := 0) dX12_rule_78 rfl ?_
        obtain rfl := Option.some.inj hr16
        refine o_keep [true, false, false] ?_
        exact K17
      · have hr16 := it_t hr16 hc
        refine o_iconst (pc := 74) (v := 1) dX12_rule_74 rfl ?_
        refine o_goto (pc := 75) 79 dX12_rule_75 rfl ?_
        obtain rfl := Option.some.inj hr16
        refine o_keep [true, false, false] ?_
        exact K17
    exact kX12_rule_L27 _ _ _ _ hl10 K11
  · have hf := it_t hf hc
    refine o_iconst (pc := 9) (v := (-1)) dX12_rule_9 rfl ?_
    obtain rfl := Option.some.inj hf
    exact o_ireturn (pc := 10) dX12_rule_10 rfl (Nat.zero_le _) (Nat.zero_le _)
def fX12_force (p0 : Int32) (s : ST) : Option (Int32 × ST) :=
  (fX12_in p0.toInt64 (-1) (((gi s 0 30) - 1).toInt64) s).bind (fun q2 => if q2 = 0 then some ((-2), s) else ck (inb 12 13) (lt (gi s 1 (ix 12) : Int32) (fun v4 => ck (inb 12 13) (lt (si s 1 (ix 12) p0) (fun s6 => some (v4, s6))))))
set_option maxRecDepth 20000 in
theorem kX12_force {g : GX} {p0 : Int32} {s : ST} {q : Int32 × ST} (hf : fX12_force p0 s = some q) : Cn g mdX12_force [.ref 0, .int p0] (mW s) (some (.int q.1)) (mW q.2) := by
  refine Cn.of (by decide) (Nat.le_of_ble_eq_true rfl) ?_
  show Rn g mdX12_force 0 [some (.ref 0), some (.int p0), none] [] (mW s) 0 0 (some (.int q.1)) (mW q.2)
  unfold fX12_force at hf
  refine o_iload_n (pc := 0) dX12_force_0 rfl ?_
  refine o_i2l (pc := 1) dX12_force_1 ?_
  refine o_ldc2 (pc := 2) dX12_force_2 lcX12_385 ?_
  refine o_aload_n (pc := 5) dX12_force_5 rfl ?_
  refine m_getI (pc := 6) 30 (by decide) rfl lkX12_379 dX12_force_6 ?_
  refine o_iconst (pc := 9) (v := 1) dX12_force_9 rfl ?_
  refine o_isub (pc := 10) dX12_force_10 ?_
  refine o_i2l (pc := 11) dX12_force_11 ?_
  obtain ⟨q2, hk1, hf⟩ := bd_elim hf
  refine m_callS (pc := 12) [.long p0.toInt64, .long (-1), .long (((gi s 0 30) - 1).toInt64)] dX12_force_12 (kX12_in hk1) stX12_191 ⟨by decide, by decide, by decide, by decide⟩ ⟨rfl, rfl⟩ (Nat.le_of_ble_eq_true rfl) ?_
  show Rn g mdX12_force 15 [some (.ref 0), some (.int p0), none] [.int q2] (mW s) 0 0 (some (.int q.1)) (mW q.2)
  refine o_if_ne (pc := 15) 21 dX12_force_15 rfl (fun hc => ?_) (fun hc => ?_)
  · have hf := it_f hf hc
    refine o_aload_n (pc := 21) dX12_force_21 rfl ?_
    refine m_getA (pc := 22) 1 1 (by decide) rfl rfl lkX12_9 dX12_force_22 ?_
    refine o_bipush (pc := 25) (v := 12) dX12_force_25 rfl ?_
    obtain ⟨hk3, hf⟩ := ck_elim hf
    refine m_iald (pc := 27) (by decide) rfl hk3 dX12_force_27 ?_
    refine lz_i hf (fun v4 hf => ?_)
    refine o_istore_n (pc := 28) dX12_force_28 (by decide) rfl ?_
    show Rn g mdX12_force 29 [some (.ref 0), some (.int p0), some (.int v4)] [] (mW s) 0 0 (some (.int q.1)) (mW q.2)
    refine o_aload_n (pc := 29) dX12_force_29 rfl ?_
    refine m_getA (pc := 30) 1 1 (by decide) rfl rfl lkX12_9 dX12_force_30 ?_
    refine o_bipush (pc := 33) (v := 12) dX12_force_33 rfl ?_
    refine o_iload_n (pc := 35) dX12_force_35 rfl ?_
    obtain ⟨hk5, hf⟩ := ck_elim hf
    refine m_iast (pc := 36) (by decide) rfl hk5 dX12_force_36 ?_
    refine lz_s (mW) hf (fun s6 hf => ?_)
    show Rn g mdX12_force 37 [some (.ref 0), some (.int p0), some (.int v4)] [] (mW s6) 0 0 (some (.int q.1)) (mW q.2)
    refine o_iload_n (pc := 37) dX12_force_37 rfl ?_
    obtain rfl := Option.some.inj hf
    exact o_ireturn (pc := 38) dX12_force_38 rfl (Nat.zero_le _) (Nat.zero_le _)
  · have hf := it_t hf hc
    refine o_bipush (pc := 18) (v := (-2)) dX12_force_18 rfl ?_
    obtain rfl := Option.some.inj hf
    exact o_ireturn (pc := 20) dX12_force_20 rfl (Nat.zero_le _) (Nat.zero_le _)
