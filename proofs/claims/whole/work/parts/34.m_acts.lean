def fX12_meetingsOf_L4 (a1 : Int32) : Nat → Int32 → Int32 → ST → Option (Int32 × Int32)
  | 0, _, _, _ => none
  | n + 1, x2, x3, s => ck (inb 4 13) (if (gi s 1 (ix 4)) ≤ x3 then some (x2, x3) else (fX12_isIn a1 x3 s).bind (fun q3 => (if q3 = 0 then some 0 else some (1 <<< (x3 &&& 31)) : Option (Int32)).bind (fun w4 => lt (x2 ||| w4 : Int32) (fun v7 => lt (x3 + 1) (fun v8 => fX12_meetingsOf_L4 a1 n v7 v8 s)))))
def fX12_meetingsOf (p0 : Int32) (s : ST) : Option (Int32) :=
  (fX12_meetingsOf_L4 p0 FUEL 0 0 s).bind (fun w9 => some w9.1)
set_option maxRecDepth 20000 in
theorem kX12_meetingsOf_L4 {g : GX} (a1 : Int32) (s : ST) {r : Option Value} {h2 : PH} : ∀ (n : Nat) (x2 : Int32) (x3 : Int32) {w : Int32 × Int32}, fX12_meetingsOf_L4 a1 n x2 x3 s = some w → Rn g mdX12_meetingsOf 39 [none, none, some (.int w.1), none] [] (mW s) 0 0 r h2 → Rn g mdX12_meetingsOf 4 [some (.ref 0), some (.int a1), some (.int x2), some (.int x3)] [] (mW s) 0 0 r h2 := by
  intro n
  induction n with
  | zero => intro x2 x3 w hf K; cases hf
  | succ n ih =>
    intro x2 x3 w hf K
    rw [fX12_meetingsOf_L4] at hf
    refine o_iload_n (pc := 4) dX12_meetingsOf_4 rfl ?_
    refine o_aload_n (pc := 5) dX12_meetingsOf_5 rfl ?_
    refine m_getA (pc := 6) 1 1 (by decide) rfl rfl lkX12_9 dX12_meetingsOf_6 ?_
    refine o_iconst (pc := 9) (v := 4) dX12_meetingsOf_9 rfl ?_
    obtain ⟨hk1, hf⟩ := ck_elim hf
    refine m_iald (pc := 10) (by decide) rfl hk1 dX12_meetingsOf_10 ?_
    refine o_icmp_ge (pc := 11) 39 dX12_meetingsOf_11 rfl (fun hc => ?_) (fun hc => ?_)
    · have hf := it_t hf hc
      obtain rfl := Option.some.inj hf
      refine o_keep [false, false, true, false] ?_
      exact K
    · have hf := it_f hf hc
      refine o_iload_n (pc := 14) dX12_meetingsOf_14 rfl ?_
      refine o_aload_n (pc := 15) dX12_meetingsOf_15 rfl ?_
      refine o_iload_n (pc := 16) dX12_meetingsOf_16 rfl ?_
      refine o_iload_n (pc := 17) dX12_meetingsOf_17 rfl ?_
      obtain ⟨q3, hk2, hf⟩ := bd_elim hf
      refine m_callV (pc := 18) [.int a1, .int x3] dX12_meetingsOf_18 (kX12_isIn hk2) stX12_455 ⟨by decide, by decide, by decide, by decide⟩ ⟨rfl, rfl⟩ (Nat.le_of_ble_eq_true rfl) ?_
      show Rn g mdX12_meetingsOf 21 [some (.ref 0), some (.int a1), some (.int x2), some (.int x3)] [.int q3, .int x2] (mW s) 0 0 r h2
      obtain ⟨w4, hr5, hf⟩ := bd_elim hf
      have K6 : Rn g mdX12_meetingsOf 31 [some (.ref 0), some (.int a1), none, some (.int x3)] [.int w4, .int x2] (mW s) 0 0 r h2 := by
        refine o_ior (pc := 31) dX12_meetingsOf_31 ?_
        refine lz_i hf (fun v7 hf => ?_)
        refine o_istore_n (pc := 32) dX12_meetingsOf_32 (by decide) rfl ?_
        show Rn g mdX12_meetingsOf 33 [some (.ref 0), some (.int a1), some (.int v7), some (.int x3)] [] (mW s) 0 0 r h2
        refine o_iinc (pc := 33) dX12_meetingsOf_33 rfl (by decide) rfl ?_
        show Rn g mdX12_meetingsOf 36 [some (.ref 0), some (.int a1), some (.int v7), some (.int (x3 + 1))] [] (mW s) 0 0 r h2
        obtain ⟨v8, ev8, hf⟩ := lt_elim hf
        rw [ev8]
        show Rn g mdX12_meetingsOf 36 [some (.ref 0), some (.int a1), some (.int v7), some (.int v8)] [] (mW s) 0 0 r h2
        refine o_goto (pc := 36) 4 dX12_meetingsOf_36 rfl ?_
        exact ih _ _ hf K
      clear hf
      refine o_if_eq (pc := 21) 30 dX12_meetingsOf_21 rfl (fun hc => ?_) (fun hc => ?_)
      · have hr5 := it_t hr5 hc
        refine o_iconst (pc := 30) (v := 0) dX12_meetingsOf_30 rfl ?_
        obtain rfl := Option.some.inj hr5
        refine o_keep [true, true, false, true] ?_
        exact K6
      · have hr5 := it_f hr5 hc
        refine o_iconst (pc := 24) (v := 1) dX12_meetingsOf_24 rfl ?_
        refine o_iload_n (pc := 25) dX12_meetingsOf_25 rfl ?_
        refine o_ishl (pc := 26) dX12_meetingsOf_26 ?_
        refine o_goto (pc := 27) 31 dX12_meetingsOf_27 rfl ?_
        obtain rfl := Option.some.inj hr5
        refine o_keep [true, true, false, true] ?_
        exact K6
set_option maxRecDepth 20000 in
theorem kX12_meetingsOf {g : GX} {p0 : Int32} {s : ST} {q : Int32} (hf : fX12_meetingsOf p0 s = some q) : Cn g mdX12_meetingsOf [.ref 0, .int p0] (mW s) (some (.int q)) (mW s) := by
  refine Cn.of (by decide) (Nat.le_of_ble_eq_true rfl) ?_
  show Rn g mdX12_meetingsOf 0 [some (.ref 0), some (.int p0), none, none] [] (mW s) 0 0 (some (.int q)) (mW s)
  unfold fX12_meetingsOf at hf
  refine o_iconst (pc := 0) (v := 0) dX12_meetingsOf_0 rfl ?_
  refine o_istore_n (pc := 1) dX12_meetingsOf_1 (by decide) rfl ?_
  show Rn g mdX12_meetingsOf 2 [some (.ref 0), some (.int p0), some (.int 0), none] [] (mW s) 0 0 (some (.int q)) (mW s)
  refine o_iconst (pc := 2) (v := 0) dX12_meetingsOf_2 rfl ?_
  refine o_istore_n (pc := 3) dX12_meetingsOf_3 (by decide) rfl ?_
  show Rn g mdX12_meetingsOf 4 [some (.ref 0), some (.int p0), some (.int 0), some (.int 0)] [] (mW s) 0 0 (some (.int q)) (mW s)
  obtain ⟨w9, hl10, hf⟩ := bd_elim hf
  have K11 : Rn g mdX12_meetingsOf 39 [none, none, some (.int w9.1), none] [] (mW s) 0 0 (some (.int q)) (mW s) := by
    refine o_iload_n (pc := 39) dX12_meetingsOf_39 rfl ?_
    obtain rfl := Option.some.inj hf
    exact o_ireturn (pc := 40) dX12_meetingsOf_40 rfl (Nat.zero_le _) (Nat.zero_le _)
  exact kX12_meetingsOf_L4 _ _ _ _ _ hl10 K11
def fX12_person (p0 : Int32) (p1 : Int32) (s : ST) : Option (Int32) :=
  (fX12_isPerson p0 s).bind (fun q2 => if q2 = 0 then some (-1000) else if p1 = 0 then ck (inb p0 5) (some (gi s 2 (ix p0))) else if p1 = 1 then ck (inb p0 5) (some (gi s 3 (ix p0))) else if p1 = 2 then ck (inb 8 13) ((fX12_has (gi s 1 (ix 8)) p0 s).bind (fun q10 => (if q10 = 0 then some 0 else some 1 : Option (Int32)).bind (fun w11 => some w11))) else if p1 = 3 then ck (inb p0 5) (some (gi s 4 (ix p0))) else if p1 = 4 then ck (inb p0 5) (some (gi s 5 (ix p0))) else if p1 = 5 then ck (inb p0 5) (some (gi s 6 (ix p0))) else if p1 = 6 then (fX12_meetingsOf p0 s).bind (fun q22 => some q22) else some (-1000))
set_option maxRecDepth 20000 in
theorem kX12_person {g : GX} {p0 : Int32} {p1 : Int32} {s : ST} {q : Int32} (hf : fX12_person p0 p1 s = some q) : Cn g mdX12_person [.ref 0, .int p0, .int p1] (mW s) (some (.int q)) (mW s) := by
  refine Cn.of (by decide) (Nat.le_of_ble_eq_true rfl) ?_
  show Rn g mdX12_person 0 [some (.ref 0), some (.int p0), some (.int p1)] [] (mW s) 0 0 (some (.int q)) (mW s)
  unfold fX12_person at hf
  refine o_aload_n (pc := 0) dX12_person_0 rfl ?_
  refine o_iload_n (pc := 1) dX12_person_1 rfl ?_
  obtain ⟨q2, hk1, hf⟩ := bd_elim hf
  refine m_callV (pc := 2) [.int p0] dX12_person_2 (kX12_isPerson hk1) stX12_458 ⟨by decide, by decide, by decide, by decide⟩ ⟨rfl, rfl⟩ (Nat.le_of_ble_eq_true rfl) ?_
  show Rn g mdX12_person 5 [some (.ref 0), some (.int p0), some (.int p1)] [.int q2] (mW s) 0 0 (some (.int q)) (mW s)
  refine o_if_ne (pc := 5) 12 dX12_person_5 rfl (fun hc => ?_) (fun hc => ?_)
  · have hf := it_f hf hc
    refine o_iload_n (pc := 12) dX12_person_12 rfl ?_
    by_cases hx3 : p1 = 0
    · have hf := it_t hf hx3
      refine o_tableIn (pc := 13) 56 dX12_person_13 (by rw [hx3] <;> decide) (by rw [hx3] <;> decide) (by rw [hx3] <;> rfl) rfl ?_
      refine o_aload_n (pc := 56) dX12_person_56 rfl ?_
      refine m_getA (pc := 57) 2 2 (by decide) rfl rfl lkX12_13 dX12_person_57 ?_
      refine o_iload_n (pc := 60) dX12_person_60 rfl ?_
      obtain ⟨hk4, hf⟩ := ck_elim hf
      refine m_iald (pc := 61) (by decide) rfl hk4 dX12_person_61 ?_
      obtain rfl := Option.some.inj hf
      exact o_ireturn (pc := 62) dX12_person_62 rfl (Nat.zero_le _) (Nat.zero_le _)
    have hf := it_f hf hx3
    by_cases hx5 : p1 = 1
    · have hf := it_t hf hx5
      refine o_tableIn (pc := 13) 63 dX12_person_13 (by rw [hx5] <;> decide) (by rw [hx5] <;> decide) (by rw [hx5] <;> rfl) rfl ?_
      refine o_aload_n (pc := 63) dX12_person_63 rfl ?_
      refine m_getA (pc := 64) 3 3 (by decide) rfl rfl lkX12_16 dX12_person_64 ?_
      refine o_iload_n (pc := 67) dX12_person_67 rfl ?_
      obtain ⟨hk6, hf⟩ := ck_elim hf
      refine m_iald (pc := 68) (by decide) rfl hk6 dX12_person_68 ?_
      obtain rfl := Option.some.inj hf
      exact o_ireturn (pc := 69) dX12_person_69 rfl (Nat.zero_le _) (Nat.zero_le _)
    have hf := it_f hf hx5
    by_cases hx7 : p1 = 2
    · have hf := it_t hf hx7
      refine o_tableIn (pc := 13) 70 dX12_person_13 (by rw [hx7] <;> decide) (by rw [hx7] <;> decide) (by rw [hx7] <;> rfl) rfl ?_
      refine o_aload_n (pc := 70) dX12_person_70 rfl ?_
      refine m_getA (pc := 71) 1 1 (by decide) rfl rfl lkX12_9 dX12_person_71 ?_
      refine o_bipush (pc := 74) (v := 8) dX12_person_74 rfl ?_
      obtain ⟨hk8, hf⟩ := ck_elim hf
      refine m_iald (pc := 76) (by decide) rfl hk8 dX12_person_76 ?_
      refine o_iload_n (pc := 77) dX12_person_77 rfl ?_
      obtain ⟨q10, hk9, hf⟩ := bd_elim hf
      refine m_callS (pc := 78) [.int (gi s 1 (ix 8)), .int p0] dX12_person_78 (kX12_has hk9) stX12_403 ⟨by decide, by decide, by decide, by decide⟩ ⟨rfl, rfl⟩ (Nat.le_of_ble_eq_true rfl) ?_
      show Rn g mdX12_person 81 [some (.ref 0), some (.int p0), some (.int p1)] [.int q10] (mW s) 0 0 (some (.int q)) (mW s)
      obtain ⟨w11, hr12, hf⟩ := bd_elim hf
      have K13 : Rn g mdX12_person 89 [none, none, none] [.int w11] (mW s) 0 0 (some (.int q)) (mW s) := by
        obtain rfl := Option.some.inj hf
        exact o_ireturn (pc := 89) dX12_person_89 rfl (Nat.zero_le _) (Nat.zero_le _)
      clear hf
      refine o_if_eq (pc := 81) 88 dX12_person_81 rfl (fun hc => ?_) (fun hc => ?_)
      · have hr12 := it_t hr12 hc
        refine o_iconst (pc := 88) (v := 0) dX12_person_88 rfl ?_
        obtain rfl := Option.some.inj hr12
        refine o_keep [false, false, false] ?_
        exact K13
      · have hr12 := it_f hr12 hc
        refine o_iconst (pc := 84) (v := 1) dX12_person_84 rfl ?_
        refine o_goto (pc := 85) 89 dX12_person_85 rfl ?_
        obtain rfl := Option.some.inj hr12
        refine o_keep [false, false, false] ?_
        exact K13
    have hf := it_f hf hx7
    by_cases hx14 : p1 = 3
    · have hf := it_t hf hx14
      refine o_tableIn (pc := 13) 90 dX12_person_13 (by rw [hx14] <;> decide) (by rw [hx14] <;> decide) (by rw [hx14] <;> rfl) rfl ?_
      refine o_aload_n (pc := 90) dX12_person_90 rfl ?_
      refine m_getA (pc := 91) 4 4 (by decide) rfl rfl lkX12_19 dX12_person_91 ?_
      refine o_iload_n (pc := 94) dX12_person_94 rfl ?_
      obtain ⟨hk15, hf⟩ := ck_elim hf
      refine m_iald (pc := 95) (by decide) rfl hk15 dX12_person_95 ?_
      obtain rfl := Option.some.inj hf
      exact o_ireturn (pc := 96) dX12_person_96 rfl (Nat.zero_le _) (Nat.zero_le _)
    have hf := it_f hf hx14
    by_cases hx16 : p1 = 4
    · have hf := it_t hf hx16
      refine o_tableIn (pc := 13) 97 dX12_person_13 (by rw [hx16] <;> decide) (by rw [hx16] <;> decide) (by rw [hx16] <;> rfl) rfl ?_
      refine o_aload_n (pc := 97) dX12_person_97 rfl ?_
      refine m_getA (pc := 98) 5 5 (by decide) rfl rfl lkX12_22 dX12_person_98 ?_
      refine o_iload_n (pc := 101) dX12_person_101 rfl ?_
      obtain ⟨hk17, hf⟩ := ck_elim hf
      refine m_iald (pc := 102) (by decide) rfl hk17 dX12_person_102 ?_
      obtain rfl := Option.some.inj hf
      exact o_ireturn (pc := 103) dX12_person_103 rfl (Nat.zero_le _) (Nat.zero_le _)
    have hf := it_f hf hx16
    by_cases hx18 : p1 = 5
    · have hf := it_t hf hx18
      refine o_tableIn (pc := 13) 104 dX12_person_13 (by rw [hx18] <;> decide) (by rw [hx18] <;> decide) (by rw [hx18] <;> rfl) rfl ?_
      refine o_aload_n (pc := 104) dX12_person_104 rfl ?_
      refine m_getA (pc := 105) 6 6 (by decide) rfl rfl lkX12_25 dX12_person_105 ?_
      refine o_iload_n (pc := 108) dX12_person_108 rfl ?_
      obtain ⟨hk19, hf⟩ := ck_elim hf
      refine m_iald (pc := 109) (by decide) rfl hk19 dX12_person_109 ?_
      obtain rfl := Option.some.inj hf
      exact o_ireturn (pc := 110) dX12_person_110 rfl (Nat.zero_le _) (Nat.zero_le _)
    have hf := it_f hf hx18
    by_cases hx20 : p1 = 6
    · have hf := it_t hf hx20
      refine o_tableIn (pc := 13) 111 dX12_person_13 (by rw [hx20] <;> decide) (by rw [hx20] <;> decide) (by rw [hx20] <;> rfl) rfl ?_
      refine o_aload_n (pc := 111) dX12_person_111 rfl ?_
      refine o_iload_n (pc := 112) dX12_person_112 rfl ?_
      obtain ⟨q22, hk21, hf⟩ := bd_elim hf
      refine m_callV (pc := 113) [.int p0] dX12_person_113 (kX12_meetingsOf hk21) stX12_462 ⟨by decide, by decide, by decide, by decide⟩ ⟨rfl, rfl⟩ (Nat.le_of_ble_eq_true rfl) ?_
      show Rn g mdX12_person 116 [some (.ref 0), some (.int p0), some (.int p1)] [.int q22] (mW s) 0 0 (some (.int q)) (mW s)
      obtain rfl := Option.some.inj hf
      exact o_ireturn (pc := 116) dX12_person_116 rfl (Nat.zero_le _) (Nat.zero_le _)
    have hf := it_f hf hx20
    refine o_tableOut (pc := 13) 117 dX12_person_13 (sw_out 0 6 (fun n hn => ?_)) rfl ?_
    · match n, hn with
      | 0, _ => exact sw_ne hx3 rfl
      | 1, _ => exact sw_ne hx5 rfl
      | 2, _ => exact sw_ne hx7 rfl
      | 3, _ => exact sw_ne hx14 rfl
      | 4, _ => exact sw_ne hx16 rfl
      | 5, _ => exact sw_ne hx18 rfl
      | 6, _ => exact sw_ne hx20 rfl
      | n + 7, h => exact absurd h (by omega)
    · refine o_sipush (pc := 117) (v := (-1000)) dX12_person_117 rfl ?_
      obtain rfl := Option.some.inj hf
      exact o_ireturn (pc := 120) dX12_person_120 rfl (Nat.zero_le _) (Nat.zero_le _)
  · have hf := it_t hf hc
    refine o_sipush (pc := 8) (v := (-1000)) dX12_person_8 rfl ?_
    obtain rfl := Option.some.inj hf
    exact o_ireturn (pc := 11) dX12_person_11 rfl (Nat.zero_le _) (Nat.zero_le _)
def fX12_meeting (p0 : Int32) (p1 : Int32) (s : ST) : Option (Int32) :=
  (fX12_isMeeting p0 s).bind (fun q2 => if q2 = 0 then some (-1) else if p1 = 0 then ck (inb p0 8) (some (gi s 7 (ix p0))) else if p1 = 1 then ck (inb p0 8) (some (gi s 8 (ix p0))) else if p1 = 2 then ck (inb p0 8) (some (gi s 9 (ix p0))) else if p1 = 3 then ck (inb p0 8) (some (gi s 10 (ix p0))) else if p1 = 4 then ck (inb p0 8) (some (gi s 11 (ix p0))) else if p1 = 5 then ck (inb p0 8) (some (gi s 12 (ix p0))) else some (-1))
set_option maxRecDepth 20000 in
theorem kX12_meeting {g : GX} {p0 : Int32} {p1 : Int32} {s : ST} {q : Int32} (hf : fX12_meeting p0 p1 s = some q) : Cn g mdX12_meeting [.ref 0, .int p0, .int p1] (mW s) (some (.int q)) (mW s) := by
  refine Cn.of (by decide) (Nat.le_of_ble_eq_true rfl) ?_
  show Rn g mdX12_meeting 0 [some (.ref 0), some (.int p0), some (.int p1)] [] (mW s) 0 0 (some (.int q)) (mW s)
  unfold fX12_meeting at hf
  refine o_aload_n (pc := 0) dX12_meeting_0 rfl ?_
  refine o_iload_n (pc := 1) dX12_meeting_1 rfl ?_
  obtain ⟨q2, hk1, hf⟩ := bd_elim hf
  refine m_callV (pc := 2) [.int p0] dX12_meeting_2 (kX12_isMeeting hk1) stX12_465 ⟨by decide, by decide, by decide, by decide⟩ ⟨rfl, rfl⟩ (Nat.le_of_ble_eq_true rfl) ?_
  show Rn g mdX12_meeting 5 [some (.ref 0), some (.int p0), some (.int p1)] [.int q2] (mW s) 0 0 (some (.int q)) (mW s)
  refine o_if_ne (pc := 5) 10 dX12_meeting_5 rfl (fun hc => ?_) (fun hc => ?_)
  · have hf := it_f hf hc
    refine o_iload_n (pc := 10) dX12_meeting_10 rfl ?_
    by_cases hx3 : p1 = 0
    · have hf := it_t hf hx3
      refine o_tableIn (pc := 11) 48 dX12_meeting_11 (by rw [hx3] <;> decide) (by rw [hx3] <;> decide) (by rw [hx3] <;> rfl) rfl ?_
      refine o_aload_n (pc := 48) dX12_meeting_48 rfl ?_
      refine m_getA (pc := 49) 7 7 (by decide) rfl rfl lkX12_28 dX12_meeting_49 ?_
      refine o_iload_n (pc := 52) dX12_meeting_52 rfl ?_
      obtain ⟨hk4, hf⟩ := ck_elim hf
      refine m_iald (pc := 53) (by decide) rfl hk4 dX12_meeting_53 ?_
      obtain rfl := Option.some.inj hf
      exact o_ireturn (pc := 54) dX12_meeting_54 rfl (Nat.zero_le _) (Nat.zero_le _)
    have hf := it_f hf hx3
    by_cases hx5 : p1 = 1
    · have hf := it_t hf hx5
      refine o_tableIn (pc := 11) 55 dX12_meeting_11 (by rw [hx5] <;> decide) (by rw [hx5] <;> decide) (by rw [hx5] <;> rfl) rfl ?_
      refine o_aload_n (pc := 55) dX12_meeting_55 rfl ?_
      refine m_getA (pc := 56) 8 8 (by decide) rfl rfl lkX12_31 dX12_meeting_56 ?_
      refine o_iload_n (pc := 59) dX12_meeting_59 rfl ?_
      obtain ⟨hk6, hf⟩ := ck_elim hf
      refine m_iald (pc := 60) (by decide) rfl hk6 dX12_meeting_60 ?_
      obtain rfl := Option.some.inj hf
      exact o_ireturn (pc := 61) dX12_meeting_61 rfl (Nat.zero_le _) (Nat.zero_le _)
    have hf := it_f hf hx5
    by_cases hx7 : p1 = 2
    · have hf := it_t hf hx7
      refine o_tableIn (pc := 11) 62 dX12_meeting_11 (by rw [hx7] <;> decide) (by rw [hx7] <;> decide) (by rw [hx7] <;> rfl) rfl ?_
      refine o_aload_n (pc := 62) dX12_meeting_62 rfl ?_
      refine m_getA (pc := 63) 9 9 (by decide) rfl rfl lkX12_34 dX12_meeting_63 ?_
      refine o_iload_n (pc := 66) dX12_meeting_66 rfl ?_
      obtain ⟨hk8, hf⟩ := ck_elim hf
      refine m_iald (pc := 67) (by decide) rfl hk8 dX12_meeting_67 ?_
      obtain rfl := Option.some.inj hf
      exact o_ireturn (pc := 68) dX12_meeting_68 rfl (Nat.zero_le _) (Nat.zero_le _)
    have hf := it_f hf hx7
    by_cases hx9 : p1 = 3
    · have hf := it_t hf hx9
      refine o_tableIn (pc := 11) 69 dX12_meeting_11 (by rw [hx9] <;> decide) (by rw [hx9] <;> decide) (by rw [hx9] <;> rfl) rfl ?_
      refine o_aload_n (pc := 69) dX12_meeting_69 rfl ?_
      refine m_getA (pc := 70) 10 10 (by decide) rfl rfl lkX12_37 dX12_meeting_70 ?_
      refine o_iload_n (pc := 73) dX12_meeting_73 rfl ?_
      obtain ⟨hk10, hf⟩ := ck_elim hf
      refine m_iald (pc := 74) (by decide) rfl hk10 dX12_meeting_74 ?_
      obtain rfl := Option.some.inj hf
      exact o_ireturn (pc := 75) dX12_meeting_75 rfl (Nat.zero_le _) (Nat.zero_le _)
    have hf := it_f hf hx9
    by_cases hx11 : p1 = 4
    · have hf := it_t hf hx11
      refine o_tableIn (pc := 11) 76 dX12_meeting_11 (by rw [hx11] <;> decide) (by rw [hx11] <;> decide) (by rw [hx11] <;> rfl) rfl ?_
      refine o_aload_n (pc := 76) dX12_meeting_76 rfl ?_
      refine m_getA (pc := 77) 11 11 (by decide) rfl rfl lkX12_40 dX12_meeting_77 ?_
      refine o_iload_n (pc := 80) dX12_meeting_80 rfl ?_
      obtain ⟨hk12, hf⟩ := ck_elim hf
      refine m_iald (pc := 81) (by decide) rfl hk12 dX12_meeting_81 ?_
      obtain rfl := Option.some.inj hf
      exact o_ireturn (pc := 82) dX12_meeting_82 rfl (Nat.zero_le _) (Nat.zero_le _)
    have hf := it_f hf hx11
    by_cases hx13 : p1 = 5
    · have hf := it_t hf hx13
      refine o_tableIn (pc := 11) 83 dX12_meeting_11 (by rw [hx13] <;> decide) (by rw [hx13] <;> decide) (by rw [hx13] <;> rfl) rfl ?_
      refine o_aload_n (pc := 83) dX12_meeting_83 rfl ?_
      refine m_getA (pc := 84) 12 12 (by decide) rfl rfl lkX12_43 dX12_meeting_84 ?_
      refine o_iload_n (pc := 87) dX12_meeting_87 rfl ?_
      obtain ⟨hk14, hf⟩ := ck_elim hf
      refine m_iald (pc := 88) (by decide) rfl hk14 dX12_meeting_88 ?_
      obtain rfl := Option.some.inj hf
      exact o_ireturn (pc := 89) dX12_meeting_89 rfl (Nat.zero_le _) (Nat.zero_le _)
    have hf := it_f hf hx13
    refine o_tableOut (pc := 11) 90 dX12_meeting_11 (sw_out 0 5 (fun n hn => ?_)) rfl ?_
    · match n, hn with
      | 0, _ => exact sw_ne hx3 rfl
      | 1, _ => exact sw_ne hx5 rfl
      | 2, _ => exact sw_ne hx7 rfl
      | 3, _ => exact sw_ne hx9 rfl
      | 4, _ => exact sw_ne hx11 rfl
      | 5, _ => exact sw_ne hx13 rfl
      | n + 6, h => exact absurd h (by omega)
    · refine o_iconst (pc := 90) (v := (-1)) dX12_meeting_90 rfl ?_
      obtain rfl := Option.some.inj hf
      exact o_ireturn (pc := 91) dX12_meeting_91 rfl (Nat.zero_le _) (Nat.zero_le _)
  · have hf := it_t hf hc
    refine o_iconst (pc := 8) (v := (-1)) dX12_meeting_8 rfl ?_
    obtain rfl := Option.some.inj hf
    exact o_ireturn (pc := 9) dX12_meeting_9 rfl (Nat.zero_le _) (Nat.zero_le _)
def fX12_moves (p0 : Int32) (s : ST) : Option (Int32 × ST) :=
  (if (gi s 0 68) = 0 then some p0 else ck (inb (gi s 0 67) 920) (some (gi s 46 (ix (gi s 0 67)))) : Option (Int32)).bind (fun w1 => ck (inb (gi s 0 67) 920) (lt (si s 46 (ix (gi s 0 67)) w1) (fun s6 => lt (si s6 0 67 ((gi s6 0 67) + 1)) (fun s7 => some (w1, s7)))))
set_option maxRecDepth 20000 in
theorem kX12_moves {g : GX} {p0 : Int32} {s : ST} {q : Int32 × ST} (hf : fX12_moves p0 s = some q) : Cn g mdX12_moves [.ref 0, .int p0] (mW s) (some (.int q.1)) (mW q.2) := by
  refine Cn.of (by decide) (Nat.le_of_ble_eq_true rfl) ?_
  show Rn g mdX12_moves 0 [some (.ref 0), some (.int p0), none] [] (mW s) 0 0 (some (.int q.1)) (mW q.2)
  unfold fX12_moves at hf
  refine o_aload_n (pc := 0) dX12_moves_0 rfl ?_
  refine m_getI (pc := 1) 68 (by decide) rfl lkX12_468 dX12_moves_1 ?_
  obtain ⟨w1, hr2, hf⟩ := bd_elim hf
  have K3 : Rn g mdX12_moves 20 [some (.ref 0), none, none] [.int w1] (mW s) 0 0 (some (.int q.1)) (mW q.2) := by
    refine o_istore_n (pc := 20) dX12_moves_20 (by decide) rfl ?_
    show Rn g mdX12_moves 21 [some (.ref 0), none, some (.int w1)] [] (mW s) 0 0 (some (.int q.1)) (mW q.2)
    refine o_aload_n (pc := 21) dX12_moves_21 rfl ?_
    refine m_getA (pc := 22) 64 46 (by decide) rfl rfl lkX12_157 dX12_moves_22 ?_
    refine o_aload_n (pc := 25) dX12_moves_25 rfl ?_
    refine m_getI (pc := 26) 67 (by decide) rfl lkX12_471 dX12_moves_26 ?_
    refine o_iload_n (pc := 29) dX12_moves_29 rfl ?_
    obtain ⟨hk5, hf⟩ := ck_elim hf
    refine m_iast (pc := 30) (by decide) rfl hk5 dX12_moves_30 ?_
    refine lz_s (mW) hf (fun s6 hf => ?_)
    show Rn g mdX12_moves 31 [some (.ref 0), none, some (.int w1)] [] (mW s6) 0 0 (some (.int q.1)) (mW q.2)
    refine o_aload_n (pc := 31) dX12_moves_31 rfl ?_
    refine o_dup (pc := 32) dX12_moves_32 rfl ?_
    refine m_getI (pc := 33) 67 (by decide) rfl lkX12_471 dX12_moves_33 ?_
    refine o_iconst (pc := 36) (v := 1) dX12_moves_36 rfl ?_
    refine o_iadd (pc := 37) dX12_moves_37 ?_
    refine m_putI (pc := 38) 67 (by decide) rfl rfl lkX12_471 ⟨rfl, rfl⟩ dX12_moves_38 ?_
    refine lz_s (mW) hf (fun s7 hf => ?_)
    show Rn g mdX12_moves 41 [some (.ref 0), none, some (.int w1)] [] (mW s7) 0 0 (some (.int q.1)) (mW q.2)
    refine o_iload_n (pc := 41) dX12_moves_41 rfl ?_
    obtain rfl := Option.some.inj hf
    exact o_ireturn (pc := 42) dX12_moves_42 rfl (Nat.zero_le _) (Nat.zero_le _)
  clear hf
  refine o_if_eq (pc := 4) 19 dX12_moves_4 rfl (fun hc => ?_) (fun hc => ?_)
  · have hr2 := it_t hr2 hc
    refine o_iload_n (pc := 19) dX12_moves_19 rfl ?_
    obtain rfl := Option.some.inj hr2
    refine o_keep [true, false, false] ?_
    exact K3
  · have hr2 := it_f hr2 hc
    refine o_aload_n (pc := 7) dX12_moves_7 rfl ?_
    refine m_getA (pc := 8) 64 46 (by decide) rfl rfl lkX12_157 dX12_moves_8 ?_
    refine o_aload_n (pc := 11) dX12_moves_11 rfl ?_
    refine m_getI (pc := 12) 67 (by decide) rfl lkX12_471 dX12_moves_12 ?_
    obtain ⟨hk4, hr2⟩ := ck_elim hr2
    refine m_iald (pc := 15) (by decide) rfl hk4 dX12_moves_15 ?_
    refine o_goto (pc := 16) 20 dX12_moves_16 rfl ?_
    obtain rfl := Option.some.inj hr2
    refine o_keep [true, false, false] ?_
    exact K3
def fX12_movesRow_3_L2 : Nat → Int32 → ST → Option (Int32 × ST)
  | 0, _, _ => none
  | n + 1, x2, s => if 5 ≤ x2 then some (x2, s) else ck (inb x2 5) ((fX12_moves (gi s 3 (ix x2)) s).bind (fun q3 => ck (inb x2 5) (lt (si q3.2 3 (ix x2) q3.1) (fun s5 => lt (x2 + 1) (fun v6 => fX12_movesRow_3_L2 n v6 s5)))))
def fX12_movesRow_3 (s : ST) : Option (ST) :=
  (fX12_movesRow_3_L2 FUEL 0 s).bind (fun w7 => some w7.2)
set_option maxRecDepth 20000 in
theorem kX12_movesRow_3_L2 {g : GX} {r : Option Value} {h2 : PH} : ∀ (n : Nat) (x2 : Int32) (s : ST) {w : Int32 × ST}, fX12_movesRow_3_L2 n x2 s = some w → Rn g mdX12_movesRow 24 [none, none, none] [] (mW w.2) 0 0 r h2 → Rn g mdX12_movesRow 2 [some (.ref 0), some (.ref 3), some (.int x2)] [] (mW s) 0 0 r h2 := by
  intro n
  induction n with
  | zero => intro x2 s w hf K; cases hf
  | succ n ih =>
    intro x2 s w hf K
    rw [fX12_movesRow_3_L2] at hf
    refine o_iload_n (pc := 2) dX12_movesRow_2 rfl ?_
    refine o_aload_n (pc := 3) dX12_movesRow_3 rfl ?_
    refine m_alen (pc := 4) 5 (by decide) (by decide) rfl rfl dX12_movesRow_4 ?_
    refine o_icmp_ge (pc := 5) 24 dX12_movesRow_5 rfl (fun hc => ?_) (fun hc => ?_)
    · have hf := it_t hf hc
      obtain rfl := Option.some.inj hf
      refine o_keep [false, false, false] ?_
      exact K
    · have hf := it_f hf hc
      refine o_aload_n (pc := 8) dX12_movesRow_8 rfl ?_
      refine o_iload_n (pc := 9) dX12_movesRow_9 rfl ?_
      refine o_aload_n (pc := 10) dX12_movesRow_10 rfl ?_
      refine o_aload_n (pc := 11) dX12_movesRow_11 rfl ?_
      refine o_iload_n (pc := 12) dX12_movesRow_12 rfl ?_
      obtain ⟨hk1, hf⟩ := ck_elim hf
      refine m_iald (pc := 13) (by decide) rfl hk1 dX12_movesRow_13 ?_
      obtain ⟨q3, hk2, hf⟩ := bd_elim hf
      refine m_callV (pc := 14) [.int (gi s 3 (ix x2))] dX12_movesRow_14 (kX12_moves hk2) stX12_474 ⟨by decide, by decide, by decide, by decide⟩ ⟨rfl, rfl⟩ (Nat.le_of_ble_eq_true rfl) ?_
      show Rn g mdX12_movesRow 17 [some (.ref 0), some (.ref 3), some (.int x2)] [.int q3.1, .int x2, .ref 3] (mW q3.2) 0 0 r h2
      obtain ⟨hk4, hf⟩ := ck_elim hf
      refine m_iast (pc := 17) (by decide) rfl hk4 dX12_movesRow_17 ?_
      refine lz_s (mW) hf (fun s5 hf => ?_)
      show Rn g mdX12_movesRow 18 [some (.ref 0), some (.ref 3), some (.int x2)] [] (mW s5) 0 0 r h2
      refine o_iinc (pc := 18) dX12_movesRow_18 rfl (by decide) rfl ?_
      show Rn g mdX12_movesRow 21 [some (.ref 0), some (.ref 3), some (.int (x2 + 1))] [] (mW s5) 0 0 r h2
      obtain ⟨v6, ev6, hf⟩ := lt_elim hf
      rw [ev6]
      show Rn g mdX12_movesRow 21 [some (.ref 0), some (.ref 3), some (.int v6)] [] (mW s5) 0 0 r h2
      refine o_goto (pc := 21) 2 dX12_movesRow_21 rfl ?_
      exact ih _ _ hf K
set_option maxRecDepth 20000 in
theorem kX12_movesRow_3 {g : GX} {s : ST} {q : ST} (hf : fX12_movesRow_3 s = some q) : Cn g mdX12_movesRow [.ref 0, .ref 3] (mW s) none (mW q) := by
  refine Cn.of (by decide) (Nat.le_of_ble_eq_true rfl) ?_
  show Rn g mdX12_movesRow 0 [some (.ref 0), some (.ref 3), none] [] (mW s) 0 0 none (mW q)
  unfold fX12_movesRow_3 at hf
  refine o_iconst (pc := 0) (v := 0) dX12_movesRow_0 rfl ?_
  refine o_istore_n (pc := 1) dX12_movesRow_1 (by decide) rfl ?_
  show Rn g mdX12_movesRow 2 [some (.ref 0), some (.ref 3), some (.int 0)] [] (mW s) 0 0 none (mW q)
  obtain ⟨w7, hl8, hf⟩ := bd_elim hf
  have K9 : Rn g mdX12_movesRow 24 [none, none, none] [] (mW w7.2) 0 0 none (mW q) := by
    obtain rfl := Option.some.inj hf
    exact o_return (pc := 24) dX12_movesRow_24 rfl (Nat.zero_le _) (Nat.zero_le _)
  exact kX12_movesRow_3_L2 _ _ _ hl8 K9
def fX12_movesRow_4_L2 : Nat → Int32 → ST → Option (Int32 × ST)
  | 0, _, _ => none
  | n + 1, x2, s => if 5 ≤ x2 then some (x2, s) else ck (inb x2 5) ((fX12_moves (gi s 4 (ix x2)) s).bind (fun q3 => ck (inb x2 5) (lt (si q3.2 4 (ix x2) q3.1) (fun s5 => lt (x2 + 1) (fun v6 => fX12_movesRow_4_L2 n v6 s5)))))
def fX12_movesRow_4 (s : ST) : Option (ST) :=
  (fX12_movesRow_4_L2 FUEL 0 s).bind (fun w7 => some w7.2)
set_option maxRecDepth 20000 in
theorem kX12_movesRow_4_L2 {g : GX} {r : Option Value} {h2 : PH} : ∀ (n : Nat) (x2 : Int32) (s : ST) {w : Int32 × ST}, fX12_movesRow_4_L2 n x2 s = some w → Rn g mdX12_movesRow 24 [none, none, none] [] (mW w.2) 0 0 r h2 → Rn g mdX12_movesRow 2 [some (.ref 0), some (.ref 4), some (.int x2)] [] (mW s) 0 0 r h2 := by
  intro n
  induction n with
  | zero => intro x2 s w hf K; cases hf
  | succ n ih =>
    intro x2 s w hf K
    rw [fX12_movesRow_4_L2] at hf
    refine o_iload_n (pc := 2) dX12_movesRow_2 rfl ?_
    refine o_aload_n (pc := 3) dX12_movesRow_3 rfl ?_
    refine m_alen (pc := 4) 5 (by decide) (by decide) rfl rfl dX12_movesRow_4 ?_
    refine o_icmp_ge (pc := 5) 24 dX12_movesRow_5 rfl (fun hc => ?_) (fun hc => ?_)
    · have hf := it_t hf hc
      obtain rfl := Option.some.inj hf
      refine o_keep [false, false, false] ?_
      exact K
    · have hf := it_f hf hc
      refine o_aload_n (pc := 8) dX12_movesRow_8 rfl ?_
      refine o_iload_n (pc := 9) dX12_movesRow_9 rfl ?_
      refine o_aload_n (pc := 10) dX12_movesRow_10 rfl ?_
      refine o_aload_n (pc := 11) dX12_movesRow_11 rfl ?_
      refine o_iload_n (pc := 12) dX12_movesRow_12 rfl ?_
      obtain ⟨hk1, hf⟩ := ck_elim hf
      refine m_iald (pc := 13) (by decide) rfl hk1 dX12_movesRow_13 ?_
      obtain ⟨q3, hk2, hf⟩ := bd_elim hf
      refine m_callV (pc := 14) [.int (gi s 4 (ix x2))] dX12_movesRow_14 (kX12_moves hk2) stX12_474 ⟨by decide, by decide, by decide, by decide⟩ ⟨rfl, rfl⟩ (Nat.le_of_ble_eq_true rfl) ?_
      show Rn g mdX12_movesRow 17 [some (.ref 0), some (.ref 4), some (.int x2)] [.int q3.1, .int x2, .ref 4] (mW q3.2) 0 0 r h2
      obtain ⟨hk4, hf⟩ := ck_elim hf
      refine m_iast (pc := 17) (by decide) rfl hk4 dX12_movesRow_17 ?_
      refine lz_s (mW) hf (fun s5 hf => ?_)
      show Rn g mdX12_movesRow 18 [some (.ref 0), some (.ref 4), some (.int x2)] [] (mW s5) 0 0 r h2
      refine o_iinc (pc := 18) dX12_movesRow_18 rfl (by decide) rfl ?_
      show Rn g mdX12_movesRow 21 [some (.ref 0), some (.ref 4), some (.int (x2 + 1))] [] (mW s5) 0 0 r h2
      obtain ⟨v6, ev6, hf⟩ := lt_elim hf
      rw [ev6]
      show Rn g mdX12_movesRow 21 [some (.ref 0), some (.ref 4), some (.int v6)] [] (mW s5) 0 0 r h2
      refine o_goto (pc := 21) 2 dX12_movesRow_21 rfl ?_
      exact ih _ _ hf K
set_option maxRecDepth 20000 in
theorem kX12_movesRow_4 {g : GX} {s : ST} {q : ST} (hf : fX12_movesRow_4 s = some q) : Cn g mdX12_movesRow [.ref 0, .ref 4] (mW s) none (mW q) := by
  refine Cn.of (by decide) (Nat.le_of_ble_eq_true rfl) ?_
  show Rn g mdX12_movesRow 0 [some (.ref 0), some (.ref 4), none] [] (mW s) 0 0 none (mW q)
  unfold fX12_movesRow_4 at hf
  refine o_iconst (pc := 0) (v := 0) dX12_movesRow_0 rfl ?_
  refine o_istore_n (pc := 1) dX12_movesRow_1 (by decide) rfl ?_
  show Rn g mdX12_movesRow 2 [some (.ref 0), some (.ref 4), some (.int 0)] [] (mW s) 0 0 none (mW q)
  obtain ⟨w7, hl8, hf⟩ := bd_elim hf
  have K9 : Rn g mdX12_movesRow 24 [none, none, none] [] (mW w7.2) 0 0 none (mW q) := by
    obtain rfl := Option.some.inj hf
    exact o_return (pc := 24) dX12_movesRow_24 rfl (Nat.zero_le _) (Nat.zero_le _)
  exact kX12_movesRow_4_L2 _ _ _ hl8 K9
def fX12_movesRow_5_L2 : Nat → Int32 → ST → Option (Int32 × ST)
  | 0, _, _ => none
  | n + 1, x2, s => if 5 ≤ x2 then some (x2, s) else ck (inb x2 5) ((fX12_moves (gi s 5 (ix x2)) s).bind (fun q3 => ck (inb x2 5) (lt (si q3.2 5 (ix x2) q3.1) (fun s5 => lt (x2 + 1) (fun v6 => fX12_movesRow_5_L2 n v6 s5)))))
def fX12_movesRow_5 (s : ST) : Option (ST) :=
  (fX12_movesRow_5_L2 FUEL 0 s).bind (fun w7 => some w7.2)
set_option maxRecDepth 20000 in
theorem kX12_movesRow_5_L2 {g : GX} {r : Option Value} {h2 : PH} : ∀ (n : Nat) (x2 : Int32) (s : ST) {w : Int32 × ST}, fX12_movesRow_5_L2 n x2 s = some w → Rn g mdX12_movesRow 24 [none, none, none] [] (mW w.2) 0 0 r h2 → Rn g mdX12_movesRow 2 [some (.ref 0), some (.ref 5), some (.int x2)] [] (mW s) 0 0 r h2 := by
  intro n
  induction n with
  | zero => intro x2 s w hf K; cases hf
  | succ n ih =>
    intro x2 s w hf K
    rw [fX12_movesRow_5_L2] at hf
    refine o_iload_n (pc := 2) dX12_movesRow_2 rfl ?_
    refine o_aload_n (pc := 3) dX12_movesRow_3 rfl ?_
    refine m_alen (pc := 4) 5 (by decide) (by decide) rfl rfl dX12_movesRow_4 ?_
    refine o_icmp_ge (pc := 5) 24 dX12_movesRow_5 rfl (fun hc => ?_) (fun hc => ?_)
    · have hf := it_t hf hc
      obtain rfl := Option.some.inj hf
      refine o_keep [false, false, false] ?_
      exact K
    · have hf := it_f hf hc
      refine o_aload_n (pc := 8) dX12_movesRow_8 rfl ?_
      refine o_iload_n (pc := 9) dX12_movesRow_9 rfl ?_
      refine o_aload_n (pc := 10) dX12_movesRow_10 rfl ?_
      refine o_aload_n (pc := 11) dX12_movesRow_11 rfl ?_
      refine o_iload_n (pc := 12) dX12_movesRow_12 rfl ?_
      obtain ⟨hk1, hf⟩ := ck_elim hf
      refine m_iald (pc := 13) (by decide) rfl hk1 dX12_movesRow_13 ?_
      obtain ⟨q3, hk2, hf⟩ := bd_elim hf
      refine m_callV (pc := 14) [.int (gi s 5 (ix x2))] dX12_movesRow_14 (kX12_moves hk2) stX12_474 ⟨by decide, by decide, by decide, by decide⟩ ⟨rfl, rfl⟩ (Nat.le_of_ble_eq_true rfl) ?_
      show Rn g mdX12_movesRow 17 [some (.ref 0), some (.ref 5), some (.int x2)] [.int q3.1, .int x2, .ref 5] (mW q3.2) 0 0 r h2
      obtain ⟨hk4, hf⟩ := ck_elim hf
      refine m_iast (pc := 17) (by decide) rfl hk4 dX12_movesRow_17 ?_
      refine lz_s (mW) hf (fun s5 hf => ?_)
      show Rn g mdX12_movesRow 18 [some (.ref 0), some (.ref 5), some (.int x2)] [] (mW s5) 0 0 r h2
      refine o_iinc (pc := 18) dX12_movesRow_18 rfl (by decide) rfl ?_
      show Rn g mdX12_movesRow 21 [some (.ref 0), some (.ref 5), some (.int (x2 + 1))] [] (mW s5) 0 0 r h2
      obtain ⟨v6, ev6, hf⟩ := lt_elim hf
      rw [ev6]
      show Rn g mdX12_movesRow 21 [some (.ref 0), some (.ref 5), some (.int v6)] [] (mW s5) 0 0 r h2
      refine o_goto (pc := 21) 2 dX12_movesRow_21 rfl ?_
      exact ih _ _ hf K
set_option maxRecDepth 20000 in
theorem kX12_movesRow_5 {g : GX} {s : ST} {q : ST} (hf : fX12_movesRow_5 s = some q) : Cn g mdX12_movesRow [.ref 0, .ref 5] (mW s) none (mW q) := by
  refine Cn.of (by decide) (Nat.le_of_ble_eq_true rfl) ?_
  show Rn g mdX12_movesRow 0 [some (.ref 0), some (.ref 5), none] [] (mW s) 0 0 none (mW q)
  unfold fX12_movesRow_5 at hf
  refine o_iconst (pc := 0) (v := 0) dX12_movesRow_0 rfl ?_
  refine o_istore_n (pc := 1) dX12_movesRow_1 (by decide) rfl ?_
  show Rn g mdX12_movesRow 2 [some (.ref 0), some (.ref 5), some (.int 0)] [] (mW s) 0 0 none (mW q)
  obtain ⟨w7, hl8, hf⟩ := bd_elim hf
  have K9 : Rn g mdX12_movesRow 24 [none, none, none] [] (mW w7.2) 0 0 none (mW q) := by
    obtain rfl := Option.some.inj hf
    exact o_return (pc := 24) dX12_movesRow_24 rfl (Nat.zero_le _) (Nat.zero_le _)
  exact kX12_movesRow_5_L2 _ _ _ hl8 K9
def fX12_movesRow_6_L2 : Nat → Int32 → ST → Option (Int32 × ST)
  | 0, _, _ => none
  | n + 1, x2, s => if 5 ≤ x2 then some (x2, s) else ck (inb x2 5) ((fX12_moves (gi s 6 (ix x2)) s).bind (fun q3 => ck (inb x2 5) (lt (si q3.2 6 (ix x2) q3.1) (fun s5 => lt (x2 + 1) (fun v6 => fX12_movesRow_6_L2 n v6 s5)))))
def fX12_movesRow_6 (s : ST) : Option (ST) :=
  (fX12_movesRow_6_L2 FUEL 0 s).bind (fun w7 => some w7.2)
set_option maxRecDepth 20000 in
theorem kX12_movesRow_6_L2 {g : GX} {r : Option Value} {h2 : PH} : ∀ (n : Nat) (x2 : Int32) (s : ST) {w : Int32 × ST}, fX12_movesRow_6_L2 n x2 s = some w → Rn g mdX12_movesRow 24 [none, none, none] [] (mW w.2) 0 0 r h2 → Rn g mdX12_movesRow 2 [some (.ref 0), some (.ref 6), some (.int x2)] [] (mW s) 0 0 r h2 := by
  intro n
  induction n with
  | zero => intro x2 s w hf K; cases hf
  | succ n ih =>
    intro x2 s w hf K
    rw [fX12_movesRow_6_L2] at hf
    refine o_iload_n (pc := 2) dX12_movesRow_2 rfl ?_
    refine o_aload_n (pc := 3) dX12_movesRow_3 rfl ?_
    refine m_alen (pc := 4) 5 (by decide) (by decide) rfl rfl dX12_movesRow_4 ?_
    refine o_icmp_ge (pc := 5) 24 dX12_movesRow_5 rfl (fun hc => ?_) (fun hc => ?_)
    · have hf := it_t hf hc
      obtain rfl := Option.some.inj hf
      refine o_keep [false, false, false] ?_
      exact K
    · have hf := it_f hf hc
      refine o_aload_n (pc := 8) dX12_movesRow_8 rfl ?_
      refine o_iload_n (pc := 9) dX12_movesRow_9 rfl ?_
      refine o_aload_n (pc := 10) dX12_movesRow_10 rfl ?_
      refine o_aload_n (pc := 11) dX12_movesRow_11 rfl ?_
      refine o_iload_n (pc := 12) dX12_movesRow_12 rfl ?_
      obtain ⟨hk1, hf⟩ := ck_elim hf
      refine m_iald (pc := 13) (by decide) rfl hk1 dX12_movesRow_13 ?_
      obtain ⟨q3, hk2, hf⟩ := bd_elim hf
      refine m_callV (pc := 14) [.int (gi s 6 (ix x2))] dX12_movesRow_14 (kX12_moves hk2) stX12_474 ⟨by decide, by decide, by decide, by decide⟩ ⟨rfl, rfl⟩ (Nat.le_of_ble_eq_true rfl) ?_
      show Rn g mdX12_movesRow 17 [some (.ref 0), some (.ref 6), some (.int x2)] [.int q3.1, .int x2, .ref 6] (mW q3.2) 0 0 r h2
      obtain ⟨hk4, hf⟩ := ck_elim hf
      refine m_iast (pc := 17) (by decide) rfl hk4 dX12_movesRow_17 ?_
      refine lz_s (mW) hf (fun s5 hf => ?_)
      show Rn g mdX12_movesRow 18 [some (.ref 0), some (.ref 6), some (.int x2)] [] (mW s5) 0 0 r h2
      refine o_iinc (pc := 18) dX12_movesRow_18 rfl (by decide) rfl ?_
      show Rn g mdX12_movesRow 21 [some (.ref 0), some (.ref 6), some (.int (x2 + 1))] [] (mW s5) 0 0 r h2
      obtain ⟨v6, ev6, hf⟩ := lt_elim hf
      rw [ev6]
      show Rn g mdX12_movesRow 21 [some (.ref 0), some (.ref 6), some (.int v6)] [] (mW s5) 0 0 r h2
      refine o_goto (pc := 21) 2 dX12_movesRow_21 rfl ?_
      exact ih _ _ hf K
set_option maxRecDepth 20000 in
theorem kX12_movesRow_6 {g : GX} {s : ST} {q : ST} (hf : fX12_movesRow_6 s = some q) : Cn g mdX12_movesRow [.ref 0, .ref 6] (mW s) none (mW q) := by
  refine Cn.of (by decide) (Nat.le_of_ble_eq_true rfl) ?_
  show Rn g mdX12_movesRow 0 [some (.ref 0), some (.ref 6), none] [] (mW s) 0 0 none (mW q)
  unfold fX12_movesRow_6 at hf
  refine o_iconst (pc := 0) (v := 0) dX12_movesRow_0 rfl ?_
  refine o_istore_n (pc := 1) dX12_movesRow_1 (by decide) rfl ?_
  show Rn g mdX12_movesRow 2 [some (.ref 0), some (.ref 6), some (.int 0)] [] (mW s) 0 0 none (mW q)
  obtain ⟨w7, hl8, hf⟩ := bd_elim hf
  have K9 : Rn g mdX12_movesRow 24 [none, none, none] [] (mW w7.2) 0 0 none (mW q) := by
    obtain rfl := Option.some.inj hf
    exact o_return (pc := 24) dX12_movesRow_24 rfl (Nat.zero_le _) (Nat.zero_le _)
  exact kX12_movesRow_6_L2 _ _ _ hl8 K9
def fX12_movesRow_9_L2 : Nat → Int32 → ST → Option (Int32 × ST)
  | 0, _, _ => none
  | n + 1, x2, s => if 8 ≤ x2 then some (x2, s) else ck (inb x2 8) ((fX12_moves (gi s 9 (ix x2)) s).bind (fun q3 => ck (inb x2 8) (lt (si q3.2 9 (ix x2) q3.1) (fun s5 => lt (x2 + 1) (fun v6 => fX12_movesRow_9_L2 n v6 s5)))))
def fX12_movesRow_9 (s : ST) : Option (ST) :=
  (fX12_movesRow_9_L2 FUEL 0 s).bind (fun w7 => some w7.2)
set_option maxRecDepth 20000 in
theorem kX12_movesRow_9_L2 {g : GX} {r : Option Value} {h2 : PH} : ∀ (n : Nat) (x2 : Int32) (s : ST) {w : Int32 × ST}, fX12_movesRow_9_L2 n x2 s = some w → Rn g mdX12_movesRow 24 [none, none, none] [] (mW w.2) 0 0 r h2 → Rn g mdX12_movesRow 2 [some (.ref 0), some (.ref 9), some (.int x2)] [] (mW s) 0 0 r h2 := by
  intro n
  induction n with
  | zero => intro x2 s w hf K; cases hf
  | succ n ih =>
    intro x2 s w hf K
    rw [fX12_movesRow_9_L2] at hf
    refine o_iload_n (pc := 2) dX12_movesRow_2 rfl ?_
    refine o_aload_n (pc := 3) dX12_movesRow_3 rfl ?_
    refine m_alen (pc := 4) 8 (by decide) (by decide) rfl rfl dX12_movesRow_4 ?_
    refine o_icmp_ge (pc := 5) 24 dX12_movesRow_5 rfl (fun hc => ?_) (fun hc => ?_)
    · have hf := it_t hf hc
      obtain rfl := Option.some.inj hf
      refine o_keep [false, false, false] ?_
      exact K
    · have hf := it_f hf hc
      refine o_aload_n (pc := 8) dX12_movesRow_8 rfl ?_
      refine o_iload_n (pc := 9) dX12_movesRow_9 rfl ?_
      refine o_aload_n (pc := 10) dX12_movesRow_10 rfl ?_
      refine o_aload_n (pc := 11) dX12_movesRow_11 rfl ?_
      refine o_iload_n (pc := 12) dX12_movesRow_12 rfl ?_
      obtain ⟨hk1, hf⟩ := ck_elim hf
      refine m_iald (pc := 13) (by decide) rfl hk1 dX12_movesRow_13 ?_
      obtain ⟨q3, hk2, hf⟩ := bd_elim hf
      refine m_callV (pc := 14) [.int (gi s 9 (ix x2))] dX12_movesRow_14 (kX12_moves hk2) stX12_474 ⟨by decide, by decide, by decide, by decide⟩ ⟨rfl, rfl⟩ (Nat.le_of_ble_eq_true rfl) ?_
      show Rn g mdX12_movesRow 17 [some (.ref 0), some (.ref 9), some (.int x2)] [.int q3.1, .int x2, .ref 9] (mW q3.2) 0 0 r h2
      obtain ⟨hk4, hf⟩ := ck_elim hf
      refine m_iast (pc := 17) (by decide) rfl hk4 dX12_movesRow_17 ?_
      refine lz_s (mW) hf (fun s5 hf => ?_)
      show Rn g mdX12_movesRow 18 [some (.ref 0), some (.ref 9), some (.int x2)] [] (mW s5) 0 0 r h2
      refine o_iinc (pc := 18) dX12_movesRow_18 rfl (by decide) rfl ?_
      show Rn g mdX12_movesRow 21 [some (.ref 0), some (.ref 9), some (.int (x2 + 1))] [] (mW s5) 0 0 r h2
      obtain ⟨v6, ev6, hf⟩ := lt_elim hf
      rw [ev6]
      show Rn g mdX12_movesRow 21 [some (.ref 0), some (.ref 9), some (.int v6)] [] (mW s5) 0 0 r h2
      refine o_goto (pc := 21) 2 dX12_movesRow_21 rfl ?_
      exact ih _ _ hf K
set_option maxRecDepth 20000 in
theorem kX12_movesRow_9 {g : GX} {s : ST} {q : ST} (hf : fX12_movesRow_9 s = some q) : Cn g mdX12_movesRow [.ref 0, .ref 9] (mW s) none (mW q) := by
  refine Cn.of (by decide) (Nat.le_of_ble_eq_true rfl) ?_
  show Rn g mdX12_movesRow 0 [some (.ref 0), some (.ref 9), none] [] (mW s) 0 0 none (mW q)
  unfold fX12_movesRow_9 at hf
  refine o_iconst (pc := 0) (v := 0) dX12_movesRow_0 rfl ?_
  refine o_istore_n (pc := 1) dX12_movesRow_1 (by decide) rfl ?_
  show Rn g mdX12_movesRow 2 [some (.ref 0), some (.ref 9), some (.int 0)] [] (mW s) 0 0 none (mW q)
  obtain ⟨w7, hl8, hf⟩ := bd_elim hf
  have K9 : Rn g mdX12_movesRow 24 [none, none, none] [] (mW w7.2) 0 0 none (mW q) := by
    obtain rfl := Option.some.inj hf
    exact o_return (pc := 24) dX12_movesRow_24 rfl (Nat.zero_le _) (Nat.zero_le _)
  exact kX12_movesRow_9_L2 _ _ _ hl8 K9
def fX12_movesRow_11_L2 : Nat → Int32 → ST → Option (Int32 × ST)
  | 0, _, _ => none
  | n + 1, x2, s => if 8 ≤ x2 then some (x2, s) else ck (inb x2 8) ((fX12_moves (gi s 11 (ix x2)) s).bind (fun q3 => ck (inb x2 8) (lt (si q3.2 11 (ix x2) q3.1) (fun s5 => lt (x2 + 1) (fun v6 => fX12_movesRow_11_L2 n v6 s5)))))
def fX12_movesRow_11 (s : ST) : Option (ST) :=
  (fX12_movesRow_11_L2 FUEL 0 s).bind (fun w7 => some w7.2)
set_option maxRecDepth 20000 in
theorem kX12_movesRow_11_L2 {g : GX} {r : Option Value} {h2 : PH} : ∀ (n : Nat) (x2 : Int32) (s : ST) {w : Int32 × ST}, fX12_movesRow_11_L2 n x2 s = some w → Rn g mdX12_movesRow 24 [none, none, none] [] (mW w.2) 0 0 r h2 → Rn g mdX12_movesRow 2 [some (.ref 0), some (.ref 11), some (.int x2)] [] (mW s) 0 0 r h2 := by
  intro n
  induction n with
  | zero => intro x2 s w hf K; cases hf
  | succ n ih =>
    intro x2 s w hf K
    rw [fX12_movesRow_11_L2] at hf
    refine o_iload_n (pc := 2) dX12_movesRow_2 rfl ?_
    refine o_aload_n (pc := 3) dX12_movesRow_3 rfl ?_
    refine m_alen (pc := 4) 8 (by decide) (by decide) rfl rfl dX12_movesRow_4 ?_
    refine o_icmp_ge (pc := 5) 24 dX12_movesRow_5 rfl (fun hc => ?_) (fun hc => ?_)
    · have hf := it_t hf hc
      obtain rfl := Option.some.inj hf
      refine o_keep [false, false, false] ?_
      exact K
    · have hf := it_f hf hc
      refine o_aload_n (pc := 8) dX12_movesRow_8 rfl ?_
      refine o_iload_n (pc := 9) dX12_movesRow_9 rfl ?_
      refine o_aload_n (pc := 10) dX12_movesRow_10 rfl ?_
      refine o_aload_n (pc := 11) dX12_movesRow_11 rfl ?_
      refine o_iload_n (pc := 12) dX12_movesRow_12 rfl ?_
      obtain ⟨hk1, hf⟩ := ck_elim hf
      refine m_iald (pc := 13) (by decide) rfl hk1 dX12_movesRow_13 ?_
      obtain ⟨q3, hk2, hf⟩ := bd_elim hf
      refine m_callV (pc := 14) [.int (gi s 11 (ix x2))] dX12_movesRow_14 (kX12_moves hk2) stX12_474 ⟨by decide, by decide, by decide, by decide⟩ ⟨rfl, rfl⟩ (Nat.le_of_ble_eq_true rfl) ?_
      show Rn g mdX12_movesRow 17 [some (.ref 0), some (.ref 11), some (.int x2)] [.int q3.1, .int x2, .ref 11] (mW q3.2) 0 0 r h2
      obtain ⟨hk4, hf⟩ := ck_elim hf
      refine m_iast (pc := 17) (by decide) rfl hk4 dX12_movesRow_17 ?_
      refine lz_s (mW) hf (fun s5 hf => ?_)
      show Rn g mdX12_movesRow 18 [some (.ref 0), some (.ref 11), some (.int x2)] [] (mW s5) 0 0 r h2
      refine o_iinc (pc := 18) dX12_movesRow_18 rfl (by decide) rfl ?_
      show Rn g mdX12_movesRow 21 [some (.ref 0), some (.ref 11), some (.int (x2 + 1))] [] (mW s5) 0 0 r h2
      obtain ⟨v6, ev6, hf⟩ := lt_elim hf
      rw [ev6]
      show Rn g mdX12_movesRow 21 [some (.ref 0), some (.ref 11), some (.int v6)] [] (mW s5) 0 0 r h2
      refine o_goto (pc := 21) 2 dX12_movesRow_21 rfl ?_
      exact ih _ _ hf K
set_option maxRecDepth 20000 in
theorem kX12_movesRow_11 {g : GX} {s : ST} {q : ST} (hf : fX12_movesRow_11 s = some q) : Cn g mdX12_movesRow [.ref 0, .ref 11] (mW s) none (mW q) := by
  refine Cn.of (by decide) (Nat.le_of_ble_eq_true rfl) ?_
  show Rn g mdX12_movesRow 0 [some (.ref 0), some (.ref 11), none] [] (mW s) 0 0 none (mW q)
  unfold fX12_movesRow_11 at hf
  refine o_iconst (pc := 0) (v := 0) dX12_movesRow_0 rfl ?_
  refine o_istore_n (pc := 1) dX12_movesRow_1 (by decide) rfl ?_
  show Rn g mdX12_movesRow 2 [some (.ref 0), some (.ref 11), some (.int 0)] [] (mW s) 0 0 none (mW q)
  obtain ⟨w7, hl8, hf⟩ := bd_elim hf
  have K9 : Rn g mdX12_movesRow 24 [none, none, none] [] (mW w7.2) 0 0 none (mW q) := by
    obtain rfl := Option.some.inj hf
    exact o_return (pc := 24) dX12_movesRow_24 rfl (Nat.zero_le _) (Nat.zero_le _)
  exact kX12_movesRow_11_L2 _ _ _ hl8 K9
def fX12_movesRow_12_L2 : Nat → Int32 → ST → Option (Int32 × ST)
  | 0, _, _ => none
  | n + 1, x2, s => if 8 ≤ x2 then some (x2, s) else ck (inb x2 8) ((fX12_moves (gi s 12 (ix x2)) s).bind (fun q3 => ck (inb x2 8) (lt (si q3.2 12 (ix x2) q3.1) (fun s5 => lt (x2 + 1) (fun v6 => fX12_movesRow_12_L2 n v6 s5)))))
def fX12_movesRow_12 (s : ST) : Option (ST) :=
  (fX12_movesRow_12_L2 FUEL 0 s).bind (fun w7 => some w7.2)
set_option maxRecDepth 20000 in
theorem kX12_movesRow_12_L2 {g : GX} {r : Option Value} {h2 : PH} : ∀ (n : Nat) (x2 : Int32) (s : ST) {w : Int32 × ST}, fX12_movesRow_12_L2 n x2 s = some w → Rn g mdX12_movesRow 24 [none, none, none] [] (mW w.2) 0 0 r h2 → Rn g mdX12_movesRow 2 [some (.ref 0), some (.ref 12), some (.int x2)] [] (mW s) 0 0 r h2 := by
  intro n
  induction n with
  | zero => intro x2 s w hf K; cases hf
  | succ n ih =>
    intro x2 s w hf K
    rw [fX12_movesRow_12_L2] at hf
    refine o_iload_n (pc := 2) dX12_movesRow_2 rfl ?_
    refine o_aload_n (pc := 3) dX12_movesRow_3 rfl ?_
    refine m_alen (pc := 4) 8 (by decide) (by decide) rfl rfl dX12_movesRow_4 ?_
    refine o_icmp_ge (pc := 5) 24 dX12_movesRow_5 rfl (fun hc => ?_) (fun hc => ?_)
    · have hf := it_t hf hc
      obtain rfl := Option.some.inj hf
      refine o_keep [false, false, false] ?_
      exact K
    · have hf := it_f hf hc
      refine o_aload_n (pc := 8) dX12_movesRow_8 rfl ?_
      refine o_iload_n (pc := 9) dX12_movesRow_9 rfl ?_
      refine o_aload_n (pc := 10) dX12_movesRow_10 rfl ?_
      refine o_aload_n (pc := 11) dX12_movesRow_11 rfl ?_
      refine o_iload_n (pc := 12) dX12_movesRow_12 rfl ?_
      obtain ⟨hk1, hf⟩ := ck_elim hf
      refine m_iald (pc := 13) (by decide) rfl hk1 dX12_movesRow_13 ?_
      obtain ⟨q3, hk2, hf⟩ := bd_elim hf
      refine m_callV (pc := 14) [.int (gi s 12 (ix x2))] dX12_movesRow_14 (kX12_moves hk2) stX12_474 ⟨by decide, by decide, by decide, by decide⟩ ⟨rfl, rfl⟩ (Nat.le_of_ble_eq_true rfl) ?_
      show Rn g mdX12_movesRow 17 [some (.ref 0), some (.ref 12), some (.int x2)] [.int q3.1, .int x2, .ref 12] (mW q3.2) 0 0 r h2
      obtain ⟨hk4, hf⟩ := ck_elim hf
      refine m_iast (pc := 17) (by decide) rfl hk4 dX12_movesRow_17 ?_
      refine lz_s (mW) hf (fun s5 hf => ?_)
      show Rn g mdX12_movesRow 18 [some (.ref 0), some (.ref 12), some (.int x2)] [] (mW s5) 0 0 r h2
      refine o_iinc (pc := 18) dX12_movesRow_18 rfl (by decide) rfl ?_
      show Rn g mdX12_movesRow 21 [some (.ref 0), some (.ref 12), some (.int (x2 + 1))] [] (mW s5) 0 0 r h2
      obtain ⟨v6, ev6, hf⟩ := lt_elim hf
      rw [ev6]
      show Rn g mdX12_movesRow 21 [some (.ref 0), some (.ref 12), some (.int v6)] [] (mW s5) 0 0 r h2
      refine o_goto (pc := 21) 2 dX12_movesRow_21 rfl ?_
      exact ih _ _ hf K
set_option maxRecDepth 20000 in
theorem kX12_movesRow_12 {g : GX} {s : ST} {q : ST} (hf : fX12_movesRow_12 s = some q) : Cn g mdX12_movesRow [.ref 0, .ref 12] (mW s) none (mW q) := by
  refine Cn.of (by decide) (Nat.le_of_ble_eq_true rfl) ?_
  show Rn g mdX12_movesRow 0 [some (.ref 0), some (.ref 12), none] [] (mW s) 0 0 none (mW q)
  unfold fX12_movesRow_12 at hf
  refine o_iconst (pc := 0) (v := 0) dX12_movesRow_0 rfl ?_
  refine o_istore_n (pc := 1) dX12_movesRow_1 (by decide) rfl ?_
  show Rn g mdX12_movesRow 2 [some (.ref 0), some (.ref 12), some (.int 0)] [] (mW s) 0 0 none (mW q)
  obtain ⟨w7, hl8, hf⟩ := bd_elim hf
  have K9 : Rn g mdX12_movesRow 24 [none, none, none] [] (mW w7.2) 0 0 none (mW q) := by
    obtain rfl := Option.some.inj hf
    exact o_return (pc := 24) dX12_movesRow_24 rfl (Nat.zero_le _) (Nat.zero_le _)
  exact kX12_movesRow_12_L2 _ _ _ hl8 K9
def fX12_movesAll (p0 : Int32) (p1 : Int32) (s : ST) : Option (ST) :=
  lt (si s 0 67 (46 * p0)) (fun s1 => ck (bz p1) (lt (si s1 0 68 p1) (fun s3 => ck (inb 8 13) ((fX12_moves (gi s3 1 (ix 8)) s3).bind (fun q6 => ck (inb 8 13) (lt (si q6.2 1 (ix 8) q6.1) (fun s8 => ck (inb 9 13) ((fX12_moves (gi s8 1 (ix 9)) s8).bind (fun q11 => ck (inb 9 13) (lt (si q11.2 1 (ix 9) q11.1) (fun s13 => (fX12_movesRow_3 s13).bind (fun q15 => (fX12_movesRow_4 q15).bind (fun q17 => (fX12_movesRow_5 q17).bind (fun q19 => (fX12_movesRow_6 q19).bind (fun q21 => (fX12_movesRow_9 q21).bind (fun q23 => (fX12_movesRow_11 q23).bind (fun q25 => (fX12_movesRow_12 q25).bind (fun q27 => some q27))))))))))))))))))
set_option maxRecDepth 20000 in
theorem kX12_movesAll {g : GX} {p0 : Int32} {p1 : Int32} {s : ST} {q : ST} (hf : fX12_movesAll p0 p1 s = some q) : Cn g mdX12_movesAll [.ref 0, .int p0, .int p1] (mW s) none (mW q) := by
  refine Cn.of (by decide) (Nat.le_of_ble_eq_true rfl) ?_
  show Rn g mdX12_movesAll 0 [some (.ref 0), some (.int p0), some (.int p1)] [] (mW s) 0 0 none (mW q)
  unfold fX12_movesAll at hf
  refine o_aload_n (pc := 0) dX12_movesAll_0 rfl ?_
  refine o_bipush (pc := 1) (v := 46) dX12_movesAll_1 rfl ?_
  refine o_iload_n (pc := 3) dX12_movesAll_3 rfl ?_
  refine o_imul (pc := 4) dX12_movesAll_4 ?_
  refine m_putI (pc := 5) 67 (by decide) rfl rfl lkX12_471 ⟨rfl, rfl⟩ dX12_movesAll_5 ?_
  refine lz_s (mW) hf (fun s1 hf => ?_)
  show Rn g mdX12_movesAll 8 [some (.ref 0), some (.int p0), some (.int p1)] [] (mW s1) 0 0 none (mW q)
  refine o_aload_n (pc := 8) dX12_movesAll_8 rfl ?_
  refine o_iload_n (pc := 9) dX12_movesAll_9 rfl ?_
  obtain ⟨hk2, hf⟩ := ck_elim hf
  refine m_putI (pc := 10) 68 (by decide) rfl rfl lkX12_468 (bz_n hk2) dX12_movesAll_10 ?_
  refine lz_s (mW) hf (fun s3 hf => ?_)
  show Rn g mdX12_movesAll 13 [some (.ref 0), some (.int p0), some (.int p1)] [] (mW s3) 0 0 none (mW q)
  refine o_aload_n (pc := 13) dX12_movesAll_13 rfl ?_
  refine m_getA (pc := 14) 1 1 (by decide) rfl rfl lkX12_9 dX12_movesAll_14 ?_
  refine o_bipush (pc := 17) (v := 8) dX12_movesAll_17 rfl ?_
  refine o_aload_n (pc := 19) dX12_movesAll_19 rfl ?_
  refine o_aload_n (pc := 20) dX12_movesAll_20 rfl ?_
  refine m_getA (pc := 21) 1 1 (by decide) rfl rfl lkX12_9 dX12_movesAll_21 ?_
  refine o_bipush (pc := 24) (v := 8) dX12_movesAll_24 rfl ?_
  obtain ⟨hk4, hf⟩ := ck_elim hf
  refine m_iald (pc := 26) (by decide) rfl hk4 dX12_movesAll_26 ?_
  obtain ⟨q6, hk5, hf⟩ := bd_elim hf
  refine m_callV (pc := 27) [.int (gi s3 1 (ix 8))] dX12_movesAll_27 (kX12_moves hk5) stX12_474 ⟨by decide, by decide, by decide, by decide⟩ ⟨rfl, rfl⟩ (Nat.le_of_ble_eq_true rfl) ?_
  show Rn g mdX12_movesAll 30 [some (.ref 0), some (.int p0), some (.int p1)] [.int q6.1, .int 8, .ref 1] (mW q6.2) 0 0 none (mW q)
  obtain ⟨hk7, hf⟩ := ck_elim hf
  refine m_iast (pc := 30) (by decide) rfl hk7 dX12_movesAll_30 ?_
  refine lz_s (mW) hf (fun s8 hf => ?_)
  show Rn g mdX12_movesAll 31 [some (.ref 0), some (.int p0), some (.int p1)] [] (mW s8) 0 0 none (mW q)
  refine o_aload_n (pc := 31) dX12_movesAll_31 rfl ?_
  refine m_getA (pc := 32) 1 1 (by decide) rfl rfl lkX12_9 dX12_movesAll_32 ?_
  refine o_bipush (pc := 35) (v := 9) dX12_movesAll_35 rfl ?_
  refine o_aload_n (pc := 37) dX12_movesAll_37 rfl ?_
  refine o_aload_n (pc := 38) dX12_movesAll_38 rfl ?_
  refine m_getA (pc := 39) 1 1 (by decide) rfl rfl lkX12_9 dX12_movesAll_39 ?_
  refine o_bipush (pc := 42) (v := 9) dX12_movesAll_42 rfl ?_
  obtain ⟨hk9, hf⟩ := ck_elim hf
  refine m_iald (pc := 44) (by decide) rfl hk9 dX12_movesAll_44 ?_
  obtain ⟨q11, hk10, hf⟩ := bd_elim hf
  refine m_callV (pc := 45) [.int (gi s8 1 (ix 9))] dX12_movesAll_45 (kX12_moves hk10) stX12_474 ⟨by decide, by decide, by decide, by decide⟩ ⟨rfl, rfl⟩ (Nat.le_of_ble_eq_true rfl) ?_
  show Rn g mdX12_movesAll 48 [some (.ref 0), some (.int p0), some (.int p1)] [.int q11.1, .int 9, .ref 1] (mW q11.2) 0 0 none (mW q)
  obtain ⟨hk12, hf⟩ := ck_elim hf
  refine m_iast (pc := 48) (by decide) rfl hk12 dX12_movesAll_48 ?_
  refine lz_s (mW) hf (fun s13 hf => ?_)
  show Rn g mdX12_movesAll 49 [some (.ref 0), some (.int p0), some (.int p1)] [] (mW s13) 0 0 none (mW q)
  refine o_aload_n (pc := 49) dX12_movesAll_49 rfl ?_
  refine o_aload_n (pc := 50) dX12_movesAll_50 rfl ?_
  refine m_getA (pc := 51) 3 3 (by decide) rfl rfl lkX12_16 dX12_movesAll_51 ?_
  obtain ⟨q15, hk14, hf⟩ := bd_elim hf
  refine m_callV (pc := 54) [.ref 3] dX12_movesAll_54 (kX12_movesRow_3 hk14) stX12_477 ⟨by decide, by decide, by decide, by decide⟩ ⟨rfl, rfl⟩ (Nat.le_of_ble_eq_true rfl) ?_
  show Rn g mdX12_movesAll 57 [some (.ref 0), some (.int p0), some (.int p1)] [] (mW q15) 0 0 none (mW q)
  refine o_aload_n (pc := 57) dX12_movesAll_57 rfl ?_
  refine o_aload_n (pc := 58) dX12_movesAll_58 rfl ?_
  refine m_getA (pc := 59) 4 4 (by decide) rfl rfl lkX12_19 dX12_movesAll_59 ?_
  obtain ⟨q17, hk16, hf⟩ := bd_elim hf
  refine m_callV (pc := 62) [.ref 4] dX12_movesAll_62 (kX12_movesRow_4 hk16) stX12_477 ⟨by decide, by decide, by decide, by decide⟩ ⟨rfl, rfl⟩ (Nat.le_of_ble_eq_true rfl) ?_
  show Rn g mdX12_movesAll 65 [some (.ref 0), some (.int p0), some (.int p1)] [] (mW q17) 0 0 none (mW q)
  refine o_aload_n (pc := 65) dX12_movesAll_65 rfl ?_
  refine o_aload_n (pc := 66) dX12_movesAll_66 rfl ?_
  refine m_getA (pc := 67) 5 5 (by decide) rfl rfl lkX12_22 dX12_movesAll_67 ?_
  obtain ⟨q19, hk18, hf⟩ := bd_elim hf
  refine m_callV (pc := 70) [.ref 5] dX12_movesAll_70 (kX12_movesRow_5 hk18) stX12_477 ⟨by decide, by decide, by decide, by decide⟩ ⟨rfl, rfl⟩ (Nat.le_of_ble_eq_true rfl) ?_
  show Rn g mdX12_movesAll 73 [some (.ref 0), some (.int p0), some (.int p1)] [] (mW q19) 0 0 none (mW q)
  refine o_aload_n (pc := 73) dX12_movesAll_73 rfl ?_
  refine o_aload_n (pc := 74) dX12_movesAll_74 rfl ?_
  refine m_getA (pc := 75) 6 6 (by decide) rfl rfl lkX12_25 dX12_movesAll_75 ?_
  obtain ⟨q21, hk20, hf⟩ := bd_elim hf
  refine m_callV (pc := 78) [.ref 6] dX12_movesAll_78 (kX12_movesRow_6 hk20) stX12_477 ⟨by decide, by decide, by decide, by decide⟩ ⟨rfl, rfl⟩ (Nat.le_of_ble_eq_true rfl) ?_
  show Rn g mdX12_movesAll 81 [some (.ref 0), some (.int p0), some (.int p1)] [] (mW q21) 0 0 none (mW q)
  refine o_aload_n (pc := 81) dX12_movesAll_81 rfl ?_
  refine o_aload_n (pc := 82) dX12_movesAll_82 rfl ?_
  refine m_getA (pc := 83) 9 9 (by decide) rfl rfl lkX12_34 dX12_movesAll_83 ?_
  obtain ⟨q23, hk22, hf⟩ := bd_elim hf
  refine m_callV (pc := 86) [.ref 9] dX12_movesAll_86 (kX12_movesRow_9 hk22) stX12_477 ⟨by decide, by decide, by decide, by decide⟩ ⟨rfl, rfl⟩ (Nat.le_of_ble_eq_true rfl) ?_
  show Rn g mdX12_movesAll 89 [some (.ref 0), some (.int p0), some (.int p1)] [] (mW q23) 0 0 none (mW q)
  refine o_aload_n (pc := 89) dX12_movesAll_89 rfl ?_
  refine o_aload_n (pc := 90) dX12_movesAll_90 rfl ?_
  refine m_getA (pc := 91) 11 11 (by decide) rfl rfl lkX12_40 dX12_movesAll_91 ?_
  obtain ⟨q25, hk24, hf⟩ := bd_elim hf
  refine m_callV (pc := 94) [.ref 11] dX12_movesAll_94 (kX12_movesRow_11 hk24) stX12_477 ⟨by decide, by decide, by decide, by decide⟩ ⟨rfl, rfl⟩ (Nat.le_of_ble_eq_true rfl) ?_
  show Rn g mdX12_movesAll 97 [some (.ref 0), some (.int p0), some (.int p1)] [] (mW q25) 0 0 none (mW q)
  refine o_aload_n (pc := 97) dX12_movesAll_97 rfl ?_
  refine o_aload_n (pc := 98) dX12_movesAll_98 rfl ?_
  refine m_getA (pc := 99) 12 12 (by decide) rfl rfl lkX12_43 dX12_movesAll_99 ?_
  obtain ⟨q27, hk26, hf⟩ := bd_elim hf
  refine m_callV (pc := 102) [.ref 12] dX12_movesAll_102 (kX12_movesRow_12 hk26) stX12_477 ⟨by decide, by decide, by decide, by decide⟩ ⟨rfl, rfl⟩ (Nat.le_of_ble_eq_true rfl) ?_
  show Rn g mdX12_movesAll 105 [some (.ref 0), some (.int p0), some (.int p1)] [] (mW q27) 0 0 none (mW q)
  obtain rfl := Option.some.inj hf
  exact o_return (pc := 105) dX12_movesAll_105 rfl (Nat.zero_le _) (Nat.zero_le _)
def fX12_keepsAct_L12 : Nat → Int32 → ST → Option (Int32 × ST)
  | 0, _, _ => none
  | n + 1, x1, s => if 920 ≤ x1 then some (x1, s) else ck (inb x1 920) (ck (inb (x1 - 46) 920) (lt (si s 46 (ix (x1 - 46)) (gi s 46 (ix x1))) (fun s6 => lt (x1 + 1) (fun v7 => fX12_keepsAct_L12 n v7 s6))))
def fX12_keepsAct (s : ST) : Option (ST) :=
  (if (gi s 0 66) = 20 then (fX12_keepsAct_L12 FUEL 46 s).bind (fun w8 => lt (si w8.2 0 66 ((gi w8.2 0 66) - 1)) (fun s11 => some s11)) else some s : Option (ST)).bind (fun w1 => (fX12_movesAll (gi w1 0 66) 0 w1).bind (fun q13 => lt (si q13 0 66 ((gi q13 0 66) + 1)) (fun s14 => some s14)))
set_option maxRecDepth 20000 in
theorem kX12_keepsAct_L12 {g : GX} {r : Option Value} {h2 : PH} : ∀ (n : Nat) (x1 : Int32) (s : ST) {w : Int32 × ST}, fX12_keepsAct_L12 n x1 s = some w → Rn g mdX12_keepsAct 40 [some (.ref 0), none] [] (mW w.2) 0 0 r h2 → Rn g mdX12_keepsAct 12 [some (.ref 0), some (.int x1)] [] (mW s) 0 0 r h2 := by
  intro n
  induction n with
  | zero => intro x1 s w hf K; cases hf
  | succ n ih =>
    intro x1 s w hf K
    rw [fX12_keepsAct_L12] at hf
    refine o_iload_n (pc := 12) dX12_keepsAct_12 rfl ?_
    refine o_sipush (pc := 13) (v := 920) dX12_keepsAct_13 rfl ?_
    refine o_icmp_ge (pc := 16) 40 dX12_keepsAct_16 rfl (fun hc => ?_) (fun hc => ?_)
    · have hf := it_t hf hc
      obtain rfl := Option.some.inj hf
      refine o_keep [true, false] ?_
      exact K
    · have hf := it_f hf hc
      refine o_aload_n (pc := 19) dX12_keepsAct_19 rfl ?_
      refine m_getA (pc := 20) 64 46 (by decide) rfl rfl lkX12_157 dX12_keepsAct_20 ?_
      refine o_iload_n (pc := 23) dX12_keepsAct_23 rfl ?_
      refine o_bipush (pc := 24) (v := 46) dX12_keepsAct_24 rfl ?_
      refine o_isub (pc := 26) dX12_keepsAct_26 ?_
      refine o_aload_n (pc := 27) dX12_keepsAct_27 rfl ?_
      refine m_getA (pc := 28) 64 46 (by decide) rfl rfl lkX12_157 dX12_keepsAct_28 ?_
      refine o_iload_n (pc := 31) dX12_keepsAct_31 rfl ?_
      obtain ⟨hk4, hf⟩ := ck_elim hf
      refine m_iald (pc := 32) (by decide) rfl hk4 dX12_keepsAct_32 ?_
      obtain ⟨hk5, hf⟩ := ck_elim hf
      refine m_iast (pc := 33) (by decide) rfl hk5 dX12_keepsAct_33 ?_
      refine lz_s (mW) hf (fun s6 hf => ?_)
      show Rn g mdX12_keepsAct 34 [some (.ref 0), some (.int x1)] [] (mW s6) 0 0 r h2
      refine o_iinc (pc := 34) dX12_keepsAct_34 rfl (by decide) rfl ?_
      show Rn g mdX12_keepsAct 37 [some (.ref 0), some (.int (x1 + 1))] [] (mW s6) 0 0 r h2
      obtain ⟨v7, ev7, hf⟩ := lt_elim hf
      rw [ev7]
      show Rn g mdX12_keepsAct 37 [some (.ref 0), some (.int v7)] [] (mW s6) 0 0 r h2
      refine o_goto (pc := 37) 12 dX12_keepsAct_37 rfl ?_
      exact ih _ _ hf K
set_option maxRecDepth 20000 in
theorem kX12_keepsAct {g : GX} {s : ST} {q : ST} (hf : fX12_keepsAct s = some q) : Cn g mdX12_keepsAct [.ref 0] (mW s) none (mW q) := by
  refine Cn.of (by decide) (Nat.le_of_ble_eq_true rfl) ?_
  show Rn g mdX12_keepsAct 0 [some (.ref 0), none] [] (mW s) 0 0 none (mW q)
  unfold fX12_keepsAct at hf
  refine o_aload_n (pc := 0) dX12_keepsAct_0 rfl ?_
  refine m_getI (pc := 1) 66 (by decide) rfl lkX12_366 dX12_keepsAct_1 ?_
  refine o_bipush (pc := 4) (v := 20) dX12_keepsAct_4 rfl ?_
  obtain ⟨w1, hr2, hf⟩ := bd_elim hf
  have K3 : Rn g mdX12_keepsAct 50 [some (.ref 0), none] [] (mW w1) 0 0 none (mW q) := by
    refine o_aload_n (pc := 50) dX12_keepsAct_50 rfl ?_
    refine o_aload_n (pc := 51) dX12_keepsAct_51 rfl ?_
    refine m_getI (pc := 52) 66 (by decide) rfl lkX12_366 dX12_keepsAct_52 ?_
    refine o_iconst (pc := 55) (v := 0) dX12_keepsAct_55 rfl ?_
    obtain ⟨q13, hk12, hf⟩ := bd_elim hf
    refine m_callV (pc := 56) [.int (gi w1 0 66), .int 0] dX12_keepsAct_56 (kX12_movesAll hk12) stX12_481 ⟨by decide, by decide, by decide, by decide⟩ ⟨rfl, rfl⟩ (Nat.le_of_ble_eq_true rfl) ?_
    show Rn g mdX12_keepsAct 59 [some (.ref 0), none] [] (mW q13) 0 0 none (mW q)
    refine o_aload_n (pc := 59) dX12_keepsAct_59 rfl ?_
    refine o_dup (pc := 60) dX12_keepsAct_60 rfl ?_
    refine m_getI (pc := 61) 66 (by decide) rfl lkX12_366 dX12_keepsAct_61 ?_
    refine o_iconst (pc := 64) (v := 1) dX12_keepsAct_64 rfl ?_
    refine o_iadd (pc := 65) dX12_keepsAct_65 ?_
    refine m_putI (pc := 66) 66 (by decide) rfl rfl lkX12_366 ⟨rfl, rfl⟩ dX12_keepsAct_66 ?_
    refine lz_s (mW) hf (fun s14 hf => ?_)
    show Rn g mdX12_keepsAct 69 [some (.ref 0), none] [] (mW s14) 0 0 none (mW q)
    obtain rfl := Option.some.inj hf
    exact o_return (pc := 69) dX12_keepsAct_69 rfl (Nat.zero_le _) (Nat.zero_le _)
  clear hf
  refine o_icmp_ne (pc := 6) 50 dX12_keepsAct_6 rfl (fun hc => ?_) (fun hc => ?_)
  · have hr2 := it_f hr2 hc
    obtain rfl := Option.some.inj hr2
    exact K3
  · have hr2 := it_t hr2 hc
    refine o_bipush (pc := 9) (v := 46) dX12_keepsAct_9 rfl ?_
    refine o_istore_n (pc := 11) dX12_keepsAct_11 (by decide) rfl ?_
    show Rn g mdX12_keepsAct 12 [some (.ref 0), some (.int 46)] [] (mW s) 0 0 none (mW q)
    obtain ⟨w8, hl9, hr2⟩ := bd_elim hr2
    have K10 : Rn g mdX12_keepsAct 40 [some (.ref 0), none] [] (mW w8.2) 0 0 none (mW q) := by
      refine o_aload_n (pc := 40) dX12_keepsAct_40 rfl ?_
      refine o_dup (pc := 41) dX12_keepsAct_41 rfl ?_
      refine m_getI (pc := 42) 66 (by decide) rfl lkX12_366 dX12_keepsAct_42 ?_
      refine o_iconst (pc := 45) (v := 1) dX12_keepsAct_45 rfl ?_
      refine o_isub (pc := 46) dX12_keepsAct_46 ?_
      refine m_putI (pc := 47) 66 (by decide) rfl rfl lkX12_366 ⟨rfl, rfl⟩ dX12_keepsAct_47 ?_
      refine lz_s (mW) hr2 (fun s11 hr2 => ?_)
      show Rn g mdX12_keepsAct 50 [some (.ref 0), none] [] (mW s11) 0 0 none (mW q)
      obtain rfl := Option.some.inj hr2
      exact K3
    exact kX12_keepsAct_L12 _ _ _ hl9 K10
def fX12_undo (s : ST) : Option (Int32 × ST) :=
  if (gi s 0 66) = 0 then some ((-2), s) else lt (si s 0 66 ((gi s 0 66) - 1)) (fun s1 => (fX12_movesAll (gi s1 0 66) 1 s1).bind (fun q3 => some (gi q3 0 66, q3)))
set_option maxRecDepth 20000 in
theorem kX12_undo {g : GX} {s : ST} {q : Int32 × ST} (hf : fX12_undo s = some q) : Cn g mdX12_undo [.ref 0] (mW s) (some (.int q.1)) (mW q.2) := by
  refine Cn.of (by decide) (Nat.le_of_ble_eq_true rfl) ?_
  show Rn g mdX12_undo 0 [some (.ref 0)] [] (mW s) 0 0 (some (.int q.1)) (mW q.2)
  unfold fX12_undo at hf
  refine o_aload_n (pc := 0) dX12_undo_0 rfl ?_
  refine m_getI (pc := 1) 66 (by decide) rfl lkX12_366 dX12_undo_1 ?_
  refine o_if_ne (pc := 4) 10 dX12_undo_4 rfl (fun hc => ?_) (fun hc => ?_)
  · have hf := it_f hf hc
    refine o_aload_n (pc := 10) dX12_undo_10 rfl ?_
    refine o_dup (pc := 11) dX12_undo_11 rfl ?_
    refine m_getI (pc := 12) 66 (by decide) rfl lkX12_366 dX12_undo_12 ?_
    refine o_iconst (pc := 15) (v := 1) dX12_undo_15 rfl ?_
    refine o_isub (pc := 16) dX12_undo_16 ?_
    refine m_putI (pc := 17) 66 (by decide) rfl rfl lkX12_366 ⟨rfl, rfl⟩ dX12_undo_17 ?_
    refine lz_s (mW) hf (fun s1 hf => ?_)
    show Rn g mdX12_undo 20 [some (.ref 0)] [] (mW s1) 0 0 (some (.int q.1)) (mW q.2)
    refine o_aload_n (pc := 20) dX12_undo_20 rfl ?_
    refine o_aload_n (pc := 21) dX12_undo_21 rfl ?_
    refine m_getI (pc := 22) 66 (by decide) rfl lkX12_366 dX12_undo_22 ?_
    refine o_iconst (pc := 25) (v := 1) dX12_undo_25 rfl ?_
    obtain ⟨q3, hk2, hf⟩ := bd_elim hf
    refine m_callV (pc := 26) [.int (gi s1 0 66), .int 1] dX12_undo_26 (kX12_movesAll hk2) stX12_481 ⟨by decide, by decide, by decide, by decide⟩ ⟨rfl, rfl⟩ (Nat.le_of_ble_eq_true rfl) ?_
    show Rn g mdX12_undo 29 [some (.ref 0)] [] (mW q3) 0 0 (some (.int q.1)) (mW q.2)
    refine o_aload_n (pc := 29) dX12_undo_29 rfl ?_
    refine m_getI (pc := 30) 66 (by decide) rfl lkX12_366 dX12_undo_30 ?_
    obtain rfl := Option.some.inj hf
    exact o_ireturn (pc := 33) dX12_undo_33 rfl (Nat.zero_le _) (Nat.zero_le _)
  · have hf := it_t hf hc
    refine o_bipush (pc := 7) (v := (-2)) dX12_undo_7 rfl ?_
    obtain rfl := Option.some.inj hf
    exact o_ireturn (pc := 9) dX12_undo_9 rfl (Nat.zero_le _) (Nat.zero_le _)
def fX12_day (s : ST) : Option (Int32 × ST) :=
  (fX12_isTown s).bind (fun q2 => (if q2 = 0 then some true else ck (inb 9 13) (if (gi s 1 (ix 9)) = 999 then some true else some false) : Option Bool).bind (fun b3 => if b3 = true then some ((-1), s) else (fX12_keepsAct s).bind (fun q8 => (fX12_dayGoes q8).bind (fun q10 => some (q10.1, q10.2)))))
set_option maxRecDepth 20000 in
theorem kX12_day {g : GX} {s : ST} {q : Int32 × ST} (hf : fX12_day s = some q) : Cn g mdX12_day [.ref 0] (mW s) (some (.int q.1)) (mW q.2) := by
  refine Cn.of (by decide) (Nat.le_of_ble_eq_true rfl) ?_
  show Rn g mdX12_day 0 [some (.ref 0)] [] (mW s) 0 0 (some (.int q.1)) (mW q.2)
  unfold fX12_day at hf
  refine o_aload_n (pc := 0) dX12_day_0 rfl ?_
  obtain ⟨q2, hk1, hf⟩ := bd_elim hf
  refine m_callV (pc := 1) [] dX12_day_1 (kX12_isTown hk1) stX12_485 ⟨by decide, by decide, by decide, by decide⟩ ⟨rfl, rfl⟩ (Nat.le_of_ble_eq_true rfl) ?_
  show Rn g mdX12_day 4 [some (.ref 0)] [.int q2] (mW s) 0 0 (some (.int q.1)) (mW q.2)
  obtain ⟨b3, hr4, hf⟩ := bd_elim hf
  have KB5 : (b3 = true → Rn g mdX12_day 20 [some (.ref 0)] [] (mW s) 0 0 (some (.int q.1)) (mW q.2)) ∧ (¬ b3 = true → Rn g mdX12_day 22 [some (.ref 0)] [] (mW s) 0 0 (some (.int q.1)) (mW q.2)) := by
    refine ⟨fun hc => ?_, fun hc => ?_⟩
    · have hf := it_t hf hc
      refine o_iconst (pc := 20) (v := (-1)) dX12_day_20 rfl ?_
      obtain rfl := Option.some.inj hf
      exact o_ireturn (pc := 21) dX12_day_21 rfl (Nat.zero_le _) (Nat.zero_le _)
    · have hf := it_f hf hc
      refine o_aload_n (pc := 22) dX12_day_22 rfl ?_
      obtain ⟨q8, hk7, hf⟩ := bd_elim hf
      refine m_callV (pc := 23) [] dX12_day_23 (kX12_keepsAct hk7) stX12_488 ⟨by decide, by decide, by decide, by decide⟩ ⟨rfl, rfl⟩ (Nat.le_of_ble_eq_true rfl) ?_
      show Rn g mdX12_day 26 [some (.ref 0)] [] (mW q8) 0 0 (some (.int q.1)) (mW q.2)
      refine o_aload_n (pc := 26) dX12_day_26 rfl ?_
      obtain ⟨q10, hk9, hf⟩ := bd_elim hf
      refine m_callV (pc := 27) [] dX12_day_27 (kX12_dayGoes hk9) stX12_491 ⟨by decide, by decide, by decide, by decide⟩ ⟨rfl, rfl⟩ (Nat.le_of_ble_eq_true rfl) ?_
      show Rn g mdX12_day 30 [some (.ref 0)] [.int q10.1] (mW q10.2) 0 0 (some (.int q.1)) (mW q.2)
      obtain rfl := Option.some.inj hf
      exact o_ireturn (pc := 30) dX12_day_30 rfl (Nat.zero_le _) (Nat.zero_le _)
  clear hf
  refine o_if_eq (pc := 4) 20 dX12_day_4 rfl (fun hc => ?_) (fun hc => ?_)
  · have hr4 := it_t hr4 hc
    obtain rfl := Option.some.inj hr4
    exact KB5.1 rfl
  · have hr4 := it_f hr4 hc
    refine o_aload_n (pc := 7) dX12_day_7 rfl ?_
    refine m_getA (pc := 8) 1 1 (by decide) rfl rfl lkX12_9 dX12_day_8 ?_
    refine o_bipush (pc := 11) (v := 9) dX12_day_11 rfl ?_
    obtain ⟨hk6, hr4⟩ := ck_elim hr4
    refine m_iald (pc := 13) (by decide) rfl hk6 dX12_day_13 ?_
    refine o_sipush (pc := 14) (v := 999) dX12_day_14 rfl ?_
    refine o_icmp_ne (pc := 17) 22 dX12_day_17 rfl (fun hc => ?_) (fun hc => ?_)
    · have hr4 := it_f hr4 hc
      obtain rfl := Option.some.inj hr4
      exact KB5.2 (by decide)
    · have hr4 := it_t hr4 hc
      obtain rfl := Option.some.inj hr4
      exact KB5.1 rfl
def fX12_ask (p0 : Int32) (p1 : Int32) (s : ST) : Option (Int32 × ST) :=
  (fX12_isMeeting p0 s).bind (fun q2 => (if q2 = 0 then some true else (fX12_in p1.toInt64 0 600 s).bind (fun q7 => if q7 = 0 then some true else ck (inb p0 8) (if (gi s 9 (ix p0)) = p1 then some true else some false)) : Option Bool).bind (fun b3 => if b3 = true then some ((-1), s) else (fX12_keepsAct s).bind (fun q10 => ck (inb p0 8) (lt (gi q10 9 (ix p0) : Int32) (fun v12 => ck (inb p0 8) (lt (si q10 9 (ix p0) p1) (fun s14 => some (v12, s14))))))))
set_option maxRecDepth 20000 in
theorem kX12_ask {g : GX} {p0 : Int32} {p1 : Int32} {s : ST} {q : Int32 × ST} (hf : fX12_ask p0 p1 s = some q) : Cn g mdX12_ask [.ref 0, .int p0, .int p1] (mW s) (some (.int q.1)) (mW q.2) := by
  refine Cn.of (by decide) (Nat.le_of_ble_eq_true rfl) ?_
  show Rn g mdX12_ask 0 [some (.ref 0), some (.int p0), some (.int p1), none] [] (mW s) 0 0 (some (.int q.1)) (mW q.2)
  unfold fX12_ask at hf
  refine o_aload_n (pc := 0) dX12_ask_0 rfl ?_
  refine o_iload_n (pc := 1) dX12_ask_1 rfl ?_
  obtain ⟨q2, hk1, hf⟩ := bd_elim hf
  refine m_callV (pc := 2) [.int p0] dX12_ask_2 (kX12_isMeeting hk1) stX12_465 ⟨by decide, by decide, by decide, by decide⟩ ⟨rfl, rfl⟩ (Nat.le_of_ble_eq_true rfl) ?_
  show Rn g mdX12_ask 5 [some (.ref 0), some (.int p0), some (.int p1), none] [.int q2] (mW s) 0 0 (some (.int q.1)) (mW q.2)
  obtain ⟨b3, hr4, hf⟩ := bd_elim hf
  have KB5 : (b3 = true → Rn g mdX12_ask 30 [some (.ref 0), some (.int p0), some (.int p1), none] [] (mW s) 0 0 (some (.int q.1)) (mW q.2)) ∧ (¬ b3 = true → Rn g mdX12_ask 32 [some (.ref 0), some (.int p0), some (.int p1), none] [] (mW s) 0 0 (some (.int q.1)) (mW q.2)) := by
    refine ⟨fun hc => ?_, fun hc => ?_⟩
    · have hf := it_t hf hc
      refine o_iconst (pc := 30) (v := (-1)) dX12_ask_30 rfl ?_
      obtain rfl := Option.some.inj hf
      exact o_ireturn (pc := 31) dX12_ask_31 rfl (Nat.zero_le _) (Nat.zero_le _)
    · have hf := it_f hf hc
      refine o_aload_n (pc := 32) dX12_ask_32 rfl ?_
      obtain ⟨q10, hk9, hf⟩ := bd_elim hf
      refine m_callV (pc := 33) [] dX12_ask_33 (kX12_keepsAct hk9) stX12_488 ⟨by decide, by decide, by decide, by decide⟩ ⟨rfl, rfl⟩ (Nat.le_of_ble_eq_true rfl) ?_
      show Rn g mdX12_ask 36 [some (.ref 0), some (.int p0), some (.int p1), none] [] (mW q10) 0 0 (some (.int q.1)) (mW q.2)
      refine o_aload_n (pc := 36) dX12_ask_36 rfl ?_
      refine m_getA (pc := 37) 9 9 (by decide) rfl rfl lkX12_34 dX12_ask_37 ?_
      refine o_iload_n (pc := 40) dX12_ask_40 rfl ?_
      obtain ⟨hk11, hf⟩ := ck_elim hf
      refine m_iald (pc := 41) (by decide) rfl hk11 dX12_ask_41 ?_
      refine lz_i hf (fun v12 hf => ?_)
      refine o_istore_n (pc := 42) dX12_ask_42 (by decide) rfl ?_
      show Rn g mdX12_ask 43 [some (.ref 0), some (.int p0), some (.int p1), some (.int v12)] [] (mW q10) 0 0 (some (.int q.1)) (mW q.2)
      refine o_aload_n (pc := 43) dX12_ask_43 rfl ?_
      refine m_getA (pc := 44) 9 9 (by decide) rfl rfl lkX12_34 dX12_ask_44 ?_
      refine o_iload_n (pc := 47) dX12_ask_47 rfl ?_
      refine o_iload_n (pc := 48) dX12_ask_48 rfl ?_
      obtain ⟨hk13, hf⟩ := ck_elim hf
      refine m_iast (pc := 49) (by decide) rfl hk13 dX12_ask_49 ?_
      refine lz_s (mW) hf (fun s14 hf => ?_)
      show Rn g mdX12_ask 50 [some (.ref 0), some (.int p0), some (.int p1), some (.int v12)] [] (mW s14) 0 0 (some (.int q.1)) (mW q.2)
      refine o_iload_n (pc := 50) dX12_ask_50 rfl ?_
      obtain rfl := Option.some.inj hf
      exact o_ireturn (pc := 51) dX12_ask_51 rfl (Nat.zero_le _) (Nat.zero_le _)
  clear hf
  refine o_if_eq (pc := 5) 30 dX12_ask_5 rfl (fun hc => ?_) (fun hc => ?_)
  · have hr4 := it_t hr4 hc
    obtain rfl := Option.some.inj hr4
    exact KB5.1 rfl
  · have hr4 := it_f hr4 hc
    refine o_iload_n (pc := 8) dX12_ask_8 rfl ?_
    refine o_i2l (pc := 9) dX12_ask_9 ?_
    refine o_lconst (pc := 10) (v := 0) dX12_ask_10 rfl ?_
    refine o_ldc2 (pc := 11) dX12_ask_11 lcX12_494 ?_
    obtain ⟨q7, hk6, hr4⟩ := bd_elim hr4
    refine m_callS (pc := 14) [.long p1.toInt64, .long 0, .long 600] dX12_ask_14 (kX12_in hk6) stX12_191 ⟨by decide, by decide, by decide, by decide⟩ ⟨rfl, rfl⟩ (Nat.le_of_ble_eq_true rfl) ?_
    show Rn g mdX12_ask 17 [some (.ref 0), some (.int p0), some (.int p1), none] [.int q7] (mW s) 0 0 (some (.int q.1)) (mW q.2)
    refine o_if_eq (pc := 17) 30 dX12_ask_17 rfl (fun hc => ?_) (fun hc => ?_)
    · have hr4 := it_t hr4 hc
      obtain rfl := Option.some.inj hr4
      exact KB5.1 rfl
    · have hr4 := it_f hr4 hc
      refine o_aload_n (pc := 20) dX12_ask_20 rfl ?_
      refine m_getA (pc := 21) 9 9 (by decide) rfl rfl lkX12_34 dX12_ask_21 ?_
      refine o_iload_n (pc := 24) dX12_ask_24 rfl ?_
      obtain ⟨hk8, hr4⟩ := ck_elim hr4
      refine m_iald (pc := 25) (by decide) rfl hk8 dX12_ask_25 ?_
      refine o_iload_n (pc := 26) dX12_ask_26 rfl ?_
      refine o_icmp_ne (pc := 27) 32 dX12_ask_27 rfl (fun hc => ?_) (fun hc => ?_)
      · have hr4 := it_f hr4 hc
        obtain rfl := Option.some.inj hr4
        exact KB5.2 (by decide)
      · have hr4 := it_t hr4 hc
        obtain rfl := Option.some.inj hr4
        exact KB5.1 rfl
def fX12_set (p0 : Int32) (p1 : Int32) (s : ST) : Option (Int32 × ST) :=
  (fX12_isPerson p0 s).bind (fun q2 => (if q2 = 0 then some true else (fX12_in p1.toInt64 (-20) 20 s).bind (fun q7 => if q7 = 0 then some true else ck (inb p0 5) (if (gi s 3 (ix p0)) = p1 then some true else some false)) : Option Bool).bind (fun b3 => if b3 = true then some ((-1000), s) else (fX12_keepsAct s).bind (fun q10 => ck (inb p0 5) (lt (gi q10 3 (ix p0) : Int32) (fun v12 => ck (inb p0 5) (lt (si q10 3 (ix p0) p1) (fun s14 => some (v12, s14))))))))
set_option maxRecDepth 20000 in
theorem kX12_set {g : GX} {p0 : Int32} {p1 : Int32} {s : ST} {q : Int32 × ST} (hf : fX12_set p0 p1 s = some q) : Cn g mdX12_set [.ref 0, .int p0, .int p1] (mW s) (some (.int q.1)) (mW q.2) := by
  refine Cn.of (by decide) (Nat.le_of_ble_eq_true rfl) ?_
  show Rn g mdX12_set 0 [some (.ref 0), some (.int p0), some (.int p1), none] [] (mW s) 0 0 (some (.int q.1)) (mW q.2)
  unfold fX12_set at hf
  refine o_aload_n (pc := 0) dX12_set_0 rfl ?_
  refine o_iload_n (pc := 1) dX12_set_1 rfl ?_
  obtain ⟨q2, hk1, hf⟩ := bd_elim hf
  refine m_callV (pc := 2) [.int p0] dX12_set_2 (kX12_isPerson hk1) stX12_458 ⟨by decide, by decide, by decide, by decide⟩ ⟨rfl, rfl⟩ (Nat.le_of_ble_eq_true rfl) ?_
  show Rn g mdX12_set 5 [some (.ref 0), some (.int p0), some (.int p1), none] [.int q2] (mW s) 0 0 (some (.int q.1)) (mW q.2)
  obtain ⟨b3, hr4, hf⟩ := bd_elim hf
  have KB5 : (b3 = true → Rn g mdX12_set 32 [some (.ref 0), some (.int p0), some (.int p1), none] [] (mW s) 0 0 (some (.int q.1)) (mW q.2)) ∧ (¬ b3 = true → Rn g mdX12_set 36 [some (.ref 0), some (.int p0), some (.int p1), none] [] (mW s) 0 0 (some (.int q.1)) (mW q.2)) := by
    refine ⟨fun hc => ?_, fun hc => ?_⟩
    · have hf := it_t hf hc
      refine o_sipush (pc := 32) (v := (-1000)) dX12_set_32 rfl ?_
      obtain rfl := Option.some.inj hf
      exact o_ireturn (pc := 35) dX12_set_35 rfl (Nat.zero_le _) (Nat.zero_le _)
    · have hf := it_f hf hc
      refine o_aload_n (pc := 36) dX12_set_36 rfl ?_
      obtain ⟨q10, hk9, hf⟩ := bd_elim hf
      refine m_callV (pc := 37) [] dX12_set_37 (kX12_keepsAct hk9) stX12_488 ⟨by decide, by decide, by decide, by decide⟩ ⟨rfl, rfl⟩ (Nat.le_of_ble_eq_true rfl) ?_
      show Rn g mdX12_set 40 [some (.ref 0), some (.int p0), some (.int p1), none] [] (mW q10) 0 0 (some (.int q.1)) (mW q.2)
      refine o_aload_n (pc := 40) dX12_set_40 rfl ?_
      refine m_getA (pc := 41) 3 3 (by decide) rfl rfl lkX12_16 dX12_set_41 ?_
      refine o_iload_n (pc := 44) dX12_set_44 rfl ?_
      obtain ⟨hk11, hf⟩ := ck_elim hf
      refine m_iald (pc := 45) (by decide) rfl hk11 dX12_set_45 ?_
      refine lz_i hf (fun v12 hf => ?_)
      refine o_istore_n (pc := 46) dX12_set_46 (by decide) rfl ?_
      show Rn g mdX12_set 47 [some (.ref 0), some (.int p0), some (.int p1), some (.int v12)] [] (mW q10) 0 0 (some (.int q.1)) (mW q.2)
      refine o_aload_n (pc := 47) dX12_set_47 rfl ?_
      refine m_getA (pc := 48) 3 3 (by decide) rfl rfl lkX12_16 dX12_set_48 ?_
      refine o_iload_n (pc := 51) dX12_set_51 rfl ?_
      refine o_iload_n (pc := 52) dX12_set_52 rfl ?_
      obtain ⟨hk13, hf⟩ := ck_elim hf
      refine m_iast (pc := 53) (by decide) rfl hk13 dX12_set_53 ?_
      refine lz_s (mW) hf (fun s14 hf => ?_)
      show Rn g mdX12_set 54 [some (.ref 0), some (.int p0), some (.int p1), some (.int v12)] [] (mW s14) 0 0 (some (.int q.1)) (mW q.2)
      refine o_iload_n (pc := 54) dX12_set_54 rfl ?_
      obtain rfl := Option.some.inj hf
      exact o_ireturn (pc := 55) dX12_set_55 rfl (Nat.zero_le _) (Nat.zero_le _)
  clear hf
  refine o_if_eq (pc := 5) 32 dX12_set_5 rfl (fun hc => ?_) (fun hc => ?_)
  · have hr4 := it_t hr4 hc
    obtain rfl := Option.some.inj hr4
    exact KB5.1 rfl
  · have hr4 := it_f hr4 hc
    refine o_iload_n (pc := 8) dX12_set_8 rfl ?_
    refine o_i2l (pc := 9) dX12_set_9 ?_
    refine o_ldc2 (pc := 10) dX12_set_10 lcX12_496 ?_
    refine o_ldc2 (pc := 13) dX12_set_13 lcX12_498 ?_
    obtain ⟨q7, hk6, hr4⟩ := bd_elim hr4
    refine m_callS (pc := 16) [.long p1.toInt64, .long (-20), .long 20] dX12_set_16 (kX12_in hk6) stX12_191 ⟨by decide, by decide, by decide, by decide⟩ ⟨rfl, rfl⟩ (Nat.le_of_ble_eq_true rfl) ?_
    show Rn g mdX12_set 19 [some (.ref 0), some (.int p0), some (.int p1), none] [.int q7] (mW s) 0 0 (some (.int q.1)) (mW q.2)
    refine o_if_eq (pc := 19) 32 dX12_set_19 rfl (fun hc => ?_) (fun hc => ?_)
    · have hr4 := it_t hr4 hc
      obtain rfl := Option.some.inj hr4
      exact KB5.1 rfl
    · have hr4 := it_f hr4 hc
      refine o_aload_n (pc := 22) dX12_set_22 rfl ?_
      refine m_getA (pc := 23) 3 3 (by decide) rfl rfl lkX12_16 dX12_set_23 ?_
      refine o_iload_n (pc := 26) dX12_set_26 rfl ?_
      obtain ⟨hk8, hr4⟩ := ck_elim hr4
      refine m_iald (pc := 27) (by decide) rfl hk8 dX12_set_27 ?_
      refine o_iload_n (pc := 28) dX12_set_28 rfl ?_
      refine o_icmp_ne (pc := 29) 36 dX12_set_29 rfl (fun hc => ?_) (fun hc => ?_)
      · have hr4 := it_f hr4 hc
        obtain rfl := Option.some.inj hr4
        exact KB5.2 (by decide)
      · have hr4 := it_t hr4 hc
        obtain rfl := Option.some.inj hr4
        exact KB5.1 rfl
def fX12_let (p0 : Int32) (s : ST) : Option (Int32 × ST) :=
  (fX12_isPerson p0 s).bind (fun q2 => if q2 = 0 then some ((-1), s) else (fX12_keepsAct s).bind (fun q4 => ck (inb 8 13) (ck (inb 8 13) (lt (si q4 1 (ix 8) ((gi q4 1 (ix 8)) ^^^ (1 <<< (p0 &&& 31)))) (fun s7 => ck (inb 8 13) ((fX12_has (gi s7 1 (ix 8)) p0 s7).bind (fun q10 => (if q10 = 0 then some 0 else some 1 : Option (Int32)).bind (fun w11 => some (w11, s7)))))))))
set_option maxRecDepth 20000 in
theorem kX12_let {g : GX} {p0 : Int32} {s : ST} {q : Int32 × ST} (hf : fX12_let p0 s = some q) : Cn g mdX12_let [.ref 0, .int p0] (mW s) (some (.int q.1)) (mW q.2) := by
  refine Cn.of (by decide) (Nat.le_of_ble_eq_true rfl) ?_
  show Rn g mdX12_let 0 [some (.ref 0), some (.int p0)] [] (mW s) 0 0 (some (.int q.1)) (mW q.2)
  unfold fX12_let at hf
  refine o_aload_n (pc := 0) dX12_let_0 rfl ?_
  refine o_iload_n (pc := 1) dX12_let_1 rfl ?_
  obtain ⟨q2, hk1, hf⟩ := bd_elim hf
  refine m_callV (pc := 2) [.int p0] dX12_let_2 (kX12_isPerson hk1) stX12_458 ⟨by decide, by decide, by decide, by decide⟩ ⟨rfl, rfl⟩ (Nat.le_of_ble_eq_true rfl) ?_
  show Rn g mdX12_let 5 [some (.ref 0), some (.int p0)] [.int q2] (mW s) 0 0 (some (.int q.1)) (mW q.2)
  refine o_if_ne (pc := 5) 10 dX12_let_5 rfl (fun hc => ?_) (fun hc => ?_)
  · have hf := it_f hf hc
    refine o_aload_n (pc := 10) dX12_let_10 rfl ?_
    obtain ⟨q4, hk3, hf⟩ := bd_elim hf
    refine m_callV (pc := 11) [] dX12_let_11 (kX12_keepsAct hk3) stX12_488 ⟨by decide, by decide, by decide, by decide⟩ ⟨rfl, rfl⟩ (Nat.le_of_ble_eq_true rfl) ?_
    show Rn g mdX12_let 14 [some (.ref 0), some (.int p0)] [] (mW q4) 0 0 (some (.int q.1)) (mW q.2)
    refine o_aload_n (pc := 14) dX12_let_14 rfl ?_
    refine m_getA (pc := 15) 1 1 (by decide) rfl rfl lkX12_9 dX12_let_15 ?_
    refine o_bipush (pc := 18) (v := 8) dX12_let_18 rfl ?_
    refine o_dup2 (pc := 20) dX12_let_20 rfl rfl ?_
    obtain ⟨hk5, hf⟩ := ck_elim hf
    refine m_iald (pc := 21) (by decide) rfl hk5 dX12_let_21 ?_
    refine o_iconst (pc := 22) (v := 1) dX12_let_22 rfl ?_
    refine o_iload_n (pc := 23) dX12_let_23 rfl ?_
    refine o_ishl (pc := 24) dX12_let_24 ?_
    refine o_ixor (pc := 25) dX12_let_25 ?_
    obtain ⟨hk6, hf⟩ := ck_elim hf
    refine m_iast (pc := 26) (by decide) rfl hk6 dX12_let_26 ?_
    refine lz_s (mW) hf (fun s7 hf => ?_)
    show Rn g mdX12_let 27 [some (.ref 0), some (.int p0)] [] (mW s7) 0 0 (some (.int q.1)) (mW q.2)
    refine o_aload_n (pc := 27) dX12_let_27 rfl ?_
    refine m_getA (pc := 28) 1 1 (by decide) rfl rfl lkX12_9 dX12_let_28 ?_
    refine o_bipush (pc := 31) (v := 8) dX12_let_31 rfl ?_
    obtain ⟨hk8, hf⟩ := ck_elim hf
    refine m_iald (pc := 33) (by decide) rfl hk8 dX12_let_33 ?_
    refine o_iload_n (pc := 34) dX12_let_34 rfl ?_
    obtain ⟨q10, hk9, hf⟩ := bd_elim hf
    refine m_callS (pc := 35) [.int (gi s7 1 (ix 8)), .int p0] dX12_let_35 (kX12_has hk9) stX12_403 ⟨by decide, by decide, by decide, by decide⟩ ⟨rfl, rfl⟩ (Nat.le_of_ble_eq_true rfl) ?_
    show Rn g mdX12_let 38 [some (.ref 0), some (.int p0)] [.int q10] (mW s7) 0 0 (some (.int q.1)) (mW q.2)
    obtain ⟨w11, hr12, hf⟩ := bd_elim hf
    have K13 : Rn g mdX12_let 46 [none, none] [.int w11] (mW s7) 0 0 (some (.int q.1)) (mW q.2) := by
      obtain rfl := Option.some.inj hf
      exact o_ireturn (pc := 46) dX12_let_46 rfl (Nat.zero_le _) (Nat.zero_le _)
    clear hf
    refine o_if_eq (pc := 38) 45 dX12_let_38 rfl (fun hc => ?_) (fun hc => ?_)
    · have hr12 := it_t hr12 hc
      refine o_iconst (pc := 45) (v := 0) dX12_let_45 rfl ?_
      obtain rfl := Option.some.inj hr12
      refine o_keep [false, false] ?_
      exact K13
    · have hr12 := it_f hr12 hc
      refine o_iconst (pc := 41) (v := 1) dX12_let_41 rfl ?_
      refine o_goto (pc := 42) 46 dX12_let_42 rfl ?_
      obtain rfl := Option.some.inj hr12
      refine o_keep [false, false] ?_
      exact K13
  · have hf := it_t hf hc
    refine o_iconst (pc := 8) (v := (-1)) dX12_let_8 rfl ?_
    obtain rfl := Option.some.inj hf
    exact o_ireturn (pc := 9) dX12_let_9 rfl (Nat.zero_le _) (Nat.zero_le _)
def fX12_carryRow_1_L2 : Nat → Int32 → ST → Option (Int32 × ST)
  | 0, _, _ => none
  | n + 1, x2, s => if 13 ≤ x2 then some (x2, s) else (if (gi s 0 81) = 0 then ck (inb x2 13) (ck (inb (gi s 0 80) 6000) (lt (si s 54 (ix (gi s 0 80)) (gi s 1 (ix x2))) (fun s6 => some s6))) else ck (inb (gi s 0 80) 6000) (ck (inb x2 13) (lt (si s 1 (ix x2) (gi s 54 (ix (gi s 0 80)))) (fun s9 => some s9))) : Option (ST)).bind (fun w1 => lt (si w1 0 80 ((gi w1 0 80) + 1)) (fun s10 => lt (x2 + 1) (fun v11 => fX12_carryRow_1_L2 n v11 s10)))
def fX12_carryRow_1 (s : ST) : Option (ST) :=
  (fX12_carryRow_1_L2 FUEL 0 s).bind (fun w12 => some w12.2)
set_option maxRecDepth 20000 in
theorem kX12_carryRow_1_L2 {g : GX} {r : Option Value} {h2 : PH} : ∀ (n : Nat) (x2 : Int32) (s : ST) {w : Int32 × ST}, fX12_carryRow_1_L2 n x2 s = some w → Rn g mdX12_carryRow 58 [none, none, none] [] (mW w.2) 0 0 r h2 → Rn g mdX12_carryRow 2 [some (.ref 0), some (.ref 1), some (.int x2)] [] (mW s) 0 0 r h2 := by
  intro n
  induction n with
  | zero => intro x2 s w hf K; cases hf
  | succ n ih =>
    intro x2 s w hf K
    rw [fX12_carryRow_1_L2] at hf
    refine o_iload_n (pc := 2) dX12_carryRow_2 rfl ?_
    refine o_aload_n (pc := 3) dX12_carryRow_3 rfl ?_
    refine m_alen (pc := 4) 13 (by decide) (by decide) rfl rfl dX12_carryRow_4 ?_
    refine o_icmp_ge (pc := 5) 58 dX12_carryRow_5 rfl (fun hc => ?_) (fun hc => ?_)
    · have hf := it_t hf hc
      obtain rfl := Option.some.inj hf
      refine o_keep [false, false, false] ?_
      exact K
    · have hf := it_f hf hc
      refine o_aload_n (pc := 8) dX12_carryRow_8 rfl ?_
      refine m_getI (pc := 9) 81 (by decide) rfl lkX12_569 dX12_carryRow_9 ?_
      obtain ⟨w1, hr2, hf⟩ := bd_elim hf
      have K3 : Rn g mdX12_carryRow 42 [some (.ref 0), some (.ref 1), some (.int x2)] [] (mW w1) 0 0 r h2 := by
        refine o_aload_n (pc := 42) dX12_carryRow_42 rfl ?_
        refine o_dup (pc := 43) dX12_carryRow_43 rfl ?_
        refine m_getI (pc := 44) 80 (by decide) rfl lkX12_572 dX12_carryRow_44 ?_
        refine o_iconst (pc := 47) (v := 1) dX12_carryRow_47 rfl ?_
        refine o_iadd (pc := 48) dX12_carryRow_48 ?_
        refine m_putI (pc := 49) 80 (by decide) rfl rfl lkX12_572 ⟨rfl, rfl⟩ dX12_carryRow_49 ?_
        refine lz_s (mW) hf (fun s10 hf => ?_)
        show Rn g mdX12_carryRow 52 [some (.ref 0), some (.ref 1), some (.int x2)] [] (mW s10) 0 0 r h2
        refine o_iinc (pc := 52) dX12_carryRow_52 rfl (by decide) rfl ?_
        show Rn g mdX12_carryRow 55 [some (.ref 0), some (.ref 1), some (.int (x2 + 1))] [] (mW s10) 0 0 r h2
        obtain ⟨v11, ev11, hf⟩ := lt_elim hf
        rw [ev11]
        show Rn g mdX12_carryRow 55 [some (.ref 0), some (.ref 1), some (.int v11)] [] (mW s10) 0 0 r h2
        refine o_goto (pc := 55) 2 dX12_carryRow_55 rfl ?_
        exact ih _ _ hf K
      clear hf
      refine o_if_eq (pc := 12) 30 dX12_carryRow_12 rfl (fun hc => ?_) (fun hc => ?_)
      · have hr2 := it_t hr2 hc
        refine o_aload_n (pc := 30) dX12_carryRow_30 rfl ?_
        refine m_getA (pc := 31) 78 54 (by decide) rfl rfl lkX12_182 dX12_carryRow_31 ?_
        refine o_aload_n (pc := 34) dX12_carryRow_34 rfl ?_
        refine m_getI (pc := 35) 80 (by decide) rfl lkX12_572 dX12_carryRow_35 ?_
        refine o_aload_n (pc := 38) dX12_carryRow_38 rfl ?_
        refine o_iload_n (pc := 39) dX12_carryRow_39 rfl ?_
        obtain ⟨hk4, hr2⟩ := ck_elim hr2
        refine m_iald (pc := 40) (by decide) rfl hk4 dX12_carryRow_40 ?_
        obtain ⟨hk5, hr2⟩ := ck_elim hr2
        refine m_iast (pc := 41) (by decide) rfl hk5 dX12_carryRow_41 ?_
        refine lz_s (mW) hr2 (fun s6 hr2 => ?_)
        show Rn g mdX12_carryRow 42 [some (.ref 0), some (.ref 1), some (.int x2)] [] (mW s6) 0 0 r h2
        obtain rfl := Option.some.inj hr2
        exact K3
      · have hr2 := it_f hr2 hc
        refine o_aload_n (pc := 15) dX12_carryRow_15 rfl ?_
        refine o_iload_n (pc := 16) dX12_carryRow_16 rfl ?_
        refine o_aload_n (pc := 17) dX12_carryRow_17 rfl ?_
        refine m_getA (pc := 18) 78 54 (by decide) rfl rfl lkX12_182 dX12_carryRow_18 ?_
        refine o_aload_n (pc := 21) dX12_carryRow_21 rfl ?_
        refine m_getI (pc := 22) 80 (by decide) rfl lkX12_572 dX12_carryRow_22 ?_
        obtain ⟨hk7, hr2⟩ := ck_elim hr2
        refine m_iald (pc := 25) (by decide) rfl hk7 dX12_carryRow_25 ?_
        obtain ⟨hk8, hr2⟩ := ck_elim hr2
        refine m_iast (pc := 26) (by decide) rfl hk8 dX12_carryRow_26 ?_
        refine lz_s (mW) hr2 (fun s9 hr2 => ?_)
        show Rn g mdX12_carryRow 27 [some (.ref 0), some (.ref 1), some (.int x2)] [] (mW s9) 0 0 r h2
        refine o_goto (pc := 27) 42 dX12_carryRow_27 rfl ?_
        obtain rfl := Option.some.inj hr2
        exact K3
set_option maxRecDepth 20000 in
theorem kX12_carryRow_1 {g : GX} {s : ST} {q : ST} (hf : fX12_carryRow_1 s = some q) : Cn g mdX12_carryRow [.ref 0, .ref 1] (mW s) none (mW q) := by
  refine Cn.of (by decide) (Nat.le_of_ble_eq_true rfl) ?_
  show Rn g mdX12_carryRow 0 [some (.ref 0), some (.ref 1), none] [] (mW s) 0 0 none (mW q)
  unfold fX12_carryRow_1 at hf
  refine o_iconst (pc := 0) (v := 0) dX12_carryRow_0 rfl ?_
  refine o_istore_n (pc := 1) dX12_carryRow_1 (by decide) rfl ?_
  show Rn g mdX12_carryRow 2 [some (.ref 0), some (.ref 1), some (.int 0)] [] (mW s) 0 0 none (mW q)
  obtain ⟨w12, hl13, hf⟩ := bd_elim hf
  have K14 : Rn g mdX12_carryRow 58 [none, none, none] [] (mW w12.2) 0 0 none (mW q) := by
    obtain rfl := Option.some.inj hf
    exact o_return (pc := 58) dX12_carryRow_58 rfl (Nat.zero_le _) (Nat.zero_le _)
  exact kX12_carryRow_1_L2 _ _ _ hl13 K14
def fX12_carryRow_2_L2 : Nat → Int32 → ST → Option (Int32 × ST)
  | 0, _, _ => none
  | n + 1, x2, s => if 5 ≤ x2 then some (x2, s) else (if (gi s 0 81) = 0 then ck (inb x2 5) (ck (inb (gi s 0 80) 6000) (lt (si s 54 (ix (gi s 0 80)) (gi s 2 (ix x2))) (fun s6 => some s6))) else ck (inb (gi s 0 80) 6000) (ck (inb x2 5) (lt (si s 2 (ix x2) (gi s 54 (ix (gi s 0 80)))) (fun s9 => some s9))) : Option (ST)).bind (fun w1 => lt (si w1 0 80 ((gi w1 0 80) + 1)) (fun s10 => lt (x2 + 1) (fun v11 => fX12_carryRow_2_L2 n v11 s10)))
def fX12_carryRow_2 (s : ST) : Option (ST) :=
  (fX12_carryRow_2_L2 FUEL 0 s).bind (fun w12 => some w12.2)
set_option maxRecDepth 20000 in
theorem kX12_carryRow_2_L2 {g : GX} {r : Option Value} {h2 : PH} : ∀ (n : Nat) (x2 : Int32) (s : ST) {w : Int32 × ST}, fX12_carryRow_2_L2 n x2 s = some w → Rn g mdX12_carryRow 58 [none, none, none] [] (mW w.2) 0 0 r h2 → Rn g mdX12_carryRow 2 [some (.ref 0), some (.ref 2), some (.int x2)] [] (mW s) 0 0 r h2 := by
  intro n
  induction n with
  | zero => intro x2 s w hf K; cases hf
  | succ n ih =>
    intro x2 s w hf K
    rw [fX12_carryRow_2_L2] at hf
    refine o_iload_n (pc := 2) dX12_carryRow_2 rfl ?_
    refine o_aload_n (pc := 3) dX12_carryRow_3 rfl ?_
    refine m_alen (pc := 4) 5 (by decide) (by decide) rfl rfl dX12_carryRow_4 ?_
    refine o_icmp_ge (pc := 5) 58 dX12_carryRow_5 rfl (fun hc => ?_) (fun hc => ?_)
    · have hf := it_t hf hc
      obtain rfl := Option.some.inj hf
      refine o_keep [false, false, false] ?_
      exact K
    · have hf := it_f hf hc
      refine o_aload_n (pc := 8) dX12_carryRow_8 rfl ?_
      refine m_getI (pc := 9) 81 (by decide) rfl lkX12_569 dX12_carryRow_9 ?_
      obtain ⟨w1, hr2, hf⟩ := bd_elim hf
      have K3 : Rn g mdX12_carryRow 42 [some (.ref 0), some (.ref 2), some (.int x2)] [] (mW w1) 0 0 r h2 := by
        refine o_aload_n (pc := 42) dX12_carryRow_42 rfl ?_
        refine o_dup (pc := 43) dX12_carryRow_43 rfl ?_
        refine m_getI (pc := 44) 80 (by decide) rfl lkX12_572 dX12_carryRow_44 ?_
        refine o_iconst (pc := 47) (v := 1) dX12_carryRow_47 rfl ?_
        refine o_iadd (pc := 48) dX12_carryRow_48 ?_
        refine m_putI (pc := 49) 80 (by decide) rfl rfl lkX12_572 ⟨rfl, rfl⟩ dX12_carryRow_49 ?_
        refine lz_s (mW) hf (fun s10 hf => ?_)
        show Rn g mdX12_carryRow 52 [some (.ref 0), some (.ref 2), some (.int x2)] [] (mW s10) 0 0 r h2
        refine o_iinc (pc := 52) dX12_carryRow_52 rfl (by decide) rfl ?_
        show Rn g mdX12_carryRow 55 [some (.ref 0), some (.ref 2), some (.int (x2 + 1))] [] (mW s10) 0 0 r h2
        obtain ⟨v11, ev11, hf⟩ := lt_elim hf
        rw [ev11]
        show Rn g mdX12_carryRow 55 [some (.ref 0), some (.ref 2), some (.int v11)] [] (mW s10) 0 0 r h2
        refine o_goto (pc := 55) 2 dX12_carryRow_55 rfl ?_
        exact ih _ _ hf K
      clear hf
      refine o_if_eq (pc := 12) 30 dX12_carryRow_12 rfl (fun hc => ?_) (fun hc => ?_)
      · have hr2 := it_t hr2 hc
        refine o_aload_n (pc := 30) dX12_carryRow_30 rfl ?_
        refine m_getA (pc := 31) 78 54 (by decide) rfl rfl lkX12_182 dX12_carryRow_31 ?_
        refine o_aload_n (pc := 34) dX12_carryRow_34 rfl ?_
        refine m_getI (pc := 35) 80 (by decide) rfl lkX12_572 dX12_carryRow_35 ?_
        refine o_aload_n (pc := 38) dX12_carryRow_38 rfl ?_
        refine o_iload_n (pc := 39) dX12_carryRow_39 rfl ?_
        obtain ⟨hk4, hr2⟩ := ck_elim hr2
        refine m_iald (pc := 40) (by decide) rfl hk4 dX12_carryRow_40 ?_
        obtain ⟨hk5, hr2⟩ := ck_elim hr2
        refine m_iast (pc := 41) (by decide) rfl hk5 dX12_carryRow_41 ?_
        refine lz_s (mW) hr2 (fun s6 hr2 => ?_)
        show Rn g mdX12_carryRow 42 [some (.ref 0), some (.ref 2), some (.int x2)] [] (mW s6) 0 0 r h2
        obtain rfl := Option.some.inj hr2
        exact K3
      · have hr2 := it_f hr2 hc
        refine o_aload_n (pc := 15) dX12_carryRow_15 rfl ?_
        refine o_iload_n (pc := 16) dX12_carryRow_16 rfl ?_
        refine o_aload_n (pc := 17) dX12_carryRow_17 rfl ?_
        refine m_getA (pc := 18) 78 54 (by decide) rfl rfl lkX12_182 dX12_carryRow_18 ?_
        refine o_aload_n (pc := 21) dX12_carryRow_21 rfl ?_
        refine m_getI (pc := 22) 80 (by decide) rfl lkX12_572 dX12_carryRow_22 ?_
        obtain ⟨hk7, hr2⟩ := ck_elim hr2
        refine m_iald (pc := 25) (by decide) rfl hk7 dX12_carryRow_25 ?_
        obtain ⟨hk8, hr2⟩ := ck_elim hr2
        refine m_iast (pc := 26) (by decide) rfl hk8 dX12_carryRow_26 ?_
        refine lz_s (mW) hr2 (fun s9 hr2 => ?_)
        show Rn g mdX12_carryRow 27 [some (.ref 0), some (.ref 2), some (.int x2)] [] (mW s9) 0 0 r h2
        refine o_goto (pc := 27) 42 dX12_carryRow_27 rfl ?_
        obtain rfl := Option.some.inj hr2
        exact K3
set_option maxRecDepth 20000 in
theorem kX12_carryRow_2 {g : GX} {s : ST} {q : ST} (hf : fX12_carryRow_2 s = some q) : Cn g mdX12_carryRow [.ref 0, .ref 2] (mW s) none (mW q) := by
  refine Cn.of (by decide) (Nat.le_of_ble_eq_true rfl) ?_
  show Rn g mdX12_carryRow 0 [some (.ref 0), some (.ref 2), none] [] (mW s) 0 0 none (mW q)
  unfold fX12_carryRow_2 at hf
  refine o_iconst (pc := 0) (v := 0) dX12_carryRow_0 rfl ?_
  refine o_istore_n (pc := 1) dX12_carryRow_1 (by decide) rfl ?_
  show Rn g mdX12_carryRow 2 [some (.ref 0), some (.ref 2), some (.int 0)] [] (mW s) 0 0 none (mW q)
  obtain ⟨w12, hl13, hf⟩ := bd_elim hf
  have K14 : Rn g mdX12_carryRow 58 [none, none, none] [] (mW w12.2) 0 0 none (mW q) := by
    obtain rfl := Option.some.inj hf
    exact o_return (pc := 58) dX12_carryRow_58 rfl (Nat.zero_le _) (Nat.zero_le _)
  exact kX12_carryRow_2_L2 _ _ _ hl13 K14
def fX12_carryRow_3_L2 : Nat → Int32 → ST → Option (Int32 × ST)
  | 0, _, _ => none
  | n + 1, x2, s => if 5 ≤ x2 then some (x2, s) else (if (gi s 0 81) = 0 then ck (inb x2 5) (ck (inb (gi s 0 80) 6000) (lt (si s 54 (ix (gi s 0 80)) (gi s 3 (ix x2))) (fun s6 => some s6))) else ck (inb (gi s 0 80) 6000) (ck (inb x2 5) (lt (si s 3 (ix x2) (gi s 54 (ix (gi s 0 80)))) (fun s9 => some s9))) : Option (ST)).bind (fun w1 => lt (si w1 0 80 ((gi w1 0 80) + 1)) (fun s10 => lt (x2 + 1) (fun v11 => fX12_carryRow_3_L2 n v11 s10)))
def fX12_carryRow_3 (s : ST) : Option (ST) :=
  (fX12_carryRow_3_L2 FUEL 0 s).bind (fun w12 => some w12.2)
set_option maxRecDepth 20000 in
theorem kX12_carryRow_3_L2 {g : GX} {r : Option Value} {h2 : PH} : ∀ (n : Nat) (x2 : Int32) (s : ST) {w : Int32 × ST}, fX12_carryRow_3_L2 n x2 s = some w → Rn g mdX12_carryRow 58 [none, none, none] [] (mW w.2) 0 0 r h2 → Rn g mdX12_carryRow 2 [some (.ref 0), some (.ref 3), some (.int x2)] [] (mW s) 0 0 r h2 := by
  intro n
  induction n with
  | zero => intro x2 s w hf K; cases hf
  | succ n ih =>
    intro x2 s w hf K
    rw [fX12_carryRow_3_L2] at hf
    refine o_iload_n (pc := 2) dX12_carryRow_2 rfl ?_
    refine o_aload_n (pc := 3) dX12_carryRow_3 rfl ?_
    refine m_alen (pc := 4) 5 (by decide) (by decide) rfl rfl dX12_carryRow_4 ?_
    refine o_icmp_ge (pc := 5) 58 dX12_carryRow_5 rfl (fun hc => ?_) (fun hc => ?_)
    · have hf := it_t hf hc
      obtain rfl := Option.some.inj hf
      refine o_keep [false, false, false] ?_
      exact K
    · have hf := it_f hf hc
      refine o_aload_n (pc := 8) dX12_carryRow_8 rfl ?_
      refine m_getI (pc := 9) 81 (by decide) rfl lkX12_569 dX12_carryRow_9 ?_
      obtain ⟨w1, hr2, hf⟩ := bd_elim hf
      have K3 : Rn g mdX12_carryRow 42 [some (.ref 0), some (.ref 3), some (.int x2)] [] (mW w1) 0 0 r h2 := by
        refine o_aload_n (pc := 42) dX12_carryRow_42 rfl ?_
        refine o_dup (pc := 43) dX12_carryRow_43 rfl ?_
        refine m_getI (pc := 44) 80 (by decide) rfl lkX12_572 dX12_carryRow_44 ?_
        refine o_iconst (pc := 47) (v := 1) dX12_carryRow_47 rfl ?_
        refine o_iadd (pc := 48) dX12_carryRow_48 ?_
        refine m_putI (pc := 49) 80 (by decide) rfl rfl lkX12_572 ⟨rfl, rfl⟩ dX12_carryRow_49 ?_
        refine lz_s (mW) hf (fun s10 hf => ?_)
        show Rn g mdX12_carryRow 52 [some (.ref 0), some (.ref 3), some (.int x2)] [] (mW s10) 0 0 r h2
        refine o_iinc (pc := 52) dX12_carryRow_52 rfl (by decide) rfl ?_
        show Rn g mdX12_carryRow 55 [some (.ref 0), some (.ref 3), some (.int (x2 + 1))] [] (mW s10) 0 0 r h2
        obtain ⟨v11, ev11, hf⟩ := lt_elim hf
        rw [ev11]
        show Rn g mdX12_carryRow 55 [some (.ref 0), some (.ref 3), some (.int v11)] [] (mW s10) 0 0 r h2
        refine o_goto (pc := 55) 2 dX12_carryRow_55 rfl ?_
        exact ih _ _ hf K
      clear hf
      refine o_if_eq (pc := 12) 30 dX12_carryRow_12 rfl (fun hc => ?_) (fun hc => ?_)
      · have hr2 := it_t hr2 hc
        refine o_aload_n (pc := 30) dX12_carryRow_30 rfl ?_
        refine m_getA (pc := 31) 78 54 (by decide) rfl rfl lkX12_182 dX12_carryRow_31 ?_
        refine o_aload_n (pc := 34) dX12_carryRow_34 rfl ?_
        refine m_getI (pc := 35) 80 (by decide) rfl lkX12_572 dX12_carryRow_35 ?_
        refine o_aload_n (pc := 38) dX12_carryRow_38 rfl ?_
        refine o_iload_n (pc := 39) dX12_carryRow_39 rfl ?_
        obtain ⟨hk4, hr2⟩ := ck_elim hr2
        refine m_iald (pc := 40) (by decide) rfl hk4 dX12_carryRow_40 ?_
        obtain ⟨hk5, hr2⟩ := ck_elim hr2
        refine m_iast (pc := 41) (by decide) rfl hk5 dX12_carryRow_41 ?_
        refine lz_s (mW) hr2 (fun s6 hr2 => ?_)
        show Rn g mdX12_carryRow 42 [some (.ref 0), some (.ref 3), some (.int x2)] [] (mW s6) 0 0 r h2
        obtain rfl := Option.some.inj hr2
        exact K3
      · have hr2 := it_f hr2 hc
        refine o_aload_n (pc := 15) dX12_carryRow_15 rfl ?_
        refine o_iload_n (pc := 16) dX12_carryRow_16 rfl ?_
        refine o_aload_n (pc := 17) dX12_carryRow_17 rfl ?_
        refine m_getA (pc := 18) 78 54 (by decide) rfl rfl lkX12_182 dX12_carryRow_18 ?_
        refine o_aload_n (pc := 21) dX12_carryRow_21 rfl ?_
        refine m_getI (pc := 22) 80 (by decide) rfl lkX12_572 dX12_carryRow_22 ?_
        obtain ⟨hk7, hr2⟩ := ck_elim hr2
        refine m_iald (pc := 25) (by decide) rfl hk7 dX12_carryRow_25 ?_
        obtain ⟨hk8, hr2⟩ := ck_elim hr2
        refine m_iast (pc := 26) (by decide) rfl hk8 dX12_carryRow_26 ?_
        refine lz_s (mW) hr2 (fun s9 hr2 => ?_)
        show Rn g mdX12_carryRow 27 [some (.ref 0), some (.ref 3), some (.int x2)] [] (mW s9) 0 0 r h2
        refine o_goto (pc := 27) 42 dX12_carryRow_27 rfl ?_
        obtain rfl := Option.some.inj hr2
        exact K3
set_option maxRecDepth 20000 in
theorem kX12_carryRow_3 {g : GX} {s : ST} {q : ST} (hf : fX12_carryRow_3 s = some q) : Cn g mdX12_carryRow [.ref 0, .ref 3] (mW s) none (mW q) := by
  refine Cn.of (by decide) (Nat.le_of_ble_eq_true rfl) ?_
  show Rn g mdX12_carryRow 0 [some (.ref 0), some (.ref 3), none] [] (mW s) 0 0 none (mW q)
  unfold fX12_carryRow_3 at hf
  refine o_iconst (pc := 0) (v := 0) dX12_carryRow_0 rfl ?_
  refine o_istore_n (pc := 1) dX12_carryRow_1 (by decide) rfl ?_
  show Rn g mdX12_carryRow 2 [some (.ref 0), some (.ref 3), some (.int 0)] [] (mW s) 0 0 none (mW q)
  obtain ⟨w12, hl13, hf⟩ := bd_elim hf
  have K14 : Rn g mdX12_carryRow 58 [none, none, none] [] (mW w12.2) 0 0 none (mW q) := by
    obtain rfl := Option.some.inj hf
    exact o_return (pc := 58) dX12_carryRow_58 rfl (Nat.zero_le _) (Nat.zero_le _)
  exact kX12_carryRow_3_L2 _ _ _ hl13 K14
def fX12_carryRow_4_L2 : Nat → Int32 → ST → Option (Int32 × ST)
  | 0, _, _ => none
  | n + 1, x2, s => if 5 ≤ x2 then some (x2, s) else (if (gi s 0 81) = 0 then ck (inb x2 5) (ck (inb (gi s 0 80) 6000) (lt (si s 54 (ix (gi s 0 80)) (gi s 4 (ix x2))) (fun s6 => some s6))) else ck (inb (gi s 0 80) 6000) (ck (inb x2 5) (lt (si s 4 (ix x2) (gi s 54 (ix (gi s 0 80)))) (fun s9 => some s9))) : Option (ST)).bind (fun w1 => lt (si w1 0 80 ((gi w1 0 80) + 1)) (fun s10 => lt (x2 + 1) (fun v11 => fX12_carryRow_4_L2 n v11 s10)))
def fX12_carryRow_4 (s : ST) : Option (ST) :=
  (fX12_carryRow_4_L2 FUEL 0 s).bind (fun w12 => some w12.2)
set_option maxRecDepth 20000 in
theorem kX12_carryRow_4_L2 {g : GX} {r : Option Value} {h2 : PH} : ∀ (n : Nat) (x2 : Int32) (s : ST) {w : Int32 × ST}, fX12_carryRow_4_L2 n x2 s = some w → Rn g mdX12_carryRow 58 [none, none, none] [] (mW w.2) 0 0 r h2 → Rn g mdX12_carryRow 2 [some (.ref 0), some (.ref 4), some (.int x2)] [] (mW s) 0 0 r h2 := by
  intro n
  induction n with
  | zero => intro x2 s w hf K; cases hf
  | succ n ih =>
    intro x2 s w hf K
    rw [fX12_carryRow_4_L2] at hf
    refine o_iload_n (pc := 2) dX12_carryRow_2 rfl ?_
    refine o_aload_n (pc := 3) dX12_carryRow_3 rfl ?_
    refine m_alen (pc := 4) 5 (by decide) (by decide) rfl rfl dX12_carryRow_4 ?_
    refine o_icmp_ge (pc := 5) 58 dX12_carryRow_5 rfl (fun hc => ?_) (fun hc => ?_)
    · have hf := it_t hf hc
      obtain rfl := Option.some.inj hf
      refine o_keep [false, false, false] ?_
      exact K
    · have hf := it_f hf hc
      refine o_aload_n (pc := 8) dX12_carryRow_8 rfl ?_
      refine m_getI (pc := 9) 81 (by decide) rfl lkX12_569 dX12_carryRow_9 ?_
      obtain ⟨w1, hr2, hf⟩ := bd_elim hf
      have K3 : Rn g mdX12_carryRow 42 [some (.ref 0), some (.ref 4), some (.int x2)] [] (mW w1) 0 0 r h2 := by
        refine o_aload_n (pc := 42) dX12_carryRow_42 rfl ?_
        refine o_dup (pc := 43) dX12_carryRow_43 rfl ?_
        refine m_getI (pc := 44) 80 (by decide) rfl lkX12_572 dX12_carryRow_44 ?_
        refine o_iconst (pc := 47) (v := 1) dX12_carryRow_47 rfl ?_
        refine o_iadd (pc := 48) dX12_carryRow_48 ?_
        refine m_putI (pc := 49) 80 (by decide) rfl rfl lkX12_572 ⟨rfl, rfl⟩ dX12_carryRow_49 ?_
        refine lz_s (mW) hf (fun s10 hf => ?_)
        show Rn g mdX12_carryRow 52 [some (.ref 0), some (.ref 4), some (.int x2)] [] (mW s10) 0 0 r h2
        refine o_iinc (pc := 52) dX12_carryRow_52 rfl (by decide) rfl ?_
        show Rn g mdX12_carryRow 55 [some (.ref 0), some (.ref 4), some (.int (x2 + 1))] [] (mW s10) 0 0 r h2
        obtain ⟨v11, ev11, hf⟩ := lt_elim hf
        rw [ev11]
        show Rn g mdX12_carryRow 55 [some (.ref 0), some (.ref 4), some (.int v11)] [] (mW s10) 0 0 r h2
        refine o_goto (pc := 55) 2 dX12_carryRow_55 rfl ?_
        exact ih _ _ hf K
      clear hf
      refine o_if_eq (pc := 12) 30 dX12_carryRow_12 rfl (fun hc => ?_) (fun hc => ?_)
      · have hr2 := it_t hr2 hc
        refine o_aload_n (pc := 30) dX12_carryRow_30 rfl ?_
        refine m_getA (pc := 31) 78 54 (by decide) rfl rfl lkX12_182 dX12_carryRow_31 ?_
        refine o_aload_n (pc := 34) dX12_carryRow_34 rfl ?_
        refine m_getI (pc := 35) 80 (by decide) rfl lkX12_572 dX12_carryRow_35 ?_
        refine o_aload_n (pc := 38) dX12_carryRow_38 rfl ?_
        refine o_iload_n (pc := 39) dX12_carryRow_39 rfl ?_
        obtain ⟨hk4, hr2⟩ := ck_elim hr2
        refine m_iald (pc := 40) (by decide) rfl hk4 dX12_carryRow_40 ?_
        obtain ⟨hk5, hr2⟩ := ck_elim hr2
        refine m_iast (pc := 41) (by decide) rfl hk5 dX12_carryRow_41 ?_
        refine lz_s (mW) hr2 (fun s6 hr2 => ?_)
        show Rn g mdX12_carryRow 42 [some (.ref 0), some (.ref 4), some (.int x2)] [] (mW s6) 0 0 r h2
        obtain rfl := Option.some.inj hr2
        exact K3
      · have hr2 := it_f hr2 hc
        refine o_aload_n (pc := 15) dX12_carryRow_15 rfl ?_
        refine o_iload_n (pc := 16) dX12_carryRow_16 rfl ?_
        refine o_aload_n (pc := 17) dX12_carryRow_17 rfl ?_
        refine m_getA (pc := 18) 78 54 (by decide) rfl rfl lkX12_182 dX12_carryRow_18 ?_
        refine o_aload_n (pc := 21) dX12_carryRow_21 rfl ?_
        refine m_getI (pc := 22) 80 (by decide) rfl lkX12_572 dX12_carryRow_22 ?_
        obtain ⟨hk7, hr2⟩ := ck_elim hr2
        refine m_iald (pc := 25) (by decide) rfl hk7 dX12_carryRow_25 ?_
        obtain ⟨hk8, hr2⟩ := ck_elim hr2
        refine m_iast (pc := 26) (by decide) rfl hk8 dX12_carryRow_26 ?_
        refine lz_s (mW) hr2 (fun s9 hr2 => ?_)
        show Rn g mdX12_carryRow 27 [some (.ref 0), some (.ref 4), some (.int x2)] [] (mW s9) 0 0 r h2
        refine o_goto (pc := 27) 42 dX12_carryRow_27 rfl ?_
        obtain rfl := Option.some.inj hr2
        exact K3
set_option maxRecDepth 20000 in
theorem kX12_carryRow_4 {g : GX} {s : ST} {q : ST} (hf : fX12_carryRow_4 s = some q) : Cn g mdX12_carryRow [.ref 0, .ref 4] (mW s) none (mW q) := by
  refine Cn.of (by decide) (Nat.le_of_ble_eq_true rfl) ?_
  show Rn g mdX12_carryRow 0 [some (.ref 0), some (.ref 4), none] [] (mW s) 0 0 none (mW q)
  unfold fX12_carryRow_4 at hf
  refine o_iconst (pc := 0) (v := 0) dX12_carryRow_0 rfl ?_
  refine o_istore_n (pc := 1) dX12_carryRow_1 (by decide) rfl ?_
  show Rn g mdX12_carryRow 2 [some (.ref 0), some (.ref 4), some (.int 0)] [] (mW s) 0 0 none (mW q)
  obtain ⟨w12, hl13, hf⟩ := bd_elim hf
  have K14 : Rn g mdX12_carryRow 58 [none, none, none] [] (mW w12.2) 0 0 none (mW q) := by
    obtain rfl := Option.some.inj hf
    exact o_return (pc := 58) dX12_carryRow_58 rfl (Nat.zero_le _) (Nat.zero_le _)
  exact kX12_carryRow_4_L2 _ _ _ hl13 K14
def fX12_carryRow_5_L2 : Nat → Int32 → ST → Option (Int32 × ST)
  | 0, _, _ => none
  | n + 1, x2, s => if 5 ≤ x2 then some (x2, s) else (if (gi s 0 81) = 0 then ck (inb x2 5) (ck (inb (gi s 0 80) 6000) (lt (si s 54 (ix (gi s 0 80)) (gi s 5 (ix x2))) (fun s6 => some s6))) else ck (inb (gi s 0 80) 6000) (ck (inb x2 5) (lt (si s 5 (ix x2) (gi s 54 (ix (gi s 0 80)))) (fun s9 => some s9))) : Option (ST)).bind (fun w1 => lt (si w1 0 80 ((gi w1 0 80) + 1)) (fun s10 => lt (x2 + 1) (fun v11 => fX12_carryRow_5_L2 n v11 s10)))
def fX12_carryRow_5 (s : ST) : Option (ST) :=
  (fX12_carryRow_5_L2 FUEL 0 s).bind (fun w12 => some w12.2)
set_option maxRecDepth 20000 in
theorem kX12_carryRow_5_L2 {g : GX} {r : Option Value} {h2 : PH} : ∀ (n : Nat) (x2 : Int32) (s : ST) {w : Int32 × ST}, fX12_carryRow_5_L2 n x2 s = some w → Rn g mdX12_carryRow 58 [none, none, none] [] (mW w.2) 0 0 r h2 → Rn g mdX12_carryRow 2 [some (.ref 0), some (.ref 5), some (.int x2)] [] (mW s) 0 0 r h2 := by
  intro n
  induction n with
  | zero => intro x2 s w hf K; cases hf
  | succ n ih =>
    intro x2 s w hf K
    rw [fX12_carryRow_5_L2] at hf
    refine o_iload_n (pc := 2) dX12_carryRow_2 rfl ?_
    refine o_aload_n (pc := 3) dX12_carryRow_3 rfl ?_
    refine m_alen (pc := 4) 5 (by decide) (by decide) rfl rfl dX12_carryRow_4 ?_
    refine o_icmp_ge (pc := 5) 58 dX12_carryRow_5 rfl (fun hc => ?_) (fun hc => ?_)
    · have hf := it_t hf hc
      obtain rfl := Option.some.inj hf
      refine o_keep [false, false, false] ?_
      exact K
    · have hf := it_f hf hc
      refine o_aload_n (pc := 8) dX12_carryRow_8 rfl ?_
      refine m_getI (pc := 9) 81 (by decide) rfl lkX12_569 dX12_carryRow_9 ?_
      obtain ⟨w1, hr2, hf⟩ := bd_elim hf
      have K3 : Rn g mdX12_carryRow 42 [some (.ref 0), some (.ref 5), some (.int x2)] [] (mW w1) 0 0 r h2 := by
        refine o_aload_n (pc := 42) dX12_carryRow_42 rfl ?_
        refine o_dup (pc := 43) dX12_carryRow_43 rfl ?_
        refine m_getI (pc := 44) 80 (by decide) rfl lkX12_572 dX12_carryRow_44 ?_
        refine o_iconst (pc := 47) (v := 1) dX12_carryRow_47 rfl ?_
        refine o_iadd (pc := 48) dX12_carryRow_48 ?_
        refine m_putI (pc := 49) 80 (by decide) rfl rfl lkX12_572 ⟨rfl, rfl⟩ dX12_carryRow_49 ?_
        refine lz_s (mW) hf (fun s10 hf => ?_)
        show Rn g mdX12_carryRow 52 [some (.ref 0), some (.ref 5), some (.int x2)] [] (mW s10) 0 0 r h2
        refine o_iinc (pc := 52) dX12_carryRow_52 rfl (by decide) rfl ?_
        show Rn g mdX12_carryRow 55 [some (.ref 0), some (.ref 5), some (.int (x2 + 1))] [] (mW s10) 0 0 r h2
        obtain ⟨v11, ev11, hf⟩ := lt_elim hf
        rw [ev11]
        show Rn g mdX12_carryRow 55 [some (.ref 0), some (.ref 5), some (.int v11)] [] (mW s10) 0 0 r h2
        refine o_goto (pc := 55) 2 dX12_carryRow_55 rfl ?_
        exact ih _ _ hf K
      clear hf
      refine o_if_eq (pc := 12) 30 dX12_carryRow_12 rfl (fun hc => ?_) (fun hc => ?_)
      · have hr2 := it_t hr2 hc
        refine o_aload_n (pc := 30) dX12_carryRow_30 rfl ?_
        refine m_getA (pc := 31) 78 54 (by decide) rfl rfl lkX12_182 dX12_carryRow_31 ?_
        refine o_aload_n (pc := 34) dX12_carryRow_34 rfl ?_
        refine m_getI (pc := 35) 80 (by decide) rfl lkX12_572 dX12_carryRow_35 ?_
        refine o_aload_n (pc := 38) dX12_carryRow_38 rfl ?_
        refine o_iload_n (pc := 39) dX12_carryRow_39 rfl ?_
        obtain ⟨hk4, hr2⟩ := ck_elim hr2
        refine m_iald (pc := 40) (by decide) rfl hk4 dX12_carryRow_40 ?_
        obtain ⟨hk5, hr2⟩ := ck_elim hr2
        refine m_iast (pc := 41) (by decide) rfl hk5 dX12_carryRow_41 ?_
        refine lz_s (mW) hr2 (fun s6 hr2 => ?_)
        show Rn g mdX12_carryRow 42 [some (.ref 0), some (.ref 5), some (.int x2)] [] (mW s6) 0 0 r h2
        obtain rfl := Option.some.inj hr2
        exact K3
      · have hr2 := it_f hr2 hc
        refine o_aload_n (pc := 15) dX12_carryRow_15 rfl ?_
        refine o_iload_n (pc := 16) dX12_carryRow_16 rfl ?_
        refine o_aload_n (pc := 17) dX12_carryRow_17 rfl ?_
        refine m_getA (pc := 18) 78 54 (by decide) rfl rfl lkX12_182 dX12_carryRow_18 ?_
        refine o_aload_n (pc := 21) dX12_carryRow_21 rfl ?_
        refine m_getI (pc := 22) 80 (by decide) rfl lkX12_572 dX12_carryRow_22 ?_
        obtain ⟨hk7, hr2⟩ := ck_elim hr2
        refine m_iald (pc := 25) (by decide) rfl hk7 dX12_carryRow_25 ?_
        obtain ⟨hk8, hr2⟩ := ck_elim hr2
        refine m_iast (pc := 26) (by decide) rfl hk8 dX12_carryRow_26 ?_
        refine lz_s (mW) hr2 (fun s9 hr2 => ?_)
        show Rn g mdX12_carryRow 27 [some (.ref 0), some (.ref 5), some (.int x2)] [] (mW s9) 0 0 r h2
        refine o_goto (pc := 27) 42 dX12_carryRow_27 rfl ?_
        obtain rfl := Option.some.inj hr2
        exact K3
set_option maxRecDepth 20000 in
theorem kX12_carryRow_5 {g : GX} {s : ST} {q : ST} (hf : fX12_carryRow_5 s = some q) : Cn g mdX12_carryRow [.ref 0, .ref 5] (mW s) none (mW q) := by
  refine Cn.of (by decide) (Nat.le_of_ble_eq_true rfl) ?_
  show Rn g mdX12_carryRow 0 [some (.ref 0), some (.ref 5), none] [] (mW s) 0 0 none (mW q)
  unfold fX12_carryRow_5 at hf
  refine o_iconst (pc := 0) (v := 0) dX12_carryRow_0 rfl ?_
  refine o_istore_n (pc := 1) dX12_carryRow_1 (by decide) rfl ?_
  show Rn g mdX12_carryRow 2 [some (.ref 0), some (.ref 5), some (.int 0)] [] (mW s) 0 0 none (mW q)
  obtain ⟨w12, hl13, hf⟩ := bd_elim hf
  have K14 : Rn g mdX12_carryRow 58 [none, none, none] [] (mW w12.2) 0 0 none (mW q) := by
    obtain rfl := Option.some.inj hf
    exact o_return (pc := 58) dX12_carryRow_58 rfl (Nat.zero_le _) (Nat.zero_le _)
  exact kX12_carryRow_5_L2 _ _ _ hl13 K14
def fX12_carryRow_6_L2 : Nat → Int32 → ST → Option (Int32 × ST)
  | 0, _, _ => none
  | n + 1, x2, s => if 5 ≤ x2 then some (x2, s) else (if (gi s 0 81) = 0 then ck (inb x2 5) (ck (inb (gi s 0 80) 6000) (lt (si s 54 (ix (gi s 0 80)) (gi s 6 (ix x2))) (fun s6 => some s6))) else ck (inb (gi s 0 80) 6000) (ck (inb x2 5) (lt (si s 6 (ix x2) (gi s 54 (ix (gi s 0 80)))) (fun s9 => some s9))) : Option (ST)).bind (fun w1 => lt (si w1 0 80 ((gi w1 0 80) + 1)) (fun s10 => lt (x2 + 1) (fun v11 => fX12_carryRow_6_L2 n v11 s10)))
def fX12_carryRow_6 (s : ST) : Option (ST) :=
  (fX12_carryRow_6_L2 FUEL 0 s).bind (fun w12 => some w12.2)
set_option maxRecDepth 20000 in
theorem kX12_carryRow_6_L2 {g : GX} {r : Option Value} {h2 : PH} : ∀ (n : Nat) (x2 : Int32) (s : ST) {w : Int32 × ST}, fX12_carryRow_6_L2 n x2 s = some w → Rn g mdX12_carryRow 58 [none, none, none] [] (mW w.2) 0 0 r h2 → Rn g mdX12_carryRow 2 [some (.ref 0), some (.ref 6), some (.int x2)] [] (mW s) 0 0 r h2 := by
  intro n
  induction n with
  | zero => intro x2 s w hf K; cases hf
  | succ n ih =>
    intro x2 s w hf K
    rw [fX12_carryRow_6_L2] at hf
    refine o_iload_n (pc := 2) dX12_carryRow_2 rfl ?_
    refine o_aload_n (pc := 3) dX12_carryRow_3 rfl ?_
    refine m_alen (pc := 4) 5 (by decide) (by decide) rfl rfl dX12_carryRow_4 ?_
    refine o_icmp_ge (pc := 5) 58 dX12_carryRow_5 rfl (fun hc => ?_) (fun hc => ?_)
    · have hf := it_t hf hc
      obtain rfl := Option.some.inj hf
      refine o_keep [false, false, false] ?_
      exact K
    · have hf := it_f hf hc
      refine o_aload_n (pc := 8) dX12_carryRow_8 rfl ?_
      refine m_getI (pc := 9) 81 (by decide) rfl lkX12_569 dX12_carryRow_9 ?_
      obtain ⟨w1, hr2, hf⟩ := bd_elim hf
      have K3 : Rn g mdX12_carryRow 42 [some (.ref 0), some (.ref 6), some (.int x2)] [] (mW w1) 0 0 r h2 := by
        refine o_aload_n (pc := 42) dX12_carryRow_42 rfl ?_
        refine o_dup (pc := 43) dX12_carryRow_43 rfl ?_
        refine m_getI (pc := 44) 80 (by decide) rfl lkX12_572 dX12_carryRow_44 ?_
        refine o_iconst (pc := 47) (v := 1) dX12_carryRow_47 rfl ?_
        refine o_iadd (pc := 48) dX12_carryRow_48 ?_
        refine m_putI (pc := 49) 80 (by decide) rfl rfl lkX12_572 ⟨rfl, rfl⟩ dX12_carryRow_49 ?_
        refine lz_s (mW) hf (fun s10 hf => ?_)
        show Rn g mdX12_carryRow 52 [some (.ref 0), some (.ref 6), some (.int x2)] [] (mW s10) 0 0 r h2
        refine o_iinc (pc := 52) dX12_carryRow_52 rfl (by decide) rfl ?_
        show Rn g mdX12_carryRow 55 [some (.ref 0), some (.ref 6), some (.int (x2 + 1))] [] (mW s10) 0 0 r h2
        obtain ⟨v11, ev11, hf⟩ := lt_elim hf
        rw [ev11]
        show Rn g mdX12_carryRow 55 [some (.ref 0), some (.ref 6), some (.int v11)] [] (mW s10) 0 0 r h2
        refine o_goto (pc := 55) 2 dX12_carryRow_55 rfl ?_
        exact ih _ _ hf K
      clear hf
      refine o_if_eq (pc := 12) 30 dX12_carryRow_12 rfl (fun hc => ?_) (fun hc => ?_)
      · have hr2 := it_t hr2 hc
        refine o_aload_n (pc := 30) dX12_carryRow_30 rfl ?_
        refine m_getA (pc := 31) 78 54 (by decide) rfl rfl lkX12_182 dX12_carryRow_31 ?_
        refine o_aload_n (pc := 34) dX12_carryRow_34 rfl ?_
        refine m_getI (pc := 35) 80 (by decide) rfl lkX12_572 dX12_carryRow_35 ?_
        refine o_aload_n (pc := 38) dX12_carryRow_38 rfl ?_
        refine o_iload_n (pc := 39) dX12_carryRow_39 rfl ?_
        obtain ⟨hk4, hr2⟩ := ck_elim hr2
        refine m_iald (pc := 40) (by decide) rfl hk4 dX12_carryRow_40 ?_
        obtain ⟨hk5, hr2⟩ := ck_elim hr2
        refine m_iast (pc := 41) (by decide) rfl hk5 dX12_carryRow_41 ?_
        refine lz_s (mW) hr2 (fun s6 hr2 => ?_)
        show Rn g mdX12_carryRow 42 [some (.ref 0), some (.ref 6), some (.int x2)] [] (mW s6) 0 0 r h2
        obtain rfl := Option.some.inj hr2
        exact K3
      · have hr2 := it_f hr2 hc
        refine o_aload_n (pc := 15) dX12_carryRow_15 rfl ?_
        refine o_iload_n (pc := 16) dX12_carryRow_16 rfl ?_
        refine o_aload_n (pc := 17) dX12_carryRow_17 rfl ?_
        refine m_getA (pc := 18) 78 54 (by decide) rfl rfl lkX12_182 dX12_carryRow_18 ?_
        refine o_aload_n (pc := 21) dX12_carryRow_21 rfl ?_
        refine m_getI (pc := 22) 80 (by decide) rfl lkX12_572 dX12_carryRow_22 ?_
        obtain ⟨hk7, hr2⟩ := ck_elim hr2
        refine m_iald (pc := 25) (by decide) rfl hk7 dX12_carryRow_25 ?_
        obtain ⟨hk8, hr2⟩ := ck_elim hr2
        refine m_iast (pc := 26) (by decide) rfl hk8 dX12_carryRow_26 ?_
        refine lz_s (mW) hr2 (fun s9 hr2 => ?_)
        show Rn g mdX12_carryRow 27 [some (.ref 0), some (.ref 6), some (.int x2)] [] (mW s9) 0 0 r h2
        refine o_goto (pc := 27) 42 dX12_carryRow_27 rfl ?_
        obtain rfl := Option.some.inj hr2
        exact K3
set_option maxRecDepth 20000 in
theorem kX12_carryRow_6 {g : GX} {s : ST} {q : ST} (hf : fX12_carryRow_6 s = some q) : Cn g mdX12_carryRow [.ref 0, .ref 6] (mW s) none (mW q) := by
  refine Cn.of (by decide) (Nat.le_of_ble_eq_true rfl) ?_
  show Rn g mdX12_carryRow 0 [some (.ref 0), some (.ref 6), none] [] (mW s) 0 0 none (mW q)
  unfold fX12_carryRow_6 at hf
  refine o_iconst (pc := 0) (v := 0) dX12_carryRow_0 rfl ?_
  refine o_istore_n (pc := 1) dX12_carryRow_1 (by decide) rfl ?_
  show Rn g mdX12_carryRow 2 [some (.ref 0), some (.ref 6), some (.int 0)] [] (mW s) 0 0 none (mW q)
  obtain ⟨w12, hl13, hf⟩ := bd_elim hf
  have K14 : Rn g mdX12_carryRow 58 [none, none, none] [] (mW w12.2) 0 0 none (mW q) := by
    obtain rfl := Option.some.inj hf
    exact o_return (pc := 58) dX12_carryRow_58 rfl (Nat.zero_le _) (Nat.zero_le _)
  exact kX12_carryRow_6_L2 _ _ _ hl13 K14
def fX12_carryRow_7_L2 : Nat → Int32 → ST → Option (Int32 × ST)
  | 0, _, _ => none
  | n + 1, x2, s => if 8 ≤ x2 then some (x2, s) else (if (gi s 0 81) = 0 then ck (inb x2 8) (ck (inb (gi s 0 80) 6000) (lt (si s 54 (ix (gi s 0 80)) (gi s 7 (ix x2))) (fun s6 => some s6))) else ck (inb (gi s 0 80) 6000) (ck (inb x2 8) (lt (si s 7 (ix x2) (gi s 54 (ix (gi s 0 80)))) (fun s9 => some s9))) : Option (ST)).bind (fun w1 => lt (si w1 0 80 ((gi w1 0 80) + 1)) (fun s10 => lt (x2 + 1) (fun v11 => fX12_carryRow_7_L2 n v11 s10)))
def fX12_carryRow_7 (s : ST) : Option (ST) :=
  (fX12_carryRow_7_L2 FUEL 0 s).bind (fun w12 => some w12.2)
set_option maxRecDepth 20000 in
theorem kX12_carryRow_7_L2 {g : GX} {r : Option Value} {h2 : PH} : ∀ (n : Nat) (x2 : Int32) (s : ST) {w : Int32 × ST}, fX12_carryRow_7_L2 n x2 s = some w → Rn g mdX12_carryRow 58 [none, none, none] [] (mW w.2) 0 0 r h2 → Rn g mdX12_carryRow 2 [some (.ref 0), some (.ref 7), some (.int x2)] [] (mW s) 0 0 r h2 := by
  intro n
  induction n with
  | zero => intro x2 s w hf K; cases hf
  | succ n ih =>
    intro x2 s w hf K
    rw [fX12_carryRow_7_L2] at hf
    refine o_iload_n (pc := 2) dX12_carryRow_2 rfl ?_
    refine o_aload_n (pc := 3) dX12_carryRow_3 rfl ?_
    refine m_alen (pc := 4) 8 (by decide) (by decide) rfl rfl dX12_carryRow_4 ?_
    refine o_icmp_ge (pc := 5) 58 dX12_carryRow_5 rfl (fun hc => ?_) (fun hc => ?_)
    · have hf := it_t hf hc
      obtain rfl := Option.some.inj hf
      refine o_keep [false, false, false] ?_
      exact K
    · have hf := it_f hf hc
      refine o_aload_n (pc := 8) dX12_carryRow_8 rfl ?_
      refine m_getI (pc := 9) 81 (by decide) rfl lkX12_569 dX12_carryRow_9 ?_
      obtain ⟨w1, hr2, hf⟩ := bd_elim hf
      have K3 : Rn g mdX12_carryRow 42 [some (.ref 0), some (.ref 7), some (.int x2)] [] (mW w1) 0 0 r h2 := by
        refine o_aload_n (pc := 42) dX12_carryRow_42 rfl ?_
        refine o_dup (pc := 43) dX12_carryRow_43 rfl ?_
        refine m_getI (pc := 44) 80 (by decide) rfl lkX12_572 dX12_carryRow_44 ?_
        refine o_iconst (pc := 47) (v := 1) dX12_carryRow_47 rfl ?_
        refine o_iadd (pc := 48) dX12_carryRow_48 ?_
        refine m_putI (pc := 49) 80 (by decide) rfl rfl lkX12_572 ⟨rfl, rfl⟩ dX12_carryRow_49 ?_
        refine lz_s (mW) hf (fun s10 hf => ?_)
        show Rn g mdX12_carryRow 52 [some (.ref 0), some (.ref 7), some (.int x2)] [] (mW s10) 0 0 r h2
        refine o_iinc (pc := 52) dX12_carryRow_52 rfl (by decide) rfl ?_
        show Rn g mdX12_carryRow 55 [some (.ref 0), some (.ref 7), some (.int (x2 + 1))] [] (mW s10) 0 0 r h2
        obtain ⟨v11, ev11, hf⟩ := lt_elim hf
        rw [ev11]
        show Rn g mdX12_carryRow 55 [some (.ref 0), some (.ref 7), some (.int v11)] [] (mW s10) 0 0 r h2
        refine o_goto (pc := 55) 2 dX12_carryRow_55 rfl ?_
        exact ih _ _ hf K
      clear hf
      refine o_if_eq (pc := 12) 30 dX12_carryRow_12 rfl (fun hc => ?_) (fun hc => ?_)
      · have hr2 := it_t hr2 hc
        refine o_aload_n (pc := 30) dX12_carryRow_30 rfl ?_
        refine m_getA (pc := 31) 78 54 (by decide) rfl rfl lkX12_182 dX12_carryRow_31 ?_
        refine o_aload_n (pc := 34) dX12_carryRow_34 rfl ?_
        refine m_getI (pc := 35) 80 (by decide) rfl lkX12_572 dX12_carryRow_35 ?_
        refine o_aload_n (pc := 38) dX12_carryRow_38 rfl ?_
        refine o_iload_n (pc := 39) dX12_carryRow_39 rfl ?_
        obtain ⟨hk4, hr2⟩ := ck_elim hr2
        refine m_iald (pc := 40) (by decide) rfl hk4 dX12_carryRow_40 ?_
        obtain ⟨hk5, hr2⟩ := ck_elim hr2
        refine m_iast (pc := 41) (by decide) rfl hk5 dX12_carryRow_41 ?_
        refine lz_s (mW) hr2 (fun s6 hr2 => ?_)
        show Rn g mdX12_carryRow 42 [some (.ref 0), some (.ref 7), some (.int x2)] [] (mW s6) 0 0 r h2
        obtain rfl := Option.some.inj hr2
        exact K3
      · have hr2 := it_f hr2 hc
        refine o_aload_n (pc := 15) dX12_carryRow_15 rfl ?_
        refine o_iload_n (pc := 16) dX12_carryRow_16 rfl ?_
        refine o_aload_n (pc := 17) dX12_carryRow_17 rfl ?_
        refine m_getA (pc := 18) 78 54 (by decide) rfl rfl lkX12_182 dX12_carryRow_18 ?_
        refine o_aload_n (pc := 21) dX12_carryRow_21 rfl ?_
        refine m_getI (pc := 22) 80 (by decide) rfl lkX12_572 dX12_carryRow_22 ?_
        obtain ⟨hk7, hr2⟩ := ck_elim hr2
        refine m_iald (pc := 25) (by decide) rfl hk7 dX12_carryRow_25 ?_
        obtain ⟨hk8, hr2⟩ := ck_elim hr2
        refine m_iast (pc := 26) (by decide) rfl hk8 dX12_carryRow_26 ?_
        refine lz_s (mW) hr2 (fun s9 hr2 => ?_)
        show Rn g mdX12_carryRow 27 [some (.ref 0), some (.ref 7), some (.int x2)] [] (mW s9) 0 0 r h2
        refine o_goto (pc := 27) 42 dX12_carryRow_27 rfl ?_
        obtain rfl := Option.some.inj hr2
        exact K3
set_option maxRecDepth 20000 in
theorem kX12_carryRow_7 {g : GX} {s : ST} {q : ST} (hf : fX12_carryRow_7 s = some q) : Cn g mdX12_carryRow [.ref 0, .ref 7] (mW s) none (mW q) := by
  refine Cn.of (by decide) (Nat.le_of_ble_eq_true rfl) ?_
  show Rn g mdX12_carryRow 0 [some (.ref 0), some (.ref 7), none] [] (mW s) 0 0 none (mW q)
  unfold fX12_carryRow_7 at hf
  refine o_iconst (pc := 0) (v := 0) dX12_carryRow_0 rfl ?_
  refine o_istore_n (pc := 1) dX12_carryRow_1 (by decide) rfl ?_
  show Rn g mdX12_carryRow 2 [some (.ref 0), some (.ref 7), some (.int 0)] [] (mW s) 0 0 none (mW q)
  obtain ⟨w12, hl13, hf⟩ := bd_elim hf
  have K14 : Rn g mdX12_carryRow 58 [none, none, none] [] (mW w12.2) 0 0 none (mW q) := by
    obtain rfl := Option.some.inj hf
    exact o_return (pc := 58) dX12_carryRow_58 rfl (Nat.zero_le _) (Nat.zero_le _)
  exact kX12_carryRow_7_L2 _ _ _ hl13 K14
def fX12_carryRow_8_L2 : Nat → Int32 → ST → Option (Int32 × ST)
  | 0, _, _ => none
  | n + 1, x2, s => if 8 ≤ x2 then some (x2, s) else (if (gi s 0 81) = 0 then ck (inb x2 8) (ck (inb (gi s 0 80) 6000) (lt (si s 54 (ix (gi s 0 80)) (gi s 8 (ix x2))) (fun s6 => some s6))) else ck (inb (gi s 0 80) 6000) (ck (inb x2 8) (lt (si s 8 (ix x2) (gi s 54 (ix (gi s 0 80)))) (fun s9 => some s9))) : Option (ST)).bind (fun w1 => lt (si w1 0 80 ((gi w1 0 80) + 1)) (fun s10 => lt (x2 + 1) (fun v11 => fX12_carryRow_8_L2 n v11 s10)))
def fX12_carryRow_8 (s : ST) : Option (ST) :=
  (fX12_carryRow_8_L2 FUEL 0 s).bind (fun w12 => some w12.2)
set_option maxRecDepth 20000 in
theorem kX12_carryRow_8_L2 {g : GX} {r : Option Value} {h2 : PH} : ∀ (n : Nat) (x2 : Int32) (s : ST) {w : Int32 × ST}, fX12_carryRow_8_L2 n x2 s = some w → Rn g mdX12_carryRow 58 [none, none, none] [] (mW w.2) 0 0 r h2 → Rn g mdX12_carryRow 2 [some (.ref 0), some (.ref 8), some (.int x2)] [] (mW s) 0 0 r h2 := by
  intro n
  induction n with
  | zero => intro x2 s w hf K; cases hf
  | succ n ih =>
    intro x2 s w hf K
    rw [fX12_carryRow_8_L2] at hf
    refine o_iload_n (pc := 2) dX12_carryRow_2 rfl ?_
    refine o_aload_n (pc := 3) dX12_carryRow_3 rfl ?_
    refine m_alen (pc := 4) 8 (by decide) (by decide) rfl rfl dX12_carryRow_4 ?_
    refine o_icmp_ge (pc := 5) 58 dX12_carryRow_5 rfl (fun hc => ?_) (fun hc => ?_)
    · have hf := it_t hf hc
      obtain rfl := Option.some.inj hf
      refine o_keep [false, false, false] ?_
      exact K
    · have hf := it_f hf hc
      refine o_aload_n (pc := 8) dX12_carryRow_8 rfl ?_
      refine m_getI (pc := 9) 81 (by decide) rfl lkX12_569 dX12_carryRow_9 ?_
      obtain ⟨w1, hr2, hf⟩ := bd_elim hf
      have K3 : Rn g mdX12_carryRow 42 [some (.ref 0), some (.ref 8), some (.int x2)] [] (mW w1) 0 0 r h2 := by
        refine o_aload_n (pc := 42) dX12_carryRow_42 rfl ?_
        refine o_dup (pc := 43) dX12_carryRow_43 rfl ?_
        refine m_getI (pc := 44) 80 (by decide) rfl lkX12_572 dX12_carryRow_44 ?_
        refine o_iconst (pc := 47) (v := 1) dX12_carryRow_47 rfl ?_
        refine o_iadd (pc := 48) dX12_carryRow_48 ?_
        refine m_putI (pc := 49) 80 (by decide) rfl rfl lkX12_572 ⟨rfl, rfl⟩ dX12_carryRow_49 ?_
        refine lz_s (mW) hf (fun s10 hf => ?_)
        show Rn g mdX12_carryRow 52 [some (.ref 0), some (.ref 8), some (.int x2)] [] (mW s10) 0 0 r h2
        refine o_iinc (pc := 52) dX12_carryRow_52 rfl (by decide) rfl ?_
        show Rn g mdX12_carryRow 55 [some (.ref 0), some (.ref 8), some (.int (x2 + 1))] [] (mW s10) 0 0 r h2
        obtain ⟨v11, ev11, hf⟩ := lt_elim hf
        rw [ev11]
        show Rn g mdX12_carryRow 55 [some (.ref 0), some (.ref 8), some (.int v11)] [] (mW s10) 0 0 r h2
        refine o_goto (pc := 55) 2 dX12_carryRow_55 rfl ?_
        exact ih _ _ hf K
      clear hf
      refine o_if_eq (pc := 12) 30 dX12_carryRow_12 rfl (fun hc => ?_) (fun hc => ?_)
      · have hr2 := it_t hr2 hc
        refine o_aload_n (pc := 30) dX12_carryRow_30 rfl ?_
        refine m_getA (pc := 31) 78 54 (by decide) rfl rfl lkX12_182 dX12_carryRow_31 ?_
        refine o_aload_n (pc := 34) dX12_carryRow_34 rfl ?_
        refine m_getI (pc := 35) 80 (by decide) rfl lkX12_572 dX12_carryRow_35 ?_
        refine o_aload_n (pc := 38) dX12_carryRow_38 rfl ?_
        refine o_iload_n (pc := 39) dX12_carryRow_39 rfl ?_
        obtain ⟨hk4, hr2⟩ := ck_elim hr2
        refine m_iald (pc := 40) (by decide) rfl hk4 dX12_carryRow_40 ?_
        obtain ⟨hk5, hr2⟩ := ck_elim hr2
        refine m_iast (pc := 41) (by decide) rfl hk5 dX12_carryRow_41 ?_
        refine lz_s (mW) hr2 (fun s6 hr2 => ?_)
        show Rn g mdX12_carryRow 42 [some (.ref 0), some (.ref 8), some (.int x2)] [] (mW s6) 0 0 r h2
        obtain rfl := Option.some.inj hr2
        exact K3
      · have hr2 := it_f hr2 hc
        refine o_aload_n (pc := 15) dX12_carryRow_15 rfl ?_
        refine o_iload_n (pc := 16) dX12_carryRow_16 rfl ?_
        refine o_aload_n (pc := 17) dX12_carryRow_17 rfl ?_
        refine m_getA (pc := 18) 78 54 (by decide) rfl rfl lkX12_182 dX12_carryRow_18 ?_
        refine o_aload_n (pc := 21) dX12_carryRow_21 rfl ?_
        refine m_getI (pc := 22) 80 (by decide) rfl lkX12_572 dX12_carryRow_22 ?_
        obtain ⟨hk7, hr2⟩ := ck_elim hr2
        refine m_iald (pc := 25) (by decide) rfl hk7 dX12_carryRow_25 ?_
        obtain ⟨hk8, hr2⟩ := ck_elim hr2
        refine m_iast (pc := 26) (by decide) rfl hk8 dX12_carryRow_26 ?_
        refine lz_s (mW) hr2 (fun s9 hr2 => ?_)
        show Rn g mdX12_carryRow 27 [some (.ref 0), some (.ref 8), some (.int x2)] [] (mW s9) 0 0 r h2
        refine o_goto (pc := 27) 42 dX12_carryRow_27 rfl ?_
        obtain rfl := Option.some.inj hr2
        exact K3
set_option maxRecDepth 20000 in
theorem kX12_carryRow_8 {g : GX} {s : ST} {q : ST} (hf : fX12_carryRow_8 s = some q) : Cn g mdX12_carryRow [.ref 0, .ref 8] (mW s) none (mW q) := by
  refine Cn.of (by decide) (Nat.le_of_ble_eq_true rfl) ?_
  show Rn g mdX12_carryRow 0 [some (.ref 0), some (.ref 8), none] [] (mW s) 0 0 none (mW q)
  unfold fX12_carryRow_8 at hf
  refine o_iconst (pc := 0) (v := 0) dX12_carryRow_0 rfl ?_
  refine o_istore_n (pc := 1) dX12_carryRow_1 (by decide) rfl ?_
  show Rn g mdX12_carryRow 2 [some (.ref 0), some (.ref 8), some (.int 0)] [] (mW s) 0 0 none (mW q)
  obtain ⟨w12, hl13, hf⟩ := bd_elim hf
  have K14 : Rn g mdX12_carryRow 58 [none, none, none] [] (mW w12.2) 0 0 none (mW q) := by
    obtain rfl := Option.some.inj hf
    exact o_return (pc := 58) dX12_carryRow_58 rfl (Nat.zero_le _) (Nat.zero_le _)
  exact kX12_carryRow_8_L2 _ _ _ hl13 K14
def fX12_carryRow_9_L2 : Nat → Int32 → ST → Option (Int32 × ST)
  | 0, _, _ => none
  | n + 1, x2, s => if 8 ≤ x2 then some (x2, s) else (if (gi s 0 81) = 0 then ck (inb x2 8) (ck (inb (gi s 0 80) 6000) (lt (si s 54 (ix (gi s 0 80)) (gi s 9 (ix x2))) (fun s6 => some s6))) else ck (inb (gi s 0 80) 6000) (ck (inb x2 8) (lt (si s 9 (ix x2) (gi s 54 (ix (gi s 0 80)))) (fun s9 => some s9))) : Option (ST)).bind (fun w1 => lt (si w1 0 80 ((gi w1 0 80) + 1)) (fun s10 => lt (x2 + 1) (fun v11 => fX12_carryRow_9_L2 n v11 s10)))
def fX12_carryRow_9 (s : ST) : Option (ST) :=
  (fX12_carryRow_9_L2 FUEL 0 s).bind (fun w12 => some w12.2)
set_option maxRecDepth 20000 in
theorem kX12_carryRow_9_L2 {g : GX} {r : Option Value} {h2 : PH} : ∀ (n : Nat) (x2 : Int32) (s : ST) {w : Int32 × ST}, fX12_carryRow_9_L2 n x2 s = some w → Rn g mdX12_carryRow 58 [none, none, none] [] (mW w.2) 0 0 r h2 → Rn g mdX12_carryRow 2 [some (.ref 0), some (.ref 9), some (.int x2)] [] (mW s) 0 0 r h2 := by
  intro n
  induction n with
  | zero => intro x2 s w hf K; cases hf
  | succ n ih =>
    intro x2 s w hf K
    rw [fX12_carryRow_9_L2] at hf
    refine o_iload_n (pc := 2) dX12_carryRow_2 rfl ?_
    refine o_aload_n (pc := 3) dX12_carryRow_3 rfl ?_
    refine m_alen (pc := 4) 8 (by decide) (by decide) rfl rfl dX12_carryRow_4 ?_
    refine o_icmp_ge (pc := 5) 58 dX12_carryRow_5 rfl (fun hc => ?_) (fun hc => ?_)
    · have hf := it_t hf hc
      obtain rfl := Option.some.inj hf
      refine o_keep [false, false, false] ?_
      exact K
    · have hf := it_f hf hc
      refine o_aload_n (pc := 8) dX12_carryRow_8 rfl ?_
      refine m_getI (pc := 9) 81 (by decide) rfl lkX12_569 dX12_carryRow_9 ?_
      obtain ⟨w1, hr2, hf⟩ := bd_elim hf
      have K3 : Rn g mdX12_carryRow 42 [some (.ref 0), some (.ref 9), some (.int x2)] [] (mW w1) 0 0 r h2 := by
        refine o_aload_n (pc := 42) dX12_carryRow_42 rfl ?_
        refine o_dup (pc := 43) dX12_carryRow_43 rfl ?_
        refine m_getI (pc := 44) 80 (by decide) rfl lkX12_572 dX12_carryRow_44 ?_
        refine o_iconst (pc := 47) (v := 1) dX12_carryRow_47 rfl ?_
        refine o_iadd (pc := 48) dX12_carryRow_48 ?_
        refine m_putI (pc := 49) 80 (by decide) rfl rfl lkX12_572 ⟨rfl, rfl⟩ dX12_carryRow_49 ?_
        refine lz_s (mW) hf (fun s10 hf => ?_)
        show Rn g mdX12_carryRow 52 [some (.ref 0), some (.ref 9), some (.int x2)] [] (mW s10) 0 0 r h2
        refine o_iinc (pc := 52) dX12_carryRow_52 rfl (by decide) rfl ?_
        show Rn g mdX12_carryRow 55 [some (.ref 0), some (.ref 9), some (.int (x2 + 1))] [] (mW s10) 0 0 r h2
        obtain ⟨v11, ev11, hf⟩ := lt_elim hf
        rw [ev11]
        show Rn g mdX12_carryRow 55 [some (.ref 0), some (.ref 9), some (.int v11)] [] (mW s10) 0 0 r h2
        refine o_goto (pc := 55) 2 dX12_carryRow_55 rfl ?_
        exact ih _ _ hf K
      clear hf
      refine o_if_eq (pc := 12) 30 dX12_carryRow_12 rfl (fun hc => ?_) (fun hc => ?_)
      · have hr2 := it_t hr2 hc
        refine o_aload_n (pc := 30) dX12_carryRow_30 rfl ?_
        refine m_getA (pc := 31) 78 54 (by decide) rfl rfl lkX12_182 dX12_carryRow_31 ?_
        refine o_aload_n (pc := 34) dX12_carryRow_34 rfl ?_
        refine m_getI (pc := 35) 80 (by decide) rfl lkX12_572 dX12_carryRow_35 ?_
        refine o_aload_n (pc := 38) dX12_carryRow_38 rfl ?_
        refine o_iload_n (pc := 39) dX12_carryRow_39 rfl ?_
        obtain ⟨hk4, hr2⟩ := ck_elim hr2
        refine m_iald (pc := 40) (by decide) rfl hk4 dX12_carryRow_40 ?_
        obtain ⟨hk5, hr2⟩ := ck_elim hr2
        refine m_iast (pc := 41) (by decide) rfl hk5 dX12_carryRow_41 ?_
        refine lz_s (mW) hr2 (fun s6 hr2 => ?_)
        show Rn g mdX12_carryRow 42 [some (.ref 0), some (.ref 9), some (.int x2)] [] (mW s6) 0 0 r h2
        obtain rfl := Option.some.inj hr2
        exact K3
      · have hr2 := it_f hr2 hc
        refine o_aload_n (pc := 15) dX12_carryRow_15 rfl ?_
        refine o_iload_n (pc := 16) dX12_carryRow_16 rfl ?_
        refine o_aload_n (pc := 17) dX12_carryRow_17 rfl ?_
        refine m_getA (pc := 18) 78 54 (by decide) rfl rfl lkX12_182 dX12_carryRow_18 ?_
        refine o_aload_n (pc := 21) dX12_carryRow_21 rfl ?_
        refine m_getI (pc := 22) 80 (by decide) rfl lkX12_572 dX12_carryRow_22 ?_
        obtain ⟨hk7, hr2⟩ := ck_elim hr2
        refine m_iald (pc := 25) (by decide) rfl hk7 dX12_carryRow_25 ?_
        obtain ⟨hk8, hr2⟩ := ck_elim hr2
        refine m_iast (pc := 26) (by decide) rfl hk8 dX12_carryRow_26 ?_
        refine lz_s (mW) hr2 (fun s9 hr2 => ?_)
        show Rn g mdX12_carryRow 27 [some (.ref 0), some (.ref 9), some (.int x2)] [] (mW s9) 0 0 r h2
        refine o_goto (pc := 27) 42 dX12_carryRow_27 rfl ?_
        obtain rfl := Option.some.inj hr2
        exact K3
set_option maxRecDepth 20000 in
theorem kX12_carryRow_9 {g : GX} {s : ST} {q : ST} (hf : fX12_carryRow_9 s = some q) : Cn g mdX12_carryRow [.ref 0, .ref 9] (mW s) none (mW q) := by
  refine Cn.of (by decide) (Nat.le_of_ble_eq_true rfl) ?_
  show Rn g mdX12_carryRow 0 [some (.ref 0), some (.ref 9), none] [] (mW s) 0 0 none (mW q)
  unfold fX12_carryRow_9 at hf
  refine o_iconst (pc := 0) (v := 0) dX12_carryRow_0 rfl ?_
  refine o_istore_n (pc := 1) dX12_carryRow_1 (by decide) rfl ?_
  show Rn g mdX12_carryRow 2 [some (.ref 0), some (.ref 9), some (.int 0)] [] (mW s) 0 0 none (mW q)
  obtain ⟨w12, hl13, hf⟩ := bd_elim hf
  have K14 : Rn g mdX12_carryRow 58 [none, none, none] [] (mW w12.2) 0 0 none (mW q) := by
    obtain rfl := Option.some.inj hf
    exact o_return (pc := 58) dX12_carryRow_58 rfl (Nat.zero_le _) (Nat.zero_le _)
  exact kX12_carryRow_9_L2 _ _ _ hl13 K14
def fX12_carryRow_10_L2 : Nat → Int32 → ST → Option (Int32 × ST)
  | 0, _, _ => none
  | n + 1, x2, s => if 8 ≤ x2 then some (x2, s) else (if (gi s 0 81) = 0 then ck (inb x2 8) (ck (inb (gi s 0 80) 6000) (lt (si s 54 (ix (gi s 0 80)) (gi s 10 (ix x2))) (fun s6 => some s6))) else ck (inb (gi s 0 80) 6000) (ck (inb x2 8) (lt (si s 10 (ix x2) (gi s 54 (ix (gi s 0 80)))) (fun s9 => some s9))) : Option (ST)).bind (fun w1 => lt (si w1 0 80 ((gi w1 0 80) + 1)) (fun s10 => lt (x2 + 1) (fun v11 => fX12_carryRow_10_L2 n v11 s10)))
def fX12_carryRow_10 (s : ST) : Option (ST) :=
  (fX12_carryRow_10_L2 FUEL 0 s).bind (fun w12 => some w12.2)
set_option maxRecDepth 20000 in
theorem kX12_carryRow_10_L2 {g : GX} {r : Option Value} {h2 : PH} : ∀ (n : Nat) (x2 : Int32) (s : ST) {w : Int32 × ST}, fX12_carryRow_10_L2 n x2 s = some w → Rn g mdX12_carryRow 58 [none, none, none] [] (mW w.2) 0 0 r h2 → Rn g mdX12_carryRow 2 [some (.ref 0), some (.ref 10), some (.int x2)] [] (mW s) 0 0 r h2 := by
  intro n
  induction n with
  | zero => intro x2 s w hf K; cases hf
  | succ n ih =>
    intro x2 s w hf K
    rw [fX12_carryRow_10_L2] at hf
    refine o_iload_n (pc := 2) dX12_carryRow_2 rfl ?_
    refine o_aload_n (pc := 3) dX12_carryRow_3 rfl ?_
    refine m_alen (pc := 4) 8 (by decide) (by decide) rfl rfl dX12_carryRow_4 ?_
    refine o_icmp_ge (pc := 5) 58 dX12_carryRow_5 rfl (fun hc => ?_) (fun hc => ?_)
    · have hf := it_t hf hc
      obtain rfl := Option.some.inj hf
      refine o_keep [false, false, false] ?_
      exact K
    · have hf := it_f hf hc
      refine o_aload_n (pc := 8) dX12_carryRow_8 rfl ?_
      refine m_getI (pc := 9) 81 (by decide) rfl lkX12_569 dX12_carryRow_9 ?_
      obtain ⟨w1, hr2, hf⟩ := bd_elim hf
      have K3 : Rn g mdX12_carryRow 42 [some (.ref 0), some (.ref 10), some (.int x2)] [] (mW w1) 0 0 r h2 := by
        refine o_aload_n (pc := 42) dX12_carryRow_42 rfl ?_
        refine o_dup (pc := 43) dX12_carryRow_43 rfl ?_
        refine m_getI (pc := 44) 80 (by decide) rfl lkX12_572 dX12_carryRow_44 ?_
        refine o_iconst (pc := 47) (v := 1) dX12_carryRow_47 rfl ?_
        refine o_iadd (pc := 48) dX12_carryRow_48 ?_
        refine m_putI (pc := 49) 80 (by decide) rfl rfl lkX12_572 ⟨rfl, rfl⟩ dX12_carryRow_49 ?_
        refine lz_s (mW) hf (fun s10 hf => ?_)
        show Rn g mdX12_carryRow 52 [some (.ref 0), some (.ref 10), some (.int x2)] [] (mW s10) 0 0 r h2
        refine o_iinc (pc := 52) dX12_carryRow_52 rfl (by decide) rfl ?_
        show Rn g mdX12_carryRow 55 [some (.ref 0), some (.ref 10), some (.int (x2 + 1))] [] (mW s10) 0 0 r h2
        obtain ⟨v11, ev11, hf⟩ := lt_elim hf
        rw [ev11]
        show Rn g mdX12_carryRow 55 [some (.ref 0), some (.ref 10), some (.int v11)] [] (mW s10) 0 0 r h2
        refine o_goto (pc := 55) 2 dX12_carryRow_55 rfl ?_
        exact ih _ _ hf K
      clear hf
      refine o_if_eq (pc := 12) 30 dX12_carryRow_12 rfl (fun hc => ?_) (fun hc => ?_)
      · have hr2 := it_t hr2 hc
        refine o_aload_n (pc := 30) dX12_carryRow_30 rfl ?_
        refine m_getA (pc := 31) 78 54 (by decide) rfl rfl lkX12_182 dX12_carryRow_31 ?_
        refine o_aload_n (pc := 34) dX12_carryRow_34 rfl ?_
        refine m_getI (pc := 35) 80 (by decide) rfl lkX12_572 dX12_carryRow_35 ?_
        refine o_aload_n (pc := 38) dX12_carryRow_38 rfl ?_
        refine o_iload_n (pc := 39) dX12_carryRow_39 rfl ?_
        obtain ⟨hk4, hr2⟩ := ck_elim hr2
        refine m_iald (pc := 40) (by decide) rfl hk4 dX12_carryRow_40 ?_
        obtain ⟨hk5, hr2⟩ := ck_elim hr2
        refine m_iast (pc := 41) (by decide) rfl hk5 dX12_carryRow_41 ?_
        refine lz_s (mW) hr2 (fun s6 hr2 => ?_)
        show Rn g mdX12_carryRow 42 [some (.ref 0), some (.ref 10), some (.int x2)] [] (mW s6) 0 0 r h2
        obtain rfl := Option.some.inj hr2
        exact K3
      · have hr2 := it_f hr2 hc
        refine o_aload_n (pc := 15) dX12_carryRow_15 rfl ?_
        refine o_iload_n (pc := 16) dX12_carryRow_16 rfl ?_
        refine o_aload_n (pc := 17) dX12_carryRow_17 rfl ?_
        refine m_getA (pc := 18) 78 54 (by decide) rfl rfl lkX12_182 dX12_carryRow_18 ?_
        refine o_aload_n (pc := 21) dX12_carryRow_21 rfl ?_
        refine m_getI (pc := 22) 80 (by decide) rfl lkX12_572 dX12_carryRow_22 ?_
        obtain ⟨hk7, hr2⟩ := ck_elim hr2
        refine m_iald (pc := 25) (by decide) rfl hk7 dX12_carryRow_25 ?_
        obtain ⟨hk8, hr2⟩ := ck_elim hr2
        refine m_iast (pc := 26) (by decide) rfl hk8 dX12_carryRow_26 ?_
        refine lz_s (mW) hr2 (fun s9 hr2 => ?_)
        show Rn g mdX12_carryRow 27 [some (.ref 0), some (.ref 10), some (.int x2)] [] (mW s9) 0 0 r h2
        refine o_goto (pc := 27) 42 dX12_carryRow_27 rfl ?_
        obtain rfl := Option.some.inj hr2
        exact K3
set_option maxRecDepth 20000 in
theorem kX12_carryRow_10 {g : GX} {s : ST} {q : ST} (hf : fX12_carryRow_10 s = some q) : Cn g mdX12_carryRow [.ref 0, .ref 10] (mW s) none (mW q) := by
  refine Cn.of (by decide) (Nat.le_of_ble_eq_true rfl) ?_
  show Rn g mdX12_carryRow 0 [some (.ref 0), some (.ref 10), none] [] (mW s) 0 0 none (mW q)
  unfold fX12_carryRow_10 at hf
  refine o_iconst (pc := 0) (v := 0) dX12_carryRow_0 rfl ?_
  refine o_istore_n (pc := 1) dX12_carryRow_1 (by decide) rfl ?_
  show Rn g mdX12_carryRow 2 [some (.ref 0), some (.ref 10), some (.int 0)] [] (mW s) 0 0 none (mW q)
  obtain ⟨w12, hl13, hf⟩ := bd_elim hf
  have K14 : Rn g mdX12_carryRow 58 [none, none, none] [] (mW w12.2) 0 0 none (mW q) := by
    obtain rfl := Option.some.inj hf
    exact o_return (pc := 58) dX12_carryRow_58 rfl (Nat.zero_le _) (Nat.zero_le _)
  exact kX12_carryRow_10_L2 _ _ _ hl13 K14
def fX12_carryRow_11_L2 : Nat → Int32 → ST → Option (Int32 × ST)
  | 0, _, _ => none
  | n + 1, x2, s => if 8 ≤ x2 then some (x2, s) else (if (gi s 0 81) = 0 then ck (inb x2 8) (ck (inb (gi s 0 80) 6000) (lt (si s 54 (ix (gi s 0 80)) (gi s 11 (ix x2))) (fun s6 => some s6))) else ck (inb (gi s 0 80) 6000) (ck (inb x2 8) (lt (si s 11 (ix x2) (gi s 54 (ix (gi s 0 80)))) (fun s9 => some s9))) : Option (ST)).bind (fun w1 => lt (si w1 0 80 ((gi w1 0 80) + 1)) (fun s10 => lt (x2 + 1) (fun v11 => fX12_carryRow_11_L2 n v11 s10)))
def fX12_carryRow_11 (s : ST) : Option (ST) :=
  (fX12_carryRow_11_L2 FUEL 0 s).bind (fun w12 => some w12.2)
set_option maxRecDepth 20000 in
theorem kX12_carryRow_11_L2 {g : GX} {r : Option Value} {h2 : PH} : ∀ (n : Nat) (x2 : Int32) (s : ST) {w : Int32 × ST}, fX12_carryRow_11_L2 n x2 s = some w → Rn g mdX12_carryRow 58 [none, none, none] [] (mW w.2) 0 0 r h2 → Rn g mdX12_carryRow 2 [some (.ref 0), some (.ref 11), some (.int x2)] [] (mW s) 0 0 r h2 := by
  intro n
  induction n with
  | zero => intro x2 s w hf K; cases hf
  | succ n ih =>
    intro x2 s w hf K
    rw [fX12_carryRow_11_L2] at hf
    refine o_iload_n (pc := 2) dX12_carryRow_2 rfl ?_
    refine o_aload_n (pc := 3) dX12_carryRow_3 rfl ?_
    refine m_alen (pc := 4) 8 (by decide) (by decide) rfl rfl dX12_carryRow_4 ?_
    refine o_icmp_ge (pc := 5) 58 dX12_carryRow_5 rfl (fun hc => ?_) (fun hc => ?_)
    · have hf := it_t hf hc
      obtain rfl := Option.some.inj hf
      refine o_keep [false, false, false] ?_
      exact K
    · have hf := it_f hf hc
      refine o_aload_n (pc := 8) dX12_carryRow_8 rfl ?_
      refine m_getI (pc := 9) 81 (by decide) rfl lkX12_569 dX12_carryRow_9 ?_
      obtain ⟨w1, hr2, hf⟩ := bd_elim hf
      have K3 : Rn g mdX12_carryRow 42 [some (.ref 0), some (.ref 11), some (.int x2)] [] (mW w1) 0 0 r h2 := by
        refine o_aload_n (pc := 42) dX12_carryRow_42 rfl ?_
        refine o_dup (pc := 43) dX12_carryRow_43 rfl ?_
        refine m_getI (pc := 44) 80 (by decide) rfl lkX12_572 dX12_carryRow_44 ?_
        refine o_iconst (pc := 47) (v := 1) dX12_carryRow_47 rfl ?_
        refine o_iadd (pc := 48) dX12_carryRow_48 ?_
        refine m_putI (pc := 49) 80 (by decide) rfl rfl lkX12_572 ⟨rfl, rfl⟩ dX12_carryRow_49 ?_
        refine lz_s (mW) hf (fun s10 hf => ?_)
        show Rn g mdX12_carryRow 52 [some (.ref 0), some (.ref 11), some (.int x2)] [] (mW s10) 0 0 r h2
        refine o_iinc (pc := 52) dX12_carryRow_52 rfl (by decide) rfl ?_
        show Rn g mdX12_carryRow 55 [some (.ref 0), some (.ref 11), some (.int (x2 + 1))] [] (mW s10) 0 0 r h2
        obtain ⟨v11, ev11, hf⟩ := lt_elim hf
        rw [ev11]
        show Rn g mdX12_carryRow 55 [some (.ref 0), some (.ref 11), some (.int v11)] [] (mW s10) 0 0 r h2
        refine o_goto (pc := 55) 2 dX12_carryRow_55 rfl ?_
        exact ih _ _ hf K
      clear hf
      refine o_if_eq (pc := 12) 30 dX12_carryRow_12 rfl (fun hc => ?_) (fun hc => ?_)
      · have hr2 := it_t hr2 hc
        refine o_aload_n (pc := 30) dX12_carryRow_30 rfl ?_
        refine m_getA (pc := 31) 78 54 (by decide) rfl rfl lkX12_182 dX12_carryRow_31 ?_
        refine o_aload_n (pc := 34) dX12_carryRow_34 rfl ?_
        refine m_getI (pc := 35) 80 (by decide) rfl lkX12_572 dX12_carryRow_35 ?_
        refine o_aload_n (pc := 38) dX12_carryRow_38 rfl ?_
        refine o_iload_n (pc := 39) dX12_carryRow_39 rfl ?_
        obtain ⟨hk4, hr2⟩ := ck_elim hr2
        refine m_iald (pc := 40) (by decide) rfl hk4 dX12_carryRow_40 ?_
        obtain ⟨hk5, hr2⟩ := ck_elim hr2
        refine m_iast (pc := 41) (by decide) rfl hk5 dX12_carryRow_41 ?_
        refine lz_s (mW) hr2 (fun s6 hr2 => ?_)
        show Rn g mdX12_carryRow 42 [some (.ref 0), some (.ref 11), some (.int x2)] [] (mW s6) 0 0 r h2
        obtain rfl := Option.some.inj hr2
        exact K3
      · have hr2 := it_f hr2 hc
        refine o_aload_n (pc := 15) dX12_carryRow_15 rfl ?_
        refine o_iload_n (pc := 16) dX12_carryRow_16 rfl ?_
        refine o_aload_n (pc := 17) dX12_carryRow_17 rfl ?_
        refine m_getA (pc := 18) 78 54 (by decide) rfl rfl lkX12_182 dX12_carryRow_18 ?_
        refine o_aload_n (pc := 21) dX12_carryRow_21 rfl ?_
        refine m_getI (pc := 22) 80 (by decide) rfl lkX12_572 dX12_carryRow_22 ?_
        obtain ⟨hk7, hr2⟩ := ck_elim hr2
        refine m_iald (pc := 25) (by decide) rfl hk7 dX12_carryRow_25 ?_
        obtain ⟨hk8, hr2⟩ := ck_elim hr2
        refine m_iast (pc := 26) (by decide) rfl hk8 dX12_carryRow_26 ?_
        refine lz_s (mW) hr2 (fun s9 hr2 => ?_)
        show Rn g mdX12_carryRow 27 [some (.ref 0), some (.ref 11), some (.int x2)] [] (mW s9) 0 0 r h2
        refine o_goto (pc := 27) 42 dX12_carryRow_27 rfl ?_
        obtain rfl := Option.some.inj hr2
        exact K3
set_option maxRecDepth 20000 in
theorem kX12_carryRow_11 {g : GX} {s : ST} {q : ST} (hf : fX12_carryRow_11 s = some q) : Cn g mdX12_carryRow [.ref 0, .ref 11] (mW s) none (mW q) := by
  refine Cn.of (by decide) (Nat.le_of_ble_eq_true rfl) ?_
  show Rn g mdX12_carryRow 0 [some (.ref 0), some (.ref 11), none] [] (mW s) 0 0 none (mW q)
  unfold fX12_carryRow_11 at hf
  refine o_iconst (pc := 0) (v := 0) dX12_carryRow_0 rfl ?_
  refine o_istore_n (pc := 1) dX12_carryRow_1 (by decide) rfl ?_
  show Rn g mdX12_carryRow 2 [some (.ref 0), some (.ref 11), some (.int 0)] [] (mW s) 0 0 none (mW q)
  obtain ⟨w12, hl13, hf⟩ := bd_elim hf
  have K14 : Rn g mdX12_carryRow 58 [none, none, none] [] (mW w12.2) 0 0 none (mW q) := by
    obtain rfl := Option.some.inj hf
    exact o_return (pc := 58) dX12_carryRow_58 rfl (Nat.zero_le _) (Nat.zero_le _)
  exact kX12_carryRow_11_L2 _ _ _ hl13 K14
def fX12_carryRow_12_L2 : Nat → Int32 → ST → Option (Int32 × ST)
  | 0, _, _ => none
  | n + 1, x2, s => if 8 ≤ x2 then some (x2, s) else (if (gi s 0 81) = 0 then ck (inb x2 8) (ck (inb (gi s 0 80) 6000) (lt (si s 54 (ix (gi s 0 80)) (gi s 12 (ix x2))) (fun s6 => some s6))) else ck (inb (gi s 0 80) 6000) (ck (inb x2 8) (lt (si s 12 (ix x2) (gi s 54 (ix (gi s 0 80)))) (fun s9 => some s9))) : Option (ST)).bind (fun w1 => lt (si w1 0 80 ((gi w1 0 80) + 1)) (fun s10 => lt (x2 + 1) (fun v11 => fX12_carryRow_12_L2 n v11 s10)))
def fX12_carryRow_12 (s : ST) : Option (ST) :=
  (fX12_carryRow_12_L2 FUEL 0 s).bind (fun w12 => some w12.2)
set_option maxRecDepth 20000 in
theorem kX12_carryRow_12_L2 {g : GX} {r : Option Value} {h2 : PH} : ∀ (n : Nat) (x2 : Int32) (s : ST) {w : Int32 × ST}, fX12_carryRow_12_L2 n x2 s = some w → Rn g mdX12_carryRow 58 [none, none, none] [] (mW w.2) 0 0 r h2 → Rn g mdX12_carryRow 2 [some (.ref 0), some (.ref 12), some (.int x2)] [] (mW s) 0 0 r h2 := by
  intro n
  induction n with
  | zero => intro x2 s w hf K; cases hf
  | succ n ih =>
    intro x2 s w hf K
    rw [fX12_carryRow_12_L2] at hf
    refine o_iload_n (pc := 2) dX12_carryRow_2 rfl ?_
    refine o_aload_n (pc := 3) dX12_carryRow_3 rfl ?_
    refine m_alen (pc := 4) 8 (by decide) (by decide) rfl rfl dX12_carryRow_4 ?_
    refine o_icmp_ge (pc := 5) 58 dX12_carryRow_5 rfl (fun hc => ?_) (fun hc => ?_)
    · have hf := it_t hf hc
      obtain rfl := Option.some.inj hf
      refine o_keep [false, false, false] ?_
      exact K
    · have hf := it_f hf hc
      refine o_aload_n (pc := 8) dX12_carryRow_8 rfl ?_
      refine m_getI (pc := 9) 81 (by decide) rfl lkX12_569 dX12_carryRow_9 ?_
      obtain ⟨w1, hr2, hf⟩ := bd_elim hf
      have K3 : Rn g mdX12_carryRow 42 [some (.ref 0), some (.ref 12), some (.int x2)] [] (mW w1) 0 0 r h2 := by
        refine o_aload_n (pc := 42) dX12_carryRow_42 rfl ?_
        refine o_dup (pc := 43) dX12_carryRow_43 rfl ?_
        refine m_getI (pc := 44) 80 (by decide) rfl lkX12_572 dX12_carryRow_44 ?_
        refine o_iconst (pc := 47) (v := 1) dX12_carryRow_47 rfl ?_
        refine o_iadd (pc := 48) dX12_carryRow_48 ?_
        refine m_putI (pc := 49) 80 (by decide) rfl rfl lkX12_572 ⟨rfl, rfl⟩ dX12_carryRow_49 ?_
        refine lz_s (mW) hf (fun s10 hf => ?_)
        show Rn g mdX12_carryRow 52 [some (.ref 0), some (.ref 12), some (.int x2)] [] (mW s10) 0 0 r h2
        refine o_iinc (pc := 52) dX12_carryRow_52 rfl (by decide) rfl ?_
        show Rn g mdX12_carryRow 55 [some (.ref 0), some (.ref 12), some (.int (x2 + 1))] [] (mW s10) 0 0 r h2
        obtain ⟨v11, ev11, hf⟩ := lt_elim hf
        rw [ev11]
        show Rn g mdX12_carryRow 55 [some (.ref 0), some (.ref 12), some (.int v11)] [] (mW s10) 0 0 r h2
        refine o_goto (pc := 55) 2 dX12_carryRow_55 rfl ?_
        exact ih _ _ hf K
      clear hf
      refine o_if_eq (pc := 12) 30 dX12_carryRow_12 rfl (fun hc => ?_) (fun hc => ?_)
      · have hr2 := it_t hr2 hc
        refine o_aload_n (pc := 30) dX12_carryRow_30 rfl ?_
        refine m_getA (pc := 31) 78 54 (by decide) rfl rfl lkX12_182 dX12_carryRow_31 ?_
        refine o_aload_n (pc := 34) dX12_carryRow_34 rfl ?_
        refine m_getI (pc := 35) 80 (by decide) rfl lkX12_572 dX12_carryRow_35 ?_
        refine o_aload_n (pc := 38) dX12_carryRow_38 rfl ?_
        refine o_iload_n (pc := 39) dX12_carryRow_39 rfl ?_
        obtain ⟨hk4, hr2⟩ := ck_elim hr2
        refine m_iald (pc := 40) (by decide) rfl hk4 dX12_carryRow_40 ?_
        obtain ⟨hk5, hr2⟩ := ck_elim hr2
        refine m_iast (pc := 41) (by decide) rfl hk5 dX12_carryRow_41 ?_
        refine lz_s (mW) hr2 (fun s6 hr2 => ?_)
        show Rn g mdX12_carryRow 42 [some (.ref 0), some (.ref 12), some (.int x2)] [] (mW s6) 0 0 r h2
        obtain rfl := Option.some.inj hr2
        exact K3
      · have hr2 := it_f hr2 hc
        refine o_aload_n (pc := 15) dX12_carryRow_15 rfl ?_
        refine o_iload_n (pc := 16) dX12_carryRow_16 rfl ?_
        refine o_aload_n (pc := 17) dX12_carryRow_17 rfl ?_
        refine m_getA (pc := 18) 78 54 (by decide) rfl rfl lkX12_182 dX12_carryRow_18 ?_
        refine o_aload_n (pc := 21) dX12_carryRow_21 rfl ?_
        refine m_getI (pc := 22) 80 (by decide) rfl lkX12_572 dX12_carryRow_22 ?_
        obtain ⟨hk7, hr2⟩ := ck_elim hr2
        refine m_iald (pc := 25) (by decide) rfl hk7 dX12_carryRow_25 ?_
        obtain ⟨hk8, hr2⟩ := ck_elim hr2
        refine m_iast (pc := 26) (by decide) rfl hk8 dX12_carryRow_26 ?_
        refine lz_s (mW) hr2 (fun s9 hr2 => ?_)
        show Rn g mdX12_carryRow 27 [some (.ref 0), some (.ref 12), some (.int x2)] [] (mW s9) 0 0 r h2
        refine o_goto (pc := 27) 42 dX12_carryRow_27 rfl ?_
        obtain rfl := Option.some.inj hr2
        exact K3
set_option maxRecDepth 20000 in
theorem kX12_carryRow_12 {g : GX} {s : ST} {q : ST} (hf : fX12_carryRow_12 s = some q) : Cn g mdX12_carryRow [.ref 0, .ref 12] (mW s) none (mW q) := by
  refine Cn.of (by decide) (Nat.le_of_ble_eq_true rfl) ?_
  show Rn g mdX12_carryRow 0 [some (.ref 0), some (.ref 12), none] [] (mW s) 0 0 none (mW q)
  unfold fX12_carryRow_12 at hf
  refine o_iconst (pc := 0) (v := 0) dX12_carryRow_0 rfl ?_
  refine o_istore_n (pc := 1) dX12_carryRow_1 (by decide) rfl ?_
  show Rn g mdX12_carryRow 2 [some (.ref 0), some (.ref 12), some (.int 0)] [] (mW s) 0 0 none (mW q)
  obtain ⟨w12, hl13, hf⟩ := bd_elim hf
  have K14 : Rn g mdX12_carryRow 58 [none, none, none] [] (mW w12.2) 0 0 none (mW q) := by
    obtain rfl := Option.some.inj hf
    exact o_return (pc := 58) dX12_carryRow_58 rfl (Nat.zero_le _) (Nat.zero_le _)
  exact kX12_carryRow_12_L2 _ _ _ hl13 K14
def fX12_carryRow_13_L2 : Nat → Int32 → ST → Option (Int32 × ST)
  | 0, _, _ => none
  | n + 1, x2, s => if 10 ≤ x2 then some (x2, s) else (if (gi s 0 81) = 0 then ck (inb x2 10) (ck (inb (gi s 0 80) 6000) (lt (si s 54 (ix (gi s 0 80)) (gi s 13 (ix x2))) (fun s6 => some s6))) else ck (inb (gi s 0 80) 6000) (ck (inb x2 10) (lt (si s 13 (ix x2) (gi s 54 (ix (gi s 0 80)))) (fun s9 => some s9))) : Option (ST)).bind (fun w1 => lt (si w1 0 80 ((gi w1 0 80) + 1)) (fun s10 => lt (x2 + 1) (fun v11 => fX12_carryRow_13_L2 n v11 s10)))
def fX12_carryRow_13 (s : ST) : Option (ST) :=
  (fX12_carryRow_13_L2 FUEL 0 s).bind (fun w12 => some w12.2)
set_option maxRecDepth 20000 in
theorem kX12_carryRow_13_L2 {g : GX} {r : Option Value} {h2 : PH} : ∀ (n : Nat) (x2 : Int32) (s : ST) {w : Int32 × ST}, fX12_carryRow_13_L2 n x2 s = some w → Rn g mdX12_carryRow 58 [none, none, none] [] (mW w.2) 0 0 r h2 → Rn g mdX12_carryRow 2 [some (.ref 0), some (.ref 13), some (.int x2)] [] (mW s) 0 0 r h2 := by
  intro n
  induction n with
  | zero => intro x2 s w hf K; cases hf
  | succ n ih =>
    intro x2 s w hf K
    rw [fX12_carryRow_13_L2] at hf
    refine o_iload_n (pc := 2) dX12_carryRow_2 rfl ?_
    refine o_aload_n (pc := 3) dX12_carryRow_3 rfl ?_
    refine m_alen (pc := 4) 10 (by decide) (by decide) rfl rfl dX12_carryRow_4 ?_
    refine o_icmp_ge (pc := 5) 58 dX12_carryRow_5 rfl (fun hc => ?_) (fun hc => ?_)
    · have hf := it_t hf hc
      obtain rfl := Option.some.inj hf
      refine o_keep [false, false, false] ?_
      exact K
    · have hf := it_f hf hc
      refine o_aload_n (pc := 8) dX12_carryRow_8 rfl ?_
      refine m_getI (pc := 9) 81 (by decide) rfl lkX12_569 dX12_carryRow_9 ?_
      obtain ⟨w1, hr2, hf⟩ := bd_elim hf
      have K3 : Rn g mdX12_carryRow 42 [some (.ref 0), some (.ref 13), some (.int x2)] [] (mW w1) 0 0 r h2 := by
        refine o_aload_n (pc := 42) dX12_carryRow_42 rfl ?_
        refine o_dup (pc := 43) dX12_carryRow_43 rfl ?_
        refine m_getI (pc := 44) 80 (by decide) rfl lkX12_572 dX12_carryRow_44 ?_
        refine o_iconst (pc := 47) (v := 1) dX12_carryRow_47 rfl ?_
        refine o_iadd (pc := 48) dX12_carryRow_48 ?_
        refine m_putI (pc := 49) 80 (by decide) rfl rfl lkX12_572 ⟨rfl, rfl⟩ dX12_carryRow_49 ?_
        refine lz_s (mW) hf (fun s10 hf => ?_)
        show Rn g mdX12_carryRow 52 [some (.ref 0), some (.ref 13), some (.int x2)] [] (mW s10) 0 0 r h2
        refine o_iinc (pc := 52) dX12_carryRow_52 rfl (by decide) rfl ?_
        show Rn g mdX12_carryRow 55 [some (.ref 0), some (.ref 13), some (.int (x2 + 1))] [] (mW s10) 0 0 r h2
        obtain ⟨v11, ev11, hf⟩ := lt_elim hf
        rw [ev11]
        show Rn g mdX12_carryRow 55 [some (.ref 0), some (.ref 13), some (.int v11)] [] (mW s10) 0 0 r h2
        refine o_goto (pc := 55) 2 dX12_carryRow_55 rfl ?_
        exact ih _ _ hf K
      clear hf
      refine o_if_eq (pc := 12) 30 dX12_carryRow_12 rfl (fun hc => ?_) (fun hc => ?_)
      · have hr2 := it_t hr2 hc
        refine o_aload_n (pc := 30) dX12_carryRow_30 rfl ?_
        refine m_getA (pc := 31) 78 54 (by decide) rfl rfl lkX12_182 dX12_carryRow_31 ?_
        refine o_aload_n (pc := 34) dX12_carryRow_34 rfl ?_
        refine m_getI (pc := 35) 80 (by decide) rfl lkX12_572 dX12_carryRow_35 ?_
        refine o_aload_n (pc := 38) dX12_carryRow_38 rfl ?_
        refine o_iload_n (pc := 39) dX12_carryRow_39 rfl ?_
        obtain ⟨hk4, hr2⟩ := ck_elim hr2
        refine m_iald (pc := 40) (by decide) rfl hk4 dX12_carryRow_40 ?_
        obtain ⟨hk5, hr2⟩ := ck_elim hr2
        refine m_iast (pc := 41) (by decide) rfl hk5 dX12_carryRow_41 ?_
        refine lz_s (mW) hr2 (fun s6 hr2 => ?_)
        show Rn g mdX12_carryRow 42 [some (.ref 0), some (.ref 13), some (.int x2)] [] (mW s6) 0 0 r h2
        obtain rfl := Option.some.inj hr2
        exact K3
      · have hr2 := it_f hr2 hc
        refine o_aload_n (pc := 15) dX12_carryRow_15 rfl ?_
        refine o_iload_n (pc := 16) dX12_carryRow_16 rfl ?_
        refine o_aload_n (pc := 17) dX12_carryRow_17 rfl ?_
        refine m_getA (pc := 18) 78 54 (by decide) rfl rfl lkX12_182 dX12_carryRow_18 ?_
        refine o_aload_n (pc := 21) dX12_carryRow_21 rfl ?_
        refine m_getI (pc := 22) 80 (by decide) rfl lkX12_572 dX12_carryRow_22 ?_
        obtain ⟨hk7, hr2⟩ := ck_elim hr2
        refine m_iald (pc := 25) (by decide) rfl hk7 dX12_carryRow_25 ?_
        obtain ⟨hk8, hr2⟩ := ck_elim hr2
        refine m_iast (pc := 26) (by decide) rfl hk8 dX12_carryRow_26 ?_
        refine lz_s (mW) hr2 (fun s9 hr2 => ?_)
        show Rn g mdX12_carryRow 27 [some (.ref 0), some (.ref 13), some (.int x2)] [] (mW s9) 0 0 r h2
        refine o_goto (pc := 27) 42 dX12_carryRow_27 rfl ?_
        obtain rfl := Option.some.inj hr2
        exact K3
set_option maxRecDepth 20000 in
theorem kX12_carryRow_13 {g : GX} {s : ST} {q : ST} (hf : fX12_carryRow_13 s = some q) : Cn g mdX12_carryRow [.ref 0, .ref 13] (mW s) none (mW q) := by
  refine Cn.of (by decide) (Nat.le_of_ble_eq_true rfl) ?_
  show Rn g mdX12_carryRow 0 [some (.ref 0), some (.ref 13), none] [] (mW s) 0 0 none (mW q)
  unfold fX12_carryRow_13 at hf
  refine o_iconst (pc := 0) (v := 0) dX12_carryRow_0 rfl ?_
  refine o_istore_n (pc := 1) dX12_carryRow_1 (by decide) rfl ?_
  show Rn g mdX12_carryRow 2 [some (.ref 0), some (.ref 13), some (.int 0)] [] (mW s) 0 0 none (mW q)
  obtain ⟨w12, hl13, hf⟩ := bd_elim hf
  have K14 : Rn g mdX12_carryRow 58 [none, none, none] [] (mW w12.2) 0 0 none (mW q) := by
    obtain rfl := Option.some.inj hf
    exact o_return (pc := 58) dX12_carryRow_58 rfl (Nat.zero_le _) (Nat.zero_le _)
  exact kX12_carryRow_13_L2 _ _ _ hl13 K14
def fX12_carryRow_14_L2 : Nat → Int32 → ST → Option (Int32 × ST)
  | 0, _, _ => none
  | n + 1, x2, s => if 10 ≤ x2 then some (x2, s) else (if (gi s 0 81) = 0 then ck (inb x2 10) (ck (inb (gi s 0 80) 6000) (lt (si s 54 (ix (gi s 0 80)) (gi s 14 (ix x2))) (fun s6 => some s6))) else ck (inb (gi s 0 80) 6000) (ck (inb x2 10) (lt (si s 14 (ix x2) (gi s 54 (ix (gi s 0 80)))) (fun s9 => some s9))) : Option (ST)).bind (fun w1 => lt (si w1 0 80 ((gi w1 0 80) + 1)) (fun s10 => lt (x2 + 1) (fun v11 => fX12_carryRow_14_L2 n v11 s10)))
def fX12_carryRow_14 (s : ST) : Option (ST) :=
  (fX12_carryRow_14_L2 FUEL 0 s).bind (fun w12 => some w12.2)
set_option maxRecDepth 20000 in
theorem kX12_carryRow_14_L2 {g : GX} {r : Option Value} {h2 : PH} : ∀ (n : Nat) (x2 : Int32) (s : ST) {w : Int32 × ST}, fX12_carryRow_14_L2 n x2 s = some w → Rn g mdX12_carryRow 58 [none, none, none] [] (mW w.2) 0 0 r h2 → Rn g mdX12_carryRow 2 [some (.ref 0), some (.ref 14), some (.int x2)] [] (mW s) 0 0 r h2 := by
  intro n
  induction n with
  | zero => intro x2 s w hf K; cases hf
  | succ n ih =>
    intro x2 s w hf K
    rw [fX12_carryRow_14_L2] at hf
    refine o_iload_n (pc := 2) dX12_carryRow_2 rfl ?_
    refine o_aload_n (pc := 3) dX12_carryRow_3 rfl ?_
    refine m_alen (pc := 4) 10 (by decide) (by decide) rfl rfl dX12_carryRow_4 ?_
    refine o_icmp_ge (pc := 5) 58 dX12_carryRow_5 rfl (fun hc => ?_) (fun hc => ?_)
    · have hf := it_t hf hc
      obtain rfl := Option.some.inj hf
      refine o_keep [false, false, false] ?_
      exact K
    · have hf := it_f hf hc
      refine o_aload_n (pc := 8) dX12_carryRow_8 rfl ?_
      refine m_getI (pc := 9) 81 (by decide) rfl lkX12_569 dX12_carryRow_9 ?_
      obtain ⟨w1, hr2, hf⟩ := bd_elim hf
      have K3 : Rn g mdX12_carryRow 42 [some (.ref 0), some (.ref 14), some (.int x2)] [] (mW w1) 0 0 r h2 := by
        refine o_aload_n (pc := 42) dX12_carryRow_42 rfl ?_
        refine o_dup (pc := 43) dX12_carryRow_43 rfl ?_
        refine m_getI (pc := 44) 80 (by decide) rfl lkX12_572 dX12_carryRow_44 ?_
        refine o_iconst (pc := 47) (v := 1) dX12_carryRow_47 rfl ?_
        refine o_iadd (pc := 48) dX12_carryRow_48 ?_
        refine m_putI (pc := 49) 80 (by decide) rfl rfl lkX12_572 ⟨rfl, rfl⟩ dX12_carryRow_49 ?_
        refine lz_s (mW) hf (fun s10 hf => ?_)
        show Rn g mdX12_carryRow 52 [some (.ref 0), some (.ref 14), some (.int x2)] [] (mW s10) 0 0 r h2
        refine o_iinc (pc := 52) dX12_carryRow_52 rfl (by decide) rfl ?_
        show Rn g mdX12_carryRow 55 [some (.ref 0), some (.ref 14), some (.int (x2 + 1))] [] (mW s10) 0 0 r h2
        obtain ⟨v11, ev11, hf⟩ := lt_elim hf
        rw [ev11]
        show Rn g mdX12_carryRow 55 [some (.ref 0), some (.ref 14), some (.int v11)] [] (mW s10) 0 0 r h2
        refine o_goto (pc := 55) 2 dX12_carryRow_55 rfl ?_
        exact ih _ _ hf K
      clear hf
      refine o_if_eq (pc := 12) 30 dX12_carryRow_12 rfl (fun hc => ?_) (fun hc => ?_)
      · have hr2 := it_t hr2 hc
        refine o_aload_n (pc := 30) dX12_carryRow_30 rfl ?_
        refine m_getA (pc := 31) 78 54 (by decide) rfl rfl lkX12_182 dX12_carryRow_31 ?_
        refine o_aload_n (pc := 34) dX12_carryRow_34 rfl ?_
        refine m_getI (pc := 35) 80 (by decide) rfl lkX12_572 dX12_carryRow_35 ?_
        refine o_aload_n (pc := 38) dX12_carryRow_38 rfl ?_
        refine o_iload_n (pc := 39) dX12_carryRow_39 rfl ?_
        obtain ⟨hk4, hr2⟩ := ck_elim hr2
        refine m_iald (pc := 40) (by decide) rfl hk4 dX12_carryRow_40 ?_
        obtain ⟨hk5, hr2⟩ := ck_elim hr2
        refine m_iast (pc := 41) (by decide) rfl hk5 dX12_carryRow_41 ?_
        refine lz_s (mW) hr2 (fun s6 hr2 => ?_)
        show Rn g mdX12_carryRow 42 [some (.ref 0), some (.ref 14), some (.int x2)] [] (mW s6) 0 0 r h2
        obtain rfl := Option.some.inj hr2
        exact K3
      · have hr2 := it_f hr2 hc
        refine o_aload_n (pc := 15) dX12_carryRow_15 rfl ?_
        refine o_iload_n (pc := 16) dX12_carryRow_16 rfl ?_
        refine o_aload_n (pc := 17) dX12_carryRow_17 rfl ?_
        refine m_getA (pc := 18) 78 54 (by decide) rfl rfl lkX12_182 dX12_carryRow_18 ?_
        refine o_aload_n (pc := 21) dX12_carryRow_21 rfl ?_
        refine m_getI (pc := 22) 80 (by decide) rfl lkX12_572 dX12_carryRow_22 ?_
        obtain ⟨hk7, hr2⟩ := ck_elim hr2
        refine m_iald (pc := 25) (by decide) rfl hk7 dX12_carryRow_25 ?_
        obtain ⟨hk8, hr2⟩ := ck_elim hr2
        refine m_iast (pc := 26) (by decide) rfl hk8 dX12_carryRow_26 ?_
        refine lz_s (mW) hr2 (fun s9 hr2 => ?_)
        show Rn g mdX12_carryRow 27 [some (.ref 0), some (.ref 14), some (.int x2)] [] (mW s9) 0 0 r h2
        refine o_goto (pc := 27) 42 dX12_carryRow_27 rfl ?_
        obtain rfl := Option.some.inj hr2
        exact K3
set_option maxRecDepth 20000 in
theorem kX12_carryRow_14 {g : GX} {s : ST} {q : ST} (hf : fX12_carryRow_14 s = some q) : Cn g mdX12_carryRow [.ref 0, .ref 14] (mW s) none (mW q) := by
  refine Cn.of (by decide) (Nat.le_of_ble_eq_true rfl) ?_
  show Rn g mdX12_carryRow 0 [some (.ref 0), some (.ref 14), none] [] (mW s) 0 0 none (mW q)
  unfold fX12_carryRow_14 at hf
  refine o_iconst (pc := 0) (v := 0) dX12_carryRow_0 rfl ?_
  refine o_istore_n (pc := 1) dX12_carryRow_1 (by decide) rfl ?_
  show Rn g mdX12_carryRow 2 [some (.ref 0), some (.ref 14), some (.int 0)] [] (mW s) 0 0 none (mW q)
  obtain ⟨w12, hl13, hf⟩ := bd_elim hf
  have K14 : Rn g mdX12_carryRow 58 [none, none, none] [] (mW w12.2) 0 0 none (mW q) := by
    obtain rfl := Option.some.inj hf
    exact o_return (pc := 58) dX12_carryRow_58 rfl (Nat.zero_le _) (Nat.zero_le _)
  exact kX12_carryRow_14_L2 _ _ _ hl13 K14
def fX12_carryRow_15_L2 : Nat → Int32 → ST → Option (Int32 × ST)
  | 0, _, _ => none
  | n + 1, x2, s => if 10 ≤ x2 then some (x2, s) else (if (gi s 0 81) = 0 then ck (inb x2 10) (ck (inb (gi s 0 80) 6000) (lt (si s 54 (ix (gi s 0 80)) (gi s 15 (ix x2))) (fun s6 => some s6))) else ck (inb (gi s 0 80) 6000) (ck (inb x2 10) (lt (si s 15 (ix x2) (gi s 54 (ix (gi s 0 80)))) (fun s9 => some s9))) : Option (ST)).bind (fun w1 => lt (si w1 0 80 ((gi w1 0 80) + 1)) (fun s10 => lt (x2 + 1) (fun v11 => fX12_carryRow_15_L2 n v11 s10)))
def fX12_carryRow_15 (s : ST) : Option (ST) :=
  (fX12_carryRow_15_L2 FUEL 0 s).bind (fun w12 => some w12.2)
set_option maxRecDepth 20000 in
theorem kX12_carryRow_15_L2 {g : GX} {r : Option Value} {h2 : PH} : ∀ (n : Nat) (x2 : Int32) (s : ST) {w : Int32 × ST}, fX12_carryRow_15_L2 n x2 s = some w → Rn g mdX12_carryRow 58 [none, none, none] [] (mW w.2) 0 0 r h2 → Rn g mdX12_carryRow 2 [some (.ref 0), some (.ref 15), some (.int x2)] [] (mW s) 0 0 r h2 := by
  intro n
  induction n with
  | zero => intro x2 s w hf K; cases hf
  | succ n ih =>
    intro x2 s w hf K
    rw [fX12_carryRow_15_L2] at hf
    refine o_iload_n (pc := 2) dX12_carryRow_2 rfl ?_
    refine o_aload_n (pc := 3) dX12_carryRow_3 rfl ?_
    refine m_alen (pc := 4) 10 (by decide) (by decide) rfl rfl dX12_carryRow_4 ?_
    refine o_icmp_ge (pc := 5) 58 dX12_carryRow_5 rfl (fun hc => ?_) (fun hc => ?_)
    · have hf := it_t hf hc
      obtain rfl := Option.some.inj hf
      refine o_keep [false, false, false] ?_
      exact K
    · have hf := it_f hf hc
      refine o_aload_n (pc := 8) dX12_carryRow_8 rfl ?_
      refine m_getI (pc := 9) 81 (by decide) rfl lkX12_569 dX12_carryRow_9 ?_
      obtain ⟨w1, hr2, hf⟩ := bd_elim hf
      have K3 : Rn g mdX12_carryRow 42 [some (.ref 0), some (.ref 15), some (.int x2)] [] (mW w1) 0 0 r h2 := by
        refine o_aload_n (pc := 42) dX12_carryRow_42 rfl ?_
        refine o_dup (pc := 43) dX12_carryRow_43 rfl ?_
        refine m_getI (pc := 44) 80 (by decide) rfl lkX12_572 dX12_carryRow_44 ?_
        refine o_iconst (pc := 47) (v := 1) dX12_carryRow_47 rfl ?_
        refine o_iadd (pc := 48) dX12_carryRow_48 ?_
        refine m_putI (pc := 49) 80 (by decide) rfl rfl lkX12_572 ⟨rfl, rfl⟩ dX12_carryRow_49 ?_
        refine lz_s (mW) hf (fun s10 hf => ?_)
        show Rn g mdX12_carryRow 52 [some (.ref 0), some (.ref 15), some (.int x2)] [] (mW s10) 0 0 r h2
        refine o_iinc (pc := 52) dX12_carryRow_52 rfl (by decide) rfl ?_
        show Rn g mdX12_carryRow 55 [some (.ref 0), some (.ref 15), some (.int (x2 + 1))] [] (mW s10) 0 0 r h2
        obtain ⟨v11, ev11, hf⟩ := lt_elim hf
        rw [ev11]
        show Rn g mdX12_carryRow 55 [some (.ref 0), some (.ref 15), some (.int v11)] [] (mW s10) 0 0 r h2
        refine o_goto (pc := 55) 2 dX12_carryRow_55 rfl ?_
        exact ih _ _ hf K
      clear hf
      refine o_if_eq (pc := 12) 30 dX12_carryRow_12 rfl (fun hc => ?_) (fun hc => ?_)
      · have hr2 := it_t hr2 hc
        refine o_aload_n (pc := 30) dX12_carryRow_30 rfl ?_
        refine m_getA (pc := 31) 78 54 (by decide) rfl rfl lkX12_182 dX12_carryRow_31 ?_
        refine o_aload_n (pc := 34) dX12_carryRow_34 rfl ?_
        refine m_getI (pc := 35) 80 (by decide) rfl lkX12_572 dX12_carryRow_35 ?_
        refine o_aload_n (pc := 38) dX12_carryRow_38 rfl ?_
        refine o_iload_n (pc := 39) dX12_carryRow_39 rfl ?_
        obtain ⟨hk4, hr2⟩ := ck_elim hr2
        refine m_iald (pc := 40) (by decide) rfl hk4 dX12_carryRow_40 ?_
        obtain ⟨hk5, hr2⟩ := ck_elim hr2
        refine m_iast (pc := 41) (by decide) rfl hk5 dX12_carryRow_41 ?_
        refine lz_s (mW) hr2 (fun s6 hr2 => ?_)
        show Rn g mdX12_carryRow 42 [some (.ref 0), some (.ref 15), some (.int x2)] [] (mW s6) 0 0 r h2
        obtain rfl := Option.some.inj hr2
        exact K3
      · have hr2 := it_f hr2 hc
        refine o_aload_n (pc := 15) dX12_carryRow_15 rfl ?_
        refine o_iload_n (pc := 16) dX12_carryRow_16 rfl ?_
        refine o_aload_n (pc := 17) dX12_carryRow_17 rfl ?_
        refine m_getA (pc := 18) 78 54 (by decide) rfl rfl lkX12_182 dX12_carryRow_18 ?_
        refine o_aload_n (pc := 21) dX12_carryRow_21 rfl ?_
        refine m_getI (pc := 22) 80 (by decide) rfl lkX12_572 dX12_carryRow_22 ?_
        obtain ⟨hk7, hr2⟩ := ck_elim hr2
        refine m_iald (pc := 25) (by decide) rfl hk7 dX12_carryRow_25 ?_
        obtain ⟨hk8, hr2⟩ := ck_elim hr2
        refine m_iast (pc := 26) (by decide) rfl hk8 dX12_carryRow_26 ?_
        refine lz_s (mW) hr2 (fun s9 hr2 => ?_)
        show Rn g mdX12_carryRow 27 [some (.ref 0), some (.ref 15), some (.int x2)] [] (mW s9) 0 0 r h2
        refine o_goto (pc := 27) 42 dX12_carryRow_27 rfl ?_
        obtain rfl := Option.some.inj hr2
        exact K3
set_option maxRecDepth 20000 in
theorem kX12_carryRow_15 {g : GX} {s : ST} {q : ST} (hf : fX12_carryRow_15 s = some q) : Cn g mdX12_carryRow [.ref 0, .ref 15] (mW s) none (mW q) := by
  refine Cn.of (by decide) (Nat.le_of_ble_eq_true rfl) ?_
  show Rn g mdX12_carryRow 0 [some (.ref 0), some (.ref 15), none] [] (mW s) 0 0 none (mW q)
  unfold fX12_carryRow_15 at hf
  refine o_iconst (pc := 0) (v := 0) dX12_carryRow_0 rfl ?_
  refine o_istore_n (pc := 1) dX12_carryRow_1 (by decide) rfl ?_
  show Rn g mdX12_carryRow 2 [some (.ref 0), some (.ref 15), some (.int 0)] [] (mW s) 0 0 none (mW q)
  obtain ⟨w12, hl13, hf⟩ := bd_elim hf
  have K14 : Rn g mdX12_carryRow 58 [none, none, none] [] (mW w12.2) 0 0 none (mW q) := by
    obtain rfl := Option.some.inj hf
    exact o_return (pc := 58) dX12_carryRow_58 rfl (Nat.zero_le _) (Nat.zero_le _)
  exact kX12_carryRow_15_L2 _ _ _ hl13 K14
def fX12_carryRow_16_L2 : Nat → Int32 → ST → Option (Int32 × ST)
  | 0, _, _ => none
  | n + 1, x2, s => if 5 ≤ x2 then some (x2, s) else (if (gi s 0 81) = 0 then ck (inb x2 5) (ck (inb (gi s 0 80) 6000) (lt (si s 54 (ix (gi s 0 80)) (gi s 16 (ix x2))) (fun s6 => some s6))) else ck (inb (gi s 0 80) 6000) (ck (inb x2 5) (lt (si s 16 (ix x2) (gi s 54 (ix (gi s 0 80)))) (fun s9 => some s9))) : Option (ST)).bind (fun w1 => lt (si w1 0 80 ((gi w1 0 80) + 1)) (fun s10 => lt (x2 + 1) (fun v11 => fX12_carryRow_16_L2 n v11 s10)))
def fX12_carryRow_16 (s : ST) : Option (ST) :=
  (fX12_carryRow_16_L2 FUEL 0 s).bind (fun w12 => some w12.2)
set_option maxRecDepth 20000 in
theorem kX12_carryRow_16_L2 {g : GX} {r : Option Value} {h2 : PH} : ∀ (n : Nat) (x2 : Int32) (s : ST) {w : Int32 × ST}, fX12_carryRow_16_L2 n x2 s = some w → Rn g mdX12_carryRow 58 [none, none, none] [] (mW w.2) 0 0 r h2 → Rn g mdX12_carryRow 2 [some (.ref 0), some (.ref 16), some (.int x2)] [] (mW s) 0 0 r h2 := by
  intro n
  induction n with
  | zero => intro x2 s w hf K; cases hf
  | succ n ih =>
    intro x2 s w hf K
    rw [fX12_carryRow_16_L2] at hf
    refine o_iload_n (pc := 2) dX12_carryRow_2 rfl ?_
    refine o_aload_n (pc := 3) dX12_carryRow_3 rfl ?_
    refine m_alen (pc := 4) 5 (by decide) (by decide) rfl rfl dX12_carryRow_4 ?_
    refine o_icmp_ge (pc := 5) 58 dX12_carryRow_5 rfl (fun hc => ?_) (fun hc => ?_)
    · have hf := it_t hf hc
      obtain rfl := Option.some.inj hf
      refine o_keep [false, false, false] ?_
      exact K
    · have hf := it_f hf hc
      refine o_aload_n (pc := 8) dX12_carryRow_8 rfl ?_
      refine m_getI (pc := 9) 81 (by decide) rfl lkX12_569 dX12_carryRow_9 ?_
      obtain ⟨w1, hr2, hf⟩ := bd_elim hf
      have K3 : Rn g mdX12_carryRow 42 [some (.ref 0), some (.ref 16), some (.int x2)] [] (mW w1) 0 0 r h2 := by
        refine o_aload_n (pc := 42) dX12_carryRow_42 rfl ?_
        refine o_dup (pc := 43) dX12_carryRow_43 rfl ?_
        refine m_getI (pc := 44) 80 (by decide) rfl lkX12_572 dX12_carryRow_44 ?_
        refine o_iconst (pc := 47) (v := 1) dX12_carryRow_47 rfl ?_
        refine o_iadd (pc := 48) dX12_carryRow_48 ?_
        refine m_putI (pc := 49) 80 (by decide) rfl rfl lkX12_572 ⟨rfl, rfl⟩ dX12_carryRow_49 ?_
        refine lz_s (mW) hf (fun s10 hf => ?_)
        show Rn g mdX12_carryRow 52 [some (.ref 0), some (.ref 16), some (.int x2)] [] (mW s10) 0 0 r h2
        refine o_iinc (pc := 52) dX12_carryRow_52 rfl (by decide) rfl ?_
        show Rn g mdX12_carryRow 55 [some (.ref 0), some (.ref 16), some (.int (x2 + 1))] [] (mW s10) 0 0 r h2
        obtain ⟨v11, ev11, hf⟩ := lt_elim hf
        rw [ev11]
        show Rn g mdX12_carryRow 55 [some (.ref 0), some (.ref 16), some (.int v11)] [] (mW s10) 0 0 r h2
        refine o_goto (pc := 55) 2 dX12_carryRow_55 rfl ?_
        exact ih _ _ hf K
      clear hf
      refine o_if_eq (pc := 12) 30 dX12_carryRow_12 rfl (fun hc => ?_) (fun hc => ?_)
      · have hr2 := it_t hr2 hc
        refine o_aload_n (pc := 30) dX12_carryRow_30 rfl ?_
        refine m_getA (pc := 31) 78 54 (by decide) rfl rfl lkX12_182 dX12_carryRow_31 ?_
        refine o_aload_n (pc := 34) dX12_carryRow_34 rfl ?_
        refine m_getI (pc := 35) 80 (by decide) rfl lkX12_572 dX12_carryRow_35 ?_
        refine o_aload_n (pc := 38) dX12_carryRow_38 rfl ?_
        refine o_iload_n (pc := 39) dX12_carryRow_39 rfl ?_
        obtain ⟨hk4, hr2⟩ := ck_elim hr2
        refine m_iald (pc := 40) (by decide) rfl hk4 dX12_carryRow_40 ?_
        obtain ⟨hk5, hr2⟩ := ck_elim hr2
        refine m_iast (pc := 41) (by decide) rfl hk5 dX12_carryRow_41 ?_
        refine lz_s (mW) hr2 (fun s6 hr2 => ?_)
        show Rn g mdX12_carryRow 42 [some (.ref 0), some (.ref 16), some (.int x2)] [] (mW s6) 0 0 r h2
        obtain rfl := Option.some.inj hr2
        exact K3
      · have hr2 := it_f hr2 hc
        refine o_aload_n (pc := 15) dX12_carryRow_15 rfl ?_
        refine o_iload_n (pc := 16) dX12_carryRow_16 rfl ?_
        refine o_aload_n (pc := 17) dX12_carryRow_17 rfl ?_
        refine m_getA (pc := 18) 78 54 (by decide) rfl rfl lkX12_182 dX12_carryRow_18 ?_
        refine o_aload_n (pc := 21) dX12_carryRow_21 rfl ?_
        refine m_getI (pc := 22) 80 (by decide) rfl lkX12_572 dX12_carryRow_22 ?_
        obtain ⟨hk7, hr2⟩ := ck_elim hr2
        refine m_iald (pc := 25) (by decide) rfl hk7 dX12_carryRow_25 ?_
        obtain ⟨hk8, hr2⟩ := ck_elim hr2
        refine m_iast (pc := 26) (by decide) rfl hk8 dX12_carryRow_26 ?_
        refine lz_s (mW) hr2 (fun s9 hr2 => ?_)
        show Rn g mdX12_carryRow 27 [some (.ref 0), some (.ref 16), some (.int x2)] [] (mW s9) 0 0 r h2
        refine o_goto (pc := 27) 42 dX12_carryRow_27 rfl ?_
        obtain rfl := Option.some.inj hr2
        exact K3
set_option maxRecDepth 20000 in
theorem kX12_carryRow_16 {g : GX} {s : ST} {q : ST} (hf : fX12_carryRow_16 s = some q) : Cn g mdX12_carryRow [.ref 0, .ref 16] (mW s) none (mW q) := by
  refine Cn.of (by decide) (Nat.le_of_ble_eq_true rfl) ?_
  show Rn g mdX12_carryRow 0 [some (.ref 0), some (.ref 16), none] [] (mW s) 0 0 none (mW q)
  unfold fX12_carryRow_16 at hf
  refine o_iconst (pc := 0) (v := 0) dX12_carryRow_0 rfl ?_
  refine o_istore_n (pc := 1) dX12_carryRow_1 (by decide) rfl ?_
  show Rn g mdX12_carryRow 2 [some (.ref 0), some (.ref 16), some (.int 0)] [] (mW s) 0 0 none (mW q)
  obtain ⟨w12, hl13, hf⟩ := bd_elim hf
  have K14 : Rn g mdX12_carryRow 58 [none, none, none] [] (mW w12.2) 0 0 none (mW q) := by
    obtain rfl := Option.some.inj hf
    exact o_return (pc := 58) dX12_carryRow_58 rfl (Nat.zero_le _) (Nat.zero_le _)
  exact kX12_carryRow_16_L2 _ _ _ hl13 K14
def fX12_carryRow_17_L2 : Nat → Int32 → ST → Option (Int32 × ST)
  | 0, _, _ => none
  | n + 1, x2, s => if 8 ≤ x2 then some (x2, s) else (if (gi s 0 81) = 0 then ck (inb x2 8) (ck (inb (gi s 0 80) 6000) (lt (si s 54 (ix (gi s 0 80)) (gi s 17 (ix x2))) (fun s6 => some s6))) else ck (inb (gi s 0 80) 6000) (ck (inb x2 8) (lt (si s 17 (ix x2) (gi s 54 (ix (gi s 0 80)))) (fun s9 => some s9))) : Option (ST)).bind (fun w1 => lt (si w1 0 80 ((gi w1 0 80) + 1)) (fun s10 => lt (x2 + 1) (fun v11 => fX12_carryRow_17_L2 n v11 s10)))
def fX12_carryRow_17 (s : ST) : Option (ST) :=
  (fX12_carryRow_17_L2 FUEL 0 s).bind (fun w12 => some w12.2)
set_option maxRecDepth 20000 in
theorem kX12_carryRow_17_L2 {g : GX} {r : Option Value} {h2 : PH} : ∀ (n : Nat) (x2 : Int32) (s : ST) {w : Int32 × ST}, fX12_carryRow_17_L2 n x2 s = some w → Rn g mdX12_carryRow 58 [none, none, none] [] (mW w.2) 0 0 r h2 → Rn g mdX12_carryRow 2 [some (.ref 0), some (.ref 17), some (.int x2)] [] (mW s) 0 0 r h2 := by
  intro n
  induction n with
  | zero => intro x2 s w hf K; cases hf
  | succ n ih =>
    intro x2 s w hf K
    rw [fX12_carryRow_17_L2] at hf
    refine o_iload_n (pc := 2) dX12_carryRow_2 rfl ?_
    refine o_aload_n (pc := 3) dX12_carryRow_3 rfl ?_
    refine m_alen (pc := 4) 8 (by decide) (by decide) rfl rfl dX12_carryRow_4 ?_
    refine o_icmp_ge (pc := 5) 58 dX12_carryRow_5 rfl (fun hc => ?_) (fun hc => ?_)
    · have hf := it_t hf hc
      obtain rfl := Option.some.inj hf
      refine o_keep [false, false, false] ?_
      exact K
    · have hf := it_f hf hc
      refine o_aload_n (pc := 8) dX12_carryRow_8 rfl ?_
      refine m_getI (pc := 9) 81 (by decide) rfl lkX12_569 dX12_carryRow_9 ?_
      obtain ⟨w1, hr2, hf⟩ := bd_elim hf
      have K3 : Rn g mdX12_carryRow 42 [some (.ref 0), some (.ref 17), some (.int x2)] [] (mW w1) 0 0 r h2 := by
        refine o_aload_n (pc := 42) dX12_carryRow_42 rfl ?_
        refine o_dup (pc := 43) dX12_carryRow_43 rfl ?_
        refine m_getI (pc := 44) 80 (by decide) rfl lkX12_572 dX12_carryRow_44 ?_
        refine o_iconst (pc := 47) (v := 1) dX12_carryRow_47 rfl ?_
        refine o_iadd (pc := 48) dX12_carryRow_48 ?_
        refine m_putI (pc := 49) 80 (by decide) rfl rfl lkX12_572 ⟨rfl, rfl⟩ dX12_carryRow_49 ?_
        refine lz_s (mW) hf (fun s10 hf => ?_)
        show Rn g mdX12_carryRow 52 [some (.ref 0), some (.ref 17), some (.int x2)] [] (mW s10) 0 0 r h2
        refine o_iinc (pc := 52) dX12_carryRow_52 rfl (by decide) rfl ?_
        show Rn g mdX12_carryRow 55 [some (.ref 0), some (.ref 17), some (.int (x2 + 1))] [] (mW s10) 0 0 r h2
        obtain ⟨v11, ev11, hf⟩ := lt_elim hf
        rw [ev11]
        show Rn g mdX12_carryRow 55 [some (.ref 0), some (.ref 17), some (.int v11)] [] (mW s10) 0 0 r h2
        refine o_goto (pc := 55) 2 dX12_carryRow_55 rfl ?_
        exact ih _ _ hf K
      clear hf
      refine o_if_eq (pc := 12) 30 dX12_carryRow_12 rfl (fun hc => ?_) (fun hc => ?_)
      · have hr2 := it_t hr2 hc
        refine o_aload_n (pc := 30) dX12_carryRow_30 rfl ?_
        refine m_getA (pc := 31) 78 54 (by decide) rfl rfl lkX12_182 dX12_carryRow_31 ?_
        refine o_aload_n (pc := 34) dX12_carryRow_34 rfl ?_
        refine m_getI (pc := 35) 80 (by decide) rfl lkX12_572 dX12_carryRow_35 ?_
        refine o_aload_n (pc := 38) dX12_carryRow_38 rfl ?_
        refine o_iload_n (pc := 39) dX12_carryRow_39 rfl ?_
        obtain ⟨hk4, hr2⟩ := ck_elim hr2
        refine m_iald (pc := 40) (by decide) rfl hk4 dX12_carryRow_40 ?_
        obtain ⟨hk5, hr2⟩ := ck_elim hr2
        refine m_iast (pc := 41) (by decide) rfl hk5 dX12_carryRow_41 ?_
        refine lz_s (mW) hr2 (fun s6 hr2 => ?_)
        show Rn g mdX12_carryRow 42 [some (.ref 0), some (.ref 17), some (.int x2)] [] (mW s6) 0 0 r h2
        obtain rfl := Option.some.inj hr2
        exact K3
      · have hr2 := it_f hr2 hc
        refine o_aload_n (pc := 15) dX12_carryRow_15 rfl ?_
        refine o_iload_n (pc := 16) dX12_carryRow_16 rfl ?_
        refine o_aload_n (pc := 17) dX12_carryRow_17 rfl ?_
        refine m_getA (pc := 18) 78 54 (by decide) rfl rfl lkX12_182 dX12_carryRow_18 ?_
        refine o_aload_n (pc := 21) dX12_carryRow_21 rfl ?_
        refine m_getI (pc := 22) 80 (by decide) rfl lkX12_572 dX12_carryRow_22 ?_
        obtain ⟨hk7, hr2⟩ := ck_elim hr2
        refine m_iald (pc := 25) (by decide) rfl hk7 dX12_carryRow_25 ?_
        obtain ⟨hk8, hr2⟩ := ck_elim hr2
        refine m_iast (pc := 26) (by decide) rfl hk8 dX12_carryRow_26 ?_
        refine lz_s (mW) hr2 (fun s9 hr2 => ?_)
        show Rn g mdX12_carryRow 27 [some (.ref 0), some (.ref 17), some (.int x2)] [] (mW s9) 0 0 r h2
        refine o_goto (pc := 27) 42 dX12_carryRow_27 rfl ?_
        obtain rfl := Option.some.inj hr2
        exact K3
set_option maxRecDepth 20000 in
theorem kX12_carryRow_17 {g : GX} {s : ST} {q : ST} (hf : fX12_carryRow_17 s = some q) : Cn g mdX12_carryRow [.ref 0, .ref 17] (mW s) none (mW q) := by
  refine Cn.of (by decide) (Nat.le_of_ble_eq_true rfl) ?_
  show Rn g mdX12_carryRow 0 [some (.ref 0), some (.ref 17), none] [] (mW s) 0 0 none (mW q)
  unfold fX12_carryRow_17 at hf
  refine o_iconst (pc := 0) (v := 0) dX12_carryRow_0 rfl ?_
  refine o_istore_n (pc := 1) dX12_carryRow_1 (by decide) rfl ?_
  show Rn g mdX12_carryRow 2 [some (.ref 0), some (.ref 17), some (.int 0)] [] (mW s) 0 0 none (mW q)
  obtain ⟨w12, hl13, hf⟩ := bd_elim hf
  have K14 : Rn g mdX12_carryRow 58 [none, none, none] [] (mW w12.2) 0 0 none (mW q) := by
    obtain rfl := Option.some.inj hf
    exact o_return (pc := 58) dX12_carryRow_58 rfl (Nat.zero_le _) (Nat.zero_le _)
  exact kX12_carryRow_17_L2 _ _ _ hl13 K14
def fX12_carryRow_18_L2 : Nat → Int32 → ST → Option (Int32 × ST)
  | 0, _, _ => none
  | n + 1, x2, s => if 1 ≤ x2 then some (x2, s) else (if (gi s 0 81) = 0 then ck (inb x2 1) (ck (inb (gi s 0 80) 6000) (lt (si s 54 (ix (gi s 0 80)) (gi s 18 (ix x2))) (fun s6 => some s6))) else ck (inb (gi s 0 80) 6000) (ck (inb x2 1) (lt (si s 18 (ix x2) (gi s 54 (ix (gi s 0 80)))) (fun s9 => some s9))) : Option (ST)).bind (fun w1 => lt (si w1 0 80 ((gi w1 0 80) + 1)) (fun s10 => lt (x2 + 1) (fun v11 => fX12_carryRow_18_L2 n v11 s10)))
def fX12_carryRow_18 (s : ST) : Option (ST) :=
  (fX12_carryRow_18_L2 FUEL 0 s).bind (fun w12 => some w12.2)
set_option maxRecDepth 20000 in
theorem kX12_carryRow_18_L2 {g : GX} {r : Option Value} {h2 : PH} : ∀ (n : Nat) (x2 : Int32) (s : ST) {w : Int32 × ST}, fX12_carryRow_18_L2 n x2 s = some w → Rn g mdX12_carryRow 58 [none, none, none] [] (mW w.2) 0 0 r h2 → Rn g mdX12_carryRow 2 [some (.ref 0), some (.ref 18), some (.int x2)] [] (mW s) 0 0 r h2 := by
  intro n
  induction n with
  | zero => intro x2 s w hf K; cases hf
  | succ n ih =>
    intro x2 s w hf K
    rw [fX12_carryRow_18_L2] at hf
    refine o_iload_n (pc := 2) dX12_carryRow_2 rfl ?_
    refine o_aload_n (pc := 3) dX12_carryRow_3 rfl ?_
    refine m_alen (pc := 4) 1 (by decide) (by decide) rfl rfl dX12_carryRow_4 ?_
    refine o_icmp_ge (pc := 5) 58 dX12_carryRow_5 rfl (fun hc => ?_) (fun hc => ?_)
    · have hf := it_t hf hc
      obtain rfl := Option.some.inj hf
      refine o_keep [false, false, false] ?_
      exact K
    · have hf := it_f hf hc
      refine o_aload_n (pc := 8) dX12_carryRow_8 rfl ?_
      refine m_getI (pc := 9) 81 (by decide) rfl lkX12_569 dX12_carryRow_9 ?_
      obtain ⟨w1, hr2, hf⟩ := bd_elim hf
      have K3 : Rn g mdX12_carryRow 42 [some (.ref 0), some (.ref 18), some (.int x2)] [] (mW w1) 0 0 r h2 := by
        refine o_aload_n (pc := 42) dX12_carryRow_42 rfl ?_
        refine o_dup (pc := 43) dX12_carryRow_43 rfl ?_
        refine m_getI (pc := 44) 80 (by decide) rfl lkX12_572 dX12_carryRow_44 ?_
        refine o_iconst (pc := 47) (v := 1) dX12_carryRow_47 rfl ?_
        refine o_iadd (pc := 48) dX12_carryRow_48 ?_
        refine m_putI (pc := 49) 80 (by decide) rfl rfl lkX12_572 ⟨rfl, rfl⟩ dX12_carryRow_49 ?_
        refine lz_s (mW) hf (fun s10 hf => ?_)
        show Rn g mdX12_carryRow 52 [some (.ref 0), some (.ref 18), some (.int x2)] [] (mW s10) 0 0 r h2
        refine o_iinc (pc := 52) dX12_carryRow_52 rfl (by decide) rfl ?_
        show Rn g mdX12_carryRow 55 [some (.ref 0), some (.ref 18), some (.int (x2 + 1))] [] (mW s10) 0 0 r h2
        obtain ⟨v11, ev11, hf⟩ := lt_elim hf
        rw [ev11]
        show Rn g mdX12_carryRow 55 [some (.ref 0), some (.ref 18), some (.int v11)] [] (mW s10) 0 0 r h2
        refine o_goto (pc := 55) 2 dX12_carryRow_55 rfl ?_
        exact ih _ _ hf K
      clear hf
      refine o_if_eq (pc := 12) 30 dX12_carryRow_12 rfl (fun hc => ?_) (fun hc => ?_)
      · have hr2 := it_t hr2 hc
        refine o_aload_n (pc := 30) dX12_carryRow_30 rfl ?_
        refine m_getA (pc := 31) 78 54 (by decide) rfl rfl lkX12_182 dX12_carryRow_31 ?_
        refine o_aload_n (pc := 34) dX12_carryRow_34 rfl ?_
        refine m_getI (pc := 35) 80 (by decide) rfl lkX12_572 dX12_carryRow_35 ?_
        refine o_aload_n (pc := 38) dX12_carryRow_38 rfl ?_
        refine o_iload_n (pc := 39) dX12_carryRow_39 rfl ?_
        obtain ⟨hk4, hr2⟩ := ck_elim hr2
        refine m_iald (pc := 40) (by decide) rfl hk4 dX12_carryRow_40 ?_
        obtain ⟨hk5, hr2⟩ := ck_elim hr2
        refine m_iast (pc := 41) (by decide) rfl hk5 dX12_carryRow_41 ?_
        refine lz_s (mW) hr2 (fun s6 hr2 => ?_)
        show Rn g mdX12_carryRow 42 [some (.ref 0), some (.ref 18), some (.int x2)] [] (mW s6) 0 0 r h2
        obtain rfl := Option.some.inj hr2
        exact K3
      · have hr2 := it_f hr2 hc
        refine o_aload_n (pc := 15) dX12_carryRow_15 rfl ?_
        refine o_iload_n (pc := 16) dX12_carryRow_16 rfl ?_
        refine o_aload_n (pc := 17) dX12_carryRow_17 rfl ?_
        refine m_getA (pc := 18) 78 54 (by decide) rfl rfl lkX12_182 dX12_carryRow_18 ?_
        refine o_aload_n (pc := 21) dX12_carryRow_21 rfl ?_
        refine m_getI (pc := 22) 80 (by decide) rfl lkX12_572 dX12_carryRow_22 ?_
        obtain ⟨hk7, hr2⟩ := ck_elim hr2
        refine m_iald (pc := 25) (by decide) rfl hk7 dX12_carryRow_25 ?_
        obtain ⟨hk8, hr2⟩ := ck_elim hr2
        refine m_iast (pc := 26) (by decide) rfl hk8 dX12_carryRow_26 ?_
        refine lz_s (mW) hr2 (fun s9 hr2 => ?_)
        show Rn g mdX12_carryRow 27 [some (.ref 0), some (.ref 18), some (.int x2)] [] (mW s9) 0 0 r h2
        refine o_goto (pc := 27) 42 dX12_carryRow_27 rfl ?_
        obtain rfl := Option.some.inj hr2
        exact K3
set_option maxRecDepth 20000 in
theorem kX12_carryRow_18 {g : GX} {s : ST} {q : ST} (hf : fX12_carryRow_18 s = some q) : Cn g mdX12_carryRow [.ref 0, .ref 18] (mW s) none (mW q) := by
  refine Cn.of (by decide) (Nat.le_of_ble_eq_true rfl) ?_
  show Rn g mdX12_carryRow 0 [some (.ref 0), some (.ref 18), none] [] (mW s) 0 0 none (mW q)
  unfold fX12_carryRow_18 at hf
  refine o_iconst (pc := 0) (v := 0) dX12_carryRow_0 rfl ?_
  refine o_istore_n (pc := 1) dX12_carryRow_1 (by decide) rfl ?_
  show Rn g mdX12_carryRow 2 [some (.ref 0), some (.ref 18), some (.int 0)] [] (mW s) 0 0 none (mW q)
  obtain ⟨w12, hl13, hf⟩ := bd_elim hf
  have K14 : Rn g mdX12_carryRow 58 [none, none, none] [] (mW w12.2) 0 0 none (mW q) := by
    obtain rfl := Option.some.inj hf
    exact o_return (pc := 58) dX12_carryRow_58 rfl (Nat.zero_le _) (Nat.zero_le _)
  exact kX12_carryRow_18_L2 _ _ _ hl13 K14
def fX12_carryRow_46_L2 : Nat → Int32 → ST → Option (Int32 × ST)
  | 0, _, _ => none
  | n + 1, x2, s => if 920 ≤ x2 then some (x2, s) else (if (gi s 0 81) = 0 then ck (inb x2 920) (ck (inb (gi s 0 80) 6000) (lt (si s 54 (ix (gi s 0 80)) (gi s 46 (ix x2))) (fun s6 => some s6))) else ck (inb (gi s 0 80) 6000) (ck (inb x2 920) (lt (si s 46 (ix x2) (gi s 54 (ix (gi s 0 80)))) (fun s9 => some s9))) : Option (ST)).bind (fun w1 => lt (si w1 0 80 ((gi w1 0 80) + 1)) (fun s10 => lt (x2 + 1) (fun v11 => fX12_carryRow_46_L2 n v11 s10)))
def fX12_carryRow_46 (s : ST) : Option (ST) :=
  (fX12_carryRow_46_L2 FUEL 0 s).bind (fun w12 => some w12.2)
set_option maxRecDepth 20000 in
theorem kX12_carryRow_46_L2 {g : GX} {r : Option Value} {h2 : PH} : ∀ (n : Nat) (x2 : Int32) (s : ST) {w : Int32 × ST}, fX12_carryRow_46_L2 n x2 s = some w → Rn g mdX12_carryRow 58 [none, none, none] [] (mW w.2) 0 0 r h2 → Rn g mdX12_carryRow 2 [some (.ref 0), some (.ref 46), some (.int x2)] [] (mW s) 0 0 r h2 := by
  intro n
  induction n with
  | zero => intro x2 s w hf K; cases hf
  | succ n ih =>
    intro x2 s w hf K
    rw [fX12_carryRow_46_L2] at hf
    refine o_iload_n (pc := 2) dX12_carryRow_2 rfl ?_
    refine o_aload_n (pc := 3) dX12_carryRow_3 rfl ?_
    refine m_alen (pc := 4) 920 (by decide) (by decide) rfl rfl dX12_carryRow_4 ?_
    refine o_icmp_ge (pc := 5) 58 dX12_carryRow_5 rfl (fun hc => ?_) (fun hc => ?_)
    · have hf := it_t hf hc
      obtain rfl := Option.some.inj hf
      refine o_keep [false, false, false] ?_
      exact K
    · have hf := it_f hf hc
      refine o_aload_n (pc := 8) dX12_carryRow_8 rfl ?_
      refine m_getI (pc := 9) 81 (by decide) rfl lkX12_569 dX12_carryRow_9 ?_
      obtain ⟨w1, hr2, hf⟩ := bd_elim hf
      have K3 : Rn g mdX12_carryRow 42 [some (.ref 0), some (.ref 46), some (.int x2)] [] (mW w1) 0 0 r h2 := by
        refine o_aload_n (pc := 42) dX12_carryRow_42 rfl ?_
        refine o_dup (pc := 43) dX12_carryRow_43 rfl ?_
        refine m_getI (pc := 44) 80 (by decide) rfl lkX12_572 dX12_carryRow_44 ?_
        refine o_iconst (pc := 47) (v := 1) dX12_carryRow_47 rfl ?_
        refine o_iadd (pc := 48) dX12_carryRow_48 ?_
        refine m_putI (pc := 49) 80 (by decide) rfl rfl lkX12_572 ⟨rfl, rfl⟩ dX12_carryRow_49 ?_
        refine lz_s (mW) hf (fun s10 hf => ?_)
        show Rn g mdX12_carryRow 52 [some (.ref 0), some (.ref 46), some (.int x2)] [] (mW s10) 0 0 r h2
        refine o_iinc (pc := 52) dX12_carryRow_52 rfl (by decide) rfl ?_
        show Rn g mdX12_carryRow 55 [some (.ref 0), some (.ref 46), some (.int (x2 + 1))] [] (mW s10) 0 0 r h2
        obtain ⟨v11, ev11, hf⟩ := lt_elim hf
        rw [ev11]
        show Rn g mdX12_carryRow 55 [some (.ref 0), some (.ref 46), some (.int v11)] [] (mW s10) 0 0 r h2
        refine o_goto (pc := 55) 2 dX12_carryRow_55 rfl ?_
        exact ih _ _ hf K
      clear hf
      refine o_if_eq (pc := 12) 30 dX12_carryRow_12 rfl (fun hc => ?_) (fun hc => ?_)
      · have hr2 := it_t hr2 hc
        refine o_aload_n (pc := 30) dX12_carryRow_30 rfl ?_
        refine m_getA (pc := 31) 78 54 (by decide) rfl rfl lkX12_182 dX12_carryRow_31 ?_
        refine o_aload_n (pc := 34) dX12_carryRow_34 rfl ?_
        refine m_getI (pc := 35) 80 (by decide) rfl lkX12_572 dX12_carryRow_35 ?_
        refine o_aload_n (pc := 38) dX12_carryRow_38 rfl ?_
        refine o_iload_n (pc := 39) dX12_carryRow_39 rfl ?_
        obtain ⟨hk4, hr2⟩ := ck_elim hr2
        refine m_iald (pc := 40) (by decide) rfl hk4 dX12_carryRow_40 ?_
        obtain ⟨hk5, hr2⟩ := ck_elim hr2
        refine m_iast (pc := 41) (by decide) rfl hk5 dX12_carryRow_41 ?_
        refine lz_s (mW) hr2 (fun s6 hr2 => ?_)
        show Rn g mdX12_carryRow 42 [some (.ref 0), some (.ref 46), some (.int x2)] [] (mW s6) 0 0 r h2
        obtain rfl := Option.some.inj hr2
        exact K3
      · have hr2 := it_f hr2 hc
        refine o_aload_n (pc := 15) dX12_carryRow_15 rfl ?_
        refine o_iload_n (pc := 16) dX12_carryRow_16 rfl ?_
        refine o_aload_n (pc := 17) dX12_carryRow_17 rfl ?_
        refine m_getA (pc := 18) 78 54 (by decide) rfl rfl lkX12_182 dX12_carryRow_18 ?_
        refine o_aload_n (pc := 21) dX12_carryRow_21 rfl ?_
        refine m_getI (pc := 22) 80 (by decide) rfl lkX12_572 dX12_carryRow_22 ?_
        obtain ⟨hk7, hr2⟩ := ck_elim hr2
        refine m_iald (pc := 25) (by decide) rfl hk7 dX12_carryRow_25 ?_
        obtain ⟨hk8, hr2⟩ := ck_elim hr2
        refine m_iast (pc := 26) (by decide) rfl hk8 dX12_carryRow_26 ?_
        refine lz_s (mW) hr2 (fun s9 hr2 => ?_)
        show Rn g mdX12_carryRow 27 [some (.ref 0), some (.ref 46), some (.int x2)] [] (mW s9) 0 0 r h2
        refine o_goto (pc := 27) 42 dX12_carryRow_27 rfl ?_
        obtain rfl := Option.some.inj hr2
        exact K3
set_option maxRecDepth 20000 in
theorem kX12_carryRow_46 {g : GX} {s : ST} {q : ST} (hf : fX12_carryRow_46 s = some q) : Cn g mdX12_carryRow [.ref 0, .ref 46] (mW s) none (mW q) := by
  refine Cn.of (by decide) (Nat.le_of_ble_eq_true rfl) ?_
  show Rn g mdX12_carryRow 0 [some (.ref 0), some (.ref 46), none] [] (mW s) 0 0 none (mW q)
  unfold fX12_carryRow_46 at hf
  refine o_iconst (pc := 0) (v := 0) dX12_carryRow_0 rfl ?_
  refine o_istore_n (pc := 1) dX12_carryRow_1 (by decide) rfl ?_
  show Rn g mdX12_carryRow 2 [some (.ref 0), some (.ref 46), some (.int 0)] [] (mW s) 0 0 none (mW q)
  obtain ⟨w12, hl13, hf⟩ := bd_elim hf
  have K14 : Rn g mdX12_carryRow 58 [none, none, none] [] (mW w12.2) 0 0 none (mW q) := by
    obtain rfl := Option.some.inj hf
    exact o_return (pc := 58) dX12_carryRow_58 rfl (Nat.zero_le _) (Nat.zero_le _)
  exact kX12_carryRow_46_L2 _ _ _ hl13 K14
def fX12_carryRow_47_L2 : Nat → Int32 → ST → Option (Int32 × ST)
  | 0, _, _ => none
  | n + 1, x2, s => if 1 ≤ x2 then some (x2, s) else (if (gi s 0 81) = 0 then ck (inb x2 1) (ck (inb (gi s 0 80) 6000) (lt (si s 54 (ix (gi s 0 80)) (gi s 47 (ix x2))) (fun s6 => some s6))) else ck (inb (gi s 0 80) 6000) (ck (inb x2 1) (lt (si s 47 (ix x2) (gi s 54 (ix (gi s 0 80)))) (fun s9 => some s9))) : Option (ST)).bind (fun w1 => lt (si w1 0 80 ((gi w1 0 80) + 1)) (fun s10 => lt (x2 + 1) (fun v11 => fX12_carryRow_47_L2 n v11 s10)))
def fX12_carryRow_47 (s : ST) : Option (ST) :=
  (fX12_carryRow_47_L2 FUEL 0 s).bind (fun w12 => some w12.2)
set_option maxRecDepth 20000 in
theorem kX12_carryRow_47_L2 {g : GX} {r : Option Value} {h2 : PH} : ∀ (n : Nat) (x2 : Int32) (s : ST) {w : Int32 × ST}, fX12_carryRow_47_L2 n x2 s = some w → Rn g mdX12_carryRow 58 [none, none, none] [] (mW w.2) 0 0 r h2 → Rn g mdX12_carryRow 2 [some (.ref 0), some (.ref 47), some (.int x2)] [] (mW s) 0 0 r h2 := by
  intro n
  induction n with
  | zero => intro x2 s w hf K; cases hf
  | succ n ih =>
    intro x2 s w hf K
    rw [fX12_carryRow_47_L2] at hf
    refine o_iload_n (pc := 2) dX12_carryRow_2 rfl ?_
    refine o_aload_n (pc := 3) dX12_carryRow_3 rfl ?_
    refine m_alen (pc := 4) 1 (by decide) (by decide) rfl rfl dX12_carryRow_4 ?_
    refine o_icmp_ge (pc := 5) 58 dX12_carryRow_5 rfl (fun hc => ?_) (fun hc => ?_)
    · have hf := it_t hf hc
      obtain rfl := Option.some.inj hf
      refine o_keep [false, false, false] ?_
      exact K
    · have hf := it_f hf hc
      refine o_aload_n (pc := 8) dX12_carryRow_8 rfl ?_
      refine m_getI (pc := 9) 81 (by decide) rfl lkX12_569 dX12_carryRow_9 ?_
      obtain ⟨w1, hr2, hf⟩ := bd_elim hf
      have K3 : Rn g mdX12_carryRow 42 [some (.ref 0), some (.ref 47), some (.int x2)] [] (mW w1) 0 0 r h2 := by
        refine o_aload_n (pc := 42) dX12_carryRow_42 rfl ?_
        refine o_dup (pc := 43) dX12_carryRow_43 rfl ?_
        refine m_getI (pc := 44) 80 (by decide) rfl lkX12_572 dX12_carryRow_44 ?_
        refine o_iconst (pc := 47) (v := 1) dX12_carryRow_47 rfl ?_
        refine o_iadd (pc := 48) dX12_carryRow_48 ?_
        refine m_putI (pc := 49) 80 (by decide) rfl rfl lkX12_572 ⟨rfl, rfl⟩ dX12_carryRow_49 ?_
        refine lz_s (mW) hf (fun s10 hf => ?_)
        show Rn g mdX12_carryRow 52 [some (.ref 0), some (.ref 47), some (.int x2)] [] (mW s10) 0 0 r h2
        refine o_iinc (pc := 52) dX12_carryRow_52 rfl (by decide) rfl ?_
        show Rn g mdX12_carryRow 55 [some (.ref 0), some (.ref 47), some (.int (x2 + 1))] [] (mW s10) 0 0 r h2
        obtain ⟨v11, ev11, hf⟩ := lt_elim hf
        rw [ev11]
        show Rn g mdX12_carryRow 55 [some (.ref 0), some (.ref 47), some (.int v11)] [] (mW s10) 0 0 r h2
        refine o_goto (pc := 55) 2 dX12_carryRow_55 rfl ?_
        exact ih _ _ hf K
      clear hf
      refine o_if_eq (pc := 12) 30 dX12_carryRow_12 rfl (fun hc => ?_) (fun hc => ?_)
      · have hr2 := it_t hr2 hc
        refine o_aload_n (pc := 30) dX12_carryRow_30 rfl ?_
        refine m_getA (pc := 31) 78 54 (by decide) rfl rfl lkX12_182 dX12_carryRow_31 ?_
        refine o_aload_n (pc := 34) dX12_carryRow_34 rfl ?_
        refine m_getI (pc := 35) 80 (by decide) rfl lkX12_572 dX12_carryRow_35 ?_
        refine o_aload_n (pc := 38) dX12_carryRow_38 rfl ?_
        refine o_iload_n (pc := 39) dX12_carryRow_39 rfl ?_
        obtain ⟨hk4, hr2⟩ := ck_elim hr2
        refine m_iald (pc := 40) (by decide) rfl hk4 dX12_carryRow_40 ?_
        obtain ⟨hk5, hr2⟩ := ck_elim hr2
        refine m_iast (pc := 41) (by decide) rfl hk5 dX12_carryRow_41 ?_
        refine lz_s (mW) hr2 (fun s6 hr2 => ?_)
        show Rn g mdX12_carryRow 42 [some (.ref 0), some (.ref 47), some (.int x2)] [] (mW s6) 0 0 r h2
        obtain rfl := Option.some.inj hr2
        exact K3
      · have hr2 := it_f hr2 hc
        refine o_aload_n (pc := 15) dX12_carryRow_15 rfl ?_
        refine o_iload_n (pc := 16) dX12_carryRow_16 rfl ?_
        refine o_aload_n (pc := 17) dX12_carryRow_17 rfl ?_
        refine m_getA (pc := 18) 78 54 (by decide) rfl rfl lkX12_182 dX12_carryRow_18 ?_
        refine o_aload_n (pc := 21) dX12_carryRow_21 rfl ?_
        refine m_getI (pc := 22) 80 (by decide) rfl lkX12_572 dX12_carryRow_22 ?_
        obtain ⟨hk7, hr2⟩ := ck_elim hr2
        refine m_iald (pc := 25) (by decide) rfl hk7 dX12_carryRow_25 ?_
        obtain ⟨hk8, hr2⟩ := ck_elim hr2
        refine m_iast (pc := 26) (by decide) rfl hk8 dX12_carryRow_26 ?_
        refine lz_s (mW) hr2 (fun s9 hr2 => ?_)
        show Rn g mdX12_carryRow 27 [some (.ref 0), some (.ref 47), some (.int x2)] [] (mW s9) 0 0 r h2
        refine o_goto (pc := 27) 42 dX12_carryRow_27 rfl ?_
        obtain rfl := Option.some.inj hr2
        exact K3
set_option maxRecDepth 20000 in
theorem kX12_carryRow_47 {g : GX} {s : ST} {q : ST} (hf : fX12_carryRow_47 s = some q) : Cn g mdX12_carryRow [.ref 0, .ref 47] (mW s) none (mW q) := by
  refine Cn.of (by decide) (Nat.le_of_ble_eq_true rfl) ?_
  show Rn g mdX12_carryRow 0 [some (.ref 0), some (.ref 47), none] [] (mW s) 0 0 none (mW q)
  unfold fX12_carryRow_47 at hf
  refine o_iconst (pc := 0) (v := 0) dX12_carryRow_0 rfl ?_
  refine o_istore_n (pc := 1) dX12_carryRow_1 (by decide) rfl ?_
  show Rn g mdX12_carryRow 2 [some (.ref 0), some (.ref 47), some (.int 0)] [] (mW s) 0 0 none (mW q)
  obtain ⟨w12, hl13, hf⟩ := bd_elim hf
  have K14 : Rn g mdX12_carryRow 58 [none, none, none] [] (mW w12.2) 0 0 none (mW q) := by
    obtain rfl := Option.some.inj hf
    exact o_return (pc := 58) dX12_carryRow_58 rfl (Nat.zero_le _) (Nat.zero_le _)
  exact kX12_carryRow_47_L2 _ _ _ hl13 K14
def fX12_carriesAll (p0 : Int32) (p1 : Int32) (s : ST) : Option (ST) :=
  lt (si s 0 80 (1200 * p0)) (fun s1 => ck (bz p1) (lt (si s1 0 81 p1) (fun s3 => (fX12_carryRow_1 s3).bind (fun q5 => (fX12_carryRow_3 q5).bind (fun q7 => (fX12_carryRow_4 q7).bind (fun q9 => (fX12_carryRow_5 q9).bind (fun q11 => (fX12_carryRow_6 q11).bind (fun q13 => (fX12_carryRow_9 q13).bind (fun q15 => (fX12_carryRow_11 q15).bind (fun q17 => (fX12_carryRow_12 q17).bind (fun q19 => if p0 = 4 then some q19 else ck (inb 0 1) (lt (si q19 47 (ix 0) (gi q19 0 66)) (fun s21 => (fX12_carryRow_47 s21).bind (fun q23 => ck (inb 0 1) (lt (si q23 0 66 (gi q23 47 (ix 0))) (fun s25 => (fX12_carryRow_2 s25).bind (fun q27 => (fX12_carryRow_7 q27).bind (fun q29 => (fX12_carryRow_8 q29).bind (fun q31 => (fX12_carryRow_10 q31).bind (fun q33 => (fX12_carryRow_13 q33).bind (fun q35 => (fX12_carryRow_14 q35).bind (fun q37 => (fX12_carryRow_15 q37).bind (fun q39 => (fX12_carryRow_16 q39).bind (fun q41 => (fX12_carryRow_17 q41).bind (fun q43 => (fX12_carryRow_18 q43).bind (fun q45 => (fX12_carryRow_46 q45).bind (fun q47 => some q47)))))))))))))))))))))))))))
set_option maxRecDepth 20000 in
theorem kX12_carriesAll {g : GX} {p0 : Int32} {p1 : Int32} {s : ST} {q : ST} (hf : fX12_carriesAll p0 p1 s = some q) : Cn g mdX12_carriesAll [.ref 0, .int p0, .int p1] (mW s) none (mW q) := by
  refine Cn.of (by decide) (Nat.le_of_ble_eq_true rfl) ?_
  show Rn g mdX12_carriesAll 0 [some (.ref 0), some (.int p0), some (.int p1)] [] (mW s) 0 0 none (mW q)
  unfold fX12_carriesAll at hf
  refine o_aload_n (pc := 0) dX12_carriesAll_0 rfl ?_
  refine o_sipush (pc := 1) (v := 1200) dX12_carriesAll_1 rfl ?_
  refine o_iload_n (pc := 4) dX12_carriesAll_4 rfl ?_
  refine o_imul (pc := 5) dX12_carriesAll_5 ?_
  refine m_putI (pc := 6) 80 (by decide) rfl rfl lkX12_572 ⟨rfl, rfl⟩ dX12_carriesAll_6 ?_
  refine lz_s (mW) hf (fun s1 hf => ?_)
  show Rn g mdX12_carriesAll 9 [some (.ref 0), some (.int p0), some (.int p1)] [] (mW s1) 0 0 none (mW q)
  refine o_aload_n (pc := 9) dX12_carriesAll_9 rfl ?_
  refine o_iload_n (pc := 10) dX12_carriesAll_10 rfl ?_
  obtain ⟨hk2, hf⟩ := ck_elim hf
  refine m_putI (pc := 11) 81 (by decide) rfl rfl lkX12_569 (bz_n hk2) dX12_carriesAll_11 ?_
  refine lz_s (mW) hf (fun s3 hf => ?_)
  show Rn g mdX12_carriesAll 14 [some (.ref 0), some (.int p0), some (.int p1)] [] (mW s3) 0 0 none (mW q)
  refine o_aload_n (pc := 14) dX12_carriesAll_14 rfl ?_
  refine o_aload_n (pc := 15) dX12_carriesAll_15 rfl ?_
  refine m_getA (pc := 16) 1 1 (by decide) rfl rfl lkX12_9 dX12_carriesAll_16 ?_
  obtain ⟨q5, hk4, hf⟩ := bd_elim hf
  refine m_callV (pc := 19) [.ref 1] dX12_carriesAll_19 (kX12_carryRow_1 hk4) stX12_575 ⟨by decide, by decide, by decide, by decide⟩ ⟨rfl, rfl⟩ (Nat.le_of_ble_eq_true rfl) ?_
  show Rn g mdX12_carriesAll 22 [some (.ref 0), some (.int p0), some (.int p1)] [] (mW q5) 0 0 none (mW q)
  refine o_aload_n (pc := 22) dX12_carriesAll_22 rfl ?_
  refine o_aload_n (pc := 23) dX12_carriesAll_23 rfl ?_
  refine m_getA (pc := 24) 3 3 (by decide) rfl rfl lkX12_16 dX12_carriesAll_24 ?_
  obtain ⟨q7, hk6, hf⟩ := bd_elim hf
  refine m_callV (pc := 27) [.ref 3] dX12_carriesAll_27 (kX12_carryRow_3 hk6) stX12_575 ⟨by decide, by decide, by decide, by decide⟩ ⟨rfl, rfl⟩ (Nat.le_of_ble_eq_true rfl) ?_
  show Rn g mdX12_carriesAll 30 [some (.ref 0), some (.int p0), some (.int p1)] [] (mW q7) 0 0 none (mW q)
  refine o_aload_n (pc := 30) dX12_carriesAll_30 rfl ?_
  refine o_aload_n (pc := 31) dX12_carriesAll_31 rfl ?_
  refine m_getA (pc := 32) 4 4 (by decide) rfl rfl lkX12_19 dX12_carriesAll_32 ?_
  obtain ⟨q9, hk8, hf⟩ := bd_elim hf
  refine m_callV (pc := 35) [.ref 4] dX12_carriesAll_35 (kX12_carryRow_4 hk8) stX12_575 ⟨by decide, by decide, by decide, by decide⟩ ⟨rfl, rfl⟩ (Nat.le_of_ble_eq_true rfl) ?_
  show Rn g mdX12_carriesAll 38 [some (.ref 0), some (.int p0), some (.int p1)] [] (mW q9) 0 0 none (mW q)
  refine o_aload_n (pc := 38) dX12_carriesAll_38 rfl ?_
  refine o_aload_n (pc := 39) dX12_carriesAll_39 rfl ?_
  refine m_getA (pc := 40) 5 5 (by decide) rfl rfl lkX12_22 dX12_carriesAll_40 ?_
  obtain ⟨q11, hk10, hf⟩ := bd_elim hf
  refine m_callV (pc := 43) [.ref 5] dX12_carriesAll_43 (kX12_carryRow_5 hk10) stX12_575 ⟨by decide, by decide, by decide, by decide⟩ ⟨rfl, rfl⟩ (Nat.le_of_ble_eq_true rfl) ?_
  show Rn g mdX12_carriesAll 46 [some (.ref 0), some (.int p0), some (.int p1)] [] (mW q11) 0 0 none (mW q)
  refine o_aload_n (pc := 46) dX12_carriesAll_46 rfl ?_
  refine o_aload_n (pc := 47) dX12_carriesAll_47 rfl ?_
  refine m_getA (pc := 48) 6 6 (by decide) rfl rfl lkX12_25 dX12_carriesAll_48 ?_
  obtain ⟨q13, hk12, hf⟩ := bd_elim hf
  refine m_callV (pc := 51) [.ref 6] dX12_carriesAll_51 (kX12_carryRow_6 hk12) stX12_575 ⟨by decide, by decide, by decide, by decide⟩ ⟨rfl, rfl⟩ (Nat.le_of_ble_eq_true rfl) ?_
  show Rn g mdX12_carriesAll 54 [some (.ref 0), some (.int p0), some (.int p1)] [] (mW q13) 0 0 none (mW q)
  refine o_aload_n (pc := 54) dX12_carriesAll_54 rfl ?_
  refine o_aload_n (pc := 55) dX12_carriesAll_55 rfl ?_
  refine m_getA (pc := 56) 9 9 (by decide) rfl rfl lkX12_34 dX12_carriesAll_56 ?_
  obtain ⟨q15, hk14, hf⟩ := bd_elim hf
  refine m_callV (pc := 59) [.ref 9] dX12_carriesAll_59 (kX12_carryRow_9 hk14) stX12_575 ⟨by decide, by decide, by decide, by decide⟩ ⟨rfl, rfl⟩ (Nat.le_of_ble_eq_true rfl) ?_
  show Rn g mdX12_carriesAll 62 [some (.ref 0), some (.int p0), some (.int p1)] [] (mW q15) 0 0 none (mW q)
  refine o_aload_n (pc := 62) dX12_carriesAll_62 rfl ?_
  refine o_aload_n (pc := 63) dX12_carriesAll_63 rfl ?_
  refine m_getA (pc := 64) 11 11 (by decide) rfl rfl lkX12_40 dX12_carriesAll_64 ?_
  obtain ⟨q17, hk16, hf⟩ := bd_elim hf
  refine m_callV (pc := 67) [.ref 11] dX12_carriesAll_67 (kX12_carryRow_11 hk16) stX12_575 ⟨by decide, by decide, by decide, by decide⟩ ⟨rfl, rfl⟩ (Nat.le_of_ble_eq_true rfl) ?_
  show Rn g mdX12_carriesAll 70 [some (.ref 0), some (.int p0), some (.int p1)] [] (mW q17) 0 0 none (mW q)
  refine o_aload_n (pc := 70) dX12_carriesAll_70 rfl ?_
  refine o_aload_n (pc := 71) dX12_carriesAll_71 rfl ?_
  refine m_getA (pc := 72) 12 12 (by decide) rfl rfl lkX12_43 dX12_carriesAll_72 ?_
  obtain ⟨q19, hk18, hf⟩ := bd_elim hf
  refine m_callV (pc := 75) [.ref 12] dX12_carriesAll_75 (kX12_carryRow_12 hk18) stX12_575 ⟨by decide, by decide, by decide, by decide⟩ ⟨rfl, rfl⟩ (Nat.le_of_ble_eq_true rfl) ?_
  show Rn g mdX12_carriesAll 78 [some (.ref 0), some (.int p0), some (.int p1)] [] (mW q19) 0 0 none (mW q)
  refine o_iload_n (pc := 78) dX12_carriesAll_78 rfl ?_
  refine o_iconst (pc := 79) (v := 4) dX12_carriesAll_79 rfl ?_
  refine o_icmp_ne (pc := 80) 84 dX12_carriesAll_80 rfl (fun hc => ?_) (fun hc => ?_)
  · have hf := it_f hf hc
    refine o_aload_n (pc := 84) dX12_carriesAll_84 rfl ?_
    refine m_getA (pc := 85) 65 47 (by decide) rfl rfl lkX12_160 dX12_carriesAll_85 ?_
    refine o_iconst (pc := 88) (v := 0) dX12_carriesAll_88 rfl ?_
    refine o_aload_n (pc := 89) dX12_carriesAll_89 rfl ?_
    refine m_getI (pc := 90) 66 (by decide) rfl lkX12_366 dX12_carriesAll_90 ?_
    obtain ⟨hk20, hf⟩ := ck_elim hf
    refine m_iast (pc := 93) (by decide) rfl hk20 dX12_carriesAll_93 ?_
    refine lz_s (mW) hf (fun s21 hf => ?_)
    show Rn g mdX12_carriesAll 94 [some (.ref 0), some (.int p0), some (.int p1)] [] (mW s21) 0 0 none (mW q)
    refine o_aload_n (pc := 94) dX12_carriesAll_94 rfl ?_
    refine o_aload_n (pc := 95) dX12_carriesAll_95 rfl ?_
    refine m_getA (pc := 96) 65 47 (by decide) rfl rfl lkX12_160 dX12_carriesAll_96 ?_
    obtain ⟨q23, hk22, hf⟩ := bd_elim hf
    refine m_callV (pc := 99) [.ref 47] dX12_carriesAll_99 (kX12_carryRow_47 hk22) stX12_575 ⟨by decide, by decide, by decide, by decide⟩ ⟨rfl, rfl⟩ (Nat.le_of_ble_eq_true rfl) ?_
    show Rn g mdX12_carriesAll 102 [some (.ref 0), some (.int p0), some (.int p1)] [] (mW q23) 0 0 none (mW q)
    refine o_aload_n (pc := 102) dX12_carriesAll_102 rfl ?_
    refine o_aload_n (pc := 103) dX12_carriesAll_103 rfl ?_
    refine m_getA (pc := 104) 65 47 (by decide) rfl rfl lkX12_160 dX12_carriesAll_104 ?_
    refine o_iconst (pc := 107) (v := 0) dX12_carriesAll_107 rfl ?_
    obtain ⟨hk24, hf⟩ := ck_elim hf
    refine m_iald (pc := 108) (by decide) rfl hk24 dX12_carriesAll_108 ?_
    refine m_putI (pc := 109) 66 (by decide) rfl rfl lkX12_366 ⟨rfl, rfl⟩ dX12_carriesAll_109 ?_
    refine lz_s (mW) hf (fun s25 hf => ?_)
    show Rn g mdX12_carriesAll 112 [some (.ref 0), some (.int p0), some (.int p1)] [] (mW s25) 0 0 none (mW q)
    refine o_aload_n (pc := 112) dX12_carriesAll_112 rfl ?_
    refine o_aload_n (pc := 113) dX12_carriesAll_113 rfl ?_
    refine m_getA (pc := 114) 2 2 (by decide) rfl rfl lkX12_13 dX12_carriesAll_114 ?_
    obtain ⟨q27, hk26, hf⟩ := bd_elim hf
    refine m_callV (pc := 117) [.ref 2] dX12_carriesAll_117 (kX12_carryRow_2 hk26) stX12_575 ⟨by decide, by decide, by decide, by decide⟩ ⟨rfl, rfl⟩ (Nat.le_of_ble_eq_true rfl) ?_
    show Rn g mdX12_carriesAll 120 [some (.ref 0), some (.int p0), some (.int p1)] [] (mW q27) 0 0 none (mW q)
    refine o_aload_n (pc := 120) dX12_carriesAll_120 rfl ?_
    refine o_aload_n (pc := 121) dX12_carriesAll_121 rfl ?_
    refine m_getA (pc := 122) 7 7 (by decide) rfl rfl lkX12_28 dX12_carriesAll_122 ?_
    obtain ⟨q29, hk28, hf⟩ := bd_elim hf
    refine m_callV (pc := 125) [.ref 7] dX12_carriesAll_125 (kX12_carryRow_7 hk28) stX12_575 ⟨by decide, by decide, by decide, by decide⟩ ⟨rfl, rfl⟩ (Nat.le_of_ble_eq_true rfl) ?_
    show Rn g mdX12_carriesAll 128 [some (.ref 0), some (.int p0), some (.int p1)] [] (mW q29) 0 0 none (mW q)
    refine o_aload_n (pc := 128) dX12_carriesAll_128 rfl ?_
    refine o_aload_n (pc := 129) dX12_carriesAll_129 rfl ?_
    refine m_getA (pc := 130) 8 8 (by decide) rfl rfl lkX12_31 dX12_carriesAll_130 ?_
    obtain ⟨q31, hk30, hf⟩ := bd_elim hf
    refine m_callV (pc := 133) [.ref 8] dX12_carriesAll_133 (kX12_carryRow_8 hk30) stX12_575 ⟨by decide, by decide, by decide, by decide⟩ ⟨rfl, rfl⟩ (Nat.le_of_ble_eq_true rfl) ?_
    show Rn g mdX12_carriesAll 136 [some (.ref 0), some (.int p0), some (.int p1)] [] (mW q31) 0 0 none (mW q)
    refine o_aload_n (pc := 136) dX12_carriesAll_136 rfl ?_
    refine o_aload_n (pc := 137) dX12_carriesAll_137 rfl ?_
    refine m_getA (pc := 138) 10 10 (by decide) rfl rfl lkX12_37 dX12_carriesAll_138 ?_
    obtain ⟨q33, hk32, hf⟩ := bd_elim hf
    refine m_callV (pc := 141) [.ref 10] dX12_carriesAll_141 (kX12_carryRow_10 hk32) stX12_575 ⟨by decide, by decide, by decide, by decide⟩ ⟨rfl, rfl⟩ (Nat.le_of_ble_eq_true rfl) ?_
    show Rn g mdX12_carriesAll 144 [some (.ref 0), some (.int p0), some (.int p1)] [] (mW q33) 0 0 none (mW q)
    refine o_aload_n (pc := 144) dX12_carriesAll_144 rfl ?_
    refine o_aload_n (pc := 145) dX12_carriesAll_145 rfl ?_
    refine m_getA (pc := 146) 13 13 (by decide) rfl rfl lkX12_46 dX12_carriesAll_146 ?_
    obtain ⟨q35, hk34, hf⟩ := bd_elim hf
    refine m_callV (pc := 149) [.ref 13] dX12_carriesAll_149 (kX12_carryRow_13 hk34) stX12_575 ⟨by decide, by decide, by decide, by decide⟩ ⟨rfl, rfl⟩ (Nat.le_of_ble_eq_true rfl) ?_
    show Rn g mdX12_carriesAll 152 [some (.ref 0), some (.int p0), some (.int p1)] [] (mW q35) 0 0 none (mW q)
    refine o_aload_n (pc := 152) dX12_carriesAll_152 rfl ?_
    refine o_aload_n (pc := 153) dX12_carriesAll_153 rfl ?_
    refine m_getA (pc := 154) 14 14 (by decide) rfl rfl lkX12_49 dX12_carriesAll_154 ?_
    obtain ⟨q37, hk36, hf⟩ := bd_elim hf
    refine m_callV (pc := 157) [.ref 14] dX12_carriesAll_157 (kX12_carryRow_14 hk36) stX12_575 ⟨by decide, by decide, by decide, by decide⟩ ⟨rfl, rfl⟩ (Nat.le_of_ble_eq_true rfl) ?_
    show Rn g mdX12_carriesAll 160 [some (.ref 0), some (.int p0), some (.int p1)] [] (mW q37) 0 0 none (mW q)
    refine o_aload_n (pc := 160) dX12_carriesAll_160 rfl ?_
    refine o_aload_n (pc := 161) dX12_carriesAll_161 rfl ?_
    refine m_getA (pc := 162) 15 15 (by decide) rfl rfl lkX12_52 dX12_carriesAll_162 ?_
    obtain ⟨q39, hk38, hf⟩ := bd_elim hf
    refine m_callV (pc := 165) [.ref 15] dX12_carriesAll_165 (kX12_carryRow_15 hk38) stX12_575 ⟨by decide, by decide, by decide, by decide⟩ ⟨rfl, rfl⟩ (Nat.le_of_ble_eq_true rfl) ?_
    show Rn g mdX12_carriesAll 168 [some (.ref 0), some (.int p0), some (.int p1)] [] (mW q39) 0 0 none (mW q)
    refine o_aload_n (pc := 168) dX12_carriesAll_168 rfl ?_
    refine o_aload_n (pc := 169) dX12_carriesAll_169 rfl ?_
    refine m_getA (pc := 170) 16 16 (by decide) rfl rfl lkX12_55 dX12_carriesAll_170 ?_
    obtain ⟨q41, hk40, hf⟩ := bd_elim hf
    refine m_callV (pc := 173) [.ref 16] dX12_carriesAll_173 (kX12_carryRow_16 hk40) stX12_575 ⟨by decide, by decide, by decide, by decide⟩ ⟨rfl, rfl⟩ (Nat.le_of_ble_eq_true rfl) ?_
    show Rn g mdX12_carriesAll 176 [some (.ref 0), some (.int p0), some (.int p1)] [] (mW q41) 0 0 none (mW q)
    refine o_aload_n (pc := 176) dX12_carriesAll_176 rfl ?_
    refine o_aload_n (pc := 177) dX12_carriesAll_177 rfl ?_
    refine m_getA (pc := 178) 17 17 (by decide) rfl rfl lkX12_58 dX12_carriesAll_178 ?_
    obtain ⟨q43, hk42, hf⟩ := bd_elim hf
    refine m_callV (pc := 181) [.ref 17] dX12_carriesAll_181 (kX12_carryRow_17 hk42) stX12_575 ⟨by decide, by decide, by decide, by decide⟩ ⟨rfl, rfl⟩ (Nat.le_of_ble_eq_true rfl) ?_
    show Rn g mdX12_carriesAll 184 [some (.ref 0), some (.int p0), some (.int p1)] [] (mW q43) 0 0 none (mW q)
    refine o_aload_n (pc := 184) dX12_carriesAll_184 rfl ?_
    refine o_aload_n (pc := 185) dX12_carriesAll_185 rfl ?_
    refine m_getA (pc := 186) 18 18 (by decide) rfl rfl lkX12_61 dX12_carriesAll_186 ?_
    obtain ⟨q45, hk44, hf⟩ := bd_elim hf
    refine m_callV (pc := 189) [.ref 18] dX12_carriesAll_189 (kX12_carryRow_18 hk44) stX12_575 ⟨by decide, by decide, by decide, by decide⟩ ⟨rfl, rfl⟩ (Nat.le_of_ble_eq_true rfl) ?_
    show Rn g mdX12_carriesAll 192 [some (.ref 0), some (.int p0), some (.int p1)] [] (mW q45) 0 0 none (mW q)
    refine o_aload_n (pc := 192) dX12_carriesAll_192 rfl ?_
    refine o_aload_n (pc := 193) dX12_carriesAll_193 rfl ?_
    refine m_getA (pc := 194) 64 46 (by decide) rfl rfl lkX12_157 dX12_carriesAll_194 ?_
    obtain ⟨q47, hk46, hf⟩ := bd_elim hf
    refine m_callV (pc := 197) [.ref 46] dX12_carriesAll_197 (kX12_carryRow_46 hk46) stX12_575 ⟨by decide, by decide, by decide, by decide⟩ ⟨rfl, rfl⟩ (Nat.le_of_ble_eq_true rfl) ?_
    show Rn g mdX12_carriesAll 200 [some (.ref 0), some (.int p0), some (.int p1)] [] (mW q47) 0 0 none (mW q)
    obtain rfl := Option.some.inj hf
    exact o_return (pc := 200) dX12_carriesAll_200 rfl (Nat.zero_le _) (Nat.zero_le _)
  · have hf := it_t hf hc
    obtain rfl := Option.some.inj hf
    exact o_return (pc := 83) dX12_carriesAll_83 rfl (Nat.zero_le _) (Nat.zero_le _)
def fX12_keepsAll (s : ST) : Option (ST) :=
  (fX12_carriesAll 4 0 s).bind (fun q2 => some q2)
set_option maxRecDepth 20000 in
theorem kX12_keepsAll {g : GX} {s : ST} {q : ST} (hf : fX12_keepsAll s = some q) : Cn g mdX12_keepsAll [.ref 0] (mW s) none (mW q) := by
  refine Cn.of (by decide) (Nat.le_of_ble_eq_true rfl) ?_
  show Rn g mdX12_keepsAll 0 [some (.ref 0)] [] (mW s) 0 0 none (mW q)
  unfold fX12_keepsAll at hf
  refine o_aload_n (pc := 0) dX12_keepsAll_0 rfl ?_
  refine o_iconst (pc := 1) (v := 4) dX12_keepsAll_1 rfl ?_
  refine o_iconst (pc := 2) (v := 0) dX12_keepsAll_2 rfl ?_
  obtain ⟨q2, hk1, hf⟩ := bd_elim hf
  refine m_callV (pc := 3) [.int 4, .int 0] dX12_keepsAll_3 (kX12_carriesAll hk1) stX12_500 ⟨by decide, by decide, by decide, by decide⟩ ⟨rfl, rfl⟩ (Nat.le_of_ble_eq_true rfl) ?_
  show Rn g mdX12_keepsAll 6 [some (.ref 0)] [] (mW q2) 0 0 none (mW q)
  obtain rfl := Option.some.inj hf
  exact o_return (pc := 6) dX12_keepsAll_6 rfl (Nat.zero_le _) (Nat.zero_le _)
def fX12_laysBack (s : ST) : Option (ST) :=
  (fX12_carriesAll 4 1 s).bind (fun q2 => some q2)
set_option maxRecDepth 20000 in
theorem kX12_laysBack {g : GX} {s : ST} {q : ST} (hf : fX12_laysBack s = some q) : Cn g mdX12_laysBack [.ref 0] (mW s) none (mW q) := by
  refine Cn.of (by decide) (Nat.le_of_ble_eq_true rfl) ?_
  show Rn g mdX12_laysBack 0 [some (.ref 0)] [] (mW s) 0 0 none (mW q)
  unfold fX12_laysBack at hf
  refine o_aload_n (pc := 0) dX12_laysBack_0 rfl ?_
  refine o_iconst (pc := 1) (v := 4) dX12_laysBack_1 rfl ?_
  refine o_iconst (pc := 2) (v := 1) dX12_laysBack_2 rfl ?_
  obtain ⟨q2, hk1, hf⟩ := bd_elim hf
  refine m_callV (pc := 3) [.int 4, .int 1] dX12_laysBack_3 (kX12_carriesAll hk1) stX12_500 ⟨by decide, by decide, by decide, by decide⟩ ⟨rfl, rfl⟩ (Nat.le_of_ble_eq_true rfl) ?_
  show Rn g mdX12_laysBack 6 [some (.ref 0)] [] (mW q2) 0 0 none (mW q)
  obtain rfl := Option.some.inj hf
  exact o_return (pc := 6) dX12_laysBack_6 rfl (Nat.zero_le _) (Nat.zero_le _)
def fX12_goes_L17 (a1 : Int32) : Nat → Int32 → ST → Option (Int32 × ST)
  | 0, _, _ => none
  | n + 1, x2, s => if a1 ≤ x2 then some (x2, s) else (fX12_dayGoes s).bind (fun q5 => lt (si q5.2 0 71 ((gi s 0 71) + q5.1)) (fun s6 => lt (si s6 0 69 ((gi s6 0 69) + (gi s6 0 61))) (fun s7 => lt (si s7 0 70 ((gi s7 0 70) + (gi s7 0 62))) (fun s8 => lt (x2 + 1) (fun v9 => fX12_goes_L17 a1 n v9 s8)))))
def fX12_goes (p0 : Int32) (s : ST) : Option (ST) :=
  lt (si s 0 69 0) (fun s1 => lt (si s1 0 70 0) (fun s2 => lt (si s2 0 71 0) (fun s3 => (fX12_goes_L17 p0 FUEL 0 s3).bind (fun w10 => some w10.2))))
set_option maxRecDepth 20000 in
theorem kX12_goes_L17 {g : GX} (a1 : Int32) {r : Option Value} {h2 : PH} : ∀ (n : Nat) (x2 : Int32) (s : ST) {w : Int32 × ST}, fX12_goes_L17 a1 n x2 s = some w → Rn g mdX12_goes 67 [none, none, none] [] (mW w.2) 0 0 r h2 → Rn g mdX12_goes 17 [some (.ref 0), some (.int a1), some (.int x2)] [] (mW s) 0 0 r h2 := by
  intro n
  induction n with
  | zero => intro x2 s w hf K; cases hf
  | succ n ih =>
    intro x2 s w hf K
    rw [fX12_goes_L17] at hf
    refine o_iload_n (pc := 17) dX12_goes_17 rfl ?_
    refine o_iload_n (pc := 18) dX12_goes_18 rfl ?_
    refine o_icmp_ge (pc := 19) 67 dX12_goes_19 rfl (fun hc => ?_) (fun hc => ?_)
    · have hf := it_t hf hc
      obtain rfl := Option.some.inj hf
      refine o_keep [false, false, false] ?_
      exact K
    · have hf := it_f hf hc
      refine o_aload_n (pc := 22) dX12_goes_22 rfl ?_
      refine o_dup (pc := 23) dX12_goes_23 rfl ?_
      refine m_getI (pc := 24) 71 (by decide) rfl lkX12_509 dX12_goes_24 ?_
      refine o_aload_n (pc := 27) dX12_goes_27 rfl ?_
      obtain ⟨q5, hk4, hf⟩ := bd_elim hf
      refine m_callV (pc := 28) [] dX12_goes_28 (kX12_dayGoes hk4) stX12_491 ⟨by decide, by decide, by decide, by decide⟩ ⟨rfl, rfl⟩ (Nat.le_of_ble_eq_true rfl) ?_
      show Rn g mdX12_goes 31 [some (.ref 0), some (.int a1), some (.int x2)] [.int q5.1, .int (gi s 0 71), .ref 0] (mW q5.2) 0 0 r h2
      refine o_iadd (pc := 31) dX12_goes_31 ?_
      refine m_putI (pc := 32) 71 (by decide) rfl rfl lkX12_509 ⟨rfl, rfl⟩ dX12_goes_32 ?_
      refine lz_s (mW) hf (fun s6 hf => ?_)
      show Rn g mdX12_goes 35 [some (.ref 0), some (.int a1), some (.int x2)] [] (mW s6) 0 0 r h2
      refine o_aload_n (pc := 35) dX12_goes_35 rfl ?_
      refine o_dup (pc := 36) dX12_goes_36 rfl ?_
      refine m_getI (pc := 37) 69 (by decide) rfl lkX12_503 dX12_goes_37 ?_
      refine o_aload_n (pc := 40) dX12_goes_40 rfl ?_
      refine m_getI (pc := 41) 61 (by decide) rfl lkX12_440 dX12_goes_41 ?_
      refine o_iadd (pc := 44) dX12_goes_44 ?_
      refine m_putI (pc := 45) 69 (by decide) rfl rfl lkX12_503 ⟨rfl, rfl⟩ dX12_goes_45 ?_
      refine lz_s (mW) hf (fun s7 hf => ?_)
      show Rn g mdX12_goes 48 [some (.ref 0), some (.int a1), some (.int x2)] [] (mW s7) 0 0 r h2
      refine o_aload_n (pc := 48) dX12_goes_48 rfl ?_
      refine o_dup (pc := 49) dX12_goes_49 rfl ?_
      refine m_getI (pc := 50) 70 (by decide) rfl lkX12_506 dX12_goes_50 ?_
      refine o_aload_n (pc := 53) dX12_goes_53 rfl ?_
      refine m_getI (pc := 54) 62 (by decide) rfl lkX12_443 dX12_goes_54 ?_
      refine o_iadd (pc := 57) dX12_goes_57 ?_
      refine m_putI (pc := 58) 70 (by decide) rfl rfl lkX12_506 ⟨rfl, rfl⟩ dX12_goes_58 ?_
      refine lz_s (mW) hf (fun s8 hf => ?_)
      show Rn g mdX12_goes 61 [some (.ref 0), some (.int a1), some (.int x2)] [] (mW s8) 0 0 r h2
      refine o_iinc (pc := 61) dX12_goes_61 rfl (by decide) rfl ?_
      show Rn g mdX12_goes 64 [some (.ref 0), some (.int a1), some (.int (x2 + 1))] [] (mW s8) 0 0 r h2
      obtain ⟨v9, ev9, hf⟩ := lt_elim hf
      rw [ev9]
      show Rn g mdX12_goes 64 [some (.ref 0), some (.int a1), some (.int v9)] [] (mW s8) 0 0 r h2
      refine o_goto (pc := 64) 17 dX12_goes_64 rfl ?_
      exact ih _ _ hf K
set_option maxRecDepth 20000 in
theorem kX12_goes {g : GX} {p0 : Int32} {s : ST} {q : ST} (hf : fX12_goes p0 s = some q) : Cn g mdX12_goes [.ref 0, .int p0] (mW s) none (mW q) := by
  refine Cn.of (by decide) (Nat.le_of_ble_eq_true rfl) ?_
  show Rn g mdX12_goes 0 [some (.ref 0), some (.int p0), none] [] (mW s) 0 0 none (mW q)
  unfold fX12_goes at hf
  refine o_aload_n (pc := 0) dX12_goes_0 rfl ?_
  refine o_iconst (pc := 1) (v := 0) dX12_goes_1 rfl ?_
  refine m_putI (pc := 2) 69 (by decide) rfl rfl lkX12_503 ⟨rfl, rfl⟩ dX12_goes_2 ?_
  refine lz_s (mW) hf (fun s1 hf => ?_)
  show Rn g mdX12_goes 5 [some (.ref 0), some (.int p0), none] [] (mW s1) 0 0 none (mW q)
  refine o_aload_n (pc := 5) dX12_goes_5 rfl ?_
  refine o_iconst (pc := 6) (v := 0) dX12_goes_6 rfl ?_
  refine m_putI (pc := 7) 70 (by decide) rfl rfl lkX12_506 ⟨rfl, rfl⟩ dX12_goes_7 ?_
  refine lz_s (mW) hf (fun s2 hf => ?_)
  show Rn g mdX12_goes 10 [some (.ref 0), some (.int p0), none] [] (mW s2) 0 0 none (mW q)
  refine o_aload_n (pc := 10) dX12_goes_10 rfl ?_
  refine o_iconst (pc := 11) (v := 0) dX12_goes_11 rfl ?_
  refine m_putI (pc := 12) 71 (by decide) rfl rfl lkX12_509 ⟨rfl, rfl⟩ dX12_goes_12 ?_
  refine lz_s (mW) hf (fun s3 hf => ?_)
  show Rn g mdX12_goes 15 [some (.ref 0), some (.int p0), none] [] (mW s3) 0 0 none (mW q)
  refine o_iconst (pc := 15) (v := 0) dX12_goes_15 rfl ?_
  refine o_istore_n (pc := 16) dX12_goes_16 (by decide) rfl ?_
  show Rn g mdX12_goes 17 [some (.ref 0), some (.int p0), some (.int 0)] [] (mW s3) 0 0 none (mW q)
  obtain ⟨w10, hl11, hf⟩ := bd_elim hf
  have K12 : Rn g mdX12_goes 67 [none, none, none] [] (mW w10.2) 0 0 none (mW q) := by
    obtain rfl := Option.some.inj hf
    exact o_return (pc := 67) dX12_goes_67 rfl (Nat.zero_le _) (Nat.zero_le _)
  exact kX12_goes_L17 _ _ _ _ hl11 K12
def fX12_costsOf (p0 : Int32) (s : ST) : Option (Int32 × ST) :=
  (fX12_goes p0 s).bind (fun q2 => (fX12_laysBack q2).bind (fun q4 => some (gi q4 0 69, q4)))
set_option maxRecDepth 20000 in
theorem kX12_costsOf {g : GX} {p0 : Int32} {s : ST} {q : Int32 × ST} (hf : fX12_costsOf p0 s = some q) : Cn g mdX12_costsOf [.ref 0, .int p0] (mW s) (some (.int q.1)) (mW q.2) := by
  refine Cn.of (by decide) (Nat.le_of_ble_eq_true rfl) ?_
  show Rn g mdX12_costsOf 0 [some (.ref 0), some (.int p0)] [] (mW s) 0 0 (some (.int q.1)) (mW q.2)
  unfold fX12_costsOf at hf
  refine o_aload_n (pc := 0) dX12_costsOf_0 rfl ?_
  refine o_iload_n (pc := 1) dX12_costsOf_1 rfl ?_
  obtain ⟨q2, hk1, hf⟩ := bd_elim hf
  refine m_callV (pc := 2) [.int p0] dX12_costsOf_2 (kX12_goes hk1) stX12_512 ⟨by decide, by decide, by decide, by decide⟩ ⟨rfl, rfl⟩ (Nat.le_of_ble_eq_true rfl) ?_
  show Rn g mdX12_costsOf 5 [some (.ref 0), some (.int p0)] [] (mW q2) 0 0 (some (.int q.1)) (mW q.2)
  refine o_aload_n (pc := 5) dX12_costsOf_5 rfl ?_
  obtain ⟨q4, hk3, hf⟩ := bd_elim hf
  refine m_callV (pc := 6) [] dX12_costsOf_6 (kX12_laysBack hk3) stX12_515 ⟨by decide, by decide, by decide, by decide⟩ ⟨rfl, rfl⟩ (Nat.le_of_ble_eq_true rfl) ?_
  show Rn g mdX12_costsOf 9 [some (.ref 0), some (.int p0)] [] (mW q4) 0 0 (some (.int q.1)) (mW q.2)
  refine o_aload_n (pc := 9) dX12_costsOf_9 rfl ?_
  refine m_getI (pc := 10) 69 (by decide) rfl lkX12_503 dX12_costsOf_10 ?_
  obtain rfl := Option.some.inj hf
  exact o_ireturn (pc := 13) dX12_costsOf_13 rfl (Nat.zero_le _) (Nat.zero_le _)
def fX12_ahead (p0 : Int32) (p1 : Int32) (p2 : Int32) (s : ST) : Option (Int32 × ST) :=
  (fX12_isPerson p0 s).bind (fun q2 => (if q2 = 0 then some true else (fX12_in p1.toInt64 0 100 s).bind (fun q7 => if q7 = 0 then some true else (fX12_in p2.toInt64 0 2 s).bind (fun q9 => if q9 = 0 then some true else some false)) : Option Bool).bind (fun b3 => if b3 = true then some ((-1000), s) else (fX12_keepsAll s).bind (fun q11 => (fX12_goes p1 q11).bind (fun q13 => (if p2 = 0 then ck (inb p0 5) (some (gi q13 3 (ix p0))) else if p2 = 1 then ck (inb p0 5) (some (gi q13 5 (ix p0))) else ck (inb p0 5) (some (gi q13 6 (ix p0))) : Option (Int32)).bind (fun w14 => (fX12_laysBack q13).bind (fun q21 => some (w14, q21)))))))
set_option maxRecDepth 20000 in
theorem kX12_ahead {g : GX} {p0 : Int32} {p1 : Int32} {p2 : Int32} {s : ST} {q : Int32 × ST} (hf : fX12_ahead p0 p1 p2 s = some q) : Cn g mdX12_ahead [.ref 0, .int p0, .int p1, .int p2] (mW s) (some (.int q.1)) (mW q.2) := by
  refine Cn.of (by decide) (Nat.le_of_ble_eq_true rfl) ?_
  show Rn g mdX12_ahead 0 [some (.ref 0), some (.int p0), some (.int p1), some (.int p2), none] [] (mW s) 0 0 (some (.int q.1)) (mW q.2)
  unfold fX12_ahead at hf
  refine o_aload_n (pc := 0) dX12_ahead_0 rfl ?_
  refine o_iload_n (pc := 1) dX12_ahead_1 rfl ?_
  obtain ⟨q2, hk1, hf⟩ := bd_elim hf
  refine m_callV (pc := 2) [.int p0] dX12_ahead_2 (kX12_isPerson hk1) stX12_458 ⟨by decide, by decide, by decide, by decide⟩ ⟨rfl, rfl⟩ (Nat.le_of_ble_eq_true rfl) ?_
  show Rn g mdX12_ahead 5 [some (.ref 0), some (.int p0), some (.int p1), some (.int p2), none] [.int q2] (mW s) 0 0 (some (.int q.1)) (mW q.2)
  obtain ⟨b3, hr4, hf⟩ := bd_elim hf
  have KB5 : (b3 = true → Rn g mdX12_ahead 32 [some (.ref 0), some (.int p0), some (.int p1), some (.int p2), none] [] (mW s) 0 0 (some (.int q.1)) (mW q.2)) ∧ (¬ b3 = true → Rn g mdX12_ahead 36 [some (.ref 0), some (.int p0), some (.int p1), some (.int p2), none] [] (mW s) 0 0 (some (.int q.1)) (mW q.2)) := by
    refine ⟨fun hc => ?_, fun hc => ?_⟩
    · have hf := it_t hf hc
      refine o_sipush (pc := 32) (v := (-1000)) dX12_ahead_32 rfl ?_
      obtain rfl := Option.some.inj hf
      exact o_ireturn (pc := 35) dX12_ahead_35 rfl (Nat.zero_le _) (Nat.zero_le _)
    · have hf := it_f hf hc
      refine o_aload_n (pc := 36) dX12_ahead_36 rfl ?_
      obtain ⟨q11, hk10, hf⟩ := bd_elim hf
      refine m_callV (pc := 37) [] dX12_ahead_37 (kX12_keepsAll hk10) stX12_522 ⟨by decide, by decide, by decide, by decide⟩ ⟨rfl, rfl⟩ (Nat.le_of_ble_eq_true rfl) ?_
      show Rn g mdX12_ahead 40 [some (.ref 0), some (.int p0), some (.int p1), some (.int p2), none] [] (mW q11) 0 0 (some (.int q.1)) (mW q.2)
      refine o_aload_n (pc := 40) dX12_ahead_40 rfl ?_
      refine o_iload_n (pc := 41) dX12_ahead_41 rfl ?_
      obtain ⟨q13, hk12, hf⟩ := bd_elim hf
      refine m_callV (pc := 42) [.int p1] dX12_ahead_42 (kX12_goes hk12) stX12_512 ⟨by decide, by decide, by decide, by decide⟩ ⟨rfl, rfl⟩ (Nat.le_of_ble_eq_true rfl) ?_
      show Rn g mdX12_ahead 45 [some (.ref 0), some (.int p0), some (.int p1), some (.int p2), none] [] (mW q13) 0 0 (some (.int q.1)) (mW q.2)
      refine o_iload_n (pc := 45) dX12_ahead_45 rfl ?_
      obtain ⟨w14, hr15, hf⟩ := bd_elim hf
      have K16 : Rn g mdX12_ahead 78 [some (.ref 0), none, none, none, none] [.int w14] (mW q13) 0 0 (some (.int q.1)) (mW q.2) := by
        refine o_istore (pc := 78) dX12_ahead_78 (by decide) rfl ?_
        show Rn g mdX12_ahead 80 [some (.ref 0), none, none, none, some (.int w14)] [] (mW q13) 0 0 (some (.int q.1)) (mW q.2)
        refine o_aload_n (pc := 80) dX12_ahead_80 rfl ?_
        obtain ⟨q21, hk20, hf⟩ := bd_elim hf
        refine m_callV (pc := 81) [] dX12_ahead_81 (kX12_laysBack hk20) stX12_515 ⟨by decide, by decide, by decide, by decide⟩ ⟨rfl, rfl⟩ (Nat.le_of_ble_eq_true rfl) ?_
        show Rn g mdX12_ahead 84 [some (.ref 0), none, none, none, some (.int w14)] [] (mW q21) 0 0 (some (.int q.1)) (mW q.2)
        refine o_iload (pc := 84) dX12_ahead_84 rfl ?_
        obtain rfl := Option.some.inj hf
        exact o_ireturn (pc := 86) dX12_ahead_86 rfl (Nat.zero_le _) (Nat.zero_le _)
      clear hf
      refine o_if_ne (pc := 46) 58 dX12_ahead_46 rfl (fun hc => ?_) (fun hc => ?_)
      · have hr15 := it_f hr15 hc
        refine o_iload_n (pc := 58) dX12_ahead_58 rfl ?_
        refine o_iconst (pc := 59) (v := 1) dX12_ahead_59 rfl ?_
        refine o_icmp_ne (pc := 60) 72 dX12_ahead_60 rfl (fun hc => ?_) (fun hc => ?_)
        · have hr15 := it_f hr15 hc
          refine o_aload_n (pc := 72) dX12_ahead_72 rfl ?_
          refine m_getA (pc := 73) 6 6 (by decide) rfl rfl lkX12_25 dX12_ahead_73 ?_
          refine o_iload_n (pc := 76) dX12_ahead_76 rfl ?_
          obtain ⟨hk17, hr15⟩ := ck_elim hr15
          refine m_iald (pc := 77) (by decide) rfl hk17 dX12_ahead_77 ?_
          obtain rfl := Option.some.inj hr15
          refine o_keep [true, false, false, false, false] ?_
          exact K16
        · have hr15 := it_t hr15 hc
          refine o_aload_n (pc := 63) dX12_ahead_63 rfl ?_
          refine m_getA (pc := 64) 5 5 (by decide) rfl rfl lkX12_22 dX12_ahead_64 ?_
          refine o_iload_n (pc := 67) dX12_ahead_67 rfl ?_
          obtain ⟨hk18, hr15⟩ := ck_elim hr15
          refine m_iald (pc := 68) (by decide) rfl hk18 dX12_ahead_68 ?_
          refine o_goto (pc := 69) 78 dX12_ahead_69 rfl ?_
          obtain rfl := Option.some.inj hr15
          refine o_keep [true, false, false, false, false] ?_
          exact K16
      · have hr15 := it_t hr15 hc
        refine o_aload_n (pc := 49) dX12_ahead_49 rfl ?_
        refine m_getA (pc := 50) 3 3 (by decide) rfl rfl lkX12_16 dX12_ahead_50 ?_
        refine o_iload_n (pc := 53) dX12_ahead_53 rfl ?_
        obtain ⟨hk19, hr15⟩ := ck_elim hr15
        refine m_iald (pc := 54) (by decide) rfl hk19 dX12_ahead_54 ?_
        refine o_goto (pc := 55) 78 dX12_ahead_55 rfl ?_
        obtain rfl := Option.some.inj hr15
        refine o_keep [true, false, false, false, false] ?_
        exact K16
  clear hf
  refine o_if_eq (pc := 5) 32 dX12_ahead_5 rfl (fun hc => ?_) (fun hc => ?_)
  · have hr4 := it_t hr4 hc
    obtain rfl := Option.some.inj hr4
    exact KB5.1 rfl
  · have hr4 := it_f hr4 hc
    refine o_iload_n (pc := 8) dX12_ahead_8 rfl ?_
    refine o_i2l (pc := 9) dX12_ahead_9 ?_
    refine o_lconst (pc := 10) (v := 0) dX12_ahead_10 rfl ?_
    refine o_ldc2 (pc := 11) dX12_ahead_11 lcX12_518 ?_
    obtain ⟨q7, hk6, hr4⟩ := bd_elim hr4
    refine m_callS (pc := 14) [.long p1.toInt64, .long 0, .long 100] dX12_ahead_14 (kX12_in hk6) stX12_191 ⟨by decide, by decide, by decide, by decide⟩ ⟨rfl, rfl⟩ (Nat.le_of_ble_eq_true rfl) ?_
    show Rn g mdX12_ahead 17 [some (.ref 0), some (.int p0), some (.int p1), some (.int p2), none] [.int q7] (mW s) 0 0 (some (.int q.1)) (mW q.2)
    refine o_if_eq (pc := 17) 32 dX12_ahead_17 rfl (fun hc => ?_) (fun hc => ?_)
    · have hr4 := it_t hr4 hc
      obtain rfl := Option.some.inj hr4
      exact KB5.1 rfl
    · have hr4 := it_f hr4 hc
      refine o_iload_n (pc := 20) dX12_ahead_20 rfl ?_
      refine o_i2l (pc := 21) dX12_ahead_21 ?_
      refine o_lconst (pc := 22) (v := 0) dX12_ahead_22 rfl ?_
      refine o_ldc2 (pc := 23) dX12_ahead_23 lcX12_520 ?_
      obtain ⟨q9, hk8, hr4⟩ := bd_elim hr4
      refine m_callS (pc := 26) [.long p2.toInt64, .long 0, .long 2] dX12_ahead_26 (kX12_in hk8) stX12_191 ⟨by decide, by decide, by decide, by decide⟩ ⟨rfl, rfl⟩ (Nat.le_of_ble_eq_true rfl) ?_
      show Rn g mdX12_ahead 29 [some (.ref 0), some (.int p0), some (.int p1), some (.int p2), none] [.int q9] (mW s) 0 0 (some (.int q.1)) (mW q.2)
      refine o_if_ne (pc := 29) 36 dX12_ahead_29 rfl (fun hc => ?_) (fun hc => ?_)
      · have hr4 := it_f hr4 hc
        obtain rfl := Option.some.inj hr4
        exact KB5.2 (by decide)
      · have hr4 := it_t hr4 hc
        obtain rfl := Option.some.inj hr4
        exact KB5.1 rfl
def fX12_looksToday (s : ST) : Option (ST) :=
  (fX12_keepsAll s).bind (fun q2 => (fX12_goes 1 q2).bind (fun q4 => (fX12_laysBack q4).bind (fun q6 => some q6)))
set_option maxRecDepth 20000 in
theorem kX12_looksToday {g : GX} {s : ST} {q : ST} (hf : fX12_looksToday s = some q) : Cn g mdX12_looksToday [.ref 0] (mW s) none (mW q) := by
  refine Cn.of (by decide) (Nat.le_of_ble_eq_true rfl) ?_
  show Rn g mdX12_looksToday 0 [some (.ref 0)] [] (mW s) 0 0 none (mW q)
  unfold fX12_looksToday at hf
  refine o_aload_n (pc := 0) dX12_looksToday_0 rfl ?_
  obtain ⟨q2, hk1, hf⟩ := bd_elim hf
  refine m_callV (pc := 1) [] dX12_looksToday_1 (kX12_keepsAll hk1) stX12_522 ⟨by decide, by decide, by decide, by decide⟩ ⟨rfl, rfl⟩ (Nat.le_of_ble_eq_true rfl) ?_
  show Rn g mdX12_looksToday 4 [some (.ref 0)] [] (mW q2) 0 0 none (mW q)
  refine o_aload_n (pc := 4) dX12_looksToday_4 rfl ?_
  refine o_iconst (pc := 5) (v := 1) dX12_looksToday_5 rfl ?_
  obtain ⟨q4, hk3, hf⟩ := bd_elim hf
  refine m_callV (pc := 6) [.int 1] dX12_looksToday_6 (kX12_goes hk3) stX12_512 ⟨by decide, by decide, by decide, by decide⟩ ⟨rfl, rfl⟩ (Nat.le_of_ble_eq_true rfl) ?_
  show Rn g mdX12_looksToday 9 [some (.ref 0)] [] (mW q4) 0 0 none (mW q)
  refine o_aload_n (pc := 9) dX12_looksToday_9 rfl ?_
  obtain ⟨q6, hk5, hf⟩ := bd_elim hf
  refine m_callV (pc := 10) [] dX12_looksToday_10 (kX12_laysBack hk5) stX12_515 ⟨by decide, by decide, by decide, by decide⟩ ⟨rfl, rfl⟩ (Nat.le_of_ble_eq_true rfl) ?_
  show Rn g mdX12_looksToday 13 [some (.ref 0)] [] (mW q6) 0 0 none (mW q)
  obtain rfl := Option.some.inj hf
  exact o_return (pc := 13) dX12_looksToday_13 rfl (Nat.zero_le _) (Nat.zero_le _)
def fX12_today (p0 : Int32) (p1 : Int32) (s : ST) : Option (Int32 × ST) :=
  (fX12_isMeeting p0 s).bind (fun q2 => (if q2 = 0 then some true else (fX12_in p1.toInt64 0 3 s).bind (fun q7 => if q7 = 0 then some true else some false) : Option Bool).bind (fun b3 => if b3 = true then some ((-1000), s) else (fX12_looksToday s).bind (fun q9 => (if p1 = 0 then ck (inb p0 8) (some (gi q9 40 (ix p0))) else if p1 = 1 then ck (inb p0 8) (some (gi q9 41 (ix p0))) else if p1 = 2 then ck (inb p0 8) (some (gi q9 42 (ix p0))) else ck (inb p0 8) (some (gi q9 43 (ix p0))) : Option (Int32)).bind (fun w10 => some (w10, q9)))))
set_option maxRecDepth 20000 in
theorem kX12_today {g : GX} {p0 : Int32} {p1 : Int32} {s : ST} {q : Int32 × ST} (hf : fX12_today p0 p1 s = some q) : Cn g mdX12_today [.ref 0, .int p0, .int p1] (mW s) (some (.int q.1)) (mW q.2) := by
  refine Cn.of (by decide) (Nat.le_of_ble_eq_true rfl) ?_
  show Rn g mdX12_today 0 [some (.ref 0), some (.int p0), some (.int p1)] [] (mW s) 0 0 (some (.int q.1)) (mW q.2)
  unfold fX12_today at hf
  refine o_aload_n (pc := 0) dX12_today_0 rfl ?_
  refine o_iload_n (pc := 1) dX12_today_1 rfl ?_
  obtain ⟨q2, hk1, hf⟩ := bd_elim hf
  refine m_callV (pc := 2) [.int p0] dX12_today_2 (kX12_isMeeting hk1) stX12_465 ⟨by decide, by decide, by decide, by decide⟩ ⟨rfl, rfl⟩ (Nat.le_of_ble_eq_true rfl) ?_
  show Rn g mdX12_today 5 [some (.ref 0), some (.int p0), some (.int p1)] [.int q2] (mW s) 0 0 (some (.int q.1)) (mW q.2)
  obtain ⟨b3, hr4, hf⟩ := bd_elim hf
  have KB5 : (b3 = true → Rn g mdX12_today 20 [some (.ref 0), some (.int p0), some (.int p1)] [] (mW s) 0 0 (some (.int q.1)) (mW q.2)) ∧ (¬ b3 = true → Rn g mdX12_today 24 [some (.ref 0), some (.int p0), some (.int p1)] [] (mW s) 0 0 (some (.int q.1)) (mW q.2)) := by
    refine ⟨fun hc => ?_, fun hc => ?_⟩
    · have hf := it_t hf hc
      refine o_sipush (pc := 20) (v := (-1000)) dX12_today_20 rfl ?_
      obtain rfl := Option.some.inj hf
      exact o_ireturn (pc := 23) dX12_today_23 rfl (Nat.zero_le _) (Nat.zero_le _)
    · have hf := it_f hf hc
      refine o_aload_n (pc := 24) dX12_today_24 rfl ?_
      obtain ⟨q9, hk8, hf⟩ := bd_elim hf
      refine m_callV (pc := 25) [] dX12_today_25 (kX12_looksToday hk8) stX12_527 ⟨by decide, by decide, by decide, by decide⟩ ⟨rfl, rfl⟩ (Nat.le_of_ble_eq_true rfl) ?_
      show Rn g mdX12_today 28 [some (.ref 0), some (.int p0), some (.int p1)] [] (mW q9) 0 0 (some (.int q.1)) (mW q.2)
      refine o_iload_n (pc := 28) dX12_today_28 rfl ?_
      obtain ⟨w10, hr11, hf⟩ := bd_elim hf
      have K12 : Rn g mdX12_today 75 [none, none, none] [.int w10] (mW q9) 0 0 (some (.int q.1)) (mW q.2) := by
        obtain rfl := Option.some.inj hf
        exact o_ireturn (pc := 75) dX12_today_75 rfl (Nat.zero_le _) (Nat.zero_le _)
      clear hf
      refine o_if_ne (pc := 29) 41 dX12_today_29 rfl (fun hc => ?_) (fun hc => ?_)
      · have hr11 := it_f hr11 hc
        refine o_iload_n (pc := 41) dX12_today_41 rfl ?_
        refine o_iconst (pc := 42) (v := 1) dX12_today_42 rfl ?_
        refine o_icmp_ne (pc := 43) 55 dX12_today_43 rfl (fun hc => ?_) (fun hc => ?_)
        · have hr11 := it_f hr11 hc
          refine o_iload_n (pc := 55) dX12_today_55 rfl ?_
          refine o_iconst (pc := 56) (v := 2) dX12_today_56 rfl ?_
          refine o_icmp_ne (pc := 57) 69 dX12_today_57 rfl (fun hc => ?_) (fun hc => ?_)
          · have hr11 := it_f hr11 hc
            refine o_aload_n (pc := 69) dX12_today_69 rfl ?_
            refine m_getA (pc := 70) 53 43 (by decide) rfl rfl lkX12_142 dX12_today_70 ?_
            refine o_iload_n (pc := 73) dX12_today_73 rfl ?_
            obtain ⟨hk13, hr11⟩ := ck_elim hr11
            refine m_iald (pc := 74) (by decide) rfl hk13 dX12_today_74 ?_
            obtain rfl := Option.some.inj hr11
            refine o_keep [false, false, false] ?_
            exact K12
          · have hr11 := it_t hr11 hc
            refine o_aload_n (pc := 60) dX12_today_60 rfl ?_
            refine m_getA (pc := 61) 52 42 (by decide) rfl rfl lkX12_139 dX12_today_61 ?_
            refine o_iload_n (pc := 64) dX12_today_64 rfl ?_
            obtain ⟨hk14, hr11⟩ := ck_elim hr11
            refine m_iald (pc := 65) (by decide) rfl hk14 dX12_today_65 ?_
            refine o_goto (pc := 66) 75 dX12_today_66 rfl ?_
            obtain rfl := Option.some.inj hr11
            refine o_keep [false, false, false] ?_
            exact K12
        · have hr11 := it_t hr11 hc
          refine o_aload_n (pc := 46) dX12_today_46 rfl ?_
          refine m_getA (pc := 47) 51 41 (by decide) rfl rfl lkX12_136 dX12_today_47 ?_
          refine o_iload_n (pc := 50) dX12_today_50 rfl ?_
          obtain ⟨hk15, hr11⟩ := ck_elim hr11
          refine m_iald (pc := 51) (by decide) rfl hk15 dX12_today_51 ?_
          refine o_goto (pc := 52) 75 dX12_today_52 rfl ?_
          obtain rfl := Option.some.inj hr11
          refine o_keep [false, false, false] ?_
          exact K12
      · have hr11 := it_t hr11 hc
        refine o_aload_n (pc := 32) dX12_today_32 rfl ?_
        refine m_getA (pc := 33) 50 40 (by decide) rfl rfl lkX12_133 dX12_today_33 ?_
        refine o_iload_n (pc := 36) dX12_today_36 rfl ?_
        obtain ⟨hk16, hr11⟩ := ck_elim hr11
        refine m_iald (pc := 37) (by decide) rfl hk16 dX12_today_37 ?_
        refine o_goto (pc := 38) 75 dX12_today_38 rfl ?_
        obtain rfl := Option.some.inj hr11
        refine o_keep [false, false, false] ?_
        exact K12
  clear hf
  refine o_if_eq (pc := 5) 20 dX12_today_5 rfl (fun hc => ?_) (fun hc => ?_)
  · have hr4 := it_t hr4 hc
    obtain rfl := Option.some.inj hr4
    exact KB5.1 rfl
  · have hr4 := it_f hr4 hc
    refine o_iload_n (pc := 8) dX12_today_8 rfl ?_
    refine o_i2l (pc := 9) dX12_today_9 ?_
    refine o_lconst (pc := 10) (v := 0) dX12_today_10 rfl ?_
    refine o_ldc2 (pc := 11) dX12_today_11 lcX12_525 ?_
    obtain ⟨q7, hk6, hr4⟩ := bd_elim hr4
    refine m_callS (pc := 14) [.long p1.toInt64, .long 0, .long 3] dX12_today_14 (kX12_in hk6) stX12_191 ⟨by decide, by decide, by decide, by decide⟩ ⟨rfl, rfl⟩ (Nat.le_of_ble_eq_true rfl) ?_
    show Rn g mdX12_today 17 [some (.ref 0), some (.int p0), some (.int p1)] [.int q7] (mW s) 0 0 (some (.int q.1)) (mW q.2)
    refine o_if_ne (pc := 17) 24 dX12_today_17 rfl (fun hc => ?_) (fun hc => ?_)
    · have hr4 := it_f hr4 hc
      obtain rfl := Option.some.inj hr4
      exact KB5.2 (by decide)
    · have hr4 := it_t hr4 hc
      obtain rfl := Option.some.inj hr4
      exact KB5.1 rfl
def fX12_ends (p0 : Int32) (s : ST) : Option (Int32 × ST) :=
  (fX12_isPerson p0 s).bind (fun q2 => if q2 = 0 then some ((-1000), s) else (fX12_looksToday s).bind (fun q4 => (fX12_meetingsOf p0 q4).bind (fun q6 => (if q6 = 0 then some (-1) else ck (inb p0 5) (some (gi q4 37 (ix p0))) : Option (Int32)).bind (fun w7 => some (w7, q4)))))
set_option maxRecDepth 20000 in
theorem kX12_ends {g : GX} {p0 : Int32} {s : ST} {q : Int32 × ST} (hf : fX12_ends p0 s = some q) : Cn g mdX12_ends [.ref 0, .int p0] (mW s) (some (.int q.1)) (mW q.2) := by
  refine Cn.of (by decide) (Nat.le_of_ble_eq_true rfl) ?_
  show Rn g mdX12_ends 0 [some (.ref 0), some (.int p0)] [] (mW s) 0 0 (some (.int q.1)) (mW q.2)
  unfold fX12_ends at hf
  refine o_aload_n (pc := 0) dX12_ends_0 rfl ?_
  refine o_iload_n (pc := 1) dX12_ends_1 rfl ?_
  obtain ⟨q2, hk1, hf⟩ := bd_elim hf
  refine m_callV (pc := 2) [.int p0] dX12_ends_2 (kX12_isPerson hk1) stX12_458 ⟨by decide, by decide, by decide, by decide⟩ ⟨rfl, rfl⟩ (Nat.le_of_ble_eq_true rfl) ?_
  show Rn g mdX12_ends 5 [some (.ref 0), some (.int p0)] [.int q2] (mW s) 0 0 (some (.int q.1)) (mW q.2)
  refine o_if_ne (pc := 5) 12 dX12_ends_5 rfl (fun hc => ?_) (fun hc => ?_)
  · have hf := it_f hf hc
    refine o_aload_n (pc := 12) dX12_ends_12 rfl ?_
    obtain ⟨q4, hk3, hf⟩ := bd_elim hf
    refine m_callV (pc := 13) [] dX12_ends_13 (kX12_looksToday hk3) stX12_527 ⟨by decide, by decide, by decide, by decide⟩ ⟨rfl, rfl⟩ (Nat.le_of_ble_eq_true rfl) ?_
    show Rn g mdX12_ends 16 [some (.ref 0), some (.int p0)] [] (mW q4) 0 0 (some (.int q.1)) (mW q.2)
    refine o_aload_n (pc := 16) dX12_ends_16 rfl ?_
    refine o_iload_n (pc := 17) dX12_ends_17 rfl ?_
    obtain ⟨q6, hk5, hf⟩ := bd_elim hf
    refine m_callV (pc := 18) [.int p0] dX12_ends_18 (kX12_meetingsOf hk5) stX12_462 ⟨by decide, by decide, by decide, by decide⟩ ⟨rfl, rfl⟩ (Nat.le_of_ble_eq_true rfl) ?_
    show Rn g mdX12_ends 21 [some (.ref 0), some (.int p0)] [.int q6] (mW q4) 0 0 (some (.int q.1)) (mW q.2)
    obtain ⟨w7, hr8, hf⟩ := bd_elim hf
    have K9 : Rn g mdX12_ends 34 [none, none] [.int w7] (mW q4) 0 0 (some (.int q.1)) (mW q.2) := by
      obtain rfl := Option.some.inj hf
      exact o_ireturn (pc := 34) dX12_ends_34 rfl (Nat.zero_le _) (Nat.zero_le _)
    clear hf
    refine o_if_ne (pc := 21) 28 dX12_ends_21 rfl (fun hc => ?_) (fun hc => ?_)
    · have hr8 := it_f hr8 hc
      refine o_aload_n (pc := 28) dX12_ends_28 rfl ?_
      refine m_getA (pc := 29) 47 37 (by decide) rfl rfl lkX12_124 dX12_ends_29 ?_
      refine o_iload_n (pc := 32) dX12_ends_32 rfl ?_
      obtain ⟨hk10, hr8⟩ := ck_elim hr8
      refine m_iald (pc := 33) (by decide) rfl hk10 dX12_ends_33 ?_
      obtain rfl := Option.some.inj hr8
      refine o_keep [false, false] ?_
      exact K9
    · have hr8 := it_t hr8 hc
      refine o_iconst (pc := 24) (v := (-1)) dX12_ends_24 rfl ?_
      refine o_goto (pc := 25) 34 dX12_ends_25 rfl ?_
      obtain rfl := Option.some.inj hr8
      refine o_keep [false, false] ?_
      exact K9
  · have hf := it_t hf hc
    refine o_sipush (pc := 8) (v := (-1000)) dX12_ends_8 rfl ?_
    obtain rfl := Option.some.inj hf
    exact o_ireturn (pc := 11) dX12_ends_11 rfl (Nat.zero_le _) (Nat.zero_le _)
def fX12_chain_L29 (a1 : Int32) : Nat → Int32 → Int32 → ST → Option (Int32 × Int32)
  | 0, _, _, _ => none
  | n + 1, x2, x3, s => ck (inb 3 13) (if (gi s 1 (ix 3)) ≤ x3 then some (x2, x3) else (fX12_meetingsOf x3 s).bind (fun q12 => (if q12 = 0 then some x2 else (if x2 = (-1) then some true else ck (inb x3 5) (ck (inb x2 5) (if (gi s 37 (ix x3)) ≤ (gi s 37 (ix x2)) then some false else some true)) : Option Bool).bind (fun b16 => if b16 = true then some x3 else some x2) : Option (Int32)).bind (fun w13 => lt (x3 + 1) (fun v21 => fX12_chain_L29 a1 n w13 v21 s))))
def fX12_chain (p0 : Int32) (s : ST) : Option (Int32 × ST) :=
  (fX12_isTown s).bind (fun q2 => (if q2 = 0 then some true else (fX12_in p0.toInt64 0 1 s).bind (fun q7 => if q7 = 0 then some true else some false) : Option Bool).bind (fun b3 => if b3 = true then some ((-1000), s) else (fX12_looksToday s).bind (fun q9 => (fX12_chain_L29 p0 FUEL (-1) 0 q9).bind (fun w22 => (if w22.1 = (-1) then some true else if p0 = 0 then some true else some false : Option Bool).bind (fun b25 => (if b25 = true then some w22.1 else ck (inb w22.1 5) (some (gi q9 37 (ix w22.1))) : Option (Int32)).bind (fun w28 => some (w28, q9)))))))
set_option maxRecDepth 20000 in
theorem kX12_chain_L29 {g : GX} (a1 : Int32) (s : ST) {r : Option Value} {h2 : PH} : ∀ (n : Nat) (x2 : Int32) (x3 : Int32) {w : Int32 × Int32}, fX12_chain_L29 a1 n x2 x3 s = some w → Rn g mdX12_chain 75 [some (.ref 0), some (.int a1), some (.int w.1), none] [] (mW s) 0 0 r h2 → Rn g mdX12_chain 29 [some (.ref 0), some (.int a1), some (.int x2), some (.int x3)] [] (mW s) 0 0 r h2 := by
  intro n
  induction n with
  | zero => intro x2 x3 w hf K; cases hf
  | succ n ih =>
    intro x2 x3 w hf K
    rw [fX12_chain_L29] at hf
    refine o_iload_n (pc := 29) dX12_chain_29 rfl ?_
    refine o_aload_n (pc := 30) dX12_chain_30 rfl ?_
    refine m_getA (pc := 31) 1 1 (by decide) rfl rfl lkX12_9 dX12_chain_31 ?_
    refine o_iconst (pc := 34) (v := 3) dX12_chain_34 rfl ?_
    obtain ⟨hk10, hf⟩ := ck_elim hf
    refine m_iald (pc := 35) (by decide) rfl hk10 dX12_chain_35 ?_
    refine o_icmp_ge (pc := 36) 75 dX12_chain_36 rfl (fun hc => ?_) (fun hc => ?_)
    · have hf := it_t hf hc
      obtain rfl := Option.some.inj hf
      refine o_keep [true, true, true, false] ?_
      exact K
    · have hf := it_f hf hc
      refine o_aload_n (pc := 39) dX12_chain_39 rfl ?_
      refine o_iload_n (pc := 40) dX12_chain_40 rfl ?_
      obtain ⟨q12, hk11, hf⟩ := bd_elim hf
      refine m_callV (pc := 41) [.int x3] dX12_chain_41 (kX12_meetingsOf hk11) stX12_462 ⟨by decide, by decide, by decide, by decide⟩ ⟨rfl, rfl⟩ (Nat.le_of_ble_eq_true rfl) ?_
      show Rn g mdX12_chain 44 [some (.ref 0), some (.int a1), some (.int x2), some (.int x3)] [.int q12] (mW s) 0 0 r h2
      obtain ⟨w13, hr14, hf⟩ := bd_elim hf
      have K15 : Rn g mdX12_chain 69 [some (.ref 0), some (.int a1), some (.int w13), some (.int x3)] [] (mW s) 0 0 r h2 := by
        refine o_iinc (pc := 69) dX12_chain_69 rfl (by decide) rfl ?_
        show Rn g mdX12_chain 72 [some (.ref 0), some (.int a1), some (.int w13), some (.int (x3 + 1))] [] (mW s) 0 0 r h2
        obtain ⟨v21, ev21, hf⟩ := lt_elim hf
        rw [ev21]
        show Rn g mdX12_chain 72 [some (.ref 0), some (.int a1), some (.int w13), some (.int v21)] [] (mW s) 0 0 r h2
        refine o_goto (pc := 72) 29 dX12_chain_72 rfl ?_
        exact ih _ _ hf K
      clear hf
      refine o_if_eq (pc := 44) 69 dX12_chain_44 rfl (fun hc => ?_) (fun hc => ?_)
      · have hr14 := it_t hr14 hc
        obtain rfl := Option.some.inj hr14
        exact K15
      · have hr14 := it_f hr14 hc
        refine o_iload_n (pc := 47) dX12_chain_47 rfl ?_
        refine o_iconst (pc := 48) (v := (-1)) dX12_chain_48 rfl ?_
        obtain ⟨b16, hr17, hr14⟩ := bd_elim hr14
        have KB18 : (b16 = true → Rn g mdX12_chain 67 [some (.ref 0), some (.int a1), some (.int x2), some (.int x3)] [] (mW s) 0 0 r h2) ∧ (¬ b16 = true → Rn g mdX12_chain 69 [some (.ref 0), some (.int a1), some (.int x2), some (.int x3)] [] (mW s) 0 0 r h2) := by
          refine ⟨fun hc => ?_, fun hc => ?_⟩
          · have hr14 := it_t hr14 hc
            refine o_iload_n (pc := 67) dX12_chain_67 rfl ?_
            refine o_istore_n (pc := 68) dX12_chain_68 (by decide) rfl ?_
            show Rn g mdX12_chain 69 [some (.ref 0), some (.int a1), some (.int x3), some (.int x3)] [] (mW s) 0 0 r h2
            obtain rfl := Option.some.inj hr14
            exact K15
          · have hr14 := it_f hr14 hc
            obtain rfl := Option.some.inj hr14
            exact K15
        clear hr14
        refine o_icmp_eq (pc := 49) 67 dX12_chain_49 rfl (fun hc => ?_) (fun hc => ?_)
        · have hr17 := it_t hr17 hc
          obtain rfl := Option.some.inj hr17
          exact KB18.1 rfl
        · have hr17 := it_f hr17 hc
          refine o_aload_n (pc := 52) dX12_chain_52 rfl ?_
          refine m_getA (pc := 53) 47 37 (by decide) rfl rfl lkX12_124 dX12_chain_53 ?_
          refine o_iload_n (pc := 56) dX12_chain_56 rfl ?_
          obtain ⟨hk19, hr17⟩ := ck_elim hr17
          refine m_iald (pc := 57) (by decide) rfl hk19 dX12_chain_57 ?_
          refine o_aload_n (pc := 58) dX12_chain_58 rfl ?_
          refine m_getA (pc := 59) 47 37 (by decide) rfl rfl lkX12_124 dX12_chain_59 ?_
          refine o_iload_n (pc := 62) dX12_chain_62 rfl ?_
          obtain ⟨hk20, hr17⟩ := ck_elim hr17
          refine m_iald (pc := 63) (by decide) rfl hk20 dX12_chain_63 ?_
          refine o_icmp_le (pc := 64) 69 dX12_chain_64 rfl (fun hc => ?_) (fun hc => ?_)
          · have hr17 := it_t hr17 hc
            obtain rfl := Option.some.inj hr17
            exact KB18.2 (by decide)
          · have hr17 := it_f hr17 hc
            obtain rfl := Option.some.inj hr17
            exact KB18.1 rfl
set_option maxRecDepth 20000 in
theorem kX12_chain {g : GX} {p0 : Int32} {s : ST} {q : Int32 × ST} (hf : fX12_chain p0 s = some q) : Cn g mdX12_chain [.ref 0, .int p0] (mW s) (some (.int q.1)) (mW q.2) := by
  refine Cn.of (by decide) (Nat.le_of_ble_eq_true rfl) ?_
  show Rn g mdX12_chain 0 [some (.ref 0), some (.int p0), none, none] [] (mW s) 0 0 (some (.int q.1)) (mW q.2)
  unfold fX12_chain at hf
  refine o_aload_n (pc := 0) dX12_chain_0 rfl ?_
  obtain ⟨q2, hk1, hf⟩ := bd_elim hf
  refine m_callV (pc := 1) [] dX12_chain_1 (kX12_isTown hk1) stX12_485 ⟨by decide, by decide, by decide, by decide⟩ ⟨rfl, rfl⟩ (Nat.le_of_ble_eq_true rfl) ?_
  show Rn g mdX12_chain 4 [some (.ref 0), some (.int p0), none, none] [.int q2] (mW s) 0 0 (some (.int q.1)) (mW q.2)
  obtain ⟨b3, hr4, hf⟩ := bd_elim hf
  have KB5 : (b3 = true → Rn g mdX12_chain 17 [some (.ref 0), some (.int p0), none, none] [] (mW s) 0 0 (some (.int q.1)) (mW q.2)) ∧ (¬ b3 = true → Rn g mdX12_chain 21 [some (.ref 0), some (.int p0), none, none] [] (mW s) 0 0 (some (.int q.1)) (mW q.2)) := by
    refine ⟨fun hc => ?_, fun hc => ?_⟩
    · have hf := it_t hf hc
      refine o_sipush (pc := 17) (v := (-1000)) dX12_chain_17 rfl ?_
      obtain rfl := Option.some.inj hf
      exact o_ireturn (pc := 20) dX12_chain_20 rfl (Nat.zero_le _) (Nat.zero_le _)
    · have hf := it_f hf hc
      refine o_aload_n (pc := 21) dX12_chain_21 rfl ?_
      obtain ⟨q9, hk8, hf⟩ := bd_elim hf
      refine m_callV (pc := 22) [] dX12_chain_22 (kX12_looksToday hk8) stX12_527 ⟨by decide, by decide, by decide, by decide⟩ ⟨rfl, rfl⟩ (Nat.le_of_ble_eq_true rfl) ?_
      show Rn g mdX12_chain 25 [some (.ref 0), some (.int p0), none, none] [] (mW q9) 0 0 (some (.int q.1)) (mW q.2)
      refine o_iconst (pc := 25) (v := (-1)) dX12_chain_25 rfl ?_
      refine o_istore_n (pc := 26) dX12_chain_26 (by decide) rfl ?_
      show Rn g mdX12_chain 27 [some (.ref 0), some (.int p0), some (.int (-1)), none] [] (mW q9) 0 0 (some (.int q.1)) (mW q.2)
      refine o_iconst (pc := 27) (v := 0) dX12_chain_27 rfl ?_
      refine o_istore_n (pc := 28) dX12_chain_28 (by decide) rfl ?_
      show Rn g mdX12_chain 29 [some (.ref 0), some (.int p0), some (.int (-1)), some (.int 0)] [] (mW q9) 0 0 (some (.int q.1)) (mW q.2)
      obtain ⟨w22, hl23, hf⟩ := bd_elim hf
      have K24 : Rn g mdX12_chain 75 [some (.ref 0), some (.int p0), some (.int w22.1), none] [] (mW q9) 0 0 (some (.int q.1)) (mW q.2) := by
        refine o_iload_n (pc := 75) dX12_chain_75 rfl ?_
        refine o_iconst (pc := 76) (v := (-1)) dX12_chain_76 rfl ?_
        obtain ⟨b25, hr26, hf⟩ := bd_elim hf
        obtain ⟨w28, hr29, hf⟩ := bd_elim hf
        have K30 : Rn g mdX12_chain 94 [none, none, none, none] [.int w28] (mW q9) 0 0 (some (.int q.1)) (mW q.2) := by
          obtain rfl := Option.some.inj hf
          exact o_ireturn (pc := 94) dX12_chain_94 rfl (Nat.zero_le _) (Nat.zero_le _)
        clear hf
        have KB27 : (b25 = true → Rn g mdX12_chain 84 [some (.ref 0), some (.int p0), some (.int w22.1), none] [] (mW q9) 0 0 (some (.int q.1)) (mW q.2)) ∧ (¬ b25 = true → Rn g mdX12_chain 88 [some (.ref 0), some (.int p0), some (.int w22.1), none] [] (mW q9) 0 0 (some (.int q.1)) (mW q.2)) := by
          refine ⟨fun hc => ?_, fun hc => ?_⟩
          · have hr29 := it_t hr29 hc
            refine o_iload_n (pc := 84) dX12_chain_84 rfl ?_
            refine o_goto (pc := 85) 94 dX12_chain_85 rfl ?_
            obtain rfl := Option.some.inj hr29
            refine o_keep [false, false, false, false] ?_
            exact K30
          · have hr29 := it_f hr29 hc
            refine o_aload_n (pc := 88) dX12_chain_88 rfl ?_
            refine m_getA (pc := 89) 47 37 (by decide) rfl rfl lkX12_124 dX12_chain_89 ?_
            refine o_iload_n (pc := 92) dX12_chain_92 rfl ?_
            obtain ⟨hk31, hr29⟩ := ck_elim hr29
            refine m_iald (pc := 93) (by decide) rfl hk31 dX12_chain_93 ?_
            obtain rfl := Option.some.inj hr29
            refine o_keep [false, false, false, false] ?_
            exact K30
        clear hr29
        refine o_icmp_eq (pc := 77) 84 dX12_chain_77 rfl (fun hc => ?_) (fun hc => ?_)
        · have hr26 := it_t hr26 hc
          obtain rfl := Option.some.inj hr26
          exact KB27.1 rfl
        · have hr26 := it_f hr26 hc
          refine o_iload_n (pc := 80) dX12_chain_80 rfl ?_
          refine o_if_ne (pc := 81) 88 dX12_chain_81 rfl (fun hc => ?_) (fun hc => ?_)
          · have hr26 := it_f hr26 hc
            obtain rfl := Option.some.inj hr26
            exact KB27.2 (by decide)
          · have hr26 := it_t hr26 hc
            obtain rfl := Option.some.inj hr26
            exact KB27.1 rfl
      exact kX12_chain_L29 _ _ _ _ _ hl23 K24
  clear hf
  refine o_if_eq (pc := 4) 17 dX12_chain_4 rfl (fun hc => ?_) (fun hc => ?_)
  · have hr4 := it_t hr4 hc
    obtain rfl := Option.some.inj hr4
    exact KB5.1 rfl
  · have hr4 := it_f hr4 hc
    refine o_iload_n (pc := 7) dX12_chain_7 rfl ?_
    refine o_i2l (pc := 8) dX12_chain_8 ?_
    refine o_lconst (pc := 9) (v := 0) dX12_chain_9 rfl ?_
    refine o_lconst (pc := 10) (v := 1) dX12_chain_10 rfl ?_
    obtain ⟨q7, hk6, hr4⟩ := bd_elim hr4
    refine m_callS (pc := 11) [.long p0.toInt64, .long 0, .long 1] dX12_chain_11 (kX12_in hk6) stX12_191 ⟨by decide, by decide, by decide, by decide⟩ ⟨rfl, rfl⟩ (Nat.le_of_ble_eq_true rfl) ?_
    show Rn g mdX12_chain 14 [some (.ref 0), some (.int p0), none, none] [.int q7] (mW s) 0 0 (some (.int q.1)) (mW q.2)
    refine o_if_ne (pc := 14) 21 dX12_chain_14 rfl (fun hc => ?_) (fun hc => ?_)
    · have hr4 := it_f hr4 hc
      obtain rfl := Option.some.inj hr4
      exact KB5.2 (by decide)
    · have hr4 := it_t hr4 hc
      obtain rfl := Option.some.inj hr4
      exact KB5.1 rfl
