def fX11_isPerson (p0 : Int32) (s : ST) : Option (Int32) :=
  (if p0 < 0 then some false else if (gi s 18 7) ≤ p0 then some false else some true : Option Bool).bind (fun b1 => (if b1 = true then some 1 else some 0 : Option (Int32)).bind (fun w4 => ck (bz w4) (some w4)))
set_option maxRecDepth 20000 in
theorem kX11_isPerson {g : GX} {t : PH} {p0 : Int32} {s : ST} {q : Int32} (hf : fX11_isPerson p0 s = some q) : Cn g mdX11_isPerson [.ref 0, .int p0] (cW t s) (some (.int q)) (cW t s) := by
  refine Cn.of (by decide) (Nat.le_of_ble_eq_true rfl) ?_
  show Rn g mdX11_isPerson 0 [some (.ref 0), some (.int p0)] [] (cW t s) 0 0 (some (.int q)) (cW t s)
  unfold fX11_isPerson at hf
  refine o_iload_n (pc := 0) dX11_isPerson_0 rfl ?_
  obtain ⟨b1, hr2, hf⟩ := bd_elim hf
  obtain ⟨w4, hr5, hf⟩ := bd_elim hf
  have K6 : Rn g mdX11_isPerson 23 [none, none] [.int w4] (cW t s) 0 0 (some (.int q)) (cW t s) := by
    obtain ⟨hk7, hf⟩ := ck_elim hf
    obtain rfl := Option.some.inj hf
    exact o_zreturn (pc := 23) dX11_isPerson_23 rfl (bz_n hk7).1 (Nat.zero_le _) (Nat.zero_le _)
  clear hf
  have KB3 : (b1 = true → Rn g mdX11_isPerson 18 [some (.ref 0), some (.int p0)] [] (cW t s) 0 0 (some (.int q)) (cW t s)) ∧ (¬ b1 = true → Rn g mdX11_isPerson 22 [some (.ref 0), some (.int p0)] [] (cW t s) 0 0 (some (.int q)) (cW t s)) := by
    refine ⟨fun hc => ?_, fun hc => ?_⟩
    · have hr5 := it_t hr5 hc
      refine o_iconst (pc := 18) (v := 1) dX11_isPerson_18 rfl ?_
      refine o_goto (pc := 19) 23 dX11_isPerson_19 rfl ?_
      obtain rfl := Option.some.inj hr5
      refine o_keep [false, false] ?_
      exact K6
    · have hr5 := it_f hr5 hc
      refine o_iconst (pc := 22) (v := 0) dX11_isPerson_22 rfl ?_
      obtain rfl := Option.some.inj hr5
      refine o_keep [false, false] ?_
      exact K6
  clear hr5
  refine o_if_lt (pc := 1) 22 dX11_isPerson_1 rfl (fun hc => ?_) (fun hc => ?_)
  · have hr2 := it_t hr2 hc
    obtain rfl := Option.some.inj hr2
    exact KB3.2 (by decide)
  · have hr2 := it_f hr2 hc
    refine o_iload_n (pc := 4) dX11_isPerson_4 rfl ?_
    refine o_aload_n (pc := 5) dX11_isPerson_5 rfl ?_
    refine c_getR (pc := 6) 10 5 0 17 (by decide) (by decide) rfl (lt48 (by decide)) rfl rfl lkX11_45 dX11_isPerson_6 ?_
    refine c_getR (pc := 9) 9 0 17 18 (by decide) (by decide) rfl (lt48 (by decide)) rfl rfl lkX11_86 dX11_isPerson_9 ?_
    refine c_getI (pc := 12) 6 7 18 (by decide) (by decide) rfl (lt48 (by decide)) rfl lkX11_188 dX11_isPerson_12 ?_
    refine o_icmp_ge (pc := 15) 22 dX11_isPerson_15 rfl (fun hc => ?_) (fun hc => ?_)
    · have hr2 := it_t hr2 hc
      obtain rfl := Option.some.inj hr2
      exact KB3.2 (by decide)
    · have hr2 := it_f hr2 hc
      obtain rfl := Option.some.inj hr2
      exact KB3.1 rfl
def fX5_isExempt_25 (p0 : Int32) (s : ST) : Option (Int32) :=
  ck (inb 44 46) ((if (((gi s 26 (ix 44)) >>> (p0 &&& 31)) &&& 1) = 1 then some 1 else some 0 : Option (Int32)).bind (fun w2 => ck (bz w2) (some w2)))
set_option maxRecDepth 20000 in
theorem kX5_isExempt_25 {g : GX} {t : PH} {p0 : Int32} {s : ST} {q : Int32} (hf : fX5_isExempt_25 p0 s = some q) : Cn g mdX5_isExempt [.ref 25, .int p0] (cW t s) (some (.int q)) (cW t s) := by
  refine Cn.of (by decide) (Nat.le_of_ble_eq_true rfl) ?_
  show Rn g mdX5_isExempt 0 [some (.ref 25), some (.int p0)] [] (cW t s) 0 0 (some (.int q)) (cW t s)
  unfold fX5_isExempt_25 at hf
  refine o_aload_n (pc := 0) dX5_isExempt_0 rfl ?_
  refine c_getR (pc := 1) 4 0 25 26 (by decide) (by decide) rfl (lt48 (by decide)) rfl rfl lkX5_11 dX5_isExempt_1 ?_
  refine o_bipush (pc := 4) (v := 44) dX5_isExempt_4 rfl ?_
  obtain ⟨hk1, hf⟩ := ck_elim hf
  refine c_iald (pc := 6) (lt48 (by decide)) rfl hk1 dX5_isExempt_6 ?_
  refine o_iload_n (pc := 7) dX5_isExempt_7 rfl ?_
  refine o_ishr (pc := 8) dX5_isExempt_8 ?_
  refine o_iconst (pc := 9) (v := 1) dX5_isExempt_9 rfl ?_
  refine o_iand (pc := 10) dX5_isExempt_10 ?_
  refine o_iconst (pc := 11) (v := 1) dX5_isExempt_11 rfl ?_
  obtain ⟨w2, hr3, hf⟩ := bd_elim hf
  have K4 : Rn g mdX5_isExempt 20 [none, none] [.int w2] (cW t s) 0 0 (some (.int q)) (cW t s) := by
    obtain ⟨hk5, hf⟩ := ck_elim hf
    obtain rfl := Option.some.inj hf
    exact o_zreturn (pc := 20) dX5_isExempt_20 rfl (bz_n hk5).1 (Nat.zero_le _) (Nat.zero_le _)
  clear hf
  refine o_icmp_ne (pc := 12) 19 dX5_isExempt_12 rfl (fun hc => ?_) (fun hc => ?_)
  · have hr3 := it_f hr3 hc
    refine o_iconst (pc := 19) (v := 0) dX5_isExempt_19 rfl ?_
    obtain rfl := Option.some.inj hr3
    refine o_keep [false, false] ?_
    exact K4
  · have hr3 := it_t hr3 hc
    refine o_iconst (pc := 15) (v := 1) dX5_isExempt_15 rfl ?_
    refine o_goto (pc := 16) 20 dX5_isExempt_16 rfl ?_
    obtain rfl := Option.some.inj hr3
    refine o_keep [false, false] ?_
    exact K4
def fX7_meetingsOf_18_L4 (a1 : Int32) : Nat → Int32 → Int32 → ST → Option (Int32 × Int32)
  | 0, _, _, _ => none
  | n + 1, x2, x3, s => if (gi s 18 8) ≤ x3 then some (x2, x3) else ck (inb x3 8) ((if (gi s 21 (ix x3)) = a1 then some true else ck (inb x3 8) (if (gi s 22 (ix x3)) = a1 then some true else some false) : Option Bool).bind (fun b2 => (if b2 = true then lt (x2 ||| (1 <<< (x3 &&& 31)) : Int32) (fun v9 => some v9) else some x2 : Option (Int32)).bind (fun w6 => lt (x3 + 1) (fun v10 => fX7_meetingsOf_18_L4 a1 n w6 v10 s))))
def fX7_meetingsOf_18 (p0 : Int32) (s : ST) : Option (Int32) :=
  (fX7_meetingsOf_18_L4 p0 FUEL 0 0 s).bind (fun w11 => some w11.1)
set_option maxRecDepth 20000 in
theorem kX7_meetingsOf_18_L4 {g : GX} {t : PH} (a1 : Int32) (s : ST) {r : Option Value} {h2 : PH} : ∀ (n : Nat) (x2 : Int32) (x3 : Int32) {w : Int32 × Int32}, fX7_meetingsOf_18_L4 a1 n x2 x3 s = some w → Rn g mdX7_meetingsOf 44 [none, none, some (.int w.1), none] [] (cW t s) 0 0 r h2 → Rn g mdX7_meetingsOf 4 [some (.ref 18), some (.int a1), some (.int x2), some (.int x3)] [] (cW t s) 0 0 r h2 := by
  intro n
  induction n with
  | zero => intro x2 x3 w hf K; cases hf
  | succ n ih =>
    intro x2 x3 w hf K
    rw [fX7_meetingsOf_18_L4] at hf
    refine o_iload_n (pc := 4) dX7_meetingsOf_4 rfl ?_
    refine o_aload_n (pc := 5) dX7_meetingsOf_5 rfl ?_
    refine c_getI (pc := 6) 6 8 18 (by decide) (by decide) rfl (lt48 (by decide)) rfl lkX7_37 dX7_meetingsOf_6 ?_
    refine o_icmp_ge (pc := 9) 44 dX7_meetingsOf_9 rfl (fun hc => ?_) (fun hc => ?_)
    · have hf := it_t hf hc
      obtain rfl := Option.some.inj hf
      refine o_keep [false, false, true, false] ?_
      exact K
    · have hf := it_f hf hc
      refine o_aload_n (pc := 12) dX7_meetingsOf_12 rfl ?_
      refine c_getR (pc := 13) 6 11 18 21 (by decide) (by decide) rfl (lt48 (by decide)) rfl rfl lkX7_47 dX7_meetingsOf_13 ?_
      refine o_iload_n (pc := 16) dX7_meetingsOf_16 rfl ?_
      obtain ⟨hk1, hf⟩ := ck_elim hf
      refine c_iald (pc := 17) (lt48 (by decide)) rfl hk1 dX7_meetingsOf_17 ?_
      refine o_iload_n (pc := 18) dX7_meetingsOf_18 rfl ?_
      obtain ⟨b2, hr3, hf⟩ := bd_elim hf
      obtain ⟨w6, hr7, hf⟩ := bd_elim hf
      have K8 : Rn g mdX7_meetingsOf 38 [some (.ref 18), some (.int a1), some (.int w6), some (.int x3)] [] (cW t s) 0 0 r h2 := by
        refine o_iinc (pc := 38) dX7_meetingsOf_38 rfl (by decide) rfl ?_
        show Rn g mdX7_meetingsOf 41 [some (.ref 18), some (.int a1), some (.int w6), some (.int (x3 + 1))] [] (cW t s) 0 0 r h2
        obtain ⟨v10, ev10, hf⟩ := lt_elim hf
        rw [ev10]
        show Rn g mdX7_meetingsOf 41 [some (.ref 18), some (.int a1), some (.int w6), some (.int v10)] [] (cW t s) 0 0 r h2
        refine o_goto (pc := 41) 4 dX7_meetingsOf_41 rfl ?_
        exact ih _ _ hf K
      clear hf
      have KB4 : (b2 = true → Rn g mdX7_meetingsOf 32 [some (.ref 18), some (.int a1), some (.int x2), some (.int x3)] [] (cW t s) 0 0 r h2) ∧ (¬ b2 = true → Rn g mdX7_meetingsOf 38 [some (.ref 18), some (.int a1), some (.int x2), some (.int x3)] [] (cW t s) 0 0 r h2) := by
        refine ⟨fun hc => ?_, fun hc => ?_⟩
        · have hr7 := it_t hr7 hc
          refine o_iload_n (pc := 32) dX7_meetingsOf_32 rfl ?_
          refine o_iconst (pc := 33) (v := 1) dX7_meetingsOf_33 rfl ?_
          refine o_iload_n (pc := 34) dX7_meetingsOf_34 rfl ?_
          refine o_ishl (pc := 35) dX7_meetingsOf_35 ?_
          refine o_ior (pc := 36) dX7_meetingsOf_36 ?_
          refine lz_i hr7 (fun v9 hr7 => ?_)
          refine o_istore_n (pc := 37) dX7_meetingsOf_37 (by decide) rfl ?_
          show Rn g mdX7_meetingsOf 38 [some (.ref 18), some (.int a1), some (.int v9), some (.int x3)] [] (cW t s) 0 0 r h2
          obtain rfl := Option.some.inj hr7
          exact K8
        · have hr7 := it_f hr7 hc
          obtain rfl := Option.some.inj hr7
          exact K8
      clear hr7
      refine o_icmp_eq (pc := 19) 32 dX7_meetingsOf_19 rfl (fun hc => ?_) (fun hc => ?_)
      · have hr3 := it_t hr3 hc
        obtain rfl := Option.some.inj hr3
        exact KB4.1 rfl
      · have hr3 := it_f hr3 hc
        refine o_aload_n (pc := 22) dX7_meetingsOf_22 rfl ?_
        refine c_getR (pc := 23) 6 12 18 22 (by decide) (by decide) rfl (lt48 (by decide)) rfl rfl lkX7_50 dX7_meetingsOf_23 ?_
        refine o_iload_n (pc := 26) dX7_meetingsOf_26 rfl ?_
        obtain ⟨hk5, hr3⟩ := ck_elim hr3
        refine c_iald (pc := 27) (lt48 (by decide)) rfl hk5 dX7_meetingsOf_27 ?_
        refine o_iload_n (pc := 28) dX7_meetingsOf_28 rfl ?_
        refine o_icmp_ne (pc := 29) 38 dX7_meetingsOf_29 rfl (fun hc => ?_) (fun hc => ?_)
        · have hr3 := it_f hr3 hc
          obtain rfl := Option.some.inj hr3
          exact KB4.2 (by decide)
        · have hr3 := it_t hr3 hc
          obtain rfl := Option.some.inj hr3
          exact KB4.1 rfl
set_option maxRecDepth 20000 in
theorem kX7_meetingsOf_18 {g : GX} {t : PH} {p0 : Int32} {s : ST} {q : Int32} (hf : fX7_meetingsOf_18 p0 s = some q) : Cn g mdX7_meetingsOf [.ref 18, .int p0] (cW t s) (some (.int q)) (cW t s) := by
  refine Cn.of (by decide) (Nat.le_of_ble_eq_true rfl) ?_
  show Rn g mdX7_meetingsOf 0 [some (.ref 18), some (.int p0), none, none] [] (cW t s) 0 0 (some (.int q)) (cW t s)
  unfold fX7_meetingsOf_18 at hf
  refine o_iconst (pc := 0) (v := 0) dX7_meetingsOf_0 rfl ?_
  refine o_istore_n (pc := 1) dX7_meetingsOf_1 (by decide) rfl ?_
  show Rn g mdX7_meetingsOf 2 [some (.ref 18), some (.int p0), some (.int 0), none] [] (cW t s) 0 0 (some (.int q)) (cW t s)
  refine o_iconst (pc := 2) (v := 0) dX7_meetingsOf_2 rfl ?_
  refine o_istore_n (pc := 3) dX7_meetingsOf_3 (by decide) rfl ?_
  show Rn g mdX7_meetingsOf 4 [some (.ref 18), some (.int p0), some (.int 0), some (.int 0)] [] (cW t s) 0 0 (some (.int q)) (cW t s)
  obtain ⟨w11, hl12, hf⟩ := bd_elim hf
  have K13 : Rn g mdX7_meetingsOf 44 [none, none, some (.int w11.1), none] [] (cW t s) 0 0 (some (.int q)) (cW t s) := by
    refine o_iload_n (pc := 44) dX7_meetingsOf_44 rfl ?_
    obtain rfl := Option.some.inj hf
    exact o_ireturn (pc := 45) dX7_meetingsOf_45 rfl (Nat.zero_le _) (Nat.zero_le _)
  exact kX7_meetingsOf_18_L4 _ _ _ _ _ hl12 K13
def fX11_person (p0 : Int32) (p1 : Int32) (s : ST) : Option (Int32) :=
  (fX11_isPerson p0 s).bind (fun q2 => if q2 = 0 then some (-1000) else if p1 = 0 then ck (inb p0 5) (some (gi s 19 (ix p0))) else if p1 = 1 then ck (inb (0 + p0) 46) (some (gi s 26 (ix (0 + p0)))) else if p1 = 2 then (fX5_isExempt_25 p0 s).bind (fun q9 => (if q9 = 0 then some 0 else some 1 : Option (Int32)).bind (fun w10 => some w10)) else if p1 = 3 then ck (inb (5 + p0) 46) (some (gi s 26 (ix (5 + p0)))) else if p1 = 4 then ck (inb (10 + p0) 46) (some (gi s 26 (ix (10 + p0)))) else if p1 = 5 then ck (inb (15 + p0) 46) (some (gi s 26 (ix (15 + p0)))) else if p1 = 6 then (fX7_meetingsOf_18 p0 s).bind (fun q21 => some q21) else some (-1000))
set_option maxRecDepth 20000 in
theorem kX11_person {g : GX} {t : PH} {p0 : Int32} {p1 : Int32} {s : ST} {q : Int32} (hf : fX11_person p0 p1 s = some q) : Cn g mdX11_person [.ref 0, .int p0, .int p1] (cW t s) (some (.int q)) (cW t s) := by
  refine Cn.of (by decide) (Nat.le_of_ble_eq_true rfl) ?_
  show Rn g mdX11_person 0 [some (.ref 0), some (.int p0), some (.int p1), none] [] (cW t s) 0 0 (some (.int q)) (cW t s)
  unfold fX11_person at hf
  refine o_aload_n (pc := 0) dX11_person_0 rfl ?_
  refine o_iload_n (pc := 1) dX11_person_1 rfl ?_
  obtain ⟨q2, hk1, hf⟩ := bd_elim hf
  refine c_callV (pc := 2) 10 0 [.int p0] (by decide) (lt48 (by decide)) rfl dX11_person_2 (kX11_isPerson hk1) stX11_100 ⟨by decide, by decide, by decide, by decide⟩ ⟨rfl, rfl⟩ (Nat.le_of_ble_eq_true rfl) ?_
  show Rn g mdX11_person 5 [some (.ref 0), some (.int p0), some (.int p1), none] [.int q2] (cW t s) 0 0 (some (.int q)) (cW t s)
  refine o_if_ne (pc := 5) 12 dX11_person_5 rfl (fun hc => ?_) (fun hc => ?_)
  · have hf := it_f hf hc
    refine o_aload_n (pc := 12) dX11_person_12 rfl ?_
    refine c_getR (pc := 13) 10 5 0 17 (by decide) (by decide) rfl (lt48 (by decide)) rfl rfl lkX11_45 dX11_person_13 ?_
    refine c_getR (pc := 16) 9 1 17 25 (by decide) (by decide) rfl (lt48 (by decide)) rfl rfl lkX11_104 dX11_person_16 ?_
    refine c_getR (pc := 19) 4 0 25 26 (by decide) (by decide) rfl (lt48 (by decide)) rfl rfl lkX11_108 dX11_person_19 ?_
    refine o_astore_n (pc := 22) dX11_person_22 (by decide) rfl ?_
    show Rn g mdX11_person 23 [some (.ref 0), some (.int p0), some (.int p1), some (.ref 26)] [] (cW t s) 0 0 (some (.int q)) (cW t s)
    refine o_iload_n (pc := 23) dX11_person_23 rfl ?_
    by_cases hx3 : p1 = 0
    · have hf := it_t hf hx3
      refine o_tableIn (pc := 24) 68 dX11_person_24 (by rw [hx3] <;> decide) (by rw [hx3] <;> decide) (by rw [hx3] <;> rfl) rfl ?_
      refine o_aload_n (pc := 68) dX11_person_68 rfl ?_
      refine c_getR (pc := 69) 10 5 0 17 (by decide) (by decide) rfl (lt48 (by decide)) rfl rfl lkX11_45 dX11_person_69 ?_
      refine c_getR (pc := 72) 9 0 17 18 (by decide) (by decide) rfl (lt48 (by decide)) rfl rfl lkX11_86 dX11_person_72 ?_
      refine c_getR (pc := 75) 6 9 18 19 (by decide) (by decide) rfl (lt48 (by decide)) rfl rfl lkX11_114 dX11_person_75 ?_
      refine o_iload_n (pc := 78) dX11_person_78 rfl ?_
      obtain ⟨hk4, hf⟩ := ck_elim hf
      refine c_iald (pc := 79) (lt48 (by decide)) rfl hk4 dX11_person_79 ?_
      obtain rfl := Option.some.inj hf
      exact o_ireturn (pc := 80) dX11_person_80 rfl (Nat.zero_le _) (Nat.zero_le _)
    have hf := it_f hf hx3
    by_cases hx5 : p1 = 1
    · have hf := it_t hf hx5
      refine o_tableIn (pc := 24) 81 dX11_person_24 (by rw [hx5] <;> decide) (by rw [hx5] <;> decide) (by rw [hx5] <;> rfl) rfl ?_
      refine o_aload_n (pc := 81) dX11_person_81 rfl ?_
      refine o_iconst (pc := 82) (v := 0) dX11_person_82 rfl ?_
      refine o_iload_n (pc := 83) dX11_person_83 rfl ?_
      refine o_iadd (pc := 84) dX11_person_84 ?_
      obtain ⟨hk6, hf⟩ := ck_elim hf
      refine c_iald (pc := 85) (lt48 (by decide)) rfl hk6 dX11_person_85 ?_
      obtain rfl := Option.some.inj hf
      exact o_ireturn (pc := 86) dX11_person_86 rfl (Nat.zero_le _) (Nat.zero_le _)
    have hf := it_f hf hx5
    by_cases hx7 : p1 = 2
    · have hf := it_t hf hx7
      refine o_tableIn (pc := 24) 87 dX11_person_24 (by rw [hx7] <;> decide) (by rw [hx7] <;> decide) (by rw [hx7] <;> rfl) rfl ?_
      refine o_aload_n (pc := 87) dX11_person_87 rfl ?_
      refine c_getR (pc := 88) 10 5 0 17 (by decide) (by decide) rfl (lt48 (by decide)) rfl rfl lkX11_45 dX11_person_88 ?_
      refine c_getR (pc := 91) 9 1 17 25 (by decide) (by decide) rfl (lt48 (by decide)) rfl rfl lkX11_104 dX11_person_91 ?_
      refine o_iload_n (pc := 94) dX11_person_94 rfl ?_
      obtain ⟨q9, hk8, hf⟩ := bd_elim hf
      refine c_callV (pc := 95) 4 25 [.int p0] (by decide) (lt48 (by decide)) rfl dX11_person_95 (kX5_isExempt_25 hk8) stX11_117 ⟨by decide, by decide, by decide, by decide⟩ ⟨rfl, rfl⟩ (Nat.le_of_ble_eq_true rfl) ?_
      show Rn g mdX11_person 98 [some (.ref 0), some (.int p0), some (.int p1), some (.ref 26)] [.int q9] (cW t s) 0 0 (some (.int q)) (cW t s)
      obtain ⟨w10, hr11, hf⟩ := bd_elim hf
      have K12 : Rn g mdX11_person 106 [none, none, none, none] [.int w10] (cW t s) 0 0 (some (.int q)) (cW t s) := by
        obtain rfl := Option.some.inj hf
        exact o_ireturn (pc := 106) dX11_person_106 rfl (Nat.zero_le _) (Nat.zero_le _)
      clear hf
      refine o_if_eq (pc := 98) 105 dX11_person_98 rfl (fun hc => ?_) (fun hc => ?_)
      · have hr11 := it_t hr11 hc
        refine o_iconst (pc := 105) (v := 0) dX11_person_105 rfl ?_
        obtain rfl := Option.some.inj hr11
        refine o_keep [false, false, false, false] ?_
        exact K12
      · have hr11 := it_f hr11 hc
        refine o_iconst (pc := 101) (v := 1) dX11_person_101 rfl ?_
        refine o_goto (pc := 102) 106 dX11_person_102 rfl ?_
        obtain rfl := Option.some.inj hr11
        refine o_keep [false, false, false, false] ?_
        exact K12
    have hf := it_f hf hx7
    by_cases hx13 : p1 = 3
    · have hf := it_t hf hx13
      refine o_tableIn (pc := 24) 107 dX11_person_24 (by rw [hx13] <;> decide) (by rw [hx13] <;> decide) (by rw [hx13] <;> rfl) rfl ?_
      refine o_aload_n (pc := 107) dX11_person_107 rfl ?_
      refine o_iconst (pc := 108) (v := 5) dX11_person_108 rfl ?_
      refine o_iload_n (pc := 109) dX11_person_109 rfl ?_
      refine o_iadd (pc := 110) dX11_person_110 ?_
      obtain ⟨hk14, hf⟩ := ck_elim hf
      refine c_iald (pc := 111) (lt48 (by decide)) rfl hk14 dX11_person_111 ?_
      obtain rfl := Option.some.inj hf
      exact o_ireturn (pc := 112) dX11_person_112 rfl (Nat.zero_le _) (Nat.zero_le _)
    have hf := it_f hf hx13
    by_cases hx15 : p1 = 4
    · have hf := it_t hf hx15
      refine o_tableIn (pc := 24) 113 dX11_person_24 (by rw [hx15] <;> decide) (by rw [hx15] <;> decide) (by rw [hx15] <;> rfl) rfl ?_
      refine o_aload_n (pc := 113) dX11_person_113 rfl ?_
      refine o_bipush (pc := 114) (v := 10) dX11_person_114 rfl ?_
      refine o_iload_n (pc := 116) dX11_person_116 rfl ?_
      refine o_iadd (pc := 117) dX11_person_117 ?_
      obtain ⟨hk16, hf⟩ := ck_elim hf
      refine c_iald (pc := 118) (lt48 (by decide)) rfl hk16 dX11_person_118 ?_
      obtain rfl := Option.some.inj hf
      exact o_ireturn (pc := 119) dX11_person_119 rfl (Nat.zero_le _) (Nat.zero_le _)
    have hf := it_f hf hx15
    by_cases hx17 : p1 = 5
    · have hf := it_t hf hx17
      refine o_tableIn (pc := 24) 120 dX11_person_24 (by rw [hx17] <;> decide) (by rw [hx17] <;> decide) (by rw [hx17] <;> rfl) rfl ?_
      refine o_aload_n (pc := 120) dX11_person_120 rfl ?_
      refine o_bipush (pc := 121) (v := 15) dX11_person_121 rfl ?_
      refine o_iload_n (pc := 123) dX11_person_123 rfl ?_
      refine o_iadd (pc := 124) dX11_person_124 ?_
      obtain ⟨hk18, hf⟩ := ck_elim hf
      refine c_iald (pc := 125) (lt48 (by decide)) rfl hk18 dX11_person_125 ?_
      obtain rfl := Option.some.inj hf
      exact o_ireturn (pc := 126) dX11_person_126 rfl (Nat.zero_le _) (Nat.zero_le _)
    have hf := it_f hf hx17
    by_cases hx19 : p1 = 6
    · have hf := it_t hf hx19
      refine o_tableIn (pc := 24) 127 dX11_person_24 (by rw [hx19] <;> decide) (by rw [hx19] <;> decide) (by rw [hx19] <;> rfl) rfl ?_
      refine o_aload_n (pc := 127) dX11_person_127 rfl ?_
      refine c_getR (pc := 128) 10 5 0 17 (by decide) (by decide) rfl (lt48 (by decide)) rfl rfl lkX11_45 dX11_person_128 ?_
      refine c_getR (pc := 131) 9 0 17 18 (by decide) (by decide) rfl (lt48 (by decide)) rfl rfl lkX11_86 dX11_person_131 ?_
      refine o_iload_n (pc := 134) dX11_person_134 rfl ?_
      obtain ⟨q21, hk20, hf⟩ := bd_elim hf
      refine c_callV (pc := 135) 6 18 [.int p0] (by decide) (lt48 (by decide)) rfl dX11_person_135 (kX7_meetingsOf_18 hk20) stX11_120 ⟨by decide, by decide, by decide, by decide⟩ ⟨rfl, rfl⟩ (Nat.le_of_ble_eq_true rfl) ?_
      show Rn g mdX11_person 138 [some (.ref 0), some (.int p0), some (.int p1), some (.ref 26)] [.int q21] (cW t s) 0 0 (some (.int q)) (cW t s)
      obtain rfl := Option.some.inj hf
      exact o_ireturn (pc := 138) dX11_person_138 rfl (Nat.zero_le _) (Nat.zero_le _)
    have hf := it_f hf hx19
    refine o_tableOut (pc := 24) 139 dX11_person_24 (sw_out 0 6 (fun n hn => ?_)) rfl ?_
    · match n, hn with
      | 0, _ => exact sw_ne hx3 rfl
      | 1, _ => exact sw_ne hx5 rfl
      | 2, _ => exact sw_ne hx7 rfl
      | 3, _ => exact sw_ne hx13 rfl
      | 4, _ => exact sw_ne hx15 rfl
      | 5, _ => exact sw_ne hx17 rfl
      | 6, _ => exact sw_ne hx19 rfl
      | n + 7, h => exact absurd h (by omega)
    · refine o_sipush (pc := 139) (v := (-1000)) dX11_person_139 rfl ?_
      obtain rfl := Option.some.inj hf
      exact o_ireturn (pc := 142) dX11_person_142 rfl (Nat.zero_le _) (Nat.zero_le _)
  · have hf := it_t hf hc
    refine o_sipush (pc := 8) (v := (-1000)) dX11_person_8 rfl ?_
    obtain rfl := Option.some.inj hf
    exact o_ireturn (pc := 11) dX11_person_11 rfl (Nat.zero_le _) (Nat.zero_le _)
def fX11_isMeeting (p0 : Int32) (s : ST) : Option (Int32) :=
  (if p0 < 0 then some false else if (gi s 18 8) ≤ p0 then some false else some true : Option Bool).bind (fun b1 => (if b1 = true then some 1 else some 0 : Option (Int32)).bind (fun w4 => ck (bz w4) (some w4)))
set_option maxRecDepth 20000 in
theorem kX11_isMeeting {g : GX} {t : PH} {p0 : Int32} {s : ST} {q : Int32} (hf : fX11_isMeeting p0 s = some q) : Cn g mdX11_isMeeting [.ref 0, .int p0] (cW t s) (some (.int q)) (cW t s) := by
  refine Cn.of (by decide) (Nat.le_of_ble_eq_true rfl) ?_
  show Rn g mdX11_isMeeting 0 [some (.ref 0), some (.int p0)] [] (cW t s) 0 0 (some (.int q)) (cW t s)
  unfold fX11_isMeeting at hf
  refine o_iload_n (pc := 0) dX11_isMeeting_0 rfl ?_
  obtain ⟨b1, hr2, hf⟩ := bd_elim hf
  obtain ⟨w4, hr5, hf⟩ := bd_elim hf
  have K6 : Rn g mdX11_isMeeting 23 [none, none] [.int w4] (cW t s) 0 0 (some (.int q)) (cW t s) := by
    obtain ⟨hk7, hf⟩ := ck_elim hf
    obtain rfl := Option.some.inj hf
    exact o_zreturn (pc := 23) dX11_isMeeting_23 rfl (bz_n hk7).1 (Nat.zero_le _) (Nat.zero_le _)
  clear hf
  have KB3 : (b1 = true → Rn g mdX11_isMeeting 18 [some (.ref 0), some (.int p0)] [] (cW t s) 0 0 (some (.int q)) (cW t s)) ∧ (¬ b1 = true → Rn g mdX11_isMeeting 22 [some (.ref 0), some (.int p0)] [] (cW t s) 0 0 (some (.int q)) (cW t s)) := by
    refine ⟨fun hc => ?_, fun hc => ?_⟩
    · have hr5 := it_t hr5 hc
      refine o_iconst (pc := 18) (v := 1) dX11_isMeeting_18 rfl ?_
      refine o_goto (pc := 19) 23 dX11_isMeeting_19 rfl ?_
      obtain rfl := Option.some.inj hr5
      refine o_keep [false, false] ?_
      exact K6
    · have hr5 := it_f hr5 hc
      refine o_iconst (pc := 22) (v := 0) dX11_isMeeting_22 rfl ?_
      obtain rfl := Option.some.inj hr5
      refine o_keep [false, false] ?_
      exact K6
  clear hr5
  refine o_if_lt (pc := 1) 22 dX11_isMeeting_1 rfl (fun hc => ?_) (fun hc => ?_)
  · have hr2 := it_t hr2 hc
    obtain rfl := Option.some.inj hr2
    exact KB3.2 (by decide)
  · have hr2 := it_f hr2 hc
    refine o_iload_n (pc := 4) dX11_isMeeting_4 rfl ?_
    refine o_aload_n (pc := 5) dX11_isMeeting_5 rfl ?_
    refine c_getR (pc := 6) 10 5 0 17 (by decide) (by decide) rfl (lt48 (by decide)) rfl rfl lkX11_45 dX11_isMeeting_6 ?_
    refine c_getR (pc := 9) 9 0 17 18 (by decide) (by decide) rfl (lt48 (by decide)) rfl rfl lkX11_86 dX11_isMeeting_9 ?_
    refine c_getI (pc := 12) 6 8 18 (by decide) (by decide) rfl (lt48 (by decide)) rfl lkX11_87 dX11_isMeeting_12 ?_
    refine o_icmp_ge (pc := 15) 22 dX11_isMeeting_15 rfl (fun hc => ?_) (fun hc => ?_)
    · have hr2 := it_t hr2 hc
      obtain rfl := Option.some.inj hr2
      exact KB3.2 (by decide)
    · have hr2 := it_f hr2 hc
      obtain rfl := Option.some.inj hr2
      exact KB3.1 rfl
def fX11_meeting (p0 : Int32) (p1 : Int32) (s : ST) : Option (Int32) :=
  (fX11_isMeeting p0 s).bind (fun q2 => if q2 = 0 then some (-1) else if p1 = 0 then ck (inb p0 8) (some (gi s 21 (ix p0))) else if p1 = 1 then ck (inb p0 8) (some (gi s 22 (ix p0))) else if p1 = 2 then ck (inb (20 + p0) 46) (some (gi s 26 (ix (20 + p0)))) else if p1 = 3 then ck (inb p0 8) (some (gi s 24 (ix p0))) else if p1 = 4 then ck (inb (28 + p0) 46) (some (gi s 26 (ix (28 + p0)))) else if p1 = 5 then ck (inb (36 + p0) 46) (some (gi s 26 (ix (36 + p0)))) else some (-1))
set_option maxRecDepth 20000 in
theorem kX11_meeting {g : GX} {t : PH} {p0 : Int32} {p1 : Int32} {s : ST} {q : Int32} (hf : fX11_meeting p0 p1 s = some q) : Cn g mdX11_meeting [.ref 0, .int p0, .int p1] (cW t s) (some (.int q)) (cW t s) := by
  refine Cn.of (by decide) (Nat.le_of_ble_eq_true rfl) ?_
  show Rn g mdX11_meeting 0 [some (.ref 0), some (.int p0), some (.int p1), none] [] (cW t s) 0 0 (some (.int q)) (cW t s)
  unfold fX11_meeting at hf
  refine o_aload_n (pc := 0) dX11_meeting_0 rfl ?_
  refine o_iload_n (pc := 1) dX11_meeting_1 rfl ?_
  obtain ⟨q2, hk1, hf⟩ := bd_elim hf
  refine c_callV (pc := 2) 10 0 [.int p0] (by decide) (lt48 (by decide)) rfl dX11_meeting_2 (kX11_isMeeting hk1) stX11_124 ⟨by decide, by decide, by decide, by decide⟩ ⟨rfl, rfl⟩ (Nat.le_of_ble_eq_true rfl) ?_
  show Rn g mdX11_meeting 5 [some (.ref 0), some (.int p0), some (.int p1), none] [.int q2] (cW t s) 0 0 (some (.int q)) (cW t s)
  refine o_if_ne (pc := 5) 10 dX11_meeting_5 rfl (fun hc => ?_) (fun hc => ?_)
  · have hf := it_f hf hc
    refine o_aload_n (pc := 10) dX11_meeting_10 rfl ?_
    refine c_getR (pc := 11) 10 5 0 17 (by decide) (by decide) rfl (lt48 (by decide)) rfl rfl lkX11_45 dX11_meeting_11 ?_
    refine c_getR (pc := 14) 9 1 17 25 (by decide) (by decide) rfl (lt48 (by decide)) rfl rfl lkX11_104 dX11_meeting_14 ?_
    refine c_getR (pc := 17) 4 0 25 26 (by decide) (by decide) rfl (lt48 (by decide)) rfl rfl lkX11_108 dX11_meeting_17 ?_
    refine o_astore_n (pc := 20) dX11_meeting_20 (by decide) rfl ?_
    show Rn g mdX11_meeting 21 [some (.ref 0), some (.int p0), some (.int p1), some (.ref 26)] [] (cW t s) 0 0 (some (.int q)) (cW t s)
    refine o_iload_n (pc := 21) dX11_meeting_21 rfl ?_
    by_cases hx3 : p1 = 0
    · have hf := it_t hf hx3
      refine o_tableIn (pc := 22) 60 dX11_meeting_22 (by rw [hx3] <;> decide) (by rw [hx3] <;> decide) (by rw [hx3] <;> rfl) rfl ?_
      refine o_aload_n (pc := 60) dX11_meeting_60 rfl ?_
      refine c_getR (pc := 61) 10 5 0 17 (by decide) (by decide) rfl (lt48 (by decide)) rfl rfl lkX11_45 dX11_meeting_61 ?_
      refine c_getR (pc := 64) 9 0 17 18 (by decide) (by decide) rfl (lt48 (by decide)) rfl rfl lkX11_86 dX11_meeting_64 ?_
      refine c_getR (pc := 67) 6 11 18 21 (by decide) (by decide) rfl (lt48 (by decide)) rfl rfl lkX11_127 dX11_meeting_67 ?_
      refine o_iload_n (pc := 70) dX11_meeting_70 rfl ?_
      obtain ⟨hk4, hf⟩ := ck_elim hf
      refine c_iald (pc := 71) (lt48 (by decide)) rfl hk4 dX11_meeting_71 ?_
      obtain rfl := Option.some.inj hf
      exact o_ireturn (pc := 72) dX11_meeting_72 rfl (Nat.zero_le _) (Nat.zero_le _)
    have hf := it_f hf hx3
    by_cases hx5 : p1 = 1
    · have hf := it_t hf hx5
      refine o_tableIn (pc := 22) 73 dX11_meeting_22 (by rw [hx5] <;> decide) (by rw [hx5] <;> decide) (by rw [hx5] <;> rfl) rfl ?_
      refine o_aload_n (pc := 73) dX11_meeting_73 rfl ?_
      refine c_getR (pc := 74) 10 5 0 17 (by decide) (by decide) rfl (lt48 (by decide)) rfl rfl lkX11_45 dX11_meeting_74 ?_
      refine c_getR (pc := 77) 9 0 17 18 (by decide) (by decide) rfl (lt48 (by decide)) rfl rfl lkX11_86 dX11_meeting_77 ?_
      refine c_getR (pc := 80) 6 12 18 22 (by decide) (by decide) rfl (lt48 (by decide)) rfl rfl lkX11_130 dX11_meeting_80 ?_
      refine o_iload_n (pc := 83) dX11_meeting_83 rfl ?_
      obtain ⟨hk6, hf⟩ := ck_elim hf
      refine c_iald (pc := 84) (lt48 (by decide)) rfl hk6 dX11_meeting_84 ?_
      obtain rfl := Option.some.inj hf
      exact o_ireturn (pc := 85) dX11_meeting_85 rfl (Nat.zero_le _) (Nat.zero_le _)
    have hf := it_f hf hx5
    by_cases hx7 : p1 = 2
    · have hf := it_t hf hx7
      refine o_tableIn (pc := 22) 86 dX11_meeting_22 (by rw [hx7] <;> decide) (by rw [hx7] <;> decide) (by rw [hx7] <;> rfl) rfl ?_
      refine o_aload_n (pc := 86) dX11_meeting_86 rfl ?_
      refine o_bipush (pc := 87) (v := 20) dX11_meeting_87 rfl ?_
      refine o_iload_n (pc := 89) dX11_meeting_89 rfl ?_
      refine o_iadd (pc := 90) dX11_meeting_90 ?_
      obtain ⟨hk8, hf⟩ := ck_elim hf
      refine c_iald (pc := 91) (lt48 (by decide)) rfl hk8 dX11_meeting_91 ?_
      obtain rfl := Option.some.inj hf
      exact o_ireturn (pc := 92) dX11_meeting_92 rfl (Nat.zero_le _) (Nat.zero_le _)
    have hf := it_f hf hx7
    by_cases hx9 : p1 = 3
    · have hf := it_t hf hx9
      refine o_tableIn (pc := 22) 93 dX11_meeting_22 (by rw [hx9] <;> decide) (by rw [hx9] <;> decide) (by rw [hx9] <;> rfl) rfl ?_
      refine o_aload_n (pc := 93) dX11_meeting_93 rfl ?_
      refine c_getR (pc := 94) 10 5 0 17 (by decide) (by decide) rfl (lt48 (by decide)) rfl rfl lkX11_45 dX11_meeting_94 ?_
      refine c_getR (pc := 97) 9 0 17 18 (by decide) (by decide) rfl (lt48 (by decide)) rfl rfl lkX11_86 dX11_meeting_97 ?_
      refine c_getR (pc := 100) 6 14 18 24 (by decide) (by decide) rfl (lt48 (by decide)) rfl rfl lkX11_133 dX11_meeting_100 ?_
      refine o_iload_n (pc := 103) dX11_meeting_103 rfl ?_
      obtain ⟨hk10, hf⟩ := ck_elim hf
      refine c_iald (pc := 104) (lt48 (by decide)) rfl hk10 dX11_meeting_104 ?_
      obtain rfl := Option.some.inj hf
      exact o_ireturn (pc := 105) dX11_meeting_105 rfl (Nat.zero_le _) (Nat.zero_le _)
    have hf := it_f hf hx9
    by_cases hx11 : p1 = 4
    · have hf := it_t hf hx11
      refine o_tableIn (pc := 22) 106 dX11_meeting_22 (by rw [hx11] <;> decide) (by rw [hx11] <;> decide) (by rw [hx11] <;> rfl) rfl ?_
      refine o_aload_n (pc := 106) dX11_meeting_106 rfl ?_
      refine o_bipush (pc := 107) (v := 28) dX11_meeting_107 rfl ?_
      refine o_iload_n (pc := 109) dX11_meeting_109 rfl ?_
      refine o_iadd (pc := 110) dX11_meeting_110 ?_
      obtain ⟨hk12, hf⟩ := ck_elim hf
      refine c_iald (pc := 111) (lt48 (by decide)) rfl hk12 dX11_meeting_111 ?_
      obtain rfl := Option.some.inj hf
      exact o_ireturn (pc := 112) dX11_meeting_112 rfl (Nat.zero_le _) (Nat.zero_le _)
    have hf := it_f hf hx11
    by_cases hx13 : p1 = 5
    · have hf := it_t hf hx13
      refine o_tableIn (pc := 22) 113 dX11_meeting_22 (by rw [hx13] <;> decide) (by rw [hx13] <;> decide) (by rw [hx13] <;> rfl) rfl ?_
      refine o_aload_n (pc := 113) dX11_meeting_113 rfl ?_
      refine o_bipush (pc := 114) (v := 36) dX11_meeting_114 rfl ?_
      refine o_iload_n (pc := 116) dX11_meeting_116 rfl ?_
      refine o_iadd (pc := 117) dX11_meeting_117 ?_
      obtain ⟨hk14, hf⟩ := ck_elim hf
      refine c_iald (pc := 118) (lt48 (by decide)) rfl hk14 dX11_meeting_118 ?_
      obtain rfl := Option.some.inj hf
      exact o_ireturn (pc := 119) dX11_meeting_119 rfl (Nat.zero_le _) (Nat.zero_le _)
    have hf := it_f hf hx13
    refine o_tableOut (pc := 22) 120 dX11_meeting_22 (sw_out 0 5 (fun n hn => ?_)) rfl ?_
    · match n, hn with
      | 0, _ => exact sw_ne hx3 rfl
      | 1, _ => exact sw_ne hx5 rfl
      | 2, _ => exact sw_ne hx7 rfl
      | 3, _ => exact sw_ne hx9 rfl
      | 4, _ => exact sw_ne hx11 rfl
      | 5, _ => exact sw_ne hx13 rfl
      | n + 6, h => exact absurd h (by omega)
    · refine o_iconst (pc := 120) (v := (-1)) dX11_meeting_120 rfl ?_
      obtain rfl := Option.some.inj hf
      exact o_ireturn (pc := 121) dX11_meeting_121 rfl (Nat.zero_le _) (Nat.zero_le _)
  · have hf := it_t hf hc
    refine o_iconst (pc := 8) (v := (-1)) dX11_meeting_8 rfl ?_
    obtain rfl := Option.some.inj hf
    exact o_ireturn (pc := 9) dX11_meeting_9 rfl (Nat.zero_le _) (Nat.zero_le _)
def fX11_ruleThatIsInForce (t : PH) (s : ST) : Option (Option Nat) :=
  lt (gi s 17 2 : Int32) (fun v1 => (if v1 < 0 then some false else if (gi s 0 4) ≤ v1 then some false else some true : Option Bool).bind (fun b2 => (if b2 = true then ck (inb v1 6) (some (rR t 16 (ix v1))) else some none : Option (Option Nat)).bind (fun w5 => some w5)))
set_option maxRecDepth 20000 in
theorem kX11_ruleThatIsInForce {g : GX} {t : PH} {s : ST} {q : Option Nat} (hf : fX11_ruleThatIsInForce t s = some q) : Cn g mdX11_ruleThatIsInForce [.ref 0] (cW t s) (some (va_rf q)) (cW t s) := by
  refine Cn.of (by decide) (Nat.le_of_ble_eq_true rfl) ?_
  show Rn g mdX11_ruleThatIsInForce 0 [some (.ref 0), none] [] (cW t s) 0 0 (some (va_rf q)) (cW t s)
  unfold fX11_ruleThatIsInForce at hf
  refine o_aload_n (pc := 0) dX11_ruleThatIsInForce_0 rfl ?_
  refine c_getR (pc := 1) 10 5 0 17 (by decide) (by decide) rfl (lt48 (by decide)) rfl rfl lkX11_45 dX11_ruleThatIsInForce_1 ?_
  refine c_getI (pc := 4) 9 2 17 (by decide) (by decide) rfl (lt48 (by decide)) rfl lkX11_97 dX11_ruleThatIsInForce_4 ?_
  refine lz_i hf (fun v1 hf => ?_)
  refine o_istore_n (pc := 7) dX11_ruleThatIsInForce_7 (by decide) rfl ?_
  show Rn g mdX11_ruleThatIsInForce 8 [some (.ref 0), some (.int v1)] [] (cW t s) 0 0 (some (va_rf q)) (cW t s)
  refine o_iload_n (pc := 8) dX11_ruleThatIsInForce_8 rfl ?_
  obtain ⟨b2, hr3, hf⟩ := bd_elim hf
  obtain ⟨w5, hr6, hf⟩ := bd_elim hf
  have K7 : Rn g mdX11_ruleThatIsInForce 30 [none, none] [va_rf w5] (cW t s) 0 0 (some (va_rf q)) (cW t s) := by
    obtain rfl := Option.some.inj hf
    exact o_areturnV (pc := 30) dX11_ruleThatIsInForce_30 rfl (Or.inl ⟨_, rfl⟩) (Nat.zero_le _) (Nat.zero_le _)
  clear hf
  have KB4 : (b2 = true → Rn g mdX11_ruleThatIsInForce 20 [some (.ref 0), some (.int v1)] [] (cW t s) 0 0 (some (va_rf q)) (cW t s)) ∧ (¬ b2 = true → Rn g mdX11_ruleThatIsInForce 29 [some (.ref 0), some (.int v1)] [] (cW t s) 0 0 (some (va_rf q)) (cW t s)) := by
    refine ⟨fun hc => ?_, fun hc => ?_⟩
    · have hr6 := it_t hr6 hc
      refine o_aload_n (pc := 20) dX11_ruleThatIsInForce_20 rfl ?_
      refine c_getR (pc := 21) 10 3 0 16 (by decide) (by decide) rfl (lt48 (by decide)) rfl rfl lkX11_34 dX11_ruleThatIsInForce_21 ?_
      refine o_iload_n (pc := 24) dX11_ruleThatIsInForce_24 rfl ?_
      obtain ⟨hk8, hr6⟩ := ck_elim hr6
      refine c_aald (pc := 25) 16 6 4 (by decide) hk8 dX11_ruleThatIsInForce_25 ?_
      refine o_goto (pc := 26) 30 dX11_ruleThatIsInForce_26 rfl ?_
      obtain rfl := Option.some.inj hr6
      refine o_keep [false, false] ?_
      exact K7
    · have hr6 := it_f hr6 hc
      refine o_null (pc := 29) dX11_ruleThatIsInForce_29 ?_
      obtain rfl := Option.some.inj hr6
      refine o_keep [false, false] ?_
      exact K7
  clear hr6
  refine o_if_lt (pc := 9) 29 dX11_ruleThatIsInForce_9 rfl (fun hc => ?_) (fun hc => ?_)
  · have hr3 := it_t hr3 hc
    obtain rfl := Option.some.inj hr3
    exact KB4.2 (by decide)
  · have hr3 := it_f hr3 hc
    refine o_iload_n (pc := 12) dX11_ruleThatIsInForce_12 rfl ?_
    refine o_aload_n (pc := 13) dX11_ruleThatIsInForce_13 rfl ?_
    refine c_getI (pc := 14) 10 4 0 (by decide) (by decide) rfl (lt48 (by decide)) rfl lkX11_38 dX11_ruleThatIsInForce_14 ?_
    refine o_icmp_ge (pc := 17) 29 dX11_ruleThatIsInForce_17 rfl (fun hc => ?_) (fun hc => ?_)
    · have hr3 := it_t hr3 hc
      obtain rfl := Option.some.inj hr3
      exact KB4.2 (by decide)
    · have hr3 := it_f hr3 hc
      obtain rfl := Option.some.inj hr3
      exact KB4.1 rfl
def fX0_start_18 (p1 : Option Nat) (t : PH) (s : ST) : Option (ST) :=
  ck (okO t (some 18)) (lt (sm s 0 (some 18)) (fun s2 => ck (okO t p1) (lt (sm s2 1 p1) (fun s4 => ck (decide (mr s4 0 = some 18)) (ck (cpB 0 0 5 5 5) (lt (sAr s4 41 (va_cpy (s4.1 19) (s4.1 41) (ix 0) (ix 0) (ix 5))) (fun s7 => ck (decide (mr s7 0 = some 18)) (lt (si s7 30 7 (gi s7 18 1)) (fun s9 => ck (decide (mr s9 0 = some 18)) (lt (si s9 30 8 (gi s9 18 2)) (fun s11 => lt (si s11 30 9 (-1)) (fun s12 => lt (si s12 30 10 (-1)) (fun s13 => lt (si s13 30 13 0) (fun s14 => lt (si s14 30 15 0) (fun s15 => lt (si s15 30 16 0) (fun s16 => lt (si s16 30 17 0) (fun s17 => some s17)))))))))))))))))
set_option maxRecDepth 20000 in
theorem kX0_start_18 {g : GX} {t : PH} {p1 : Option Nat} {s : ST} {q : ST} (hf : fX0_start_18 p1 t s = some q) : Cn g mdX0_start [.ref 30, .ref 18, va_rf p1] (cW t s) none (cW t q) := by
  refine Cn.of (by decide) (by cases p1 <;> exact Nat.le_of_ble_eq_true rfl) ?_
  have e0 : lsB [.ref 30, .ref 18, va_rf p1] mdX0_start.2.2.1 = [some (.ref 30), some (.ref 18), some (va_rf p1)] := by cases p1 <;> rfl
  rw [e0]
  show Rn g mdX0_start 0 [some (.ref 30), some (.ref 18), some (va_rf p1)] [] (cW t s) 0 0 none (cW t q)
  unfold fX0_start_18 at hf
  refine o_aload_n (pc := 0) dX0_start_0 rfl ?_
  refine o_aload_n (pc := 1) dX0_start_1 rfl ?_
  obtain ⟨hk1, hf⟩ := ck_elim hf
  refine c_putO (pc := 2) 5 0 (some 18) (by decide) hk1 lkX0_38 dX0_start_2 ?_
  refine lz_s (cW t) hf (fun s2 hf => ?_)
  show Rn g mdX0_start 5 [some (.ref 30), some (.ref 18), some (va_rf p1)] [] (cW t s2) 0 0 none (cW t q)
  refine o_aload_n (pc := 5) dX0_start_5 rfl ?_
  refine o_aload_nV (pc := 6) dX0_start_6 rfl ?_
  obtain ⟨hk3, hf⟩ := ck_elim hf
  refine c_putO (pc := 7) 6 1 p1 (by decide) hk3 lkX0_42 dX0_start_7 ?_
  refine lz_s (cW t) hf (fun s4 hf => ?_)
  show Rn g mdX0_start 10 [some (.ref 30), some (.ref 18), some (va_rf p1)] [] (cW t s4) 0 0 none (cW t q)
  refine o_aload_n (pc := 10) dX0_start_10 rfl ?_
  refine c_getO (pc := 11) 5 0 (by decide) lkX0_38 dX0_start_11 ?_
  obtain ⟨hk5, hf⟩ := ck_elim hf
  have hk5 := of_decide_eq_true hk5
  rw [hk5]
  refine c_getR (pc := 14) 6 9 18 19 (by decide) (by decide) rfl (lt48 (by decide)) rfl rfl lkX0_81 dX0_start_14 ?_
  refine o_iconst (pc := 17) (v := 0) dX0_start_17 rfl ?_
  refine o_aload_n (pc := 18) dX0_start_18 rfl ?_
  refine c_getR (pc := 19) 0 2 30 41 (by decide) (by decide) rfl (lt48 (by decide)) rfl rfl lkX0_25 dX0_start_19 ?_
  refine o_iconst (pc := 22) (v := 0) dX0_start_22 rfl ?_
  refine o_iconst (pc := 23) (v := 5) dX0_start_23 rfl ?_
  obtain ⟨hk6, hf⟩ := ck_elim hf
  refine c_copy (pc := 24) 19 41 5 5 lmX0_84 dX0_start_24 (by decide) (Nat.le_of_ble_eq_true rfl) (lt48 (by decide)) rfl (lt48 (by decide)) rfl hk6 ?_
  refine lz_s (cW t) hf (fun s7 hf => ?_)
  show Rn g mdX0_start 27 [some (.ref 30), some (.ref 18), some (va_rf p1)] [] (cW t s7) 0 0 none (cW t q)
  refine o_aload_n (pc := 27) dX0_start_27 rfl ?_
  refine o_aload_n (pc := 28) dX0_start_28 rfl ?_
  refine c_getO (pc := 29) 5 0 (by decide) lkX0_38 dX0_start_29 ?_
  obtain ⟨hk8, hf⟩ := ck_elim hf
  have hk8 := of_decide_eq_true hk8
  rw [hk8]
  refine c_getI (pc := 32) 6 1 18 (by decide) (by decide) rfl (lt48 (by decide)) rfl lkX0_90 dX0_start_32 ?_
  refine c_putI (pc := 35) 0 7 30 (by decide) (by decide) rfl rfl (lt48 (by decide)) rfl lkX0_46 ⟨rfl, rfl⟩ dX0_start_35 ?_
  refine lz_s (cW t) hf (fun s9 hf => ?_)
  show Rn g mdX0_start 38 [some (.ref 30), some (.ref 18), some (va_rf p1)] [] (cW t s9) 0 0 none (cW t q)
  refine o_aload_n (pc := 38) dX0_start_38 rfl ?_
  refine o_aload_n (pc := 39) dX0_start_39 rfl ?_
  refine c_getO (pc := 40) 5 0 (by decide) lkX0_38 dX0_start_40 ?_
  obtain ⟨hk10, hf⟩ := ck_elim hf
  have hk10 := of_decide_eq_true hk10
  rw [hk10]
  refine c_getI (pc := 43) 6 2 18 (by decide) (by decide) rfl (lt48 (by decide)) rfl lkX0_91 dX0_start_43 ?_
  refine c_putI (pc := 46) 0 8 30 (by decide) (by decide) rfl rfl (lt48 (by decide)) rfl lkX0_50 ⟨rfl, rfl⟩ dX0_start_46 ?_
  refine lz_s (cW t) hf (fun s11 hf => ?_)
  show Rn g mdX0_start 49 [some (.ref 30), some (.ref 18), some (va_rf p1)] [] (cW t s11) 0 0 none (cW t q)
  refine o_aload_n (pc := 49) dX0_start_49 rfl ?_
  refine o_iconst (pc := 50) (v := (-1)) dX0_start_50 rfl ?_
  refine c_putI (pc := 51) 0 9 30 (by decide) (by decide) rfl rfl (lt48 (by decide)) rfl lkX0_53 ⟨rfl, rfl⟩ dX0_start_51 ?_
  refine lz_s (cW t) hf (fun s12 hf => ?_)
  show Rn g mdX0_start 54 [some (.ref 30), some (.ref 18), some (va_rf p1)] [] (cW t s12) 0 0 none (cW t q)
  refine o_aload_n (pc := 54) dX0_start_54 rfl ?_
  refine o_iconst (pc := 55) (v := (-1)) dX0_start_55 rfl ?_
  refine c_putI (pc := 56) 0 10 30 (by decide) (by decide) rfl rfl (lt48 (by decide)) rfl lkX0_56 ⟨rfl, rfl⟩ dX0_start_56 ?_
  refine lz_s (cW t) hf (fun s13 hf => ?_)
  show Rn g mdX0_start 59 [some (.ref 30), some (.ref 18), some (va_rf p1)] [] (cW t s13) 0 0 none (cW t q)
  refine o_aload_n (pc := 59) dX0_start_59 rfl ?_
  refine o_iconst (pc := 60) (v := 0) dX0_start_60 rfl ?_
  refine c_putI (pc := 61) 0 13 30 (by decide) (by decide) rfl rfl (lt48 (by decide)) rfl lkX0_65 ⟨rfl, rfl⟩ dX0_start_61 ?_
  refine lz_s (cW t) hf (fun s14 hf => ?_)
  show Rn g mdX0_start 64 [some (.ref 30), some (.ref 18), some (va_rf p1)] [] (cW t s14) 0 0 none (cW t q)
  refine o_aload_n (pc := 64) dX0_start_64 rfl ?_
  refine o_iconst (pc := 65) (v := 0) dX0_start_65 rfl ?_
  refine c_putI (pc := 66) 0 15 30 (by decide) (by decide) rfl rfl (lt48 (by decide)) rfl lkX0_72 ⟨rfl, rfl⟩ dX0_start_66 ?_
  refine lz_s (cW t) hf (fun s15 hf => ?_)
  show Rn g mdX0_start 69 [some (.ref 30), some (.ref 18), some (va_rf p1)] [] (cW t s15) 0 0 none (cW t q)
  refine o_aload_n (pc := 69) dX0_start_69 rfl ?_
  refine o_iconst (pc := 70) (v := 0) dX0_start_70 rfl ?_
  refine c_putI (pc := 71) 0 16 30 (by decide) (by decide) rfl rfl (lt48 (by decide)) rfl lkX0_75 ⟨rfl, rfl⟩ dX0_start_71 ?_
  refine lz_s (cW t) hf (fun s16 hf => ?_)
  show Rn g mdX0_start 74 [some (.ref 30), some (.ref 18), some (va_rf p1)] [] (cW t s16) 0 0 none (cW t q)
  refine o_aload_n (pc := 74) dX0_start_74 rfl ?_
  refine o_iconst (pc := 75) (v := 0) dX0_start_75 rfl ?_
  refine c_putI (pc := 76) 0 17 30 (by decide) (by decide) rfl rfl (lt48 (by decide)) rfl lkX0_78 ⟨rfl, rfl⟩ dX0_start_76 ?_
  refine lz_s (cW t) hf (fun s17 hf => ?_)
  show Rn g mdX0_start 79 [some (.ref 30), some (.ref 18), some (va_rf p1)] [] (cW t s17) 0 0 none (cW t q)
  obtain rfl := Option.some.inj hf
  exact o_return (pc := 79) dX0_start_79 rfl (Nat.zero_le _) (Nat.zero_le _)
def fX5_copyFrom_St_St (a0 : Nat) (p0 : Nat) (s : ST) : Option (ST) :=
  ck (cpB 0 0 46 46 46) (lt (sAr s (a0 + 1) (va_cpy (s.1 (p0 + 1)) (s.1 (a0 + 1)) (ix 0) (ix 0) (ix 46))) (fun s2 => some s2))
set_option maxRecDepth 20000 in
theorem kX5_copyFrom_St_St {g : GX} {t : PH} {a0 : Nat} {p0 : Nat} {s : ST} {q : ST} (ha0 : isSt t a0) (hp0 : isSt t p0) (hf : fX5_copyFrom_St_St a0 p0 s = some q) : Cn g mdX5_copyFrom [.ref a0, .ref p0] (cW t s) none (cW t q) := by
  refine Cn.of (by decide) (Nat.le_of_ble_eq_true rfl) ?_
  show Rn g mdX5_copyFrom 0 [some (.ref a0), some (.ref p0)] [] (cW t s) 0 0 none (cW t q)
  unfold fX5_copyFrom_St_St at hf
  refine o_aload_n (pc := 0) dX5_copyFrom_0 rfl ?_
  refine c_getR (pc := 1) 4 0 p0 (p0 + 1) (by decide) (by decide) rfl (by have := hp0.1; omega) hp0.2.1 ((hR_cW hp0.2.1 (by decide)).trans hp0.2.2.1) lkX5_11 dX5_copyFrom_1 ?_
  refine o_iconst (pc := 4) (v := 0) dX5_copyFrom_4 rfl ?_
  refine o_aload_n (pc := 5) dX5_copyFrom_5 rfl ?_
  refine c_getR (pc := 6) 4 0 a0 (a0 + 1) (by decide) (by decide) rfl (by have := ha0.1; omega) ha0.2.1 ((hR_cW ha0.2.1 (by decide)).trans ha0.2.2.1) lkX5_11 dX5_copyFrom_6 ?_
  refine o_iconst (pc := 9) (v := 0) dX5_copyFrom_9 rfl ?_
  refine o_bipush (pc := 10) (v := 46) dX5_copyFrom_10 rfl ?_
  obtain ⟨hk1, hf⟩ := ck_elim hf
  refine c_copy (pc := 12) (p0 + 1) (a0 + 1) 46 46 lmX5_15 dX5_copyFrom_12 (by decide) (Nat.le_of_ble_eq_true rfl) (by have := hp0.1; omega) hp0.2.2.2 (by have := ha0.1; omega) ha0.2.2.2 hk1 ?_
  refine lz_s (cW t) hf (fun s2 hf => ?_)
  show Rn g mdX5_copyFrom 15 [some (.ref a0), some (.ref p0)] [] (cW t s2) 0 0 none (cW t q)
  obtain rfl := Option.some.inj hf
  exact o_return (pc := 15) dX5_copyFrom_15 rfl (Nat.zero_le _) (Nat.zero_le _)
def fX11_startFromNow (t : PH) (s : ST) : Option (ST) :=
  (fX11_ruleThatIsInForce t s).bind (fun q2 => (fX0_start_18 q2 t s).bind (fun q4 => (fX5_copyFrom_St_St 31 25 q4).bind (fun q6 => some q6)))
set_option maxRecDepth 20000 in
theorem kX11_startFromNow {g : GX} {t : PH} {s : ST} {q : ST} (hf : fX11_startFromNow t s = some q) : Cn g mdX11_startFromNow [.ref 0] (cW t s) none (cW t q) := by
  refine Cn.of (by decide) (Nat.le_of_ble_eq_true rfl) ?_
  show Rn g mdX11_startFromNow 0 [some (.ref 0)] [] (cW t s) 0 0 none (cW t q)
  unfold fX11_startFromNow at hf
  refine o_aload_n (pc := 0) dX11_startFromNow_0 rfl ?_
  refine c_getR (pc := 1) 10 7 0 30 (by decide) (by decide) rfl (lt48 (by decide)) rfl rfl lkX11_56 dX11_startFromNow_1 ?_
  refine o_aload_n (pc := 4) dX11_startFromNow_4 rfl ?_
  refine c_getR (pc := 5) 10 5 0 17 (by decide) (by decide) rfl (lt48 (by decide)) rfl rfl lkX11_45 dX11_startFromNow_5 ?_
  refine c_getR (pc := 8) 9 0 17 18 (by decide) (by decide) rfl (lt48 (by decide)) rfl rfl lkX11_86 dX11_startFromNow_8 ?_
  refine o_aload_n (pc := 11) dX11_startFromNow_11 rfl ?_
  obtain ⟨q2, hk1, hf⟩ := bd_elim hf
  refine c_callV (pc := 12) 10 0 [] (by decide) (lt48 (by decide)) rfl dX11_startFromNow_12 (kX11_ruleThatIsInForce hk1) stX11_283 ⟨by decide, by decide, by decide, by decide⟩ ⟨rfl, rfl⟩ (Nat.le_of_ble_eq_true rfl) ?_
  show Rn g mdX11_startFromNow 15 [some (.ref 0)] [va_rf q2, .ref 18, .ref 30] (cW t s) 0 0 none (cW t q)
  obtain ⟨q4, hk3, hf⟩ := bd_elim hf
  refine c_callV (pc := 15) 0 30 [.ref 18, va_rf q2] (by decide) (lt48 (by decide)) rfl dX11_startFromNow_15 (kX0_start_18 hk3) stX11_286 ⟨by decide, by decide, by decide, by decide⟩ ⟨rfl, rfl⟩ (Nat.le_of_ble_eq_true rfl) ?_
  show Rn g mdX11_startFromNow 18 [some (.ref 0)] [] (cW t q4) 0 0 none (cW t q)
  refine o_aload_n (pc := 18) dX11_startFromNow_18 rfl ?_
  refine c_getR (pc := 19) 10 7 0 30 (by decide) (by decide) rfl (lt48 (by decide)) rfl rfl lkX11_56 dX11_startFromNow_19 ?_
  refine c_getR (pc := 22) 0 0 30 31 (by decide) (by decide) rfl (lt48 (by decide)) rfl rfl lkX11_149 dX11_startFromNow_22 ?_
  refine o_aload_n (pc := 25) dX11_startFromNow_25 rfl ?_
  refine c_getR (pc := 26) 10 5 0 17 (by decide) (by decide) rfl (lt48 (by decide)) rfl rfl lkX11_45 dX11_startFromNow_26 ?_
  refine c_getR (pc := 29) 9 1 17 25 (by decide) (by decide) rfl (lt48 (by decide)) rfl rfl lkX11_104 dX11_startFromNow_29 ?_
  obtain ⟨q6, hk5, hf⟩ := bd_elim hf
  refine c_callV (pc := 32) 4 31 [.ref 25] (by decide) (lt48 (by decide)) rfl dX11_startFromNow_32 (kX5_copyFrom_St_St (st31 t) (st25 t) hk5) stX11_150 ⟨by decide, by decide, by decide, by decide⟩ ⟨rfl, rfl⟩ (Nat.le_of_ble_eq_true rfl) ?_
  show Rn g mdX11_startFromNow 35 [some (.ref 0)] [] (cW t q6) 0 0 none (cW t q)
  obtain rfl := Option.some.inj hf
  exact o_return (pc := 35) dX11_startFromNow_35 rfl (Nat.zero_le _) (Nat.zero_le _)
def fX5_isExempt_31 (p0 : Int32) (s : ST) : Option (Int32) :=
  ck (inb 44 46) ((if (((gi s 32 (ix 44)) >>> (p0 &&& 31)) &&& 1) = 1 then some 1 else some 0 : Option (Int32)).bind (fun w2 => ck (bz w2) (some w2)))
set_option maxRecDepth 20000 in
theorem kX5_isExempt_31 {g : GX} {t : PH} {p0 : Int32} {s : ST} {q : Int32} (hf : fX5_isExempt_31 p0 s = some q) : Cn g mdX5_isExempt [.ref 31, .int p0] (cW t s) (some (.int q)) (cW t s) := by
  refine Cn.of (by decide) (Nat.le_of_ble_eq_true rfl) ?_
  show Rn g mdX5_isExempt 0 [some (.ref 31), some (.int p0)] [] (cW t s) 0 0 (some (.int q)) (cW t s)
  unfold fX5_isExempt_31 at hf
  refine o_aload_n (pc := 0) dX5_isExempt_0 rfl ?_
  refine c_getR (pc := 1) 4 0 31 32 (by decide) (by decide) rfl (lt48 (by decide)) rfl rfl lkX5_11 dX5_isExempt_1 ?_
  refine o_bipush (pc := 4) (v := 44) dX5_isExempt_4 rfl ?_
  obtain ⟨hk1, hf⟩ := ck_elim hf
  refine c_iald (pc := 6) (lt48 (by decide)) rfl hk1 dX5_isExempt_6 ?_
  refine o_iload_n (pc := 7) dX5_isExempt_7 rfl ?_
  refine o_ishr (pc := 8) dX5_isExempt_8 ?_
  refine o_iconst (pc := 9) (v := 1) dX5_isExempt_9 rfl ?_
  refine o_iand (pc := 10) dX5_isExempt_10 ?_
  refine o_iconst (pc := 11) (v := 1) dX5_isExempt_11 rfl ?_
  obtain ⟨w2, hr3, hf⟩ := bd_elim hf
  have K4 : Rn g mdX5_isExempt 20 [none, none] [.int w2] (cW t s) 0 0 (some (.int q)) (cW t s) := by
    obtain ⟨hk5, hf⟩ := ck_elim hf
    obtain rfl := Option.some.inj hf
    exact o_zreturn (pc := 20) dX5_isExempt_20 rfl (bz_n hk5).1 (Nat.zero_le _) (Nat.zero_le _)
  clear hf
  refine o_icmp_ne (pc := 12) 19 dX5_isExempt_12 rfl (fun hc => ?_) (fun hc => ?_)
  · have hr3 := it_f hr3 hc
    refine o_iconst (pc := 19) (v := 0) dX5_isExempt_19 rfl ?_
    obtain rfl := Option.some.inj hr3
    refine o_keep [false, false] ?_
    exact K4
  · have hr3 := it_t hr3 hc
    refine o_iconst (pc := 15) (v := 1) dX5_isExempt_15 rfl ?_
    refine o_goto (pc := 16) 20 dX5_isExempt_16 rfl ?_
    obtain rfl := Option.some.inj hr3
    refine o_keep [false, false] ?_
    exact K4
def fX0_charge (p0 : Int32) (p1 : Int32) (p2 : Int32) (p3 : Int32) (s : ST) : Option (ST) :=
  (fX5_isExempt_31 p1 s).bind (fun q2 => (if q2 = 0 then if (gi s 30 7) ≤ p2 then some false else some true else some false : Option Bool).bind (fun b3 => (if b3 = true then ck (decide (mr s 0 = some 18)) (lt (gi s 18 4 : Int32) (fun v10 => ck (inb p1 5) (ck (inb p1 5) (lt (si s 40 (ix p1) ((gi s 40 (ix p1)) - 1)) (fun s13 => some (v10, s13)))))) else (fX5_isExempt_31 p1 s).bind (fun q15 => (if q15 = 0 then if p2 ≤ (gi s 30 8) then some false else some true else some false : Option Bool).bind (fun b16 => if b16 = true then ck (decide (mr s 0 = some 18)) (lt (gi s 18 5 : Int32) (fun v20 => ck (inb p1 5) (ck (inb p1 5) (lt (si s 40 (ix p1) ((gi s 40 (ix p1)) + 1)) (fun s23 => some (v20, s23)))))) else some (0, s))) : Option (Int32 × ST)).bind (fun w6 => ck (inb (5 + p1) 46) (lt (si w6.2 32 (ix (5 + p1)) p2) (fun s25 => ck (inb (10 + p1) 46) (ck (inb (10 + p1) 46) (lt (si s25 32 (ix (10 + p1)) ((gi s25 32 (ix (10 + p1))) + w6.1)) (fun s28 => ck (inb (15 + p1) 46) (ck (inb (15 + p1) 46) (lt (si s28 32 (ix (15 + p1)) ((gi s28 32 (ix (15 + p1))) + p3)) (fun s31 => ck (inb p0 16) (lt (si s31 37 (ix p0) p2) (fun s33 => ck (inb p0 16) (lt (si s33 38 (ix p0) (w6.1 + p3)) (fun s35 => lt (si s35 30 16 ((gi s35 30 16) + (w6.1 + p3))) (fun s36 => lt (si s36 30 17 ((gi s36 30 17) + p3)) (fun s37 => some s37)))))))))))))))))
set_option maxRecDepth 20000 in
theorem kX0_charge {g : GX} {t : PH} {p0 : Int32} {p1 : Int32} {p2 : Int32} {p3 : Int32} {s : ST} {q : ST} (hf : fX0_charge p0 p1 p2 p3 s = some q) : Cn g mdX0_charge [.ref 30, .int p0, .int p1, .int p2, .int p3] (cW t s) none (cW t q) := by
  refine Cn.of (by decide) (Nat.le_of_ble_eq_true rfl) ?_
  show Rn g mdX0_charge 0 [some (.ref 30), some (.int p0), some (.int p1), some (.int p2), some (.int p3), none] [] (cW t s) 0 0 none (cW t q)
  unfold fX0_charge at hf
  refine o_iconst (pc := 0) (v := 0) dX0_charge_0 rfl ?_
  refine o_istore (pc := 1) dX0_charge_1 (by decide) rfl ?_
  show Rn g mdX0_charge 3 [some (.ref 30), some (.int p0), some (.int p1), some (.int p2), some (.int p3), some (.int 0)] [] (cW t s) 0 0 none (cW t q)
  refine o_aload_n (pc := 3) dX0_charge_3 rfl ?_
  refine c_getR (pc := 4) 0 0 30 31 (by decide) (by decide) rfl (lt48 (by decide)) rfl rfl lkX0_12 dX0_charge_4 ?_
  refine o_iload_n (pc := 7) dX0_charge_7 rfl ?_
  obtain ⟨q2, hk1, hf⟩ := bd_elim hf
  refine c_callV (pc := 8) 4 31 [.int p1] (by decide) (lt48 (by decide)) rfl dX0_charge_8 (kX5_isExempt_31 hk1) stX0_166 ⟨by decide, by decide, by decide, by decide⟩ ⟨rfl, rfl⟩ (Nat.le_of_ble_eq_true rfl) ?_
  show Rn g mdX0_charge 11 [some (.ref 30), some (.int p0), some (.int p1), some (.int p2), some (.int p3), some (.int 0)] [.int q2] (cW t s) 0 0 none (cW t q)
  obtain ⟨b3, hr4, hf⟩ := bd_elim hf
  obtain ⟨w6, hr7, hf⟩ := bd_elim hf
  have K8 : Rn g mdX0_charge 88 [some (.ref 30), some (.int p0), some (.int p1), some (.int p2), some (.int p3), some (.int w6.1)] [] (cW t w6.2) 0 0 none (cW t q) := by
    refine o_aload_n (pc := 88) dX0_charge_88 rfl ?_
    refine c_getR (pc := 89) 0 0 30 31 (by decide) (by decide) rfl (lt48 (by decide)) rfl rfl lkX0_12 dX0_charge_89 ?_
    refine c_getR (pc := 92) 4 0 31 32 (by decide) (by decide) rfl (lt48 (by decide)) rfl rfl lkX0_124 dX0_charge_92 ?_
    refine o_iconst (pc := 95) (v := 5) dX0_charge_95 rfl ?_
    refine o_iload_n (pc := 96) dX0_charge_96 rfl ?_
    refine o_iadd (pc := 97) dX0_charge_97 ?_
    refine o_iload_n (pc := 98) dX0_charge_98 rfl ?_
    obtain ⟨hk24, hf⟩ := ck_elim hf
    refine c_iast (pc := 99) (lt48 (by decide)) rfl hk24 dX0_charge_99 ?_
    refine lz_s (cW t) hf (fun s25 hf => ?_)
    show Rn g mdX0_charge 100 [some (.ref 30), some (.int p0), some (.int p1), some (.int p2), some (.int p3), some (.int w6.1)] [] (cW t s25) 0 0 none (cW t q)
    refine o_aload_n (pc := 100) dX0_charge_100 rfl ?_
    refine c_getR (pc := 101) 0 0 30 31 (by decide) (by decide) rfl (lt48 (by decide)) rfl rfl lkX0_12 dX0_charge_101 ?_
    refine c_getR (pc := 104) 4 0 31 32 (by decide) (by decide) rfl (lt48 (by decide)) rfl rfl lkX0_124 dX0_charge_104 ?_
    refine o_bipush (pc := 107) (v := 10) dX0_charge_107 rfl ?_
    refine o_iload_n (pc := 109) dX0_charge_109 rfl ?_
    refine o_iadd (pc := 110) dX0_charge_110 ?_
    refine o_dup2 (pc := 111) dX0_charge_111 rfl rfl ?_
    obtain ⟨hk26, hf⟩ := ck_elim hf
    refine c_iald (pc := 112) (lt48 (by decide)) rfl hk26 dX0_charge_112 ?_
    refine o_iload (pc := 113) dX0_charge_113 rfl ?_
    refine o_iadd (pc := 115) dX0_charge_115 ?_
    obtain ⟨hk27, hf⟩ := ck_elim hf
    refine c_iast (pc := 116) (lt48 (by decide)) rfl hk27 dX0_charge_116 ?_
    refine lz_s (cW t) hf (fun s28 hf => ?_)
    show Rn g mdX0_charge 117 [some (.ref 30), some (.int p0), some (.int p1), some (.int p2), some (.int p3), some (.int w6.1)] [] (cW t s28) 0 0 none (cW t q)
    refine o_aload_n (pc := 117) dX0_charge_117 rfl ?_
    refine c_getR (pc := 118) 0 0 30 31 (by decide) (by decide) rfl (lt48 (by decide)) rfl rfl lkX0_12 dX0_charge_118 ?_
    refine c_getR (pc := 121) 4 0 31 32 (by decide) (by decide) rfl (lt48 (by decide)) rfl rfl lkX0_124 dX0_charge_121 ?_
    refine o_bipush (pc := 124) (v := 15) dX0_charge_124 rfl ?_
    refine o_iload_n (pc := 126) dX0_charge_126 rfl ?_
    refine o_iadd (pc := 127) dX0_charge_127 ?_
    refine o_dup2 (pc := 128) dX0_charge_128 rfl rfl ?_
    obtain ⟨hk29, hf⟩ := ck_elim hf
    refine c_iald (pc := 129) (lt48 (by decide)) rfl hk29 dX0_charge_129 ?_
    refine o_iload (pc := 130) dX0_charge_130 rfl ?_
    refine o_iadd (pc := 132) dX0_charge_132 ?_
    obtain ⟨hk30, hf⟩ := ck_elim hf
    refine c_iast (pc := 133) (lt48 (by decide)) rfl hk30 dX0_charge_133 ?_
    refine lz_s (cW t) hf (fun s31 hf => ?_)
    show Rn g mdX0_charge 134 [some (.ref 30), some (.int p0), some (.int p1), some (.int p2), some (.int p3), some (.int w6.1)] [] (cW t s31) 0 0 none (cW t q)
    refine o_aload_n (pc := 134) dX0_charge_134 rfl ?_
    refine c_getR (pc := 135) 0 1 30 33 (by decide) (by decide) rfl (lt48 (by decide)) rfl rfl lkX0_21 dX0_charge_135 ?_
    refine c_getR (pc := 138) 1 3 33 37 (by decide) (by decide) rfl (lt48 (by decide)) rfl rfl lkX0_176 dX0_charge_138 ?_
    refine o_iload_n (pc := 141) dX0_charge_141 rfl ?_
    refine o_iload_n (pc := 142) dX0_charge_142 rfl ?_
    obtain ⟨hk32, hf⟩ := ck_elim hf
    refine c_iast (pc := 143) (lt48 (by decide)) rfl hk32 dX0_charge_143 ?_
    refine lz_s (cW t) hf (fun s33 hf => ?_)
    show Rn g mdX0_charge 144 [some (.ref 30), some (.int p0), some (.int p1), some (.int p2), some (.int p3), some (.int w6.1)] [] (cW t s33) 0 0 none (cW t q)
    refine o_aload_n (pc := 144) dX0_charge_144 rfl ?_
    refine c_getR (pc := 145) 0 1 30 33 (by decide) (by decide) rfl (lt48 (by decide)) rfl rfl lkX0_21 dX0_charge_145 ?_
    refine c_getR (pc := 148) 1 4 33 38 (by decide) (by decide) rfl (lt48 (by decide)) rfl rfl lkX0_179 dX0_charge_148 ?_
    refine o_iload_n (pc := 151) dX0_charge_151 rfl ?_
    refine o_iload (pc := 152) dX0_charge_152 rfl ?_
    refine o_iload (pc := 154) dX0_charge_154 rfl ?_
    refine o_iadd (pc := 156) dX0_charge_156 ?_
    obtain ⟨hk34, hf⟩ := ck_elim hf
    refine c_iast (pc := 157) (lt48 (by decide)) rfl hk34 dX0_charge_157 ?_
    refine lz_s (cW t) hf (fun s35 hf => ?_)
    show Rn g mdX0_charge 158 [some (.ref 30), some (.int p0), some (.int p1), some (.int p2), some (.int p3), some (.int w6.1)] [] (cW t s35) 0 0 none (cW t q)
    refine o_aload_n (pc := 158) dX0_charge_158 rfl ?_
    refine o_dup (pc := 159) dX0_charge_159 rfl ?_
    refine c_getI (pc := 160) 0 16 30 (by decide) (by decide) rfl (lt48 (by decide)) rfl lkX0_75 dX0_charge_160 ?_
    refine o_iload (pc := 163) dX0_charge_163 rfl ?_
    refine o_iload (pc := 165) dX0_charge_165 rfl ?_
    refine o_iadd (pc := 167) dX0_charge_167 ?_
    refine o_iadd (pc := 168) dX0_charge_168 ?_
    refine c_putI (pc := 169) 0 16 30 (by decide) (by decide) rfl rfl (lt48 (by decide)) rfl lkX0_75 ⟨rfl, rfl⟩ dX0_charge_169 ?_
    refine lz_s (cW t) hf (fun s36 hf => ?_)
    show Rn g mdX0_charge 172 [some (.ref 30), some (.int p0), some (.int p1), some (.int p2), some (.int p3), some (.int w6.1)] [] (cW t s36) 0 0 none (cW t q)
    refine o_aload_n (pc := 172) dX0_charge_172 rfl ?_
    refine o_dup (pc := 173) dX0_charge_173 rfl ?_
    refine c_getI (pc := 174) 0 17 30 (by decide) (by decide) rfl (lt48 (by decide)) rfl lkX0_78 dX0_charge_174 ?_
    refine o_iload (pc := 177) dX0_charge_177 rfl ?_
    refine o_iadd (pc := 179) dX0_charge_179 ?_
    refine c_putI (pc := 180) 0 17 30 (by decide) (by decide) rfl rfl (lt48 (by decide)) rfl lkX0_78 ⟨rfl, rfl⟩ dX0_charge_180 ?_
    refine lz_s (cW t) hf (fun s37 hf => ?_)
    show Rn g mdX0_charge 183 [some (.ref 30), some (.int p0), some (.int p1), some (.int p2), some (.int p3), some (.int w6.1)] [] (cW t s37) 0 0 none (cW t q)
    obtain rfl := Option.some.inj hf
    exact o_return (pc := 183) dX0_charge_183 rfl (Nat.zero_le _) (Nat.zero_le _)
  clear hf
  have KB5 : (b3 = true → Rn g mdX0_charge 22 [some (.ref 30), some (.int p0), some (.int p1), some (.int p2), some (.int p3), some (.int 0)] [] (cW t s) 0 0 none (cW t q)) ∧ (¬ b3 = true → Rn g mdX0_charge 47 [some (.ref 30), some (.int p0), some (.int p1), some (.int p2), some (.int p3), some (.int 0)] [] (cW t s) 0 0 none (cW t q)) := by
    refine ⟨fun hc => ?_, fun hc => ?_⟩
    · have hr7 := it_t hr7 hc
      refine o_aload_n (pc := 22) dX0_charge_22 rfl ?_
      refine c_getO (pc := 23) 5 0 (by decide) lkX0_38 dX0_charge_23 ?_
      obtain ⟨hk9, hr7⟩ := ck_elim hr7
      have hk9 := of_decide_eq_true hk9
      rw [hk9]
      refine c_getI (pc := 26) 6 4 18 (by decide) (by decide) rfl (lt48 (by decide)) rfl lkX0_170 dX0_charge_26 ?_
      refine lz_i hr7 (fun v10 hr7 => ?_)
      refine o_istore (pc := 29) dX0_charge_29 (by decide) rfl ?_
      show Rn g mdX0_charge 31 [some (.ref 30), some (.int p0), some (.int p1), some (.int p2), some (.int p3), some (.int v10)] [] (cW t s) 0 0 none (cW t q)
      refine o_aload_n (pc := 31) dX0_charge_31 rfl ?_
      refine c_getR (pc := 32) 0 1 30 33 (by decide) (by decide) rfl (lt48 (by decide)) rfl rfl lkX0_21 dX0_charge_32 ?_
      refine c_getR (pc := 35) 1 6 33 40 (by decide) (by decide) rfl (lt48 (by decide)) rfl rfl lkX0_112 dX0_charge_35 ?_
      refine o_iload_n (pc := 38) dX0_charge_38 rfl ?_
      refine o_dup2 (pc := 39) dX0_charge_39 rfl rfl ?_
      obtain ⟨hk11, hr7⟩ := ck_elim hr7
      refine c_iald (pc := 40) (lt48 (by decide)) rfl hk11 dX0_charge_40 ?_
      refine o_iconst (pc := 41) (v := 1) dX0_charge_41 rfl ?_
      refine o_isub (pc := 42) dX0_charge_42 ?_
      obtain ⟨hk12, hr7⟩ := ck_elim hr7
      refine c_iast (pc := 43) (lt48 (by decide)) rfl hk12 dX0_charge_43 ?_
      refine lz_s (cW t) hr7 (fun s13 hr7 => ?_)
      show Rn g mdX0_charge 44 [some (.ref 30), some (.int p0), some (.int p1), some (.int p2), some (.int p3), some (.int v10)] [] (cW t s13) 0 0 none (cW t q)
      refine o_goto (pc := 44) 88 dX0_charge_44 rfl ?_
      obtain rfl := Option.some.inj hr7
      exact K8
    · have hr7 := it_f hr7 hc
      refine o_aload_n (pc := 47) dX0_charge_47 rfl ?_
      refine c_getR (pc := 48) 0 0 30 31 (by decide) (by decide) rfl (lt48 (by decide)) rfl rfl lkX0_12 dX0_charge_48 ?_
      refine o_iload_n (pc := 51) dX0_charge_51 rfl ?_
      obtain ⟨q15, hk14, hr7⟩ := bd_elim hr7
      refine c_callV (pc := 52) 4 31 [.int p1] (by decide) (lt48 (by decide)) rfl dX0_charge_52 (kX5_isExempt_31 hk14) stX0_166 ⟨by decide, by decide, by decide, by decide⟩ ⟨rfl, rfl⟩ (Nat.le_of_ble_eq_true rfl) ?_
      show Rn g mdX0_charge 55 [some (.ref 30), some (.int p0), some (.int p1), some (.int p2), some (.int p3), some (.int 0)] [.int q15] (cW t s) 0 0 none (cW t q)
      obtain ⟨b16, hr17, hr7⟩ := bd_elim hr7
      have KB18 : (b16 = true → Rn g mdX0_charge 66 [some (.ref 30), some (.int p0), some (.int p1), some (.int p2), some (.int p3), some (.int 0)] [] (cW t s) 0 0 none (cW t q)) ∧ (¬ b16 = true → Rn g mdX0_charge 88 [some (.ref 30), some (.int p0), some (.int p1), some (.int p2), some (.int p3), some (.int 0)] [] (cW t s) 0 0 none (cW t q)) := by
        refine ⟨fun hc => ?_, fun hc => ?_⟩
        · have hr7 := it_t hr7 hc
          refine o_aload_n (pc := 66) dX0_charge_66 rfl ?_
          refine c_getO (pc := 67) 5 0 (by decide) lkX0_38 dX0_charge_67 ?_
          obtain ⟨hk19, hr7⟩ := ck_elim hr7
          have hk19 := of_decide_eq_true hk19
          rw [hk19]
          refine c_getI (pc := 70) 6 5 18 (by decide) (by decide) rfl (lt48 (by decide)) rfl lkX0_173 dX0_charge_70 ?_
          refine lz_i hr7 (fun v20 hr7 => ?_)
          refine o_istore (pc := 73) dX0_charge_73 (by decide) rfl ?_
          show Rn g mdX0_charge 75 [some (.ref 30), some (.int p0), some (.int p1), some (.int p2), some (.int p3), some (.int v20)] [] (cW t s) 0 0 none (cW t q)
          refine o_aload_n (pc := 75) dX0_charge_75 rfl ?_
          refine c_getR (pc := 76) 0 1 30 33 (by decide) (by decide) rfl (lt48 (by decide)) rfl rfl lkX0_21 dX0_charge_76 ?_
          refine c_getR (pc := 79) 1 6 33 40 (by decide) (by decide) rfl (lt48 (by decide)) rfl rfl lkX0_112 dX0_charge_79 ?_
          refine o_iload_n (pc := 82) dX0_charge_82 rfl ?_
          refine o_dup2 (pc := 83) dX0_charge_83 rfl rfl ?_
          obtain ⟨hk21, hr7⟩ := ck_elim hr7
          refine c_iald (pc := 84) (lt48 (by decide)) rfl hk21 dX0_charge_84 ?_
          refine o_iconst (pc := 85) (v := 1) dX0_charge_85 rfl ?_
          refine o_iadd (pc := 86) dX0_charge_86 ?_
          obtain ⟨hk22, hr7⟩ := ck_elim hr7
          refine c_iast (pc := 87) (lt48 (by decide)) rfl hk22 dX0_charge_87 ?_
          refine lz_s (cW t) hr7 (fun s23 hr7 => ?_)
          show Rn g mdX0_charge 88 [some (.ref 30), some (.int p0), some (.int p1), some (.int p2), some (.int p3), some (.int v20)] [] (cW t s23) 0 0 none (cW t q)
          obtain rfl := Option.some.inj hr7
          exact K8
        · have hr7 := it_f hr7 hc
          obtain rfl := Option.some.inj hr7
          exact K8
      clear hr7
      refine o_if_ne (pc := 55) 88 dX0_charge_55 rfl (fun hc => ?_) (fun hc => ?_)
      · have hr17 := it_f hr17 hc
        obtain rfl := Option.some.inj hr17
        exact KB18.2 (by decide)
      · have hr17 := it_t hr17 hc
        refine o_iload_n (pc := 58) dX0_charge_58 rfl ?_
        refine o_aload_n (pc := 59) dX0_charge_59 rfl ?_
        refine c_getI (pc := 60) 0 8 30 (by decide) (by decide) rfl (lt48 (by decide)) rfl lkX0_50 dX0_charge_60 ?_
        refine o_icmp_le (pc := 63) 88 dX0_charge_63 rfl (fun hc => ?_) (fun hc => ?_)
        · have hr17 := it_t hr17 hc
          obtain rfl := Option.some.inj hr17
          exact KB18.2 (by decide)
        · have hr17 := it_f hr17 hc
          obtain rfl := Option.some.inj hr17
          exact KB18.1 rfl
  clear hr7
  refine o_if_ne (pc := 11) 47 dX0_charge_11 rfl (fun hc => ?_) (fun hc => ?_)
  · have hr4 := it_f hr4 hc
    obtain rfl := Option.some.inj hr4
    exact KB5.2 (by decide)
  · have hr4 := it_t hr4 hc
    refine o_iload_n (pc := 14) dX0_charge_14 rfl ?_
    refine o_aload_n (pc := 15) dX0_charge_15 rfl ?_
    refine c_getI (pc := 16) 0 7 30 (by decide) (by decide) rfl (lt48 (by decide)) rfl lkX0_46 dX0_charge_16 ?_
    refine o_icmp_ge (pc := 19) 47 dX0_charge_19 rfl (fun hc => ?_) (fun hc => ?_)
    · have hr4 := it_t hr4 hc
      obtain rfl := Option.some.inj hr4
      exact KB5.2 (by decide)
    · have hr4 := it_f hr4 hc
      obtain rfl := Option.some.inj hr4
      exact KB5.1 rfl
def fX2_joined (p0 : Int32) (p1 : Int64) (p2 : Int64) (s : ST) : Option (Int64) :=
  if p0 = 2 then some (p1 + p2) else if p0 = 3 then some (p1 - p2) else if p0 = 4 then some (p1 * p2) else if p0 = 5 then (if (lg_cmp p2 0) = 0 then some 0 else ck (decide (¬ p2 = 0)) (some (p1 / p2)) : Option (Int64)).bind (fun w5 => some w5) else if p0 = 6 then (if (lg_cmp p2 0) = 0 then some 0 else ck (decide (¬ p2 = 0)) (some (p1 - p1 / p2 * p2)) : Option (Int64)).bind (fun w10 => some w10) else if p0 = 7 then (if 0 ≤ (lg_cmp p1 p2) then some 0 else some 1 : Option (Int64)).bind (fun w15 => some w15) else if p0 = 8 then (if 0 < (lg_cmp p1 p2) then some 0 else some 1 : Option (Int64)).bind (fun w19 => some w19) else if p0 = 9 then (if (lg_cmp p1 p2) = 0 then some 1 else some 0 : Option (Int64)).bind (fun w23 => some w23) else if p0 = 10 then (if (lg_cmp p1 p2) < 0 then some 0 else some 1 : Option (Int64)).bind (fun w27 => some w27) else if p0 = 11 then (if (lg_cmp p1 p2) ≤ 0 then some 0 else some 1 : Option (Int64)).bind (fun w31 => some w31) else if p0 = 12 then some (p1 &&& p2) else some (p1 ||| p2)
set_option maxRecDepth 20000 in
theorem kX2_joined {g : GX} {t : PH} {p0 : Int32} {p1 : Int64} {p2 : Int64} {s : ST} {q : Int64} (hf : fX2_joined p0 p1 p2 s = some q) : Cn g mdX2_joined [.int p0, .long p1, .long p2] (cW t s) (some (.long q)) (cW t s) := by
  refine Cn.of (by decide) (Nat.le_of_ble_eq_true rfl) ?_
  show Rn g mdX2_joined 0 [some (.int p0), some (.long p1), none, some (.long p2), none] [] (cW t s) 0 0 (some (.long q)) (cW t s)
  unfold fX2_joined at hf
  refine o_iload_n (pc := 0) dX2_joined_0 rfl ?_
  by_cases hx1 : p0 = 2
  · have hf := it_t hf hx1
    refine o_tableIn (pc := 1) 60 dX2_joined_1 (by rw [hx1] <;> decide) (by rw [hx1] <;> decide) (by rw [hx1] <;> rfl) rfl ?_
    refine o_lload_n (pc := 60) dX2_joined_60 rfl ?_
    refine o_lload_n (pc := 61) dX2_joined_61 rfl ?_
    refine o_ladd (pc := 62) dX2_joined_62 ?_
    obtain rfl := Option.some.inj hf
    exact o_lreturn (pc := 63) dX2_joined_63 rfl (Nat.zero_le _) (Nat.zero_le _)
  have hf := it_f hf hx1
  by_cases hx2 : p0 = 3
  · have hf := it_t hf hx2
    refine o_tableIn (pc := 1) 64 dX2_joined_1 (by rw [hx2] <;> decide) (by rw [hx2] <;> decide) (by rw [hx2] <;> rfl) rfl ?_
    refine o_lload_n (pc := 64) dX2_joined_64 rfl ?_
    refine o_lload_n (pc := 65) dX2_joined_65 rfl ?_
    refine o_lsub (pc := 66) dX2_joined_66 ?_
    obtain rfl := Option.some.inj hf
    exact o_lreturn (pc := 67) dX2_joined_67 rfl (Nat.zero_le _) (Nat.zero_le _)
  have hf := it_f hf hx2
  by_cases hx3 : p0 = 4
  · have hf := it_t hf hx3
    refine o_tableIn (pc := 1) 68 dX2_joined_1 (by rw [hx3] <;> decide) (by rw [hx3] <;> decide) (by rw [hx3] <;> rfl) rfl ?_
    refine o_lload_n (pc := 68) dX2_joined_68 rfl ?_
    refine o_lload_n (pc := 69) dX2_joined_69 rfl ?_
    refine o_lmul (pc := 70) dX2_joined_70 ?_
    obtain rfl := Option.some.inj hf
    exact o_lreturn (pc := 71) dX2_joined_71 rfl (Nat.zero_le _) (Nat.zero_le _)
  have hf := it_f hf hx3
  by_cases hx4 : p0 = 5
  · have hf := it_t hf hx4
    refine o_tableIn (pc := 1) 72 dX2_joined_1 (by rw [hx4] <;> decide) (by rw [hx4] <;> decide) (by rw [hx4] <;> rfl) rfl ?_
    refine o_lload_n (pc := 72) dX2_joined_72 rfl ?_
    refine o_lconst (pc := 73) (v := 0) dX2_joined_73 rfl ?_
    refine o_lcmp (pc := 74) dX2_joined_74 ?_
    obtain ⟨w5, hr6, hf⟩ := bd_elim hf
    have K7 : Rn g mdX2_joined 85 [none, none, none, none, none] [.long w5] (cW t s) 0 0 (some (.long q)) (cW t s) := by
      obtain rfl := Option.some.inj hf
      exact o_lreturn (pc := 85) dX2_joined_85 rfl (Nat.zero_le _) (Nat.zero_le _)
    clear hf
    refine o_if_ne (pc := 75) 82 dX2_joined_75 rfl (fun hc => ?_) (fun hc => ?_)
    · have hr6 := it_f hr6 hc
      refine o_lload_n (pc := 82) dX2_joined_82 rfl ?_
      refine o_lload_n (pc := 83) dX2_joined_83 rfl ?_
      obtain ⟨hk8, hr6⟩ := ck_elim hr6
      refine o_ldiv (pc := 84) dX2_joined_84 (of_decide_eq_true hk8) ?_
      obtain rfl := Option.some.inj hr6
      refine o_keep [false, false, false, false, false] ?_
      exact K7
    · have hr6 := it_t hr6 hc
      refine o_lconst (pc := 78) (v := 0) dX2_joined_78 rfl ?_
      refine o_goto (pc := 79) 85 dX2_joined_79 rfl ?_
      obtain rfl := Option.some.inj hr6
      refine o_keep [false, false, false, false, false] ?_
      exact K7
  have hf := it_f hf hx4
  by_cases hx9 : p0 = 6
  · have hf := it_t hf hx9
    refine o_tableIn (pc := 1) 86 dX2_joined_1 (by rw [hx9] <;> decide) (by rw [hx9] <;> decide) (by rw [hx9] <;> rfl) rfl ?_
    refine o_lload_n (pc := 86) dX2_joined_86 rfl ?_
    refine o_lconst (pc := 87) (v := 0) dX2_joined_87 rfl ?_
    refine o_lcmp (pc := 88) dX2_joined_88 ?_
    obtain ⟨w10, hr11, hf⟩ := bd_elim hf
    have K12 : Rn g mdX2_joined 99 [none, none, none, none, none] [.long w10] (cW t s) 0 0 (some (.long q)) (cW t s) := by
      obtain rfl := Option.some.inj hf
      exact o_lreturn (pc := 99) dX2_joined_99 rfl (Nat.zero_le _) (Nat.zero_le _)
    clear hf
    refine o_if_ne (pc := 89) 96 dX2_joined_89 rfl (fun hc => ?_) (fun hc => ?_)
    · have hr11 := it_f hr11 hc
      refine o_lload_n (pc := 96) dX2_joined_96 rfl ?_
      refine o_lload_n (pc := 97) dX2_joined_97 rfl ?_
      obtain ⟨hk13, hr11⟩ := ck_elim hr11
      refine o_lrem (pc := 98) dX2_joined_98 (of_decide_eq_true hk13) ?_
      obtain rfl := Option.some.inj hr11
      refine o_keep [false, false, false, false, false] ?_
      exact K12
    · have hr11 := it_t hr11 hc
      refine o_lconst (pc := 92) (v := 0) dX2_joined_92 rfl ?_
      refine o_goto (pc := 93) 99 dX2_joined_93 rfl ?_
      obtain rfl := Option.some.inj hr11
      refine o_keep [false, false, false, false, false] ?_
      exact K12
  have hf := it_f hf hx9
  by_cases hx14 : p0 = 7
  · have hf := it_t hf hx14
    refine o_tableIn (pc := 1) 100 dX2_joined_1 (by rw [hx14] <;> decide) (by rw [hx14] <;> decide) (by rw [hx14] <;> rfl) rfl ?_
    refine o_lload_n (pc := 100) dX2_joined_100 rfl ?_
    refine o_lload_n (pc := 101) dX2_joined_101 rfl ?_
    refine o_lcmp (pc := 102) dX2_joined_102 ?_
    obtain ⟨w15, hr16, hf⟩ := bd_elim hf
    have K17 : Rn g mdX2_joined 111 [none, none, none, none, none] [.long w15] (cW t s) 0 0 (some (.long q)) (cW t s) := by
      obtain rfl := Option.some.inj hf
      exact o_lreturn (pc := 111) dX2_joined_111 rfl (Nat.zero_le _) (Nat.zero_le _)
    clear hf
    refine o_if_ge (pc := 103) 110 dX2_joined_103 rfl (fun hc => ?_) (fun hc => ?_)
    · have hr16 := it_t hr16 hc
      refine o_lconst (pc := 110) (v := 0) dX2_joined_110 rfl ?_
      obtain rfl := Option.some.inj hr16
      refine o_keep [false, false, false, false, false] ?_
      exact K17
    · have hr16 := it_f hr16 hc
      refine o_lconst (pc := 106) (v := 1) dX2_joined_106 rfl ?_
      refine o_goto (pc := 107) 111 dX2_joined_107 rfl ?_
      obtain rfl := Option.some.inj hr16
      refine o_keep [false, false, false, false, false] ?_
      exact K17
  have hf := it_f hf hx14
  by_cases hx18 : p0 = 8
  · have hf := it_t hf hx18
    refine o_tableIn (pc := 1) 112 dX2_joined_1 (by rw [hx18] <;> decide) (by rw [hx18] <;> decide) (by rw [hx18] <;> rfl) rfl ?_
    refine o_lload_n (pc := 112) dX2_joined_112 rfl ?_
    refine o_lload_n (pc := 113) dX2_joined_113 rfl ?_
    refine o_lcmp (pc := 114) dX2_joined_114 ?_
    obtain ⟨w19, hr20, hf⟩ := bd_elim hf
    have K21 : Rn g mdX2_joined 123 [none, none, none, none, none] [.long w19] (cW t s) 0 0 (some (.long q)) (cW t s) := by
      obtain rfl := Option.some.inj hf
      exact o_lreturn (pc := 123) dX2_joined_123 rfl (Nat.zero_le _) (Nat.zero_le _)
    clear hf
    refine o_if_gt (pc := 115) 122 dX2_joined_115 rfl (fun hc => ?_) (fun hc => ?_)
    · have hr20 := it_t hr20 hc
      refine o_lconst (pc := 122) (v := 0) dX2_joined_122 rfl ?_
      obtain rfl := Option.some.inj hr20
      refine o_keep [false, false, false, false, false] ?_
      exact K21
    · have hr20 := it_f hr20 hc
      refine o_lconst (pc := 118) (v := 1) dX2_joined_118 rfl ?_
      refine o_goto (pc := 119) 123 dX2_joined_119 rfl ?_
      obtain rfl := Option.some.inj hr20
      refine o_keep [false, false, false, false, false] ?_
      exact K21
  have hf := it_f hf hx18
  by_cases hx22 : p0 = 9
  · have hf := it_t hf hx22
    refine o_tableIn (pc := 1) 124 dX2_joined_1 (by rw [hx22] <;> decide) (by rw [hx22] <;> decide) (by rw [hx22] <;> rfl) rfl ?_
    refine o_lload_n (pc := 124) dX2_joined_124 rfl ?_
    refine o_lload_n (pc := 125) dX2_joined_125 rfl ?_
    refine o_lcmp (pc := 126) dX2_joined_126 ?_
    obtain ⟨w23, hr24, hf⟩ := bd_elim hf
    have K25 : Rn g mdX2_joined 135 [none, none, none, none, none] [.long w23] (cW t s) 0 0 (some (.long q)) (cW t s) := by
      obtain rfl := Option.some.inj hf
      exact o_lreturn (pc := 135) dX2_joined_135 rfl (Nat.zero_le _) (Nat.zero_le _)
    clear hf
    refine o_if_ne (pc := 127) 134 dX2_joined_127 rfl (fun hc => ?_) (fun hc => ?_)
    · have hr24 := it_f hr24 hc
      refine o_lconst (pc := 134) (v := 0) dX2_joined_134 rfl ?_
      obtain rfl := Option.some.inj hr24
      refine o_keep [false, false, false, false, false] ?_
      exact K25
    · have hr24 := it_t hr24 hc
      refine o_lconst (pc := 130) (v := 1) dX2_joined_130 rfl ?_
      refine o_goto (pc := 131) 135 dX2_joined_131 rfl ?_
      obtain rfl := Option.some.inj hr24
      refine o_keep [false, false, false, false, false] ?_
      exact K25
  have hf := it_f hf hx22
  by_cases hx26 : p0 = 10
  · have hf := it_t hf hx26
    refine o_tableIn (pc := 1) 136 dX2_joined_1 (by rw [hx26] <;> decide) (by rw [hx26] <;> decide) (by rw [hx26] <;> rfl) rfl ?_
    refine o_lload_n (pc := 136) dX2_joined_136 rfl ?_
    refine o_lload_n (pc := 137) dX2_joined_137 rfl ?_
    refine o_lcmp (pc := 138) dX2_joined_138 ?_
    obtain ⟨w27, hr28, hf⟩ := bd_elim hf
    have K29 : Rn g mdX2_joined 147 [none, none, none, none, none] [.long w27] (cW t s) 0 0 (some (.long q)) (cW t s) := by
      obtain rfl := Option.some.inj hf
      exact o_lreturn (pc := 147) dX2_joined_147 rfl (Nat.zero_le _) (Nat.zero_le _)
    clear hf
    refine o_if_lt (pc := 139) 146 dX2_joined_139 rfl (fun hc => ?_) (fun hc => ?_)
    · have hr28 := it_t hr28 hc
      refine o_lconst (pc := 146) (v := 0) dX2_joined_146 rfl ?_
      obtain rfl := Option.some.inj hr28
      refine o_keep [false, false, false, false, false] ?_
      exact K29
    · have hr28 := it_f hr28 hc
      refine o_lconst (pc := 142) (v := 1) dX2_joined_142 rfl ?_
      refine o_goto (pc := 143) 147 dX2_joined_143 rfl ?_
      obtain rfl := Option.some.inj hr28
      refine o_keep [false, false, false, false, false] ?_
      exact K29
  have hf := it_f hf hx26
  by_cases hx30 : p0 = 11
  · have hf := it_t hf hx30
    refine o_tableIn (pc := 1) 148 dX2_joined_1 (by rw [hx30] <;> decide) (by rw [hx30] <;> decide) (by rw [hx30] <;> rfl) rfl ?_
    refine o_lload_n (pc := 148) dX2_joined_148 rfl ?_
    refine o_lload_n (pc := 149) dX2_joined_149 rfl ?_
    refine o_lcmp (pc := 150) dX2_joined_150 ?_
    obtain ⟨w31, hr32, hf⟩ := bd_elim hf
    have K33 : Rn g mdX2_joined 159 [none, none, none, none, none] [.long w31] (cW t s) 0 0 (some (.long q)) (cW t s) := by
      obtain rfl := Option.some.inj hf
      exact o_lreturn (pc := 159) dX2_joined_159 rfl (Nat.zero_le _) (Nat.zero_le _)
    clear hf
    refine o_if_le (pc := 151) 158 dX2_joined_151 rfl (fun hc => ?_) (fun hc => ?_)
    · have hr32 := it_t hr32 hc
      refine o_lconst (pc := 158) (v := 0) dX2_joined_158 rfl ?_
      obtain rfl := Option.some.inj hr32
      refine o_keep [false, false, false, false, false] ?_
      exact K33
    · have hr32 := it_f hr32 hc
      refine o_lconst (pc := 154) (v := 1) dX2_joined_154 rfl ?_
      refine o_goto (pc := 155) 159 dX2_joined_155 rfl ?_
      obtain rfl := Option.some.inj hr32
      refine o_keep [false, false, false, false, false] ?_
      exact K33
  have hf := it_f hf hx30
  by_cases hx34 : p0 = 12
  · have hf := it_t hf hx34
    refine o_tableIn (pc := 1) 160 dX2_joined_1 (by rw [hx34] <;> decide) (by rw [hx34] <;> decide) (by rw [hx34] <;> rfl) rfl ?_
    refine o_lload_n (pc := 160) dX2_joined_160 rfl ?_
    refine o_lload_n (pc := 161) dX2_joined_161 rfl ?_
    refine o_land (pc := 162) dX2_joined_162 ?_
    obtain rfl := Option.some.inj hf
    exact o_lreturn (pc := 163) dX2_joined_163 rfl (Nat.zero_le _) (Nat.zero_le _)
  have hf := it_f hf hx34
  refine o_tableOut (pc := 1) 164 dX2_joined_1 (sw_out 2 10 (fun n hn => ?_)) rfl ?_
  · match n, hn with
    | 0, _ => exact sw_ne hx1 rfl
    | 1, _ => exact sw_ne hx2 rfl
    | 2, _ => exact sw_ne hx3 rfl
    | 3, _ => exact sw_ne hx4 rfl
    | 4, _ => exact sw_ne hx9 rfl
    | 5, _ => exact sw_ne hx14 rfl
    | 6, _ => exact sw_ne hx18 rfl
    | 7, _ => exact sw_ne hx22 rfl
    | 8, _ => exact sw_ne hx26 rfl
    | 9, _ => exact sw_ne hx30 rfl
    | 10, _ => exact sw_ne hx34 rfl
    | n + 11, h => exact absurd h (by omega)
  · refine o_lload_n (pc := 164) dX2_joined_164 rfl ?_
    refine o_lload_n (pc := 165) dX2_joined_165 rfl ?_
    refine o_lor (pc := 166) dX2_joined_166 ?_
    obtain rfl := Option.some.inj hf
    exact o_lreturn (pc := 167) dX2_joined_167 rfl (Nat.zero_le _) (Nat.zero_le _)
def fX2_reckon_Rl_42_43_L6 (a2 : Int32) (a0 : Nat) (t : PH) : Nat → Int32 → Int32 → ST → Option (Int32 × Int32 × ST)
  | 0, _, _, _ => none
  | n + 1, x5, x6, s => (if a2 ≤ x6 then some false else if (Int32.ofNat (alT t (a0 + 1))) ≤ x6 then some false else some true : Option Bool).bind (fun b1 => if b1 = true then ck (inb x6 (alT t (a0 + 1))) (lt ((gi s (a0 + 1) (ix x6)) &&& 31 : Int32) (fun v5 => ck (inb x6 (alT t (a0 + 1))) (lt ((gi s (a0 + 1) (ix x6)) >>> (5 &&& 31) : Int32) (fun v7 => (if v5 = 0 then if 64 ≤ x5 then some false else some true else some false : Option Bool).bind (fun b8 => (if b8 = true then ck (inb x5 64) (lt (sl s 43 (ix x5) v7.toInt64) (fun s15 => lt (x5 + 1) (fun v16 => some (v16, s15)))) else (if v5 = 1 then if 64 ≤ x5 then some false else if 14 ≤ v7 then some false else some true else some false : Option Bool).bind (fun b17 => if b17 = true then ck (inb v7 14) (ck (inb x5 64) (lt (sl s 43 (ix x5) ((gi s 42 (ix v7)).toInt64)) (fun s22 => lt (x5 + 1) (fun v23 => some (v23, s22))))) else (if v5 = 14 then if x5 < 1 then some false else some true else some false : Option Bool).bind (fun b24 => if b24 = true then ck (inb (x5 - 1) 64) (ck (inb (x5 - 1) 64) (lt (sl s 43 (ix (x5 - 1)) (1 - (gl s 43 (ix (x5 - 1))))) (fun s29 => some (x5, s29)))) else if x5 < 2 then some (x5, s) else lt (x5 + (-1)) (fun v30 => ck (inb (v30 - 1) 64) (ck (inb v30 64) ((fX2_joined v5 (gl s 43 (ix (v30 - 1))) (gl s 43 (ix v30)) s).bind (fun q34 => ck (inb (v30 - 1) 64) (lt (sl s 43 (ix (v30 - 1)) q34) (fun s36 => some (v30, s36))))))))) : Option (Int32 × ST)).bind (fun w11 => lt (x6 + 1) (fun v37 => fX2_reckon_Rl_42_43_L6 a2 a0 t n w11.1 v37 w11.2))))))) else some (x5, x6, s))
def fX2_reckon_Rl_42_43 (a0 : Nat) (p0 : Int32) (p1 : Int32) (t : PH) (s : ST) : Option (Int64 × ST) :=
  (fX2_reckon_Rl_42_43_L6 p1 a0 t FUEL 0 p0 s).bind (fun w38 => (if w38.1 ≤ 0 then some 0 else ck (inb 0 64) (some (gl w38.2.2 43 (ix 0))) : Option (Int64)).bind (fun w41 => some (w41, w38.2.2)))
set_option maxRecDepth 20000 in
theorem kX2_reckon_Rl_42_43_L6 {g : GX} {t : PH} (a2 : Int32) (a0 : Nat) (ha0 : isRl t a0) {r : Option Value} {h2 : PH} : ∀ (n : Nat) (x5 : Int32) (x6 : Int32) (s : ST) {w : Int32 × Int32 × ST}, fX2_reckon_Rl_42_43_L6 a2 a0 t n x5 x6 s = some w → Rn g mdX2_reckon 180 [none, none, none, none, some (.ref 43), some (.int w.1), none, none, none] [] (cW t w.2.2) 0 0 r h2 → Rn g mdX2_reckon 6 [some (.ref a0), none, some (.int a2), some (.ref 42), some (.ref 43), some (.int x5), some (.int x6), none, none] [] (cW t s) 0 0 r h2 := by
  intro n
  induction n with
  | zero => intro x5 x6 s w hf K; cases hf
  | succ n ih =>
    intro x5 x6 s w hf K
    rw [fX2_reckon_Rl_42_43_L6] at hf
    refine o_iload (pc := 6) dX2_reckon_6 rfl ?_
    refine o_iload_n (pc := 8) dX2_reckon_8 rfl ?_
    obtain ⟨b1, hr2, hf⟩ := bd_elim hf
    have KB3 : (b1 = true → Rn g mdX2_reckon 22 [some (.ref a0), none, some (.int a2), some (.ref 42), some (.ref 43), some (.int x5), some (.int x6), none, none] [] (cW t s) 0 0 r h2) ∧ (¬ b1 = true → Rn g mdX2_reckon 180 [some (.ref a0), none, some (.int a2), some (.ref 42), some (.ref 43), some (.int x5), some (.int x6), none, none] [] (cW t s) 0 0 r h2) := by
      refine ⟨fun hc => ?_, fun hc => ?_⟩
      · have hf := it_t hf hc
        refine o_aload_n (pc := 22) dX2_reckon_22 rfl ?_
        refine c_getR (pc := 23) 2 1 a0 (a0 + 1) (by decide) (by decide) rfl (by have := ha0.1; omega) ha0.2.1 ((hR_cW ha0.2.1 (by decide)).trans ha0.2.2.1.1) lkX2_15 dX2_reckon_23 ?_
        refine o_iload (pc := 26) dX2_reckon_26 rfl ?_
        obtain ⟨hk4, hf⟩ := ck_elim hf
        refine c_iald (pc := 28) (by have := ha0.1; omega) ha0.2.2.2.1 hk4 dX2_reckon_28 ?_
        refine o_bipush (pc := 29) (v := 31) dX2_reckon_29 rfl ?_
        refine o_iand (pc := 31) dX2_reckon_31 ?_
        refine lz_i hf (fun v5 hf => ?_)
        refine o_istore (pc := 32) dX2_reckon_32 (by decide) rfl ?_
        show Rn g mdX2_reckon 34 [some (.ref a0), none, some (.int a2), some (.ref 42), some (.ref 43), some (.int x5), some (.int x6), some (.int v5), none] [] (cW t s) 0 0 r h2
        refine o_aload_n (pc := 34) dX2_reckon_34 rfl ?_
        refine c_getR (pc := 35) 2 1 a0 (a0 + 1) (by decide) (by decide) rfl (by have := ha0.1; omega) ha0.2.1 ((hR_cW ha0.2.1 (by decide)).trans ha0.2.2.1.1) lkX2_15 dX2_reckon_35 ?_
        refine o_iload (pc := 38) dX2_reckon_38 rfl ?_
        obtain ⟨hk6, hf⟩ := ck_elim hf
        refine c_iald (pc := 40) (by have := ha0.1; omega) ha0.2.2.2.1 hk6 dX2_reckon_40 ?_
        refine o_iconst (pc := 41) (v := 5) dX2_reckon_41 rfl ?_
        refine o_ishr (pc := 42) dX2_reckon_42 ?_
        refine lz_i hf (fun v7 hf => ?_)
        refine o_istore (pc := 43) dX2_reckon_43 (by decide) rfl ?_
        show Rn g mdX2_reckon 45 [some (.ref a0), none, some (.int a2), some (.ref 42), some (.ref 43), some (.int x5), some (.int x6), some (.int v5), some (.int v7)] [] (cW t s) 0 0 r h2
        refine o_iload (pc := 45) dX2_reckon_45 rfl ?_
        obtain ⟨b8, hr9, hf⟩ := bd_elim hf
        obtain ⟨w11, hr12, hf⟩ := bd_elim hf
        have K13 : Rn g mdX2_reckon 174 [some (.ref a0), none, some (.int a2), some (.ref 42), some (.ref 43), some (.int w11.1), some (.int x6), none, none] [] (cW t w11.2) 0 0 r h2 := by
          refine o_iinc (pc := 174) dX2_reckon_174 rfl (by decide) rfl ?_
          show Rn g mdX2_reckon 177 [some (.ref a0), none, some (.int a2), some (.ref 42), some (.ref 43), some (.int w11.1), some (.int (x6 + 1)), none, none] [] (cW t w11.2) 0 0 r h2
          obtain ⟨v37, ev37, hf⟩ := lt_elim hf
          rw [ev37]
          show Rn g mdX2_reckon 177 [some (.ref a0), none, some (.int a2), some (.ref 42), some (.ref 43), some (.int w11.1), some (.int v37), none, none] [] (cW t w11.2) 0 0 r h2
          refine o_goto (pc := 177) 6 dX2_reckon_177 rfl ?_
          exact ih _ _ _ hf K
        clear hf
        have KB10 : (b8 = true → Rn g mdX2_reckon 58 [some (.ref a0), none, some (.int a2), some (.ref 42), some (.ref 43), some (.int x5), some (.int x6), some (.int v5), some (.int v7)] [] (cW t s) 0 0 r h2) ∧ (¬ b8 = true → Rn g mdX2_reckon 72 [some (.ref a0), none, some (.int a2), some (.ref 42), some (.ref 43), some (.int x5), some (.int x6), some (.int v5), some (.int v7)] [] (cW t s) 0 0 r h2) := by
          refine ⟨fun hc => ?_, fun hc => ?_⟩
          · have hr12 := it_t hr12 hc
            refine o_aload (pc := 58) dX2_reckon_58 rfl ?_
            refine o_iload (pc := 60) dX2_reckon_60 rfl ?_
            refine o_iload (pc := 62) dX2_reckon_62 rfl ?_
            refine o_i2l (pc := 64) dX2_reckon_64 ?_
            obtain ⟨hk14, hr12⟩ := ck_elim hr12
            refine c_last (pc := 65) (lt48 (by decide)) rfl hk14 dX2_reckon_65 ?_
            refine lz_s (cW t) hr12 (fun s15 hr12 => ?_)
            show Rn g mdX2_reckon 66 [some (.ref a0), none, some (.int a2), some (.ref 42), some (.ref 43), some (.int x5), some (.int x6), some (.int v5), some (.int v7)] [] (cW t s15) 0 0 r h2
            refine o_iinc (pc := 66) dX2_reckon_66 rfl (by decide) rfl ?_
            show Rn g mdX2_reckon 69 [some (.ref a0), none, some (.int a2), some (.ref 42), some (.ref 43), some (.int (x5 + 1)), some (.int x6), some (.int v5), some (.int v7)] [] (cW t s15) 0 0 r h2
            obtain ⟨v16, ev16, hr12⟩ := lt_elim hr12
            rw [ev16]
            show Rn g mdX2_reckon 69 [some (.ref a0), none, some (.int a2), some (.ref 42), some (.ref 43), some (.int v16), some (.int x6), some (.int v5), some (.int v7)] [] (cW t s15) 0 0 r h2
            refine o_goto (pc := 69) 174 dX2_reckon_69 rfl ?_
            obtain rfl := Option.some.inj hr12
            refine o_keep [true, false, true, true, true, true, true, false, false] ?_
            exact K13
          · have hr12 := it_f hr12 hc
            refine o_iload (pc := 72) dX2_reckon_72 rfl ?_
            refine o_iconst (pc := 74) (v := 1) dX2_reckon_74 rfl ?_
            obtain ⟨b17, hr18, hr12⟩ := bd_elim hr12
            have KB19 : (b17 = true → Rn g mdX2_reckon 93 [some (.ref a0), none, some (.int a2), some (.ref 42), some (.ref 43), some (.int x5), some (.int x6), some (.int v5), some (.int v7)] [] (cW t s) 0 0 r h2) ∧ (¬ b17 = true → Rn g mdX2_reckon 109 [some (.ref a0), none, some (.int a2), some (.ref 42), some (.ref 43), some (.int x5), some (.int x6), some (.int v5), some (.int v7)] [] (cW t s) 0 0 r h2) := by
              refine ⟨fun hc => ?_, fun hc => ?_⟩
              · have hr12 := it_t hr12 hc
                refine o_aload (pc := 93) dX2_reckon_93 rfl ?_
                refine o_iload (pc := 95) dX2_reckon_95 rfl ?_
                refine o_aload_n (pc := 97) dX2_reckon_97 rfl ?_
                refine o_iload (pc := 98) dX2_reckon_98 rfl ?_
                obtain ⟨hk20, hr12⟩ := ck_elim hr12
                refine c_iald (pc := 100) (lt48 (by decide)) rfl hk20 dX2_reckon_100 ?_
                refine o_i2l (pc := 101) dX2_reckon_101 ?_
                obtain ⟨hk21, hr12⟩ := ck_elim hr12
                refine c_last (pc := 102) (lt48 (by decide)) rfl hk21 dX2_reckon_102 ?_
                refine lz_s (cW t) hr12 (fun s22 hr12 => ?_)
                show Rn g mdX2_reckon 103 [some (.ref a0), none, some (.int a2), some (.ref 42), some (.ref 43), some (.int x5), some (.int x6), some (.int v5), some (.int v7)] [] (cW t s22) 0 0 r h2
                refine o_iinc (pc := 103) dX2_reckon_103 rfl (by decide) rfl ?_
                show Rn g mdX2_reckon 106 [some (.ref a0), none, some (.int a2), some (.ref 42), some (.ref 43), some (.int (x5 + 1)), some (.int x6), some (.int v5), some (.int v7)] [] (cW t s22) 0 0 r h2
                obtain ⟨v23, ev23, hr12⟩ := lt_elim hr12
                rw [ev23]
                show Rn g mdX2_reckon 106 [some (.ref a0), none, some (.int a2), some (.ref 42), some (.ref 43), some (.int v23), some (.int x6), some (.int v5), some (.int v7)] [] (cW t s22) 0 0 r h2
                refine o_goto (pc := 106) 174 dX2_reckon_106 rfl ?_
                obtain rfl := Option.some.inj hr12
                refine o_keep [true, false, true, true, true, true, true, false, false] ?_
                exact K13
              · have hr12 := it_f hr12 hc
                refine o_iload (pc := 109) dX2_reckon_109 rfl ?_
                refine o_bipush (pc := 111) (v := 14) dX2_reckon_111 rfl ?_
                obtain ⟨b24, hr25, hr12⟩ := bd_elim hr12
                have KB26 : (b24 = true → Rn g mdX2_reckon 122 [some (.ref a0), none, some (.int a2), some (.ref 42), some (.ref 43), some (.int x5), some (.int x6), some (.int v5), some (.int v7)] [] (cW t s) 0 0 r h2) ∧ (¬ b24 = true → Rn g mdX2_reckon 141 [some (.ref a0), none, some (.int a2), some (.ref 42), some (.ref 43), some (.int x5), some (.int x6), some (.int v5), some (.int v7)] [] (cW t s) 0 0 r h2) := by
                  refine ⟨fun hc => ?_, fun hc => ?_⟩
                  · have hr12 := it_t hr12 hc
                    refine o_aload (pc := 122) dX2_reckon_122 rfl ?_
                    refine o_iload (pc := 124) dX2_reckon_124 rfl ?_
                    refine o_iconst (pc := 126) (v := 1) dX2_reckon_126 rfl ?_
                    refine o_isub (pc := 127) dX2_reckon_127 ?_
                    refine o_lconst (pc := 128) (v := 1) dX2_reckon_128 rfl ?_
                    refine o_aload (pc := 129) dX2_reckon_129 rfl ?_
                    refine o_iload (pc := 131) dX2_reckon_131 rfl ?_
                    refine o_iconst (pc := 133) (v := 1) dX2_reckon_133 rfl ?_
                    refine o_isub (pc := 134) dX2_reckon_134 ?_
                    obtain ⟨hk27, hr12⟩ := ck_elim hr12
                    refine c_lald (pc := 135) (lt48 (by decide)) rfl hk27 dX2_reckon_135 ?_
                    refine o_lsub (pc := 136) dX2_reckon_136 ?_
                    obtain ⟨hk28, hr12⟩ := ck_elim hr12
                    refine c_last (pc := 137) (lt48 (by decide)) rfl hk28 dX2_reckon_137 ?_
                    refine lz_s (cW t) hr12 (fun s29 hr12 => ?_)
                    show Rn g mdX2_reckon 138 [some (.ref a0), none, some (.int a2), some (.ref 42), some (.ref 43), some (.int x5), some (.int x6), some (.int v5), some (.int v7)] [] (cW t s29) 0 0 r h2
                    refine o_goto (pc := 138) 174 dX2_reckon_138 rfl ?_
                    obtain rfl := Option.some.inj hr12
                    refine o_keep [true, false, true, true, true, true, true, false, false] ?_
                    exact K13
                  · have hr12 := it_f hr12 hc
                    refine o_iload (pc := 141) dX2_reckon_141 rfl ?_
                    refine o_iconst (pc := 143) (v := 2) dX2_reckon_143 rfl ?_
                    refine o_icmp_lt (pc := 144) 174 dX2_reckon_144 rfl (fun hc => ?_) (fun hc => ?_)
                    · have hr12 := it_t hr12 hc
                      obtain rfl := Option.some.inj hr12
                      refine o_keep [true, false, true, true, true, true, true, false, false] ?_
                      exact K13
                    · have hr12 := it_f hr12 hc
                      refine o_iinc (pc := 147) dX2_reckon_147 rfl (by decide) rfl ?_
                      show Rn g mdX2_reckon 150 [some (.ref a0), none, some (.int a2), some (.ref 42), some (.ref 43), some (.int (x5 + (-1))), some (.int x6), some (.int v5), some (.int v7)] [] (cW t s) 0 0 r h2
                      obtain ⟨v30, ev30, hr12⟩ := lt_elim hr12
                      rw [ev30]
                      show Rn g mdX2_reckon 150 [some (.ref a0), none, some (.int a2), some (.ref 42), some (.ref 43), some (.int v30), some (.int x6), some (.int v5), some (.int v7)] [] (cW t s) 0 0 r h2
                      refine o_aload (pc := 150) dX2_reckon_150 rfl ?_
                      refine o_iload (pc := 152) dX2_reckon_152 rfl ?_
                      refine o_iconst (pc := 154) (v := 1) dX2_reckon_154 rfl ?_
                      refine o_isub (pc := 155) dX2_reckon_155 ?_
                      refine o_iload (pc := 156) dX2_reckon_156 rfl ?_
                      refine o_aload (pc := 158) dX2_reckon_158 rfl ?_
                      refine o_iload (pc := 160) dX2_reckon_160 rfl ?_
                      refine o_iconst (pc := 162) (v := 1) dX2_reckon_162 rfl ?_
                      refine o_isub (pc := 163) dX2_reckon_163 ?_
                      obtain ⟨hk31, hr12⟩ := ck_elim hr12
                      refine c_lald (pc := 164) (lt48 (by decide)) rfl hk31 dX2_reckon_164 ?_
                      refine o_aload (pc := 165) dX2_reckon_165 rfl ?_
                      refine o_iload (pc := 167) dX2_reckon_167 rfl ?_
                      obtain ⟨hk32, hr12⟩ := ck_elim hr12
                      refine c_lald (pc := 169) (lt48 (by decide)) rfl hk32 dX2_reckon_169 ?_
                      obtain ⟨q34, hk33, hr12⟩ := bd_elim hr12
                      refine c_callS (pc := 170) [.int v5, .long (gl s 43 (ix (v30 - 1))), .long (gl s 43 (ix v30))] dX2_reckon_170 (kX2_joined hk33) stX2_44 ⟨by decide, by decide, by decide, by decide⟩ ⟨rfl, rfl⟩ (Nat.le_of_ble_eq_true rfl) ?_
                      show Rn g mdX2_reckon 173 [some (.ref a0), none, some (.int a2), some (.ref 42), some (.ref 43), some (.int v30), some (.int x6), some (.int v5), some (.int v7)] [.long q34, .int (v30 - 1), .ref 43] (cW t s) 0 0 r h2
                      obtain ⟨hk35, hr12⟩ := ck_elim hr12
                      refine c_last (pc := 173) (lt48 (by decide)) rfl hk35 dX2_reckon_173 ?_
                      refine lz_s (cW t) hr12 (fun s36 hr12 => ?_)
                      show Rn g mdX2_reckon 174 [some (.ref a0), none, some (.int a2), some (.ref 42), some (.ref 43), some (.int v30), some (.int x6), some (.int v5), some (.int v7)] [] (cW t s36) 0 0 r h2
                      obtain rfl := Option.some.inj hr12
                      refine o_keep [true, false, true, true, true, true, true, false, false] ?_
                      exact K13
                clear hr12
                refine o_icmp_ne (pc := 113) 141 dX2_reckon_113 rfl (fun hc => ?_) (fun hc => ?_)
                · have hr25 := it_f hr25 hc
                  obtain rfl := Option.some.inj hr25
                  exact KB26.2 (by decide)
                · have hr25 := it_t hr25 hc
                  refine o_iload (pc := 116) dX2_reckon_116 rfl ?_
                  refine o_iconst (pc := 118) (v := 1) dX2_reckon_118 rfl ?_
                  refine o_icmp_lt (pc := 119) 141 dX2_reckon_119 rfl (fun hc => ?_) (fun hc => ?_)
                  · have hr25 := it_t hr25 hc
                    obtain rfl := Option.some.inj hr25
                    exact KB26.2 (by decide)
                  · have hr25 := it_f hr25 hc
                    obtain rfl := Option.some.inj hr25
                    exact KB26.1 rfl
            clear hr12
            refine o_icmp_ne (pc := 75) 109 dX2_reckon_75 rfl (fun hc => ?_) (fun hc => ?_)
            · have hr18 := it_f hr18 hc
              obtain rfl := Option.some.inj hr18
              exact KB19.2 (by decide)
            · have hr18 := it_t hr18 hc
              refine o_iload (pc := 78) dX2_reckon_78 rfl ?_
              refine o_aload (pc := 80) dX2_reckon_80 rfl ?_
              refine c_alen (pc := 82) 64 (by decide) (lt48 (by decide)) rfl rfl dX2_reckon_82 ?_
              refine o_icmp_ge (pc := 83) 109 dX2_reckon_83 rfl (fun hc => ?_) (fun hc => ?_)
              · have hr18 := it_t hr18 hc
                obtain rfl := Option.some.inj hr18
                exact KB19.2 (by decide)
              · have hr18 := it_f hr18 hc
                refine o_iload (pc := 86) dX2_reckon_86 rfl ?_
                refine o_aload_n (pc := 88) dX2_reckon_88 rfl ?_
                refine c_alen (pc := 89) 14 (by decide) (lt48 (by decide)) rfl rfl dX2_reckon_89 ?_
                refine o_icmp_ge (pc := 90) 109 dX2_reckon_90 rfl (fun hc => ?_) (fun hc => ?_)
                · have hr18 := it_t hr18 hc
                  obtain rfl := Option.some.inj hr18
                  exact KB19.2 (by decide)
                · have hr18 := it_f hr18 hc
                  obtain rfl := Option.some.inj hr18
                  exact KB19.1 rfl
        clear hr12
        refine o_if_ne (pc := 47) 72 dX2_reckon_47 rfl (fun hc => ?_) (fun hc => ?_)
        · have hr9 := it_f hr9 hc
          obtain rfl := Option.some.inj hr9
          exact KB10.2 (by decide)
        · have hr9 := it_t hr9 hc
          refine o_iload (pc := 50) dX2_reckon_50 rfl ?_
          refine o_aload (pc := 52) dX2_reckon_52 rfl ?_
          refine c_alen (pc := 54) 64 (by decide) (lt48 (by decide)) rfl rfl dX2_reckon_54 ?_
          refine o_icmp_ge (pc := 55) 72 dX2_reckon_55 rfl (fun hc => ?_) (fun hc => ?_)
          · have hr9 := it_t hr9 hc
            obtain rfl := Option.some.inj hr9
            exact KB10.2 (by decide)
          · have hr9 := it_f hr9 hc
            obtain rfl := Option.some.inj hr9
            exact KB10.1 rfl
      · have hf := it_f hf hc
        obtain rfl := Option.some.inj hf
        refine o_keep [false, false, false, false, true, true, false, false, false] ?_
        exact K
    clear hf
    refine o_icmp_ge (pc := 9) 180 dX2_reckon_9 rfl (fun hc => ?_) (fun hc => ?_)
    · have hr2 := it_t hr2 hc
      obtain rfl := Option.some.inj hr2
      exact KB3.2 (by decide)
    · have hr2 := it_f hr2 hc
      refine o_iload (pc := 12) dX2_reckon_12 rfl ?_
      refine o_aload_n (pc := 14) dX2_reckon_14 rfl ?_
      refine c_getR (pc := 15) 2 1 a0 (a0 + 1) (by decide) (by decide) rfl (by have := ha0.1; omega) ha0.2.1 ((hR_cW ha0.2.1 (by decide)).trans ha0.2.2.1.1) lkX2_15 dX2_reckon_15 ?_
      refine c_alen (pc := 18) (Int32.ofNat (alT t (a0 + 1))) (by decide) (by have := ha0.1; omega) ha0.2.2.2.1 rfl dX2_reckon_18 ?_
      refine o_icmp_ge (pc := 19) 180 dX2_reckon_19 rfl (fun hc => ?_) (fun hc => ?_)
      · have hr2 := it_t hr2 hc
        obtain rfl := Option.some.inj hr2
        exact KB3.2 (by decide)
      · have hr2 := it_f hr2 hc
        obtain rfl := Option.some.inj hr2
        exact KB3.1 rfl
set_option maxRecDepth 20000 in
theorem kX2_reckon_Rl_42_43 {g : GX} {t : PH} {a0 : Nat} {p0 : Int32} {p1 : Int32} {s : ST} {q : Int64 × ST} (ha0 : isRl t a0) (hf : fX2_reckon_Rl_42_43 a0 p0 p1 t s = some q) : Cn g mdX2_reckon [.ref a0, .int p0, .int p1, .ref 42, .ref 43] (cW t s) (some (.long q.1)) (cW t q.2) := by
  refine Cn.of (by decide) (Nat.le_of_ble_eq_true rfl) ?_
  show Rn g mdX2_reckon 0 [some (.ref a0), some (.int p0), some (.int p1), some (.ref 42), some (.ref 43), none, none, none, none] [] (cW t s) 0 0 (some (.long q.1)) (cW t q.2)
  unfold fX2_reckon_Rl_42_43 at hf
  refine o_iconst (pc := 0) (v := 0) dX2_reckon_0 rfl ?_
  refine o_istore (pc := 1) dX2_reckon_1 (by decide) rfl ?_
  show Rn g mdX2_reckon 3 [some (.ref a0), some (.int p0), some (.int p1), some (.ref 42), some (.ref 43), some (.int 0), none, none, none] [] (cW t s) 0 0 (some (.long q.1)) (cW t q.2)
  refine o_iload_n (pc := 3) dX2_reckon_3 rfl ?_
  refine o_istore (pc := 4) dX2_reckon_4 (by decide) rfl ?_
  show Rn g mdX2_reckon 6 [some (.ref a0), some (.int p0), some (.int p1), some (.ref 42), some (.ref 43), some (.int 0), some (.int p0), none, none] [] (cW t s) 0 0 (some (.long q.1)) (cW t q.2)
  obtain ⟨w38, hl39, hf⟩ := bd_elim hf
  have K40 : Rn g mdX2_reckon 180 [none, none, none, none, some (.ref 43), some (.int w38.1), none, none, none] [] (cW t w38.2.2) 0 0 (some (.long q.1)) (cW t q.2) := by
    refine o_iload (pc := 180) dX2_reckon_180 rfl ?_
    obtain ⟨w41, hr42, hf⟩ := bd_elim hf
    have K43 : Rn g mdX2_reckon 193 [none, none, none, none, none, none, none, none, none] [.long w41] (cW t w38.2.2) 0 0 (some (.long q.1)) (cW t q.2) := by
      obtain rfl := Option.some.inj hf
      exact o_lreturn (pc := 193) dX2_reckon_193 rfl (Nat.zero_le _) (Nat.zero_le _)
    clear hf
    refine o_if_le (pc := 182) 192 dX2_reckon_182 rfl (fun hc => ?_) (fun hc => ?_)
    · have hr42 := it_t hr42 hc
      refine o_lconst (pc := 192) (v := 0) dX2_reckon_192 rfl ?_
      obtain rfl := Option.some.inj hr42
      refine o_keep [false, false, false, false, false, false, false, false, false] ?_
      exact K43
    · have hr42 := it_f hr42 hc
      refine o_aload (pc := 185) dX2_reckon_185 rfl ?_
      refine o_iconst (pc := 187) (v := 0) dX2_reckon_187 rfl ?_
      obtain ⟨hk44, hr42⟩ := ck_elim hr42
      refine c_lald (pc := 188) (lt48 (by decide)) rfl hk44 dX2_reckon_188 ?_
      refine o_goto (pc := 189) 193 dX2_reckon_189 rfl ?_
      obtain rfl := Option.some.inj hr42
      refine o_keep [false, false, false, false, false, false, false, false, false] ?_
      exact K43
  refine o_keep [true, false, true, true, true, true, true, false, false] ?_
  exact kX2_reckon_Rl_42_43_L6 _ _ ha0 _ _ _ _ hl39 K40
def fX2_minutesMeant_Rl_42_43_L2 (a0 : Nat) (t : PH) : Nat → Int32 → ST → Option (Int32 × ST)
  | 0, _, _ => none
  | n + 1, x3, s => if (gi s a0 0) ≤ x3 then some (0, s) else ck (inb x3 (alT t (a0 + 3))) (lt (gi s (a0 + 3) (ix x3) : Int32) (fun v2 => ck (inb (x3 + 1) (alT t (a0 + 2))) (lt (gi s (a0 + 2) (ix (x3 + 1)) : Int32) (fun v4 => if v2 = v4 then ck (inb x3 (alT t (a0 + 2))) ((fX2_reckon_Rl_42_43 a0 (gi s (a0 + 2) (ix x3)) v2 t s).bind (fun q7 => some ((lmx (-30) (lmn 120 q7.1)).toInt32, q7.2))) else (fX2_reckon_Rl_42_43 a0 v2 v4 t s).bind (fun q9 => if (lg_cmp q9.1 0) = 0 then lt (x3 + 1) (fun v10 => fX2_minutesMeant_Rl_42_43_L2 a0 t n v10 q9.2) else ck (inb x3 (alT t (a0 + 2))) ((fX2_reckon_Rl_42_43 a0 (gi q9.2 (a0 + 2) (ix x3)) v2 t q9.2).bind (fun q13 => some ((lmx (-30) (lmn 120 q13.1)).toInt32, q13.2))))))))
def fX2_minutesMeant_Rl_42_43 (a0 : Nat) (t : PH) (s : ST) : Option (Int32 × ST) :=
  fX2_minutesMeant_Rl_42_43_L2 a0 t FUEL 0 s
set_option maxRecDepth 20000 in
theorem kX2_minutesMeant_Rl_42_43_L2 {g : GX} {t : PH} (a0 : Nat) (ha0 : isRl t a0) : ∀ (n : Nat) (x3 : Int32) (s : ST) {q : Int32 × ST}, fX2_minutesMeant_Rl_42_43_L2 a0 t n x3 s = some q → Rn g mdX2_minutesMeant 2 [some (.ref a0), some (.ref 42), some (.ref 43), some (.int x3), none, none, none, none] [] (cW t s) 0 0 (some (.int q.1)) (cW t q.2) := by
  intro n
  induction n with
  | zero => intro x3 s q hf; cases hf
  | succ n ih =>
    intro x3 s q hf
    rw [fX2_minutesMeant_Rl_42_43_L2] at hf
    refine o_iload_n (pc := 2) dX2_minutesMeant_2 rfl ?_
    refine o_aload_n (pc := 3) dX2_minutesMeant_3 rfl ?_
    refine c_getI (pc := 4) 2 0 a0 (by decide) (by decide) rfl (by have := ha0.1; omega) ha0.2.1 lkX2_9 dX2_minutesMeant_4 ?_
    refine o_icmp_ge (pc := 7) 88 dX2_minutesMeant_7 rfl (fun hc => ?_) (fun hc => ?_)
    · have hf := it_t hf hc
      refine o_iconst (pc := 88) (v := 0) dX2_minutesMeant_88 rfl ?_
      obtain rfl := Option.some.inj hf
      exact o_ireturn (pc := 89) dX2_minutesMeant_89 rfl (Nat.zero_le _) (Nat.zero_le _)
    · have hf := it_f hf hc
      refine o_aload_n (pc := 10) dX2_minutesMeant_10 rfl ?_
      refine c_getR (pc := 11) 2 3 a0 (a0 + 3) (by decide) (by decide) rfl (by have := ha0.1; omega) ha0.2.1 ((hR_cW ha0.2.1 (by decide)).trans ha0.2.2.1.2.2) lkX2_22 dX2_minutesMeant_11 ?_
      refine o_iload_n (pc := 14) dX2_minutesMeant_14 rfl ?_
      obtain ⟨hk1, hf⟩ := ck_elim hf
      refine c_iald (pc := 15) (by have := ha0.1; omega) ha0.2.2.2.2.2 hk1 dX2_minutesMeant_15 ?_
      refine lz_i hf (fun v2 hf => ?_)
      refine o_istore (pc := 16) dX2_minutesMeant_16 (by decide) rfl ?_
      show Rn g mdX2_minutesMeant 18 [some (.ref a0), some (.ref 42), some (.ref 43), some (.int x3), some (.int v2), none, none, none] [] (cW t s) 0 0 (some (.int q.1)) (cW t q.2)
      refine o_aload_n (pc := 18) dX2_minutesMeant_18 rfl ?_
      refine c_getR (pc := 19) 2 2 a0 (a0 + 2) (by decide) (by decide) rfl (by have := ha0.1; omega) ha0.2.1 ((hR_cW ha0.2.1 (by decide)).trans ha0.2.2.1.2.1) lkX2_19 dX2_minutesMeant_19 ?_
      refine o_iload_n (pc := 22) dX2_minutesMeant_22 rfl ?_
      refine o_iconst (pc := 23) (v := 1) dX2_minutesMeant_23 rfl ?_
      refine o_iadd (pc := 24) dX2_minutesMeant_24 ?_
      obtain ⟨hk3, hf⟩ := ck_elim hf
      refine c_iald (pc := 25) (by have := ha0.1; omega) ha0.2.2.2.2.1 hk3 dX2_minutesMeant_25 ?_
      refine lz_i hf (fun v4 hf => ?_)
      refine o_istore (pc := 26) dX2_minutesMeant_26 (by decide) rfl ?_
      show Rn g mdX2_minutesMeant 28 [some (.ref a0), some (.ref 42), some (.ref 43), some (.int x3), some (.int v2), some (.int v4), none, none] [] (cW t s) 0 0 (some (.int q.1)) (cW t q.2)
      refine o_iload (pc := 28) dX2_minutesMeant_28 rfl ?_
      refine o_iload (pc := 30) dX2_minutesMeant_30 rfl ?_
      refine o_icmp_eq (pc := 32) 50 dX2_minutesMeant_32 rfl (fun hc => ?_) (fun hc => ?_)
      · have hf := it_t hf hc
        refine o_aload_n (pc := 50) dX2_minutesMeant_50 rfl ?_
        refine o_aload_n (pc := 51) dX2_minutesMeant_51 rfl ?_
        refine c_getR (pc := 52) 2 2 a0 (a0 + 2) (by decide) (by decide) rfl (by have := ha0.1; omega) ha0.2.1 ((hR_cW ha0.2.1 (by decide)).trans ha0.2.2.1.2.1) lkX2_19 dX2_minutesMeant_52 ?_
        refine o_iload_n (pc := 55) dX2_minutesMeant_55 rfl ?_
        obtain ⟨hk5, hf⟩ := ck_elim hf
        refine c_iald (pc := 56) (by have := ha0.1; omega) ha0.2.2.2.2.1 hk5 dX2_minutesMeant_56 ?_
        refine o_iload (pc := 57) dX2_minutesMeant_57 rfl ?_
        refine o_aload_n (pc := 59) dX2_minutesMeant_59 rfl ?_
        refine o_aload_n (pc := 60) dX2_minutesMeant_60 rfl ?_
        obtain ⟨q7, hk6, hf⟩ := bd_elim hf
        refine c_callV (pc := 61) 2 a0 [.int (gi s (a0 + 2) (ix x3)), .int v2, .ref 42, .ref 43] (by decide) (by have := ha0.1; omega) ha0.2.1 dX2_minutesMeant_61 (kX2_reckon_Rl_42_43 ha0 hk6) stX2_25 ⟨by decide, by decide, by decide, by decide⟩ ⟨rfl, rfl⟩ (Nat.le_of_ble_eq_true rfl) ?_
        show Rn g mdX2_minutesMeant 64 [some (.ref a0), some (.ref 42), some (.ref 43), some (.int x3), some (.int v2), some (.int v4), none, none] [.long q7.1] (cW t q7.2) 0 0 (some (.int q.1)) (cW t q.2)
        refine o_lstore (pc := 64) dX2_minutesMeant_64 (by decide) rfl ?_
        show Rn g mdX2_minutesMeant 66 [some (.ref a0), some (.ref 42), some (.ref 43), some (.int x3), some (.int v2), some (.int v4), some (.long q7.1), none] [] (cW t q7.2) 0 0 (some (.int q.1)) (cW t q.2)
        refine o_ldc2 (pc := 66) dX2_minutesMeant_66 lcX2_29 ?_
        refine o_ldc2 (pc := 69) dX2_minutesMeant_69 lcX2_31 ?_
        refine o_lload (pc := 72) dX2_minutesMeant_72 rfl ?_
        refine o_lmin (pc := 74) lmX2_33 dX2_minutesMeant_74 (by decide) (Nat.le_of_ble_eq_true rfl) (Nat.zero_le _) (Nat.zero_le _) ?_
        show Rn g mdX2_minutesMeant 77 [some (.ref a0), some (.ref 42), some (.ref 43), some (.int x3), some (.int v2), some (.int v4), some (.long q7.1), none] [.long (lmn 120 q7.1), .long (-30)] (cW t q7.2) 0 0 (some (.int q.1)) (cW t q.2)
        refine o_lmax (pc := 77) lmX2_39 dX2_minutesMeant_77 (by decide) (Nat.le_of_ble_eq_true rfl) (Nat.zero_le _) (Nat.zero_le _) ?_
        show Rn g mdX2_minutesMeant 80 [some (.ref a0), some (.ref 42), some (.ref 43), some (.int x3), some (.int v2), some (.int v4), some (.long q7.1), none] [.long (lmx (-30) (lmn 120 q7.1))] (cW t q7.2) 0 0 (some (.int q.1)) (cW t q.2)
        refine o_l2i (pc := 80) dX2_minutesMeant_80 ?_
        obtain rfl := Option.some.inj hf
        exact o_ireturn (pc := 81) dX2_minutesMeant_81 rfl (Nat.zero_le _) (Nat.zero_le _)
      · have hf := it_f hf hc
        refine o_aload_n (pc := 35) dX2_minutesMeant_35 rfl ?_
        refine o_iload (pc := 36) dX2_minutesMeant_36 rfl ?_
        refine o_iload (pc := 38) dX2_minutesMeant_38 rfl ?_
        refine o_aload_n (pc := 40) dX2_minutesMeant_40 rfl ?_
        refine o_aload_n (pc := 41) dX2_minutesMeant_41 rfl ?_
        obtain ⟨q9, hk8, hf⟩ := bd_elim hf
        refine c_callV (pc := 42) 2 a0 [.int v2, .int v4, .ref 42, .ref 43] (by decide) (by have := ha0.1; omega) ha0.2.1 dX2_minutesMeant_42 (kX2_reckon_Rl_42_43 ha0 hk8) stX2_25 ⟨by decide, by decide, by decide, by decide⟩ ⟨rfl, rfl⟩ (Nat.le_of_ble_eq_true rfl) ?_
        show Rn g mdX2_minutesMeant 45 [some (.ref a0), some (.ref 42), some (.ref 43), some (.int x3), some (.int v2), some (.int v4), none, none] [.long q9.1] (cW t q9.2) 0 0 (some (.int q.1)) (cW t q.2)
        refine o_lconst (pc := 45) (v := 0) dX2_minutesMeant_45 rfl ?_
        refine o_lcmp (pc := 46) dX2_minutesMeant_46 ?_
        refine o_if_eq (pc := 47) 82 dX2_minutesMeant_47 rfl (fun hc => ?_) (fun hc => ?_)
        · have hf := it_t hf hc
          refine o_iinc (pc := 82) dX2_minutesMeant_82 rfl (by decide) rfl ?_
          show Rn g mdX2_minutesMeant 85 [some (.ref a0), some (.ref 42), some (.ref 43), some (.int (x3 + 1)), some (.int v2), some (.int v4), none, none] [] (cW t q9.2) 0 0 (some (.int q.1)) (cW t q.2)
          obtain ⟨v10, ev10, hf⟩ := lt_elim hf
          rw [ev10]
          show Rn g mdX2_minutesMeant 85 [some (.ref a0), some (.ref 42), some (.ref 43), some (.int v10), some (.int v2), some (.int v4), none, none] [] (cW t q9.2) 0 0 (some (.int q.1)) (cW t q.2)
          refine o_goto (pc := 85) 2 dX2_minutesMeant_85 rfl ?_
          refine o_keep [true, true, true, true, false, false, false, false] ?_
          exact ih _ _ hf
        · have hf := it_f hf hc
          refine o_aload_n (pc := 50) dX2_minutesMeant_50 rfl ?_
          refine o_aload_n (pc := 51) dX2_minutesMeant_51 rfl ?_
          refine c_getR (pc := 52) 2 2 a0 (a0 + 2) (by decide) (by decide) rfl (by have := ha0.1; omega) ha0.2.1 ((hR_cW ha0.2.1 (by decide)).trans ha0.2.2.1.2.1) lkX2_19 dX2_minutesMeant_52 ?_
          refine o_iload_n (pc := 55) dX2_minutesMeant_55 rfl ?_
          obtain ⟨hk11, hf⟩ := ck_elim hf
          refine c_iald (pc := 56) (by have := ha0.1; omega) ha0.2.2.2.2.1 hk11 dX2_minutesMeant_56 ?_
          refine o_iload (pc := 57) dX2_minutesMeant_57 rfl ?_
          refine o_aload_n (pc := 59) dX2_minutesMeant_59 rfl ?_
          refine o_aload_n (pc := 60) dX2_minutesMeant_60 rfl ?_
          obtain ⟨q13, hk12, hf⟩ := bd_elim hf
          refine c_callV (pc := 61) 2 a0 [.int (gi q9.2 (a0 + 2) (ix x3)), .int v2, .ref 42, .ref 43] (by decide) (by have := ha0.1; omega) ha0.2.1 dX2_minutesMeant_61 (kX2_reckon_Rl_42_43 ha0 hk12) stX2_25 ⟨by decide, by decide, by decide, by decide⟩ ⟨rfl, rfl⟩ (Nat.le_of_ble_eq_true rfl) ?_
          show Rn g mdX2_minutesMeant 64 [some (.ref a0), some (.ref 42), some (.ref 43), some (.int x3), some (.int v2), some (.int v4), none, none] [.long q13.1] (cW t q13.2) 0 0 (some (.int q.1)) (cW t q.2)
          refine o_lstore (pc := 64) dX2_minutesMeant_64 (by decide) rfl ?_
          show Rn g mdX2_minutesMeant 66 [some (.ref a0), some (.ref 42), some (.ref 43), some (.int x3), some (.int v2), some (.int v4), some (.long q13.1), none] [] (cW t q13.2) 0 0 (some (.int q.1)) (cW t q.2)
          refine o_ldc2 (pc := 66) dX2_minutesMeant_66 lcX2_29 ?_
          refine o_ldc2 (pc := 69) dX2_minutesMeant_69 lcX2_31 ?_
          refine o_lload (pc := 72) dX2_minutesMeant_72 rfl ?_
          refine o_lmin (pc := 74) lmX2_33 dX2_minutesMeant_74 (by decide) (Nat.le_of_ble_eq_true rfl) (Nat.zero_le _) (Nat.zero_le _) ?_
          show Rn g mdX2_minutesMeant 77 [some (.ref a0), some (.ref 42), some (.ref 43), some (.int x3), some (.int v2), some (.int v4), some (.long q13.1), none] [.long (lmn 120 q13.1), .long (-30)] (cW t q13.2) 0 0 (some (.int q.1)) (cW t q.2)
          refine o_lmax (pc := 77) lmX2_39 dX2_minutesMeant_77 (by decide) (Nat.le_of_ble_eq_true rfl) (Nat.zero_le _) (Nat.zero_le _) ?_
          show Rn g mdX2_minutesMeant 80 [some (.ref a0), some (.ref 42), some (.ref 43), some (.int x3), some (.int v2), some (.int v4), some (.long q13.1), none] [.long (lmx (-30) (lmn 120 q13.1))] (cW t q13.2) 0 0 (some (.int q.1)) (cW t q.2)
          refine o_l2i (pc := 80) dX2_minutesMeant_80 ?_
          obtain rfl := Option.some.inj hf
          exact o_ireturn (pc := 81) dX2_minutesMeant_81 rfl (Nat.zero_le _) (Nat.zero_le _)
set_option maxRecDepth 20000 in
theorem kX2_minutesMeant_Rl_42_43 {g : GX} {t : PH} {a0 : Nat} {s : ST} {q : Int32 × ST} (ha0 : isRl t a0) (hf : fX2_minutesMeant_Rl_42_43 a0 t s = some q) : Cn g mdX2_minutesMeant [.ref a0, .ref 42, .ref 43] (cW t s) (some (.int q.1)) (cW t q.2) := by
  refine Cn.of (by decide) (Nat.le_of_ble_eq_true rfl) ?_
  show Rn g mdX2_minutesMeant 0 [some (.ref a0), some (.ref 42), some (.ref 43), none, none, none, none, none] [] (cW t s) 0 0 (some (.int q.1)) (cW t q.2)
  unfold fX2_minutesMeant_Rl_42_43 at hf
  refine o_iconst (pc := 0) (v := 0) dX2_minutesMeant_0 rfl ?_
  refine o_istore_n (pc := 1) dX2_minutesMeant_1 (by decide) rfl ?_
  show Rn g mdX2_minutesMeant 2 [some (.ref a0), some (.ref 42), some (.ref 43), some (.int 0), none, none, none, none] [] (cW t s) 0 0 (some (.int q.1)) (cW t q.2)
  exact kX2_minutesMeant_Rl_42_43_L2 _ ha0 _ _ _ hf
def fX0_minutesMeant (p0 : Int32) (p1 : Int32) (p2 : Int32) (t : PH) (s : ST) : Option (Int32 × ST) :=
  om (mr s 1) (ck (inb p0 5) (some (gi s 41 (ix p0), s))) (fun q1 => ck (inb 0 14) (lt (si s 42 (ix 0) p0) (fun s5 => ck (inb 1 14) (lt (si s5 42 (ix 1) p2) (fun s7 => ck (inb (20 + p2) 46) (ck (inb 2 14) (lt (si s7 42 (ix 2) (gi s7 32 (ix (20 + p2)))) (fun s10 => ck (inb p0 5) (ck (inb 3 14) (lt (si s10 42 (ix 3) (gi s10 41 (ix p0))) (fun s13 => ck (inb 4 14) (lt (si s13 42 (ix 4) (gi s13 30 7)) (fun s15 => ck (inb 5 14) (lt (si s15 42 (ix 5) (gi s15 30 8)) (fun s17 => ck (inb 6 14) (lt (si s17 42 (ix 6) p1) (fun s19 => ck (inb (5 + p1) 46) (ck (inb 7 14) (lt (si s19 42 (ix 7) (gi s19 32 (ix (5 + p1)))) (fun s22 => ck (inb (5 + p0) 46) (ck (inb 8 14) (lt (si s22 42 (ix 8) (gi s22 32 (ix (5 + p0)))) (fun s25 => ck (inb (10 + p0) 46) (ck (inb 9 14) (lt (si s25 42 (ix 9) (gi s25 32 (ix (10 + p0)))) (fun s28 => ck (inb (15 + p0) 46) (ck (inb 10 14) (lt (si s28 42 (ix 10) (gi s28 32 (ix (15 + p0)))) (fun s31 => ck (inb 45 46) (ck (inb 11 14) (lt (si s31 42 (ix 11) (gi s31 32 (ix 45))) (fun s34 => ck (inb (0 + p0) 46) (ck (inb 12 14) (lt (si s34 42 (ix 12) (gi s34 32 (ix (0 + p0)))) (fun s37 => (fX5_isExempt_31 p0 s37).bind (fun q39 => (if q39 = 0 then some 0 else some 1 : Option (Int32)).bind (fun w40 => ck (inb 13 14) (lt (si s37 42 (ix 13) w40) (fun s44 => om (mr s44 1) none (fun q45 => ck (decide (isRl t q45)) ((fX2_minutesMeant_Rl_42_43 q45 t s44).bind (fun q49 => some (q49.1, q49.2)))))))))))))))))))))))))))))))))))))))))))
set_option maxRecDepth 20000 in
theorem kX0_minutesMeant {g : GX} {t : PH} {p0 : Int32} {p1 : Int32} {p2 : Int32} {s : ST} {q : Int32 × ST} (hf : fX0_minutesMeant p0 p1 p2 t s = some q) : Cn g mdX0_minutesMeant [.ref 30, .int p0, .int p1, .int p2] (cW t s) (some (.int q.1)) (cW t q.2) := by
  refine Cn.of (by decide) (Nat.le_of_ble_eq_true rfl) ?_
  show Rn g mdX0_minutesMeant 0 [some (.ref 30), some (.int p0), some (.int p1), some (.int p2), none] [] (cW t s) 0 0 (some (.int q.1)) (cW t q.2)
  unfold fX0_minutesMeant at hf
  refine o_aload_n (pc := 0) dX0_minutesMeant_0 rfl ?_
  refine c_getO (pc := 1) 6 1 (by decide) lkX0_42 dX0_minutesMeant_1 ?_
  refine o_ifnonnullV (pc := 4) (mr s 1) 14 dX0_minutesMeant_4 rfl (fun q1 hq2 => ?_) (fun hq2 => ?_)
  · have hf := om_s hf hq2
    refine o_aload_n (pc := 14) dX0_minutesMeant_14 rfl ?_
    refine c_getR (pc := 15) 0 0 30 31 (by decide) (by decide) rfl (lt48 (by decide)) rfl rfl lkX0_12 dX0_minutesMeant_15 ?_
    refine c_getR (pc := 18) 4 0 31 32 (by decide) (by decide) rfl (lt48 (by decide)) rfl rfl lkX0_124 dX0_minutesMeant_18 ?_
    refine o_astore (pc := 21) dX0_minutesMeant_21 (by decide) rfl ?_
    show Rn g mdX0_minutesMeant 23 [some (.ref 30), some (.int p0), some (.int p1), some (.int p2), some (.ref 32)] [] (cW t s) 0 0 (some (.int q.1)) (cW t q.2)
    refine o_aload_n (pc := 23) dX0_minutesMeant_23 rfl ?_
    refine c_getR (pc := 24) 0 3 30 42 (by decide) (by decide) rfl (lt48 (by decide)) rfl rfl lkX0_31 dX0_minutesMeant_24 ?_
    refine o_iconst (pc := 27) (v := 0) dX0_minutesMeant_27 rfl ?_
    refine o_iload_n (pc := 28) dX0_minutesMeant_28 rfl ?_
    obtain ⟨hk4, hf⟩ := ck_elim hf
    refine c_iast (pc := 29) (lt48 (by decide)) rfl hk4 dX0_minutesMeant_29 ?_
    refine lz_s (cW t) hf (fun s5 hf => ?_)
    show Rn g mdX0_minutesMeant 30 [some (.ref 30), some (.int p0), some (.int p1), some (.int p2), some (.ref 32)] [] (cW t s5) 0 0 (some (.int q.1)) (cW t q.2)
    refine o_aload_n (pc := 30) dX0_minutesMeant_30 rfl ?_
    refine c_getR (pc := 31) 0 3 30 42 (by decide) (by decide) rfl (lt48 (by decide)) rfl rfl lkX0_31 dX0_minutesMeant_31 ?_
    refine o_iconst (pc := 34) (v := 1) dX0_minutesMeant_34 rfl ?_
    refine o_iload_n (pc := 35) dX0_minutesMeant_35 rfl ?_
    obtain ⟨hk6, hf⟩ := ck_elim hf
    refine c_iast (pc := 36) (lt48 (by decide)) rfl hk6 dX0_minutesMeant_36 ?_
    refine lz_s (cW t) hf (fun s7 hf => ?_)
    show Rn g mdX0_minutesMeant 37 [some (.ref 30), some (.int p0), some (.int p1), some (.int p2), some (.ref 32)] [] (cW t s7) 0 0 (some (.int q.1)) (cW t q.2)
    refine o_aload_n (pc := 37) dX0_minutesMeant_37 rfl ?_
    refine c_getR (pc := 38) 0 3 30 42 (by decide) (by decide) rfl (lt48 (by decide)) rfl rfl lkX0_31 dX0_minutesMeant_38 ?_
    refine o_iconst (pc := 41) (v := 2) dX0_minutesMeant_41 rfl ?_
    refine o_aload (pc := 42) dX0_minutesMeant_42 rfl ?_
    refine o_bipush (pc := 44) (v := 20) dX0_minutesMeant_44 rfl ?_
    refine o_iload_n (pc := 46) dX0_minutesMeant_46 rfl ?_
    refine o_iadd (pc := 47) dX0_minutesMeant_47 ?_
    obtain ⟨hk8, hf⟩ := ck_elim hf
    refine c_iald (pc := 48) (lt48 (by decide)) rfl hk8 dX0_minutesMeant_48 ?_
    obtain ⟨hk9, hf⟩ := ck_elim hf
    refine c_iast (pc := 49) (lt48 (by decide)) rfl hk9 dX0_minutesMeant_49 ?_
    refine lz_s (cW t) hf (fun s10 hf => ?_)
    show Rn g mdX0_minutesMeant 50 [some (.ref 30), some (.int p0), some (.int p1), some (.int p2), some (.ref 32)] [] (cW t s10) 0 0 (some (.int q.1)) (cW t q.2)
    refine o_aload_n (pc := 50) dX0_minutesMeant_50 rfl ?_
    refine c_getR (pc := 51) 0 3 30 42 (by decide) (by decide) rfl (lt48 (by decide)) rfl rfl lkX0_31 dX0_minutesMeant_51 ?_
    refine o_iconst (pc := 54) (v := 3) dX0_minutesMeant_54 rfl ?_
    refine o_aload_n (pc := 55) dX0_minutesMeant_55 rfl ?_
    refine c_getR (pc := 56) 0 2 30 41 (by decide) (by decide) rfl (lt48 (by decide)) rfl rfl lkX0_25 dX0_minutesMeant_56 ?_
    refine o_iload_n (pc := 59) dX0_minutesMeant_59 rfl ?_
    obtain ⟨hk11, hf⟩ := ck_elim hf
    refine c_iald (pc := 60) (lt48 (by decide)) rfl hk11 dX0_minutesMeant_60 ?_
    obtain ⟨hk12, hf⟩ := ck_elim hf
    refine c_iast (pc := 61) (lt48 (by decide)) rfl hk12 dX0_minutesMeant_61 ?_
    refine lz_s (cW t) hf (fun s13 hf => ?_)
    show Rn g mdX0_minutesMeant 62 [some (.ref 30), some (.int p0), some (.int p1), some (.int p2), some (.ref 32)] [] (cW t s13) 0 0 (some (.int q.1)) (cW t q.2)
    refine o_aload_n (pc := 62) dX0_minutesMeant_62 rfl ?_
    refine c_getR (pc := 63) 0 3 30 42 (by decide) (by decide) rfl (lt48 (by decide)) rfl rfl lkX0_31 dX0_minutesMeant_63 ?_
    refine o_iconst (pc := 66) (v := 4) dX0_minutesMeant_66 rfl ?_
    refine o_aload_n (pc := 67) dX0_minutesMeant_67 rfl ?_
    refine c_getI (pc := 68) 0 7 30 (by decide) (by decide) rfl (lt48 (by decide)) rfl lkX0_46 dX0_minutesMeant_68 ?_
    obtain ⟨hk14, hf⟩ := ck_elim hf
    refine c_iast (pc := 71) (lt48 (by decide)) rfl hk14 dX0_minutesMeant_71 ?_
    refine lz_s (cW t) hf (fun s15 hf => ?_)
    show Rn g mdX0_minutesMeant 72 [some (.ref 30), some (.int p0), some (.int p1), some (.int p2), some (.ref 32)] [] (cW t s15) 0 0 (some (.int q.1)) (cW t q.2)
    refine o_aload_n (pc := 72) dX0_minutesMeant_72 rfl ?_
    refine c_getR (pc := 73) 0 3 30 42 (by decide) (by decide) rfl (lt48 (by decide)) rfl rfl lkX0_31 dX0_minutesMeant_73 ?_
    refine o_iconst (pc := 76) (v := 5) dX0_minutesMeant_76 rfl ?_
    refine o_aload_n (pc := 77) dX0_minutesMeant_77 rfl ?_
    refine c_getI (pc := 78) 0 8 30 (by decide) (by decide) rfl (lt48 (by decide)) rfl lkX0_50 dX0_minutesMeant_78 ?_
    obtain ⟨hk16, hf⟩ := ck_elim hf
    refine c_iast (pc := 81) (lt48 (by decide)) rfl hk16 dX0_minutesMeant_81 ?_
    refine lz_s (cW t) hf (fun s17 hf => ?_)
    show Rn g mdX0_minutesMeant 82 [some (.ref 30), some (.int p0), some (.int p1), some (.int p2), some (.ref 32)] [] (cW t s17) 0 0 (some (.int q.1)) (cW t q.2)
    refine o_aload_n (pc := 82) dX0_minutesMeant_82 rfl ?_
    refine c_getR (pc := 83) 0 3 30 42 (by decide) (by decide) rfl (lt48 (by decide)) rfl rfl lkX0_31 dX0_minutesMeant_83 ?_
    refine o_bipush (pc := 86) (v := 6) dX0_minutesMeant_86 rfl ?_
    refine o_iload_n (pc := 88) dX0_minutesMeant_88 rfl ?_
    obtain ⟨hk18, hf⟩ := ck_elim hf
    refine c_iast (pc := 89) (lt48 (by decide)) rfl hk18 dX0_minutesMeant_89 ?_
    refine lz_s (cW t) hf (fun s19 hf => ?_)
    show Rn g mdX0_minutesMeant 90 [some (.ref 30), some (.int p0), some (.int p1), some (.int p2), some (.ref 32)] [] (cW t s19) 0 0 (some (.int q.1)) (cW t q.2)
    refine o_aload_n (pc := 90) dX0_minutesMeant_90 rfl ?_
    refine c_getR (pc := 91) 0 3 30 42 (by decide) (by decide) rfl (lt48 (by decide)) rfl rfl lkX0_31 dX0_minutesMeant_91 ?_
    refine o_bipush (pc := 94) (v := 7) dX0_minutesMeant_94 rfl ?_
    refine o_aload (pc := 96) dX0_minutesMeant_96 rfl ?_
    refine o_iconst (pc := 98) (v := 5) dX0_minutesMeant_98 rfl ?_
    refine o_iload_n (pc := 99) dX0_minutesMeant_99 rfl ?_
    refine o_iadd (pc := 100) dX0_minutesMeant_100 ?_
    obtain ⟨hk20, hf⟩ := ck_elim hf
    refine c_iald (pc := 101) (lt48 (by decide)) rfl hk20 dX0_minutesMeant_101 ?_
    obtain ⟨hk21, hf⟩ := ck_elim hf
    refine c_iast (pc := 102) (lt48 (by decide)) rfl hk21 dX0_minutesMeant_102 ?_
    refine lz_s (cW t) hf (fun s22 hf => ?_)
    show Rn g mdX0_minutesMeant 103 [some (.ref 30), some (.int p0), some (.int p1), some (.int p2), some (.ref 32)] [] (cW t s22) 0 0 (some (.int q.1)) (cW t q.2)
    refine o_aload_n (pc := 103) dX0_minutesMeant_103 rfl ?_
    refine c_getR (pc := 104) 0 3 30 42 (by decide) (by decide) rfl (lt48 (by decide)) rfl rfl lkX0_31 dX0_minutesMeant_104 ?_
    refine o_bipush (pc := 107) (v := 8) dX0_minutesMeant_107 rfl ?_
    refine o_aload (pc := 109) dX0_minutesMeant_109 rfl ?_
    refine o_iconst (pc := 111) (v := 5) dX0_minutesMeant_111 rfl ?_
    refine o_iload_n (pc := 112) dX0_minutesMeant_112 rfl ?_
    refine o_iadd (pc := 113) dX0_minutesMeant_113 ?_
    obtain ⟨hk23, hf⟩ := ck_elim hf
    refine c_iald (pc := 114) (lt48 (by decide)) rfl hk23 dX0_minutesMeant_114 ?_
    obtain ⟨hk24, hf⟩ := ck_elim hf
    refine c_iast (pc := 115) (lt48 (by decide)) rfl hk24 dX0_minutesMeant_115 ?_
    refine lz_s (cW t) hf (fun s25 hf => ?_)
    show Rn g mdX0_minutesMeant 116 [some (.ref 30), some (.int p0), some (.int p1), some (.int p2), some (.ref 32)] [] (cW t s25) 0 0 (some (.int q.1)) (cW t q.2)
    refine o_aload_n (pc := 116) dX0_minutesMeant_116 rfl ?_
    refine c_getR (pc := 117) 0 3 30 42 (by decide) (by decide) rfl (lt48 (by decide)) rfl rfl lkX0_31 dX0_minutesMeant_117 ?_
    refine o_bipush (pc := 120) (v := 9) dX0_minutesMeant_120 rfl ?_
    refine o_aload (pc := 122) dX0_minutesMeant_122 rfl ?_
    refine o_bipush (pc := 124) (v := 10) dX0_minutesMeant_124 rfl ?_
    refine o_iload_n (pc := 126) dX0_minutesMeant_126 rfl ?_
    refine o_iadd (pc := 127) dX0_minutesMeant_127 ?_
    obtain ⟨hk26, hf⟩ := ck_elim hf
    refine c_iald (pc := 128) (lt48 (by decide)) rfl hk26 dX0_minutesMeant_128 ?_
    obtain ⟨hk27, hf⟩ := ck_elim hf
    refine c_iast (pc := 129) (lt48 (by decide)) rfl hk27 dX0_minutesMeant_129 ?_
    refine lz_s (cW t) hf (fun s28 hf => ?_)
    show Rn g mdX0_minutesMeant 130 [some (.ref 30), some (.int p0), some (.int p1), some (.int p2), some (.ref 32)] [] (cW t s28) 0 0 (some (.int q.1)) (cW t q.2)
    refine o_aload_n (pc := 130) dX0_minutesMeant_130 rfl ?_
    refine c_getR (pc := 131) 0 3 30 42 (by decide) (by decide) rfl (lt48 (by decide)) rfl rfl lkX0_31 dX0_minutesMeant_131 ?_
    refine o_bipush (pc := 134) (v := 10) dX0_minutesMeant_134 rfl ?_
    refine o_aload (pc := 136) dX0_minutesMeant_136 rfl ?_
    refine o_bipush (pc := 138) (v := 15) dX0_minutesMeant_138 rfl ?_
    refine o_iload_n (pc := 140) dX0_minutesMeant_140 rfl ?_
    refine o_iadd (pc := 141) dX0_minutesMeant_141 ?_
    obtain ⟨hk29, hf⟩ := ck_elim hf
    refine c_iald (pc := 142) (lt48 (by decide)) rfl hk29 dX0_minutesMeant_142 ?_
    obtain ⟨hk30, hf⟩ := ck_elim hf
    refine c_iast (pc := 143) (lt48 (by decide)) rfl hk30 dX0_minutesMeant_143 ?_
    refine lz_s (cW t) hf (fun s31 hf => ?_)
    show Rn g mdX0_minutesMeant 144 [some (.ref 30), some (.int p0), some (.int p1), some (.int p2), some (.ref 32)] [] (cW t s31) 0 0 (some (.int q.1)) (cW t q.2)
    refine o_aload_n (pc := 144) dX0_minutesMeant_144 rfl ?_
    refine c_getR (pc := 145) 0 3 30 42 (by decide) (by decide) rfl (lt48 (by decide)) rfl rfl lkX0_31 dX0_minutesMeant_145 ?_
    refine o_bipush (pc := 148) (v := 11) dX0_minutesMeant_148 rfl ?_
    refine o_aload (pc := 150) dX0_minutesMeant_150 rfl ?_
    refine o_bipush (pc := 152) (v := 45) dX0_minutesMeant_152 rfl ?_
    obtain ⟨hk32, hf⟩ := ck_elim hf
    refine c_iald (pc := 154) (lt48 (by decide)) rfl hk32 dX0_minutesMeant_154 ?_
    obtain ⟨hk33, hf⟩ := ck_elim hf
    refine c_iast (pc := 155) (lt48 (by decide)) rfl hk33 dX0_minutesMeant_155 ?_
    refine lz_s (cW t) hf (fun s34 hf => ?_)
    show Rn g mdX0_minutesMeant 156 [some (.ref 30), some (.int p0), some (.int p1), some (.int p2), some (.ref 32)] [] (cW t s34) 0 0 (some (.int q.1)) (cW t q.2)
    refine o_aload_n (pc := 156) dX0_minutesMeant_156 rfl ?_
    refine c_getR (pc := 157) 0 3 30 42 (by decide) (by decide) rfl (lt48 (by decide)) rfl rfl lkX0_31 dX0_minutesMeant_157 ?_
    refine o_bipush (pc := 160) (v := 12) dX0_minutesMeant_160 rfl ?_
    refine o_aload (pc := 162) dX0_minutesMeant_162 rfl ?_
    refine o_iconst (pc := 164) (v := 0) dX0_minutesMeant_164 rfl ?_
    refine o_iload_n (pc := 165) dX0_minutesMeant_165 rfl ?_
    refine o_iadd (pc := 166) dX0_minutesMeant_166 ?_
    obtain ⟨hk35, hf⟩ := ck_elim hf
    refine c_iald (pc := 167) (lt48 (by decide)) rfl hk35 dX0_minutesMeant_167 ?_
    obtain ⟨hk36, hf⟩ := ck_elim hf
    refine c_iast (pc := 168) (lt48 (by decide)) rfl hk36 dX0_minutesMeant_168 ?_
    refine lz_s (cW t) hf (fun s37 hf => ?_)
    show Rn g mdX0_minutesMeant 169 [some (.ref 30), some (.int p0), some (.int p1), some (.int p2), some (.ref 32)] [] (cW t s37) 0 0 (some (.int q.1)) (cW t q.2)
    refine o_aload_n (pc := 169) dX0_minutesMeant_169 rfl ?_
    refine c_getR (pc := 170) 0 3 30 42 (by decide) (by decide) rfl (lt48 (by decide)) rfl rfl lkX0_31 dX0_minutesMeant_170 ?_
    refine o_bipush (pc := 173) (v := 13) dX0_minutesMeant_173 rfl ?_
    refine o_aload_n (pc := 175) dX0_minutesMeant_175 rfl ?_
    refine c_getR (pc := 176) 0 0 30 31 (by decide) (by decide) rfl (lt48 (by decide)) rfl rfl lkX0_12 dX0_minutesMeant_176 ?_
    refine o_iload_n (pc := 179) dX0_minutesMeant_179 rfl ?_
    obtain ⟨q39, hk38, hf⟩ := bd_elim hf
    refine c_callV (pc := 180) 4 31 [.int p0] (by decide) (lt48 (by decide)) rfl dX0_minutesMeant_180 (kX5_isExempt_31 hk38) stX0_166 ⟨by decide, by decide, by decide, by decide⟩ ⟨rfl, rfl⟩ (Nat.le_of_ble_eq_true rfl) ?_
    show Rn g mdX0_minutesMeant 183 [some (.ref 30), some (.int p0), some (.int p1), some (.int p2), some (.ref 32)] [.int q39, .int 13, .ref 42] (cW t s37) 0 0 (some (.int q.1)) (cW t q.2)
    obtain ⟨w40, hr41, hf⟩ := bd_elim hf
    have K42 : Rn g mdX0_minutesMeant 191 [some (.ref 30), none, none, none, none] [.int w40, .int 13, .ref 42] (cW t s37) 0 0 (some (.int q.1)) (cW t q.2) := by
      obtain ⟨hk43, hf⟩ := ck_elim hf
      refine c_iast (pc := 191) (lt48 (by decide)) rfl hk43 dX0_minutesMeant_191 ?_
      refine lz_s (cW t) hf (fun s44 hf => ?_)
      show Rn g mdX0_minutesMeant 192 [some (.ref 30), none, none, none, none] [] (cW t s44) 0 0 (some (.int q.1)) (cW t q.2)
      refine o_aload_n (pc := 192) dX0_minutesMeant_192 rfl ?_
      refine c_getO (pc := 193) 6 1 (by decide) lkX0_42 dX0_minutesMeant_193 ?_
      refine o_aload_n (pc := 196) dX0_minutesMeant_196 rfl ?_
      refine c_getR (pc := 197) 0 3 30 42 (by decide) (by decide) rfl (lt48 (by decide)) rfl rfl lkX0_31 dX0_minutesMeant_197 ?_
      refine o_aload_n (pc := 200) dX0_minutesMeant_200 rfl ?_
      refine c_getR (pc := 201) 0 4 30 43 (by decide) (by decide) rfl (lt48 (by decide)) rfl rfl lkX0_34 dX0_minutesMeant_201 ?_
      obtain ⟨q45, hq46, hf⟩ := om_f hf
      rw [hq46]
      obtain ⟨hk47, hf⟩ := ck_elim hf
      have hk47 := of_decide_eq_true hk47
      obtain ⟨q49, hk48, hf⟩ := bd_elim hf
      refine c_callV (pc := 204) 2 q45 [.ref 42, .ref 43] (by decide) (by have := hk47.1; omega) hk47.2.1 dX0_minutesMeant_204 (kX2_minutesMeant_Rl_42_43 hk47 hk48) stX0_189 ⟨by decide, by decide, by decide, by decide⟩ ⟨rfl, rfl⟩ (Nat.le_of_ble_eq_true rfl) ?_
      show Rn g mdX0_minutesMeant 207 [some (.ref 30), none, none, none, none] [.int q49.1] (cW t q49.2) 0 0 (some (.int q.1)) (cW t q.2)
      obtain rfl := Option.some.inj hf
      exact o_ireturn (pc := 207) dX0_minutesMeant_207 rfl (Nat.zero_le _) (Nat.zero_le _)
    clear hf
    refine o_if_eq (pc := 183) 190 dX0_minutesMeant_183 rfl (fun hc => ?_) (fun hc => ?_)
    · have hr41 := it_t hr41 hc
      refine o_iconst (pc := 190) (v := 0) dX0_minutesMeant_190 rfl ?_
      obtain rfl := Option.some.inj hr41
      refine o_keep [true, false, false, false, false] ?_
      exact K42
    · have hr41 := it_f hr41 hc
      refine o_iconst (pc := 186) (v := 1) dX0_minutesMeant_186 rfl ?_
      refine o_goto (pc := 187) 191 dX0_minutesMeant_187 rfl ?_
      obtain rfl := Option.some.inj hr41
      refine o_keep [true, false, false, false, false] ?_
      exact K42
  · have hf := om_n hf hq2
    refine o_aload_n (pc := 7) dX0_minutesMeant_7 rfl ?_
    refine c_getR (pc := 8) 0 2 30 41 (by decide) (by decide) rfl (lt48 (by decide)) rfl rfl lkX0_25 dX0_minutesMeant_8 ?_
    refine o_iload_n (pc := 11) dX0_minutesMeant_11 rfl ?_
    obtain ⟨hk3, hf⟩ := ck_elim hf
    refine c_iald (pc := 12) (lt48 (by decide)) rfl hk3 dX0_minutesMeant_12 ?_
    obtain rfl := Option.some.inj hf
    exact o_ireturn (pc := 13) dX0_minutesMeant_13 rfl (Nat.zero_le _) (Nat.zero_le _)
def fX0_whenComes (p0 : Int32) (p1 : Int32) (p2 : Int32) (s : ST) : Option (Int32) :=
  ck (inb (20 + p1) 46) (ck (inb (0 + p0) 46) (lt (((gi s 32 (ix (20 + p1))) + p2) - (gi s 32 (ix (0 + p0))) : Int32) (fun v3 => ck (inb p0 5) (some (imx v3 (gi s 39 (ix p0)))))))
set_option maxRecDepth 20000 in
theorem kX0_whenComes {g : GX} {t : PH} {p0 : Int32} {p1 : Int32} {p2 : Int32} {s : ST} {q : Int32} (hf : fX0_whenComes p0 p1 p2 s = some q) : Cn g mdX0_whenComes [.ref 30, .int p0, .int p1, .int p2] (cW t s) (some (.int q)) (cW t s) := by
  refine Cn.of (by decide) (Nat.le_of_ble_eq_true rfl) ?_
  show Rn g mdX0_whenComes 0 [some (.ref 30), some (.int p0), some (.int p1), some (.int p2), none] [] (cW t s) 0 0 (some (.int q)) (cW t s)
  unfold fX0_whenComes at hf
  refine o_aload_n (pc := 0) dX0_whenComes_0 rfl ?_
  refine c_getR (pc := 1) 0 0 30 31 (by decide) (by decide) rfl (lt48 (by decide)) rfl rfl lkX0_12 dX0_whenComes_1 ?_
  refine c_getR (pc := 4) 4 0 31 32 (by decide) (by decide) rfl (lt48 (by decide)) rfl rfl lkX0_124 dX0_whenComes_4 ?_
  refine o_bipush (pc := 7) (v := 20) dX0_whenComes_7 rfl ?_
  refine o_iload_n (pc := 9) dX0_whenComes_9 rfl ?_
  refine o_iadd (pc := 10) dX0_whenComes_10 ?_
  obtain ⟨hk1, hf⟩ := ck_elim hf
  refine c_iald (pc := 11) (lt48 (by decide)) rfl hk1 dX0_whenComes_11 ?_
  refine o_iload_n (pc := 12) dX0_whenComes_12 rfl ?_
  refine o_iadd (pc := 13) dX0_whenComes_13 ?_
  refine o_aload_n (pc := 14) dX0_whenComes_14 rfl ?_
  refine c_getR (pc := 15) 0 0 30 31 (by decide) (by decide) rfl (lt48 (by decide)) rfl rfl lkX0_12 dX0_whenComes_15 ?_
  refine c_getR (pc := 18) 4 0 31 32 (by decide) (by decide) rfl (lt48 (by decide)) rfl rfl lkX0_124 dX0_whenComes_18 ?_
  refine o_iconst (pc := 21) (v := 0) dX0_whenComes_21 rfl ?_
  refine o_iload_n (pc := 22) dX0_whenComes_22 rfl ?_
  refine o_iadd (pc := 23) dX0_whenComes_23 ?_
  obtain ⟨hk2, hf⟩ := ck_elim hf
  refine c_iald (pc := 24) (lt48 (by decide)) rfl hk2 dX0_whenComes_24 ?_
  refine o_isub (pc := 25) dX0_whenComes_25 ?_
  refine lz_i hf (fun v3 hf => ?_)
  refine o_istore (pc := 26) dX0_whenComes_26 (by decide) rfl ?_
  show Rn g mdX0_whenComes 28 [some (.ref 30), some (.int p0), some (.int p1), some (.int p2), some (.int v3)] [] (cW t s) 0 0 (some (.int q)) (cW t s)
  refine o_iload (pc := 28) dX0_whenComes_28 rfl ?_
  refine o_aload_n (pc := 30) dX0_whenComes_30 rfl ?_
  refine c_getR (pc := 31) 0 1 30 33 (by decide) (by decide) rfl (lt48 (by decide)) rfl rfl lkX0_21 dX0_whenComes_31 ?_
  refine c_getR (pc := 34) 1 5 33 39 (by decide) (by decide) rfl (lt48 (by decide)) rfl rfl lkX0_153 dX0_whenComes_34 ?_
  refine o_iload_n (pc := 37) dX0_whenComes_37 rfl ?_
  obtain ⟨hk4, hf⟩ := ck_elim hf
  refine c_iald (pc := 38) (lt48 (by decide)) rfl hk4 dX0_whenComes_38 ?_
  refine o_max (pc := 39) lmX0_121 dX0_whenComes_39 (by decide) (Nat.le_of_ble_eq_true rfl) (Nat.zero_le _) (Nat.zero_le _) ?_
  show Rn g mdX0_whenComes 42 [some (.ref 30), some (.int p0), some (.int p1), some (.int p2), some (.int v3)] [.int (imx v3 (gi s 39 (ix p0)))] (cW t s) 0 0 (some (.int q)) (cW t s)
  obtain rfl := Option.some.inj hf
  exact o_ireturn (pc := 42) dX0_whenComes_42 rfl (Nat.zero_le _) (Nat.zero_le _)
def fX0_withDraw (p0 : Int32) (s : ST) : Option (Int32 × ST) :=
  lt (si s 30 14 ((((((gi s 30 14).toInt64) * 1103515245) + 12345) - ((((gi s 30 14).toInt64) * 1103515245) + 12345) / 2147483648 * 2147483648).toInt32)) (fun s1 => lt ((p0 + (((gi s1 30 14) / 65536) - ((gi s1 30 14) / 65536) / 11 * 11)) - 5 : Int32) (fun v2 => some (imx (-30) (imn 120 v2), s1)))
set_option maxRecDepth 20000 in
theorem kX0_withDraw {g : GX} {t : PH} {p0 : Int32} {s : ST} {q : Int32 × ST} (hf : fX0_withDraw p0 s = some q) : Cn g mdX0_withDraw [.ref 30, .int p0] (cW t s) (some (.int q.1)) (cW t q.2) := by
  refine Cn.of (by decide) (Nat.le_of_ble_eq_true rfl) ?_
  show Rn g mdX0_withDraw 0 [some (.ref 30), some (.int p0), none] [] (cW t s) 0 0 (some (.int q.1)) (cW t q.2)
  unfold fX0_withDraw at hf
  refine o_aload_n (pc := 0) dX0_withDraw_0 rfl ?_
  refine o_aload_n (pc := 1) dX0_withDraw_1 rfl ?_
  refine c_getI (pc := 2) 0 14 30 (by decide) (by decide) rfl (lt48 (by decide)) rfl lkX0_69 dX0_withDraw_2 ?_
  refine o_i2l (pc := 5) dX0_withDraw_5 ?_
  refine o_ldc2 (pc := 6) dX0_withDraw_6 lcX0_182 ?_
  refine o_lmul (pc := 9) dX0_withDraw_9 ?_
  refine o_ldc2 (pc := 10) dX0_withDraw_10 lcX0_184 ?_
  refine o_ladd (pc := 13) dX0_withDraw_13 ?_
  refine o_ldc2 (pc := 14) dX0_withDraw_14 lcX0_186 ?_
  refine o_lrem (pc := 17) dX0_withDraw_17 (by decide) ?_
  refine o_l2i (pc := 18) dX0_withDraw_18 ?_
  refine c_putI (pc := 19) 0 14 30 (by decide) (by decide) rfl rfl (lt48 (by decide)) rfl lkX0_69 ⟨rfl, rfl⟩ dX0_withDraw_19 ?_
  refine lz_s (cW t) hf (fun s1 hf => ?_)
  show Rn g mdX0_withDraw 22 [some (.ref 30), some (.int p0), none] [] (cW t s1) 0 0 (some (.int q.1)) (cW t q.2)
  refine o_iload_n (pc := 22) dX0_withDraw_22 rfl ?_
  refine o_aload_n (pc := 23) dX0_withDraw_23 rfl ?_
  refine c_getI (pc := 24) 0 14 30 (by decide) (by decide) rfl (lt48 (by decide)) rfl lkX0_69 dX0_withDraw_24 ?_
  refine o_ldc (pc := 27) dX0_withDraw_27 lcX0_188 ?_
  refine o_idiv (pc := 29) dX0_withDraw_29 (by decide) ?_
  refine o_bipush (pc := 30) (v := 11) dX0_withDraw_30 rfl ?_
  refine o_irem (pc := 32) dX0_withDraw_32 (by decide) ?_
  refine o_iadd (pc := 33) dX0_withDraw_33 ?_
  refine o_iconst (pc := 34) (v := 5) dX0_withDraw_34 rfl ?_
  refine o_isub (pc := 35) dX0_withDraw_35 ?_
  refine lz_i hf (fun v2 hf => ?_)
  refine o_istore_n (pc := 36) dX0_withDraw_36 (by decide) rfl ?_
  show Rn g mdX0_withDraw 37 [some (.ref 30), some (.int p0), some (.int v2)] [] (cW t s1) 0 0 (some (.int q.1)) (cW t q.2)
  refine o_bipush (pc := 37) (v := (-30)) dX0_withDraw_37 rfl ?_
  refine o_bipush (pc := 39) (v := 120) dX0_withDraw_39 rfl ?_
  refine o_iload_n (pc := 41) dX0_withDraw_41 rfl ?_
  refine o_min (pc := 42) lmX0_115 dX0_withDraw_42 (by decide) (Nat.le_of_ble_eq_true rfl) (Nat.zero_le _) (Nat.zero_le _) ?_
  show Rn g mdX0_withDraw 45 [some (.ref 30), some (.int p0), some (.int v2)] [.int (imn 120 v2), .int (-30)] (cW t s1) 0 0 (some (.int q.1)) (cW t q.2)
  refine o_max (pc := 45) lmX0_121 dX0_withDraw_45 (by decide) (Nat.le_of_ble_eq_true rfl) (Nat.zero_le _) (Nat.zero_le _) ?_
  show Rn g mdX0_withDraw 48 [some (.ref 30), some (.int p0), some (.int v2)] [.int (imx (-30) (imn 120 v2))] (cW t s1) 0 0 (some (.int q.1)) (cW t q.2)
  obtain rfl := Option.some.inj hf
  exact o_ireturn (pc := 48) dX0_withDraw_48 rfl (Nat.zero_le _) (Nat.zero_le _)
def fX0_goThrough (p0 : Int32) (t : PH) (s : ST) : Option (ST) :=
  ck (decide (mr s 0 = some 18)) (ck (inb p0 8) (lt (gi s 21 (ix p0) : Int32) (fun v3 => ck (decide (mr s 0 = some 18)) (ck (inb p0 8) (lt (gi s 22 (ix p0) : Int32) (fun v6 => (fX0_minutesMeant v3 v6 p0 t s).bind (fun q8 => (fX0_minutesMeant v6 v3 p0 t q8.2).bind (fun q10 => (if p0 = (gi q10.2 30 10) then lt (gi q10.2 30 11 : Int32) (fun v14 => lt (gi q10.2 30 12 : Int32) (fun v15 => some (v14, v15))) else some (q8.1, q10.1) : Option (Int32 × Int32)).bind (fun w11 => (if (gi q10.2 30 13) = 0 then some (w11.1, w11.2, q10.2) else (fX0_withDraw w11.1 q10.2).bind (fun q20 => (fX0_withDraw w11.2 q20.2).bind (fun q22 => some (q20.1, q22.1, q22.2))) : Option (Int32 × Int32 × ST)).bind (fun w16 => (fX0_whenComes v3 p0 w16.1 w16.2.2).bind (fun q24 => (fX0_whenComes v6 p0 w16.2.1 w16.2.2).bind (fun q26 => ck (decide (mr w16.2.2 0 = some 18)) (lt (imx 0 (imn (gi w16.2.2 18 3) (q26 - q24)) : Int32) (fun v28 => ck (decide (mr w16.2.2 0 = some 18)) (lt (imx 0 (imn (gi w16.2.2 18 3) (q24 - q26)) : Int32) (fun v30 => ck (decide (mr w16.2.2 0 = some 18)) ((if (iab (q24 - q26)) ≤ (gi w16.2.2 18 3) then ck (inb p0 8) (lt (si w16.2.2 35 (ix p0) (q24 + v28)) (fun s36 => ck (inb p0 8) (ck (decide (mr s36 0 = some 18)) (ck (inb p0 8) (ck (inb v3 5) (lt (si s36 39 (ix v3) ((gi s36 35 (ix p0)) + (gi s36 24 (ix p0)))) (fun s41 => ck (inb v3 5) (ck (inb v6 5) (lt (si s41 39 (ix v6) (gi s41 39 (ix v3))) (fun s44 => ck (inb (28 + p0) 46) (ck (inb (28 + p0) 46) (lt (si s44 32 (ix (28 + p0)) ((gi s44 32 (ix (28 + p0))) + 1)) (fun s47 => some s47))))))))))))) else ck (inb p0 8) (lt (si w16.2.2 35 (ix p0) (-1)) (fun s49 => ck (inb v3 5) (lt (si s49 39 (ix v3) (q24 + v28)) (fun s51 => ck (inb v6 5) (lt (si s51 39 (ix v6) (q26 + v30)) (fun s53 => ck (inb (36 + p0) 46) (ck (inb (36 + p0) 46) (lt (si s53 32 (ix (36 + p0)) ((gi s53 32 (ix (36 + p0))) + 1)) (fun s56 => lt (si s56 30 15 ((gi s56 30 15) + 1)) (fun s57 => some s57)))))))))) : Option (ST)).bind (fun w32 => ck (inb (20 + p0) 46) (lt (gi w32 32 (ix (20 + p0)) : Int32) (fun v59 => ck (inb p0 8) (lt (si w32 36 (ix p0) (v28 + v30)) (fun s61 => (fX0_charge (2 * p0) v3 (q24 - v59) v28 s61).bind (fun q63 => (fX0_charge ((2 * p0) + 1) v6 (q26 - v59) v30 q63).bind (fun q65 => some q65))))))))))))))))))))))))
set_option maxRecDepth 20000 in
theorem kX0_goThrough {g : GX} {t : PH} {p0 : Int32} {s : ST} {q : ST} (hf : fX0_goThrough p0 t s = some q) : Cn g mdX0_goThrough [.ref 30, .int p0] (cW t s) none (cW t q) := by
  refine Cn.of (by decide) (Nat.le_of_ble_eq_true rfl) ?_
  show Rn g mdX0_goThrough 0 [some (.ref 30), some (.int p0), none, none, none, none, none, none, none, none, none] [] (cW t s) 0 0 none (cW t q)
  unfold fX0_goThrough at hf
  refine o_aload_n (pc := 0) dX0_goThrough_0 rfl ?_
  refine c_getO (pc := 1) 5 0 (by decide) lkX0_38 dX0_goThrough_1 ?_
  obtain ⟨hk1, hf⟩ := ck_elim hf
  have hk1 := of_decide_eq_true hk1
  rw [hk1]
  refine c_getR (pc := 4) 6 11 18 21 (by decide) (by decide) rfl (lt48 (by decide)) rfl rfl lkX0_127 dX0_goThrough_4 ?_
  refine o_iload_n (pc := 7) dX0_goThrough_7 rfl ?_
  obtain ⟨hk2, hf⟩ := ck_elim hf
  refine c_iald (pc := 8) (lt48 (by decide)) rfl hk2 dX0_goThrough_8 ?_
  refine lz_i hf (fun v3 hf => ?_)
  refine o_istore_n (pc := 9) dX0_goThrough_9 (by decide) rfl ?_
  show Rn g mdX0_goThrough 10 [some (.ref 30), some (.int p0), some (.int v3), none, none, none, none, none, none, none, none] [] (cW t s) 0 0 none (cW t q)
  refine o_aload_n (pc := 10) dX0_goThrough_10 rfl ?_
  refine c_getO (pc := 11) 5 0 (by decide) lkX0_38 dX0_goThrough_11 ?_
  obtain ⟨hk4, hf⟩ := ck_elim hf
  have hk4 := of_decide_eq_true hk4
  rw [hk4]
  refine c_getR (pc := 14) 6 12 18 22 (by decide) (by decide) rfl (lt48 (by decide)) rfl rfl lkX0_130 dX0_goThrough_14 ?_
  refine o_iload_n (pc := 17) dX0_goThrough_17 rfl ?_
  obtain ⟨hk5, hf⟩ := ck_elim hf
  refine c_iald (pc := 18) (lt48 (by decide)) rfl hk5 dX0_goThrough_18 ?_
  refine lz_i hf (fun v6 hf => ?_)
  refine o_istore_n (pc := 19) dX0_goThrough_19 (by decide) rfl ?_
  show Rn g mdX0_goThrough 20 [some (.ref 30), some (.int p0), some (.int v3), some (.int v6), none, none, none, none, none, none, none] [] (cW t s) 0 0 none (cW t q)
  refine o_aload_n (pc := 20) dX0_goThrough_20 rfl ?_
  refine o_iload_n (pc := 21) dX0_goThrough_21 rfl ?_
  refine o_iload_n (pc := 22) dX0_goThrough_22 rfl ?_
  refine o_iload_n (pc := 23) dX0_goThrough_23 rfl ?_
  obtain ⟨q8, hk7, hf⟩ := bd_elim hf
  refine c_callV (pc := 24) 0 30 [.int v3, .int v6, .int p0] (by decide) (lt48 (by decide)) rfl dX0_goThrough_24 (kX0_minutesMeant hk7) stX0_133 ⟨by decide, by decide, by decide, by decide⟩ ⟨rfl, rfl⟩ (Nat.le_of_ble_eq_true rfl) ?_
  show Rn g mdX0_goThrough 27 [some (.ref 30), some (.int p0), some (.int v3), some (.int v6), none, none, none, none, none, none, none] [.int q8.1] (cW t q8.2) 0 0 none (cW t q)
  refine o_istore (pc := 27) dX0_goThrough_27 (by decide) rfl ?_
  show Rn g mdX0_goThrough 29 [some (.ref 30), some (.int p0), some (.int v3), some (.int v6), some (.int q8.1), none, none, none, none, none, none] [] (cW t q8.2) 0 0 none (cW t q)
  refine o_aload_n (pc := 29) dX0_goThrough_29 rfl ?_
  refine o_iload_n (pc := 30) dX0_goThrough_30 rfl ?_
  refine o_iload_n (pc := 31) dX0_goThrough_31 rfl ?_
  refine o_iload_n (pc := 32) dX0_goThrough_32 rfl ?_
  obtain ⟨q10, hk9, hf⟩ := bd_elim hf
  refine c_callV (pc := 33) 0 30 [.int v6, .int v3, .int p0] (by decide) (lt48 (by decide)) rfl dX0_goThrough_33 (kX0_minutesMeant hk9) stX0_133 ⟨by decide, by decide, by decide, by decide⟩ ⟨rfl, rfl⟩ (Nat.le_of_ble_eq_true rfl) ?_
  show Rn g mdX0_goThrough 36 [some (.ref 30), some (.int p0), some (.int v3), some (.int v6), some (.int q8.1), none, none, none, none, none, none] [.int q10.1] (cW t q10.2) 0 0 none (cW t q)
  refine o_istore (pc := 36) dX0_goThrough_36 (by decide) rfl ?_
  show Rn g mdX0_goThrough 38 [some (.ref 30), some (.int p0), some (.int v3), some (.int v6), some (.int q8.1), some (.int q10.1), none, none, none, none, none] [] (cW t q10.2) 0 0 none (cW t q)
  refine o_iload_n (pc := 38) dX0_goThrough_38 rfl ?_
  refine o_aload_n (pc := 39) dX0_goThrough_39 rfl ?_
  refine c_getI (pc := 40) 0 10 30 (by decide) (by decide) rfl (lt48 (by decide)) rfl lkX0_56 dX0_goThrough_40 ?_
  obtain ⟨w11, hr12, hf⟩ := bd_elim hf
  have K13 : Rn g mdX0_goThrough 58 [some (.ref 30), some (.int p0), some (.int v3), some (.int v6), some (.int w11.1), some (.int w11.2), none, none, none, none, none] [] (cW t q10.2) 0 0 none (cW t q) := by
    refine o_aload_n (pc := 58) dX0_goThrough_58 rfl ?_
    refine c_getI (pc := 59) 0 13 30 (by decide) (by decide) rfl (lt48 (by decide)) rfl lkX0_65 dX0_goThrough_59 ?_
    obtain ⟨w16, hr17, hf⟩ := bd_elim hf
    have K18 : Rn g mdX0_goThrough 81 [some (.ref 30), some (.int p0), some (.int v3), some (.int v6), some (.int w16.1), some (.int w16.2.1), none, none, none, none, none] [] (cW t w16.2.2) 0 0 none (cW t q) := by
      refine o_aload_n (pc := 81) dX0_goThrough_81 rfl ?_
      refine o_iload_n (pc := 82) dX0_goThrough_82 rfl ?_
      refine o_iload_n (pc := 83) dX0_goThrough_83 rfl ?_
      refine o_iload (pc := 84) dX0_goThrough_84 rfl ?_
      obtain ⟨q24, hk23, hf⟩ := bd_elim hf
      refine c_callV (pc := 86) 0 30 [.int v3, .int p0, .int w16.1] (by decide) (lt48 (by decide)) rfl dX0_goThrough_86 (kX0_whenComes hk23) stX0_141 ⟨by decide, by decide, by decide, by decide⟩ ⟨rfl, rfl⟩ (Nat.le_of_ble_eq_true rfl) ?_
      show Rn g mdX0_goThrough 89 [some (.ref 30), some (.int p0), some (.int v3), some (.int v6), some (.int w16.1), some (.int w16.2.1), none, none, none, none, none] [.int q24] (cW t w16.2.2) 0 0 none (cW t q)
      refine o_istore (pc := 89) dX0_goThrough_89 (by decide) rfl ?_
      show Rn g mdX0_goThrough 91 [some (.ref 30), some (.int p0), some (.int v3), some (.int v6), some (.int w16.1), some (.int w16.2.1), some (.int q24), none, none, none, none] [] (cW t w16.2.2) 0 0 none (cW t q)
      refine o_aload_n (pc := 91) dX0_goThrough_91 rfl ?_
      refine o_iload_n (pc := 92) dX0_goThrough_92 rfl ?_
      refine o_iload_n (pc := 93) dX0_goThrough_93 rfl ?_
      refine o_iload (pc := 94) dX0_goThrough_94 rfl ?_
      obtain ⟨q26, hk25, hf⟩ := bd_elim hf
      refine c_callV (pc := 96) 0 30 [.int v6, .int p0, .int w16.2.1] (by decide) (lt48 (by decide)) rfl dX0_goThrough_96 (kX0_whenComes hk25) stX0_141 ⟨by decide, by decide, by decide, by decide⟩ ⟨rfl, rfl⟩ (Nat.le_of_ble_eq_true rfl) ?_
      show Rn g mdX0_goThrough 99 [some (.ref 30), some (.int p0), some (.int v3), some (.int v6), some (.int w16.1), some (.int w16.2.1), some (.int q24), none, none, none, none] [.int q26] (cW t w16.2.2) 0 0 none (cW t q)
      refine o_istore (pc := 99) dX0_goThrough_99 (by decide) rfl ?_
      show Rn g mdX0_goThrough 101 [some (.ref 30), some (.int p0), some (.int v3), some (.int v6), some (.int w16.1), some (.int w16.2.1), some (.int q24), some (.int q26), none, none, none] [] (cW t w16.2.2) 0 0 none (cW t q)
      refine o_iconst (pc := 101) (v := 0) dX0_goThrough_101 rfl ?_
      refine o_aload_n (pc := 102) dX0_goThrough_102 rfl ?_
      refine c_getO (pc := 103) 5 0 (by decide) lkX0_38 dX0_goThrough_103 ?_
      obtain ⟨hk27, hf⟩ := ck_elim hf
      have hk27 := of_decide_eq_true hk27
      rw [hk27]
      refine c_getI (pc := 106) 6 3 18 (by decide) (by decide) rfl (lt48 (by decide)) rfl lkX0_144 dX0_goThrough_106 ?_
      refine o_iload (pc := 109) dX0_goThrough_109 rfl ?_
      refine o_iload (pc := 111) dX0_goThrough_111 rfl ?_
      refine o_isub (pc := 113) dX0_goThrough_113 ?_
      refine o_min (pc := 114) lmX0_115 dX0_goThrough_114 (by decide) (Nat.le_of_ble_eq_true rfl) (Nat.zero_le _) (Nat.zero_le _) ?_
      show Rn g mdX0_goThrough 117 [some (.ref 30), some (.int p0), some (.int v3), some (.int v6), some (.int w16.1), some (.int w16.2.1), some (.int q24), some (.int q26), none, none, none] [.int (imn (gi w16.2.2 18 3) (q26 - q24)), .int 0] (cW t w16.2.2) 0 0 none (cW t q)
      refine o_max (pc := 117) lmX0_121 dX0_goThrough_117 (by decide) (Nat.le_of_ble_eq_true rfl) (Nat.zero_le _) (Nat.zero_le _) ?_
      show Rn g mdX0_goThrough 120 [some (.ref 30), some (.int p0), some (.int v3), some (.int v6), some (.int w16.1), some (.int w16.2.1), some (.int q24), some (.int q26), none, none, none] [.int (imx 0 (imn (gi w16.2.2 18 3) (q26 - q24)))] (cW t w16.2.2) 0 0 none (cW t q)
      refine lz_i hf (fun v28 hf => ?_)
      refine o_istore (pc := 120) dX0_goThrough_120 (by decide) rfl ?_
      show Rn g mdX0_goThrough 122 [some (.ref 30), some (.int p0), some (.int v3), some (.int v6), some (.int w16.1), some (.int w16.2.1), some (.int q24), some (.int q26), some (.int v28), none, none] [] (cW t w16.2.2) 0 0 none (cW t q)
      refine o_iconst (pc := 122) (v := 0) dX0_goThrough_122 rfl ?_
      refine o_aload_n (pc := 123) dX0_goThrough_123 rfl ?_
      refine c_getO (pc := 124) 5 0 (by decide) lkX0_38 dX0_goThrough_124 ?_
      obtain ⟨hk29, hf⟩ := ck_elim hf
      have hk29 := of_decide_eq_true hk29
      rw [hk29]
      refine c_getI (pc := 127) 6 3 18 (by decide) (by decide) rfl (lt48 (by decide)) rfl lkX0_144 dX0_goThrough_127 ?_
      refine o_iload (pc := 130) dX0_goThrough_130 rfl ?_
      refine o_iload (pc := 132) dX0_goThrough_132 rfl ?_
      refine o_isub (pc := 134) dX0_goThrough_134 ?_
      refine o_min (pc := 135) lmX0_115 dX0_goThrough_135 (by decide) (Nat.le_of_ble_eq_true rfl) (Nat.zero_le _) (Nat.zero_le _) ?_
      show Rn g mdX0_goThrough 138 [some (.ref 30), some (.int p0), some (.int v3), some (.int v6), some (.int w16.1), some (.int w16.2.1), some (.int q24), some (.int q26), some (.int v28), none, none] [.int (imn (gi w16.2.2 18 3) (q24 - q26)), .int 0] (cW t w16.2.2) 0 0 none (cW t q)
      refine o_max (pc := 138) lmX0_121 dX0_goThrough_138 (by decide) (Nat.le_of_ble_eq_true rfl) (Nat.zero_le _) (Nat.zero_le _) ?_
      show Rn g mdX0_goThrough 141 [some (.ref 30), some (.int p0), some (.int v3), some (.int v6), some (.int w16.1), some (.int w16.2.1), some (.int q24), some (.int q26), some (.int v28), none, none] [.int (imx 0 (imn (gi w16.2.2 18 3) (q24 - q26)))] (cW t w16.2.2) 0 0 none (cW t q)
      refine lz_i hf (fun v30 hf => ?_)
      refine o_istore (pc := 141) dX0_goThrough_141 (by decide) rfl ?_
      show Rn g mdX0_goThrough 143 [some (.ref 30), some (.int p0), some (.int v3), some (.int v6), some (.int w16.1), some (.int w16.2.1), some (.int q24), some (.int q26), some (.int v28), some (.int v30), none] [] (cW t w16.2.2) 0 0 none (cW t q)
      refine o_iload (pc := 143) dX0_goThrough_143 rfl ?_
      refine o_iload (pc := 145) dX0_goThrough_145 rfl ?_
      refine o_isub (pc := 147) dX0_goThrough_147 ?_
      refine o_abs (pc := 148) lmX0_147 dX0_goThrough_148 (by decide) (Nat.le_of_ble_eq_true rfl) (Nat.zero_le _) (Nat.zero_le _) ?_
      show Rn g mdX0_goThrough 151 [some (.ref 30), some (.int p0), some (.int v3), some (.int v6), some (.int w16.1), some (.int w16.2.1), some (.int q24), some (.int q26), some (.int v28), some (.int v30), none] [.int (iab (q24 - q26))] (cW t w16.2.2) 0 0 none (cW t q)
      refine o_aload_n (pc := 151) dX0_goThrough_151 rfl ?_
      refine c_getO (pc := 152) 5 0 (by decide) lkX0_38 dX0_goThrough_152 ?_
      obtain ⟨hk31, hf⟩ := ck_elim hf
      have hk31 := of_decide_eq_true hk31
      rw [hk31]
      refine c_getI (pc := 155) 6 3 18 (by decide) (by decide) rfl (lt48 (by decide)) rfl lkX0_144 dX0_goThrough_155 ?_
      obtain ⟨w32, hr33, hf⟩ := bd_elim hf
      have K34 : Rn g mdX0_goThrough 304 [some (.ref 30), some (.int p0), some (.int v3), some (.int v6), none, none, some (.int q24), some (.int q26), some (.int v28), some (.int v30), none] [] (cW t w32) 0 0 none (cW t q) := by
        refine o_aload_n (pc := 304) dX0_goThrough_304 rfl ?_
        refine c_getR (pc := 305) 0 0 30 31 (by decide) (by decide) rfl (lt48 (by decide)) rfl rfl lkX0_12 dX0_goThrough_305 ?_
        refine c_getR (pc := 308) 4 0 31 32 (by decide) (by decide) rfl (lt48 (by decide)) rfl rfl lkX0_124 dX0_goThrough_308 ?_
        refine o_bipush (pc := 311) (v := 20) dX0_goThrough_311 rfl ?_
        refine o_iload_n (pc := 313) dX0_goThrough_313 rfl ?_
        refine o_iadd (pc := 314) dX0_goThrough_314 ?_
        obtain ⟨hk58, hf⟩ := ck_elim hf
        refine c_iald (pc := 315) (lt48 (by decide)) rfl hk58 dX0_goThrough_315 ?_
        refine lz_i hf (fun v59 hf => ?_)
        refine o_istore (pc := 316) dX0_goThrough_316 (by decide) rfl ?_
        show Rn g mdX0_goThrough 318 [some (.ref 30), some (.int p0), some (.int v3), some (.int v6), none, none, some (.int q24), some (.int q26), some (.int v28), some (.int v30), some (.int v59)] [] (cW t w32) 0 0 none (cW t q)
        refine o_aload_n (pc := 318) dX0_goThrough_318 rfl ?_
        refine c_getR (pc := 319) 0 1 30 33 (by decide) (by decide) rfl (lt48 (by decide)) rfl rfl lkX0_21 dX0_goThrough_319 ?_
        refine c_getR (pc := 322) 1 2 33 36 (by decide) (by decide) rfl (lt48 (by decide)) rfl rfl lkX0_159 dX0_goThrough_322 ?_
        refine o_iload_n (pc := 325) dX0_goThrough_325 rfl ?_
        refine o_iload (pc := 326) dX0_goThrough_326 rfl ?_
        refine o_iload (pc := 328) dX0_goThrough_328 rfl ?_
        refine o_iadd (pc := 330) dX0_goThrough_330 ?_
        obtain ⟨hk60, hf⟩ := ck_elim hf
        refine c_iast (pc := 331) (lt48 (by decide)) rfl hk60 dX0_goThrough_331 ?_
        refine lz_s (cW t) hf (fun s61 hf => ?_)
        show Rn g mdX0_goThrough 332 [some (.ref 30), some (.int p0), some (.int v3), some (.int v6), none, none, some (.int q24), some (.int q26), some (.int v28), some (.int v30), some (.int v59)] [] (cW t s61) 0 0 none (cW t q)
        refine o_aload_n (pc := 332) dX0_goThrough_332 rfl ?_
        refine o_iconst (pc := 333) (v := 2) dX0_goThrough_333 rfl ?_
        refine o_iload_n (pc := 334) dX0_goThrough_334 rfl ?_
        refine o_imul (pc := 335) dX0_goThrough_335 ?_
        refine o_iload_n (pc := 336) dX0_goThrough_336 rfl ?_
        refine o_iload (pc := 337) dX0_goThrough_337 rfl ?_
        refine o_iload (pc := 339) dX0_goThrough_339 rfl ?_
        refine o_isub (pc := 341) dX0_goThrough_341 ?_
        refine o_iload (pc := 342) dX0_goThrough_342 rfl ?_
        obtain ⟨q63, hk62, hf⟩ := bd_elim hf
        refine c_callV (pc := 344) 0 30 [.int (2 * p0), .int v3, .int (q24 - v59), .int v28] (by decide) (lt48 (by decide)) rfl dX0_goThrough_344 (kX0_charge hk62) stX0_162 ⟨by decide, by decide, by decide, by decide⟩ ⟨rfl, rfl⟩ (Nat.le_of_ble_eq_true rfl) ?_
        show Rn g mdX0_goThrough 347 [some (.ref 30), some (.int p0), some (.int v3), some (.int v6), none, none, some (.int q24), some (.int q26), some (.int v28), some (.int v30), some (.int v59)] [] (cW t q63) 0 0 none (cW t q)
        refine o_aload_n (pc := 347) dX0_goThrough_347 rfl ?_
        refine o_iconst (pc := 348) (v := 2) dX0_goThrough_348 rfl ?_
        refine o_iload_n (pc := 349) dX0_goThrough_349 rfl ?_
        refine o_imul (pc := 350) dX0_goThrough_350 ?_
        refine o_iconst (pc := 351) (v := 1) dX0_goThrough_351 rfl ?_
        refine o_iadd (pc := 352) dX0_goThrough_352 ?_
        refine o_iload_n (pc := 353) dX0_goThrough_353 rfl ?_
        refine o_iload (pc := 354) dX0_goThrough_354 rfl ?_
        refine o_iload (pc := 356) dX0_goThrough_356 rfl ?_
        refine o_isub (pc := 358) dX0_goThrough_358 ?_
        refine o_iload (pc := 359) dX0_goThrough_359 rfl ?_
        obtain ⟨q65, hk64, hf⟩ := bd_elim hf
        refine c_callV (pc := 361) 0 30 [.int ((2 * p0) + 1), .int v6, .int (q26 - v59), .int v30] (by decide) (lt48 (by decide)) rfl dX0_goThrough_361 (kX0_charge hk64) stX0_162 ⟨by decide, by decide, by decide, by decide⟩ ⟨rfl, rfl⟩ (Nat.le_of_ble_eq_true rfl) ?_
        show Rn g mdX0_goThrough 364 [some (.ref 30), some (.int p0), some (.int v3), some (.int v6), none, none, some (.int q24), some (.int q26), some (.int v28), some (.int v30), some (.int v59)] [] (cW t q65) 0 0 none (cW t q)
        obtain rfl := Option.some.inj hf
        exact o_return (pc := 364) dX0_goThrough_364 rfl (Nat.zero_le _) (Nat.zero_le _)
      clear hf
      refine o_icmp_le (pc := 158) 228 dX0_goThrough_158 rfl (fun hc => ?_) (fun hc => ?_)
      · have hr33 := it_t hr33 hc
        refine o_aload_n (pc := 228) dX0_goThrough_228 rfl ?_
        refine c_getR (pc := 229) 0 1 30 33 (by decide) (by decide) rfl (lt48 (by decide)) rfl rfl lkX0_21 dX0_goThrough_229 ?_
        refine c_getR (pc := 232) 1 1 33 35 (by decide) (by decide) rfl (lt48 (by decide)) rfl rfl lkX0_150 dX0_goThrough_232 ?_
        refine o_iload_n (pc := 235) dX0_goThrough_235 rfl ?_
        refine o_iload (pc := 236) dX0_goThrough_236 rfl ?_
        refine o_iload (pc := 238) dX0_goThrough_238 rfl ?_
        refine o_iadd (pc := 240) dX0_goThrough_240 ?_
        obtain ⟨hk35, hr33⟩ := ck_elim hr33
        refine c_iast (pc := 241) (lt48 (by decide)) rfl hk35 dX0_goThrough_241 ?_
        refine lz_s (cW t) hr33 (fun s36 hr33 => ?_)
        show Rn g mdX0_goThrough 242 [some (.ref 30), some (.int p0), some (.int v3), some (.int v6), some (.int w16.1), some (.int w16.2.1), some (.int q24), some (.int q26), some (.int v28), some (.int v30), none] [] (cW t s36) 0 0 none (cW t q)
        refine o_aload_n (pc := 242) dX0_goThrough_242 rfl ?_
        refine c_getR (pc := 243) 0 1 30 33 (by decide) (by decide) rfl (lt48 (by decide)) rfl rfl lkX0_21 dX0_goThrough_243 ?_
        refine c_getR (pc := 246) 1 5 33 39 (by decide) (by decide) rfl (lt48 (by decide)) rfl rfl lkX0_153 dX0_goThrough_246 ?_
        refine o_iload_n (pc := 249) dX0_goThrough_249 rfl ?_
        refine o_aload_n (pc := 250) dX0_goThrough_250 rfl ?_
        refine c_getR (pc := 251) 0 1 30 33 (by decide) (by decide) rfl (lt48 (by decide)) rfl rfl lkX0_21 dX0_goThrough_251 ?_
        refine c_getR (pc := 254) 1 1 33 35 (by decide) (by decide) rfl (lt48 (by decide)) rfl rfl lkX0_150 dX0_goThrough_254 ?_
        refine o_iload_n (pc := 257) dX0_goThrough_257 rfl ?_
        obtain ⟨hk37, hr33⟩ := ck_elim hr33
        refine c_iald (pc := 258) (lt48 (by decide)) rfl hk37 dX0_goThrough_258 ?_
        refine o_aload_n (pc := 259) dX0_goThrough_259 rfl ?_
        refine c_getO (pc := 260) 5 0 (by decide) lkX0_38 dX0_goThrough_260 ?_
        obtain ⟨hk38, hr33⟩ := ck_elim hr33
        have hk38 := of_decide_eq_true hk38
        rw [hk38]
        refine c_getR (pc := 263) 6 14 18 24 (by decide) (by decide) rfl (lt48 (by decide)) rfl rfl lkX0_156 dX0_goThrough_263 ?_
        refine o_iload_n (pc := 266) dX0_goThrough_266 rfl ?_
        obtain ⟨hk39, hr33⟩ := ck_elim hr33
        refine c_iald (pc := 267) (lt48 (by decide)) rfl hk39 dX0_goThrough_267 ?_
        refine o_iadd (pc := 268) dX0_goThrough_268 ?_
        obtain ⟨hk40, hr33⟩ := ck_elim hr33
        refine c_iast (pc := 269) (lt48 (by decide)) rfl hk40 dX0_goThrough_269 ?_
        refine lz_s (cW t) hr33 (fun s41 hr33 => ?_)
        show Rn g mdX0_goThrough 270 [some (.ref 30), some (.int p0), some (.int v3), some (.int v6), some (.int w16.1), some (.int w16.2.1), some (.int q24), some (.int q26), some (.int v28), some (.int v30), none] [] (cW t s41) 0 0 none (cW t q)
        refine o_aload_n (pc := 270) dX0_goThrough_270 rfl ?_
        refine c_getR (pc := 271) 0 1 30 33 (by decide) (by decide) rfl (lt48 (by decide)) rfl rfl lkX0_21 dX0_goThrough_271 ?_
        refine c_getR (pc := 274) 1 5 33 39 (by decide) (by decide) rfl (lt48 (by decide)) rfl rfl lkX0_153 dX0_goThrough_274 ?_
        refine o_iload_n (pc := 277) dX0_goThrough_277 rfl ?_
        refine o_aload_n (pc := 278) dX0_goThrough_278 rfl ?_
        refine c_getR (pc := 279) 0 1 30 33 (by decide) (by decide) rfl (lt48 (by decide)) rfl rfl lkX0_21 dX0_goThrough_279 ?_
        refine c_getR (pc := 282) 1 5 33 39 (by decide) (by decide) rfl (lt48 (by decide)) rfl rfl lkX0_153 dX0_goThrough_282 ?_
        refine o_iload_n (pc := 285) dX0_goThrough_285 rfl ?_
        obtain ⟨hk42, hr33⟩ := ck_elim hr33
        refine c_iald (pc := 286) (lt48 (by decide)) rfl hk42 dX0_goThrough_286 ?_
        obtain ⟨hk43, hr33⟩ := ck_elim hr33
        refine c_iast (pc := 287) (lt48 (by decide)) rfl hk43 dX0_goThrough_287 ?_
        refine lz_s (cW t) hr33 (fun s44 hr33 => ?_)
        show Rn g mdX0_goThrough 288 [some (.ref 30), some (.int p0), some (.int v3), some (.int v6), some (.int w16.1), some (.int w16.2.1), some (.int q24), some (.int q26), some (.int v28), some (.int v30), none] [] (cW t s44) 0 0 none (cW t q)
        refine o_aload_n (pc := 288) dX0_goThrough_288 rfl ?_
        refine c_getR (pc := 289) 0 0 30 31 (by decide) (by decide) rfl (lt48 (by decide)) rfl rfl lkX0_12 dX0_goThrough_289 ?_
        refine c_getR (pc := 292) 4 0 31 32 (by decide) (by decide) rfl (lt48 (by decide)) rfl rfl lkX0_124 dX0_goThrough_292 ?_
        refine o_bipush (pc := 295) (v := 28) dX0_goThrough_295 rfl ?_
        refine o_iload_n (pc := 297) dX0_goThrough_297 rfl ?_
        refine o_iadd (pc := 298) dX0_goThrough_298 ?_
        refine o_dup2 (pc := 299) dX0_goThrough_299 rfl rfl ?_
        obtain ⟨hk45, hr33⟩ := ck_elim hr33
        refine c_iald (pc := 300) (lt48 (by decide)) rfl hk45 dX0_goThrough_300 ?_
        refine o_iconst (pc := 301) (v := 1) dX0_goThrough_301 rfl ?_
        refine o_iadd (pc := 302) dX0_goThrough_302 ?_
        obtain ⟨hk46, hr33⟩ := ck_elim hr33
        refine c_iast (pc := 303) (lt48 (by decide)) rfl hk46 dX0_goThrough_303 ?_
        refine lz_s (cW t) hr33 (fun s47 hr33 => ?_)
        show Rn g mdX0_goThrough 304 [some (.ref 30), some (.int p0), some (.int v3), some (.int v6), some (.int w16.1), some (.int w16.2.1), some (.int q24), some (.int q26), some (.int v28), some (.int v30), none] [] (cW t s47) 0 0 none (cW t q)
        obtain rfl := Option.some.inj hr33
        refine o_keep [true, true, true, true, false, false, true, true, true, true, false] ?_
        exact K34
      · have hr33 := it_f hr33 hc
        refine o_aload_n (pc := 161) dX0_goThrough_161 rfl ?_
        refine c_getR (pc := 162) 0 1 30 33 (by decide) (by decide) rfl (lt48 (by decide)) rfl rfl lkX0_21 dX0_goThrough_162 ?_
        refine c_getR (pc := 165) 1 1 33 35 (by decide) (by decide) rfl (lt48 (by decide)) rfl rfl lkX0_150 dX0_goThrough_165 ?_
        refine o_iload_n (pc := 168) dX0_goThrough_168 rfl ?_
        refine o_iconst (pc := 169) (v := (-1)) dX0_goThrough_169 rfl ?_
        obtain ⟨hk48, hr33⟩ := ck_elim hr33
        refine c_iast (pc := 170) (lt48 (by decide)) rfl hk48 dX0_goThrough_170 ?_
        refine lz_s (cW t) hr33 (fun s49 hr33 => ?_)
        show Rn g mdX0_goThrough 171 [some (.ref 30), some (.int p0), some (.int v3), some (.int v6), some (.int w16.1), some (.int w16.2.1), some (.int q24), some (.int q26), some (.int v28), some (.int v30), none] [] (cW t s49) 0 0 none (cW t q)
        refine o_aload_n (pc := 171) dX0_goThrough_171 rfl ?_
        refine c_getR (pc := 172) 0 1 30 33 (by decide) (by decide) rfl (lt48 (by decide)) rfl rfl lkX0_21 dX0_goThrough_172 ?_
        refine c_getR (pc := 175) 1 5 33 39 (by decide) (by decide) rfl (lt48 (by decide)) rfl rfl lkX0_153 dX0_goThrough_175 ?_
        refine o_iload_n (pc := 178) dX0_goThrough_178 rfl ?_
        refine o_iload (pc := 179) dX0_goThrough_179 rfl ?_
        refine o_iload (pc := 181) dX0_goThrough_181 rfl ?_
        refine o_iadd (pc := 183) dX0_goThrough_183 ?_
        obtain ⟨hk50, hr33⟩ := ck_elim hr33
        refine c_iast (pc := 184) (lt48 (by decide)) rfl hk50 dX0_goThrough_184 ?_
        refine lz_s (cW t) hr33 (fun s51 hr33 => ?_)
        show Rn g mdX0_goThrough 185 [some (.ref 30), some (.int p0), some (.int v3), some (.int v6), some (.int w16.1), some (.int w16.2.1), some (.int q24), some (.int q26), some (.int v28), some (.int v30), none] [] (cW t s51) 0 0 none (cW t q)
        refine o_aload_n (pc := 185) dX0_goThrough_185 rfl ?_
        refine c_getR (pc := 186) 0 1 30 33 (by decide) (by decide) rfl (lt48 (by decide)) rfl rfl lkX0_21 dX0_goThrough_186 ?_
        refine c_getR (pc := 189) 1 5 33 39 (by decide) (by decide) rfl (lt48 (by decide)) rfl rfl lkX0_153 dX0_goThrough_189 ?_
        refine o_iload_n (pc := 192) dX0_goThrough_192 rfl ?_
        refine o_iload (pc := 193) dX0_goThrough_193 rfl ?_
        refine o_iload (pc := 195) dX0_goThrough_195 rfl ?_
        refine o_iadd (pc := 197) dX0_goThrough_197 ?_
        obtain ⟨hk52, hr33⟩ := ck_elim hr33
        refine c_iast (pc := 198) (lt48 (by decide)) rfl hk52 dX0_goThrough_198 ?_
        refine lz_s (cW t) hr33 (fun s53 hr33 => ?_)
        show Rn g mdX0_goThrough 199 [some (.ref 30), some (.int p0), some (.int v3), some (.int v6), some (.int w16.1), some (.int w16.2.1), some (.int q24), some (.int q26), some (.int v28), some (.int v30), none] [] (cW t s53) 0 0 none (cW t q)
        refine o_aload_n (pc := 199) dX0_goThrough_199 rfl ?_
        refine c_getR (pc := 200) 0 0 30 31 (by decide) (by decide) rfl (lt48 (by decide)) rfl rfl lkX0_12 dX0_goThrough_200 ?_
        refine c_getR (pc := 203) 4 0 31 32 (by decide) (by decide) rfl (lt48 (by decide)) rfl rfl lkX0_124 dX0_goThrough_203 ?_
        refine o_bipush (pc := 206) (v := 36) dX0_goThrough_206 rfl ?_
        refine o_iload_n (pc := 208) dX0_goThrough_208 rfl ?_
        refine o_iadd (pc := 209) dX0_goThrough_209 ?_
        refine o_dup2 (pc := 210) dX0_goThrough_210 rfl rfl ?_
        obtain ⟨hk54, hr33⟩ := ck_elim hr33
        refine c_iald (pc := 211) (lt48 (by decide)) rfl hk54 dX0_goThrough_211 ?_
        refine o_iconst (pc := 212) (v := 1) dX0_goThrough_212 rfl ?_
        refine o_iadd (pc := 213) dX0_goThrough_213 ?_
        obtain ⟨hk55, hr33⟩ := ck_elim hr33
        refine c_iast (pc := 214) (lt48 (by decide)) rfl hk55 dX0_goThrough_214 ?_
        refine lz_s (cW t) hr33 (fun s56 hr33 => ?_)
        show Rn g mdX0_goThrough 215 [some (.ref 30), some (.int p0), some (.int v3), some (.int v6), some (.int w16.1), some (.int w16.2.1), some (.int q24), some (.int q26), some (.int v28), some (.int v30), none] [] (cW t s56) 0 0 none (cW t q)
        refine o_aload_n (pc := 215) dX0_goThrough_215 rfl ?_
        refine o_dup (pc := 216) dX0_goThrough_216 rfl ?_
        refine c_getI (pc := 217) 0 15 30 (by decide) (by decide) rfl (lt48 (by decide)) rfl lkX0_72 dX0_goThrough_217 ?_
        refine o_iconst (pc := 220) (v := 1) dX0_goThrough_220 rfl ?_
        refine o_iadd (pc := 221) dX0_goThrough_221 ?_
        refine c_putI (pc := 222) 0 15 30 (by decide) (by decide) rfl rfl (lt48 (by decide)) rfl lkX0_72 ⟨rfl, rfl⟩ dX0_goThrough_222 ?_
        refine lz_s (cW t) hr33 (fun s57 hr33 => ?_)
        show Rn g mdX0_goThrough 225 [some (.ref 30), some (.int p0), some (.int v3), some (.int v6), some (.int w16.1), some (.int w16.2.1), some (.int q24), some (.int q26), some (.int v28), some (.int v30), none] [] (cW t s57) 0 0 none (cW t q)
        refine o_goto (pc := 225) 304 dX0_goThrough_225 rfl ?_
        obtain rfl := Option.some.inj hr33
        refine o_keep [true, true, true, true, false, false, true, true, true, true, false] ?_
        exact K34
    clear hf
    refine o_if_eq (pc := 62) 81 dX0_goThrough_62 rfl (fun hc => ?_) (fun hc => ?_)
    · have hr17 := it_t hr17 hc
      obtain rfl := Option.some.inj hr17
      exact K18
    · have hr17 := it_f hr17 hc
      refine o_aload_n (pc := 65) dX0_goThrough_65 rfl ?_
      refine o_iload (pc := 66) dX0_goThrough_66 rfl ?_
      obtain ⟨q20, hk19, hr17⟩ := bd_elim hr17
      refine c_callV (pc := 68) 0 30 [.int w11.1] (by decide) (lt48 (by decide)) rfl dX0_goThrough_68 (kX0_withDraw hk19) stX0_137 ⟨by decide, by decide, by decide, by decide⟩ ⟨rfl, rfl⟩ (Nat.le_of_ble_eq_true rfl) ?_
      show Rn g mdX0_goThrough 71 [some (.ref 30), some (.int p0), some (.int v3), some (.int v6), some (.int w11.1), some (.int w11.2), none, none, none, none, none] [.int q20.1] (cW t q20.2) 0 0 none (cW t q)
      refine o_istore (pc := 71) dX0_goThrough_71 (by decide) rfl ?_
      show Rn g mdX0_goThrough 73 [some (.ref 30), some (.int p0), some (.int v3), some (.int v6), some (.int q20.1), some (.int w11.2), none, none, none, none, none] [] (cW t q20.2) 0 0 none (cW t q)
      refine o_aload_n (pc := 73) dX0_goThrough_73 rfl ?_
      refine o_iload (pc := 74) dX0_goThrough_74 rfl ?_
      obtain ⟨q22, hk21, hr17⟩ := bd_elim hr17
      refine c_callV (pc := 76) 0 30 [.int w11.2] (by decide) (lt48 (by decide)) rfl dX0_goThrough_76 (kX0_withDraw hk21) stX0_137 ⟨by decide, by decide, by decide, by decide⟩ ⟨rfl, rfl⟩ (Nat.le_of_ble_eq_true rfl) ?_
      show Rn g mdX0_goThrough 79 [some (.ref 30), some (.int p0), some (.int v3), some (.int v6), some (.int q20.1), some (.int w11.2), none, none, none, none, none] [.int q22.1] (cW t q22.2) 0 0 none (cW t q)
      refine o_istore (pc := 79) dX0_goThrough_79 (by decide) rfl ?_
      show Rn g mdX0_goThrough 81 [some (.ref 30), some (.int p0), some (.int v3), some (.int v6), some (.int q20.1), some (.int q22.1), none, none, none, none, none] [] (cW t q22.2) 0 0 none (cW t q)
      obtain rfl := Option.some.inj hr17
      exact K18
  clear hf
  refine o_icmp_ne (pc := 43) 58 dX0_goThrough_43 rfl (fun hc => ?_) (fun hc => ?_)
  · have hr12 := it_f hr12 hc
    obtain rfl := Option.some.inj hr12
    exact K13
  · have hr12 := it_t hr12 hc
    refine o_aload_n (pc := 46) dX0_goThrough_46 rfl ?_
    refine c_getI (pc := 47) 0 11 30 (by decide) (by decide) rfl (lt48 (by decide)) rfl lkX0_59 dX0_goThrough_47 ?_
    refine lz_i hr12 (fun v14 hr12 => ?_)
    refine o_istore (pc := 50) dX0_goThrough_50 (by decide) rfl ?_
    show Rn g mdX0_goThrough 52 [some (.ref 30), some (.int p0), some (.int v3), some (.int v6), some (.int v14), some (.int q10.1), none, none, none, none, none] [] (cW t q10.2) 0 0 none (cW t q)
    refine o_aload_n (pc := 52) dX0_goThrough_52 rfl ?_
    refine c_getI (pc := 53) 0 12 30 (by decide) (by decide) rfl (lt48 (by decide)) rfl lkX0_62 dX0_goThrough_53 ?_
    refine lz_i hr12 (fun v15 hr12 => ?_)
    refine o_istore (pc := 56) dX0_goThrough_56 (by decide) rfl ?_
    show Rn g mdX0_goThrough 58 [some (.ref 30), some (.int p0), some (.int v3), some (.int v6), some (.int v14), some (.int v15), none, none, none, none, none] [] (cW t q10.2) 0 0 none (cW t q)
    obtain rfl := Option.some.inj hr12
    exact K13
