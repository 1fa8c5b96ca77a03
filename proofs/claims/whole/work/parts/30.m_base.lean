def fX12_in (p0 : Int64) (p1 : Int64) (p2 : Int64) (s : ST) : Option (Int32) :=
  (if (lg_cmp p0 p1) < 0 then some false else if 0 < (lg_cmp p0 p2) then some false else some true : Option Bool).bind (fun b1 => (if b1 = true then some 1 else some 0 : Option (Int32)).bind (fun w4 => ck (bz w4) (some w4)))
set_option maxRecDepth 20000 in
theorem kX12_in {g : GX} {p0 : Int64} {p1 : Int64} {p2 : Int64} {s : ST} {q : Int32} (hf : fX12_in p0 p1 p2 s = some q) : Cn g mdX12_in [.long p0, .long p1, .long p2] (mW s) (some (.int q)) (mW s) := by
  refine Cn.of (by decide) (Nat.le_of_ble_eq_true rfl) ?_
  show Rn g mdX12_in 0 [some (.long p0), none, some (.long p1), none, some (.long p2), none] [] (mW s) 0 0 (some (.int q)) (mW s)
  unfold fX12_in at hf
  refine o_lload_n (pc := 0) dX12_in_0 rfl ?_
  refine o_lload_n (pc := 1) dX12_in_1 rfl ?_
  refine o_lcmp (pc := 2) dX12_in_2 ?_
  obtain ⟨b1, hr2, hf⟩ := bd_elim hf
  obtain ⟨w4, hr5, hf⟩ := bd_elim hf
  have K6 : Rn g mdX12_in 18 [none, none, none, none, none, none] [.int w4] (mW s) 0 0 (some (.int q)) (mW s) := by
    obtain ⟨hk7, hf⟩ := ck_elim hf
    obtain rfl := Option.some.inj hf
    exact o_zreturn (pc := 18) dX12_in_18 rfl (bz_n hk7).1 (Nat.zero_le _) (Nat.zero_le _)
  clear hf
  have KB3 : (b1 = true → Rn g mdX12_in 13 [some (.long p0), none, some (.long p1), none, some (.long p2), none] [] (mW s) 0 0 (some (.int q)) (mW s)) ∧ (¬ b1 = true → Rn g mdX12_in 17 [some (.long p0), none, some (.long p1), none, some (.long p2), none] [] (mW s) 0 0 (some (.int q)) (mW s)) := by
    refine ⟨fun hc => ?_, fun hc => ?_⟩
    · have hr5 := it_t hr5 hc
      refine o_iconst (pc := 13) (v := 1) dX12_in_13 rfl ?_
      refine o_goto (pc := 14) 18 dX12_in_14 rfl ?_
      obtain rfl := Option.some.inj hr5
      refine o_keep [false, false, false, false, false, false] ?_
      exact K6
    · have hr5 := it_f hr5 hc
      refine o_iconst (pc := 17) (v := 0) dX12_in_17 rfl ?_
      obtain rfl := Option.some.inj hr5
      refine o_keep [false, false, false, false, false, false] ?_
      exact K6
  clear hr5
  refine o_if_lt (pc := 3) 17 dX12_in_3 rfl (fun hc => ?_) (fun hc => ?_)
  · have hr2 := it_t hr2 hc
    obtain rfl := Option.some.inj hr2
    exact KB3.2 (by decide)
  · have hr2 := it_f hr2 hc
    refine o_lload_n (pc := 6) dX12_in_6 rfl ?_
    refine o_lload (pc := 7) dX12_in_7 rfl ?_
    refine o_lcmp (pc := 9) dX12_in_9 ?_
    refine o_if_gt (pc := 10) 17 dX12_in_10 rfl (fun hc => ?_) (fun hc => ?_)
    · have hr2 := it_t hr2 hc
      obtain rfl := Option.some.inj hr2
      exact KB3.2 (by decide)
    · have hr2 := it_f hr2 hc
      obtain rfl := Option.some.inj hr2
      exact KB3.1 rfl
def fX12_held (p0 : Int64) (p1 : Int32) (p2 : Int32) (s : ST) : Option (Int32) :=
  (if 0 ≤ (lg_cmp p0 p1.toInt64) then if (lg_cmp p0 p2.toInt64) ≤ 0 then some p0.toInt32 else some p2 else some p1 : Option (Int32)).bind (fun w1 => some w1)
set_option maxRecDepth 20000 in
theorem kX12_held {g : GX} {p0 : Int64} {p1 : Int32} {p2 : Int32} {s : ST} {q : Int32} (hf : fX12_held p0 p1 p2 s = some q) : Cn g mdX12_held [.long p0, .int p1, .int p2] (mW s) (some (.int q)) (mW s) := by
  refine Cn.of (by decide) (Nat.le_of_ble_eq_true rfl) ?_
  show Rn g mdX12_held 0 [some (.long p0), none, some (.int p1), some (.int p2)] [] (mW s) 0 0 (some (.int q)) (mW s)
  unfold fX12_held at hf
  refine o_lload_n (pc := 0) dX12_held_0 rfl ?_
  refine o_iload_n (pc := 1) dX12_held_1 rfl ?_
  refine o_i2l (pc := 2) dX12_held_2 ?_
  refine o_lcmp (pc := 3) dX12_held_3 ?_
  obtain ⟨w1, hr2, hf⟩ := bd_elim hf
  have K3 : Rn g mdX12_held 24 [none, none, none, none] [.int w1] (mW s) 0 0 (some (.int q)) (mW s) := by
    obtain rfl := Option.some.inj hf
    exact o_ireturn (pc := 24) dX12_held_24 rfl (Nat.zero_le _) (Nat.zero_le _)
  clear hf
  refine o_if_ge (pc := 4) 11 dX12_held_4 rfl (fun hc => ?_) (fun hc => ?_)
  · have hr2 := it_t hr2 hc
    refine o_lload_n (pc := 11) dX12_held_11 rfl ?_
    refine o_iload_n (pc := 12) dX12_held_12 rfl ?_
    refine o_i2l (pc := 13) dX12_held_13 ?_
    refine o_lcmp (pc := 14) dX12_held_14 ?_
    refine o_if_le (pc := 15) 22 dX12_held_15 rfl (fun hc => ?_) (fun hc => ?_)
    · have hr2 := it_t hr2 hc
      refine o_lload_n (pc := 22) dX12_held_22 rfl ?_
      refine o_l2i (pc := 23) dX12_held_23 ?_
      obtain rfl := Option.some.inj hr2
      refine o_keep [false, false, false, false] ?_
      exact K3
    · have hr2 := it_f hr2 hc
      refine o_iload_n (pc := 18) dX12_held_18 rfl ?_
      refine o_goto (pc := 19) 24 dX12_held_19 rfl ?_
      obtain rfl := Option.some.inj hr2
      refine o_keep [false, false, false, false] ?_
      exact K3
  · have hr2 := it_f hr2 hc
    refine o_iload_n (pc := 7) dX12_held_7 rfl ?_
    refine o_goto (pc := 8) 24 dX12_held_8 rfl ?_
    obtain rfl := Option.some.inj hr2
    refine o_keep [false, false, false, false] ?_
    exact K3
def fX12_has (p0 : Int32) (p1 : Int32) (s : ST) : Option (Int32) :=
  (if ((p0 >>> (p1 &&& 31)) &&& 1) = 1 then some 1 else some 0 : Option (Int32)).bind (fun w1 => ck (bz w1) (some w1))
set_option maxRecDepth 20000 in
theorem kX12_has {g : GX} {p0 : Int32} {p1 : Int32} {s : ST} {q : Int32} (hf : fX12_has p0 p1 s = some q) : Cn g mdX12_has [.int p0, .int p1] (mW s) (some (.int q)) (mW s) := by
  refine Cn.of (by decide) (Nat.le_of_ble_eq_true rfl) ?_
  show Rn g mdX12_has 0 [some (.int p0), some (.int p1)] [] (mW s) 0 0 (some (.int q)) (mW s)
  unfold fX12_has at hf
  refine o_iload_n (pc := 0) dX12_has_0 rfl ?_
  refine o_iload_n (pc := 1) dX12_has_1 rfl ?_
  refine o_ishr (pc := 2) dX12_has_2 ?_
  refine o_iconst (pc := 3) (v := 1) dX12_has_3 rfl ?_
  refine o_iand (pc := 4) dX12_has_4 ?_
  refine o_iconst (pc := 5) (v := 1) dX12_has_5 rfl ?_
  obtain ⟨w1, hr2, hf⟩ := bd_elim hf
  have K3 : Rn g mdX12_has 14 [none, none] [.int w1] (mW s) 0 0 (some (.int q)) (mW s) := by
    obtain ⟨hk4, hf⟩ := ck_elim hf
    obtain rfl := Option.some.inj hf
    exact o_zreturn (pc := 14) dX12_has_14 rfl (bz_n hk4).1 (Nat.zero_le _) (Nat.zero_le _)
  clear hf
  refine o_icmp_ne (pc := 6) 13 dX12_has_6 rfl (fun hc => ?_) (fun hc => ?_)
  · have hr2 := it_f hr2 hc
    refine o_iconst (pc := 13) (v := 0) dX12_has_13 rfl ?_
    obtain rfl := Option.some.inj hr2
    refine o_keep [false, false] ?_
    exact K3
  · have hr2 := it_t hr2 hc
    refine o_iconst (pc := 9) (v := 1) dX12_has_9 rfl ?_
    refine o_goto (pc := 10) 14 dX12_has_10 rfl ?_
    obtain rfl := Option.some.inj hr2
    refine o_keep [false, false] ?_
    exact K3
def fX12_isTown (s : ST) : Option (Int32) :=
  ck (inb 2 13) ((if (gi s 1 (ix 2)) ≤ 0 then some 0 else some 1 : Option (Int32)).bind (fun w2 => ck (bz w2) (some w2)))
set_option maxRecDepth 20000 in
theorem kX12_isTown {g : GX} {s : ST} {q : Int32} (hf : fX12_isTown s = some q) : Cn g mdX12_isTown [.ref 0] (mW s) (some (.int q)) (mW s) := by
  refine Cn.of (by decide) (Nat.le_of_ble_eq_true rfl) ?_
  show Rn g mdX12_isTown 0 [some (.ref 0)] [] (mW s) 0 0 (some (.int q)) (mW s)
  unfold fX12_isTown at hf
  refine o_aload_n (pc := 0) dX12_isTown_0 rfl ?_
  refine m_getA (pc := 1) 1 1 (by decide) rfl rfl lkX12_9 dX12_isTown_1 ?_
  refine o_iconst (pc := 4) (v := 2) dX12_isTown_4 rfl ?_
  obtain ⟨hk1, hf⟩ := ck_elim hf
  refine m_iald (pc := 5) (by decide) rfl hk1 dX12_isTown_5 ?_
  obtain ⟨w2, hr3, hf⟩ := bd_elim hf
  have K4 : Rn g mdX12_isTown 14 [none] [.int w2] (mW s) 0 0 (some (.int q)) (mW s) := by
    obtain ⟨hk5, hf⟩ := ck_elim hf
    obtain rfl := Option.some.inj hf
    exact o_zreturn (pc := 14) dX12_isTown_14 rfl (bz_n hk5).1 (Nat.zero_le _) (Nat.zero_le _)
  clear hf
  refine o_if_le (pc := 6) 13 dX12_isTown_6 rfl (fun hc => ?_) (fun hc => ?_)
  · have hr3 := it_t hr3 hc
    refine o_iconst (pc := 13) (v := 0) dX12_isTown_13 rfl ?_
    obtain rfl := Option.some.inj hr3
    refine o_keep [false] ?_
    exact K4
  · have hr3 := it_f hr3 hc
    refine o_iconst (pc := 9) (v := 1) dX12_isTown_9 rfl ?_
    refine o_goto (pc := 10) 14 dX12_isTown_10 rfl ?_
    obtain rfl := Option.some.inj hr3
    refine o_keep [false] ?_
    exact K4
def fX12_isPerson (p0 : Int32) (s : ST) : Option (Int32) :=
  ck (inb 3 13) ((fX12_in p0.toInt64 0 (((gi s 1 (ix 3)) - 1).toInt64) s).bind (fun q3 => ck (bz q3) (some q3)))
set_option maxRecDepth 20000 in
theorem kX12_isPerson {g : GX} {p0 : Int32} {s : ST} {q : Int32} (hf : fX12_isPerson p0 s = some q) : Cn g mdX12_isPerson [.ref 0, .int p0] (mW s) (some (.int q)) (mW s) := by
  refine Cn.of (by decide) (Nat.le_of_ble_eq_true rfl) ?_
  show Rn g mdX12_isPerson 0 [some (.ref 0), some (.int p0)] [] (mW s) 0 0 (some (.int q)) (mW s)
  unfold fX12_isPerson at hf
  refine o_iload_n (pc := 0) dX12_isPerson_0 rfl ?_
  refine o_i2l (pc := 1) dX12_isPerson_1 ?_
  refine o_lconst (pc := 2) (v := 0) dX12_isPerson_2 rfl ?_
  refine o_aload_n (pc := 3) dX12_isPerson_3 rfl ?_
  refine m_getA (pc := 4) 1 1 (by decide) rfl rfl lkX12_9 dX12_isPerson_4 ?_
  refine o_iconst (pc := 7) (v := 3) dX12_isPerson_7 rfl ?_
  obtain ⟨hk1, hf⟩ := ck_elim hf
  refine m_iald (pc := 8) (by decide) rfl hk1 dX12_isPerson_8 ?_
  refine o_iconst (pc := 9) (v := 1) dX12_isPerson_9 rfl ?_
  refine o_isub (pc := 10) dX12_isPerson_10 ?_
  refine o_i2l (pc := 11) dX12_isPerson_11 ?_
  obtain ⟨q3, hk2, hf⟩ := bd_elim hf
  refine m_callS (pc := 12) [.long p0.toInt64, .long 0, .long (((gi s 1 (ix 3)) - 1).toInt64)] dX12_isPerson_12 (kX12_in hk2) stX12_191 ⟨by decide, by decide, by decide, by decide⟩ ⟨rfl, rfl⟩ (Nat.le_of_ble_eq_true rfl) ?_
  show Rn g mdX12_isPerson 15 [some (.ref 0), some (.int p0)] [.int q3] (mW s) 0 0 (some (.int q)) (mW s)
  obtain ⟨hk4, hf⟩ := ck_elim hf
  obtain rfl := Option.some.inj hf
  exact o_zreturn (pc := 15) dX12_isPerson_15 rfl (bz_n hk4).1 (Nat.zero_le _) (Nat.zero_le _)
def fX12_isMeeting (p0 : Int32) (s : ST) : Option (Int32) :=
  ck (inb 4 13) ((fX12_in p0.toInt64 0 (((gi s 1 (ix 4)) - 1).toInt64) s).bind (fun q3 => ck (bz q3) (some q3)))
set_option maxRecDepth 20000 in
theorem kX12_isMeeting {g : GX} {p0 : Int32} {s : ST} {q : Int32} (hf : fX12_isMeeting p0 s = some q) : Cn g mdX12_isMeeting [.ref 0, .int p0] (mW s) (some (.int q)) (mW s) := by
  refine Cn.of (by decide) (Nat.le_of_ble_eq_true rfl) ?_
  show Rn g mdX12_isMeeting 0 [some (.ref 0), some (.int p0)] [] (mW s) 0 0 (some (.int q)) (mW s)
  unfold fX12_isMeeting at hf
  refine o_iload_n (pc := 0) dX12_isMeeting_0 rfl ?_
  refine o_i2l (pc := 1) dX12_isMeeting_1 ?_
  refine o_lconst (pc := 2) (v := 0) dX12_isMeeting_2 rfl ?_
  refine o_aload_n (pc := 3) dX12_isMeeting_3 rfl ?_
  refine m_getA (pc := 4) 1 1 (by decide) rfl rfl lkX12_9 dX12_isMeeting_4 ?_
  refine o_iconst (pc := 7) (v := 4) dX12_isMeeting_7 rfl ?_
  obtain ⟨hk1, hf⟩ := ck_elim hf
  refine m_iald (pc := 8) (by decide) rfl hk1 dX12_isMeeting_8 ?_
  refine o_iconst (pc := 9) (v := 1) dX12_isMeeting_9 rfl ?_
  refine o_isub (pc := 10) dX12_isMeeting_10 ?_
  refine o_i2l (pc := 11) dX12_isMeeting_11 ?_
  obtain ⟨q3, hk2, hf⟩ := bd_elim hf
  refine m_callS (pc := 12) [.long p0.toInt64, .long 0, .long (((gi s 1 (ix 4)) - 1).toInt64)] dX12_isMeeting_12 (kX12_in hk2) stX12_191 ⟨by decide, by decide, by decide, by decide⟩ ⟨rfl, rfl⟩ (Nat.le_of_ble_eq_true rfl) ?_
  show Rn g mdX12_isMeeting 15 [some (.ref 0), some (.int p0)] [.int q3] (mW s) 0 0 (some (.int q)) (mW s)
  obtain ⟨hk4, hf⟩ := ck_elim hf
  obtain rfl := Option.some.inj hf
  exact o_zreturn (pc := 15) dX12_isMeeting_15 rfl (bz_n hk4).1 (Nat.zero_le _) (Nat.zero_le _)
def fX12_isIn (p0 : Int32) (p1 : Int32) (s : ST) : Option (Int32) :=
  ck (inb p1 8) ((if (gi s 7 (ix p1)) = p0 then some true else ck (inb p1 8) (if (gi s 8 (ix p1)) = p0 then some true else some false) : Option Bool).bind (fun b2 => (if b2 = true then some 1 else some 0 : Option (Int32)).bind (fun w6 => ck (bz w6) (some w6))))
set_option maxRecDepth 20000 in
theorem kX12_isIn {g : GX} {p0 : Int32} {p1 : Int32} {s : ST} {q : Int32} (hf : fX12_isIn p0 p1 s = some q) : Cn g mdX12_isIn [.ref 0, .int p0, .int p1] (mW s) (some (.int q)) (mW s) := by
  refine Cn.of (by decide) (Nat.le_of_ble_eq_true rfl) ?_
  show Rn g mdX12_isIn 0 [some (.ref 0), some (.int p0), some (.int p1)] [] (mW s) 0 0 (some (.int q)) (mW s)
  unfold fX12_isIn at hf
  refine o_aload_n (pc := 0) dX12_isIn_0 rfl ?_
  refine m_getA (pc := 1) 7 7 (by decide) rfl rfl lkX12_28 dX12_isIn_1 ?_
  refine o_iload_n (pc := 4) dX12_isIn_4 rfl ?_
  obtain ⟨hk1, hf⟩ := ck_elim hf
  refine m_iald (pc := 5) (by decide) rfl hk1 dX12_isIn_5 ?_
  refine o_iload_n (pc := 6) dX12_isIn_6 rfl ?_
  obtain ⟨b2, hr3, hf⟩ := bd_elim hf
  obtain ⟨w6, hr7, hf⟩ := bd_elim hf
  have K8 : Rn g mdX12_isIn 25 [none, none, none] [.int w6] (mW s) 0 0 (some (.int q)) (mW s) := by
    obtain ⟨hk9, hf⟩ := ck_elim hf
    obtain rfl := Option.some.inj hf
    exact o_zreturn (pc := 25) dX12_isIn_25 rfl (bz_n hk9).1 (Nat.zero_le _) (Nat.zero_le _)
  clear hf
  have KB4 : (b2 = true → Rn g mdX12_isIn 20 [some (.ref 0), some (.int p0), some (.int p1)] [] (mW s) 0 0 (some (.int q)) (mW s)) ∧ (¬ b2 = true → Rn g mdX12_isIn 24 [some (.ref 0), some (.int p0), some (.int p1)] [] (mW s) 0 0 (some (.int q)) (mW s)) := by
    refine ⟨fun hc => ?_, fun hc => ?_⟩
    · have hr7 := it_t hr7 hc
      refine o_iconst (pc := 20) (v := 1) dX12_isIn_20 rfl ?_
      refine o_goto (pc := 21) 25 dX12_isIn_21 rfl ?_
      obtain rfl := Option.some.inj hr7
      refine o_keep [false, false, false] ?_
      exact K8
    · have hr7 := it_f hr7 hc
      refine o_iconst (pc := 24) (v := 0) dX12_isIn_24 rfl ?_
      obtain rfl := Option.some.inj hr7
      refine o_keep [false, false, false] ?_
      exact K8
  clear hr7
  refine o_icmp_eq (pc := 7) 20 dX12_isIn_7 rfl (fun hc => ?_) (fun hc => ?_)
  · have hr3 := it_t hr3 hc
    obtain rfl := Option.some.inj hr3
    exact KB4.1 rfl
  · have hr3 := it_f hr3 hc
    refine o_aload_n (pc := 10) dX12_isIn_10 rfl ?_
    refine m_getA (pc := 11) 8 8 (by decide) rfl rfl lkX12_31 dX12_isIn_11 ?_
    refine o_iload_n (pc := 14) dX12_isIn_14 rfl ?_
    obtain ⟨hk5, hr3⟩ := ck_elim hr3
    refine m_iald (pc := 15) (by decide) rfl hk5 dX12_isIn_15 ?_
    refine o_iload_n (pc := 16) dX12_isIn_16 rfl ?_
    refine o_icmp_ne (pc := 17) 24 dX12_isIn_17 rfl (fun hc => ?_) (fun hc => ?_)
    · have hr3 := it_f hr3 hc
      obtain rfl := Option.some.inj hr3
      exact KB4.2 (by decide)
    · have hr3 := it_t hr3 hc
      obtain rfl := Option.some.inj hr3
      exact KB4.1 rfl
def fX12_put_L3 (a1 : Int32) : Nat → Int32 → ST → Option (Int32 × ST)
  | 0, _, _ => none
  | n + 1, x2, s => if x2 < 0 then some (x2, s) else ck (inb (gi s 0 26) 400) (lt (si s 26 (ix (gi s 0 26)) ((a1 >>> (x2 &&& 31)).toInt8.toInt32).toInt8.toInt32) (fun s2 => lt (si s2 0 26 ((gi s2 0 26) + 1)) (fun s3 => lt (x2 + (-8)) (fun v4 => fX12_put_L3 a1 n v4 s3))))
def fX12_put (p0 : Int32) (s : ST) : Option (ST) :=
  (fX12_put_L3 p0 FUEL 24 s).bind (fun w5 => some w5.2)
set_option maxRecDepth 20000 in
theorem kX12_put_L3 {g : GX} (a1 : Int32) {r : Option Value} {h2 : PH} : ∀ (n : Nat) (x2 : Int32) (s : ST) {w : Int32 × ST}, fX12_put_L3 a1 n x2 s = some w → Rn g mdX12_put 36 [none, none, none] [] (mW w.2) 0 0 r h2 → Rn g mdX12_put 3 [some (.ref 0), some (.int a1), some (.int x2)] [] (mW s) 0 0 r h2 := by
  intro n
  induction n with
  | zero => intro x2 s w hf K; cases hf
  | succ n ih =>
    intro x2 s w hf K
    rw [fX12_put_L3] at hf
    refine o_iload_n (pc := 3) dX12_put_3 rfl ?_
    refine o_if_lt (pc := 4) 36 dX12_put_4 rfl (fun hc => ?_) (fun hc => ?_)
    · have hf := it_t hf hc
      obtain rfl := Option.some.inj hf
      refine o_keep [false, false, false] ?_
      exact K
    · have hf := it_f hf hc
      refine o_aload_n (pc := 7) dX12_put_7 rfl ?_
      refine m_getA (pc := 8) 36 26 (by decide) rfl rfl lkX12_89 dX12_put_8 ?_
      refine o_aload_n (pc := 11) dX12_put_11 rfl ?_
      refine m_getI (pc := 12) 26 (by decide) rfl lkX12_195 dX12_put_12 ?_
      refine o_iload_n (pc := 15) dX12_put_15 rfl ?_
      refine o_iload_n (pc := 16) dX12_put_16 rfl ?_
      refine o_ishr (pc := 17) dX12_put_17 ?_
      refine o_i2b (pc := 18) dX12_put_18 ?_
      obtain ⟨hk1, hf⟩ := ck_elim hf
      refine m_bast (pc := 19) (by decide) rfl hk1 dX12_put_19 ?_
      refine lz_s (mW) hf (fun s2 hf => ?_)
      show Rn g mdX12_put 20 [some (.ref 0), some (.int a1), some (.int x2)] [] (mW s2) 0 0 r h2
      refine o_aload_n (pc := 20) dX12_put_20 rfl ?_
      refine o_dup (pc := 21) dX12_put_21 rfl ?_
      refine m_getI (pc := 22) 26 (by decide) rfl lkX12_195 dX12_put_22 ?_
      refine o_iconst (pc := 25) (v := 1) dX12_put_25 rfl ?_
      refine o_iadd (pc := 26) dX12_put_26 ?_
      refine m_putI (pc := 27) 26 (by decide) rfl rfl lkX12_195 ⟨rfl, rfl⟩ dX12_put_27 ?_
      refine lz_s (mW) hf (fun s3 hf => ?_)
      show Rn g mdX12_put 30 [some (.ref 0), some (.int a1), some (.int x2)] [] (mW s3) 0 0 r h2
      refine o_iinc (pc := 30) dX12_put_30 rfl (by decide) rfl ?_
      show Rn g mdX12_put 33 [some (.ref 0), some (.int a1), some (.int (x2 + (-8)))] [] (mW s3) 0 0 r h2
      obtain ⟨v4, ev4, hf⟩ := lt_elim hf
      rw [ev4]
      show Rn g mdX12_put 33 [some (.ref 0), some (.int a1), some (.int v4)] [] (mW s3) 0 0 r h2
      refine o_goto (pc := 33) 3 dX12_put_33 rfl ?_
      exact ih _ _ hf K
set_option maxRecDepth 20000 in
theorem kX12_put {g : GX} {p0 : Int32} {s : ST} {q : ST} (hf : fX12_put p0 s = some q) : Cn g mdX12_put [.ref 0, .int p0] (mW s) none (mW q) := by
  refine Cn.of (by decide) (Nat.le_of_ble_eq_true rfl) ?_
  show Rn g mdX12_put 0 [some (.ref 0), some (.int p0), none] [] (mW s) 0 0 none (mW q)
  unfold fX12_put at hf
  refine o_bipush (pc := 0) (v := 24) dX12_put_0 rfl ?_
  refine o_istore_n (pc := 2) dX12_put_2 (by decide) rfl ?_
  show Rn g mdX12_put 3 [some (.ref 0), some (.int p0), some (.int 24)] [] (mW s) 0 0 none (mW q)
  obtain ⟨w5, hl6, hf⟩ := bd_elim hf
  have K7 : Rn g mdX12_put 36 [none, none, none] [] (mW w5.2) 0 0 none (mW q) := by
    obtain rfl := Option.some.inj hf
    exact o_return (pc := 36) dX12_put_36 rfl (Nat.zero_le _) (Nat.zero_le _)
  exact kX12_put_L3 _ _ _ _ hl6 K7
def fX12_feed (p0 : Int32) (p1 : Int32) (p2 : Int32) (p3 : Int32) (p4 : Int32) (s : ST) : Option (Int32 × ST) :=
  if ((gi s 0 26) + 20) ≤ 400 then (fX12_put p0 s).bind (fun q2 => (fX12_put p1 q2).bind (fun q4 => (fX12_put p2 q4).bind (fun q6 => (fX12_put p3 q6).bind (fun q8 => (fX12_put p4 q8).bind (fun q10 => some (gi q10 0 26, q10)))))) else some ((-1), s)
set_option maxRecDepth 20000 in
theorem kX12_feed {g : GX} {p0 : Int32} {p1 : Int32} {p2 : Int32} {p3 : Int32} {p4 : Int32} {s : ST} {q : Int32 × ST} (hf : fX12_feed p0 p1 p2 p3 p4 s = some q) : Cn g mdX12_feed [.ref 0, .int p0, .int p1, .int p2, .int p3, .int p4] (mW s) (some (.int q.1)) (mW q.2) := by
  refine Cn.of (by decide) (Nat.le_of_ble_eq_true rfl) ?_
  show Rn g mdX12_feed 0 [some (.ref 0), some (.int p0), some (.int p1), some (.int p2), some (.int p3), some (.int p4)] [] (mW s) 0 0 (some (.int q.1)) (mW q.2)
  unfold fX12_feed at hf
  refine o_aload_n (pc := 0) dX12_feed_0 rfl ?_
  refine m_getI (pc := 1) 26 (by decide) rfl lkX12_195 dX12_feed_1 ?_
  refine o_bipush (pc := 4) (v := 20) dX12_feed_4 rfl ?_
  refine o_iadd (pc := 6) dX12_feed_6 ?_
  refine o_sipush (pc := 7) (v := 400) dX12_feed_7 rfl ?_
  refine o_icmp_le (pc := 10) 15 dX12_feed_10 rfl (fun hc => ?_) (fun hc => ?_)
  · have hf := it_t hf hc
    refine o_aload_n (pc := 15) dX12_feed_15 rfl ?_
    refine o_iload_n (pc := 16) dX12_feed_16 rfl ?_
    obtain ⟨q2, hk1, hf⟩ := bd_elim hf
    refine m_callV (pc := 17) [.int p0] dX12_feed_17 (kX12_put hk1) stX12_198 ⟨by decide, by decide, by decide, by decide⟩ ⟨rfl, rfl⟩ (Nat.le_of_ble_eq_true rfl) ?_
    show Rn g mdX12_feed 20 [some (.ref 0), some (.int p0), some (.int p1), some (.int p2), some (.int p3), some (.int p4)] [] (mW q2) 0 0 (some (.int q.1)) (mW q.2)
    refine o_aload_n (pc := 20) dX12_feed_20 rfl ?_
    refine o_iload_n (pc := 21) dX12_feed_21 rfl ?_
    obtain ⟨q4, hk3, hf⟩ := bd_elim hf
    refine m_callV (pc := 22) [.int p1] dX12_feed_22 (kX12_put hk3) stX12_198 ⟨by decide, by decide, by decide, by decide⟩ ⟨rfl, rfl⟩ (Nat.le_of_ble_eq_true rfl) ?_
    show Rn g mdX12_feed 25 [some (.ref 0), some (.int p0), some (.int p1), some (.int p2), some (.int p3), some (.int p4)] [] (mW q4) 0 0 (some (.int q.1)) (mW q.2)
    refine o_aload_n (pc := 25) dX12_feed_25 rfl ?_
    refine o_iload_n (pc := 26) dX12_feed_26 rfl ?_
    obtain ⟨q6, hk5, hf⟩ := bd_elim hf
    refine m_callV (pc := 27) [.int p2] dX12_feed_27 (kX12_put hk5) stX12_198 ⟨by decide, by decide, by decide, by decide⟩ ⟨rfl, rfl⟩ (Nat.le_of_ble_eq_true rfl) ?_
    show Rn g mdX12_feed 30 [some (.ref 0), some (.int p0), some (.int p1), some (.int p2), some (.int p3), some (.int p4)] [] (mW q6) 0 0 (some (.int q.1)) (mW q.2)
    refine o_aload_n (pc := 30) dX12_feed_30 rfl ?_
    refine o_iload (pc := 31) dX12_feed_31 rfl ?_
    obtain ⟨q8, hk7, hf⟩ := bd_elim hf
    refine m_callV (pc := 33) [.int p3] dX12_feed_33 (kX12_put hk7) stX12_198 ⟨by decide, by decide, by decide, by decide⟩ ⟨rfl, rfl⟩ (Nat.le_of_ble_eq_true rfl) ?_
    show Rn g mdX12_feed 36 [some (.ref 0), some (.int p0), some (.int p1), some (.int p2), some (.int p3), some (.int p4)] [] (mW q8) 0 0 (some (.int q.1)) (mW q.2)
    refine o_aload_n (pc := 36) dX12_feed_36 rfl ?_
    refine o_iload (pc := 37) dX12_feed_37 rfl ?_
    obtain ⟨q10, hk9, hf⟩ := bd_elim hf
    refine m_callV (pc := 39) [.int p4] dX12_feed_39 (kX12_put hk9) stX12_198 ⟨by decide, by decide, by decide, by decide⟩ ⟨rfl, rfl⟩ (Nat.le_of_ble_eq_true rfl) ?_
    show Rn g mdX12_feed 42 [some (.ref 0), some (.int p0), some (.int p1), some (.int p2), some (.int p3), some (.int p4)] [] (mW q10) 0 0 (some (.int q.1)) (mW q.2)
    refine o_aload_n (pc := 42) dX12_feed_42 rfl ?_
    refine m_getI (pc := 43) 26 (by decide) rfl lkX12_195 dX12_feed_43 ?_
    obtain rfl := Option.some.inj hf
    exact o_ireturn (pc := 46) dX12_feed_46 rfl (Nat.zero_le _) (Nat.zero_le _)
  · have hf := it_f hf hc
    refine o_iconst (pc := 13) (v := (-1)) dX12_feed_13 rfl ?_
    obtain rfl := Option.some.inj hf
    exact o_ireturn (pc := 14) dX12_feed_14 rfl (Nat.zero_le _) (Nat.zero_le _)
def fX12_end (p0 : Int32) (s : ST) : Option (Int32 × ST) :=
  (if p0 < 0 then some true else if p0 ≤ (gi s 0 26) then some false else some true : Option Bool).bind (fun b1 => if b1 = true then some ((-1), s) else lt (si s 0 26 p0) (fun s4 => some (p0, s4)))
set_option maxRecDepth 20000 in
theorem kX12_end {g : GX} {p0 : Int32} {s : ST} {q : Int32 × ST} (hf : fX12_end p0 s = some q) : Cn g mdX12_end [.ref 0, .int p0] (mW s) (some (.int q.1)) (mW q.2) := by
  refine Cn.of (by decide) (Nat.le_of_ble_eq_true rfl) ?_
  show Rn g mdX12_end 0 [some (.ref 0), some (.int p0)] [] (mW s) 0 0 (some (.int q.1)) (mW q.2)
  unfold fX12_end at hf
  refine o_iload_n (pc := 0) dX12_end_0 rfl ?_
  obtain ⟨b1, hr2, hf⟩ := bd_elim hf
  have KB3 : (b1 = true → Rn g mdX12_end 12 [some (.ref 0), some (.int p0)] [] (mW s) 0 0 (some (.int q.1)) (mW q.2)) ∧ (¬ b1 = true → Rn g mdX12_end 14 [some (.ref 0), some (.int p0)] [] (mW s) 0 0 (some (.int q.1)) (mW q.2)) := by
    refine ⟨fun hc => ?_, fun hc => ?_⟩
    · have hf := it_t hf hc
      refine o_iconst (pc := 12) (v := (-1)) dX12_end_12 rfl ?_
      obtain rfl := Option.some.inj hf
      exact o_ireturn (pc := 13) dX12_end_13 rfl (Nat.zero_le _) (Nat.zero_le _)
    · have hf := it_f hf hc
      refine o_aload_n (pc := 14) dX12_end_14 rfl ?_
      refine o_iload_n (pc := 15) dX12_end_15 rfl ?_
      refine m_putI (pc := 16) 26 (by decide) rfl rfl lkX12_195 ⟨rfl, rfl⟩ dX12_end_16 ?_
      refine lz_s (mW) hf (fun s4 hf => ?_)
      show Rn g mdX12_end 19 [some (.ref 0), some (.int p0)] [] (mW s4) 0 0 (some (.int q.1)) (mW q.2)
      refine o_iload_n (pc := 19) dX12_end_19 rfl ?_
      obtain rfl := Option.some.inj hf
      exact o_ireturn (pc := 20) dX12_end_20 rfl (Nat.zero_le _) (Nat.zero_le _)
  clear hf
  refine o_if_lt (pc := 1) 12 dX12_end_1 rfl (fun hc => ?_) (fun hc => ?_)
  · have hr2 := it_t hr2 hc
    obtain rfl := Option.some.inj hr2
    exact KB3.1 rfl
  · have hr2 := it_f hr2 hc
    refine o_iload_n (pc := 4) dX12_end_4 rfl ?_
    refine o_aload_n (pc := 5) dX12_end_5 rfl ?_
    refine m_getI (pc := 6) 26 (by decide) rfl lkX12_195 dX12_end_6 ?_
    refine o_icmp_le (pc := 9) 14 dX12_end_9 rfl (fun hc => ?_) (fun hc => ?_)
    · have hr2 := it_t hr2 hc
      obtain rfl := Option.some.inj hr2
      exact KB3.2 (by decide)
    · have hr2 := it_f hr2 hc
      obtain rfl := Option.some.inj hr2
      exact KB3.1 rfl
def fX12_fails (p0 : Int32) (p1 : Int32) (s : ST) : Option (ST) :=
  (if (gi s 0 28) = 0 then some ((1 + (8 * p1)) + p0) else some (gi s 0 28) : Option (Int32)).bind (fun w1 => lt (si s 0 28 w1) (fun s4 => some s4))
set_option maxRecDepth 20000 in
theorem kX12_fails {g : GX} {p0 : Int32} {p1 : Int32} {s : ST} {q : ST} (hf : fX12_fails p0 p1 s = some q) : Cn g mdX12_fails [.ref 0, .int p0, .int p1] (mW s) none (mW q) := by
  refine Cn.of (by decide) (Nat.le_of_ble_eq_true rfl) ?_
  show Rn g mdX12_fails 0 [some (.ref 0), some (.int p0), some (.int p1)] [] (mW s) 0 0 none (mW q)
  unfold fX12_fails at hf
  refine o_aload_n (pc := 0) dX12_fails_0 rfl ?_
  refine o_aload_n (pc := 1) dX12_fails_1 rfl ?_
  refine m_getI (pc := 2) 28 (by decide) rfl lkX12_224 dX12_fails_2 ?_
  obtain ⟨w1, hr2, hf⟩ := bd_elim hf
  have K3 : Rn g mdX12_fails 23 [none, none, none] [.int w1, .ref 0] (mW s) 0 0 none (mW q) := by
    refine m_putI (pc := 23) 28 (by decide) rfl rfl lkX12_224 ⟨rfl, rfl⟩ dX12_fails_23 ?_
    refine lz_s (mW) hf (fun s4 hf => ?_)
    show Rn g mdX12_fails 26 [none, none, none] [] (mW s4) 0 0 none (mW q)
    obtain rfl := Option.some.inj hf
    exact o_return (pc := 26) dX12_fails_26 rfl (Nat.zero_le _) (Nat.zero_le _)
  clear hf
  refine o_if_ne (pc := 5) 19 dX12_fails_5 rfl (fun hc => ?_) (fun hc => ?_)
  · have hr2 := it_f hr2 hc
    refine o_aload_n (pc := 19) dX12_fails_19 rfl ?_
    refine m_getI (pc := 20) 28 (by decide) rfl lkX12_224 dX12_fails_20 ?_
    obtain rfl := Option.some.inj hr2
    refine o_keep [false, false, false] ?_
    exact K3
  · have hr2 := it_t hr2 hc
    refine o_iconst (pc := 8) (v := 1) dX12_fails_8 rfl ?_
    refine o_bipush (pc := 9) (v := 8) dX12_fails_9 rfl ?_
    refine o_iload_n (pc := 11) dX12_fails_11 rfl ?_
    refine o_imul (pc := 12) dX12_fails_12 ?_
    refine o_iadd (pc := 13) dX12_fails_13 ?_
    refine o_iload_n (pc := 14) dX12_fails_14 rfl ?_
    refine o_iadd (pc := 15) dX12_fails_15 ?_
    refine o_goto (pc := 16) 23 dX12_fails_16 rfl ?_
    obtain rfl := Option.some.inj hr2
    refine o_keep [false, false, false] ?_
    exact K3
def fX12_sign (s : ST) : Option (Int32) :=
  (if (gi s 0 26) ≤ (gi s 0 27) then some (-1) else ck (inb (gi s 0 27) 400) (some ((gi s 26 (ix (gi s 0 27))) &&& 255)) : Option (Int32)).bind (fun w1 => some w1)
set_option maxRecDepth 20000 in
theorem kX12_sign {g : GX} {s : ST} {q : Int32} (hf : fX12_sign s = some q) : Cn g mdX12_sign [.ref 0] (mW s) (some (.int q)) (mW s) := by
  refine Cn.of (by decide) (Nat.le_of_ble_eq_true rfl) ?_
  show Rn g mdX12_sign 0 [some (.ref 0)] [] (mW s) 0 0 (some (.int q)) (mW s)
  unfold fX12_sign at hf
  refine o_aload_n (pc := 0) dX12_sign_0 rfl ?_
  refine m_getI (pc := 1) 27 (by decide) rfl lkX12_227 dX12_sign_1 ?_
  refine o_aload_n (pc := 4) dX12_sign_4 rfl ?_
  refine m_getI (pc := 5) 26 (by decide) rfl lkX12_195 dX12_sign_5 ?_
  obtain ⟨w1, hr2, hf⟩ := bd_elim hf
  have K3 : Rn g mdX12_sign 28 [none] [.int w1] (mW s) 0 0 (some (.int q)) (mW s) := by
    obtain rfl := Option.some.inj hf
    exact o_ireturn (pc := 28) dX12_sign_28 rfl (Nat.zero_le _) (Nat.zero_le _)
  clear hf
  refine o_icmp_ge (pc := 8) 27 dX12_sign_8 rfl (fun hc => ?_) (fun hc => ?_)
  · have hr2 := it_t hr2 hc
    refine o_iconst (pc := 27) (v := (-1)) dX12_sign_27 rfl ?_
    obtain rfl := Option.some.inj hr2
    refine o_keep [false] ?_
    exact K3
  · have hr2 := it_f hr2 hc
    refine o_aload_n (pc := 11) dX12_sign_11 rfl ?_
    refine m_getA (pc := 12) 36 26 (by decide) rfl rfl lkX12_89 dX12_sign_12 ?_
    refine o_aload_n (pc := 15) dX12_sign_15 rfl ?_
    refine m_getI (pc := 16) 27 (by decide) rfl lkX12_227 dX12_sign_16 ?_
    obtain ⟨hk4, hr2⟩ := ck_elim hr2
    refine m_bald (pc := 19) (by decide) rfl hk4 dX12_sign_19 ?_
    refine o_sipush (pc := 20) (v := 255) dX12_sign_20 rfl ?_
    refine o_iand (pc := 23) dX12_sign_23 ?_
    refine o_goto (pc := 24) 28 dX12_sign_24 rfl ?_
    obtain rfl := Option.some.inj hr2
    refine o_keep [false] ?_
    exact K3
def fX12_blanks_L0 : Nat → ST → Option (ST)
  | 0, _ => none
  | n + 1, s => (fX12_sign s).bind (fun q2 => if q2 = 32 then lt (si s 0 27 ((gi s 0 27) + 1)) (fun s3 => fX12_blanks_L0 n s3) else some s)
def fX12_blanks (s : ST) : Option (ST) :=
  (fX12_blanks_L0 FUEL s).bind (fun w4 => some w4)
set_option maxRecDepth 20000 in
theorem kX12_blanks_L0 {g : GX} {r : Option Value} {h2 : PH} : ∀ (n : Nat) (s : ST) {w : ST}, fX12_blanks_L0 n s = some w → Rn g mdX12_blanks 22 [none] [] (mW w) 0 0 r h2 → Rn g mdX12_blanks 0 [some (.ref 0)] [] (mW s) 0 0 r h2 := by
  intro n
  induction n with
  | zero => intro s w hf K; cases hf
  | succ n ih =>
    intro s w hf K
    rw [fX12_blanks_L0] at hf
    refine o_aload_n (pc := 0) dX12_blanks_0 rfl ?_
    obtain ⟨q2, hk1, hf⟩ := bd_elim hf
    refine m_callV (pc := 1) [] dX12_blanks_1 (kX12_sign hk1) stX12_230 ⟨by decide, by decide, by decide, by decide⟩ ⟨rfl, rfl⟩ (Nat.le_of_ble_eq_true rfl) ?_
    show Rn g mdX12_blanks 4 [some (.ref 0)] [.int q2] (mW s) 0 0 r h2
    refine o_bipush (pc := 4) (v := 32) dX12_blanks_4 rfl ?_
    refine o_icmp_ne (pc := 6) 22 dX12_blanks_6 rfl (fun hc => ?_) (fun hc => ?_)
    · have hf := it_f hf hc
      obtain rfl := Option.some.inj hf
      refine o_keep [false] ?_
      exact K
    · have hf := it_t hf hc
      refine o_aload_n (pc := 9) dX12_blanks_9 rfl ?_
      refine o_dup (pc := 10) dX12_blanks_10 rfl ?_
      refine m_getI (pc := 11) 27 (by decide) rfl lkX12_227 dX12_blanks_11 ?_
      refine o_iconst (pc := 14) (v := 1) dX12_blanks_14 rfl ?_
      refine o_iadd (pc := 15) dX12_blanks_15 ?_
      refine m_putI (pc := 16) 27 (by decide) rfl rfl lkX12_227 ⟨rfl, rfl⟩ dX12_blanks_16 ?_
      refine lz_s (mW) hf (fun s3 hf => ?_)
      show Rn g mdX12_blanks 19 [some (.ref 0)] [] (mW s3) 0 0 r h2
      refine o_goto (pc := 19) 0 dX12_blanks_19 rfl ?_
      exact ih _ hf K
set_option maxRecDepth 20000 in
theorem kX12_blanks {g : GX} {s : ST} {q : ST} (hf : fX12_blanks s = some q) : Cn g mdX12_blanks [.ref 0] (mW s) none (mW q) := by
  refine Cn.of (by decide) (Nat.le_of_ble_eq_true rfl) ?_
  show Rn g mdX12_blanks 0 [some (.ref 0)] [] (mW s) 0 0 none (mW q)
  unfold fX12_blanks at hf
  obtain ⟨w4, hl5, hf⟩ := bd_elim hf
  have K6 : Rn g mdX12_blanks 22 [none] [] (mW w4) 0 0 none (mW q) := by
    obtain rfl := Option.some.inj hf
    exact o_return (pc := 22) dX12_blanks_22 rfl (Nat.zero_le _) (Nat.zero_le _)
  exact kX12_blanks_L0 _ _ hl5 K6
def fX12_isDigit (s : ST) : Option (Int32) :=
  (fX12_sign s).bind (fun q2 => (fX12_in q2.toInt64 48 57 s).bind (fun q4 => ck (bz q4) (some q4)))
set_option maxRecDepth 20000 in
theorem kX12_isDigit {g : GX} {s : ST} {q : Int32} (hf : fX12_isDigit s = some q) : Cn g mdX12_isDigit [.ref 0] (mW s) (some (.int q)) (mW s) := by
  refine Cn.of (by decide) (Nat.le_of_ble_eq_true rfl) ?_
  show Rn g mdX12_isDigit 0 [some (.ref 0)] [] (mW s) 0 0 (some (.int q)) (mW s)
  unfold fX12_isDigit at hf
  refine o_aload_n (pc := 0) dX12_isDigit_0 rfl ?_
  obtain ⟨q2, hk1, hf⟩ := bd_elim hf
  refine m_callV (pc := 1) [] dX12_isDigit_1 (kX12_sign hk1) stX12_230 ⟨by decide, by decide, by decide, by decide⟩ ⟨rfl, rfl⟩ (Nat.le_of_ble_eq_true rfl) ?_
  show Rn g mdX12_isDigit 4 [some (.ref 0)] [.int q2] (mW s) 0 0 (some (.int q)) (mW s)
  refine o_i2l (pc := 4) dX12_isDigit_4 ?_
  refine o_ldc2 (pc := 5) dX12_isDigit_5 lcX12_234 ?_
  refine o_ldc2 (pc := 8) dX12_isDigit_8 lcX12_236 ?_
  obtain ⟨q4, hk3, hf⟩ := bd_elim hf
  refine m_callS (pc := 11) [.long q2.toInt64, .long 48, .long 57] dX12_isDigit_11 (kX12_in hk3) stX12_191 ⟨by decide, by decide, by decide, by decide⟩ ⟨rfl, rfl⟩ (Nat.le_of_ble_eq_true rfl) ?_
  show Rn g mdX12_isDigit 14 [some (.ref 0)] [.int q4] (mW s) 0 0 (some (.int q)) (mW s)
  obtain ⟨hk5, hf⟩ := ck_elim hf
  obtain rfl := Option.some.inj hf
  exact o_zreturn (pc := 14) dX12_isDigit_14 rfl (bz_n hk5).1 (Nat.zero_le _) (Nat.zero_le _)
