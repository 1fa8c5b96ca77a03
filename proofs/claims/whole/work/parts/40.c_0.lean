def fX6_append_L3 (a1 : Int32) : Nat → Int32 → ST → Option (Int32 × ST)
  | 0, _, _ => none
  | n + 1, x2, s => (if x2 < 0 then some false else if 400 ≤ (gi s 1 1) then some false else some true : Option Bool).bind (fun b1 => if b1 = true then ck (inb (gi s 1 1) 400) (lt (si s 2 (ix (gi s 1 1)) (((Int32.toUInt32 a1 >>> (Int32.toUInt32 x2 &&& Int32.toUInt32 31)).toInt32) &&& 255)) (fun s5 => lt (si s5 1 1 ((gi s5 1 1) + 1)) (fun s6 => lt (x2 + (-8)) (fun v7 => fX6_append_L3 a1 n v7 s6)))) else some (x2, s))
def fX6_append (p0 : Int32) (s : ST) : Option (ST) :=
  (fX6_append_L3 p0 FUEL 24 s).bind (fun w8 => some w8.2)
set_option maxRecDepth 20000 in
theorem kX6_append_L3 {g : GX} {t : PH} (a1 : Int32) {r : Option Value} {h2 : PH} : ∀ (n : Nat) (x2 : Int32) (s : ST) {w : Int32 × ST}, fX6_append_L3 a1 n x2 s = some w → Rn g mdX6_append 49 [none, none, none] [] (cW t w.2) 0 0 r h2 → Rn g mdX6_append 3 [some (.ref 1), some (.int a1), some (.int x2)] [] (cW t s) 0 0 r h2 := by
  intro n
  induction n with
  | zero => intro x2 s w hf K; cases hf
  | succ n ih =>
    intro x2 s w hf K
    rw [fX6_append_L3] at hf
    refine o_iload_n (pc := 3) dX6_append_3 rfl ?_
    obtain ⟨b1, hr2, hf⟩ := bd_elim hf
    have KB3 : (b1 = true → Rn g mdX6_append 17 [some (.ref 1), some (.int a1), some (.int x2)] [] (cW t s) 0 0 r h2) ∧ (¬ b1 = true → Rn g mdX6_append 49 [some (.ref 1), some (.int a1), some (.int x2)] [] (cW t s) 0 0 r h2) := by
      refine ⟨fun hc => ?_, fun hc => ?_⟩
      · have hf := it_t hf hc
        refine o_aload_n (pc := 17) dX6_append_17 rfl ?_
        refine c_getR (pc := 18) 5 0 1 2 (by decide) (by decide) rfl (lt48 (by decide)) rfl rfl lkX6_9 dX6_append_18 ?_
        refine o_aload_n (pc := 21) dX6_append_21 rfl ?_
        refine c_getI (pc := 22) 5 1 1 (by decide) (by decide) rfl (lt48 (by decide)) rfl lkX6_15 dX6_append_22 ?_
        refine o_iload_n (pc := 25) dX6_append_25 rfl ?_
        refine o_iload_n (pc := 26) dX6_append_26 rfl ?_
        refine o_iushr (pc := 27) dX6_append_27 ?_
        refine o_sipush (pc := 28) (v := 255) dX6_append_28 rfl ?_
        refine o_iand (pc := 31) dX6_append_31 ?_
        obtain ⟨hk4, hf⟩ := ck_elim hf
        refine c_iast (pc := 32) (lt48 (by decide)) rfl hk4 dX6_append_32 ?_
        refine lz_s (cW t) hf (fun s5 hf => ?_)
        show Rn g mdX6_append 33 [some (.ref 1), some (.int a1), some (.int x2)] [] (cW t s5) 0 0 r h2
        refine o_aload_n (pc := 33) dX6_append_33 rfl ?_
        refine o_dup (pc := 34) dX6_append_34 rfl ?_
        refine c_getI (pc := 35) 5 1 1 (by decide) (by decide) rfl (lt48 (by decide)) rfl lkX6_15 dX6_append_35 ?_
        refine o_iconst (pc := 38) (v := 1) dX6_append_38 rfl ?_
        refine o_iadd (pc := 39) dX6_append_39 ?_
        refine c_putI (pc := 40) 5 1 1 (by decide) (by decide) rfl rfl (lt48 (by decide)) rfl lkX6_15 ⟨rfl, rfl⟩ dX6_append_40 ?_
        refine lz_s (cW t) hf (fun s6 hf => ?_)
        show Rn g mdX6_append 43 [some (.ref 1), some (.int a1), some (.int x2)] [] (cW t s6) 0 0 r h2
        refine o_iinc (pc := 43) dX6_append_43 rfl (by decide) rfl ?_
        show Rn g mdX6_append 46 [some (.ref 1), some (.int a1), some (.int (x2 + (-8)))] [] (cW t s6) 0 0 r h2
        obtain ⟨v7, ev7, hf⟩ := lt_elim hf
        rw [ev7]
        show Rn g mdX6_append 46 [some (.ref 1), some (.int a1), some (.int v7)] [] (cW t s6) 0 0 r h2
        refine o_goto (pc := 46) 3 dX6_append_46 rfl ?_
        exact ih _ _ hf K
      · have hf := it_f hf hc
        obtain rfl := Option.some.inj hf
        refine o_keep [false, false, false] ?_
        exact K
    clear hf
    refine o_if_lt (pc := 4) 49 dX6_append_4 rfl (fun hc => ?_) (fun hc => ?_)
    · have hr2 := it_t hr2 hc
      obtain rfl := Option.some.inj hr2
      exact KB3.2 (by decide)
    · have hr2 := it_f hr2 hc
      refine o_aload_n (pc := 7) dX6_append_7 rfl ?_
      refine c_getI (pc := 8) 5 1 1 (by decide) (by decide) rfl (lt48 (by decide)) rfl lkX6_15 dX6_append_8 ?_
      refine o_sipush (pc := 11) (v := 400) dX6_append_11 rfl ?_
      refine o_icmp_ge (pc := 14) 49 dX6_append_14 rfl (fun hc => ?_) (fun hc => ?_)
      · have hr2 := it_t hr2 hc
        obtain rfl := Option.some.inj hr2
        exact KB3.2 (by decide)
      · have hr2 := it_f hr2 hc
        obtain rfl := Option.some.inj hr2
        exact KB3.1 rfl
set_option maxRecDepth 20000 in
theorem kX6_append {g : GX} {t : PH} {p0 : Int32} {s : ST} {q : ST} (hf : fX6_append p0 s = some q) : Cn g mdX6_append [.ref 1, .int p0] (cW t s) none (cW t q) := by
  refine Cn.of (by decide) (Nat.le_of_ble_eq_true rfl) ?_
  show Rn g mdX6_append 0 [some (.ref 1), some (.int p0), none] [] (cW t s) 0 0 none (cW t q)
  unfold fX6_append at hf
  refine o_bipush (pc := 0) (v := 24) dX6_append_0 rfl ?_
  refine o_istore_n (pc := 2) dX6_append_2 (by decide) rfl ?_
  show Rn g mdX6_append 3 [some (.ref 1), some (.int p0), some (.int 24)] [] (cW t s) 0 0 none (cW t q)
  obtain ⟨w8, hl9, hf⟩ := bd_elim hf
  have K10 : Rn g mdX6_append 49 [none, none, none] [] (cW t w8.2) 0 0 none (cW t q) := by
    obtain rfl := Option.some.inj hf
    exact o_return (pc := 49) dX6_append_49 rfl (Nat.zero_le _) (Nat.zero_le _)
  exact kX6_append_L3 _ _ _ _ hl9 K10
def fX11_feed (p0 : Int32) (p1 : Int32) (p2 : Int32) (p3 : Int32) (p4 : Int32) (s : ST) : Option (Int32 × ST) :=
  if ((gi s 1 1) + 20) ≤ 400 then (fX6_append p0 s).bind (fun q2 => (fX6_append p1 q2).bind (fun q4 => (fX6_append p2 q4).bind (fun q6 => (fX6_append p3 q6).bind (fun q8 => (fX6_append p4 q8).bind (fun q10 => some (gi q10 1 1, q10)))))) else some ((-1), s)
set_option maxRecDepth 20000 in
theorem kX11_feed {g : GX} {t : PH} {p0 : Int32} {p1 : Int32} {p2 : Int32} {p3 : Int32} {p4 : Int32} {s : ST} {q : Int32 × ST} (hf : fX11_feed p0 p1 p2 p3 p4 s = some q) : Cn g mdX11_feed [.ref 0, .int p0, .int p1, .int p2, .int p3, .int p4] (cW t s) (some (.int q.1)) (cW t q.2) := by
  refine Cn.of (by decide) (Nat.le_of_ble_eq_true rfl) ?_
  show Rn g mdX11_feed 0 [some (.ref 0), some (.int p0), some (.int p1), some (.int p2), some (.int p3), some (.int p4)] [] (cW t s) 0 0 (some (.int q.1)) (cW t q.2)
  unfold fX11_feed at hf
  refine o_aload_n (pc := 0) dX11_feed_0 rfl ?_
  refine c_getR (pc := 1) 10 0 0 1 (by decide) (by decide) rfl (lt48 (by decide)) rfl rfl lkX11_10 dX11_feed_1 ?_
  refine c_getI (pc := 4) 5 1 1 (by decide) (by decide) rfl (lt48 (by decide)) rfl lkX11_67 dX11_feed_4 ?_
  refine o_bipush (pc := 7) (v := 20) dX11_feed_7 rfl ?_
  refine o_iadd (pc := 9) dX11_feed_9 ?_
  refine o_sipush (pc := 10) (v := 400) dX11_feed_10 rfl ?_
  refine o_icmp_le (pc := 13) 18 dX11_feed_13 rfl (fun hc => ?_) (fun hc => ?_)
  · have hf := it_t hf hc
    refine o_aload_n (pc := 18) dX11_feed_18 rfl ?_
    refine c_getR (pc := 19) 10 0 0 1 (by decide) (by decide) rfl (lt48 (by decide)) rfl rfl lkX11_10 dX11_feed_19 ?_
    refine o_iload_n (pc := 22) dX11_feed_22 rfl ?_
    obtain ⟨q2, hk1, hf⟩ := bd_elim hf
    refine c_callV (pc := 23) 5 1 [.int p0] (by decide) (lt48 (by decide)) rfl dX11_feed_23 (kX6_append hk1) stX11_70 ⟨by decide, by decide, by decide, by decide⟩ ⟨rfl, rfl⟩ (Nat.le_of_ble_eq_true rfl) ?_
    show Rn g mdX11_feed 26 [some (.ref 0), some (.int p0), some (.int p1), some (.int p2), some (.int p3), some (.int p4)] [] (cW t q2) 0 0 (some (.int q.1)) (cW t q.2)
    refine o_aload_n (pc := 26) dX11_feed_26 rfl ?_
    refine c_getR (pc := 27) 10 0 0 1 (by decide) (by decide) rfl (lt48 (by decide)) rfl rfl lkX11_10 dX11_feed_27 ?_
    refine o_iload_n (pc := 30) dX11_feed_30 rfl ?_
    obtain ⟨q4, hk3, hf⟩ := bd_elim hf
    refine c_callV (pc := 31) 5 1 [.int p1] (by decide) (lt48 (by decide)) rfl dX11_feed_31 (kX6_append hk3) stX11_70 ⟨by decide, by decide, by decide, by decide⟩ ⟨rfl, rfl⟩ (Nat.le_of_ble_eq_true rfl) ?_
    show Rn g mdX11_feed 34 [some (.ref 0), some (.int p0), some (.int p1), some (.int p2), some (.int p3), some (.int p4)] [] (cW t q4) 0 0 (some (.int q.1)) (cW t q.2)
    refine o_aload_n (pc := 34) dX11_feed_34 rfl ?_
    refine c_getR (pc := 35) 10 0 0 1 (by decide) (by decide) rfl (lt48 (by decide)) rfl rfl lkX11_10 dX11_feed_35 ?_
    refine o_iload_n (pc := 38) dX11_feed_38 rfl ?_
    obtain ⟨q6, hk5, hf⟩ := bd_elim hf
    refine c_callV (pc := 39) 5 1 [.int p2] (by decide) (lt48 (by decide)) rfl dX11_feed_39 (kX6_append hk5) stX11_70 ⟨by decide, by decide, by decide, by decide⟩ ⟨rfl, rfl⟩ (Nat.le_of_ble_eq_true rfl) ?_
    show Rn g mdX11_feed 42 [some (.ref 0), some (.int p0), some (.int p1), some (.int p2), some (.int p3), some (.int p4)] [] (cW t q6) 0 0 (some (.int q.1)) (cW t q.2)
    refine o_aload_n (pc := 42) dX11_feed_42 rfl ?_
    refine c_getR (pc := 43) 10 0 0 1 (by decide) (by decide) rfl (lt48 (by decide)) rfl rfl lkX11_10 dX11_feed_43 ?_
    refine o_iload (pc := 46) dX11_feed_46 rfl ?_
    obtain ⟨q8, hk7, hf⟩ := bd_elim hf
    refine c_callV (pc := 48) 5 1 [.int p3] (by decide) (lt48 (by decide)) rfl dX11_feed_48 (kX6_append hk7) stX11_70 ⟨by decide, by decide, by decide, by decide⟩ ⟨rfl, rfl⟩ (Nat.le_of_ble_eq_true rfl) ?_
    show Rn g mdX11_feed 51 [some (.ref 0), some (.int p0), some (.int p1), some (.int p2), some (.int p3), some (.int p4)] [] (cW t q8) 0 0 (some (.int q.1)) (cW t q.2)
    refine o_aload_n (pc := 51) dX11_feed_51 rfl ?_
    refine c_getR (pc := 52) 10 0 0 1 (by decide) (by decide) rfl (lt48 (by decide)) rfl rfl lkX11_10 dX11_feed_52 ?_
    refine o_iload (pc := 55) dX11_feed_55 rfl ?_
    obtain ⟨q10, hk9, hf⟩ := bd_elim hf
    refine c_callV (pc := 57) 5 1 [.int p4] (by decide) (lt48 (by decide)) rfl dX11_feed_57 (kX6_append hk9) stX11_70 ⟨by decide, by decide, by decide, by decide⟩ ⟨rfl, rfl⟩ (Nat.le_of_ble_eq_true rfl) ?_
    show Rn g mdX11_feed 60 [some (.ref 0), some (.int p0), some (.int p1), some (.int p2), some (.int p3), some (.int p4)] [] (cW t q10) 0 0 (some (.int q.1)) (cW t q.2)
    refine o_aload_n (pc := 60) dX11_feed_60 rfl ?_
    refine c_getR (pc := 61) 10 0 0 1 (by decide) (by decide) rfl (lt48 (by decide)) rfl rfl lkX11_10 dX11_feed_61 ?_
    refine c_getI (pc := 64) 5 1 1 (by decide) (by decide) rfl (lt48 (by decide)) rfl lkX11_67 dX11_feed_64 ?_
    obtain rfl := Option.some.inj hf
    exact o_ireturn (pc := 67) dX11_feed_67 rfl (Nat.zero_le _) (Nat.zero_le _)
  · have hf := it_f hf hc
    refine o_iconst (pc := 16) (v := (-1)) dX11_feed_16 rfl ?_
    obtain rfl := Option.some.inj hf
    exact o_ireturn (pc := 17) dX11_feed_17 rfl (Nat.zero_le _) (Nat.zero_le _)
def fX11_end (p0 : Int32) (s : ST) : Option (Int32 × ST) :=
  (if p0 < 0 then some true else if p0 ≤ (gi s 1 1) then some false else some true : Option Bool).bind (fun b1 => if b1 = true then some ((-1), s) else lt (si s 1 1 p0) (fun s4 => some (p0, s4)))
set_option maxRecDepth 20000 in
theorem kX11_end {g : GX} {t : PH} {p0 : Int32} {s : ST} {q : Int32 × ST} (hf : fX11_end p0 s = some q) : Cn g mdX11_end [.ref 0, .int p0] (cW t s) (some (.int q.1)) (cW t q.2) := by
  refine Cn.of (by decide) (Nat.le_of_ble_eq_true rfl) ?_
  show Rn g mdX11_end 0 [some (.ref 0), some (.int p0)] [] (cW t s) 0 0 (some (.int q.1)) (cW t q.2)
  unfold fX11_end at hf
  refine o_iload_n (pc := 0) dX11_end_0 rfl ?_
  obtain ⟨b1, hr2, hf⟩ := bd_elim hf
  have KB3 : (b1 = true → Rn g mdX11_end 15 [some (.ref 0), some (.int p0)] [] (cW t s) 0 0 (some (.int q.1)) (cW t q.2)) ∧ (¬ b1 = true → Rn g mdX11_end 17 [some (.ref 0), some (.int p0)] [] (cW t s) 0 0 (some (.int q.1)) (cW t q.2)) := by
    refine ⟨fun hc => ?_, fun hc => ?_⟩
    · have hf := it_t hf hc
      refine o_iconst (pc := 15) (v := (-1)) dX11_end_15 rfl ?_
      obtain rfl := Option.some.inj hf
      exact o_ireturn (pc := 16) dX11_end_16 rfl (Nat.zero_le _) (Nat.zero_le _)
    · have hf := it_f hf hc
      refine o_aload_n (pc := 17) dX11_end_17 rfl ?_
      refine c_getR (pc := 18) 10 0 0 1 (by decide) (by decide) rfl (lt48 (by decide)) rfl rfl lkX11_10 dX11_end_18 ?_
      refine o_iload_n (pc := 21) dX11_end_21 rfl ?_
      refine c_putI (pc := 22) 5 1 1 (by decide) (by decide) rfl rfl (lt48 (by decide)) rfl lkX11_67 ⟨rfl, rfl⟩ dX11_end_22 ?_
      refine lz_s (cW t) hf (fun s4 hf => ?_)
      show Rn g mdX11_end 25 [some (.ref 0), some (.int p0)] [] (cW t s4) 0 0 (some (.int q.1)) (cW t q.2)
      refine o_iload_n (pc := 25) dX11_end_25 rfl ?_
      obtain rfl := Option.some.inj hf
      exact o_ireturn (pc := 26) dX11_end_26 rfl (Nat.zero_le _) (Nat.zero_le _)
  clear hf
  refine o_if_lt (pc := 1) 15 dX11_end_1 rfl (fun hc => ?_) (fun hc => ?_)
  · have hr2 := it_t hr2 hc
    obtain rfl := Option.some.inj hr2
    exact KB3.1 rfl
  · have hr2 := it_f hr2 hc
    refine o_iload_n (pc := 4) dX11_end_4 rfl ?_
    refine o_aload_n (pc := 5) dX11_end_5 rfl ?_
    refine c_getR (pc := 6) 10 0 0 1 (by decide) (by decide) rfl (lt48 (by decide)) rfl rfl lkX11_10 dX11_end_6 ?_
    refine c_getI (pc := 9) 5 1 1 (by decide) (by decide) rfl (lt48 (by decide)) rfl lkX11_67 dX11_end_9 ?_
    refine o_icmp_le (pc := 12) 17 dX11_end_12 rfl (fun hc => ?_) (fun hc => ?_)
    · have hr2 := it_t hr2 hc
      obtain rfl := Option.some.inj hr2
      exact KB3.2 (by decide)
    · have hr2 := it_f hr2 hc
      obtain rfl := Option.some.inj hr2
      exact KB3.1 rfl
def fX6_rewind (s : ST) : Option (ST) :=
  lt (si s 1 2 0) (fun s1 => lt (si s1 1 3 0) (fun s2 => some s2))
set_option maxRecDepth 20000 in
theorem kX6_rewind {g : GX} {t : PH} {s : ST} {q : ST} (hf : fX6_rewind s = some q) : Cn g mdX6_rewind [.ref 1] (cW t s) none (cW t q) := by
  refine Cn.of (by decide) (Nat.le_of_ble_eq_true rfl) ?_
  show Rn g mdX6_rewind 0 [some (.ref 1)] [] (cW t s) 0 0 none (cW t q)
  unfold fX6_rewind at hf
  refine o_aload_n (pc := 0) dX6_rewind_0 rfl ?_
  refine o_iconst (pc := 1) (v := 0) dX6_rewind_1 rfl ?_
  refine c_putI (pc := 2) 5 2 1 (by decide) (by decide) rfl rfl (lt48 (by decide)) rfl lkX6_19 ⟨rfl, rfl⟩ dX6_rewind_2 ?_
  refine lz_s (cW t) hf (fun s1 hf => ?_)
  show Rn g mdX6_rewind 5 [some (.ref 1)] [] (cW t s1) 0 0 none (cW t q)
  refine o_aload_n (pc := 5) dX6_rewind_5 rfl ?_
  refine o_iconst (pc := 6) (v := 0) dX6_rewind_6 rfl ?_
  refine c_putI (pc := 7) 5 3 1 (by decide) (by decide) rfl rfl (lt48 (by decide)) rfl lkX6_22 ⟨rfl, rfl⟩ dX6_rewind_7 ?_
  refine lz_s (cW t) hf (fun s2 hf => ?_)
  show Rn g mdX6_rewind 10 [some (.ref 1)] [] (cW t s2) 0 0 none (cW t q)
  obtain rfl := Option.some.inj hf
  exact o_return (pc := 10) dX6_rewind_10 rfl (Nat.zero_le _) (Nat.zero_le _)
def fX7_clear_4 (s : ST) : Option (ST) :=
  lt (si s 4 0 0) (fun s1 => lt (si s1 4 1 0) (fun s2 => lt (si s2 4 2 0) (fun s3 => lt (si s3 4 3 0) (fun s4 => lt (si s4 4 4 1) (fun s5 => lt (si s5 4 5 1) (fun s6 => lt (si s6 4 6 0) (fun s7 => lt (si s7 4 7 0) (fun s8 => lt (si s8 4 8 0) (fun s9 => some s9)))))))))
set_option maxRecDepth 20000 in
theorem kX7_clear_4 {g : GX} {t : PH} {s : ST} {q : ST} (hf : fX7_clear_4 s = some q) : Cn g mdX7_clear [.ref 4] (cW t s) none (cW t q) := by
  refine Cn.of (by decide) (Nat.le_of_ble_eq_true rfl) ?_
  show Rn g mdX7_clear 0 [some (.ref 4)] [] (cW t s) 0 0 none (cW t q)
  unfold fX7_clear_4 at hf
  refine o_aload_n (pc := 0) dX7_clear_0 rfl ?_
  refine o_iconst (pc := 1) (v := 0) dX7_clear_1 rfl ?_
  refine c_putI (pc := 2) 6 0 4 (by decide) (by decide) rfl rfl (lt48 (by decide)) rfl lkX7_9 ⟨rfl, rfl⟩ dX7_clear_2 ?_
  refine lz_s (cW t) hf (fun s1 hf => ?_)
  show Rn g mdX7_clear 5 [some (.ref 4)] [] (cW t s1) 0 0 none (cW t q)
  refine o_aload_n (pc := 5) dX7_clear_5 rfl ?_
  refine o_iconst (pc := 6) (v := 0) dX7_clear_6 rfl ?_
  refine c_putI (pc := 7) 6 1 4 (by decide) (by decide) rfl rfl (lt48 (by decide)) rfl lkX7_15 ⟨rfl, rfl⟩ dX7_clear_7 ?_
  refine lz_s (cW t) hf (fun s2 hf => ?_)
  show Rn g mdX7_clear 10 [some (.ref 4)] [] (cW t s2) 0 0 none (cW t q)
  refine o_aload_n (pc := 10) dX7_clear_10 rfl ?_
  refine o_iconst (pc := 11) (v := 0) dX7_clear_11 rfl ?_
  refine c_putI (pc := 12) 6 2 4 (by decide) (by decide) rfl rfl (lt48 (by decide)) rfl lkX7_19 ⟨rfl, rfl⟩ dX7_clear_12 ?_
  refine lz_s (cW t) hf (fun s3 hf => ?_)
  show Rn g mdX7_clear 15 [some (.ref 4)] [] (cW t s3) 0 0 none (cW t q)
  refine o_aload_n (pc := 15) dX7_clear_15 rfl ?_
  refine o_iconst (pc := 16) (v := 0) dX7_clear_16 rfl ?_
  refine c_putI (pc := 17) 6 3 4 (by decide) (by decide) rfl rfl (lt48 (by decide)) rfl lkX7_22 ⟨rfl, rfl⟩ dX7_clear_17 ?_
  refine lz_s (cW t) hf (fun s4 hf => ?_)
  show Rn g mdX7_clear 20 [some (.ref 4)] [] (cW t s4) 0 0 none (cW t q)
  refine o_aload_n (pc := 20) dX7_clear_20 rfl ?_
  refine o_iconst (pc := 21) (v := 1) dX7_clear_21 rfl ?_
  refine c_putI (pc := 22) 6 4 4 (by decide) (by decide) rfl rfl (lt48 (by decide)) rfl lkX7_25 ⟨rfl, rfl⟩ dX7_clear_22 ?_
  refine lz_s (cW t) hf (fun s5 hf => ?_)
  show Rn g mdX7_clear 25 [some (.ref 4)] [] (cW t s5) 0 0 none (cW t q)
  refine o_aload_n (pc := 25) dX7_clear_25 rfl ?_
  refine o_iconst (pc := 26) (v := 1) dX7_clear_26 rfl ?_
  refine c_putI (pc := 27) 6 5 4 (by decide) (by decide) rfl rfl (lt48 (by decide)) rfl lkX7_28 ⟨rfl, rfl⟩ dX7_clear_27 ?_
  refine lz_s (cW t) hf (fun s6 hf => ?_)
  show Rn g mdX7_clear 30 [some (.ref 4)] [] (cW t s6) 0 0 none (cW t q)
  refine o_aload_n (pc := 30) dX7_clear_30 rfl ?_
  refine o_iconst (pc := 31) (v := 0) dX7_clear_31 rfl ?_
  refine c_putI (pc := 32) 6 6 4 (by decide) (by decide) rfl rfl (lt48 (by decide)) rfl lkX7_31 ⟨rfl, rfl⟩ dX7_clear_32 ?_
  refine lz_s (cW t) hf (fun s7 hf => ?_)
  show Rn g mdX7_clear 35 [some (.ref 4)] [] (cW t s7) 0 0 none (cW t q)
  refine o_aload_n (pc := 35) dX7_clear_35 rfl ?_
  refine o_iconst (pc := 36) (v := 0) dX7_clear_36 rfl ?_
  refine c_putI (pc := 37) 6 7 4 (by decide) (by decide) rfl rfl (lt48 (by decide)) rfl lkX7_34 ⟨rfl, rfl⟩ dX7_clear_37 ?_
  refine lz_s (cW t) hf (fun s8 hf => ?_)
  show Rn g mdX7_clear 40 [some (.ref 4)] [] (cW t s8) 0 0 none (cW t q)
  refine o_aload_n (pc := 40) dX7_clear_40 rfl ?_
  refine o_iconst (pc := 41) (v := 0) dX7_clear_41 rfl ?_
  refine c_putI (pc := 42) 6 8 4 (by decide) (by decide) rfl rfl (lt48 (by decide)) rfl lkX7_37 ⟨rfl, rfl⟩ dX7_clear_42 ?_
  refine lz_s (cW t) hf (fun s9 hf => ?_)
  show Rn g mdX7_clear 45 [some (.ref 4)] [] (cW t s9) 0 0 none (cW t q)
  obtain rfl := Option.some.inj hf
  exact o_return (pc := 45) dX7_clear_45 rfl (Nat.zero_le _) (Nat.zero_le _)
def fX6_blame (p0 : Int32) (s : ST) : Option (ST) :=
  (if (gi s 1 3) = 0 then lt (si s 1 3 ((1 + (8 * (gi s 1 5))) + p0)) (fun s4 => some s4) else some s : Option (ST)).bind (fun w1 => some w1)
set_option maxRecDepth 20000 in
theorem kX6_blame {g : GX} {t : PH} {p0 : Int32} {s : ST} {q : ST} (hf : fX6_blame p0 s = some q) : Cn g mdX6_blame [.ref 1, .int p0] (cW t s) none (cW t q) := by
  refine Cn.of (by decide) (Nat.le_of_ble_eq_true rfl) ?_
  show Rn g mdX6_blame 0 [some (.ref 1), some (.int p0)] [] (cW t s) 0 0 none (cW t q)
  unfold fX6_blame at hf
  refine o_aload_n (pc := 0) dX6_blame_0 rfl ?_
  refine c_getI (pc := 1) 5 3 1 (by decide) (by decide) rfl (lt48 (by decide)) rfl lkX6_22 dX6_blame_1 ?_
  obtain ⟨w1, hr2, hf⟩ := bd_elim hf
  have K3 : Rn g mdX6_blame 22 [none, none] [] (cW t w1) 0 0 none (cW t q) := by
    obtain rfl := Option.some.inj hf
    exact o_return (pc := 22) dX6_blame_22 rfl (Nat.zero_le _) (Nat.zero_le _)
  clear hf
  refine o_if_ne (pc := 4) 22 dX6_blame_4 rfl (fun hc => ?_) (fun hc => ?_)
  · have hr2 := it_f hr2 hc
    obtain rfl := Option.some.inj hr2
    refine o_keep [false, false] ?_
    exact K3
  · have hr2 := it_t hr2 hc
    refine o_aload_n (pc := 7) dX6_blame_7 rfl ?_
    refine o_iconst (pc := 8) (v := 1) dX6_blame_8 rfl ?_
    refine o_bipush (pc := 9) (v := 8) dX6_blame_9 rfl ?_
    refine o_aload_n (pc := 11) dX6_blame_11 rfl ?_
    refine c_getI (pc := 12) 5 5 1 (by decide) (by decide) rfl (lt48 (by decide)) rfl lkX6_28 dX6_blame_12 ?_
    refine o_imul (pc := 15) dX6_blame_15 ?_
    refine o_iadd (pc := 16) dX6_blame_16 ?_
    refine o_iload_n (pc := 17) dX6_blame_17 rfl ?_
    refine o_iadd (pc := 18) dX6_blame_18 ?_
    refine c_putI (pc := 19) 5 3 1 (by decide) (by decide) rfl rfl (lt48 (by decide)) rfl lkX6_22 ⟨rfl, rfl⟩ dX6_blame_19 ?_
    refine lz_s (cW t) hr2 (fun s4 hr2 => ?_)
    show Rn g mdX6_blame 22 [some (.ref 1), some (.int p0)] [] (cW t s4) 0 0 none (cW t q)
    obtain rfl := Option.some.inj hr2
    refine o_keep [false, false] ?_
    exact K3
def fX6_isDigit (p0 : Int32) (s : ST) : Option (Int32) :=
  (if p0 < 48 then some false else if 57 < p0 then some false else some true : Option Bool).bind (fun b1 => (if b1 = true then some 1 else some 0 : Option (Int32)).bind (fun w4 => ck (bz w4) (some w4)))
set_option maxRecDepth 20000 in
theorem kX6_isDigit {g : GX} {t : PH} {p0 : Int32} {s : ST} {q : Int32} (hf : fX6_isDigit p0 s = some q) : Cn g mdX6_isDigit [.int p0] (cW t s) (some (.int q)) (cW t s) := by
  refine Cn.of (by decide) (Nat.le_of_ble_eq_true rfl) ?_
  show Rn g mdX6_isDigit 0 [some (.int p0)] [] (cW t s) 0 0 (some (.int q)) (cW t s)
  unfold fX6_isDigit at hf
  refine o_iload_n (pc := 0) dX6_isDigit_0 rfl ?_
  refine o_bipush (pc := 1) (v := 48) dX6_isDigit_1 rfl ?_
  obtain ⟨b1, hr2, hf⟩ := bd_elim hf
  obtain ⟨w4, hr5, hf⟩ := bd_elim hf
  have K6 : Rn g mdX6_isDigit 17 [none] [.int w4] (cW t s) 0 0 (some (.int q)) (cW t s) := by
    obtain ⟨hk7, hf⟩ := ck_elim hf
    obtain rfl := Option.some.inj hf
    exact o_zreturn (pc := 17) dX6_isDigit_17 rfl (bz_n hk7).1 (Nat.zero_le _) (Nat.zero_le _)
  clear hf
  have KB3 : (b1 = true → Rn g mdX6_isDigit 12 [some (.int p0)] [] (cW t s) 0 0 (some (.int q)) (cW t s)) ∧ (¬ b1 = true → Rn g mdX6_isDigit 16 [some (.int p0)] [] (cW t s) 0 0 (some (.int q)) (cW t s)) := by
    refine ⟨fun hc => ?_, fun hc => ?_⟩
    · have hr5 := it_t hr5 hc
      refine o_iconst (pc := 12) (v := 1) dX6_isDigit_12 rfl ?_
      refine o_goto (pc := 13) 17 dX6_isDigit_13 rfl ?_
      obtain rfl := Option.some.inj hr5
      refine o_keep [false] ?_
      exact K6
    · have hr5 := it_f hr5 hc
      refine o_iconst (pc := 16) (v := 0) dX6_isDigit_16 rfl ?_
      obtain rfl := Option.some.inj hr5
      refine o_keep [false] ?_
      exact K6
  clear hr5
  refine o_icmp_lt (pc := 3) 16 dX6_isDigit_3 rfl (fun hc => ?_) (fun hc => ?_)
  · have hr2 := it_t hr2 hc
    obtain rfl := Option.some.inj hr2
    exact KB3.2 (by decide)
  · have hr2 := it_f hr2 hc
    refine o_iload_n (pc := 6) dX6_isDigit_6 rfl ?_
    refine o_bipush (pc := 7) (v := 57) dX6_isDigit_7 rfl ?_
    refine o_icmp_gt (pc := 9) 16 dX6_isDigit_9 rfl (fun hc => ?_) (fun hc => ?_)
    · have hr2 := it_t hr2 hc
      obtain rfl := Option.some.inj hr2
      exact KB3.2 (by decide)
    · have hr2 := it_f hr2 hc
      obtain rfl := Option.some.inj hr2
      exact KB3.1 rfl
def fX6_isLetter (p0 : Int32) (s : ST) : Option (Int32) :=
  (if p0 < 97 then some false else if 122 < p0 then some false else some true : Option Bool).bind (fun b1 => (if b1 = true then some 1 else some 0 : Option (Int32)).bind (fun w4 => ck (bz w4) (some w4)))
set_option maxRecDepth 20000 in
theorem kX6_isLetter {g : GX} {t : PH} {p0 : Int32} {s : ST} {q : Int32} (hf : fX6_isLetter p0 s = some q) : Cn g mdX6_isLetter [.int p0] (cW t s) (some (.int q)) (cW t s) := by
  refine Cn.of (by decide) (Nat.le_of_ble_eq_true rfl) ?_
  show Rn g mdX6_isLetter 0 [some (.int p0)] [] (cW t s) 0 0 (some (.int q)) (cW t s)
  unfold fX6_isLetter at hf
  refine o_iload_n (pc := 0) dX6_isLetter_0 rfl ?_
  refine o_bipush (pc := 1) (v := 97) dX6_isLetter_1 rfl ?_
  obtain ⟨b1, hr2, hf⟩ := bd_elim hf
  obtain ⟨w4, hr5, hf⟩ := bd_elim hf
  have K6 : Rn g mdX6_isLetter 17 [none] [.int w4] (cW t s) 0 0 (some (.int q)) (cW t s) := by
    obtain ⟨hk7, hf⟩ := ck_elim hf
    obtain rfl := Option.some.inj hf
    exact o_zreturn (pc := 17) dX6_isLetter_17 rfl (bz_n hk7).1 (Nat.zero_le _) (Nat.zero_le _)
  clear hf
  have KB3 : (b1 = true → Rn g mdX6_isLetter 12 [some (.int p0)] [] (cW t s) 0 0 (some (.int q)) (cW t s)) ∧ (¬ b1 = true → Rn g mdX6_isLetter 16 [some (.int p0)] [] (cW t s) 0 0 (some (.int q)) (cW t s)) := by
    refine ⟨fun hc => ?_, fun hc => ?_⟩
    · have hr5 := it_t hr5 hc
      refine o_iconst (pc := 12) (v := 1) dX6_isLetter_12 rfl ?_
      refine o_goto (pc := 13) 17 dX6_isLetter_13 rfl ?_
      obtain rfl := Option.some.inj hr5
      refine o_keep [false] ?_
      exact K6
    · have hr5 := it_f hr5 hc
      refine o_iconst (pc := 16) (v := 0) dX6_isLetter_16 rfl ?_
      obtain rfl := Option.some.inj hr5
      refine o_keep [false] ?_
      exact K6
  clear hr5
  refine o_icmp_lt (pc := 3) 16 dX6_isLetter_3 rfl (fun hc => ?_) (fun hc => ?_)
  · have hr2 := it_t hr2 hc
    obtain rfl := Option.some.inj hr2
    exact KB3.2 (by decide)
  · have hr2 := it_f hr2 hc
    refine o_iload_n (pc := 6) dX6_isLetter_6 rfl ?_
    refine o_bipush (pc := 7) (v := 122) dX6_isLetter_7 rfl ?_
    refine o_icmp_gt (pc := 9) 16 dX6_isLetter_9 rfl (fun hc => ?_) (fun hc => ?_)
    · have hr2 := it_t hr2 hc
      obtain rfl := Option.some.inj hr2
      exact KB3.2 (by decide)
    · have hr2 := it_f hr2 hc
      obtain rfl := Option.some.inj hr2
      exact KB3.1 rfl
def fX6_stepOverDigits_L11 : Nat → ST → Option (ST)
  | 0, _ => none
  | n + 1, s => (if (gi s 1 1) ≤ (gi s 1 2) then some false else ck (inb (gi s 1 2) 400) ((fX6_isDigit (gi s 2 (ix (gi s 1 2))) s).bind (fun q8 => if q8 = 0 then some false else some true)) : Option Bool).bind (fun b3 => if b3 = true then (if ((gi s 1 2) - (gi s 1 5)) < 5 then some 0 else some 1 : Option (Int32)).bind (fun w9 => (if w9 = 0 then ck (inb (gi s 1 2) 400) (some ((((gi s 1 6) * 10) + (gi s 2 (ix (gi s 1 2)))) - 48)) else some (-1) : Option (Int32)).bind (fun w12 => lt (si s 1 6 w12) (fun s16 => lt (si s16 1 2 ((gi s16 1 2) + 1)) (fun s17 => fX6_stepOverDigits_L11 n s17)))) else some s)
def fX6_stepOverDigits (s : ST) : Option (ST) :=
  lt (si s 1 4 (-2)) (fun s1 => lt (si s1 1 6 0) (fun s2 => (fX6_stepOverDigits_L11 FUEL s2).bind (fun w18 => some w18)))
set_option maxRecDepth 20000 in
theorem kX6_stepOverDigits_L11 {g : GX} {t : PH} {r : Option Value} {h2 : PH} : ∀ (n : Nat) (s : ST) {w : ST}, fX6_stepOverDigits_L11 n s = some w → Rn g mdX6_stepOverDigits 101 [none, none] [] (cW t w) 0 0 r h2 → Rn g mdX6_stepOverDigits 11 [some (.ref 1), none] [] (cW t s) 0 0 r h2 := by
  intro n
  induction n with
  | zero => intro s w hf K; cases hf
  | succ n ih =>
    intro s w hf K
    rw [fX6_stepOverDigits_L11] at hf
    refine o_aload_n (pc := 11) dX6_stepOverDigits_11 rfl ?_
    refine c_getI (pc := 12) 5 2 1 (by decide) (by decide) rfl (lt48 (by decide)) rfl lkX6_19 dX6_stepOverDigits_12 ?_
    refine o_aload_n (pc := 15) dX6_stepOverDigits_15 rfl ?_
    refine c_getI (pc := 16) 5 1 1 (by decide) (by decide) rfl (lt48 (by decide)) rfl lkX6_15 dX6_stepOverDigits_16 ?_
    obtain ⟨b3, hr4, hf⟩ := bd_elim hf
    have KB5 : (b3 = true → Rn g mdX6_stepOverDigits 37 [some (.ref 1), none] [] (cW t s) 0 0 r h2) ∧ (¬ b3 = true → Rn g mdX6_stepOverDigits 101 [some (.ref 1), none] [] (cW t s) 0 0 r h2) := by
      refine ⟨fun hc => ?_, fun hc => ?_⟩
      · have hf := it_t hf hc
        refine o_aload_n (pc := 37) dX6_stepOverDigits_37 rfl ?_
        refine c_getI (pc := 38) 5 2 1 (by decide) (by decide) rfl (lt48 (by decide)) rfl lkX6_19 dX6_stepOverDigits_38 ?_
        refine o_aload_n (pc := 41) dX6_stepOverDigits_41 rfl ?_
        refine c_getI (pc := 42) 5 5 1 (by decide) (by decide) rfl (lt48 (by decide)) rfl lkX6_28 dX6_stepOverDigits_42 ?_
        refine o_isub (pc := 45) dX6_stepOverDigits_45 ?_
        refine o_iconst (pc := 46) (v := 5) dX6_stepOverDigits_46 rfl ?_
        obtain ⟨w9, hr10, hf⟩ := bd_elim hf
        have K11 : Rn g mdX6_stepOverDigits 55 [some (.ref 1), none] [.int w9] (cW t s) 0 0 r h2 := by
          refine o_istore_n (pc := 55) dX6_stepOverDigits_55 (by decide) rfl ?_
          show Rn g mdX6_stepOverDigits 56 [some (.ref 1), some (.int w9)] [] (cW t s) 0 0 r h2
          refine o_aload_n (pc := 56) dX6_stepOverDigits_56 rfl ?_
          refine o_iload_n (pc := 57) dX6_stepOverDigits_57 rfl ?_
          obtain ⟨w12, hr13, hf⟩ := bd_elim hf
          have K14 : Rn g mdX6_stepOverDigits 85 [some (.ref 1), none] [.int w12, .ref 1] (cW t s) 0 0 r h2 := by
            refine c_putI (pc := 85) 5 6 1 (by decide) (by decide) rfl rfl (lt48 (by decide)) rfl lkX6_31 ⟨rfl, rfl⟩ dX6_stepOverDigits_85 ?_
            refine lz_s (cW t) hf (fun s16 hf => ?_)
            show Rn g mdX6_stepOverDigits 88 [some (.ref 1), none] [] (cW t s16) 0 0 r h2
            refine o_aload_n (pc := 88) dX6_stepOverDigits_88 rfl ?_
            refine o_dup (pc := 89) dX6_stepOverDigits_89 rfl ?_
            refine c_getI (pc := 90) 5 2 1 (by decide) (by decide) rfl (lt48 (by decide)) rfl lkX6_19 dX6_stepOverDigits_90 ?_
            refine o_iconst (pc := 93) (v := 1) dX6_stepOverDigits_93 rfl ?_
            refine o_iadd (pc := 94) dX6_stepOverDigits_94 ?_
            refine c_putI (pc := 95) 5 2 1 (by decide) (by decide) rfl rfl (lt48 (by decide)) rfl lkX6_19 ⟨rfl, rfl⟩ dX6_stepOverDigits_95 ?_
            refine lz_s (cW t) hf (fun s17 hf => ?_)
            show Rn g mdX6_stepOverDigits 98 [some (.ref 1), none] [] (cW t s17) 0 0 r h2
            refine o_goto (pc := 98) 11 dX6_stepOverDigits_98 rfl ?_
            exact ih _ hf K
          clear hf
          refine o_if_eq (pc := 58) 65 dX6_stepOverDigits_58 rfl (fun hc => ?_) (fun hc => ?_)
          · have hr13 := it_t hr13 hc
            refine o_aload_n (pc := 65) dX6_stepOverDigits_65 rfl ?_
            refine c_getI (pc := 66) 5 6 1 (by decide) (by decide) rfl (lt48 (by decide)) rfl lkX6_31 dX6_stepOverDigits_66 ?_
            refine o_bipush (pc := 69) (v := 10) dX6_stepOverDigits_69 rfl ?_
            refine o_imul (pc := 71) dX6_stepOverDigits_71 ?_
            refine o_aload_n (pc := 72) dX6_stepOverDigits_72 rfl ?_
            refine c_getR (pc := 73) 5 0 1 2 (by decide) (by decide) rfl (lt48 (by decide)) rfl rfl lkX6_9 dX6_stepOverDigits_73 ?_
            refine o_aload_n (pc := 76) dX6_stepOverDigits_76 rfl ?_
            refine c_getI (pc := 77) 5 2 1 (by decide) (by decide) rfl (lt48 (by decide)) rfl lkX6_19 dX6_stepOverDigits_77 ?_
            obtain ⟨hk15, hr13⟩ := ck_elim hr13
            refine c_iald (pc := 80) (lt48 (by decide)) rfl hk15 dX6_stepOverDigits_80 ?_
            refine o_iadd (pc := 81) dX6_stepOverDigits_81 ?_
            refine o_bipush (pc := 82) (v := 48) dX6_stepOverDigits_82 rfl ?_
            refine o_isub (pc := 84) dX6_stepOverDigits_84 ?_
            obtain rfl := Option.some.inj hr13
            refine o_keep [true, false] ?_
            exact K14
          · have hr13 := it_f hr13 hc
            refine o_iconst (pc := 61) (v := (-1)) dX6_stepOverDigits_61 rfl ?_
            refine o_goto (pc := 62) 85 dX6_stepOverDigits_62 rfl ?_
            obtain rfl := Option.some.inj hr13
            refine o_keep [true, false] ?_
            exact K14
        clear hf
        refine o_icmp_lt (pc := 47) 54 dX6_stepOverDigits_47 rfl (fun hc => ?_) (fun hc => ?_)
        · have hr10 := it_t hr10 hc
          refine o_iconst (pc := 54) (v := 0) dX6_stepOverDigits_54 rfl ?_
          obtain rfl := Option.some.inj hr10
          exact K11
        · have hr10 := it_f hr10 hc
          refine o_iconst (pc := 50) (v := 1) dX6_stepOverDigits_50 rfl ?_
          refine o_goto (pc := 51) 55 dX6_stepOverDigits_51 rfl ?_
          obtain rfl := Option.some.inj hr10
          exact K11
      · have hf := it_f hf hc
        obtain rfl := Option.some.inj hf
        refine o_keep [false, false] ?_
        exact K
    clear hf
    refine o_icmp_ge (pc := 19) 101 dX6_stepOverDigits_19 rfl (fun hc => ?_) (fun hc => ?_)
    · have hr4 := it_t hr4 hc
      obtain rfl := Option.some.inj hr4
      exact KB5.2 (by decide)
    · have hr4 := it_f hr4 hc
      refine o_aload_n (pc := 22) dX6_stepOverDigits_22 rfl ?_
      refine c_getR (pc := 23) 5 0 1 2 (by decide) (by decide) rfl (lt48 (by decide)) rfl rfl lkX6_9 dX6_stepOverDigits_23 ?_
      refine o_aload_n (pc := 26) dX6_stepOverDigits_26 rfl ?_
      refine c_getI (pc := 27) 5 2 1 (by decide) (by decide) rfl (lt48 (by decide)) rfl lkX6_19 dX6_stepOverDigits_27 ?_
      obtain ⟨hk6, hr4⟩ := ck_elim hr4
      refine c_iald (pc := 30) (lt48 (by decide)) rfl hk6 dX6_stepOverDigits_30 ?_
      obtain ⟨q8, hk7, hr4⟩ := bd_elim hr4
      refine c_callS (pc := 31) [.int (gi s 2 (ix (gi s 1 2)))] dX6_stepOverDigits_31 (kX6_isDigit hk7) stX6_34 ⟨by decide, by decide, by decide, by decide⟩ ⟨rfl, rfl⟩ (Nat.le_of_ble_eq_true rfl) ?_
      show Rn g mdX6_stepOverDigits 34 [some (.ref 1), none] [.int q8] (cW t s) 0 0 r h2
      refine o_if_eq (pc := 34) 101 dX6_stepOverDigits_34 rfl (fun hc => ?_) (fun hc => ?_)
      · have hr4 := it_t hr4 hc
        obtain rfl := Option.some.inj hr4
        exact KB5.2 (by decide)
      · have hr4 := it_f hr4 hc
        obtain rfl := Option.some.inj hr4
        exact KB5.1 rfl
set_option maxRecDepth 20000 in
theorem kX6_stepOverDigits {g : GX} {t : PH} {s : ST} {q : ST} (hf : fX6_stepOverDigits s = some q) : Cn g mdX6_stepOverDigits [.ref 1] (cW t s) none (cW t q) := by
  refine Cn.of (by decide) (Nat.le_of_ble_eq_true rfl) ?_
  show Rn g mdX6_stepOverDigits 0 [some (.ref 1), none] [] (cW t s) 0 0 none (cW t q)
  unfold fX6_stepOverDigits at hf
  refine o_aload_n (pc := 0) dX6_stepOverDigits_0 rfl ?_
  refine o_bipush (pc := 1) (v := (-2)) dX6_stepOverDigits_1 rfl ?_
  refine c_putI (pc := 3) 5 4 1 (by decide) (by decide) rfl rfl (lt48 (by decide)) rfl lkX6_25 ⟨rfl, rfl⟩ dX6_stepOverDigits_3 ?_
  refine lz_s (cW t) hf (fun s1 hf => ?_)
  show Rn g mdX6_stepOverDigits 6 [some (.ref 1), none] [] (cW t s1) 0 0 none (cW t q)
  refine o_aload_n (pc := 6) dX6_stepOverDigits_6 rfl ?_
  refine o_iconst (pc := 7) (v := 0) dX6_stepOverDigits_7 rfl ?_
  refine c_putI (pc := 8) 5 6 1 (by decide) (by decide) rfl rfl (lt48 (by decide)) rfl lkX6_31 ⟨rfl, rfl⟩ dX6_stepOverDigits_8 ?_
  refine lz_s (cW t) hf (fun s2 hf => ?_)
  show Rn g mdX6_stepOverDigits 11 [some (.ref 1), none] [] (cW t s2) 0 0 none (cW t q)
  obtain ⟨w18, hl19, hf⟩ := bd_elim hf
  have K20 : Rn g mdX6_stepOverDigits 101 [none, none] [] (cW t w18) 0 0 none (cW t q) := by
    obtain rfl := Option.some.inj hf
    exact o_return (pc := 101) dX6_stepOverDigits_101 rfl (Nat.zero_le _) (Nat.zero_le _)
  exact kX6_stepOverDigits_L11 _ _ hl19 K20
def fX6_stepOverLetters_L6 : Nat → ST → Option (ST)
  | 0, _ => none
  | n + 1, s => (if (gi s 1 1) ≤ (gi s 1 2) then some false else ck (inb (gi s 1 2) 400) ((fX6_isLetter (gi s 2 (ix (gi s 1 2))) s).bind (fun q7 => if q7 = 0 then some false else some true)) : Option Bool).bind (fun b2 => if b2 = true then lt (si s 1 2 ((gi s 1 2) + 1)) (fun s8 => fX6_stepOverLetters_L6 n s8) else some s)
def fX6_stepOverLetters (s : ST) : Option (ST) :=
  lt (si s 1 4 (-3)) (fun s1 => (fX6_stepOverLetters_L6 FUEL s1).bind (fun w9 => some w9))
set_option maxRecDepth 20000 in
theorem kX6_stepOverLetters_L6 {g : GX} {t : PH} {r : Option Value} {h2 : PH} : ∀ (n : Nat) (s : ST) {w : ST}, fX6_stepOverLetters_L6 n s = some w → Rn g mdX6_stepOverLetters 45 [none] [] (cW t w) 0 0 r h2 → Rn g mdX6_stepOverLetters 6 [some (.ref 1)] [] (cW t s) 0 0 r h2 := by
  intro n
  induction n with
  | zero => intro s w hf K; cases hf
  | succ n ih =>
    intro s w hf K
    rw [fX6_stepOverLetters_L6] at hf
    refine o_aload_n (pc := 6) dX6_stepOverLetters_6 rfl ?_
    refine c_getI (pc := 7) 5 2 1 (by decide) (by decide) rfl (lt48 (by decide)) rfl lkX6_19 dX6_stepOverLetters_7 ?_
    refine o_aload_n (pc := 10) dX6_stepOverLetters_10 rfl ?_
    refine c_getI (pc := 11) 5 1 1 (by decide) (by decide) rfl (lt48 (by decide)) rfl lkX6_15 dX6_stepOverLetters_11 ?_
    obtain ⟨b2, hr3, hf⟩ := bd_elim hf
    have KB4 : (b2 = true → Rn g mdX6_stepOverLetters 32 [some (.ref 1)] [] (cW t s) 0 0 r h2) ∧ (¬ b2 = true → Rn g mdX6_stepOverLetters 45 [some (.ref 1)] [] (cW t s) 0 0 r h2) := by
      refine ⟨fun hc => ?_, fun hc => ?_⟩
      · have hf := it_t hf hc
        refine o_aload_n (pc := 32) dX6_stepOverLetters_32 rfl ?_
        refine o_dup (pc := 33) dX6_stepOverLetters_33 rfl ?_
        refine c_getI (pc := 34) 5 2 1 (by decide) (by decide) rfl (lt48 (by decide)) rfl lkX6_19 dX6_stepOverLetters_34 ?_
        refine o_iconst (pc := 37) (v := 1) dX6_stepOverLetters_37 rfl ?_
        refine o_iadd (pc := 38) dX6_stepOverLetters_38 ?_
        refine c_putI (pc := 39) 5 2 1 (by decide) (by decide) rfl rfl (lt48 (by decide)) rfl lkX6_19 ⟨rfl, rfl⟩ dX6_stepOverLetters_39 ?_
        refine lz_s (cW t) hf (fun s8 hf => ?_)
        show Rn g mdX6_stepOverLetters 42 [some (.ref 1)] [] (cW t s8) 0 0 r h2
        refine o_goto (pc := 42) 6 dX6_stepOverLetters_42 rfl ?_
        exact ih _ hf K
      · have hf := it_f hf hc
        obtain rfl := Option.some.inj hf
        refine o_keep [false] ?_
        exact K
    clear hf
    refine o_icmp_ge (pc := 14) 45 dX6_stepOverLetters_14 rfl (fun hc => ?_) (fun hc => ?_)
    · have hr3 := it_t hr3 hc
      obtain rfl := Option.some.inj hr3
      exact KB4.2 (by decide)
    · have hr3 := it_f hr3 hc
      refine o_aload_n (pc := 17) dX6_stepOverLetters_17 rfl ?_
      refine c_getR (pc := 18) 5 0 1 2 (by decide) (by decide) rfl (lt48 (by decide)) rfl rfl lkX6_9 dX6_stepOverLetters_18 ?_
      refine o_aload_n (pc := 21) dX6_stepOverLetters_21 rfl ?_
      refine c_getI (pc := 22) 5 2 1 (by decide) (by decide) rfl (lt48 (by decide)) rfl lkX6_19 dX6_stepOverLetters_22 ?_
      obtain ⟨hk5, hr3⟩ := ck_elim hr3
      refine c_iald (pc := 25) (lt48 (by decide)) rfl hk5 dX6_stepOverLetters_25 ?_
      obtain ⟨q7, hk6, hr3⟩ := bd_elim hr3
      refine c_callS (pc := 26) [.int (gi s 2 (ix (gi s 1 2)))] dX6_stepOverLetters_26 (kX6_isLetter hk6) stX6_41 ⟨by decide, by decide, by decide, by decide⟩ ⟨rfl, rfl⟩ (Nat.le_of_ble_eq_true rfl) ?_
      show Rn g mdX6_stepOverLetters 29 [some (.ref 1)] [.int q7] (cW t s) 0 0 r h2
      refine o_if_eq (pc := 29) 45 dX6_stepOverLetters_29 rfl (fun hc => ?_) (fun hc => ?_)
      · have hr3 := it_t hr3 hc
        obtain rfl := Option.some.inj hr3
        exact KB4.2 (by decide)
      · have hr3 := it_f hr3 hc
        obtain rfl := Option.some.inj hr3
        exact KB4.1 rfl
set_option maxRecDepth 20000 in
theorem kX6_stepOverLetters {g : GX} {t : PH} {s : ST} {q : ST} (hf : fX6_stepOverLetters s = some q) : Cn g mdX6_stepOverLetters [.ref 1] (cW t s) none (cW t q) := by
  refine Cn.of (by decide) (Nat.le_of_ble_eq_true rfl) ?_
  show Rn g mdX6_stepOverLetters 0 [some (.ref 1)] [] (cW t s) 0 0 none (cW t q)
  unfold fX6_stepOverLetters at hf
  refine o_aload_n (pc := 0) dX6_stepOverLetters_0 rfl ?_
  refine o_bipush (pc := 1) (v := (-3)) dX6_stepOverLetters_1 rfl ?_
  refine c_putI (pc := 3) 5 4 1 (by decide) (by decide) rfl rfl (lt48 (by decide)) rfl lkX6_25 ⟨rfl, rfl⟩ dX6_stepOverLetters_3 ?_
  refine lz_s (cW t) hf (fun s1 hf => ?_)
  show Rn g mdX6_stepOverLetters 6 [some (.ref 1)] [] (cW t s1) 0 0 none (cW t q)
  obtain ⟨w9, hl10, hf⟩ := bd_elim hf
  have K11 : Rn g mdX6_stepOverLetters 45 [none] [] (cW t w9) 0 0 none (cW t q) := by
    obtain rfl := Option.some.inj hf
    exact o_return (pc := 45) dX6_stepOverLetters_45 rfl (Nat.zero_le _) (Nat.zero_le _)
  exact kX6_stepOverLetters_L6 _ _ hl10 K11
def fX6_stepOverSign (s : ST) : Option (ST) :=
  ck (inb (gi s 1 2) 400) (lt (si s 1 4 (gi s 2 (ix (gi s 1 2)))) (fun s2 => lt (si s2 1 2 ((gi s2 1 2) + 1)) (fun s3 => (if (gi s3 1 4) = 60 then some true else if (gi s3 1 4) = 62 then some true else some false : Option Bool).bind (fun b4 => (if b4 = true then some 1 else some 0 : Option (Int32)).bind (fun w7 => (if w7 = 0 then some false else if (gi s3 1 1) ≤ (gi s3 1 2) then some false else ck (inb (gi s3 1 2) 400) (if (gi s3 2 (ix (gi s3 1 2))) = 61 then some true else some false) : Option Bool).bind (fun b10 => (if b10 = true then lt (si s3 1 4 ((gi s3 1 4) + 256)) (fun s17 => lt (si s17 1 2 ((gi s17 1 2) + 1)) (fun s18 => some s18)) else some s3 : Option (ST)).bind (fun w14 => some w14)))))))
set_option maxRecDepth 20000 in
theorem kX6_stepOverSign {g : GX} {t : PH} {s : ST} {q : ST} (hf : fX6_stepOverSign s = some q) : Cn g mdX6_stepOverSign [.ref 1] (cW t s) none (cW t q) := by
  refine Cn.of (by decide) (Nat.le_of_ble_eq_true rfl) ?_
  show Rn g mdX6_stepOverSign 0 [some (.ref 1), none] [] (cW t s) 0 0 none (cW t q)
  unfold fX6_stepOverSign at hf
  refine o_aload_n (pc := 0) dX6_stepOverSign_0 rfl ?_
  refine o_aload_n (pc := 1) dX6_stepOverSign_1 rfl ?_
  refine c_getR (pc := 2) 5 0 1 2 (by decide) (by decide) rfl (lt48 (by decide)) rfl rfl lkX6_9 dX6_stepOverSign_2 ?_
  refine o_aload_n (pc := 5) dX6_stepOverSign_5 rfl ?_
  refine c_getI (pc := 6) 5 2 1 (by decide) (by decide) rfl (lt48 (by decide)) rfl lkX6_19 dX6_stepOverSign_6 ?_
  obtain ⟨hk1, hf⟩ := ck_elim hf
  refine c_iald (pc := 9) (lt48 (by decide)) rfl hk1 dX6_stepOverSign_9 ?_
  refine c_putI (pc := 10) 5 4 1 (by decide) (by decide) rfl rfl (lt48 (by decide)) rfl lkX6_25 ⟨rfl, rfl⟩ dX6_stepOverSign_10 ?_
  refine lz_s (cW t) hf (fun s2 hf => ?_)
  show Rn g mdX6_stepOverSign 13 [some (.ref 1), none] [] (cW t s2) 0 0 none (cW t q)
  refine o_aload_n (pc := 13) dX6_stepOverSign_13 rfl ?_
  refine o_dup (pc := 14) dX6_stepOverSign_14 rfl ?_
  refine c_getI (pc := 15) 5 2 1 (by decide) (by decide) rfl (lt48 (by decide)) rfl lkX6_19 dX6_stepOverSign_15 ?_
  refine o_iconst (pc := 18) (v := 1) dX6_stepOverSign_18 rfl ?_
  refine o_iadd (pc := 19) dX6_stepOverSign_19 ?_
  refine c_putI (pc := 20) 5 2 1 (by decide) (by decide) rfl rfl (lt48 (by decide)) rfl lkX6_19 ⟨rfl, rfl⟩ dX6_stepOverSign_20 ?_
  refine lz_s (cW t) hf (fun s3 hf => ?_)
  show Rn g mdX6_stepOverSign 23 [some (.ref 1), none] [] (cW t s3) 0 0 none (cW t q)
  refine o_aload_n (pc := 23) dX6_stepOverSign_23 rfl ?_
  refine c_getI (pc := 24) 5 4 1 (by decide) (by decide) rfl (lt48 (by decide)) rfl lkX6_25 dX6_stepOverSign_24 ?_
  refine o_bipush (pc := 27) (v := 60) dX6_stepOverSign_27 rfl ?_
  obtain ⟨b4, hr5, hf⟩ := bd_elim hf
  obtain ⟨w7, hr8, hf⟩ := bd_elim hf
  have K9 : Rn g mdX6_stepOverSign 46 [some (.ref 1), none] [.int w7] (cW t s3) 0 0 none (cW t q) := by
    refine o_istore_n (pc := 46) dX6_stepOverSign_46 (by decide) rfl ?_
    show Rn g mdX6_stepOverSign 47 [some (.ref 1), some (.int w7)] [] (cW t s3) 0 0 none (cW t q)
    refine o_iload_n (pc := 47) dX6_stepOverSign_47 rfl ?_
    obtain ⟨b10, hr11, hf⟩ := bd_elim hf
    obtain ⟨w14, hr15, hf⟩ := bd_elim hf
    have K16 : Rn g mdX6_stepOverSign 98 [none, none] [] (cW t w14) 0 0 none (cW t q) := by
      obtain rfl := Option.some.inj hf
      exact o_return (pc := 98) dX6_stepOverSign_98 rfl (Nat.zero_le _) (Nat.zero_le _)
    clear hf
    have KB12 : (b10 = true → Rn g mdX6_stepOverSign 76 [some (.ref 1), some (.int w7)] [] (cW t s3) 0 0 none (cW t q)) ∧ (¬ b10 = true → Rn g mdX6_stepOverSign 98 [some (.ref 1), some (.int w7)] [] (cW t s3) 0 0 none (cW t q)) := by
      refine ⟨fun hc => ?_, fun hc => ?_⟩
      · have hr15 := it_t hr15 hc
        refine o_aload_n (pc := 76) dX6_stepOverSign_76 rfl ?_
        refine o_dup (pc := 77) dX6_stepOverSign_77 rfl ?_
        refine c_getI (pc := 78) 5 4 1 (by decide) (by decide) rfl (lt48 (by decide)) rfl lkX6_25 dX6_stepOverSign_78 ?_
        refine o_sipush (pc := 81) (v := 256) dX6_stepOverSign_81 rfl ?_
        refine o_iadd (pc := 84) dX6_stepOverSign_84 ?_
        refine c_putI (pc := 85) 5 4 1 (by decide) (by decide) rfl rfl (lt48 (by decide)) rfl lkX6_25 ⟨rfl, rfl⟩ dX6_stepOverSign_85 ?_
        refine lz_s (cW t) hr15 (fun s17 hr15 => ?_)
        show Rn g mdX6_stepOverSign 88 [some (.ref 1), some (.int w7)] [] (cW t s17) 0 0 none (cW t q)
        refine o_aload_n (pc := 88) dX6_stepOverSign_88 rfl ?_
        refine o_dup (pc := 89) dX6_stepOverSign_89 rfl ?_
        refine c_getI (pc := 90) 5 2 1 (by decide) (by decide) rfl (lt48 (by decide)) rfl lkX6_19 dX6_stepOverSign_90 ?_
        refine o_iconst (pc := 93) (v := 1) dX6_stepOverSign_93 rfl ?_
        refine o_iadd (pc := 94) dX6_stepOverSign_94 ?_
        refine c_putI (pc := 95) 5 2 1 (by decide) (by decide) rfl rfl (lt48 (by decide)) rfl lkX6_19 ⟨rfl, rfl⟩ dX6_stepOverSign_95 ?_
        refine lz_s (cW t) hr15 (fun s18 hr15 => ?_)
        show Rn g mdX6_stepOverSign 98 [some (.ref 1), some (.int w7)] [] (cW t s18) 0 0 none (cW t q)
        obtain rfl := Option.some.inj hr15
        refine o_keep [false, false] ?_
        exact K16
      · have hr15 := it_f hr15 hc
        obtain rfl := Option.some.inj hr15
        refine o_keep [false, false] ?_
        exact K16
    clear hr15
    refine o_if_eq (pc := 48) 98 dX6_stepOverSign_48 rfl (fun hc => ?_) (fun hc => ?_)
    · have hr11 := it_t hr11 hc
      obtain rfl := Option.some.inj hr11
      exact KB12.2 (by decide)
    · have hr11 := it_f hr11 hc
      refine o_aload_n (pc := 51) dX6_stepOverSign_51 rfl ?_
      refine c_getI (pc := 52) 5 2 1 (by decide) (by decide) rfl (lt48 (by decide)) rfl lkX6_19 dX6_stepOverSign_52 ?_
      refine o_aload_n (pc := 55) dX6_stepOverSign_55 rfl ?_
      refine c_getI (pc := 56) 5 1 1 (by decide) (by decide) rfl (lt48 (by decide)) rfl lkX6_15 dX6_stepOverSign_56 ?_
      refine o_icmp_ge (pc := 59) 98 dX6_stepOverSign_59 rfl (fun hc => ?_) (fun hc => ?_)
      · have hr11 := it_t hr11 hc
        obtain rfl := Option.some.inj hr11
        exact KB12.2 (by decide)
      · have hr11 := it_f hr11 hc
        refine o_aload_n (pc := 62) dX6_stepOverSign_62 rfl ?_
        refine c_getR (pc := 63) 5 0 1 2 (by decide) (by decide) rfl (lt48 (by decide)) rfl rfl lkX6_9 dX6_stepOverSign_63 ?_
        refine o_aload_n (pc := 66) dX6_stepOverSign_66 rfl ?_
        refine c_getI (pc := 67) 5 2 1 (by decide) (by decide) rfl (lt48 (by decide)) rfl lkX6_19 dX6_stepOverSign_67 ?_
        obtain ⟨hk13, hr11⟩ := ck_elim hr11
        refine c_iald (pc := 70) (lt48 (by decide)) rfl hk13 dX6_stepOverSign_70 ?_
        refine o_bipush (pc := 71) (v := 61) dX6_stepOverSign_71 rfl ?_
        refine o_icmp_ne (pc := 73) 98 dX6_stepOverSign_73 rfl (fun hc => ?_) (fun hc => ?_)
        · have hr11 := it_f hr11 hc
          obtain rfl := Option.some.inj hr11
          exact KB12.2 (by decide)
        · have hr11 := it_t hr11 hc
          obtain rfl := Option.some.inj hr11
          exact KB12.1 rfl
  clear hf
  have KB6 : (b4 = true → Rn g mdX6_stepOverSign 41 [some (.ref 1), none] [] (cW t s3) 0 0 none (cW t q)) ∧ (¬ b4 = true → Rn g mdX6_stepOverSign 45 [some (.ref 1), none] [] (cW t s3) 0 0 none (cW t q)) := by
    refine ⟨fun hc => ?_, fun hc => ?_⟩
    · have hr8 := it_t hr8 hc
      refine o_iconst (pc := 41) (v := 1) dX6_stepOverSign_41 rfl ?_
      refine o_goto (pc := 42) 46 dX6_stepOverSign_42 rfl ?_
      obtain rfl := Option.some.inj hr8
      exact K9
    · have hr8 := it_f hr8 hc
      refine o_iconst (pc := 45) (v := 0) dX6_stepOverSign_45 rfl ?_
      obtain rfl := Option.some.inj hr8
      exact K9
  clear hr8
  refine o_icmp_eq (pc := 29) 41 dX6_stepOverSign_29 rfl (fun hc => ?_) (fun hc => ?_)
  · have hr5 := it_t hr5 hc
    obtain rfl := Option.some.inj hr5
    exact KB6.1 rfl
  · have hr5 := it_f hr5 hc
    refine o_aload_n (pc := 32) dX6_stepOverSign_32 rfl ?_
    refine c_getI (pc := 33) 5 4 1 (by decide) (by decide) rfl (lt48 (by decide)) rfl lkX6_25 dX6_stepOverSign_33 ?_
    refine o_bipush (pc := 36) (v := 62) dX6_stepOverSign_36 rfl ?_
    refine o_icmp_ne (pc := 38) 45 dX6_stepOverSign_38 rfl (fun hc => ?_) (fun hc => ?_)
    · have hr5 := it_f hr5 hc
      obtain rfl := Option.some.inj hr5
      exact KB6.2 (by decide)
    · have hr5 := it_t hr5 hc
      obtain rfl := Option.some.inj hr5
      exact KB6.1 rfl
def fX6_step_L0 : Nat → ST → Option (ST)
  | 0, _ => none
  | n + 1, s => (if (gi s 1 1) ≤ (gi s 1 2) then some false else ck (inb (gi s 1 2) 400) (if (gi s 2 (ix (gi s 1 2))) = 32 then some true else some false) : Option Bool).bind (fun b1 => if b1 = true then lt (si s 1 2 ((gi s 1 2) + 1)) (fun s5 => fX6_step_L0 n s5) else some s)
def fX6_step (s : ST) : Option (ST) :=
  (fX6_step_L0 FUEL s).bind (fun w6 => lt (si w6 1 5 (gi w6 1 2)) (fun s9 => (if (gi s9 1 2) < (gi s9 1 1) then ck (inb (gi s9 1 2) 400) ((fX6_isDigit (gi s9 2 (ix (gi s9 1 2))) s9).bind (fun q15 => if q15 = 0 then ck (inb (gi s9 1 2) 400) ((fX6_isLetter (gi s9 2 (ix (gi s9 1 2))) s9).bind (fun q18 => if q18 = 0 then (fX6_stepOverSign s9).bind (fun q20 => some q20) else (fX6_stepOverLetters s9).bind (fun q22 => some q22))) else (fX6_stepOverDigits s9).bind (fun q24 => some q24))) else lt (si s9 1 4 (-1)) (fun s25 => some s25) : Option (ST)).bind (fun w10 => some w10)))
set_option maxRecDepth 20000 in
theorem kX6_step_L0 {g : GX} {t : PH} {r : Option Value} {h2 : PH} : ∀ (n : Nat) (s : ST) {w : ST}, fX6_step_L0 n s = some w → Rn g mdX6_step 38 [some (.ref 1)] [] (cW t w) 0 0 r h2 → Rn g mdX6_step 0 [some (.ref 1)] [] (cW t s) 0 0 r h2 := by
  intro n
  induction n with
  | zero => intro s w hf K; cases hf
  | succ n ih =>
    intro s w hf K
    rw [fX6_step_L0] at hf
    refine o_aload_n (pc := 0) dX6_step_0 rfl ?_
    refine c_getI (pc := 1) 5 2 1 (by decide) (by decide) rfl (lt48 (by decide)) rfl lkX6_19 dX6_step_1 ?_
    refine o_aload_n (pc := 4) dX6_step_4 rfl ?_
    refine c_getI (pc := 5) 5 1 1 (by decide) (by decide) rfl (lt48 (by decide)) rfl lkX6_15 dX6_step_5 ?_
    obtain ⟨b1, hr2, hf⟩ := bd_elim hf
    have KB3 : (b1 = true → Rn g mdX6_step 25 [some (.ref 1)] [] (cW t s) 0 0 r h2) ∧ (¬ b1 = true → Rn g mdX6_step 38 [some (.ref 1)] [] (cW t s) 0 0 r h2) := by
      refine ⟨fun hc => ?_, fun hc => ?_⟩
      · have hf := it_t hf hc
        refine o_aload_n (pc := 25) dX6_step_25 rfl ?_
        refine o_dup (pc := 26) dX6_step_26 rfl ?_
        refine c_getI (pc := 27) 5 2 1 (by decide) (by decide) rfl (lt48 (by decide)) rfl lkX6_19 dX6_step_27 ?_
        refine o_iconst (pc := 30) (v := 1) dX6_step_30 rfl ?_
        refine o_iadd (pc := 31) dX6_step_31 ?_
        refine c_putI (pc := 32) 5 2 1 (by decide) (by decide) rfl rfl (lt48 (by decide)) rfl lkX6_19 ⟨rfl, rfl⟩ dX6_step_32 ?_
        refine lz_s (cW t) hf (fun s5 hf => ?_)
        show Rn g mdX6_step 35 [some (.ref 1)] [] (cW t s5) 0 0 r h2
        refine o_goto (pc := 35) 0 dX6_step_35 rfl ?_
        exact ih _ hf K
      · have hf := it_f hf hc
        obtain rfl := Option.some.inj hf
        exact K
    clear hf
    refine o_icmp_ge (pc := 8) 38 dX6_step_8 rfl (fun hc => ?_) (fun hc => ?_)
    · have hr2 := it_t hr2 hc
      obtain rfl := Option.some.inj hr2
      exact KB3.2 (by decide)
    · have hr2 := it_f hr2 hc
      refine o_aload_n (pc := 11) dX6_step_11 rfl ?_
      refine c_getR (pc := 12) 5 0 1 2 (by decide) (by decide) rfl (lt48 (by decide)) rfl rfl lkX6_9 dX6_step_12 ?_
      refine o_aload_n (pc := 15) dX6_step_15 rfl ?_
      refine c_getI (pc := 16) 5 2 1 (by decide) (by decide) rfl (lt48 (by decide)) rfl lkX6_19 dX6_step_16 ?_
      obtain ⟨hk4, hr2⟩ := ck_elim hr2
      refine c_iald (pc := 19) (lt48 (by decide)) rfl hk4 dX6_step_19 ?_
      refine o_bipush (pc := 20) (v := 32) dX6_step_20 rfl ?_
      refine o_icmp_ne (pc := 22) 38 dX6_step_22 rfl (fun hc => ?_) (fun hc => ?_)
      · have hr2 := it_f hr2 hc
        obtain rfl := Option.some.inj hr2
        exact KB3.2 (by decide)
      · have hr2 := it_t hr2 hc
        obtain rfl := Option.some.inj hr2
        exact KB3.1 rfl
set_option maxRecDepth 20000 in
theorem kX6_step {g : GX} {t : PH} {s : ST} {q : ST} (hf : fX6_step s = some q) : Cn g mdX6_step [.ref 1] (cW t s) none (cW t q) := by
  refine Cn.of (by decide) (Nat.le_of_ble_eq_true rfl) ?_
  show Rn g mdX6_step 0 [some (.ref 1)] [] (cW t s) 0 0 none (cW t q)
  unfold fX6_step at hf
  obtain ⟨w6, hl7, hf⟩ := bd_elim hf
  have K8 : Rn g mdX6_step 38 [some (.ref 1)] [] (cW t w6) 0 0 none (cW t q) := by
    refine o_aload_n (pc := 38) dX6_step_38 rfl ?_
    refine o_aload_n (pc := 39) dX6_step_39 rfl ?_
    refine c_getI (pc := 40) 5 2 1 (by decide) (by decide) rfl (lt48 (by decide)) rfl lkX6_19 dX6_step_40 ?_
    refine c_putI (pc := 43) 5 5 1 (by decide) (by decide) rfl rfl (lt48 (by decide)) rfl lkX6_28 ⟨rfl, rfl⟩ dX6_step_43 ?_
    refine lz_s (cW t) hf (fun s9 hf => ?_)
    show Rn g mdX6_step 46 [some (.ref 1)] [] (cW t s9) 0 0 none (cW t q)
    refine o_aload_n (pc := 46) dX6_step_46 rfl ?_
    refine c_getI (pc := 47) 5 2 1 (by decide) (by decide) rfl (lt48 (by decide)) rfl lkX6_19 dX6_step_47 ?_
    refine o_aload_n (pc := 50) dX6_step_50 rfl ?_
    refine c_getI (pc := 51) 5 1 1 (by decide) (by decide) rfl (lt48 (by decide)) rfl lkX6_15 dX6_step_51 ?_
    obtain ⟨w10, hr11, hf⟩ := bd_elim hf
    have K12 : Rn g mdX6_step 113 [none] [] (cW t w10) 0 0 none (cW t q) := by
      obtain rfl := Option.some.inj hf
      exact o_return (pc := 113) dX6_step_113 rfl (Nat.zero_le _) (Nat.zero_le _)
    clear hf
    refine o_icmp_lt (pc := 54) 65 dX6_step_54 rfl (fun hc => ?_) (fun hc => ?_)
    · have hr11 := it_t hr11 hc
      refine o_aload_n (pc := 65) dX6_step_65 rfl ?_
      refine c_getR (pc := 66) 5 0 1 2 (by decide) (by decide) rfl (lt48 (by decide)) rfl rfl lkX6_9 dX6_step_66 ?_
      refine o_aload_n (pc := 69) dX6_step_69 rfl ?_
      refine c_getI (pc := 70) 5 2 1 (by decide) (by decide) rfl (lt48 (by decide)) rfl lkX6_19 dX6_step_70 ?_
      obtain ⟨hk13, hr11⟩ := ck_elim hr11
      refine c_iald (pc := 73) (lt48 (by decide)) rfl hk13 dX6_step_73 ?_
      obtain ⟨q15, hk14, hr11⟩ := bd_elim hr11
      refine c_callS (pc := 74) [.int (gi s9 2 (ix (gi s9 1 2)))] dX6_step_74 (kX6_isDigit hk14) stX6_34 ⟨by decide, by decide, by decide, by decide⟩ ⟨rfl, rfl⟩ (Nat.le_of_ble_eq_true rfl) ?_
      show Rn g mdX6_step 77 [some (.ref 1)] [.int q15] (cW t s9) 0 0 none (cW t q)
      refine o_if_eq (pc := 77) 87 dX6_step_77 rfl (fun hc => ?_) (fun hc => ?_)
      · have hr11 := it_t hr11 hc
        refine o_aload_n (pc := 87) dX6_step_87 rfl ?_
        refine c_getR (pc := 88) 5 0 1 2 (by decide) (by decide) rfl (lt48 (by decide)) rfl rfl lkX6_9 dX6_step_88 ?_
        refine o_aload_n (pc := 91) dX6_step_91 rfl ?_
        refine c_getI (pc := 92) 5 2 1 (by decide) (by decide) rfl (lt48 (by decide)) rfl lkX6_19 dX6_step_92 ?_
        obtain ⟨hk16, hr11⟩ := ck_elim hr11
        refine c_iald (pc := 95) (lt48 (by decide)) rfl hk16 dX6_step_95 ?_
        obtain ⟨q18, hk17, hr11⟩ := bd_elim hr11
        refine c_callS (pc := 96) [.int (gi s9 2 (ix (gi s9 1 2)))] dX6_step_96 (kX6_isLetter hk17) stX6_41 ⟨by decide, by decide, by decide, by decide⟩ ⟨rfl, rfl⟩ (Nat.le_of_ble_eq_true rfl) ?_
        show Rn g mdX6_step 99 [some (.ref 1)] [.int q18] (cW t s9) 0 0 none (cW t q)
        refine o_if_eq (pc := 99) 109 dX6_step_99 rfl (fun hc => ?_) (fun hc => ?_)
        · have hr11 := it_t hr11 hc
          refine o_aload_n (pc := 109) dX6_step_109 rfl ?_
          obtain ⟨q20, hk19, hr11⟩ := bd_elim hr11
          refine c_callV (pc := 110) 5 1 [] (by decide) (lt48 (by decide)) rfl dX6_step_110 (kX6_stepOverSign hk19) stX6_47 ⟨by decide, by decide, by decide, by decide⟩ ⟨rfl, rfl⟩ (Nat.le_of_ble_eq_true rfl) ?_
          show Rn g mdX6_step 113 [some (.ref 1)] [] (cW t q20) 0 0 none (cW t q)
          obtain rfl := Option.some.inj hr11
          refine o_keep [false] ?_
          exact K12
        · have hr11 := it_f hr11 hc
          refine o_aload_n (pc := 102) dX6_step_102 rfl ?_
          obtain ⟨q22, hk21, hr11⟩ := bd_elim hr11
          refine c_callV (pc := 103) 5 1 [] (by decide) (lt48 (by decide)) rfl dX6_step_103 (kX6_stepOverLetters hk21) stX6_44 ⟨by decide, by decide, by decide, by decide⟩ ⟨rfl, rfl⟩ (Nat.le_of_ble_eq_true rfl) ?_
          show Rn g mdX6_step 106 [some (.ref 1)] [] (cW t q22) 0 0 none (cW t q)
          refine o_goto (pc := 106) 113 dX6_step_106 rfl ?_
          obtain rfl := Option.some.inj hr11
          refine o_keep [false] ?_
          exact K12
      · have hr11 := it_f hr11 hc
        refine o_aload_n (pc := 80) dX6_step_80 rfl ?_
        obtain ⟨q24, hk23, hr11⟩ := bd_elim hr11
        refine c_callV (pc := 81) 5 1 [] (by decide) (lt48 (by decide)) rfl dX6_step_81 (kX6_stepOverDigits hk23) stX6_38 ⟨by decide, by decide, by decide, by decide⟩ ⟨rfl, rfl⟩ (Nat.le_of_ble_eq_true rfl) ?_
        show Rn g mdX6_step 84 [some (.ref 1)] [] (cW t q24) 0 0 none (cW t q)
        refine o_goto (pc := 84) 113 dX6_step_84 rfl ?_
        obtain rfl := Option.some.inj hr11
        refine o_keep [false] ?_
        exact K12
    · have hr11 := it_f hr11 hc
      refine o_aload_n (pc := 57) dX6_step_57 rfl ?_
      refine o_iconst (pc := 58) (v := (-1)) dX6_step_58 rfl ?_
      refine c_putI (pc := 59) 5 4 1 (by decide) (by decide) rfl rfl (lt48 (by decide)) rfl lkX6_25 ⟨rfl, rfl⟩ dX6_step_59 ?_
      refine lz_s (cW t) hr11 (fun s25 hr11 => ?_)
      show Rn g mdX6_step 62 [some (.ref 1)] [] (cW t s25) 0 0 none (cW t q)
      refine o_goto (pc := 62) 113 dX6_step_62 rfl ?_
      obtain rfl := Option.some.inj hr11
      refine o_keep [false] ?_
      exact K12
  exact kX6_step_L0 _ _ hl7 K8
def fX8_isClauseBehind (s : ST) : Option (Int32 × ST) :=
  (fX6_step s).bind (fun q2 => (if (gi q2 1 4) = 59 then some false else if (gi q2 1 4) = (-1) then some false else some true : Option Bool).bind (fun b3 => (if b3 = true then (fX6_blame 0 q2).bind (fun q10 => some q10) else some q2 : Option (ST)).bind (fun w6 => (if (gi w6 1 4) = 59 then some 1 else some 0 : Option (Int32)).bind (fun w11 => ck (bz w11) (some (w11, w6))))))
set_option maxRecDepth 20000 in
theorem kX8_isClauseBehind {g : GX} {t : PH} {s : ST} {q : Int32 × ST} (hf : fX8_isClauseBehind s = some q) : Cn g mdX8_isClauseBehind [.ref 3] (cW t s) (some (.int q.1)) (cW t q.2) := by
  refine Cn.of (by decide) (Nat.le_of_ble_eq_true rfl) ?_
  show Rn g mdX8_isClauseBehind 0 [some (.ref 3)] [] (cW t s) 0 0 (some (.int q.1)) (cW t q.2)
  unfold fX8_isClauseBehind at hf
  refine o_aload_n (pc := 0) dX8_isClauseBehind_0 rfl ?_
  refine c_getR (pc := 1) 7 0 3 1 (by decide) (by decide) rfl (lt48 (by decide)) rfl rfl lkX8_22 dX8_isClauseBehind_1 ?_
  obtain ⟨q2, hk1, hf⟩ := bd_elim hf
  refine c_callV (pc := 4) 5 1 [] (by decide) (lt48 (by decide)) rfl dX8_isClauseBehind_4 (kX6_step hk1) stX8_46 ⟨by decide, by decide, by decide, by decide⟩ ⟨rfl, rfl⟩ (Nat.le_of_ble_eq_true rfl) ?_
  show Rn g mdX8_isClauseBehind 7 [some (.ref 3)] [] (cW t q2) 0 0 (some (.int q.1)) (cW t q.2)
  refine o_aload_n (pc := 7) dX8_isClauseBehind_7 rfl ?_
  refine c_getR (pc := 8) 7 0 3 1 (by decide) (by decide) rfl (lt48 (by decide)) rfl rfl lkX8_22 dX8_isClauseBehind_8 ?_
  refine c_getI (pc := 11) 5 4 1 (by decide) (by decide) rfl (lt48 (by decide)) rfl lkX8_49 dX8_isClauseBehind_11 ?_
  refine o_bipush (pc := 14) (v := 59) dX8_isClauseBehind_14 rfl ?_
  obtain ⟨b3, hr4, hf⟩ := bd_elim hf
  obtain ⟨w6, hr7, hf⟩ := bd_elim hf
  have K8 : Rn g mdX8_isClauseBehind 38 [some (.ref 3)] [] (cW t w6) 0 0 (some (.int q.1)) (cW t q.2) := by
    refine o_aload_n (pc := 38) dX8_isClauseBehind_38 rfl ?_
    refine c_getR (pc := 39) 7 0 3 1 (by decide) (by decide) rfl (lt48 (by decide)) rfl rfl lkX8_22 dX8_isClauseBehind_39 ?_
    refine c_getI (pc := 42) 5 4 1 (by decide) (by decide) rfl (lt48 (by decide)) rfl lkX8_49 dX8_isClauseBehind_42 ?_
    refine o_bipush (pc := 45) (v := 59) dX8_isClauseBehind_45 rfl ?_
    obtain ⟨w11, hr12, hf⟩ := bd_elim hf
    have K13 : Rn g mdX8_isClauseBehind 55 [none] [.int w11] (cW t w6) 0 0 (some (.int q.1)) (cW t q.2) := by
      obtain ⟨hk14, hf⟩ := ck_elim hf
      obtain rfl := Option.some.inj hf
      exact o_zreturn (pc := 55) dX8_isClauseBehind_55 rfl (bz_n hk14).1 (Nat.zero_le _) (Nat.zero_le _)
    clear hf
    refine o_icmp_ne (pc := 47) 54 dX8_isClauseBehind_47 rfl (fun hc => ?_) (fun hc => ?_)
    · have hr12 := it_f hr12 hc
      refine o_iconst (pc := 54) (v := 0) dX8_isClauseBehind_54 rfl ?_
      obtain rfl := Option.some.inj hr12
      refine o_keep [false] ?_
      exact K13
    · have hr12 := it_t hr12 hc
      refine o_iconst (pc := 50) (v := 1) dX8_isClauseBehind_50 rfl ?_
      refine o_goto (pc := 51) 55 dX8_isClauseBehind_51 rfl ?_
      obtain rfl := Option.some.inj hr12
      refine o_keep [false] ?_
      exact K13
  clear hf
  have KB5 : (b3 = true → Rn g mdX8_isClauseBehind 30 [some (.ref 3)] [] (cW t q2) 0 0 (some (.int q.1)) (cW t q.2)) ∧ (¬ b3 = true → Rn g mdX8_isClauseBehind 38 [some (.ref 3)] [] (cW t q2) 0 0 (some (.int q.1)) (cW t q.2)) := by
    refine ⟨fun hc => ?_, fun hc => ?_⟩
    · have hr7 := it_t hr7 hc
      refine o_aload_n (pc := 30) dX8_isClauseBehind_30 rfl ?_
      refine c_getR (pc := 31) 7 0 3 1 (by decide) (by decide) rfl (lt48 (by decide)) rfl rfl lkX8_22 dX8_isClauseBehind_31 ?_
      refine o_iconst (pc := 34) (v := 0) dX8_isClauseBehind_34 rfl ?_
      obtain ⟨q10, hk9, hr7⟩ := bd_elim hr7
      refine c_callV (pc := 35) 5 1 [.int 0] (by decide) (lt48 (by decide)) rfl dX8_isClauseBehind_35 (kX6_blame hk9) stX8_52 ⟨by decide, by decide, by decide, by decide⟩ ⟨rfl, rfl⟩ (Nat.le_of_ble_eq_true rfl) ?_
      show Rn g mdX8_isClauseBehind 38 [some (.ref 3)] [] (cW t q10) 0 0 (some (.int q.1)) (cW t q.2)
      obtain rfl := Option.some.inj hr7
      exact K8
    · have hr7 := it_f hr7 hc
      obtain rfl := Option.some.inj hr7
      exact K8
  clear hr7
  refine o_icmp_eq (pc := 16) 38 dX8_isClauseBehind_16 rfl (fun hc => ?_) (fun hc => ?_)
  · have hr4 := it_t hr4 hc
    obtain rfl := Option.some.inj hr4
    exact KB5.2 (by decide)
  · have hr4 := it_f hr4 hc
    refine o_aload_n (pc := 19) dX8_isClauseBehind_19 rfl ?_
    refine c_getR (pc := 20) 7 0 3 1 (by decide) (by decide) rfl (lt48 (by decide)) rfl rfl lkX8_22 dX8_isClauseBehind_20 ?_
    refine c_getI (pc := 23) 5 4 1 (by decide) (by decide) rfl (lt48 (by decide)) rfl lkX8_49 dX8_isClauseBehind_23 ?_
    refine o_iconst (pc := 26) (v := (-1)) dX8_isClauseBehind_26 rfl ?_
    refine o_icmp_eq (pc := 27) 38 dX8_isClauseBehind_27 rfl (fun hc => ?_) (fun hc => ?_)
    · have hr4 := it_t hr4 hc
      obtain rfl := Option.some.inj hr4
      exact KB5.2 (by decide)
    · have hr4 := it_f hr4 hc
      obtain rfl := Option.some.inj hr4
      exact KB5.1 rfl
def fX6_isWord_L29 (a1 : Nat) : Nat → Int32 → ST → Option (Int32)
  | 0, _, _ => none
  | n + 1, x2, s => ck (okT a1) (if (tlen a1) ≤ x2 then some 1 else ck (inb ((gi s 1 5) + x2) 400) (ck (okT a1) (ck (inb x2 (txB (a1 - 1000000)).length) (if (gi s 2 (ix ((gi s 1 5) + x2))) = (tch a1 x2) then lt (x2 + 1) (fun v9 => fX6_isWord_L29 a1 n v9 s) else some 0))))
def fX6_isWord (p0 : Nat) (s : ST) : Option (Int32) :=
  (if (gi s 1 4) = (-3) then ck (okT p0) (if ((gi s 1 2) - (gi s 1 5)) = (tlen p0) then some false else some true) else some true : Option Bool).bind (fun b1 => if b1 = true then some 0 else fX6_isWord_L29 p0 FUEL 0 s)
set_option maxRecDepth 20000 in
theorem kX6_isWord_L29 {g : GX} {t : PH} (a1 : Nat) (s : ST) : ∀ (n : Nat) (x2 : Int32) {q : Int32}, fX6_isWord_L29 a1 n x2 s = some q → Rn g mdX6_isWord 29 [some (.ref 1), some (.ref a1), some (.int x2)] [] (cW t s) 0 0 (some (.int q)) (cW t s) := by
  intro n
  induction n with
  | zero => intro x2 q hf; cases hf
  | succ n ih =>
    intro x2 q hf
    rw [fX6_isWord_L29] at hf
    refine o_iload_n (pc := 29) dX6_isWord_29 rfl ?_
    refine o_aload_n (pc := 30) dX6_isWord_30 rfl ?_
    obtain ⟨hk5, hf⟩ := ck_elim hf
    refine o_tlength (pc := 31) hk5 dX6_isWord_31 stX6_50 ⟨by decide, by decide, by decide, by decide⟩ (Nat.le_of_ble_eq_true rfl) ?_
    show Rn g mdX6_isWord 34 [some (.ref 1), some (.ref a1), some (.int x2)] [.int (tlen a1), .int x2] (cW t s) 0 0 (some (.int q)) (cW t s)
    refine o_icmp_ge (pc := 34) 64 dX6_isWord_34 rfl (fun hc => ?_) (fun hc => ?_)
    · have hf := it_t hf hc
      refine o_iconst (pc := 64) (v := 1) dX6_isWord_64 rfl ?_
      obtain rfl := Option.some.inj hf
      exact o_zreturn (pc := 65) dX6_isWord_65 rfl rfl (Nat.zero_le _) (Nat.zero_le _)
    · have hf := it_f hf hc
      refine o_aload_n (pc := 37) dX6_isWord_37 rfl ?_
      refine c_getR (pc := 38) 5 0 1 2 (by decide) (by decide) rfl (lt48 (by decide)) rfl rfl lkX6_9 dX6_isWord_38 ?_
      refine o_aload_n (pc := 41) dX6_isWord_41 rfl ?_
      refine c_getI (pc := 42) 5 5 1 (by decide) (by decide) rfl (lt48 (by decide)) rfl lkX6_28 dX6_isWord_42 ?_
      refine o_iload_n (pc := 45) dX6_isWord_45 rfl ?_
      refine o_iadd (pc := 46) dX6_isWord_46 ?_
      obtain ⟨hk6, hf⟩ := ck_elim hf
      refine c_iald (pc := 47) (lt48 (by decide)) rfl hk6 dX6_isWord_47 ?_
      refine o_aload_n (pc := 48) dX6_isWord_48 rfl ?_
      refine o_iload_n (pc := 49) dX6_isWord_49 rfl ?_
      obtain ⟨hk7, hf⟩ := ck_elim hf
      obtain ⟨hk8, hf⟩ := ck_elim hf
      refine o_tcharAt (pc := 50) hk7 hk8 dX6_isWord_50 stX6_55 ⟨by decide, by decide, by decide, by decide⟩ (Nat.le_of_ble_eq_true rfl) ?_
      show Rn g mdX6_isWord 53 [some (.ref 1), some (.ref a1), some (.int x2)] [.int (tch a1 x2), .int (gi s 2 (ix ((gi s 1 5) + x2)))] (cW t s) 0 0 (some (.int q)) (cW t s)
      refine o_icmp_eq (pc := 53) 58 dX6_isWord_53 rfl (fun hc => ?_) (fun hc => ?_)
      · have hf := it_t hf hc
        refine o_iinc (pc := 58) dX6_isWord_58 rfl (by decide) rfl ?_
        show Rn g mdX6_isWord 61 [some (.ref 1), some (.ref a1), some (.int (x2 + 1))] [] (cW t s) 0 0 (some (.int q)) (cW t s)
        obtain ⟨v9, ev9, hf⟩ := lt_elim hf
        rw [ev9]
        show Rn g mdX6_isWord 61 [some (.ref 1), some (.ref a1), some (.int v9)] [] (cW t s) 0 0 (some (.int q)) (cW t s)
        refine o_goto (pc := 61) 29 dX6_isWord_61 rfl ?_
        exact ih _ hf
      · have hf := it_f hf hc
        refine o_iconst (pc := 56) (v := 0) dX6_isWord_56 rfl ?_
        obtain rfl := Option.some.inj hf
        exact o_zreturn (pc := 57) dX6_isWord_57 rfl rfl (Nat.zero_le _) (Nat.zero_le _)
set_option maxRecDepth 20000 in
theorem kX6_isWord {g : GX} {t : PH} {p0 : Nat} {s : ST} {q : Int32} (hf : fX6_isWord p0 s = some q) : Cn g mdX6_isWord [.ref 1, .ref p0] (cW t s) (some (.int q)) (cW t s) := by
  refine Cn.of (by decide) (Nat.le_of_ble_eq_true rfl) ?_
  show Rn g mdX6_isWord 0 [some (.ref 1), some (.ref p0), none] [] (cW t s) 0 0 (some (.int q)) (cW t s)
  unfold fX6_isWord at hf
  refine o_aload_n (pc := 0) dX6_isWord_0 rfl ?_
  refine c_getI (pc := 1) 5 4 1 (by decide) (by decide) rfl (lt48 (by decide)) rfl lkX6_25 dX6_isWord_1 ?_
  refine o_bipush (pc := 4) (v := (-3)) dX6_isWord_4 rfl ?_
  obtain ⟨b1, hr2, hf⟩ := bd_elim hf
  have KB3 : (b1 = true → Rn g mdX6_isWord 25 [some (.ref 1), some (.ref p0), none] [] (cW t s) 0 0 (some (.int q)) (cW t s)) ∧ (¬ b1 = true → Rn g mdX6_isWord 27 [some (.ref 1), some (.ref p0), none] [] (cW t s) 0 0 (some (.int q)) (cW t s)) := by
    refine ⟨fun hc => ?_, fun hc => ?_⟩
    · have hf := it_t hf hc
      refine o_iconst (pc := 25) (v := 0) dX6_isWord_25 rfl ?_
      obtain rfl := Option.some.inj hf
      exact o_zreturn (pc := 26) dX6_isWord_26 rfl rfl (Nat.zero_le _) (Nat.zero_le _)
    · have hf := it_f hf hc
      refine o_iconst (pc := 27) (v := 0) dX6_isWord_27 rfl ?_
      refine o_istore_n (pc := 28) dX6_isWord_28 (by decide) rfl ?_
      show Rn g mdX6_isWord 29 [some (.ref 1), some (.ref p0), some (.int 0)] [] (cW t s) 0 0 (some (.int q)) (cW t s)
      exact kX6_isWord_L29 _ _ _ _ hf
  clear hf
  refine o_icmp_ne (pc := 6) 25 dX6_isWord_6 rfl (fun hc => ?_) (fun hc => ?_)
  · have hr2 := it_f hr2 hc
    obtain rfl := Option.some.inj hr2
    exact KB3.1 rfl
  · have hr2 := it_t hr2 hc
    refine o_aload_n (pc := 9) dX6_isWord_9 rfl ?_
    refine c_getI (pc := 10) 5 2 1 (by decide) (by decide) rfl (lt48 (by decide)) rfl lkX6_19 dX6_isWord_10 ?_
    refine o_aload_n (pc := 13) dX6_isWord_13 rfl ?_
    refine c_getI (pc := 14) 5 5 1 (by decide) (by decide) rfl (lt48 (by decide)) rfl lkX6_28 dX6_isWord_14 ?_
    refine o_isub (pc := 17) dX6_isWord_17 ?_
    refine o_aload_n (pc := 18) dX6_isWord_18 rfl ?_
    obtain ⟨hk4, hr2⟩ := ck_elim hr2
    refine o_tlength (pc := 19) hk4 dX6_isWord_19 stX6_50 ⟨by decide, by decide, by decide, by decide⟩ (Nat.le_of_ble_eq_true rfl) ?_
    show Rn g mdX6_isWord 22 [some (.ref 1), some (.ref p0), none] [.int (tlen p0), .int ((gi s 1 2) - (gi s 1 5))] (cW t s) 0 0 (some (.int q)) (cW t s)
    refine o_icmp_eq (pc := 22) 27 dX6_isWord_22 rfl (fun hc => ?_) (fun hc => ?_)
    · have hr2 := it_t hr2 hc
      obtain rfl := Option.some.inj hr2
      exact KB3.2 (by decide)
    · have hr2 := it_f hr2 hc
      obtain rfl := Option.some.inj hr2
      exact KB3.1 rfl
def fX8_isClauseWord (s : ST) : Option (Int32) :=
  (fX6_isWord 1000000 s).bind (fun q2 => (if q2 = 0 then (fX6_isWord 1000001 s).bind (fun q7 => if q7 = 0 then (fX6_isWord 1000002 s).bind (fun q9 => if q9 = 0 then (fX6_isWord 1000003 s).bind (fun q11 => if q11 = 0 then (fX6_isWord 1000004 s).bind (fun q13 => if q13 = 0 then some false else some true) else some true) else some true) else some true) else some true : Option Bool).bind (fun b3 => (if b3 = true then some 1 else some 0 : Option (Int32)).bind (fun w14 => ck (bz w14) (some w14))))
set_option maxRecDepth 20000 in
theorem kX8_isClauseWord {g : GX} {t : PH} {s : ST} {q : Int32} (hf : fX8_isClauseWord s = some q) : Cn g mdX8_isClauseWord [.ref 3] (cW t s) (some (.int q)) (cW t s) := by
  refine Cn.of (by decide) (Nat.le_of_ble_eq_true rfl) ?_
  show Rn g mdX8_isClauseWord 0 [some (.ref 3)] [] (cW t s) 0 0 (some (.int q)) (cW t s)
  unfold fX8_isClauseWord at hf
  refine o_aload_n (pc := 0) dX8_isClauseWord_0 rfl ?_
  refine c_getR (pc := 1) 7 0 3 1 (by decide) (by decide) rfl (lt48 (by decide)) rfl rfl lkX8_22 dX8_isClauseWord_1 ?_
  refine o_ldcS (pc := 4) (i := 0) dX8_isClauseWord_4 rfl rfl rfl ?_
  show Rn g mdX8_isClauseWord 6 [some (.ref 3)] [.ref 1000000, .ref 1] (cW t s) 0 0 (some (.int q)) (cW t s)
  obtain ⟨q2, hk1, hf⟩ := bd_elim hf
  refine c_callV (pc := 6) 5 1 [.ref 1000000] (by decide) (lt48 (by decide)) rfl dX8_isClauseWord_6 (kX6_isWord hk1) stX8_56 ⟨by decide, by decide, by decide, by decide⟩ ⟨rfl, rfl⟩ (Nat.le_of_ble_eq_true rfl) ?_
  show Rn g mdX8_isClauseWord 9 [some (.ref 3)] [.int q2] (cW t s) 0 0 (some (.int q)) (cW t s)
  obtain ⟨b3, hr4, hf⟩ := bd_elim hf
  obtain ⟨w14, hr15, hf⟩ := bd_elim hf
  have K16 : Rn g mdX8_isClauseWord 65 [none] [.int w14] (cW t s) 0 0 (some (.int q)) (cW t s) := by
    obtain ⟨hk17, hf⟩ := ck_elim hf
    obtain rfl := Option.some.inj hf
    exact o_zreturn (pc := 65) dX8_isClauseWord_65 rfl (bz_n hk17).1 (Nat.zero_le _) (Nat.zero_le _)
  clear hf
  have KB5 : (b3 = true → Rn g mdX8_isClauseWord 60 [some (.ref 3)] [] (cW t s) 0 0 (some (.int q)) (cW t s)) ∧ (¬ b3 = true → Rn g mdX8_isClauseWord 64 [some (.ref 3)] [] (cW t s) 0 0 (some (.int q)) (cW t s)) := by
    refine ⟨fun hc => ?_, fun hc => ?_⟩
    · have hr15 := it_t hr15 hc
      refine o_iconst (pc := 60) (v := 1) dX8_isClauseWord_60 rfl ?_
      refine o_goto (pc := 61) 65 dX8_isClauseWord_61 rfl ?_
      obtain rfl := Option.some.inj hr15
      refine o_keep [false] ?_
      exact K16
    · have hr15 := it_f hr15 hc
      refine o_iconst (pc := 64) (v := 0) dX8_isClauseWord_64 rfl ?_
      obtain rfl := Option.some.inj hr15
      refine o_keep [false] ?_
      exact K16
  clear hr15
  refine o_if_ne (pc := 9) 60 dX8_isClauseWord_9 rfl (fun hc => ?_) (fun hc => ?_)
  · have hr4 := it_f hr4 hc
    obtain rfl := Option.some.inj hr4
    exact KB5.1 rfl
  · have hr4 := it_t hr4 hc
    refine o_aload_n (pc := 12) dX8_isClauseWord_12 rfl ?_
    refine c_getR (pc := 13) 7 0 3 1 (by decide) (by decide) rfl (lt48 (by decide)) rfl rfl lkX8_22 dX8_isClauseWord_13 ?_
    refine o_ldcS (pc := 16) (i := 1) dX8_isClauseWord_16 rfl rfl rfl ?_
    show Rn g mdX8_isClauseWord 18 [some (.ref 3)] [.ref 1000001, .ref 1] (cW t s) 0 0 (some (.int q)) (cW t s)
    obtain ⟨q7, hk6, hr4⟩ := bd_elim hr4
    refine c_callV (pc := 18) 5 1 [.ref 1000001] (by decide) (lt48 (by decide)) rfl dX8_isClauseWord_18 (kX6_isWord hk6) stX8_56 ⟨by decide, by decide, by decide, by decide⟩ ⟨rfl, rfl⟩ (Nat.le_of_ble_eq_true rfl) ?_
    show Rn g mdX8_isClauseWord 21 [some (.ref 3)] [.int q7] (cW t s) 0 0 (some (.int q)) (cW t s)
    refine o_if_ne (pc := 21) 60 dX8_isClauseWord_21 rfl (fun hc => ?_) (fun hc => ?_)
    · have hr4 := it_f hr4 hc
      obtain rfl := Option.some.inj hr4
      exact KB5.1 rfl
    · have hr4 := it_t hr4 hc
      refine o_aload_n (pc := 24) dX8_isClauseWord_24 rfl ?_
      refine c_getR (pc := 25) 7 0 3 1 (by decide) (by decide) rfl (lt48 (by decide)) rfl rfl lkX8_22 dX8_isClauseWord_25 ?_
      refine o_ldcS (pc := 28) (i := 2) dX8_isClauseWord_28 rfl rfl rfl ?_
      show Rn g mdX8_isClauseWord 30 [some (.ref 3)] [.ref 1000002, .ref 1] (cW t s) 0 0 (some (.int q)) (cW t s)
      obtain ⟨q9, hk8, hr4⟩ := bd_elim hr4
      refine c_callV (pc := 30) 5 1 [.ref 1000002] (by decide) (lt48 (by decide)) rfl dX8_isClauseWord_30 (kX6_isWord hk8) stX8_56 ⟨by decide, by decide, by decide, by decide⟩ ⟨rfl, rfl⟩ (Nat.le_of_ble_eq_true rfl) ?_
      show Rn g mdX8_isClauseWord 33 [some (.ref 3)] [.int q9] (cW t s) 0 0 (some (.int q)) (cW t s)
      refine o_if_ne (pc := 33) 60 dX8_isClauseWord_33 rfl (fun hc => ?_) (fun hc => ?_)
      · have hr4 := it_f hr4 hc
        obtain rfl := Option.some.inj hr4
        exact KB5.1 rfl
      · have hr4 := it_t hr4 hc
        refine o_aload_n (pc := 36) dX8_isClauseWord_36 rfl ?_
        refine c_getR (pc := 37) 7 0 3 1 (by decide) (by decide) rfl (lt48 (by decide)) rfl rfl lkX8_22 dX8_isClauseWord_37 ?_
        refine o_ldcS (pc := 40) (i := 3) dX8_isClauseWord_40 rfl rfl rfl ?_
        show Rn g mdX8_isClauseWord 42 [some (.ref 3)] [.ref 1000003, .ref 1] (cW t s) 0 0 (some (.int q)) (cW t s)
        obtain ⟨q11, hk10, hr4⟩ := bd_elim hr4
        refine c_callV (pc := 42) 5 1 [.ref 1000003] (by decide) (lt48 (by decide)) rfl dX8_isClauseWord_42 (kX6_isWord hk10) stX8_56 ⟨by decide, by decide, by decide, by decide⟩ ⟨rfl, rfl⟩ (Nat.le_of_ble_eq_true rfl) ?_
        show Rn g mdX8_isClauseWord 45 [some (.ref 3)] [.int q11] (cW t s) 0 0 (some (.int q)) (cW t s)
        refine o_if_ne (pc := 45) 60 dX8_isClauseWord_45 rfl (fun hc => ?_) (fun hc => ?_)
        · have hr4 := it_f hr4 hc
          obtain rfl := Option.some.inj hr4
          exact KB5.1 rfl
        · have hr4 := it_t hr4 hc
          refine o_aload_n (pc := 48) dX8_isClauseWord_48 rfl ?_
          refine c_getR (pc := 49) 7 0 3 1 (by decide) (by decide) rfl (lt48 (by decide)) rfl rfl lkX8_22 dX8_isClauseWord_49 ?_
          refine o_ldcS (pc := 52) (i := 4) dX8_isClauseWord_52 rfl rfl rfl ?_
          show Rn g mdX8_isClauseWord 54 [some (.ref 3)] [.ref 1000004, .ref 1] (cW t s) 0 0 (some (.int q)) (cW t s)
          obtain ⟨q13, hk12, hr4⟩ := bd_elim hr4
          refine c_callV (pc := 54) 5 1 [.ref 1000004] (by decide) (lt48 (by decide)) rfl dX8_isClauseWord_54 (kX6_isWord hk12) stX8_56 ⟨by decide, by decide, by decide, by decide⟩ ⟨rfl, rfl⟩ (Nat.le_of_ble_eq_true rfl) ?_
          show Rn g mdX8_isClauseWord 57 [some (.ref 3)] [.int q13] (cW t s) 0 0 (some (.int q)) (cW t s)
          refine o_if_eq (pc := 57) 64 dX8_isClauseWord_57 rfl (fun hc => ?_) (fun hc => ?_)
          · have hr4 := it_t hr4 hc
            obtain rfl := Option.some.inj hr4
            exact KB5.2 (by decide)
          · have hr4 := it_f hr4 hc
            obtain rfl := Option.some.inj hr4
            exact KB5.1 rfl
def fX6_readNumber (p0 : Int32) (p1 : Int32) (s : ST) : Option (Int32 × ST) :=
  if (gi s 1 3) = 0 then (fX6_step s).bind (fun q2 => if (gi q2 1 4) = (-2) then (if (gi q2 1 6) < 0 then some true else if (gi q2 1 6) < p0 then some true else if (gi q2 1 6) ≤ p1 then some false else some true : Option Bool).bind (fun b3 => if b3 = true then (fX6_blame 1 q2).bind (fun q7 => some (0, q7)) else some (gi q2 1 6, q2)) else (fX6_blame 0 q2).bind (fun q9 => some (0, q9))) else some (0, s)
set_option maxRecDepth 20000 in
theorem kX6_readNumber {g : GX} {t : PH} {p0 : Int32} {p1 : Int32} {s : ST} {q : Int32 × ST} (hf : fX6_readNumber p0 p1 s = some q) : Cn g mdX6_readNumber [.ref 1, .int p0, .int p1] (cW t s) (some (.int q.1)) (cW t q.2) := by
  refine Cn.of (by decide) (Nat.le_of_ble_eq_true rfl) ?_
  show Rn g mdX6_readNumber 0 [some (.ref 1), some (.int p0), some (.int p1)] [] (cW t s) 0 0 (some (.int q.1)) (cW t q.2)
  unfold fX6_readNumber at hf
  refine o_aload_n (pc := 0) dX6_readNumber_0 rfl ?_
  refine c_getI (pc := 1) 5 3 1 (by decide) (by decide) rfl (lt48 (by decide)) rfl lkX6_22 dX6_readNumber_1 ?_
  refine o_if_eq (pc := 4) 9 dX6_readNumber_4 rfl (fun hc => ?_) (fun hc => ?_)
  · have hf := it_t hf hc
    refine o_aload_n (pc := 9) dX6_readNumber_9 rfl ?_
    obtain ⟨q2, hk1, hf⟩ := bd_elim hf
    refine c_callV (pc := 10) 5 1 [] (by decide) (lt48 (by decide)) rfl dX6_readNumber_10 (kX6_step hk1) stX6_59 ⟨by decide, by decide, by decide, by decide⟩ ⟨rfl, rfl⟩ (Nat.le_of_ble_eq_true rfl) ?_
    show Rn g mdX6_readNumber 13 [some (.ref 1), some (.int p0), some (.int p1)] [] (cW t q2) 0 0 (some (.int q.1)) (cW t q.2)
    refine o_aload_n (pc := 13) dX6_readNumber_13 rfl ?_
    refine c_getI (pc := 14) 5 4 1 (by decide) (by decide) rfl (lt48 (by decide)) rfl lkX6_25 dX6_readNumber_14 ?_
    refine o_bipush (pc := 17) (v := (-2)) dX6_readNumber_17 rfl ?_
    refine o_icmp_eq (pc := 19) 29 dX6_readNumber_19 rfl (fun hc => ?_) (fun hc => ?_)
    · have hf := it_t hf hc
      refine o_aload_n (pc := 29) dX6_readNumber_29 rfl ?_
      refine c_getI (pc := 30) 5 6 1 (by decide) (by decide) rfl (lt48 (by decide)) rfl lkX6_31 dX6_readNumber_30 ?_
      obtain ⟨b3, hr4, hf⟩ := bd_elim hf
      have KB5 : (b3 = true → Rn g mdX6_readNumber 52 [some (.ref 1), some (.int p0), some (.int p1)] [] (cW t q2) 0 0 (some (.int q.1)) (cW t q.2)) ∧ (¬ b3 = true → Rn g mdX6_readNumber 59 [some (.ref 1), some (.int p0), some (.int p1)] [] (cW t q2) 0 0 (some (.int q.1)) (cW t q.2)) := by
        refine ⟨fun hc => ?_, fun hc => ?_⟩
        · have hf := it_t hf hc
          refine o_aload_n (pc := 52) dX6_readNumber_52 rfl ?_
          refine o_iconst (pc := 53) (v := 1) dX6_readNumber_53 rfl ?_
          obtain ⟨q7, hk6, hf⟩ := bd_elim hf
          refine c_callV (pc := 54) 5 1 [.int 1] (by decide) (lt48 (by decide)) rfl dX6_readNumber_54 (kX6_blame hk6) stX6_62 ⟨by decide, by decide, by decide, by decide⟩ ⟨rfl, rfl⟩ (Nat.le_of_ble_eq_true rfl) ?_
          show Rn g mdX6_readNumber 57 [some (.ref 1), some (.int p0), some (.int p1)] [] (cW t q7) 0 0 (some (.int q.1)) (cW t q.2)
          refine o_iconst (pc := 57) (v := 0) dX6_readNumber_57 rfl ?_
          obtain rfl := Option.some.inj hf
          exact o_ireturn (pc := 58) dX6_readNumber_58 rfl (Nat.zero_le _) (Nat.zero_le _)
        · have hf := it_f hf hc
          refine o_aload_n (pc := 59) dX6_readNumber_59 rfl ?_
          refine c_getI (pc := 60) 5 6 1 (by decide) (by decide) rfl (lt48 (by decide)) rfl lkX6_31 dX6_readNumber_60 ?_
          obtain rfl := Option.some.inj hf
          exact o_ireturn (pc := 63) dX6_readNumber_63 rfl (Nat.zero_le _) (Nat.zero_le _)
      clear hf
      refine o_if_lt (pc := 33) 52 dX6_readNumber_33 rfl (fun hc => ?_) (fun hc => ?_)
      · have hr4 := it_t hr4 hc
        obtain rfl := Option.some.inj hr4
        exact KB5.1 rfl
      · have hr4 := it_f hr4 hc
        refine o_aload_n (pc := 36) dX6_readNumber_36 rfl ?_
        refine c_getI (pc := 37) 5 6 1 (by decide) (by decide) rfl (lt48 (by decide)) rfl lkX6_31 dX6_readNumber_37 ?_
        refine o_iload_n (pc := 40) dX6_readNumber_40 rfl ?_
        refine o_icmp_lt (pc := 41) 52 dX6_readNumber_41 rfl (fun hc => ?_) (fun hc => ?_)
        · have hr4 := it_t hr4 hc
          obtain rfl := Option.some.inj hr4
          exact KB5.1 rfl
        · have hr4 := it_f hr4 hc
          refine o_aload_n (pc := 44) dX6_readNumber_44 rfl ?_
          refine c_getI (pc := 45) 5 6 1 (by decide) (by decide) rfl (lt48 (by decide)) rfl lkX6_31 dX6_readNumber_45 ?_
          refine o_iload_n (pc := 48) dX6_readNumber_48 rfl ?_
          refine o_icmp_le (pc := 49) 59 dX6_readNumber_49 rfl (fun hc => ?_) (fun hc => ?_)
          · have hr4 := it_t hr4 hc
            obtain rfl := Option.some.inj hr4
            exact KB5.2 (by decide)
          · have hr4 := it_f hr4 hc
            obtain rfl := Option.some.inj hr4
            exact KB5.1 rfl
    · have hf := it_f hf hc
      refine o_aload_n (pc := 22) dX6_readNumber_22 rfl ?_
      refine o_iconst (pc := 23) (v := 0) dX6_readNumber_23 rfl ?_
      obtain ⟨q9, hk8, hf⟩ := bd_elim hf
      refine c_callV (pc := 24) 5 1 [.int 0] (by decide) (lt48 (by decide)) rfl dX6_readNumber_24 (kX6_blame hk8) stX6_62 ⟨by decide, by decide, by decide, by decide⟩ ⟨rfl, rfl⟩ (Nat.le_of_ble_eq_true rfl) ?_
      show Rn g mdX6_readNumber 27 [some (.ref 1), some (.int p0), some (.int p1)] [] (cW t q9) 0 0 (some (.int q.1)) (cW t q.2)
      refine o_iconst (pc := 27) (v := 0) dX6_readNumber_27 rfl ?_
      obtain rfl := Option.some.inj hf
      exact o_ireturn (pc := 28) dX6_readNumber_28 rfl (Nat.zero_le _) (Nat.zero_le _)
  · have hf := it_f hf hc
    refine o_iconst (pc := 7) (v := 0) dX6_readNumber_7 rfl ?_
    obtain rfl := Option.some.inj hf
    exact o_ireturn (pc := 8) dX6_readNumber_8 rfl (Nat.zero_le _) (Nat.zero_le _)
def fX8_readExempt (s : ST) : Option (ST) :=
  (fX6_readNumber 0 ((gi s 4 7) - 1) s).bind (fun q2 => (if (gi q2.2 1 3) = 0 then lt (si q2.2 4 6 ((gi q2.2 4 6) ||| (1 <<< (q2.1 &&& 31)))) (fun s6 => some s6) else some q2.2 : Option (ST)).bind (fun w3 => some w3))
set_option maxRecDepth 20000 in
theorem kX8_readExempt {g : GX} {t : PH} {s : ST} {q : ST} (hf : fX8_readExempt s = some q) : Cn g mdX8_readExempt [.ref 3] (cW t s) none (cW t q) := by
  refine Cn.of (by decide) (Nat.le_of_ble_eq_true rfl) ?_
  show Rn g mdX8_readExempt 0 [some (.ref 3), none] [] (cW t s) 0 0 none (cW t q)
  unfold fX8_readExempt at hf
  refine o_aload_n (pc := 0) dX8_readExempt_0 rfl ?_
  refine c_getR (pc := 1) 7 0 3 1 (by decide) (by decide) rfl (lt48 (by decide)) rfl rfl lkX8_22 dX8_readExempt_1 ?_
  refine o_iconst (pc := 4) (v := 0) dX8_readExempt_4 rfl ?_
  refine o_aload_n (pc := 5) dX8_readExempt_5 rfl ?_
  refine c_getR (pc := 6) 7 1 3 4 (by decide) (by decide) rfl (lt48 (by decide)) rfl rfl lkX8_12 dX8_readExempt_6 ?_
  refine c_getI (pc := 9) 6 7 4 (by decide) (by decide) rfl (lt48 (by decide)) rfl lkX8_107 dX8_readExempt_9 ?_
  refine o_iconst (pc := 12) (v := 1) dX8_readExempt_12 rfl ?_
  refine o_isub (pc := 13) dX8_readExempt_13 ?_
  obtain ⟨q2, hk1, hf⟩ := bd_elim hf
  refine c_callV (pc := 14) 5 1 [.int 0, .int ((gi s 4 7) - 1)] (by decide) (lt48 (by decide)) rfl dX8_readExempt_14 (kX6_readNumber hk1) stX8_86 ⟨by decide, by decide, by decide, by decide⟩ ⟨rfl, rfl⟩ (Nat.le_of_ble_eq_true rfl) ?_
  show Rn g mdX8_readExempt 17 [some (.ref 3), none] [.int q2.1] (cW t q2.2) 0 0 none (cW t q)
  refine o_istore_n (pc := 17) dX8_readExempt_17 (by decide) rfl ?_
  show Rn g mdX8_readExempt 18 [some (.ref 3), some (.int q2.1)] [] (cW t q2.2) 0 0 none (cW t q)
  refine o_aload_n (pc := 18) dX8_readExempt_18 rfl ?_
  refine c_getR (pc := 19) 7 0 3 1 (by decide) (by decide) rfl (lt48 (by decide)) rfl rfl lkX8_22 dX8_readExempt_19 ?_
  refine c_getI (pc := 22) 5 3 1 (by decide) (by decide) rfl (lt48 (by decide)) rfl lkX8_38 dX8_readExempt_22 ?_
  obtain ⟨w3, hr4, hf⟩ := bd_elim hf
  have K5 : Rn g mdX8_readExempt 43 [none, none] [] (cW t w3) 0 0 none (cW t q) := by
    obtain rfl := Option.some.inj hf
    exact o_return (pc := 43) dX8_readExempt_43 rfl (Nat.zero_le _) (Nat.zero_le _)
  clear hf
  refine o_if_ne (pc := 25) 43 dX8_readExempt_25 rfl (fun hc => ?_) (fun hc => ?_)
  · have hr4 := it_f hr4 hc
    obtain rfl := Option.some.inj hr4
    refine o_keep [false, false] ?_
    exact K5
  · have hr4 := it_t hr4 hc
    refine o_aload_n (pc := 28) dX8_readExempt_28 rfl ?_
    refine c_getR (pc := 29) 7 1 3 4 (by decide) (by decide) rfl (lt48 (by decide)) rfl rfl lkX8_12 dX8_readExempt_29 ?_
    refine o_dup (pc := 32) dX8_readExempt_32 rfl ?_
    refine c_getI (pc := 33) 6 6 4 (by decide) (by decide) rfl (lt48 (by decide)) rfl lkX8_117 dX8_readExempt_33 ?_
    refine o_iconst (pc := 36) (v := 1) dX8_readExempt_36 rfl ?_
    refine o_iload_n (pc := 37) dX8_readExempt_37 rfl ?_
    refine o_ishl (pc := 38) dX8_readExempt_38 ?_
    refine o_ior (pc := 39) dX8_readExempt_39 ?_
    refine c_putI (pc := 40) 6 6 4 (by decide) (by decide) rfl rfl (lt48 (by decide)) rfl lkX8_117 ⟨rfl, rfl⟩ dX8_readExempt_40 ?_
    refine lz_s (cW t) hr4 (fun s6 hr4 => ?_)
    show Rn g mdX8_readExempt 43 [some (.ref 3), some (.int q2.1)] [] (cW t s6) 0 0 none (cW t q)
    obtain rfl := Option.some.inj hr4
    refine o_keep [false, false] ?_
    exact K5
def fX8_readFines (s : ST) : Option (ST) :=
  if (gi s 3 2) = 0 then lt (si s 3 2 1) (fun s1 => (fX6_readNumber 0 9 s1).bind (fun q3 => lt (si q3.2 4 4 q3.1) (fun s4 => (fX6_readNumber 0 9 s4).bind (fun q6 => lt (si q6.2 4 5 q6.1) (fun s7 => some s7))))) else (fX6_blame 4 s).bind (fun q9 => some q9)
set_option maxRecDepth 20000 in
theorem kX8_readFines {g : GX} {t : PH} {s : ST} {q : ST} (hf : fX8_readFines s = some q) : Cn g mdX8_readFines [.ref 3] (cW t s) none (cW t q) := by
  refine Cn.of (by decide) (Nat.le_of_ble_eq_true rfl) ?_
  show Rn g mdX8_readFines 0 [some (.ref 3)] [] (cW t s) 0 0 none (cW t q)
  unfold fX8_readFines at hf
  refine o_aload_n (pc := 0) dX8_readFines_0 rfl ?_
  refine c_getI (pc := 1) 7 2 3 (by decide) (by decide) rfl (lt48 (by decide)) rfl lkX8_18 dX8_readFines_1 ?_
  refine o_if_eq (pc := 4) 16 dX8_readFines_4 rfl (fun hc => ?_) (fun hc => ?_)
  · have hf := it_t hf hc
    refine o_aload_n (pc := 16) dX8_readFines_16 rfl ?_
    refine o_iconst (pc := 17) (v := 1) dX8_readFines_17 rfl ?_
    refine c_putI (pc := 18) 7 2 3 (by decide) (by decide) rfl rfl (lt48 (by decide)) rfl lkX8_18 ⟨rfl, rfl⟩ dX8_readFines_18 ?_
    refine lz_s (cW t) hf (fun s1 hf => ?_)
    show Rn g mdX8_readFines 21 [some (.ref 3)] [] (cW t s1) 0 0 none (cW t q)
    refine o_aload_n (pc := 21) dX8_readFines_21 rfl ?_
    refine c_getR (pc := 22) 7 1 3 4 (by decide) (by decide) rfl (lt48 (by decide)) rfl rfl lkX8_12 dX8_readFines_22 ?_
    refine o_aload_n (pc := 25) dX8_readFines_25 rfl ?_
    refine c_getR (pc := 26) 7 0 3 1 (by decide) (by decide) rfl (lt48 (by decide)) rfl rfl lkX8_22 dX8_readFines_26 ?_
    refine o_iconst (pc := 29) (v := 0) dX8_readFines_29 rfl ?_
    refine o_bipush (pc := 30) (v := 9) dX8_readFines_30 rfl ?_
    obtain ⟨q3, hk2, hf⟩ := bd_elim hf
    refine c_callV (pc := 32) 5 1 [.int 0, .int 9] (by decide) (lt48 (by decide)) rfl dX8_readFines_32 (kX6_readNumber hk2) stX8_86 ⟨by decide, by decide, by decide, by decide⟩ ⟨rfl, rfl⟩ (Nat.le_of_ble_eq_true rfl) ?_
    show Rn g mdX8_readFines 35 [some (.ref 3)] [.int q3.1, .ref 4] (cW t q3.2) 0 0 none (cW t q)
    refine c_putI (pc := 35) 6 4 4 (by decide) (by decide) rfl rfl (lt48 (by decide)) rfl lkX8_134 ⟨rfl, rfl⟩ dX8_readFines_35 ?_
    refine lz_s (cW t) hf (fun s4 hf => ?_)
    show Rn g mdX8_readFines 38 [some (.ref 3)] [] (cW t s4) 0 0 none (cW t q)
    refine o_aload_n (pc := 38) dX8_readFines_38 rfl ?_
    refine c_getR (pc := 39) 7 1 3 4 (by decide) (by decide) rfl (lt48 (by decide)) rfl rfl lkX8_12 dX8_readFines_39 ?_
    refine o_aload_n (pc := 42) dX8_readFines_42 rfl ?_
    refine c_getR (pc := 43) 7 0 3 1 (by decide) (by decide) rfl (lt48 (by decide)) rfl rfl lkX8_22 dX8_readFines_43 ?_
    refine o_iconst (pc := 46) (v := 0) dX8_readFines_46 rfl ?_
    refine o_bipush (pc := 47) (v := 9) dX8_readFines_47 rfl ?_
    obtain ⟨q6, hk5, hf⟩ := bd_elim hf
    refine c_callV (pc := 49) 5 1 [.int 0, .int 9] (by decide) (lt48 (by decide)) rfl dX8_readFines_49 (kX6_readNumber hk5) stX8_86 ⟨by decide, by decide, by decide, by decide⟩ ⟨rfl, rfl⟩ (Nat.le_of_ble_eq_true rfl) ?_
    show Rn g mdX8_readFines 52 [some (.ref 3)] [.int q6.1, .ref 4] (cW t q6.2) 0 0 none (cW t q)
    refine c_putI (pc := 52) 6 5 4 (by decide) (by decide) rfl rfl (lt48 (by decide)) rfl lkX8_137 ⟨rfl, rfl⟩ dX8_readFines_52 ?_
    refine lz_s (cW t) hf (fun s7 hf => ?_)
    show Rn g mdX8_readFines 55 [some (.ref 3)] [] (cW t s7) 0 0 none (cW t q)
    obtain rfl := Option.some.inj hf
    exact o_return (pc := 55) dX8_readFines_55 rfl (Nat.zero_le _) (Nat.zero_le _)
  · have hf := it_f hf hc
    refine o_aload_n (pc := 7) dX8_readFines_7 rfl ?_
    refine c_getR (pc := 8) 7 0 3 1 (by decide) (by decide) rfl (lt48 (by decide)) rfl rfl lkX8_22 dX8_readFines_8 ?_
    refine o_iconst (pc := 11) (v := 4) dX8_readFines_11 rfl ?_
    obtain ⟨q9, hk8, hf⟩ := bd_elim hf
    refine c_callV (pc := 12) 5 1 [.int 4] (by decide) (lt48 (by decide)) rfl dX8_readFines_12 (kX6_blame hk8) stX8_52 ⟨by decide, by decide, by decide, by decide⟩ ⟨rfl, rfl⟩ (Nat.le_of_ble_eq_true rfl) ?_
    show Rn g mdX8_readFines 15 [some (.ref 3)] [] (cW t q9) 0 0 none (cW t q)
    obtain rfl := Option.some.inj hf
    exact o_return (pc := 15) dX8_readFines_15 rfl (Nat.zero_le _) (Nat.zero_le _)
def fX8_readLaw (s : ST) : Option (ST) :=
  (fX6_readNumber 0 59 s).bind (fun q2 => lt (si q2.2 4 1 q2.1) (fun s3 => (fX6_readNumber (imx 1 (gi s3 4 1)) 60 s3).bind (fun q5 => lt (si q5.2 4 2 q5.1) (fun s6 => (fX6_readNumber 1 99 s6).bind (fun q8 => lt (si q8.2 4 3 q8.1) (fun s9 => (if (gi s9 1 3) = 0 then some 1 else some 0 : Option (Int32)).bind (fun w10 => ck (bz w10) (lt (si s9 4 0 w10) (fun s14 => some s14)))))))))
set_option maxRecDepth 20000 in
theorem kX8_readLaw {g : GX} {t : PH} {s : ST} {q : ST} (hf : fX8_readLaw s = some q) : Cn g mdX8_readLaw [.ref 3] (cW t s) none (cW t q) := by
  refine Cn.of (by decide) (Nat.le_of_ble_eq_true rfl) ?_
  show Rn g mdX8_readLaw 0 [some (.ref 3)] [] (cW t s) 0 0 none (cW t q)
  unfold fX8_readLaw at hf
  refine o_aload_n (pc := 0) dX8_readLaw_0 rfl ?_
  refine c_getR (pc := 1) 7 1 3 4 (by decide) (by decide) rfl (lt48 (by decide)) rfl rfl lkX8_12 dX8_readLaw_1 ?_
  refine o_aload_n (pc := 4) dX8_readLaw_4 rfl ?_
  refine c_getR (pc := 5) 7 0 3 1 (by decide) (by decide) rfl (lt48 (by decide)) rfl rfl lkX8_22 dX8_readLaw_5 ?_
  refine o_iconst (pc := 8) (v := 0) dX8_readLaw_8 rfl ?_
  refine o_bipush (pc := 9) (v := 59) dX8_readLaw_9 rfl ?_
  obtain ⟨q2, hk1, hf⟩ := bd_elim hf
  refine c_callV (pc := 11) 5 1 [.int 0, .int 59] (by decide) (lt48 (by decide)) rfl dX8_readLaw_11 (kX6_readNumber hk1) stX8_86 ⟨by decide, by decide, by decide, by decide⟩ ⟨rfl, rfl⟩ (Nat.le_of_ble_eq_true rfl) ?_
  show Rn g mdX8_readLaw 14 [some (.ref 3)] [.int q2.1, .ref 4] (cW t q2.2) 0 0 none (cW t q)
  refine c_putI (pc := 14) 6 1 4 (by decide) (by decide) rfl rfl (lt48 (by decide)) rfl lkX8_90 ⟨rfl, rfl⟩ dX8_readLaw_14 ?_
  refine lz_s (cW t) hf (fun s3 hf => ?_)
  show Rn g mdX8_readLaw 17 [some (.ref 3)] [] (cW t s3) 0 0 none (cW t q)
  refine o_aload_n (pc := 17) dX8_readLaw_17 rfl ?_
  refine c_getR (pc := 18) 7 1 3 4 (by decide) (by decide) rfl (lt48 (by decide)) rfl rfl lkX8_12 dX8_readLaw_18 ?_
  refine o_aload_n (pc := 21) dX8_readLaw_21 rfl ?_
  refine c_getR (pc := 22) 7 0 3 1 (by decide) (by decide) rfl (lt48 (by decide)) rfl rfl lkX8_22 dX8_readLaw_22 ?_
  refine o_iconst (pc := 25) (v := 1) dX8_readLaw_25 rfl ?_
  refine o_aload_n (pc := 26) dX8_readLaw_26 rfl ?_
  refine c_getR (pc := 27) 7 1 3 4 (by decide) (by decide) rfl (lt48 (by decide)) rfl rfl lkX8_12 dX8_readLaw_27 ?_
  refine c_getI (pc := 30) 6 1 4 (by decide) (by decide) rfl (lt48 (by decide)) rfl lkX8_90 dX8_readLaw_30 ?_
  refine o_max (pc := 33) lmX8_93 dX8_readLaw_33 (by decide) (Nat.le_of_ble_eq_true rfl) (Nat.zero_le _) (Nat.zero_le _) ?_
  show Rn g mdX8_readLaw 36 [some (.ref 3)] [.int (imx 1 (gi s3 4 1)), .ref 1, .ref 4] (cW t s3) 0 0 none (cW t q)
  refine o_bipush (pc := 36) (v := 60) dX8_readLaw_36 rfl ?_
  obtain ⟨q5, hk4, hf⟩ := bd_elim hf
  refine c_callV (pc := 38) 5 1 [.int (imx 1 (gi s3 4 1)), .int 60] (by decide) (lt48 (by decide)) rfl dX8_readLaw_38 (kX6_readNumber hk4) stX8_86 ⟨by decide, by decide, by decide, by decide⟩ ⟨rfl, rfl⟩ (Nat.le_of_ble_eq_true rfl) ?_
  show Rn g mdX8_readLaw 41 [some (.ref 3)] [.int q5.1, .ref 4] (cW t q5.2) 0 0 none (cW t q)
  refine c_putI (pc := 41) 6 2 4 (by decide) (by decide) rfl rfl (lt48 (by decide)) rfl lkX8_98 ⟨rfl, rfl⟩ dX8_readLaw_41 ?_
  refine lz_s (cW t) hf (fun s6 hf => ?_)
  show Rn g mdX8_readLaw 44 [some (.ref 3)] [] (cW t s6) 0 0 none (cW t q)
  refine o_aload_n (pc := 44) dX8_readLaw_44 rfl ?_
  refine c_getR (pc := 45) 7 1 3 4 (by decide) (by decide) rfl (lt48 (by decide)) rfl rfl lkX8_12 dX8_readLaw_45 ?_
  refine o_aload_n (pc := 48) dX8_readLaw_48 rfl ?_
  refine c_getR (pc := 49) 7 0 3 1 (by decide) (by decide) rfl (lt48 (by decide)) rfl rfl lkX8_22 dX8_readLaw_49 ?_
  refine o_iconst (pc := 52) (v := 1) dX8_readLaw_52 rfl ?_
  refine o_bipush (pc := 53) (v := 99) dX8_readLaw_53 rfl ?_
  obtain ⟨q8, hk7, hf⟩ := bd_elim hf
  refine c_callV (pc := 55) 5 1 [.int 1, .int 99] (by decide) (lt48 (by decide)) rfl dX8_readLaw_55 (kX6_readNumber hk7) stX8_86 ⟨by decide, by decide, by decide, by decide⟩ ⟨rfl, rfl⟩ (Nat.le_of_ble_eq_true rfl) ?_
  show Rn g mdX8_readLaw 58 [some (.ref 3)] [.int q8.1, .ref 4] (cW t q8.2) 0 0 none (cW t q)
  refine c_putI (pc := 58) 6 3 4 (by decide) (by decide) rfl rfl (lt48 (by decide)) rfl lkX8_101 ⟨rfl, rfl⟩ dX8_readLaw_58 ?_
  refine lz_s (cW t) hf (fun s9 hf => ?_)
  show Rn g mdX8_readLaw 61 [some (.ref 3)] [] (cW t s9) 0 0 none (cW t q)
  refine o_aload_n (pc := 61) dX8_readLaw_61 rfl ?_
  refine c_getR (pc := 62) 7 1 3 4 (by decide) (by decide) rfl (lt48 (by decide)) rfl rfl lkX8_12 dX8_readLaw_62 ?_
  refine o_aload_n (pc := 65) dX8_readLaw_65 rfl ?_
  refine c_getR (pc := 66) 7 0 3 1 (by decide) (by decide) rfl (lt48 (by decide)) rfl rfl lkX8_22 dX8_readLaw_66 ?_
  refine c_getI (pc := 69) 5 3 1 (by decide) (by decide) rfl (lt48 (by decide)) rfl lkX8_38 dX8_readLaw_69 ?_
  obtain ⟨w10, hr11, hf⟩ := bd_elim hf
  have K12 : Rn g mdX8_readLaw 80 [none] [.int w10, .ref 4] (cW t s9) 0 0 none (cW t q) := by
    obtain ⟨hk13, hf⟩ := ck_elim hf
    refine c_putI (pc := 80) 6 0 4 (by decide) (by decide) rfl rfl (lt48 (by decide)) rfl lkX8_104 (bz_n hk13) dX8_readLaw_80 ?_
    refine lz_s (cW t) hf (fun s14 hf => ?_)
    show Rn g mdX8_readLaw 83 [none] [] (cW t s14) 0 0 none (cW t q)
    obtain rfl := Option.some.inj hf
    exact o_return (pc := 83) dX8_readLaw_83 rfl (Nat.zero_le _) (Nat.zero_le _)
  clear hf
  refine o_if_ne (pc := 72) 79 dX8_readLaw_72 rfl (fun hc => ?_) (fun hc => ?_)
  · have hr11 := it_f hr11 hc
    refine o_iconst (pc := 79) (v := 0) dX8_readLaw_79 rfl ?_
    obtain rfl := Option.some.inj hr11
    refine o_keep [false] ?_
    exact K12
  · have hr11 := it_t hr11 hc
    refine o_iconst (pc := 75) (v := 1) dX8_readLaw_75 rfl ?_
    refine o_goto (pc := 76) 80 dX8_readLaw_76 rfl ?_
    obtain rfl := Option.some.inj hr11
    refine o_keep [false] ?_
    exact K12
def fX8_readMeeting (s : ST) : Option (ST) :=
  if (gi s 4 8) < 8 then lt (gi s 4 8 : Int32) (fun v1 => (fX6_readNumber 0 ((gi s 4 7) - 1) s).bind (fun q3 => ck (inb v1 8) (lt (si q3.2 7 (ix v1) q3.1) (fun s5 => (fX6_readNumber 0 ((gi s5 4 7) - 1) s5).bind (fun q7 => ck (inb v1 8) (lt (si q7.2 8 (ix v1) q7.1) (fun s9 => ck (inb v1 8) (ck (inb v1 8) ((if (gi s9 8 (ix v1)) = (gi s9 7 (ix v1)) then (fX6_blame 1 s9).bind (fun q16 => some q16) else some s9 : Option (ST)).bind (fun w12 => (fX6_readNumber 0 600 w12).bind (fun q18 => ck (inb v1 8) (lt (si q18.2 9 (ix v1) q18.1) (fun s20 => (fX6_readNumber 1 60 s20).bind (fun q22 => ck (inb v1 8) (lt (si q22.2 10 (ix v1) q22.1) (fun s24 => lt (si s24 4 8 ((gi s24 4 8) + 1)) (fun s25 => some s25))))))))))))))))) else (fX6_blame 4 s).bind (fun q27 => some q27)
set_option maxRecDepth 20000 in
theorem kX8_readMeeting {g : GX} {t : PH} {s : ST} {q : ST} (hf : fX8_readMeeting s = some q) : Cn g mdX8_readMeeting [.ref 3] (cW t s) none (cW t q) := by
  refine Cn.of (by decide) (Nat.le_of_ble_eq_true rfl) ?_
  show Rn g mdX8_readMeeting 0 [some (.ref 3), none] [] (cW t s) 0 0 none (cW t q)
  unfold fX8_readMeeting at hf
  refine o_aload_n (pc := 0) dX8_readMeeting_0 rfl ?_
  refine c_getR (pc := 1) 7 1 3 4 (by decide) (by decide) rfl (lt48 (by decide)) rfl rfl lkX8_12 dX8_readMeeting_1 ?_
  refine c_getI (pc := 4) 6 8 4 (by decide) (by decide) rfl (lt48 (by decide)) rfl lkX8_119 dX8_readMeeting_4 ?_
  refine o_bipush (pc := 7) (v := 8) dX8_readMeeting_7 rfl ?_
  refine o_icmp_lt (pc := 9) 21 dX8_readMeeting_9 rfl (fun hc => ?_) (fun hc => ?_)
  · have hf := it_t hf hc
    refine o_aload_n (pc := 21) dX8_readMeeting_21 rfl ?_
    refine c_getR (pc := 22) 7 1 3 4 (by decide) (by decide) rfl (lt48 (by decide)) rfl rfl lkX8_12 dX8_readMeeting_22 ?_
    refine c_getI (pc := 25) 6 8 4 (by decide) (by decide) rfl (lt48 (by decide)) rfl lkX8_119 dX8_readMeeting_25 ?_
    refine lz_i hf (fun v1 hf => ?_)
    refine o_istore_n (pc := 28) dX8_readMeeting_28 (by decide) rfl ?_
    show Rn g mdX8_readMeeting 29 [some (.ref 3), some (.int v1)] [] (cW t s) 0 0 none (cW t q)
    refine o_aload_n (pc := 29) dX8_readMeeting_29 rfl ?_
    refine c_getR (pc := 30) 7 1 3 4 (by decide) (by decide) rfl (lt48 (by decide)) rfl rfl lkX8_12 dX8_readMeeting_30 ?_
    refine c_getR (pc := 33) 6 11 4 7 (by decide) (by decide) rfl (lt48 (by decide)) rfl rfl lkX8_122 dX8_readMeeting_33 ?_
    refine o_iload_n (pc := 36) dX8_readMeeting_36 rfl ?_
    refine o_aload_n (pc := 37) dX8_readMeeting_37 rfl ?_
    refine c_getR (pc := 38) 7 0 3 1 (by decide) (by decide) rfl (lt48 (by decide)) rfl rfl lkX8_22 dX8_readMeeting_38 ?_
    refine o_iconst (pc := 41) (v := 0) dX8_readMeeting_41 rfl ?_
    refine o_aload_n (pc := 42) dX8_readMeeting_42 rfl ?_
    refine c_getR (pc := 43) 7 1 3 4 (by decide) (by decide) rfl (lt48 (by decide)) rfl rfl lkX8_12 dX8_readMeeting_43 ?_
    refine c_getI (pc := 46) 6 7 4 (by decide) (by decide) rfl (lt48 (by decide)) rfl lkX8_107 dX8_readMeeting_46 ?_
    refine o_iconst (pc := 49) (v := 1) dX8_readMeeting_49 rfl ?_
    refine o_isub (pc := 50) dX8_readMeeting_50 ?_
    obtain ⟨q3, hk2, hf⟩ := bd_elim hf
    refine c_callV (pc := 51) 5 1 [.int 0, .int ((gi s 4 7) - 1)] (by decide) (lt48 (by decide)) rfl dX8_readMeeting_51 (kX6_readNumber hk2) stX8_86 ⟨by decide, by decide, by decide, by decide⟩ ⟨rfl, rfl⟩ (Nat.le_of_ble_eq_true rfl) ?_
    show Rn g mdX8_readMeeting 54 [some (.ref 3), some (.int v1)] [.int q3.1, .int v1, .ref 7] (cW t q3.2) 0 0 none (cW t q)
    obtain ⟨hk4, hf⟩ := ck_elim hf
    refine c_iast (pc := 54) (lt48 (by decide)) rfl hk4 dX8_readMeeting_54 ?_
    refine lz_s (cW t) hf (fun s5 hf => ?_)
    show Rn g mdX8_readMeeting 55 [some (.ref 3), some (.int v1)] [] (cW t s5) 0 0 none (cW t q)
    refine o_aload_n (pc := 55) dX8_readMeeting_55 rfl ?_
    refine c_getR (pc := 56) 7 1 3 4 (by decide) (by decide) rfl (lt48 (by decide)) rfl rfl lkX8_12 dX8_readMeeting_56 ?_
    refine c_getR (pc := 59) 6 12 4 8 (by decide) (by decide) rfl (lt48 (by decide)) rfl rfl lkX8_125 dX8_readMeeting_59 ?_
    refine o_iload_n (pc := 62) dX8_readMeeting_62 rfl ?_
    refine o_aload_n (pc := 63) dX8_readMeeting_63 rfl ?_
    refine c_getR (pc := 64) 7 0 3 1 (by decide) (by decide) rfl (lt48 (by decide)) rfl rfl lkX8_22 dX8_readMeeting_64 ?_
    refine o_iconst (pc := 67) (v := 0) dX8_readMeeting_67 rfl ?_
    refine o_aload_n (pc := 68) dX8_readMeeting_68 rfl ?_
    refine c_getR (pc := 69) 7 1 3 4 (by decide) (by decide) rfl (lt48 (by decide)) rfl rfl lkX8_12 dX8_readMeeting_69 ?_
    refine c_getI (pc := 72) 6 7 4 (by decide) (by decide) rfl (lt48 (by decide)) rfl lkX8_107 dX8_readMeeting_72 ?_
    refine o_iconst (pc := 75) (v := 1) dX8_readMeeting_75 rfl ?_
    refine o_isub (pc := 76) dX8_readMeeting_76 ?_
    obtain ⟨q7, hk6, hf⟩ := bd_elim hf
    refine c_callV (pc := 77) 5 1 [.int 0, .int ((gi s5 4 7) - 1)] (by decide) (lt48 (by decide)) rfl dX8_readMeeting_77 (kX6_readNumber hk6) stX8_86 ⟨by decide, by decide, by decide, by decide⟩ ⟨rfl, rfl⟩ (Nat.le_of_ble_eq_true rfl) ?_
    show Rn g mdX8_readMeeting 80 [some (.ref 3), some (.int v1)] [.int q7.1, .int v1, .ref 8] (cW t q7.2) 0 0 none (cW t q)
    obtain ⟨hk8, hf⟩ := ck_elim hf
    refine c_iast (pc := 80) (lt48 (by decide)) rfl hk8 dX8_readMeeting_80 ?_
    refine lz_s (cW t) hf (fun s9 hf => ?_)
    show Rn g mdX8_readMeeting 81 [some (.ref 3), some (.int v1)] [] (cW t s9) 0 0 none (cW t q)
    refine o_aload_n (pc := 81) dX8_readMeeting_81 rfl ?_
    refine c_getR (pc := 82) 7 1 3 4 (by decide) (by decide) rfl (lt48 (by decide)) rfl rfl lkX8_12 dX8_readMeeting_82 ?_
    refine c_getR (pc := 85) 6 12 4 8 (by decide) (by decide) rfl (lt48 (by decide)) rfl rfl lkX8_125 dX8_readMeeting_85 ?_
    refine o_iload_n (pc := 88) dX8_readMeeting_88 rfl ?_
    obtain ⟨hk10, hf⟩ := ck_elim hf
    refine c_iald (pc := 89) (lt48 (by decide)) rfl hk10 dX8_readMeeting_89 ?_
    refine o_aload_n (pc := 90) dX8_readMeeting_90 rfl ?_
    refine c_getR (pc := 91) 7 1 3 4 (by decide) (by decide) rfl (lt48 (by decide)) rfl rfl lkX8_12 dX8_readMeeting_91 ?_
    refine c_getR (pc := 94) 6 11 4 7 (by decide) (by decide) rfl (lt48 (by decide)) rfl rfl lkX8_122 dX8_readMeeting_94 ?_
    refine o_iload_n (pc := 97) dX8_readMeeting_97 rfl ?_
    obtain ⟨hk11, hf⟩ := ck_elim hf
    refine c_iald (pc := 98) (lt48 (by decide)) rfl hk11 dX8_readMeeting_98 ?_
    obtain ⟨w12, hr13, hf⟩ := bd_elim hf
    have K14 : Rn g mdX8_readMeeting 110 [some (.ref 3), some (.int v1)] [] (cW t w12) 0 0 none (cW t q) := by
      refine o_aload_n (pc := 110) dX8_readMeeting_110 rfl ?_
      refine c_getR (pc := 111) 7 1 3 4 (by decide) (by decide) rfl (lt48 (by decide)) rfl rfl lkX8_12 dX8_readMeeting_111 ?_
      refine c_getR (pc := 114) 6 13 4 9 (by decide) (by decide) rfl (lt48 (by decide)) rfl rfl lkX8_128 dX8_readMeeting_114 ?_
      refine o_iload_n (pc := 117) dX8_readMeeting_117 rfl ?_
      refine o_aload_n (pc := 118) dX8_readMeeting_118 rfl ?_
      refine c_getR (pc := 119) 7 0 3 1 (by decide) (by decide) rfl (lt48 (by decide)) rfl rfl lkX8_22 dX8_readMeeting_119 ?_
      refine o_iconst (pc := 122) (v := 0) dX8_readMeeting_122 rfl ?_
      refine o_sipush (pc := 123) (v := 600) dX8_readMeeting_123 rfl ?_
      obtain ⟨q18, hk17, hf⟩ := bd_elim hf
      refine c_callV (pc := 126) 5 1 [.int 0, .int 600] (by decide) (lt48 (by decide)) rfl dX8_readMeeting_126 (kX6_readNumber hk17) stX8_86 ⟨by decide, by decide, by decide, by decide⟩ ⟨rfl, rfl⟩ (Nat.le_of_ble_eq_true rfl) ?_
      show Rn g mdX8_readMeeting 129 [some (.ref 3), some (.int v1)] [.int q18.1, .int v1, .ref 9] (cW t q18.2) 0 0 none (cW t q)
      obtain ⟨hk19, hf⟩ := ck_elim hf
      refine c_iast (pc := 129) (lt48 (by decide)) rfl hk19 dX8_readMeeting_129 ?_
      refine lz_s (cW t) hf (fun s20 hf => ?_)
      show Rn g mdX8_readMeeting 130 [some (.ref 3), some (.int v1)] [] (cW t s20) 0 0 none (cW t q)
      refine o_aload_n (pc := 130) dX8_readMeeting_130 rfl ?_
      refine c_getR (pc := 131) 7 1 3 4 (by decide) (by decide) rfl (lt48 (by decide)) rfl rfl lkX8_12 dX8_readMeeting_131 ?_
      refine c_getR (pc := 134) 6 14 4 10 (by decide) (by decide) rfl (lt48 (by decide)) rfl rfl lkX8_131 dX8_readMeeting_134 ?_
      refine o_iload_n (pc := 137) dX8_readMeeting_137 rfl ?_
      refine o_aload_n (pc := 138) dX8_readMeeting_138 rfl ?_
      refine c_getR (pc := 139) 7 0 3 1 (by decide) (by decide) rfl (lt48 (by decide)) rfl rfl lkX8_22 dX8_readMeeting_139 ?_
      refine o_iconst (pc := 142) (v := 1) dX8_readMeeting_142 rfl ?_
      refine o_bipush (pc := 143) (v := 60) dX8_readMeeting_143 rfl ?_
      obtain ⟨q22, hk21, hf⟩ := bd_elim hf
      refine c_callV (pc := 145) 5 1 [.int 1, .int 60] (by decide) (lt48 (by decide)) rfl dX8_readMeeting_145 (kX6_readNumber hk21) stX8_86 ⟨by decide, by decide, by decide, by decide⟩ ⟨rfl, rfl⟩ (Nat.le_of_ble_eq_true rfl) ?_
      show Rn g mdX8_readMeeting 148 [some (.ref 3), some (.int v1)] [.int q22.1, .int v1, .ref 10] (cW t q22.2) 0 0 none (cW t q)
      obtain ⟨hk23, hf⟩ := ck_elim hf
      refine c_iast (pc := 148) (lt48 (by decide)) rfl hk23 dX8_readMeeting_148 ?_
      refine lz_s (cW t) hf (fun s24 hf => ?_)
      show Rn g mdX8_readMeeting 149 [some (.ref 3), some (.int v1)] [] (cW t s24) 0 0 none (cW t q)
      refine o_aload_n (pc := 149) dX8_readMeeting_149 rfl ?_
      refine c_getR (pc := 150) 7 1 3 4 (by decide) (by decide) rfl (lt48 (by decide)) rfl rfl lkX8_12 dX8_readMeeting_150 ?_
      refine o_dup (pc := 153) dX8_readMeeting_153 rfl ?_
      refine c_getI (pc := 154) 6 8 4 (by decide) (by decide) rfl (lt48 (by decide)) rfl lkX8_119 dX8_readMeeting_154 ?_
      refine o_iconst (pc := 157) (v := 1) dX8_readMeeting_157 rfl ?_
      refine o_iadd (pc := 158) dX8_readMeeting_158 ?_
      refine c_putI (pc := 159) 6 8 4 (by decide) (by decide) rfl rfl (lt48 (by decide)) rfl lkX8_119 ⟨rfl, rfl⟩ dX8_readMeeting_159 ?_
      refine lz_s (cW t) hf (fun s25 hf => ?_)
      show Rn g mdX8_readMeeting 162 [some (.ref 3), some (.int v1)] [] (cW t s25) 0 0 none (cW t q)
      obtain rfl := Option.some.inj hf
      exact o_return (pc := 162) dX8_readMeeting_162 rfl (Nat.zero_le _) (Nat.zero_le _)
    clear hf
    refine o_icmp_ne (pc := 99) 110 dX8_readMeeting_99 rfl (fun hc => ?_) (fun hc => ?_)
    · have hr13 := it_f hr13 hc
      obtain rfl := Option.some.inj hr13
      exact K14
    · have hr13 := it_t hr13 hc
      refine o_aload_n (pc := 102) dX8_readMeeting_102 rfl ?_
      refine c_getR (pc := 103) 7 0 3 1 (by decide) (by decide) rfl (lt48 (by decide)) rfl rfl lkX8_22 dX8_readMeeting_103 ?_
      refine o_iconst (pc := 106) (v := 1) dX8_readMeeting_106 rfl ?_
      obtain ⟨q16, hk15, hr13⟩ := bd_elim hr13
      refine c_callV (pc := 107) 5 1 [.int 1] (by decide) (lt48 (by decide)) rfl dX8_readMeeting_107 (kX6_blame hk15) stX8_52 ⟨by decide, by decide, by decide, by decide⟩ ⟨rfl, rfl⟩ (Nat.le_of_ble_eq_true rfl) ?_
      show Rn g mdX8_readMeeting 110 [some (.ref 3), some (.int v1)] [] (cW t q16) 0 0 none (cW t q)
      obtain rfl := Option.some.inj hr13
      exact K14
  · have hf := it_f hf hc
    refine o_aload_n (pc := 12) dX8_readMeeting_12 rfl ?_
    refine c_getR (pc := 13) 7 0 3 1 (by decide) (by decide) rfl (lt48 (by decide)) rfl rfl lkX8_22 dX8_readMeeting_13 ?_
    refine o_iconst (pc := 16) (v := 4) dX8_readMeeting_16 rfl ?_
    obtain ⟨q27, hk26, hf⟩ := bd_elim hf
    refine c_callV (pc := 17) 5 1 [.int 4] (by decide) (lt48 (by decide)) rfl dX8_readMeeting_17 (kX6_blame hk26) stX8_52 ⟨by decide, by decide, by decide, by decide⟩ ⟨rfl, rfl⟩ (Nat.le_of_ble_eq_true rfl) ?_
    show Rn g mdX8_readMeeting 20 [some (.ref 3), none] [] (cW t q27) 0 0 none (cW t q)
    obtain rfl := Option.some.inj hf
    exact o_return (pc := 20) dX8_readMeeting_20 rfl (Nat.zero_le _) (Nat.zero_le _)
def fX8_readPerson (s : ST) : Option (ST) :=
  if (gi s 4 7) < 5 then (fX6_readNumber 0 80 s).bind (fun q2 => ck (inb (gi s 4 7) 5) (lt (si q2.2 5 (ix (gi s 4 7)) (q2.1 - 20)) (fun s4 => (fX6_readNumber 0 40 s4).bind (fun q6 => ck (inb (gi s4 4 7) 5) (lt (si q6.2 6 (ix (gi s4 4 7)) (q6.1 - 20)) (fun s8 => lt (si s8 4 7 ((gi s8 4 7) + 1)) (fun s9 => some s9))))))) else (fX6_blame 4 s).bind (fun q11 => some q11)
set_option maxRecDepth 20000 in
theorem kX8_readPerson {g : GX} {t : PH} {s : ST} {q : ST} (hf : fX8_readPerson s = some q) : Cn g mdX8_readPerson [.ref 3] (cW t s) none (cW t q) := by
  refine Cn.of (by decide) (Nat.le_of_ble_eq_true rfl) ?_
  show Rn g mdX8_readPerson 0 [some (.ref 3)] [] (cW t s) 0 0 none (cW t q)
  unfold fX8_readPerson at hf
  refine o_aload_n (pc := 0) dX8_readPerson_0 rfl ?_
  refine c_getR (pc := 1) 7 1 3 4 (by decide) (by decide) rfl (lt48 (by decide)) rfl rfl lkX8_12 dX8_readPerson_1 ?_
  refine c_getI (pc := 4) 6 7 4 (by decide) (by decide) rfl (lt48 (by decide)) rfl lkX8_107 dX8_readPerson_4 ?_
  refine o_iconst (pc := 7) (v := 5) dX8_readPerson_7 rfl ?_
  refine o_icmp_lt (pc := 8) 20 dX8_readPerson_8 rfl (fun hc => ?_) (fun hc => ?_)
  · have hf := it_t hf hc
    refine o_aload_n (pc := 20) dX8_readPerson_20 rfl ?_
    refine c_getR (pc := 21) 7 1 3 4 (by decide) (by decide) rfl (lt48 (by decide)) rfl rfl lkX8_12 dX8_readPerson_21 ?_
    refine c_getR (pc := 24) 6 9 4 5 (by decide) (by decide) rfl (lt48 (by decide)) rfl rfl lkX8_110 dX8_readPerson_24 ?_
    refine o_aload_n (pc := 27) dX8_readPerson_27 rfl ?_
    refine c_getR (pc := 28) 7 1 3 4 (by decide) (by decide) rfl (lt48 (by decide)) rfl rfl lkX8_12 dX8_readPerson_28 ?_
    refine c_getI (pc := 31) 6 7 4 (by decide) (by decide) rfl (lt48 (by decide)) rfl lkX8_107 dX8_readPerson_31 ?_
    refine o_aload_n (pc := 34) dX8_readPerson_34 rfl ?_
    refine c_getR (pc := 35) 7 0 3 1 (by decide) (by decide) rfl (lt48 (by decide)) rfl rfl lkX8_22 dX8_readPerson_35 ?_
    refine o_iconst (pc := 38) (v := 0) dX8_readPerson_38 rfl ?_
    refine o_bipush (pc := 39) (v := 80) dX8_readPerson_39 rfl ?_
    obtain ⟨q2, hk1, hf⟩ := bd_elim hf
    refine c_callV (pc := 41) 5 1 [.int 0, .int 80] (by decide) (lt48 (by decide)) rfl dX8_readPerson_41 (kX6_readNumber hk1) stX8_86 ⟨by decide, by decide, by decide, by decide⟩ ⟨rfl, rfl⟩ (Nat.le_of_ble_eq_true rfl) ?_
    show Rn g mdX8_readPerson 44 [some (.ref 3)] [.int q2.1, .int (gi s 4 7), .ref 5] (cW t q2.2) 0 0 none (cW t q)
    refine o_bipush (pc := 44) (v := 20) dX8_readPerson_44 rfl ?_
    refine o_isub (pc := 46) dX8_readPerson_46 ?_
    obtain ⟨hk3, hf⟩ := ck_elim hf
    refine c_iast (pc := 47) (lt48 (by decide)) rfl hk3 dX8_readPerson_47 ?_
    refine lz_s (cW t) hf (fun s4 hf => ?_)
    show Rn g mdX8_readPerson 48 [some (.ref 3)] [] (cW t s4) 0 0 none (cW t q)
    refine o_aload_n (pc := 48) dX8_readPerson_48 rfl ?_
    refine c_getR (pc := 49) 7 1 3 4 (by decide) (by decide) rfl (lt48 (by decide)) rfl rfl lkX8_12 dX8_readPerson_49 ?_
    refine c_getR (pc := 52) 6 10 4 6 (by decide) (by decide) rfl (lt48 (by decide)) rfl rfl lkX8_114 dX8_readPerson_52 ?_
    refine o_aload_n (pc := 55) dX8_readPerson_55 rfl ?_
    refine c_getR (pc := 56) 7 1 3 4 (by decide) (by decide) rfl (lt48 (by decide)) rfl rfl lkX8_12 dX8_readPerson_56 ?_
    refine c_getI (pc := 59) 6 7 4 (by decide) (by decide) rfl (lt48 (by decide)) rfl lkX8_107 dX8_readPerson_59 ?_
    refine o_aload_n (pc := 62) dX8_readPerson_62 rfl ?_
    refine c_getR (pc := 63) 7 0 3 1 (by decide) (by decide) rfl (lt48 (by decide)) rfl rfl lkX8_22 dX8_readPerson_63 ?_
    refine o_iconst (pc := 66) (v := 0) dX8_readPerson_66 rfl ?_
    refine o_bipush (pc := 67) (v := 40) dX8_readPerson_67 rfl ?_
    obtain ⟨q6, hk5, hf⟩ := bd_elim hf
    refine c_callV (pc := 69) 5 1 [.int 0, .int 40] (by decide) (lt48 (by decide)) rfl dX8_readPerson_69 (kX6_readNumber hk5) stX8_86 ⟨by decide, by decide, by decide, by decide⟩ ⟨rfl, rfl⟩ (Nat.le_of_ble_eq_true rfl) ?_
    show Rn g mdX8_readPerson 72 [some (.ref 3)] [.int q6.1, .int (gi s4 4 7), .ref 6] (cW t q6.2) 0 0 none (cW t q)
    refine o_bipush (pc := 72) (v := 20) dX8_readPerson_72 rfl ?_
    refine o_isub (pc := 74) dX8_readPerson_74 ?_
    obtain ⟨hk7, hf⟩ := ck_elim hf
    refine c_iast (pc := 75) (lt48 (by decide)) rfl hk7 dX8_readPerson_75 ?_
    refine lz_s (cW t) hf (fun s8 hf => ?_)
    show Rn g mdX8_readPerson 76 [some (.ref 3)] [] (cW t s8) 0 0 none (cW t q)
    refine o_aload_n (pc := 76) dX8_readPerson_76 rfl ?_
    refine c_getR (pc := 77) 7 1 3 4 (by decide) (by decide) rfl (lt48 (by decide)) rfl rfl lkX8_12 dX8_readPerson_77 ?_
    refine o_dup (pc := 80) dX8_readPerson_80 rfl ?_
    refine c_getI (pc := 81) 6 7 4 (by decide) (by decide) rfl (lt48 (by decide)) rfl lkX8_107 dX8_readPerson_81 ?_
    refine o_iconst (pc := 84) (v := 1) dX8_readPerson_84 rfl ?_
    refine o_iadd (pc := 85) dX8_readPerson_85 ?_
    refine c_putI (pc := 86) 6 7 4 (by decide) (by decide) rfl rfl (lt48 (by decide)) rfl lkX8_107 ⟨rfl, rfl⟩ dX8_readPerson_86 ?_
    refine lz_s (cW t) hf (fun s9 hf => ?_)
    show Rn g mdX8_readPerson 89 [some (.ref 3)] [] (cW t s9) 0 0 none (cW t q)
    obtain rfl := Option.some.inj hf
    exact o_return (pc := 89) dX8_readPerson_89 rfl (Nat.zero_le _) (Nat.zero_le _)
  · have hf := it_f hf hc
    refine o_aload_n (pc := 11) dX8_readPerson_11 rfl ?_
    refine c_getR (pc := 12) 7 0 3 1 (by decide) (by decide) rfl (lt48 (by decide)) rfl rfl lkX8_22 dX8_readPerson_12 ?_
    refine o_iconst (pc := 15) (v := 4) dX8_readPerson_15 rfl ?_
    obtain ⟨q11, hk10, hf⟩ := bd_elim hf
    refine c_callV (pc := 16) 5 1 [.int 4] (by decide) (lt48 (by decide)) rfl dX8_readPerson_16 (kX6_blame hk10) stX8_52 ⟨by decide, by decide, by decide, by decide⟩ ⟨rfl, rfl⟩ (Nat.le_of_ble_eq_true rfl) ?_
    show Rn g mdX8_readPerson 19 [some (.ref 3)] [] (cW t q11) 0 0 none (cW t q)
    obtain rfl := Option.some.inj hf
    exact o_return (pc := 19) dX8_readPerson_19 rfl (Nat.zero_le _) (Nat.zero_le _)
def fX8_readClause (p0 : Int32) (s : ST) : Option (ST) :=
  (fX6_step s).bind (fun q2 => (fX6_isWord 1000000 q2).bind (fun q4 => (fX8_isClauseWord q2).bind (fun q6 => (if q6 = 0 then (fX6_blame 0 q2).bind (fun q34 => some q34) else if 40 < p0 then (fX6_blame 4 q2).bind (fun q11 => some q11) else (if p0 = 1 then some 1 else some 0 : Option (Int32)).bind (fun w12 => if q4 = w12 then if q4 = 0 then (fX6_isWord 1000001 q2).bind (fun q16 => if q16 = 0 then (fX6_isWord 1000002 q2).bind (fun q18 => if q18 = 0 then (fX6_isWord 1000003 q2).bind (fun q20 => if q20 = 0 then (fX8_readFines q2).bind (fun q22 => some q22) else (fX8_readMeeting q2).bind (fun q24 => some q24)) else (fX8_readExempt q2).bind (fun q26 => some q26)) else (fX8_readPerson q2).bind (fun q28 => some q28)) else (fX8_readLaw q2).bind (fun q30 => some q30) else (fX6_blame 4 q2).bind (fun q32 => some q32)) : Option (ST)).bind (fun w7 => some w7))))
set_option maxRecDepth 20000 in
theorem kX8_readClause {g : GX} {t : PH} {p0 : Int32} {s : ST} {q : ST} (hf : fX8_readClause p0 s = some q) : Cn g mdX8_readClause [.ref 3, .int p0] (cW t s) none (cW t q) := by
  refine Cn.of (by decide) (Nat.le_of_ble_eq_true rfl) ?_
  show Rn g mdX8_readClause 0 [some (.ref 3), some (.int p0), none] [] (cW t s) 0 0 none (cW t q)
  unfold fX8_readClause at hf
  refine o_aload_n (pc := 0) dX8_readClause_0 rfl ?_
  refine c_getR (pc := 1) 7 0 3 1 (by decide) (by decide) rfl (lt48 (by decide)) rfl rfl lkX8_22 dX8_readClause_1 ?_
  obtain ⟨q2, hk1, hf⟩ := bd_elim hf
  refine c_callV (pc := 4) 5 1 [] (by decide) (lt48 (by decide)) rfl dX8_readClause_4 (kX6_step hk1) stX8_46 ⟨by decide, by decide, by decide, by decide⟩ ⟨rfl, rfl⟩ (Nat.le_of_ble_eq_true rfl) ?_
  show Rn g mdX8_readClause 7 [some (.ref 3), some (.int p0), none] [] (cW t q2) 0 0 none (cW t q)
  refine o_aload_n (pc := 7) dX8_readClause_7 rfl ?_
  refine c_getR (pc := 8) 7 0 3 1 (by decide) (by decide) rfl (lt48 (by decide)) rfl rfl lkX8_22 dX8_readClause_8 ?_
  refine o_ldcS (pc := 11) (i := 0) dX8_readClause_11 rfl rfl rfl ?_
  show Rn g mdX8_readClause 13 [some (.ref 3), some (.int p0), none] [.ref 1000000, .ref 1] (cW t q2) 0 0 none (cW t q)
  obtain ⟨q4, hk3, hf⟩ := bd_elim hf
  refine c_callV (pc := 13) 5 1 [.ref 1000000] (by decide) (lt48 (by decide)) rfl dX8_readClause_13 (kX6_isWord hk3) stX8_56 ⟨by decide, by decide, by decide, by decide⟩ ⟨rfl, rfl⟩ (Nat.le_of_ble_eq_true rfl) ?_
  show Rn g mdX8_readClause 16 [some (.ref 3), some (.int p0), none] [.int q4] (cW t q2) 0 0 none (cW t q)
  refine o_istore_n (pc := 16) dX8_readClause_16 (by decide) rfl ?_
  show Rn g mdX8_readClause 17 [some (.ref 3), some (.int p0), some (.int q4)] [] (cW t q2) 0 0 none (cW t q)
  refine o_aload_n (pc := 17) dX8_readClause_17 rfl ?_
  obtain ⟨q6, hk5, hf⟩ := bd_elim hf
  refine c_callV (pc := 18) 7 3 [] (by decide) (lt48 (by decide)) rfl dX8_readClause_18 (kX8_isClauseWord hk5) stX8_60 ⟨by decide, by decide, by decide, by decide⟩ ⟨rfl, rfl⟩ (Nat.le_of_ble_eq_true rfl) ?_
  show Rn g mdX8_readClause 21 [some (.ref 3), some (.int p0), some (.int q4)] [.int q6] (cW t q2) 0 0 none (cW t q)
  obtain ⟨w7, hr8, hf⟩ := bd_elim hf
  have K9 : Rn g mdX8_readClause 138 [none, none, none] [] (cW t w7) 0 0 none (cW t q) := by
    obtain rfl := Option.some.inj hf
    exact o_return (pc := 138) dX8_readClause_138 rfl (Nat.zero_le _) (Nat.zero_le _)
  clear hf
  refine o_if_ne (pc := 21) 35 dX8_readClause_21 rfl (fun hc => ?_) (fun hc => ?_)
  · have hr8 := it_f hr8 hc
    refine o_iload_n (pc := 35) dX8_readClause_35 rfl ?_
    refine o_bipush (pc := 36) (v := 40) dX8_readClause_36 rfl ?_
    refine o_icmp_gt (pc := 38) 55 dX8_readClause_38 rfl (fun hc => ?_) (fun hc => ?_)
    · have hr8 := it_t hr8 hc
      refine o_aload_n (pc := 55) dX8_readClause_55 rfl ?_
      refine c_getR (pc := 56) 7 0 3 1 (by decide) (by decide) rfl (lt48 (by decide)) rfl rfl lkX8_22 dX8_readClause_56 ?_
      refine o_iconst (pc := 59) (v := 4) dX8_readClause_59 rfl ?_
      obtain ⟨q11, hk10, hr8⟩ := bd_elim hr8
      refine c_callV (pc := 60) 5 1 [.int 4] (by decide) (lt48 (by decide)) rfl dX8_readClause_60 (kX6_blame hk10) stX8_52 ⟨by decide, by decide, by decide, by decide⟩ ⟨rfl, rfl⟩ (Nat.le_of_ble_eq_true rfl) ?_
      show Rn g mdX8_readClause 63 [some (.ref 3), some (.int p0), some (.int q4)] [] (cW t q11) 0 0 none (cW t q)
      refine o_goto (pc := 63) 138 dX8_readClause_63 rfl ?_
      obtain rfl := Option.some.inj hr8
      refine o_keep [false, false, false] ?_
      exact K9
    · have hr8 := it_f hr8 hc
      refine o_iload_n (pc := 41) dX8_readClause_41 rfl ?_
      refine o_iload_n (pc := 42) dX8_readClause_42 rfl ?_
      refine o_iconst (pc := 43) (v := 1) dX8_readClause_43 rfl ?_
      obtain ⟨w12, hr13, hr8⟩ := bd_elim hr8
      have K14 : Rn g mdX8_readClause 52 [some (.ref 3), none, some (.int q4)] [.int w12, .int q4] (cW t q2) 0 0 none (cW t q) := by
        refine o_icmp_eq (pc := 52) 66 dX8_readClause_52 rfl (fun hc => ?_) (fun hc => ?_)
        · have hr8 := it_t hr8 hc
          refine o_iload_n (pc := 66) dX8_readClause_66 rfl ?_
          refine o_if_eq (pc := 67) 77 dX8_readClause_67 rfl (fun hc => ?_) (fun hc => ?_)
          · have hr8 := it_t hr8 hc
            refine o_aload_n (pc := 77) dX8_readClause_77 rfl ?_
            refine c_getR (pc := 78) 7 0 3 1 (by decide) (by decide) rfl (lt48 (by decide)) rfl rfl lkX8_22 dX8_readClause_78 ?_
            refine o_ldcS (pc := 81) (i := 1) dX8_readClause_81 rfl rfl rfl ?_
            show Rn g mdX8_readClause 83 [some (.ref 3), none, some (.int q4)] [.ref 1000001, .ref 1] (cW t q2) 0 0 none (cW t q)
            obtain ⟨q16, hk15, hr8⟩ := bd_elim hr8
            refine c_callV (pc := 83) 5 1 [.ref 1000001] (by decide) (lt48 (by decide)) rfl dX8_readClause_83 (kX6_isWord hk15) stX8_56 ⟨by decide, by decide, by decide, by decide⟩ ⟨rfl, rfl⟩ (Nat.le_of_ble_eq_true rfl) ?_
            show Rn g mdX8_readClause 86 [some (.ref 3), none, some (.int q4)] [.int q16] (cW t q2) 0 0 none (cW t q)
            refine o_if_eq (pc := 86) 96 dX8_readClause_86 rfl (fun hc => ?_) (fun hc => ?_)
            · have hr8 := it_t hr8 hc
              refine o_aload_n (pc := 96) dX8_readClause_96 rfl ?_
              refine c_getR (pc := 97) 7 0 3 1 (by decide) (by decide) rfl (lt48 (by decide)) rfl rfl lkX8_22 dX8_readClause_97 ?_
              refine o_ldcS (pc := 100) (i := 2) dX8_readClause_100 rfl rfl rfl ?_
              show Rn g mdX8_readClause 102 [some (.ref 3), none, some (.int q4)] [.ref 1000002, .ref 1] (cW t q2) 0 0 none (cW t q)
              obtain ⟨q18, hk17, hr8⟩ := bd_elim hr8
              refine c_callV (pc := 102) 5 1 [.ref 1000002] (by decide) (lt48 (by decide)) rfl dX8_readClause_102 (kX6_isWord hk17) stX8_56 ⟨by decide, by decide, by decide, by decide⟩ ⟨rfl, rfl⟩ (Nat.le_of_ble_eq_true rfl) ?_
              show Rn g mdX8_readClause 105 [some (.ref 3), none, some (.int q4)] [.int q18] (cW t q2) 0 0 none (cW t q)
              refine o_if_eq (pc := 105) 115 dX8_readClause_105 rfl (fun hc => ?_) (fun hc => ?_)
              · have hr8 := it_t hr8 hc
                refine o_aload_n (pc := 115) dX8_readClause_115 rfl ?_
                refine c_getR (pc := 116) 7 0 3 1 (by decide) (by decide) rfl (lt48 (by decide)) rfl rfl lkX8_22 dX8_readClause_116 ?_
                refine o_ldcS (pc := 119) (i := 3) dX8_readClause_119 rfl rfl rfl ?_
                show Rn g mdX8_readClause 121 [some (.ref 3), none, some (.int q4)] [.ref 1000003, .ref 1] (cW t q2) 0 0 none (cW t q)
                obtain ⟨q20, hk19, hr8⟩ := bd_elim hr8
                refine c_callV (pc := 121) 5 1 [.ref 1000003] (by decide) (lt48 (by decide)) rfl dX8_readClause_121 (kX6_isWord hk19) stX8_56 ⟨by decide, by decide, by decide, by decide⟩ ⟨rfl, rfl⟩ (Nat.le_of_ble_eq_true rfl) ?_
                show Rn g mdX8_readClause 124 [some (.ref 3), none, some (.int q4)] [.int q20] (cW t q2) 0 0 none (cW t q)
                refine o_if_eq (pc := 124) 134 dX8_readClause_124 rfl (fun hc => ?_) (fun hc => ?_)
                · have hr8 := it_t hr8 hc
                  refine o_aload_n (pc := 134) dX8_readClause_134 rfl ?_
                  obtain ⟨q22, hk21, hr8⟩ := bd_elim hr8
                  refine c_callV (pc := 135) 7 3 [] (by decide) (lt48 (by decide)) rfl dX8_readClause_135 (kX8_readFines hk21) stX8_81 ⟨by decide, by decide, by decide, by decide⟩ ⟨rfl, rfl⟩ (Nat.le_of_ble_eq_true rfl) ?_
                  show Rn g mdX8_readClause 138 [some (.ref 3), none, some (.int q4)] [] (cW t q22) 0 0 none (cW t q)
                  obtain rfl := Option.some.inj hr8
                  refine o_keep [false, false, false] ?_
                  exact K9
                · have hr8 := it_f hr8 hc
                  refine o_aload_n (pc := 127) dX8_readClause_127 rfl ?_
                  obtain ⟨q24, hk23, hr8⟩ := bd_elim hr8
                  refine c_callV (pc := 128) 7 3 [] (by decide) (lt48 (by decide)) rfl dX8_readClause_128 (kX8_readMeeting hk23) stX8_78 ⟨by decide, by decide, by decide, by decide⟩ ⟨rfl, rfl⟩ (Nat.le_of_ble_eq_true rfl) ?_
                  show Rn g mdX8_readClause 131 [some (.ref 3), none, some (.int q4)] [] (cW t q24) 0 0 none (cW t q)
                  refine o_goto (pc := 131) 138 dX8_readClause_131 rfl ?_
                  obtain rfl := Option.some.inj hr8
                  refine o_keep [false, false, false] ?_
                  exact K9
              · have hr8 := it_f hr8 hc
                refine o_aload_n (pc := 108) dX8_readClause_108 rfl ?_
                obtain ⟨q26, hk25, hr8⟩ := bd_elim hr8
                refine c_callV (pc := 109) 7 3 [] (by decide) (lt48 (by decide)) rfl dX8_readClause_109 (kX8_readExempt hk25) stX8_73 ⟨by decide, by decide, by decide, by decide⟩ ⟨rfl, rfl⟩ (Nat.le_of_ble_eq_true rfl) ?_
                show Rn g mdX8_readClause 112 [some (.ref 3), none, some (.int q4)] [] (cW t q26) 0 0 none (cW t q)
                refine o_goto (pc := 112) 138 dX8_readClause_112 rfl ?_
                obtain rfl := Option.some.inj hr8
                refine o_keep [false, false, false] ?_
                exact K9
            · have hr8 := it_f hr8 hc
              refine o_aload_n (pc := 89) dX8_readClause_89 rfl ?_
              obtain ⟨q28, hk27, hr8⟩ := bd_elim hr8
              refine c_callV (pc := 90) 7 3 [] (by decide) (lt48 (by decide)) rfl dX8_readClause_90 (kX8_readPerson hk27) stX8_68 ⟨by decide, by decide, by decide, by decide⟩ ⟨rfl, rfl⟩ (Nat.le_of_ble_eq_true rfl) ?_
              show Rn g mdX8_readClause 93 [some (.ref 3), none, some (.int q4)] [] (cW t q28) 0 0 none (cW t q)
              refine o_goto (pc := 93) 138 dX8_readClause_93 rfl ?_
              obtain rfl := Option.some.inj hr8
              refine o_keep [false, false, false] ?_
              exact K9
          · have hr8 := it_f hr8 hc
            refine o_aload_n (pc := 70) dX8_readClause_70 rfl ?_
            obtain ⟨q30, hk29, hr8⟩ := bd_elim hr8
            refine c_callV (pc := 71) 7 3 [] (by decide) (lt48 (by decide)) rfl dX8_readClause_71 (kX8_readLaw hk29) stX8_63 ⟨by decide, by decide, by decide, by decide⟩ ⟨rfl, rfl⟩ (Nat.le_of_ble_eq_true rfl) ?_
            show Rn g mdX8_readClause 74 [some (.ref 3), none, some (.int q4)] [] (cW t q30) 0 0 none (cW t q)
            refine o_goto (pc := 74) 138 dX8_readClause_74 rfl ?_
            obtain rfl := Option.some.inj hr8
            refine o_keep [false, false, false] ?_
            exact K9
        · have hr8 := it_f hr8 hc
          refine o_aload_n (pc := 55) dX8_readClause_55 rfl ?_
          refine c_getR (pc := 56) 7 0 3 1 (by decide) (by decide) rfl (lt48 (by decide)) rfl rfl lkX8_22 dX8_readClause_56 ?_
          refine o_iconst (pc := 59) (v := 4) dX8_readClause_59 rfl ?_
          obtain ⟨q32, hk31, hr8⟩ := bd_elim hr8
          refine c_callV (pc := 60) 5 1 [.int 4] (by decide) (lt48 (by decide)) rfl dX8_readClause_60 (kX6_blame hk31) stX8_52 ⟨by decide, by decide, by decide, by decide⟩ ⟨rfl, rfl⟩ (Nat.le_of_ble_eq_true rfl) ?_
          show Rn g mdX8_readClause 63 [some (.ref 3), none, some (.int q4)] [] (cW t q32) 0 0 none (cW t q)
          refine o_goto (pc := 63) 138 dX8_readClause_63 rfl ?_
          obtain rfl := Option.some.inj hr8
          refine o_keep [false, false, false] ?_
          exact K9
      clear hr8
      refine o_icmp_ne (pc := 44) 51 dX8_readClause_44 rfl (fun hc => ?_) (fun hc => ?_)
      · have hr13 := it_f hr13 hc
        refine o_iconst (pc := 51) (v := 0) dX8_readClause_51 rfl ?_
        obtain rfl := Option.some.inj hr13
        refine o_keep [true, false, true] ?_
        exact K14
      · have hr13 := it_t hr13 hc
        refine o_iconst (pc := 47) (v := 1) dX8_readClause_47 rfl ?_
        refine o_goto (pc := 48) 52 dX8_readClause_48 rfl ?_
        obtain rfl := Option.some.inj hr13
        refine o_keep [true, false, true] ?_
        exact K14
  · have hr8 := it_t hr8 hc
    refine o_aload_n (pc := 24) dX8_readClause_24 rfl ?_
    refine c_getR (pc := 25) 7 0 3 1 (by decide) (by decide) rfl (lt48 (by decide)) rfl rfl lkX8_22 dX8_readClause_25 ?_
    refine o_iconst (pc := 28) (v := 0) dX8_readClause_28 rfl ?_
    obtain ⟨q34, hk33, hr8⟩ := bd_elim hr8
    refine c_callV (pc := 29) 5 1 [.int 0] (by decide) (lt48 (by decide)) rfl dX8_readClause_29 (kX6_blame hk33) stX8_52 ⟨by decide, by decide, by decide, by decide⟩ ⟨rfl, rfl⟩ (Nat.le_of_ble_eq_true rfl) ?_
    show Rn g mdX8_readClause 32 [some (.ref 3), some (.int p0), some (.int q4)] [] (cW t q34) 0 0 none (cW t q)
    refine o_goto (pc := 32) 138 dX8_readClause_32 rfl ?_
    obtain rfl := Option.some.inj hr8
    refine o_keep [false, false, false] ?_
    exact K9
def fX8_read_L23 : Nat → Int32 → Int32 → ST → Option (Int32 × Int32 × ST)
  | 0, _, _, _ => none
  | n + 1, x1, x2, s => (if x1 = 0 then some false else if 400 < x2 then some false else some true : Option Bool).bind (fun b6 => if b6 = true then (fX8_readClause x2 s).bind (fun q10 => (if (gi q10 1 3) = 0 then (fX8_isClauseBehind q10).bind (fun q15 => if q15.1 = 0 then some (0, q15.2) else some (1, q15.2)) else some (0, q10) : Option (Int32 × ST)).bind (fun w11 => lt (x2 + 1) (fun v16 => fX8_read_L23 n w11.1 v16 w11.2))) else some (x1, x2, s))
def fX8_read (s : ST) : Option (Int32 × ST) :=
  (fX7_clear_4 s).bind (fun q2 => lt (si q2 3 2 0) (fun s3 => (fX6_rewind s3).bind (fun q5 => (fX8_read_L23 FUEL 1 1 q5).bind (fun w17 => some (gi w17.2.2 1 3, w17.2.2)))))
set_option maxRecDepth 20000 in
theorem kX8_read_L23 {g : GX} {t : PH} {r : Option Value} {h2 : PH} : ∀ (n : Nat) (x1 : Int32) (x2 : Int32) (s : ST) {w : Int32 × Int32 × ST}, fX8_read_L23 n x1 x2 s = some w → Rn g mdX8_read 68 [some (.ref 3), none, none] [] (cW t w.2.2) 0 0 r h2 → Rn g mdX8_read 23 [some (.ref 3), some (.int x1), some (.int x2)] [] (cW t s) 0 0 r h2 := by
  intro n
  induction n with
  | zero => intro x1 x2 s w hf K; cases hf
  | succ n ih =>
    intro x1 x2 s w hf K
    rw [fX8_read_L23] at hf
    refine o_iload_n (pc := 23) dX8_read_23 rfl ?_
    obtain ⟨b6, hr7, hf⟩ := bd_elim hf
    have KB8 : (b6 = true → Rn g mdX8_read 34 [some (.ref 3), some (.int x1), some (.int x2)] [] (cW t s) 0 0 r h2) ∧ (¬ b6 = true → Rn g mdX8_read 68 [some (.ref 3), some (.int x1), some (.int x2)] [] (cW t s) 0 0 r h2) := by
      refine ⟨fun hc => ?_, fun hc => ?_⟩
      · have hf := it_t hf hc
        refine o_aload_n (pc := 34) dX8_read_34 rfl ?_
        refine o_iload_n (pc := 35) dX8_read_35 rfl ?_
        obtain ⟨q10, hk9, hf⟩ := bd_elim hf
        refine c_callV (pc := 36) 7 3 [.int x2] (by decide) (lt48 (by decide)) rfl dX8_read_36 (kX8_readClause hk9) stX8_34 ⟨by decide, by decide, by decide, by decide⟩ ⟨rfl, rfl⟩ (Nat.le_of_ble_eq_true rfl) ?_
        show Rn g mdX8_read 39 [some (.ref 3), some (.int x1), some (.int x2)] [] (cW t q10) 0 0 r h2
        refine o_aload_n (pc := 39) dX8_read_39 rfl ?_
        refine c_getR (pc := 40) 7 0 3 1 (by decide) (by decide) rfl (lt48 (by decide)) rfl rfl lkX8_22 dX8_read_40 ?_
        refine c_getI (pc := 43) 5 3 1 (by decide) (by decide) rfl (lt48 (by decide)) rfl lkX8_38 dX8_read_43 ?_
        obtain ⟨w11, hr12, hf⟩ := bd_elim hf
        have K13 : Rn g mdX8_read 61 [some (.ref 3), none, some (.int x2)] [.int w11.1] (cW t w11.2) 0 0 r h2 := by
          refine o_istore_n (pc := 61) dX8_read_61 (by decide) rfl ?_
          show Rn g mdX8_read 62 [some (.ref 3), some (.int w11.1), some (.int x2)] [] (cW t w11.2) 0 0 r h2
          refine o_iinc (pc := 62) dX8_read_62 rfl (by decide) rfl ?_
          show Rn g mdX8_read 65 [some (.ref 3), some (.int w11.1), some (.int (x2 + 1))] [] (cW t w11.2) 0 0 r h2
          obtain ⟨v16, ev16, hf⟩ := lt_elim hf
          rw [ev16]
          show Rn g mdX8_read 65 [some (.ref 3), some (.int w11.1), some (.int v16)] [] (cW t w11.2) 0 0 r h2
          refine o_goto (pc := 65) 23 dX8_read_65 rfl ?_
          exact ih _ _ _ hf K
        clear hf
        refine o_if_ne (pc := 46) 60 dX8_read_46 rfl (fun hc => ?_) (fun hc => ?_)
        · have hr12 := it_f hr12 hc
          refine o_iconst (pc := 60) (v := 0) dX8_read_60 rfl ?_
          obtain rfl := Option.some.inj hr12
          refine o_keep [true, false, true] ?_
          exact K13
        · have hr12 := it_t hr12 hc
          refine o_aload_n (pc := 49) dX8_read_49 rfl ?_
          obtain ⟨q15, hk14, hr12⟩ := bd_elim hr12
          refine c_callV (pc := 50) 7 3 [] (by decide) (lt48 (by decide)) rfl dX8_read_50 (kX8_isClauseBehind hk14) stX8_42 ⟨by decide, by decide, by decide, by decide⟩ ⟨rfl, rfl⟩ (Nat.le_of_ble_eq_true rfl) ?_
          show Rn g mdX8_read 53 [some (.ref 3), some (.int x1), some (.int x2)] [.int q15.1] (cW t q15.2) 0 0 r h2
          refine o_if_eq (pc := 53) 60 dX8_read_53 rfl (fun hc => ?_) (fun hc => ?_)
          · have hr12 := it_t hr12 hc
            refine o_iconst (pc := 60) (v := 0) dX8_read_60 rfl ?_
            obtain rfl := Option.some.inj hr12
            refine o_keep [true, false, true] ?_
            exact K13
          · have hr12 := it_f hr12 hc
            refine o_iconst (pc := 56) (v := 1) dX8_read_56 rfl ?_
            refine o_goto (pc := 57) 61 dX8_read_57 rfl ?_
            obtain rfl := Option.some.inj hr12
            refine o_keep [true, false, true] ?_
            exact K13
      · have hf := it_f hf hc
        obtain rfl := Option.some.inj hf
        refine o_keep [true, false, false] ?_
        exact K
    clear hf
    refine o_if_eq (pc := 24) 68 dX8_read_24 rfl (fun hc => ?_) (fun hc => ?_)
    · have hr7 := it_t hr7 hc
      obtain rfl := Option.some.inj hr7
      exact KB8.2 (by decide)
    · have hr7 := it_f hr7 hc
      refine o_iload_n (pc := 27) dX8_read_27 rfl ?_
      refine o_sipush (pc := 28) (v := 400) dX8_read_28 rfl ?_
      refine o_icmp_gt (pc := 31) 68 dX8_read_31 rfl (fun hc => ?_) (fun hc => ?_)
      · have hr7 := it_t hr7 hc
        obtain rfl := Option.some.inj hr7
        exact KB8.2 (by decide)
      · have hr7 := it_f hr7 hc
        obtain rfl := Option.some.inj hr7
        exact KB8.1 rfl
set_option maxRecDepth 20000 in
theorem kX8_read {g : GX} {t : PH} {s : ST} {q : Int32 × ST} (hf : fX8_read s = some q) : Cn g mdX8_read [.ref 3] (cW t s) (some (.int q.1)) (cW t q.2) := by
  refine Cn.of (by decide) (Nat.le_of_ble_eq_true rfl) ?_
  show Rn g mdX8_read 0 [some (.ref 3), none, none] [] (cW t s) 0 0 (some (.int q.1)) (cW t q.2)
  unfold fX8_read at hf
  refine o_aload_n (pc := 0) dX8_read_0 rfl ?_
  refine c_getR (pc := 1) 7 1 3 4 (by decide) (by decide) rfl (lt48 (by decide)) rfl rfl lkX8_12 dX8_read_1 ?_
  obtain ⟨q2, hk1, hf⟩ := bd_elim hf
  refine c_callV (pc := 4) 6 4 [] (by decide) (lt48 (by decide)) rfl dX8_read_4 (kX7_clear_4 hk1) stX8_26 ⟨by decide, by decide, by decide, by decide⟩ ⟨rfl, rfl⟩ (Nat.le_of_ble_eq_true rfl) ?_
  show Rn g mdX8_read 7 [some (.ref 3), none, none] [] (cW t q2) 0 0 (some (.int q.1)) (cW t q.2)
  refine o_aload_n (pc := 7) dX8_read_7 rfl ?_
  refine o_iconst (pc := 8) (v := 0) dX8_read_8 rfl ?_
  refine c_putI (pc := 9) 7 2 3 (by decide) (by decide) rfl rfl (lt48 (by decide)) rfl lkX8_18 ⟨rfl, rfl⟩ dX8_read_9 ?_
  refine lz_s (cW t) hf (fun s3 hf => ?_)
  show Rn g mdX8_read 12 [some (.ref 3), none, none] [] (cW t s3) 0 0 (some (.int q.1)) (cW t q.2)
  refine o_aload_n (pc := 12) dX8_read_12 rfl ?_
  refine c_getR (pc := 13) 7 0 3 1 (by decide) (by decide) rfl (lt48 (by decide)) rfl rfl lkX8_22 dX8_read_13 ?_
  obtain ⟨q5, hk4, hf⟩ := bd_elim hf
  refine c_callV (pc := 16) 5 1 [] (by decide) (lt48 (by decide)) rfl dX8_read_16 (kX6_rewind hk4) stX8_29 ⟨by decide, by decide, by decide, by decide⟩ ⟨rfl, rfl⟩ (Nat.le_of_ble_eq_true rfl) ?_
  show Rn g mdX8_read 19 [some (.ref 3), none, none] [] (cW t q5) 0 0 (some (.int q.1)) (cW t q.2)
  refine o_iconst (pc := 19) (v := 1) dX8_read_19 rfl ?_
  refine o_istore_n (pc := 20) dX8_read_20 (by decide) rfl ?_
  show Rn g mdX8_read 21 [some (.ref 3), some (.int 1), none] [] (cW t q5) 0 0 (some (.int q.1)) (cW t q.2)
  refine o_iconst (pc := 21) (v := 1) dX8_read_21 rfl ?_
  refine o_istore_n (pc := 22) dX8_read_22 (by decide) rfl ?_
  show Rn g mdX8_read 23 [some (.ref 3), some (.int 1), some (.int 1)] [] (cW t q5) 0 0 (some (.int q.1)) (cW t q.2)
  obtain ⟨w17, hl18, hf⟩ := bd_elim hf
  have K19 : Rn g mdX8_read 68 [some (.ref 3), none, none] [] (cW t w17.2.2) 0 0 (some (.int q.1)) (cW t q.2) := by
    refine o_aload_n (pc := 68) dX8_read_68 rfl ?_
    refine c_getR (pc := 69) 7 0 3 1 (by decide) (by decide) rfl (lt48 (by decide)) rfl rfl lkX8_22 dX8_read_69 ?_
    refine c_getI (pc := 72) 5 3 1 (by decide) (by decide) rfl (lt48 (by decide)) rfl lkX8_38 dX8_read_72 ?_
    obtain rfl := Option.some.inj hf
    exact o_ireturn (pc := 75) dX8_read_75 rfl (Nat.zero_le _) (Nat.zero_le _)
  exact kX8_read_L23 _ _ _ _ hl18 K19
def fJ7_fill_53178_26_L5 (a1 : Int32) (a3 : Int32) : Nat → Int32 → ST → Option (Int32 × ST)
  | 0, _, _ => none
  | n + 1, x2, s => if a3 ≤ x2 then some (x2, s) else ck (inb x2 46) (lt (si s 26 (ix x2) a1) (fun s2 => lt (x2 + 1) (fun v3 => fJ7_fill_53178_26_L5 a1 a3 n v3 s2)))
def fJ7_fill_53178_26 (p1 : Int32) (s : ST) : Option (ST) :=
  (fJ7_fill_53178_26_L5 p1 46 FUEL 0 s).bind (fun w4 => some w4.2)
set_option maxRecDepth 20000 in
theorem kJ7_fill_53178_26_L5 {g : GX} {t : PH} (a1 : Int32) (a3 : Int32) {r : Option Value} {h2 : PH} : ∀ (n : Nat) (x2 : Int32) (s : ST) {w : Int32 × ST}, fJ7_fill_53178_26_L5 a1 a3 n x2 s = some w → Rn g mdJ7_fill_53178 20 [none, none, none, none] [] (cW t w.2) 0 0 r h2 → Rn g mdJ7_fill_53178 5 [some (.ref 26), some (.int a1), some (.int x2), some (.int a3)] [] (cW t s) 0 0 r h2 := by
  intro n
  induction n with
  | zero => intro x2 s w hf K; cases hf
  | succ n ih =>
    intro x2 s w hf K
    rw [fJ7_fill_53178_26_L5] at hf
    refine o_iload_n (pc := 5) dJ7_fill_53178_5 rfl ?_
    refine o_iload_n (pc := 6) dJ7_fill_53178_6 rfl ?_
    refine o_icmp_ge (pc := 7) 20 dJ7_fill_53178_7 rfl (fun hc => ?_) (fun hc => ?_)
    · have hf := it_t hf hc
      obtain rfl := Option.some.inj hf
      refine o_keep [false, false, false, false] ?_
      exact K
    · have hf := it_f hf hc
      refine o_aload_n (pc := 10) dJ7_fill_53178_10 rfl ?_
      refine o_iload_n (pc := 11) dJ7_fill_53178_11 rfl ?_
      refine o_iload_n (pc := 12) dJ7_fill_53178_12 rfl ?_
      obtain ⟨hk1, hf⟩ := ck_elim hf
      refine c_iast (pc := 13) (lt48 (by decide)) rfl hk1 dJ7_fill_53178_13 ?_
      refine lz_s (cW t) hf (fun s2 hf => ?_)
      show Rn g mdJ7_fill_53178 14 [some (.ref 26), some (.int a1), some (.int x2), some (.int a3)] [] (cW t s2) 0 0 r h2
      refine o_iinc (pc := 14) dJ7_fill_53178_14 rfl (by decide) rfl ?_
      show Rn g mdJ7_fill_53178 17 [some (.ref 26), some (.int a1), some (.int (x2 + 1)), some (.int a3)] [] (cW t s2) 0 0 r h2
      obtain ⟨v3, ev3, hf⟩ := lt_elim hf
      rw [ev3]
      show Rn g mdJ7_fill_53178 17 [some (.ref 26), some (.int a1), some (.int v3), some (.int a3)] [] (cW t s2) 0 0 r h2
      refine o_goto (pc := 17) 5 dJ7_fill_53178_17 rfl ?_
      exact ih _ _ hf K
set_option maxRecDepth 20000 in
theorem kJ7_fill_53178_26 {g : GX} {t : PH} {p1 : Int32} {s : ST} {q : ST} (hf : fJ7_fill_53178_26 p1 s = some q) : Cn g mdJ7_fill_53178 [.ref 26, .int p1] (cW t s) none (cW t q) := by
  refine Cn.of (by decide) (Nat.le_of_ble_eq_true rfl) ?_
  show Rn g mdJ7_fill_53178 0 [some (.ref 26), some (.int p1), none, none] [] (cW t s) 0 0 none (cW t q)
  unfold fJ7_fill_53178_26 at hf
  refine o_iconst (pc := 0) (v := 0) dJ7_fill_53178_0 rfl ?_
  refine o_istore_n (pc := 1) dJ7_fill_53178_1 (by decide) rfl ?_
  show Rn g mdJ7_fill_53178 2 [some (.ref 26), some (.int p1), some (.int 0), none] [] (cW t s) 0 0 none (cW t q)
  refine o_aload_n (pc := 2) dJ7_fill_53178_2 rfl ?_
  refine c_alen (pc := 3) 46 (by decide) (lt48 (by decide)) rfl rfl dJ7_fill_53178_3 ?_
  refine o_istore_n (pc := 4) dJ7_fill_53178_4 (by decide) rfl ?_
  show Rn g mdJ7_fill_53178 5 [some (.ref 26), some (.int p1), some (.int 0), some (.int 46)] [] (cW t s) 0 0 none (cW t q)
  obtain ⟨w4, hl5, hf⟩ := bd_elim hf
  have K6 : Rn g mdJ7_fill_53178 20 [none, none, none, none] [] (cW t w4.2) 0 0 none (cW t q) := by
    obtain rfl := Option.some.inj hf
    exact o_return (pc := 20) dJ7_fill_53178_20 rfl (Nat.zero_le _) (Nat.zero_le _)
  exact kJ7_fill_53178_26_L5 _ _ _ _ _ hl5 K6
def fX5_begin_25_18_19_L10 : Nat → Int32 → ST → Option (Int32 × ST)
  | 0, _, _ => none
  | n + 1, x3, s => if (gi s 18 7) ≤ x3 then some (x3, s) else ck (inb x3 5) (ck (inb (0 + x3) 46) (lt (si s 26 (ix (0 + x3)) (gi s 20 (ix x3))) (fun s5 => ck (inb x3 5) (ck (inb (5 + x3) 46) (lt (si s5 26 (ix (5 + x3)) (gi s5 19 (ix x3))) (fun s8 => lt (x3 + 1) (fun v9 => fX5_begin_25_18_19_L10 n v9 s8)))))))
def fX5_begin_25_18_19_L51 : Nat → Int32 → ST → Option (Int32 × ST)
  | 0, _, _ => none
  | n + 1, x3, s => if (gi s 18 8) ≤ x3 then some (x3, s) else ck (inb x3 8) (ck (inb (20 + x3) 46) (lt (si s 26 (ix (20 + x3)) (gi s 23 (ix x3))) (fun s15 => lt (x3 + 1) (fun v16 => fX5_begin_25_18_19_L51 n v16 s15))))
def fX5_begin_25_18_19 (s : ST) : Option (ST) :=
  (fJ7_fill_53178_26 0 s).bind (fun q2 => (fX5_begin_25_18_19_L10 FUEL 0 q2).bind (fun w10 => (fX5_begin_25_18_19_L51 FUEL 0 w10.2).bind (fun w17 => ck (inb 44 46) (lt (si w17.2 26 (ix 44) (gi w17.2 18 6)) (fun s21 => some s21)))))
set_option maxRecDepth 20000 in
theorem kX5_begin_25_18_19_L10 {g : GX} {t : PH} {r : Option Value} {h2 : PH} : ∀ (n : Nat) (x3 : Int32) (s : ST) {w : Int32 × ST}, fX5_begin_25_18_19_L10 n x3 s = some w → Rn g mdX5_begin 49 [some (.ref 25), some (.ref 18), none, none] [] (cW t w.2) 0 0 r h2 → Rn g mdX5_begin 10 [some (.ref 25), some (.ref 18), some (.ref 19), some (.int x3)] [] (cW t s) 0 0 r h2 := by
  intro n
  induction n with
  | zero => intro x3 s w hf K; cases hf
  | succ n ih =>
    intro x3 s w hf K
    rw [fX5_begin_25_18_19_L10] at hf
    refine o_iload_n (pc := 10) dX5_begin_10 rfl ?_
    refine o_aload_n (pc := 11) dX5_begin_11 rfl ?_
    refine c_getI (pc := 12) 6 7 18 (by decide) (by decide) rfl (lt48 (by decide)) rfl lkX5_27 dX5_begin_12 ?_
    refine o_icmp_ge (pc := 15) 49 dX5_begin_15 rfl (fun hc => ?_) (fun hc => ?_)
    · have hf := it_t hf hc
      obtain rfl := Option.some.inj hf
      refine o_keep [true, true, false, false] ?_
      exact K
    · have hf := it_f hf hc
      refine o_aload_n (pc := 18) dX5_begin_18 rfl ?_
      refine c_getR (pc := 19) 4 0 25 26 (by decide) (by decide) rfl (lt48 (by decide)) rfl rfl lkX5_11 dX5_begin_19 ?_
      refine o_iconst (pc := 22) (v := 0) dX5_begin_22 rfl ?_
      refine o_iload_n (pc := 23) dX5_begin_23 rfl ?_
      refine o_iadd (pc := 24) dX5_begin_24 ?_
      refine o_aload_n (pc := 25) dX5_begin_25 rfl ?_
      refine c_getR (pc := 26) 6 10 18 20 (by decide) (by decide) rfl (lt48 (by decide)) rfl rfl lkX5_33 dX5_begin_26 ?_
      refine o_iload_n (pc := 29) dX5_begin_29 rfl ?_
      obtain ⟨hk3, hf⟩ := ck_elim hf
      refine c_iald (pc := 30) (lt48 (by decide)) rfl hk3 dX5_begin_30 ?_
      obtain ⟨hk4, hf⟩ := ck_elim hf
      refine c_iast (pc := 31) (lt48 (by decide)) rfl hk4 dX5_begin_31 ?_
      refine lz_s (cW t) hf (fun s5 hf => ?_)
      show Rn g mdX5_begin 32 [some (.ref 25), some (.ref 18), some (.ref 19), some (.int x3)] [] (cW t s5) 0 0 r h2
      refine o_aload_n (pc := 32) dX5_begin_32 rfl ?_
      refine c_getR (pc := 33) 4 0 25 26 (by decide) (by decide) rfl (lt48 (by decide)) rfl rfl lkX5_11 dX5_begin_33 ?_
      refine o_iconst (pc := 36) (v := 5) dX5_begin_36 rfl ?_
      refine o_iload_n (pc := 37) dX5_begin_37 rfl ?_
      refine o_iadd (pc := 38) dX5_begin_38 ?_
      refine o_aload_n (pc := 39) dX5_begin_39 rfl ?_
      refine o_iload_n (pc := 40) dX5_begin_40 rfl ?_
      obtain ⟨hk6, hf⟩ := ck_elim hf
      refine c_iald (pc := 41) (lt48 (by decide)) rfl hk6 dX5_begin_41 ?_
      obtain ⟨hk7, hf⟩ := ck_elim hf
      refine c_iast (pc := 42) (lt48 (by decide)) rfl hk7 dX5_begin_42 ?_
      refine lz_s (cW t) hf (fun s8 hf => ?_)
      show Rn g mdX5_begin 43 [some (.ref 25), some (.ref 18), some (.ref 19), some (.int x3)] [] (cW t s8) 0 0 r h2
      refine o_iinc (pc := 43) dX5_begin_43 rfl (by decide) rfl ?_
      show Rn g mdX5_begin 46 [some (.ref 25), some (.ref 18), some (.ref 19), some (.int (x3 + 1))] [] (cW t s8) 0 0 r h2
      obtain ⟨v9, ev9, hf⟩ := lt_elim hf
      rw [ev9]
      show Rn g mdX5_begin 46 [some (.ref 25), some (.ref 18), some (.ref 19), some (.int v9)] [] (cW t s8) 0 0 r h2
      refine o_goto (pc := 46) 10 dX5_begin_46 rfl ?_
      exact ih _ _ hf K
set_option maxRecDepth 20000 in
theorem kX5_begin_25_18_19_L51 {g : GX} {t : PH} {r : Option Value} {h2 : PH} : ∀ (n : Nat) (x3 : Int32) (s : ST) {w : Int32 × ST}, fX5_begin_25_18_19_L51 n x3 s = some w → Rn g mdX5_begin 80 [some (.ref 25), some (.ref 18), none, none] [] (cW t w.2) 0 0 r h2 → Rn g mdX5_begin 51 [some (.ref 25), some (.ref 18), none, some (.int x3)] [] (cW t s) 0 0 r h2 := by
  intro n
  induction n with
  | zero => intro x3 s w hf K; cases hf
  | succ n ih =>
    intro x3 s w hf K
    rw [fX5_begin_25_18_19_L51] at hf
    refine o_iload_n (pc := 51) dX5_begin_51 rfl ?_
    refine o_aload_n (pc := 52) dX5_begin_52 rfl ?_
    refine c_getI (pc := 53) 6 8 18 (by decide) (by decide) rfl (lt48 (by decide)) rfl lkX5_36 dX5_begin_53 ?_
    refine o_icmp_ge (pc := 56) 80 dX5_begin_56 rfl (fun hc => ?_) (fun hc => ?_)
    · have hf := it_t hf hc
      obtain rfl := Option.some.inj hf
      refine o_keep [true, true, false, false] ?_
      exact K
    · have hf := it_f hf hc
      refine o_aload_n (pc := 59) dX5_begin_59 rfl ?_
      refine c_getR (pc := 60) 4 0 25 26 (by decide) (by decide) rfl (lt48 (by decide)) rfl rfl lkX5_11 dX5_begin_60 ?_
      refine o_bipush (pc := 63) (v := 20) dX5_begin_63 rfl ?_
      refine o_iload_n (pc := 65) dX5_begin_65 rfl ?_
      refine o_iadd (pc := 66) dX5_begin_66 ?_
      refine o_aload_n (pc := 67) dX5_begin_67 rfl ?_
      refine c_getR (pc := 68) 6 13 18 23 (by decide) (by decide) rfl (lt48 (by decide)) rfl rfl lkX5_39 dX5_begin_68 ?_
      refine o_iload_n (pc := 71) dX5_begin_71 rfl ?_
      obtain ⟨hk13, hf⟩ := ck_elim hf
      refine c_iald (pc := 72) (lt48 (by decide)) rfl hk13 dX5_begin_72 ?_
      obtain ⟨hk14, hf⟩ := ck_elim hf
      refine c_iast (pc := 73) (lt48 (by decide)) rfl hk14 dX5_begin_73 ?_
      refine lz_s (cW t) hf (fun s15 hf => ?_)
      show Rn g mdX5_begin 74 [some (.ref 25), some (.ref 18), none, some (.int x3)] [] (cW t s15) 0 0 r h2
      refine o_iinc (pc := 74) dX5_begin_74 rfl (by decide) rfl ?_
      show Rn g mdX5_begin 77 [some (.ref 25), some (.ref 18), none, some (.int (x3 + 1))] [] (cW t s15) 0 0 r h2
      obtain ⟨v16, ev16, hf⟩ := lt_elim hf
      rw [ev16]
      show Rn g mdX5_begin 77 [some (.ref 25), some (.ref 18), none, some (.int v16)] [] (cW t s15) 0 0 r h2
      refine o_goto (pc := 77) 51 dX5_begin_77 rfl ?_
      exact ih _ _ hf K
set_option maxRecDepth 20000 in
theorem kX5_begin_25_18_19 {g : GX} {t : PH} {s : ST} {q : ST} (hf : fX5_begin_25_18_19 s = some q) : Cn g mdX5_begin [.ref 25, .ref 18, .ref 19] (cW t s) none (cW t q) := by
  refine Cn.of (by decide) (Nat.le_of_ble_eq_true rfl) ?_
  show Rn g mdX5_begin 0 [some (.ref 25), some (.ref 18), some (.ref 19), none] [] (cW t s) 0 0 none (cW t q)
  unfold fX5_begin_25_18_19 at hf
  refine o_aload_n (pc := 0) dX5_begin_0 rfl ?_
  refine c_getR (pc := 1) 4 0 25 26 (by decide) (by decide) rfl (lt48 (by decide)) rfl rfl lkX5_11 dX5_begin_1 ?_
  refine o_iconst (pc := 4) (v := 0) dX5_begin_4 rfl ?_
  obtain ⟨q2, hk1, hf⟩ := bd_elim hf
  refine c_callS (pc := 5) [.ref 26, .int 0] dX5_begin_5 (kJ7_fill_53178_26 hk1) stX5_21 ⟨by decide, by decide, by decide, by decide⟩ ⟨rfl, rfl⟩ (Nat.le_of_ble_eq_true rfl) ?_
  show Rn g mdX5_begin 8 [some (.ref 25), some (.ref 18), some (.ref 19), none] [] (cW t q2) 0 0 none (cW t q)
  refine o_iconst (pc := 8) (v := 0) dX5_begin_8 rfl ?_
  refine o_istore_n (pc := 9) dX5_begin_9 (by decide) rfl ?_
  show Rn g mdX5_begin 10 [some (.ref 25), some (.ref 18), some (.ref 19), some (.int 0)] [] (cW t q2) 0 0 none (cW t q)
  obtain ⟨w10, hl11, hf⟩ := bd_elim hf
  have K12 : Rn g mdX5_begin 49 [some (.ref 25), some (.ref 18), none, none] [] (cW t w10.2) 0 0 none (cW t q) := by
    refine o_iconst (pc := 49) (v := 0) dX5_begin_49 rfl ?_
    refine o_istore_n (pc := 50) dX5_begin_50 (by decide) rfl ?_
    show Rn g mdX5_begin 51 [some (.ref 25), some (.ref 18), none, some (.int 0)] [] (cW t w10.2) 0 0 none (cW t q)
    obtain ⟨w17, hl18, hf⟩ := bd_elim hf
    have K19 : Rn g mdX5_begin 80 [some (.ref 25), some (.ref 18), none, none] [] (cW t w17.2) 0 0 none (cW t q) := by
      refine o_aload_n (pc := 80) dX5_begin_80 rfl ?_
      refine c_getR (pc := 81) 4 0 25 26 (by decide) (by decide) rfl (lt48 (by decide)) rfl rfl lkX5_11 dX5_begin_81 ?_
      refine o_bipush (pc := 84) (v := 44) dX5_begin_84 rfl ?_
      refine o_aload_n (pc := 86) dX5_begin_86 rfl ?_
      refine c_getI (pc := 87) 6 6 18 (by decide) (by decide) rfl (lt48 (by decide)) rfl lkX5_42 dX5_begin_87 ?_
      obtain ⟨hk20, hf⟩ := ck_elim hf
      refine c_iast (pc := 90) (lt48 (by decide)) rfl hk20 dX5_begin_90 ?_
      refine lz_s (cW t) hf (fun s21 hf => ?_)
      show Rn g mdX5_begin 91 [some (.ref 25), some (.ref 18), none, none] [] (cW t s21) 0 0 none (cW t q)
      obtain rfl := Option.some.inj hf
      exact o_return (pc := 91) dX5_begin_91 rfl (Nat.zero_le _) (Nat.zero_le _)
    exact kX5_begin_25_18_19_L51 _ _ _ hl18 K19
  exact kX5_begin_25_18_19_L10 _ _ _ hl11 K12
def fX7_copyFrom_Tw_Tw (a0 : Nat) (p0 : Nat) (s : ST) : Option (ST) :=
  ck (bz (gi s p0 0)) (lt (si s a0 0 (gi s p0 0)) (fun s2 => lt (si s2 a0 1 (gi s2 p0 1)) (fun s3 => lt (si s3 a0 2 (gi s3 p0 2)) (fun s4 => lt (si s4 a0 3 (gi s4 p0 3)) (fun s5 => lt (si s5 a0 4 (gi s5 p0 4)) (fun s6 => lt (si s6 a0 5 (gi s6 p0 5)) (fun s7 => lt (si s7 a0 6 (gi s7 p0 6)) (fun s8 => lt (si s8 a0 7 (gi s8 p0 7)) (fun s9 => lt (si s9 a0 8 (gi s9 p0 8)) (fun s10 => ck (cpB 0 0 5 5 5) (lt (sAr s10 (a0 + 1) (va_cpy (s10.1 (p0 + 1)) (s10.1 (a0 + 1)) (ix 0) (ix 0) (ix 5))) (fun s12 => ck (cpB 0 0 5 5 5) (lt (sAr s12 (a0 + 2) (va_cpy (s12.1 (p0 + 2)) (s12.1 (a0 + 2)) (ix 0) (ix 0) (ix 5))) (fun s14 => ck (cpB 0 0 8 8 8) (lt (sAr s14 (a0 + 3) (va_cpy (s14.1 (p0 + 3)) (s14.1 (a0 + 3)) (ix 0) (ix 0) (ix 8))) (fun s16 => ck (cpB 0 0 8 8 8) (lt (sAr s16 (a0 + 4) (va_cpy (s16.1 (p0 + 4)) (s16.1 (a0 + 4)) (ix 0) (ix 0) (ix 8))) (fun s18 => ck (cpB 0 0 8 8 8) (lt (sAr s18 (a0 + 5) (va_cpy (s18.1 (p0 + 5)) (s18.1 (a0 + 5)) (ix 0) (ix 0) (ix 8))) (fun s20 => ck (cpB 0 0 8 8 8) (lt (sAr s20 (a0 + 6) (va_cpy (s20.1 (p0 + 6)) (s20.1 (a0 + 6)) (ix 0) (ix 0) (ix 8))) (fun s22 => some s22))))))))))))))))))))))
set_option maxRecDepth 20000 in
theorem kX7_copyFrom_Tw_Tw {g : GX} {t : PH} {a0 : Nat} {p0 : Nat} {s : ST} {q : ST} (ha0 : isTw t a0) (hp0 : isTw t p0) (hf : fX7_copyFrom_Tw_Tw a0 p0 s = some q) : Cn g mdX7_copyFrom [.ref a0, .ref p0] (cW t s) none (cW t q) := by
  refine Cn.of (by decide) (Nat.le_of_ble_eq_true rfl) ?_
  show Rn g mdX7_copyFrom 0 [some (.ref a0), some (.ref p0)] [] (cW t s) 0 0 none (cW t q)
  unfold fX7_copyFrom_Tw_Tw at hf
  refine o_aload_n (pc := 0) dX7_copyFrom_0 rfl ?_
  refine o_aload_n (pc := 1) dX7_copyFrom_1 rfl ?_
  refine c_getI (pc := 2) 6 0 p0 (by decide) (by decide) rfl (by have := hp0.1; omega) hp0.2.1 lkX7_9 dX7_copyFrom_2 ?_
  obtain ⟨hk1, hf⟩ := ck_elim hf
  refine c_putI (pc := 5) 6 0 a0 (by decide) (by decide) rfl rfl (by have := ha0.1; omega) ha0.2.1 lkX7_9 (bz_n hk1) dX7_copyFrom_5 ?_
  refine lz_s (cW t) hf (fun s2 hf => ?_)
  show Rn g mdX7_copyFrom 8 [some (.ref a0), some (.ref p0)] [] (cW t s2) 0 0 none (cW t q)
  refine o_aload_n (pc := 8) dX7_copyFrom_8 rfl ?_
  refine o_aload_n (pc := 9) dX7_copyFrom_9 rfl ?_
  refine c_getI (pc := 10) 6 1 p0 (by decide) (by decide) rfl (by have := hp0.1; omega) hp0.2.1 lkX7_15 dX7_copyFrom_10 ?_
  refine c_putI (pc := 13) 6 1 a0 (by decide) (by decide) rfl rfl (by have := ha0.1; omega) ha0.2.1 lkX7_15 ⟨rfl, rfl⟩ dX7_copyFrom_13 ?_
  refine lz_s (cW t) hf (fun s3 hf => ?_)
  show Rn g mdX7_copyFrom 16 [some (.ref a0), some (.ref p0)] [] (cW t s3) 0 0 none (cW t q)
  refine o_aload_n (pc := 16) dX7_copyFrom_16 rfl ?_
  refine o_aload_n (pc := 17) dX7_copyFrom_17 rfl ?_
  refine c_getI (pc := 18) 6 2 p0 (by decide) (by decide) rfl (by have := hp0.1; omega) hp0.2.1 lkX7_19 dX7_copyFrom_18 ?_
  refine c_putI (pc := 21) 6 2 a0 (by decide) (by decide) rfl rfl (by have := ha0.1; omega) ha0.2.1 lkX7_19 ⟨rfl, rfl⟩ dX7_copyFrom_21 ?_
  refine lz_s (cW t) hf (fun s4 hf => ?_)
  show Rn g mdX7_copyFrom 24 [some (.ref a0), some (.ref p0)] [] (cW t s4) 0 0 none (cW t q)
  refine o_aload_n (pc := 24) dX7_copyFrom_24 rfl ?_
  refine o_aload_n (pc := 25) dX7_copyFrom_25 rfl ?_
  refine c_getI (pc := 26) 6 3 p0 (by decide) (by decide) rfl (by have := hp0.1; omega) hp0.2.1 lkX7_22 dX7_copyFrom_26 ?_
  refine c_putI (pc := 29) 6 3 a0 (by decide) (by decide) rfl rfl (by have := ha0.1; omega) ha0.2.1 lkX7_22 ⟨rfl, rfl⟩ dX7_copyFrom_29 ?_
  refine lz_s (cW t) hf (fun s5 hf => ?_)
  show Rn g mdX7_copyFrom 32 [some (.ref a0), some (.ref p0)] [] (cW t s5) 0 0 none (cW t q)
  refine o_aload_n (pc := 32) dX7_copyFrom_32 rfl ?_
  refine o_aload_n (pc := 33) dX7_copyFrom_33 rfl ?_
  refine c_getI (pc := 34) 6 4 p0 (by decide) (by decide) rfl (by have := hp0.1; omega) hp0.2.1 lkX7_25 dX7_copyFrom_34 ?_
  refine c_putI (pc := 37) 6 4 a0 (by decide) (by decide) rfl rfl (by have := ha0.1; omega) ha0.2.1 lkX7_25 ⟨rfl, rfl⟩ dX7_copyFrom_37 ?_
  refine lz_s (cW t) hf (fun s6 hf => ?_)
  show Rn g mdX7_copyFrom 40 [some (.ref a0), some (.ref p0)] [] (cW t s6) 0 0 none (cW t q)
  refine o_aload_n (pc := 40) dX7_copyFrom_40 rfl ?_
  refine o_aload_n (pc := 41) dX7_copyFrom_41 rfl ?_
  refine c_getI (pc := 42) 6 5 p0 (by decide) (by decide) rfl (by have := hp0.1; omega) hp0.2.1 lkX7_28 dX7_copyFrom_42 ?_
  refine c_putI (pc := 45) 6 5 a0 (by decide) (by decide) rfl rfl (by have := ha0.1; omega) ha0.2.1 lkX7_28 ⟨rfl, rfl⟩ dX7_copyFrom_45 ?_
  refine lz_s (cW t) hf (fun s7 hf => ?_)
  show Rn g mdX7_copyFrom 48 [some (.ref a0), some (.ref p0)] [] (cW t s7) 0 0 none (cW t q)
  refine o_aload_n (pc := 48) dX7_copyFrom_48 rfl ?_
  refine o_aload_n (pc := 49) dX7_copyFrom_49 rfl ?_
  refine c_getI (pc := 50) 6 6 p0 (by decide) (by decide) rfl (by have := hp0.1; omega) hp0.2.1 lkX7_31 dX7_copyFrom_50 ?_
  refine c_putI (pc := 53) 6 6 a0 (by decide) (by decide) rfl rfl (by have := ha0.1; omega) ha0.2.1 lkX7_31 ⟨rfl, rfl⟩ dX7_copyFrom_53 ?_
  refine lz_s (cW t) hf (fun s8 hf => ?_)
  show Rn g mdX7_copyFrom 56 [some (.ref a0), some (.ref p0)] [] (cW t s8) 0 0 none (cW t q)
  refine o_aload_n (pc := 56) dX7_copyFrom_56 rfl ?_
  refine o_aload_n (pc := 57) dX7_copyFrom_57 rfl ?_
  refine c_getI (pc := 58) 6 7 p0 (by decide) (by decide) rfl (by have := hp0.1; omega) hp0.2.1 lkX7_34 dX7_copyFrom_58 ?_
  refine c_putI (pc := 61) 6 7 a0 (by decide) (by decide) rfl rfl (by have := ha0.1; omega) ha0.2.1 lkX7_34 ⟨rfl, rfl⟩ dX7_copyFrom_61 ?_
  refine lz_s (cW t) hf (fun s9 hf => ?_)
  show Rn g mdX7_copyFrom 64 [some (.ref a0), some (.ref p0)] [] (cW t s9) 0 0 none (cW t q)
  refine o_aload_n (pc := 64) dX7_copyFrom_64 rfl ?_
  refine o_aload_n (pc := 65) dX7_copyFrom_65 rfl ?_
  refine c_getI (pc := 66) 6 8 p0 (by decide) (by decide) rfl (by have := hp0.1; omega) hp0.2.1 lkX7_37 dX7_copyFrom_66 ?_
  refine c_putI (pc := 69) 6 8 a0 (by decide) (by decide) rfl rfl (by have := ha0.1; omega) ha0.2.1 lkX7_37 ⟨rfl, rfl⟩ dX7_copyFrom_69 ?_
  refine lz_s (cW t) hf (fun s10 hf => ?_)
  show Rn g mdX7_copyFrom 72 [some (.ref a0), some (.ref p0)] [] (cW t s10) 0 0 none (cW t q)
  refine o_aload_n (pc := 72) dX7_copyFrom_72 rfl ?_
  refine c_getR (pc := 73) 6 9 p0 (p0 + 1) (by decide) (by decide) rfl (by have := hp0.1; omega) hp0.2.1 ((hR_cW hp0.2.1 (by decide)).trans hp0.2.2.1.1) lkX7_40 dX7_copyFrom_73 ?_
  refine o_iconst (pc := 76) (v := 0) dX7_copyFrom_76 rfl ?_
  refine o_aload_n (pc := 77) dX7_copyFrom_77 rfl ?_
  refine c_getR (pc := 78) 6 9 a0 (a0 + 1) (by decide) (by decide) rfl (by have := ha0.1; omega) ha0.2.1 ((hR_cW ha0.2.1 (by decide)).trans ha0.2.2.1.1) lkX7_40 dX7_copyFrom_78 ?_
  refine o_iconst (pc := 81) (v := 0) dX7_copyFrom_81 rfl ?_
  refine o_iconst (pc := 82) (v := 5) dX7_copyFrom_82 rfl ?_
  obtain ⟨hk11, hf⟩ := ck_elim hf
  refine c_copy (pc := 83) (p0 + 1) (a0 + 1) 5 5 lmX7_59 dX7_copyFrom_83 (by decide) (Nat.le_of_ble_eq_true rfl) (by have := hp0.1; omega) hp0.2.2.2.1 (by have := ha0.1; omega) ha0.2.2.2.1 hk11 ?_
  refine lz_s (cW t) hf (fun s12 hf => ?_)
  show Rn g mdX7_copyFrom 86 [some (.ref a0), some (.ref p0)] [] (cW t s12) 0 0 none (cW t q)
  refine o_aload_n (pc := 86) dX7_copyFrom_86 rfl ?_
  refine c_getR (pc := 87) 6 10 p0 (p0 + 2) (by decide) (by decide) rfl (by have := hp0.1; omega) hp0.2.1 ((hR_cW hp0.2.1 (by decide)).trans hp0.2.2.1.2.1) lkX7_44 dX7_copyFrom_87 ?_
  refine o_iconst (pc := 90) (v := 0) dX7_copyFrom_90 rfl ?_
  refine o_aload_n (pc := 91) dX7_copyFrom_91 rfl ?_
  refine c_getR (pc := 92) 6 10 a0 (a0 + 2) (by decide) (by decide) rfl (by have := ha0.1; omega) ha0.2.1 ((hR_cW ha0.2.1 (by decide)).trans ha0.2.2.1.2.1) lkX7_44 dX7_copyFrom_92 ?_
  refine o_iconst (pc := 95) (v := 0) dX7_copyFrom_95 rfl ?_
  refine o_iconst (pc := 96) (v := 5) dX7_copyFrom_96 rfl ?_
  obtain ⟨hk13, hf⟩ := ck_elim hf
  refine c_copy (pc := 97) (p0 + 2) (a0 + 2) 5 5 lmX7_59 dX7_copyFrom_97 (by decide) (Nat.le_of_ble_eq_true rfl) (by have := hp0.1; omega) hp0.2.2.2.2.1 (by have := ha0.1; omega) ha0.2.2.2.2.1 hk13 ?_
  refine lz_s (cW t) hf (fun s14 hf => ?_)
  show Rn g mdX7_copyFrom 100 [some (.ref a0), some (.ref p0)] [] (cW t s14) 0 0 none (cW t q)
  refine o_aload_n (pc := 100) dX7_copyFrom_100 rfl ?_
  refine c_getR (pc := 101) 6 11 p0 (p0 + 3) (by decide) (by decide) rfl (by have := hp0.1; omega) hp0.2.1 ((hR_cW hp0.2.1 (by decide)).trans hp0.2.2.1.2.2.1) lkX7_47 dX7_copyFrom_101 ?_
  refine o_iconst (pc := 104) (v := 0) dX7_copyFrom_104 rfl ?_
  refine o_aload_n (pc := 105) dX7_copyFrom_105 rfl ?_
  refine c_getR (pc := 106) 6 11 a0 (a0 + 3) (by decide) (by decide) rfl (by have := ha0.1; omega) ha0.2.1 ((hR_cW ha0.2.1 (by decide)).trans ha0.2.2.1.2.2.1) lkX7_47 dX7_copyFrom_106 ?_
  refine o_iconst (pc := 109) (v := 0) dX7_copyFrom_109 rfl ?_
  refine o_bipush (pc := 110) (v := 8) dX7_copyFrom_110 rfl ?_
  obtain ⟨hk15, hf⟩ := ck_elim hf
  refine c_copy (pc := 112) (p0 + 3) (a0 + 3) 8 8 lmX7_59 dX7_copyFrom_112 (by decide) (Nat.le_of_ble_eq_true rfl) (by have := hp0.1; omega) hp0.2.2.2.2.2.1 (by have := ha0.1; omega) ha0.2.2.2.2.2.1 hk15 ?_
  refine lz_s (cW t) hf (fun s16 hf => ?_)
  show Rn g mdX7_copyFrom 115 [some (.ref a0), some (.ref p0)] [] (cW t s16) 0 0 none (cW t q)
  refine o_aload_n (pc := 115) dX7_copyFrom_115 rfl ?_
  refine c_getR (pc := 116) 6 12 p0 (p0 + 4) (by decide) (by decide) rfl (by have := hp0.1; omega) hp0.2.1 ((hR_cW hp0.2.1 (by decide)).trans hp0.2.2.1.2.2.2.1) lkX7_50 dX7_copyFrom_116 ?_
  refine o_iconst (pc := 119) (v := 0) dX7_copyFrom_119 rfl ?_
  refine o_aload_n (pc := 120) dX7_copyFrom_120 rfl ?_
  refine c_getR (pc := 121) 6 12 a0 (a0 + 4) (by decide) (by decide) rfl (by have := ha0.1; omega) ha0.2.1 ((hR_cW ha0.2.1 (by decide)).trans ha0.2.2.1.2.2.2.1) lkX7_50 dX7_copyFrom_121 ?_
  refine o_iconst (pc := 124) (v := 0) dX7_copyFrom_124 rfl ?_
  refine o_bipush (pc := 125) (v := 8) dX7_copyFrom_125 rfl ?_
  obtain ⟨hk17, hf⟩ := ck_elim hf
  refine c_copy (pc := 127) (p0 + 4) (a0 + 4) 8 8 lmX7_59 dX7_copyFrom_127 (by decide) (Nat.le_of_ble_eq_true rfl) (by have := hp0.1; omega) hp0.2.2.2.2.2.2.1 (by have := ha0.1; omega) ha0.2.2.2.2.2.2.1 hk17 ?_
  refine lz_s (cW t) hf (fun s18 hf => ?_)
  show Rn g mdX7_copyFrom 130 [some (.ref a0), some (.ref p0)] [] (cW t s18) 0 0 none (cW t q)
  refine o_aload_n (pc := 130) dX7_copyFrom_130 rfl ?_
  refine c_getR (pc := 131) 6 13 p0 (p0 + 5) (by decide) (by decide) rfl (by have := hp0.1; omega) hp0.2.1 ((hR_cW hp0.2.1 (by decide)).trans hp0.2.2.1.2.2.2.2.1) lkX7_53 dX7_copyFrom_131 ?_
  refine o_iconst (pc := 134) (v := 0) dX7_copyFrom_134 rfl ?_
  refine o_aload_n (pc := 135) dX7_copyFrom_135 rfl ?_
  refine c_getR (pc := 136) 6 13 a0 (a0 + 5) (by decide) (by decide) rfl (by have := ha0.1; omega) ha0.2.1 ((hR_cW ha0.2.1 (by decide)).trans ha0.2.2.1.2.2.2.2.1) lkX7_53 dX7_copyFrom_136 ?_
  refine o_iconst (pc := 139) (v := 0) dX7_copyFrom_139 rfl ?_
  refine o_bipush (pc := 140) (v := 8) dX7_copyFrom_140 rfl ?_
  obtain ⟨hk19, hf⟩ := ck_elim hf
  refine c_copy (pc := 142) (p0 + 5) (a0 + 5) 8 8 lmX7_59 dX7_copyFrom_142 (by decide) (Nat.le_of_ble_eq_true rfl) (by have := hp0.1; omega) hp0.2.2.2.2.2.2.2.1 (by have := ha0.1; omega) ha0.2.2.2.2.2.2.2.1 hk19 ?_
  refine lz_s (cW t) hf (fun s20 hf => ?_)
  show Rn g mdX7_copyFrom 145 [some (.ref a0), some (.ref p0)] [] (cW t s20) 0 0 none (cW t q)
  refine o_aload_n (pc := 145) dX7_copyFrom_145 rfl ?_
  refine c_getR (pc := 146) 6 14 p0 (p0 + 6) (by decide) (by decide) rfl (by have := hp0.1; omega) hp0.2.1 ((hR_cW hp0.2.1 (by decide)).trans hp0.2.2.1.2.2.2.2.2) lkX7_56 dX7_copyFrom_146 ?_
  refine o_iconst (pc := 149) (v := 0) dX7_copyFrom_149 rfl ?_
  refine o_aload_n (pc := 150) dX7_copyFrom_150 rfl ?_
  refine c_getR (pc := 151) 6 14 a0 (a0 + 6) (by decide) (by decide) rfl (by have := ha0.1; omega) ha0.2.1 ((hR_cW ha0.2.1 (by decide)).trans ha0.2.2.1.2.2.2.2.2) lkX7_56 dX7_copyFrom_151 ?_
  refine o_iconst (pc := 154) (v := 0) dX7_copyFrom_154 rfl ?_
  refine o_bipush (pc := 155) (v := 8) dX7_copyFrom_155 rfl ?_
  obtain ⟨hk21, hf⟩ := ck_elim hf
  refine c_copy (pc := 157) (p0 + 6) (a0 + 6) 8 8 lmX7_59 dX7_copyFrom_157 (by decide) (Nat.le_of_ble_eq_true rfl) (by have := hp0.1; omega) hp0.2.2.2.2.2.2.2.2 (by have := ha0.1; omega) ha0.2.2.2.2.2.2.2.2 hk21 ?_
  refine lz_s (cW t) hf (fun s22 hf => ?_)
  show Rn g mdX7_copyFrom 160 [some (.ref a0), some (.ref p0)] [] (cW t s22) 0 0 none (cW t q)
  obtain rfl := Option.some.inj hf
  exact o_return (pc := 160) dX7_copyFrom_160 rfl (Nat.zero_le _) (Nat.zero_le _)
def fX10_moveInto_17_4 (s : ST) : Option (ST) :=
  (fX7_copyFrom_Tw_Tw 18 4 s).bind (fun q2 => (fX5_begin_25_18_19 q2).bind (fun q4 => lt (si q4 17 4 0) (fun s5 => lt (si s5 17 8 0) (fun s6 => some s6))))
set_option maxRecDepth 20000 in
theorem kX10_moveInto_17_4 {g : GX} {t : PH} {s : ST} {q : ST} (hf : fX10_moveInto_17_4 s = some q) : Cn g mdX10_moveInto [.ref 17, .ref 4] (cW t s) none (cW t q) := by
  refine Cn.of (by decide) (Nat.le_of_ble_eq_true rfl) ?_
  show Rn g mdX10_moveInto 0 [some (.ref 17), some (.ref 4)] [] (cW t s) 0 0 none (cW t q)
  unfold fX10_moveInto_17_4 at hf
  refine o_aload_n (pc := 0) dX10_moveInto_0 rfl ?_
  refine c_getR (pc := 1) 9 0 17 18 (by decide) (by decide) rfl (lt48 (by decide)) rfl rfl lkX10_12 dX10_moveInto_1 ?_
  refine o_aload_n (pc := 4) dX10_moveInto_4 rfl ?_
  obtain ⟨q2, hk1, hf⟩ := bd_elim hf
  refine c_callV (pc := 5) 6 18 [.ref 4] (by decide) (lt48 (by decide)) rfl dX10_moveInto_5 (kX7_copyFrom_Tw_Tw (tw18 t) (tw4 t) hk1) stX10_48 ⟨by decide, by decide, by decide, by decide⟩ ⟨rfl, rfl⟩ (Nat.le_of_ble_eq_true rfl) ?_
  show Rn g mdX10_moveInto 8 [some (.ref 17), some (.ref 4)] [] (cW t q2) 0 0 none (cW t q)
  refine o_aload_n (pc := 8) dX10_moveInto_8 rfl ?_
  refine c_getR (pc := 9) 9 1 17 25 (by decide) (by decide) rfl (lt48 (by decide)) rfl rfl lkX10_21 dX10_moveInto_9 ?_
  refine o_aload_n (pc := 12) dX10_moveInto_12 rfl ?_
  refine c_getR (pc := 13) 9 0 17 18 (by decide) (by decide) rfl (lt48 (by decide)) rfl rfl lkX10_12 dX10_moveInto_13 ?_
  refine o_aload_n (pc := 16) dX10_moveInto_16 rfl ?_
  refine c_getR (pc := 17) 9 0 17 18 (by decide) (by decide) rfl (lt48 (by decide)) rfl rfl lkX10_12 dX10_moveInto_17 ?_
  refine c_getR (pc := 20) 6 9 18 19 (by decide) (by decide) rfl (lt48 (by decide)) rfl rfl lkX10_61 dX10_moveInto_20 ?_
  obtain ⟨q4, hk3, hf⟩ := bd_elim hf
  refine c_callV (pc := 23) 4 25 [.ref 18, .ref 19] (by decide) (lt48 (by decide)) rfl dX10_moveInto_23 (kX5_begin_25_18_19 hk3) stX10_64 ⟨by decide, by decide, by decide, by decide⟩ ⟨rfl, rfl⟩ (Nat.le_of_ble_eq_true rfl) ?_
  show Rn g mdX10_moveInto 26 [some (.ref 17), some (.ref 4)] [] (cW t q4) 0 0 none (cW t q)
  refine o_aload_n (pc := 26) dX10_moveInto_26 rfl ?_
  refine o_iconst (pc := 27) (v := 0) dX10_moveInto_27 rfl ?_
  refine c_putI (pc := 28) 9 4 17 (by decide) (by decide) rfl rfl (lt48 (by decide)) rfl lkX10_32 ⟨rfl, rfl⟩ dX10_moveInto_28 ?_
  refine lz_s (cW t) hf (fun s5 hf => ?_)
  show Rn g mdX10_moveInto 31 [some (.ref 17), some (.ref 4)] [] (cW t s5) 0 0 none (cW t q)
  refine o_aload_n (pc := 31) dX10_moveInto_31 rfl ?_
  refine o_iconst (pc := 32) (v := 0) dX10_moveInto_32 rfl ?_
  refine c_putI (pc := 33) 9 8 17 (by decide) (by decide) rfl rfl (lt48 (by decide)) rfl lkX10_45 ⟨rfl, rfl⟩ dX10_moveInto_33 ?_
  refine lz_s (cW t) hf (fun s6 hf => ?_)
  show Rn g mdX10_moveInto 36 [some (.ref 17), some (.ref 4)] [] (cW t s6) 0 0 none (cW t q)
  obtain rfl := Option.some.inj hf
  exact o_return (pc := 36) dX10_moveInto_36 rfl (Nat.zero_le _) (Nat.zero_le _)
def fX11_town (s : ST) : Option (Int32 × ST) :=
  (fX8_read s).bind (fun q2 => lt (si q2.2 1 1 0) (fun s3 => if q2.1 = 0 then (fX10_moveInto_17_4 s3).bind (fun q5 => some (gi q5 18 8, q5)) else some ((-2) - q2.1, s3)))
set_option maxRecDepth 20000 in
theorem kX11_town {g : GX} {t : PH} {s : ST} {q : Int32 × ST} (hf : fX11_town s = some q) : Cn g mdX11_town [.ref 0] (cW t s) (some (.int q.1)) (cW t q.2) := by
  refine Cn.of (by decide) (Nat.le_of_ble_eq_true rfl) ?_
  show Rn g mdX11_town 0 [some (.ref 0), none] [] (cW t s) 0 0 (some (.int q.1)) (cW t q.2)
  unfold fX11_town at hf
  refine o_aload_n (pc := 0) dX11_town_0 rfl ?_
  refine c_getR (pc := 1) 10 1 0 3 (by decide) (by decide) rfl (lt48 (by decide)) rfl rfl lkX11_21 dX11_town_1 ?_
  obtain ⟨q2, hk1, hf⟩ := bd_elim hf
  refine c_callV (pc := 4) 7 3 [] (by decide) (lt48 (by decide)) rfl dX11_town_4 (kX8_read hk1) stX11_74 ⟨by decide, by decide, by decide, by decide⟩ ⟨rfl, rfl⟩ (Nat.le_of_ble_eq_true rfl) ?_
  show Rn g mdX11_town 7 [some (.ref 0), none] [.int q2.1] (cW t q2.2) 0 0 (some (.int q.1)) (cW t q.2)
  refine o_istore_n (pc := 7) dX11_town_7 (by decide) rfl ?_
  show Rn g mdX11_town 8 [some (.ref 0), some (.int q2.1)] [] (cW t q2.2) 0 0 (some (.int q.1)) (cW t q.2)
  refine o_aload_n (pc := 8) dX11_town_8 rfl ?_
  refine c_getR (pc := 9) 10 0 0 1 (by decide) (by decide) rfl (lt48 (by decide)) rfl rfl lkX11_10 dX11_town_9 ?_
  refine o_iconst (pc := 12) (v := 0) dX11_town_12 rfl ?_
  refine c_putI (pc := 13) 5 1 1 (by decide) (by decide) rfl rfl (lt48 (by decide)) rfl lkX11_67 ⟨rfl, rfl⟩ dX11_town_13 ?_
  refine lz_s (cW t) hf (fun s3 hf => ?_)
  show Rn g mdX11_town 16 [some (.ref 0), some (.int q2.1)] [] (cW t s3) 0 0 (some (.int q.1)) (cW t q.2)
  refine o_iload_n (pc := 16) dX11_town_16 rfl ?_
  refine o_if_eq (pc := 17) 25 dX11_town_17 rfl (fun hc => ?_) (fun hc => ?_)
  · have hf := it_t hf hc
    refine o_aload_n (pc := 25) dX11_town_25 rfl ?_
    refine c_getR (pc := 26) 10 5 0 17 (by decide) (by decide) rfl (lt48 (by decide)) rfl rfl lkX11_45 dX11_town_26 ?_
    refine o_aload_n (pc := 29) dX11_town_29 rfl ?_
    refine c_getR (pc := 30) 10 1 0 3 (by decide) (by decide) rfl (lt48 (by decide)) rfl rfl lkX11_21 dX11_town_30 ?_
    refine c_getR (pc := 33) 7 1 3 4 (by decide) (by decide) rfl (lt48 (by decide)) rfl rfl lkX11_78 dX11_town_33 ?_
    obtain ⟨q5, hk4, hf⟩ := bd_elim hf
    refine c_callV (pc := 36) 9 17 [.ref 4] (by decide) (lt48 (by decide)) rfl dX11_town_36 (kX10_moveInto_17_4 hk4) stX11_82 ⟨by decide, by decide, by decide, by decide⟩ ⟨rfl, rfl⟩ (Nat.le_of_ble_eq_true rfl) ?_
    show Rn g mdX11_town 39 [some (.ref 0), some (.int q2.1)] [] (cW t q5) 0 0 (some (.int q.1)) (cW t q.2)
    refine o_aload_n (pc := 39) dX11_town_39 rfl ?_
    refine c_getR (pc := 40) 10 5 0 17 (by decide) (by decide) rfl (lt48 (by decide)) rfl rfl lkX11_45 dX11_town_40 ?_
    refine c_getR (pc := 43) 9 0 17 18 (by decide) (by decide) rfl (lt48 (by decide)) rfl rfl lkX11_86 dX11_town_43 ?_
    refine c_getI (pc := 46) 6 8 18 (by decide) (by decide) rfl (lt48 (by decide)) rfl lkX11_87 dX11_town_46 ?_
    obtain rfl := Option.some.inj hf
    exact o_ireturn (pc := 49) dX11_town_49 rfl (Nat.zero_le _) (Nat.zero_le _)
  · have hf := it_f hf hc
    refine o_bipush (pc := 20) (v := (-2)) dX11_town_20 rfl ?_
    refine o_iload_n (pc := 22) dX11_town_22 rfl ?_
    refine o_isub (pc := 23) dX11_town_23 ?_
    obtain rfl := Option.some.inj hf
    exact o_ireturn (pc := 24) dX11_town_24 rfl (Nat.zero_le _) (Nat.zero_le _)
def fX11_force (p0 : Int32) (s : ST) : Option (Int32 × ST) :=
  (if p0 < (-1) then some true else if p0 < (gi s 0 4) then some false else some true : Option Bool).bind (fun b1 => if b1 = true then some ((-2), s) else lt (gi s 17 2 : Int32) (fun v4 => lt (si s 17 2 p0) (fun s5 => some (v4, s5))))
set_option maxRecDepth 20000 in
theorem kX11_force {g : GX} {t : PH} {p0 : Int32} {s : ST} {q : Int32 × ST} (hf : fX11_force p0 s = some q) : Cn g mdX11_force [.ref 0, .int p0] (cW t s) (some (.int q.1)) (cW t q.2) := by
  refine Cn.of (by decide) (Nat.le_of_ble_eq_true rfl) ?_
  show Rn g mdX11_force 0 [some (.ref 0), some (.int p0), none] [] (cW t s) 0 0 (some (.int q.1)) (cW t q.2)
  unfold fX11_force at hf
  refine o_iload_n (pc := 0) dX11_force_0 rfl ?_
  refine o_iconst (pc := 1) (v := (-1)) dX11_force_1 rfl ?_
  obtain ⟨b1, hr2, hf⟩ := bd_elim hf
  have KB3 : (b1 = true → Rn g mdX11_force 13 [some (.ref 0), some (.int p0), none] [] (cW t s) 0 0 (some (.int q.1)) (cW t q.2)) ∧ (¬ b1 = true → Rn g mdX11_force 16 [some (.ref 0), some (.int p0), none] [] (cW t s) 0 0 (some (.int q.1)) (cW t q.2)) := by
    refine ⟨fun hc => ?_, fun hc => ?_⟩
    · have hf := it_t hf hc
      refine o_bipush (pc := 13) (v := (-2)) dX11_force_13 rfl ?_
      obtain rfl := Option.some.inj hf
      exact o_ireturn (pc := 15) dX11_force_15 rfl (Nat.zero_le _) (Nat.zero_le _)
    · have hf := it_f hf hc
      refine o_aload_n (pc := 16) dX11_force_16 rfl ?_
      refine c_getR (pc := 17) 10 5 0 17 (by decide) (by decide) rfl (lt48 (by decide)) rfl rfl lkX11_45 dX11_force_17 ?_
      refine c_getI (pc := 20) 9 2 17 (by decide) (by decide) rfl (lt48 (by decide)) rfl lkX11_97 dX11_force_20 ?_
      refine lz_i hf (fun v4 hf => ?_)
      refine o_istore_n (pc := 23) dX11_force_23 (by decide) rfl ?_
      show Rn g mdX11_force 24 [some (.ref 0), some (.int p0), some (.int v4)] [] (cW t s) 0 0 (some (.int q.1)) (cW t q.2)
      refine o_aload_n (pc := 24) dX11_force_24 rfl ?_
      refine c_getR (pc := 25) 10 5 0 17 (by decide) (by decide) rfl (lt48 (by decide)) rfl rfl lkX11_45 dX11_force_25 ?_
      refine o_iload_n (pc := 28) dX11_force_28 rfl ?_
      refine c_putI (pc := 29) 9 2 17 (by decide) (by decide) rfl rfl (lt48 (by decide)) rfl lkX11_97 ⟨rfl, rfl⟩ dX11_force_29 ?_
      refine lz_s (cW t) hf (fun s5 hf => ?_)
      show Rn g mdX11_force 32 [some (.ref 0), some (.int p0), some (.int v4)] [] (cW t s5) 0 0 (some (.int q.1)) (cW t q.2)
      refine o_iload_n (pc := 32) dX11_force_32 rfl ?_
      obtain rfl := Option.some.inj hf
      exact o_ireturn (pc := 33) dX11_force_33 rfl (Nat.zero_le _) (Nat.zero_le _)
  clear hf
  refine o_icmp_lt (pc := 2) 13 dX11_force_2 rfl (fun hc => ?_) (fun hc => ?_)
  · have hr2 := it_t hr2 hc
    obtain rfl := Option.some.inj hr2
    exact KB3.1 rfl
  · have hr2 := it_f hr2 hc
    refine o_iload_n (pc := 5) dX11_force_5 rfl ?_
    refine o_aload_n (pc := 6) dX11_force_6 rfl ?_
    refine c_getI (pc := 7) 10 4 0 (by decide) (by decide) rfl (lt48 (by decide)) rfl lkX11_38 dX11_force_7 ?_
    refine o_icmp_lt (pc := 10) 16 dX11_force_10 rfl (fun hc => ?_) (fun hc => ?_)
    · have hr2 := it_t hr2 hc
      obtain rfl := Option.some.inj hr2
      exact KB3.2 (by decide)
    · have hr2 := it_f hr2 hc
      obtain rfl := Option.some.inj hr2
      exact KB3.1 rfl
