def fJ7_fill_53178_39_L5 (a1 : Int32) (a3 : Int32) : Nat → Int32 → ST → Option (Int32 × ST)
  | 0, _, _ => none
  | n + 1, x2, s => if a3 ≤ x2 then some (x2, s) else ck (inb x2 5) (lt (si s 39 (ix x2) a1) (fun s2 => lt (x2 + 1) (fun v3 => fJ7_fill_53178_39_L5 a1 a3 n v3 s2)))
def fJ7_fill_53178_39 (p1 : Int32) (s : ST) : Option (ST) :=
  (fJ7_fill_53178_39_L5 p1 5 FUEL 0 s).bind (fun w4 => some w4.2)
set_option maxRecDepth 20000 in
theorem kJ7_fill_53178_39_L5 {g : GX} {t : PH} (a1 : Int32) (a3 : Int32) {r : Option Value} {h2 : PH} : ∀ (n : Nat) (x2 : Int32) (s : ST) {w : Int32 × ST}, fJ7_fill_53178_39_L5 a1 a3 n x2 s = some w → Rn g mdJ7_fill_53178 20 [none, none, none, none] [] (cW t w.2) 0 0 r h2 → Rn g mdJ7_fill_53178 5 [some (.ref 39), some (.int a1), some (.int x2), some (.int a3)] [] (cW t s) 0 0 r h2 := by
  intro n
  induction n with
  | zero => intro x2 s w hf K; cases hf
  | succ n ih =>
    intro x2 s w hf K
    rw [fJ7_fill_53178_39_L5] at hf
    refine o_iload_n (pc := 5) dJ7_fill_53178_5 rfl ?_
    refine o_iload_n (pc := 6) dJ7_fill_53178_6 rfl ?_
    refine o_icmp_ge (pc := 7) 20 dJ7_fill_53178_7 rfl (fun hc => ?_) (fun hc => ?_)
    · have hf := it_t hf hc
      obtain rfl := Option.some.inj hf
      refine o_keep [false, false, false, false] ?_
      exact K
    · have hf := it_f hf hc
      refine o_aload_n (pc := 10) dJ7_fill_53178_10 rfl ?_
      refine o_iload_n (pc := 11) dJ7_fill_53178_11 rfl ?_
      refine o_iload_n (pc := 12) dJ7_fill_53178_12 rfl ?_
      obtain ⟨hk1, hf⟩ := ck_elim hf
      refine c_iast (pc := 13) (lt48 (by decide)) rfl hk1 dJ7_fill_53178_13 ?_
      refine lz_s (cW t) hf (fun s2 hf => ?_)
      show Rn g mdJ7_fill_53178 14 [some (.ref 39), some (.int a1), some (.int x2), some (.int a3)] [] (cW t s2) 0 0 r h2
      refine o_iinc (pc := 14) dJ7_fill_53178_14 rfl (by decide) rfl ?_
      show Rn g mdJ7_fill_53178 17 [some (.ref 39), some (.int a1), some (.int (x2 + 1)), some (.int a3)] [] (cW t s2) 0 0 r h2
      obtain ⟨v3, ev3, hf⟩ := lt_elim hf
      rw [ev3]
      show Rn g mdJ7_fill_53178 17 [some (.ref 39), some (.int a1), some (.int v3), some (.int a3)] [] (cW t s2) 0 0 r h2
      refine o_goto (pc := 17) 5 dJ7_fill_53178_17 rfl ?_
      exact ih _ _ hf K
set_option maxRecDepth 20000 in
theorem kJ7_fill_53178_39 {g : GX} {t : PH} {p1 : Int32} {s : ST} {q : ST} (hf : fJ7_fill_53178_39 p1 s = some q) : Cn g mdJ7_fill_53178 [.ref 39, .int p1] (cW t s) none (cW t q) := by
  refine Cn.of (by decide) (Nat.le_of_ble_eq_true rfl) ?_
  show Rn g mdJ7_fill_53178 0 [some (.ref 39), some (.int p1), none, none] [] (cW t s) 0 0 none (cW t q)
  unfold fJ7_fill_53178_39 at hf
  refine o_iconst (pc := 0) (v := 0) dJ7_fill_53178_0 rfl ?_
  refine o_istore_n (pc := 1) dJ7_fill_53178_1 (by decide) rfl ?_
  show Rn g mdJ7_fill_53178 2 [some (.ref 39), some (.int p1), some (.int 0), none] [] (cW t s) 0 0 none (cW t q)
  refine o_aload_n (pc := 2) dJ7_fill_53178_2 rfl ?_
  refine c_alen (pc := 3) 5 (by decide) (lt48 (by decide)) rfl rfl dJ7_fill_53178_3 ?_
  refine o_istore_n (pc := 4) dJ7_fill_53178_4 (by decide) rfl ?_
  show Rn g mdJ7_fill_53178 5 [some (.ref 39), some (.int p1), some (.int 0), some (.int 5)] [] (cW t s) 0 0 none (cW t q)
  obtain ⟨w4, hl5, hf⟩ := bd_elim hf
  have K6 : Rn g mdJ7_fill_53178 20 [none, none, none, none] [] (cW t w4.2) 0 0 none (cW t q) := by
    obtain rfl := Option.some.inj hf
    exact o_return (pc := 20) dJ7_fill_53178_20 rfl (Nat.zero_le _) (Nat.zero_le _)
  exact kJ7_fill_53178_39_L5 _ _ _ _ _ hl5 K6
def fJ7_fill_53178_40_L5 (a1 : Int32) (a3 : Int32) : Nat → Int32 → ST → Option (Int32 × ST)
  | 0, _, _ => none
  | n + 1, x2, s => if a3 ≤ x2 then some (x2, s) else ck (inb x2 5) (lt (si s 40 (ix x2) a1) (fun s2 => lt (x2 + 1) (fun v3 => fJ7_fill_53178_40_L5 a1 a3 n v3 s2)))
def fJ7_fill_53178_40 (p1 : Int32) (s : ST) : Option (ST) :=
  (fJ7_fill_53178_40_L5 p1 5 FUEL 0 s).bind (fun w4 => some w4.2)
set_option maxRecDepth 20000 in
theorem kJ7_fill_53178_40_L5 {g : GX} {t : PH} (a1 : Int32) (a3 : Int32) {r : Option Value} {h2 : PH} : ∀ (n : Nat) (x2 : Int32) (s : ST) {w : Int32 × ST}, fJ7_fill_53178_40_L5 a1 a3 n x2 s = some w → Rn g mdJ7_fill_53178 20 [none, none, none, none] [] (cW t w.2) 0 0 r h2 → Rn g mdJ7_fill_53178 5 [some (.ref 40), some (.int a1), some (.int x2), some (.int a3)] [] (cW t s) 0 0 r h2 := by
  intro n
  induction n with
  | zero => intro x2 s w hf K; cases hf
  | succ n ih =>
    intro x2 s w hf K
    rw [fJ7_fill_53178_40_L5] at hf
    refine o_iload_n (pc := 5) dJ7_fill_53178_5 rfl ?_
    refine o_iload_n (pc := 6) dJ7_fill_53178_6 rfl ?_
    refine o_icmp_ge (pc := 7) 20 dJ7_fill_53178_7 rfl (fun hc => ?_) (fun hc => ?_)
    · have hf := it_t hf hc
      obtain rfl := Option.some.inj hf
      refine o_keep [false, false, false, false] ?_
      exact K
    · have hf := it_f hf hc
      refine o_aload_n (pc := 10) dJ7_fill_53178_10 rfl ?_
      refine o_iload_n (pc := 11) dJ7_fill_53178_11 rfl ?_
      refine o_iload_n (pc := 12) dJ7_fill_53178_12 rfl ?_
      obtain ⟨hk1, hf⟩ := ck_elim hf
      refine c_iast (pc := 13) (lt48 (by decide)) rfl hk1 dJ7_fill_53178_13 ?_
      refine lz_s (cW t) hf (fun s2 hf => ?_)
      show Rn g mdJ7_fill_53178 14 [some (.ref 40), some (.int a1), some (.int x2), some (.int a3)] [] (cW t s2) 0 0 r h2
      refine o_iinc (pc := 14) dJ7_fill_53178_14 rfl (by decide) rfl ?_
      show Rn g mdJ7_fill_53178 17 [some (.ref 40), some (.int a1), some (.int (x2 + 1)), some (.int a3)] [] (cW t s2) 0 0 r h2
      obtain ⟨v3, ev3, hf⟩ := lt_elim hf
      rw [ev3]
      show Rn g mdJ7_fill_53178 17 [some (.ref 40), some (.int a1), some (.int v3), some (.int a3)] [] (cW t s2) 0 0 r h2
      refine o_goto (pc := 17) 5 dJ7_fill_53178_17 rfl ?_
      exact ih _ _ hf K
set_option maxRecDepth 20000 in
theorem kJ7_fill_53178_40 {g : GX} {t : PH} {p1 : Int32} {s : ST} {q : ST} (hf : fJ7_fill_53178_40 p1 s = some q) : Cn g mdJ7_fill_53178 [.ref 40, .int p1] (cW t s) none (cW t q) := by
  refine Cn.of (by decide) (Nat.le_of_ble_eq_true rfl) ?_
  show Rn g mdJ7_fill_53178 0 [some (.ref 40), some (.int p1), none, none] [] (cW t s) 0 0 none (cW t q)
  unfold fJ7_fill_53178_40 at hf
  refine o_iconst (pc := 0) (v := 0) dJ7_fill_53178_0 rfl ?_
  refine o_istore_n (pc := 1) dJ7_fill_53178_1 (by decide) rfl ?_
  show Rn g mdJ7_fill_53178 2 [some (.ref 40), some (.int p1), some (.int 0), none] [] (cW t s) 0 0 none (cW t q)
  refine o_aload_n (pc := 2) dJ7_fill_53178_2 rfl ?_
  refine c_alen (pc := 3) 5 (by decide) (lt48 (by decide)) rfl rfl dJ7_fill_53178_3 ?_
  refine o_istore_n (pc := 4) dJ7_fill_53178_4 (by decide) rfl ?_
  show Rn g mdJ7_fill_53178 5 [some (.ref 40), some (.int p1), some (.int 0), some (.int 5)] [] (cW t s) 0 0 none (cW t q)
  obtain ⟨w4, hl5, hf⟩ := bd_elim hf
  have K6 : Rn g mdJ7_fill_53178 20 [none, none, none, none] [] (cW t w4.2) 0 0 none (cW t q) := by
    obtain rfl := Option.some.inj hf
    exact o_return (pc := 20) dJ7_fill_53178_20 rfl (Nat.zero_le _) (Nat.zero_le _)
  exact kJ7_fill_53178_40_L5 _ _ _ _ _ hl5 K6
def fX1_open_18_31_L41 (a3 : Int32) (a4 : Int32) : Nat → Int32 → ST → Option (Int32 × ST)
  | 0, _, _ => none
  | n + 1, x5, s => (if x5 ≤ 0 then some false else ck (inb (x5 - 1) 8) (ck (inb (20 + (gi s 34 (ix (x5 - 1)))) 46) (if (gi s 32 (ix (20 + (gi s 34 (ix (x5 - 1)))))) ≤ a4 then some false else some true)) : Option Bool).bind (fun b7 => if b7 = true then ck (inb (x5 - 1) 8) (ck (inb x5 8) (lt (si s 34 (ix x5) (gi s 34 (ix (x5 - 1)))) (fun s14 => lt (x5 + (-1)) (fun v15 => fX1_open_18_31_L41 a3 a4 n v15 s14)))) else some (x5, s))
def fX1_open_18_31_L19 : Nat → Int32 → ST → Option (Int32 × ST)
  | 0, _, _ => none
  | n + 1, x3, s => if (gi s 18 8) ≤ x3 then some (x3, s) else ck (inb (20 + x3) 46) (lt (gi s 32 (ix (20 + x3)) : Int32) (fun v6 => (fX1_open_18_31_L41 x3 v6 FUEL x3 s).bind (fun w16 => ck (inb w16.1 8) (lt (si w16.2 34 (ix w16.1) x3) (fun s20 => lt (x3 + 1) (fun v21 => fX1_open_18_31_L19 n v21 s20))))))
def fX1_open_18_31 (s : ST) : Option (ST) :=
  (fJ7_fill_53178_39 (-1000000) s).bind (fun q2 => (fJ7_fill_53178_40 0 q2).bind (fun q4 => (fX1_open_18_31_L19 FUEL 0 q4).bind (fun w22 => some w22.2)))
set_option maxRecDepth 20000 in
theorem kX1_open_18_31_L41 {g : GX} {t : PH} (a3 : Int32) (a4 : Int32) {r : Option Value} {h2 : PH} : ∀ (n : Nat) (x5 : Int32) (s : ST) {w : Int32 × ST}, fX1_open_18_31_L41 a3 a4 n x5 s = some w → Rn g mdX1_open 90 [some (.ref 33), some (.ref 18), some (.ref 31), some (.int a3), none, some (.int w.1)] [] (cW t w.2) 0 0 r h2 → Rn g mdX1_open 41 [some (.ref 33), some (.ref 18), some (.ref 31), some (.int a3), some (.int a4), some (.int x5)] [] (cW t s) 0 0 r h2 := by
  intro n
  induction n with
  | zero => intro x5 s w hf K; cases hf
  | succ n ih =>
    intro x5 s w hf K
    rw [fX1_open_18_31_L41] at hf
    refine o_iload (pc := 41) dX1_open_41 rfl ?_
    obtain ⟨b7, hr8, hf⟩ := bd_elim hf
    have KB9 : (b7 = true → Rn g mdX1_open 68 [some (.ref 33), some (.ref 18), some (.ref 31), some (.int a3), some (.int a4), some (.int x5)] [] (cW t s) 0 0 r h2) ∧ (¬ b7 = true → Rn g mdX1_open 90 [some (.ref 33), some (.ref 18), some (.ref 31), some (.int a3), some (.int a4), some (.int x5)] [] (cW t s) 0 0 r h2) := by
      refine ⟨fun hc => ?_, fun hc => ?_⟩
      · have hf := it_t hf hc
        refine o_aload_n (pc := 68) dX1_open_68 rfl ?_
        refine c_getR (pc := 69) 1 0 33 34 (by decide) (by decide) rfl (lt48 (by decide)) rfl rfl lkX1_9 dX1_open_69 ?_
        refine o_iload (pc := 72) dX1_open_72 rfl ?_
        refine o_aload_n (pc := 74) dX1_open_74 rfl ?_
        refine c_getR (pc := 75) 1 0 33 34 (by decide) (by decide) rfl (lt48 (by decide)) rfl rfl lkX1_9 dX1_open_75 ?_
        refine o_iload (pc := 78) dX1_open_78 rfl ?_
        refine o_iconst (pc := 80) (v := 1) dX1_open_80 rfl ?_
        refine o_isub (pc := 81) dX1_open_81 ?_
        obtain ⟨hk12, hf⟩ := ck_elim hf
        refine c_iald (pc := 82) (lt48 (by decide)) rfl hk12 dX1_open_82 ?_
        obtain ⟨hk13, hf⟩ := ck_elim hf
        refine c_iast (pc := 83) (lt48 (by decide)) rfl hk13 dX1_open_83 ?_
        refine lz_s (cW t) hf (fun s14 hf => ?_)
        show Rn g mdX1_open 84 [some (.ref 33), some (.ref 18), some (.ref 31), some (.int a3), some (.int a4), some (.int x5)] [] (cW t s14) 0 0 r h2
        refine o_iinc (pc := 84) dX1_open_84 rfl (by decide) rfl ?_
        show Rn g mdX1_open 87 [some (.ref 33), some (.ref 18), some (.ref 31), some (.int a3), some (.int a4), some (.int (x5 + (-1)))] [] (cW t s14) 0 0 r h2
        obtain ⟨v15, ev15, hf⟩ := lt_elim hf
        rw [ev15]
        show Rn g mdX1_open 87 [some (.ref 33), some (.ref 18), some (.ref 31), some (.int a3), some (.int a4), some (.int v15)] [] (cW t s14) 0 0 r h2
        refine o_goto (pc := 87) 41 dX1_open_87 rfl ?_
        exact ih _ _ hf K
      · have hf := it_f hf hc
        obtain rfl := Option.some.inj hf
        refine o_keep [true, true, true, true, false, true] ?_
        exact K
    clear hf
    refine o_if_le (pc := 43) 90 dX1_open_43 rfl (fun hc => ?_) (fun hc => ?_)
    · have hr8 := it_t hr8 hc
      obtain rfl := Option.some.inj hr8
      exact KB9.2 (by decide)
    · have hr8 := it_f hr8 hc
      refine o_aload_n (pc := 46) dX1_open_46 rfl ?_
      refine c_getR (pc := 47) 4 0 31 32 (by decide) (by decide) rfl (lt48 (by decide)) rfl rfl lkX1_46 dX1_open_47 ?_
      refine o_bipush (pc := 50) (v := 20) dX1_open_50 rfl ?_
      refine o_aload_n (pc := 52) dX1_open_52 rfl ?_
      refine c_getR (pc := 53) 1 0 33 34 (by decide) (by decide) rfl (lt48 (by decide)) rfl rfl lkX1_9 dX1_open_53 ?_
      refine o_iload (pc := 56) dX1_open_56 rfl ?_
      refine o_iconst (pc := 58) (v := 1) dX1_open_58 rfl ?_
      refine o_isub (pc := 59) dX1_open_59 ?_
      obtain ⟨hk10, hr8⟩ := ck_elim hr8
      refine c_iald (pc := 60) (lt48 (by decide)) rfl hk10 dX1_open_60 ?_
      refine o_iadd (pc := 61) dX1_open_61 ?_
      obtain ⟨hk11, hr8⟩ := ck_elim hr8
      refine c_iald (pc := 62) (lt48 (by decide)) rfl hk11 dX1_open_62 ?_
      refine o_iload (pc := 63) dX1_open_63 rfl ?_
      refine o_icmp_le (pc := 65) 90 dX1_open_65 rfl (fun hc => ?_) (fun hc => ?_)
      · have hr8 := it_t hr8 hc
        obtain rfl := Option.some.inj hr8
        exact KB9.2 (by decide)
      · have hr8 := it_f hr8 hc
        obtain rfl := Option.some.inj hr8
        exact KB9.1 rfl
set_option maxRecDepth 20000 in
theorem kX1_open_18_31_L19 {g : GX} {t : PH} {r : Option Value} {h2 : PH} : ∀ (n : Nat) (x3 : Int32) (s : ST) {w : Int32 × ST}, fX1_open_18_31_L19 n x3 s = some w → Rn g mdX1_open 104 [none, none, none, none, none, none] [] (cW t w.2) 0 0 r h2 → Rn g mdX1_open 19 [some (.ref 33), some (.ref 18), some (.ref 31), some (.int x3), none, none] [] (cW t s) 0 0 r h2 := by
  intro n
  induction n with
  | zero => intro x3 s w hf K; cases hf
  | succ n ih =>
    intro x3 s w hf K
    rw [fX1_open_18_31_L19] at hf
    refine o_iload_n (pc := 19) dX1_open_19 rfl ?_
    refine o_aload_n (pc := 20) dX1_open_20 rfl ?_
    refine c_getI (pc := 21) 6 8 18 (by decide) (by decide) rfl (lt48 (by decide)) rfl lkX1_40 dX1_open_21 ?_
    refine o_icmp_ge (pc := 24) 104 dX1_open_24 rfl (fun hc => ?_) (fun hc => ?_)
    · have hf := it_t hf hc
      obtain rfl := Option.some.inj hf
      refine o_keep [false, false, false, false, false, false] ?_
      exact K
    · have hf := it_f hf hc
      refine o_aload_n (pc := 27) dX1_open_27 rfl ?_
      refine c_getR (pc := 28) 4 0 31 32 (by decide) (by decide) rfl (lt48 (by decide)) rfl rfl lkX1_46 dX1_open_28 ?_
      refine o_bipush (pc := 31) (v := 20) dX1_open_31 rfl ?_
      refine o_iload_n (pc := 33) dX1_open_33 rfl ?_
      refine o_iadd (pc := 34) dX1_open_34 ?_
      obtain ⟨hk5, hf⟩ := ck_elim hf
      refine c_iald (pc := 35) (lt48 (by decide)) rfl hk5 dX1_open_35 ?_
      refine lz_i hf (fun v6 hf => ?_)
      refine o_istore (pc := 36) dX1_open_36 (by decide) rfl ?_
      show Rn g mdX1_open 38 [some (.ref 33), some (.ref 18), some (.ref 31), some (.int x3), some (.int v6), none] [] (cW t s) 0 0 r h2
      refine o_iload_n (pc := 38) dX1_open_38 rfl ?_
      refine o_istore (pc := 39) dX1_open_39 (by decide) rfl ?_
      show Rn g mdX1_open 41 [some (.ref 33), some (.ref 18), some (.ref 31), some (.int x3), some (.int v6), some (.int x3)] [] (cW t s) 0 0 r h2
      obtain ⟨w16, hl17, hf⟩ := bd_elim hf
      have K18 : Rn g mdX1_open 90 [some (.ref 33), some (.ref 18), some (.ref 31), some (.int x3), none, some (.int w16.1)] [] (cW t w16.2) 0 0 r h2 := by
        refine o_aload_n (pc := 90) dX1_open_90 rfl ?_
        refine c_getR (pc := 91) 1 0 33 34 (by decide) (by decide) rfl (lt48 (by decide)) rfl rfl lkX1_9 dX1_open_91 ?_
        refine o_iload (pc := 94) dX1_open_94 rfl ?_
        refine o_iload_n (pc := 96) dX1_open_96 rfl ?_
        obtain ⟨hk19, hf⟩ := ck_elim hf
        refine c_iast (pc := 97) (lt48 (by decide)) rfl hk19 dX1_open_97 ?_
        refine lz_s (cW t) hf (fun s20 hf => ?_)
        show Rn g mdX1_open 98 [some (.ref 33), some (.ref 18), some (.ref 31), some (.int x3), none, some (.int w16.1)] [] (cW t s20) 0 0 r h2
        refine o_iinc (pc := 98) dX1_open_98 rfl (by decide) rfl ?_
        show Rn g mdX1_open 101 [some (.ref 33), some (.ref 18), some (.ref 31), some (.int (x3 + 1)), none, some (.int w16.1)] [] (cW t s20) 0 0 r h2
        obtain ⟨v21, ev21, hf⟩ := lt_elim hf
        rw [ev21]
        show Rn g mdX1_open 101 [some (.ref 33), some (.ref 18), some (.ref 31), some (.int v21), none, some (.int w16.1)] [] (cW t s20) 0 0 r h2
        refine o_goto (pc := 101) 19 dX1_open_101 rfl ?_
        refine o_keep [true, true, true, true, false, false] ?_
        exact ih _ _ hf K
      exact kX1_open_18_31_L41 _ _ _ _ _ hl17 K18
set_option maxRecDepth 20000 in
theorem kX1_open_18_31 {g : GX} {t : PH} {s : ST} {q : ST} (hf : fX1_open_18_31 s = some q) : Cn g mdX1_open [.ref 33, .ref 18, .ref 31] (cW t s) none (cW t q) := by
  refine Cn.of (by decide) (Nat.le_of_ble_eq_true rfl) ?_
  show Rn g mdX1_open 0 [some (.ref 33), some (.ref 18), some (.ref 31), none, none, none] [] (cW t s) 0 0 none (cW t q)
  unfold fX1_open_18_31 at hf
  refine o_aload_n (pc := 0) dX1_open_0 rfl ?_
  refine c_getR (pc := 1) 1 5 33 39 (by decide) (by decide) rfl (lt48 (by decide)) rfl rfl lkX1_27 dX1_open_1 ?_
  refine o_ldc (pc := 4) dX1_open_4 lcX1_33 ?_
  obtain ⟨q2, hk1, hf⟩ := bd_elim hf
  refine c_callS (pc := 6) [.ref 39, .int (-1000000)] dX1_open_6 (kJ7_fill_53178_39 hk1) stX1_34 ⟨by decide, by decide, by decide, by decide⟩ ⟨rfl, rfl⟩ (Nat.le_of_ble_eq_true rfl) ?_
  show Rn g mdX1_open 9 [some (.ref 33), some (.ref 18), some (.ref 31), none, none, none] [] (cW t q2) 0 0 none (cW t q)
  refine o_aload_n (pc := 9) dX1_open_9 rfl ?_
  refine c_getR (pc := 10) 1 6 33 40 (by decide) (by decide) rfl (lt48 (by decide)) rfl rfl lkX1_30 dX1_open_10 ?_
  refine o_iconst (pc := 13) (v := 0) dX1_open_13 rfl ?_
  obtain ⟨q4, hk3, hf⟩ := bd_elim hf
  refine c_callS (pc := 14) [.ref 40, .int 0] dX1_open_14 (kJ7_fill_53178_40 hk3) stX1_34 ⟨by decide, by decide, by decide, by decide⟩ ⟨rfl, rfl⟩ (Nat.le_of_ble_eq_true rfl) ?_
  show Rn g mdX1_open 17 [some (.ref 33), some (.ref 18), some (.ref 31), none, none, none] [] (cW t q4) 0 0 none (cW t q)
  refine o_iconst (pc := 17) (v := 0) dX1_open_17 rfl ?_
  refine o_istore_n (pc := 18) dX1_open_18 (by decide) rfl ?_
  show Rn g mdX1_open 19 [some (.ref 33), some (.ref 18), some (.ref 31), some (.int 0), none, none] [] (cW t q4) 0 0 none (cW t q)
  obtain ⟨w22, hl23, hf⟩ := bd_elim hf
  have K24 : Rn g mdX1_open 104 [none, none, none, none, none, none] [] (cW t w22.2) 0 0 none (cW t q) := by
    obtain rfl := Option.some.inj hf
    exact o_return (pc := 104) dX1_open_104 rfl (Nat.zero_le _) (Nat.zero_le _)
  exact kX1_open_18_31_L19 _ _ _ hl23 K24
def fX0_goDay_L25 (t : PH) : Nat → Int32 → ST → Option (Int32 × ST)
  | 0, _, _ => none
  | n + 1, x1, s => ck (decide (mr s 0 = some 18)) (if (gi s 18 8) ≤ x1 then some (x1, s) else ck (inb x1 8) ((if (gi s 34 (ix x1)) = (gi s 30 9) then some s else ck (inb x1 8) ((fX0_goThrough (gi s 34 (ix x1)) t s).bind (fun q13 => some q13)) : Option (ST)).bind (fun w8 => lt (x1 + 1) (fun v14 => fX0_goDay_L25 t n v14 w8))))
def fX0_goDay_L73 (t : PH) : Nat → Int32 → ST → Option (Int32 × ST)
  | 0, _, _ => none
  | n + 1, x1, s => ck (decide (mr s 0 = some 18)) (if (gi s 18 7) ≤ x1 then some (x1, s) else ck (inb x1 5) (lt (imx (-1) (imn 1 (gi s 40 (ix x1))) : Int32) (fun v20 => ck (inb (0 + x1) 46) (lt ((gi s 32 (ix (0 + x1))) + v20 : Int32) (fun v22 => ck (inb (0 + x1) 46) (lt (si s 32 (ix (0 + x1)) (imx (-20) (imn 20 v22))) (fun s24 => lt (x1 + 1) (fun v25 => fX0_goDay_L73 t n v25 s24))))))))
def fX0_goDay (t : PH) (s : ST) : Option (ST) :=
  om (mr s 0) (some s) (fun q1 => ck (decide (mr s 0 = some 18)) ((fX1_open_18_31 s).bind (fun q5 => (fX0_goDay_L25 t FUEL 0 q5).bind (fun w15 => (fX0_goDay_L73 t FUEL 0 w15.2).bind (fun w26 => ck (inb 45 46) (ck (inb 45 46) (lt (si w26.2 32 (ix 45) (imn 999 ((gi w26.2 32 (ix 45)) + 1))) (fun s31 => some s31))))))))
set_option maxRecDepth 20000 in
theorem kX0_goDay_L25 {g : GX} {t : PH} {r : Option Value} {h2 : PH} : ∀ (n : Nat) (x1 : Int32) (s : ST) {w : Int32 × ST}, fX0_goDay_L25 t n x1 s = some w → Rn g mdX0_goDay 71 [some (.ref 30), none, none, none] [] (cW t w.2) 0 0 r h2 → Rn g mdX0_goDay 25 [some (.ref 30), some (.int x1), none, none] [] (cW t s) 0 0 r h2 := by
  intro n
  induction n with
  | zero => intro x1 s w hf K; cases hf
  | succ n ih =>
    intro x1 s w hf K
    rw [fX0_goDay_L25] at hf
    refine o_iload_n (pc := 25) dX0_goDay_25 rfl ?_
    refine o_aload_n (pc := 26) dX0_goDay_26 rfl ?_
    refine c_getO (pc := 27) 5 0 (by decide) lkX0_38 dX0_goDay_27 ?_
    obtain ⟨hk6, hf⟩ := ck_elim hf
    have hk6 := of_decide_eq_true hk6
    rw [hk6]
    refine c_getI (pc := 30) 6 8 18 (by decide) (by decide) rfl (lt48 (by decide)) rfl lkX0_99 dX0_goDay_30 ?_
    refine o_icmp_ge (pc := 33) 71 dX0_goDay_33 rfl (fun hc => ?_) (fun hc => ?_)
    · have hf := it_t hf hc
      obtain rfl := Option.some.inj hf
      refine o_keep [true, false, false, false] ?_
      exact K
    · have hf := it_f hf hc
      refine o_aload_n (pc := 36) dX0_goDay_36 rfl ?_
      refine c_getR (pc := 37) 0 1 30 33 (by decide) (by decide) rfl (lt48 (by decide)) rfl rfl lkX0_21 dX0_goDay_37 ?_
      refine c_getR (pc := 40) 1 0 33 34 (by decide) (by decide) rfl (lt48 (by decide)) rfl rfl lkX0_102 dX0_goDay_40 ?_
      refine o_iload_n (pc := 43) dX0_goDay_43 rfl ?_
      obtain ⟨hk7, hf⟩ := ck_elim hf
      refine c_iald (pc := 44) (lt48 (by decide)) rfl hk7 dX0_goDay_44 ?_
      refine o_aload_n (pc := 45) dX0_goDay_45 rfl ?_
      refine c_getI (pc := 46) 0 9 30 (by decide) (by decide) rfl (lt48 (by decide)) rfl lkX0_53 dX0_goDay_46 ?_
      obtain ⟨w8, hr9, hf⟩ := bd_elim hf
      have K10 : Rn g mdX0_goDay 65 [some (.ref 30), some (.int x1), none, none] [] (cW t w8) 0 0 r h2 := by
        refine o_iinc (pc := 65) dX0_goDay_65 rfl (by decide) rfl ?_
        show Rn g mdX0_goDay 68 [some (.ref 30), some (.int (x1 + 1)), none, none] [] (cW t w8) 0 0 r h2
        obtain ⟨v14, ev14, hf⟩ := lt_elim hf
        rw [ev14]
        show Rn g mdX0_goDay 68 [some (.ref 30), some (.int v14), none, none] [] (cW t w8) 0 0 r h2
        refine o_goto (pc := 68) 25 dX0_goDay_68 rfl ?_
        exact ih _ _ hf K
      clear hf
      refine o_icmp_eq (pc := 49) 65 dX0_goDay_49 rfl (fun hc => ?_) (fun hc => ?_)
      · have hr9 := it_t hr9 hc
        obtain rfl := Option.some.inj hr9
        exact K10
      · have hr9 := it_f hr9 hc
        refine o_aload_n (pc := 52) dX0_goDay_52 rfl ?_
        refine o_aload_n (pc := 53) dX0_goDay_53 rfl ?_
        refine c_getR (pc := 54) 0 1 30 33 (by decide) (by decide) rfl (lt48 (by decide)) rfl rfl lkX0_21 dX0_goDay_54 ?_
        refine c_getR (pc := 57) 1 0 33 34 (by decide) (by decide) rfl (lt48 (by decide)) rfl rfl lkX0_102 dX0_goDay_57 ?_
        refine o_iload_n (pc := 60) dX0_goDay_60 rfl ?_
        obtain ⟨hk11, hr9⟩ := ck_elim hr9
        refine c_iald (pc := 61) (lt48 (by decide)) rfl hk11 dX0_goDay_61 ?_
        obtain ⟨q13, hk12, hr9⟩ := bd_elim hr9
        refine c_callV (pc := 62) 0 30 [.int (gi s 34 (ix x1))] (by decide) (lt48 (by decide)) rfl dX0_goDay_62 (kX0_goThrough hk12) stX0_105 ⟨by decide, by decide, by decide, by decide⟩ ⟨rfl, rfl⟩ (Nat.le_of_ble_eq_true rfl) ?_
        show Rn g mdX0_goDay 65 [some (.ref 30), some (.int x1), none, none] [] (cW t q13) 0 0 r h2
        obtain rfl := Option.some.inj hr9
        exact K10
set_option maxRecDepth 20000 in
theorem kX0_goDay_L73 {g : GX} {t : PH} {r : Option Value} {h2 : PH} : ∀ (n : Nat) (x1 : Int32) (s : ST) {w : Int32 × ST}, fX0_goDay_L73 t n x1 s = some w → Rn g mdX0_goDay 144 [some (.ref 30), none, none, none] [] (cW t w.2) 0 0 r h2 → Rn g mdX0_goDay 73 [some (.ref 30), some (.int x1), none, none] [] (cW t s) 0 0 r h2 := by
  intro n
  induction n with
  | zero => intro x1 s w hf K; cases hf
  | succ n ih =>
    intro x1 s w hf K
    rw [fX0_goDay_L73] at hf
    refine o_iload_n (pc := 73) dX0_goDay_73 rfl ?_
    refine o_aload_n (pc := 74) dX0_goDay_74 rfl ?_
    refine c_getO (pc := 75) 5 0 (by decide) lkX0_38 dX0_goDay_75 ?_
    obtain ⟨hk18, hf⟩ := ck_elim hf
    have hk18 := of_decide_eq_true hk18
    rw [hk18]
    refine c_getI (pc := 78) 6 7 18 (by decide) (by decide) rfl (lt48 (by decide)) rfl lkX0_109 dX0_goDay_78 ?_
    refine o_icmp_ge (pc := 81) 144 dX0_goDay_81 rfl (fun hc => ?_) (fun hc => ?_)
    · have hf := it_t hf hc
      obtain rfl := Option.some.inj hf
      refine o_keep [true, false, false, false] ?_
      exact K
    · have hf := it_f hf hc
      refine o_iconst (pc := 84) (v := (-1)) dX0_goDay_84 rfl ?_
      refine o_iconst (pc := 85) (v := 1) dX0_goDay_85 rfl ?_
      refine o_aload_n (pc := 86) dX0_goDay_86 rfl ?_
      refine c_getR (pc := 87) 0 1 30 33 (by decide) (by decide) rfl (lt48 (by decide)) rfl rfl lkX0_21 dX0_goDay_87 ?_
      refine c_getR (pc := 90) 1 6 33 40 (by decide) (by decide) rfl (lt48 (by decide)) rfl rfl lkX0_112 dX0_goDay_90 ?_
      refine o_iload_n (pc := 93) dX0_goDay_93 rfl ?_
      obtain ⟨hk19, hf⟩ := ck_elim hf
      refine c_iald (pc := 94) (lt48 (by decide)) rfl hk19 dX0_goDay_94 ?_
      refine o_min (pc := 95) lmX0_115 dX0_goDay_95 (by decide) (Nat.le_of_ble_eq_true rfl) (Nat.zero_le _) (Nat.zero_le _) ?_
      show Rn g mdX0_goDay 98 [some (.ref 30), some (.int x1), none, none] [.int (imn 1 (gi s 40 (ix x1))), .int (-1)] (cW t s) 0 0 r h2
      refine o_max (pc := 98) lmX0_121 dX0_goDay_98 (by decide) (Nat.le_of_ble_eq_true rfl) (Nat.zero_le _) (Nat.zero_le _) ?_
      show Rn g mdX0_goDay 101 [some (.ref 30), some (.int x1), none, none] [.int (imx (-1) (imn 1 (gi s 40 (ix x1))))] (cW t s) 0 0 r h2
      refine lz_i hf (fun v20 hf => ?_)
      refine o_istore_n (pc := 101) dX0_goDay_101 (by decide) rfl ?_
      show Rn g mdX0_goDay 102 [some (.ref 30), some (.int x1), some (.int v20), none] [] (cW t s) 0 0 r h2
      refine o_aload_n (pc := 102) dX0_goDay_102 rfl ?_
      refine c_getR (pc := 103) 0 0 30 31 (by decide) (by decide) rfl (lt48 (by decide)) rfl rfl lkX0_12 dX0_goDay_103 ?_
      refine c_getR (pc := 106) 4 0 31 32 (by decide) (by decide) rfl (lt48 (by decide)) rfl rfl lkX0_124 dX0_goDay_106 ?_
      refine o_iconst (pc := 109) (v := 0) dX0_goDay_109 rfl ?_
      refine o_iload_n (pc := 110) dX0_goDay_110 rfl ?_
      refine o_iadd (pc := 111) dX0_goDay_111 ?_
      obtain ⟨hk21, hf⟩ := ck_elim hf
      refine c_iald (pc := 112) (lt48 (by decide)) rfl hk21 dX0_goDay_112 ?_
      refine o_iload_n (pc := 113) dX0_goDay_113 rfl ?_
      refine o_iadd (pc := 114) dX0_goDay_114 ?_
      refine lz_i hf (fun v22 hf => ?_)
      refine o_istore_n (pc := 115) dX0_goDay_115 (by decide) rfl ?_
      show Rn g mdX0_goDay 116 [some (.ref 30), some (.int x1), some (.int v20), some (.int v22)] [] (cW t s) 0 0 r h2
      refine o_aload_n (pc := 116) dX0_goDay_116 rfl ?_
      refine c_getR (pc := 117) 0 0 30 31 (by decide) (by decide) rfl (lt48 (by decide)) rfl rfl lkX0_12 dX0_goDay_117 ?_
      refine c_getR (pc := 120) 4 0 31 32 (by decide) (by decide) rfl (lt48 (by decide)) rfl rfl lkX0_124 dX0_goDay_120 ?_
      refine o_iconst (pc := 123) (v := 0) dX0_goDay_123 rfl ?_
      refine o_iload_n (pc := 124) dX0_goDay_124 rfl ?_
      refine o_iadd (pc := 125) dX0_goDay_125 ?_
      refine o_bipush (pc := 126) (v := (-20)) dX0_goDay_126 rfl ?_
      refine o_bipush (pc := 128) (v := 20) dX0_goDay_128 rfl ?_
      refine o_iload_n (pc := 130) dX0_goDay_130 rfl ?_
      refine o_min (pc := 131) lmX0_115 dX0_goDay_131 (by decide) (Nat.le_of_ble_eq_true rfl) (Nat.zero_le _) (Nat.zero_le _) ?_
      show Rn g mdX0_goDay 134 [some (.ref 30), some (.int x1), some (.int v20), some (.int v22)] [.int (imn 20 v22), .int (-20), .int (0 + x1), .ref 32] (cW t s) 0 0 r h2
      refine o_max (pc := 134) lmX0_121 dX0_goDay_134 (by decide) (Nat.le_of_ble_eq_true rfl) (Nat.zero_le _) (Nat.zero_le _) ?_
      show Rn g mdX0_goDay 137 [some (.ref 30), some (.int x1), some (.int v20), some (.int v22)] [.int (imx (-20) (imn 20 v22)), .int (0 + x1), .ref 32] (cW t s) 0 0 r h2
      obtain ⟨hk23, hf⟩ := ck_elim hf
      refine c_iast (pc := 137) (lt48 (by decide)) rfl hk23 dX0_goDay_137 ?_
      refine lz_s (cW t) hf (fun s24 hf => ?_)
      show Rn g mdX0_goDay 138 [some (.ref 30), some (.int x1), some (.int v20), some (.int v22)] [] (cW t s24) 0 0 r h2
      refine o_iinc (pc := 138) dX0_goDay_138 rfl (by decide) rfl ?_
      show Rn g mdX0_goDay 141 [some (.ref 30), some (.int (x1 + 1)), some (.int v20), some (.int v22)] [] (cW t s24) 0 0 r h2
      obtain ⟨v25, ev25, hf⟩ := lt_elim hf
      rw [ev25]
      show Rn g mdX0_goDay 141 [some (.ref 30), some (.int v25), some (.int v20), some (.int v22)] [] (cW t s24) 0 0 r h2
      refine o_goto (pc := 141) 73 dX0_goDay_141 rfl ?_
      refine o_keep [true, true, false, false] ?_
      exact ih _ _ hf K
set_option maxRecDepth 20000 in
theorem kX0_goDay {g : GX} {t : PH} {s : ST} {q : ST} (hf : fX0_goDay t s = some q) : Cn g mdX0_goDay [.ref 30] (cW t s) none (cW t q) := by
  refine Cn.of (by decide) (Nat.le_of_ble_eq_true rfl) ?_
  show Rn g mdX0_goDay 0 [some (.ref 30), none, none, none] [] (cW t s) 0 0 none (cW t q)
  unfold fX0_goDay at hf
  refine o_aload_n (pc := 0) dX0_goDay_0 rfl ?_
  refine c_getO (pc := 1) 5 0 (by decide) lkX0_38 dX0_goDay_1 ?_
  refine o_ifnonnullV (pc := 4) (mr s 0) 8 dX0_goDay_4 rfl (fun q1 hq2 => ?_) (fun hq2 => ?_)
  · have hf := om_s hf hq2
    refine o_aload_n (pc := 8) dX0_goDay_8 rfl ?_
    refine c_getR (pc := 9) 0 1 30 33 (by decide) (by decide) rfl (lt48 (by decide)) rfl rfl lkX0_21 dX0_goDay_9 ?_
    refine o_aload_n (pc := 12) dX0_goDay_12 rfl ?_
    refine c_getO (pc := 13) 5 0 (by decide) lkX0_38 dX0_goDay_13 ?_
    refine o_aload_n (pc := 16) dX0_goDay_16 rfl ?_
    refine c_getR (pc := 17) 0 0 30 31 (by decide) (by decide) rfl (lt48 (by decide)) rfl rfl lkX0_12 dX0_goDay_17 ?_
    obtain ⟨hk3, hf⟩ := ck_elim hf
    have hk3 := of_decide_eq_true hk3
    rw [hk3]
    obtain ⟨q5, hk4, hf⟩ := bd_elim hf
    refine c_callV (pc := 20) 1 33 [.ref 18, .ref 31] (by decide) (lt48 (by decide)) rfl dX0_goDay_20 (kX1_open_18_31 hk4) stX0_95 ⟨by decide, by decide, by decide, by decide⟩ ⟨rfl, rfl⟩ (Nat.le_of_ble_eq_true rfl) ?_
    show Rn g mdX0_goDay 23 [some (.ref 30), none, none, none] [] (cW t q5) 0 0 none (cW t q)
    refine o_iconst (pc := 23) (v := 0) dX0_goDay_23 rfl ?_
    refine o_istore_n (pc := 24) dX0_goDay_24 (by decide) rfl ?_
    show Rn g mdX0_goDay 25 [some (.ref 30), some (.int 0), none, none] [] (cW t q5) 0 0 none (cW t q)
    obtain ⟨w15, hl16, hf⟩ := bd_elim hf
    have K17 : Rn g mdX0_goDay 71 [some (.ref 30), none, none, none] [] (cW t w15.2) 0 0 none (cW t q) := by
      refine o_iconst (pc := 71) (v := 0) dX0_goDay_71 rfl ?_
      refine o_istore_n (pc := 72) dX0_goDay_72 (by decide) rfl ?_
      show Rn g mdX0_goDay 73 [some (.ref 30), some (.int 0), none, none] [] (cW t w15.2) 0 0 none (cW t q)
      obtain ⟨w26, hl27, hf⟩ := bd_elim hf
      have K28 : Rn g mdX0_goDay 144 [some (.ref 30), none, none, none] [] (cW t w26.2) 0 0 none (cW t q) := by
        refine o_aload_n (pc := 144) dX0_goDay_144 rfl ?_
        refine c_getR (pc := 145) 0 0 30 31 (by decide) (by decide) rfl (lt48 (by decide)) rfl rfl lkX0_12 dX0_goDay_145 ?_
        refine c_getR (pc := 148) 4 0 31 32 (by decide) (by decide) rfl (lt48 (by decide)) rfl rfl lkX0_124 dX0_goDay_148 ?_
        refine o_bipush (pc := 151) (v := 45) dX0_goDay_151 rfl ?_
        refine o_sipush (pc := 153) (v := 999) dX0_goDay_153 rfl ?_
        refine o_aload_n (pc := 156) dX0_goDay_156 rfl ?_
        refine c_getR (pc := 157) 0 0 30 31 (by decide) (by decide) rfl (lt48 (by decide)) rfl rfl lkX0_12 dX0_goDay_157 ?_
        refine c_getR (pc := 160) 4 0 31 32 (by decide) (by decide) rfl (lt48 (by decide)) rfl rfl lkX0_124 dX0_goDay_160 ?_
        refine o_bipush (pc := 163) (v := 45) dX0_goDay_163 rfl ?_
        obtain ⟨hk29, hf⟩ := ck_elim hf
        refine c_iald (pc := 165) (lt48 (by decide)) rfl hk29 dX0_goDay_165 ?_
        refine o_iconst (pc := 166) (v := 1) dX0_goDay_166 rfl ?_
        refine o_iadd (pc := 167) dX0_goDay_167 ?_
        refine o_min (pc := 168) lmX0_115 dX0_goDay_168 (by decide) (Nat.le_of_ble_eq_true rfl) (Nat.zero_le _) (Nat.zero_le _) ?_
        show Rn g mdX0_goDay 171 [some (.ref 30), none, none, none] [.int (imn 999 ((gi w26.2 32 (ix 45)) + 1)), .int 45, .ref 32] (cW t w26.2) 0 0 none (cW t q)
        obtain ⟨hk30, hf⟩ := ck_elim hf
        refine c_iast (pc := 171) (lt48 (by decide)) rfl hk30 dX0_goDay_171 ?_
        refine lz_s (cW t) hf (fun s31 hf => ?_)
        show Rn g mdX0_goDay 172 [some (.ref 30), none, none, none] [] (cW t s31) 0 0 none (cW t q)
        obtain rfl := Option.some.inj hf
        exact o_return (pc := 172) dX0_goDay_172 rfl (Nat.zero_le _) (Nat.zero_le _)
      exact kX0_goDay_L73 _ _ _ hl27 K28
    exact kX0_goDay_L25 _ _ _ hl16 K17
  · have hf := om_n hf hq2
    obtain rfl := Option.some.inj hf
    exact o_return (pc := 7) dX0_goDay_7 rfl (Nat.zero_le _) (Nat.zero_le _)
def fX10_rememberForUndo_17 (s : ST) : Option (ST) :=
  ck (cpB 0 ((gi s 17 7) * 46) 46 46 920) (lt (sAr s 28 (va_cpy (s.1 26) (s.1 28) (ix 0) (ix ((gi s 17 7) * 46)) (ix 46))) (fun s2 => lt (si s2 17 7 (((gi s2 17 7) + 1) - ((gi s2 17 7) + 1) / 20 * 20)) (fun s3 => lt (si s3 17 8 (imn 20 ((gi s3 17 8) + 1))) (fun s4 => some s4))))
set_option maxRecDepth 20000 in
theorem kX10_rememberForUndo_17 {g : GX} {t : PH} {s : ST} {q : ST} (hf : fX10_rememberForUndo_17 s = some q) : Cn g mdX10_rememberForUndo [.ref 17] (cW t s) none (cW t q) := by
  refine Cn.of (by decide) (Nat.le_of_ble_eq_true rfl) ?_
  show Rn g mdX10_rememberForUndo 0 [some (.ref 17)] [] (cW t s) 0 0 none (cW t q)
  unfold fX10_rememberForUndo_17 at hf
  refine o_aload_n (pc := 0) dX10_rememberForUndo_0 rfl ?_
  refine c_getR (pc := 1) 9 1 17 25 (by decide) (by decide) rfl (lt48 (by decide)) rfl rfl lkX10_21 dX10_rememberForUndo_1 ?_
  refine c_getR (pc := 4) 4 0 25 26 (by decide) (by decide) rfl (lt48 (by decide)) rfl rfl lkX10_68 dX10_rememberForUndo_4 ?_
  refine o_iconst (pc := 7) (v := 0) dX10_rememberForUndo_7 rfl ?_
  refine o_aload_n (pc := 8) dX10_rememberForUndo_8 rfl ?_
  refine c_getR (pc := 9) 9 6 17 28 (by decide) (by decide) rfl (lt48 (by decide)) rfl rfl lkX10_39 dX10_rememberForUndo_9 ?_
  refine o_aload_n (pc := 12) dX10_rememberForUndo_12 rfl ?_
  refine c_getI (pc := 13) 9 7 17 (by decide) (by decide) rfl (lt48 (by decide)) rfl lkX10_42 dX10_rememberForUndo_13 ?_
  refine o_bipush (pc := 16) (v := 46) dX10_rememberForUndo_16 rfl ?_
  refine o_imul (pc := 18) dX10_rememberForUndo_18 ?_
  refine o_bipush (pc := 19) (v := 46) dX10_rememberForUndo_19 rfl ?_
  obtain ⟨hk1, hf⟩ := ck_elim hf
  refine c_copy (pc := 21) 26 28 46 920 lmX10_55 dX10_rememberForUndo_21 (by decide) (Nat.le_of_ble_eq_true rfl) (lt48 (by decide)) rfl (lt48 (by decide)) rfl hk1 ?_
  refine lz_s (cW t) hf (fun s2 hf => ?_)
  show Rn g mdX10_rememberForUndo 24 [some (.ref 17)] [] (cW t s2) 0 0 none (cW t q)
  refine o_aload_n (pc := 24) dX10_rememberForUndo_24 rfl ?_
  refine o_aload_n (pc := 25) dX10_rememberForUndo_25 rfl ?_
  refine c_getI (pc := 26) 9 7 17 (by decide) (by decide) rfl (lt48 (by decide)) rfl lkX10_42 dX10_rememberForUndo_26 ?_
  refine o_iconst (pc := 29) (v := 1) dX10_rememberForUndo_29 rfl ?_
  refine o_iadd (pc := 30) dX10_rememberForUndo_30 ?_
  refine o_bipush (pc := 31) (v := 20) dX10_rememberForUndo_31 rfl ?_
  refine o_irem (pc := 33) dX10_rememberForUndo_33 (by decide) ?_
  refine c_putI (pc := 34) 9 7 17 (by decide) (by decide) rfl rfl (lt48 (by decide)) rfl lkX10_42 ⟨rfl, rfl⟩ dX10_rememberForUndo_34 ?_
  refine lz_s (cW t) hf (fun s3 hf => ?_)
  show Rn g mdX10_rememberForUndo 37 [some (.ref 17)] [] (cW t s3) 0 0 none (cW t q)
  refine o_aload_n (pc := 37) dX10_rememberForUndo_37 rfl ?_
  refine o_bipush (pc := 38) (v := 20) dX10_rememberForUndo_38 rfl ?_
  refine o_aload_n (pc := 40) dX10_rememberForUndo_40 rfl ?_
  refine c_getI (pc := 41) 9 8 17 (by decide) (by decide) rfl (lt48 (by decide)) rfl lkX10_45 dX10_rememberForUndo_41 ?_
  refine o_iconst (pc := 44) (v := 1) dX10_rememberForUndo_44 rfl ?_
  refine o_iadd (pc := 45) dX10_rememberForUndo_45 ?_
  refine o_min (pc := 46) lmX10_71 dX10_rememberForUndo_46 (by decide) (Nat.le_of_ble_eq_true rfl) (Nat.zero_le _) (Nat.zero_le _) ?_
  show Rn g mdX10_rememberForUndo 49 [some (.ref 17)] [.int (imn 20 ((gi s3 17 8) + 1)), .ref 17] (cW t s3) 0 0 none (cW t q)
  refine c_putI (pc := 49) 9 8 17 (by decide) (by decide) rfl rfl (lt48 (by decide)) rfl lkX10_45 ⟨rfl, rfl⟩ dX10_rememberForUndo_49 ?_
  refine lz_s (cW t) hf (fun s4 hf => ?_)
  show Rn g mdX10_rememberForUndo 52 [some (.ref 17)] [] (cW t s4) 0 0 none (cW t q)
  obtain rfl := Option.some.inj hf
  exact o_return (pc := 52) dX10_rememberForUndo_52 rfl (Nat.zero_le _) (Nat.zero_le _)
def fX11_day (t : PH) (s : ST) : Option (Int32 × ST) :=
  (if (gi s 18 0) = 0 then some true else ck (inb 45 46) (if (gi s 26 (ix 45)) < 999 then some false else some true) : Option Bool).bind (fun b1 => if b1 = true then some ((-1), s) else (fX10_rememberForUndo_17 s).bind (fun q6 => (fX11_startFromNow t q6).bind (fun q8 => (fX0_goDay t q8).bind (fun q10 => (fX5_copyFrom_St_St 25 31 q10).bind (fun q12 => some (gi q12 30 15, q12))))))
set_option maxRecDepth 20000 in
theorem kX11_day {g : GX} {t : PH} {s : ST} {q : Int32 × ST} (hf : fX11_day t s = some q) : Cn g mdX11_day [.ref 0] (cW t s) (some (.int q.1)) (cW t q.2) := by
  refine Cn.of (by decide) (Nat.le_of_ble_eq_true rfl) ?_
  show Rn g mdX11_day 0 [some (.ref 0)] [] (cW t s) 0 0 (some (.int q.1)) (cW t q.2)
  unfold fX11_day at hf
  refine o_aload_n (pc := 0) dX11_day_0 rfl ?_
  refine c_getR (pc := 1) 10 5 0 17 (by decide) (by decide) rfl (lt48 (by decide)) rfl rfl lkX11_45 dX11_day_1 ?_
  refine c_getR (pc := 4) 9 0 17 18 (by decide) (by decide) rfl (lt48 (by decide)) rfl rfl lkX11_86 dX11_day_4 ?_
  refine c_getI (pc := 7) 6 0 18 (by decide) (by decide) rfl (lt48 (by decide)) rfl lkX11_136 dX11_day_7 ?_
  obtain ⟨b1, hr2, hf⟩ := bd_elim hf
  have KB3 : (b1 = true → Rn g mdX11_day 32 [some (.ref 0)] [] (cW t s) 0 0 (some (.int q.1)) (cW t q.2)) ∧ (¬ b1 = true → Rn g mdX11_day 34 [some (.ref 0)] [] (cW t s) 0 0 (some (.int q.1)) (cW t q.2)) := by
    refine ⟨fun hc => ?_, fun hc => ?_⟩
    · have hf := it_t hf hc
      refine o_iconst (pc := 32) (v := (-1)) dX11_day_32 rfl ?_
      obtain rfl := Option.some.inj hf
      exact o_ireturn (pc := 33) dX11_day_33 rfl (Nat.zero_le _) (Nat.zero_le _)
    · have hf := it_f hf hc
      refine o_aload_n (pc := 34) dX11_day_34 rfl ?_
      refine c_getR (pc := 35) 10 5 0 17 (by decide) (by decide) rfl (lt48 (by decide)) rfl rfl lkX11_45 dX11_day_35 ?_
      obtain ⟨q6, hk5, hf⟩ := bd_elim hf
      refine c_callV (pc := 38) 9 17 [] (by decide) (lt48 (by decide)) rfl dX11_day_38 (kX10_rememberForUndo_17 hk5) stX11_140 ⟨by decide, by decide, by decide, by decide⟩ ⟨rfl, rfl⟩ (Nat.le_of_ble_eq_true rfl) ?_
      show Rn g mdX11_day 41 [some (.ref 0)] [] (cW t q6) 0 0 (some (.int q.1)) (cW t q.2)
      refine o_aload_n (pc := 41) dX11_day_41 rfl ?_
      obtain ⟨q8, hk7, hf⟩ := bd_elim hf
      refine c_callV (pc := 42) 10 0 [] (by decide) (lt48 (by decide)) rfl dX11_day_42 (kX11_startFromNow hk7) stX11_143 ⟨by decide, by decide, by decide, by decide⟩ ⟨rfl, rfl⟩ (Nat.le_of_ble_eq_true rfl) ?_
      show Rn g mdX11_day 45 [some (.ref 0)] [] (cW t q8) 0 0 (some (.int q.1)) (cW t q.2)
      refine o_aload_n (pc := 45) dX11_day_45 rfl ?_
      refine c_getR (pc := 46) 10 7 0 30 (by decide) (by decide) rfl (lt48 (by decide)) rfl rfl lkX11_56 dX11_day_46 ?_
      obtain ⟨q10, hk9, hf⟩ := bd_elim hf
      refine c_callV (pc := 49) 0 30 [] (by decide) (lt48 (by decide)) rfl dX11_day_49 (kX0_goDay hk9) stX11_146 ⟨by decide, by decide, by decide, by decide⟩ ⟨rfl, rfl⟩ (Nat.le_of_ble_eq_true rfl) ?_
      show Rn g mdX11_day 52 [some (.ref 0)] [] (cW t q10) 0 0 (some (.int q.1)) (cW t q.2)
      refine o_aload_n (pc := 52) dX11_day_52 rfl ?_
      refine c_getR (pc := 53) 10 5 0 17 (by decide) (by decide) rfl (lt48 (by decide)) rfl rfl lkX11_45 dX11_day_53 ?_
      refine c_getR (pc := 56) 9 1 17 25 (by decide) (by decide) rfl (lt48 (by decide)) rfl rfl lkX11_104 dX11_day_56 ?_
      refine o_aload_n (pc := 59) dX11_day_59 rfl ?_
      refine c_getR (pc := 60) 10 7 0 30 (by decide) (by decide) rfl (lt48 (by decide)) rfl rfl lkX11_56 dX11_day_60 ?_
      refine c_getR (pc := 63) 0 0 30 31 (by decide) (by decide) rfl (lt48 (by decide)) rfl rfl lkX11_149 dX11_day_63 ?_
      obtain ⟨q12, hk11, hf⟩ := bd_elim hf
      refine c_callV (pc := 66) 4 25 [.ref 31] (by decide) (lt48 (by decide)) rfl dX11_day_66 (kX5_copyFrom_St_St (st25 t) (st31 t) hk11) stX11_150 ⟨by decide, by decide, by decide, by decide⟩ ⟨rfl, rfl⟩ (Nat.le_of_ble_eq_true rfl) ?_
      show Rn g mdX11_day 69 [some (.ref 0)] [] (cW t q12) 0 0 (some (.int q.1)) (cW t q.2)
      refine o_aload_n (pc := 69) dX11_day_69 rfl ?_
      refine c_getR (pc := 70) 10 7 0 30 (by decide) (by decide) rfl (lt48 (by decide)) rfl rfl lkX11_56 dX11_day_70 ?_
      refine c_getI (pc := 73) 0 15 30 (by decide) (by decide) rfl (lt48 (by decide)) rfl lkX11_154 dX11_day_73 ?_
      obtain rfl := Option.some.inj hf
      exact o_ireturn (pc := 76) dX11_day_76 rfl (Nat.zero_le _) (Nat.zero_le _)
  clear hf
  refine o_if_eq (pc := 10) 32 dX11_day_10 rfl (fun hc => ?_) (fun hc => ?_)
  · have hr2 := it_t hr2 hc
    obtain rfl := Option.some.inj hr2
    exact KB3.1 rfl
  · have hr2 := it_f hr2 hc
    refine o_aload_n (pc := 13) dX11_day_13 rfl ?_
    refine c_getR (pc := 14) 10 5 0 17 (by decide) (by decide) rfl (lt48 (by decide)) rfl rfl lkX11_45 dX11_day_14 ?_
    refine c_getR (pc := 17) 9 1 17 25 (by decide) (by decide) rfl (lt48 (by decide)) rfl rfl lkX11_104 dX11_day_17 ?_
    refine c_getR (pc := 20) 4 0 25 26 (by decide) (by decide) rfl (lt48 (by decide)) rfl rfl lkX11_108 dX11_day_20 ?_
    refine o_bipush (pc := 23) (v := 45) dX11_day_23 rfl ?_
    obtain ⟨hk4, hr2⟩ := ck_elim hr2
    refine c_iald (pc := 25) (lt48 (by decide)) rfl hk4 dX11_day_25 ?_
    refine o_sipush (pc := 26) (v := 999) dX11_day_26 rfl ?_
    refine o_icmp_lt (pc := 29) 34 dX11_day_29 rfl (fun hc => ?_) (fun hc => ?_)
    · have hr2 := it_t hr2 hc
      obtain rfl := Option.some.inj hr2
      exact KB3.2 (by decide)
    · have hr2 := it_f hr2 hc
      obtain rfl := Option.some.inj hr2
      exact KB3.1 rfl
def fX11_act (p0 : Int32) (p1 : Int32) (p2 : Int32) (s : ST) : Option (Int32 × ST) :=
  ck (inb p0 46) (lt (gi s 26 (ix p0) : Int32) (fun v2 => if v2 = p1 then some (p2, s) else (fX10_rememberForUndo_17 s).bind (fun q4 => ck (inb p0 46) (lt (si q4 26 (ix p0) p1) (fun s6 => some (v2, s6))))))
set_option maxRecDepth 20000 in
theorem kX11_act {g : GX} {t : PH} {p0 : Int32} {p1 : Int32} {p2 : Int32} {s : ST} {q : Int32 × ST} (hf : fX11_act p0 p1 p2 s = some q) : Cn g mdX11_act [.ref 0, .int p0, .int p1, .int p2] (cW t s) (some (.int q.1)) (cW t q.2) := by
  refine Cn.of (by decide) (Nat.le_of_ble_eq_true rfl) ?_
  show Rn g mdX11_act 0 [some (.ref 0), some (.int p0), some (.int p1), some (.int p2), none] [] (cW t s) 0 0 (some (.int q.1)) (cW t q.2)
  unfold fX11_act at hf
  refine o_aload_n (pc := 0) dX11_act_0 rfl ?_
  refine c_getR (pc := 1) 10 5 0 17 (by decide) (by decide) rfl (lt48 (by decide)) rfl rfl lkX11_45 dX11_act_1 ?_
  refine c_getR (pc := 4) 9 1 17 25 (by decide) (by decide) rfl (lt48 (by decide)) rfl rfl lkX11_104 dX11_act_4 ?_
  refine c_getR (pc := 7) 4 0 25 26 (by decide) (by decide) rfl (lt48 (by decide)) rfl rfl lkX11_108 dX11_act_7 ?_
  refine o_iload_n (pc := 10) dX11_act_10 rfl ?_
  obtain ⟨hk1, hf⟩ := ck_elim hf
  refine c_iald (pc := 11) (lt48 (by decide)) rfl hk1 dX11_act_11 ?_
  refine lz_i hf (fun v2 hf => ?_)
  refine o_istore (pc := 12) dX11_act_12 (by decide) rfl ?_
  show Rn g mdX11_act 14 [some (.ref 0), some (.int p0), some (.int p1), some (.int p2), some (.int v2)] [] (cW t s) 0 0 (some (.int q.1)) (cW t q.2)
  refine o_iload (pc := 14) dX11_act_14 rfl ?_
  refine o_iload_n (pc := 16) dX11_act_16 rfl ?_
  refine o_icmp_ne (pc := 17) 22 dX11_act_17 rfl (fun hc => ?_) (fun hc => ?_)
  · have hf := it_f hf hc
    refine o_aload_n (pc := 22) dX11_act_22 rfl ?_
    refine c_getR (pc := 23) 10 5 0 17 (by decide) (by decide) rfl (lt48 (by decide)) rfl rfl lkX11_45 dX11_act_23 ?_
    obtain ⟨q4, hk3, hf⟩ := bd_elim hf
    refine c_callV (pc := 26) 9 17 [] (by decide) (lt48 (by decide)) rfl dX11_act_26 (kX10_rememberForUndo_17 hk3) stX11_140 ⟨by decide, by decide, by decide, by decide⟩ ⟨rfl, rfl⟩ (Nat.le_of_ble_eq_true rfl) ?_
    show Rn g mdX11_act 29 [some (.ref 0), some (.int p0), some (.int p1), some (.int p2), some (.int v2)] [] (cW t q4) 0 0 (some (.int q.1)) (cW t q.2)
    refine o_aload_n (pc := 29) dX11_act_29 rfl ?_
    refine c_getR (pc := 30) 10 5 0 17 (by decide) (by decide) rfl (lt48 (by decide)) rfl rfl lkX11_45 dX11_act_30 ?_
    refine c_getR (pc := 33) 9 1 17 25 (by decide) (by decide) rfl (lt48 (by decide)) rfl rfl lkX11_104 dX11_act_33 ?_
    refine c_getR (pc := 36) 4 0 25 26 (by decide) (by decide) rfl (lt48 (by decide)) rfl rfl lkX11_108 dX11_act_36 ?_
    refine o_iload_n (pc := 39) dX11_act_39 rfl ?_
    refine o_iload_n (pc := 40) dX11_act_40 rfl ?_
    obtain ⟨hk5, hf⟩ := ck_elim hf
    refine c_iast (pc := 41) (lt48 (by decide)) rfl hk5 dX11_act_41 ?_
    refine lz_s (cW t) hf (fun s6 hf => ?_)
    show Rn g mdX11_act 42 [some (.ref 0), some (.int p0), some (.int p1), some (.int p2), some (.int v2)] [] (cW t s6) 0 0 (some (.int q.1)) (cW t q.2)
    refine o_iload (pc := 42) dX11_act_42 rfl ?_
    obtain rfl := Option.some.inj hf
    exact o_ireturn (pc := 44) dX11_act_44 rfl (Nat.zero_le _) (Nat.zero_le _)
  · have hf := it_t hf hc
    refine o_iload_n (pc := 20) dX11_act_20 rfl ?_
    obtain rfl := Option.some.inj hf
    exact o_ireturn (pc := 21) dX11_act_21 rfl (Nat.zero_le _) (Nat.zero_le _)
def fX11_ask (p0 : Int32) (p1 : Int32) (s : ST) : Option (Int32 × ST) :=
  (fX11_isMeeting p0 s).bind (fun q2 => (if q2 = 0 then some true else if p1 < 0 then some true else if p1 ≤ 600 then some false else some true : Option Bool).bind (fun b3 => if b3 = true then some ((-1), s) else (fX11_act (20 + p0) p1 (-1) s).bind (fun q7 => some (q7.1, q7.2))))
set_option maxRecDepth 20000 in
theorem kX11_ask {g : GX} {t : PH} {p0 : Int32} {p1 : Int32} {s : ST} {q : Int32 × ST} (hf : fX11_ask p0 p1 s = some q) : Cn g mdX11_ask [.ref 0, .int p0, .int p1] (cW t s) (some (.int q.1)) (cW t q.2) := by
  refine Cn.of (by decide) (Nat.le_of_ble_eq_true rfl) ?_
  show Rn g mdX11_ask 0 [some (.ref 0), some (.int p0), some (.int p1)] [] (cW t s) 0 0 (some (.int q.1)) (cW t q.2)
  unfold fX11_ask at hf
  refine o_aload_n (pc := 0) dX11_ask_0 rfl ?_
  refine o_iload_n (pc := 1) dX11_ask_1 rfl ?_
  obtain ⟨q2, hk1, hf⟩ := bd_elim hf
  refine c_callV (pc := 2) 10 0 [.int p0] (by decide) (lt48 (by decide)) rfl dX11_ask_2 (kX11_isMeeting hk1) stX11_124 ⟨by decide, by decide, by decide, by decide⟩ ⟨rfl, rfl⟩ (Nat.le_of_ble_eq_true rfl) ?_
  show Rn g mdX11_ask 5 [some (.ref 0), some (.int p0), some (.int p1)] [.int q2] (cW t s) 0 0 (some (.int q.1)) (cW t q.2)
  obtain ⟨b3, hr4, hf⟩ := bd_elim hf
  have KB5 : (b3 = true → Rn g mdX11_ask 19 [some (.ref 0), some (.int p0), some (.int p1)] [] (cW t s) 0 0 (some (.int q.1)) (cW t q.2)) ∧ (¬ b3 = true → Rn g mdX11_ask 21 [some (.ref 0), some (.int p0), some (.int p1)] [] (cW t s) 0 0 (some (.int q.1)) (cW t q.2)) := by
    refine ⟨fun hc => ?_, fun hc => ?_⟩
    · have hf := it_t hf hc
      refine o_iconst (pc := 19) (v := (-1)) dX11_ask_19 rfl ?_
      obtain rfl := Option.some.inj hf
      exact o_ireturn (pc := 20) dX11_ask_20 rfl (Nat.zero_le _) (Nat.zero_le _)
    · have hf := it_f hf hc
      refine o_aload_n (pc := 21) dX11_ask_21 rfl ?_
      refine o_bipush (pc := 22) (v := 20) dX11_ask_22 rfl ?_
      refine o_iload_n (pc := 24) dX11_ask_24 rfl ?_
      refine o_iadd (pc := 25) dX11_ask_25 ?_
      refine o_iload_n (pc := 26) dX11_ask_26 rfl ?_
      refine o_iconst (pc := 27) (v := (-1)) dX11_ask_27 rfl ?_
      obtain ⟨q7, hk6, hf⟩ := bd_elim hf
      refine c_callV (pc := 28) 10 0 [.int (20 + p0), .int p1, .int (-1)] (by decide) (lt48 (by decide)) rfl dX11_ask_28 (kX11_act hk6) stX11_157 ⟨by decide, by decide, by decide, by decide⟩ ⟨rfl, rfl⟩ (Nat.le_of_ble_eq_true rfl) ?_
      show Rn g mdX11_ask 31 [some (.ref 0), some (.int p0), some (.int p1)] [.int q7.1] (cW t q7.2) 0 0 (some (.int q.1)) (cW t q.2)
      obtain rfl := Option.some.inj hf
      exact o_ireturn (pc := 31) dX11_ask_31 rfl (Nat.zero_le _) (Nat.zero_le _)
  clear hf
  refine o_if_eq (pc := 5) 19 dX11_ask_5 rfl (fun hc => ?_) (fun hc => ?_)
  · have hr4 := it_t hr4 hc
    obtain rfl := Option.some.inj hr4
    exact KB5.1 rfl
  · have hr4 := it_f hr4 hc
    refine o_iload_n (pc := 8) dX11_ask_8 rfl ?_
    refine o_if_lt (pc := 9) 19 dX11_ask_9 rfl (fun hc => ?_) (fun hc => ?_)
    · have hr4 := it_t hr4 hc
      obtain rfl := Option.some.inj hr4
      exact KB5.1 rfl
    · have hr4 := it_f hr4 hc
      refine o_iload_n (pc := 12) dX11_ask_12 rfl ?_
      refine o_sipush (pc := 13) (v := 600) dX11_ask_13 rfl ?_
      refine o_icmp_le (pc := 16) 21 dX11_ask_16 rfl (fun hc => ?_) (fun hc => ?_)
      · have hr4 := it_t hr4 hc
        obtain rfl := Option.some.inj hr4
        exact KB5.2 (by decide)
      · have hr4 := it_f hr4 hc
        obtain rfl := Option.some.inj hr4
        exact KB5.1 rfl
def fX11_set (p0 : Int32) (p1 : Int32) (s : ST) : Option (Int32 × ST) :=
  (fX11_isPerson p0 s).bind (fun q2 => (if q2 = 0 then some true else if p1 < (-20) then some true else if p1 ≤ 20 then some false else some true : Option Bool).bind (fun b3 => if b3 = true then some ((-1000), s) else (fX11_act (0 + p0) p1 (-1000) s).bind (fun q7 => some (q7.1, q7.2))))
set_option maxRecDepth 20000 in
theorem kX11_set {g : GX} {t : PH} {p0 : Int32} {p1 : Int32} {s : ST} {q : Int32 × ST} (hf : fX11_set p0 p1 s = some q) : Cn g mdX11_set [.ref 0, .int p0, .int p1] (cW t s) (some (.int q.1)) (cW t q.2) := by
  refine Cn.of (by decide) (Nat.le_of_ble_eq_true rfl) ?_
  show Rn g mdX11_set 0 [some (.ref 0), some (.int p0), some (.int p1)] [] (cW t s) 0 0 (some (.int q.1)) (cW t q.2)
  unfold fX11_set at hf
  refine o_aload_n (pc := 0) dX11_set_0 rfl ?_
  refine o_iload_n (pc := 1) dX11_set_1 rfl ?_
  obtain ⟨q2, hk1, hf⟩ := bd_elim hf
  refine c_callV (pc := 2) 10 0 [.int p0] (by decide) (lt48 (by decide)) rfl dX11_set_2 (kX11_isPerson hk1) stX11_100 ⟨by decide, by decide, by decide, by decide⟩ ⟨rfl, rfl⟩ (Nat.le_of_ble_eq_true rfl) ?_
  show Rn g mdX11_set 5 [some (.ref 0), some (.int p0), some (.int p1)] [.int q2] (cW t s) 0 0 (some (.int q.1)) (cW t q.2)
  obtain ⟨b3, hr4, hf⟩ := bd_elim hf
  have KB5 : (b3 = true → Rn g mdX11_set 20 [some (.ref 0), some (.int p0), some (.int p1)] [] (cW t s) 0 0 (some (.int q.1)) (cW t q.2)) ∧ (¬ b3 = true → Rn g mdX11_set 24 [some (.ref 0), some (.int p0), some (.int p1)] [] (cW t s) 0 0 (some (.int q.1)) (cW t q.2)) := by
    refine ⟨fun hc => ?_, fun hc => ?_⟩
    · have hf := it_t hf hc
      refine o_sipush (pc := 20) (v := (-1000)) dX11_set_20 rfl ?_
      obtain rfl := Option.some.inj hf
      exact o_ireturn (pc := 23) dX11_set_23 rfl (Nat.zero_le _) (Nat.zero_le _)
    · have hf := it_f hf hc
      refine o_aload_n (pc := 24) dX11_set_24 rfl ?_
      refine o_iconst (pc := 25) (v := 0) dX11_set_25 rfl ?_
      refine o_iload_n (pc := 26) dX11_set_26 rfl ?_
      refine o_iadd (pc := 27) dX11_set_27 ?_
      refine o_iload_n (pc := 28) dX11_set_28 rfl ?_
      refine o_sipush (pc := 29) (v := (-1000)) dX11_set_29 rfl ?_
      obtain ⟨q7, hk6, hf⟩ := bd_elim hf
      refine c_callV (pc := 32) 10 0 [.int (0 + p0), .int p1, .int (-1000)] (by decide) (lt48 (by decide)) rfl dX11_set_32 (kX11_act hk6) stX11_157 ⟨by decide, by decide, by decide, by decide⟩ ⟨rfl, rfl⟩ (Nat.le_of_ble_eq_true rfl) ?_
      show Rn g mdX11_set 35 [some (.ref 0), some (.int p0), some (.int p1)] [.int q7.1] (cW t q7.2) 0 0 (some (.int q.1)) (cW t q.2)
      obtain rfl := Option.some.inj hf
      exact o_ireturn (pc := 35) dX11_set_35 rfl (Nat.zero_le _) (Nat.zero_le _)
  clear hf
  refine o_if_eq (pc := 5) 20 dX11_set_5 rfl (fun hc => ?_) (fun hc => ?_)
  · have hr4 := it_t hr4 hc
    obtain rfl := Option.some.inj hr4
    exact KB5.1 rfl
  · have hr4 := it_f hr4 hc
    refine o_iload_n (pc := 8) dX11_set_8 rfl ?_
    refine o_bipush (pc := 9) (v := (-20)) dX11_set_9 rfl ?_
    refine o_icmp_lt (pc := 11) 20 dX11_set_11 rfl (fun hc => ?_) (fun hc => ?_)
    · have hr4 := it_t hr4 hc
      obtain rfl := Option.some.inj hr4
      exact KB5.1 rfl
    · have hr4 := it_f hr4 hc
      refine o_iload_n (pc := 14) dX11_set_14 rfl ?_
      refine o_bipush (pc := 15) (v := 20) dX11_set_15 rfl ?_
      refine o_icmp_le (pc := 17) 24 dX11_set_17 rfl (fun hc => ?_) (fun hc => ?_)
      · have hr4 := it_t hr4 hc
        obtain rfl := Option.some.inj hr4
        exact KB5.2 (by decide)
      · have hr4 := it_f hr4 hc
        obtain rfl := Option.some.inj hr4
        exact KB5.1 rfl
def fX11_let (p0 : Int32) (s : ST) : Option (Int32 × ST) :=
  (fX11_isPerson p0 s).bind (fun q2 => if q2 = 0 then some ((-1), s) else (fX10_rememberForUndo_17 s).bind (fun q4 => ck (inb 44 46) (ck (inb 44 46) (lt (si q4 26 (ix 44) ((gi q4 26 (ix 44)) ^^^ (1 <<< (p0 &&& 31)))) (fun s7 => (fX5_isExempt_25 p0 s7).bind (fun q9 => (if q9 = 0 then some 0 else some 1 : Option (Int32)).bind (fun w10 => some (w10, s7))))))))
set_option maxRecDepth 20000 in
theorem kX11_let {g : GX} {t : PH} {p0 : Int32} {s : ST} {q : Int32 × ST} (hf : fX11_let p0 s = some q) : Cn g mdX11_let [.ref 0, .int p0] (cW t s) (some (.int q.1)) (cW t q.2) := by
  refine Cn.of (by decide) (Nat.le_of_ble_eq_true rfl) ?_
  show Rn g mdX11_let 0 [some (.ref 0), some (.int p0)] [] (cW t s) 0 0 (some (.int q.1)) (cW t q.2)
  unfold fX11_let at hf
  refine o_aload_n (pc := 0) dX11_let_0 rfl ?_
  refine o_iload_n (pc := 1) dX11_let_1 rfl ?_
  obtain ⟨q2, hk1, hf⟩ := bd_elim hf
  refine c_callV (pc := 2) 10 0 [.int p0] (by decide) (lt48 (by decide)) rfl dX11_let_2 (kX11_isPerson hk1) stX11_100 ⟨by decide, by decide, by decide, by decide⟩ ⟨rfl, rfl⟩ (Nat.le_of_ble_eq_true rfl) ?_
  show Rn g mdX11_let 5 [some (.ref 0), some (.int p0)] [.int q2] (cW t s) 0 0 (some (.int q.1)) (cW t q.2)
  refine o_if_ne (pc := 5) 10 dX11_let_5 rfl (fun hc => ?_) (fun hc => ?_)
  · have hf := it_f hf hc
    refine o_aload_n (pc := 10) dX11_let_10 rfl ?_
    refine c_getR (pc := 11) 10 5 0 17 (by decide) (by decide) rfl (lt48 (by decide)) rfl rfl lkX11_45 dX11_let_11 ?_
    obtain ⟨q4, hk3, hf⟩ := bd_elim hf
    refine c_callV (pc := 14) 9 17 [] (by decide) (lt48 (by decide)) rfl dX11_let_14 (kX10_rememberForUndo_17 hk3) stX11_140 ⟨by decide, by decide, by decide, by decide⟩ ⟨rfl, rfl⟩ (Nat.le_of_ble_eq_true rfl) ?_
    show Rn g mdX11_let 17 [some (.ref 0), some (.int p0)] [] (cW t q4) 0 0 (some (.int q.1)) (cW t q.2)
    refine o_aload_n (pc := 17) dX11_let_17 rfl ?_
    refine c_getR (pc := 18) 10 5 0 17 (by decide) (by decide) rfl (lt48 (by decide)) rfl rfl lkX11_45 dX11_let_18 ?_
    refine c_getR (pc := 21) 9 1 17 25 (by decide) (by decide) rfl (lt48 (by decide)) rfl rfl lkX11_104 dX11_let_21 ?_
    refine c_getR (pc := 24) 4 0 25 26 (by decide) (by decide) rfl (lt48 (by decide)) rfl rfl lkX11_108 dX11_let_24 ?_
    refine o_bipush (pc := 27) (v := 44) dX11_let_27 rfl ?_
    refine o_dup2 (pc := 29) dX11_let_29 rfl rfl ?_
    obtain ⟨hk5, hf⟩ := ck_elim hf
    refine c_iald (pc := 30) (lt48 (by decide)) rfl hk5 dX11_let_30 ?_
    refine o_iconst (pc := 31) (v := 1) dX11_let_31 rfl ?_
    refine o_iload_n (pc := 32) dX11_let_32 rfl ?_
    refine o_ishl (pc := 33) dX11_let_33 ?_
    refine o_ixor (pc := 34) dX11_let_34 ?_
    obtain ⟨hk6, hf⟩ := ck_elim hf
    refine c_iast (pc := 35) (lt48 (by decide)) rfl hk6 dX11_let_35 ?_
    refine lz_s (cW t) hf (fun s7 hf => ?_)
    show Rn g mdX11_let 36 [some (.ref 0), some (.int p0)] [] (cW t s7) 0 0 (some (.int q.1)) (cW t q.2)
    refine o_aload_n (pc := 36) dX11_let_36 rfl ?_
    refine c_getR (pc := 37) 10 5 0 17 (by decide) (by decide) rfl (lt48 (by decide)) rfl rfl lkX11_45 dX11_let_37 ?_
    refine c_getR (pc := 40) 9 1 17 25 (by decide) (by decide) rfl (lt48 (by decide)) rfl rfl lkX11_104 dX11_let_40 ?_
    refine o_iload_n (pc := 43) dX11_let_43 rfl ?_
    obtain ⟨q9, hk8, hf⟩ := bd_elim hf
    refine c_callV (pc := 44) 4 25 [.int p0] (by decide) (lt48 (by decide)) rfl dX11_let_44 (kX5_isExempt_25 hk8) stX11_117 ⟨by decide, by decide, by decide, by decide⟩ ⟨rfl, rfl⟩ (Nat.le_of_ble_eq_true rfl) ?_
    show Rn g mdX11_let 47 [some (.ref 0), some (.int p0)] [.int q9] (cW t s7) 0 0 (some (.int q.1)) (cW t q.2)
    obtain ⟨w10, hr11, hf⟩ := bd_elim hf
    have K12 : Rn g mdX11_let 55 [none, none] [.int w10] (cW t s7) 0 0 (some (.int q.1)) (cW t q.2) := by
      obtain rfl := Option.some.inj hf
      exact o_ireturn (pc := 55) dX11_let_55 rfl (Nat.zero_le _) (Nat.zero_le _)
    clear hf
    refine o_if_eq (pc := 47) 54 dX11_let_47 rfl (fun hc => ?_) (fun hc => ?_)
    · have hr11 := it_t hr11 hc
      refine o_iconst (pc := 54) (v := 0) dX11_let_54 rfl ?_
      obtain rfl := Option.some.inj hr11
      refine o_keep [false, false] ?_
      exact K12
    · have hr11 := it_f hr11 hc
      refine o_iconst (pc := 50) (v := 1) dX11_let_50 rfl ?_
      refine o_goto (pc := 51) 55 dX11_let_51 rfl ?_
      obtain rfl := Option.some.inj hr11
      refine o_keep [false, false] ?_
      exact K12
  · have hf := it_t hf hc
    refine o_iconst (pc := 8) (v := (-1)) dX11_let_8 rfl ?_
    obtain rfl := Option.some.inj hf
    exact o_ireturn (pc := 9) dX11_let_9 rfl (Nat.zero_le _) (Nat.zero_le _)
def fX10_undoLast_17 (s : ST) : Option (ST) :=
  lt (si s 17 7 ((((gi s 17 7) + 20) - 1) - (((gi s 17 7) + 20) - 1) / 20 * 20)) (fun s1 => lt (si s1 17 8 ((gi s1 17 8) - 1)) (fun s2 => ck (cpB ((gi s2 17 7) * 46) 0 46 920 46) (lt (sAr s2 26 (va_cpy (s2.1 28) (s2.1 26) (ix ((gi s2 17 7) * 46)) (ix 0) (ix 46))) (fun s4 => some s4))))
set_option maxRecDepth 20000 in
theorem kX10_undoLast_17 {g : GX} {t : PH} {s : ST} {q : ST} (hf : fX10_undoLast_17 s = some q) : Cn g mdX10_undoLast [.ref 17] (cW t s) none (cW t q) := by
  refine Cn.of (by decide) (Nat.le_of_ble_eq_true rfl) ?_
  show Rn g mdX10_undoLast 0 [some (.ref 17)] [] (cW t s) 0 0 none (cW t q)
  unfold fX10_undoLast_17 at hf
  refine o_aload_n (pc := 0) dX10_undoLast_0 rfl ?_
  refine o_aload_n (pc := 1) dX10_undoLast_1 rfl ?_
  refine c_getI (pc := 2) 9 7 17 (by decide) (by decide) rfl (lt48 (by decide)) rfl lkX10_42 dX10_undoLast_2 ?_
  refine o_bipush (pc := 5) (v := 20) dX10_undoLast_5 rfl ?_
  refine o_iadd (pc := 7) dX10_undoLast_7 ?_
  refine o_iconst (pc := 8) (v := 1) dX10_undoLast_8 rfl ?_
  refine o_isub (pc := 9) dX10_undoLast_9 ?_
  refine o_bipush (pc := 10) (v := 20) dX10_undoLast_10 rfl ?_
  refine o_irem (pc := 12) dX10_undoLast_12 (by decide) ?_
  refine c_putI (pc := 13) 9 7 17 (by decide) (by decide) rfl rfl (lt48 (by decide)) rfl lkX10_42 ⟨rfl, rfl⟩ dX10_undoLast_13 ?_
  refine lz_s (cW t) hf (fun s1 hf => ?_)
  show Rn g mdX10_undoLast 16 [some (.ref 17)] [] (cW t s1) 0 0 none (cW t q)
  refine o_aload_n (pc := 16) dX10_undoLast_16 rfl ?_
  refine o_dup (pc := 17) dX10_undoLast_17 rfl ?_
  refine c_getI (pc := 18) 9 8 17 (by decide) (by decide) rfl (lt48 (by decide)) rfl lkX10_45 dX10_undoLast_18 ?_
  refine o_iconst (pc := 21) (v := 1) dX10_undoLast_21 rfl ?_
  refine o_isub (pc := 22) dX10_undoLast_22 ?_
  refine c_putI (pc := 23) 9 8 17 (by decide) (by decide) rfl rfl (lt48 (by decide)) rfl lkX10_45 ⟨rfl, rfl⟩ dX10_undoLast_23 ?_
  refine lz_s (cW t) hf (fun s2 hf => ?_)
  show Rn g mdX10_undoLast 26 [some (.ref 17)] [] (cW t s2) 0 0 none (cW t q)
  refine o_aload_n (pc := 26) dX10_undoLast_26 rfl ?_
  refine c_getR (pc := 27) 9 6 17 28 (by decide) (by decide) rfl (lt48 (by decide)) rfl rfl lkX10_39 dX10_undoLast_27 ?_
  refine o_aload_n (pc := 30) dX10_undoLast_30 rfl ?_
  refine c_getI (pc := 31) 9 7 17 (by decide) (by decide) rfl (lt48 (by decide)) rfl lkX10_42 dX10_undoLast_31 ?_
  refine o_bipush (pc := 34) (v := 46) dX10_undoLast_34 rfl ?_
  refine o_imul (pc := 36) dX10_undoLast_36 ?_
  refine o_aload_n (pc := 37) dX10_undoLast_37 rfl ?_
  refine c_getR (pc := 38) 9 1 17 25 (by decide) (by decide) rfl (lt48 (by decide)) rfl rfl lkX10_21 dX10_undoLast_38 ?_
  refine c_getR (pc := 41) 4 0 25 26 (by decide) (by decide) rfl (lt48 (by decide)) rfl rfl lkX10_68 dX10_undoLast_41 ?_
  refine o_iconst (pc := 44) (v := 0) dX10_undoLast_44 rfl ?_
  refine o_bipush (pc := 45) (v := 46) dX10_undoLast_45 rfl ?_
  obtain ⟨hk3, hf⟩ := ck_elim hf
  refine c_copy (pc := 47) 28 26 920 46 lmX10_55 dX10_undoLast_47 (by decide) (Nat.le_of_ble_eq_true rfl) (lt48 (by decide)) rfl (lt48 (by decide)) rfl hk3 ?_
  refine lz_s (cW t) hf (fun s4 hf => ?_)
  show Rn g mdX10_undoLast 50 [some (.ref 17)] [] (cW t s4) 0 0 none (cW t q)
  obtain rfl := Option.some.inj hf
  exact o_return (pc := 50) dX10_undoLast_50 rfl (Nat.zero_le _) (Nat.zero_le _)
def fX11_undo (s : ST) : Option (Int32 × ST) :=
  if 0 < (gi s 17 8) then (fX10_undoLast_17 s).bind (fun q2 => some (gi q2 17 8, q2)) else some ((-2), s)
set_option maxRecDepth 20000 in
theorem kX11_undo {g : GX} {t : PH} {s : ST} {q : Int32 × ST} (hf : fX11_undo s = some q) : Cn g mdX11_undo [.ref 0] (cW t s) (some (.int q.1)) (cW t q.2) := by
  refine Cn.of (by decide) (Nat.le_of_ble_eq_true rfl) ?_
  show Rn g mdX11_undo 0 [some (.ref 0)] [] (cW t s) 0 0 (some (.int q.1)) (cW t q.2)
  unfold fX11_undo at hf
  refine o_aload_n (pc := 0) dX11_undo_0 rfl ?_
  refine c_getR (pc := 1) 10 5 0 17 (by decide) (by decide) rfl (lt48 (by decide)) rfl rfl lkX11_45 dX11_undo_1 ?_
  refine c_getI (pc := 4) 9 8 17 (by decide) (by decide) rfl (lt48 (by decide)) rfl lkX11_161 dX11_undo_4 ?_
  refine o_if_gt (pc := 7) 13 dX11_undo_7 rfl (fun hc => ?_) (fun hc => ?_)
  · have hf := it_t hf hc
    refine o_aload_n (pc := 13) dX11_undo_13 rfl ?_
    refine c_getR (pc := 14) 10 5 0 17 (by decide) (by decide) rfl (lt48 (by decide)) rfl rfl lkX11_45 dX11_undo_14 ?_
    obtain ⟨q2, hk1, hf⟩ := bd_elim hf
    refine c_callV (pc := 17) 9 17 [] (by decide) (lt48 (by decide)) rfl dX11_undo_17 (kX10_undoLast_17 hk1) stX11_164 ⟨by decide, by decide, by decide, by decide⟩ ⟨rfl, rfl⟩ (Nat.le_of_ble_eq_true rfl) ?_
    show Rn g mdX11_undo 20 [some (.ref 0)] [] (cW t q2) 0 0 (some (.int q.1)) (cW t q.2)
    refine o_aload_n (pc := 20) dX11_undo_20 rfl ?_
    refine c_getR (pc := 21) 10 5 0 17 (by decide) (by decide) rfl (lt48 (by decide)) rfl rfl lkX11_45 dX11_undo_21 ?_
    refine c_getI (pc := 24) 9 8 17 (by decide) (by decide) rfl (lt48 (by decide)) rfl lkX11_161 dX11_undo_24 ?_
    obtain rfl := Option.some.inj hf
    exact o_ireturn (pc := 27) dX11_undo_27 rfl (Nat.zero_le _) (Nat.zero_le _)
  · have hf := it_f hf hc
    refine o_bipush (pc := 10) (v := (-2)) dX11_undo_10 rfl ?_
    obtain rfl := Option.some.inj hf
    exact o_ireturn (pc := 12) dX11_undo_12 rfl (Nat.zero_le _) (Nat.zero_le _)
def fX0_goDays_L2 (a1 : Int32) (t : PH) : Nat → Int32 → ST → Option (Int32 × ST)
  | 0, _, _ => none
  | n + 1, x2, s => if a1 ≤ x2 then some (x2, s) else (fX0_goDay t s).bind (fun q2 => lt (x2 + 1) (fun v3 => fX0_goDays_L2 a1 t n v3 q2))
def fX0_goDays (p0 : Int32) (t : PH) (s : ST) : Option (ST) :=
  (fX0_goDays_L2 p0 t FUEL 0 s).bind (fun w4 => some w4.2)
set_option maxRecDepth 20000 in
theorem kX0_goDays_L2 {g : GX} {t : PH} (a1 : Int32) {r : Option Value} {h2 : PH} : ∀ (n : Nat) (x2 : Int32) (s : ST) {w : Int32 × ST}, fX0_goDays_L2 a1 t n x2 s = some w → Rn g mdX0_goDays 17 [none, none, none] [] (cW t w.2) 0 0 r h2 → Rn g mdX0_goDays 2 [some (.ref 30), some (.int a1), some (.int x2)] [] (cW t s) 0 0 r h2 := by
  intro n
  induction n with
  | zero => intro x2 s w hf K; cases hf
  | succ n ih =>
    intro x2 s w hf K
    rw [fX0_goDays_L2] at hf
    refine o_iload_n (pc := 2) dX0_goDays_2 rfl ?_
    refine o_iload_n (pc := 3) dX0_goDays_3 rfl ?_
    refine o_icmp_ge (pc := 4) 17 dX0_goDays_4 rfl (fun hc => ?_) (fun hc => ?_)
    · have hf := it_t hf hc
      obtain rfl := Option.some.inj hf
      refine o_keep [false, false, false] ?_
      exact K
    · have hf := it_f hf hc
      refine o_aload_n (pc := 7) dX0_goDays_7 rfl ?_
      obtain ⟨q2, hk1, hf⟩ := bd_elim hf
      refine c_callV (pc := 8) 0 30 [] (by decide) (lt48 (by decide)) rfl dX0_goDays_8 (kX0_goDay hk1) stX0_92 ⟨by decide, by decide, by decide, by decide⟩ ⟨rfl, rfl⟩ (Nat.le_of_ble_eq_true rfl) ?_
      show Rn g mdX0_goDays 11 [some (.ref 30), some (.int a1), some (.int x2)] [] (cW t q2) 0 0 r h2
      refine o_iinc (pc := 11) dX0_goDays_11 rfl (by decide) rfl ?_
      show Rn g mdX0_goDays 14 [some (.ref 30), some (.int a1), some (.int (x2 + 1))] [] (cW t q2) 0 0 r h2
      obtain ⟨v3, ev3, hf⟩ := lt_elim hf
      rw [ev3]
      show Rn g mdX0_goDays 14 [some (.ref 30), some (.int a1), some (.int v3)] [] (cW t q2) 0 0 r h2
      refine o_goto (pc := 14) 2 dX0_goDays_14 rfl ?_
      exact ih _ _ hf K
set_option maxRecDepth 20000 in
theorem kX0_goDays {g : GX} {t : PH} {p0 : Int32} {s : ST} {q : ST} (hf : fX0_goDays p0 t s = some q) : Cn g mdX0_goDays [.ref 30, .int p0] (cW t s) none (cW t q) := by
  refine Cn.of (by decide) (Nat.le_of_ble_eq_true rfl) ?_
  show Rn g mdX0_goDays 0 [some (.ref 30), some (.int p0), none] [] (cW t s) 0 0 none (cW t q)
  unfold fX0_goDays at hf
  refine o_iconst (pc := 0) (v := 0) dX0_goDays_0 rfl ?_
  refine o_istore_n (pc := 1) dX0_goDays_1 (by decide) rfl ?_
  show Rn g mdX0_goDays 2 [some (.ref 30), some (.int p0), some (.int 0)] [] (cW t s) 0 0 none (cW t q)
  obtain ⟨w4, hl5, hf⟩ := bd_elim hf
  have K6 : Rn g mdX0_goDays 17 [none, none, none] [] (cW t w4.2) 0 0 none (cW t q) := by
    obtain rfl := Option.some.inj hf
    exact o_return (pc := 17) dX0_goDays_17 rfl (Nat.zero_le _) (Nat.zero_le _)
  exact kX0_goDays_L2 _ _ _ _ hl5 K6
def fX11_ahead (p0 : Int32) (p1 : Int32) (p2 : Int32) (t : PH) (s : ST) : Option (Int32 × ST) :=
  (fX11_isPerson p0 s).bind (fun q2 => (if q2 = 0 then some true else if p1 < 0 then some true else if 100 < p1 then some true else if p2 < 0 then some true else if p2 ≤ 2 then some false else some true : Option Bool).bind (fun b3 => if b3 = true then some ((-1000), s) else (fX11_startFromNow t s).bind (fun q7 => (fX0_goDays p1 t q7).bind (fun q9 => if p2 = 0 then ck (inb (0 + p0) 46) (some (gi q9 32 (ix (0 + p0)), q9)) else if p2 = 1 then ck (inb (10 + p0) 46) (some (gi q9 32 (ix (10 + p0)), q9)) else ck (inb (15 + p0) 46) (some (gi q9 32 (ix (15 + p0)), q9))))))
set_option maxRecDepth 20000 in
theorem kX11_ahead {g : GX} {t : PH} {p0 : Int32} {p1 : Int32} {p2 : Int32} {s : ST} {q : Int32 × ST} (hf : fX11_ahead p0 p1 p2 t s = some q) : Cn g mdX11_ahead [.ref 0, .int p0, .int p1, .int p2] (cW t s) (some (.int q.1)) (cW t q.2) := by
  refine Cn.of (by decide) (Nat.le_of_ble_eq_true rfl) ?_
  show Rn g mdX11_ahead 0 [some (.ref 0), some (.int p0), some (.int p1), some (.int p2), none] [] (cW t s) 0 0 (some (.int q.1)) (cW t q.2)
  unfold fX11_ahead at hf
  refine o_aload_n (pc := 0) dX11_ahead_0 rfl ?_
  refine o_iload_n (pc := 1) dX11_ahead_1 rfl ?_
  obtain ⟨q2, hk1, hf⟩ := bd_elim hf
  refine c_callV (pc := 2) 10 0 [.int p0] (by decide) (lt48 (by decide)) rfl dX11_ahead_2 (kX11_isPerson hk1) stX11_100 ⟨by decide, by decide, by decide, by decide⟩ ⟨rfl, rfl⟩ (Nat.le_of_ble_eq_true rfl) ?_
  show Rn g mdX11_ahead 5 [some (.ref 0), some (.int p0), some (.int p1), some (.int p2), none] [.int q2] (cW t s) 0 0 (some (.int q.1)) (cW t q.2)
  obtain ⟨b3, hr4, hf⟩ := bd_elim hf
  have KB5 : (b3 = true → Rn g mdX11_ahead 27 [some (.ref 0), some (.int p0), some (.int p1), some (.int p2), none] [] (cW t s) 0 0 (some (.int q.1)) (cW t q.2)) ∧ (¬ b3 = true → Rn g mdX11_ahead 31 [some (.ref 0), some (.int p0), some (.int p1), some (.int p2), none] [] (cW t s) 0 0 (some (.int q.1)) (cW t q.2)) := by
    refine ⟨fun hc => ?_, fun hc => ?_⟩
    · have hf := it_t hf hc
      refine o_sipush (pc := 27) (v := (-1000)) dX11_ahead_27 rfl ?_
      obtain rfl := Option.some.inj hf
      exact o_ireturn (pc := 30) dX11_ahead_30 rfl (Nat.zero_le _) (Nat.zero_le _)
    · have hf := it_f hf hc
      refine o_aload_n (pc := 31) dX11_ahead_31 rfl ?_
      obtain ⟨q7, hk6, hf⟩ := bd_elim hf
      refine c_callV (pc := 32) 10 0 [] (by decide) (lt48 (by decide)) rfl dX11_ahead_32 (kX11_startFromNow hk6) stX11_143 ⟨by decide, by decide, by decide, by decide⟩ ⟨rfl, rfl⟩ (Nat.le_of_ble_eq_true rfl) ?_
      show Rn g mdX11_ahead 35 [some (.ref 0), some (.int p0), some (.int p1), some (.int p2), none] [] (cW t q7) 0 0 (some (.int q.1)) (cW t q.2)
      refine o_aload_n (pc := 35) dX11_ahead_35 rfl ?_
      refine c_getR (pc := 36) 10 7 0 30 (by decide) (by decide) rfl (lt48 (by decide)) rfl rfl lkX11_56 dX11_ahead_36 ?_
      refine o_iload_n (pc := 39) dX11_ahead_39 rfl ?_
      obtain ⟨q9, hk8, hf⟩ := bd_elim hf
      refine c_callV (pc := 40) 0 30 [.int p1] (by decide) (lt48 (by decide)) rfl dX11_ahead_40 (kX0_goDays hk8) stX11_167 ⟨by decide, by decide, by decide, by decide⟩ ⟨rfl, rfl⟩ (Nat.le_of_ble_eq_true rfl) ?_
      show Rn g mdX11_ahead 43 [some (.ref 0), some (.int p0), some (.int p1), some (.int p2), none] [] (cW t q9) 0 0 (some (.int q.1)) (cW t q.2)
      refine o_aload_n (pc := 43) dX11_ahead_43 rfl ?_
      refine c_getR (pc := 44) 10 7 0 30 (by decide) (by decide) rfl (lt48 (by decide)) rfl rfl lkX11_56 dX11_ahead_44 ?_
      refine c_getR (pc := 47) 0 0 30 31 (by decide) (by decide) rfl (lt48 (by decide)) rfl rfl lkX11_149 dX11_ahead_47 ?_
      refine c_getR (pc := 50) 4 0 31 32 (by decide) (by decide) rfl (lt48 (by decide)) rfl rfl lkX11_108 dX11_ahead_50 ?_
      refine o_astore (pc := 53) dX11_ahead_53 (by decide) rfl ?_
      show Rn g mdX11_ahead 55 [some (.ref 0), some (.int p0), some (.int p1), some (.int p2), some (.ref 32)] [] (cW t q9) 0 0 (some (.int q.1)) (cW t q.2)
      refine o_iload_n (pc := 55) dX11_ahead_55 rfl ?_
      by_cases hx10 : p2 = 0
      · have hf := it_t hf hx10
        refine o_lookup (pc := 56) 84 dX11_ahead_56 rfl (by rw [hx10] <;> rfl) rfl ?_
        refine o_aload (pc := 84) dX11_ahead_84 rfl ?_
        refine o_iconst (pc := 86) (v := 0) dX11_ahead_86 rfl ?_
        refine o_iload_n (pc := 87) dX11_ahead_87 rfl ?_
        refine o_iadd (pc := 88) dX11_ahead_88 ?_
        obtain ⟨hk11, hf⟩ := ck_elim hf
        refine c_iald (pc := 89) (lt48 (by decide)) rfl hk11 dX11_ahead_89 ?_
        obtain rfl := Option.some.inj hf
        exact o_ireturn (pc := 90) dX11_ahead_90 rfl (Nat.zero_le _) (Nat.zero_le _)
      have hf := it_f hf hx10
      by_cases hx12 : p2 = 1
      · have hf := it_t hf hx12
        refine o_lookup (pc := 56) 91 dX11_ahead_56 rfl (by rw [hx12] <;> rfl) rfl ?_
        refine o_aload (pc := 91) dX11_ahead_91 rfl ?_
        refine o_bipush (pc := 93) (v := 10) dX11_ahead_93 rfl ?_
        refine o_iload_n (pc := 95) dX11_ahead_95 rfl ?_
        refine o_iadd (pc := 96) dX11_ahead_96 ?_
        obtain ⟨hk13, hf⟩ := ck_elim hf
        refine c_iald (pc := 97) (lt48 (by decide)) rfl hk13 dX11_ahead_97 ?_
        obtain rfl := Option.some.inj hf
        exact o_ireturn (pc := 98) dX11_ahead_98 rfl (Nat.zero_le _) (Nat.zero_le _)
      have hf := it_f hf hx12
      refine o_lookup (pc := 56) 99 dX11_ahead_56 rfl ((lv_osw (k := 0) hx10 rfl).trans ((lv_osw (k := 1) hx12 rfl).trans (rfl))) rfl ?_
      refine o_aload (pc := 99) dX11_ahead_99 rfl ?_
      refine o_bipush (pc := 101) (v := 15) dX11_ahead_101 rfl ?_
      refine o_iload_n (pc := 103) dX11_ahead_103 rfl ?_
      refine o_iadd (pc := 104) dX11_ahead_104 ?_
      obtain ⟨hk14, hf⟩ := ck_elim hf
      refine c_iald (pc := 105) (lt48 (by decide)) rfl hk14 dX11_ahead_105 ?_
      obtain rfl := Option.some.inj hf
      exact o_ireturn (pc := 106) dX11_ahead_106 rfl (Nat.zero_le _) (Nat.zero_le _)
  clear hf
  refine o_if_eq (pc := 5) 27 dX11_ahead_5 rfl (fun hc => ?_) (fun hc => ?_)
  · have hr4 := it_t hr4 hc
    obtain rfl := Option.some.inj hr4
    exact KB5.1 rfl
  · have hr4 := it_f hr4 hc
    refine o_iload_n (pc := 8) dX11_ahead_8 rfl ?_
    refine o_if_lt (pc := 9) 27 dX11_ahead_9 rfl (fun hc => ?_) (fun hc => ?_)
    · have hr4 := it_t hr4 hc
      obtain rfl := Option.some.inj hr4
      exact KB5.1 rfl
    · have hr4 := it_f hr4 hc
      refine o_iload_n (pc := 12) dX11_ahead_12 rfl ?_
      refine o_bipush (pc := 13) (v := 100) dX11_ahead_13 rfl ?_
      refine o_icmp_gt (pc := 15) 27 dX11_ahead_15 rfl (fun hc => ?_) (fun hc => ?_)
      · have hr4 := it_t hr4 hc
        obtain rfl := Option.some.inj hr4
        exact KB5.1 rfl
      · have hr4 := it_f hr4 hc
        refine o_iload_n (pc := 18) dX11_ahead_18 rfl ?_
        refine o_if_lt (pc := 19) 27 dX11_ahead_19 rfl (fun hc => ?_) (fun hc => ?_)
        · have hr4 := it_t hr4 hc
          obtain rfl := Option.some.inj hr4
          exact KB5.1 rfl
        · have hr4 := it_f hr4 hc
          refine o_iload_n (pc := 22) dX11_ahead_22 rfl ?_
          refine o_iconst (pc := 23) (v := 2) dX11_ahead_23 rfl ?_
          refine o_icmp_le (pc := 24) 31 dX11_ahead_24 rfl (fun hc => ?_) (fun hc => ?_)
          · have hr4 := it_t hr4 hc
            obtain rfl := Option.some.inj hr4
            exact KB5.2 (by decide)
          · have hr4 := it_f hr4 hc
            obtain rfl := Option.some.inj hr4
            exact KB5.1 rfl
def fX11_today (p0 : Int32) (p1 : Int32) (t : PH) (s : ST) : Option (Int32 × ST) :=
  (fX11_isMeeting p0 s).bind (fun q2 => (if q2 = 0 then some true else if p1 < 0 then some true else if p1 ≤ 3 then some false else some true : Option Bool).bind (fun b3 => if b3 = true then some ((-1000), s) else (fX11_startFromNow t s).bind (fun q7 => (fX0_goDay t q7).bind (fun q9 => if p1 = 0 then ck (inb p0 8) (some (gi q9 35 (ix p0), q9)) else if p1 = 1 then ck (inb (2 * p0) 16) (some (gi q9 37 (ix (2 * p0)), q9)) else if p1 = 2 then ck (inb ((2 * p0) + 1) 16) (some (gi q9 37 (ix ((2 * p0) + 1)), q9)) else ck (inb p0 8) (some (gi q9 36 (ix p0), q9))))))
set_option maxRecDepth 20000 in
theorem kX11_today {g : GX} {t : PH} {p0 : Int32} {p1 : Int32} {s : ST} {q : Int32 × ST} (hf : fX11_today p0 p1 t s = some q) : Cn g mdX11_today [.ref 0, .int p0, .int p1] (cW t s) (some (.int q.1)) (cW t q.2) := by
  refine Cn.of (by decide) (Nat.le_of_ble_eq_true rfl) ?_
  show Rn g mdX11_today 0 [some (.ref 0), some (.int p0), some (.int p1)] [] (cW t s) 0 0 (some (.int q.1)) (cW t q.2)
  unfold fX11_today at hf
  refine o_aload_n (pc := 0) dX11_today_0 rfl ?_
  refine o_iload_n (pc := 1) dX11_today_1 rfl ?_
  obtain ⟨q2, hk1, hf⟩ := bd_elim hf
  refine c_callV (pc := 2) 10 0 [.int p0] (by decide) (lt48 (by decide)) rfl dX11_today_2 (kX11_isMeeting hk1) stX11_124 ⟨by decide, by decide, by decide, by decide⟩ ⟨rfl, rfl⟩ (Nat.le_of_ble_eq_true rfl) ?_
  show Rn g mdX11_today 5 [some (.ref 0), some (.int p0), some (.int p1)] [.int q2] (cW t s) 0 0 (some (.int q.1)) (cW t q.2)
  obtain ⟨b3, hr4, hf⟩ := bd_elim hf
  have KB5 : (b3 = true → Rn g mdX11_today 17 [some (.ref 0), some (.int p0), some (.int p1)] [] (cW t s) 0 0 (some (.int q.1)) (cW t q.2)) ∧ (¬ b3 = true → Rn g mdX11_today 21 [some (.ref 0), some (.int p0), some (.int p1)] [] (cW t s) 0 0 (some (.int q.1)) (cW t q.2)) := by
    refine ⟨fun hc => ?_, fun hc => ?_⟩
    · have hf := it_t hf hc
      refine o_sipush (pc := 17) (v := (-1000)) dX11_today_17 rfl ?_
      obtain rfl := Option.some.inj hf
      exact o_ireturn (pc := 20) dX11_today_20 rfl (Nat.zero_le _) (Nat.zero_le _)
    · have hf := it_f hf hc
      refine o_aload_n (pc := 21) dX11_today_21 rfl ?_
      obtain ⟨q7, hk6, hf⟩ := bd_elim hf
      refine c_callV (pc := 22) 10 0 [] (by decide) (lt48 (by decide)) rfl dX11_today_22 (kX11_startFromNow hk6) stX11_143 ⟨by decide, by decide, by decide, by decide⟩ ⟨rfl, rfl⟩ (Nat.le_of_ble_eq_true rfl) ?_
      show Rn g mdX11_today 25 [some (.ref 0), some (.int p0), some (.int p1)] [] (cW t q7) 0 0 (some (.int q.1)) (cW t q.2)
      refine o_aload_n (pc := 25) dX11_today_25 rfl ?_
      refine c_getR (pc := 26) 10 7 0 30 (by decide) (by decide) rfl (lt48 (by decide)) rfl rfl lkX11_56 dX11_today_26 ?_
      obtain ⟨q9, hk8, hf⟩ := bd_elim hf
      refine c_callV (pc := 29) 0 30 [] (by decide) (lt48 (by decide)) rfl dX11_today_29 (kX0_goDay hk8) stX11_146 ⟨by decide, by decide, by decide, by decide⟩ ⟨rfl, rfl⟩ (Nat.le_of_ble_eq_true rfl) ?_
      show Rn g mdX11_today 32 [some (.ref 0), some (.int p0), some (.int p1)] [] (cW t q9) 0 0 (some (.int q.1)) (cW t q.2)
      refine o_iload_n (pc := 32) dX11_today_32 rfl ?_
      by_cases hx10 : p1 = 0
      · have hf := it_t hf hx10
        refine o_tableIn (pc := 33) 60 dX11_today_33 (by rw [hx10] <;> decide) (by rw [hx10] <;> decide) (by rw [hx10] <;> rfl) rfl ?_
        refine o_aload_n (pc := 60) dX11_today_60 rfl ?_
        refine c_getR (pc := 61) 10 7 0 30 (by decide) (by decide) rfl (lt48 (by decide)) rfl rfl lkX11_56 dX11_today_61 ?_
        refine c_getR (pc := 64) 0 1 30 33 (by decide) (by decide) rfl (lt48 (by decide)) rfl rfl lkX11_170 dX11_today_64 ?_
        refine c_getR (pc := 67) 1 1 33 35 (by decide) (by decide) rfl (lt48 (by decide)) rfl rfl lkX11_174 dX11_today_67 ?_
        refine o_iload_n (pc := 70) dX11_today_70 rfl ?_
        obtain ⟨hk11, hf⟩ := ck_elim hf
        refine c_iald (pc := 71) (lt48 (by decide)) rfl hk11 dX11_today_71 ?_
        obtain rfl := Option.some.inj hf
        exact o_ireturn (pc := 72) dX11_today_72 rfl (Nat.zero_le _) (Nat.zero_le _)
      have hf := it_f hf hx10
      by_cases hx12 : p1 = 1
      · have hf := it_t hf hx12
        refine o_tableIn (pc := 33) 73 dX11_today_33 (by rw [hx12] <;> decide) (by rw [hx12] <;> decide) (by rw [hx12] <;> rfl) rfl ?_
        refine o_aload_n (pc := 73) dX11_today_73 rfl ?_
        refine c_getR (pc := 74) 10 7 0 30 (by decide) (by decide) rfl (lt48 (by decide)) rfl rfl lkX11_56 dX11_today_74 ?_
        refine c_getR (pc := 77) 0 1 30 33 (by decide) (by decide) rfl (lt48 (by decide)) rfl rfl lkX11_170 dX11_today_77 ?_
        refine c_getR (pc := 80) 1 3 33 37 (by decide) (by decide) rfl (lt48 (by decide)) rfl rfl lkX11_179 dX11_today_80 ?_
        refine o_iconst (pc := 83) (v := 2) dX11_today_83 rfl ?_
        refine o_iload_n (pc := 84) dX11_today_84 rfl ?_
        refine o_imul (pc := 85) dX11_today_85 ?_
        obtain ⟨hk13, hf⟩ := ck_elim hf
        refine c_iald (pc := 86) (lt48 (by decide)) rfl hk13 dX11_today_86 ?_
        obtain rfl := Option.some.inj hf
        exact o_ireturn (pc := 87) dX11_today_87 rfl (Nat.zero_le _) (Nat.zero_le _)
      have hf := it_f hf hx12
      by_cases hx14 : p1 = 2
      · have hf := it_t hf hx14
        refine o_tableIn (pc := 33) 88 dX11_today_33 (by rw [hx14] <;> decide) (by rw [hx14] <;> decide) (by rw [hx14] <;> rfl) rfl ?_
        refine o_aload_n (pc := 88) dX11_today_88 rfl ?_
        refine c_getR (pc := 89) 10 7 0 30 (by decide) (by decide) rfl (lt48 (by decide)) rfl rfl lkX11_56 dX11_today_89 ?_
        refine c_getR (pc := 92) 0 1 30 33 (by decide) (by decide) rfl (lt48 (by decide)) rfl rfl lkX11_170 dX11_today_92 ?_
        refine c_getR (pc := 95) 1 3 33 37 (by decide) (by decide) rfl (lt48 (by decide)) rfl rfl lkX11_179 dX11_today_95 ?_
        refine o_iconst (pc := 98) (v := 2) dX11_today_98 rfl ?_
        refine o_iload_n (pc := 99) dX11_today_99 rfl ?_
        refine o_imul (pc := 100) dX11_today_100 ?_
        refine o_iconst (pc := 101) (v := 1) dX11_today_101 rfl ?_
        refine o_iadd (pc := 102) dX11_today_102 ?_
        obtain ⟨hk15, hf⟩ := ck_elim hf
        refine c_iald (pc := 103) (lt48 (by decide)) rfl hk15 dX11_today_103 ?_
        obtain rfl := Option.some.inj hf
        exact o_ireturn (pc := 104) dX11_today_104 rfl (Nat.zero_le _) (Nat.zero_le _)
      have hf := it_f hf hx14
      refine o_tableOut (pc := 33) 105 dX11_today_33 (sw_out 0 2 (fun n hn => ?_)) rfl ?_
      · match n, hn with
        | 0, _ => exact sw_ne hx10 rfl
        | 1, _ => exact sw_ne hx12 rfl
        | 2, _ => exact sw_ne hx14 rfl
        | n + 3, h => exact absurd h (by omega)
      · refine o_aload_n (pc := 105) dX11_today_105 rfl ?_
        refine c_getR (pc := 106) 10 7 0 30 (by decide) (by decide) rfl (lt48 (by decide)) rfl rfl lkX11_56 dX11_today_106 ?_
        refine c_getR (pc := 109) 0 1 30 33 (by decide) (by decide) rfl (lt48 (by decide)) rfl rfl lkX11_170 dX11_today_109 ?_
        refine c_getR (pc := 112) 1 2 33 36 (by decide) (by decide) rfl (lt48 (by decide)) rfl rfl lkX11_182 dX11_today_112 ?_
        refine o_iload_n (pc := 115) dX11_today_115 rfl ?_
        obtain ⟨hk16, hf⟩ := ck_elim hf
        refine c_iald (pc := 116) (lt48 (by decide)) rfl hk16 dX11_today_116 ?_
        obtain rfl := Option.some.inj hf
        exact o_ireturn (pc := 117) dX11_today_117 rfl (Nat.zero_le _) (Nat.zero_le _)
  clear hf
  refine o_if_eq (pc := 5) 17 dX11_today_5 rfl (fun hc => ?_) (fun hc => ?_)
  · have hr4 := it_t hr4 hc
    obtain rfl := Option.some.inj hr4
    exact KB5.1 rfl
  · have hr4 := it_f hr4 hc
    refine o_iload_n (pc := 8) dX11_today_8 rfl ?_
    refine o_if_lt (pc := 9) 17 dX11_today_9 rfl (fun hc => ?_) (fun hc => ?_)
    · have hr4 := it_t hr4 hc
      obtain rfl := Option.some.inj hr4
      exact KB5.1 rfl
    · have hr4 := it_f hr4 hc
      refine o_iload_n (pc := 12) dX11_today_12 rfl ?_
      refine o_iconst (pc := 13) (v := 3) dX11_today_13 rfl ?_
      refine o_icmp_le (pc := 14) 21 dX11_today_14 rfl (fun hc => ?_) (fun hc => ?_)
      · have hr4 := it_t hr4 hc
        obtain rfl := Option.some.inj hr4
        exact KB5.2 (by decide)
      · have hr4 := it_f hr4 hc
        obtain rfl := Option.some.inj hr4
        exact KB5.1 rfl
def fX11_ends (p0 : Int32) (t : PH) (s : ST) : Option (Int32 × ST) :=
  (fX11_isPerson p0 s).bind (fun q2 => if q2 = 0 then some ((-1000), s) else (fX7_meetingsOf_18 p0 s).bind (fun q4 => if q4 = 0 then some ((-1), s) else (fX11_startFromNow t s).bind (fun q6 => (fX0_goDay t q6).bind (fun q8 => ck (inb p0 5) (some (gi q8 39 (ix p0), q8))))))
set_option maxRecDepth 20000 in
theorem kX11_ends {g : GX} {t : PH} {p0 : Int32} {s : ST} {q : Int32 × ST} (hf : fX11_ends p0 t s = some q) : Cn g mdX11_ends [.ref 0, .int p0] (cW t s) (some (.int q.1)) (cW t q.2) := by
  refine Cn.of (by decide) (Nat.le_of_ble_eq_true rfl) ?_
  show Rn g mdX11_ends 0 [some (.ref 0), some (.int p0)] [] (cW t s) 0 0 (some (.int q.1)) (cW t q.2)
  unfold fX11_ends at hf
  refine o_aload_n (pc := 0) dX11_ends_0 rfl ?_
  refine o_iload_n (pc := 1) dX11_ends_1 rfl ?_
  obtain ⟨q2, hk1, hf⟩ := bd_elim hf
  refine c_callV (pc := 2) 10 0 [.int p0] (by decide) (lt48 (by decide)) rfl dX11_ends_2 (kX11_isPerson hk1) stX11_100 ⟨by decide, by decide, by decide, by decide⟩ ⟨rfl, rfl⟩ (Nat.le_of_ble_eq_true rfl) ?_
  show Rn g mdX11_ends 5 [some (.ref 0), some (.int p0)] [.int q2] (cW t s) 0 0 (some (.int q.1)) (cW t q.2)
  refine o_if_ne (pc := 5) 12 dX11_ends_5 rfl (fun hc => ?_) (fun hc => ?_)
  · have hf := it_f hf hc
    refine o_aload_n (pc := 12) dX11_ends_12 rfl ?_
    refine c_getR (pc := 13) 10 5 0 17 (by decide) (by decide) rfl (lt48 (by decide)) rfl rfl lkX11_45 dX11_ends_13 ?_
    refine c_getR (pc := 16) 9 0 17 18 (by decide) (by decide) rfl (lt48 (by decide)) rfl rfl lkX11_86 dX11_ends_16 ?_
    refine o_iload_n (pc := 19) dX11_ends_19 rfl ?_
    obtain ⟨q4, hk3, hf⟩ := bd_elim hf
    refine c_callV (pc := 20) 6 18 [.int p0] (by decide) (lt48 (by decide)) rfl dX11_ends_20 (kX7_meetingsOf_18 hk3) stX11_120 ⟨by decide, by decide, by decide, by decide⟩ ⟨rfl, rfl⟩ (Nat.le_of_ble_eq_true rfl) ?_
    show Rn g mdX11_ends 23 [some (.ref 0), some (.int p0)] [.int q4] (cW t s) 0 0 (some (.int q.1)) (cW t q.2)
    refine o_if_ne (pc := 23) 28 dX11_ends_23 rfl (fun hc => ?_) (fun hc => ?_)
    · have hf := it_f hf hc
      refine o_aload_n (pc := 28) dX11_ends_28 rfl ?_
      obtain ⟨q6, hk5, hf⟩ := bd_elim hf
      refine c_callV (pc := 29) 10 0 [] (by decide) (lt48 (by decide)) rfl dX11_ends_29 (kX11_startFromNow hk5) stX11_143 ⟨by decide, by decide, by decide, by decide⟩ ⟨rfl, rfl⟩ (Nat.le_of_ble_eq_true rfl) ?_
      show Rn g mdX11_ends 32 [some (.ref 0), some (.int p0)] [] (cW t q6) 0 0 (some (.int q.1)) (cW t q.2)
      refine o_aload_n (pc := 32) dX11_ends_32 rfl ?_
      refine c_getR (pc := 33) 10 7 0 30 (by decide) (by decide) rfl (lt48 (by decide)) rfl rfl lkX11_56 dX11_ends_33 ?_
      obtain ⟨q8, hk7, hf⟩ := bd_elim hf
      refine c_callV (pc := 36) 0 30 [] (by decide) (lt48 (by decide)) rfl dX11_ends_36 (kX0_goDay hk7) stX11_146 ⟨by decide, by decide, by decide, by decide⟩ ⟨rfl, rfl⟩ (Nat.le_of_ble_eq_true rfl) ?_
      show Rn g mdX11_ends 39 [some (.ref 0), some (.int p0)] [] (cW t q8) 0 0 (some (.int q.1)) (cW t q.2)
      refine o_aload_n (pc := 39) dX11_ends_39 rfl ?_
      refine c_getR (pc := 40) 10 7 0 30 (by decide) (by decide) rfl (lt48 (by decide)) rfl rfl lkX11_56 dX11_ends_40 ?_
      refine c_getR (pc := 43) 0 1 30 33 (by decide) (by decide) rfl (lt48 (by decide)) rfl rfl lkX11_170 dX11_ends_43 ?_
      refine c_getR (pc := 46) 1 5 33 39 (by decide) (by decide) rfl (lt48 (by decide)) rfl rfl lkX11_185 dX11_ends_46 ?_
      refine o_iload_n (pc := 49) dX11_ends_49 rfl ?_
      obtain ⟨hk9, hf⟩ := ck_elim hf
      refine c_iald (pc := 50) (lt48 (by decide)) rfl hk9 dX11_ends_50 ?_
      obtain rfl := Option.some.inj hf
      exact o_ireturn (pc := 51) dX11_ends_51 rfl (Nat.zero_le _) (Nat.zero_le _)
    · have hf := it_t hf hc
      refine o_iconst (pc := 26) (v := (-1)) dX11_ends_26 rfl ?_
      obtain rfl := Option.some.inj hf
      exact o_ireturn (pc := 27) dX11_ends_27 rfl (Nat.zero_le _) (Nat.zero_le _)
  · have hf := it_t hf hc
    refine o_sipush (pc := 8) (v := (-1000)) dX11_ends_8 rfl ?_
    obtain rfl := Option.some.inj hf
    exact o_ireturn (pc := 11) dX11_ends_11 rfl (Nat.zero_le _) (Nat.zero_le _)
def fX11_chain_L44 (a1 : Int32) (t : PH) : Nat → Int32 → Int32 → Int32 → ST → Option (Int32 × Int32 × Int32)
  | 0, _, _, _, _ => none
  | n + 1, x2, x3, x4, s => if (gi s 18 7) ≤ x4 then some (x2, x3, x4) else (fX7_meetingsOf_18 x4 s).bind (fun q9 => (if q9 = 0 then some (x2, x3) else (if x2 = (-1) then some true else ck (inb x4 5) (if (gi s 39 (ix x4)) ≤ x3 then some false else some true) : Option Bool).bind (fun b13 => if b13 = true then ck (inb x4 5) (lt (gi s 39 (ix x4) : Int32) (fun v18 => some (x4, v18))) else some (x2, x3)) : Option (Int32 × Int32)).bind (fun w10 => lt (x4 + 1) (fun v19 => fX11_chain_L44 a1 t n w10.1 w10.2 v19 s)))
def fX11_chain (p0 : Int32) (t : PH) (s : ST) : Option (Int32 × ST) :=
  (if (gi s 18 0) = 0 then some true else if p0 < 0 then some true else if p0 ≤ 1 then some false else some true : Option Bool).bind (fun b1 => if b1 = true then some ((-1000), s) else (fX11_startFromNow t s).bind (fun q5 => (fX0_goDay t q5).bind (fun q7 => (fX11_chain_L44 p0 t FUEL (-1) (-1) 0 q7).bind (fun w20 => (if p0 = 0 then some w20.1 else some w20.2.1 : Option (Int32)).bind (fun w23 => some (w23, q7))))))
set_option maxRecDepth 20000 in
theorem kX11_chain_L44 {g : GX} {t : PH} (a1 : Int32) (s : ST) {r : Option Value} {h2 : PH} : ∀ (n : Nat) (x2 : Int32) (x3 : Int32) (x4 : Int32) {w : Int32 × Int32 × Int32}, fX11_chain_L44 a1 t n x2 x3 x4 s = some w → Rn g mdX11_chain 119 [none, some (.int a1), some (.int w.1), some (.int w.2.1), none] [] (cW t s) 0 0 r h2 → Rn g mdX11_chain 44 [some (.ref 0), some (.int a1), some (.int x2), some (.int x3), some (.int x4)] [] (cW t s) 0 0 r h2 := by
  intro n
  induction n with
  | zero => intro x2 x3 x4 w hf K; cases hf
  | succ n ih =>
    intro x2 x3 x4 w hf K
    rw [fX11_chain_L44] at hf
    refine o_iload (pc := 44) dX11_chain_44 rfl ?_
    refine o_aload_n (pc := 46) dX11_chain_46 rfl ?_
    refine c_getR (pc := 47) 10 5 0 17 (by decide) (by decide) rfl (lt48 (by decide)) rfl rfl lkX11_45 dX11_chain_47 ?_
    refine c_getR (pc := 50) 9 0 17 18 (by decide) (by decide) rfl (lt48 (by decide)) rfl rfl lkX11_86 dX11_chain_50 ?_
    refine c_getI (pc := 53) 6 7 18 (by decide) (by decide) rfl (lt48 (by decide)) rfl lkX11_188 dX11_chain_53 ?_
    refine o_icmp_ge (pc := 56) 119 dX11_chain_56 rfl (fun hc => ?_) (fun hc => ?_)
    · have hf := it_t hf hc
      obtain rfl := Option.some.inj hf
      refine o_keep [false, true, true, true, false] ?_
      exact K
    · have hf := it_f hf hc
      refine o_aload_n (pc := 59) dX11_chain_59 rfl ?_
      refine c_getR (pc := 60) 10 5 0 17 (by decide) (by decide) rfl (lt48 (by decide)) rfl rfl lkX11_45 dX11_chain_60 ?_
      refine c_getR (pc := 63) 9 0 17 18 (by decide) (by decide) rfl (lt48 (by decide)) rfl rfl lkX11_86 dX11_chain_63 ?_
      refine o_iload (pc := 66) dX11_chain_66 rfl ?_
      obtain ⟨q9, hk8, hf⟩ := bd_elim hf
      refine c_callV (pc := 68) 6 18 [.int x4] (by decide) (lt48 (by decide)) rfl dX11_chain_68 (kX7_meetingsOf_18 hk8) stX11_120 ⟨by decide, by decide, by decide, by decide⟩ ⟨rfl, rfl⟩ (Nat.le_of_ble_eq_true rfl) ?_
      show Rn g mdX11_chain 71 [some (.ref 0), some (.int a1), some (.int x2), some (.int x3), some (.int x4)] [.int q9] (cW t s) 0 0 r h2
      obtain ⟨w10, hr11, hf⟩ := bd_elim hf
      have K12 : Rn g mdX11_chain 113 [some (.ref 0), some (.int a1), some (.int w10.1), some (.int w10.2), some (.int x4)] [] (cW t s) 0 0 r h2 := by
        refine o_iinc (pc := 113) dX11_chain_113 rfl (by decide) rfl ?_
        show Rn g mdX11_chain 116 [some (.ref 0), some (.int a1), some (.int w10.1), some (.int w10.2), some (.int (x4 + 1))] [] (cW t s) 0 0 r h2
        obtain ⟨v19, ev19, hf⟩ := lt_elim hf
        rw [ev19]
        show Rn g mdX11_chain 116 [some (.ref 0), some (.int a1), some (.int w10.1), some (.int w10.2), some (.int v19)] [] (cW t s) 0 0 r h2
        refine o_goto (pc := 116) 44 dX11_chain_116 rfl ?_
        exact ih _ _ _ hf K
      clear hf
      refine o_if_eq (pc := 71) 113 dX11_chain_71 rfl (fun hc => ?_) (fun hc => ?_)
      · have hr11 := it_t hr11 hc
        obtain rfl := Option.some.inj hr11
        exact K12
      · have hr11 := it_f hr11 hc
        refine o_iload_n (pc := 74) dX11_chain_74 rfl ?_
        refine o_iconst (pc := 75) (v := (-1)) dX11_chain_75 rfl ?_
        obtain ⟨b13, hr14, hr11⟩ := bd_elim hr11
        have KB15 : (b13 = true → Rn g mdX11_chain 96 [some (.ref 0), some (.int a1), some (.int x2), some (.int x3), some (.int x4)] [] (cW t s) 0 0 r h2) ∧ (¬ b13 = true → Rn g mdX11_chain 113 [some (.ref 0), some (.int a1), some (.int x2), some (.int x3), some (.int x4)] [] (cW t s) 0 0 r h2) := by
          refine ⟨fun hc => ?_, fun hc => ?_⟩
          · have hr11 := it_t hr11 hc
            refine o_iload (pc := 96) dX11_chain_96 rfl ?_
            refine o_istore_n (pc := 98) dX11_chain_98 (by decide) rfl ?_
            show Rn g mdX11_chain 99 [some (.ref 0), some (.int a1), some (.int x4), some (.int x3), some (.int x4)] [] (cW t s) 0 0 r h2
            refine o_aload_n (pc := 99) dX11_chain_99 rfl ?_
            refine c_getR (pc := 100) 10 7 0 30 (by decide) (by decide) rfl (lt48 (by decide)) rfl rfl lkX11_56 dX11_chain_100 ?_
            refine c_getR (pc := 103) 0 1 30 33 (by decide) (by decide) rfl (lt48 (by decide)) rfl rfl lkX11_170 dX11_chain_103 ?_
            refine c_getR (pc := 106) 1 5 33 39 (by decide) (by decide) rfl (lt48 (by decide)) rfl rfl lkX11_185 dX11_chain_106 ?_
            refine o_iload (pc := 109) dX11_chain_109 rfl ?_
            obtain ⟨hk17, hr11⟩ := ck_elim hr11
            refine c_iald (pc := 111) (lt48 (by decide)) rfl hk17 dX11_chain_111 ?_
            refine lz_i hr11 (fun v18 hr11 => ?_)
            refine o_istore_n (pc := 112) dX11_chain_112 (by decide) rfl ?_
            show Rn g mdX11_chain 113 [some (.ref 0), some (.int a1), some (.int x4), some (.int v18), some (.int x4)] [] (cW t s) 0 0 r h2
            obtain rfl := Option.some.inj hr11
            exact K12
          · have hr11 := it_f hr11 hc
            obtain rfl := Option.some.inj hr11
            exact K12
        clear hr11
        refine o_icmp_eq (pc := 76) 96 dX11_chain_76 rfl (fun hc => ?_) (fun hc => ?_)
        · have hr14 := it_t hr14 hc
          obtain rfl := Option.some.inj hr14
          exact KB15.1 rfl
        · have hr14 := it_f hr14 hc
          refine o_aload_n (pc := 79) dX11_chain_79 rfl ?_
          refine c_getR (pc := 80) 10 7 0 30 (by decide) (by decide) rfl (lt48 (by decide)) rfl rfl lkX11_56 dX11_chain_80 ?_
          refine c_getR (pc := 83) 0 1 30 33 (by decide) (by decide) rfl (lt48 (by decide)) rfl rfl lkX11_170 dX11_chain_83 ?_
          refine c_getR (pc := 86) 1 5 33 39 (by decide) (by decide) rfl (lt48 (by decide)) rfl rfl lkX11_185 dX11_chain_86 ?_
          refine o_iload (pc := 89) dX11_chain_89 rfl ?_
          obtain ⟨hk16, hr14⟩ := ck_elim hr14
          refine c_iald (pc := 91) (lt48 (by decide)) rfl hk16 dX11_chain_91 ?_
          refine o_iload_n (pc := 92) dX11_chain_92 rfl ?_
          refine o_icmp_le (pc := 93) 113 dX11_chain_93 rfl (fun hc => ?_) (fun hc => ?_)
          · have hr14 := it_t hr14 hc
            obtain rfl := Option.some.inj hr14
            exact KB15.2 (by decide)
          · have hr14 := it_f hr14 hc
            obtain rfl := Option.some.inj hr14
            exact KB15.1 rfl
set_option maxRecDepth 20000 in
theorem kX11_chain {g : GX} {t : PH} {p0 : Int32} {s : ST} {q : Int32 × ST} (hf : fX11_chain p0 t s = some q) : Cn g mdX11_chain [.ref 0, .int p0] (cW t s) (some (.int q.1)) (cW t q.2) := by
  refine Cn.of (by decide) (Nat.le_of_ble_eq_true rfl) ?_
  show Rn g mdX11_chain 0 [some (.ref 0), some (.int p0), none, none, none] [] (cW t s) 0 0 (some (.int q.1)) (cW t q.2)
  unfold fX11_chain at hf
  refine o_aload_n (pc := 0) dX11_chain_0 rfl ?_
  refine c_getR (pc := 1) 10 5 0 17 (by decide) (by decide) rfl (lt48 (by decide)) rfl rfl lkX11_45 dX11_chain_1 ?_
  refine c_getR (pc := 4) 9 0 17 18 (by decide) (by decide) rfl (lt48 (by decide)) rfl rfl lkX11_86 dX11_chain_4 ?_
  refine c_getI (pc := 7) 6 0 18 (by decide) (by decide) rfl (lt48 (by decide)) rfl lkX11_136 dX11_chain_7 ?_
  obtain ⟨b1, hr2, hf⟩ := bd_elim hf
  have KB3 : (b1 = true → Rn g mdX11_chain 22 [some (.ref 0), some (.int p0), none, none, none] [] (cW t s) 0 0 (some (.int q.1)) (cW t q.2)) ∧ (¬ b1 = true → Rn g mdX11_chain 26 [some (.ref 0), some (.int p0), none, none, none] [] (cW t s) 0 0 (some (.int q.1)) (cW t q.2)) := by
    refine ⟨fun hc => ?_, fun hc => ?_⟩
    · have hf := it_t hf hc
      refine o_sipush (pc := 22) (v := (-1000)) dX11_chain_22 rfl ?_
      obtain rfl := Option.some.inj hf
      exact o_ireturn (pc := 25) dX11_chain_25 rfl (Nat.zero_le _) (Nat.zero_le _)
    · have hf := it_f hf hc
      refine o_aload_n (pc := 26) dX11_chain_26 rfl ?_
      obtain ⟨q5, hk4, hf⟩ := bd_elim hf
      refine c_callV (pc := 27) 10 0 [] (by decide) (lt48 (by decide)) rfl dX11_chain_27 (kX11_startFromNow hk4) stX11_143 ⟨by decide, by decide, by decide, by decide⟩ ⟨rfl, rfl⟩ (Nat.le_of_ble_eq_true rfl) ?_
      show Rn g mdX11_chain 30 [some (.ref 0), some (.int p0), none, none, none] [] (cW t q5) 0 0 (some (.int q.1)) (cW t q.2)
      refine o_aload_n (pc := 30) dX11_chain_30 rfl ?_
      refine c_getR (pc := 31) 10 7 0 30 (by decide) (by decide) rfl (lt48 (by decide)) rfl rfl lkX11_56 dX11_chain_31 ?_
      obtain ⟨q7, hk6, hf⟩ := bd_elim hf
      refine c_callV (pc := 34) 0 30 [] (by decide) (lt48 (by decide)) rfl dX11_chain_34 (kX0_goDay hk6) stX11_146 ⟨by decide, by decide, by decide, by decide⟩ ⟨rfl, rfl⟩ (Nat.le_of_ble_eq_true rfl) ?_
      show Rn g mdX11_chain 37 [some (.ref 0), some (.int p0), none, none, none] [] (cW t q7) 0 0 (some (.int q.1)) (cW t q.2)
      refine o_iconst (pc := 37) (v := (-1)) dX11_chain_37 rfl ?_
      refine o_istore_n (pc := 38) dX11_chain_38 (by decide) rfl ?_
      show Rn g mdX11_chain 39 [some (.ref 0), some (.int p0), some (.int (-1)), none, none] [] (cW t q7) 0 0 (some (.int q.1)) (cW t q.2)
      refine o_iconst (pc := 39) (v := (-1)) dX11_chain_39 rfl ?_
      refine o_istore_n (pc := 40) dX11_chain_40 (by decide) rfl ?_
      show Rn g mdX11_chain 41 [some (.ref 0), some (.int p0), some (.int (-1)), some (.int (-1)), none] [] (cW t q7) 0 0 (some (.int q.1)) (cW t q.2)
      refine o_iconst (pc := 41) (v := 0) dX11_chain_41 rfl ?_
      refine o_istore (pc := 42) dX11_chain_42 (by decide) rfl ?_
      show Rn g mdX11_chain 44 [some (.ref 0), some (.int p0), some (.int (-1)), some (.int (-1)), some (.int 0)] [] (cW t q7) 0 0 (some (.int q.1)) (cW t q.2)
      obtain ⟨w20, hl21, hf⟩ := bd_elim hf
      have K22 : Rn g mdX11_chain 119 [none, some (.int p0), some (.int w20.1), some (.int w20.2.1), none] [] (cW t q7) 0 0 (some (.int q.1)) (cW t q.2) := by
        refine o_iload_n (pc := 119) dX11_chain_119 rfl ?_
        obtain ⟨w23, hr24, hf⟩ := bd_elim hf
        have K25 : Rn g mdX11_chain 128 [none, none, none, none, none] [.int w23] (cW t q7) 0 0 (some (.int q.1)) (cW t q.2) := by
          obtain rfl := Option.some.inj hf
          exact o_ireturn (pc := 128) dX11_chain_128 rfl (Nat.zero_le _) (Nat.zero_le _)
        clear hf
        refine o_if_ne (pc := 120) 127 dX11_chain_120 rfl (fun hc => ?_) (fun hc => ?_)
        · have hr24 := it_f hr24 hc
          refine o_iload_n (pc := 127) dX11_chain_127 rfl ?_
          obtain rfl := Option.some.inj hr24
          refine o_keep [false, false, false, false, false] ?_
          exact K25
        · have hr24 := it_t hr24 hc
          refine o_iload_n (pc := 123) dX11_chain_123 rfl ?_
          refine o_goto (pc := 124) 128 dX11_chain_124 rfl ?_
          obtain rfl := Option.some.inj hr24
          refine o_keep [false, false, false, false, false] ?_
          exact K25
      exact kX11_chain_L44 _ _ _ _ _ _ hl21 K22
  clear hf
  refine o_if_eq (pc := 10) 22 dX11_chain_10 rfl (fun hc => ?_) (fun hc => ?_)
  · have hr2 := it_t hr2 hc
    obtain rfl := Option.some.inj hr2
    exact KB3.1 rfl
  · have hr2 := it_f hr2 hc
    refine o_iload_n (pc := 13) dX11_chain_13 rfl ?_
    refine o_if_lt (pc := 14) 22 dX11_chain_14 rfl (fun hc => ?_) (fun hc => ?_)
    · have hr2 := it_t hr2 hc
      obtain rfl := Option.some.inj hr2
      exact KB3.1 rfl
    · have hr2 := it_f hr2 hc
      refine o_iload_n (pc := 17) dX11_chain_17 rfl ?_
      refine o_iconst (pc := 18) (v := 1) dX11_chain_18 rfl ?_
      refine o_icmp_le (pc := 19) 26 dX11_chain_19 rfl (fun hc => ?_) (fun hc => ?_)
      · have hr2 := it_t hr2 hc
        obtain rfl := Option.some.inj hr2
        exact KB3.2 (by decide)
      · have hr2 := it_f hr2 hc
        obtain rfl := Option.some.inj hr2
        exact KB3.1 rfl
def fX11_minute_L66 (a1 : Int32) (a2 : Int32) (a4 : Int32) (t : PH) : Nat → Int32 → Int32 → Int32 → Int32 → ST → Option (Int32 × Int32 × Int32 × Int32 × ST)
  | 0, _, _, _, _, _ => none
  | n + 1, x5, x6, x7, x8, s => if a4 < x8 then some (x5, x6, x7, x8, s) else (fX11_startFromNow t s).bind (fun q11 => ck (inb (20 + a1) 46) (lt (si q11 32 (ix (20 + a1)) x8) (fun s13 => (fX0_goDay t s13).bind (fun q15 => (if x5 = (-1) then some false else if (gi q15 30 15) < x6 then some false else some true : Option Bool).bind (fun b16 => (if b16 = true then (if (gi q15 30 15) = x6 then if x7 ≤ (gi q15 30 16) then some false else some true else some false : Option Bool).bind (fun b22 => if b22 = true then lt (gi q15 30 15 : Int32) (fun v25 => lt (gi q15 30 16 : Int32) (fun v26 => some (x8, v25, v26))) else some (x5, x6, x7)) else lt (gi q15 30 15 : Int32) (fun v27 => lt (gi q15 30 16 : Int32) (fun v28 => some (x8, v27, v28))) : Option (Int32 × Int32 × Int32)).bind (fun w19 => lt (x8 + 1) (fun v29 => fX11_minute_L66 a1 a2 a4 t n w19.1 w19.2.1 w19.2.2 v29 q15)))))))
def fX11_minute (p0 : Int32) (p1 : Int32) (t : PH) (s : ST) : Option (Int32 × ST) :=
  (fX11_isMeeting p0 s).bind (fun q2 => (if q2 = 0 then some true else if p1 < 0 then some true else if p1 ≤ 2 then some false else some true : Option Bool).bind (fun b3 => if b3 = true then some ((-1), s) else ck (inb (20 + p0) 46) (lt (gi s 26 (ix (20 + p0)) : Int32) (fun v7 => lt (imn 600 (v7 + 60) : Int32) (fun v8 => lt (imx 0 (v7 - 60) : Int32) (fun v9 => (fX11_minute_L66 p0 p1 v8 t FUEL (-1) 0 0 v9 s).bind (fun w30 => if p1 = 0 then some (w30.1, w30.2.2.2.2) else (if p1 = 1 then some w30.2.1 else some w30.2.2.1 : Option (Int32)).bind (fun w33 => some (w33, w30.2.2.2.2)))))))))
set_option maxRecDepth 20000 in
theorem kX11_minute_L66 {g : GX} {t : PH} (a1 : Int32) (a2 : Int32) (a4 : Int32) {r : Option Value} {h2 : PH} : ∀ (n : Nat) (x5 : Int32) (x6 : Int32) (x7 : Int32) (x8 : Int32) (s : ST) {w : Int32 × Int32 × Int32 × Int32 × ST}, fX11_minute_L66 a1 a2 a4 t n x5 x6 x7 x8 s = some w → Rn g mdX11_minute 171 [none, none, some (.int a2), none, none, some (.int w.1), some (.int w.2.1), some (.int w.2.2.1), none] [] (cW t w.2.2.2.2) 0 0 r h2 → Rn g mdX11_minute 66 [some (.ref 0), some (.int a1), some (.int a2), none, some (.int a4), some (.int x5), some (.int x6), some (.int x7), some (.int x8)] [] (cW t s) 0 0 r h2 := by
  intro n
  induction n with
  | zero => intro x5 x6 x7 x8 s w hf K; cases hf
  | succ n ih =>
    intro x5 x6 x7 x8 s w hf K
    rw [fX11_minute_L66] at hf
    refine o_iload (pc := 66) dX11_minute_66 rfl ?_
    refine o_iload (pc := 68) dX11_minute_68 rfl ?_
    refine o_icmp_gt (pc := 70) 171 dX11_minute_70 rfl (fun hc => ?_) (fun hc => ?_)
    · have hf := it_t hf hc
      obtain rfl := Option.some.inj hf
      refine o_keep [false, false, true, false, false, true, true, true, false] ?_
      exact K
    · have hf := it_f hf hc
      refine o_aload_n (pc := 73) dX11_minute_73 rfl ?_
      obtain ⟨q11, hk10, hf⟩ := bd_elim hf
      refine c_callV (pc := 74) 10 0 [] (by decide) (lt48 (by decide)) rfl dX11_minute_74 (kX11_startFromNow hk10) stX11_143 ⟨by decide, by decide, by decide, by decide⟩ ⟨rfl, rfl⟩ (Nat.le_of_ble_eq_true rfl) ?_
      show Rn g mdX11_minute 77 [some (.ref 0), some (.int a1), some (.int a2), none, some (.int a4), some (.int x5), some (.int x6), some (.int x7), some (.int x8)] [] (cW t q11) 0 0 r h2
      refine o_aload_n (pc := 77) dX11_minute_77 rfl ?_
      refine c_getR (pc := 78) 10 7 0 30 (by decide) (by decide) rfl (lt48 (by decide)) rfl rfl lkX11_56 dX11_minute_78 ?_
      refine c_getR (pc := 81) 0 0 30 31 (by decide) (by decide) rfl (lt48 (by decide)) rfl rfl lkX11_149 dX11_minute_81 ?_
      refine c_getR (pc := 84) 4 0 31 32 (by decide) (by decide) rfl (lt48 (by decide)) rfl rfl lkX11_108 dX11_minute_84 ?_
      refine o_bipush (pc := 87) (v := 20) dX11_minute_87 rfl ?_
      refine o_iload_n (pc := 89) dX11_minute_89 rfl ?_
      refine o_iadd (pc := 90) dX11_minute_90 ?_
      refine o_iload (pc := 91) dX11_minute_91 rfl ?_
      obtain ⟨hk12, hf⟩ := ck_elim hf
      refine c_iast (pc := 93) (lt48 (by decide)) rfl hk12 dX11_minute_93 ?_
      refine lz_s (cW t) hf (fun s13 hf => ?_)
      show Rn g mdX11_minute 94 [some (.ref 0), some (.int a1), some (.int a2), none, some (.int a4), some (.int x5), some (.int x6), some (.int x7), some (.int x8)] [] (cW t s13) 0 0 r h2
      refine o_aload_n (pc := 94) dX11_minute_94 rfl ?_
      refine c_getR (pc := 95) 10 7 0 30 (by decide) (by decide) rfl (lt48 (by decide)) rfl rfl lkX11_56 dX11_minute_95 ?_
      obtain ⟨q15, hk14, hf⟩ := bd_elim hf
      refine c_callV (pc := 98) 0 30 [] (by decide) (lt48 (by decide)) rfl dX11_minute_98 (kX0_goDay hk14) stX11_146 ⟨by decide, by decide, by decide, by decide⟩ ⟨rfl, rfl⟩ (Nat.le_of_ble_eq_true rfl) ?_
      show Rn g mdX11_minute 101 [some (.ref 0), some (.int a1), some (.int a2), none, some (.int a4), some (.int x5), some (.int x6), some (.int x7), some (.int x8)] [] (cW t q15) 0 0 r h2
      refine o_iload (pc := 101) dX11_minute_101 rfl ?_
      refine o_iconst (pc := 103) (v := (-1)) dX11_minute_103 rfl ?_
      obtain ⟨b16, hr17, hf⟩ := bd_elim hf
      obtain ⟨w19, hr20, hf⟩ := bd_elim hf
      have K21 : Rn g mdX11_minute 165 [some (.ref 0), some (.int a1), some (.int a2), none, some (.int a4), some (.int w19.1), some (.int w19.2.1), some (.int w19.2.2), some (.int x8)] [] (cW t q15) 0 0 r h2 := by
        refine o_iinc (pc := 165) dX11_minute_165 rfl (by decide) rfl ?_
        show Rn g mdX11_minute 168 [some (.ref 0), some (.int a1), some (.int a2), none, some (.int a4), some (.int w19.1), some (.int w19.2.1), some (.int w19.2.2), some (.int (x8 + 1))] [] (cW t q15) 0 0 r h2
        obtain ⟨v29, ev29, hf⟩ := lt_elim hf
        rw [ev29]
        show Rn g mdX11_minute 168 [some (.ref 0), some (.int a1), some (.int a2), none, some (.int a4), some (.int w19.1), some (.int w19.2.1), some (.int w19.2.2), some (.int v29)] [] (cW t q15) 0 0 r h2
        refine o_goto (pc := 168) 66 dX11_minute_168 rfl ?_
        exact ih _ _ _ _ _ hf K
      clear hf
      have KB18 : (b16 = true → Rn g mdX11_minute 119 [some (.ref 0), some (.int a1), some (.int a2), none, some (.int a4), some (.int x5), some (.int x6), some (.int x7), some (.int x8)] [] (cW t q15) 0 0 r h2) ∧ (¬ b16 = true → Rn g mdX11_minute 143 [some (.ref 0), some (.int a1), some (.int a2), none, some (.int a4), some (.int x5), some (.int x6), some (.int x7), some (.int x8)] [] (cW t q15) 0 0 r h2) := by
        refine ⟨fun hc => ?_, fun hc => ?_⟩
        · have hr20 := it_t hr20 hc
          refine o_aload_n (pc := 119) dX11_minute_119 rfl ?_
          refine c_getR (pc := 120) 10 7 0 30 (by decide) (by decide) rfl (lt48 (by decide)) rfl rfl lkX11_56 dX11_minute_120 ?_
          refine c_getI (pc := 123) 0 15 30 (by decide) (by decide) rfl (lt48 (by decide)) rfl lkX11_154 dX11_minute_123 ?_
          refine o_iload (pc := 126) dX11_minute_126 rfl ?_
          obtain ⟨b22, hr23, hr20⟩ := bd_elim hr20
          have KB24 : (b22 = true → Rn g mdX11_minute 143 [some (.ref 0), some (.int a1), some (.int a2), none, some (.int a4), some (.int x5), some (.int x6), some (.int x7), some (.int x8)] [] (cW t q15) 0 0 r h2) ∧ (¬ b22 = true → Rn g mdX11_minute 165 [some (.ref 0), some (.int a1), some (.int a2), none, some (.int a4), some (.int x5), some (.int x6), some (.int x7), some (.int x8)] [] (cW t q15) 0 0 r h2) := by
            refine ⟨fun hc => ?_, fun hc => ?_⟩
            · have hr20 := it_t hr20 hc
              refine o_iload (pc := 143) dX11_minute_143 rfl ?_
              refine o_istore (pc := 145) dX11_minute_145 (by decide) rfl ?_
              show Rn g mdX11_minute 147 [some (.ref 0), some (.int a1), some (.int a2), none, some (.int a4), some (.int x8), some (.int x6), some (.int x7), some (.int x8)] [] (cW t q15) 0 0 r h2
              refine o_aload_n (pc := 147) dX11_minute_147 rfl ?_
              refine c_getR (pc := 148) 10 7 0 30 (by decide) (by decide) rfl (lt48 (by decide)) rfl rfl lkX11_56 dX11_minute_148 ?_
              refine c_getI (pc := 151) 0 15 30 (by decide) (by decide) rfl (lt48 (by decide)) rfl lkX11_154 dX11_minute_151 ?_
              refine lz_i hr20 (fun v25 hr20 => ?_)
              refine o_istore (pc := 154) dX11_minute_154 (by decide) rfl ?_
              show Rn g mdX11_minute 156 [some (.ref 0), some (.int a1), some (.int a2), none, some (.int a4), some (.int x8), some (.int v25), some (.int x7), some (.int x8)] [] (cW t q15) 0 0 r h2
              refine o_aload_n (pc := 156) dX11_minute_156 rfl ?_
              refine c_getR (pc := 157) 10 7 0 30 (by decide) (by decide) rfl (lt48 (by decide)) rfl rfl lkX11_56 dX11_minute_157 ?_
              refine c_getI (pc := 160) 0 16 30 (by decide) (by decide) rfl (lt48 (by decide)) rfl lkX11_200 dX11_minute_160 ?_
              refine lz_i hr20 (fun v26 hr20 => ?_)
              refine o_istore (pc := 163) dX11_minute_163 (by decide) rfl ?_
              show Rn g mdX11_minute 165 [some (.ref 0), some (.int a1), some (.int a2), none, some (.int a4), some (.int x8), some (.int v25), some (.int v26), some (.int x8)] [] (cW t q15) 0 0 r h2
              obtain rfl := Option.some.inj hr20
              exact K21
            · have hr20 := it_f hr20 hc
              obtain rfl := Option.some.inj hr20
              exact K21
          clear hr20
          refine o_icmp_ne (pc := 128) 165 dX11_minute_128 rfl (fun hc => ?_) (fun hc => ?_)
          · have hr23 := it_f hr23 hc
            obtain rfl := Option.some.inj hr23
            exact KB24.2 (by decide)
          · have hr23 := it_t hr23 hc
            refine o_aload_n (pc := 131) dX11_minute_131 rfl ?_
            refine c_getR (pc := 132) 10 7 0 30 (by decide) (by decide) rfl (lt48 (by decide)) rfl rfl lkX11_56 dX11_minute_132 ?_
            refine c_getI (pc := 135) 0 16 30 (by decide) (by decide) rfl (lt48 (by decide)) rfl lkX11_200 dX11_minute_135 ?_
            refine o_iload (pc := 138) dX11_minute_138 rfl ?_
            refine o_icmp_ge (pc := 140) 165 dX11_minute_140 rfl (fun hc => ?_) (fun hc => ?_)
            · have hr23 := it_t hr23 hc
              obtain rfl := Option.some.inj hr23
              exact KB24.2 (by decide)
            · have hr23 := it_f hr23 hc
              obtain rfl := Option.some.inj hr23
              exact KB24.1 rfl
        · have hr20 := it_f hr20 hc
          refine o_iload (pc := 143) dX11_minute_143 rfl ?_
          refine o_istore (pc := 145) dX11_minute_145 (by decide) rfl ?_
          show Rn g mdX11_minute 147 [some (.ref 0), some (.int a1), some (.int a2), none, some (.int a4), some (.int x8), some (.int x6), some (.int x7), some (.int x8)] [] (cW t q15) 0 0 r h2
          refine o_aload_n (pc := 147) dX11_minute_147 rfl ?_
          refine c_getR (pc := 148) 10 7 0 30 (by decide) (by decide) rfl (lt48 (by decide)) rfl rfl lkX11_56 dX11_minute_148 ?_
          refine c_getI (pc := 151) 0 15 30 (by decide) (by decide) rfl (lt48 (by decide)) rfl lkX11_154 dX11_minute_151 ?_
          refine lz_i hr20 (fun v27 hr20 => ?_)
          refine o_istore (pc := 154) dX11_minute_154 (by decide) rfl ?_
          show Rn g mdX11_minute 156 [some (.ref 0), some (.int a1), some (.int a2), none, some (.int a4), some (.int x8), some (.int v27), some (.int x7), some (.int x8)] [] (cW t q15) 0 0 r h2
          refine o_aload_n (pc := 156) dX11_minute_156 rfl ?_
          refine c_getR (pc := 157) 10 7 0 30 (by decide) (by decide) rfl (lt48 (by decide)) rfl rfl lkX11_56 dX11_minute_157 ?_
          refine c_getI (pc := 160) 0 16 30 (by decide) (by decide) rfl (lt48 (by decide)) rfl lkX11_200 dX11_minute_160 ?_
          refine lz_i hr20 (fun v28 hr20 => ?_)
          refine o_istore (pc := 163) dX11_minute_163 (by decide) rfl ?_
          show Rn g mdX11_minute 165 [some (.ref 0), some (.int a1), some (.int a2), none, some (.int a4), some (.int x8), some (.int v27), some (.int v28), some (.int x8)] [] (cW t q15) 0 0 r h2
          obtain rfl := Option.some.inj hr20
          exact K21
      clear hr20
      refine o_icmp_eq (pc := 104) 143 dX11_minute_104 rfl (fun hc => ?_) (fun hc => ?_)
      · have hr17 := it_t hr17 hc
        obtain rfl := Option.some.inj hr17
        exact KB18.2 (by decide)
      · have hr17 := it_f hr17 hc
        refine o_aload_n (pc := 107) dX11_minute_107 rfl ?_
        refine c_getR (pc := 108) 10 7 0 30 (by decide) (by decide) rfl (lt48 (by decide)) rfl rfl lkX11_56 dX11_minute_108 ?_
        refine c_getI (pc := 111) 0 15 30 (by decide) (by decide) rfl (lt48 (by decide)) rfl lkX11_154 dX11_minute_111 ?_
        refine o_iload (pc := 114) dX11_minute_114 rfl ?_
        refine o_icmp_lt (pc := 116) 143 dX11_minute_116 rfl (fun hc => ?_) (fun hc => ?_)
        · have hr17 := it_t hr17 hc
          obtain rfl := Option.some.inj hr17
          exact KB18.2 (by decide)
        · have hr17 := it_f hr17 hc
          obtain rfl := Option.some.inj hr17
          exact KB18.1 rfl
set_option maxRecDepth 20000 in
theorem kX11_minute {g : GX} {t : PH} {p0 : Int32} {p1 : Int32} {s : ST} {q : Int32 × ST} (hf : fX11_minute p0 p1 t s = some q) : Cn g mdX11_minute [.ref 0, .int p0, .int p1] (cW t s) (some (.int q.1)) (cW t q.2) := by
  refine Cn.of (by decide) (Nat.le_of_ble_eq_true rfl) ?_
  show Rn g mdX11_minute 0 [some (.ref 0), some (.int p0), some (.int p1), none, none, none, none, none, none] [] (cW t s) 0 0 (some (.int q.1)) (cW t q.2)
  unfold fX11_minute at hf
  refine o_aload_n (pc := 0) dX11_minute_0 rfl ?_
  refine o_iload_n (pc := 1) dX11_minute_1 rfl ?_
  obtain ⟨q2, hk1, hf⟩ := bd_elim hf
  refine c_callV (pc := 2) 10 0 [.int p0] (by decide) (lt48 (by decide)) rfl dX11_minute_2 (kX11_isMeeting hk1) stX11_124 ⟨by decide, by decide, by decide, by decide⟩ ⟨rfl, rfl⟩ (Nat.le_of_ble_eq_true rfl) ?_
  show Rn g mdX11_minute 5 [some (.ref 0), some (.int p0), some (.int p1), none, none, none, none, none, none] [.int q2] (cW t s) 0 0 (some (.int q.1)) (cW t q.2)
  obtain ⟨b3, hr4, hf⟩ := bd_elim hf
  have KB5 : (b3 = true → Rn g mdX11_minute 17 [some (.ref 0), some (.int p0), some (.int p1), none, none, none, none, none, none] [] (cW t s) 0 0 (some (.int q.1)) (cW t q.2)) ∧ (¬ b3 = true → Rn g mdX11_minute 19 [some (.ref 0), some (.int p0), some (.int p1), none, none, none, none, none, none] [] (cW t s) 0 0 (some (.int q.1)) (cW t q.2)) := by
    refine ⟨fun hc => ?_, fun hc => ?_⟩
    · have hf := it_t hf hc
      refine o_iconst (pc := 17) (v := (-1)) dX11_minute_17 rfl ?_
      obtain rfl := Option.some.inj hf
      exact o_ireturn (pc := 18) dX11_minute_18 rfl (Nat.zero_le _) (Nat.zero_le _)
    · have hf := it_f hf hc
      refine o_aload_n (pc := 19) dX11_minute_19 rfl ?_
      refine c_getR (pc := 20) 10 5 0 17 (by decide) (by decide) rfl (lt48 (by decide)) rfl rfl lkX11_45 dX11_minute_20 ?_
      refine c_getR (pc := 23) 9 1 17 25 (by decide) (by decide) rfl (lt48 (by decide)) rfl rfl lkX11_104 dX11_minute_23 ?_
      refine c_getR (pc := 26) 4 0 25 26 (by decide) (by decide) rfl (lt48 (by decide)) rfl rfl lkX11_108 dX11_minute_26 ?_
      refine o_bipush (pc := 29) (v := 20) dX11_minute_29 rfl ?_
      refine o_iload_n (pc := 31) dX11_minute_31 rfl ?_
      refine o_iadd (pc := 32) dX11_minute_32 ?_
      obtain ⟨hk6, hf⟩ := ck_elim hf
      refine c_iald (pc := 33) (lt48 (by decide)) rfl hk6 dX11_minute_33 ?_
      refine lz_i hf (fun v7 hf => ?_)
      refine o_istore_n (pc := 34) dX11_minute_34 (by decide) rfl ?_
      show Rn g mdX11_minute 35 [some (.ref 0), some (.int p0), some (.int p1), some (.int v7), none, none, none, none, none] [] (cW t s) 0 0 (some (.int q.1)) (cW t q.2)
      refine o_sipush (pc := 35) (v := 600) dX11_minute_35 rfl ?_
      refine o_iload_n (pc := 38) dX11_minute_38 rfl ?_
      refine o_bipush (pc := 39) (v := 60) dX11_minute_39 rfl ?_
      refine o_iadd (pc := 41) dX11_minute_41 ?_
      refine o_min (pc := 42) lmX11_191 dX11_minute_42 (by decide) (Nat.le_of_ble_eq_true rfl) (Nat.zero_le _) (Nat.zero_le _) ?_
      show Rn g mdX11_minute 45 [some (.ref 0), some (.int p0), some (.int p1), some (.int v7), none, none, none, none, none] [.int (imn 600 (v7 + 60))] (cW t s) 0 0 (some (.int q.1)) (cW t q.2)
      refine lz_i hf (fun v8 hf => ?_)
      refine o_istore (pc := 45) dX11_minute_45 (by decide) rfl ?_
      show Rn g mdX11_minute 47 [some (.ref 0), some (.int p0), some (.int p1), some (.int v7), some (.int v8), none, none, none, none] [] (cW t s) 0 0 (some (.int q.1)) (cW t q.2)
      refine o_iconst (pc := 47) (v := (-1)) dX11_minute_47 rfl ?_
      refine o_istore (pc := 48) dX11_minute_48 (by decide) rfl ?_
      show Rn g mdX11_minute 50 [some (.ref 0), some (.int p0), some (.int p1), some (.int v7), some (.int v8), some (.int (-1)), none, none, none] [] (cW t s) 0 0 (some (.int q.1)) (cW t q.2)
      refine o_iconst (pc := 50) (v := 0) dX11_minute_50 rfl ?_
      refine o_istore (pc := 51) dX11_minute_51 (by decide) rfl ?_
      show Rn g mdX11_minute 53 [some (.ref 0), some (.int p0), some (.int p1), some (.int v7), some (.int v8), some (.int (-1)), some (.int 0), none, none] [] (cW t s) 0 0 (some (.int q.1)) (cW t q.2)
      refine o_iconst (pc := 53) (v := 0) dX11_minute_53 rfl ?_
      refine o_istore (pc := 54) dX11_minute_54 (by decide) rfl ?_
      show Rn g mdX11_minute 56 [some (.ref 0), some (.int p0), some (.int p1), some (.int v7), some (.int v8), some (.int (-1)), some (.int 0), some (.int 0), none] [] (cW t s) 0 0 (some (.int q.1)) (cW t q.2)
      refine o_iconst (pc := 56) (v := 0) dX11_minute_56 rfl ?_
      refine o_iload_n (pc := 57) dX11_minute_57 rfl ?_
      refine o_bipush (pc := 58) (v := 60) dX11_minute_58 rfl ?_
      refine o_isub (pc := 60) dX11_minute_60 ?_
      refine o_max (pc := 61) lmX11_197 dX11_minute_61 (by decide) (Nat.le_of_ble_eq_true rfl) (Nat.zero_le _) (Nat.zero_le _) ?_
      show Rn g mdX11_minute 64 [some (.ref 0), some (.int p0), some (.int p1), some (.int v7), some (.int v8), some (.int (-1)), some (.int 0), some (.int 0), none] [.int (imx 0 (v7 - 60))] (cW t s) 0 0 (some (.int q.1)) (cW t q.2)
      refine lz_i hf (fun v9 hf => ?_)
      refine o_istore (pc := 64) dX11_minute_64 (by decide) rfl ?_
      show Rn g mdX11_minute 66 [some (.ref 0), some (.int p0), some (.int p1), some (.int v7), some (.int v8), some (.int (-1)), some (.int 0), some (.int 0), some (.int v9)] [] (cW t s) 0 0 (some (.int q.1)) (cW t q.2)
      obtain ⟨w30, hl31, hf⟩ := bd_elim hf
      have K32 : Rn g mdX11_minute 171 [none, none, some (.int p1), none, none, some (.int w30.1), some (.int w30.2.1), some (.int w30.2.2.1), none] [] (cW t w30.2.2.2.2) 0 0 (some (.int q.1)) (cW t q.2) := by
        refine o_iload_n (pc := 171) dX11_minute_171 rfl ?_
        refine o_if_ne (pc := 172) 178 dX11_minute_172 rfl (fun hc => ?_) (fun hc => ?_)
        · have hf := it_f hf hc
          refine o_iload_n (pc := 178) dX11_minute_178 rfl ?_
          refine o_iconst (pc := 179) (v := 1) dX11_minute_179 rfl ?_
          obtain ⟨w33, hr34, hf⟩ := bd_elim hf
          have K35 : Rn g mdX11_minute 190 [none, none, none, none, none, none, none, none, none] [.int w33] (cW t w30.2.2.2.2) 0 0 (some (.int q.1)) (cW t q.2) := by
            obtain rfl := Option.some.inj hf
            exact o_ireturn (pc := 190) dX11_minute_190 rfl (Nat.zero_le _) (Nat.zero_le _)
          clear hf
          refine o_icmp_ne (pc := 180) 188 dX11_minute_180 rfl (fun hc => ?_) (fun hc => ?_)
          · have hr34 := it_f hr34 hc
            refine o_iload (pc := 188) dX11_minute_188 rfl ?_
            obtain rfl := Option.some.inj hr34
            refine o_keep [false, false, false, false, false, false, false, false, false] ?_
            exact K35
          · have hr34 := it_t hr34 hc
            refine o_iload (pc := 183) dX11_minute_183 rfl ?_
            refine o_goto (pc := 185) 190 dX11_minute_185 rfl ?_
            obtain rfl := Option.some.inj hr34
            refine o_keep [false, false, false, false, false, false, false, false, false] ?_
            exact K35
        · have hf := it_t hf hc
          refine o_iload (pc := 175) dX11_minute_175 rfl ?_
          obtain rfl := Option.some.inj hf
          exact o_ireturn (pc := 177) dX11_minute_177 rfl (Nat.zero_le _) (Nat.zero_le _)
      refine o_keep [true, true, true, false, true, true, true, true, true] ?_
      exact kX11_minute_L66 _ _ _ _ _ _ _ _ _ hl31 K32
  clear hf
  refine o_if_eq (pc := 5) 17 dX11_minute_5 rfl (fun hc => ?_) (fun hc => ?_)
  · have hr4 := it_t hr4 hc
    obtain rfl := Option.some.inj hr4
    exact KB5.1 rfl
  · have hr4 := it_f hr4 hc
    refine o_iload_n (pc := 8) dX11_minute_8 rfl ?_
    refine o_if_lt (pc := 9) 17 dX11_minute_9 rfl (fun hc => ?_) (fun hc => ?_)
    · have hr4 := it_t hr4 hc
      obtain rfl := Option.some.inj hr4
      exact KB5.1 rfl
    · have hr4 := it_f hr4 hc
      refine o_iload_n (pc := 12) dX11_minute_12 rfl ?_
      refine o_iconst (pc := 13) (v := 2) dX11_minute_13 rfl ?_
      refine o_icmp_le (pc := 14) 19 dX11_minute_14 rfl (fun hc => ?_) (fun hc => ?_)
      · have hr4 := it_t hr4 hc
        obtain rfl := Option.some.inj hr4
        exact KB5.2 (by decide)
      · have hr4 := it_f hr4 hc
        obtain rfl := Option.some.inj hr4
        exact KB5.1 rfl
def fX11_leave_L33 (a1 : Int32) (t : PH) : Nat → Int32 → Int32 → Int32 → ST → Option (Int32 × Int32 × Int32 × ST)
  | 0, _, _, _, _ => none
  | n + 1, x2, x3, x4, s => if (gi s 18 8) ≤ x4 then some (x2, x3, x4, s) else (fX11_startFromNow t s).bind (fun q5 => lt (si q5 30 9 x4) (fun s6 => (fX0_goDay t s6).bind (fun q8 => (if x2 = (-2) then some true else if x3 ≤ (gi q8 30 16) then some false else some true : Option Bool).bind (fun b9 => (if b9 = true then lt (gi q8 30 16 : Int32) (fun v15 => some (x4, v15)) else some (x2, x3) : Option (Int32 × Int32)).bind (fun w12 => lt (x4 + 1) (fun v16 => fX11_leave_L33 a1 t n w12.1 w12.2 v16 q8))))))
def fX11_leave (p0 : Int32) (t : PH) (s : ST) : Option (Int32 × ST) :=
  (if (gi s 18 0) = 0 then some true else if p0 < 0 then some true else if p0 ≤ 1 then some false else some true : Option Bool).bind (fun b1 => if b1 = true then some ((-1), s) else (fX11_leave_L33 p0 t FUEL (-2) (-2) 0 s).bind (fun w17 => (if p0 = 0 then some w17.1 else some w17.2.1 : Option (Int32)).bind (fun w20 => some (w20, w17.2.2.2))))
set_option maxRecDepth 20000 in
theorem kX11_leave_L33 {g : GX} {t : PH} (a1 : Int32) {r : Option Value} {h2 : PH} : ∀ (n : Nat) (x2 : Int32) (x3 : Int32) (x4 : Int32) (s : ST) {w : Int32 × Int32 × Int32 × ST}, fX11_leave_L33 a1 t n x2 x3 x4 s = some w → Rn g mdX11_leave 102 [none, some (.int a1), some (.int w.1), some (.int w.2.1), none] [] (cW t w.2.2.2) 0 0 r h2 → Rn g mdX11_leave 33 [some (.ref 0), some (.int a1), some (.int x2), some (.int x3), some (.int x4)] [] (cW t s) 0 0 r h2 := by
  intro n
  induction n with
  | zero => intro x2 x3 x4 s w hf K; cases hf
  | succ n ih =>
    intro x2 x3 x4 s w hf K
    rw [fX11_leave_L33] at hf
    refine o_iload (pc := 33) dX11_leave_33 rfl ?_
    refine o_aload_n (pc := 35) dX11_leave_35 rfl ?_
    refine c_getR (pc := 36) 10 5 0 17 (by decide) (by decide) rfl (lt48 (by decide)) rfl rfl lkX11_45 dX11_leave_36 ?_
    refine c_getR (pc := 39) 9 0 17 18 (by decide) (by decide) rfl (lt48 (by decide)) rfl rfl lkX11_86 dX11_leave_39 ?_
    refine c_getI (pc := 42) 6 8 18 (by decide) (by decide) rfl (lt48 (by decide)) rfl lkX11_87 dX11_leave_42 ?_
    refine o_icmp_ge (pc := 45) 102 dX11_leave_45 rfl (fun hc => ?_) (fun hc => ?_)
    · have hf := it_t hf hc
      obtain rfl := Option.some.inj hf
      refine o_keep [false, true, true, true, false] ?_
      exact K
    · have hf := it_f hf hc
      refine o_aload_n (pc := 48) dX11_leave_48 rfl ?_
      obtain ⟨q5, hk4, hf⟩ := bd_elim hf
      refine c_callV (pc := 49) 10 0 [] (by decide) (lt48 (by decide)) rfl dX11_leave_49 (kX11_startFromNow hk4) stX11_143 ⟨by decide, by decide, by decide, by decide⟩ ⟨rfl, rfl⟩ (Nat.le_of_ble_eq_true rfl) ?_
      show Rn g mdX11_leave 52 [some (.ref 0), some (.int a1), some (.int x2), some (.int x3), some (.int x4)] [] (cW t q5) 0 0 r h2
      refine o_aload_n (pc := 52) dX11_leave_52 rfl ?_
      refine c_getR (pc := 53) 10 7 0 30 (by decide) (by decide) rfl (lt48 (by decide)) rfl rfl lkX11_56 dX11_leave_53 ?_
      refine o_iload (pc := 56) dX11_leave_56 rfl ?_
      refine c_putI (pc := 58) 0 9 30 (by decide) (by decide) rfl rfl (lt48 (by decide)) rfl lkX11_203 ⟨rfl, rfl⟩ dX11_leave_58 ?_
      refine lz_s (cW t) hf (fun s6 hf => ?_)
      show Rn g mdX11_leave 61 [some (.ref 0), some (.int a1), some (.int x2), some (.int x3), some (.int x4)] [] (cW t s6) 0 0 r h2
      refine o_aload_n (pc := 61) dX11_leave_61 rfl ?_
      refine c_getR (pc := 62) 10 7 0 30 (by decide) (by decide) rfl (lt48 (by decide)) rfl rfl lkX11_56 dX11_leave_62 ?_
      obtain ⟨q8, hk7, hf⟩ := bd_elim hf
      refine c_callV (pc := 65) 0 30 [] (by decide) (lt48 (by decide)) rfl dX11_leave_65 (kX0_goDay hk7) stX11_146 ⟨by decide, by decide, by decide, by decide⟩ ⟨rfl, rfl⟩ (Nat.le_of_ble_eq_true rfl) ?_
      show Rn g mdX11_leave 68 [some (.ref 0), some (.int a1), some (.int x2), some (.int x3), some (.int x4)] [] (cW t q8) 0 0 r h2
      refine o_iload_n (pc := 68) dX11_leave_68 rfl ?_
      refine o_bipush (pc := 69) (v := (-2)) dX11_leave_69 rfl ?_
      obtain ⟨b9, hr10, hf⟩ := bd_elim hf
      obtain ⟨w12, hr13, hf⟩ := bd_elim hf
      have K14 : Rn g mdX11_leave 96 [some (.ref 0), some (.int a1), some (.int w12.1), some (.int w12.2), some (.int x4)] [] (cW t q8) 0 0 r h2 := by
        refine o_iinc (pc := 96) dX11_leave_96 rfl (by decide) rfl ?_
        show Rn g mdX11_leave 99 [some (.ref 0), some (.int a1), some (.int w12.1), some (.int w12.2), some (.int (x4 + 1))] [] (cW t q8) 0 0 r h2
        obtain ⟨v16, ev16, hf⟩ := lt_elim hf
        rw [ev16]
        show Rn g mdX11_leave 99 [some (.ref 0), some (.int a1), some (.int w12.1), some (.int w12.2), some (.int v16)] [] (cW t q8) 0 0 r h2
        refine o_goto (pc := 99) 33 dX11_leave_99 rfl ?_
        exact ih _ _ _ _ hf K
      clear hf
      have KB11 : (b9 = true → Rn g mdX11_leave 85 [some (.ref 0), some (.int a1), some (.int x2), some (.int x3), some (.int x4)] [] (cW t q8) 0 0 r h2) ∧ (¬ b9 = true → Rn g mdX11_leave 96 [some (.ref 0), some (.int a1), some (.int x2), some (.int x3), some (.int x4)] [] (cW t q8) 0 0 r h2) := by
        refine ⟨fun hc => ?_, fun hc => ?_⟩
        · have hr13 := it_t hr13 hc
          refine o_iload (pc := 85) dX11_leave_85 rfl ?_
          refine o_istore_n (pc := 87) dX11_leave_87 (by decide) rfl ?_
          show Rn g mdX11_leave 88 [some (.ref 0), some (.int a1), some (.int x4), some (.int x3), some (.int x4)] [] (cW t q8) 0 0 r h2
          refine o_aload_n (pc := 88) dX11_leave_88 rfl ?_
          refine c_getR (pc := 89) 10 7 0 30 (by decide) (by decide) rfl (lt48 (by decide)) rfl rfl lkX11_56 dX11_leave_89 ?_
          refine c_getI (pc := 92) 0 16 30 (by decide) (by decide) rfl (lt48 (by decide)) rfl lkX11_200 dX11_leave_92 ?_
          refine lz_i hr13 (fun v15 hr13 => ?_)
          refine o_istore_n (pc := 95) dX11_leave_95 (by decide) rfl ?_
          show Rn g mdX11_leave 96 [some (.ref 0), some (.int a1), some (.int x4), some (.int v15), some (.int x4)] [] (cW t q8) 0 0 r h2
          obtain rfl := Option.some.inj hr13
          exact K14
        · have hr13 := it_f hr13 hc
          obtain rfl := Option.some.inj hr13
          exact K14
      clear hr13
      refine o_icmp_eq (pc := 71) 85 dX11_leave_71 rfl (fun hc => ?_) (fun hc => ?_)
      · have hr10 := it_t hr10 hc
        obtain rfl := Option.some.inj hr10
        exact KB11.1 rfl
      · have hr10 := it_f hr10 hc
        refine o_aload_n (pc := 74) dX11_leave_74 rfl ?_
        refine c_getR (pc := 75) 10 7 0 30 (by decide) (by decide) rfl (lt48 (by decide)) rfl rfl lkX11_56 dX11_leave_75 ?_
        refine c_getI (pc := 78) 0 16 30 (by decide) (by decide) rfl (lt48 (by decide)) rfl lkX11_200 dX11_leave_78 ?_
        refine o_iload_n (pc := 81) dX11_leave_81 rfl ?_
        refine o_icmp_ge (pc := 82) 96 dX11_leave_82 rfl (fun hc => ?_) (fun hc => ?_)
        · have hr10 := it_t hr10 hc
          obtain rfl := Option.some.inj hr10
          exact KB11.2 (by decide)
        · have hr10 := it_f hr10 hc
          obtain rfl := Option.some.inj hr10
          exact KB11.1 rfl
set_option maxRecDepth 20000 in
theorem kX11_leave {g : GX} {t : PH} {p0 : Int32} {s : ST} {q : Int32 × ST} (hf : fX11_leave p0 t s = some q) : Cn g mdX11_leave [.ref 0, .int p0] (cW t s) (some (.int q.1)) (cW t q.2) := by
  refine Cn.of (by decide) (Nat.le_of_ble_eq_true rfl) ?_
  show Rn g mdX11_leave 0 [some (.ref 0), some (.int p0), none, none, none] [] (cW t s) 0 0 (some (.int q.1)) (cW t q.2)
  unfold fX11_leave at hf
  refine o_aload_n (pc := 0) dX11_leave_0 rfl ?_
  refine c_getR (pc := 1) 10 5 0 17 (by decide) (by decide) rfl (lt48 (by decide)) rfl rfl lkX11_45 dX11_leave_1 ?_
  refine c_getR (pc := 4) 9 0 17 18 (by decide) (by decide) rfl (lt48 (by decide)) rfl rfl lkX11_86 dX11_leave_4 ?_
  refine c_getI (pc := 7) 6 0 18 (by decide) (by decide) rfl (lt48 (by decide)) rfl lkX11_136 dX11_leave_7 ?_
  obtain ⟨b1, hr2, hf⟩ := bd_elim hf
  have KB3 : (b1 = true → Rn g mdX11_leave 22 [some (.ref 0), some (.int p0), none, none, none] [] (cW t s) 0 0 (some (.int q.1)) (cW t q.2)) ∧ (¬ b1 = true → Rn g mdX11_leave 24 [some (.ref 0), some (.int p0), none, none, none] [] (cW t s) 0 0 (some (.int q.1)) (cW t q.2)) := by
    refine ⟨fun hc => ?_, fun hc => ?_⟩
    · have hf := it_t hf hc
      refine o_iconst (pc := 22) (v := (-1)) dX11_leave_22 rfl ?_
      obtain rfl := Option.some.inj hf
      exact o_ireturn (pc := 23) dX11_leave_23 rfl (Nat.zero_le _) (Nat.zero_le _)
    · have hf := it_f hf hc
      refine o_bipush (pc := 24) (v := (-2)) dX11_leave_24 rfl ?_
      refine o_istore_n (pc := 26) dX11_leave_26 (by decide) rfl ?_
      show Rn g mdX11_leave 27 [some (.ref 0), some (.int p0), some (.int (-2)), none, none] [] (cW t s) 0 0 (some (.int q.1)) (cW t q.2)
      refine o_bipush (pc := 27) (v := (-2)) dX11_leave_27 rfl ?_
      refine o_istore_n (pc := 29) dX11_leave_29 (by decide) rfl ?_
      show Rn g mdX11_leave 30 [some (.ref 0), some (.int p0), some (.int (-2)), some (.int (-2)), none] [] (cW t s) 0 0 (some (.int q.1)) (cW t q.2)
      refine o_iconst (pc := 30) (v := 0) dX11_leave_30 rfl ?_
      refine o_istore (pc := 31) dX11_leave_31 (by decide) rfl ?_
      show Rn g mdX11_leave 33 [some (.ref 0), some (.int p0), some (.int (-2)), some (.int (-2)), some (.int 0)] [] (cW t s) 0 0 (some (.int q.1)) (cW t q.2)
      obtain ⟨w17, hl18, hf⟩ := bd_elim hf
      have K19 : Rn g mdX11_leave 102 [none, some (.int p0), some (.int w17.1), some (.int w17.2.1), none] [] (cW t w17.2.2.2) 0 0 (some (.int q.1)) (cW t q.2) := by
        refine o_iload_n (pc := 102) dX11_leave_102 rfl ?_
        obtain ⟨w20, hr21, hf⟩ := bd_elim hf
        have K22 : Rn g mdX11_leave 111 [none, none, none, none, none] [.int w20] (cW t w17.2.2.2) 0 0 (some (.int q.1)) (cW t q.2) := by
          obtain rfl := Option.some.inj hf
          exact o_ireturn (pc := 111) dX11_leave_111 rfl (Nat.zero_le _) (Nat.zero_le _)
        clear hf
        refine o_if_ne (pc := 103) 110 dX11_leave_103 rfl (fun hc => ?_) (fun hc => ?_)
        · have hr21 := it_f hr21 hc
          refine o_iload_n (pc := 110) dX11_leave_110 rfl ?_
          obtain rfl := Option.some.inj hr21
          refine o_keep [false, false, false, false, false] ?_
          exact K22
        · have hr21 := it_t hr21 hc
          refine o_iload_n (pc := 106) dX11_leave_106 rfl ?_
          refine o_goto (pc := 107) 111 dX11_leave_107 rfl ?_
          obtain rfl := Option.some.inj hr21
          refine o_keep [false, false, false, false, false] ?_
          exact K22
      exact kX11_leave_L33 _ _ _ _ _ _ hl18 K19
  clear hf
  refine o_if_eq (pc := 10) 22 dX11_leave_10 rfl (fun hc => ?_) (fun hc => ?_)
  · have hr2 := it_t hr2 hc
    obtain rfl := Option.some.inj hr2
    exact KB3.1 rfl
  · have hr2 := it_f hr2 hc
    refine o_iload_n (pc := 13) dX11_leave_13 rfl ?_
    refine o_if_lt (pc := 14) 22 dX11_leave_14 rfl (fun hc => ?_) (fun hc => ?_)
    · have hr2 := it_t hr2 hc
      obtain rfl := Option.some.inj hr2
      exact KB3.1 rfl
    · have hr2 := it_f hr2 hc
      refine o_iload_n (pc := 17) dX11_leave_17 rfl ?_
      refine o_iconst (pc := 18) (v := 1) dX11_leave_18 rfl ?_
      refine o_icmp_le (pc := 19) 24 dX11_leave_19 rfl (fun hc => ?_) (fun hc => ?_)
      · have hr2 := it_t hr2 hc
        obtain rfl := Option.some.inj hr2
        exact KB3.2 (by decide)
      · have hr2 := it_f hr2 hc
        obtain rfl := Option.some.inj hr2
        exact KB3.1 rfl
def fX0_fixMeant (p0 : Int32) (p1 : Int32) (p2 : Int32) (s : ST) : Option (ST) :=
  lt (si s 30 10 p0) (fun s1 => lt (si s1 30 11 p1) (fun s2 => lt (si s2 30 12 p2) (fun s3 => some s3)))
set_option maxRecDepth 20000 in
theorem kX0_fixMeant {g : GX} {t : PH} {p0 : Int32} {p1 : Int32} {p2 : Int32} {s : ST} {q : ST} (hf : fX0_fixMeant p0 p1 p2 s = some q) : Cn g mdX0_fixMeant [.ref 30, .int p0, .int p1, .int p2] (cW t s) none (cW t q) := by
  refine Cn.of (by decide) (Nat.le_of_ble_eq_true rfl) ?_
  show Rn g mdX0_fixMeant 0 [some (.ref 30), some (.int p0), some (.int p1), some (.int p2)] [] (cW t s) 0 0 none (cW t q)
  unfold fX0_fixMeant at hf
  refine o_aload_n (pc := 0) dX0_fixMeant_0 rfl ?_
  refine o_iload_n (pc := 1) dX0_fixMeant_1 rfl ?_
  refine c_putI (pc := 2) 0 10 30 (by decide) (by decide) rfl rfl (lt48 (by decide)) rfl lkX0_56 ⟨rfl, rfl⟩ dX0_fixMeant_2 ?_
  refine lz_s (cW t) hf (fun s1 hf => ?_)
  show Rn g mdX0_fixMeant 5 [some (.ref 30), some (.int p0), some (.int p1), some (.int p2)] [] (cW t s1) 0 0 none (cW t q)
  refine o_aload_n (pc := 5) dX0_fixMeant_5 rfl ?_
  refine o_iload_n (pc := 6) dX0_fixMeant_6 rfl ?_
  refine c_putI (pc := 7) 0 11 30 (by decide) (by decide) rfl rfl (lt48 (by decide)) rfl lkX0_59 ⟨rfl, rfl⟩ dX0_fixMeant_7 ?_
  refine lz_s (cW t) hf (fun s2 hf => ?_)
  show Rn g mdX0_fixMeant 10 [some (.ref 30), some (.int p0), some (.int p1), some (.int p2)] [] (cW t s2) 0 0 none (cW t q)
  refine o_aload_n (pc := 10) dX0_fixMeant_10 rfl ?_
  refine o_iload_n (pc := 11) dX0_fixMeant_11 rfl ?_
  refine c_putI (pc := 12) 0 12 30 (by decide) (by decide) rfl rfl (lt48 (by decide)) rfl lkX0_62 ⟨rfl, rfl⟩ dX0_fixMeant_12 ?_
  refine lz_s (cW t) hf (fun s3 hf => ?_)
  show Rn g mdX0_fixMeant 15 [some (.ref 30), some (.int p0), some (.int p1), some (.int p2)] [] (cW t s3) 0 0 none (cW t q)
  obtain rfl := Option.some.inj hf
  exact o_return (pc := 15) dX0_fixMeant_15 rfl (Nat.zero_le _) (Nat.zero_le _)
def fX9_keepTwo (p0 : Int32) (p1 : Int32) (p2 : Int32) (s : ST) : Option (ST) :=
  ck (inb (2 * p0) 98) (lt (si s 45 (ix (2 * p0)) p1) (fun s2 => ck (inb ((2 * p0) + 1) 98) (lt (si s2 45 (ix ((2 * p0) + 1)) p2) (fun s4 => some s4))))
set_option maxRecDepth 20000 in
theorem kX9_keepTwo {g : GX} {t : PH} {p0 : Int32} {p1 : Int32} {p2 : Int32} {s : ST} {q : ST} (hf : fX9_keepTwo p0 p1 p2 s = some q) : Cn g mdX9_keepTwo [.ref 44, .int p0, .int p1, .int p2] (cW t s) none (cW t q) := by
  refine Cn.of (by decide) (Nat.le_of_ble_eq_true rfl) ?_
  show Rn g mdX9_keepTwo 0 [some (.ref 44), some (.int p0), some (.int p1), some (.int p2)] [] (cW t s) 0 0 none (cW t q)
  unfold fX9_keepTwo at hf
  refine o_aload_n (pc := 0) dX9_keepTwo_0 rfl ?_
  refine c_getR (pc := 1) 8 0 44 45 (by decide) (by decide) rfl (lt48 (by decide)) rfl rfl lkX9_13 dX9_keepTwo_1 ?_
  refine o_iconst (pc := 4) (v := 2) dX9_keepTwo_4 rfl ?_
  refine o_iload_n (pc := 5) dX9_keepTwo_5 rfl ?_
  refine o_imul (pc := 6) dX9_keepTwo_6 ?_
  refine o_iload_n (pc := 7) dX9_keepTwo_7 rfl ?_
  obtain ⟨hk1, hf⟩ := ck_elim hf
  refine c_iast (pc := 8) (lt48 (by decide)) rfl hk1 dX9_keepTwo_8 ?_
  refine lz_s (cW t) hf (fun s2 hf => ?_)
  show Rn g mdX9_keepTwo 9 [some (.ref 44), some (.int p0), some (.int p1), some (.int p2)] [] (cW t s2) 0 0 none (cW t q)
  refine o_aload_n (pc := 9) dX9_keepTwo_9 rfl ?_
  refine c_getR (pc := 10) 8 0 44 45 (by decide) (by decide) rfl (lt48 (by decide)) rfl rfl lkX9_13 dX9_keepTwo_10 ?_
  refine o_iconst (pc := 13) (v := 2) dX9_keepTwo_13 rfl ?_
  refine o_iload_n (pc := 14) dX9_keepTwo_14 rfl ?_
  refine o_imul (pc := 15) dX9_keepTwo_15 ?_
  refine o_iconst (pc := 16) (v := 1) dX9_keepTwo_16 rfl ?_
  refine o_iadd (pc := 17) dX9_keepTwo_17 ?_
  refine o_iload_n (pc := 18) dX9_keepTwo_18 rfl ?_
  obtain ⟨hk3, hf⟩ := ck_elim hf
  refine c_iast (pc := 19) (lt48 (by decide)) rfl hk3 dX9_keepTwo_19 ?_
  refine lz_s (cW t) hf (fun s4 hf => ?_)
  show Rn g mdX9_keepTwo 20 [some (.ref 44), some (.int p0), some (.int p1), some (.int p2)] [] (cW t s4) 0 0 none (cW t q)
  obtain rfl := Option.some.inj hf
  exact o_return (pc := 20) dX9_keepTwo_20 rfl (Nat.zero_le _) (Nat.zero_le _)
def fX9_meantByFirst (p0 : Int32) (s : ST) : Option (Int32) :=
  some ((p0 / 7) * 10)
set_option maxRecDepth 20000 in
theorem kX9_meantByFirst {g : GX} {t : PH} {p0 : Int32} {s : ST} {q : Int32} (hf : fX9_meantByFirst p0 s = some q) : Cn g mdX9_meantByFirst [.int p0] (cW t s) (some (.int q)) (cW t s) := by
  refine Cn.of (by decide) (Nat.le_of_ble_eq_true rfl) ?_
  show Rn g mdX9_meantByFirst 0 [some (.int p0)] [] (cW t s) 0 0 (some (.int q)) (cW t s)
  unfold fX9_meantByFirst at hf
  refine o_iload_n (pc := 0) dX9_meantByFirst_0 rfl ?_
  refine o_bipush (pc := 1) (v := 7) dX9_meantByFirst_1 rfl ?_
  refine o_idiv (pc := 3) dX9_meantByFirst_3 (by decide) ?_
  refine o_bipush (pc := 4) (v := 10) dX9_meantByFirst_4 rfl ?_
  refine o_imul (pc := 6) dX9_meantByFirst_6 ?_
  obtain rfl := Option.some.inj hf
  exact o_ireturn (pc := 7) dX9_meantByFirst_7 rfl (Nat.zero_le _) (Nat.zero_le _)
def fX9_meantBySecond (p0 : Int32) (s : ST) : Option (Int32) :=
  some ((p0 - p0 / 7 * 7) * 10)
set_option maxRecDepth 20000 in
theorem kX9_meantBySecond {g : GX} {t : PH} {p0 : Int32} {s : ST} {q : Int32} (hf : fX9_meantBySecond p0 s = some q) : Cn g mdX9_meantBySecond [.int p0] (cW t s) (some (.int q)) (cW t s) := by
  refine Cn.of (by decide) (Nat.le_of_ble_eq_true rfl) ?_
  show Rn g mdX9_meantBySecond 0 [some (.int p0)] [] (cW t s) 0 0 (some (.int q)) (cW t s)
  unfold fX9_meantBySecond at hf
  refine o_iload_n (pc := 0) dX9_meantBySecond_0 rfl ?_
  refine o_bipush (pc := 1) (v := 7) dX9_meantBySecond_1 rfl ?_
  refine o_irem (pc := 3) dX9_meantBySecond_3 (by decide) ?_
  refine o_bipush (pc := 4) (v := 10) dX9_meantBySecond_4 rfl ?_
  refine o_imul (pc := 6) dX9_meantBySecond_6 ?_
  obtain rfl := Option.some.inj hf
  exact o_ireturn (pc := 7) dX9_meantBySecond_7 rfl (Nat.zero_le _) (Nat.zero_le _)
def fX9_neitherParts_L13 (a1 : Int32) (a2 : Int32) (a3 : Int32) : Nat → Int32 → ST → Option (Int32)
  | 0, _, _ => none
  | n + 1, x4, s => if 7 ≤ x4 then some 1 else ck (inb (2 * ((x4 * 7) + a3)) 98) (ck (inb (2 * a1) 98) ((if (gi s 45 (ix (2 * ((x4 * 7) + a3)))) < (gi s 45 (ix (2 * a1))) then some true else ck (inb ((2 * ((a2 * 7) + x4)) + 1) 98) (ck (inb ((2 * a1) + 1) 98) (if (gi s 45 (ix ((2 * a1) + 1))) ≤ (gi s 45 (ix ((2 * ((a2 * 7) + x4)) + 1))) then some false else some true)) : Option Bool).bind (fun b5 => if b5 = true then some 0 else lt (x4 + 1) (fun v10 => fX9_neitherParts_L13 a1 a2 a3 n v10 s))))
def fX9_neitherParts (p0 : Int32) (s : ST) : Option (Int32) :=
  lt (p0 / 7 : Int32) (fun v1 => lt (p0 - p0 / 7 * 7 : Int32) (fun v2 => fX9_neitherParts_L13 p0 v1 v2 FUEL 0 s))
set_option maxRecDepth 20000 in
theorem kX9_neitherParts_L13 {g : GX} {t : PH} (a1 : Int32) (a2 : Int32) (a3 : Int32) (s : ST) : ∀ (n : Nat) (x4 : Int32) {q : Int32}, fX9_neitherParts_L13 a1 a2 a3 n x4 s = some q → Rn g mdX9_neitherParts 13 [some (.ref 44), some (.int a1), some (.int a2), some (.int a3), some (.int x4)] [] (cW t s) 0 0 (some (.int q)) (cW t s) := by
  intro n
  induction n with
  | zero => intro x4 q hf; cases hf
  | succ n ih =>
    intro x4 q hf
    rw [fX9_neitherParts_L13] at hf
    refine o_iload (pc := 13) dX9_neitherParts_13 rfl ?_
    refine o_bipush (pc := 15) (v := 7) dX9_neitherParts_15 rfl ?_
    refine o_icmp_ge (pc := 17) 82 dX9_neitherParts_17 rfl (fun hc => ?_) (fun hc => ?_)
    · have hf := it_t hf hc
      refine o_iconst (pc := 82) (v := 1) dX9_neitherParts_82 rfl ?_
      obtain rfl := Option.some.inj hf
      exact o_zreturn (pc := 83) dX9_neitherParts_83 rfl rfl (Nat.zero_le _) (Nat.zero_le _)
    · have hf := it_f hf hc
      refine o_aload_n (pc := 20) dX9_neitherParts_20 rfl ?_
      refine c_getR (pc := 21) 8 0 44 45 (by decide) (by decide) rfl (lt48 (by decide)) rfl rfl lkX9_13 dX9_neitherParts_21 ?_
      refine o_iconst (pc := 24) (v := 2) dX9_neitherParts_24 rfl ?_
      refine o_iload (pc := 25) dX9_neitherParts_25 rfl ?_
      refine o_bipush (pc := 27) (v := 7) dX9_neitherParts_27 rfl ?_
      refine o_imul (pc := 29) dX9_neitherParts_29 ?_
      refine o_iload_n (pc := 30) dX9_neitherParts_30 rfl ?_
      refine o_iadd (pc := 31) dX9_neitherParts_31 ?_
      refine o_imul (pc := 32) dX9_neitherParts_32 ?_
      obtain ⟨hk3, hf⟩ := ck_elim hf
      refine c_iald (pc := 33) (lt48 (by decide)) rfl hk3 dX9_neitherParts_33 ?_
      refine o_aload_n (pc := 34) dX9_neitherParts_34 rfl ?_
      refine c_getR (pc := 35) 8 0 44 45 (by decide) (by decide) rfl (lt48 (by decide)) rfl rfl lkX9_13 dX9_neitherParts_35 ?_
      refine o_iconst (pc := 38) (v := 2) dX9_neitherParts_38 rfl ?_
      refine o_iload_n (pc := 39) dX9_neitherParts_39 rfl ?_
      refine o_imul (pc := 40) dX9_neitherParts_40 ?_
      obtain ⟨hk4, hf⟩ := ck_elim hf
      refine c_iald (pc := 41) (lt48 (by decide)) rfl hk4 dX9_neitherParts_41 ?_
      obtain ⟨b5, hr6, hf⟩ := bd_elim hf
      have KB7 : (b5 = true → Rn g mdX9_neitherParts 74 [some (.ref 44), some (.int a1), some (.int a2), some (.int a3), some (.int x4)] [] (cW t s) 0 0 (some (.int q)) (cW t s)) ∧ (¬ b5 = true → Rn g mdX9_neitherParts 76 [some (.ref 44), some (.int a1), some (.int a2), some (.int a3), some (.int x4)] [] (cW t s) 0 0 (some (.int q)) (cW t s)) := by
        refine ⟨fun hc => ?_, fun hc => ?_⟩
        · have hf := it_t hf hc
          refine o_iconst (pc := 74) (v := 0) dX9_neitherParts_74 rfl ?_
          obtain rfl := Option.some.inj hf
          exact o_zreturn (pc := 75) dX9_neitherParts_75 rfl rfl (Nat.zero_le _) (Nat.zero_le _)
        · have hf := it_f hf hc
          refine o_iinc (pc := 76) dX9_neitherParts_76 rfl (by decide) rfl ?_
          show Rn g mdX9_neitherParts 79 [some (.ref 44), some (.int a1), some (.int a2), some (.int a3), some (.int (x4 + 1))] [] (cW t s) 0 0 (some (.int q)) (cW t s)
          obtain ⟨v10, ev10, hf⟩ := lt_elim hf
          rw [ev10]
          show Rn g mdX9_neitherParts 79 [some (.ref 44), some (.int a1), some (.int a2), some (.int a3), some (.int v10)] [] (cW t s) 0 0 (some (.int q)) (cW t s)
          refine o_goto (pc := 79) 13 dX9_neitherParts_79 rfl ?_
          exact ih _ hf
      clear hf
      refine o_icmp_lt (pc := 42) 74 dX9_neitherParts_42 rfl (fun hc => ?_) (fun hc => ?_)
      · have hr6 := it_t hr6 hc
        obtain rfl := Option.some.inj hr6
        exact KB7.1 rfl
      · have hr6 := it_f hr6 hc
        refine o_aload_n (pc := 45) dX9_neitherParts_45 rfl ?_
        refine c_getR (pc := 46) 8 0 44 45 (by decide) (by decide) rfl (lt48 (by decide)) rfl rfl lkX9_13 dX9_neitherParts_46 ?_
        refine o_iconst (pc := 49) (v := 2) dX9_neitherParts_49 rfl ?_
        refine o_iload_n (pc := 50) dX9_neitherParts_50 rfl ?_
        refine o_bipush (pc := 51) (v := 7) dX9_neitherParts_51 rfl ?_
        refine o_imul (pc := 53) dX9_neitherParts_53 ?_
        refine o_iload (pc := 54) dX9_neitherParts_54 rfl ?_
        refine o_iadd (pc := 56) dX9_neitherParts_56 ?_
        refine o_imul (pc := 57) dX9_neitherParts_57 ?_
        refine o_iconst (pc := 58) (v := 1) dX9_neitherParts_58 rfl ?_
        refine o_iadd (pc := 59) dX9_neitherParts_59 ?_
        obtain ⟨hk8, hr6⟩ := ck_elim hr6
        refine c_iald (pc := 60) (lt48 (by decide)) rfl hk8 dX9_neitherParts_60 ?_
        refine o_aload_n (pc := 61) dX9_neitherParts_61 rfl ?_
        refine c_getR (pc := 62) 8 0 44 45 (by decide) (by decide) rfl (lt48 (by decide)) rfl rfl lkX9_13 dX9_neitherParts_62 ?_
        refine o_iconst (pc := 65) (v := 2) dX9_neitherParts_65 rfl ?_
        refine o_iload_n (pc := 66) dX9_neitherParts_66 rfl ?_
        refine o_imul (pc := 67) dX9_neitherParts_67 ?_
        refine o_iconst (pc := 68) (v := 1) dX9_neitherParts_68 rfl ?_
        refine o_iadd (pc := 69) dX9_neitherParts_69 ?_
        obtain ⟨hk9, hr6⟩ := ck_elim hr6
        refine c_iald (pc := 70) (lt48 (by decide)) rfl hk9 dX9_neitherParts_70 ?_
        refine o_icmp_ge (pc := 71) 76 dX9_neitherParts_71 rfl (fun hc => ?_) (fun hc => ?_)
        · have hr6 := it_t hr6 hc
          obtain rfl := Option.some.inj hr6
          exact KB7.2 (by decide)
        · have hr6 := it_f hr6 hc
          obtain rfl := Option.some.inj hr6
          exact KB7.1 rfl
set_option maxRecDepth 20000 in
theorem kX9_neitherParts {g : GX} {t : PH} {p0 : Int32} {s : ST} {q : Int32} (hf : fX9_neitherParts p0 s = some q) : Cn g mdX9_neitherParts [.ref 44, .int p0] (cW t s) (some (.int q)) (cW t s) := by
  refine Cn.of (by decide) (Nat.le_of_ble_eq_true rfl) ?_
  show Rn g mdX9_neitherParts 0 [some (.ref 44), some (.int p0), none, none, none] [] (cW t s) 0 0 (some (.int q)) (cW t s)
  unfold fX9_neitherParts at hf
  refine o_iload_n (pc := 0) dX9_neitherParts_0 rfl ?_
  refine o_bipush (pc := 1) (v := 7) dX9_neitherParts_1 rfl ?_
  refine o_idiv (pc := 3) dX9_neitherParts_3 (by decide) ?_
  refine lz_i hf (fun v1 hf => ?_)
  refine o_istore_n (pc := 4) dX9_neitherParts_4 (by decide) rfl ?_
  show Rn g mdX9_neitherParts 5 [some (.ref 44), some (.int p0), some (.int v1), none, none] [] (cW t s) 0 0 (some (.int q)) (cW t s)
  refine o_iload_n (pc := 5) dX9_neitherParts_5 rfl ?_
  refine o_bipush (pc := 6) (v := 7) dX9_neitherParts_6 rfl ?_
  refine o_irem (pc := 8) dX9_neitherParts_8 (by decide) ?_
  refine lz_i hf (fun v2 hf => ?_)
  refine o_istore_n (pc := 9) dX9_neitherParts_9 (by decide) rfl ?_
  show Rn g mdX9_neitherParts 10 [some (.ref 44), some (.int p0), some (.int v1), some (.int v2), none] [] (cW t s) 0 0 (some (.int q)) (cW t s)
  refine o_iconst (pc := 10) (v := 0) dX9_neitherParts_10 rfl ?_
  refine o_istore (pc := 11) dX9_neitherParts_11 (by decide) rfl ?_
  show Rn g mdX9_neitherParts 13 [some (.ref 44), some (.int p0), some (.int v1), some (.int v2), some (.int 0)] [] (cW t s) 0 0 (some (.int q)) (cW t s)
  exact kX9_neitherParts_L13 _ _ _ _ _ _ hf
def fX11_rests_L21 (a1 : Int32) (a2 : Int32) (t : PH) : Nat → Int32 → ST → Option (Int32 × ST)
  | 0, _, _ => none
  | n + 1, x3, s => if 49 ≤ x3 then some (x3, s) else (fX11_startFromNow t s).bind (fun q7 => (fX9_meantByFirst x3 q7).bind (fun q9 => (fX9_meantBySecond x3 q7).bind (fun q11 => (fX0_fixMeant a1 q9 q11 q7).bind (fun q13 => (fX0_goDay t q13).bind (fun q15 => ck (inb (2 * a1) 16) (ck (inb ((2 * a1) + 1) 16) ((fX9_keepTwo x3 (gi q15 38 (ix (2 * a1))) (gi q15 38 (ix ((2 * a1) + 1))) q15).bind (fun q19 => lt (x3 + 1) (fun v20 => fX11_rests_L21 a1 a2 t n v20 q19)))))))))
def fX11_rests_L102 (a2 : Int32) (t : PH) : Nat → Int32 → Int32 → Int32 → ST → Option (Int32 × Int32 × Int32)
  | 0, _, _, _, _ => none
  | n + 1, x3, x4, x5, s => if 49 ≤ x5 then some (x3, x4, x5) else (fX9_neitherParts x5 s).bind (fun q25 => (if q25 = 0 then some (x3, x4) else lt (x3 + 1) (fun v29 => (if x4 = (-1) then some x5 else some x4 : Option (Int32)).bind (fun w30 => some (v29, w30))) : Option (Int32 × Int32)).bind (fun w26 => lt (x5 + 1) (fun v33 => fX11_rests_L102 a2 t n w26.1 w26.2 v33 s)))
def fX11_rests (p0 : Int32) (p1 : Int32) (t : PH) (s : ST) : Option (Int32 × ST) :=
  (fX11_isMeeting p0 s).bind (fun q2 => (if q2 = 0 then some true else if p1 < 0 then some true else if p1 ≤ 2 then some false else some true : Option Bool).bind (fun b3 => if b3 = true then some ((-1), s) else (fX11_rests_L21 p0 p1 t FUEL 0 s).bind (fun w21 => (fX11_rests_L102 p1 t FUEL 0 (-1) 0 w21.2).bind (fun w34 => if p1 = 0 then some (w34.1, w21.2) else if w34.2.1 = (-1) then some ((-2), w21.2) else (if p1 = 1 then (fX9_meantByFirst w34.2.1 w21.2).bind (fun q43 => some q43) else (fX9_meantBySecond w34.2.1 w21.2).bind (fun q41 => some q41) : Option (Int32)).bind (fun w37 => some (w37, w21.2))))))
set_option maxRecDepth 20000 in
theorem kX11_rests_L21 {g : GX} {t : PH} (a1 : Int32) (a2 : Int32) {r : Option Value} {h2 : PH} : ∀ (n : Nat) (x3 : Int32) (s : ST) {w : Int32 × ST}, fX11_rests_L21 a1 a2 t n x3 s = some w → Rn g mdX11_rests 94 [some (.ref 0), none, some (.int a2), none, none, none] [] (cW t w.2) 0 0 r h2 → Rn g mdX11_rests 21 [some (.ref 0), some (.int a1), some (.int a2), some (.int x3), none, none] [] (cW t s) 0 0 r h2 := by
  intro n
  induction n with
  | zero => intro x3 s w hf K; cases hf
  | succ n ih =>
    intro x3 s w hf K
    rw [fX11_rests_L21] at hf
    refine o_iload_n (pc := 21) dX11_rests_21 rfl ?_
    refine o_bipush (pc := 22) (v := 49) dX11_rests_22 rfl ?_
    refine o_icmp_ge (pc := 24) 94 dX11_rests_24 rfl (fun hc => ?_) (fun hc => ?_)
    · have hf := it_t hf hc
      obtain rfl := Option.some.inj hf
      refine o_keep [true, false, true, false, false, false] ?_
      exact K
    · have hf := it_f hf hc
      refine o_aload_n (pc := 27) dX11_rests_27 rfl ?_
      obtain ⟨q7, hk6, hf⟩ := bd_elim hf
      refine c_callV (pc := 28) 10 0 [] (by decide) (lt48 (by decide)) rfl dX11_rests_28 (kX11_startFromNow hk6) stX11_143 ⟨by decide, by decide, by decide, by decide⟩ ⟨rfl, rfl⟩ (Nat.le_of_ble_eq_true rfl) ?_
      show Rn g mdX11_rests 31 [some (.ref 0), some (.int a1), some (.int a2), some (.int x3), none, none] [] (cW t q7) 0 0 r h2
      refine o_aload_n (pc := 31) dX11_rests_31 rfl ?_
      refine c_getR (pc := 32) 10 7 0 30 (by decide) (by decide) rfl (lt48 (by decide)) rfl rfl lkX11_56 dX11_rests_32 ?_
      refine o_iload_n (pc := 35) dX11_rests_35 rfl ?_
      refine o_iload_n (pc := 36) dX11_rests_36 rfl ?_
      obtain ⟨q9, hk8, hf⟩ := bd_elim hf
      refine c_callS (pc := 37) [.int x3] dX11_rests_37 (kX9_meantByFirst hk8) stX11_206 ⟨by decide, by decide, by decide, by decide⟩ ⟨rfl, rfl⟩ (Nat.le_of_ble_eq_true rfl) ?_
      show Rn g mdX11_rests 40 [some (.ref 0), some (.int a1), some (.int a2), some (.int x3), none, none] [.int q9, .int a1, .ref 30] (cW t q7) 0 0 r h2
      refine o_iload_n (pc := 40) dX11_rests_40 rfl ?_
      obtain ⟨q11, hk10, hf⟩ := bd_elim hf
      refine c_callS (pc := 41) [.int x3] dX11_rests_41 (kX9_meantBySecond hk10) stX11_209 ⟨by decide, by decide, by decide, by decide⟩ ⟨rfl, rfl⟩ (Nat.le_of_ble_eq_true rfl) ?_
      show Rn g mdX11_rests 44 [some (.ref 0), some (.int a1), some (.int a2), some (.int x3), none, none] [.int q11, .int q9, .int a1, .ref 30] (cW t q7) 0 0 r h2
      obtain ⟨q13, hk12, hf⟩ := bd_elim hf
      refine c_callV (pc := 44) 0 30 [.int a1, .int q9, .int q11] (by decide) (lt48 (by decide)) rfl dX11_rests_44 (kX0_fixMeant hk12) stX11_212 ⟨by decide, by decide, by decide, by decide⟩ ⟨rfl, rfl⟩ (Nat.le_of_ble_eq_true rfl) ?_
      show Rn g mdX11_rests 47 [some (.ref 0), some (.int a1), some (.int a2), some (.int x3), none, none] [] (cW t q13) 0 0 r h2
      refine o_aload_n (pc := 47) dX11_rests_47 rfl ?_
      refine c_getR (pc := 48) 10 7 0 30 (by decide) (by decide) rfl (lt48 (by decide)) rfl rfl lkX11_56 dX11_rests_48 ?_
      obtain ⟨q15, hk14, hf⟩ := bd_elim hf
      refine c_callV (pc := 51) 0 30 [] (by decide) (lt48 (by decide)) rfl dX11_rests_51 (kX0_goDay hk14) stX11_146 ⟨by decide, by decide, by decide, by decide⟩ ⟨rfl, rfl⟩ (Nat.le_of_ble_eq_true rfl) ?_
      show Rn g mdX11_rests 54 [some (.ref 0), some (.int a1), some (.int a2), some (.int x3), none, none] [] (cW t q15) 0 0 r h2
      refine o_aload_n (pc := 54) dX11_rests_54 rfl ?_
      refine c_getR (pc := 55) 10 7 0 30 (by decide) (by decide) rfl (lt48 (by decide)) rfl rfl lkX11_56 dX11_rests_55 ?_
      refine c_getR (pc := 58) 0 1 30 33 (by decide) (by decide) rfl (lt48 (by decide)) rfl rfl lkX11_170 dX11_rests_58 ?_
      refine c_getR (pc := 61) 1 4 33 38 (by decide) (by decide) rfl (lt48 (by decide)) rfl rfl lkX11_216 dX11_rests_61 ?_
      refine o_astore (pc := 64) dX11_rests_64 (by decide) rfl ?_
      show Rn g mdX11_rests 66 [some (.ref 0), some (.int a1), some (.int a2), some (.int x3), some (.ref 38), none] [] (cW t q15) 0 0 r h2
      refine o_aload_n (pc := 66) dX11_rests_66 rfl ?_
      refine c_getR (pc := 67) 10 8 0 44 (by decide) (by decide) rfl (lt48 (by decide)) rfl rfl lkX11_63 dX11_rests_67 ?_
      refine o_iload_n (pc := 70) dX11_rests_70 rfl ?_
      refine o_aload (pc := 71) dX11_rests_71 rfl ?_
      refine o_iconst (pc := 73) (v := 2) dX11_rests_73 rfl ?_
      refine o_iload_n (pc := 74) dX11_rests_74 rfl ?_
      refine o_imul (pc := 75) dX11_rests_75 ?_
      obtain ⟨hk16, hf⟩ := ck_elim hf
      refine c_iald (pc := 76) (lt48 (by decide)) rfl hk16 dX11_rests_76 ?_
      refine o_aload (pc := 77) dX11_rests_77 rfl ?_
      refine o_iconst (pc := 79) (v := 2) dX11_rests_79 rfl ?_
      refine o_iload_n (pc := 80) dX11_rests_80 rfl ?_
      refine o_imul (pc := 81) dX11_rests_81 ?_
      refine o_iconst (pc := 82) (v := 1) dX11_rests_82 rfl ?_
      refine o_iadd (pc := 83) dX11_rests_83 ?_
      obtain ⟨hk17, hf⟩ := ck_elim hf
      refine c_iald (pc := 84) (lt48 (by decide)) rfl hk17 dX11_rests_84 ?_
      obtain ⟨q19, hk18, hf⟩ := bd_elim hf
      refine c_callV (pc := 85) 8 44 [.int x3, .int (gi q15 38 (ix (2 * a1))), .int (gi q15 38 (ix ((2 * a1) + 1)))] (by decide) (lt48 (by decide)) rfl dX11_rests_85 (kX9_keepTwo hk18) stX11_219 ⟨by decide, by decide, by decide, by decide⟩ ⟨rfl, rfl⟩ (Nat.le_of_ble_eq_true rfl) ?_
      show Rn g mdX11_rests 88 [some (.ref 0), some (.int a1), some (.int a2), some (.int x3), some (.ref 38), none] [] (cW t q19) 0 0 r h2
      refine o_iinc (pc := 88) dX11_rests_88 rfl (by decide) rfl ?_
      show Rn g mdX11_rests 91 [some (.ref 0), some (.int a1), some (.int a2), some (.int (x3 + 1)), some (.ref 38), none] [] (cW t q19) 0 0 r h2
      obtain ⟨v20, ev20, hf⟩ := lt_elim hf
      rw [ev20]
      show Rn g mdX11_rests 91 [some (.ref 0), some (.int a1), some (.int a2), some (.int v20), some (.ref 38), none] [] (cW t q19) 0 0 r h2
      refine o_goto (pc := 91) 21 dX11_rests_91 rfl ?_
      refine o_keep [true, true, true, true, false, false] ?_
      exact ih _ _ hf K
set_option maxRecDepth 20000 in
theorem kX11_rests_L102 {g : GX} {t : PH} (a2 : Int32) (s : ST) {r : Option Value} {h2 : PH} : ∀ (n : Nat) (x3 : Int32) (x4 : Int32) (x5 : Int32) {w : Int32 × Int32 × Int32}, fX11_rests_L102 a2 t n x3 x4 x5 s = some w → Rn g mdX11_rests 145 [none, none, some (.int a2), some (.int w.1), some (.int w.2.1), none] [] (cW t s) 0 0 r h2 → Rn g mdX11_rests 102 [some (.ref 0), none, some (.int a2), some (.int x3), some (.int x4), some (.int x5)] [] (cW t s) 0 0 r h2 := by
  intro n
  induction n with
  | zero => intro x3 x4 x5 w hf K; cases hf
  | succ n ih =>
    intro x3 x4 x5 w hf K
    rw [fX11_rests_L102] at hf
    refine o_iload (pc := 102) dX11_rests_102 rfl ?_
    refine o_bipush (pc := 104) (v := 49) dX11_rests_104 rfl ?_
    refine o_icmp_ge (pc := 106) 145 dX11_rests_106 rfl (fun hc => ?_) (fun hc => ?_)
    · have hf := it_t hf hc
      obtain rfl := Option.some.inj hf
      refine o_keep [false, false, true, true, true, false] ?_
      exact K
    · have hf := it_f hf hc
      refine o_aload_n (pc := 109) dX11_rests_109 rfl ?_
      refine c_getR (pc := 110) 10 8 0 44 (by decide) (by decide) rfl (lt48 (by decide)) rfl rfl lkX11_63 dX11_rests_110 ?_
      refine o_iload (pc := 113) dX11_rests_113 rfl ?_
      obtain ⟨q25, hk24, hf⟩ := bd_elim hf
      refine c_callV (pc := 115) 8 44 [.int x5] (by decide) (lt48 (by decide)) rfl dX11_rests_115 (kX9_neitherParts hk24) stX11_222 ⟨by decide, by decide, by decide, by decide⟩ ⟨rfl, rfl⟩ (Nat.le_of_ble_eq_true rfl) ?_
      show Rn g mdX11_rests 118 [some (.ref 0), none, some (.int a2), some (.int x3), some (.int x4), some (.int x5)] [.int q25] (cW t s) 0 0 r h2
      obtain ⟨w26, hr27, hf⟩ := bd_elim hf
      have K28 : Rn g mdX11_rests 139 [some (.ref 0), none, some (.int a2), some (.int w26.1), some (.int w26.2), some (.int x5)] [] (cW t s) 0 0 r h2 := by
        refine o_iinc (pc := 139) dX11_rests_139 rfl (by decide) rfl ?_
        show Rn g mdX11_rests 142 [some (.ref 0), none, some (.int a2), some (.int w26.1), some (.int w26.2), some (.int (x5 + 1))] [] (cW t s) 0 0 r h2
        obtain ⟨v33, ev33, hf⟩ := lt_elim hf
        rw [ev33]
        show Rn g mdX11_rests 142 [some (.ref 0), none, some (.int a2), some (.int w26.1), some (.int w26.2), some (.int v33)] [] (cW t s) 0 0 r h2
        refine o_goto (pc := 142) 102 dX11_rests_142 rfl ?_
        exact ih _ _ _ hf K
      clear hf
      refine o_if_eq (pc := 118) 139 dX11_rests_118 rfl (fun hc => ?_) (fun hc => ?_)
      · have hr27 := it_t hr27 hc
        obtain rfl := Option.some.inj hr27
        exact K28
      · have hr27 := it_f hr27 hc
        refine o_iinc (pc := 121) dX11_rests_121 rfl (by decide) rfl ?_
        show Rn g mdX11_rests 124 [some (.ref 0), none, some (.int a2), some (.int (x3 + 1)), some (.int x4), some (.int x5)] [] (cW t s) 0 0 r h2
        obtain ⟨v29, ev29, hr27⟩ := lt_elim hr27
        rw [ev29]
        show Rn g mdX11_rests 124 [some (.ref 0), none, some (.int a2), some (.int v29), some (.int x4), some (.int x5)] [] (cW t s) 0 0 r h2
        refine o_iload (pc := 124) dX11_rests_124 rfl ?_
        refine o_iconst (pc := 126) (v := (-1)) dX11_rests_126 rfl ?_
        obtain ⟨w30, hr31, hr27⟩ := bd_elim hr27
        have K32 : Rn g mdX11_rests 137 [some (.ref 0), none, some (.int a2), some (.int v29), none, some (.int x5)] [.int w30] (cW t s) 0 0 r h2 := by
          refine o_istore (pc := 137) dX11_rests_137 (by decide) rfl ?_
          show Rn g mdX11_rests 139 [some (.ref 0), none, some (.int a2), some (.int v29), some (.int w30), some (.int x5)] [] (cW t s) 0 0 r h2
          obtain rfl := Option.some.inj hr27
          exact K28
        clear hr27
        refine o_icmp_ne (pc := 127) 135 dX11_rests_127 rfl (fun hc => ?_) (fun hc => ?_)
        · have hr31 := it_f hr31 hc
          refine o_iload (pc := 135) dX11_rests_135 rfl ?_
          obtain rfl := Option.some.inj hr31
          refine o_keep [true, false, true, true, false, true] ?_
          exact K32
        · have hr31 := it_t hr31 hc
          refine o_iload (pc := 130) dX11_rests_130 rfl ?_
          refine o_goto (pc := 132) 137 dX11_rests_132 rfl ?_
          obtain rfl := Option.some.inj hr31
          refine o_keep [true, false, true, true, false, true] ?_
          exact K32
set_option maxRecDepth 20000 in
theorem kX11_rests {g : GX} {t : PH} {p0 : Int32} {p1 : Int32} {s : ST} {q : Int32 × ST} (hf : fX11_rests p0 p1 t s = some q) : Cn g mdX11_rests [.ref 0, .int p0, .int p1] (cW t s) (some (.int q.1)) (cW t q.2) := by
  refine Cn.of (by decide) (Nat.le_of_ble_eq_true rfl) ?_
  show Rn g mdX11_rests 0 [some (.ref 0), some (.int p0), some (.int p1), none, none, none] [] (cW t s) 0 0 (some (.int q.1)) (cW t q.2)
  unfold fX11_rests at hf
  refine o_aload_n (pc := 0) dX11_rests_0 rfl ?_
  refine o_iload_n (pc := 1) dX11_rests_1 rfl ?_
  obtain ⟨q2, hk1, hf⟩ := bd_elim hf
  refine c_callV (pc := 2) 10 0 [.int p0] (by decide) (lt48 (by decide)) rfl dX11_rests_2 (kX11_isMeeting hk1) stX11_124 ⟨by decide, by decide, by decide, by decide⟩ ⟨rfl, rfl⟩ (Nat.le_of_ble_eq_true rfl) ?_
  show Rn g mdX11_rests 5 [some (.ref 0), some (.int p0), some (.int p1), none, none, none] [.int q2] (cW t s) 0 0 (some (.int q.1)) (cW t q.2)
  obtain ⟨b3, hr4, hf⟩ := bd_elim hf
  have KB5 : (b3 = true → Rn g mdX11_rests 17 [some (.ref 0), some (.int p0), some (.int p1), none, none, none] [] (cW t s) 0 0 (some (.int q.1)) (cW t q.2)) ∧ (¬ b3 = true → Rn g mdX11_rests 19 [some (.ref 0), some (.int p0), some (.int p1), none, none, none] [] (cW t s) 0 0 (some (.int q.1)) (cW t q.2)) := by
    refine ⟨fun hc => ?_, fun hc => ?_⟩
    · have hf := it_t hf hc
      refine o_iconst (pc := 17) (v := (-1)) dX11_rests_17 rfl ?_
      obtain rfl := Option.some.inj hf
      exact o_ireturn (pc := 18) dX11_rests_18 rfl (Nat.zero_le _) (Nat.zero_le _)
    · have hf := it_f hf hc
      refine o_iconst (pc := 19) (v := 0) dX11_rests_19 rfl ?_
      refine o_istore_n (pc := 20) dX11_rests_20 (by decide) rfl ?_
      show Rn g mdX11_rests 21 [some (.ref 0), some (.int p0), some (.int p1), some (.int 0), none, none] [] (cW t s) 0 0 (some (.int q.1)) (cW t q.2)
      obtain ⟨w21, hl22, hf⟩ := bd_elim hf
      have K23 : Rn g mdX11_rests 94 [some (.ref 0), none, some (.int p1), none, none, none] [] (cW t w21.2) 0 0 (some (.int q.1)) (cW t q.2) := by
        refine o_iconst (pc := 94) (v := 0) dX11_rests_94 rfl ?_
        refine o_istore_n (pc := 95) dX11_rests_95 (by decide) rfl ?_
        show Rn g mdX11_rests 96 [some (.ref 0), none, some (.int p1), some (.int 0), none, none] [] (cW t w21.2) 0 0 (some (.int q.1)) (cW t q.2)
        refine o_iconst (pc := 96) (v := (-1)) dX11_rests_96 rfl ?_
        refine o_istore (pc := 97) dX11_rests_97 (by decide) rfl ?_
        show Rn g mdX11_rests 99 [some (.ref 0), none, some (.int p1), some (.int 0), some (.int (-1)), none] [] (cW t w21.2) 0 0 (some (.int q.1)) (cW t q.2)
        refine o_iconst (pc := 99) (v := 0) dX11_rests_99 rfl ?_
        refine o_istore (pc := 100) dX11_rests_100 (by decide) rfl ?_
        show Rn g mdX11_rests 102 [some (.ref 0), none, some (.int p1), some (.int 0), some (.int (-1)), some (.int 0)] [] (cW t w21.2) 0 0 (some (.int q.1)) (cW t q.2)
        obtain ⟨w34, hl35, hf⟩ := bd_elim hf
        have K36 : Rn g mdX11_rests 145 [none, none, some (.int p1), some (.int w34.1), some (.int w34.2.1), none] [] (cW t w21.2) 0 0 (some (.int q.1)) (cW t q.2) := by
          refine o_iload_n (pc := 145) dX11_rests_145 rfl ?_
          refine o_if_ne (pc := 146) 151 dX11_rests_146 rfl (fun hc => ?_) (fun hc => ?_)
          · have hf := it_f hf hc
            refine o_iload (pc := 151) dX11_rests_151 rfl ?_
            refine o_iconst (pc := 153) (v := (-1)) dX11_rests_153 rfl ?_
            refine o_icmp_ne (pc := 154) 160 dX11_rests_154 rfl (fun hc => ?_) (fun hc => ?_)
            · have hf := it_f hf hc
              refine o_iload_n (pc := 160) dX11_rests_160 rfl ?_
              refine o_iconst (pc := 161) (v := 1) dX11_rests_161 rfl ?_
              obtain ⟨w37, hr38, hf⟩ := bd_elim hf
              have K39 : Rn g mdX11_rests 178 [none, none, none, none, none, none] [.int w37] (cW t w21.2) 0 0 (some (.int q.1)) (cW t q.2) := by
                obtain rfl := Option.some.inj hf
                exact o_ireturn (pc := 178) dX11_rests_178 rfl (Nat.zero_le _) (Nat.zero_le _)
              clear hf
              refine o_icmp_ne (pc := 162) 173 dX11_rests_162 rfl (fun hc => ?_) (fun hc => ?_)
              · have hr38 := it_f hr38 hc
                refine o_iload (pc := 173) dX11_rests_173 rfl ?_
                obtain ⟨q41, hk40, hr38⟩ := bd_elim hr38
                refine c_callS (pc := 175) [.int w34.2.1] dX11_rests_175 (kX9_meantBySecond hk40) stX11_209 ⟨by decide, by decide, by decide, by decide⟩ ⟨rfl, rfl⟩ (Nat.le_of_ble_eq_true rfl) ?_
                show Rn g mdX11_rests 178 [none, none, some (.int p1), some (.int w34.1), some (.int w34.2.1), none] [.int q41] (cW t w21.2) 0 0 (some (.int q.1)) (cW t q.2)
                obtain rfl := Option.some.inj hr38
                refine o_keep [false, false, false, false, false, false] ?_
                exact K39
              · have hr38 := it_t hr38 hc
                refine o_iload (pc := 165) dX11_rests_165 rfl ?_
                obtain ⟨q43, hk42, hr38⟩ := bd_elim hr38
                refine c_callS (pc := 167) [.int w34.2.1] dX11_rests_167 (kX9_meantByFirst hk42) stX11_206 ⟨by decide, by decide, by decide, by decide⟩ ⟨rfl, rfl⟩ (Nat.le_of_ble_eq_true rfl) ?_
                show Rn g mdX11_rests 170 [none, none, some (.int p1), some (.int w34.1), some (.int w34.2.1), none] [.int q43] (cW t w21.2) 0 0 (some (.int q.1)) (cW t q.2)
                refine o_goto (pc := 170) 178 dX11_rests_170 rfl ?_
                obtain rfl := Option.some.inj hr38
                refine o_keep [false, false, false, false, false, false] ?_
                exact K39
            · have hf := it_t hf hc
              refine o_bipush (pc := 157) (v := (-2)) dX11_rests_157 rfl ?_
              obtain rfl := Option.some.inj hf
              exact o_ireturn (pc := 159) dX11_rests_159 rfl (Nat.zero_le _) (Nat.zero_le _)
          · have hf := it_t hf hc
            refine o_iload_n (pc := 149) dX11_rests_149 rfl ?_
            obtain rfl := Option.some.inj hf
            exact o_ireturn (pc := 150) dX11_rests_150 rfl (Nat.zero_le _) (Nat.zero_le _)
        exact kX11_rests_L102 _ _ _ _ _ _ hl35 K36
      exact kX11_rests_L21 _ _ _ _ _ hl22 K23
  clear hf
  refine o_if_eq (pc := 5) 17 dX11_rests_5 rfl (fun hc => ?_) (fun hc => ?_)
  · have hr4 := it_t hr4 hc
    obtain rfl := Option.some.inj hr4
    exact KB5.1 rfl
  · have hr4 := it_f hr4 hc
    refine o_iload_n (pc := 8) dX11_rests_8 rfl ?_
    refine o_if_lt (pc := 9) 17 dX11_rests_9 rfl (fun hc => ?_) (fun hc => ?_)
    · have hr4 := it_t hr4 hc
      obtain rfl := Option.some.inj hr4
      exact KB5.1 rfl
    · have hr4 := it_f hr4 hc
      refine o_iload_n (pc := 12) dX11_rests_12 rfl ?_
      refine o_iconst (pc := 13) (v := 2) dX11_rests_13 rfl ?_
      refine o_icmp_le (pc := 14) 19 dX11_rests_14 rfl (fun hc => ?_) (fun hc => ?_)
      · have hr4 := it_t hr4 hc
        obtain rfl := Option.some.inj hr4
        exact KB5.2 (by decide)
      · have hr4 := it_f hr4 hc
        obtain rfl := Option.some.inj hr4
        exact KB5.1 rfl
def fX9_keepState_31 (p0 : Int32) (s : ST) : Option (ST) :=
  ck (cpB 0 (p0 * 10) 10 46 1000) (lt (sAr s 47 (va_cpy (s.1 32) (s.1 47) (ix 0) (ix (p0 * 10)) (ix 10))) (fun s2 => some s2))
set_option maxRecDepth 20000 in
theorem kX9_keepState_31 {g : GX} {t : PH} {p0 : Int32} {s : ST} {q : ST} (hf : fX9_keepState_31 p0 s = some q) : Cn g mdX9_keepState [.ref 44, .int p0, .ref 31] (cW t s) none (cW t q) := by
  refine Cn.of (by decide) (Nat.le_of_ble_eq_true rfl) ?_
  show Rn g mdX9_keepState 0 [some (.ref 44), some (.int p0), some (.ref 31)] [] (cW t s) 0 0 none (cW t q)
  unfold fX9_keepState_31 at hf
  refine o_aload_n (pc := 0) dX9_keepState_0 rfl ?_
  refine c_getR (pc := 1) 4 0 31 32 (by decide) (by decide) rfl (lt48 (by decide)) rfl rfl lkX9_23 dX9_keepState_1 ?_
  refine o_iconst (pc := 4) (v := 0) dX9_keepState_4 rfl ?_
  refine o_aload_n (pc := 5) dX9_keepState_5 rfl ?_
  refine c_getR (pc := 6) 8 2 44 47 (by decide) (by decide) rfl (lt48 (by decide)) rfl rfl lkX9_20 dX9_keepState_6 ?_
  refine o_iload_n (pc := 9) dX9_keepState_9 rfl ?_
  refine o_bipush (pc := 10) (v := 10) dX9_keepState_10 rfl ?_
  refine o_imul (pc := 12) dX9_keepState_12 ?_
  refine o_bipush (pc := 13) (v := 10) dX9_keepState_13 rfl ?_
  obtain ⟨hk1, hf⟩ := ck_elim hf
  refine c_copy (pc := 15) 32 47 46 1000 lmX9_26 dX9_keepState_15 (by decide) (Nat.le_of_ble_eq_true rfl) (lt48 (by decide)) rfl (lt48 (by decide)) rfl hk1 ?_
  refine lz_s (cW t) hf (fun s2 hf => ?_)
  show Rn g mdX9_keepState 18 [some (.ref 44), some (.int p0), some (.ref 31)] [] (cW t s2) 0 0 none (cW t q)
  obtain rfl := Option.some.inj hf
  exact o_return (pc := 18) dX9_keepState_18 rfl (Nat.zero_le _) (Nat.zero_le _)
