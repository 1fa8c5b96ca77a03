def fX9_lastAlike_L10 (a1 : Int32) (a2 : Int32) : Nat → Int32 → ST → Option (Int32)
  | 0, _, _ => none
  | n + 1, x3, s => (if 10 ≤ x3 then some false else ck (inb ((a2 * 10) + x3) 1000) (ck (inb ((a1 * 10) + x3) 1000) (if (gi s 47 (ix ((a2 * 10) + x3))) = (gi s 47 (ix ((a1 * 10) + x3))) then some true else some false)) : Option Bool).bind (fun b2 => if b2 = true then lt (x3 + 1) (fun v7 => fX9_lastAlike_L10 a1 a2 n v7 s) else some x3)
def fX9_lastAlike_L4 (a1 : Int32) : Nat → Int32 → ST → Option (Int32)
  | 0, _, _ => none
  | n + 1, x2, s => if x2 < 0 then some (-1) else (fX9_lastAlike_L10 a1 x2 FUEL 0 s).bind (fun w8 => if w8 = 10 then some x2 else lt (x2 + (-1)) (fun v11 => fX9_lastAlike_L4 a1 n v11 s))
def fX9_lastAlike (p0 : Int32) (s : ST) : Option (Int32) :=
  lt (p0 - 1 : Int32) (fun v1 => fX9_lastAlike_L4 p0 FUEL v1 s)
set_option maxRecDepth 20000 in
theorem kX9_lastAlike_L10 {g : GX} {t : PH} (a1 : Int32) (a2 : Int32) (s : ST) {r : Option Value} {h2 : PH} : ∀ (n : Nat) (x3 : Int32) {w : Int32}, fX9_lastAlike_L10 a1 a2 n x3 s = some w → Rn g mdX9_lastAlike 47 [some (.ref 44), some (.int a1), some (.int a2), some (.int w)] [] (cW t s) 0 0 r h2 → Rn g mdX9_lastAlike 10 [some (.ref 44), some (.int a1), some (.int a2), some (.int x3)] [] (cW t s) 0 0 r h2 := by
  intro n
  induction n with
  | zero => intro x3 w hf K; cases hf
  | succ n ih =>
    intro x3 w hf K
    rw [fX9_lastAlike_L10] at hf
    refine o_iload_n (pc := 10) dX9_lastAlike_10 rfl ?_
    refine o_bipush (pc := 11) (v := 10) dX9_lastAlike_11 rfl ?_
    obtain ⟨b2, hr3, hf⟩ := bd_elim hf
    have KB4 : (b2 = true → Rn g mdX9_lastAlike 41 [some (.ref 44), some (.int a1), some (.int a2), some (.int x3)] [] (cW t s) 0 0 r h2) ∧ (¬ b2 = true → Rn g mdX9_lastAlike 47 [some (.ref 44), some (.int a1), some (.int a2), some (.int x3)] [] (cW t s) 0 0 r h2) := by
      refine ⟨fun hc => ?_, fun hc => ?_⟩
      · have hf := it_t hf hc
        refine o_iinc (pc := 41) dX9_lastAlike_41 rfl (by decide) rfl ?_
        show Rn g mdX9_lastAlike 44 [some (.ref 44), some (.int a1), some (.int a2), some (.int (x3 + 1))] [] (cW t s) 0 0 r h2
        obtain ⟨v7, ev7, hf⟩ := lt_elim hf
        rw [ev7]
        show Rn g mdX9_lastAlike 44 [some (.ref 44), some (.int a1), some (.int a2), some (.int v7)] [] (cW t s) 0 0 r h2
        refine o_goto (pc := 44) 10 dX9_lastAlike_44 rfl ?_
        exact ih _ hf K
      · have hf := it_f hf hc
        obtain rfl := Option.some.inj hf
        exact K
    clear hf
    refine o_icmp_ge (pc := 13) 47 dX9_lastAlike_13 rfl (fun hc => ?_) (fun hc => ?_)
    · have hr3 := it_t hr3 hc
      obtain rfl := Option.some.inj hr3
      exact KB4.2 (by decide)
    · have hr3 := it_f hr3 hc
      refine o_aload_n (pc := 16) dX9_lastAlike_16 rfl ?_
      refine c_getR (pc := 17) 8 2 44 47 (by decide) (by decide) rfl (lt48 (by decide)) rfl rfl lkX9_20 dX9_lastAlike_17 ?_
      refine o_iload_n (pc := 20) dX9_lastAlike_20 rfl ?_
      refine o_bipush (pc := 21) (v := 10) dX9_lastAlike_21 rfl ?_
      refine o_imul (pc := 23) dX9_lastAlike_23 ?_
      refine o_iload_n (pc := 24) dX9_lastAlike_24 rfl ?_
      refine o_iadd (pc := 25) dX9_lastAlike_25 ?_
      obtain ⟨hk5, hr3⟩ := ck_elim hr3
      refine c_iald (pc := 26) (lt48 (by decide)) rfl hk5 dX9_lastAlike_26 ?_
      refine o_aload_n (pc := 27) dX9_lastAlike_27 rfl ?_
      refine c_getR (pc := 28) 8 2 44 47 (by decide) (by decide) rfl (lt48 (by decide)) rfl rfl lkX9_20 dX9_lastAlike_28 ?_
      refine o_iload_n (pc := 31) dX9_lastAlike_31 rfl ?_
      refine o_bipush (pc := 32) (v := 10) dX9_lastAlike_32 rfl ?_
      refine o_imul (pc := 34) dX9_lastAlike_34 ?_
      refine o_iload_n (pc := 35) dX9_lastAlike_35 rfl ?_
      refine o_iadd (pc := 36) dX9_lastAlike_36 ?_
      obtain ⟨hk6, hr3⟩ := ck_elim hr3
      refine c_iald (pc := 37) (lt48 (by decide)) rfl hk6 dX9_lastAlike_37 ?_
      refine o_icmp_ne (pc := 38) 47 dX9_lastAlike_38 rfl (fun hc => ?_) (fun hc => ?_)
      · have hr3 := it_f hr3 hc
        obtain rfl := Option.some.inj hr3
        exact KB4.2 (by decide)
      · have hr3 := it_t hr3 hc
        obtain rfl := Option.some.inj hr3
        exact KB4.1 rfl
set_option maxRecDepth 20000 in
theorem kX9_lastAlike_L4 {g : GX} {t : PH} (a1 : Int32) (s : ST) : ∀ (n : Nat) (x2 : Int32) {q : Int32}, fX9_lastAlike_L4 a1 n x2 s = some q → Rn g mdX9_lastAlike 4 [some (.ref 44), some (.int a1), some (.int x2), none] [] (cW t s) 0 0 (some (.int q)) (cW t s) := by
  intro n
  induction n with
  | zero => intro x2 q hf; cases hf
  | succ n ih =>
    intro x2 q hf
    rw [fX9_lastAlike_L4] at hf
    refine o_iload_n (pc := 4) dX9_lastAlike_4 rfl ?_
    refine o_if_lt (pc := 5) 61 dX9_lastAlike_5 rfl (fun hc => ?_) (fun hc => ?_)
    · have hf := it_t hf hc
      refine o_iconst (pc := 61) (v := (-1)) dX9_lastAlike_61 rfl ?_
      obtain rfl := Option.some.inj hf
      exact o_ireturn (pc := 62) dX9_lastAlike_62 rfl (Nat.zero_le _) (Nat.zero_le _)
    · have hf := it_f hf hc
      refine o_iconst (pc := 8) (v := 0) dX9_lastAlike_8 rfl ?_
      refine o_istore_n (pc := 9) dX9_lastAlike_9 (by decide) rfl ?_
      show Rn g mdX9_lastAlike 10 [some (.ref 44), some (.int a1), some (.int x2), some (.int 0)] [] (cW t s) 0 0 (some (.int q)) (cW t s)
      obtain ⟨w8, hl9, hf⟩ := bd_elim hf
      have K10 : Rn g mdX9_lastAlike 47 [some (.ref 44), some (.int a1), some (.int x2), some (.int w8)] [] (cW t s) 0 0 (some (.int q)) (cW t s) := by
        refine o_iload_n (pc := 47) dX9_lastAlike_47 rfl ?_
        refine o_bipush (pc := 48) (v := 10) dX9_lastAlike_48 rfl ?_
        refine o_icmp_ne (pc := 50) 55 dX9_lastAlike_50 rfl (fun hc => ?_) (fun hc => ?_)
        · have hf := it_f hf hc
          refine o_iinc (pc := 55) dX9_lastAlike_55 rfl (by decide) rfl ?_
          show Rn g mdX9_lastAlike 58 [some (.ref 44), some (.int a1), some (.int (x2 + (-1))), some (.int w8)] [] (cW t s) 0 0 (some (.int q)) (cW t s)
          obtain ⟨v11, ev11, hf⟩ := lt_elim hf
          rw [ev11]
          show Rn g mdX9_lastAlike 58 [some (.ref 44), some (.int a1), some (.int v11), some (.int w8)] [] (cW t s) 0 0 (some (.int q)) (cW t s)
          refine o_goto (pc := 58) 4 dX9_lastAlike_58 rfl ?_
          refine o_keep [true, true, true, false] ?_
          exact ih _ hf
        · have hf := it_t hf hc
          refine o_iload_n (pc := 53) dX9_lastAlike_53 rfl ?_
          obtain rfl := Option.some.inj hf
          exact o_ireturn (pc := 54) dX9_lastAlike_54 rfl (Nat.zero_le _) (Nat.zero_le _)
      exact kX9_lastAlike_L10 _ _ _ _ _ hl9 K10
set_option maxRecDepth 20000 in
theorem kX9_lastAlike {g : GX} {t : PH} {p0 : Int32} {s : ST} {q : Int32} (hf : fX9_lastAlike p0 s = some q) : Cn g mdX9_lastAlike [.ref 44, .int p0] (cW t s) (some (.int q)) (cW t s) := by
  refine Cn.of (by decide) (Nat.le_of_ble_eq_true rfl) ?_
  show Rn g mdX9_lastAlike 0 [some (.ref 44), some (.int p0), none, none] [] (cW t s) 0 0 (some (.int q)) (cW t s)
  unfold fX9_lastAlike at hf
  refine o_iload_n (pc := 0) dX9_lastAlike_0 rfl ?_
  refine o_iconst (pc := 1) (v := 1) dX9_lastAlike_1 rfl ?_
  refine o_isub (pc := 2) dX9_lastAlike_2 ?_
  refine lz_i hf (fun v1 hf => ?_)
  refine o_istore_n (pc := 3) dX9_lastAlike_3 (by decide) rfl ?_
  show Rn g mdX9_lastAlike 4 [some (.ref 44), some (.int p0), some (.int v1), none] [] (cW t s) 0 0 (some (.int q)) (cW t s)
  exact kX9_lastAlike_L4 _ _ _ _ hf
def fX11_again_L45 (a1 : Int32) (t : PH) : Nat → Int32 → ST → Option (Int32 × ST)
  | 0, _, _ => none
  | n + 1, x2, s => if 100 ≤ x2 then some ((-2), s) else (fX0_goDay t s).bind (fun q9 => (fX9_keepState_31 x2 q9).bind (fun q11 => (fX9_lastAlike x2 q11).bind (fun q13 => if q13 = (-1) then lt (x2 + 1) (fun v14 => fX11_again_L45 a1 t n v14 q11) else (if a1 = 0 then ck (inb 45 46) (some ((gi q11 26 (ix 45)) + x2)) else some (x2 - q13) : Option (Int32)).bind (fun w15 => some (w15, q11)))))
def fX11_again (p0 : Int32) (t : PH) (s : ST) : Option (Int32 × ST) :=
  (if (gi s 18 0) = 0 then some true else if p0 < 0 then some true else if p0 ≤ 1 then some false else some true : Option Bool).bind (fun b1 => if b1 = true then some ((-1), s) else (fX11_startFromNow t s).bind (fun q5 => (fX9_keepState_31 0 q5).bind (fun q7 => fX11_again_L45 p0 t FUEL 1 q7)))
set_option maxRecDepth 20000 in
theorem kX11_again_L45 {g : GX} {t : PH} (a1 : Int32) : ∀ (n : Nat) (x2 : Int32) (s : ST) {q : Int32 × ST}, fX11_again_L45 a1 t n x2 s = some q → Rn g mdX11_again 45 [some (.ref 0), some (.int a1), some (.int x2), none] [] (cW t s) 0 0 (some (.int q.1)) (cW t q.2) := by
  intro n
  induction n with
  | zero => intro x2 s q hf; cases hf
  | succ n ih =>
    intro x2 s q hf
    rw [fX11_again_L45] at hf
    refine o_iload_n (pc := 45) dX11_again_45 rfl ?_
    refine o_bipush (pc := 46) (v := 100) dX11_again_46 rfl ?_
    refine o_icmp_ge (pc := 48) 119 dX11_again_48 rfl (fun hc => ?_) (fun hc => ?_)
    · have hf := it_t hf hc
      refine o_bipush (pc := 119) (v := (-2)) dX11_again_119 rfl ?_
      obtain rfl := Option.some.inj hf
      exact o_ireturn (pc := 121) dX11_again_121 rfl (Nat.zero_le _) (Nat.zero_le _)
    · have hf := it_f hf hc
      refine o_aload_n (pc := 51) dX11_again_51 rfl ?_
      refine c_getR (pc := 52) 10 7 0 30 (by decide) (by decide) rfl (lt48 (by decide)) rfl rfl lkX11_56 dX11_again_52 ?_
      obtain ⟨q9, hk8, hf⟩ := bd_elim hf
      refine c_callV (pc := 55) 0 30 [] (by decide) (lt48 (by decide)) rfl dX11_again_55 (kX0_goDay hk8) stX11_146 ⟨by decide, by decide, by decide, by decide⟩ ⟨rfl, rfl⟩ (Nat.le_of_ble_eq_true rfl) ?_
      show Rn g mdX11_again 58 [some (.ref 0), some (.int a1), some (.int x2), none] [] (cW t q9) 0 0 (some (.int q.1)) (cW t q.2)
      refine o_aload_n (pc := 58) dX11_again_58 rfl ?_
      refine c_getR (pc := 59) 10 8 0 44 (by decide) (by decide) rfl (lt48 (by decide)) rfl rfl lkX11_63 dX11_again_59 ?_
      refine o_iload_n (pc := 62) dX11_again_62 rfl ?_
      refine o_aload_n (pc := 63) dX11_again_63 rfl ?_
      refine c_getR (pc := 64) 10 7 0 30 (by decide) (by decide) rfl (lt48 (by decide)) rfl rfl lkX11_56 dX11_again_64 ?_
      refine c_getR (pc := 67) 0 0 30 31 (by decide) (by decide) rfl (lt48 (by decide)) rfl rfl lkX11_149 dX11_again_67 ?_
      obtain ⟨q11, hk10, hf⟩ := bd_elim hf
      refine c_callV (pc := 70) 8 44 [.int x2, .ref 31] (by decide) (lt48 (by decide)) rfl dX11_again_70 (kX9_keepState_31 hk10) stX11_225 ⟨by decide, by decide, by decide, by decide⟩ ⟨rfl, rfl⟩ (Nat.le_of_ble_eq_true rfl) ?_
      show Rn g mdX11_again 73 [some (.ref 0), some (.int a1), some (.int x2), none] [] (cW t q11) 0 0 (some (.int q.1)) (cW t q.2)
      refine o_aload_n (pc := 73) dX11_again_73 rfl ?_
      refine c_getR (pc := 74) 10 8 0 44 (by decide) (by decide) rfl (lt48 (by decide)) rfl rfl lkX11_63 dX11_again_74 ?_
      refine o_iload_n (pc := 77) dX11_again_77 rfl ?_
      obtain ⟨q13, hk12, hf⟩ := bd_elim hf
      refine c_callV (pc := 78) 8 44 [.int x2] (by decide) (lt48 (by decide)) rfl dX11_again_78 (kX9_lastAlike hk12) stX11_229 ⟨by decide, by decide, by decide, by decide⟩ ⟨rfl, rfl⟩ (Nat.le_of_ble_eq_true rfl) ?_
      show Rn g mdX11_again 81 [some (.ref 0), some (.int a1), some (.int x2), none] [.int q13] (cW t q11) 0 0 (some (.int q.1)) (cW t q.2)
      refine o_istore_n (pc := 81) dX11_again_81 (by decide) rfl ?_
      show Rn g mdX11_again 82 [some (.ref 0), some (.int a1), some (.int x2), some (.int q13)] [] (cW t q11) 0 0 (some (.int q.1)) (cW t q.2)
      refine o_iload_n (pc := 82) dX11_again_82 rfl ?_
      refine o_iconst (pc := 83) (v := (-1)) dX11_again_83 rfl ?_
      refine o_icmp_eq (pc := 84) 113 dX11_again_84 rfl (fun hc => ?_) (fun hc => ?_)
      · have hf := it_t hf hc
        refine o_iinc (pc := 113) dX11_again_113 rfl (by decide) rfl ?_
        show Rn g mdX11_again 116 [some (.ref 0), some (.int a1), some (.int (x2 + 1)), some (.int q13)] [] (cW t q11) 0 0 (some (.int q.1)) (cW t q.2)
        obtain ⟨v14, ev14, hf⟩ := lt_elim hf
        rw [ev14]
        show Rn g mdX11_again 116 [some (.ref 0), some (.int a1), some (.int v14), some (.int q13)] [] (cW t q11) 0 0 (some (.int q.1)) (cW t q.2)
        refine o_goto (pc := 116) 45 dX11_again_116 rfl ?_
        refine o_keep [true, true, true, false] ?_
        exact ih _ _ hf
      · have hf := it_f hf hc
        refine o_iload_n (pc := 87) dX11_again_87 rfl ?_
        obtain ⟨w15, hr16, hf⟩ := bd_elim hf
        have K17 : Rn g mdX11_again 112 [none, none, none, none] [.int w15] (cW t q11) 0 0 (some (.int q.1)) (cW t q.2) := by
          obtain rfl := Option.some.inj hf
          exact o_ireturn (pc := 112) dX11_again_112 rfl (Nat.zero_le _) (Nat.zero_le _)
        clear hf
        refine o_if_ne (pc := 88) 109 dX11_again_88 rfl (fun hc => ?_) (fun hc => ?_)
        · have hr16 := it_f hr16 hc
          refine o_iload_n (pc := 109) dX11_again_109 rfl ?_
          refine o_iload_n (pc := 110) dX11_again_110 rfl ?_
          refine o_isub (pc := 111) dX11_again_111 ?_
          obtain rfl := Option.some.inj hr16
          refine o_keep [false, false, false, false] ?_
          exact K17
        · have hr16 := it_t hr16 hc
          refine o_aload_n (pc := 91) dX11_again_91 rfl ?_
          refine c_getR (pc := 92) 10 5 0 17 (by decide) (by decide) rfl (lt48 (by decide)) rfl rfl lkX11_45 dX11_again_92 ?_
          refine c_getR (pc := 95) 9 1 17 25 (by decide) (by decide) rfl (lt48 (by decide)) rfl rfl lkX11_104 dX11_again_95 ?_
          refine c_getR (pc := 98) 4 0 25 26 (by decide) (by decide) rfl (lt48 (by decide)) rfl rfl lkX11_108 dX11_again_98 ?_
          refine o_bipush (pc := 101) (v := 45) dX11_again_101 rfl ?_
          obtain ⟨hk18, hr16⟩ := ck_elim hr16
          refine c_iald (pc := 103) (lt48 (by decide)) rfl hk18 dX11_again_103 ?_
          refine o_iload_n (pc := 104) dX11_again_104 rfl ?_
          refine o_iadd (pc := 105) dX11_again_105 ?_
          refine o_goto (pc := 106) 112 dX11_again_106 rfl ?_
          obtain rfl := Option.some.inj hr16
          refine o_keep [false, false, false, false] ?_
          exact K17
set_option maxRecDepth 20000 in
theorem kX11_again {g : GX} {t : PH} {p0 : Int32} {s : ST} {q : Int32 × ST} (hf : fX11_again p0 t s = some q) : Cn g mdX11_again [.ref 0, .int p0] (cW t s) (some (.int q.1)) (cW t q.2) := by
  refine Cn.of (by decide) (Nat.le_of_ble_eq_true rfl) ?_
  show Rn g mdX11_again 0 [some (.ref 0), some (.int p0), none, none] [] (cW t s) 0 0 (some (.int q.1)) (cW t q.2)
  unfold fX11_again at hf
  refine o_aload_n (pc := 0) dX11_again_0 rfl ?_
  refine c_getR (pc := 1) 10 5 0 17 (by decide) (by decide) rfl (lt48 (by decide)) rfl rfl lkX11_45 dX11_again_1 ?_
  refine c_getR (pc := 4) 9 0 17 18 (by decide) (by decide) rfl (lt48 (by decide)) rfl rfl lkX11_86 dX11_again_4 ?_
  refine c_getI (pc := 7) 6 0 18 (by decide) (by decide) rfl (lt48 (by decide)) rfl lkX11_136 dX11_again_7 ?_
  obtain ⟨b1, hr2, hf⟩ := bd_elim hf
  have KB3 : (b1 = true → Rn g mdX11_again 22 [some (.ref 0), some (.int p0), none, none] [] (cW t s) 0 0 (some (.int q.1)) (cW t q.2)) ∧ (¬ b1 = true → Rn g mdX11_again 24 [some (.ref 0), some (.int p0), none, none] [] (cW t s) 0 0 (some (.int q.1)) (cW t q.2)) := by
    refine ⟨fun hc => ?_, fun hc => ?_⟩
    · have hf := it_t hf hc
      refine o_iconst (pc := 22) (v := (-1)) dX11_again_22 rfl ?_
      obtain rfl := Option.some.inj hf
      exact o_ireturn (pc := 23) dX11_again_23 rfl (Nat.zero_le _) (Nat.zero_le _)
    · have hf := it_f hf hc
      refine o_aload_n (pc := 24) dX11_again_24 rfl ?_
      obtain ⟨q5, hk4, hf⟩ := bd_elim hf
      refine c_callV (pc := 25) 10 0 [] (by decide) (lt48 (by decide)) rfl dX11_again_25 (kX11_startFromNow hk4) stX11_143 ⟨by decide, by decide, by decide, by decide⟩ ⟨rfl, rfl⟩ (Nat.le_of_ble_eq_true rfl) ?_
      show Rn g mdX11_again 28 [some (.ref 0), some (.int p0), none, none] [] (cW t q5) 0 0 (some (.int q.1)) (cW t q.2)
      refine o_aload_n (pc := 28) dX11_again_28 rfl ?_
      refine c_getR (pc := 29) 10 8 0 44 (by decide) (by decide) rfl (lt48 (by decide)) rfl rfl lkX11_63 dX11_again_29 ?_
      refine o_iconst (pc := 32) (v := 0) dX11_again_32 rfl ?_
      refine o_aload_n (pc := 33) dX11_again_33 rfl ?_
      refine c_getR (pc := 34) 10 7 0 30 (by decide) (by decide) rfl (lt48 (by decide)) rfl rfl lkX11_56 dX11_again_34 ?_
      refine c_getR (pc := 37) 0 0 30 31 (by decide) (by decide) rfl (lt48 (by decide)) rfl rfl lkX11_149 dX11_again_37 ?_
      obtain ⟨q7, hk6, hf⟩ := bd_elim hf
      refine c_callV (pc := 40) 8 44 [.int 0, .ref 31] (by decide) (lt48 (by decide)) rfl dX11_again_40 (kX9_keepState_31 hk6) stX11_225 ⟨by decide, by decide, by decide, by decide⟩ ⟨rfl, rfl⟩ (Nat.le_of_ble_eq_true rfl) ?_
      show Rn g mdX11_again 43 [some (.ref 0), some (.int p0), none, none] [] (cW t q7) 0 0 (some (.int q.1)) (cW t q.2)
      refine o_iconst (pc := 43) (v := 1) dX11_again_43 rfl ?_
      refine o_istore_n (pc := 44) dX11_again_44 (by decide) rfl ?_
      show Rn g mdX11_again 45 [some (.ref 0), some (.int p0), some (.int 1), none] [] (cW t q7) 0 0 (some (.int q.1)) (cW t q.2)
      exact kX11_again_L45 _ _ _ _ hf
  clear hf
  refine o_if_eq (pc := 10) 22 dX11_again_10 rfl (fun hc => ?_) (fun hc => ?_)
  · have hr2 := it_t hr2 hc
    obtain rfl := Option.some.inj hr2
    exact KB3.1 rfl
  · have hr2 := it_f hr2 hc
    refine o_iload_n (pc := 13) dX11_again_13 rfl ?_
    refine o_if_lt (pc := 14) 22 dX11_again_14 rfl (fun hc => ?_) (fun hc => ?_)
    · have hr2 := it_t hr2 hc
      obtain rfl := Option.some.inj hr2
      exact KB3.1 rfl
    · have hr2 := it_f hr2 hc
      refine o_iload_n (pc := 17) dX11_again_17 rfl ?_
      refine o_iconst (pc := 18) (v := 1) dX11_again_18 rfl ?_
      refine o_icmp_le (pc := 19) 24 dX11_again_19 rfl (fun hc => ?_) (fun hc => ?_)
      · have hr2 := it_t hr2 hc
        obtain rfl := Option.some.inj hr2
        exact KB3.2 (by decide)
      · have hr2 := it_f hr2 hc
        obtain rfl := Option.some.inj hr2
        exact KB3.1 rfl
def fX11_isSpan (p0 : Int32) (s : ST) : Option (Int32) :=
  (if (gi s 18 0) = 0 then some false else if p0 < 1 then some false else if 20 < p0 then some false else some true : Option Bool).bind (fun b1 => (if b1 = true then some 1 else some 0 : Option (Int32)).bind (fun w4 => ck (bz w4) (some w4)))
set_option maxRecDepth 20000 in
theorem kX11_isSpan {g : GX} {t : PH} {p0 : Int32} {s : ST} {q : Int32} (hf : fX11_isSpan p0 s = some q) : Cn g mdX11_isSpan [.ref 0, .int p0] (cW t s) (some (.int q)) (cW t s) := by
  refine Cn.of (by decide) (Nat.le_of_ble_eq_true rfl) ?_
  show Rn g mdX11_isSpan 0 [some (.ref 0), some (.int p0)] [] (cW t s) 0 0 (some (.int q)) (cW t s)
  unfold fX11_isSpan at hf
  refine o_aload_n (pc := 0) dX11_isSpan_0 rfl ?_
  refine c_getR (pc := 1) 10 5 0 17 (by decide) (by decide) rfl (lt48 (by decide)) rfl rfl lkX11_45 dX11_isSpan_1 ?_
  refine c_getR (pc := 4) 9 0 17 18 (by decide) (by decide) rfl (lt48 (by decide)) rfl rfl lkX11_86 dX11_isSpan_4 ?_
  refine c_getI (pc := 7) 6 0 18 (by decide) (by decide) rfl (lt48 (by decide)) rfl lkX11_136 dX11_isSpan_7 ?_
  obtain ⟨b1, hr2, hf⟩ := bd_elim hf
  obtain ⟨w4, hr5, hf⟩ := bd_elim hf
  have K6 : Rn g mdX11_isSpan 29 [none, none] [.int w4] (cW t s) 0 0 (some (.int q)) (cW t s) := by
    obtain ⟨hk7, hf⟩ := ck_elim hf
    obtain rfl := Option.some.inj hf
    exact o_zreturn (pc := 29) dX11_isSpan_29 rfl (bz_n hk7).1 (Nat.zero_le _) (Nat.zero_le _)
  clear hf
  have KB3 : (b1 = true → Rn g mdX11_isSpan 24 [some (.ref 0), some (.int p0)] [] (cW t s) 0 0 (some (.int q)) (cW t s)) ∧ (¬ b1 = true → Rn g mdX11_isSpan 28 [some (.ref 0), some (.int p0)] [] (cW t s) 0 0 (some (.int q)) (cW t s)) := by
    refine ⟨fun hc => ?_, fun hc => ?_⟩
    · have hr5 := it_t hr5 hc
      refine o_iconst (pc := 24) (v := 1) dX11_isSpan_24 rfl ?_
      refine o_goto (pc := 25) 29 dX11_isSpan_25 rfl ?_
      obtain rfl := Option.some.inj hr5
      refine o_keep [false, false] ?_
      exact K6
    · have hr5 := it_f hr5 hc
      refine o_iconst (pc := 28) (v := 0) dX11_isSpan_28 rfl ?_
      obtain rfl := Option.some.inj hr5
      refine o_keep [false, false] ?_
      exact K6
  clear hr5
  refine o_if_eq (pc := 10) 28 dX11_isSpan_10 rfl (fun hc => ?_) (fun hc => ?_)
  · have hr2 := it_t hr2 hc
    obtain rfl := Option.some.inj hr2
    exact KB3.2 (by decide)
  · have hr2 := it_f hr2 hc
    refine o_iload_n (pc := 13) dX11_isSpan_13 rfl ?_
    refine o_iconst (pc := 14) (v := 1) dX11_isSpan_14 rfl ?_
    refine o_icmp_lt (pc := 15) 28 dX11_isSpan_15 rfl (fun hc => ?_) (fun hc => ?_)
    · have hr2 := it_t hr2 hc
      obtain rfl := Option.some.inj hr2
      exact KB3.2 (by decide)
    · have hr2 := it_f hr2 hc
      refine o_iload_n (pc := 18) dX11_isSpan_18 rfl ?_
      refine o_bipush (pc := 19) (v := 20) dX11_isSpan_19 rfl ?_
      refine o_icmp_gt (pc := 21) 28 dX11_isSpan_21 rfl (fun hc => ?_) (fun hc => ?_)
      · have hr2 := it_t hr2 hc
        obtain rfl := Option.some.inj hr2
        exact KB3.2 (by decide)
      · have hr2 := it_f hr2 hc
        obtain rfl := Option.some.inj hr2
        exact KB3.1 rfl
def fX11_law_L46 (a1 : Int32) (a2 : Int32) (a6 : Int32) (t : PH) : Nat → Int32 → Int32 → Int32 → Int32 → ST → Option (Int32 × Int32 × Int32 × Int32 × ST)
  | 0, _, _, _, _, _ => none
  | n + 1, x3, x4, x5, x7, s => if 60 < x7 then some (x3, x4, x5, x7, s) else (fX11_startFromNow t s).bind (fun q8 => lt (si q8 30 7 a6) (fun s9 => lt (si s9 30 8 x7) (fun s10 => (fX0_goDays a1 t s10).bind (fun q12 => (if x3 = (-1) then some true else if x5 ≤ (gi q12 30 16) then some false else some true : Option Bool).bind (fun b13 => (if b13 = true then lt (gi q12 30 16 : Int32) (fun v19 => some (a6, x7, v19)) else some (x3, x4, x5) : Option (Int32 × Int32 × Int32)).bind (fun w16 => lt (x7 + 10) (fun v20 => fX11_law_L46 a1 a2 a6 t n w16.1 w16.2.1 w16.2.2 v20 q12)))))))
def fX11_law_L30 (a1 : Int32) (a2 : Int32) (t : PH) : Nat → Int32 → Int32 → Int32 → Int32 → ST → Option (Int32 × Int32 × Int32 × Int32 × ST)
  | 0, _, _, _, _, _ => none
  | n + 1, x3, x4, x5, x6, s => if 50 < x6 then some (x3, x4, x5, x6, s) else lt (imx 10 x6 : Int32) (fun v6 => (fX11_law_L46 a1 a2 x6 t FUEL x3 x4 x5 v6 s).bind (fun w21 => lt (x6 + 10) (fun v24 => fX11_law_L30 a1 a2 t n w21.1 w21.2.1 w21.2.2.1 v24 w21.2.2.2.2)))
def fX11_law (p0 : Int32) (p1 : Int32) (t : PH) (s : ST) : Option (Int32 × ST) :=
  (fX11_isSpan p0 s).bind (fun q2 => (if q2 = 0 then some true else if p1 < 0 then some true else if p1 ≤ 2 then some false else some true : Option Bool).bind (fun b3 => if b3 = true then some ((-1), s) else (fX11_law_L30 p0 p1 t FUEL (-1) (-1) 0 0 s).bind (fun w25 => if p1 = 0 then some (w25.1, w25.2.2.2.2) else (if p1 = 1 then some w25.2.1 else some w25.2.2.1 : Option (Int32)).bind (fun w28 => some (w28, w25.2.2.2.2)))))
set_option maxRecDepth 20000 in
theorem kX11_law_L46 {g : GX} {t : PH} (a1 : Int32) (a2 : Int32) (a6 : Int32) {r : Option Value} {h2 : PH} : ∀ (n : Nat) (x3 : Int32) (x4 : Int32) (x5 : Int32) (x7 : Int32) (s : ST) {w : Int32 × Int32 × Int32 × Int32 × ST}, fX11_law_L46 a1 a2 a6 t n x3 x4 x5 x7 s = some w → Rn g mdX11_law 122 [some (.ref 0), some (.int a1), some (.int a2), some (.int w.1), some (.int w.2.1), some (.int w.2.2.1), some (.int a6), none] [] (cW t w.2.2.2.2) 0 0 r h2 → Rn g mdX11_law 46 [some (.ref 0), some (.int a1), some (.int a2), some (.int x3), some (.int x4), some (.int x5), some (.int a6), some (.int x7)] [] (cW t s) 0 0 r h2 := by
  intro n
  induction n with
  | zero => intro x3 x4 x5 x7 s w hf K; cases hf
  | succ n ih =>
    intro x3 x4 x5 x7 s w hf K
    rw [fX11_law_L46] at hf
    refine o_iload (pc := 46) dX11_law_46 rfl ?_
    refine o_bipush (pc := 48) (v := 60) dX11_law_48 rfl ?_
    refine o_icmp_gt (pc := 50) 122 dX11_law_50 rfl (fun hc => ?_) (fun hc => ?_)
    · have hf := it_t hf hc
      obtain rfl := Option.some.inj hf
      refine o_keep [true, true, true, true, true, true, true, false] ?_
      exact K
    · have hf := it_f hf hc
      refine o_aload_n (pc := 53) dX11_law_53 rfl ?_
      obtain ⟨q8, hk7, hf⟩ := bd_elim hf
      refine c_callV (pc := 54) 10 0 [] (by decide) (lt48 (by decide)) rfl dX11_law_54 (kX11_startFromNow hk7) stX11_143 ⟨by decide, by decide, by decide, by decide⟩ ⟨rfl, rfl⟩ (Nat.le_of_ble_eq_true rfl) ?_
      show Rn g mdX11_law 57 [some (.ref 0), some (.int a1), some (.int a2), some (.int x3), some (.int x4), some (.int x5), some (.int a6), some (.int x7)] [] (cW t q8) 0 0 r h2
      refine o_aload_n (pc := 57) dX11_law_57 rfl ?_
      refine c_getR (pc := 58) 10 7 0 30 (by decide) (by decide) rfl (lt48 (by decide)) rfl rfl lkX11_56 dX11_law_58 ?_
      refine o_iload (pc := 61) dX11_law_61 rfl ?_
      refine c_putI (pc := 63) 0 7 30 (by decide) (by decide) rfl rfl (lt48 (by decide)) rfl lkX11_235 ⟨rfl, rfl⟩ dX11_law_63 ?_
      refine lz_s (cW t) hf (fun s9 hf => ?_)
      show Rn g mdX11_law 66 [some (.ref 0), some (.int a1), some (.int a2), some (.int x3), some (.int x4), some (.int x5), some (.int a6), some (.int x7)] [] (cW t s9) 0 0 r h2
      refine o_aload_n (pc := 66) dX11_law_66 rfl ?_
      refine c_getR (pc := 67) 10 7 0 30 (by decide) (by decide) rfl (lt48 (by decide)) rfl rfl lkX11_56 dX11_law_67 ?_
      refine o_iload (pc := 70) dX11_law_70 rfl ?_
      refine c_putI (pc := 72) 0 8 30 (by decide) (by decide) rfl rfl (lt48 (by decide)) rfl lkX11_238 ⟨rfl, rfl⟩ dX11_law_72 ?_
      refine lz_s (cW t) hf (fun s10 hf => ?_)
      show Rn g mdX11_law 75 [some (.ref 0), some (.int a1), some (.int a2), some (.int x3), some (.int x4), some (.int x5), some (.int a6), some (.int x7)] [] (cW t s10) 0 0 r h2
      refine o_aload_n (pc := 75) dX11_law_75 rfl ?_
      refine c_getR (pc := 76) 10 7 0 30 (by decide) (by decide) rfl (lt48 (by decide)) rfl rfl lkX11_56 dX11_law_76 ?_
      refine o_iload_n (pc := 79) dX11_law_79 rfl ?_
      obtain ⟨q12, hk11, hf⟩ := bd_elim hf
      refine c_callV (pc := 80) 0 30 [.int a1] (by decide) (lt48 (by decide)) rfl dX11_law_80 (kX0_goDays hk11) stX11_167 ⟨by decide, by decide, by decide, by decide⟩ ⟨rfl, rfl⟩ (Nat.le_of_ble_eq_true rfl) ?_
      show Rn g mdX11_law 83 [some (.ref 0), some (.int a1), some (.int a2), some (.int x3), some (.int x4), some (.int x5), some (.int a6), some (.int x7)] [] (cW t q12) 0 0 r h2
      refine o_iload_n (pc := 83) dX11_law_83 rfl ?_
      refine o_iconst (pc := 84) (v := (-1)) dX11_law_84 rfl ?_
      obtain ⟨b13, hr14, hf⟩ := bd_elim hf
      obtain ⟨w16, hr17, hf⟩ := bd_elim hf
      have K18 : Rn g mdX11_law 116 [some (.ref 0), some (.int a1), some (.int a2), some (.int w16.1), some (.int w16.2.1), some (.int w16.2.2), some (.int a6), some (.int x7)] [] (cW t q12) 0 0 r h2 := by
        refine o_iinc (pc := 116) dX11_law_116 rfl (by decide) rfl ?_
        show Rn g mdX11_law 119 [some (.ref 0), some (.int a1), some (.int a2), some (.int w16.1), some (.int w16.2.1), some (.int w16.2.2), some (.int a6), some (.int (x7 + 10))] [] (cW t q12) 0 0 r h2
        obtain ⟨v20, ev20, hf⟩ := lt_elim hf
        rw [ev20]
        show Rn g mdX11_law 119 [some (.ref 0), some (.int a1), some (.int a2), some (.int w16.1), some (.int w16.2.1), some (.int w16.2.2), some (.int a6), some (.int v20)] [] (cW t q12) 0 0 r h2
        refine o_goto (pc := 119) 46 dX11_law_119 rfl ?_
        exact ih _ _ _ _ _ hf K
      clear hf
      have KB15 : (b13 = true → Rn g mdX11_law 100 [some (.ref 0), some (.int a1), some (.int a2), some (.int x3), some (.int x4), some (.int x5), some (.int a6), some (.int x7)] [] (cW t q12) 0 0 r h2) ∧ (¬ b13 = true → Rn g mdX11_law 116 [some (.ref 0), some (.int a1), some (.int a2), some (.int x3), some (.int x4), some (.int x5), some (.int a6), some (.int x7)] [] (cW t q12) 0 0 r h2) := by
        refine ⟨fun hc => ?_, fun hc => ?_⟩
        · have hr17 := it_t hr17 hc
          refine o_iload (pc := 100) dX11_law_100 rfl ?_
          refine o_istore_n (pc := 102) dX11_law_102 (by decide) rfl ?_
          show Rn g mdX11_law 103 [some (.ref 0), some (.int a1), some (.int a2), some (.int a6), some (.int x4), some (.int x5), some (.int a6), some (.int x7)] [] (cW t q12) 0 0 r h2
          refine o_iload (pc := 103) dX11_law_103 rfl ?_
          refine o_istore (pc := 105) dX11_law_105 (by decide) rfl ?_
          show Rn g mdX11_law 107 [some (.ref 0), some (.int a1), some (.int a2), some (.int a6), some (.int x7), some (.int x5), some (.int a6), some (.int x7)] [] (cW t q12) 0 0 r h2
          refine o_aload_n (pc := 107) dX11_law_107 rfl ?_
          refine c_getR (pc := 108) 10 7 0 30 (by decide) (by decide) rfl (lt48 (by decide)) rfl rfl lkX11_56 dX11_law_108 ?_
          refine c_getI (pc := 111) 0 16 30 (by decide) (by decide) rfl (lt48 (by decide)) rfl lkX11_200 dX11_law_111 ?_
          refine lz_i hr17 (fun v19 hr17 => ?_)
          refine o_istore (pc := 114) dX11_law_114 (by decide) rfl ?_
          show Rn g mdX11_law 116 [some (.ref 0), some (.int a1), some (.int a2), some (.int a6), some (.int x7), some (.int v19), some (.int a6), some (.int x7)] [] (cW t q12) 0 0 r h2
          obtain rfl := Option.some.inj hr17
          exact K18
        · have hr17 := it_f hr17 hc
          obtain rfl := Option.some.inj hr17
          exact K18
      clear hr17
      refine o_icmp_eq (pc := 85) 100 dX11_law_85 rfl (fun hc => ?_) (fun hc => ?_)
      · have hr14 := it_t hr14 hc
        obtain rfl := Option.some.inj hr14
        exact KB15.1 rfl
      · have hr14 := it_f hr14 hc
        refine o_aload_n (pc := 88) dX11_law_88 rfl ?_
        refine c_getR (pc := 89) 10 7 0 30 (by decide) (by decide) rfl (lt48 (by decide)) rfl rfl lkX11_56 dX11_law_89 ?_
        refine c_getI (pc := 92) 0 16 30 (by decide) (by decide) rfl (lt48 (by decide)) rfl lkX11_200 dX11_law_92 ?_
        refine o_iload (pc := 95) dX11_law_95 rfl ?_
        refine o_icmp_ge (pc := 97) 116 dX11_law_97 rfl (fun hc => ?_) (fun hc => ?_)
        · have hr14 := it_t hr14 hc
          obtain rfl := Option.some.inj hr14
          exact KB15.2 (by decide)
        · have hr14 := it_f hr14 hc
          obtain rfl := Option.some.inj hr14
          exact KB15.1 rfl
set_option maxRecDepth 20000 in
theorem kX11_law_L30 {g : GX} {t : PH} (a1 : Int32) (a2 : Int32) {r : Option Value} {h2 : PH} : ∀ (n : Nat) (x3 : Int32) (x4 : Int32) (x5 : Int32) (x6 : Int32) (s : ST) {w : Int32 × Int32 × Int32 × Int32 × ST}, fX11_law_L30 a1 a2 t n x3 x4 x5 x6 s = some w → Rn g mdX11_law 128 [none, none, some (.int a2), some (.int w.1), some (.int w.2.1), some (.int w.2.2.1), none, none] [] (cW t w.2.2.2.2) 0 0 r h2 → Rn g mdX11_law 30 [some (.ref 0), some (.int a1), some (.int a2), some (.int x3), some (.int x4), some (.int x5), some (.int x6), none] [] (cW t s) 0 0 r h2 := by
  intro n
  induction n with
  | zero => intro x3 x4 x5 x6 s w hf K; cases hf
  | succ n ih =>
    intro x3 x4 x5 x6 s w hf K
    rw [fX11_law_L30] at hf
    refine o_iload (pc := 30) dX11_law_30 rfl ?_
    refine o_bipush (pc := 32) (v := 50) dX11_law_32 rfl ?_
    refine o_icmp_gt (pc := 34) 128 dX11_law_34 rfl (fun hc => ?_) (fun hc => ?_)
    · have hf := it_t hf hc
      obtain rfl := Option.some.inj hf
      refine o_keep [false, false, true, true, true, true, false, false] ?_
      exact K
    · have hf := it_f hf hc
      refine o_bipush (pc := 37) (v := 10) dX11_law_37 rfl ?_
      refine o_iload (pc := 39) dX11_law_39 rfl ?_
      refine o_max (pc := 41) lmX11_197 dX11_law_41 (by decide) (Nat.le_of_ble_eq_true rfl) (Nat.zero_le _) (Nat.zero_le _) ?_
      show Rn g mdX11_law 44 [some (.ref 0), some (.int a1), some (.int a2), some (.int x3), some (.int x4), some (.int x5), some (.int x6), none] [.int (imx 10 x6)] (cW t s) 0 0 r h2
      refine lz_i hf (fun v6 hf => ?_)
      refine o_istore (pc := 44) dX11_law_44 (by decide) rfl ?_
      show Rn g mdX11_law 46 [some (.ref 0), some (.int a1), some (.int a2), some (.int x3), some (.int x4), some (.int x5), some (.int x6), some (.int v6)] [] (cW t s) 0 0 r h2
      obtain ⟨w21, hl22, hf⟩ := bd_elim hf
      have K23 : Rn g mdX11_law 122 [some (.ref 0), some (.int a1), some (.int a2), some (.int w21.1), some (.int w21.2.1), some (.int w21.2.2.1), some (.int x6), none] [] (cW t w21.2.2.2.2) 0 0 r h2 := by
        refine o_iinc (pc := 122) dX11_law_122 rfl (by decide) rfl ?_
        show Rn g mdX11_law 125 [some (.ref 0), some (.int a1), some (.int a2), some (.int w21.1), some (.int w21.2.1), some (.int w21.2.2.1), some (.int (x6 + 10)), none] [] (cW t w21.2.2.2.2) 0 0 r h2
        obtain ⟨v24, ev24, hf⟩ := lt_elim hf
        rw [ev24]
        show Rn g mdX11_law 125 [some (.ref 0), some (.int a1), some (.int a2), some (.int w21.1), some (.int w21.2.1), some (.int w21.2.2.1), some (.int v24), none] [] (cW t w21.2.2.2.2) 0 0 r h2
        refine o_goto (pc := 125) 30 dX11_law_125 rfl ?_
        exact ih _ _ _ _ _ hf K
      exact kX11_law_L46 _ _ _ _ _ _ _ _ _ hl22 K23
set_option maxRecDepth 20000 in
theorem kX11_law {g : GX} {t : PH} {p0 : Int32} {p1 : Int32} {s : ST} {q : Int32 × ST} (hf : fX11_law p0 p1 t s = some q) : Cn g mdX11_law [.ref 0, .int p0, .int p1] (cW t s) (some (.int q.1)) (cW t q.2) := by
  refine Cn.of (by decide) (Nat.le_of_ble_eq_true rfl) ?_
  show Rn g mdX11_law 0 [some (.ref 0), some (.int p0), some (.int p1), none, none, none, none, none] [] (cW t s) 0 0 (some (.int q.1)) (cW t q.2)
  unfold fX11_law at hf
  refine o_aload_n (pc := 0) dX11_law_0 rfl ?_
  refine o_iload_n (pc := 1) dX11_law_1 rfl ?_
  obtain ⟨q2, hk1, hf⟩ := bd_elim hf
  refine c_callV (pc := 2) 10 0 [.int p0] (by decide) (lt48 (by decide)) rfl dX11_law_2 (kX11_isSpan hk1) stX11_232 ⟨by decide, by decide, by decide, by decide⟩ ⟨rfl, rfl⟩ (Nat.le_of_ble_eq_true rfl) ?_
  show Rn g mdX11_law 5 [some (.ref 0), some (.int p0), some (.int p1), none, none, none, none, none] [.int q2] (cW t s) 0 0 (some (.int q.1)) (cW t q.2)
  obtain ⟨b3, hr4, hf⟩ := bd_elim hf
  have KB5 : (b3 = true → Rn g mdX11_law 17 [some (.ref 0), some (.int p0), some (.int p1), none, none, none, none, none] [] (cW t s) 0 0 (some (.int q.1)) (cW t q.2)) ∧ (¬ b3 = true → Rn g mdX11_law 19 [some (.ref 0), some (.int p0), some (.int p1), none, none, none, none, none] [] (cW t s) 0 0 (some (.int q.1)) (cW t q.2)) := by
    refine ⟨fun hc => ?_, fun hc => ?_⟩
    · have hf := it_t hf hc
      refine o_iconst (pc := 17) (v := (-1)) dX11_law_17 rfl ?_
      obtain rfl := Option.some.inj hf
      exact o_ireturn (pc := 18) dX11_law_18 rfl (Nat.zero_le _) (Nat.zero_le _)
    · have hf := it_f hf hc
      refine o_iconst (pc := 19) (v := (-1)) dX11_law_19 rfl ?_
      refine o_istore_n (pc := 20) dX11_law_20 (by decide) rfl ?_
      show Rn g mdX11_law 21 [some (.ref 0), some (.int p0), some (.int p1), some (.int (-1)), none, none, none, none] [] (cW t s) 0 0 (some (.int q.1)) (cW t q.2)
      refine o_iconst (pc := 21) (v := (-1)) dX11_law_21 rfl ?_
      refine o_istore (pc := 22) dX11_law_22 (by decide) rfl ?_
      show Rn g mdX11_law 24 [some (.ref 0), some (.int p0), some (.int p1), some (.int (-1)), some (.int (-1)), none, none, none] [] (cW t s) 0 0 (some (.int q.1)) (cW t q.2)
      refine o_iconst (pc := 24) (v := 0) dX11_law_24 rfl ?_
      refine o_istore (pc := 25) dX11_law_25 (by decide) rfl ?_
      show Rn g mdX11_law 27 [some (.ref 0), some (.int p0), some (.int p1), some (.int (-1)), some (.int (-1)), some (.int 0), none, none] [] (cW t s) 0 0 (some (.int q.1)) (cW t q.2)
      refine o_iconst (pc := 27) (v := 0) dX11_law_27 rfl ?_
      refine o_istore (pc := 28) dX11_law_28 (by decide) rfl ?_
      show Rn g mdX11_law 30 [some (.ref 0), some (.int p0), some (.int p1), some (.int (-1)), some (.int (-1)), some (.int 0), some (.int 0), none] [] (cW t s) 0 0 (some (.int q.1)) (cW t q.2)
      obtain ⟨w25, hl26, hf⟩ := bd_elim hf
      have K27 : Rn g mdX11_law 128 [none, none, some (.int p1), some (.int w25.1), some (.int w25.2.1), some (.int w25.2.2.1), none, none] [] (cW t w25.2.2.2.2) 0 0 (some (.int q.1)) (cW t q.2) := by
        refine o_iload_n (pc := 128) dX11_law_128 rfl ?_
        refine o_if_ne (pc := 129) 134 dX11_law_129 rfl (fun hc => ?_) (fun hc => ?_)
        · have hf := it_f hf hc
          refine o_iload_n (pc := 134) dX11_law_134 rfl ?_
          refine o_iconst (pc := 135) (v := 1) dX11_law_135 rfl ?_
          obtain ⟨w28, hr29, hf⟩ := bd_elim hf
          have K30 : Rn g mdX11_law 146 [none, none, none, none, none, none, none, none] [.int w28] (cW t w25.2.2.2.2) 0 0 (some (.int q.1)) (cW t q.2) := by
            obtain rfl := Option.some.inj hf
            exact o_ireturn (pc := 146) dX11_law_146 rfl (Nat.zero_le _) (Nat.zero_le _)
          clear hf
          refine o_icmp_ne (pc := 136) 144 dX11_law_136 rfl (fun hc => ?_) (fun hc => ?_)
          · have hr29 := it_f hr29 hc
            refine o_iload (pc := 144) dX11_law_144 rfl ?_
            obtain rfl := Option.some.inj hr29
            refine o_keep [false, false, false, false, false, false, false, false] ?_
            exact K30
          · have hr29 := it_t hr29 hc
            refine o_iload (pc := 139) dX11_law_139 rfl ?_
            refine o_goto (pc := 141) 146 dX11_law_141 rfl ?_
            obtain rfl := Option.some.inj hr29
            refine o_keep [false, false, false, false, false, false, false, false] ?_
            exact K30
        · have hf := it_t hf hc
          refine o_iload_n (pc := 132) dX11_law_132 rfl ?_
          obtain rfl := Option.some.inj hf
          exact o_ireturn (pc := 133) dX11_law_133 rfl (Nat.zero_le _) (Nat.zero_le _)
      exact kX11_law_L30 _ _ _ _ _ _ _ _ hl26 K27
  clear hf
  refine o_if_eq (pc := 5) 17 dX11_law_5 rfl (fun hc => ?_) (fun hc => ?_)
  · have hr4 := it_t hr4 hc
    obtain rfl := Option.some.inj hr4
    exact KB5.1 rfl
  · have hr4 := it_f hr4 hc
    refine o_iload_n (pc := 8) dX11_law_8 rfl ?_
    refine o_if_lt (pc := 9) 17 dX11_law_9 rfl (fun hc => ?_) (fun hc => ?_)
    · have hr4 := it_t hr4 hc
      obtain rfl := Option.some.inj hr4
      exact KB5.1 rfl
    · have hr4 := it_f hr4 hc
      refine o_iload_n (pc := 12) dX11_law_12 rfl ?_
      refine o_iconst (pc := 13) (v := 2) dX11_law_13 rfl ?_
      refine o_icmp_le (pc := 14) 19 dX11_law_14 rfl (fun hc => ?_) (fun hc => ?_)
      · have hr4 := it_t hr4 hc
        obtain rfl := Option.some.inj hr4
        exact KB5.2 (by decide)
      · have hr4 := it_f hr4 hc
        obtain rfl := Option.some.inj hr4
        exact KB5.1 rfl
def fX10_addLog_17 (p0 : Int32) (p1 : Int32) (p2 : Int32) (s : ST) : Option (ST) :=
  lt ((gi s 17 4) * 3 : Int32) (fun v1 => ck (inb v1 30) (lt (si s 27 (ix v1) p0) (fun s3 => ck (inb (v1 + 1) 30) (lt (si s3 27 (ix (v1 + 1)) p1) (fun s5 => ck (inb (v1 + 2) 30) (lt (si s5 27 (ix (v1 + 2)) p2) (fun s7 => lt (si s7 17 4 ((gi s7 17 4) + 1)) (fun s8 => some s8))))))))
set_option maxRecDepth 20000 in
theorem kX10_addLog_17 {g : GX} {t : PH} {p0 : Int32} {p1 : Int32} {p2 : Int32} {s : ST} {q : ST} (hf : fX10_addLog_17 p0 p1 p2 s = some q) : Cn g mdX10_addLog [.ref 17, .int p0, .int p1, .int p2] (cW t s) none (cW t q) := by
  refine Cn.of (by decide) (Nat.le_of_ble_eq_true rfl) ?_
  show Rn g mdX10_addLog 0 [some (.ref 17), some (.int p0), some (.int p1), some (.int p2), none] [] (cW t s) 0 0 none (cW t q)
  unfold fX10_addLog_17 at hf
  refine o_aload_n (pc := 0) dX10_addLog_0 rfl ?_
  refine c_getI (pc := 1) 9 4 17 (by decide) (by decide) rfl (lt48 (by decide)) rfl lkX10_32 dX10_addLog_1 ?_
  refine o_iconst (pc := 4) (v := 3) dX10_addLog_4 rfl ?_
  refine o_imul (pc := 5) dX10_addLog_5 ?_
  refine lz_i hf (fun v1 hf => ?_)
  refine o_istore (pc := 6) dX10_addLog_6 (by decide) rfl ?_
  show Rn g mdX10_addLog 8 [some (.ref 17), some (.int p0), some (.int p1), some (.int p2), some (.int v1)] [] (cW t s) 0 0 none (cW t q)
  refine o_aload_n (pc := 8) dX10_addLog_8 rfl ?_
  refine c_getR (pc := 9) 9 5 17 27 (by decide) (by decide) rfl (lt48 (by decide)) rfl rfl lkX10_35 dX10_addLog_9 ?_
  refine o_iload (pc := 12) dX10_addLog_12 rfl ?_
  refine o_iload_n (pc := 14) dX10_addLog_14 rfl ?_
  obtain ⟨hk2, hf⟩ := ck_elim hf
  refine c_iast (pc := 15) (lt48 (by decide)) rfl hk2 dX10_addLog_15 ?_
  refine lz_s (cW t) hf (fun s3 hf => ?_)
  show Rn g mdX10_addLog 16 [some (.ref 17), some (.int p0), some (.int p1), some (.int p2), some (.int v1)] [] (cW t s3) 0 0 none (cW t q)
  refine o_aload_n (pc := 16) dX10_addLog_16 rfl ?_
  refine c_getR (pc := 17) 9 5 17 27 (by decide) (by decide) rfl (lt48 (by decide)) rfl rfl lkX10_35 dX10_addLog_17 ?_
  refine o_iload (pc := 20) dX10_addLog_20 rfl ?_
  refine o_iconst (pc := 22) (v := 1) dX10_addLog_22 rfl ?_
  refine o_iadd (pc := 23) dX10_addLog_23 ?_
  refine o_iload_n (pc := 24) dX10_addLog_24 rfl ?_
  obtain ⟨hk4, hf⟩ := ck_elim hf
  refine c_iast (pc := 25) (lt48 (by decide)) rfl hk4 dX10_addLog_25 ?_
  refine lz_s (cW t) hf (fun s5 hf => ?_)
  show Rn g mdX10_addLog 26 [some (.ref 17), some (.int p0), some (.int p1), some (.int p2), some (.int v1)] [] (cW t s5) 0 0 none (cW t q)
  refine o_aload_n (pc := 26) dX10_addLog_26 rfl ?_
  refine c_getR (pc := 27) 9 5 17 27 (by decide) (by decide) rfl (lt48 (by decide)) rfl rfl lkX10_35 dX10_addLog_27 ?_
  refine o_iload (pc := 30) dX10_addLog_30 rfl ?_
  refine o_iconst (pc := 32) (v := 2) dX10_addLog_32 rfl ?_
  refine o_iadd (pc := 33) dX10_addLog_33 ?_
  refine o_iload_n (pc := 34) dX10_addLog_34 rfl ?_
  obtain ⟨hk6, hf⟩ := ck_elim hf
  refine c_iast (pc := 35) (lt48 (by decide)) rfl hk6 dX10_addLog_35 ?_
  refine lz_s (cW t) hf (fun s7 hf => ?_)
  show Rn g mdX10_addLog 36 [some (.ref 17), some (.int p0), some (.int p1), some (.int p2), some (.int v1)] [] (cW t s7) 0 0 none (cW t q)
  refine o_aload_n (pc := 36) dX10_addLog_36 rfl ?_
  refine o_dup (pc := 37) dX10_addLog_37 rfl ?_
  refine c_getI (pc := 38) 9 4 17 (by decide) (by decide) rfl (lt48 (by decide)) rfl lkX10_32 dX10_addLog_38 ?_
  refine o_iconst (pc := 41) (v := 1) dX10_addLog_41 rfl ?_
  refine o_iadd (pc := 42) dX10_addLog_42 ?_
  refine c_putI (pc := 43) 9 4 17 (by decide) (by decide) rfl rfl (lt48 (by decide)) rfl lkX10_32 ⟨rfl, rfl⟩ dX10_addLog_43 ?_
  refine lz_s (cW t) hf (fun s8 hf => ?_)
  show Rn g mdX10_addLog 46 [some (.ref 17), some (.int p0), some (.int p1), some (.int p2), some (.int v1)] [] (cW t s8) 0 0 none (cW t q)
  obtain rfl := Option.some.inj hf
  exact o_return (pc := 46) dX10_addLog_46 rfl (Nat.zero_le _) (Nat.zero_le _)
def fX11_log (p0 : Int32) (p1 : Int32) (p2 : Int32) (s : ST) : Option (Int32 × ST) :=
  if p0 = (-1) then lt (si s 17 4 0) (fun s14 => some (0, s14)) else (if p0 < 0 then some false else if 30 < p0 then some false else (fX11_isPerson p1 s).bind (fun q5 => if q5 = 0 then some false else if p2 < (-100) then some false else if 1000 < p2 then some false else some true) : Option Bool).bind (fun b1 => (if b1 = true then some 1 else some 0 : Option (Int32)).bind (fun w6 => (if w6 = 0 then some true else if (gi s 17 4) < 10 then some false else some true : Option Bool).bind (fun b9 => if b9 = true then some ((-2), s) else (fX10_addLog_17 p0 p1 p2 s).bind (fun q13 => some (gi q13 17 4, q13)))))
set_option maxRecDepth 20000 in
theorem kX11_log {g : GX} {t : PH} {p0 : Int32} {p1 : Int32} {p2 : Int32} {s : ST} {q : Int32 × ST} (hf : fX11_log p0 p1 p2 s = some q) : Cn g mdX11_log [.ref 0, .int p0, .int p1, .int p2] (cW t s) (some (.int q.1)) (cW t q.2) := by
  refine Cn.of (by decide) (Nat.le_of_ble_eq_true rfl) ?_
  show Rn g mdX11_log 0 [some (.ref 0), some (.int p0), some (.int p1), some (.int p2), none] [] (cW t s) 0 0 (some (.int q.1)) (cW t q.2)
  unfold fX11_log at hf
  refine o_iload_n (pc := 0) dX11_log_0 rfl ?_
  refine o_iconst (pc := 1) (v := (-1)) dX11_log_1 rfl ?_
  refine o_icmp_ne (pc := 2) 15 dX11_log_2 rfl (fun hc => ?_) (fun hc => ?_)
  · have hf := it_f hf hc
    refine o_iload_n (pc := 15) dX11_log_15 rfl ?_
    obtain ⟨b1, hr2, hf⟩ := bd_elim hf
    obtain ⟨w6, hr7, hf⟩ := bd_elim hf
    have K8 : Rn g mdX11_log 51 [some (.ref 0), some (.int p0), some (.int p1), some (.int p2), none] [.int w6] (cW t s) 0 0 (some (.int q.1)) (cW t q.2) := by
      refine o_istore (pc := 51) dX11_log_51 (by decide) rfl ?_
      show Rn g mdX11_log 53 [some (.ref 0), some (.int p0), some (.int p1), some (.int p2), some (.int w6)] [] (cW t s) 0 0 (some (.int q.1)) (cW t q.2)
      refine o_iload (pc := 53) dX11_log_53 rfl ?_
      obtain ⟨b9, hr10, hf⟩ := bd_elim hf
      have KB11 : (b9 = true → Rn g mdX11_log 70 [some (.ref 0), some (.int p0), some (.int p1), some (.int p2), some (.int w6)] [] (cW t s) 0 0 (some (.int q.1)) (cW t q.2)) ∧ (¬ b9 = true → Rn g mdX11_log 73 [some (.ref 0), some (.int p0), some (.int p1), some (.int p2), some (.int w6)] [] (cW t s) 0 0 (some (.int q.1)) (cW t q.2)) := by
        refine ⟨fun hc => ?_, fun hc => ?_⟩
        · have hf := it_t hf hc
          refine o_bipush (pc := 70) (v := (-2)) dX11_log_70 rfl ?_
          obtain rfl := Option.some.inj hf
          exact o_ireturn (pc := 72) dX11_log_72 rfl (Nat.zero_le _) (Nat.zero_le _)
        · have hf := it_f hf hc
          refine o_aload_n (pc := 73) dX11_log_73 rfl ?_
          refine c_getR (pc := 74) 10 5 0 17 (by decide) (by decide) rfl (lt48 (by decide)) rfl rfl lkX11_45 dX11_log_74 ?_
          refine o_iload_n (pc := 77) dX11_log_77 rfl ?_
          refine o_iload_n (pc := 78) dX11_log_78 rfl ?_
          refine o_iload_n (pc := 79) dX11_log_79 rfl ?_
          obtain ⟨q13, hk12, hf⟩ := bd_elim hf
          refine c_callV (pc := 80) 9 17 [.int p0, .int p1, .int p2] (by decide) (lt48 (by decide)) rfl dX11_log_80 (kX10_addLog_17 hk12) stX11_244 ⟨by decide, by decide, by decide, by decide⟩ ⟨rfl, rfl⟩ (Nat.le_of_ble_eq_true rfl) ?_
          show Rn g mdX11_log 83 [some (.ref 0), some (.int p0), some (.int p1), some (.int p2), some (.int w6)] [] (cW t q13) 0 0 (some (.int q.1)) (cW t q.2)
          refine o_aload_n (pc := 83) dX11_log_83 rfl ?_
          refine c_getR (pc := 84) 10 5 0 17 (by decide) (by decide) rfl (lt48 (by decide)) rfl rfl lkX11_45 dX11_log_84 ?_
          refine c_getI (pc := 87) 9 4 17 (by decide) (by decide) rfl (lt48 (by decide)) rfl lkX11_241 dX11_log_87 ?_
          obtain rfl := Option.some.inj hf
          exact o_ireturn (pc := 90) dX11_log_90 rfl (Nat.zero_le _) (Nat.zero_le _)
      clear hf
      refine o_if_eq (pc := 55) 70 dX11_log_55 rfl (fun hc => ?_) (fun hc => ?_)
      · have hr10 := it_t hr10 hc
        obtain rfl := Option.some.inj hr10
        exact KB11.1 rfl
      · have hr10 := it_f hr10 hc
        refine o_aload_n (pc := 58) dX11_log_58 rfl ?_
        refine c_getR (pc := 59) 10 5 0 17 (by decide) (by decide) rfl (lt48 (by decide)) rfl rfl lkX11_45 dX11_log_59 ?_
        refine c_getI (pc := 62) 9 4 17 (by decide) (by decide) rfl (lt48 (by decide)) rfl lkX11_241 dX11_log_62 ?_
        refine o_bipush (pc := 65) (v := 10) dX11_log_65 rfl ?_
        refine o_icmp_lt (pc := 67) 73 dX11_log_67 rfl (fun hc => ?_) (fun hc => ?_)
        · have hr10 := it_t hr10 hc
          obtain rfl := Option.some.inj hr10
          exact KB11.2 (by decide)
        · have hr10 := it_f hr10 hc
          obtain rfl := Option.some.inj hr10
          exact KB11.1 rfl
    clear hf
    have KB3 : (b1 = true → Rn g mdX11_log 46 [some (.ref 0), some (.int p0), some (.int p1), some (.int p2), none] [] (cW t s) 0 0 (some (.int q.1)) (cW t q.2)) ∧ (¬ b1 = true → Rn g mdX11_log 50 [some (.ref 0), some (.int p0), some (.int p1), some (.int p2), none] [] (cW t s) 0 0 (some (.int q.1)) (cW t q.2)) := by
      refine ⟨fun hc => ?_, fun hc => ?_⟩
      · have hr7 := it_t hr7 hc
        refine o_iconst (pc := 46) (v := 1) dX11_log_46 rfl ?_
        refine o_goto (pc := 47) 51 dX11_log_47 rfl ?_
        obtain rfl := Option.some.inj hr7
        exact K8
      · have hr7 := it_f hr7 hc
        refine o_iconst (pc := 50) (v := 0) dX11_log_50 rfl ?_
        obtain rfl := Option.some.inj hr7
        exact K8
    clear hr7
    refine o_if_lt (pc := 16) 50 dX11_log_16 rfl (fun hc => ?_) (fun hc => ?_)
    · have hr2 := it_t hr2 hc
      obtain rfl := Option.some.inj hr2
      exact KB3.2 (by decide)
    · have hr2 := it_f hr2 hc
      refine o_iload_n (pc := 19) dX11_log_19 rfl ?_
      refine o_bipush (pc := 20) (v := 30) dX11_log_20 rfl ?_
      refine o_icmp_gt (pc := 22) 50 dX11_log_22 rfl (fun hc => ?_) (fun hc => ?_)
      · have hr2 := it_t hr2 hc
        obtain rfl := Option.some.inj hr2
        exact KB3.2 (by decide)
      · have hr2 := it_f hr2 hc
        refine o_aload_n (pc := 25) dX11_log_25 rfl ?_
        refine o_iload_n (pc := 26) dX11_log_26 rfl ?_
        obtain ⟨q5, hk4, hr2⟩ := bd_elim hr2
        refine c_callV (pc := 27) 10 0 [.int p1] (by decide) (lt48 (by decide)) rfl dX11_log_27 (kX11_isPerson hk4) stX11_100 ⟨by decide, by decide, by decide, by decide⟩ ⟨rfl, rfl⟩ (Nat.le_of_ble_eq_true rfl) ?_
        show Rn g mdX11_log 30 [some (.ref 0), some (.int p0), some (.int p1), some (.int p2), none] [.int q5] (cW t s) 0 0 (some (.int q.1)) (cW t q.2)
        refine o_if_eq (pc := 30) 50 dX11_log_30 rfl (fun hc => ?_) (fun hc => ?_)
        · have hr2 := it_t hr2 hc
          obtain rfl := Option.some.inj hr2
          exact KB3.2 (by decide)
        · have hr2 := it_f hr2 hc
          refine o_iload_n (pc := 33) dX11_log_33 rfl ?_
          refine o_bipush (pc := 34) (v := (-100)) dX11_log_34 rfl ?_
          refine o_icmp_lt (pc := 36) 50 dX11_log_36 rfl (fun hc => ?_) (fun hc => ?_)
          · have hr2 := it_t hr2 hc
            obtain rfl := Option.some.inj hr2
            exact KB3.2 (by decide)
          · have hr2 := it_f hr2 hc
            refine o_iload_n (pc := 39) dX11_log_39 rfl ?_
            refine o_sipush (pc := 40) (v := 1000) dX11_log_40 rfl ?_
            refine o_icmp_gt (pc := 43) 50 dX11_log_43 rfl (fun hc => ?_) (fun hc => ?_)
            · have hr2 := it_t hr2 hc
              obtain rfl := Option.some.inj hr2
              exact KB3.2 (by decide)
            · have hr2 := it_f hr2 hc
              obtain rfl := Option.some.inj hr2
              exact KB3.1 rfl
  · have hf := it_t hf hc
    refine o_aload_n (pc := 5) dX11_log_5 rfl ?_
    refine c_getR (pc := 6) 10 5 0 17 (by decide) (by decide) rfl (lt48 (by decide)) rfl rfl lkX11_45 dX11_log_6 ?_
    refine o_iconst (pc := 9) (v := 0) dX11_log_9 rfl ?_
    refine c_putI (pc := 10) 9 4 17 (by decide) (by decide) rfl rfl (lt48 (by decide)) rfl lkX11_241 ⟨rfl, rfl⟩ dX11_log_10 ?_
    refine lz_s (cW t) hf (fun s14 hf => ?_)
    show Rn g mdX11_log 13 [some (.ref 0), some (.int p0), some (.int p1), some (.int p2), none] [] (cW t s14) 0 0 (some (.int q.1)) (cW t q.2)
    refine o_iconst (pc := 13) (v := 0) dX11_log_13 rfl ?_
    obtain rfl := Option.some.inj hf
    exact o_ireturn (pc := 14) dX11_log_14 rfl (Nat.zero_le _) (Nat.zero_le _)
def fX11_habitOf (p0 : Int32) (s : ST) : Option (Int32) :=
  some ((10 * p0) - 20)
set_option maxRecDepth 20000 in
theorem kX11_habitOf {g : GX} {t : PH} {p0 : Int32} {s : ST} {q : Int32} (hf : fX11_habitOf p0 s = some q) : Cn g mdX11_habitOf [.int p0] (cW t s) (some (.int q)) (cW t s) := by
  refine Cn.of (by decide) (Nat.le_of_ble_eq_true rfl) ?_
  show Rn g mdX11_habitOf 0 [some (.int p0)] [] (cW t s) 0 0 (some (.int q)) (cW t s)
  unfold fX11_habitOf at hf
  refine o_bipush (pc := 0) (v := 10) dX11_habitOf_0 rfl ?_
  refine o_iload_n (pc := 2) dX11_habitOf_2 rfl ?_
  refine o_imul (pc := 3) dX11_habitOf_3 ?_
  refine o_bipush (pc := 4) (v := 20) dX11_habitOf_4 rfl ?_
  refine o_isub (pc := 6) dX11_habitOf_6 ?_
  obtain rfl := Option.some.inj hf
  exact o_ireturn (pc := 7) dX11_habitOf_7 rfl (Nat.zero_le _) (Nat.zero_le _)
def fJ7_fill_53178_32_L5 (a1 : Int32) (a3 : Int32) : Nat → Int32 → ST → Option (Int32 × ST)
  | 0, _, _ => none
  | n + 1, x2, s => if a3 ≤ x2 then some (x2, s) else ck (inb x2 46) (lt (si s 32 (ix x2) a1) (fun s2 => lt (x2 + 1) (fun v3 => fJ7_fill_53178_32_L5 a1 a3 n v3 s2)))
def fJ7_fill_53178_32 (p1 : Int32) (s : ST) : Option (ST) :=
  (fJ7_fill_53178_32_L5 p1 46 FUEL 0 s).bind (fun w4 => some w4.2)
set_option maxRecDepth 20000 in
theorem kJ7_fill_53178_32_L5 {g : GX} {t : PH} (a1 : Int32) (a3 : Int32) {r : Option Value} {h2 : PH} : ∀ (n : Nat) (x2 : Int32) (s : ST) {w : Int32 × ST}, fJ7_fill_53178_32_L5 a1 a3 n x2 s = some w → Rn g mdJ7_fill_53178 20 [none, none, none, none] [] (cW t w.2) 0 0 r h2 → Rn g mdJ7_fill_53178 5 [some (.ref 32), some (.int a1), some (.int x2), some (.int a3)] [] (cW t s) 0 0 r h2 := by
  intro n
  induction n with
  | zero => intro x2 s w hf K; cases hf
  | succ n ih =>
    intro x2 s w hf K
    rw [fJ7_fill_53178_32_L5] at hf
    refine o_iload_n (pc := 5) dJ7_fill_53178_5 rfl ?_
    refine o_iload_n (pc := 6) dJ7_fill_53178_6 rfl ?_
    refine o_icmp_ge (pc := 7) 20 dJ7_fill_53178_7 rfl (fun hc => ?_) (fun hc => ?_)
    · have hf := it_t hf hc
      obtain rfl := Option.some.inj hf
      refine o_keep [false, false, false, false] ?_
      exact K
    · have hf := it_f hf hc
      refine o_aload_n (pc := 10) dJ7_fill_53178_10 rfl ?_
      refine o_iload_n (pc := 11) dJ7_fill_53178_11 rfl ?_
      refine o_iload_n (pc := 12) dJ7_fill_53178_12 rfl ?_
      obtain ⟨hk1, hf⟩ := ck_elim hf
      refine c_iast (pc := 13) (lt48 (by decide)) rfl hk1 dJ7_fill_53178_13 ?_
      refine lz_s (cW t) hf (fun s2 hf => ?_)
      show Rn g mdJ7_fill_53178 14 [some (.ref 32), some (.int a1), some (.int x2), some (.int a3)] [] (cW t s2) 0 0 r h2
      refine o_iinc (pc := 14) dJ7_fill_53178_14 rfl (by decide) rfl ?_
      show Rn g mdJ7_fill_53178 17 [some (.ref 32), some (.int a1), some (.int (x2 + 1)), some (.int a3)] [] (cW t s2) 0 0 r h2
      obtain ⟨v3, ev3, hf⟩ := lt_elim hf
      rw [ev3]
      show Rn g mdJ7_fill_53178 17 [some (.ref 32), some (.int a1), some (.int v3), some (.int a3)] [] (cW t s2) 0 0 r h2
      refine o_goto (pc := 17) 5 dJ7_fill_53178_17 rfl ?_
      exact ih _ _ hf K
set_option maxRecDepth 20000 in
theorem kJ7_fill_53178_32 {g : GX} {t : PH} {p1 : Int32} {s : ST} {q : ST} (hf : fJ7_fill_53178_32 p1 s = some q) : Cn g mdJ7_fill_53178 [.ref 32, .int p1] (cW t s) none (cW t q) := by
  refine Cn.of (by decide) (Nat.le_of_ble_eq_true rfl) ?_
  show Rn g mdJ7_fill_53178 0 [some (.ref 32), some (.int p1), none, none] [] (cW t s) 0 0 none (cW t q)
  unfold fJ7_fill_53178_32 at hf
  refine o_iconst (pc := 0) (v := 0) dJ7_fill_53178_0 rfl ?_
  refine o_istore_n (pc := 1) dJ7_fill_53178_1 (by decide) rfl ?_
  show Rn g mdJ7_fill_53178 2 [some (.ref 32), some (.int p1), some (.int 0), none] [] (cW t s) 0 0 none (cW t q)
  refine o_aload_n (pc := 2) dJ7_fill_53178_2 rfl ?_
  refine c_alen (pc := 3) 46 (by decide) (lt48 (by decide)) rfl rfl dJ7_fill_53178_3 ?_
  refine o_istore_n (pc := 4) dJ7_fill_53178_4 (by decide) rfl ?_
  show Rn g mdJ7_fill_53178 5 [some (.ref 32), some (.int p1), some (.int 0), some (.int 46)] [] (cW t s) 0 0 none (cW t q)
  obtain ⟨w4, hl5, hf⟩ := bd_elim hf
  have K6 : Rn g mdJ7_fill_53178 20 [none, none, none, none] [] (cW t w4.2) 0 0 none (cW t q) := by
    obtain rfl := Option.some.inj hf
    exact o_return (pc := 20) dJ7_fill_53178_20 rfl (Nat.zero_le _) (Nat.zero_le _)
  exact kJ7_fill_53178_32_L5 _ _ _ _ _ hl5 K6
def fX5_begin_31_18_41_L10 : Nat → Int32 → ST → Option (Int32 × ST)
  | 0, _, _ => none
  | n + 1, x3, s => if (gi s 18 7) ≤ x3 then some (x3, s) else ck (inb x3 5) (ck (inb (0 + x3) 46) (lt (si s 32 (ix (0 + x3)) (gi s 20 (ix x3))) (fun s5 => ck (inb x3 5) (ck (inb (5 + x3) 46) (lt (si s5 32 (ix (5 + x3)) (gi s5 41 (ix x3))) (fun s8 => lt (x3 + 1) (fun v9 => fX5_begin_31_18_41_L10 n v9 s8)))))))
def fX5_begin_31_18_41_L51 : Nat → Int32 → ST → Option (Int32 × ST)
  | 0, _, _ => none
  | n + 1, x3, s => if (gi s 18 8) ≤ x3 then some (x3, s) else ck (inb x3 8) (ck (inb (20 + x3) 46) (lt (si s 32 (ix (20 + x3)) (gi s 23 (ix x3))) (fun s15 => lt (x3 + 1) (fun v16 => fX5_begin_31_18_41_L51 n v16 s15))))
def fX5_begin_31_18_41 (s : ST) : Option (ST) :=
  (fJ7_fill_53178_32 0 s).bind (fun q2 => (fX5_begin_31_18_41_L10 FUEL 0 q2).bind (fun w10 => (fX5_begin_31_18_41_L51 FUEL 0 w10.2).bind (fun w17 => ck (inb 44 46) (lt (si w17.2 32 (ix 44) (gi w17.2 18 6)) (fun s21 => some s21)))))
set_option maxRecDepth 20000 in
theorem kX5_begin_31_18_41_L10 {g : GX} {t : PH} {r : Option Value} {h2 : PH} : ∀ (n : Nat) (x3 : Int32) (s : ST) {w : Int32 × ST}, fX5_begin_31_18_41_L10 n x3 s = some w → Rn g mdX5_begin 49 [some (.ref 31), some (.ref 18), none, none] [] (cW t w.2) 0 0 r h2 → Rn g mdX5_begin 10 [some (.ref 31), some (.ref 18), some (.ref 41), some (.int x3)] [] (cW t s) 0 0 r h2 := by
  intro n
  induction n with
  | zero => intro x3 s w hf K; cases hf
  | succ n ih =>
    intro x3 s w hf K
    rw [fX5_begin_31_18_41_L10] at hf
    refine o_iload_n (pc := 10) dX5_begin_10 rfl ?_
    refine o_aload_n (pc := 11) dX5_begin_11 rfl ?_
    refine c_getI (pc := 12) 6 7 18 (by decide) (by decide) rfl (lt48 (by decide)) rfl lkX5_27 dX5_begin_12 ?_
    refine o_icmp_ge (pc := 15) 49 dX5_begin_15 rfl (fun hc => ?_) (fun hc => ?_)
    · have hf := it_t hf hc
      obtain rfl := Option.some.inj hf
      refine o_keep [true, true, false, false] ?_
      exact K
    · have hf := it_f hf hc
      refine o_aload_n (pc := 18) dX5_begin_18 rfl ?_
      refine c_getR (pc := 19) 4 0 31 32 (by decide) (by decide) rfl (lt48 (by decide)) rfl rfl lkX5_11 dX5_begin_19 ?_
      refine o_iconst (pc := 22) (v := 0) dX5_begin_22 rfl ?_
      refine o_iload_n (pc := 23) dX5_begin_23 rfl ?_
      refine o_iadd (pc := 24) dX5_begin_24 ?_
      refine o_aload_n (pc := 25) dX5_begin_25 rfl ?_
      refine c_getR (pc := 26) 6 10 18 20 (by decide) (by decide) rfl (lt48 (by decide)) rfl rfl lkX5_33 dX5_begin_26 ?_
      refine o_iload_n (pc := 29) dX5_begin_29 rfl ?_
      obtain ⟨hk3, hf⟩ := ck_elim hf
      refine c_iald (pc := 30) (lt48 (by decide)) rfl hk3 dX5_begin_30 ?_
      obtain ⟨hk4, hf⟩ := ck_elim hf
      refine c_iast (pc := 31) (lt48 (by decide)) rfl hk4 dX5_begin_31 ?_
      refine lz_s (cW t) hf (fun s5 hf => ?_)
      show Rn g mdX5_begin 32 [some (.ref 31), some (.ref 18), some (.ref 41), some (.int x3)] [] (cW t s5) 0 0 r h2
      refine o_aload_n (pc := 32) dX5_begin_32 rfl ?_
      refine c_getR (pc := 33) 4 0 31 32 (by decide) (by decide) rfl (lt48 (by decide)) rfl rfl lkX5_11 dX5_begin_33 ?_
      refine o_iconst (pc := 36) (v := 5) dX5_begin_36 rfl ?_
      refine o_iload_n (pc := 37) dX5_begin_37 rfl ?_
      refine o_iadd (pc := 38) dX5_begin_38 ?_
      refine o_aload_n (pc := 39) dX5_begin_39 rfl ?_
      refine o_iload_n (pc := 40) dX5_begin_40 rfl ?_
      obtain ⟨hk6, hf⟩ := ck_elim hf
      refine c_iald (pc := 41) (lt48 (by decide)) rfl hk6 dX5_begin_41 ?_
      obtain ⟨hk7, hf⟩ := ck_elim hf
      refine c_iast (pc := 42) (lt48 (by decide)) rfl hk7 dX5_begin_42 ?_
      refine lz_s (cW t) hf (fun s8 hf => ?_)
      show Rn g mdX5_begin 43 [some (.ref 31), some (.ref 18), some (.ref 41), some (.int x3)] [] (cW t s8) 0 0 r h2
      refine o_iinc (pc := 43) dX5_begin_43 rfl (by decide) rfl ?_
      show Rn g mdX5_begin 46 [some (.ref 31), some (.ref 18), some (.ref 41), some (.int (x3 + 1))] [] (cW t s8) 0 0 r h2
      obtain ⟨v9, ev9, hf⟩ := lt_elim hf
      rw [ev9]
      show Rn g mdX5_begin 46 [some (.ref 31), some (.ref 18), some (.ref 41), some (.int v9)] [] (cW t s8) 0 0 r h2
      refine o_goto (pc := 46) 10 dX5_begin_46 rfl ?_
      exact ih _ _ hf K
set_option maxRecDepth 20000 in
theorem kX5_begin_31_18_41_L51 {g : GX} {t : PH} {r : Option Value} {h2 : PH} : ∀ (n : Nat) (x3 : Int32) (s : ST) {w : Int32 × ST}, fX5_begin_31_18_41_L51 n x3 s = some w → Rn g mdX5_begin 80 [some (.ref 31), some (.ref 18), none, none] [] (cW t w.2) 0 0 r h2 → Rn g mdX5_begin 51 [some (.ref 31), some (.ref 18), none, some (.int x3)] [] (cW t s) 0 0 r h2 := by
  intro n
  induction n with
  | zero => intro x3 s w hf K; cases hf
  | succ n ih =>
    intro x3 s w hf K
    rw [fX5_begin_31_18_41_L51] at hf
    refine o_iload_n (pc := 51) dX5_begin_51 rfl ?_
    refine o_aload_n (pc := 52) dX5_begin_52 rfl ?_
    refine c_getI (pc := 53) 6 8 18 (by decide) (by decide) rfl (lt48 (by decide)) rfl lkX5_36 dX5_begin_53 ?_
    refine o_icmp_ge (pc := 56) 80 dX5_begin_56 rfl (fun hc => ?_) (fun hc => ?_)
    · have hf := it_t hf hc
      obtain rfl := Option.some.inj hf
      refine o_keep [true, true, false, false] ?_
      exact K
    · have hf := it_f hf hc
      refine o_aload_n (pc := 59) dX5_begin_59 rfl ?_
      refine c_getR (pc := 60) 4 0 31 32 (by decide) (by decide) rfl (lt48 (by decide)) rfl rfl lkX5_11 dX5_begin_60 ?_
      refine o_bipush (pc := 63) (v := 20) dX5_begin_63 rfl ?_
      refine o_iload_n (pc := 65) dX5_begin_65 rfl ?_
      refine o_iadd (pc := 66) dX5_begin_66 ?_
      refine o_aload_n (pc := 67) dX5_begin_67 rfl ?_
      refine c_getR (pc := 68) 6 13 18 23 (by decide) (by decide) rfl (lt48 (by decide)) rfl rfl lkX5_39 dX5_begin_68 ?_
      refine o_iload_n (pc := 71) dX5_begin_71 rfl ?_
      obtain ⟨hk13, hf⟩ := ck_elim hf
      refine c_iald (pc := 72) (lt48 (by decide)) rfl hk13 dX5_begin_72 ?_
      obtain ⟨hk14, hf⟩ := ck_elim hf
      refine c_iast (pc := 73) (lt48 (by decide)) rfl hk14 dX5_begin_73 ?_
      refine lz_s (cW t) hf (fun s15 hf => ?_)
      show Rn g mdX5_begin 74 [some (.ref 31), some (.ref 18), none, some (.int x3)] [] (cW t s15) 0 0 r h2
      refine o_iinc (pc := 74) dX5_begin_74 rfl (by decide) rfl ?_
      show Rn g mdX5_begin 77 [some (.ref 31), some (.ref 18), none, some (.int (x3 + 1))] [] (cW t s15) 0 0 r h2
      obtain ⟨v16, ev16, hf⟩ := lt_elim hf
      rw [ev16]
      show Rn g mdX5_begin 77 [some (.ref 31), some (.ref 18), none, some (.int v16)] [] (cW t s15) 0 0 r h2
      refine o_goto (pc := 77) 51 dX5_begin_77 rfl ?_
      exact ih _ _ hf K
set_option maxRecDepth 20000 in
theorem kX5_begin_31_18_41 {g : GX} {t : PH} {s : ST} {q : ST} (hf : fX5_begin_31_18_41 s = some q) : Cn g mdX5_begin [.ref 31, .ref 18, .ref 41] (cW t s) none (cW t q) := by
  refine Cn.of (by decide) (Nat.le_of_ble_eq_true rfl) ?_
  show Rn g mdX5_begin 0 [some (.ref 31), some (.ref 18), some (.ref 41), none] [] (cW t s) 0 0 none (cW t q)
  unfold fX5_begin_31_18_41 at hf
  refine o_aload_n (pc := 0) dX5_begin_0 rfl ?_
  refine c_getR (pc := 1) 4 0 31 32 (by decide) (by decide) rfl (lt48 (by decide)) rfl rfl lkX5_11 dX5_begin_1 ?_
  refine o_iconst (pc := 4) (v := 0) dX5_begin_4 rfl ?_
  obtain ⟨q2, hk1, hf⟩ := bd_elim hf
  refine c_callS (pc := 5) [.ref 32, .int 0] dX5_begin_5 (kJ7_fill_53178_32 hk1) stX5_21 ⟨by decide, by decide, by decide, by decide⟩ ⟨rfl, rfl⟩ (Nat.le_of_ble_eq_true rfl) ?_
  show Rn g mdX5_begin 8 [some (.ref 31), some (.ref 18), some (.ref 41), none] [] (cW t q2) 0 0 none (cW t q)
  refine o_iconst (pc := 8) (v := 0) dX5_begin_8 rfl ?_
  refine o_istore_n (pc := 9) dX5_begin_9 (by decide) rfl ?_
  show Rn g mdX5_begin 10 [some (.ref 31), some (.ref 18), some (.ref 41), some (.int 0)] [] (cW t q2) 0 0 none (cW t q)
  obtain ⟨w10, hl11, hf⟩ := bd_elim hf
  have K12 : Rn g mdX5_begin 49 [some (.ref 31), some (.ref 18), none, none] [] (cW t w10.2) 0 0 none (cW t q) := by
    refine o_iconst (pc := 49) (v := 0) dX5_begin_49 rfl ?_
    refine o_istore_n (pc := 50) dX5_begin_50 (by decide) rfl ?_
    show Rn g mdX5_begin 51 [some (.ref 31), some (.ref 18), none, some (.int 0)] [] (cW t w10.2) 0 0 none (cW t q)
    obtain ⟨w17, hl18, hf⟩ := bd_elim hf
    have K19 : Rn g mdX5_begin 80 [some (.ref 31), some (.ref 18), none, none] [] (cW t w17.2) 0 0 none (cW t q) := by
      refine o_aload_n (pc := 80) dX5_begin_80 rfl ?_
      refine c_getR (pc := 81) 4 0 31 32 (by decide) (by decide) rfl (lt48 (by decide)) rfl rfl lkX5_11 dX5_begin_81 ?_
      refine o_bipush (pc := 84) (v := 44) dX5_begin_84 rfl ?_
      refine o_aload_n (pc := 86) dX5_begin_86 rfl ?_
      refine c_getI (pc := 87) 6 6 18 (by decide) (by decide) rfl (lt48 (by decide)) rfl lkX5_42 dX5_begin_87 ?_
      obtain ⟨hk20, hf⟩ := ck_elim hf
      refine c_iast (pc := 90) (lt48 (by decide)) rfl hk20 dX5_begin_90 ?_
      refine lz_s (cW t) hf (fun s21 hf => ?_)
      show Rn g mdX5_begin 91 [some (.ref 31), some (.ref 18), none, none] [] (cW t s21) 0 0 none (cW t q)
      obtain rfl := Option.some.inj hf
      exact o_return (pc := 91) dX5_begin_91 rfl (Nat.zero_le _) (Nat.zero_le _)
    exact kX5_begin_31_18_41_L51 _ _ _ hl18 K19
  exact kX5_begin_31_18_41_L10 _ _ _ hl11 K12
def fX10_logDay_17 (p0 : Int32) (s : ST) : Option (Int32) :=
  ck (inb (p0 * 3) 30) (some (gi s 27 (ix (p0 * 3))))
set_option maxRecDepth 20000 in
theorem kX10_logDay_17 {g : GX} {t : PH} {p0 : Int32} {s : ST} {q : Int32} (hf : fX10_logDay_17 p0 s = some q) : Cn g mdX10_logDay [.ref 17, .int p0] (cW t s) (some (.int q)) (cW t s) := by
  refine Cn.of (by decide) (Nat.le_of_ble_eq_true rfl) ?_
  show Rn g mdX10_logDay 0 [some (.ref 17), some (.int p0)] [] (cW t s) 0 0 (some (.int q)) (cW t s)
  unfold fX10_logDay_17 at hf
  refine o_aload_n (pc := 0) dX10_logDay_0 rfl ?_
  refine c_getR (pc := 1) 9 5 17 27 (by decide) (by decide) rfl (lt48 (by decide)) rfl rfl lkX10_35 dX10_logDay_1 ?_
  refine o_iload_n (pc := 4) dX10_logDay_4 rfl ?_
  refine o_iconst (pc := 5) (v := 3) dX10_logDay_5 rfl ?_
  refine o_imul (pc := 6) dX10_logDay_6 ?_
  obtain ⟨hk1, hf⟩ := ck_elim hf
  refine c_iald (pc := 7) (lt48 (by decide)) rfl hk1 dX10_logDay_7 ?_
  obtain rfl := Option.some.inj hf
  exact o_ireturn (pc := 8) dX10_logDay_8 rfl (Nat.zero_le _) (Nat.zero_le _)
def fX10_logLate_17 (p0 : Int32) (s : ST) : Option (Int32) :=
  ck (inb ((p0 * 3) + 2) 30) (some (gi s 27 (ix ((p0 * 3) + 2))))
set_option maxRecDepth 20000 in
theorem kX10_logLate_17 {g : GX} {t : PH} {p0 : Int32} {s : ST} {q : Int32} (hf : fX10_logLate_17 p0 s = some q) : Cn g mdX10_logLate [.ref 17, .int p0] (cW t s) (some (.int q)) (cW t s) := by
  refine Cn.of (by decide) (Nat.le_of_ble_eq_true rfl) ?_
  show Rn g mdX10_logLate 0 [some (.ref 17), some (.int p0)] [] (cW t s) 0 0 (some (.int q)) (cW t s)
  unfold fX10_logLate_17 at hf
  refine o_aload_n (pc := 0) dX10_logLate_0 rfl ?_
  refine c_getR (pc := 1) 9 5 17 27 (by decide) (by decide) rfl (lt48 (by decide)) rfl rfl lkX10_35 dX10_logLate_1 ?_
  refine o_iload_n (pc := 4) dX10_logLate_4 rfl ?_
  refine o_iconst (pc := 5) (v := 3) dX10_logLate_5 rfl ?_
  refine o_imul (pc := 6) dX10_logLate_6 ?_
  refine o_iconst (pc := 7) (v := 2) dX10_logLate_7 rfl ?_
  refine o_iadd (pc := 8) dX10_logLate_8 ?_
  obtain ⟨hk1, hf⟩ := ck_elim hf
  refine c_iald (pc := 9) (lt48 (by decide)) rfl hk1 dX10_logLate_9 ?_
  obtain rfl := Option.some.inj hf
  exact o_ireturn (pc := 10) dX10_logLate_10 rfl (Nat.zero_le _) (Nat.zero_le _)
def fX10_logPerson_17 (p0 : Int32) (s : ST) : Option (Int32) :=
  ck (inb ((p0 * 3) + 1) 30) (some (gi s 27 (ix ((p0 * 3) + 1))))
set_option maxRecDepth 20000 in
theorem kX10_logPerson_17 {g : GX} {t : PH} {p0 : Int32} {s : ST} {q : Int32} (hf : fX10_logPerson_17 p0 s = some q) : Cn g mdX10_logPerson [.ref 17, .int p0] (cW t s) (some (.int q)) (cW t s) := by
  refine Cn.of (by decide) (Nat.le_of_ble_eq_true rfl) ?_
  show Rn g mdX10_logPerson 0 [some (.ref 17), some (.int p0)] [] (cW t s) 0 0 (some (.int q)) (cW t s)
  unfold fX10_logPerson_17 at hf
  refine o_aload_n (pc := 0) dX10_logPerson_0 rfl ?_
  refine c_getR (pc := 1) 9 5 17 27 (by decide) (by decide) rfl (lt48 (by decide)) rfl rfl lkX10_35 dX10_logPerson_1 ?_
  refine o_iload_n (pc := 4) dX10_logPerson_4 rfl ?_
  refine o_iconst (pc := 5) (v := 3) dX10_logPerson_5 rfl ?_
  refine o_imul (pc := 6) dX10_logPerson_6 ?_
  refine o_iconst (pc := 7) (v := 1) dX10_logPerson_7 rfl ?_
  refine o_iadd (pc := 8) dX10_logPerson_8 ?_
  obtain ⟨hk1, hf⟩ := ck_elim hf
  refine c_iald (pc := 9) (lt48 (by decide)) rfl hk1 dX10_logPerson_9 ?_
  obtain rfl := Option.some.inj hf
  exact o_ireturn (pc := 10) dX10_logPerson_10 rfl (Nat.zero_le _) (Nat.zero_le _)
def fX9_fitsLogs_17_L3 (a1 : Int32) (a2 : Int32) : Nat → Int32 → ST → Option (Int32)
  | 0, _, _ => none
  | n + 1, x4, s => if (gi s 17 4) ≤ x4 then some 1 else (fX10_logDay_17 x4 s).bind (fun q2 => ck (inb ((a1 * 31) + q2) 279) (lt (gi s 46 (ix ((a1 * 31) + q2)) : Int32) (fun v4 => (fX10_logPerson_17 x4 s).bind (fun q6 => (if q6 = a2 then (fX10_logLate_17 x4 s).bind (fun q11 => if v4 = q11 then some false else some true) else some false : Option Bool).bind (fun b7 => if b7 = true then some 0 else lt (x4 + 1) (fun v12 => fX9_fitsLogs_17_L3 a1 a2 n v12 s))))))
def fX9_fitsLogs_17 (p0 : Int32) (p1 : Int32) (s : ST) : Option (Int32) :=
  fX9_fitsLogs_17_L3 p0 p1 FUEL 0 s
set_option maxRecDepth 20000 in
theorem kX9_fitsLogs_17_L3 {g : GX} {t : PH} (a1 : Int32) (a2 : Int32) (s : ST) : ∀ (n : Nat) (x4 : Int32) {q : Int32}, fX9_fitsLogs_17_L3 a1 a2 n x4 s = some q → Rn g mdX9_fitsLogs 3 [some (.ref 44), some (.int a1), some (.int a2), some (.ref 17), some (.int x4), none] [] (cW t s) 0 0 (some (.int q)) (cW t s) := by
  intro n
  induction n with
  | zero => intro x4 q hf; cases hf
  | succ n ih =>
    intro x4 q hf
    rw [fX9_fitsLogs_17_L3] at hf
    refine o_iload (pc := 3) dX9_fitsLogs_3 rfl ?_
    refine o_aload_n (pc := 5) dX9_fitsLogs_5 rfl ?_
    refine c_getI (pc := 6) 9 4 17 (by decide) (by decide) rfl (lt48 (by decide)) rfl lkX9_32 dX9_fitsLogs_6 ?_
    refine o_icmp_ge (pc := 9) 59 dX9_fitsLogs_9 rfl (fun hc => ?_) (fun hc => ?_)
    · have hf := it_t hf hc
      refine o_iconst (pc := 59) (v := 1) dX9_fitsLogs_59 rfl ?_
      obtain rfl := Option.some.inj hf
      exact o_zreturn (pc := 60) dX9_fitsLogs_60 rfl rfl (Nat.zero_le _) (Nat.zero_le _)
    · have hf := it_f hf hc
      refine o_aload_n (pc := 12) dX9_fitsLogs_12 rfl ?_
      refine c_getR (pc := 13) 8 1 44 46 (by decide) (by decide) rfl (lt48 (by decide)) rfl rfl lkX9_17 dX9_fitsLogs_13 ?_
      refine o_iload_n (pc := 16) dX9_fitsLogs_16 rfl ?_
      refine o_bipush (pc := 17) (v := 31) dX9_fitsLogs_17 rfl ?_
      refine o_imul (pc := 19) dX9_fitsLogs_19 ?_
      refine o_aload_n (pc := 20) dX9_fitsLogs_20 rfl ?_
      refine o_iload (pc := 21) dX9_fitsLogs_21 rfl ?_
      obtain ⟨q2, hk1, hf⟩ := bd_elim hf
      refine c_callV (pc := 23) 9 17 [.int x4] (by decide) (lt48 (by decide)) rfl dX9_fitsLogs_23 (kX10_logDay_17 hk1) stX9_38 ⟨by decide, by decide, by decide, by decide⟩ ⟨rfl, rfl⟩ (Nat.le_of_ble_eq_true rfl) ?_
      show Rn g mdX9_fitsLogs 26 [some (.ref 44), some (.int a1), some (.int a2), some (.ref 17), some (.int x4), none] [.int q2, .int (a1 * 31), .ref 46] (cW t s) 0 0 (some (.int q)) (cW t s)
      refine o_iadd (pc := 26) dX9_fitsLogs_26 ?_
      obtain ⟨hk3, hf⟩ := ck_elim hf
      refine c_iald (pc := 27) (lt48 (by decide)) rfl hk3 dX9_fitsLogs_27 ?_
      refine lz_i hf (fun v4 hf => ?_)
      refine o_istore (pc := 28) dX9_fitsLogs_28 (by decide) rfl ?_
      show Rn g mdX9_fitsLogs 30 [some (.ref 44), some (.int a1), some (.int a2), some (.ref 17), some (.int x4), some (.int v4)] [] (cW t s) 0 0 (some (.int q)) (cW t s)
      refine o_aload_n (pc := 30) dX9_fitsLogs_30 rfl ?_
      refine o_iload (pc := 31) dX9_fitsLogs_31 rfl ?_
      obtain ⟨q6, hk5, hf⟩ := bd_elim hf
      refine c_callV (pc := 33) 9 17 [.int x4] (by decide) (lt48 (by decide)) rfl dX9_fitsLogs_33 (kX10_logPerson_17 hk5) stX9_42 ⟨by decide, by decide, by decide, by decide⟩ ⟨rfl, rfl⟩ (Nat.le_of_ble_eq_true rfl) ?_
      show Rn g mdX9_fitsLogs 36 [some (.ref 44), some (.int a1), some (.int a2), some (.ref 17), some (.int x4), some (.int v4)] [.int q6] (cW t s) 0 0 (some (.int q)) (cW t s)
      refine o_iload_n (pc := 36) dX9_fitsLogs_36 rfl ?_
      obtain ⟨b7, hr8, hf⟩ := bd_elim hf
      have KB9 : (b7 = true → Rn g mdX9_fitsLogs 51 [some (.ref 44), some (.int a1), some (.int a2), some (.ref 17), some (.int x4), some (.int v4)] [] (cW t s) 0 0 (some (.int q)) (cW t s)) ∧ (¬ b7 = true → Rn g mdX9_fitsLogs 53 [some (.ref 44), some (.int a1), some (.int a2), some (.ref 17), some (.int x4), some (.int v4)] [] (cW t s) 0 0 (some (.int q)) (cW t s)) := by
        refine ⟨fun hc => ?_, fun hc => ?_⟩
        · have hf := it_t hf hc
          refine o_iconst (pc := 51) (v := 0) dX9_fitsLogs_51 rfl ?_
          obtain rfl := Option.some.inj hf
          exact o_zreturn (pc := 52) dX9_fitsLogs_52 rfl rfl (Nat.zero_le _) (Nat.zero_le _)
        · have hf := it_f hf hc
          refine o_iinc (pc := 53) dX9_fitsLogs_53 rfl (by decide) rfl ?_
          show Rn g mdX9_fitsLogs 56 [some (.ref 44), some (.int a1), some (.int a2), some (.ref 17), some (.int (x4 + 1)), some (.int v4)] [] (cW t s) 0 0 (some (.int q)) (cW t s)
          obtain ⟨v12, ev12, hf⟩ := lt_elim hf
          rw [ev12]
          show Rn g mdX9_fitsLogs 56 [some (.ref 44), some (.int a1), some (.int a2), some (.ref 17), some (.int v12), some (.int v4)] [] (cW t s) 0 0 (some (.int q)) (cW t s)
          refine o_goto (pc := 56) 3 dX9_fitsLogs_56 rfl ?_
          refine o_keep [true, true, true, true, true, false] ?_
          exact ih _ hf
      clear hf
      refine o_icmp_ne (pc := 37) 53 dX9_fitsLogs_37 rfl (fun hc => ?_) (fun hc => ?_)
      · have hr8 := it_f hr8 hc
        obtain rfl := Option.some.inj hr8
        exact KB9.2 (by decide)
      · have hr8 := it_t hr8 hc
        refine o_iload (pc := 40) dX9_fitsLogs_40 rfl ?_
        refine o_aload_n (pc := 42) dX9_fitsLogs_42 rfl ?_
        refine o_iload (pc := 43) dX9_fitsLogs_43 rfl ?_
        obtain ⟨q11, hk10, hr8⟩ := bd_elim hr8
        refine c_callV (pc := 45) 9 17 [.int x4] (by decide) (lt48 (by decide)) rfl dX9_fitsLogs_45 (kX10_logLate_17 hk10) stX9_45 ⟨by decide, by decide, by decide, by decide⟩ ⟨rfl, rfl⟩ (Nat.le_of_ble_eq_true rfl) ?_
        show Rn g mdX9_fitsLogs 48 [some (.ref 44), some (.int a1), some (.int a2), some (.ref 17), some (.int x4), some (.int v4)] [.int q11, .int v4] (cW t s) 0 0 (some (.int q)) (cW t s)
        refine o_icmp_eq (pc := 48) 53 dX9_fitsLogs_48 rfl (fun hc => ?_) (fun hc => ?_)
        · have hr8 := it_t hr8 hc
          obtain rfl := Option.some.inj hr8
          exact KB9.2 (by decide)
        · have hr8 := it_f hr8 hc
          obtain rfl := Option.some.inj hr8
          exact KB9.1 rfl
set_option maxRecDepth 20000 in
theorem kX9_fitsLogs_17 {g : GX} {t : PH} {p0 : Int32} {p1 : Int32} {s : ST} {q : Int32} (hf : fX9_fitsLogs_17 p0 p1 s = some q) : Cn g mdX9_fitsLogs [.ref 44, .int p0, .int p1, .ref 17] (cW t s) (some (.int q)) (cW t s) := by
  refine Cn.of (by decide) (Nat.le_of_ble_eq_true rfl) ?_
  show Rn g mdX9_fitsLogs 0 [some (.ref 44), some (.int p0), some (.int p1), some (.ref 17), none, none] [] (cW t s) 0 0 (some (.int q)) (cW t s)
  unfold fX9_fitsLogs_17 at hf
  refine o_iconst (pc := 0) (v := 0) dX9_fitsLogs_0 rfl ?_
  refine o_istore (pc := 1) dX9_fitsLogs_1 (by decide) rfl ?_
  show Rn g mdX9_fitsLogs 3 [some (.ref 44), some (.int p0), some (.int p1), some (.ref 17), some (.int 0), none] [] (cW t s) 0 0 (some (.int q)) (cW t s)
  exact kX9_fitsLogs_17_L3 _ _ _ _ _ hf
def fX9_keepLate (p0 : Int32) (p1 : Int32) (p2 : Int32) (s : ST) : Option (ST) :=
  ck (inb ((p0 * 31) + p1) 279) (lt (si s 46 (ix ((p0 * 31) + p1)) p2) (fun s2 => some s2))
set_option maxRecDepth 20000 in
theorem kX9_keepLate {g : GX} {t : PH} {p0 : Int32} {p1 : Int32} {p2 : Int32} {s : ST} {q : ST} (hf : fX9_keepLate p0 p1 p2 s = some q) : Cn g mdX9_keepLate [.ref 44, .int p0, .int p1, .int p2] (cW t s) none (cW t q) := by
  refine Cn.of (by decide) (Nat.le_of_ble_eq_true rfl) ?_
  show Rn g mdX9_keepLate 0 [some (.ref 44), some (.int p0), some (.int p1), some (.int p2)] [] (cW t s) 0 0 none (cW t q)
  unfold fX9_keepLate at hf
  refine o_aload_n (pc := 0) dX9_keepLate_0 rfl ?_
  refine c_getR (pc := 1) 8 1 44 46 (by decide) (by decide) rfl (lt48 (by decide)) rfl rfl lkX9_17 dX9_keepLate_1 ?_
  refine o_iload_n (pc := 4) dX9_keepLate_4 rfl ?_
  refine o_bipush (pc := 5) (v := 31) dX9_keepLate_5 rfl ?_
  refine o_imul (pc := 7) dX9_keepLate_7 ?_
  refine o_iload_n (pc := 8) dX9_keepLate_8 rfl ?_
  refine o_iadd (pc := 9) dX9_keepLate_9 ?_
  refine o_iload_n (pc := 10) dX9_keepLate_10 rfl ?_
  obtain ⟨hk1, hf⟩ := ck_elim hf
  refine c_iast (pc := 11) (lt48 (by decide)) rfl hk1 dX9_keepLate_11 ?_
  refine lz_s (cW t) hf (fun s2 hf => ?_)
  show Rn g mdX9_keepLate 12 [some (.ref 44), some (.int p0), some (.int p1), some (.int p2)] [] (cW t s2) 0 0 none (cW t q)
  obtain rfl := Option.some.inj hf
  exact o_return (pc := 12) dX9_keepLate_12 rfl (Nat.zero_le _) (Nat.zero_le _)
def fX11_habitsThatFit_L68 (a1 : Int32) (a2 : Int32) (a3 : Int32) (t : PH) : Nat → Int32 → ST → Option (Int32 × ST)
  | 0, _, _ => none
  | n + 1, x4, s => if 30 < x4 then some (x4, s) else (fX0_goDay t s).bind (fun q12 => ck (inb (5 + a1) 46) ((fX9_keepLate a3 x4 (gi q12 32 (ix (5 + a1))) q12).bind (fun q15 => lt (x4 + 1) (fun v16 => fX11_habitsThatFit_L68 a1 a2 a3 t n v16 q15))))
def fX11_habitsThatFit_L4 (a1 : Int32) (t : PH) : Nat → Int32 → Int32 → ST → Option (Int32 × Int32 × ST)
  | 0, _, _, _ => none
  | n + 1, x2, x3, s => if 9 ≤ x3 then some (x2, x3, s) else (fX11_ruleThatIsInForce t s).bind (fun q2 => (fX0_start_18 q2 t s).bind (fun q4 => (fX11_habitOf x3 q4).bind (fun q6 => ck (inb a1 5) (lt (si q4 41 (ix a1) q6) (fun s8 => (fX5_begin_31_18_41 s8).bind (fun q10 => (fX11_habitsThatFit_L68 a1 x2 x3 t FUEL 0 q10).bind (fun w17 => (fX9_fitsLogs_17 x3 a1 w17.2).bind (fun q21 => (if q21 = 0 then some x2 else lt (x2 ||| (1 <<< (x3 &&& 31)) : Int32) (fun v25 => some v25) : Option (Int32)).bind (fun w22 => lt (x3 + 1) (fun v26 => fX11_habitsThatFit_L4 a1 t n w22 v26 w17.2))))))))))
def fX11_habitsThatFit (p0 : Int32) (t : PH) (s : ST) : Option (Int32 × ST) :=
  (fX11_habitsThatFit_L4 p0 t FUEL 0 0 s).bind (fun w27 => some (w27.1, w27.2.2))
set_option maxRecDepth 20000 in
theorem kX11_habitsThatFit_L68 {g : GX} {t : PH} (a1 : Int32) (a2 : Int32) (a3 : Int32) {r : Option Value} {h2 : PH} : ∀ (n : Nat) (x4 : Int32) (s : ST) {w : Int32 × ST}, fX11_habitsThatFit_L68 a1 a2 a3 t n x4 s = some w → Rn g mdX11_habitsThatFit 112 [some (.ref 0), some (.int a1), some (.int a2), some (.int a3), none] [] (cW t w.2) 0 0 r h2 → Rn g mdX11_habitsThatFit 68 [some (.ref 0), some (.int a1), some (.int a2), some (.int a3), some (.int x4)] [] (cW t s) 0 0 r h2 := by
  intro n
  induction n with
  | zero => intro x4 s w hf K; cases hf
  | succ n ih =>
    intro x4 s w hf K
    rw [fX11_habitsThatFit_L68] at hf
    refine o_iload (pc := 68) dX11_habitsThatFit_68 rfl ?_
    refine o_bipush (pc := 70) (v := 30) dX11_habitsThatFit_70 rfl ?_
    refine o_icmp_gt (pc := 72) 112 dX11_habitsThatFit_72 rfl (fun hc => ?_) (fun hc => ?_)
    · have hf := it_t hf hc
      obtain rfl := Option.some.inj hf
      refine o_keep [true, true, true, true, false] ?_
      exact K
    · have hf := it_f hf hc
      refine o_aload_n (pc := 75) dX11_habitsThatFit_75 rfl ?_
      refine c_getR (pc := 76) 10 7 0 30 (by decide) (by decide) rfl (lt48 (by decide)) rfl rfl lkX11_56 dX11_habitsThatFit_76 ?_
      obtain ⟨q12, hk11, hf⟩ := bd_elim hf
      refine c_callV (pc := 79) 0 30 [] (by decide) (lt48 (by decide)) rfl dX11_habitsThatFit_79 (kX0_goDay hk11) stX11_146 ⟨by decide, by decide, by decide, by decide⟩ ⟨rfl, rfl⟩ (Nat.le_of_ble_eq_true rfl) ?_
      show Rn g mdX11_habitsThatFit 82 [some (.ref 0), some (.int a1), some (.int a2), some (.int a3), some (.int x4)] [] (cW t q12) 0 0 r h2
      refine o_aload_n (pc := 82) dX11_habitsThatFit_82 rfl ?_
      refine c_getR (pc := 83) 10 8 0 44 (by decide) (by decide) rfl (lt48 (by decide)) rfl rfl lkX11_63 dX11_habitsThatFit_83 ?_
      refine o_iload_n (pc := 86) dX11_habitsThatFit_86 rfl ?_
      refine o_iload (pc := 87) dX11_habitsThatFit_87 rfl ?_
      refine o_aload_n (pc := 89) dX11_habitsThatFit_89 rfl ?_
      refine c_getR (pc := 90) 10 7 0 30 (by decide) (by decide) rfl (lt48 (by decide)) rfl rfl lkX11_56 dX11_habitsThatFit_90 ?_
      refine c_getR (pc := 93) 0 0 30 31 (by decide) (by decide) rfl (lt48 (by decide)) rfl rfl lkX11_149 dX11_habitsThatFit_93 ?_
      refine c_getR (pc := 96) 4 0 31 32 (by decide) (by decide) rfl (lt48 (by decide)) rfl rfl lkX11_108 dX11_habitsThatFit_96 ?_
      refine o_iconst (pc := 99) (v := 5) dX11_habitsThatFit_99 rfl ?_
      refine o_iload_n (pc := 100) dX11_habitsThatFit_100 rfl ?_
      refine o_iadd (pc := 101) dX11_habitsThatFit_101 ?_
      obtain ⟨hk13, hf⟩ := ck_elim hf
      refine c_iald (pc := 102) (lt48 (by decide)) rfl hk13 dX11_habitsThatFit_102 ?_
      obtain ⟨q15, hk14, hf⟩ := bd_elim hf
      refine c_callV (pc := 103) 8 44 [.int a3, .int x4, .int (gi q12 32 (ix (5 + a1)))] (by decide) (lt48 (by decide)) rfl dX11_habitsThatFit_103 (kX9_keepLate hk14) stX11_295 ⟨by decide, by decide, by decide, by decide⟩ ⟨rfl, rfl⟩ (Nat.le_of_ble_eq_true rfl) ?_
      show Rn g mdX11_habitsThatFit 106 [some (.ref 0), some (.int a1), some (.int a2), some (.int a3), some (.int x4)] [] (cW t q15) 0 0 r h2
      refine o_iinc (pc := 106) dX11_habitsThatFit_106 rfl (by decide) rfl ?_
      show Rn g mdX11_habitsThatFit 109 [some (.ref 0), some (.int a1), some (.int a2), some (.int a3), some (.int (x4 + 1))] [] (cW t q15) 0 0 r h2
      obtain ⟨v16, ev16, hf⟩ := lt_elim hf
      rw [ev16]
      show Rn g mdX11_habitsThatFit 109 [some (.ref 0), some (.int a1), some (.int a2), some (.int a3), some (.int v16)] [] (cW t q15) 0 0 r h2
      refine o_goto (pc := 109) 68 dX11_habitsThatFit_109 rfl ?_
      exact ih _ _ hf K
set_option maxRecDepth 20000 in
theorem kX11_habitsThatFit_L4 {g : GX} {t : PH} (a1 : Int32) {r : Option Value} {h2 : PH} : ∀ (n : Nat) (x2 : Int32) (x3 : Int32) (s : ST) {w : Int32 × Int32 × ST}, fX11_habitsThatFit_L4 a1 t n x2 x3 s = some w → Rn g mdX11_habitsThatFit 140 [none, none, some (.int w.1), none, none] [] (cW t w.2.2) 0 0 r h2 → Rn g mdX11_habitsThatFit 4 [some (.ref 0), some (.int a1), some (.int x2), some (.int x3), none] [] (cW t s) 0 0 r h2 := by
  intro n
  induction n with
  | zero => intro x2 x3 s w hf K; cases hf
  | succ n ih =>
    intro x2 x3 s w hf K
    rw [fX11_habitsThatFit_L4] at hf
    refine o_iload_n (pc := 4) dX11_habitsThatFit_4 rfl ?_
    refine o_bipush (pc := 5) (v := 9) dX11_habitsThatFit_5 rfl ?_
    refine o_icmp_ge (pc := 7) 140 dX11_habitsThatFit_7 rfl (fun hc => ?_) (fun hc => ?_)
    · have hf := it_t hf hc
      obtain rfl := Option.some.inj hf
      refine o_keep [false, false, true, false, false] ?_
      exact K
    · have hf := it_f hf hc
      refine o_aload_n (pc := 10) dX11_habitsThatFit_10 rfl ?_
      refine c_getR (pc := 11) 10 7 0 30 (by decide) (by decide) rfl (lt48 (by decide)) rfl rfl lkX11_56 dX11_habitsThatFit_11 ?_
      refine o_aload_n (pc := 14) dX11_habitsThatFit_14 rfl ?_
      refine c_getR (pc := 15) 10 5 0 17 (by decide) (by decide) rfl (lt48 (by decide)) rfl rfl lkX11_45 dX11_habitsThatFit_15 ?_
      refine c_getR (pc := 18) 9 0 17 18 (by decide) (by decide) rfl (lt48 (by decide)) rfl rfl lkX11_86 dX11_habitsThatFit_18 ?_
      refine o_aload_n (pc := 21) dX11_habitsThatFit_21 rfl ?_
      obtain ⟨q2, hk1, hf⟩ := bd_elim hf
      refine c_callV (pc := 22) 10 0 [] (by decide) (lt48 (by decide)) rfl dX11_habitsThatFit_22 (kX11_ruleThatIsInForce hk1) stX11_283 ⟨by decide, by decide, by decide, by decide⟩ ⟨rfl, rfl⟩ (Nat.le_of_ble_eq_true rfl) ?_
      show Rn g mdX11_habitsThatFit 25 [some (.ref 0), some (.int a1), some (.int x2), some (.int x3), none] [va_rf q2, .ref 18, .ref 30] (cW t s) 0 0 r h2
      obtain ⟨q4, hk3, hf⟩ := bd_elim hf
      refine c_callV (pc := 25) 0 30 [.ref 18, va_rf q2] (by decide) (lt48 (by decide)) rfl dX11_habitsThatFit_25 (kX0_start_18 hk3) stX11_286 ⟨by decide, by decide, by decide, by decide⟩ ⟨rfl, rfl⟩ (Nat.le_of_ble_eq_true rfl) ?_
      show Rn g mdX11_habitsThatFit 28 [some (.ref 0), some (.int a1), some (.int x2), some (.int x3), none] [] (cW t q4) 0 0 r h2
      refine o_aload_n (pc := 28) dX11_habitsThatFit_28 rfl ?_
      refine c_getR (pc := 29) 10 7 0 30 (by decide) (by decide) rfl (lt48 (by decide)) rfl rfl lkX11_56 dX11_habitsThatFit_29 ?_
      refine c_getR (pc := 32) 0 2 30 41 (by decide) (by decide) rfl (lt48 (by decide)) rfl rfl lkX11_290 dX11_habitsThatFit_32 ?_
      refine o_iload_n (pc := 35) dX11_habitsThatFit_35 rfl ?_
      refine o_iload_n (pc := 36) dX11_habitsThatFit_36 rfl ?_
      obtain ⟨q6, hk5, hf⟩ := bd_elim hf
      refine c_callS (pc := 37) [.int x3] dX11_habitsThatFit_37 (kX11_habitOf hk5) stX11_255 ⟨by decide, by decide, by decide, by decide⟩ ⟨rfl, rfl⟩ (Nat.le_of_ble_eq_true rfl) ?_
      show Rn g mdX11_habitsThatFit 40 [some (.ref 0), some (.int a1), some (.int x2), some (.int x3), none] [.int q6, .int a1, .ref 41] (cW t q4) 0 0 r h2
      obtain ⟨hk7, hf⟩ := ck_elim hf
      refine c_iast (pc := 40) (lt48 (by decide)) rfl hk7 dX11_habitsThatFit_40 ?_
      refine lz_s (cW t) hf (fun s8 hf => ?_)
      show Rn g mdX11_habitsThatFit 41 [some (.ref 0), some (.int a1), some (.int x2), some (.int x3), none] [] (cW t s8) 0 0 r h2
      refine o_aload_n (pc := 41) dX11_habitsThatFit_41 rfl ?_
      refine c_getR (pc := 42) 10 7 0 30 (by decide) (by decide) rfl (lt48 (by decide)) rfl rfl lkX11_56 dX11_habitsThatFit_42 ?_
      refine c_getR (pc := 45) 0 0 30 31 (by decide) (by decide) rfl (lt48 (by decide)) rfl rfl lkX11_149 dX11_habitsThatFit_45 ?_
      refine o_aload_n (pc := 48) dX11_habitsThatFit_48 rfl ?_
      refine c_getR (pc := 49) 10 5 0 17 (by decide) (by decide) rfl (lt48 (by decide)) rfl rfl lkX11_45 dX11_habitsThatFit_49 ?_
      refine c_getR (pc := 52) 9 0 17 18 (by decide) (by decide) rfl (lt48 (by decide)) rfl rfl lkX11_86 dX11_habitsThatFit_52 ?_
      refine o_aload_n (pc := 55) dX11_habitsThatFit_55 rfl ?_
      refine c_getR (pc := 56) 10 7 0 30 (by decide) (by decide) rfl (lt48 (by decide)) rfl rfl lkX11_56 dX11_habitsThatFit_56 ?_
      refine c_getR (pc := 59) 0 2 30 41 (by decide) (by decide) rfl (lt48 (by decide)) rfl rfl lkX11_290 dX11_habitsThatFit_59 ?_
      obtain ⟨q10, hk9, hf⟩ := bd_elim hf
      refine c_callV (pc := 62) 4 31 [.ref 18, .ref 41] (by decide) (lt48 (by decide)) rfl dX11_habitsThatFit_62 (kX5_begin_31_18_41 hk9) stX11_291 ⟨by decide, by decide, by decide, by decide⟩ ⟨rfl, rfl⟩ (Nat.le_of_ble_eq_true rfl) ?_
      show Rn g mdX11_habitsThatFit 65 [some (.ref 0), some (.int a1), some (.int x2), some (.int x3), none] [] (cW t q10) 0 0 r h2
      refine o_iconst (pc := 65) (v := 0) dX11_habitsThatFit_65 rfl ?_
      refine o_istore (pc := 66) dX11_habitsThatFit_66 (by decide) rfl ?_
      show Rn g mdX11_habitsThatFit 68 [some (.ref 0), some (.int a1), some (.int x2), some (.int x3), some (.int 0)] [] (cW t q10) 0 0 r h2
      obtain ⟨w17, hl18, hf⟩ := bd_elim hf
      have K19 : Rn g mdX11_habitsThatFit 112 [some (.ref 0), some (.int a1), some (.int x2), some (.int x3), none] [] (cW t w17.2) 0 0 r h2 := by
        refine o_aload_n (pc := 112) dX11_habitsThatFit_112 rfl ?_
        refine c_getR (pc := 113) 10 8 0 44 (by decide) (by decide) rfl (lt48 (by decide)) rfl rfl lkX11_63 dX11_habitsThatFit_113 ?_
        refine o_iload_n (pc := 116) dX11_habitsThatFit_116 rfl ?_
        refine o_iload_n (pc := 117) dX11_habitsThatFit_117 rfl ?_
        refine o_aload_n (pc := 118) dX11_habitsThatFit_118 rfl ?_
        refine c_getR (pc := 119) 10 5 0 17 (by decide) (by decide) rfl (lt48 (by decide)) rfl rfl lkX11_45 dX11_habitsThatFit_119 ?_
        obtain ⟨q21, hk20, hf⟩ := bd_elim hf
        refine c_callV (pc := 122) 8 44 [.int x3, .int a1, .ref 17] (by decide) (lt48 (by decide)) rfl dX11_habitsThatFit_122 (kX9_fitsLogs_17 hk20) stX11_298 ⟨by decide, by decide, by decide, by decide⟩ ⟨rfl, rfl⟩ (Nat.le_of_ble_eq_true rfl) ?_
        show Rn g mdX11_habitsThatFit 125 [some (.ref 0), some (.int a1), some (.int x2), some (.int x3), none] [.int q21] (cW t w17.2) 0 0 r h2
        obtain ⟨w22, hr23, hf⟩ := bd_elim hf
        have K24 : Rn g mdX11_habitsThatFit 134 [some (.ref 0), some (.int a1), some (.int w22), some (.int x3), none] [] (cW t w17.2) 0 0 r h2 := by
          refine o_iinc (pc := 134) dX11_habitsThatFit_134 rfl (by decide) rfl ?_
          show Rn g mdX11_habitsThatFit 137 [some (.ref 0), some (.int a1), some (.int w22), some (.int (x3 + 1)), none] [] (cW t w17.2) 0 0 r h2
          obtain ⟨v26, ev26, hf⟩ := lt_elim hf
          rw [ev26]
          show Rn g mdX11_habitsThatFit 137 [some (.ref 0), some (.int a1), some (.int w22), some (.int v26), none] [] (cW t w17.2) 0 0 r h2
          refine o_goto (pc := 137) 4 dX11_habitsThatFit_137 rfl ?_
          exact ih _ _ _ hf K
        clear hf
        refine o_if_eq (pc := 125) 134 dX11_habitsThatFit_125 rfl (fun hc => ?_) (fun hc => ?_)
        · have hr23 := it_t hr23 hc
          obtain rfl := Option.some.inj hr23
          exact K24
        · have hr23 := it_f hr23 hc
          refine o_iload_n (pc := 128) dX11_habitsThatFit_128 rfl ?_
          refine o_iconst (pc := 129) (v := 1) dX11_habitsThatFit_129 rfl ?_
          refine o_iload_n (pc := 130) dX11_habitsThatFit_130 rfl ?_
          refine o_ishl (pc := 131) dX11_habitsThatFit_131 ?_
          refine o_ior (pc := 132) dX11_habitsThatFit_132 ?_
          refine lz_i hr23 (fun v25 hr23 => ?_)
          refine o_istore_n (pc := 133) dX11_habitsThatFit_133 (by decide) rfl ?_
          show Rn g mdX11_habitsThatFit 134 [some (.ref 0), some (.int a1), some (.int v25), some (.int x3), none] [] (cW t w17.2) 0 0 r h2
          obtain rfl := Option.some.inj hr23
          exact K24
      exact kX11_habitsThatFit_L68 _ _ _ _ _ _ hl18 K19
set_option maxRecDepth 20000 in
theorem kX11_habitsThatFit {g : GX} {t : PH} {p0 : Int32} {s : ST} {q : Int32 × ST} (hf : fX11_habitsThatFit p0 t s = some q) : Cn g mdX11_habitsThatFit [.ref 0, .int p0] (cW t s) (some (.int q.1)) (cW t q.2) := by
  refine Cn.of (by decide) (Nat.le_of_ble_eq_true rfl) ?_
  show Rn g mdX11_habitsThatFit 0 [some (.ref 0), some (.int p0), none, none, none] [] (cW t s) 0 0 (some (.int q.1)) (cW t q.2)
  unfold fX11_habitsThatFit at hf
  refine o_iconst (pc := 0) (v := 0) dX11_habitsThatFit_0 rfl ?_
  refine o_istore_n (pc := 1) dX11_habitsThatFit_1 (by decide) rfl ?_
  show Rn g mdX11_habitsThatFit 2 [some (.ref 0), some (.int p0), some (.int 0), none, none] [] (cW t s) 0 0 (some (.int q.1)) (cW t q.2)
  refine o_iconst (pc := 2) (v := 0) dX11_habitsThatFit_2 rfl ?_
  refine o_istore_n (pc := 3) dX11_habitsThatFit_3 (by decide) rfl ?_
  show Rn g mdX11_habitsThatFit 4 [some (.ref 0), some (.int p0), some (.int 0), some (.int 0), none] [] (cW t s) 0 0 (some (.int q.1)) (cW t q.2)
  obtain ⟨w27, hl28, hf⟩ := bd_elim hf
  have K29 : Rn g mdX11_habitsThatFit 140 [none, none, some (.int w27.1), none, none] [] (cW t w27.2.2) 0 0 (some (.int q.1)) (cW t q.2) := by
    refine o_iload_n (pc := 140) dX11_habitsThatFit_140 rfl ?_
    obtain rfl := Option.some.inj hf
    exact o_ireturn (pc := 141) dX11_habitsThatFit_141 rfl (Nat.zero_le _) (Nat.zero_le _)
  exact kX11_habitsThatFit_L4 _ _ _ _ _ hl28 K29
def fJ6_bitCount_0f7a4 (p0 : Int32) (s : ST) : Option (Int32) :=
  lt (p0 - (((Int32.toUInt32 p0 >>> (Int32.toUInt32 1 &&& Int32.toUInt32 31)).toInt32) &&& 1431655765) : Int32) (fun v1 => lt ((v1 &&& 858993459) + (((Int32.toUInt32 v1 >>> (Int32.toUInt32 2 &&& Int32.toUInt32 31)).toInt32) &&& 858993459) : Int32) (fun v2 => lt ((v2 + ((Int32.toUInt32 v2 >>> (Int32.toUInt32 4 &&& Int32.toUInt32 31)).toInt32)) &&& 252645135 : Int32) (fun v3 => lt (v3 + ((Int32.toUInt32 v3 >>> (Int32.toUInt32 8 &&& Int32.toUInt32 31)).toInt32) : Int32) (fun v4 => lt (v4 + ((Int32.toUInt32 v4 >>> (Int32.toUInt32 16 &&& Int32.toUInt32 31)).toInt32) : Int32) (fun v5 => some (v5 &&& 63))))))
set_option maxRecDepth 20000 in
theorem kJ6_bitCount_0f7a4 {g : GX} {t : PH} {p0 : Int32} {s : ST} {q : Int32} (hf : fJ6_bitCount_0f7a4 p0 s = some q) : Cn g mdJ6_bitCount_0f7a4 [.int p0] (cW t s) (some (.int q)) (cW t s) := by
  refine Cn.of (by decide) (Nat.le_of_ble_eq_true rfl) ?_
  show Rn g mdJ6_bitCount_0f7a4 0 [some (.int p0)] [] (cW t s) 0 0 (some (.int q)) (cW t s)
  unfold fJ6_bitCount_0f7a4 at hf
  refine o_iload_n (pc := 0) dJ6_bitCount_0f7a4_0 rfl ?_
  refine o_iload_n (pc := 1) dJ6_bitCount_0f7a4_1 rfl ?_
  refine o_iconst (pc := 2) (v := 1) dJ6_bitCount_0f7a4_2 rfl ?_
  refine o_iushr (pc := 3) dJ6_bitCount_0f7a4_3 ?_
  refine o_ldcw (pc := 4) dJ6_bitCount_0f7a4_4 lcJ6_265 ?_
  refine o_iand (pc := 7) dJ6_bitCount_0f7a4_7 ?_
  refine o_isub (pc := 8) dJ6_bitCount_0f7a4_8 ?_
  refine lz_i hf (fun v1 hf => ?_)
  refine o_istore_n (pc := 9) dJ6_bitCount_0f7a4_9 (by decide) rfl ?_
  show Rn g mdJ6_bitCount_0f7a4 10 [some (.int v1)] [] (cW t s) 0 0 (some (.int q)) (cW t s)
  refine o_iload_n (pc := 10) dJ6_bitCount_0f7a4_10 rfl ?_
  refine o_ldcw (pc := 11) dJ6_bitCount_0f7a4_11 lcJ6_266 ?_
  refine o_iand (pc := 14) dJ6_bitCount_0f7a4_14 ?_
  refine o_iload_n (pc := 15) dJ6_bitCount_0f7a4_15 rfl ?_
  refine o_iconst (pc := 16) (v := 2) dJ6_bitCount_0f7a4_16 rfl ?_
  refine o_iushr (pc := 17) dJ6_bitCount_0f7a4_17 ?_
  refine o_ldcw (pc := 18) dJ6_bitCount_0f7a4_18 lcJ6_266 ?_
  refine o_iand (pc := 21) dJ6_bitCount_0f7a4_21 ?_
  refine o_iadd (pc := 22) dJ6_bitCount_0f7a4_22 ?_
  refine lz_i hf (fun v2 hf => ?_)
  refine o_istore_n (pc := 23) dJ6_bitCount_0f7a4_23 (by decide) rfl ?_
  show Rn g mdJ6_bitCount_0f7a4 24 [some (.int v2)] [] (cW t s) 0 0 (some (.int q)) (cW t s)
  refine o_iload_n (pc := 24) dJ6_bitCount_0f7a4_24 rfl ?_
  refine o_iload_n (pc := 25) dJ6_bitCount_0f7a4_25 rfl ?_
  refine o_iconst (pc := 26) (v := 4) dJ6_bitCount_0f7a4_26 rfl ?_
  refine o_iushr (pc := 27) dJ6_bitCount_0f7a4_27 ?_
  refine o_iadd (pc := 28) dJ6_bitCount_0f7a4_28 ?_
  refine o_ldcw (pc := 29) dJ6_bitCount_0f7a4_29 lcJ6_267 ?_
  refine o_iand (pc := 32) dJ6_bitCount_0f7a4_32 ?_
  refine lz_i hf (fun v3 hf => ?_)
  refine o_istore_n (pc := 33) dJ6_bitCount_0f7a4_33 (by decide) rfl ?_
  show Rn g mdJ6_bitCount_0f7a4 34 [some (.int v3)] [] (cW t s) 0 0 (some (.int q)) (cW t s)
  refine o_iload_n (pc := 34) dJ6_bitCount_0f7a4_34 rfl ?_
  refine o_iload_n (pc := 35) dJ6_bitCount_0f7a4_35 rfl ?_
  refine o_bipush (pc := 36) (v := 8) dJ6_bitCount_0f7a4_36 rfl ?_
  refine o_iushr (pc := 38) dJ6_bitCount_0f7a4_38 ?_
  refine o_iadd (pc := 39) dJ6_bitCount_0f7a4_39 ?_
  refine lz_i hf (fun v4 hf => ?_)
  refine o_istore_n (pc := 40) dJ6_bitCount_0f7a4_40 (by decide) rfl ?_
  show Rn g mdJ6_bitCount_0f7a4 41 [some (.int v4)] [] (cW t s) 0 0 (some (.int q)) (cW t s)
  refine o_iload_n (pc := 41) dJ6_bitCount_0f7a4_41 rfl ?_
  refine o_iload_n (pc := 42) dJ6_bitCount_0f7a4_42 rfl ?_
  refine o_bipush (pc := 43) (v := 16) dJ6_bitCount_0f7a4_43 rfl ?_
  refine o_iushr (pc := 45) dJ6_bitCount_0f7a4_45 ?_
  refine o_iadd (pc := 46) dJ6_bitCount_0f7a4_46 ?_
  refine lz_i hf (fun v5 hf => ?_)
  refine o_istore_n (pc := 47) dJ6_bitCount_0f7a4_47 (by decide) rfl ?_
  show Rn g mdJ6_bitCount_0f7a4 48 [some (.int v5)] [] (cW t s) 0 0 (some (.int q)) (cW t s)
  refine o_iload_n (pc := 48) dJ6_bitCount_0f7a4_48 rfl ?_
  refine o_bipush (pc := 49) (v := 63) dJ6_bitCount_0f7a4_49 rfl ?_
  refine o_iand (pc := 51) dJ6_bitCount_0f7a4_51 ?_
  obtain rfl := Option.some.inj hf
  exact o_ireturn (pc := 52) dJ6_bitCount_0f7a4_52 rfl (Nat.zero_le _) (Nat.zero_le _)
def fX11_habit_L39 (a3 : Int32) (t : PH) : Nat → Int32 → ST → Option (Int32 × ST)
  | 0, _, _ => none
  | n + 1, x4, s => if 9 ≤ x4 then some ((-100), s) else if ((a3 >>> (x4 &&& 31)) &&& 1) = 1 then (fX11_habitOf x4 s).bind (fun q10 => some (q10, s)) else lt (x4 + 1) (fun v8 => fX11_habit_L39 a3 t n v8 s)
def fX11_habit (p0 : Int32) (p1 : Int32) (t : PH) (s : ST) : Option (Int32 × ST) :=
  (fX11_isPerson p0 s).bind (fun q2 => (if q2 = 0 then some true else if p1 < 0 then some true else if p1 ≤ 1 then some false else some true : Option Bool).bind (fun b3 => if b3 = true then some ((-1000), s) else (fX11_habitsThatFit p0 t s).bind (fun q7 => if p1 = 0 then (fJ6_bitCount_0f7a4 q7.1 q7.2).bind (fun q12 => some (q12, q7.2)) else fX11_habit_L39 q7.1 t FUEL 0 q7.2)))
set_option maxRecDepth 20000 in
theorem kX11_habit_L39 {g : GX} {t : PH} (a3 : Int32) (s : ST) : ∀ (n : Nat) (x4 : Int32) {q : Int32 × ST}, fX11_habit_L39 a3 t n x4 s = some q → Rn g mdX11_habit 39 [none, none, none, some (.int a3), some (.int x4)] [] (cW t s) 0 0 (some (.int q.1)) (cW t q.2) := by
  intro n
  induction n with
  | zero => intro x4 q hf; cases hf
  | succ n ih =>
    intro x4 q hf
    rw [fX11_habit_L39] at hf
    refine o_iload (pc := 39) dX11_habit_39 rfl ?_
    refine o_bipush (pc := 41) (v := 9) dX11_habit_41 rfl ?_
    refine o_icmp_ge (pc := 43) 68 dX11_habit_43 rfl (fun hc => ?_) (fun hc => ?_)
    · have hf := it_t hf hc
      refine o_bipush (pc := 68) (v := (-100)) dX11_habit_68 rfl ?_
      obtain rfl := Option.some.inj hf
      exact o_ireturn (pc := 70) dX11_habit_70 rfl (Nat.zero_le _) (Nat.zero_le _)
    · have hf := it_f hf hc
      refine o_iload_n (pc := 46) dX11_habit_46 rfl ?_
      refine o_iload (pc := 47) dX11_habit_47 rfl ?_
      refine o_ishr (pc := 49) dX11_habit_49 ?_
      refine o_iconst (pc := 50) (v := 1) dX11_habit_50 rfl ?_
      refine o_iand (pc := 51) dX11_habit_51 ?_
      refine o_iconst (pc := 52) (v := 1) dX11_habit_52 rfl ?_
      refine o_icmp_ne (pc := 53) 62 dX11_habit_53 rfl (fun hc => ?_) (fun hc => ?_)
      · have hf := it_f hf hc
        refine o_iinc (pc := 62) dX11_habit_62 rfl (by decide) rfl ?_
        show Rn g mdX11_habit 65 [none, none, none, some (.int a3), some (.int (x4 + 1))] [] (cW t s) 0 0 (some (.int q.1)) (cW t q.2)
        obtain ⟨v8, ev8, hf⟩ := lt_elim hf
        rw [ev8]
        show Rn g mdX11_habit 65 [none, none, none, some (.int a3), some (.int v8)] [] (cW t s) 0 0 (some (.int q.1)) (cW t q.2)
        refine o_goto (pc := 65) 39 dX11_habit_65 rfl ?_
        exact ih _ hf
      · have hf := it_t hf hc
        refine o_iload (pc := 56) dX11_habit_56 rfl ?_
        obtain ⟨q10, hk9, hf⟩ := bd_elim hf
        refine c_callS (pc := 58) [.int x4] dX11_habit_58 (kX11_habitOf hk9) stX11_255 ⟨by decide, by decide, by decide, by decide⟩ ⟨rfl, rfl⟩ (Nat.le_of_ble_eq_true rfl) ?_
        show Rn g mdX11_habit 61 [none, none, none, some (.int a3), some (.int x4)] [.int q10] (cW t s) 0 0 (some (.int q.1)) (cW t q.2)
        obtain rfl := Option.some.inj hf
        exact o_ireturn (pc := 61) dX11_habit_61 rfl (Nat.zero_le _) (Nat.zero_le _)
set_option maxRecDepth 20000 in
theorem kX11_habit {g : GX} {t : PH} {p0 : Int32} {p1 : Int32} {s : ST} {q : Int32 × ST} (hf : fX11_habit p0 p1 t s = some q) : Cn g mdX11_habit [.ref 0, .int p0, .int p1] (cW t s) (some (.int q.1)) (cW t q.2) := by
  refine Cn.of (by decide) (Nat.le_of_ble_eq_true rfl) ?_
  show Rn g mdX11_habit 0 [some (.ref 0), some (.int p0), some (.int p1), none, none] [] (cW t s) 0 0 (some (.int q.1)) (cW t q.2)
  unfold fX11_habit at hf
  refine o_aload_n (pc := 0) dX11_habit_0 rfl ?_
  refine o_iload_n (pc := 1) dX11_habit_1 rfl ?_
  obtain ⟨q2, hk1, hf⟩ := bd_elim hf
  refine c_callV (pc := 2) 10 0 [.int p0] (by decide) (lt48 (by decide)) rfl dX11_habit_2 (kX11_isPerson hk1) stX11_100 ⟨by decide, by decide, by decide, by decide⟩ ⟨rfl, rfl⟩ (Nat.le_of_ble_eq_true rfl) ?_
  show Rn g mdX11_habit 5 [some (.ref 0), some (.int p0), some (.int p1), none, none] [.int q2] (cW t s) 0 0 (some (.int q.1)) (cW t q.2)
  obtain ⟨b3, hr4, hf⟩ := bd_elim hf
  have KB5 : (b3 = true → Rn g mdX11_habit 17 [some (.ref 0), some (.int p0), some (.int p1), none, none] [] (cW t s) 0 0 (some (.int q.1)) (cW t q.2)) ∧ (¬ b3 = true → Rn g mdX11_habit 21 [some (.ref 0), some (.int p0), some (.int p1), none, none] [] (cW t s) 0 0 (some (.int q.1)) (cW t q.2)) := by
    refine ⟨fun hc => ?_, fun hc => ?_⟩
    · have hf := it_t hf hc
      refine o_sipush (pc := 17) (v := (-1000)) dX11_habit_17 rfl ?_
      obtain rfl := Option.some.inj hf
      exact o_ireturn (pc := 20) dX11_habit_20 rfl (Nat.zero_le _) (Nat.zero_le _)
    · have hf := it_f hf hc
      refine o_aload_n (pc := 21) dX11_habit_21 rfl ?_
      refine o_iload_n (pc := 22) dX11_habit_22 rfl ?_
      obtain ⟨q7, hk6, hf⟩ := bd_elim hf
      refine c_callV (pc := 23) 10 0 [.int p0] (by decide) (lt48 (by decide)) rfl dX11_habit_23 (kX11_habitsThatFit hk6) stX11_247 ⟨by decide, by decide, by decide, by decide⟩ ⟨rfl, rfl⟩ (Nat.le_of_ble_eq_true rfl) ?_
      show Rn g mdX11_habit 26 [some (.ref 0), some (.int p0), some (.int p1), none, none] [.int q7.1] (cW t q7.2) 0 0 (some (.int q.1)) (cW t q.2)
      refine o_istore_n (pc := 26) dX11_habit_26 (by decide) rfl ?_
      show Rn g mdX11_habit 27 [some (.ref 0), some (.int p0), some (.int p1), some (.int q7.1), none] [] (cW t q7.2) 0 0 (some (.int q.1)) (cW t q.2)
      refine o_iload_n (pc := 27) dX11_habit_27 rfl ?_
      refine o_if_ne (pc := 28) 36 dX11_habit_28 rfl (fun hc => ?_) (fun hc => ?_)
      · have hf := it_f hf hc
        refine o_iconst (pc := 36) (v := 0) dX11_habit_36 rfl ?_
        refine o_istore (pc := 37) dX11_habit_37 (by decide) rfl ?_
        show Rn g mdX11_habit 39 [some (.ref 0), some (.int p0), some (.int p1), some (.int q7.1), some (.int 0)] [] (cW t q7.2) 0 0 (some (.int q.1)) (cW t q.2)
        refine o_keep [false, false, false, true, true] ?_
        exact kX11_habit_L39 _ _ _ _ hf
      · have hf := it_t hf hc
        refine o_iload_n (pc := 31) dX11_habit_31 rfl ?_
        obtain ⟨q12, hk11, hf⟩ := bd_elim hf
        refine c_callS (pc := 32) [.int q7.1] dX11_habit_32 (kJ6_bitCount_0f7a4 hk11) stX11_250 ⟨by decide, by decide, by decide, by decide⟩ ⟨rfl, rfl⟩ (Nat.le_of_ble_eq_true rfl) ?_
        show Rn g mdX11_habit 35 [some (.ref 0), some (.int p0), some (.int p1), some (.int q7.1), none] [.int q12] (cW t q7.2) 0 0 (some (.int q.1)) (cW t q.2)
        obtain rfl := Option.some.inj hf
        exact o_ireturn (pc := 35) dX11_habit_35 rfl (Nat.zero_le _) (Nat.zero_le _)
  clear hf
  refine o_if_eq (pc := 5) 17 dX11_habit_5 rfl (fun hc => ?_) (fun hc => ?_)
  · have hr4 := it_t hr4 hc
    obtain rfl := Option.some.inj hr4
    exact KB5.1 rfl
  · have hr4 := it_f hr4 hc
    refine o_iload_n (pc := 8) dX11_habit_8 rfl ?_
    refine o_if_lt (pc := 9) 17 dX11_habit_9 rfl (fun hc => ?_) (fun hc => ?_)
    · have hr4 := it_t hr4 hc
      obtain rfl := Option.some.inj hr4
      exact KB5.1 rfl
    · have hr4 := it_f hr4 hc
      refine o_iload_n (pc := 12) dX11_habit_12 rfl ?_
      refine o_iconst (pc := 13) (v := 1) dX11_habit_13 rfl ?_
      refine o_icmp_le (pc := 14) 21 dX11_habit_14 rfl (fun hc => ?_) (fun hc => ?_)
      · have hr4 := it_t hr4 hc
        obtain rfl := Option.some.inj hr4
        exact KB5.2 (by decide)
      · have hr4 := it_f hr4 hc
        obtain rfl := Option.some.inj hr4
        exact KB5.1 rfl
def fX9_mostAlike_L18 (a1 : Int32) (a2 : Int32) (a3 : Int32) (a4 : Int32) : Nat → Int32 → Int32 → ST → Option (Int32 × Int32)
  | 0, _, _, _ => none
  | n + 1, x5, x6, s => if 9 ≤ x6 then some (x5, x6) else ck (inb ((a4 * 31) + a2) 279) (ck (inb ((x6 * 31) + a2) 279) ((if (gi s 46 (ix ((a4 * 31) + a2))) = (gi s 46 (ix ((x6 * 31) + a2))) then some 1 else some 0 : Option (Int32)).bind (fun w3 => (if w3 = 0 then some false else if ((a1 >>> (x6 &&& 31)) &&& 1) = 1 then some true else some false : Option Bool).bind (fun b6 => (if b6 = true then some 1 else some 0 : Option (Int32)).bind (fun w9 => lt (x5 + w9 : Int32) (fun v12 => lt (x6 + 1) (fun v13 => fX9_mostAlike_L18 a1 a2 a3 a4 n v12 v13 s)))))))
def fX9_mostAlike_L5 (a1 : Int32) (a2 : Int32) : Nat → Int32 → Int32 → ST → Option (Int32 × Int32)
  | 0, _, _, _ => none
  | n + 1, x3, x4, s => if 9 ≤ x4 then some (x3, x4) else (fX9_mostAlike_L18 a1 a2 x3 x4 FUEL 0 0 s).bind (fun w14 => (if ((a1 >>> (x4 &&& 31)) &&& 1) = 1 then lt (imx x3 w14.1 : Int32) (fun v20 => some v20) else some x3 : Option (Int32)).bind (fun w17 => lt (x4 + 1) (fun v21 => fX9_mostAlike_L5 a1 a2 n w17 v21 s)))
def fX9_mostAlike (p0 : Int32) (p1 : Int32) (s : ST) : Option (Int32) :=
  (fX9_mostAlike_L5 p0 p1 FUEL 0 0 s).bind (fun w22 => some w22.1)
set_option maxRecDepth 20000 in
theorem kX9_mostAlike_L18 {g : GX} {t : PH} (a1 : Int32) (a2 : Int32) (a3 : Int32) (a4 : Int32) (s : ST) {r : Option Value} {h2 : PH} : ∀ (n : Nat) (x5 : Int32) (x6 : Int32) {w : Int32 × Int32}, fX9_mostAlike_L18 a1 a2 a3 a4 n x5 x6 s = some w → Rn g mdX9_mostAlike 90 [some (.ref 44), some (.int a1), some (.int a2), some (.int a3), some (.int a4), some (.int w.1), none, none] [] (cW t s) 0 0 r h2 → Rn g mdX9_mostAlike 18 [some (.ref 44), some (.int a1), some (.int a2), some (.int a3), some (.int a4), some (.int x5), some (.int x6), none] [] (cW t s) 0 0 r h2 := by
  intro n
  induction n with
  | zero => intro x5 x6 w hf K; cases hf
  | succ n ih =>
    intro x5 x6 w hf K
    rw [fX9_mostAlike_L18] at hf
    refine o_iload (pc := 18) dX9_mostAlike_18 rfl ?_
    refine o_bipush (pc := 20) (v := 9) dX9_mostAlike_20 rfl ?_
    refine o_icmp_ge (pc := 22) 90 dX9_mostAlike_22 rfl (fun hc => ?_) (fun hc => ?_)
    · have hf := it_t hf hc
      obtain rfl := Option.some.inj hf
      refine o_keep [true, true, true, true, true, true, false, false] ?_
      exact K
    · have hf := it_f hf hc
      refine o_aload_n (pc := 25) dX9_mostAlike_25 rfl ?_
      refine c_getR (pc := 26) 8 1 44 46 (by decide) (by decide) rfl (lt48 (by decide)) rfl rfl lkX9_17 dX9_mostAlike_26 ?_
      refine o_iload (pc := 29) dX9_mostAlike_29 rfl ?_
      refine o_bipush (pc := 31) (v := 31) dX9_mostAlike_31 rfl ?_
      refine o_imul (pc := 33) dX9_mostAlike_33 ?_
      refine o_iload_n (pc := 34) dX9_mostAlike_34 rfl ?_
      refine o_iadd (pc := 35) dX9_mostAlike_35 ?_
      obtain ⟨hk1, hf⟩ := ck_elim hf
      refine c_iald (pc := 36) (lt48 (by decide)) rfl hk1 dX9_mostAlike_36 ?_
      refine o_aload_n (pc := 37) dX9_mostAlike_37 rfl ?_
      refine c_getR (pc := 38) 8 1 44 46 (by decide) (by decide) rfl (lt48 (by decide)) rfl rfl lkX9_17 dX9_mostAlike_38 ?_
      refine o_iload (pc := 41) dX9_mostAlike_41 rfl ?_
      refine o_bipush (pc := 43) (v := 31) dX9_mostAlike_43 rfl ?_
      refine o_imul (pc := 45) dX9_mostAlike_45 ?_
      refine o_iload_n (pc := 46) dX9_mostAlike_46 rfl ?_
      refine o_iadd (pc := 47) dX9_mostAlike_47 ?_
      obtain ⟨hk2, hf⟩ := ck_elim hf
      refine c_iald (pc := 48) (lt48 (by decide)) rfl hk2 dX9_mostAlike_48 ?_
      obtain ⟨w3, hr4, hf⟩ := bd_elim hf
      have K5 : Rn g mdX9_mostAlike 57 [some (.ref 44), some (.int a1), some (.int a2), some (.int a3), some (.int a4), some (.int x5), some (.int x6), none] [.int w3] (cW t s) 0 0 r h2 := by
        refine o_istore (pc := 57) dX9_mostAlike_57 (by decide) rfl ?_
        show Rn g mdX9_mostAlike 59 [some (.ref 44), some (.int a1), some (.int a2), some (.int a3), some (.int a4), some (.int x5), some (.int x6), some (.int w3)] [] (cW t s) 0 0 r h2
        refine o_iload (pc := 59) dX9_mostAlike_59 rfl ?_
        refine o_iload (pc := 61) dX9_mostAlike_61 rfl ?_
        obtain ⟨b6, hr7, hf⟩ := bd_elim hf
        obtain ⟨w9, hr10, hf⟩ := bd_elim hf
        have K11 : Rn g mdX9_mostAlike 81 [some (.ref 44), some (.int a1), some (.int a2), some (.int a3), some (.int a4), none, some (.int x6), none] [.int w9, .int x5] (cW t s) 0 0 r h2 := by
          refine o_iadd (pc := 81) dX9_mostAlike_81 ?_
          refine lz_i hf (fun v12 hf => ?_)
          refine o_istore (pc := 82) dX9_mostAlike_82 (by decide) rfl ?_
          show Rn g mdX9_mostAlike 84 [some (.ref 44), some (.int a1), some (.int a2), some (.int a3), some (.int a4), some (.int v12), some (.int x6), none] [] (cW t s) 0 0 r h2
          refine o_iinc (pc := 84) dX9_mostAlike_84 rfl (by decide) rfl ?_
          show Rn g mdX9_mostAlike 87 [some (.ref 44), some (.int a1), some (.int a2), some (.int a3), some (.int a4), some (.int v12), some (.int (x6 + 1)), none] [] (cW t s) 0 0 r h2
          obtain ⟨v13, ev13, hf⟩ := lt_elim hf
          rw [ev13]
          show Rn g mdX9_mostAlike 87 [some (.ref 44), some (.int a1), some (.int a2), some (.int a3), some (.int a4), some (.int v12), some (.int v13), none] [] (cW t s) 0 0 r h2
          refine o_goto (pc := 87) 18 dX9_mostAlike_87 rfl ?_
          exact ih _ _ hf K
        clear hf
        have KB8 : (b6 = true → Rn g mdX9_mostAlike 76 [some (.ref 44), some (.int a1), some (.int a2), some (.int a3), some (.int a4), some (.int x5), some (.int x6), some (.int w3)] [.int x5] (cW t s) 0 0 r h2) ∧ (¬ b6 = true → Rn g mdX9_mostAlike 80 [some (.ref 44), some (.int a1), some (.int a2), some (.int a3), some (.int a4), some (.int x5), some (.int x6), some (.int w3)] [.int x5] (cW t s) 0 0 r h2) := by
          refine ⟨fun hc => ?_, fun hc => ?_⟩
          · have hr10 := it_t hr10 hc
            refine o_iconst (pc := 76) (v := 1) dX9_mostAlike_76 rfl ?_
            refine o_goto (pc := 77) 81 dX9_mostAlike_77 rfl ?_
            obtain rfl := Option.some.inj hr10
            refine o_keep [true, true, true, true, true, false, true, false] ?_
            exact K11
          · have hr10 := it_f hr10 hc
            refine o_iconst (pc := 80) (v := 0) dX9_mostAlike_80 rfl ?_
            obtain rfl := Option.some.inj hr10
            refine o_keep [true, true, true, true, true, false, true, false] ?_
            exact K11
        clear hr10
        refine o_if_eq (pc := 63) 80 dX9_mostAlike_63 rfl (fun hc => ?_) (fun hc => ?_)
        · have hr7 := it_t hr7 hc
          obtain rfl := Option.some.inj hr7
          exact KB8.2 (by decide)
        · have hr7 := it_f hr7 hc
          refine o_iload_n (pc := 66) dX9_mostAlike_66 rfl ?_
          refine o_iload (pc := 67) dX9_mostAlike_67 rfl ?_
          refine o_ishr (pc := 69) dX9_mostAlike_69 ?_
          refine o_iconst (pc := 70) (v := 1) dX9_mostAlike_70 rfl ?_
          refine o_iand (pc := 71) dX9_mostAlike_71 ?_
          refine o_iconst (pc := 72) (v := 1) dX9_mostAlike_72 rfl ?_
          refine o_icmp_ne (pc := 73) 80 dX9_mostAlike_73 rfl (fun hc => ?_) (fun hc => ?_)
          · have hr7 := it_f hr7 hc
            obtain rfl := Option.some.inj hr7
            exact KB8.2 (by decide)
          · have hr7 := it_t hr7 hc
            obtain rfl := Option.some.inj hr7
            exact KB8.1 rfl
      clear hf
      refine o_icmp_ne (pc := 49) 56 dX9_mostAlike_49 rfl (fun hc => ?_) (fun hc => ?_)
      · have hr4 := it_f hr4 hc
        refine o_iconst (pc := 56) (v := 0) dX9_mostAlike_56 rfl ?_
        obtain rfl := Option.some.inj hr4
        exact K5
      · have hr4 := it_t hr4 hc
        refine o_iconst (pc := 52) (v := 1) dX9_mostAlike_52 rfl ?_
        refine o_goto (pc := 53) 57 dX9_mostAlike_53 rfl ?_
        obtain rfl := Option.some.inj hr4
        exact K5
set_option maxRecDepth 20000 in
theorem kX9_mostAlike_L5 {g : GX} {t : PH} (a1 : Int32) (a2 : Int32) (s : ST) {r : Option Value} {h2 : PH} : ∀ (n : Nat) (x3 : Int32) (x4 : Int32) {w : Int32 × Int32}, fX9_mostAlike_L5 a1 a2 n x3 x4 s = some w → Rn g mdX9_mostAlike 113 [none, none, none, some (.int w.1), none, none, none, none] [] (cW t s) 0 0 r h2 → Rn g mdX9_mostAlike 5 [some (.ref 44), some (.int a1), some (.int a2), some (.int x3), some (.int x4), none, none, none] [] (cW t s) 0 0 r h2 := by
  intro n
  induction n with
  | zero => intro x3 x4 w hf K; cases hf
  | succ n ih =>
    intro x3 x4 w hf K
    rw [fX9_mostAlike_L5] at hf
    refine o_iload (pc := 5) dX9_mostAlike_5 rfl ?_
    refine o_bipush (pc := 7) (v := 9) dX9_mostAlike_7 rfl ?_
    refine o_icmp_ge (pc := 9) 113 dX9_mostAlike_9 rfl (fun hc => ?_) (fun hc => ?_)
    · have hf := it_t hf hc
      obtain rfl := Option.some.inj hf
      refine o_keep [false, false, false, true, false, false, false, false] ?_
      exact K
    · have hf := it_f hf hc
      refine o_iconst (pc := 12) (v := 0) dX9_mostAlike_12 rfl ?_
      refine o_istore (pc := 13) dX9_mostAlike_13 (by decide) rfl ?_
      show Rn g mdX9_mostAlike 15 [some (.ref 44), some (.int a1), some (.int a2), some (.int x3), some (.int x4), some (.int 0), none, none] [] (cW t s) 0 0 r h2
      refine o_iconst (pc := 15) (v := 0) dX9_mostAlike_15 rfl ?_
      refine o_istore (pc := 16) dX9_mostAlike_16 (by decide) rfl ?_
      show Rn g mdX9_mostAlike 18 [some (.ref 44), some (.int a1), some (.int a2), some (.int x3), some (.int x4), some (.int 0), some (.int 0), none] [] (cW t s) 0 0 r h2
      obtain ⟨w14, hl15, hf⟩ := bd_elim hf
      have K16 : Rn g mdX9_mostAlike 90 [some (.ref 44), some (.int a1), some (.int a2), some (.int x3), some (.int x4), some (.int w14.1), none, none] [] (cW t s) 0 0 r h2 := by
        refine o_iload_n (pc := 90) dX9_mostAlike_90 rfl ?_
        refine o_iload (pc := 91) dX9_mostAlike_91 rfl ?_
        refine o_ishr (pc := 93) dX9_mostAlike_93 ?_
        refine o_iconst (pc := 94) (v := 1) dX9_mostAlike_94 rfl ?_
        refine o_iand (pc := 95) dX9_mostAlike_95 ?_
        refine o_iconst (pc := 96) (v := 1) dX9_mostAlike_96 rfl ?_
        obtain ⟨w17, hr18, hf⟩ := bd_elim hf
        have K19 : Rn g mdX9_mostAlike 107 [some (.ref 44), some (.int a1), some (.int a2), some (.int w17), some (.int x4), none, none, none] [] (cW t s) 0 0 r h2 := by
          refine o_iinc (pc := 107) dX9_mostAlike_107 rfl (by decide) rfl ?_
          show Rn g mdX9_mostAlike 110 [some (.ref 44), some (.int a1), some (.int a2), some (.int w17), some (.int (x4 + 1)), none, none, none] [] (cW t s) 0 0 r h2
          obtain ⟨v21, ev21, hf⟩ := lt_elim hf
          rw [ev21]
          show Rn g mdX9_mostAlike 110 [some (.ref 44), some (.int a1), some (.int a2), some (.int w17), some (.int v21), none, none, none] [] (cW t s) 0 0 r h2
          refine o_goto (pc := 110) 5 dX9_mostAlike_110 rfl ?_
          exact ih _ _ hf K
        clear hf
        refine o_icmp_ne (pc := 97) 107 dX9_mostAlike_97 rfl (fun hc => ?_) (fun hc => ?_)
        · have hr18 := it_f hr18 hc
          obtain rfl := Option.some.inj hr18
          refine o_keep [true, true, true, true, true, false, false, false] ?_
          exact K19
        · have hr18 := it_t hr18 hc
          refine o_iload_n (pc := 100) dX9_mostAlike_100 rfl ?_
          refine o_iload (pc := 101) dX9_mostAlike_101 rfl ?_
          refine o_max (pc := 103) lmX9_48 dX9_mostAlike_103 (by decide) (Nat.le_of_ble_eq_true rfl) (Nat.zero_le _) (Nat.zero_le _) ?_
          show Rn g mdX9_mostAlike 106 [some (.ref 44), some (.int a1), some (.int a2), some (.int x3), some (.int x4), some (.int w14.1), none, none] [.int (imx x3 w14.1)] (cW t s) 0 0 r h2
          refine lz_i hr18 (fun v20 hr18 => ?_)
          refine o_istore_n (pc := 106) dX9_mostAlike_106 (by decide) rfl ?_
          show Rn g mdX9_mostAlike 107 [some (.ref 44), some (.int a1), some (.int a2), some (.int v20), some (.int x4), some (.int w14.1), none, none] [] (cW t s) 0 0 r h2
          obtain rfl := Option.some.inj hr18
          refine o_keep [true, true, true, true, true, false, false, false] ?_
          exact K19
      exact kX9_mostAlike_L18 _ _ _ _ _ _ _ _ hl15 K16
set_option maxRecDepth 20000 in
theorem kX9_mostAlike {g : GX} {t : PH} {p0 : Int32} {p1 : Int32} {s : ST} {q : Int32} (hf : fX9_mostAlike p0 p1 s = some q) : Cn g mdX9_mostAlike [.ref 44, .int p0, .int p1] (cW t s) (some (.int q)) (cW t s) := by
  refine Cn.of (by decide) (Nat.le_of_ble_eq_true rfl) ?_
  show Rn g mdX9_mostAlike 0 [some (.ref 44), some (.int p0), some (.int p1), none, none, none, none, none] [] (cW t s) 0 0 (some (.int q)) (cW t s)
  unfold fX9_mostAlike at hf
  refine o_iconst (pc := 0) (v := 0) dX9_mostAlike_0 rfl ?_
  refine o_istore_n (pc := 1) dX9_mostAlike_1 (by decide) rfl ?_
  show Rn g mdX9_mostAlike 2 [some (.ref 44), some (.int p0), some (.int p1), some (.int 0), none, none, none, none] [] (cW t s) 0 0 (some (.int q)) (cW t s)
  refine o_iconst (pc := 2) (v := 0) dX9_mostAlike_2 rfl ?_
  refine o_istore (pc := 3) dX9_mostAlike_3 (by decide) rfl ?_
  show Rn g mdX9_mostAlike 5 [some (.ref 44), some (.int p0), some (.int p1), some (.int 0), some (.int 0), none, none, none] [] (cW t s) 0 0 (some (.int q)) (cW t s)
  obtain ⟨w22, hl23, hf⟩ := bd_elim hf
  have K24 : Rn g mdX9_mostAlike 113 [none, none, none, some (.int w22.1), none, none, none, none] [] (cW t s) 0 0 (some (.int q)) (cW t s) := by
    refine o_iload_n (pc := 113) dX9_mostAlike_113 rfl ?_
    obtain rfl := Option.some.inj hf
    exact o_ireturn (pc := 114) dX9_mostAlike_114 rfl (Nat.zero_le _) (Nat.zero_le _)
  exact kX9_mostAlike_L5 _ _ _ _ _ _ hl23 K24
def fX11_door_L41 (a2 : Int32) (a3 : Int32) (t : PH) : Nat → Int32 → Int32 → Int32 → ST → Option (Int32 × Int32 × Int32)
  | 0, _, _, _, _ => none
  | n + 1, x4, x5, x6, s => if 30 < x6 then some (x4, x5, x6) else (fX9_mostAlike a3 x6 s).bind (fun q9 => (if x4 = (-1) then some true else if x5 ≤ q9 then some false else some true : Option Bool).bind (fun b10 => (if b10 = true then some (x6, q9) else some (x4, x5) : Option (Int32 × Int32)).bind (fun w13 => lt (x6 + 1) (fun v16 => fX11_door_L41 a2 a3 t n w13.1 w13.2 v16 s))))
def fX11_door (p0 : Int32) (p1 : Int32) (t : PH) (s : ST) : Option (Int32 × ST) :=
  (fX11_isPerson p0 s).bind (fun q2 => (if q2 = 0 then some true else if p1 < 0 then some true else if p1 ≤ 1 then some false else some true : Option Bool).bind (fun b3 => if b3 = true then some ((-1), s) else (fX11_habitsThatFit p0 t s).bind (fun q7 => if q7.1 = 0 then some ((-2), q7.2) else (fX11_door_L41 p1 q7.1 t FUEL (-1) 0 0 q7.2).bind (fun w17 => (if p1 = 0 then some w17.1 else some w17.2.1 : Option (Int32)).bind (fun w20 => some (w20, q7.2))))))
set_option maxRecDepth 20000 in
theorem kX11_door_L41 {g : GX} {t : PH} (a2 : Int32) (a3 : Int32) (s : ST) {r : Option Value} {h2 : PH} : ∀ (n : Nat) (x4 : Int32) (x5 : Int32) (x6 : Int32) {w : Int32 × Int32 × Int32}, fX11_door_L41 a2 a3 t n x4 x5 x6 s = some w → Rn g mdX11_door 87 [none, none, some (.int a2), none, some (.int w.1), some (.int w.2.1), none, none] [] (cW t s) 0 0 r h2 → Rn g mdX11_door 41 [some (.ref 0), none, some (.int a2), some (.int a3), some (.int x4), some (.int x5), some (.int x6), none] [] (cW t s) 0 0 r h2 := by
  intro n
  induction n with
  | zero => intro x4 x5 x6 w hf K; cases hf
  | succ n ih =>
    intro x4 x5 x6 w hf K
    rw [fX11_door_L41] at hf
    refine o_iload (pc := 41) dX11_door_41 rfl ?_
    refine o_bipush (pc := 43) (v := 30) dX11_door_43 rfl ?_
    refine o_icmp_gt (pc := 45) 87 dX11_door_45 rfl (fun hc => ?_) (fun hc => ?_)
    · have hf := it_t hf hc
      obtain rfl := Option.some.inj hf
      refine o_keep [false, false, true, false, true, true, false, false] ?_
      exact K
    · have hf := it_f hf hc
      refine o_aload_n (pc := 48) dX11_door_48 rfl ?_
      refine c_getR (pc := 49) 10 8 0 44 (by decide) (by decide) rfl (lt48 (by decide)) rfl rfl lkX11_63 dX11_door_49 ?_
      refine o_iload_n (pc := 52) dX11_door_52 rfl ?_
      refine o_iload (pc := 53) dX11_door_53 rfl ?_
      obtain ⟨q9, hk8, hf⟩ := bd_elim hf
      refine c_callV (pc := 55) 8 44 [.int a3, .int x6] (by decide) (lt48 (by decide)) rfl dX11_door_55 (kX9_mostAlike hk8) stX11_258 ⟨by decide, by decide, by decide, by decide⟩ ⟨rfl, rfl⟩ (Nat.le_of_ble_eq_true rfl) ?_
      show Rn g mdX11_door 58 [some (.ref 0), none, some (.int a2), some (.int a3), some (.int x4), some (.int x5), some (.int x6), none] [.int q9] (cW t s) 0 0 r h2
      refine o_istore (pc := 58) dX11_door_58 (by decide) rfl ?_
      show Rn g mdX11_door 60 [some (.ref 0), none, some (.int a2), some (.int a3), some (.int x4), some (.int x5), some (.int x6), some (.int q9)] [] (cW t s) 0 0 r h2
      refine o_iload (pc := 60) dX11_door_60 rfl ?_
      refine o_iconst (pc := 62) (v := (-1)) dX11_door_62 rfl ?_
      obtain ⟨b10, hr11, hf⟩ := bd_elim hf
      obtain ⟨w13, hr14, hf⟩ := bd_elim hf
      have K15 : Rn g mdX11_door 81 [some (.ref 0), none, some (.int a2), some (.int a3), some (.int w13.1), some (.int w13.2), some (.int x6), none] [] (cW t s) 0 0 r h2 := by
        refine o_iinc (pc := 81) dX11_door_81 rfl (by decide) rfl ?_
        show Rn g mdX11_door 84 [some (.ref 0), none, some (.int a2), some (.int a3), some (.int w13.1), some (.int w13.2), some (.int (x6 + 1)), none] [] (cW t s) 0 0 r h2
        obtain ⟨v16, ev16, hf⟩ := lt_elim hf
        rw [ev16]
        show Rn g mdX11_door 84 [some (.ref 0), none, some (.int a2), some (.int a3), some (.int w13.1), some (.int w13.2), some (.int v16), none] [] (cW t s) 0 0 r h2
        refine o_goto (pc := 84) 41 dX11_door_84 rfl ?_
        exact ih _ _ _ hf K
      clear hf
      have KB12 : (b10 = true → Rn g mdX11_door 73 [some (.ref 0), none, some (.int a2), some (.int a3), some (.int x4), some (.int x5), some (.int x6), some (.int q9)] [] (cW t s) 0 0 r h2) ∧ (¬ b10 = true → Rn g mdX11_door 81 [some (.ref 0), none, some (.int a2), some (.int a3), some (.int x4), some (.int x5), some (.int x6), some (.int q9)] [] (cW t s) 0 0 r h2) := by
        refine ⟨fun hc => ?_, fun hc => ?_⟩
        · have hr14 := it_t hr14 hc
          refine o_iload (pc := 73) dX11_door_73 rfl ?_
          refine o_istore (pc := 75) dX11_door_75 (by decide) rfl ?_
          show Rn g mdX11_door 77 [some (.ref 0), none, some (.int a2), some (.int a3), some (.int x6), some (.int x5), some (.int x6), some (.int q9)] [] (cW t s) 0 0 r h2
          refine o_iload (pc := 77) dX11_door_77 rfl ?_
          refine o_istore (pc := 79) dX11_door_79 (by decide) rfl ?_
          show Rn g mdX11_door 81 [some (.ref 0), none, some (.int a2), some (.int a3), some (.int x6), some (.int q9), some (.int x6), some (.int q9)] [] (cW t s) 0 0 r h2
          obtain rfl := Option.some.inj hr14
          refine o_keep [true, false, true, true, true, true, true, false] ?_
          exact K15
        · have hr14 := it_f hr14 hc
          obtain rfl := Option.some.inj hr14
          refine o_keep [true, false, true, true, true, true, true, false] ?_
          exact K15
      clear hr14
      refine o_icmp_eq (pc := 63) 73 dX11_door_63 rfl (fun hc => ?_) (fun hc => ?_)
      · have hr11 := it_t hr11 hc
        obtain rfl := Option.some.inj hr11
        exact KB12.1 rfl
      · have hr11 := it_f hr11 hc
        refine o_iload (pc := 66) dX11_door_66 rfl ?_
        refine o_iload (pc := 68) dX11_door_68 rfl ?_
        refine o_icmp_ge (pc := 70) 81 dX11_door_70 rfl (fun hc => ?_) (fun hc => ?_)
        · have hr11 := it_t hr11 hc
          obtain rfl := Option.some.inj hr11
          exact KB12.2 (by decide)
        · have hr11 := it_f hr11 hc
          obtain rfl := Option.some.inj hr11
          exact KB12.1 rfl
set_option maxRecDepth 20000 in
theorem kX11_door {g : GX} {t : PH} {p0 : Int32} {p1 : Int32} {s : ST} {q : Int32 × ST} (hf : fX11_door p0 p1 t s = some q) : Cn g mdX11_door [.ref 0, .int p0, .int p1] (cW t s) (some (.int q.1)) (cW t q.2) := by
  refine Cn.of (by decide) (Nat.le_of_ble_eq_true rfl) ?_
  show Rn g mdX11_door 0 [some (.ref 0), some (.int p0), some (.int p1), none, none, none, none, none] [] (cW t s) 0 0 (some (.int q.1)) (cW t q.2)
  unfold fX11_door at hf
  refine o_aload_n (pc := 0) dX11_door_0 rfl ?_
  refine o_iload_n (pc := 1) dX11_door_1 rfl ?_
  obtain ⟨q2, hk1, hf⟩ := bd_elim hf
  refine c_callV (pc := 2) 10 0 [.int p0] (by decide) (lt48 (by decide)) rfl dX11_door_2 (kX11_isPerson hk1) stX11_100 ⟨by decide, by decide, by decide, by decide⟩ ⟨rfl, rfl⟩ (Nat.le_of_ble_eq_true rfl) ?_
  show Rn g mdX11_door 5 [some (.ref 0), some (.int p0), some (.int p1), none, none, none, none, none] [.int q2] (cW t s) 0 0 (some (.int q.1)) (cW t q.2)
  obtain ⟨b3, hr4, hf⟩ := bd_elim hf
  have KB5 : (b3 = true → Rn g mdX11_door 17 [some (.ref 0), some (.int p0), some (.int p1), none, none, none, none, none] [] (cW t s) 0 0 (some (.int q.1)) (cW t q.2)) ∧ (¬ b3 = true → Rn g mdX11_door 19 [some (.ref 0), some (.int p0), some (.int p1), none, none, none, none, none] [] (cW t s) 0 0 (some (.int q.1)) (cW t q.2)) := by
    refine ⟨fun hc => ?_, fun hc => ?_⟩
    · have hf := it_t hf hc
      refine o_iconst (pc := 17) (v := (-1)) dX11_door_17 rfl ?_
      obtain rfl := Option.some.inj hf
      exact o_ireturn (pc := 18) dX11_door_18 rfl (Nat.zero_le _) (Nat.zero_le _)
    · have hf := it_f hf hc
      refine o_aload_n (pc := 19) dX11_door_19 rfl ?_
      refine o_iload_n (pc := 20) dX11_door_20 rfl ?_
      obtain ⟨q7, hk6, hf⟩ := bd_elim hf
      refine c_callV (pc := 21) 10 0 [.int p0] (by decide) (lt48 (by decide)) rfl dX11_door_21 (kX11_habitsThatFit hk6) stX11_247 ⟨by decide, by decide, by decide, by decide⟩ ⟨rfl, rfl⟩ (Nat.le_of_ble_eq_true rfl) ?_
      show Rn g mdX11_door 24 [some (.ref 0), some (.int p0), some (.int p1), none, none, none, none, none] [.int q7.1] (cW t q7.2) 0 0 (some (.int q.1)) (cW t q.2)
      refine o_istore_n (pc := 24) dX11_door_24 (by decide) rfl ?_
      show Rn g mdX11_door 25 [some (.ref 0), some (.int p0), some (.int p1), some (.int q7.1), none, none, none, none] [] (cW t q7.2) 0 0 (some (.int q.1)) (cW t q.2)
      refine o_iload_n (pc := 25) dX11_door_25 rfl ?_
      refine o_if_ne (pc := 26) 32 dX11_door_26 rfl (fun hc => ?_) (fun hc => ?_)
      · have hf := it_f hf hc
        refine o_iconst (pc := 32) (v := (-1)) dX11_door_32 rfl ?_
        refine o_istore (pc := 33) dX11_door_33 (by decide) rfl ?_
        show Rn g mdX11_door 35 [some (.ref 0), some (.int p0), some (.int p1), some (.int q7.1), some (.int (-1)), none, none, none] [] (cW t q7.2) 0 0 (some (.int q.1)) (cW t q.2)
        refine o_iconst (pc := 35) (v := 0) dX11_door_35 rfl ?_
        refine o_istore (pc := 36) dX11_door_36 (by decide) rfl ?_
        show Rn g mdX11_door 38 [some (.ref 0), some (.int p0), some (.int p1), some (.int q7.1), some (.int (-1)), some (.int 0), none, none] [] (cW t q7.2) 0 0 (some (.int q.1)) (cW t q.2)
        refine o_iconst (pc := 38) (v := 0) dX11_door_38 rfl ?_
        refine o_istore (pc := 39) dX11_door_39 (by decide) rfl ?_
        show Rn g mdX11_door 41 [some (.ref 0), some (.int p0), some (.int p1), some (.int q7.1), some (.int (-1)), some (.int 0), some (.int 0), none] [] (cW t q7.2) 0 0 (some (.int q.1)) (cW t q.2)
        obtain ⟨w17, hl18, hf⟩ := bd_elim hf
        have K19 : Rn g mdX11_door 87 [none, none, some (.int p1), none, some (.int w17.1), some (.int w17.2.1), none, none] [] (cW t q7.2) 0 0 (some (.int q.1)) (cW t q.2) := by
          refine o_iload_n (pc := 87) dX11_door_87 rfl ?_
          obtain ⟨w20, hr21, hf⟩ := bd_elim hf
          have K22 : Rn g mdX11_door 98 [none, none, none, none, none, none, none, none] [.int w20] (cW t q7.2) 0 0 (some (.int q.1)) (cW t q.2) := by
            obtain rfl := Option.some.inj hf
            exact o_ireturn (pc := 98) dX11_door_98 rfl (Nat.zero_le _) (Nat.zero_le _)
          clear hf
          refine o_if_ne (pc := 88) 96 dX11_door_88 rfl (fun hc => ?_) (fun hc => ?_)
          · have hr21 := it_f hr21 hc
            refine o_iload (pc := 96) dX11_door_96 rfl ?_
            obtain rfl := Option.some.inj hr21
            refine o_keep [false, false, false, false, false, false, false, false] ?_
            exact K22
          · have hr21 := it_t hr21 hc
            refine o_iload (pc := 91) dX11_door_91 rfl ?_
            refine o_goto (pc := 93) 98 dX11_door_93 rfl ?_
            obtain rfl := Option.some.inj hr21
            refine o_keep [false, false, false, false, false, false, false, false] ?_
            exact K22
        refine o_keep [true, false, true, true, true, true, true, false] ?_
        exact kX11_door_L41 _ _ _ _ _ _ _ hl18 K19
      · have hf := it_t hf hc
        refine o_bipush (pc := 29) (v := (-2)) dX11_door_29 rfl ?_
        obtain rfl := Option.some.inj hf
        exact o_ireturn (pc := 31) dX11_door_31 rfl (Nat.zero_le _) (Nat.zero_le _)
  clear hf
  refine o_if_eq (pc := 5) 17 dX11_door_5 rfl (fun hc => ?_) (fun hc => ?_)
  · have hr4 := it_t hr4 hc
    obtain rfl := Option.some.inj hr4
    exact KB5.1 rfl
  · have hr4 := it_f hr4 hc
    refine o_iload_n (pc := 8) dX11_door_8 rfl ?_
    refine o_if_lt (pc := 9) 17 dX11_door_9 rfl (fun hc => ?_) (fun hc => ?_)
    · have hr4 := it_t hr4 hc
      obtain rfl := Option.some.inj hr4
      exact KB5.1 rfl
    · have hr4 := it_f hr4 hc
      refine o_iload_n (pc := 12) dX11_door_12 rfl ?_
      refine o_iconst (pc := 13) (v := 1) dX11_door_13 rfl ?_
      refine o_icmp_le (pc := 14) 19 dX11_door_14 rfl (fun hc => ?_) (fun hc => ?_)
      · have hr4 := it_t hr4 hc
        obtain rfl := Option.some.inj hr4
        exact KB5.2 (by decide)
      · have hr4 := it_f hr4 hc
        obtain rfl := Option.some.inj hr4
        exact KB5.1 rfl
def fX11_clocks_L46 (a1 : Int32) (a2 : Int32) (t : PH) : Nat → Int32 → Int32 → Int32 → ST → Option (Int32 × Int32 × Int32 × ST)
  | 0, _, _, _, _ => none
  | n + 1, x3, x4, x5, s => if (gi s 18 7) ≤ x5 then some (x3, x4, x5, s) else (fX11_startFromNow t s).bind (fun q12 => ck (inb (0 + x5) 46) (lt (si q12 32 (ix (0 + x5)) 0) (fun s14 => (fX0_goDays a1 t s14).bind (fun q16 => (if x4 ≤ (gi q16 30 16) then some (x3, x4) else lt (gi q16 30 16 : Int32) (fun v20 => some (x5, v20)) : Option (Int32 × Int32)).bind (fun w17 => lt (x5 + 1) (fun v21 => fX11_clocks_L46 a1 a2 t n w17.1 w17.2 v21 q16))))))
def fX11_clocks (p0 : Int32) (p1 : Int32) (t : PH) (s : ST) : Option (Int32 × ST) :=
  (fX11_isSpan p0 s).bind (fun q2 => (if q2 = 0 then some true else if p1 < 0 then some true else if p1 ≤ 1 then some false else some true : Option Bool).bind (fun b3 => if b3 = true then some ((-2), s) else (fX11_startFromNow t s).bind (fun q7 => (fX0_goDays p0 t q7).bind (fun q9 => lt (gi q9 30 16 : Int32) (fun v10 => (fX11_clocks_L46 p0 p1 t FUEL (-1) v10 0 q9).bind (fun w22 => (if p1 = 0 then some w22.1 else some w22.2.1 : Option (Int32)).bind (fun w25 => some (w25, w22.2.2.2))))))))
set_option maxRecDepth 20000 in
theorem kX11_clocks_L46 {g : GX} {t : PH} (a1 : Int32) (a2 : Int32) {r : Option Value} {h2 : PH} : ∀ (n : Nat) (x3 : Int32) (x4 : Int32) (x5 : Int32) (s : ST) {w : Int32 × Int32 × Int32 × ST}, fX11_clocks_L46 a1 a2 t n x3 x4 x5 s = some w → Rn g mdX11_clocks 119 [none, none, some (.int a2), some (.int w.1), some (.int w.2.1), none] [] (cW t w.2.2.2) 0 0 r h2 → Rn g mdX11_clocks 46 [some (.ref 0), some (.int a1), some (.int a2), some (.int x3), some (.int x4), some (.int x5)] [] (cW t s) 0 0 r h2 := by
  intro n
  induction n with
  | zero => intro x3 x4 x5 s w hf K; cases hf
  | succ n ih =>
    intro x3 x4 x5 s w hf K
    rw [fX11_clocks_L46] at hf
    refine o_iload (pc := 46) dX11_clocks_46 rfl ?_
    refine o_aload_n (pc := 48) dX11_clocks_48 rfl ?_
    refine c_getR (pc := 49) 10 5 0 17 (by decide) (by decide) rfl (lt48 (by decide)) rfl rfl lkX11_45 dX11_clocks_49 ?_
    refine c_getR (pc := 52) 9 0 17 18 (by decide) (by decide) rfl (lt48 (by decide)) rfl rfl lkX11_86 dX11_clocks_52 ?_
    refine c_getI (pc := 55) 6 7 18 (by decide) (by decide) rfl (lt48 (by decide)) rfl lkX11_188 dX11_clocks_55 ?_
    refine o_icmp_ge (pc := 58) 119 dX11_clocks_58 rfl (fun hc => ?_) (fun hc => ?_)
    · have hf := it_t hf hc
      obtain rfl := Option.some.inj hf
      refine o_keep [false, false, true, true, true, false] ?_
      exact K
    · have hf := it_f hf hc
      refine o_aload_n (pc := 61) dX11_clocks_61 rfl ?_
      obtain ⟨q12, hk11, hf⟩ := bd_elim hf
      refine c_callV (pc := 62) 10 0 [] (by decide) (lt48 (by decide)) rfl dX11_clocks_62 (kX11_startFromNow hk11) stX11_143 ⟨by decide, by decide, by decide, by decide⟩ ⟨rfl, rfl⟩ (Nat.le_of_ble_eq_true rfl) ?_
      show Rn g mdX11_clocks 65 [some (.ref 0), some (.int a1), some (.int a2), some (.int x3), some (.int x4), some (.int x5)] [] (cW t q12) 0 0 r h2
      refine o_aload_n (pc := 65) dX11_clocks_65 rfl ?_
      refine c_getR (pc := 66) 10 7 0 30 (by decide) (by decide) rfl (lt48 (by decide)) rfl rfl lkX11_56 dX11_clocks_66 ?_
      refine c_getR (pc := 69) 0 0 30 31 (by decide) (by decide) rfl (lt48 (by decide)) rfl rfl lkX11_149 dX11_clocks_69 ?_
      refine c_getR (pc := 72) 4 0 31 32 (by decide) (by decide) rfl (lt48 (by decide)) rfl rfl lkX11_108 dX11_clocks_72 ?_
      refine o_iconst (pc := 75) (v := 0) dX11_clocks_75 rfl ?_
      refine o_iload (pc := 76) dX11_clocks_76 rfl ?_
      refine o_iadd (pc := 78) dX11_clocks_78 ?_
      refine o_iconst (pc := 79) (v := 0) dX11_clocks_79 rfl ?_
      obtain ⟨hk13, hf⟩ := ck_elim hf
      refine c_iast (pc := 80) (lt48 (by decide)) rfl hk13 dX11_clocks_80 ?_
      refine lz_s (cW t) hf (fun s14 hf => ?_)
      show Rn g mdX11_clocks 81 [some (.ref 0), some (.int a1), some (.int a2), some (.int x3), some (.int x4), some (.int x5)] [] (cW t s14) 0 0 r h2
      refine o_aload_n (pc := 81) dX11_clocks_81 rfl ?_
      refine c_getR (pc := 82) 10 7 0 30 (by decide) (by decide) rfl (lt48 (by decide)) rfl rfl lkX11_56 dX11_clocks_82 ?_
      refine o_iload_n (pc := 85) dX11_clocks_85 rfl ?_
      obtain ⟨q16, hk15, hf⟩ := bd_elim hf
      refine c_callV (pc := 86) 0 30 [.int a1] (by decide) (lt48 (by decide)) rfl dX11_clocks_86 (kX0_goDays hk15) stX11_167 ⟨by decide, by decide, by decide, by decide⟩ ⟨rfl, rfl⟩ (Nat.le_of_ble_eq_true rfl) ?_
      show Rn g mdX11_clocks 89 [some (.ref 0), some (.int a1), some (.int a2), some (.int x3), some (.int x4), some (.int x5)] [] (cW t q16) 0 0 r h2
      refine o_aload_n (pc := 89) dX11_clocks_89 rfl ?_
      refine c_getR (pc := 90) 10 7 0 30 (by decide) (by decide) rfl (lt48 (by decide)) rfl rfl lkX11_56 dX11_clocks_90 ?_
      refine c_getI (pc := 93) 0 16 30 (by decide) (by decide) rfl (lt48 (by decide)) rfl lkX11_200 dX11_clocks_93 ?_
      refine o_iload (pc := 96) dX11_clocks_96 rfl ?_
      obtain ⟨w17, hr18, hf⟩ := bd_elim hf
      have K19 : Rn g mdX11_clocks 113 [some (.ref 0), some (.int a1), some (.int a2), some (.int w17.1), some (.int w17.2), some (.int x5)] [] (cW t q16) 0 0 r h2 := by
        refine o_iinc (pc := 113) dX11_clocks_113 rfl (by decide) rfl ?_
        show Rn g mdX11_clocks 116 [some (.ref 0), some (.int a1), some (.int a2), some (.int w17.1), some (.int w17.2), some (.int (x5 + 1))] [] (cW t q16) 0 0 r h2
        obtain ⟨v21, ev21, hf⟩ := lt_elim hf
        rw [ev21]
        show Rn g mdX11_clocks 116 [some (.ref 0), some (.int a1), some (.int a2), some (.int w17.1), some (.int w17.2), some (.int v21)] [] (cW t q16) 0 0 r h2
        refine o_goto (pc := 116) 46 dX11_clocks_116 rfl ?_
        exact ih _ _ _ _ hf K
      clear hf
      refine o_icmp_ge (pc := 98) 113 dX11_clocks_98 rfl (fun hc => ?_) (fun hc => ?_)
      · have hr18 := it_t hr18 hc
        obtain rfl := Option.some.inj hr18
        exact K19
      · have hr18 := it_f hr18 hc
        refine o_iload (pc := 101) dX11_clocks_101 rfl ?_
        refine o_istore_n (pc := 103) dX11_clocks_103 (by decide) rfl ?_
        show Rn g mdX11_clocks 104 [some (.ref 0), some (.int a1), some (.int a2), some (.int x5), some (.int x4), some (.int x5)] [] (cW t q16) 0 0 r h2
        refine o_aload_n (pc := 104) dX11_clocks_104 rfl ?_
        refine c_getR (pc := 105) 10 7 0 30 (by decide) (by decide) rfl (lt48 (by decide)) rfl rfl lkX11_56 dX11_clocks_105 ?_
        refine c_getI (pc := 108) 0 16 30 (by decide) (by decide) rfl (lt48 (by decide)) rfl lkX11_200 dX11_clocks_108 ?_
        refine lz_i hr18 (fun v20 hr18 => ?_)
        refine o_istore (pc := 111) dX11_clocks_111 (by decide) rfl ?_
        show Rn g mdX11_clocks 113 [some (.ref 0), some (.int a1), some (.int a2), some (.int x5), some (.int v20), some (.int x5)] [] (cW t q16) 0 0 r h2
        obtain rfl := Option.some.inj hr18
        exact K19
set_option maxRecDepth 20000 in
theorem kX11_clocks {g : GX} {t : PH} {p0 : Int32} {p1 : Int32} {s : ST} {q : Int32 × ST} (hf : fX11_clocks p0 p1 t s = some q) : Cn g mdX11_clocks [.ref 0, .int p0, .int p1] (cW t s) (some (.int q.1)) (cW t q.2) := by
  refine Cn.of (by decide) (Nat.le_of_ble_eq_true rfl) ?_
  show Rn g mdX11_clocks 0 [some (.ref 0), some (.int p0), some (.int p1), none, none, none] [] (cW t s) 0 0 (some (.int q.1)) (cW t q.2)
  unfold fX11_clocks at hf
  refine o_aload_n (pc := 0) dX11_clocks_0 rfl ?_
  refine o_iload_n (pc := 1) dX11_clocks_1 rfl ?_
  obtain ⟨q2, hk1, hf⟩ := bd_elim hf
  refine c_callV (pc := 2) 10 0 [.int p0] (by decide) (lt48 (by decide)) rfl dX11_clocks_2 (kX11_isSpan hk1) stX11_232 ⟨by decide, by decide, by decide, by decide⟩ ⟨rfl, rfl⟩ (Nat.le_of_ble_eq_true rfl) ?_
  show Rn g mdX11_clocks 5 [some (.ref 0), some (.int p0), some (.int p1), none, none, none] [.int q2] (cW t s) 0 0 (some (.int q.1)) (cW t q.2)
  obtain ⟨b3, hr4, hf⟩ := bd_elim hf
  have KB5 : (b3 = true → Rn g mdX11_clocks 17 [some (.ref 0), some (.int p0), some (.int p1), none, none, none] [] (cW t s) 0 0 (some (.int q.1)) (cW t q.2)) ∧ (¬ b3 = true → Rn g mdX11_clocks 20 [some (.ref 0), some (.int p0), some (.int p1), none, none, none] [] (cW t s) 0 0 (some (.int q.1)) (cW t q.2)) := by
    refine ⟨fun hc => ?_, fun hc => ?_⟩
    · have hf := it_t hf hc
      refine o_bipush (pc := 17) (v := (-2)) dX11_clocks_17 rfl ?_
      obtain rfl := Option.some.inj hf
      exact o_ireturn (pc := 19) dX11_clocks_19 rfl (Nat.zero_le _) (Nat.zero_le _)
    · have hf := it_f hf hc
      refine o_aload_n (pc := 20) dX11_clocks_20 rfl ?_
      obtain ⟨q7, hk6, hf⟩ := bd_elim hf
      refine c_callV (pc := 21) 10 0 [] (by decide) (lt48 (by decide)) rfl dX11_clocks_21 (kX11_startFromNow hk6) stX11_143 ⟨by decide, by decide, by decide, by decide⟩ ⟨rfl, rfl⟩ (Nat.le_of_ble_eq_true rfl) ?_
      show Rn g mdX11_clocks 24 [some (.ref 0), some (.int p0), some (.int p1), none, none, none] [] (cW t q7) 0 0 (some (.int q.1)) (cW t q.2)
      refine o_aload_n (pc := 24) dX11_clocks_24 rfl ?_
      refine c_getR (pc := 25) 10 7 0 30 (by decide) (by decide) rfl (lt48 (by decide)) rfl rfl lkX11_56 dX11_clocks_25 ?_
      refine o_iload_n (pc := 28) dX11_clocks_28 rfl ?_
      obtain ⟨q9, hk8, hf⟩ := bd_elim hf
      refine c_callV (pc := 29) 0 30 [.int p0] (by decide) (lt48 (by decide)) rfl dX11_clocks_29 (kX0_goDays hk8) stX11_167 ⟨by decide, by decide, by decide, by decide⟩ ⟨rfl, rfl⟩ (Nat.le_of_ble_eq_true rfl) ?_
      show Rn g mdX11_clocks 32 [some (.ref 0), some (.int p0), some (.int p1), none, none, none] [] (cW t q9) 0 0 (some (.int q.1)) (cW t q.2)
      refine o_iconst (pc := 32) (v := (-1)) dX11_clocks_32 rfl ?_
      refine o_istore_n (pc := 33) dX11_clocks_33 (by decide) rfl ?_
      show Rn g mdX11_clocks 34 [some (.ref 0), some (.int p0), some (.int p1), some (.int (-1)), none, none] [] (cW t q9) 0 0 (some (.int q.1)) (cW t q.2)
      refine o_aload_n (pc := 34) dX11_clocks_34 rfl ?_
      refine c_getR (pc := 35) 10 7 0 30 (by decide) (by decide) rfl (lt48 (by decide)) rfl rfl lkX11_56 dX11_clocks_35 ?_
      refine c_getI (pc := 38) 0 16 30 (by decide) (by decide) rfl (lt48 (by decide)) rfl lkX11_200 dX11_clocks_38 ?_
      refine lz_i hf (fun v10 hf => ?_)
      refine o_istore (pc := 41) dX11_clocks_41 (by decide) rfl ?_
      show Rn g mdX11_clocks 43 [some (.ref 0), some (.int p0), some (.int p1), some (.int (-1)), some (.int v10), none] [] (cW t q9) 0 0 (some (.int q.1)) (cW t q.2)
      refine o_iconst (pc := 43) (v := 0) dX11_clocks_43 rfl ?_
      refine o_istore (pc := 44) dX11_clocks_44 (by decide) rfl ?_
      show Rn g mdX11_clocks 46 [some (.ref 0), some (.int p0), some (.int p1), some (.int (-1)), some (.int v10), some (.int 0)] [] (cW t q9) 0 0 (some (.int q.1)) (cW t q.2)
      obtain ⟨w22, hl23, hf⟩ := bd_elim hf
      have K24 : Rn g mdX11_clocks 119 [none, none, some (.int p1), some (.int w22.1), some (.int w22.2.1), none] [] (cW t w22.2.2.2) 0 0 (some (.int q.1)) (cW t q.2) := by
        refine o_iload_n (pc := 119) dX11_clocks_119 rfl ?_
        obtain ⟨w25, hr26, hf⟩ := bd_elim hf
        have K27 : Rn g mdX11_clocks 129 [none, none, none, none, none, none] [.int w25] (cW t w22.2.2.2) 0 0 (some (.int q.1)) (cW t q.2) := by
          obtain rfl := Option.some.inj hf
          exact o_ireturn (pc := 129) dX11_clocks_129 rfl (Nat.zero_le _) (Nat.zero_le _)
        clear hf
        refine o_if_ne (pc := 120) 127 dX11_clocks_120 rfl (fun hc => ?_) (fun hc => ?_)
        · have hr26 := it_f hr26 hc
          refine o_iload (pc := 127) dX11_clocks_127 rfl ?_
          obtain rfl := Option.some.inj hr26
          refine o_keep [false, false, false, false, false, false] ?_
          exact K27
        · have hr26 := it_t hr26 hc
          refine o_iload_n (pc := 123) dX11_clocks_123 rfl ?_
          refine o_goto (pc := 124) 129 dX11_clocks_124 rfl ?_
          obtain rfl := Option.some.inj hr26
          refine o_keep [false, false, false, false, false, false] ?_
          exact K27
      exact kX11_clocks_L46 _ _ _ _ _ _ _ hl23 K24
  clear hf
  refine o_if_eq (pc := 5) 17 dX11_clocks_5 rfl (fun hc => ?_) (fun hc => ?_)
  · have hr4 := it_t hr4 hc
    obtain rfl := Option.some.inj hr4
    exact KB5.1 rfl
  · have hr4 := it_f hr4 hc
    refine o_iload_n (pc := 8) dX11_clocks_8 rfl ?_
    refine o_if_lt (pc := 9) 17 dX11_clocks_9 rfl (fun hc => ?_) (fun hc => ?_)
    · have hr4 := it_t hr4 hc
      obtain rfl := Option.some.inj hr4
      exact KB5.1 rfl
    · have hr4 := it_f hr4 hc
      refine o_iload_n (pc := 12) dX11_clocks_12 rfl ?_
      refine o_iconst (pc := 13) (v := 1) dX11_clocks_13 rfl ?_
      refine o_icmp_le (pc := 14) 20 dX11_clocks_14 rfl (fun hc => ?_) (fun hc => ?_)
      · have hr4 := it_t hr4 hc
        obtain rfl := Option.some.inj hr4
        exact KB5.2 (by decide)
      · have hr4 := it_f hr4 hc
        obtain rfl := Option.some.inj hr4
        exact KB5.1 rfl
def fX11_pardon_L46 (a1 : Int32) (a2 : Int32) (t : PH) : Nat → Int32 → Int32 → Int32 → ST → Option (Int32 × Int32 × Int32 × ST)
  | 0, _, _, _, _ => none
  | n + 1, x3, x4, x5, s => if (gi s 18 7) ≤ x5 then some (x3, x4, x5, s) else (fX11_startFromNow t s).bind (fun q12 => ck (inb 44 46) (ck (inb 44 46) (lt (si q12 32 (ix 44) ((gi q12 32 (ix 44)) ||| (1 <<< (x5 &&& 31)))) (fun s15 => (fX0_goDays a1 t s15).bind (fun q17 => (if x4 ≤ (gi q17 30 17) then some (x3, x4) else lt (gi q17 30 17 : Int32) (fun v21 => some (x5, v21)) : Option (Int32 × Int32)).bind (fun w18 => lt (x5 + 1) (fun v22 => fX11_pardon_L46 a1 a2 t n w18.1 w18.2 v22 q17)))))))
def fX11_pardon (p0 : Int32) (p1 : Int32) (t : PH) (s : ST) : Option (Int32 × ST) :=
  (fX11_isSpan p0 s).bind (fun q2 => (if q2 = 0 then some true else if p1 < 0 then some true else if p1 ≤ 1 then some false else some true : Option Bool).bind (fun b3 => if b3 = true then some ((-2), s) else (fX11_startFromNow t s).bind (fun q7 => (fX0_goDays p0 t q7).bind (fun q9 => lt (gi q9 30 17 : Int32) (fun v10 => (fX11_pardon_L46 p0 p1 t FUEL (-1) v10 0 q9).bind (fun w23 => (if p1 = 0 then some w23.1 else some w23.2.1 : Option (Int32)).bind (fun w26 => some (w26, w23.2.2.2))))))))
set_option maxRecDepth 20000 in
theorem kX11_pardon_L46 {g : GX} {t : PH} (a1 : Int32) (a2 : Int32) {r : Option Value} {h2 : PH} : ∀ (n : Nat) (x3 : Int32) (x4 : Int32) (x5 : Int32) (s : ST) {w : Int32 × Int32 × Int32 × ST}, fX11_pardon_L46 a1 a2 t n x3 x4 x5 s = some w → Rn g mdX11_pardon 123 [none, none, some (.int a2), some (.int w.1), some (.int w.2.1), none] [] (cW t w.2.2.2) 0 0 r h2 → Rn g mdX11_pardon 46 [some (.ref 0), some (.int a1), some (.int a2), some (.int x3), some (.int x4), some (.int x5)] [] (cW t s) 0 0 r h2 := by
  intro n
  induction n with
  | zero => intro x3 x4 x5 s w hf K; cases hf
  | succ n ih =>
    intro x3 x4 x5 s w hf K
    rw [fX11_pardon_L46] at hf
    refine o_iload (pc := 46) dX11_pardon_46 rfl ?_
    refine o_aload_n (pc := 48) dX11_pardon_48 rfl ?_
    refine c_getR (pc := 49) 10 5 0 17 (by decide) (by decide) rfl (lt48 (by decide)) rfl rfl lkX11_45 dX11_pardon_49 ?_
    refine c_getR (pc := 52) 9 0 17 18 (by decide) (by decide) rfl (lt48 (by decide)) rfl rfl lkX11_86 dX11_pardon_52 ?_
    refine c_getI (pc := 55) 6 7 18 (by decide) (by decide) rfl (lt48 (by decide)) rfl lkX11_188 dX11_pardon_55 ?_
    refine o_icmp_ge (pc := 58) 123 dX11_pardon_58 rfl (fun hc => ?_) (fun hc => ?_)
    · have hf := it_t hf hc
      obtain rfl := Option.some.inj hf
      refine o_keep [false, false, true, true, true, false] ?_
      exact K
    · have hf := it_f hf hc
      refine o_aload_n (pc := 61) dX11_pardon_61 rfl ?_
      obtain ⟨q12, hk11, hf⟩ := bd_elim hf
      refine c_callV (pc := 62) 10 0 [] (by decide) (lt48 (by decide)) rfl dX11_pardon_62 (kX11_startFromNow hk11) stX11_143 ⟨by decide, by decide, by decide, by decide⟩ ⟨rfl, rfl⟩ (Nat.le_of_ble_eq_true rfl) ?_
      show Rn g mdX11_pardon 65 [some (.ref 0), some (.int a1), some (.int a2), some (.int x3), some (.int x4), some (.int x5)] [] (cW t q12) 0 0 r h2
      refine o_aload_n (pc := 65) dX11_pardon_65 rfl ?_
      refine c_getR (pc := 66) 10 7 0 30 (by decide) (by decide) rfl (lt48 (by decide)) rfl rfl lkX11_56 dX11_pardon_66 ?_
      refine c_getR (pc := 69) 0 0 30 31 (by decide) (by decide) rfl (lt48 (by decide)) rfl rfl lkX11_149 dX11_pardon_69 ?_
      refine c_getR (pc := 72) 4 0 31 32 (by decide) (by decide) rfl (lt48 (by decide)) rfl rfl lkX11_108 dX11_pardon_72 ?_
      refine o_bipush (pc := 75) (v := 44) dX11_pardon_75 rfl ?_
      refine o_dup2 (pc := 77) dX11_pardon_77 rfl rfl ?_
      obtain ⟨hk13, hf⟩ := ck_elim hf
      refine c_iald (pc := 78) (lt48 (by decide)) rfl hk13 dX11_pardon_78 ?_
      refine o_iconst (pc := 79) (v := 1) dX11_pardon_79 rfl ?_
      refine o_iload (pc := 80) dX11_pardon_80 rfl ?_
      refine o_ishl (pc := 82) dX11_pardon_82 ?_
      refine o_ior (pc := 83) dX11_pardon_83 ?_
      obtain ⟨hk14, hf⟩ := ck_elim hf
      refine c_iast (pc := 84) (lt48 (by decide)) rfl hk14 dX11_pardon_84 ?_
      refine lz_s (cW t) hf (fun s15 hf => ?_)
      show Rn g mdX11_pardon 85 [some (.ref 0), some (.int a1), some (.int a2), some (.int x3), some (.int x4), some (.int x5)] [] (cW t s15) 0 0 r h2
      refine o_aload_n (pc := 85) dX11_pardon_85 rfl ?_
      refine c_getR (pc := 86) 10 7 0 30 (by decide) (by decide) rfl (lt48 (by decide)) rfl rfl lkX11_56 dX11_pardon_86 ?_
      refine o_iload_n (pc := 89) dX11_pardon_89 rfl ?_
      obtain ⟨q17, hk16, hf⟩ := bd_elim hf
      refine c_callV (pc := 90) 0 30 [.int a1] (by decide) (lt48 (by decide)) rfl dX11_pardon_90 (kX0_goDays hk16) stX11_167 ⟨by decide, by decide, by decide, by decide⟩ ⟨rfl, rfl⟩ (Nat.le_of_ble_eq_true rfl) ?_
      show Rn g mdX11_pardon 93 [some (.ref 0), some (.int a1), some (.int a2), some (.int x3), some (.int x4), some (.int x5)] [] (cW t q17) 0 0 r h2
      refine o_aload_n (pc := 93) dX11_pardon_93 rfl ?_
      refine c_getR (pc := 94) 10 7 0 30 (by decide) (by decide) rfl (lt48 (by decide)) rfl rfl lkX11_56 dX11_pardon_94 ?_
      refine c_getI (pc := 97) 0 17 30 (by decide) (by decide) rfl (lt48 (by decide)) rfl lkX11_261 dX11_pardon_97 ?_
      refine o_iload (pc := 100) dX11_pardon_100 rfl ?_
      obtain ⟨w18, hr19, hf⟩ := bd_elim hf
      have K20 : Rn g mdX11_pardon 117 [some (.ref 0), some (.int a1), some (.int a2), some (.int w18.1), some (.int w18.2), some (.int x5)] [] (cW t q17) 0 0 r h2 := by
        refine o_iinc (pc := 117) dX11_pardon_117 rfl (by decide) rfl ?_
        show Rn g mdX11_pardon 120 [some (.ref 0), some (.int a1), some (.int a2), some (.int w18.1), some (.int w18.2), some (.int (x5 + 1))] [] (cW t q17) 0 0 r h2
        obtain ⟨v22, ev22, hf⟩ := lt_elim hf
        rw [ev22]
        show Rn g mdX11_pardon 120 [some (.ref 0), some (.int a1), some (.int a2), some (.int w18.1), some (.int w18.2), some (.int v22)] [] (cW t q17) 0 0 r h2
        refine o_goto (pc := 120) 46 dX11_pardon_120 rfl ?_
        exact ih _ _ _ _ hf K
      clear hf
      refine o_icmp_ge (pc := 102) 117 dX11_pardon_102 rfl (fun hc => ?_) (fun hc => ?_)
      · have hr19 := it_t hr19 hc
        obtain rfl := Option.some.inj hr19
        exact K20
      · have hr19 := it_f hr19 hc
        refine o_iload (pc := 105) dX11_pardon_105 rfl ?_
        refine o_istore_n (pc := 107) dX11_pardon_107 (by decide) rfl ?_
        show Rn g mdX11_pardon 108 [some (.ref 0), some (.int a1), some (.int a2), some (.int x5), some (.int x4), some (.int x5)] [] (cW t q17) 0 0 r h2
        refine o_aload_n (pc := 108) dX11_pardon_108 rfl ?_
        refine c_getR (pc := 109) 10 7 0 30 (by decide) (by decide) rfl (lt48 (by decide)) rfl rfl lkX11_56 dX11_pardon_109 ?_
        refine c_getI (pc := 112) 0 17 30 (by decide) (by decide) rfl (lt48 (by decide)) rfl lkX11_261 dX11_pardon_112 ?_
        refine lz_i hr19 (fun v21 hr19 => ?_)
        refine o_istore (pc := 115) dX11_pardon_115 (by decide) rfl ?_
        show Rn g mdX11_pardon 117 [some (.ref 0), some (.int a1), some (.int a2), some (.int x5), some (.int v21), some (.int x5)] [] (cW t q17) 0 0 r h2
        obtain rfl := Option.some.inj hr19
        exact K20
set_option maxRecDepth 20000 in
theorem kX11_pardon {g : GX} {t : PH} {p0 : Int32} {p1 : Int32} {s : ST} {q : Int32 × ST} (hf : fX11_pardon p0 p1 t s = some q) : Cn g mdX11_pardon [.ref 0, .int p0, .int p1] (cW t s) (some (.int q.1)) (cW t q.2) := by
  refine Cn.of (by decide) (Nat.le_of_ble_eq_true rfl) ?_
  show Rn g mdX11_pardon 0 [some (.ref 0), some (.int p0), some (.int p1), none, none, none] [] (cW t s) 0 0 (some (.int q.1)) (cW t q.2)
  unfold fX11_pardon at hf
  refine o_aload_n (pc := 0) dX11_pardon_0 rfl ?_
  refine o_iload_n (pc := 1) dX11_pardon_1 rfl ?_
  obtain ⟨q2, hk1, hf⟩ := bd_elim hf
  refine c_callV (pc := 2) 10 0 [.int p0] (by decide) (lt48 (by decide)) rfl dX11_pardon_2 (kX11_isSpan hk1) stX11_232 ⟨by decide, by decide, by decide, by decide⟩ ⟨rfl, rfl⟩ (Nat.le_of_ble_eq_true rfl) ?_
  show Rn g mdX11_pardon 5 [some (.ref 0), some (.int p0), some (.int p1), none, none, none] [.int q2] (cW t s) 0 0 (some (.int q.1)) (cW t q.2)
  obtain ⟨b3, hr4, hf⟩ := bd_elim hf
  have KB5 : (b3 = true → Rn g mdX11_pardon 17 [some (.ref 0), some (.int p0), some (.int p1), none, none, none] [] (cW t s) 0 0 (some (.int q.1)) (cW t q.2)) ∧ (¬ b3 = true → Rn g mdX11_pardon 20 [some (.ref 0), some (.int p0), some (.int p1), none, none, none] [] (cW t s) 0 0 (some (.int q.1)) (cW t q.2)) := by
    refine ⟨fun hc => ?_, fun hc => ?_⟩
    · have hf := it_t hf hc
      refine o_bipush (pc := 17) (v := (-2)) dX11_pardon_17 rfl ?_
      obtain rfl := Option.some.inj hf
      exact o_ireturn (pc := 19) dX11_pardon_19 rfl (Nat.zero_le _) (Nat.zero_le _)
    · have hf := it_f hf hc
      refine o_aload_n (pc := 20) dX11_pardon_20 rfl ?_
      obtain ⟨q7, hk6, hf⟩ := bd_elim hf
      refine c_callV (pc := 21) 10 0 [] (by decide) (lt48 (by decide)) rfl dX11_pardon_21 (kX11_startFromNow hk6) stX11_143 ⟨by decide, by decide, by decide, by decide⟩ ⟨rfl, rfl⟩ (Nat.le_of_ble_eq_true rfl) ?_
      show Rn g mdX11_pardon 24 [some (.ref 0), some (.int p0), some (.int p1), none, none, none] [] (cW t q7) 0 0 (some (.int q.1)) (cW t q.2)
      refine o_aload_n (pc := 24) dX11_pardon_24 rfl ?_
      refine c_getR (pc := 25) 10 7 0 30 (by decide) (by decide) rfl (lt48 (by decide)) rfl rfl lkX11_56 dX11_pardon_25 ?_
      refine o_iload_n (pc := 28) dX11_pardon_28 rfl ?_
      obtain ⟨q9, hk8, hf⟩ := bd_elim hf
      refine c_callV (pc := 29) 0 30 [.int p0] (by decide) (lt48 (by decide)) rfl dX11_pardon_29 (kX0_goDays hk8) stX11_167 ⟨by decide, by decide, by decide, by decide⟩ ⟨rfl, rfl⟩ (Nat.le_of_ble_eq_true rfl) ?_
      show Rn g mdX11_pardon 32 [some (.ref 0), some (.int p0), some (.int p1), none, none, none] [] (cW t q9) 0 0 (some (.int q.1)) (cW t q.2)
      refine o_iconst (pc := 32) (v := (-1)) dX11_pardon_32 rfl ?_
      refine o_istore_n (pc := 33) dX11_pardon_33 (by decide) rfl ?_
      show Rn g mdX11_pardon 34 [some (.ref 0), some (.int p0), some (.int p1), some (.int (-1)), none, none] [] (cW t q9) 0 0 (some (.int q.1)) (cW t q.2)
      refine o_aload_n (pc := 34) dX11_pardon_34 rfl ?_
      refine c_getR (pc := 35) 10 7 0 30 (by decide) (by decide) rfl (lt48 (by decide)) rfl rfl lkX11_56 dX11_pardon_35 ?_
      refine c_getI (pc := 38) 0 17 30 (by decide) (by decide) rfl (lt48 (by decide)) rfl lkX11_261 dX11_pardon_38 ?_
      refine lz_i hf (fun v10 hf => ?_)
      refine o_istore (pc := 41) dX11_pardon_41 (by decide) rfl ?_
      show Rn g mdX11_pardon 43 [some (.ref 0), some (.int p0), some (.int p1), some (.int (-1)), some (.int v10), none] [] (cW t q9) 0 0 (some (.int q.1)) (cW t q.2)
      refine o_iconst (pc := 43) (v := 0) dX11_pardon_43 rfl ?_
      refine o_istore (pc := 44) dX11_pardon_44 (by decide) rfl ?_
      show Rn g mdX11_pardon 46 [some (.ref 0), some (.int p0), some (.int p1), some (.int (-1)), some (.int v10), some (.int 0)] [] (cW t q9) 0 0 (some (.int q.1)) (cW t q.2)
      obtain ⟨w23, hl24, hf⟩ := bd_elim hf
      have K25 : Rn g mdX11_pardon 123 [none, none, some (.int p1), some (.int w23.1), some (.int w23.2.1), none] [] (cW t w23.2.2.2) 0 0 (some (.int q.1)) (cW t q.2) := by
        refine o_iload_n (pc := 123) dX11_pardon_123 rfl ?_
        obtain ⟨w26, hr27, hf⟩ := bd_elim hf
        have K28 : Rn g mdX11_pardon 133 [none, none, none, none, none, none] [.int w26] (cW t w23.2.2.2) 0 0 (some (.int q.1)) (cW t q.2) := by
          obtain rfl := Option.some.inj hf
          exact o_ireturn (pc := 133) dX11_pardon_133 rfl (Nat.zero_le _) (Nat.zero_le _)
        clear hf
        refine o_if_ne (pc := 124) 131 dX11_pardon_124 rfl (fun hc => ?_) (fun hc => ?_)
        · have hr27 := it_f hr27 hc
          refine o_iload (pc := 131) dX11_pardon_131 rfl ?_
          obtain rfl := Option.some.inj hr27
          refine o_keep [false, false, false, false, false, false] ?_
          exact K28
        · have hr27 := it_t hr27 hc
          refine o_iload_n (pc := 127) dX11_pardon_127 rfl ?_
          refine o_goto (pc := 128) 133 dX11_pardon_128 rfl ?_
          obtain rfl := Option.some.inj hr27
          refine o_keep [false, false, false, false, false, false] ?_
          exact K28
      exact kX11_pardon_L46 _ _ _ _ _ _ _ hl24 K25
  clear hf
  refine o_if_eq (pc := 5) 17 dX11_pardon_5 rfl (fun hc => ?_) (fun hc => ?_)
  · have hr4 := it_t hr4 hc
    obtain rfl := Option.some.inj hr4
    exact KB5.1 rfl
  · have hr4 := it_f hr4 hc
    refine o_iload_n (pc := 8) dX11_pardon_8 rfl ?_
    refine o_if_lt (pc := 9) 17 dX11_pardon_9 rfl (fun hc => ?_) (fun hc => ?_)
    · have hr4 := it_t hr4 hc
      obtain rfl := Option.some.inj hr4
      exact KB5.1 rfl
    · have hr4 := it_f hr4 hc
      refine o_iload_n (pc := 12) dX11_pardon_12 rfl ?_
      refine o_iconst (pc := 13) (v := 1) dX11_pardon_13 rfl ?_
      refine o_icmp_le (pc := 14) 20 dX11_pardon_14 rfl (fun hc => ?_) (fun hc => ?_)
      · have hr4 := it_t hr4 hc
        obtain rfl := Option.some.inj hr4
        exact KB5.2 (by decide)
      · have hr4 := it_f hr4 hc
        obtain rfl := Option.some.inj hr4
        exact KB5.1 rfl
def fX11_worth (p0 : Int32) (p1 : Int32) (t : PH) (s : ST) : Option (Int32 × ST) :=
  (fX11_isMeeting p0 s).bind (fun q2 => (if q2 = 0 then some true else (fX11_isSpan p1 s).bind (fun q7 => if q7 = 0 then some true else some false) : Option Bool).bind (fun b3 => if b3 = true then some ((-1000000), s) else (fX11_startFromNow t s).bind (fun q9 => (fX0_goDays p1 t q9).bind (fun q11 => lt (gi q11 30 16 : Int32) (fun v12 => (fX11_startFromNow t q11).bind (fun q14 => lt (si q14 30 9 p0) (fun s15 => (fX0_goDays p1 t s15).bind (fun q17 => some (v12 - (gi q17 30 16), q17)))))))))
set_option maxRecDepth 20000 in
theorem kX11_worth {g : GX} {t : PH} {p0 : Int32} {p1 : Int32} {s : ST} {q : Int32 × ST} (hf : fX11_worth p0 p1 t s = some q) : Cn g mdX11_worth [.ref 0, .int p0, .int p1] (cW t s) (some (.int q.1)) (cW t q.2) := by
  refine Cn.of (by decide) (Nat.le_of_ble_eq_true rfl) ?_
  show Rn g mdX11_worth 0 [some (.ref 0), some (.int p0), some (.int p1), none] [] (cW t s) 0 0 (some (.int q.1)) (cW t q.2)
  unfold fX11_worth at hf
  refine o_aload_n (pc := 0) dX11_worth_0 rfl ?_
  refine o_iload_n (pc := 1) dX11_worth_1 rfl ?_
  obtain ⟨q2, hk1, hf⟩ := bd_elim hf
  refine c_callV (pc := 2) 10 0 [.int p0] (by decide) (lt48 (by decide)) rfl dX11_worth_2 (kX11_isMeeting hk1) stX11_124 ⟨by decide, by decide, by decide, by decide⟩ ⟨rfl, rfl⟩ (Nat.le_of_ble_eq_true rfl) ?_
  show Rn g mdX11_worth 5 [some (.ref 0), some (.int p0), some (.int p1), none] [.int q2] (cW t s) 0 0 (some (.int q.1)) (cW t q.2)
  obtain ⟨b3, hr4, hf⟩ := bd_elim hf
  have KB5 : (b3 = true → Rn g mdX11_worth 16 [some (.ref 0), some (.int p0), some (.int p1), none] [] (cW t s) 0 0 (some (.int q.1)) (cW t q.2)) ∧ (¬ b3 = true → Rn g mdX11_worth 20 [some (.ref 0), some (.int p0), some (.int p1), none] [] (cW t s) 0 0 (some (.int q.1)) (cW t q.2)) := by
    refine ⟨fun hc => ?_, fun hc => ?_⟩
    · have hf := it_t hf hc
      refine o_ldcw (pc := 16) dX11_worth_16 lcX11_264 ?_
      obtain rfl := Option.some.inj hf
      exact o_ireturn (pc := 19) dX11_worth_19 rfl (Nat.zero_le _) (Nat.zero_le _)
    · have hf := it_f hf hc
      refine o_aload_n (pc := 20) dX11_worth_20 rfl ?_
      obtain ⟨q9, hk8, hf⟩ := bd_elim hf
      refine c_callV (pc := 21) 10 0 [] (by decide) (lt48 (by decide)) rfl dX11_worth_21 (kX11_startFromNow hk8) stX11_143 ⟨by decide, by decide, by decide, by decide⟩ ⟨rfl, rfl⟩ (Nat.le_of_ble_eq_true rfl) ?_
      show Rn g mdX11_worth 24 [some (.ref 0), some (.int p0), some (.int p1), none] [] (cW t q9) 0 0 (some (.int q.1)) (cW t q.2)
      refine o_aload_n (pc := 24) dX11_worth_24 rfl ?_
      refine c_getR (pc := 25) 10 7 0 30 (by decide) (by decide) rfl (lt48 (by decide)) rfl rfl lkX11_56 dX11_worth_25 ?_
      refine o_iload_n (pc := 28) dX11_worth_28 rfl ?_
      obtain ⟨q11, hk10, hf⟩ := bd_elim hf
      refine c_callV (pc := 29) 0 30 [.int p1] (by decide) (lt48 (by decide)) rfl dX11_worth_29 (kX0_goDays hk10) stX11_167 ⟨by decide, by decide, by decide, by decide⟩ ⟨rfl, rfl⟩ (Nat.le_of_ble_eq_true rfl) ?_
      show Rn g mdX11_worth 32 [some (.ref 0), some (.int p0), some (.int p1), none] [] (cW t q11) 0 0 (some (.int q.1)) (cW t q.2)
      refine o_aload_n (pc := 32) dX11_worth_32 rfl ?_
      refine c_getR (pc := 33) 10 7 0 30 (by decide) (by decide) rfl (lt48 (by decide)) rfl rfl lkX11_56 dX11_worth_33 ?_
      refine c_getI (pc := 36) 0 16 30 (by decide) (by decide) rfl (lt48 (by decide)) rfl lkX11_200 dX11_worth_36 ?_
      refine lz_i hf (fun v12 hf => ?_)
      refine o_istore_n (pc := 39) dX11_worth_39 (by decide) rfl ?_
      show Rn g mdX11_worth 40 [some (.ref 0), some (.int p0), some (.int p1), some (.int v12)] [] (cW t q11) 0 0 (some (.int q.1)) (cW t q.2)
      refine o_aload_n (pc := 40) dX11_worth_40 rfl ?_
      obtain ⟨q14, hk13, hf⟩ := bd_elim hf
      refine c_callV (pc := 41) 10 0 [] (by decide) (lt48 (by decide)) rfl dX11_worth_41 (kX11_startFromNow hk13) stX11_143 ⟨by decide, by decide, by decide, by decide⟩ ⟨rfl, rfl⟩ (Nat.le_of_ble_eq_true rfl) ?_
      show Rn g mdX11_worth 44 [some (.ref 0), some (.int p0), some (.int p1), some (.int v12)] [] (cW t q14) 0 0 (some (.int q.1)) (cW t q.2)
      refine o_aload_n (pc := 44) dX11_worth_44 rfl ?_
      refine c_getR (pc := 45) 10 7 0 30 (by decide) (by decide) rfl (lt48 (by decide)) rfl rfl lkX11_56 dX11_worth_45 ?_
      refine o_iload_n (pc := 48) dX11_worth_48 rfl ?_
      refine c_putI (pc := 49) 0 9 30 (by decide) (by decide) rfl rfl (lt48 (by decide)) rfl lkX11_203 ⟨rfl, rfl⟩ dX11_worth_49 ?_
      refine lz_s (cW t) hf (fun s15 hf => ?_)
      show Rn g mdX11_worth 52 [some (.ref 0), some (.int p0), some (.int p1), some (.int v12)] [] (cW t s15) 0 0 (some (.int q.1)) (cW t q.2)
      refine o_aload_n (pc := 52) dX11_worth_52 rfl ?_
      refine c_getR (pc := 53) 10 7 0 30 (by decide) (by decide) rfl (lt48 (by decide)) rfl rfl lkX11_56 dX11_worth_53 ?_
      refine o_iload_n (pc := 56) dX11_worth_56 rfl ?_
      obtain ⟨q17, hk16, hf⟩ := bd_elim hf
      refine c_callV (pc := 57) 0 30 [.int p1] (by decide) (lt48 (by decide)) rfl dX11_worth_57 (kX0_goDays hk16) stX11_167 ⟨by decide, by decide, by decide, by decide⟩ ⟨rfl, rfl⟩ (Nat.le_of_ble_eq_true rfl) ?_
      show Rn g mdX11_worth 60 [some (.ref 0), some (.int p0), some (.int p1), some (.int v12)] [] (cW t q17) 0 0 (some (.int q.1)) (cW t q.2)
      refine o_iload_n (pc := 60) dX11_worth_60 rfl ?_
      refine o_aload_n (pc := 61) dX11_worth_61 rfl ?_
      refine c_getR (pc := 62) 10 7 0 30 (by decide) (by decide) rfl (lt48 (by decide)) rfl rfl lkX11_56 dX11_worth_62 ?_
      refine c_getI (pc := 65) 0 16 30 (by decide) (by decide) rfl (lt48 (by decide)) rfl lkX11_200 dX11_worth_65 ?_
      refine o_isub (pc := 68) dX11_worth_68 ?_
      obtain rfl := Option.some.inj hf
      exact o_ireturn (pc := 69) dX11_worth_69 rfl (Nat.zero_le _) (Nat.zero_le _)
  clear hf
  refine o_if_eq (pc := 5) 16 dX11_worth_5 rfl (fun hc => ?_) (fun hc => ?_)
  · have hr4 := it_t hr4 hc
    obtain rfl := Option.some.inj hr4
    exact KB5.1 rfl
  · have hr4 := it_f hr4 hc
    refine o_aload_n (pc := 8) dX11_worth_8 rfl ?_
    refine o_iload_n (pc := 9) dX11_worth_9 rfl ?_
    obtain ⟨q7, hk6, hr4⟩ := bd_elim hr4
    refine c_callV (pc := 10) 10 0 [.int p1] (by decide) (lt48 (by decide)) rfl dX11_worth_10 (kX11_isSpan hk6) stX11_232 ⟨by decide, by decide, by decide, by decide⟩ ⟨rfl, rfl⟩ (Nat.le_of_ble_eq_true rfl) ?_
    show Rn g mdX11_worth 13 [some (.ref 0), some (.int p0), some (.int p1), none] [.int q7] (cW t s) 0 0 (some (.int q.1)) (cW t q.2)
    refine o_if_ne (pc := 13) 20 dX11_worth_13 rfl (fun hc => ?_) (fun hc => ?_)
    · have hr4 := it_f hr4 hc
      obtain rfl := Option.some.inj hr4
      exact KB5.2 (by decide)
    · have hr4 := it_t hr4 hc
      obtain rfl := Option.some.inj hr4
      exact KB5.1 rfl
def fX11_seed (p0 : Int32) (s : ST) : Option (Int32 × ST) :=
  if 0 ≤ p0 then lt (gi s 17 3 : Int32) (fun v1 => lt (si s 17 3 p0) (fun s2 => some (v1, s2))) else some ((-1), s)
set_option maxRecDepth 20000 in
theorem kX11_seed {g : GX} {t : PH} {p0 : Int32} {s : ST} {q : Int32 × ST} (hf : fX11_seed p0 s = some q) : Cn g mdX11_seed [.ref 0, .int p0] (cW t s) (some (.int q.1)) (cW t q.2) := by
  refine Cn.of (by decide) (Nat.le_of_ble_eq_true rfl) ?_
  show Rn g mdX11_seed 0 [some (.ref 0), some (.int p0), none] [] (cW t s) 0 0 (some (.int q.1)) (cW t q.2)
  unfold fX11_seed at hf
  refine o_iload_n (pc := 0) dX11_seed_0 rfl ?_
  refine o_if_ge (pc := 1) 6 dX11_seed_1 rfl (fun hc => ?_) (fun hc => ?_)
  · have hf := it_t hf hc
    refine o_aload_n (pc := 6) dX11_seed_6 rfl ?_
    refine c_getR (pc := 7) 10 5 0 17 (by decide) (by decide) rfl (lt48 (by decide)) rfl rfl lkX11_45 dX11_seed_7 ?_
    refine c_getI (pc := 10) 9 3 17 (by decide) (by decide) rfl (lt48 (by decide)) rfl lkX11_265 dX11_seed_10 ?_
    refine lz_i hf (fun v1 hf => ?_)
    refine o_istore_n (pc := 13) dX11_seed_13 (by decide) rfl ?_
    show Rn g mdX11_seed 14 [some (.ref 0), some (.int p0), some (.int v1)] [] (cW t s) 0 0 (some (.int q.1)) (cW t q.2)
    refine o_aload_n (pc := 14) dX11_seed_14 rfl ?_
    refine c_getR (pc := 15) 10 5 0 17 (by decide) (by decide) rfl (lt48 (by decide)) rfl rfl lkX11_45 dX11_seed_15 ?_
    refine o_iload_n (pc := 18) dX11_seed_18 rfl ?_
    refine c_putI (pc := 19) 9 3 17 (by decide) (by decide) rfl rfl (lt48 (by decide)) rfl lkX11_265 ⟨rfl, rfl⟩ dX11_seed_19 ?_
    refine lz_s (cW t) hf (fun s2 hf => ?_)
    show Rn g mdX11_seed 22 [some (.ref 0), some (.int p0), some (.int v1)] [] (cW t s2) 0 0 (some (.int q.1)) (cW t q.2)
    refine o_iload_n (pc := 22) dX11_seed_22 rfl ?_
    obtain rfl := Option.some.inj hf
    exact o_ireturn (pc := 23) dX11_seed_23 rfl (Nat.zero_le _) (Nat.zero_le _)
  · have hf := it_f hf hc
    refine o_iconst (pc := 4) (v := (-1)) dX11_seed_4 rfl ?_
    obtain rfl := Option.some.inj hf
    exact o_ireturn (pc := 5) dX11_seed_5 rfl (Nat.zero_le _) (Nat.zero_le _)
def fX0_drawFrom (p0 : Int32) (s : ST) : Option (ST) :=
  lt (si s 30 13 1) (fun s1 => lt (si s1 30 14 p0) (fun s2 => some s2))
set_option maxRecDepth 20000 in
theorem kX0_drawFrom {g : GX} {t : PH} {p0 : Int32} {s : ST} {q : ST} (hf : fX0_drawFrom p0 s = some q) : Cn g mdX0_drawFrom [.ref 30, .int p0] (cW t s) none (cW t q) := by
  refine Cn.of (by decide) (Nat.le_of_ble_eq_true rfl) ?_
  show Rn g mdX0_drawFrom 0 [some (.ref 30), some (.int p0)] [] (cW t s) 0 0 none (cW t q)
  unfold fX0_drawFrom at hf
  refine o_aload_n (pc := 0) dX0_drawFrom_0 rfl ?_
  refine o_iconst (pc := 1) (v := 1) dX0_drawFrom_1 rfl ?_
  refine c_putI (pc := 2) 0 13 30 (by decide) (by decide) rfl rfl (lt48 (by decide)) rfl lkX0_65 ⟨rfl, rfl⟩ dX0_drawFrom_2 ?_
  refine lz_s (cW t) hf (fun s1 hf => ?_)
  show Rn g mdX0_drawFrom 5 [some (.ref 30), some (.int p0)] [] (cW t s1) 0 0 none (cW t q)
  refine o_aload_n (pc := 5) dX0_drawFrom_5 rfl ?_
  refine o_iload_n (pc := 6) dX0_drawFrom_6 rfl ?_
  refine c_putI (pc := 7) 0 14 30 (by decide) (by decide) rfl rfl (lt48 (by decide)) rfl lkX0_69 ⟨rfl, rfl⟩ dX0_drawFrom_7 ?_
  refine lz_s (cW t) hf (fun s2 hf => ?_)
  show Rn g mdX0_drawFrom 10 [some (.ref 30), some (.int p0)] [] (cW t s2) 0 0 none (cW t q)
  obtain rfl := Option.some.inj hf
  exact o_return (pc := 10) dX0_drawFrom_10 rfl (Nat.zero_le _) (Nat.zero_le _)
