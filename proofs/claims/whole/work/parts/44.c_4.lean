def fX11_years_L64 (a1 : Int32) (a2 : Int32) (a3 : Int32) (t : PH) : Nat → Int32 → Int32 → Int32 → Int32 → ST → Option (Int32 × Int32 × Int32 × Int32 × ST)
  | 0, _, _, _, _, _ => none
  | n + 1, x4, x5, x6, x7, s => if a1 ≤ x7 then some (x4, x5, x6, x7, s) else (fX11_startFromNow t s).bind (fun q6 => (fX0_drawFrom x6 q6).bind (fun q8 => (fX0_goDays a2 t q8).bind (fun q10 => lt (gi q10 30 14 : Int32) (fun v11 => lt (x4 + (gi q10 30 15) : Int32) (fun v12 => lt (x5 + (gi q10 30 16) : Int32) (fun v13 => lt (x7 + 1) (fun v14 => fX11_years_L64 a1 a2 a3 t n v12 v13 v11 v14 q10)))))))
def fX11_years (p0 : Int32) (p1 : Int32) (p2 : Int32) (t : PH) (s : ST) : Option (Int32 × ST) :=
  (if (gi s 18 0) = 0 then some true else if p0 < 1 then some true else if 10 < p0 then some true else if p1 < 1 then some true else if 60 < p1 then some true else if p2 < 0 then some true else if p2 ≤ 1 then some false else some true : Option Bool).bind (fun b1 => if b1 = true then some ((-1), s) else lt (gi s 17 3 : Int32) (fun v4 => (fX11_years_L64 p0 p1 p2 t FUEL 0 0 v4 0 s).bind (fun w15 => (if p2 = 0 then some w15.1 else some w15.2.1 : Option (Int32)).bind (fun w18 => some (w18, w15.2.2.2.2)))))
set_option maxRecDepth 20000 in
theorem kX11_years_L64 {g : GX} {t : PH} (a1 : Int32) (a2 : Int32) (a3 : Int32) {r : Option Value} {h2 : PH} : ∀ (n : Nat) (x4 : Int32) (x5 : Int32) (x6 : Int32) (x7 : Int32) (s : ST) {w : Int32 × Int32 × Int32 × Int32 × ST}, fX11_years_L64 a1 a2 a3 t n x4 x5 x6 x7 s = some w → Rn g mdX11_years 130 [none, none, none, some (.int a3), some (.int w.1), some (.int w.2.1), none, none] [] (cW t w.2.2.2.2) 0 0 r h2 → Rn g mdX11_years 64 [some (.ref 0), some (.int a1), some (.int a2), some (.int a3), some (.int x4), some (.int x5), some (.int x6), some (.int x7)] [] (cW t s) 0 0 r h2 := by
  intro n
  induction n with
  | zero => intro x4 x5 x6 x7 s w hf K; cases hf
  | succ n ih =>
    intro x4 x5 x6 x7 s w hf K
    rw [fX11_years_L64] at hf
    refine o_iload (pc := 64) dX11_years_64 rfl ?_
    refine o_iload_n (pc := 66) dX11_years_66 rfl ?_
    refine o_icmp_ge (pc := 67) 130 dX11_years_67 rfl (fun hc => ?_) (fun hc => ?_)
    · have hf := it_t hf hc
      obtain rfl := Option.some.inj hf
      refine o_keep [false, false, false, true, true, true, false, false] ?_
      exact K
    · have hf := it_f hf hc
      refine o_aload_n (pc := 70) dX11_years_70 rfl ?_
      obtain ⟨q6, hk5, hf⟩ := bd_elim hf
      refine c_callV (pc := 71) 10 0 [] (by decide) (lt48 (by decide)) rfl dX11_years_71 (kX11_startFromNow hk5) stX11_143 ⟨by decide, by decide, by decide, by decide⟩ ⟨rfl, rfl⟩ (Nat.le_of_ble_eq_true rfl) ?_
      show Rn g mdX11_years 74 [some (.ref 0), some (.int a1), some (.int a2), some (.int a3), some (.int x4), some (.int x5), some (.int x6), some (.int x7)] [] (cW t q6) 0 0 r h2
      refine o_aload_n (pc := 74) dX11_years_74 rfl ?_
      refine c_getR (pc := 75) 10 7 0 30 (by decide) (by decide) rfl (lt48 (by decide)) rfl rfl lkX11_56 dX11_years_75 ?_
      refine o_iload (pc := 78) dX11_years_78 rfl ?_
      obtain ⟨q8, hk7, hf⟩ := bd_elim hf
      refine c_callV (pc := 80) 0 30 [.int x6] (by decide) (lt48 (by decide)) rfl dX11_years_80 (kX0_drawFrom hk7) stX11_268 ⟨by decide, by decide, by decide, by decide⟩ ⟨rfl, rfl⟩ (Nat.le_of_ble_eq_true rfl) ?_
      show Rn g mdX11_years 83 [some (.ref 0), some (.int a1), some (.int a2), some (.int a3), some (.int x4), some (.int x5), some (.int x6), some (.int x7)] [] (cW t q8) 0 0 r h2
      refine o_aload_n (pc := 83) dX11_years_83 rfl ?_
      refine c_getR (pc := 84) 10 7 0 30 (by decide) (by decide) rfl (lt48 (by decide)) rfl rfl lkX11_56 dX11_years_84 ?_
      refine o_iload_n (pc := 87) dX11_years_87 rfl ?_
      obtain ⟨q10, hk9, hf⟩ := bd_elim hf
      refine c_callV (pc := 88) 0 30 [.int a2] (by decide) (lt48 (by decide)) rfl dX11_years_88 (kX0_goDays hk9) stX11_167 ⟨by decide, by decide, by decide, by decide⟩ ⟨rfl, rfl⟩ (Nat.le_of_ble_eq_true rfl) ?_
      show Rn g mdX11_years 91 [some (.ref 0), some (.int a1), some (.int a2), some (.int a3), some (.int x4), some (.int x5), some (.int x6), some (.int x7)] [] (cW t q10) 0 0 r h2
      refine o_aload_n (pc := 91) dX11_years_91 rfl ?_
      refine c_getR (pc := 92) 10 7 0 30 (by decide) (by decide) rfl (lt48 (by decide)) rfl rfl lkX11_56 dX11_years_92 ?_
      refine c_getI (pc := 95) 0 14 30 (by decide) (by decide) rfl (lt48 (by decide)) rfl lkX11_271 dX11_years_95 ?_
      refine lz_i hf (fun v11 hf => ?_)
      refine o_istore (pc := 98) dX11_years_98 (by decide) rfl ?_
      show Rn g mdX11_years 100 [some (.ref 0), some (.int a1), some (.int a2), some (.int a3), some (.int x4), some (.int x5), some (.int v11), some (.int x7)] [] (cW t q10) 0 0 r h2
      refine o_iload (pc := 100) dX11_years_100 rfl ?_
      refine o_aload_n (pc := 102) dX11_years_102 rfl ?_
      refine c_getR (pc := 103) 10 7 0 30 (by decide) (by decide) rfl (lt48 (by decide)) rfl rfl lkX11_56 dX11_years_103 ?_
      refine c_getI (pc := 106) 0 15 30 (by decide) (by decide) rfl (lt48 (by decide)) rfl lkX11_154 dX11_years_106 ?_
      refine o_iadd (pc := 109) dX11_years_109 ?_
      refine lz_i hf (fun v12 hf => ?_)
      refine o_istore (pc := 110) dX11_years_110 (by decide) rfl ?_
      show Rn g mdX11_years 112 [some (.ref 0), some (.int a1), some (.int a2), some (.int a3), some (.int v12), some (.int x5), some (.int v11), some (.int x7)] [] (cW t q10) 0 0 r h2
      refine o_iload (pc := 112) dX11_years_112 rfl ?_
      refine o_aload_n (pc := 114) dX11_years_114 rfl ?_
      refine c_getR (pc := 115) 10 7 0 30 (by decide) (by decide) rfl (lt48 (by decide)) rfl rfl lkX11_56 dX11_years_115 ?_
      refine c_getI (pc := 118) 0 16 30 (by decide) (by decide) rfl (lt48 (by decide)) rfl lkX11_200 dX11_years_118 ?_
      refine o_iadd (pc := 121) dX11_years_121 ?_
      refine lz_i hf (fun v13 hf => ?_)
      refine o_istore (pc := 122) dX11_years_122 (by decide) rfl ?_
      show Rn g mdX11_years 124 [some (.ref 0), some (.int a1), some (.int a2), some (.int a3), some (.int v12), some (.int v13), some (.int v11), some (.int x7)] [] (cW t q10) 0 0 r h2
      refine o_iinc (pc := 124) dX11_years_124 rfl (by decide) rfl ?_
      show Rn g mdX11_years 127 [some (.ref 0), some (.int a1), some (.int a2), some (.int a3), some (.int v12), some (.int v13), some (.int v11), some (.int (x7 + 1))] [] (cW t q10) 0 0 r h2
      obtain ⟨v14, ev14, hf⟩ := lt_elim hf
      rw [ev14]
      show Rn g mdX11_years 127 [some (.ref 0), some (.int a1), some (.int a2), some (.int a3), some (.int v12), some (.int v13), some (.int v11), some (.int v14)] [] (cW t q10) 0 0 r h2
      refine o_goto (pc := 127) 64 dX11_years_127 rfl ?_
      exact ih _ _ _ _ _ hf K
set_option maxRecDepth 20000 in
theorem kX11_years {g : GX} {t : PH} {p0 : Int32} {p1 : Int32} {p2 : Int32} {s : ST} {q : Int32 × ST} (hf : fX11_years p0 p1 p2 t s = some q) : Cn g mdX11_years [.ref 0, .int p0, .int p1, .int p2] (cW t s) (some (.int q.1)) (cW t q.2) := by
  refine Cn.of (by decide) (Nat.le_of_ble_eq_true rfl) ?_
  show Rn g mdX11_years 0 [some (.ref 0), some (.int p0), some (.int p1), some (.int p2), none, none, none, none] [] (cW t s) 0 0 (some (.int q.1)) (cW t q.2)
  unfold fX11_years at hf
  refine o_aload_n (pc := 0) dX11_years_0 rfl ?_
  refine c_getR (pc := 1) 10 5 0 17 (by decide) (by decide) rfl (lt48 (by decide)) rfl rfl lkX11_45 dX11_years_1 ?_
  refine c_getR (pc := 4) 9 0 17 18 (by decide) (by decide) rfl (lt48 (by decide)) rfl rfl lkX11_86 dX11_years_4 ?_
  refine c_getI (pc := 7) 6 0 18 (by decide) (by decide) rfl (lt48 (by decide)) rfl lkX11_136 dX11_years_7 ?_
  obtain ⟨b1, hr2, hf⟩ := bd_elim hf
  have KB3 : (b1 = true → Rn g mdX11_years 44 [some (.ref 0), some (.int p0), some (.int p1), some (.int p2), none, none, none, none] [] (cW t s) 0 0 (some (.int q.1)) (cW t q.2)) ∧ (¬ b1 = true → Rn g mdX11_years 46 [some (.ref 0), some (.int p0), some (.int p1), some (.int p2), none, none, none, none] [] (cW t s) 0 0 (some (.int q.1)) (cW t q.2)) := by
    refine ⟨fun hc => ?_, fun hc => ?_⟩
    · have hf := it_t hf hc
      refine o_iconst (pc := 44) (v := (-1)) dX11_years_44 rfl ?_
      obtain rfl := Option.some.inj hf
      exact o_ireturn (pc := 45) dX11_years_45 rfl (Nat.zero_le _) (Nat.zero_le _)
    · have hf := it_f hf hc
      refine o_iconst (pc := 46) (v := 0) dX11_years_46 rfl ?_
      refine o_istore (pc := 47) dX11_years_47 (by decide) rfl ?_
      show Rn g mdX11_years 49 [some (.ref 0), some (.int p0), some (.int p1), some (.int p2), some (.int 0), none, none, none] [] (cW t s) 0 0 (some (.int q.1)) (cW t q.2)
      refine o_iconst (pc := 49) (v := 0) dX11_years_49 rfl ?_
      refine o_istore (pc := 50) dX11_years_50 (by decide) rfl ?_
      show Rn g mdX11_years 52 [some (.ref 0), some (.int p0), some (.int p1), some (.int p2), some (.int 0), some (.int 0), none, none] [] (cW t s) 0 0 (some (.int q.1)) (cW t q.2)
      refine o_aload_n (pc := 52) dX11_years_52 rfl ?_
      refine c_getR (pc := 53) 10 5 0 17 (by decide) (by decide) rfl (lt48 (by decide)) rfl rfl lkX11_45 dX11_years_53 ?_
      refine c_getI (pc := 56) 9 3 17 (by decide) (by decide) rfl (lt48 (by decide)) rfl lkX11_265 dX11_years_56 ?_
      refine lz_i hf (fun v4 hf => ?_)
      refine o_istore (pc := 59) dX11_years_59 (by decide) rfl ?_
      show Rn g mdX11_years 61 [some (.ref 0), some (.int p0), some (.int p1), some (.int p2), some (.int 0), some (.int 0), some (.int v4), none] [] (cW t s) 0 0 (some (.int q.1)) (cW t q.2)
      refine o_iconst (pc := 61) (v := 0) dX11_years_61 rfl ?_
      refine o_istore (pc := 62) dX11_years_62 (by decide) rfl ?_
      show Rn g mdX11_years 64 [some (.ref 0), some (.int p0), some (.int p1), some (.int p2), some (.int 0), some (.int 0), some (.int v4), some (.int 0)] [] (cW t s) 0 0 (some (.int q.1)) (cW t q.2)
      obtain ⟨w15, hl16, hf⟩ := bd_elim hf
      have K17 : Rn g mdX11_years 130 [none, none, none, some (.int p2), some (.int w15.1), some (.int w15.2.1), none, none] [] (cW t w15.2.2.2.2) 0 0 (some (.int q.1)) (cW t q.2) := by
        refine o_iload_n (pc := 130) dX11_years_130 rfl ?_
        obtain ⟨w18, hr19, hf⟩ := bd_elim hf
        have K20 : Rn g mdX11_years 141 [none, none, none, none, none, none, none, none] [.int w18] (cW t w15.2.2.2.2) 0 0 (some (.int q.1)) (cW t q.2) := by
          obtain rfl := Option.some.inj hf
          exact o_ireturn (pc := 141) dX11_years_141 rfl (Nat.zero_le _) (Nat.zero_le _)
        clear hf
        refine o_if_ne (pc := 131) 139 dX11_years_131 rfl (fun hc => ?_) (fun hc => ?_)
        · have hr19 := it_f hr19 hc
          refine o_iload (pc := 139) dX11_years_139 rfl ?_
          obtain rfl := Option.some.inj hr19
          refine o_keep [false, false, false, false, false, false, false, false] ?_
          exact K20
        · have hr19 := it_t hr19 hc
          refine o_iload (pc := 134) dX11_years_134 rfl ?_
          refine o_goto (pc := 136) 141 dX11_years_136 rfl ?_
          obtain rfl := Option.some.inj hr19
          refine o_keep [false, false, false, false, false, false, false, false] ?_
          exact K20
      exact kX11_years_L64 _ _ _ _ _ _ _ _ _ hl16 K17
  clear hf
  refine o_if_eq (pc := 10) 44 dX11_years_10 rfl (fun hc => ?_) (fun hc => ?_)
  · have hr2 := it_t hr2 hc
    obtain rfl := Option.some.inj hr2
    exact KB3.1 rfl
  · have hr2 := it_f hr2 hc
    refine o_iload_n (pc := 13) dX11_years_13 rfl ?_
    refine o_iconst (pc := 14) (v := 1) dX11_years_14 rfl ?_
    refine o_icmp_lt (pc := 15) 44 dX11_years_15 rfl (fun hc => ?_) (fun hc => ?_)
    · have hr2 := it_t hr2 hc
      obtain rfl := Option.some.inj hr2
      exact KB3.1 rfl
    · have hr2 := it_f hr2 hc
      refine o_iload_n (pc := 18) dX11_years_18 rfl ?_
      refine o_bipush (pc := 19) (v := 10) dX11_years_19 rfl ?_
      refine o_icmp_gt (pc := 21) 44 dX11_years_21 rfl (fun hc => ?_) (fun hc => ?_)
      · have hr2 := it_t hr2 hc
        obtain rfl := Option.some.inj hr2
        exact KB3.1 rfl
      · have hr2 := it_f hr2 hc
        refine o_iload_n (pc := 24) dX11_years_24 rfl ?_
        refine o_iconst (pc := 25) (v := 1) dX11_years_25 rfl ?_
        refine o_icmp_lt (pc := 26) 44 dX11_years_26 rfl (fun hc => ?_) (fun hc => ?_)
        · have hr2 := it_t hr2 hc
          obtain rfl := Option.some.inj hr2
          exact KB3.1 rfl
        · have hr2 := it_f hr2 hc
          refine o_iload_n (pc := 29) dX11_years_29 rfl ?_
          refine o_bipush (pc := 30) (v := 60) dX11_years_30 rfl ?_
          refine o_icmp_gt (pc := 32) 44 dX11_years_32 rfl (fun hc => ?_) (fun hc => ?_)
          · have hr2 := it_t hr2 hc
            obtain rfl := Option.some.inj hr2
            exact KB3.1 rfl
          · have hr2 := it_f hr2 hc
            refine o_iload_n (pc := 35) dX11_years_35 rfl ?_
            refine o_if_lt (pc := 36) 44 dX11_years_36 rfl (fun hc => ?_) (fun hc => ?_)
            · have hr2 := it_t hr2 hc
              obtain rfl := Option.some.inj hr2
              exact KB3.1 rfl
            · have hr2 := it_f hr2 hc
              refine o_iload_n (pc := 39) dX11_years_39 rfl ?_
              refine o_iconst (pc := 40) (v := 1) dX11_years_40 rfl ?_
              refine o_icmp_le (pc := 41) 46 dX11_years_41 rfl (fun hc => ?_) (fun hc => ?_)
              · have hr2 := it_t hr2 hc
                obtain rfl := Option.some.inj hr2
                exact KB3.2 (by decide)
              · have hr2 := it_f hr2 hc
                obtain rfl := Option.some.inj hr2
                exact KB3.1 rfl
def fX5_sumOfPeople_25_L4 (a1 : Int32) : Nat → Int32 → Int32 → ST → Option (Int32 × Int32)
  | 0, _, _, _ => none
  | n + 1, x2, x3, s => if 5 ≤ x3 then some (x2, x3) else ck (inb (a1 + x3) 46) (lt (x2 + (gi s 26 (ix (a1 + x3))) : Int32) (fun v2 => lt (x3 + 1) (fun v3 => fX5_sumOfPeople_25_L4 a1 n v2 v3 s)))
def fX5_sumOfPeople_25 (p0 : Int32) (s : ST) : Option (Int32) :=
  (fX5_sumOfPeople_25_L4 p0 FUEL 0 0 s).bind (fun w4 => some w4.1)
set_option maxRecDepth 20000 in
theorem kX5_sumOfPeople_25_L4 {g : GX} {t : PH} (a1 : Int32) (s : ST) {r : Option Value} {h2 : PH} : ∀ (n : Nat) (x2 : Int32) (x3 : Int32) {w : Int32 × Int32}, fX5_sumOfPeople_25_L4 a1 n x2 x3 s = some w → Rn g mdX5_sumOfPeople 26 [none, none, some (.int w.1), none] [] (cW t s) 0 0 r h2 → Rn g mdX5_sumOfPeople 4 [some (.ref 25), some (.int a1), some (.int x2), some (.int x3)] [] (cW t s) 0 0 r h2 := by
  intro n
  induction n with
  | zero => intro x2 x3 w hf K; cases hf
  | succ n ih =>
    intro x2 x3 w hf K
    rw [fX5_sumOfPeople_25_L4] at hf
    refine o_iload_n (pc := 4) dX5_sumOfPeople_4 rfl ?_
    refine o_iconst (pc := 5) (v := 5) dX5_sumOfPeople_5 rfl ?_
    refine o_icmp_ge (pc := 6) 26 dX5_sumOfPeople_6 rfl (fun hc => ?_) (fun hc => ?_)
    · have hf := it_t hf hc
      obtain rfl := Option.some.inj hf
      refine o_keep [false, false, true, false] ?_
      exact K
    · have hf := it_f hf hc
      refine o_iload_n (pc := 9) dX5_sumOfPeople_9 rfl ?_
      refine o_aload_n (pc := 10) dX5_sumOfPeople_10 rfl ?_
      refine c_getR (pc := 11) 4 0 25 26 (by decide) (by decide) rfl (lt48 (by decide)) rfl rfl lkX5_11 dX5_sumOfPeople_11 ?_
      refine o_iload_n (pc := 14) dX5_sumOfPeople_14 rfl ?_
      refine o_iload_n (pc := 15) dX5_sumOfPeople_15 rfl ?_
      refine o_iadd (pc := 16) dX5_sumOfPeople_16 ?_
      obtain ⟨hk1, hf⟩ := ck_elim hf
      refine c_iald (pc := 17) (lt48 (by decide)) rfl hk1 dX5_sumOfPeople_17 ?_
      refine o_iadd (pc := 18) dX5_sumOfPeople_18 ?_
      refine lz_i hf (fun v2 hf => ?_)
      refine o_istore_n (pc := 19) dX5_sumOfPeople_19 (by decide) rfl ?_
      show Rn g mdX5_sumOfPeople 20 [some (.ref 25), some (.int a1), some (.int v2), some (.int x3)] [] (cW t s) 0 0 r h2
      refine o_iinc (pc := 20) dX5_sumOfPeople_20 rfl (by decide) rfl ?_
      show Rn g mdX5_sumOfPeople 23 [some (.ref 25), some (.int a1), some (.int v2), some (.int (x3 + 1))] [] (cW t s) 0 0 r h2
      obtain ⟨v3, ev3, hf⟩ := lt_elim hf
      rw [ev3]
      show Rn g mdX5_sumOfPeople 23 [some (.ref 25), some (.int a1), some (.int v2), some (.int v3)] [] (cW t s) 0 0 r h2
      refine o_goto (pc := 23) 4 dX5_sumOfPeople_23 rfl ?_
      exact ih _ _ hf K
set_option maxRecDepth 20000 in
theorem kX5_sumOfPeople_25 {g : GX} {t : PH} {p0 : Int32} {s : ST} {q : Int32} (hf : fX5_sumOfPeople_25 p0 s = some q) : Cn g mdX5_sumOfPeople [.ref 25, .int p0] (cW t s) (some (.int q)) (cW t s) := by
  refine Cn.of (by decide) (Nat.le_of_ble_eq_true rfl) ?_
  show Rn g mdX5_sumOfPeople 0 [some (.ref 25), some (.int p0), none, none] [] (cW t s) 0 0 (some (.int q)) (cW t s)
  unfold fX5_sumOfPeople_25 at hf
  refine o_iconst (pc := 0) (v := 0) dX5_sumOfPeople_0 rfl ?_
  refine o_istore_n (pc := 1) dX5_sumOfPeople_1 (by decide) rfl ?_
  show Rn g mdX5_sumOfPeople 2 [some (.ref 25), some (.int p0), some (.int 0), none] [] (cW t s) 0 0 (some (.int q)) (cW t s)
  refine o_iconst (pc := 2) (v := 0) dX5_sumOfPeople_2 rfl ?_
  refine o_istore_n (pc := 3) dX5_sumOfPeople_3 (by decide) rfl ?_
  show Rn g mdX5_sumOfPeople 4 [some (.ref 25), some (.int p0), some (.int 0), some (.int 0)] [] (cW t s) 0 0 (some (.int q)) (cW t s)
  obtain ⟨w4, hl5, hf⟩ := bd_elim hf
  have K6 : Rn g mdX5_sumOfPeople 26 [none, none, some (.int w4.1), none] [] (cW t s) 0 0 (some (.int q)) (cW t s) := by
    refine o_iload_n (pc := 26) dX5_sumOfPeople_26 rfl ?_
    obtain rfl := Option.some.inj hf
    exact o_ireturn (pc := 27) dX5_sumOfPeople_27 rfl (Nat.zero_le _) (Nat.zero_le _)
  exact kX5_sumOfPeople_25_L4 _ _ _ _ _ hl5 K6
def fX11_count (p0 : Int32) (s : ST) : Option (Int32) :=
  if p0 = 0 then some (gi s 18 1) else if p0 = 1 then some (gi s 18 2) else if p0 = 2 then some (gi s 18 3) else if p0 = 3 then some (gi s 18 7) else if p0 = 4 then some (gi s 18 8) else if p0 = 5 then some (gi s 0 4) else if p0 = 6 then some (gi s 17 2) else if p0 = 7 then ck (inb 45 46) (some (gi s 26 (ix 45))) else if p0 = 8 then ck (inb 44 46) (some (gi s 26 (ix 44))) else if p0 = 9 then (fX5_sumOfPeople_25 10 s).bind (fun q14 => some q14) else if p0 = 10 then (fX5_sumOfPeople_25 15 s).bind (fun q17 => some q17) else if p0 = 11 then some (gi s 17 4) else if p0 = 12 then some (gi s 17 8) else if p0 = 13 then some (gi s 17 3) else if p0 = 14 then some (gi s 1 1) else some (-1)
set_option maxRecDepth 20000 in
theorem kX11_count {g : GX} {t : PH} {p0 : Int32} {s : ST} {q : Int32} (hf : fX11_count p0 s = some q) : Cn g mdX11_count [.ref 0, .int p0] (cW t s) (some (.int q)) (cW t s) := by
  refine Cn.of (by decide) (Nat.le_of_ble_eq_true rfl) ?_
  show Rn g mdX11_count 0 [some (.ref 0), some (.int p0)] [] (cW t s) 0 0 (some (.int q)) (cW t s)
  unfold fX11_count at hf
  refine o_iload_n (pc := 0) dX11_count_0 rfl ?_
  by_cases hx1 : p0 = 0
  · have hf := it_t hf hx1
    refine o_tableIn (pc := 1) 76 dX11_count_1 (by rw [hx1] <;> decide) (by rw [hx1] <;> decide) (by rw [hx1] <;> rfl) rfl ?_
    refine o_aload_n (pc := 76) dX11_count_76 rfl ?_
    refine c_getR (pc := 77) 10 5 0 17 (by decide) (by decide) rfl (lt48 (by decide)) rfl rfl lkX11_45 dX11_count_77 ?_
    refine c_getR (pc := 80) 9 0 17 18 (by decide) (by decide) rfl (lt48 (by decide)) rfl rfl lkX11_86 dX11_count_80 ?_
    refine c_getI (pc := 83) 6 1 18 (by decide) (by decide) rfl (lt48 (by decide)) rfl lkX11_272 dX11_count_83 ?_
    obtain rfl := Option.some.inj hf
    exact o_ireturn (pc := 86) dX11_count_86 rfl (Nat.zero_le _) (Nat.zero_le _)
  have hf := it_f hf hx1
  by_cases hx2 : p0 = 1
  · have hf := it_t hf hx2
    refine o_tableIn (pc := 1) 87 dX11_count_1 (by rw [hx2] <;> decide) (by rw [hx2] <;> decide) (by rw [hx2] <;> rfl) rfl ?_
    refine o_aload_n (pc := 87) dX11_count_87 rfl ?_
    refine c_getR (pc := 88) 10 5 0 17 (by decide) (by decide) rfl (lt48 (by decide)) rfl rfl lkX11_45 dX11_count_88 ?_
    refine c_getR (pc := 91) 9 0 17 18 (by decide) (by decide) rfl (lt48 (by decide)) rfl rfl lkX11_86 dX11_count_91 ?_
    refine c_getI (pc := 94) 6 2 18 (by decide) (by decide) rfl (lt48 (by decide)) rfl lkX11_273 dX11_count_94 ?_
    obtain rfl := Option.some.inj hf
    exact o_ireturn (pc := 97) dX11_count_97 rfl (Nat.zero_le _) (Nat.zero_le _)
  have hf := it_f hf hx2
  by_cases hx3 : p0 = 2
  · have hf := it_t hf hx3
    refine o_tableIn (pc := 1) 98 dX11_count_1 (by rw [hx3] <;> decide) (by rw [hx3] <;> decide) (by rw [hx3] <;> rfl) rfl ?_
    refine o_aload_n (pc := 98) dX11_count_98 rfl ?_
    refine c_getR (pc := 99) 10 5 0 17 (by decide) (by decide) rfl (lt48 (by decide)) rfl rfl lkX11_45 dX11_count_99 ?_
    refine c_getR (pc := 102) 9 0 17 18 (by decide) (by decide) rfl (lt48 (by decide)) rfl rfl lkX11_86 dX11_count_102 ?_
    refine c_getI (pc := 105) 6 3 18 (by decide) (by decide) rfl (lt48 (by decide)) rfl lkX11_274 dX11_count_105 ?_
    obtain rfl := Option.some.inj hf
    exact o_ireturn (pc := 108) dX11_count_108 rfl (Nat.zero_le _) (Nat.zero_le _)
  have hf := it_f hf hx3
  by_cases hx4 : p0 = 3
  · have hf := it_t hf hx4
    refine o_tableIn (pc := 1) 109 dX11_count_1 (by rw [hx4] <;> decide) (by rw [hx4] <;> decide) (by rw [hx4] <;> rfl) rfl ?_
    refine o_aload_n (pc := 109) dX11_count_109 rfl ?_
    refine c_getR (pc := 110) 10 5 0 17 (by decide) (by decide) rfl (lt48 (by decide)) rfl rfl lkX11_45 dX11_count_110 ?_
    refine c_getR (pc := 113) 9 0 17 18 (by decide) (by decide) rfl (lt48 (by decide)) rfl rfl lkX11_86 dX11_count_113 ?_
    refine c_getI (pc := 116) 6 7 18 (by decide) (by decide) rfl (lt48 (by decide)) rfl lkX11_188 dX11_count_116 ?_
    obtain rfl := Option.some.inj hf
    exact o_ireturn (pc := 119) dX11_count_119 rfl (Nat.zero_le _) (Nat.zero_le _)
  have hf := it_f hf hx4
  by_cases hx5 : p0 = 4
  · have hf := it_t hf hx5
    refine o_tableIn (pc := 1) 120 dX11_count_1 (by rw [hx5] <;> decide) (by rw [hx5] <;> decide) (by rw [hx5] <;> rfl) rfl ?_
    refine o_aload_n (pc := 120) dX11_count_120 rfl ?_
    refine c_getR (pc := 121) 10 5 0 17 (by decide) (by decide) rfl (lt48 (by decide)) rfl rfl lkX11_45 dX11_count_121 ?_
    refine c_getR (pc := 124) 9 0 17 18 (by decide) (by decide) rfl (lt48 (by decide)) rfl rfl lkX11_86 dX11_count_124 ?_
    refine c_getI (pc := 127) 6 8 18 (by decide) (by decide) rfl (lt48 (by decide)) rfl lkX11_87 dX11_count_127 ?_
    obtain rfl := Option.some.inj hf
    exact o_ireturn (pc := 130) dX11_count_130 rfl (Nat.zero_le _) (Nat.zero_le _)
  have hf := it_f hf hx5
  by_cases hx6 : p0 = 5
  · have hf := it_t hf hx6
    refine o_tableIn (pc := 1) 131 dX11_count_1 (by rw [hx6] <;> decide) (by rw [hx6] <;> decide) (by rw [hx6] <;> rfl) rfl ?_
    refine o_aload_n (pc := 131) dX11_count_131 rfl ?_
    refine c_getI (pc := 132) 10 4 0 (by decide) (by decide) rfl (lt48 (by decide)) rfl lkX11_38 dX11_count_132 ?_
    obtain rfl := Option.some.inj hf
    exact o_ireturn (pc := 135) dX11_count_135 rfl (Nat.zero_le _) (Nat.zero_le _)
  have hf := it_f hf hx6
  by_cases hx7 : p0 = 6
  · have hf := it_t hf hx7
    refine o_tableIn (pc := 1) 136 dX11_count_1 (by rw [hx7] <;> decide) (by rw [hx7] <;> decide) (by rw [hx7] <;> rfl) rfl ?_
    refine o_aload_n (pc := 136) dX11_count_136 rfl ?_
    refine c_getR (pc := 137) 10 5 0 17 (by decide) (by decide) rfl (lt48 (by decide)) rfl rfl lkX11_45 dX11_count_137 ?_
    refine c_getI (pc := 140) 9 2 17 (by decide) (by decide) rfl (lt48 (by decide)) rfl lkX11_97 dX11_count_140 ?_
    obtain rfl := Option.some.inj hf
    exact o_ireturn (pc := 143) dX11_count_143 rfl (Nat.zero_le _) (Nat.zero_le _)
  have hf := it_f hf hx7
  by_cases hx8 : p0 = 7
  · have hf := it_t hf hx8
    refine o_tableIn (pc := 1) 144 dX11_count_1 (by rw [hx8] <;> decide) (by rw [hx8] <;> decide) (by rw [hx8] <;> rfl) rfl ?_
    refine o_aload_n (pc := 144) dX11_count_144 rfl ?_
    refine c_getR (pc := 145) 10 5 0 17 (by decide) (by decide) rfl (lt48 (by decide)) rfl rfl lkX11_45 dX11_count_145 ?_
    refine c_getR (pc := 148) 9 1 17 25 (by decide) (by decide) rfl (lt48 (by decide)) rfl rfl lkX11_104 dX11_count_148 ?_
    refine c_getR (pc := 151) 4 0 25 26 (by decide) (by decide) rfl (lt48 (by decide)) rfl rfl lkX11_108 dX11_count_151 ?_
    refine o_bipush (pc := 154) (v := 45) dX11_count_154 rfl ?_
    obtain ⟨hk9, hf⟩ := ck_elim hf
    refine c_iald (pc := 156) (lt48 (by decide)) rfl hk9 dX11_count_156 ?_
    obtain rfl := Option.some.inj hf
    exact o_ireturn (pc := 157) dX11_count_157 rfl (Nat.zero_le _) (Nat.zero_le _)
  have hf := it_f hf hx8
  by_cases hx10 : p0 = 8
  · have hf := it_t hf hx10
    refine o_tableIn (pc := 1) 158 dX11_count_1 (by rw [hx10] <;> decide) (by rw [hx10] <;> decide) (by rw [hx10] <;> rfl) rfl ?_
    refine o_aload_n (pc := 158) dX11_count_158 rfl ?_
    refine c_getR (pc := 159) 10 5 0 17 (by decide) (by decide) rfl (lt48 (by decide)) rfl rfl lkX11_45 dX11_count_159 ?_
    refine c_getR (pc := 162) 9 1 17 25 (by decide) (by decide) rfl (lt48 (by decide)) rfl rfl lkX11_104 dX11_count_162 ?_
    refine c_getR (pc := 165) 4 0 25 26 (by decide) (by decide) rfl (lt48 (by decide)) rfl rfl lkX11_108 dX11_count_165 ?_
    refine o_bipush (pc := 168) (v := 44) dX11_count_168 rfl ?_
    obtain ⟨hk11, hf⟩ := ck_elim hf
    refine c_iald (pc := 170) (lt48 (by decide)) rfl hk11 dX11_count_170 ?_
    obtain rfl := Option.some.inj hf
    exact o_ireturn (pc := 171) dX11_count_171 rfl (Nat.zero_le _) (Nat.zero_le _)
  have hf := it_f hf hx10
  by_cases hx12 : p0 = 9
  · have hf := it_t hf hx12
    refine o_tableIn (pc := 1) 172 dX11_count_1 (by rw [hx12] <;> decide) (by rw [hx12] <;> decide) (by rw [hx12] <;> rfl) rfl ?_
    refine o_aload_n (pc := 172) dX11_count_172 rfl ?_
    refine c_getR (pc := 173) 10 5 0 17 (by decide) (by decide) rfl (lt48 (by decide)) rfl rfl lkX11_45 dX11_count_173 ?_
    refine c_getR (pc := 176) 9 1 17 25 (by decide) (by decide) rfl (lt48 (by decide)) rfl rfl lkX11_104 dX11_count_176 ?_
    refine o_bipush (pc := 179) (v := 10) dX11_count_179 rfl ?_
    obtain ⟨q14, hk13, hf⟩ := bd_elim hf
    refine c_callV (pc := 181) 4 25 [.int 10] (by decide) (lt48 (by decide)) rfl dX11_count_181 (kX5_sumOfPeople_25 hk13) stX11_277 ⟨by decide, by decide, by decide, by decide⟩ ⟨rfl, rfl⟩ (Nat.le_of_ble_eq_true rfl) ?_
    show Rn g mdX11_count 184 [some (.ref 0), some (.int p0)] [.int q14] (cW t s) 0 0 (some (.int q)) (cW t s)
    obtain rfl := Option.some.inj hf
    exact o_ireturn (pc := 184) dX11_count_184 rfl (Nat.zero_le _) (Nat.zero_le _)
  have hf := it_f hf hx12
  by_cases hx15 : p0 = 10
  · have hf := it_t hf hx15
    refine o_tableIn (pc := 1) 185 dX11_count_1 (by rw [hx15] <;> decide) (by rw [hx15] <;> decide) (by rw [hx15] <;> rfl) rfl ?_
    refine o_aload_n (pc := 185) dX11_count_185 rfl ?_
    refine c_getR (pc := 186) 10 5 0 17 (by decide) (by decide) rfl (lt48 (by decide)) rfl rfl lkX11_45 dX11_count_186 ?_
    refine c_getR (pc := 189) 9 1 17 25 (by decide) (by decide) rfl (lt48 (by decide)) rfl rfl lkX11_104 dX11_count_189 ?_
    refine o_bipush (pc := 192) (v := 15) dX11_count_192 rfl ?_
    obtain ⟨q17, hk16, hf⟩ := bd_elim hf
    refine c_callV (pc := 194) 4 25 [.int 15] (by decide) (lt48 (by decide)) rfl dX11_count_194 (kX5_sumOfPeople_25 hk16) stX11_277 ⟨by decide, by decide, by decide, by decide⟩ ⟨rfl, rfl⟩ (Nat.le_of_ble_eq_true rfl) ?_
    show Rn g mdX11_count 197 [some (.ref 0), some (.int p0)] [.int q17] (cW t s) 0 0 (some (.int q)) (cW t s)
    obtain rfl := Option.some.inj hf
    exact o_ireturn (pc := 197) dX11_count_197 rfl (Nat.zero_le _) (Nat.zero_le _)
  have hf := it_f hf hx15
  by_cases hx18 : p0 = 11
  · have hf := it_t hf hx18
    refine o_tableIn (pc := 1) 198 dX11_count_1 (by rw [hx18] <;> decide) (by rw [hx18] <;> decide) (by rw [hx18] <;> rfl) rfl ?_
    refine o_aload_n (pc := 198) dX11_count_198 rfl ?_
    refine c_getR (pc := 199) 10 5 0 17 (by decide) (by decide) rfl (lt48 (by decide)) rfl rfl lkX11_45 dX11_count_199 ?_
    refine c_getI (pc := 202) 9 4 17 (by decide) (by decide) rfl (lt48 (by decide)) rfl lkX11_241 dX11_count_202 ?_
    obtain rfl := Option.some.inj hf
    exact o_ireturn (pc := 205) dX11_count_205 rfl (Nat.zero_le _) (Nat.zero_le _)
  have hf := it_f hf hx18
  by_cases hx19 : p0 = 12
  · have hf := it_t hf hx19
    refine o_tableIn (pc := 1) 206 dX11_count_1 (by rw [hx19] <;> decide) (by rw [hx19] <;> decide) (by rw [hx19] <;> rfl) rfl ?_
    refine o_aload_n (pc := 206) dX11_count_206 rfl ?_
    refine c_getR (pc := 207) 10 5 0 17 (by decide) (by decide) rfl (lt48 (by decide)) rfl rfl lkX11_45 dX11_count_207 ?_
    refine c_getI (pc := 210) 9 8 17 (by decide) (by decide) rfl (lt48 (by decide)) rfl lkX11_161 dX11_count_210 ?_
    obtain rfl := Option.some.inj hf
    exact o_ireturn (pc := 213) dX11_count_213 rfl (Nat.zero_le _) (Nat.zero_le _)
  have hf := it_f hf hx19
  by_cases hx20 : p0 = 13
  · have hf := it_t hf hx20
    refine o_tableIn (pc := 1) 214 dX11_count_1 (by rw [hx20] <;> decide) (by rw [hx20] <;> decide) (by rw [hx20] <;> rfl) rfl ?_
    refine o_aload_n (pc := 214) dX11_count_214 rfl ?_
    refine c_getR (pc := 215) 10 5 0 17 (by decide) (by decide) rfl (lt48 (by decide)) rfl rfl lkX11_45 dX11_count_215 ?_
    refine c_getI (pc := 218) 9 3 17 (by decide) (by decide) rfl (lt48 (by decide)) rfl lkX11_265 dX11_count_218 ?_
    obtain rfl := Option.some.inj hf
    exact o_ireturn (pc := 221) dX11_count_221 rfl (Nat.zero_le _) (Nat.zero_le _)
  have hf := it_f hf hx20
  by_cases hx21 : p0 = 14
  · have hf := it_t hf hx21
    refine o_tableIn (pc := 1) 222 dX11_count_1 (by rw [hx21] <;> decide) (by rw [hx21] <;> decide) (by rw [hx21] <;> rfl) rfl ?_
    refine o_aload_n (pc := 222) dX11_count_222 rfl ?_
    refine c_getR (pc := 223) 10 0 0 1 (by decide) (by decide) rfl (lt48 (by decide)) rfl rfl lkX11_10 dX11_count_223 ?_
    refine c_getI (pc := 226) 5 1 1 (by decide) (by decide) rfl (lt48 (by decide)) rfl lkX11_67 dX11_count_226 ?_
    obtain rfl := Option.some.inj hf
    exact o_ireturn (pc := 229) dX11_count_229 rfl (Nat.zero_le _) (Nat.zero_le _)
  have hf := it_f hf hx21
  refine o_tableOut (pc := 1) 230 dX11_count_1 (sw_out 0 14 (fun n hn => ?_)) rfl ?_
  · match n, hn with
    | 0, _ => exact sw_ne hx1 rfl
    | 1, _ => exact sw_ne hx2 rfl
    | 2, _ => exact sw_ne hx3 rfl
    | 3, _ => exact sw_ne hx4 rfl
    | 4, _ => exact sw_ne hx5 rfl
    | 5, _ => exact sw_ne hx6 rfl
    | 6, _ => exact sw_ne hx7 rfl
    | 7, _ => exact sw_ne hx8 rfl
    | 8, _ => exact sw_ne hx10 rfl
    | 9, _ => exact sw_ne hx12 rfl
    | 10, _ => exact sw_ne hx15 rfl
    | 11, _ => exact sw_ne hx18 rfl
    | 12, _ => exact sw_ne hx19 rfl
    | 13, _ => exact sw_ne hx20 rfl
    | 14, _ => exact sw_ne hx21 rfl
    | n + 15, h => exact absurd h (by omega)
  · refine o_iconst (pc := 230) (v := (-1)) dX11_count_230 rfl ?_
    obtain rfl := Option.some.inj hf
    exact o_ireturn (pc := 231) dX11_count_231 rfl (Nat.zero_le _) (Nat.zero_le _)
def fX10_copyFrom_Wh_Wh (a0 : Nat) (p0 : Nat) (s : ST) : Option (ST) :=
  (fX7_copyFrom_Tw_Tw (a0 + 1) (p0 + 1) s).bind (fun q2 => (fX5_copyFrom_St_St (a0 + 8) (p0 + 8) q2).bind (fun q4 => lt (si q4 a0 2 (gi q4 p0 2)) (fun s5 => lt (si s5 a0 3 (gi s5 p0 3)) (fun s6 => lt (si s6 a0 4 (gi s6 p0 4)) (fun s7 => ck (cpB 0 0 30 30 30) (lt (sAr s7 (a0 + 10) (va_cpy (s7.1 (p0 + 10)) (s7.1 (a0 + 10)) (ix 0) (ix 0) (ix 30))) (fun s9 => ck (cpB 0 0 920 920 920) (lt (sAr s9 (a0 + 11) (va_cpy (s9.1 (p0 + 11)) (s9.1 (a0 + 11)) (ix 0) (ix 0) (ix 920))) (fun s11 => lt (si s11 a0 7 (gi s11 p0 7)) (fun s12 => lt (si s12 a0 8 (gi s12 p0 8)) (fun s13 => some s13)))))))))))
set_option maxRecDepth 20000 in
theorem kX10_copyFrom_Wh_Wh {g : GX} {t : PH} {a0 : Nat} {p0 : Nat} {s : ST} {q : ST} (ha0 : isWh t a0) (hp0 : isWh t p0) (hf : fX10_copyFrom_Wh_Wh a0 p0 s = some q) : Cn g mdX10_copyFrom [.ref a0, .ref p0] (cW t s) none (cW t q) := by
  refine Cn.of (by decide) (Nat.le_of_ble_eq_true rfl) ?_
  show Rn g mdX10_copyFrom 0 [some (.ref a0), some (.ref p0)] [] (cW t s) 0 0 none (cW t q)
  unfold fX10_copyFrom_Wh_Wh at hf
  refine o_aload_n (pc := 0) dX10_copyFrom_0 rfl ?_
  refine c_getR (pc := 1) 9 0 a0 (a0 + 1) (by decide) (by decide) rfl (by have := ha0.1; omega) ha0.2.1 ((hR_cW ha0.2.1 (by decide)).trans ha0.2.2.1.1) lkX10_12 dX10_copyFrom_1 ?_
  refine o_aload_n (pc := 4) dX10_copyFrom_4 rfl ?_
  refine c_getR (pc := 5) 9 0 p0 (p0 + 1) (by decide) (by decide) rfl (by have := hp0.1; omega) hp0.2.1 ((hR_cW hp0.2.1 (by decide)).trans hp0.2.2.1.1) lkX10_12 dX10_copyFrom_5 ?_
  obtain ⟨q2, hk1, hf⟩ := bd_elim hf
  refine c_callV (pc := 8) 6 (a0 + 1) [.ref (p0 + 1)] (by decide) (by have := ha0.2.2.2.1.1; omega) ha0.2.2.2.1.2.1 dX10_copyFrom_8 (kX7_copyFrom_Tw_Tw ha0.2.2.2.1 hp0.2.2.2.1 hk1) stX10_48 ⟨by decide, by decide, by decide, by decide⟩ ⟨rfl, rfl⟩ (Nat.le_of_ble_eq_true rfl) ?_
  show Rn g mdX10_copyFrom 11 [some (.ref a0), some (.ref p0)] [] (cW t q2) 0 0 none (cW t q)
  refine o_aload_n (pc := 11) dX10_copyFrom_11 rfl ?_
  refine c_getR (pc := 12) 9 1 a0 (a0 + 8) (by decide) (by decide) rfl (by have := ha0.1; omega) ha0.2.1 ((hR_cW ha0.2.1 (by decide)).trans ha0.2.2.1.2.1) lkX10_21 dX10_copyFrom_12 ?_
  refine o_aload_n (pc := 15) dX10_copyFrom_15 rfl ?_
  refine c_getR (pc := 16) 9 1 p0 (p0 + 8) (by decide) (by decide) rfl (by have := hp0.1; omega) hp0.2.1 ((hR_cW hp0.2.1 (by decide)).trans hp0.2.2.1.2.1) lkX10_21 dX10_copyFrom_16 ?_
  obtain ⟨q4, hk3, hf⟩ := bd_elim hf
  refine c_callV (pc := 19) 4 (a0 + 8) [.ref (p0 + 8)] (by decide) (by have := ha0.2.2.2.2.1.1; omega) ha0.2.2.2.2.1.2.1 dX10_copyFrom_19 (kX5_copyFrom_St_St ha0.2.2.2.2.1 hp0.2.2.2.2.1 hk3) stX10_52 ⟨by decide, by decide, by decide, by decide⟩ ⟨rfl, rfl⟩ (Nat.le_of_ble_eq_true rfl) ?_
  show Rn g mdX10_copyFrom 22 [some (.ref a0), some (.ref p0)] [] (cW t q4) 0 0 none (cW t q)
  refine o_aload_n (pc := 22) dX10_copyFrom_22 rfl ?_
  refine o_aload_n (pc := 23) dX10_copyFrom_23 rfl ?_
  refine c_getI (pc := 24) 9 2 p0 (by decide) (by decide) rfl (by have := hp0.1; omega) hp0.2.1 lkX10_25 dX10_copyFrom_24 ?_
  refine c_putI (pc := 27) 9 2 a0 (by decide) (by decide) rfl rfl (by have := ha0.1; omega) ha0.2.1 lkX10_25 ⟨rfl, rfl⟩ dX10_copyFrom_27 ?_
  refine lz_s (cW t) hf (fun s5 hf => ?_)
  show Rn g mdX10_copyFrom 30 [some (.ref a0), some (.ref p0)] [] (cW t s5) 0 0 none (cW t q)
  refine o_aload_n (pc := 30) dX10_copyFrom_30 rfl ?_
  refine o_aload_n (pc := 31) dX10_copyFrom_31 rfl ?_
  refine c_getI (pc := 32) 9 3 p0 (by decide) (by decide) rfl (by have := hp0.1; omega) hp0.2.1 lkX10_29 dX10_copyFrom_32 ?_
  refine c_putI (pc := 35) 9 3 a0 (by decide) (by decide) rfl rfl (by have := ha0.1; omega) ha0.2.1 lkX10_29 ⟨rfl, rfl⟩ dX10_copyFrom_35 ?_
  refine lz_s (cW t) hf (fun s6 hf => ?_)
  show Rn g mdX10_copyFrom 38 [some (.ref a0), some (.ref p0)] [] (cW t s6) 0 0 none (cW t q)
  refine o_aload_n (pc := 38) dX10_copyFrom_38 rfl ?_
  refine o_aload_n (pc := 39) dX10_copyFrom_39 rfl ?_
  refine c_getI (pc := 40) 9 4 p0 (by decide) (by decide) rfl (by have := hp0.1; omega) hp0.2.1 lkX10_32 dX10_copyFrom_40 ?_
  refine c_putI (pc := 43) 9 4 a0 (by decide) (by decide) rfl rfl (by have := ha0.1; omega) ha0.2.1 lkX10_32 ⟨rfl, rfl⟩ dX10_copyFrom_43 ?_
  refine lz_s (cW t) hf (fun s7 hf => ?_)
  show Rn g mdX10_copyFrom 46 [some (.ref a0), some (.ref p0)] [] (cW t s7) 0 0 none (cW t q)
  refine o_aload_n (pc := 46) dX10_copyFrom_46 rfl ?_
  refine c_getR (pc := 47) 9 5 p0 (p0 + 10) (by decide) (by decide) rfl (by have := hp0.1; omega) hp0.2.1 ((hR_cW hp0.2.1 (by decide)).trans hp0.2.2.1.2.2.1) lkX10_35 dX10_copyFrom_47 ?_
  refine o_iconst (pc := 50) (v := 0) dX10_copyFrom_50 rfl ?_
  refine o_aload_n (pc := 51) dX10_copyFrom_51 rfl ?_
  refine c_getR (pc := 52) 9 5 a0 (a0 + 10) (by decide) (by decide) rfl (by have := ha0.1; omega) ha0.2.1 ((hR_cW ha0.2.1 (by decide)).trans ha0.2.2.1.2.2.1) lkX10_35 dX10_copyFrom_52 ?_
  refine o_iconst (pc := 55) (v := 0) dX10_copyFrom_55 rfl ?_
  refine o_bipush (pc := 56) (v := 30) dX10_copyFrom_56 rfl ?_
  obtain ⟨hk8, hf⟩ := ck_elim hf
  refine c_copy (pc := 58) (p0 + 10) (a0 + 10) 30 30 lmX10_55 dX10_copyFrom_58 (by decide) (Nat.le_of_ble_eq_true rfl) (by have := hp0.1; omega) hp0.2.2.2.2.2.1 (by have := ha0.1; omega) ha0.2.2.2.2.2.1 hk8 ?_
  refine lz_s (cW t) hf (fun s9 hf => ?_)
  show Rn g mdX10_copyFrom 61 [some (.ref a0), some (.ref p0)] [] (cW t s9) 0 0 none (cW t q)
  refine o_aload_n (pc := 61) dX10_copyFrom_61 rfl ?_
  refine c_getR (pc := 62) 9 6 p0 (p0 + 11) (by decide) (by decide) rfl (by have := hp0.1; omega) hp0.2.1 ((hR_cW hp0.2.1 (by decide)).trans hp0.2.2.1.2.2.2) lkX10_39 dX10_copyFrom_62 ?_
  refine o_iconst (pc := 65) (v := 0) dX10_copyFrom_65 rfl ?_
  refine o_aload_n (pc := 66) dX10_copyFrom_66 rfl ?_
  refine c_getR (pc := 67) 9 6 a0 (a0 + 11) (by decide) (by decide) rfl (by have := ha0.1; omega) ha0.2.1 ((hR_cW ha0.2.1 (by decide)).trans ha0.2.2.1.2.2.2) lkX10_39 dX10_copyFrom_67 ?_
  refine o_iconst (pc := 70) (v := 0) dX10_copyFrom_70 rfl ?_
  refine o_sipush (pc := 71) (v := 920) dX10_copyFrom_71 rfl ?_
  obtain ⟨hk10, hf⟩ := ck_elim hf
  refine c_copy (pc := 74) (p0 + 11) (a0 + 11) 920 920 lmX10_55 dX10_copyFrom_74 (by decide) (Nat.le_of_ble_eq_true rfl) (by have := hp0.1; omega) hp0.2.2.2.2.2.2 (by have := ha0.1; omega) ha0.2.2.2.2.2.2 hk10 ?_
  refine lz_s (cW t) hf (fun s11 hf => ?_)
  show Rn g mdX10_copyFrom 77 [some (.ref a0), some (.ref p0)] [] (cW t s11) 0 0 none (cW t q)
  refine o_aload_n (pc := 77) dX10_copyFrom_77 rfl ?_
  refine o_aload_n (pc := 78) dX10_copyFrom_78 rfl ?_
  refine c_getI (pc := 79) 9 7 p0 (by decide) (by decide) rfl (by have := hp0.1; omega) hp0.2.1 lkX10_42 dX10_copyFrom_79 ?_
  refine c_putI (pc := 82) 9 7 a0 (by decide) (by decide) rfl rfl (by have := ha0.1; omega) ha0.2.1 lkX10_42 ⟨rfl, rfl⟩ dX10_copyFrom_82 ?_
  refine lz_s (cW t) hf (fun s12 hf => ?_)
  show Rn g mdX10_copyFrom 85 [some (.ref a0), some (.ref p0)] [] (cW t s12) 0 0 none (cW t q)
  refine o_aload_n (pc := 85) dX10_copyFrom_85 rfl ?_
  refine o_aload_n (pc := 86) dX10_copyFrom_86 rfl ?_
  refine c_getI (pc := 87) 9 8 p0 (by decide) (by decide) rfl (by have := hp0.1; omega) hp0.2.1 lkX10_45 dX10_copyFrom_87 ?_
  refine c_putI (pc := 90) 9 8 a0 (by decide) (by decide) rfl rfl (by have := ha0.1; omega) ha0.2.1 lkX10_45 ⟨rfl, rfl⟩ dX10_copyFrom_90 ?_
  refine lz_s (cW t) hf (fun s13 hf => ?_)
  show Rn g mdX10_copyFrom 93 [some (.ref a0), some (.ref p0)] [] (cW t s13) 0 0 none (cW t q)
  obtain rfl := Option.some.inj hf
  exact o_return (pc := 93) dX10_copyFrom_93 rfl (Nat.zero_le _) (Nat.zero_le _)
def fX11_back (p0 : Int32) (t : PH) (s : ST) : Option (Int32 × ST) :=
  (if p0 < 0 then some false else if 4 ≤ p0 then some false else some true : Option Bool).bind (fun b1 => if b1 = true then ck (inb p0 4) (om (rR t 29 (ix p0)) (some ((-1), s)) (fun q5 => ck (inb p0 4) (om (rR t 29 (ix p0)) none (fun q8 => ck (decide (isWh t q8)) ((fX10_copyFrom_Wh_Wh 17 q8 s).bind (fun q12 => ck (inb 45 46) (some (gi q12 26 (ix 45), q12)))))))) else some ((-1), s))
set_option maxRecDepth 20000 in
theorem kX11_back {g : GX} {t : PH} {p0 : Int32} {s : ST} {q : Int32 × ST} (hf : fX11_back p0 t s = some q) : Cn g mdX11_back [.ref 0, .int p0] (cW t s) (some (.int q.1)) (cW t q.2) := by
  refine Cn.of (by decide) (Nat.le_of_ble_eq_true rfl) ?_
  show Rn g mdX11_back 0 [some (.ref 0), some (.int p0)] [] (cW t s) 0 0 (some (.int q.1)) (cW t q.2)
  unfold fX11_back at hf
  refine o_iload_n (pc := 0) dX11_back_0 rfl ?_
  obtain ⟨b1, hr2, hf⟩ := bd_elim hf
  have KB3 : (b1 = true → Rn g mdX11_back 9 [some (.ref 0), some (.int p0)] [] (cW t s) 0 0 (some (.int q.1)) (cW t q.2)) ∧ (¬ b1 = true → Rn g mdX11_back 18 [some (.ref 0), some (.int p0)] [] (cW t s) 0 0 (some (.int q.1)) (cW t q.2)) := by
    refine ⟨fun hc => ?_, fun hc => ?_⟩
    · have hf := it_t hf hc
      refine o_aload_n (pc := 9) dX11_back_9 rfl ?_
      refine c_getR (pc := 10) 10 6 0 29 (by decide) (by decide) rfl (lt48 (by decide)) rfl rfl lkX11_49 dX11_back_10 ?_
      refine o_iload_n (pc := 13) dX11_back_13 rfl ?_
      obtain ⟨hk4, hf⟩ := ck_elim hf
      refine c_aald (pc := 14) 29 4 5 (by decide) hk4 dX11_back_14 ?_
      refine o_ifnonnullV (pc := 15) (rR t 29 (ix p0)) 20 dX11_back_15 rfl (fun q5 hq6 => ?_) (fun hq6 => ?_)
      · have hf := om_s hf hq6
        refine o_aload_n (pc := 20) dX11_back_20 rfl ?_
        refine c_getR (pc := 21) 10 5 0 17 (by decide) (by decide) rfl (lt48 (by decide)) rfl rfl lkX11_45 dX11_back_21 ?_
        refine o_aload_n (pc := 24) dX11_back_24 rfl ?_
        refine c_getR (pc := 25) 10 6 0 29 (by decide) (by decide) rfl (lt48 (by decide)) rfl rfl lkX11_49 dX11_back_25 ?_
        refine o_iload_n (pc := 28) dX11_back_28 rfl ?_
        obtain ⟨hk7, hf⟩ := ck_elim hf
        refine c_aald (pc := 29) 29 4 5 (by decide) hk7 dX11_back_29 ?_
        obtain ⟨q8, hq9, hf⟩ := om_f hf
        rw [hq9]
        obtain ⟨hk10, hf⟩ := ck_elim hf
        have hk10 := of_decide_eq_true hk10
        obtain ⟨q12, hk11, hf⟩ := bd_elim hf
        refine c_callV (pc := 30) 9 17 [.ref q8] (by decide) (lt48 (by decide)) rfl dX11_back_30 (kX10_copyFrom_Wh_Wh (wh17 t) hk10 hk11) stX11_280 ⟨by decide, by decide, by decide, by decide⟩ ⟨rfl, rfl⟩ (Nat.le_of_ble_eq_true rfl) ?_
        show Rn g mdX11_back 33 [some (.ref 0), some (.int p0)] [] (cW t q12) 0 0 (some (.int q.1)) (cW t q.2)
        refine o_aload_n (pc := 33) dX11_back_33 rfl ?_
        refine c_getR (pc := 34) 10 5 0 17 (by decide) (by decide) rfl (lt48 (by decide)) rfl rfl lkX11_45 dX11_back_34 ?_
        refine c_getR (pc := 37) 9 1 17 25 (by decide) (by decide) rfl (lt48 (by decide)) rfl rfl lkX11_104 dX11_back_37 ?_
        refine c_getR (pc := 40) 4 0 25 26 (by decide) (by decide) rfl (lt48 (by decide)) rfl rfl lkX11_108 dX11_back_40 ?_
        refine o_bipush (pc := 43) (v := 45) dX11_back_43 rfl ?_
        obtain ⟨hk13, hf⟩ := ck_elim hf
        refine c_iald (pc := 45) (lt48 (by decide)) rfl hk13 dX11_back_45 ?_
        obtain rfl := Option.some.inj hf
        exact o_ireturn (pc := 46) dX11_back_46 rfl (Nat.zero_le _) (Nat.zero_le _)
      · have hf := om_n hf hq6
        refine o_iconst (pc := 18) (v := (-1)) dX11_back_18 rfl ?_
        obtain rfl := Option.some.inj hf
        exact o_ireturn (pc := 19) dX11_back_19 rfl (Nat.zero_le _) (Nat.zero_le _)
    · have hf := it_f hf hc
      refine o_iconst (pc := 18) (v := (-1)) dX11_back_18 rfl ?_
      obtain rfl := Option.some.inj hf
      exact o_ireturn (pc := 19) dX11_back_19 rfl (Nat.zero_le _) (Nat.zero_le _)
  clear hf
  refine o_if_lt (pc := 1) 18 dX11_back_1 rfl (fun hc => ?_) (fun hc => ?_)
  · have hr2 := it_t hr2 hc
    obtain rfl := Option.some.inj hr2
    exact KB3.2 (by decide)
  · have hr2 := it_f hr2 hc
    refine o_iload_n (pc := 4) dX11_back_4 rfl ?_
    refine o_iconst (pc := 5) (v := 4) dX11_back_5 rfl ?_
    refine o_icmp_ge (pc := 6) 18 dX11_back_6 rfl (fun hc => ?_) (fun hc => ?_)
    · have hr2 := it_t hr2 hc
      obtain rfl := Option.some.inj hr2
      exact KB3.2 (by decide)
    · have hr2 := it_f hr2 hc
      obtain rfl := Option.some.inj hr2
      exact KB3.1 rfl
def fX3_letWait (p0 : Int32) (s : ST) : Option (ST) :=
  (if 64 ≤ (gi s 11 7) then some s else ck (inb (gi s 11 7) 64) (lt (si s 15 (ix (gi s 11 7)) p0) (fun s5 => lt (si s5 11 7 ((gi s5 11 7) + 1)) (fun s6 => some s6))) : Option (ST)).bind (fun w1 => some w1)
set_option maxRecDepth 20000 in
theorem kX3_letWait {g : GX} {t : PH} {p0 : Int32} {s : ST} {q : ST} (hf : fX3_letWait p0 s = some q) : Cn g mdX3_letWait [.ref 11, .int p0] (cW t s) none (cW t q) := by
  refine Cn.of (by decide) (Nat.le_of_ble_eq_true rfl) ?_
  show Rn g mdX3_letWait 0 [some (.ref 11), some (.int p0)] [] (cW t s) 0 0 none (cW t q)
  unfold fX3_letWait at hf
  refine o_aload_n (pc := 0) dX3_letWait_0 rfl ?_
  refine c_getI (pc := 1) 3 7 11 (by decide) (by decide) rfl (lt48 (by decide)) rfl lkX3_31 dX3_letWait_1 ?_
  refine o_bipush (pc := 4) (v := 64) dX3_letWait_4 rfl ?_
  obtain ⟨w1, hr2, hf⟩ := bd_elim hf
  have K3 : Rn g mdX3_letWait 29 [none, none] [] (cW t w1) 0 0 none (cW t q) := by
    obtain rfl := Option.some.inj hf
    exact o_return (pc := 29) dX3_letWait_29 rfl (Nat.zero_le _) (Nat.zero_le _)
  clear hf
  refine o_icmp_ge (pc := 6) 29 dX3_letWait_6 rfl (fun hc => ?_) (fun hc => ?_)
  · have hr2 := it_t hr2 hc
    obtain rfl := Option.some.inj hr2
    refine o_keep [false, false] ?_
    exact K3
  · have hr2 := it_f hr2 hc
    refine o_aload_n (pc := 9) dX3_letWait_9 rfl ?_
    refine c_getR (pc := 10) 3 6 11 15 (by decide) (by decide) rfl (lt48 (by decide)) rfl rfl lkX3_28 dX3_letWait_10 ?_
    refine o_aload_n (pc := 13) dX3_letWait_13 rfl ?_
    refine c_getI (pc := 14) 3 7 11 (by decide) (by decide) rfl (lt48 (by decide)) rfl lkX3_31 dX3_letWait_14 ?_
    refine o_iload_n (pc := 17) dX3_letWait_17 rfl ?_
    obtain ⟨hk4, hr2⟩ := ck_elim hr2
    refine c_iast (pc := 18) (lt48 (by decide)) rfl hk4 dX3_letWait_18 ?_
    refine lz_s (cW t) hr2 (fun s5 hr2 => ?_)
    show Rn g mdX3_letWait 19 [some (.ref 11), some (.int p0)] [] (cW t s5) 0 0 none (cW t q)
    refine o_aload_n (pc := 19) dX3_letWait_19 rfl ?_
    refine o_dup (pc := 20) dX3_letWait_20 rfl ?_
    refine c_getI (pc := 21) 3 7 11 (by decide) (by decide) rfl (lt48 (by decide)) rfl lkX3_31 dX3_letWait_21 ?_
    refine o_iconst (pc := 24) (v := 1) dX3_letWait_24 rfl ?_
    refine o_iadd (pc := 25) dX3_letWait_25 ?_
    refine c_putI (pc := 26) 3 7 11 (by decide) (by decide) rfl rfl (lt48 (by decide)) rfl lkX3_31 ⟨rfl, rfl⟩ dX3_letWait_26 ?_
    refine lz_s (cW t) hr2 (fun s6 hr2 => ?_)
    show Rn g mdX3_letWait 29 [some (.ref 11), some (.int p0)] [] (cW t s6) 0 0 none (cW t q)
    obtain rfl := Option.some.inj hr2
    refine o_keep [false, false] ?_
    exact K3
def fX3_goDeeper (p0 : Int32) (s : ST) : Option (ST) :=
  if (gi s 11 9) < 10 then lt (si s 11 9 ((gi s 11 9) + 1)) (fun s1 => (if p0 = 15 then some 1 else some 0 : Option (Int32)).bind (fun w2 => lt (si s1 11 10 ((gi s1 11 10) + w2)) (fun s5 => (fX3_letWait p0 s5).bind (fun q7 => some q7)))) else (fX6_blame 2 s).bind (fun q9 => some q9)
set_option maxRecDepth 20000 in
theorem kX3_goDeeper {g : GX} {t : PH} {p0 : Int32} {s : ST} {q : ST} (hf : fX3_goDeeper p0 s = some q) : Cn g mdX3_goDeeper [.ref 11, .int p0] (cW t s) none (cW t q) := by
  refine Cn.of (by decide) (Nat.le_of_ble_eq_true rfl) ?_
  show Rn g mdX3_goDeeper 0 [some (.ref 11), some (.int p0)] [] (cW t s) 0 0 none (cW t q)
  unfold fX3_goDeeper at hf
  refine o_aload_n (pc := 0) dX3_goDeeper_0 rfl ?_
  refine c_getI (pc := 1) 3 9 11 (by decide) (by decide) rfl (lt48 (by decide)) rfl lkX3_37 dX3_goDeeper_1 ?_
  refine o_bipush (pc := 4) (v := 10) dX3_goDeeper_4 rfl ?_
  refine o_icmp_lt (pc := 6) 18 dX3_goDeeper_6 rfl (fun hc => ?_) (fun hc => ?_)
  · have hf := it_t hf hc
    refine o_aload_n (pc := 18) dX3_goDeeper_18 rfl ?_
    refine o_dup (pc := 19) dX3_goDeeper_19 rfl ?_
    refine c_getI (pc := 20) 3 9 11 (by decide) (by decide) rfl (lt48 (by decide)) rfl lkX3_37 dX3_goDeeper_20 ?_
    refine o_iconst (pc := 23) (v := 1) dX3_goDeeper_23 rfl ?_
    refine o_iadd (pc := 24) dX3_goDeeper_24 ?_
    refine c_putI (pc := 25) 3 9 11 (by decide) (by decide) rfl rfl (lt48 (by decide)) rfl lkX3_37 ⟨rfl, rfl⟩ dX3_goDeeper_25 ?_
    refine lz_s (cW t) hf (fun s1 hf => ?_)
    show Rn g mdX3_goDeeper 28 [some (.ref 11), some (.int p0)] [] (cW t s1) 0 0 none (cW t q)
    refine o_aload_n (pc := 28) dX3_goDeeper_28 rfl ?_
    refine o_dup (pc := 29) dX3_goDeeper_29 rfl ?_
    refine c_getI (pc := 30) 3 10 11 (by decide) (by decide) rfl (lt48 (by decide)) rfl lkX3_40 dX3_goDeeper_30 ?_
    refine o_iload_n (pc := 33) dX3_goDeeper_33 rfl ?_
    refine o_bipush (pc := 34) (v := 15) dX3_goDeeper_34 rfl ?_
    obtain ⟨w2, hr3, hf⟩ := bd_elim hf
    have K4 : Rn g mdX3_goDeeper 44 [some (.ref 11), some (.int p0)] [.int w2, .int (gi s1 11 10), .ref 11] (cW t s1) 0 0 none (cW t q) := by
      refine o_iadd (pc := 44) dX3_goDeeper_44 ?_
      refine c_putI (pc := 45) 3 10 11 (by decide) (by decide) rfl rfl (lt48 (by decide)) rfl lkX3_40 ⟨rfl, rfl⟩ dX3_goDeeper_45 ?_
      refine lz_s (cW t) hf (fun s5 hf => ?_)
      show Rn g mdX3_goDeeper 48 [some (.ref 11), some (.int p0)] [] (cW t s5) 0 0 none (cW t q)
      refine o_aload_n (pc := 48) dX3_goDeeper_48 rfl ?_
      refine o_iload_n (pc := 49) dX3_goDeeper_49 rfl ?_
      obtain ⟨q7, hk6, hf⟩ := bd_elim hf
      refine c_callV (pc := 50) 3 11 [.int p0] (by decide) (lt48 (by decide)) rfl dX3_goDeeper_50 (kX3_letWait hk6) stX3_107 ⟨by decide, by decide, by decide, by decide⟩ ⟨rfl, rfl⟩ (Nat.le_of_ble_eq_true rfl) ?_
      show Rn g mdX3_goDeeper 53 [some (.ref 11), some (.int p0)] [] (cW t q7) 0 0 none (cW t q)
      obtain rfl := Option.some.inj hf
      exact o_return (pc := 53) dX3_goDeeper_53 rfl (Nat.zero_le _) (Nat.zero_le _)
    clear hf
    refine o_icmp_ne (pc := 36) 43 dX3_goDeeper_36 rfl (fun hc => ?_) (fun hc => ?_)
    · have hr3 := it_f hr3 hc
      refine o_iconst (pc := 43) (v := 0) dX3_goDeeper_43 rfl ?_
      obtain rfl := Option.some.inj hr3
      exact K4
    · have hr3 := it_t hr3 hc
      refine o_iconst (pc := 39) (v := 1) dX3_goDeeper_39 rfl ?_
      refine o_goto (pc := 40) 44 dX3_goDeeper_40 rfl ?_
      obtain rfl := Option.some.inj hr3
      exact K4
  · have hf := it_f hf hc
    refine o_aload_n (pc := 9) dX3_goDeeper_9 rfl ?_
    refine c_getR (pc := 10) 3 0 11 1 (by decide) (by decide) rfl (lt48 (by decide)) rfl rfl lkX3_49 dX3_goDeeper_10 ?_
    refine o_iconst (pc := 13) (v := 2) dX3_goDeeper_13 rfl ?_
    obtain ⟨q9, hk8, hf⟩ := bd_elim hf
    refine c_callV (pc := 14) 5 1 [.int 2] (by decide) (lt48 (by decide)) rfl dX3_goDeeper_14 (kX6_blame hk8) stX3_93 ⟨by decide, by decide, by decide, by decide⟩ ⟨rfl, rfl⟩ (Nat.le_of_ble_eq_true rfl) ?_
    show Rn g mdX3_goDeeper 17 [some (.ref 11), some (.int p0)] [] (cW t q9) 0 0 none (cW t q)
    obtain rfl := Option.some.inj hf
    exact o_return (pc := 17) dX3_goDeeper_17 rfl (Nat.zero_le _) (Nat.zero_le _)
def fX4_nameOf (p0 : Int32) (s : ST) : Option (Nat) :=
  if p0 = 0 then some 1000007 else if p0 = 1 then some 1000008 else if p0 = 2 then some 1000009 else if p0 = 3 then some 1000010 else if p0 = 4 then some 1000011 else if p0 = 5 then some 1000012 else if p0 = 6 then some 1000013 else if p0 = 7 then some 1000014 else if p0 = 8 then some 1000015 else if p0 = 9 then some 1000016 else if p0 = 10 then some 1000017 else if p0 = 11 then some 1000018 else if p0 = 12 then some 1000019 else some 1000020
set_option maxRecDepth 20000 in
theorem kX4_nameOf {g : GX} {t : PH} {p0 : Int32} {s : ST} {q : Nat} (hf : fX4_nameOf p0 s = some q) : Cn g mdX4_nameOf [.int p0] (cW t s) (some (.ref q)) (cW t s) := by
  refine Cn.of (by decide) (Nat.le_of_ble_eq_true rfl) ?_
  show Rn g mdX4_nameOf 0 [some (.int p0)] [] (cW t s) 0 0 (some (.ref q)) (cW t s)
  unfold fX4_nameOf at hf
  refine o_iload_n (pc := 0) dX4_nameOf_0 rfl ?_
  by_cases hx1 : p0 = 0
  · have hf := it_t hf hx1
    refine o_tableIn (pc := 1) 68 dX4_nameOf_1 (by rw [hx1] <;> decide) (by rw [hx1] <;> decide) (by rw [hx1] <;> rfl) rfl ?_
    refine o_ldcS (pc := 68) (i := 7) dX4_nameOf_68 rfl rfl rfl ?_
    show Rn g mdX4_nameOf 70 [some (.int p0)] [.ref 1000007] (cW t s) 0 0 (some (.ref q)) (cW t s)
    obtain rfl := Option.some.inj hf
    exact o_areturn (pc := 70) dX4_nameOf_70 rfl (Or.inl ⟨_, rfl⟩) (Or.inr ⟨_, rfl⟩) (Nat.zero_le _) (Nat.zero_le _)
  have hf := it_f hf hx1
  by_cases hx2 : p0 = 1
  · have hf := it_t hf hx2
    refine o_tableIn (pc := 1) 71 dX4_nameOf_1 (by rw [hx2] <;> decide) (by rw [hx2] <;> decide) (by rw [hx2] <;> rfl) rfl ?_
    refine o_ldcS (pc := 71) (i := 8) dX4_nameOf_71 rfl rfl rfl ?_
    show Rn g mdX4_nameOf 73 [some (.int p0)] [.ref 1000008] (cW t s) 0 0 (some (.ref q)) (cW t s)
    obtain rfl := Option.some.inj hf
    exact o_areturn (pc := 73) dX4_nameOf_73 rfl (Or.inl ⟨_, rfl⟩) (Or.inr ⟨_, rfl⟩) (Nat.zero_le _) (Nat.zero_le _)
  have hf := it_f hf hx2
  by_cases hx3 : p0 = 2
  · have hf := it_t hf hx3
    refine o_tableIn (pc := 1) 74 dX4_nameOf_1 (by rw [hx3] <;> decide) (by rw [hx3] <;> decide) (by rw [hx3] <;> rfl) rfl ?_
    refine o_ldcS (pc := 74) (i := 9) dX4_nameOf_74 rfl rfl rfl ?_
    show Rn g mdX4_nameOf 76 [some (.int p0)] [.ref 1000009] (cW t s) 0 0 (some (.ref q)) (cW t s)
    obtain rfl := Option.some.inj hf
    exact o_areturn (pc := 76) dX4_nameOf_76 rfl (Or.inl ⟨_, rfl⟩) (Or.inr ⟨_, rfl⟩) (Nat.zero_le _) (Nat.zero_le _)
  have hf := it_f hf hx3
  by_cases hx4 : p0 = 3
  · have hf := it_t hf hx4
    refine o_tableIn (pc := 1) 77 dX4_nameOf_1 (by rw [hx4] <;> decide) (by rw [hx4] <;> decide) (by rw [hx4] <;> rfl) rfl ?_
    refine o_ldcS (pc := 77) (i := 10) dX4_nameOf_77 rfl rfl rfl ?_
    show Rn g mdX4_nameOf 79 [some (.int p0)] [.ref 1000010] (cW t s) 0 0 (some (.ref q)) (cW t s)
    obtain rfl := Option.some.inj hf
    exact o_areturn (pc := 79) dX4_nameOf_79 rfl (Or.inl ⟨_, rfl⟩) (Or.inr ⟨_, rfl⟩) (Nat.zero_le _) (Nat.zero_le _)
  have hf := it_f hf hx4
  by_cases hx5 : p0 = 4
  · have hf := it_t hf hx5
    refine o_tableIn (pc := 1) 80 dX4_nameOf_1 (by rw [hx5] <;> decide) (by rw [hx5] <;> decide) (by rw [hx5] <;> rfl) rfl ?_
    refine o_ldcS (pc := 80) (i := 11) dX4_nameOf_80 rfl rfl rfl ?_
    show Rn g mdX4_nameOf 82 [some (.int p0)] [.ref 1000011] (cW t s) 0 0 (some (.ref q)) (cW t s)
    obtain rfl := Option.some.inj hf
    exact o_areturn (pc := 82) dX4_nameOf_82 rfl (Or.inl ⟨_, rfl⟩) (Or.inr ⟨_, rfl⟩) (Nat.zero_le _) (Nat.zero_le _)
  have hf := it_f hf hx5
  by_cases hx6 : p0 = 5
  · have hf := it_t hf hx6
    refine o_tableIn (pc := 1) 83 dX4_nameOf_1 (by rw [hx6] <;> decide) (by rw [hx6] <;> decide) (by rw [hx6] <;> rfl) rfl ?_
    refine o_ldcS (pc := 83) (i := 12) dX4_nameOf_83 rfl rfl rfl ?_
    show Rn g mdX4_nameOf 85 [some (.int p0)] [.ref 1000012] (cW t s) 0 0 (some (.ref q)) (cW t s)
    obtain rfl := Option.some.inj hf
    exact o_areturn (pc := 85) dX4_nameOf_85 rfl (Or.inl ⟨_, rfl⟩) (Or.inr ⟨_, rfl⟩) (Nat.zero_le _) (Nat.zero_le _)
  have hf := it_f hf hx6
  by_cases hx7 : p0 = 6
  · have hf := it_t hf hx7
    refine o_tableIn (pc := 1) 86 dX4_nameOf_1 (by rw [hx7] <;> decide) (by rw [hx7] <;> decide) (by rw [hx7] <;> rfl) rfl ?_
    refine o_ldcS (pc := 86) (i := 13) dX4_nameOf_86 rfl rfl rfl ?_
    show Rn g mdX4_nameOf 88 [some (.int p0)] [.ref 1000013] (cW t s) 0 0 (some (.ref q)) (cW t s)
    obtain rfl := Option.some.inj hf
    exact o_areturn (pc := 88) dX4_nameOf_88 rfl (Or.inl ⟨_, rfl⟩) (Or.inr ⟨_, rfl⟩) (Nat.zero_le _) (Nat.zero_le _)
  have hf := it_f hf hx7
  by_cases hx8 : p0 = 7
  · have hf := it_t hf hx8
    refine o_tableIn (pc := 1) 89 dX4_nameOf_1 (by rw [hx8] <;> decide) (by rw [hx8] <;> decide) (by rw [hx8] <;> rfl) rfl ?_
    refine o_ldcS (pc := 89) (i := 14) dX4_nameOf_89 rfl rfl rfl ?_
    show Rn g mdX4_nameOf 91 [some (.int p0)] [.ref 1000014] (cW t s) 0 0 (some (.ref q)) (cW t s)
    obtain rfl := Option.some.inj hf
    exact o_areturn (pc := 91) dX4_nameOf_91 rfl (Or.inl ⟨_, rfl⟩) (Or.inr ⟨_, rfl⟩) (Nat.zero_le _) (Nat.zero_le _)
  have hf := it_f hf hx8
  by_cases hx9 : p0 = 8
  · have hf := it_t hf hx9
    refine o_tableIn (pc := 1) 92 dX4_nameOf_1 (by rw [hx9] <;> decide) (by rw [hx9] <;> decide) (by rw [hx9] <;> rfl) rfl ?_
    refine o_ldcS (pc := 92) (i := 15) dX4_nameOf_92 rfl rfl rfl ?_
    show Rn g mdX4_nameOf 94 [some (.int p0)] [.ref 1000015] (cW t s) 0 0 (some (.ref q)) (cW t s)
    obtain rfl := Option.some.inj hf
    exact o_areturn (pc := 94) dX4_nameOf_94 rfl (Or.inl ⟨_, rfl⟩) (Or.inr ⟨_, rfl⟩) (Nat.zero_le _) (Nat.zero_le _)
  have hf := it_f hf hx9
  by_cases hx10 : p0 = 9
  · have hf := it_t hf hx10
    refine o_tableIn (pc := 1) 95 dX4_nameOf_1 (by rw [hx10] <;> decide) (by rw [hx10] <;> decide) (by rw [hx10] <;> rfl) rfl ?_
    refine o_ldcS (pc := 95) (i := 16) dX4_nameOf_95 rfl rfl rfl ?_
    show Rn g mdX4_nameOf 97 [some (.int p0)] [.ref 1000016] (cW t s) 0 0 (some (.ref q)) (cW t s)
    obtain rfl := Option.some.inj hf
    exact o_areturn (pc := 97) dX4_nameOf_97 rfl (Or.inl ⟨_, rfl⟩) (Or.inr ⟨_, rfl⟩) (Nat.zero_le _) (Nat.zero_le _)
  have hf := it_f hf hx10
  by_cases hx11 : p0 = 10
  · have hf := it_t hf hx11
    refine o_tableIn (pc := 1) 98 dX4_nameOf_1 (by rw [hx11] <;> decide) (by rw [hx11] <;> decide) (by rw [hx11] <;> rfl) rfl ?_
    refine o_ldcS (pc := 98) (i := 17) dX4_nameOf_98 rfl rfl rfl ?_
    show Rn g mdX4_nameOf 100 [some (.int p0)] [.ref 1000017] (cW t s) 0 0 (some (.ref q)) (cW t s)
    obtain rfl := Option.some.inj hf
    exact o_areturn (pc := 100) dX4_nameOf_100 rfl (Or.inl ⟨_, rfl⟩) (Or.inr ⟨_, rfl⟩) (Nat.zero_le _) (Nat.zero_le _)
  have hf := it_f hf hx11
  by_cases hx12 : p0 = 11
  · have hf := it_t hf hx12
    refine o_tableIn (pc := 1) 101 dX4_nameOf_1 (by rw [hx12] <;> decide) (by rw [hx12] <;> decide) (by rw [hx12] <;> rfl) rfl ?_
    refine o_ldcS (pc := 101) (i := 18) dX4_nameOf_101 rfl rfl rfl ?_
    show Rn g mdX4_nameOf 103 [some (.int p0)] [.ref 1000018] (cW t s) 0 0 (some (.ref q)) (cW t s)
    obtain rfl := Option.some.inj hf
    exact o_areturn (pc := 103) dX4_nameOf_103 rfl (Or.inl ⟨_, rfl⟩) (Or.inr ⟨_, rfl⟩) (Nat.zero_le _) (Nat.zero_le _)
  have hf := it_f hf hx12
  by_cases hx13 : p0 = 12
  · have hf := it_t hf hx13
    refine o_tableIn (pc := 1) 104 dX4_nameOf_1 (by rw [hx13] <;> decide) (by rw [hx13] <;> decide) (by rw [hx13] <;> rfl) rfl ?_
    refine o_ldcS (pc := 104) (i := 19) dX4_nameOf_104 rfl rfl rfl ?_
    show Rn g mdX4_nameOf 106 [some (.int p0)] [.ref 1000019] (cW t s) 0 0 (some (.ref q)) (cW t s)
    obtain rfl := Option.some.inj hf
    exact o_areturn (pc := 106) dX4_nameOf_106 rfl (Or.inl ⟨_, rfl⟩) (Or.inr ⟨_, rfl⟩) (Nat.zero_le _) (Nat.zero_le _)
  have hf := it_f hf hx13
  refine o_tableOut (pc := 1) 107 dX4_nameOf_1 (sw_out 0 12 (fun n hn => ?_)) rfl ?_
  · match n, hn with
    | 0, _ => exact sw_ne hx1 rfl
    | 1, _ => exact sw_ne hx2 rfl
    | 2, _ => exact sw_ne hx3 rfl
    | 3, _ => exact sw_ne hx4 rfl
    | 4, _ => exact sw_ne hx5 rfl
    | 5, _ => exact sw_ne hx6 rfl
    | 6, _ => exact sw_ne hx7 rfl
    | 7, _ => exact sw_ne hx8 rfl
    | 8, _ => exact sw_ne hx9 rfl
    | 9, _ => exact sw_ne hx10 rfl
    | 10, _ => exact sw_ne hx11 rfl
    | 11, _ => exact sw_ne hx12 rfl
    | 12, _ => exact sw_ne hx13 rfl
    | n + 13, h => exact absurd h (by omega)
  · refine o_ldcS (pc := 107) (i := 20) dX4_nameOf_107 rfl rfl rfl ?_
    show Rn g mdX4_nameOf 109 [some (.int p0)] [.ref 1000020] (cW t s) 0 0 (some (.ref q)) (cW t s)
    obtain rfl := Option.some.inj hf
    exact o_areturn (pc := 109) dX4_nameOf_109 rfl (Or.inl ⟨_, rfl⟩) (Or.inr ⟨_, rfl⟩) (Nat.zero_le _) (Nat.zero_le _)
def fX3_wordOfTape_L2 : Nat → Int32 → ST → Option (Int32)
  | 0, _, _ => none
  | n + 1, x1, s => if 14 ≤ x1 then some (-1) else (fX4_nameOf x1 s).bind (fun q2 => (fX6_isWord q2 s).bind (fun q4 => if q4 = 0 then lt (x1 + 1) (fun v5 => fX3_wordOfTape_L2 n v5 s) else some x1))
def fX3_wordOfTape (s : ST) : Option (Int32) :=
  fX3_wordOfTape_L2 FUEL 0 s
set_option maxRecDepth 20000 in
theorem kX3_wordOfTape_L2 {g : GX} {t : PH} (s : ST) : ∀ (n : Nat) (x1 : Int32) {q : Int32}, fX3_wordOfTape_L2 n x1 s = some q → Rn g mdX3_wordOfTape 2 [some (.ref 11), some (.int x1)] [] (cW t s) 0 0 (some (.int q)) (cW t s) := by
  intro n
  induction n with
  | zero => intro x1 q hf; cases hf
  | succ n ih =>
    intro x1 q hf
    rw [fX3_wordOfTape_L2] at hf
    refine o_iload_n (pc := 2) dX3_wordOfTape_2 rfl ?_
    refine o_bipush (pc := 3) (v := 14) dX3_wordOfTape_3 rfl ?_
    refine o_icmp_ge (pc := 5) 30 dX3_wordOfTape_5 rfl (fun hc => ?_) (fun hc => ?_)
    · have hf := it_t hf hc
      refine o_iconst (pc := 30) (v := (-1)) dX3_wordOfTape_30 rfl ?_
      obtain rfl := Option.some.inj hf
      exact o_ireturn (pc := 31) dX3_wordOfTape_31 rfl (Nat.zero_le _) (Nat.zero_le _)
    · have hf := it_f hf hc
      refine o_aload_n (pc := 8) dX3_wordOfTape_8 rfl ?_
      refine c_getR (pc := 9) 3 0 11 1 (by decide) (by decide) rfl (lt48 (by decide)) rfl rfl lkX3_49 dX3_wordOfTape_9 ?_
      refine o_iload_n (pc := 12) dX3_wordOfTape_12 rfl ?_
      obtain ⟨q2, hk1, hf⟩ := bd_elim hf
      refine c_callS (pc := 13) [.int x1] dX3_wordOfTape_13 (kX4_nameOf hk1) stX3_121 ⟨by decide, by decide, by decide, by decide⟩ ⟨rfl, rfl⟩ (Nat.le_of_ble_eq_true rfl) ?_
      show Rn g mdX3_wordOfTape 16 [some (.ref 11), some (.int x1)] [.ref q2, .ref 1] (cW t s) 0 0 (some (.int q)) (cW t s)
      obtain ⟨q4, hk3, hf⟩ := bd_elim hf
      refine c_callV (pc := 16) 5 1 [.ref q2] (by decide) (lt48 (by decide)) rfl dX3_wordOfTape_16 (kX6_isWord hk3) stX3_89 ⟨by decide, by decide, by decide, by decide⟩ ⟨rfl, rfl⟩ (Nat.le_of_ble_eq_true rfl) ?_
      show Rn g mdX3_wordOfTape 19 [some (.ref 11), some (.int x1)] [.int q4] (cW t s) 0 0 (some (.int q)) (cW t s)
      refine o_if_eq (pc := 19) 24 dX3_wordOfTape_19 rfl (fun hc => ?_) (fun hc => ?_)
      · have hf := it_t hf hc
        refine o_iinc (pc := 24) dX3_wordOfTape_24 rfl (by decide) rfl ?_
        show Rn g mdX3_wordOfTape 27 [some (.ref 11), some (.int (x1 + 1))] [] (cW t s) 0 0 (some (.int q)) (cW t s)
        obtain ⟨v5, ev5, hf⟩ := lt_elim hf
        rw [ev5]
        show Rn g mdX3_wordOfTape 27 [some (.ref 11), some (.int v5)] [] (cW t s) 0 0 (some (.int q)) (cW t s)
        refine o_goto (pc := 27) 2 dX3_wordOfTape_27 rfl ?_
        exact ih _ hf
      · have hf := it_f hf hc
        refine o_iload_n (pc := 22) dX3_wordOfTape_22 rfl ?_
        obtain rfl := Option.some.inj hf
        exact o_ireturn (pc := 23) dX3_wordOfTape_23 rfl (Nat.zero_le _) (Nat.zero_le _)
set_option maxRecDepth 20000 in
theorem kX3_wordOfTape {g : GX} {t : PH} {s : ST} {q : Int32} (hf : fX3_wordOfTape s = some q) : Cn g mdX3_wordOfTape [.ref 11] (cW t s) (some (.int q)) (cW t s) := by
  refine Cn.of (by decide) (Nat.le_of_ble_eq_true rfl) ?_
  show Rn g mdX3_wordOfTape 0 [some (.ref 11), none] [] (cW t s) 0 0 (some (.int q)) (cW t s)
  unfold fX3_wordOfTape at hf
  refine o_iconst (pc := 0) (v := 0) dX3_wordOfTape_0 rfl ?_
  refine o_istore_n (pc := 1) dX3_wordOfTape_1 (by decide) rfl ?_
  show Rn g mdX3_wordOfTape 2 [some (.ref 11), some (.int 0)] [] (cW t s) 0 0 (some (.int q)) (cW t s)
  exact kX3_wordOfTape_L2 _ _ _ hf
def fX3_write (p0 : Int32) (p1 : Int32) (s : ST) : Option (ST) :=
  (if 400 ≤ (gi s 11 2) then some s else ck (inb (gi s 11 2) 400) (lt (si s 12 (ix (gi s 11 2)) (p0 + (32 * p1))) (fun s5 => lt (si s5 11 2 ((gi s5 11 2) + 1)) (fun s6 => some s6))) : Option (ST)).bind (fun w1 => some w1)
set_option maxRecDepth 20000 in
theorem kX3_write {g : GX} {t : PH} {p0 : Int32} {p1 : Int32} {s : ST} {q : ST} (hf : fX3_write p0 p1 s = some q) : Cn g mdX3_write [.ref 11, .int p0, .int p1] (cW t s) none (cW t q) := by
  refine Cn.of (by decide) (Nat.le_of_ble_eq_true rfl) ?_
  show Rn g mdX3_write 0 [some (.ref 11), some (.int p0), some (.int p1)] [] (cW t s) 0 0 none (cW t q)
  unfold fX3_write at hf
  refine o_aload_n (pc := 0) dX3_write_0 rfl ?_
  refine c_getI (pc := 1) 3 2 11 (by decide) (by decide) rfl (lt48 (by decide)) rfl lkX3_15 dX3_write_1 ?_
  refine o_aload_n (pc := 4) dX3_write_4 rfl ?_
  refine c_getR (pc := 5) 3 1 11 12 (by decide) (by decide) rfl (lt48 (by decide)) rfl rfl lkX3_9 dX3_write_5 ?_
  refine c_alen (pc := 8) 400 (by decide) (lt48 (by decide)) rfl rfl dX3_write_8 ?_
  obtain ⟨w1, hr2, hf⟩ := bd_elim hf
  have K3 : Rn g mdX3_write 37 [none, none, none] [] (cW t w1) 0 0 none (cW t q) := by
    obtain rfl := Option.some.inj hf
    exact o_return (pc := 37) dX3_write_37 rfl (Nat.zero_le _) (Nat.zero_le _)
  clear hf
  refine o_icmp_ge (pc := 9) 37 dX3_write_9 rfl (fun hc => ?_) (fun hc => ?_)
  · have hr2 := it_t hr2 hc
    obtain rfl := Option.some.inj hr2
    refine o_keep [false, false, false] ?_
    exact K3
  · have hr2 := it_f hr2 hc
    refine o_aload_n (pc := 12) dX3_write_12 rfl ?_
    refine c_getR (pc := 13) 3 1 11 12 (by decide) (by decide) rfl (lt48 (by decide)) rfl rfl lkX3_9 dX3_write_13 ?_
    refine o_aload_n (pc := 16) dX3_write_16 rfl ?_
    refine c_getI (pc := 17) 3 2 11 (by decide) (by decide) rfl (lt48 (by decide)) rfl lkX3_15 dX3_write_17 ?_
    refine o_iload_n (pc := 20) dX3_write_20 rfl ?_
    refine o_bipush (pc := 21) (v := 32) dX3_write_21 rfl ?_
    refine o_iload_n (pc := 23) dX3_write_23 rfl ?_
    refine o_imul (pc := 24) dX3_write_24 ?_
    refine o_iadd (pc := 25) dX3_write_25 ?_
    obtain ⟨hk4, hr2⟩ := ck_elim hr2
    refine c_iast (pc := 26) (lt48 (by decide)) rfl hk4 dX3_write_26 ?_
    refine lz_s (cW t) hr2 (fun s5 hr2 => ?_)
    show Rn g mdX3_write 27 [some (.ref 11), some (.int p0), some (.int p1)] [] (cW t s5) 0 0 none (cW t q)
    refine o_aload_n (pc := 27) dX3_write_27 rfl ?_
    refine o_dup (pc := 28) dX3_write_28 rfl ?_
    refine c_getI (pc := 29) 3 2 11 (by decide) (by decide) rfl (lt48 (by decide)) rfl lkX3_15 dX3_write_29 ?_
    refine o_iconst (pc := 32) (v := 1) dX3_write_32 rfl ?_
    refine o_iadd (pc := 33) dX3_write_33 ?_
    refine c_putI (pc := 34) 3 2 11 (by decide) (by decide) rfl rfl (lt48 (by decide)) rfl lkX3_15 ⟨rfl, rfl⟩ dX3_write_34 ?_
    refine lz_s (cW t) hr2 (fun s6 hr2 => ?_)
    show Rn g mdX3_write 37 [some (.ref 11), some (.int p0), some (.int p1)] [] (cW t s6) 0 0 none (cW t q)
    obtain rfl := Option.some.inj hr2
    refine o_keep [false, false, false] ?_
    exact K3
def fX3_readValue (s : ST) : Option (ST) :=
  (if (gi s 1 4) = (-2) then some (gi s 1 6) else (fX3_wordOfTape s).bind (fun q5 => some q5) : Option (Int32)).bind (fun w1 => (if (gi s 1 4) = (-2) then if 0 ≤ w1 then some false else some true else some false : Option Bool).bind (fun b6 => (if b6 = true then (fX6_blame 1 s).bind (fun q13 => some q13) else if 0 ≤ w1 then if (gi s 11 8) < 60 then lt (si s 11 8 ((gi s 11 8) + 1)) (fun s14 => (if (gi s14 1 4) = (-2) then some 0 else some 1 : Option (Int32)).bind (fun w15 => (fX3_write w15 w1 s14).bind (fun q19 => lt (si q19 11 11 3) (fun s20 => some s20)))) else (fX6_blame 3 s).bind (fun q22 => some q22) else (fX6_blame 0 s).bind (fun q24 => some q24) : Option (ST)).bind (fun w9 => some w9)))
set_option maxRecDepth 20000 in
theorem kX3_readValue {g : GX} {t : PH} {s : ST} {q : ST} (hf : fX3_readValue s = some q) : Cn g mdX3_readValue [.ref 11] (cW t s) none (cW t q) := by
  refine Cn.of (by decide) (Nat.le_of_ble_eq_true rfl) ?_
  show Rn g mdX3_readValue 0 [some (.ref 11), none] [] (cW t s) 0 0 none (cW t q)
  unfold fX3_readValue at hf
  refine o_aload_n (pc := 0) dX3_readValue_0 rfl ?_
  refine c_getR (pc := 1) 3 0 11 1 (by decide) (by decide) rfl (lt48 (by decide)) rfl rfl lkX3_49 dX3_readValue_1 ?_
  refine c_getI (pc := 4) 5 4 1 (by decide) (by decide) rfl (lt48 (by decide)) rfl lkX3_97 dX3_readValue_4 ?_
  refine o_bipush (pc := 7) (v := (-2)) dX3_readValue_7 rfl ?_
  obtain ⟨w1, hr2, hf⟩ := bd_elim hf
  have K3 : Rn g mdX3_readValue 26 [some (.ref 11), none] [.int w1] (cW t s) 0 0 none (cW t q) := by
    refine o_istore_n (pc := 26) dX3_readValue_26 (by decide) rfl ?_
    show Rn g mdX3_readValue 27 [some (.ref 11), some (.int w1)] [] (cW t s) 0 0 none (cW t q)
    refine o_aload_n (pc := 27) dX3_readValue_27 rfl ?_
    refine c_getR (pc := 28) 3 0 11 1 (by decide) (by decide) rfl (lt48 (by decide)) rfl rfl lkX3_49 dX3_readValue_28 ?_
    refine c_getI (pc := 31) 5 4 1 (by decide) (by decide) rfl (lt48 (by decide)) rfl lkX3_97 dX3_readValue_31 ?_
    refine o_bipush (pc := 34) (v := (-2)) dX3_readValue_34 rfl ?_
    obtain ⟨b6, hr7, hf⟩ := bd_elim hf
    obtain ⟨w9, hr10, hf⟩ := bd_elim hf
    have K11 : Rn g mdX3_readValue 126 [none, none] [] (cW t w9) 0 0 none (cW t q) := by
      obtain rfl := Option.some.inj hf
      exact o_return (pc := 126) dX3_readValue_126 rfl (Nat.zero_le _) (Nat.zero_le _)
    clear hf
    have KB8 : (b6 = true → Rn g mdX3_readValue 43 [some (.ref 11), some (.int w1)] [] (cW t s) 0 0 none (cW t q)) ∧ (¬ b6 = true → Rn g mdX3_readValue 54 [some (.ref 11), some (.int w1)] [] (cW t s) 0 0 none (cW t q)) := by
      refine ⟨fun hc => ?_, fun hc => ?_⟩
      · have hr10 := it_t hr10 hc
        refine o_aload_n (pc := 43) dX3_readValue_43 rfl ?_
        refine c_getR (pc := 44) 3 0 11 1 (by decide) (by decide) rfl (lt48 (by decide)) rfl rfl lkX3_49 dX3_readValue_44 ?_
        refine o_iconst (pc := 47) (v := 1) dX3_readValue_47 rfl ?_
        obtain ⟨q13, hk12, hr10⟩ := bd_elim hr10
        refine c_callV (pc := 48) 5 1 [.int 1] (by decide) (lt48 (by decide)) rfl dX3_readValue_48 (kX6_blame hk12) stX3_93 ⟨by decide, by decide, by decide, by decide⟩ ⟨rfl, rfl⟩ (Nat.le_of_ble_eq_true rfl) ?_
        show Rn g mdX3_readValue 51 [some (.ref 11), some (.int w1)] [] (cW t q13) 0 0 none (cW t q)
        refine o_goto (pc := 51) 126 dX3_readValue_51 rfl ?_
        obtain rfl := Option.some.inj hr10
        refine o_keep [false, false] ?_
        exact K11
      · have hr10 := it_f hr10 hc
        refine o_iload_n (pc := 54) dX3_readValue_54 rfl ?_
        refine o_if_ge (pc := 55) 69 dX3_readValue_55 rfl (fun hc => ?_) (fun hc => ?_)
        · have hr10 := it_t hr10 hc
          refine o_aload_n (pc := 69) dX3_readValue_69 rfl ?_
          refine c_getI (pc := 70) 3 8 11 (by decide) (by decide) rfl (lt48 (by decide)) rfl lkX3_34 dX3_readValue_70 ?_
          refine o_bipush (pc := 73) (v := 60) dX3_readValue_73 rfl ?_
          refine o_icmp_lt (pc := 75) 89 dX3_readValue_75 rfl (fun hc => ?_) (fun hc => ?_)
          · have hr10 := it_t hr10 hc
            refine o_aload_n (pc := 89) dX3_readValue_89 rfl ?_
            refine o_dup (pc := 90) dX3_readValue_90 rfl ?_
            refine c_getI (pc := 91) 3 8 11 (by decide) (by decide) rfl (lt48 (by decide)) rfl lkX3_34 dX3_readValue_91 ?_
            refine o_iconst (pc := 94) (v := 1) dX3_readValue_94 rfl ?_
            refine o_iadd (pc := 95) dX3_readValue_95 ?_
            refine c_putI (pc := 96) 3 8 11 (by decide) (by decide) rfl rfl (lt48 (by decide)) rfl lkX3_34 ⟨rfl, rfl⟩ dX3_readValue_96 ?_
            refine lz_s (cW t) hr10 (fun s14 hr10 => ?_)
            show Rn g mdX3_readValue 99 [some (.ref 11), some (.int w1)] [] (cW t s14) 0 0 none (cW t q)
            refine o_aload_n (pc := 99) dX3_readValue_99 rfl ?_
            refine o_aload_n (pc := 100) dX3_readValue_100 rfl ?_
            refine c_getR (pc := 101) 3 0 11 1 (by decide) (by decide) rfl (lt48 (by decide)) rfl rfl lkX3_49 dX3_readValue_101 ?_
            refine c_getI (pc := 104) 5 4 1 (by decide) (by decide) rfl (lt48 (by decide)) rfl lkX3_97 dX3_readValue_104 ?_
            refine o_bipush (pc := 107) (v := (-2)) dX3_readValue_107 rfl ?_
            obtain ⟨w15, hr16, hr10⟩ := bd_elim hr10
            have K17 : Rn g mdX3_readValue 117 [some (.ref 11), some (.int w1)] [.int w15, .ref 11] (cW t s14) 0 0 none (cW t q) := by
              refine o_iload_n (pc := 117) dX3_readValue_117 rfl ?_
              obtain ⟨q19, hk18, hr10⟩ := bd_elim hr10
              refine c_callV (pc := 118) 3 11 [.int w15, .int w1] (by decide) (lt48 (by decide)) rfl dX3_readValue_118 (kX3_write hk18) stX3_117 ⟨by decide, by decide, by decide, by decide⟩ ⟨rfl, rfl⟩ (Nat.le_of_ble_eq_true rfl) ?_
              show Rn g mdX3_readValue 121 [some (.ref 11), some (.int w1)] [] (cW t q19) 0 0 none (cW t q)
              refine o_aload_n (pc := 121) dX3_readValue_121 rfl ?_
              refine o_iconst (pc := 122) (v := 3) dX3_readValue_122 rfl ?_
              refine c_putI (pc := 123) 3 11 11 (by decide) (by decide) rfl rfl (lt48 (by decide)) rfl lkX3_43 ⟨rfl, rfl⟩ dX3_readValue_123 ?_
              refine lz_s (cW t) hr10 (fun s20 hr10 => ?_)
              show Rn g mdX3_readValue 126 [some (.ref 11), some (.int w1)] [] (cW t s20) 0 0 none (cW t q)
              obtain rfl := Option.some.inj hr10
              refine o_keep [false, false] ?_
              exact K11
            clear hr10
            refine o_icmp_ne (pc := 109) 116 dX3_readValue_109 rfl (fun hc => ?_) (fun hc => ?_)
            · have hr16 := it_f hr16 hc
              refine o_iconst (pc := 116) (v := 1) dX3_readValue_116 rfl ?_
              obtain rfl := Option.some.inj hr16
              exact K17
            · have hr16 := it_t hr16 hc
              refine o_iconst (pc := 112) (v := 0) dX3_readValue_112 rfl ?_
              refine o_goto (pc := 113) 117 dX3_readValue_113 rfl ?_
              obtain rfl := Option.some.inj hr16
              exact K17
          · have hr10 := it_f hr10 hc
            refine o_aload_n (pc := 78) dX3_readValue_78 rfl ?_
            refine c_getR (pc := 79) 3 0 11 1 (by decide) (by decide) rfl (lt48 (by decide)) rfl rfl lkX3_49 dX3_readValue_79 ?_
            refine o_iconst (pc := 82) (v := 3) dX3_readValue_82 rfl ?_
            obtain ⟨q22, hk21, hr10⟩ := bd_elim hr10
            refine c_callV (pc := 83) 5 1 [.int 3] (by decide) (lt48 (by decide)) rfl dX3_readValue_83 (kX6_blame hk21) stX3_93 ⟨by decide, by decide, by decide, by decide⟩ ⟨rfl, rfl⟩ (Nat.le_of_ble_eq_true rfl) ?_
            show Rn g mdX3_readValue 86 [some (.ref 11), some (.int w1)] [] (cW t q22) 0 0 none (cW t q)
            refine o_goto (pc := 86) 126 dX3_readValue_86 rfl ?_
            obtain rfl := Option.some.inj hr10
            refine o_keep [false, false] ?_
            exact K11
        · have hr10 := it_f hr10 hc
          refine o_aload_n (pc := 58) dX3_readValue_58 rfl ?_
          refine c_getR (pc := 59) 3 0 11 1 (by decide) (by decide) rfl (lt48 (by decide)) rfl rfl lkX3_49 dX3_readValue_59 ?_
          refine o_iconst (pc := 62) (v := 0) dX3_readValue_62 rfl ?_
          obtain ⟨q24, hk23, hr10⟩ := bd_elim hr10
          refine c_callV (pc := 63) 5 1 [.int 0] (by decide) (lt48 (by decide)) rfl dX3_readValue_63 (kX6_blame hk23) stX3_93 ⟨by decide, by decide, by decide, by decide⟩ ⟨rfl, rfl⟩ (Nat.le_of_ble_eq_true rfl) ?_
          show Rn g mdX3_readValue 66 [some (.ref 11), some (.int w1)] [] (cW t q24) 0 0 none (cW t q)
          refine o_goto (pc := 66) 126 dX3_readValue_66 rfl ?_
          obtain rfl := Option.some.inj hr10
          refine o_keep [false, false] ?_
          exact K11
    clear hr10
    refine o_icmp_ne (pc := 36) 54 dX3_readValue_36 rfl (fun hc => ?_) (fun hc => ?_)
    · have hr7 := it_f hr7 hc
      obtain rfl := Option.some.inj hr7
      exact KB8.2 (by decide)
    · have hr7 := it_t hr7 hc
      refine o_iload_n (pc := 39) dX3_readValue_39 rfl ?_
      refine o_if_ge (pc := 40) 54 dX3_readValue_40 rfl (fun hc => ?_) (fun hc => ?_)
      · have hr7 := it_t hr7 hc
        obtain rfl := Option.some.inj hr7
        exact KB8.2 (by decide)
      · have hr7 := it_f hr7 hc
        obtain rfl := Option.some.inj hr7
        exact KB8.1 rfl
  clear hf
  refine o_icmp_ne (pc := 9) 22 dX3_readValue_9 rfl (fun hc => ?_) (fun hc => ?_)
  · have hr2 := it_f hr2 hc
    refine o_aload_n (pc := 22) dX3_readValue_22 rfl ?_
    obtain ⟨q5, hk4, hr2⟩ := bd_elim hr2
    refine c_callV (pc := 23) 3 11 [] (by decide) (lt48 (by decide)) rfl dX3_readValue_23 (kX3_wordOfTape hk4) stX3_113 ⟨by decide, by decide, by decide, by decide⟩ ⟨rfl, rfl⟩ (Nat.le_of_ble_eq_true rfl) ?_
    show Rn g mdX3_readValue 26 [some (.ref 11), none] [.int q5] (cW t s) 0 0 none (cW t q)
    obtain rfl := Option.some.inj hr2
    exact K3
  · have hr2 := it_t hr2 hc
    refine o_aload_n (pc := 12) dX3_readValue_12 rfl ?_
    refine c_getR (pc := 13) 3 0 11 1 (by decide) (by decide) rfl (lt48 (by decide)) rfl rfl lkX3_49 dX3_readValue_13 ?_
    refine c_getI (pc := 16) 5 6 1 (by decide) (by decide) rfl (lt48 (by decide)) rfl lkX3_110 dX3_readValue_16 ?_
    refine o_goto (pc := 19) 26 dX3_readValue_19 rfl ?_
    obtain rfl := Option.some.inj hr2
    exact K3
def fX3_readFact (s : ST) : Option (ST) :=
  (if (gi s 1 4) = 91 then (fX3_goDeeper 15 s).bind (fun q11 => some q11) else (fX6_isWord 1000006 s).bind (fun q5 => if q5 = 0 then (fX3_readValue s).bind (fun q7 => some q7) else (fX3_goDeeper 14 s).bind (fun q9 => some q9)) : Option (ST)).bind (fun w1 => some w1)
set_option maxRecDepth 20000 in
theorem kX3_readFact {g : GX} {t : PH} {s : ST} {q : ST} (hf : fX3_readFact s = some q) : Cn g mdX3_readFact [.ref 11] (cW t s) none (cW t q) := by
  refine Cn.of (by decide) (Nat.le_of_ble_eq_true rfl) ?_
  show Rn g mdX3_readFact 0 [some (.ref 11)] [] (cW t s) 0 0 none (cW t q)
  unfold fX3_readFact at hf
  refine o_aload_n (pc := 0) dX3_readFact_0 rfl ?_
  refine c_getR (pc := 1) 3 0 11 1 (by decide) (by decide) rfl (lt48 (by decide)) rfl rfl lkX3_49 dX3_readFact_1 ?_
  refine c_getI (pc := 4) 5 4 1 (by decide) (by decide) rfl (lt48 (by decide)) rfl lkX3_97 dX3_readFact_4 ?_
  refine o_bipush (pc := 7) (v := 91) dX3_readFact_7 rfl ?_
  obtain ⟨w1, hr2, hf⟩ := bd_elim hf
  have K3 : Rn g mdX3_readFact 46 [none] [] (cW t w1) 0 0 none (cW t q) := by
    obtain rfl := Option.some.inj hf
    exact o_return (pc := 46) dX3_readFact_46 rfl (Nat.zero_le _) (Nat.zero_le _)
  clear hf
  refine o_icmp_ne (pc := 9) 21 dX3_readFact_9 rfl (fun hc => ?_) (fun hc => ?_)
  · have hr2 := it_f hr2 hc
    refine o_aload_n (pc := 21) dX3_readFact_21 rfl ?_
    refine c_getR (pc := 22) 3 0 11 1 (by decide) (by decide) rfl (lt48 (by decide)) rfl rfl lkX3_49 dX3_readFact_22 ?_
    refine o_ldcS (pc := 25) (i := 6) dX3_readFact_25 rfl rfl rfl ?_
    show Rn g mdX3_readFact 27 [some (.ref 11)] [.ref 1000006, .ref 1] (cW t s) 0 0 none (cW t q)
    obtain ⟨q5, hk4, hr2⟩ := bd_elim hr2
    refine c_callV (pc := 27) 5 1 [.ref 1000006] (by decide) (lt48 (by decide)) rfl dX3_readFact_27 (kX6_isWord hk4) stX3_89 ⟨by decide, by decide, by decide, by decide⟩ ⟨rfl, rfl⟩ (Nat.le_of_ble_eq_true rfl) ?_
    show Rn g mdX3_readFact 30 [some (.ref 11)] [.int q5] (cW t s) 0 0 none (cW t q)
    refine o_if_eq (pc := 30) 42 dX3_readFact_30 rfl (fun hc => ?_) (fun hc => ?_)
    · have hr2 := it_t hr2 hc
      refine o_aload_n (pc := 42) dX3_readFact_42 rfl ?_
      obtain ⟨q7, hk6, hr2⟩ := bd_elim hr2
      refine c_callV (pc := 43) 3 11 [] (by decide) (lt48 (by decide)) rfl dX3_readFact_43 (kX3_readValue hk6) stX3_70 ⟨by decide, by decide, by decide, by decide⟩ ⟨rfl, rfl⟩ (Nat.le_of_ble_eq_true rfl) ?_
      show Rn g mdX3_readFact 46 [some (.ref 11)] [] (cW t q7) 0 0 none (cW t q)
      obtain rfl := Option.some.inj hr2
      refine o_keep [false] ?_
      exact K3
    · have hr2 := it_f hr2 hc
      refine o_aload_n (pc := 33) dX3_readFact_33 rfl ?_
      refine o_bipush (pc := 34) (v := 14) dX3_readFact_34 rfl ?_
      obtain ⟨q9, hk8, hr2⟩ := bd_elim hr2
      refine c_callV (pc := 36) 3 11 [.int 14] (by decide) (lt48 (by decide)) rfl dX3_readFact_36 (kX3_goDeeper hk8) stX3_102 ⟨by decide, by decide, by decide, by decide⟩ ⟨rfl, rfl⟩ (Nat.le_of_ble_eq_true rfl) ?_
      show Rn g mdX3_readFact 39 [some (.ref 11)] [] (cW t q9) 0 0 none (cW t q)
      refine o_goto (pc := 39) 46 dX3_readFact_39 rfl ?_
      obtain rfl := Option.some.inj hr2
      refine o_keep [false] ?_
      exact K3
  · have hr2 := it_t hr2 hc
    refine o_aload_n (pc := 12) dX3_readFact_12 rfl ?_
    refine o_bipush (pc := 13) (v := 15) dX3_readFact_13 rfl ?_
    obtain ⟨q11, hk10, hr2⟩ := bd_elim hr2
    refine c_callV (pc := 15) 3 11 [.int 15] (by decide) (lt48 (by decide)) rfl dX3_readFact_15 (kX3_goDeeper hk10) stX3_102 ⟨by decide, by decide, by decide, by decide⟩ ⟨rfl, rfl⟩ (Nat.le_of_ble_eq_true rfl) ?_
    show Rn g mdX3_readFact 18 [some (.ref 11)] [] (cW t q11) 0 0 none (cW t q)
    refine o_goto (pc := 18) 46 dX3_readFact_18 rfl ?_
    obtain rfl := Option.some.inj hr2
    refine o_keep [false] ?_
    exact K3
def fX3_readLate (s : ST) : Option (ST) :=
  (fX6_isWord 1000005 s).bind (fun q2 => (if q2 = 0 then (fX6_blame 0 s).bind (fun q13 => some q13) else if (gi s 11 5) < 12 then ck (inb (gi s 11 5) 13) (lt (si s 13 (ix (gi s 11 5)) (gi s 11 2)) (fun s7 => lt (si s7 11 12 0) (fun s8 => lt (si s8 11 11 2) (fun s9 => some s9)))) else (fX6_blame 4 s).bind (fun q11 => some q11) : Option (ST)).bind (fun w3 => some w3))
set_option maxRecDepth 20000 in
theorem kX3_readLate {g : GX} {t : PH} {s : ST} {q : ST} (hf : fX3_readLate s = some q) : Cn g mdX3_readLate [.ref 11] (cW t s) none (cW t q) := by
  refine Cn.of (by decide) (Nat.le_of_ble_eq_true rfl) ?_
  show Rn g mdX3_readLate 0 [some (.ref 11)] [] (cW t s) 0 0 none (cW t q)
  unfold fX3_readLate at hf
  refine o_aload_n (pc := 0) dX3_readLate_0 rfl ?_
  refine c_getR (pc := 1) 3 0 11 1 (by decide) (by decide) rfl (lt48 (by decide)) rfl rfl lkX3_49 dX3_readLate_1 ?_
  refine o_ldcS (pc := 4) (i := 5) dX3_readLate_4 rfl rfl rfl ?_
  show Rn g mdX3_readLate 6 [some (.ref 11)] [.ref 1000005, .ref 1] (cW t s) 0 0 none (cW t q)
  obtain ⟨q2, hk1, hf⟩ := bd_elim hf
  refine c_callV (pc := 6) 5 1 [.ref 1000005] (by decide) (lt48 (by decide)) rfl dX3_readLate_6 (kX6_isWord hk1) stX3_89 ⟨by decide, by decide, by decide, by decide⟩ ⟨rfl, rfl⟩ (Nat.le_of_ble_eq_true rfl) ?_
  show Rn g mdX3_readLate 9 [some (.ref 11)] [.int q2] (cW t s) 0 0 none (cW t q)
  obtain ⟨w3, hr4, hf⟩ := bd_elim hf
  have K5 : Rn g mdX3_readLate 66 [none] [] (cW t w3) 0 0 none (cW t q) := by
    obtain rfl := Option.some.inj hf
    exact o_return (pc := 66) dX3_readLate_66 rfl (Nat.zero_le _) (Nat.zero_le _)
  clear hf
  refine o_if_ne (pc := 9) 23 dX3_readLate_9 rfl (fun hc => ?_) (fun hc => ?_)
  · have hr4 := it_f hr4 hc
    refine o_aload_n (pc := 23) dX3_readLate_23 rfl ?_
    refine c_getI (pc := 24) 3 5 11 (by decide) (by decide) rfl (lt48 (by decide)) rfl lkX3_25 dX3_readLate_24 ?_
    refine o_bipush (pc := 27) (v := 12) dX3_readLate_27 rfl ?_
    refine o_icmp_lt (pc := 29) 43 dX3_readLate_29 rfl (fun hc => ?_) (fun hc => ?_)
    · have hr4 := it_t hr4 hc
      refine o_aload_n (pc := 43) dX3_readLate_43 rfl ?_
      refine c_getR (pc := 44) 3 3 11 13 (by decide) (by decide) rfl (lt48 (by decide)) rfl rfl lkX3_19 dX3_readLate_44 ?_
      refine o_aload_n (pc := 47) dX3_readLate_47 rfl ?_
      refine c_getI (pc := 48) 3 5 11 (by decide) (by decide) rfl (lt48 (by decide)) rfl lkX3_25 dX3_readLate_48 ?_
      refine o_aload_n (pc := 51) dX3_readLate_51 rfl ?_
      refine c_getI (pc := 52) 3 2 11 (by decide) (by decide) rfl (lt48 (by decide)) rfl lkX3_15 dX3_readLate_52 ?_
      obtain ⟨hk6, hr4⟩ := ck_elim hr4
      refine c_iast (pc := 55) (lt48 (by decide)) rfl hk6 dX3_readLate_55 ?_
      refine lz_s (cW t) hr4 (fun s7 hr4 => ?_)
      show Rn g mdX3_readLate 56 [some (.ref 11)] [] (cW t s7) 0 0 none (cW t q)
      refine o_aload_n (pc := 56) dX3_readLate_56 rfl ?_
      refine o_iconst (pc := 57) (v := 0) dX3_readLate_57 rfl ?_
      refine c_putI (pc := 58) 3 12 11 (by decide) (by decide) rfl rfl (lt48 (by decide)) rfl lkX3_46 ⟨rfl, rfl⟩ dX3_readLate_58 ?_
      refine lz_s (cW t) hr4 (fun s8 hr4 => ?_)
      show Rn g mdX3_readLate 61 [some (.ref 11)] [] (cW t s8) 0 0 none (cW t q)
      refine o_aload_n (pc := 61) dX3_readLate_61 rfl ?_
      refine o_iconst (pc := 62) (v := 2) dX3_readLate_62 rfl ?_
      refine c_putI (pc := 63) 3 11 11 (by decide) (by decide) rfl rfl (lt48 (by decide)) rfl lkX3_43 ⟨rfl, rfl⟩ dX3_readLate_63 ?_
      refine lz_s (cW t) hr4 (fun s9 hr4 => ?_)
      show Rn g mdX3_readLate 66 [some (.ref 11)] [] (cW t s9) 0 0 none (cW t q)
      obtain rfl := Option.some.inj hr4
      refine o_keep [false] ?_
      exact K5
    · have hr4 := it_f hr4 hc
      refine o_aload_n (pc := 32) dX3_readLate_32 rfl ?_
      refine c_getR (pc := 33) 3 0 11 1 (by decide) (by decide) rfl (lt48 (by decide)) rfl rfl lkX3_49 dX3_readLate_33 ?_
      refine o_iconst (pc := 36) (v := 4) dX3_readLate_36 rfl ?_
      obtain ⟨q11, hk10, hr4⟩ := bd_elim hr4
      refine c_callV (pc := 37) 5 1 [.int 4] (by decide) (lt48 (by decide)) rfl dX3_readLate_37 (kX6_blame hk10) stX3_93 ⟨by decide, by decide, by decide, by decide⟩ ⟨rfl, rfl⟩ (Nat.le_of_ble_eq_true rfl) ?_
      show Rn g mdX3_readLate 40 [some (.ref 11)] [] (cW t q11) 0 0 none (cW t q)
      refine o_goto (pc := 40) 66 dX3_readLate_40 rfl ?_
      obtain rfl := Option.some.inj hr4
      refine o_keep [false] ?_
      exact K5
  · have hr4 := it_t hr4 hc
    refine o_aload_n (pc := 12) dX3_readLate_12 rfl ?_
    refine c_getR (pc := 13) 3 0 11 1 (by decide) (by decide) rfl (lt48 (by decide)) rfl rfl lkX3_49 dX3_readLate_13 ?_
    refine o_iconst (pc := 16) (v := 0) dX3_readLate_16 rfl ?_
    obtain ⟨q13, hk12, hr4⟩ := bd_elim hr4
    refine c_callV (pc := 17) 5 1 [.int 0] (by decide) (lt48 (by decide)) rfl dX3_readLate_17 (kX6_blame hk12) stX3_93 ⟨by decide, by decide, by decide, by decide⟩ ⟨rfl, rfl⟩ (Nat.le_of_ble_eq_true rfl) ?_
    show Rn g mdX3_readLate 20 [some (.ref 11)] [] (cW t q13) 0 0 none (cW t q)
    refine o_goto (pc := 20) 66 dX3_readLate_20 rfl ?_
    obtain rfl := Option.some.inj hr4
    refine o_keep [false] ?_
    exact K5
def fX4_tightnessOf (p0 : Int32) (s : ST) : Option (Int32) :=
  (if p0 < 0 then some false else if 16 ≤ p0 then some false else some true : Option Bool).bind (fun b1 => (if b1 = true then ck (inb p0 16) (some (tgS (ix p0))) else some 0 : Option (Int32)).bind (fun w4 => some w4))
set_option maxRecDepth 20000 in
theorem kX4_tightnessOf {g : GX} {t : PH} {p0 : Int32} {s : ST} {q : Int32} (hf : fX4_tightnessOf p0 s = some q) : Cn g mdX4_tightnessOf [.int p0] (cW t s) (some (.int q)) (cW t s) := by
  refine Cn.of (by decide) (Nat.le_of_ble_eq_true rfl) ?_
  show Rn g mdX4_tightnessOf 0 [some (.int p0)] [] (cW t s) 0 0 (some (.int q)) (cW t s)
  unfold fX4_tightnessOf at hf
  refine o_iload_n (pc := 0) dX4_tightnessOf_0 rfl ?_
  obtain ⟨b1, hr2, hf⟩ := bd_elim hf
  obtain ⟨w4, hr5, hf⟩ := bd_elim hf
  have K6 : Rn g mdX4_tightnessOf 21 [none] [.int w4] (cW t s) 0 0 (some (.int q)) (cW t s) := by
    obtain rfl := Option.some.inj hf
    exact o_ireturn (pc := 21) dX4_tightnessOf_21 rfl (Nat.zero_le _) (Nat.zero_le _)
  clear hf
  have KB3 : (b1 = true → Rn g mdX4_tightnessOf 12 [some (.int p0)] [] (cW t s) 0 0 (some (.int q)) (cW t s)) ∧ (¬ b1 = true → Rn g mdX4_tightnessOf 20 [some (.int p0)] [] (cW t s) 0 0 (some (.int q)) (cW t s)) := by
    refine ⟨fun hc => ?_, fun hc => ?_⟩
    · have hr5 := it_t hr5 hc
      refine o_tight (pc := 12) lfX4_9 dX4_tightnessOf_12 ?_
      refine o_iload_n (pc := 15) dX4_tightnessOf_15 rfl ?_
      obtain ⟨hk7, hr5⟩ := ck_elim hr5
      refine o_tald (pc := 16) dX4_tightnessOf_16 (inb_in hk7) ?_
      refine o_goto (pc := 17) 21 dX4_tightnessOf_17 rfl ?_
      obtain rfl := Option.some.inj hr5
      refine o_keep [false] ?_
      exact K6
    · have hr5 := it_f hr5 hc
      refine o_iconst (pc := 20) (v := 0) dX4_tightnessOf_20 rfl ?_
      obtain rfl := Option.some.inj hr5
      refine o_keep [false] ?_
      exact K6
  clear hr5
  refine o_if_lt (pc := 1) 20 dX4_tightnessOf_1 rfl (fun hc => ?_) (fun hc => ?_)
  · have hr2 := it_t hr2 hc
    obtain rfl := Option.some.inj hr2
    exact KB3.2 (by decide)
  · have hr2 := it_f hr2 hc
    refine o_iload_n (pc := 4) dX4_tightnessOf_4 rfl ?_
    refine o_tight (pc := 5) lfX4_9 dX4_tightnessOf_5 ?_
    refine o_tlen (pc := 8) dX4_tightnessOf_8 ?_
    refine o_icmp_ge (pc := 9) 20 dX4_tightnessOf_9 rfl (fun hc => ?_) (fun hc => ?_)
    · have hr2 := it_t hr2 hc
      obtain rfl := Option.some.inj hr2
      exact KB3.2 (by decide)
    · have hr2 := it_f hr2 hc
      obtain rfl := Option.some.inj hr2
      exact KB3.1 rfl
def fX3_writeWaiting_L0 (a1 : Int32) : Nat → ST → Option (ST)
  | 0, _ => none
  | n + 1, s => (if (gi s 11 7) ≤ 0 then some false else ck (inb ((gi s 11 7) - 1) 64) ((fX4_tightnessOf (gi s 15 (ix ((gi s 11 7) - 1))) s).bind (fun q6 => if q6 < a1 then some false else some true)) : Option Bool).bind (fun b1 => if b1 = true then lt (si s 11 7 ((gi s 11 7) - 1)) (fun s7 => ck (inb (gi s7 11 7) 64) (lt (gi s7 15 (ix (gi s7 11 7)) : Int32) (fun v9 => (if v9 = 14 then some 1 else some 0 : Option (Int32)).bind (fun w10 => lt (si s7 11 9 ((gi s7 11 9) - w10)) (fun s13 => (fX3_write v9 0 s13).bind (fun q15 => fX3_writeWaiting_L0 a1 n q15)))))) else some s)
def fX3_writeWaiting (p0 : Int32) (s : ST) : Option (ST) :=
  (fX3_writeWaiting_L0 p0 FUEL s).bind (fun w16 => some w16)
set_option maxRecDepth 20000 in
theorem kX3_writeWaiting_L0 {g : GX} {t : PH} (a1 : Int32) {r : Option Value} {h2 : PH} : ∀ (n : Nat) (s : ST) {w : ST}, fX3_writeWaiting_L0 a1 n s = some w → Rn g mdX3_writeWaiting 74 [none, none, none] [] (cW t w) 0 0 r h2 → Rn g mdX3_writeWaiting 0 [some (.ref 11), some (.int a1), none] [] (cW t s) 0 0 r h2 := by
  intro n
  induction n with
  | zero => intro s w hf K; cases hf
  | succ n ih =>
    intro s w hf K
    rw [fX3_writeWaiting_L0] at hf
    refine o_aload_n (pc := 0) dX3_writeWaiting_0 rfl ?_
    refine c_getI (pc := 1) 3 7 11 (by decide) (by decide) rfl (lt48 (by decide)) rfl lkX3_31 dX3_writeWaiting_1 ?_
    obtain ⟨b1, hr2, hf⟩ := bd_elim hf
    have KB3 : (b1 = true → Rn g mdX3_writeWaiting 25 [some (.ref 11), some (.int a1), none] [] (cW t s) 0 0 r h2) ∧ (¬ b1 = true → Rn g mdX3_writeWaiting 74 [some (.ref 11), some (.int a1), none] [] (cW t s) 0 0 r h2) := by
      refine ⟨fun hc => ?_, fun hc => ?_⟩
      · have hf := it_t hf hc
        refine o_aload_n (pc := 25) dX3_writeWaiting_25 rfl ?_
        refine o_dup (pc := 26) dX3_writeWaiting_26 rfl ?_
        refine c_getI (pc := 27) 3 7 11 (by decide) (by decide) rfl (lt48 (by decide)) rfl lkX3_31 dX3_writeWaiting_27 ?_
        refine o_iconst (pc := 30) (v := 1) dX3_writeWaiting_30 rfl ?_
        refine o_isub (pc := 31) dX3_writeWaiting_31 ?_
        refine c_putI (pc := 32) 3 7 11 (by decide) (by decide) rfl rfl (lt48 (by decide)) rfl lkX3_31 ⟨rfl, rfl⟩ dX3_writeWaiting_32 ?_
        refine lz_s (cW t) hf (fun s7 hf => ?_)
        show Rn g mdX3_writeWaiting 35 [some (.ref 11), some (.int a1), none] [] (cW t s7) 0 0 r h2
        refine o_aload_n (pc := 35) dX3_writeWaiting_35 rfl ?_
        refine c_getR (pc := 36) 3 6 11 15 (by decide) (by decide) rfl (lt48 (by decide)) rfl rfl lkX3_28 dX3_writeWaiting_36 ?_
        refine o_aload_n (pc := 39) dX3_writeWaiting_39 rfl ?_
        refine c_getI (pc := 40) 3 7 11 (by decide) (by decide) rfl (lt48 (by decide)) rfl lkX3_31 dX3_writeWaiting_40 ?_
        obtain ⟨hk8, hf⟩ := ck_elim hf
        refine c_iald (pc := 43) (lt48 (by decide)) rfl hk8 dX3_writeWaiting_43 ?_
        refine lz_i hf (fun v9 hf => ?_)
        refine o_istore_n (pc := 44) dX3_writeWaiting_44 (by decide) rfl ?_
        show Rn g mdX3_writeWaiting 45 [some (.ref 11), some (.int a1), some (.int v9)] [] (cW t s7) 0 0 r h2
        refine o_aload_n (pc := 45) dX3_writeWaiting_45 rfl ?_
        refine o_dup (pc := 46) dX3_writeWaiting_46 rfl ?_
        refine c_getI (pc := 47) 3 9 11 (by decide) (by decide) rfl (lt48 (by decide)) rfl lkX3_37 dX3_writeWaiting_47 ?_
        refine o_iload_n (pc := 50) dX3_writeWaiting_50 rfl ?_
        refine o_bipush (pc := 51) (v := 14) dX3_writeWaiting_51 rfl ?_
        obtain ⟨w10, hr11, hf⟩ := bd_elim hf
        have K12 : Rn g mdX3_writeWaiting 61 [some (.ref 11), some (.int a1), some (.int v9)] [.int w10, .int (gi s7 11 9), .ref 11] (cW t s7) 0 0 r h2 := by
          refine o_isub (pc := 61) dX3_writeWaiting_61 ?_
          refine c_putI (pc := 62) 3 9 11 (by decide) (by decide) rfl rfl (lt48 (by decide)) rfl lkX3_37 ⟨rfl, rfl⟩ dX3_writeWaiting_62 ?_
          refine lz_s (cW t) hf (fun s13 hf => ?_)
          show Rn g mdX3_writeWaiting 65 [some (.ref 11), some (.int a1), some (.int v9)] [] (cW t s13) 0 0 r h2
          refine o_aload_n (pc := 65) dX3_writeWaiting_65 rfl ?_
          refine o_iload_n (pc := 66) dX3_writeWaiting_66 rfl ?_
          refine o_iconst (pc := 67) (v := 0) dX3_writeWaiting_67 rfl ?_
          obtain ⟨q15, hk14, hf⟩ := bd_elim hf
          refine c_callV (pc := 68) 3 11 [.int v9, .int 0] (by decide) (lt48 (by decide)) rfl dX3_writeWaiting_68 (kX3_write hk14) stX3_117 ⟨by decide, by decide, by decide, by decide⟩ ⟨rfl, rfl⟩ (Nat.le_of_ble_eq_true rfl) ?_
          show Rn g mdX3_writeWaiting 71 [some (.ref 11), some (.int a1), some (.int v9)] [] (cW t q15) 0 0 r h2
          refine o_goto (pc := 71) 0 dX3_writeWaiting_71 rfl ?_
          refine o_keep [true, true, false] ?_
          exact ih _ hf K
        clear hf
        refine o_icmp_ne (pc := 53) 60 dX3_writeWaiting_53 rfl (fun hc => ?_) (fun hc => ?_)
        · have hr11 := it_f hr11 hc
          refine o_iconst (pc := 60) (v := 0) dX3_writeWaiting_60 rfl ?_
          obtain rfl := Option.some.inj hr11
          exact K12
        · have hr11 := it_t hr11 hc
          refine o_iconst (pc := 56) (v := 1) dX3_writeWaiting_56 rfl ?_
          refine o_goto (pc := 57) 61 dX3_writeWaiting_57 rfl ?_
          obtain rfl := Option.some.inj hr11
          exact K12
      · have hf := it_f hf hc
        obtain rfl := Option.some.inj hf
        refine o_keep [false, false, false] ?_
        exact K
    clear hf
    refine o_if_le (pc := 4) 74 dX3_writeWaiting_4 rfl (fun hc => ?_) (fun hc => ?_)
    · have hr2 := it_t hr2 hc
      obtain rfl := Option.some.inj hr2
      exact KB3.2 (by decide)
    · have hr2 := it_f hr2 hc
      refine o_aload_n (pc := 7) dX3_writeWaiting_7 rfl ?_
      refine c_getR (pc := 8) 3 6 11 15 (by decide) (by decide) rfl (lt48 (by decide)) rfl rfl lkX3_28 dX3_writeWaiting_8 ?_
      refine o_aload_n (pc := 11) dX3_writeWaiting_11 rfl ?_
      refine c_getI (pc := 12) 3 7 11 (by decide) (by decide) rfl (lt48 (by decide)) rfl lkX3_31 dX3_writeWaiting_12 ?_
      refine o_iconst (pc := 15) (v := 1) dX3_writeWaiting_15 rfl ?_
      refine o_isub (pc := 16) dX3_writeWaiting_16 ?_
      obtain ⟨hk4, hr2⟩ := ck_elim hr2
      refine c_iald (pc := 17) (lt48 (by decide)) rfl hk4 dX3_writeWaiting_17 ?_
      obtain ⟨q6, hk5, hr2⟩ := bd_elim hr2
      refine c_callS (pc := 18) [.int (gi s 15 (ix ((gi s 11 7) - 1)))] dX3_writeWaiting_18 (kX4_tightnessOf hk5) stX3_164 ⟨by decide, by decide, by decide, by decide⟩ ⟨rfl, rfl⟩ (Nat.le_of_ble_eq_true rfl) ?_
      show Rn g mdX3_writeWaiting 21 [some (.ref 11), some (.int a1), none] [.int q6] (cW t s) 0 0 r h2
      refine o_iload_n (pc := 21) dX3_writeWaiting_21 rfl ?_
      refine o_icmp_lt (pc := 22) 74 dX3_writeWaiting_22 rfl (fun hc => ?_) (fun hc => ?_)
      · have hr2 := it_t hr2 hc
        obtain rfl := Option.some.inj hr2
        exact KB3.2 (by decide)
      · have hr2 := it_f hr2 hc
        obtain rfl := Option.some.inj hr2
        exact KB3.1 rfl
set_option maxRecDepth 20000 in
theorem kX3_writeWaiting {g : GX} {t : PH} {p0 : Int32} {s : ST} {q : ST} (hf : fX3_writeWaiting p0 s = some q) : Cn g mdX3_writeWaiting [.ref 11, .int p0] (cW t s) none (cW t q) := by
  refine Cn.of (by decide) (Nat.le_of_ble_eq_true rfl) ?_
  show Rn g mdX3_writeWaiting 0 [some (.ref 11), some (.int p0), none] [] (cW t s) 0 0 none (cW t q)
  unfold fX3_writeWaiting at hf
  obtain ⟨w16, hl17, hf⟩ := bd_elim hf
  have K18 : Rn g mdX3_writeWaiting 74 [none, none, none] [] (cW t w16) 0 0 none (cW t q) := by
    obtain rfl := Option.some.inj hf
    exact o_return (pc := 74) dX3_writeWaiting_74 rfl (Nat.zero_le _) (Nat.zero_le _)
  exact kX3_writeWaiting_L0 _ _ _ hl17 K18
def fX3_endClause (s : ST) : Option (ST) :=
  (if (gi s 11 12) = 0 then some 0 else some 1 : Option (Int32)).bind (fun w1 => (fX3_writeWaiting 0 s).bind (fun q5 => (if w1 = 0 then ck (inb (gi q5 11 5) 12) (lt (si q5 14 (ix (gi q5 11 5)) (gi q5 11 2)) (fun s10 => some s10)) else some q5 : Option (ST)).bind (fun w6 => lt (si w6 11 5 ((gi w6 11 5) + 1)) (fun s11 => ck (inb (gi s11 11 5) 13) (lt (si s11 13 (ix (gi s11 11 5)) (gi s11 11 2)) (fun s13 => (if (gi s13 1 4) = 59 then some 0 else some 4 : Option (Int32)).bind (fun w14 => lt (si s13 11 11 w14) (fun s17 => some s17))))))))
set_option maxRecDepth 20000 in
theorem kX3_endClause {g : GX} {t : PH} {s : ST} {q : ST} (hf : fX3_endClause s = some q) : Cn g mdX3_endClause [.ref 11] (cW t s) none (cW t q) := by
  refine Cn.of (by decide) (Nat.le_of_ble_eq_true rfl) ?_
  show Rn g mdX3_endClause 0 [some (.ref 11), none] [] (cW t s) 0 0 none (cW t q)
  unfold fX3_endClause at hf
  refine o_aload_n (pc := 0) dX3_endClause_0 rfl ?_
  refine c_getI (pc := 1) 3 12 11 (by decide) (by decide) rfl (lt48 (by decide)) rfl lkX3_46 dX3_endClause_1 ?_
  obtain ⟨w1, hr2, hf⟩ := bd_elim hf
  have K3 : Rn g mdX3_endClause 12 [some (.ref 11), none] [.int w1] (cW t s) 0 0 none (cW t q) := by
    refine o_istore_n (pc := 12) dX3_endClause_12 (by decide) rfl ?_
    show Rn g mdX3_endClause 13 [some (.ref 11), some (.int w1)] [] (cW t s) 0 0 none (cW t q)
    refine o_aload_n (pc := 13) dX3_endClause_13 rfl ?_
    refine o_iconst (pc := 14) (v := 0) dX3_endClause_14 rfl ?_
    obtain ⟨q5, hk4, hf⟩ := bd_elim hf
    refine c_callV (pc := 15) 3 11 [.int 0] (by decide) (lt48 (by decide)) rfl dX3_endClause_15 (kX3_writeWaiting hk4) stX3_155 ⟨by decide, by decide, by decide, by decide⟩ ⟨rfl, rfl⟩ (Nat.le_of_ble_eq_true rfl) ?_
    show Rn g mdX3_endClause 18 [some (.ref 11), some (.int w1)] [] (cW t q5) 0 0 none (cW t q)
    refine o_iload_n (pc := 18) dX3_endClause_18 rfl ?_
    obtain ⟨w6, hr7, hf⟩ := bd_elim hf
    have K8 : Rn g mdX3_endClause 35 [some (.ref 11), none] [] (cW t w6) 0 0 none (cW t q) := by
      refine o_aload_n (pc := 35) dX3_endClause_35 rfl ?_
      refine o_dup (pc := 36) dX3_endClause_36 rfl ?_
      refine c_getI (pc := 37) 3 5 11 (by decide) (by decide) rfl (lt48 (by decide)) rfl lkX3_25 dX3_endClause_37 ?_
      refine o_iconst (pc := 40) (v := 1) dX3_endClause_40 rfl ?_
      refine o_iadd (pc := 41) dX3_endClause_41 ?_
      refine c_putI (pc := 42) 3 5 11 (by decide) (by decide) rfl rfl (lt48 (by decide)) rfl lkX3_25 ⟨rfl, rfl⟩ dX3_endClause_42 ?_
      refine lz_s (cW t) hf (fun s11 hf => ?_)
      show Rn g mdX3_endClause 45 [some (.ref 11), none] [] (cW t s11) 0 0 none (cW t q)
      refine o_aload_n (pc := 45) dX3_endClause_45 rfl ?_
      refine c_getR (pc := 46) 3 3 11 13 (by decide) (by decide) rfl (lt48 (by decide)) rfl rfl lkX3_19 dX3_endClause_46 ?_
      refine o_aload_n (pc := 49) dX3_endClause_49 rfl ?_
      refine c_getI (pc := 50) 3 5 11 (by decide) (by decide) rfl (lt48 (by decide)) rfl lkX3_25 dX3_endClause_50 ?_
      refine o_aload_n (pc := 53) dX3_endClause_53 rfl ?_
      refine c_getI (pc := 54) 3 2 11 (by decide) (by decide) rfl (lt48 (by decide)) rfl lkX3_15 dX3_endClause_54 ?_
      obtain ⟨hk12, hf⟩ := ck_elim hf
      refine c_iast (pc := 57) (lt48 (by decide)) rfl hk12 dX3_endClause_57 ?_
      refine lz_s (cW t) hf (fun s13 hf => ?_)
      show Rn g mdX3_endClause 58 [some (.ref 11), none] [] (cW t s13) 0 0 none (cW t q)
      refine o_aload_n (pc := 58) dX3_endClause_58 rfl ?_
      refine o_aload_n (pc := 59) dX3_endClause_59 rfl ?_
      refine c_getR (pc := 60) 3 0 11 1 (by decide) (by decide) rfl (lt48 (by decide)) rfl rfl lkX3_49 dX3_endClause_60 ?_
      refine c_getI (pc := 63) 5 4 1 (by decide) (by decide) rfl (lt48 (by decide)) rfl lkX3_97 dX3_endClause_63 ?_
      refine o_bipush (pc := 66) (v := 59) dX3_endClause_66 rfl ?_
      obtain ⟨w14, hr15, hf⟩ := bd_elim hf
      have K16 : Rn g mdX3_endClause 76 [none, none] [.int w14, .ref 11] (cW t s13) 0 0 none (cW t q) := by
        refine c_putI (pc := 76) 3 11 11 (by decide) (by decide) rfl rfl (lt48 (by decide)) rfl lkX3_43 ⟨rfl, rfl⟩ dX3_endClause_76 ?_
        refine lz_s (cW t) hf (fun s17 hf => ?_)
        show Rn g mdX3_endClause 79 [none, none] [] (cW t s17) 0 0 none (cW t q)
        obtain rfl := Option.some.inj hf
        exact o_return (pc := 79) dX3_endClause_79 rfl (Nat.zero_le _) (Nat.zero_le _)
      clear hf
      refine o_icmp_ne (pc := 68) 75 dX3_endClause_68 rfl (fun hc => ?_) (fun hc => ?_)
      · have hr15 := it_f hr15 hc
        refine o_iconst (pc := 75) (v := 4) dX3_endClause_75 rfl ?_
        obtain rfl := Option.some.inj hr15
        refine o_keep [false, false] ?_
        exact K16
      · have hr15 := it_t hr15 hc
        refine o_iconst (pc := 71) (v := 0) dX3_endClause_71 rfl ?_
        refine o_goto (pc := 72) 76 dX3_endClause_72 rfl ?_
        obtain rfl := Option.some.inj hr15
        refine o_keep [false, false] ?_
        exact K16
    clear hf
    refine o_if_ne (pc := 19) 35 dX3_endClause_19 rfl (fun hc => ?_) (fun hc => ?_)
    · have hr7 := it_f hr7 hc
      obtain rfl := Option.some.inj hr7
      refine o_keep [true, false] ?_
      exact K8
    · have hr7 := it_t hr7 hc
      refine o_aload_n (pc := 22) dX3_endClause_22 rfl ?_
      refine c_getR (pc := 23) 3 4 11 14 (by decide) (by decide) rfl (lt48 (by decide)) rfl rfl lkX3_22 dX3_endClause_23 ?_
      refine o_aload_n (pc := 26) dX3_endClause_26 rfl ?_
      refine c_getI (pc := 27) 3 5 11 (by decide) (by decide) rfl (lt48 (by decide)) rfl lkX3_25 dX3_endClause_27 ?_
      refine o_aload_n (pc := 30) dX3_endClause_30 rfl ?_
      refine c_getI (pc := 31) 3 2 11 (by decide) (by decide) rfl (lt48 (by decide)) rfl lkX3_15 dX3_endClause_31 ?_
      obtain ⟨hk9, hr7⟩ := ck_elim hr7
      refine c_iast (pc := 34) (lt48 (by decide)) rfl hk9 dX3_endClause_34 ?_
      refine lz_s (cW t) hr7 (fun s10 hr7 => ?_)
      show Rn g mdX3_endClause 35 [some (.ref 11), some (.int w1)] [] (cW t s10) 0 0 none (cW t q)
      obtain rfl := Option.some.inj hr7
      refine o_keep [true, false] ?_
      exact K8
  clear hf
  refine o_if_eq (pc := 4) 11 dX3_endClause_4 rfl (fun hc => ?_) (fun hc => ?_)
  · have hr2 := it_t hr2 hc
    refine o_iconst (pc := 11) (v := 0) dX3_endClause_11 rfl ?_
    obtain rfl := Option.some.inj hr2
    exact K3
  · have hr2 := it_f hr2 hc
    refine o_iconst (pc := 7) (v := 1) dX3_endClause_7 rfl ?_
    refine o_goto (pc := 8) 12 dX3_endClause_8 rfl ?_
    obtain rfl := Option.some.inj hr2
    exact K3
def fX3_isEndOfClause (s : ST) : Option (Int32) :=
  (if (gi s 11 10) = 0 then (if (gi s 1 4) = 59 then some true else if (gi s 1 4) = (-1) then some true else some false : Option Bool).bind (fun b4 => if b4 = true then some 1 else some 0) else some 0 : Option (Int32)).bind (fun w1 => ck (bz w1) (some w1))
set_option maxRecDepth 20000 in
theorem kX3_isEndOfClause {g : GX} {t : PH} {s : ST} {q : Int32} (hf : fX3_isEndOfClause s = some q) : Cn g mdX3_isEndOfClause [.ref 11] (cW t s) (some (.int q)) (cW t s) := by
  refine Cn.of (by decide) (Nat.le_of_ble_eq_true rfl) ?_
  show Rn g mdX3_isEndOfClause 0 [some (.ref 11)] [] (cW t s) 0 0 (some (.int q)) (cW t s)
  unfold fX3_isEndOfClause at hf
  refine o_aload_n (pc := 0) dX3_isEndOfClause_0 rfl ?_
  refine c_getI (pc := 1) 3 10 11 (by decide) (by decide) rfl (lt48 (by decide)) rfl lkX3_40 dX3_isEndOfClause_1 ?_
  obtain ⟨w1, hr2, hf⟩ := bd_elim hf
  have K3 : Rn g mdX3_isEndOfClause 35 [none] [.int w1] (cW t s) 0 0 (some (.int q)) (cW t s) := by
    obtain ⟨hk7, hf⟩ := ck_elim hf
    obtain rfl := Option.some.inj hf
    exact o_zreturn (pc := 35) dX3_isEndOfClause_35 rfl (bz_n hk7).1 (Nat.zero_le _) (Nat.zero_le _)
  clear hf
  refine o_if_ne (pc := 4) 34 dX3_isEndOfClause_4 rfl (fun hc => ?_) (fun hc => ?_)
  · have hr2 := it_f hr2 hc
    refine o_iconst (pc := 34) (v := 0) dX3_isEndOfClause_34 rfl ?_
    obtain rfl := Option.some.inj hr2
    refine o_keep [false] ?_
    exact K3
  · have hr2 := it_t hr2 hc
    refine o_aload_n (pc := 7) dX3_isEndOfClause_7 rfl ?_
    refine c_getR (pc := 8) 3 0 11 1 (by decide) (by decide) rfl (lt48 (by decide)) rfl rfl lkX3_49 dX3_isEndOfClause_8 ?_
    refine c_getI (pc := 11) 5 4 1 (by decide) (by decide) rfl (lt48 (by decide)) rfl lkX3_97 dX3_isEndOfClause_11 ?_
    refine o_bipush (pc := 14) (v := 59) dX3_isEndOfClause_14 rfl ?_
    obtain ⟨b4, hr5, hr2⟩ := bd_elim hr2
    have KB6 : (b4 = true → Rn g mdX3_isEndOfClause 30 [some (.ref 11)] [] (cW t s) 0 0 (some (.int q)) (cW t s)) ∧ (¬ b4 = true → Rn g mdX3_isEndOfClause 34 [some (.ref 11)] [] (cW t s) 0 0 (some (.int q)) (cW t s)) := by
      refine ⟨fun hc => ?_, fun hc => ?_⟩
      · have hr2 := it_t hr2 hc
        refine o_iconst (pc := 30) (v := 1) dX3_isEndOfClause_30 rfl ?_
        refine o_goto (pc := 31) 35 dX3_isEndOfClause_31 rfl ?_
        obtain rfl := Option.some.inj hr2
        refine o_keep [false] ?_
        exact K3
      · have hr2 := it_f hr2 hc
        refine o_iconst (pc := 34) (v := 0) dX3_isEndOfClause_34 rfl ?_
        obtain rfl := Option.some.inj hr2
        refine o_keep [false] ?_
        exact K3
    clear hr2
    refine o_icmp_eq (pc := 16) 30 dX3_isEndOfClause_16 rfl (fun hc => ?_) (fun hc => ?_)
    · have hr5 := it_t hr5 hc
      obtain rfl := Option.some.inj hr5
      exact KB6.1 rfl
    · have hr5 := it_f hr5 hc
      refine o_aload_n (pc := 19) dX3_isEndOfClause_19 rfl ?_
      refine c_getR (pc := 20) 3 0 11 1 (by decide) (by decide) rfl (lt48 (by decide)) rfl rfl lkX3_49 dX3_isEndOfClause_20 ?_
      refine c_getI (pc := 23) 5 4 1 (by decide) (by decide) rfl (lt48 (by decide)) rfl lkX3_97 dX3_isEndOfClause_23 ?_
      refine o_iconst (pc := 26) (v := (-1)) dX3_isEndOfClause_26 rfl ?_
      refine o_icmp_ne (pc := 27) 34 dX3_isEndOfClause_27 rfl (fun hc => ?_) (fun hc => ?_)
      · have hr5 := it_f hr5 hc
        obtain rfl := Option.some.inj hr5
        exact KB6.2 (by decide)
      · have hr5 := it_t hr5 hc
        obtain rfl := Option.some.inj hr5
        exact KB6.1 rfl
def fX3_join (p0 : Int32) (p1 : Int32) (s : ST) : Option (ST) :=
  (fX4_tightnessOf p0 s).bind (fun q2 => (fX3_writeWaiting q2 s).bind (fun q4 => (fX3_letWait p0 q4).bind (fun q6 => lt (si q6 11 11 p1) (fun s7 => some s7))))
set_option maxRecDepth 20000 in
theorem kX3_join {g : GX} {t : PH} {p0 : Int32} {p1 : Int32} {s : ST} {q : ST} (hf : fX3_join p0 p1 s = some q) : Cn g mdX3_join [.ref 11, .int p0, .int p1] (cW t s) none (cW t q) := by
  refine Cn.of (by decide) (Nat.le_of_ble_eq_true rfl) ?_
  show Rn g mdX3_join 0 [some (.ref 11), some (.int p0), some (.int p1)] [] (cW t s) 0 0 none (cW t q)
  unfold fX3_join at hf
  refine o_aload_n (pc := 0) dX3_join_0 rfl ?_
  refine o_iload_n (pc := 1) dX3_join_1 rfl ?_
  obtain ⟨q2, hk1, hf⟩ := bd_elim hf
  refine c_callS (pc := 2) [.int p0] dX3_join_2 (kX4_tightnessOf hk1) stX3_164 ⟨by decide, by decide, by decide, by decide⟩ ⟨rfl, rfl⟩ (Nat.le_of_ble_eq_true rfl) ?_
  show Rn g mdX3_join 5 [some (.ref 11), some (.int p0), some (.int p1)] [.int q2, .ref 11] (cW t s) 0 0 none (cW t q)
  obtain ⟨q4, hk3, hf⟩ := bd_elim hf
  refine c_callV (pc := 5) 3 11 [.int q2] (by decide) (lt48 (by decide)) rfl dX3_join_5 (kX3_writeWaiting hk3) stX3_155 ⟨by decide, by decide, by decide, by decide⟩ ⟨rfl, rfl⟩ (Nat.le_of_ble_eq_true rfl) ?_
  show Rn g mdX3_join 8 [some (.ref 11), some (.int p0), some (.int p1)] [] (cW t q4) 0 0 none (cW t q)
  refine o_aload_n (pc := 8) dX3_join_8 rfl ?_
  refine o_iload_n (pc := 9) dX3_join_9 rfl ?_
  obtain ⟨q6, hk5, hf⟩ := bd_elim hf
  refine c_callV (pc := 10) 3 11 [.int p0] (by decide) (lt48 (by decide)) rfl dX3_join_10 (kX3_letWait hk5) stX3_107 ⟨by decide, by decide, by decide, by decide⟩ ⟨rfl, rfl⟩ (Nat.le_of_ble_eq_true rfl) ?_
  show Rn g mdX3_join 13 [some (.ref 11), some (.int p0), some (.int p1)] [] (cW t q6) 0 0 none (cW t q)
  refine o_aload_n (pc := 13) dX3_join_13 rfl ?_
  refine o_iload_n (pc := 14) dX3_join_14 rfl ?_
  refine c_putI (pc := 15) 3 11 11 (by decide) (by decide) rfl rfl (lt48 (by decide)) rfl lkX3_43 ⟨rfl, rfl⟩ dX3_join_15 ?_
  refine lz_s (cW t) hf (fun s7 hf => ?_)
  show Rn g mdX3_join 18 [some (.ref 11), some (.int p0), some (.int p1)] [] (cW t s7) 0 0 none (cW t q)
  obtain rfl := Option.some.inj hf
  exact o_return (pc := 18) dX3_join_18 rfl (Nat.zero_le _) (Nat.zero_le _)
def fX3_readBehindFact (s : ST) : Option (ST) :=
  (fX6_isWord 1000022 s).bind (fun q2 => (if q2 = 0 then (fX6_isWord 1000023 s).bind (fun q7 => if q7 = 0 then (if (gi s 1 4) = 93 then if (gi s 11 10) ≤ 0 then some false else some true else some false : Option Bool).bind (fun b8 => if b8 = true then (fX4_tightnessOf 15 s).bind (fun q12 => (fX3_writeWaiting (q12 + 1) s).bind (fun q14 => lt (si q14 11 7 (imx 0 ((gi q14 11 7) - 1))) (fun s15 => lt (si s15 11 9 ((gi s15 11 9) - 1)) (fun s16 => lt (si s16 11 10 ((gi s16 11 10) - 1)) (fun s17 => lt (si s17 11 12 3) (fun s18 => some s18)))))) else (fX6_blame 0 s).bind (fun q20 => some q20)) else (fX3_join 13 1 s).bind (fun q22 => lt (si q22 11 12 1) (fun s23 => some s23))) else (fX3_join 12 1 s).bind (fun q25 => lt (si q25 11 12 1) (fun s26 => some s26)) : Option (ST)).bind (fun w3 => some w3))
set_option maxRecDepth 20000 in
theorem kX3_readBehindFact {g : GX} {t : PH} {s : ST} {q : ST} (hf : fX3_readBehindFact s = some q) : Cn g mdX3_readBehindFact [.ref 11] (cW t s) none (cW t q) := by
  refine Cn.of (by decide) (Nat.le_of_ble_eq_true rfl) ?_
  show Rn g mdX3_readBehindFact 0 [some (.ref 11)] [] (cW t s) 0 0 none (cW t q)
  unfold fX3_readBehindFact at hf
  refine o_aload_n (pc := 0) dX3_readBehindFact_0 rfl ?_
  refine c_getR (pc := 1) 3 0 11 1 (by decide) (by decide) rfl (lt48 (by decide)) rfl rfl lkX3_49 dX3_readBehindFact_1 ?_
  refine o_ldcS (pc := 4) (i := 22) dX3_readBehindFact_4 rfl rfl rfl ?_
  show Rn g mdX3_readBehindFact 6 [some (.ref 11)] [.ref 1000022, .ref 1] (cW t s) 0 0 none (cW t q)
  obtain ⟨q2, hk1, hf⟩ := bd_elim hf
  refine c_callV (pc := 6) 5 1 [.ref 1000022] (by decide) (lt48 (by decide)) rfl dX3_readBehindFact_6 (kX6_isWord hk1) stX3_89 ⟨by decide, by decide, by decide, by decide⟩ ⟨rfl, rfl⟩ (Nat.le_of_ble_eq_true rfl) ?_
  show Rn g mdX3_readBehindFact 9 [some (.ref 11)] [.int q2] (cW t s) 0 0 none (cW t q)
  obtain ⟨w3, hr4, hf⟩ := bd_elim hf
  have K5 : Rn g mdX3_readBehindFact 134 [none] [] (cW t w3) 0 0 none (cW t q) := by
    obtain rfl := Option.some.inj hf
    exact o_return (pc := 134) dX3_readBehindFact_134 rfl (Nat.zero_le _) (Nat.zero_le _)
  clear hf
  refine o_if_eq (pc := 9) 27 dX3_readBehindFact_9 rfl (fun hc => ?_) (fun hc => ?_)
  · have hr4 := it_t hr4 hc
    refine o_aload_n (pc := 27) dX3_readBehindFact_27 rfl ?_
    refine c_getR (pc := 28) 3 0 11 1 (by decide) (by decide) rfl (lt48 (by decide)) rfl rfl lkX3_49 dX3_readBehindFact_28 ?_
    refine o_ldcS (pc := 31) (i := 23) dX3_readBehindFact_31 rfl rfl rfl ?_
    show Rn g mdX3_readBehindFact 33 [some (.ref 11)] [.ref 1000023, .ref 1] (cW t s) 0 0 none (cW t q)
    obtain ⟨q7, hk6, hr4⟩ := bd_elim hr4
    refine c_callV (pc := 33) 5 1 [.ref 1000023] (by decide) (lt48 (by decide)) rfl dX3_readBehindFact_33 (kX6_isWord hk6) stX3_89 ⟨by decide, by decide, by decide, by decide⟩ ⟨rfl, rfl⟩ (Nat.le_of_ble_eq_true rfl) ?_
    show Rn g mdX3_readBehindFact 36 [some (.ref 11)] [.int q7] (cW t s) 0 0 none (cW t q)
    refine o_if_eq (pc := 36) 54 dX3_readBehindFact_36 rfl (fun hc => ?_) (fun hc => ?_)
    · have hr4 := it_t hr4 hc
      refine o_aload_n (pc := 54) dX3_readBehindFact_54 rfl ?_
      refine c_getR (pc := 55) 3 0 11 1 (by decide) (by decide) rfl (lt48 (by decide)) rfl rfl lkX3_49 dX3_readBehindFact_55 ?_
      refine c_getI (pc := 58) 5 4 1 (by decide) (by decide) rfl (lt48 (by decide)) rfl lkX3_97 dX3_readBehindFact_58 ?_
      refine o_bipush (pc := 61) (v := 93) dX3_readBehindFact_61 rfl ?_
      obtain ⟨b8, hr9, hr4⟩ := bd_elim hr4
      have KB10 : (b8 = true → Rn g mdX3_readBehindFact 73 [some (.ref 11)] [] (cW t s) 0 0 none (cW t q)) ∧ (¬ b8 = true → Rn g mdX3_readBehindFact 126 [some (.ref 11)] [] (cW t s) 0 0 none (cW t q)) := by
        refine ⟨fun hc => ?_, fun hc => ?_⟩
        · have hr4 := it_t hr4 hc
          refine o_aload_n (pc := 73) dX3_readBehindFact_73 rfl ?_
          refine o_bipush (pc := 74) (v := 15) dX3_readBehindFact_74 rfl ?_
          obtain ⟨q12, hk11, hr4⟩ := bd_elim hr4
          refine c_callS (pc := 76) [.int 15] dX3_readBehindFact_76 (kX4_tightnessOf hk11) stX3_164 ⟨by decide, by decide, by decide, by decide⟩ ⟨rfl, rfl⟩ (Nat.le_of_ble_eq_true rfl) ?_
          show Rn g mdX3_readBehindFact 79 [some (.ref 11)] [.int q12, .ref 11] (cW t s) 0 0 none (cW t q)
          refine o_iconst (pc := 79) (v := 1) dX3_readBehindFact_79 rfl ?_
          refine o_iadd (pc := 80) dX3_readBehindFact_80 ?_
          obtain ⟨q14, hk13, hr4⟩ := bd_elim hr4
          refine c_callV (pc := 81) 3 11 [.int (q12 + 1)] (by decide) (lt48 (by decide)) rfl dX3_readBehindFact_81 (kX3_writeWaiting hk13) stX3_155 ⟨by decide, by decide, by decide, by decide⟩ ⟨rfl, rfl⟩ (Nat.le_of_ble_eq_true rfl) ?_
          show Rn g mdX3_readBehindFact 84 [some (.ref 11)] [] (cW t q14) 0 0 none (cW t q)
          refine o_aload_n (pc := 84) dX3_readBehindFact_84 rfl ?_
          refine o_iconst (pc := 85) (v := 0) dX3_readBehindFact_85 rfl ?_
          refine o_aload_n (pc := 86) dX3_readBehindFact_86 rfl ?_
          refine c_getI (pc := 87) 3 7 11 (by decide) (by decide) rfl (lt48 (by decide)) rfl lkX3_31 dX3_readBehindFact_87 ?_
          refine o_iconst (pc := 90) (v := 1) dX3_readBehindFact_90 rfl ?_
          refine o_isub (pc := 91) dX3_readBehindFact_91 ?_
          refine o_max (pc := 92) lmX3_167 dX3_readBehindFact_92 (by decide) (Nat.le_of_ble_eq_true rfl) (Nat.zero_le _) (Nat.zero_le _) ?_
          show Rn g mdX3_readBehindFact 95 [some (.ref 11)] [.int (imx 0 ((gi q14 11 7) - 1)), .ref 11] (cW t q14) 0 0 none (cW t q)
          refine c_putI (pc := 95) 3 7 11 (by decide) (by decide) rfl rfl (lt48 (by decide)) rfl lkX3_31 ⟨rfl, rfl⟩ dX3_readBehindFact_95 ?_
          refine lz_s (cW t) hr4 (fun s15 hr4 => ?_)
          show Rn g mdX3_readBehindFact 98 [some (.ref 11)] [] (cW t s15) 0 0 none (cW t q)
          refine o_aload_n (pc := 98) dX3_readBehindFact_98 rfl ?_
          refine o_dup (pc := 99) dX3_readBehindFact_99 rfl ?_
          refine c_getI (pc := 100) 3 9 11 (by decide) (by decide) rfl (lt48 (by decide)) rfl lkX3_37 dX3_readBehindFact_100 ?_
          refine o_iconst (pc := 103) (v := 1) dX3_readBehindFact_103 rfl ?_
          refine o_isub (pc := 104) dX3_readBehindFact_104 ?_
          refine c_putI (pc := 105) 3 9 11 (by decide) (by decide) rfl rfl (lt48 (by decide)) rfl lkX3_37 ⟨rfl, rfl⟩ dX3_readBehindFact_105 ?_
          refine lz_s (cW t) hr4 (fun s16 hr4 => ?_)
          show Rn g mdX3_readBehindFact 108 [some (.ref 11)] [] (cW t s16) 0 0 none (cW t q)
          refine o_aload_n (pc := 108) dX3_readBehindFact_108 rfl ?_
          refine o_dup (pc := 109) dX3_readBehindFact_109 rfl ?_
          refine c_getI (pc := 110) 3 10 11 (by decide) (by decide) rfl (lt48 (by decide)) rfl lkX3_40 dX3_readBehindFact_110 ?_
          refine o_iconst (pc := 113) (v := 1) dX3_readBehindFact_113 rfl ?_
          refine o_isub (pc := 114) dX3_readBehindFact_114 ?_
          refine c_putI (pc := 115) 3 10 11 (by decide) (by decide) rfl rfl (lt48 (by decide)) rfl lkX3_40 ⟨rfl, rfl⟩ dX3_readBehindFact_115 ?_
          refine lz_s (cW t) hr4 (fun s17 hr4 => ?_)
          show Rn g mdX3_readBehindFact 118 [some (.ref 11)] [] (cW t s17) 0 0 none (cW t q)
          refine o_aload_n (pc := 118) dX3_readBehindFact_118 rfl ?_
          refine o_iconst (pc := 119) (v := 3) dX3_readBehindFact_119 rfl ?_
          refine c_putI (pc := 120) 3 12 11 (by decide) (by decide) rfl rfl (lt48 (by decide)) rfl lkX3_46 ⟨rfl, rfl⟩ dX3_readBehindFact_120 ?_
          refine lz_s (cW t) hr4 (fun s18 hr4 => ?_)
          show Rn g mdX3_readBehindFact 123 [some (.ref 11)] [] (cW t s18) 0 0 none (cW t q)
          refine o_goto (pc := 123) 134 dX3_readBehindFact_123 rfl ?_
          obtain rfl := Option.some.inj hr4
          refine o_keep [false] ?_
          exact K5
        · have hr4 := it_f hr4 hc
          refine o_aload_n (pc := 126) dX3_readBehindFact_126 rfl ?_
          refine c_getR (pc := 127) 3 0 11 1 (by decide) (by decide) rfl (lt48 (by decide)) rfl rfl lkX3_49 dX3_readBehindFact_127 ?_
          refine o_iconst (pc := 130) (v := 0) dX3_readBehindFact_130 rfl ?_
          obtain ⟨q20, hk19, hr4⟩ := bd_elim hr4
          refine c_callV (pc := 131) 5 1 [.int 0] (by decide) (lt48 (by decide)) rfl dX3_readBehindFact_131 (kX6_blame hk19) stX3_93 ⟨by decide, by decide, by decide, by decide⟩ ⟨rfl, rfl⟩ (Nat.le_of_ble_eq_true rfl) ?_
          show Rn g mdX3_readBehindFact 134 [some (.ref 11)] [] (cW t q20) 0 0 none (cW t q)
          obtain rfl := Option.some.inj hr4
          refine o_keep [false] ?_
          exact K5
      clear hr4
      refine o_icmp_ne (pc := 63) 126 dX3_readBehindFact_63 rfl (fun hc => ?_) (fun hc => ?_)
      · have hr9 := it_f hr9 hc
        obtain rfl := Option.some.inj hr9
        exact KB10.2 (by decide)
      · have hr9 := it_t hr9 hc
        refine o_aload_n (pc := 66) dX3_readBehindFact_66 rfl ?_
        refine c_getI (pc := 67) 3 10 11 (by decide) (by decide) rfl (lt48 (by decide)) rfl lkX3_40 dX3_readBehindFact_67 ?_
        refine o_if_le (pc := 70) 126 dX3_readBehindFact_70 rfl (fun hc => ?_) (fun hc => ?_)
        · have hr9 := it_t hr9 hc
          obtain rfl := Option.some.inj hr9
          exact KB10.2 (by decide)
        · have hr9 := it_f hr9 hc
          obtain rfl := Option.some.inj hr9
          exact KB10.1 rfl
    · have hr4 := it_f hr4 hc
      refine o_aload_n (pc := 39) dX3_readBehindFact_39 rfl ?_
      refine o_bipush (pc := 40) (v := 13) dX3_readBehindFact_40 rfl ?_
      refine o_iconst (pc := 42) (v := 1) dX3_readBehindFact_42 rfl ?_
      obtain ⟨q22, hk21, hr4⟩ := bd_elim hr4
      refine c_callV (pc := 43) 3 11 [.int 13, .int 1] (by decide) (lt48 (by decide)) rfl dX3_readBehindFact_43 (kX3_join hk21) stX3_133 ⟨by decide, by decide, by decide, by decide⟩ ⟨rfl, rfl⟩ (Nat.le_of_ble_eq_true rfl) ?_
      show Rn g mdX3_readBehindFact 46 [some (.ref 11)] [] (cW t q22) 0 0 none (cW t q)
      refine o_aload_n (pc := 46) dX3_readBehindFact_46 rfl ?_
      refine o_iconst (pc := 47) (v := 1) dX3_readBehindFact_47 rfl ?_
      refine c_putI (pc := 48) 3 12 11 (by decide) (by decide) rfl rfl (lt48 (by decide)) rfl lkX3_46 ⟨rfl, rfl⟩ dX3_readBehindFact_48 ?_
      refine lz_s (cW t) hr4 (fun s23 hr4 => ?_)
      show Rn g mdX3_readBehindFact 51 [some (.ref 11)] [] (cW t s23) 0 0 none (cW t q)
      refine o_goto (pc := 51) 134 dX3_readBehindFact_51 rfl ?_
      obtain rfl := Option.some.inj hr4
      refine o_keep [false] ?_
      exact K5
  · have hr4 := it_f hr4 hc
    refine o_aload_n (pc := 12) dX3_readBehindFact_12 rfl ?_
    refine o_bipush (pc := 13) (v := 12) dX3_readBehindFact_13 rfl ?_
    refine o_iconst (pc := 15) (v := 1) dX3_readBehindFact_15 rfl ?_
    obtain ⟨q25, hk24, hr4⟩ := bd_elim hr4
    refine c_callV (pc := 16) 3 11 [.int 12, .int 1] (by decide) (lt48 (by decide)) rfl dX3_readBehindFact_16 (kX3_join hk24) stX3_133 ⟨by decide, by decide, by decide, by decide⟩ ⟨rfl, rfl⟩ (Nat.le_of_ble_eq_true rfl) ?_
    show Rn g mdX3_readBehindFact 19 [some (.ref 11)] [] (cW t q25) 0 0 none (cW t q)
    refine o_aload_n (pc := 19) dX3_readBehindFact_19 rfl ?_
    refine o_iconst (pc := 20) (v := 1) dX3_readBehindFact_20 rfl ?_
    refine c_putI (pc := 21) 3 12 11 (by decide) (by decide) rfl rfl (lt48 (by decide)) rfl lkX3_46 ⟨rfl, rfl⟩ dX3_readBehindFact_21 ?_
    refine lz_s (cW t) hr4 (fun s26 hr4 => ?_)
    show Rn g mdX3_readBehindFact 24 [some (.ref 11)] [] (cW t s26) 0 0 none (cW t q)
    refine o_goto (pc := 24) 134 dX3_readBehindFact_24 rfl ?_
    obtain rfl := Option.some.inj hr4
    refine o_keep [false] ?_
    exact K5
def fX3_readIf (s : ST) : Option (ST) :=
  (fX6_isWord 1000021 s).bind (fun q2 => if q2 = 0 then (fX6_blame 0 s).bind (fun q10 => some q10) else (fX3_writeWaiting 0 s).bind (fun q4 => ck (inb (gi q4 11 5) 12) (lt (si q4 14 (ix (gi q4 11 5)) (gi q4 11 2)) (fun s6 => lt (si s6 11 12 1) (fun s7 => lt (si s7 11 11 1) (fun s8 => some s8))))))
set_option maxRecDepth 20000 in
theorem kX3_readIf {g : GX} {t : PH} {s : ST} {q : ST} (hf : fX3_readIf s = some q) : Cn g mdX3_readIf [.ref 11] (cW t s) none (cW t q) := by
  refine Cn.of (by decide) (Nat.le_of_ble_eq_true rfl) ?_
  show Rn g mdX3_readIf 0 [some (.ref 11)] [] (cW t s) 0 0 none (cW t q)
  unfold fX3_readIf at hf
  refine o_aload_n (pc := 0) dX3_readIf_0 rfl ?_
  refine c_getR (pc := 1) 3 0 11 1 (by decide) (by decide) rfl (lt48 (by decide)) rfl rfl lkX3_49 dX3_readIf_1 ?_
  refine o_ldcS (pc := 4) (i := 21) dX3_readIf_4 rfl rfl rfl ?_
  show Rn g mdX3_readIf 6 [some (.ref 11)] [.ref 1000021, .ref 1] (cW t s) 0 0 none (cW t q)
  obtain ⟨q2, hk1, hf⟩ := bd_elim hf
  refine c_callV (pc := 6) 5 1 [.ref 1000021] (by decide) (lt48 (by decide)) rfl dX3_readIf_6 (kX6_isWord hk1) stX3_89 ⟨by decide, by decide, by decide, by decide⟩ ⟨rfl, rfl⟩ (Nat.le_of_ble_eq_true rfl) ?_
  show Rn g mdX3_readIf 9 [some (.ref 11)] [.int q2] (cW t s) 0 0 none (cW t q)
  refine o_if_ne (pc := 9) 21 dX3_readIf_9 rfl (fun hc => ?_) (fun hc => ?_)
  · have hf := it_f hf hc
    refine o_aload_n (pc := 21) dX3_readIf_21 rfl ?_
    refine o_iconst (pc := 22) (v := 0) dX3_readIf_22 rfl ?_
    obtain ⟨q4, hk3, hf⟩ := bd_elim hf
    refine c_callV (pc := 23) 3 11 [.int 0] (by decide) (lt48 (by decide)) rfl dX3_readIf_23 (kX3_writeWaiting hk3) stX3_155 ⟨by decide, by decide, by decide, by decide⟩ ⟨rfl, rfl⟩ (Nat.le_of_ble_eq_true rfl) ?_
    show Rn g mdX3_readIf 26 [some (.ref 11)] [] (cW t q4) 0 0 none (cW t q)
    refine o_aload_n (pc := 26) dX3_readIf_26 rfl ?_
    refine c_getR (pc := 27) 3 4 11 14 (by decide) (by decide) rfl (lt48 (by decide)) rfl rfl lkX3_22 dX3_readIf_27 ?_
    refine o_aload_n (pc := 30) dX3_readIf_30 rfl ?_
    refine c_getI (pc := 31) 3 5 11 (by decide) (by decide) rfl (lt48 (by decide)) rfl lkX3_25 dX3_readIf_31 ?_
    refine o_aload_n (pc := 34) dX3_readIf_34 rfl ?_
    refine c_getI (pc := 35) 3 2 11 (by decide) (by decide) rfl (lt48 (by decide)) rfl lkX3_15 dX3_readIf_35 ?_
    obtain ⟨hk5, hf⟩ := ck_elim hf
    refine c_iast (pc := 38) (lt48 (by decide)) rfl hk5 dX3_readIf_38 ?_
    refine lz_s (cW t) hf (fun s6 hf => ?_)
    show Rn g mdX3_readIf 39 [some (.ref 11)] [] (cW t s6) 0 0 none (cW t q)
    refine o_aload_n (pc := 39) dX3_readIf_39 rfl ?_
    refine o_iconst (pc := 40) (v := 1) dX3_readIf_40 rfl ?_
    refine c_putI (pc := 41) 3 12 11 (by decide) (by decide) rfl rfl (lt48 (by decide)) rfl lkX3_46 ⟨rfl, rfl⟩ dX3_readIf_41 ?_
    refine lz_s (cW t) hf (fun s7 hf => ?_)
    show Rn g mdX3_readIf 44 [some (.ref 11)] [] (cW t s7) 0 0 none (cW t q)
    refine o_aload_n (pc := 44) dX3_readIf_44 rfl ?_
    refine o_iconst (pc := 45) (v := 1) dX3_readIf_45 rfl ?_
    refine c_putI (pc := 46) 3 11 11 (by decide) (by decide) rfl rfl (lt48 (by decide)) rfl lkX3_43 ⟨rfl, rfl⟩ dX3_readIf_46 ?_
    refine lz_s (cW t) hf (fun s8 hf => ?_)
    show Rn g mdX3_readIf 49 [some (.ref 11)] [] (cW t s8) 0 0 none (cW t q)
    obtain rfl := Option.some.inj hf
    exact o_return (pc := 49) dX3_readIf_49 rfl (Nat.zero_le _) (Nat.zero_le _)
  · have hf := it_t hf hc
    refine o_aload_n (pc := 12) dX3_readIf_12 rfl ?_
    refine c_getR (pc := 13) 3 0 11 1 (by decide) (by decide) rfl (lt48 (by decide)) rfl rfl lkX3_49 dX3_readIf_13 ?_
    refine o_iconst (pc := 16) (v := 0) dX3_readIf_16 rfl ?_
    obtain ⟨q10, hk9, hf⟩ := bd_elim hf
    refine c_callV (pc := 17) 5 1 [.int 0] (by decide) (lt48 (by decide)) rfl dX3_readIf_17 (kX6_blame hk9) stX3_93 ⟨by decide, by decide, by decide, by decide⟩ ⟨rfl, rfl⟩ (Nat.le_of_ble_eq_true rfl) ?_
    show Rn g mdX3_readIf 20 [some (.ref 11)] [] (cW t q10) 0 0 none (cW t q)
    obtain rfl := Option.some.inj hf
    exact o_return (pc := 20) dX3_readIf_20 rfl (Nat.zero_le _) (Nat.zero_le _)
def fX3_readSignOfFact (p0 : Int32) (s : ST) : Option (ST) :=
  if (gi s 11 8) < 60 then lt (si s 11 8 ((gi s 11 8) + 1)) (fun s1 => (fX3_join p0 2 s1).bind (fun q3 => lt (si q3 11 12 2) (fun s4 => some s4))) else (fX6_blame 3 s).bind (fun q6 => some q6)
set_option maxRecDepth 20000 in
theorem kX3_readSignOfFact {g : GX} {t : PH} {p0 : Int32} {s : ST} {q : ST} (hf : fX3_readSignOfFact p0 s = some q) : Cn g mdX3_readSignOfFact [.ref 11, .int p0] (cW t s) none (cW t q) := by
  refine Cn.of (by decide) (Nat.le_of_ble_eq_true rfl) ?_
  show Rn g mdX3_readSignOfFact 0 [some (.ref 11), some (.int p0)] [] (cW t s) 0 0 none (cW t q)
  unfold fX3_readSignOfFact at hf
  refine o_aload_n (pc := 0) dX3_readSignOfFact_0 rfl ?_
  refine c_getI (pc := 1) 3 8 11 (by decide) (by decide) rfl (lt48 (by decide)) rfl lkX3_34 dX3_readSignOfFact_1 ?_
  refine o_bipush (pc := 4) (v := 60) dX3_readSignOfFact_4 rfl ?_
  refine o_icmp_lt (pc := 6) 18 dX3_readSignOfFact_6 rfl (fun hc => ?_) (fun hc => ?_)
  · have hf := it_t hf hc
    refine o_aload_n (pc := 18) dX3_readSignOfFact_18 rfl ?_
    refine o_dup (pc := 19) dX3_readSignOfFact_19 rfl ?_
    refine c_getI (pc := 20) 3 8 11 (by decide) (by decide) rfl (lt48 (by decide)) rfl lkX3_34 dX3_readSignOfFact_20 ?_
    refine o_iconst (pc := 23) (v := 1) dX3_readSignOfFact_23 rfl ?_
    refine o_iadd (pc := 24) dX3_readSignOfFact_24 ?_
    refine c_putI (pc := 25) 3 8 11 (by decide) (by decide) rfl rfl (lt48 (by decide)) rfl lkX3_34 ⟨rfl, rfl⟩ dX3_readSignOfFact_25 ?_
    refine lz_s (cW t) hf (fun s1 hf => ?_)
    show Rn g mdX3_readSignOfFact 28 [some (.ref 11), some (.int p0)] [] (cW t s1) 0 0 none (cW t q)
    refine o_aload_n (pc := 28) dX3_readSignOfFact_28 rfl ?_
    refine o_iload_n (pc := 29) dX3_readSignOfFact_29 rfl ?_
    refine o_iconst (pc := 30) (v := 2) dX3_readSignOfFact_30 rfl ?_
    obtain ⟨q3, hk2, hf⟩ := bd_elim hf
    refine c_callV (pc := 31) 3 11 [.int p0, .int 2] (by decide) (lt48 (by decide)) rfl dX3_readSignOfFact_31 (kX3_join hk2) stX3_133 ⟨by decide, by decide, by decide, by decide⟩ ⟨rfl, rfl⟩ (Nat.le_of_ble_eq_true rfl) ?_
    show Rn g mdX3_readSignOfFact 34 [some (.ref 11), some (.int p0)] [] (cW t q3) 0 0 none (cW t q)
    refine o_aload_n (pc := 34) dX3_readSignOfFact_34 rfl ?_
    refine o_iconst (pc := 35) (v := 2) dX3_readSignOfFact_35 rfl ?_
    refine c_putI (pc := 36) 3 12 11 (by decide) (by decide) rfl rfl (lt48 (by decide)) rfl lkX3_46 ⟨rfl, rfl⟩ dX3_readSignOfFact_36 ?_
    refine lz_s (cW t) hf (fun s4 hf => ?_)
    show Rn g mdX3_readSignOfFact 39 [some (.ref 11), some (.int p0)] [] (cW t s4) 0 0 none (cW t q)
    obtain rfl := Option.some.inj hf
    exact o_return (pc := 39) dX3_readSignOfFact_39 rfl (Nat.zero_le _) (Nat.zero_le _)
  · have hf := it_f hf hc
    refine o_aload_n (pc := 9) dX3_readSignOfFact_9 rfl ?_
    refine c_getR (pc := 10) 3 0 11 1 (by decide) (by decide) rfl (lt48 (by decide)) rfl rfl lkX3_49 dX3_readSignOfFact_10 ?_
    refine o_iconst (pc := 13) (v := 3) dX3_readSignOfFact_13 rfl ?_
    obtain ⟨q6, hk5, hf⟩ := bd_elim hf
    refine c_callV (pc := 14) 5 1 [.int 3] (by decide) (lt48 (by decide)) rfl dX3_readSignOfFact_14 (kX6_blame hk5) stX3_93 ⟨by decide, by decide, by decide, by decide⟩ ⟨rfl, rfl⟩ (Nat.le_of_ble_eq_true rfl) ?_
    show Rn g mdX3_readSignOfFact 17 [some (.ref 11), some (.int p0)] [] (cW t q6) 0 0 none (cW t q)
    obtain rfl := Option.some.inj hf
    exact o_return (pc := 17) dX3_readSignOfFact_17 rfl (Nat.zero_le _) (Nat.zero_le _)
def fX4_isOfFact (p0 : Int32) (s : ST) : Option (Int32) :=
  (if p0 < 7 then some false else if 11 < p0 then some false else some true : Option Bool).bind (fun b1 => (if b1 = true then some 1 else some 0 : Option (Int32)).bind (fun w4 => ck (bz w4) (some w4)))
set_option maxRecDepth 20000 in
theorem kX4_isOfFact {g : GX} {t : PH} {p0 : Int32} {s : ST} {q : Int32} (hf : fX4_isOfFact p0 s = some q) : Cn g mdX4_isOfFact [.int p0] (cW t s) (some (.int q)) (cW t s) := by
  refine Cn.of (by decide) (Nat.le_of_ble_eq_true rfl) ?_
  show Rn g mdX4_isOfFact 0 [some (.int p0)] [] (cW t s) 0 0 (some (.int q)) (cW t s)
  unfold fX4_isOfFact at hf
  refine o_iload_n (pc := 0) dX4_isOfFact_0 rfl ?_
  refine o_bipush (pc := 1) (v := 7) dX4_isOfFact_1 rfl ?_
  obtain ⟨b1, hr2, hf⟩ := bd_elim hf
  obtain ⟨w4, hr5, hf⟩ := bd_elim hf
  have K6 : Rn g mdX4_isOfFact 17 [none] [.int w4] (cW t s) 0 0 (some (.int q)) (cW t s) := by
    obtain ⟨hk7, hf⟩ := ck_elim hf
    obtain rfl := Option.some.inj hf
    exact o_zreturn (pc := 17) dX4_isOfFact_17 rfl (bz_n hk7).1 (Nat.zero_le _) (Nat.zero_le _)
  clear hf
  have KB3 : (b1 = true → Rn g mdX4_isOfFact 12 [some (.int p0)] [] (cW t s) 0 0 (some (.int q)) (cW t s)) ∧ (¬ b1 = true → Rn g mdX4_isOfFact 16 [some (.int p0)] [] (cW t s) 0 0 (some (.int q)) (cW t s)) := by
    refine ⟨fun hc => ?_, fun hc => ?_⟩
    · have hr5 := it_t hr5 hc
      refine o_iconst (pc := 12) (v := 1) dX4_isOfFact_12 rfl ?_
      refine o_goto (pc := 13) 17 dX4_isOfFact_13 rfl ?_
      obtain rfl := Option.some.inj hr5
      refine o_keep [false] ?_
      exact K6
    · have hr5 := it_f hr5 hc
      refine o_iconst (pc := 16) (v := 0) dX4_isOfFact_16 rfl ?_
      obtain rfl := Option.some.inj hr5
      refine o_keep [false] ?_
      exact K6
  clear hr5
  refine o_icmp_lt (pc := 3) 16 dX4_isOfFact_3 rfl (fun hc => ?_) (fun hc => ?_)
  · have hr2 := it_t hr2 hc
    obtain rfl := Option.some.inj hr2
    exact KB3.2 (by decide)
  · have hr2 := it_f hr2 hc
    refine o_iload_n (pc := 6) dX4_isOfFact_6 rfl ?_
    refine o_bipush (pc := 7) (v := 11) dX4_isOfFact_7 rfl ?_
    refine o_icmp_gt (pc := 9) 16 dX4_isOfFact_9 rfl (fun hc => ?_) (fun hc => ?_)
    · have hr2 := it_t hr2 hc
      obtain rfl := Option.some.inj hr2
      exact KB3.2 (by decide)
    · have hr2 := it_f hr2 hc
      obtain rfl := Option.some.inj hr2
      exact KB3.1 rfl
def fX4_isOfSum (p0 : Int32) (s : ST) : Option (Int32) :=
  (if p0 < 2 then some false else if 6 < p0 then some false else some true : Option Bool).bind (fun b1 => (if b1 = true then some 1 else some 0 : Option (Int32)).bind (fun w4 => ck (bz w4) (some w4)))
set_option maxRecDepth 20000 in
theorem kX4_isOfSum {g : GX} {t : PH} {p0 : Int32} {s : ST} {q : Int32} (hf : fX4_isOfSum p0 s = some q) : Cn g mdX4_isOfSum [.int p0] (cW t s) (some (.int q)) (cW t s) := by
  refine Cn.of (by decide) (Nat.le_of_ble_eq_true rfl) ?_
  show Rn g mdX4_isOfSum 0 [some (.int p0)] [] (cW t s) 0 0 (some (.int q)) (cW t s)
  unfold fX4_isOfSum at hf
  refine o_iload_n (pc := 0) dX4_isOfSum_0 rfl ?_
  refine o_iconst (pc := 1) (v := 2) dX4_isOfSum_1 rfl ?_
  obtain ⟨b1, hr2, hf⟩ := bd_elim hf
  obtain ⟨w4, hr5, hf⟩ := bd_elim hf
  have K6 : Rn g mdX4_isOfSum 16 [none] [.int w4] (cW t s) 0 0 (some (.int q)) (cW t s) := by
    obtain ⟨hk7, hf⟩ := ck_elim hf
    obtain rfl := Option.some.inj hf
    exact o_zreturn (pc := 16) dX4_isOfSum_16 rfl (bz_n hk7).1 (Nat.zero_le _) (Nat.zero_le _)
  clear hf
  have KB3 : (b1 = true → Rn g mdX4_isOfSum 11 [some (.int p0)] [] (cW t s) 0 0 (some (.int q)) (cW t s)) ∧ (¬ b1 = true → Rn g mdX4_isOfSum 15 [some (.int p0)] [] (cW t s) 0 0 (some (.int q)) (cW t s)) := by
    refine ⟨fun hc => ?_, fun hc => ?_⟩
    · have hr5 := it_t hr5 hc
      refine o_iconst (pc := 11) (v := 1) dX4_isOfSum_11 rfl ?_
      refine o_goto (pc := 12) 16 dX4_isOfSum_12 rfl ?_
      obtain rfl := Option.some.inj hr5
      refine o_keep [false] ?_
      exact K6
    · have hr5 := it_f hr5 hc
      refine o_iconst (pc := 15) (v := 0) dX4_isOfSum_15 rfl ?_
      obtain rfl := Option.some.inj hr5
      refine o_keep [false] ?_
      exact K6
  clear hr5
  refine o_icmp_lt (pc := 2) 15 dX4_isOfSum_2 rfl (fun hc => ?_) (fun hc => ?_)
  · have hr2 := it_t hr2 hc
    obtain rfl := Option.some.inj hr2
    exact KB3.2 (by decide)
  · have hr2 := it_f hr2 hc
    refine o_iload_n (pc := 5) dX4_isOfSum_5 rfl ?_
    refine o_bipush (pc := 6) (v := 6) dX4_isOfSum_6 rfl ?_
    refine o_icmp_gt (pc := 8) 15 dX4_isOfSum_8 rfl (fun hc => ?_) (fun hc => ?_)
    · have hr2 := it_t hr2 hc
      obtain rfl := Option.some.inj hr2
      exact KB3.2 (by decide)
    · have hr2 := it_f hr2 hc
      obtain rfl := Option.some.inj hr2
      exact KB3.1 rfl
def fX4_ofToken (p0 : Int32) (s : ST) : Option (Int32) :=
  if p0 = 37 then some 6 else if p0 = 42 then some 4 else if p0 = 43 then some 2 else if p0 = 45 then some 3 else if p0 = 47 then some 5 else if p0 = 60 then some 7 else if p0 = 61 then some 9 else if p0 = 62 then some 11 else if p0 = 316 then some 8 else if p0 = 318 then some 10 else some (-1)
set_option maxRecDepth 20000 in
theorem kX4_ofToken {g : GX} {t : PH} {p0 : Int32} {s : ST} {q : Int32} (hf : fX4_ofToken p0 s = some q) : Cn g mdX4_ofToken [.int p0] (cW t s) (some (.int q)) (cW t s) := by
  refine Cn.of (by decide) (Nat.le_of_ble_eq_true rfl) ?_
  show Rn g mdX4_ofToken 0 [some (.int p0)] [] (cW t s) 0 0 (some (.int q)) (cW t s)
  unfold fX4_ofToken at hf
  refine o_iload_n (pc := 0) dX4_ofToken_0 rfl ?_
  by_cases hx1 : p0 = 37
  · have hf := it_t hf hx1
    refine o_lookup (pc := 1) 100 dX4_ofToken_1 rfl (by rw [hx1] <;> rfl) rfl ?_
    refine o_bipush (pc := 100) (v := 6) dX4_ofToken_100 rfl ?_
    obtain rfl := Option.some.inj hf
    exact o_ireturn (pc := 102) dX4_ofToken_102 rfl (Nat.zero_le _) (Nat.zero_le _)
  have hf := it_f hf hx1
  by_cases hx2 : p0 = 42
  · have hf := it_t hf hx2
    refine o_lookup (pc := 1) 96 dX4_ofToken_1 rfl (by rw [hx2] <;> rfl) rfl ?_
    refine o_iconst (pc := 96) (v := 4) dX4_ofToken_96 rfl ?_
    obtain rfl := Option.some.inj hf
    exact o_ireturn (pc := 97) dX4_ofToken_97 rfl (Nat.zero_le _) (Nat.zero_le _)
  have hf := it_f hf hx2
  by_cases hx3 : p0 = 43
  · have hf := it_t hf hx3
    refine o_lookup (pc := 1) 92 dX4_ofToken_1 rfl (by rw [hx3] <;> rfl) rfl ?_
    refine o_iconst (pc := 92) (v := 2) dX4_ofToken_92 rfl ?_
    obtain rfl := Option.some.inj hf
    exact o_ireturn (pc := 93) dX4_ofToken_93 rfl (Nat.zero_le _) (Nat.zero_le _)
  have hf := it_f hf hx3
  by_cases hx4 : p0 = 45
  · have hf := it_t hf hx4
    refine o_lookup (pc := 1) 94 dX4_ofToken_1 rfl (by rw [hx4] <;> rfl) rfl ?_
    refine o_iconst (pc := 94) (v := 3) dX4_ofToken_94 rfl ?_
    obtain rfl := Option.some.inj hf
    exact o_ireturn (pc := 95) dX4_ofToken_95 rfl (Nat.zero_le _) (Nat.zero_le _)
  have hf := it_f hf hx4
  by_cases hx5 : p0 = 47
  · have hf := it_t hf hx5
    refine o_lookup (pc := 1) 98 dX4_ofToken_1 rfl (by rw [hx5] <;> rfl) rfl ?_
    refine o_iconst (pc := 98) (v := 5) dX4_ofToken_98 rfl ?_
    obtain rfl := Option.some.inj hf
    exact o_ireturn (pc := 99) dX4_ofToken_99 rfl (Nat.zero_le _) (Nat.zero_le _)
  have hf := it_f hf hx5
  by_cases hx6 : p0 = 60
  · have hf := it_t hf hx6
    refine o_lookup (pc := 1) 103 dX4_ofToken_1 rfl (by rw [hx6] <;> rfl) rfl ?_
    refine o_bipush (pc := 103) (v := 7) dX4_ofToken_103 rfl ?_
    obtain rfl := Option.some.inj hf
    exact o_ireturn (pc := 105) dX4_ofToken_105 rfl (Nat.zero_le _) (Nat.zero_le _)
  have hf := it_f hf hx6
  by_cases hx7 : p0 = 61
  · have hf := it_t hf hx7
    refine o_lookup (pc := 1) 109 dX4_ofToken_1 rfl (by rw [hx7] <;> rfl) rfl ?_
    refine o_bipush (pc := 109) (v := 9) dX4_ofToken_109 rfl ?_
    obtain rfl := Option.some.inj hf
    exact o_ireturn (pc := 111) dX4_ofToken_111 rfl (Nat.zero_le _) (Nat.zero_le _)
  have hf := it_f hf hx7
  by_cases hx8 : p0 = 62
  · have hf := it_t hf hx8
    refine o_lookup (pc := 1) 115 dX4_ofToken_1 rfl (by rw [hx8] <;> rfl) rfl ?_
    refine o_bipush (pc := 115) (v := 11) dX4_ofToken_115 rfl ?_
    obtain rfl := Option.some.inj hf
    exact o_ireturn (pc := 117) dX4_ofToken_117 rfl (Nat.zero_le _) (Nat.zero_le _)
  have hf := it_f hf hx8
  by_cases hx9 : p0 = 316
  · have hf := it_t hf hx9
    refine o_lookup (pc := 1) 106 dX4_ofToken_1 rfl (by rw [hx9] <;> rfl) rfl ?_
    refine o_bipush (pc := 106) (v := 8) dX4_ofToken_106 rfl ?_
    obtain rfl := Option.some.inj hf
    exact o_ireturn (pc := 108) dX4_ofToken_108 rfl (Nat.zero_le _) (Nat.zero_le _)
  have hf := it_f hf hx9
  by_cases hx10 : p0 = 318
  · have hf := it_t hf hx10
    refine o_lookup (pc := 1) 112 dX4_ofToken_1 rfl (by rw [hx10] <;> rfl) rfl ?_
    refine o_bipush (pc := 112) (v := 10) dX4_ofToken_112 rfl ?_
    obtain rfl := Option.some.inj hf
    exact o_ireturn (pc := 114) dX4_ofToken_114 rfl (Nat.zero_le _) (Nat.zero_le _)
  have hf := it_f hf hx10
  refine o_lookup (pc := 1) 118 dX4_ofToken_1 rfl ((lv_osw (k := 37) hx1 rfl).trans ((lv_osw (k := 42) hx2 rfl).trans ((lv_osw (k := 43) hx3 rfl).trans ((lv_osw (k := 45) hx4 rfl).trans ((lv_osw (k := 47) hx5 rfl).trans ((lv_osw (k := 60) hx6 rfl).trans ((lv_osw (k := 61) hx7 rfl).trans ((lv_osw (k := 62) hx8 rfl).trans ((lv_osw (k := 316) hx9 rfl).trans ((lv_osw (k := 318) hx10 rfl).trans (rfl))))))))))) rfl ?_
  refine o_iconst (pc := 118) (v := (-1)) dX4_ofToken_118 rfl ?_
  obtain rfl := Option.some.inj hf
  exact o_ireturn (pc := 119) dX4_ofToken_119 rfl (Nat.zero_le _) (Nat.zero_le _)
def fX3_readSign (s : ST) : Option (ST) :=
  (fX4_ofToken (gi s 1 4) s).bind (fun q2 => (fX4_isOfSum q2 s).bind (fun q4 => (if q4 = 0 then some false else if (gi s 11 12) = 3 then some false else some true : Option Bool).bind (fun b5 => (if b5 = true then (fX3_join q2 2 s).bind (fun q12 => some q12) else (fX4_isOfFact q2 s).bind (fun q14 => (if q14 = 0 then some false else if (gi s 11 12) = 1 then some true else some false : Option Bool).bind (fun b15 => if b15 = true then (fX3_readSignOfFact q2 s).bind (fun q19 => some q19) else if (gi s 11 12) = 1 then (fX6_blame 0 s).bind (fun q29 => some q29) else (fX3_isEndOfClause s).bind (fun q21 => if q21 = 0 then if (gi s 11 12) = 0 then (fX3_readIf s).bind (fun q25 => some q25) else (fX3_readBehindFact s).bind (fun q23 => some q23) else (fX3_endClause s).bind (fun q27 => some q27)))) : Option (ST)).bind (fun w8 => some w8))))
set_option maxRecDepth 20000 in
theorem kX3_readSign {g : GX} {t : PH} {s : ST} {q : ST} (hf : fX3_readSign s = some q) : Cn g mdX3_readSign [.ref 11] (cW t s) none (cW t q) := by
  refine Cn.of (by decide) (Nat.le_of_ble_eq_true rfl) ?_
  show Rn g mdX3_readSign 0 [some (.ref 11), none] [] (cW t s) 0 0 none (cW t q)
  unfold fX3_readSign at hf
  refine o_aload_n (pc := 0) dX3_readSign_0 rfl ?_
  refine c_getR (pc := 1) 3 0 11 1 (by decide) (by decide) rfl (lt48 (by decide)) rfl rfl lkX3_49 dX3_readSign_1 ?_
  refine c_getI (pc := 4) 5 4 1 (by decide) (by decide) rfl (lt48 (by decide)) rfl lkX3_97 dX3_readSign_4 ?_
  obtain ⟨q2, hk1, hf⟩ := bd_elim hf
  refine c_callS (pc := 7) [.int (gi s 1 4)] dX3_readSign_7 (kX4_ofToken hk1) stX3_125 ⟨by decide, by decide, by decide, by decide⟩ ⟨rfl, rfl⟩ (Nat.le_of_ble_eq_true rfl) ?_
  show Rn g mdX3_readSign 10 [some (.ref 11), none] [.int q2] (cW t s) 0 0 none (cW t q)
  refine o_istore_n (pc := 10) dX3_readSign_10 (by decide) rfl ?_
  show Rn g mdX3_readSign 11 [some (.ref 11), some (.int q2)] [] (cW t s) 0 0 none (cW t q)
  refine o_iload_n (pc := 11) dX3_readSign_11 rfl ?_
  obtain ⟨q4, hk3, hf⟩ := bd_elim hf
  refine c_callS (pc := 12) [.int q2] dX3_readSign_12 (kX4_isOfSum hk3) stX3_129 ⟨by decide, by decide, by decide, by decide⟩ ⟨rfl, rfl⟩ (Nat.le_of_ble_eq_true rfl) ?_
  show Rn g mdX3_readSign 15 [some (.ref 11), some (.int q2)] [.int q4] (cW t s) 0 0 none (cW t q)
  obtain ⟨b5, hr6, hf⟩ := bd_elim hf
  obtain ⟨w8, hr9, hf⟩ := bd_elim hf
  have K10 : Rn g mdX3_readSign 109 [none, none] [] (cW t w8) 0 0 none (cW t q) := by
    obtain rfl := Option.some.inj hf
    exact o_return (pc := 109) dX3_readSign_109 rfl (Nat.zero_le _) (Nat.zero_le _)
  clear hf
  have KB7 : (b5 = true → Rn g mdX3_readSign 26 [some (.ref 11), some (.int q2)] [] (cW t s) 0 0 none (cW t q)) ∧ (¬ b5 = true → Rn g mdX3_readSign 35 [some (.ref 11), some (.int q2)] [] (cW t s) 0 0 none (cW t q)) := by
    refine ⟨fun hc => ?_, fun hc => ?_⟩
    · have hr9 := it_t hr9 hc
      refine o_aload_n (pc := 26) dX3_readSign_26 rfl ?_
      refine o_iload_n (pc := 27) dX3_readSign_27 rfl ?_
      refine o_iconst (pc := 28) (v := 2) dX3_readSign_28 rfl ?_
      obtain ⟨q12, hk11, hr9⟩ := bd_elim hr9
      refine c_callV (pc := 29) 3 11 [.int q2, .int 2] (by decide) (lt48 (by decide)) rfl dX3_readSign_29 (kX3_join hk11) stX3_133 ⟨by decide, by decide, by decide, by decide⟩ ⟨rfl, rfl⟩ (Nat.le_of_ble_eq_true rfl) ?_
      show Rn g mdX3_readSign 32 [some (.ref 11), some (.int q2)] [] (cW t q12) 0 0 none (cW t q)
      refine o_goto (pc := 32) 109 dX3_readSign_32 rfl ?_
      obtain rfl := Option.some.inj hr9
      refine o_keep [false, false] ?_
      exact K10
    · have hr9 := it_f hr9 hc
      refine o_iload_n (pc := 35) dX3_readSign_35 rfl ?_
      obtain ⟨q14, hk13, hr9⟩ := bd_elim hr9
      refine c_callS (pc := 36) [.int q2] dX3_readSign_36 (kX4_isOfFact hk13) stX3_136 ⟨by decide, by decide, by decide, by decide⟩ ⟨rfl, rfl⟩ (Nat.le_of_ble_eq_true rfl) ?_
      show Rn g mdX3_readSign 39 [some (.ref 11), some (.int q2)] [.int q14] (cW t s) 0 0 none (cW t q)
      obtain ⟨b15, hr16, hr9⟩ := bd_elim hr9
      have KB17 : (b15 = true → Rn g mdX3_readSign 50 [some (.ref 11), some (.int q2)] [] (cW t s) 0 0 none (cW t q)) ∧ (¬ b15 = true → Rn g mdX3_readSign 58 [some (.ref 11), some (.int q2)] [] (cW t s) 0 0 none (cW t q)) := by
        refine ⟨fun hc => ?_, fun hc => ?_⟩
        · have hr9 := it_t hr9 hc
          refine o_aload_n (pc := 50) dX3_readSign_50 rfl ?_
          refine o_iload_n (pc := 51) dX3_readSign_51 rfl ?_
          obtain ⟨q19, hk18, hr9⟩ := bd_elim hr9
          refine c_callV (pc := 52) 3 11 [.int q2] (by decide) (lt48 (by decide)) rfl dX3_readSign_52 (kX3_readSignOfFact hk18) stX3_139 ⟨by decide, by decide, by decide, by decide⟩ ⟨rfl, rfl⟩ (Nat.le_of_ble_eq_true rfl) ?_
          show Rn g mdX3_readSign 55 [some (.ref 11), some (.int q2)] [] (cW t q19) 0 0 none (cW t q)
          refine o_goto (pc := 55) 109 dX3_readSign_55 rfl ?_
          obtain rfl := Option.some.inj hr9
          refine o_keep [false, false] ?_
          exact K10
        · have hr9 := it_f hr9 hc
          refine o_aload_n (pc := 58) dX3_readSign_58 rfl ?_
          refine c_getI (pc := 59) 3 12 11 (by decide) (by decide) rfl (lt48 (by decide)) rfl lkX3_46 dX3_readSign_59 ?_
          refine o_iconst (pc := 62) (v := 1) dX3_readSign_62 rfl ?_
          refine o_icmp_ne (pc := 63) 77 dX3_readSign_63 rfl (fun hc => ?_) (fun hc => ?_)
          · have hr9 := it_f hr9 hc
            refine o_aload_n (pc := 77) dX3_readSign_77 rfl ?_
            obtain ⟨q21, hk20, hr9⟩ := bd_elim hr9
            refine c_callV (pc := 78) 3 11 [] (by decide) (lt48 (by decide)) rfl dX3_readSign_78 (kX3_isEndOfClause hk20) stX3_142 ⟨by decide, by decide, by decide, by decide⟩ ⟨rfl, rfl⟩ (Nat.le_of_ble_eq_true rfl) ?_
            show Rn g mdX3_readSign 81 [some (.ref 11), some (.int q2)] [.int q21] (cW t s) 0 0 none (cW t q)
            refine o_if_eq (pc := 81) 91 dX3_readSign_81 rfl (fun hc => ?_) (fun hc => ?_)
            · have hr9 := it_t hr9 hc
              refine o_aload_n (pc := 91) dX3_readSign_91 rfl ?_
              refine c_getI (pc := 92) 3 12 11 (by decide) (by decide) rfl (lt48 (by decide)) rfl lkX3_46 dX3_readSign_92 ?_
              refine o_if_ne (pc := 95) 105 dX3_readSign_95 rfl (fun hc => ?_) (fun hc => ?_)
              · have hr9 := it_f hr9 hc
                refine o_aload_n (pc := 105) dX3_readSign_105 rfl ?_
                obtain ⟨q23, hk22, hr9⟩ := bd_elim hr9
                refine c_callV (pc := 106) 3 11 [] (by decide) (lt48 (by decide)) rfl dX3_readSign_106 (kX3_readBehindFact hk22) stX3_152 ⟨by decide, by decide, by decide, by decide⟩ ⟨rfl, rfl⟩ (Nat.le_of_ble_eq_true rfl) ?_
                show Rn g mdX3_readSign 109 [some (.ref 11), some (.int q2)] [] (cW t q23) 0 0 none (cW t q)
                obtain rfl := Option.some.inj hr9
                refine o_keep [false, false] ?_
                exact K10
              · have hr9 := it_t hr9 hc
                refine o_aload_n (pc := 98) dX3_readSign_98 rfl ?_
                obtain ⟨q25, hk24, hr9⟩ := bd_elim hr9
                refine c_callV (pc := 99) 3 11 [] (by decide) (lt48 (by decide)) rfl dX3_readSign_99 (kX3_readIf hk24) stX3_149 ⟨by decide, by decide, by decide, by decide⟩ ⟨rfl, rfl⟩ (Nat.le_of_ble_eq_true rfl) ?_
                show Rn g mdX3_readSign 102 [some (.ref 11), some (.int q2)] [] (cW t q25) 0 0 none (cW t q)
                refine o_goto (pc := 102) 109 dX3_readSign_102 rfl ?_
                obtain rfl := Option.some.inj hr9
                refine o_keep [false, false] ?_
                exact K10
            · have hr9 := it_f hr9 hc
              refine o_aload_n (pc := 84) dX3_readSign_84 rfl ?_
              obtain ⟨q27, hk26, hr9⟩ := bd_elim hr9
              refine c_callV (pc := 85) 3 11 [] (by decide) (lt48 (by decide)) rfl dX3_readSign_85 (kX3_endClause hk26) stX3_146 ⟨by decide, by decide, by decide, by decide⟩ ⟨rfl, rfl⟩ (Nat.le_of_ble_eq_true rfl) ?_
              show Rn g mdX3_readSign 88 [some (.ref 11), some (.int q2)] [] (cW t q27) 0 0 none (cW t q)
              refine o_goto (pc := 88) 109 dX3_readSign_88 rfl ?_
              obtain rfl := Option.some.inj hr9
              refine o_keep [false, false] ?_
              exact K10
          · have hr9 := it_t hr9 hc
            refine o_aload_n (pc := 66) dX3_readSign_66 rfl ?_
            refine c_getR (pc := 67) 3 0 11 1 (by decide) (by decide) rfl (lt48 (by decide)) rfl rfl lkX3_49 dX3_readSign_67 ?_
            refine o_iconst (pc := 70) (v := 0) dX3_readSign_70 rfl ?_
            obtain ⟨q29, hk28, hr9⟩ := bd_elim hr9
            refine c_callV (pc := 71) 5 1 [.int 0] (by decide) (lt48 (by decide)) rfl dX3_readSign_71 (kX6_blame hk28) stX3_93 ⟨by decide, by decide, by decide, by decide⟩ ⟨rfl, rfl⟩ (Nat.le_of_ble_eq_true rfl) ?_
            show Rn g mdX3_readSign 74 [some (.ref 11), some (.int q2)] [] (cW t q29) 0 0 none (cW t q)
            refine o_goto (pc := 74) 109 dX3_readSign_74 rfl ?_
            obtain rfl := Option.some.inj hr9
            refine o_keep [false, false] ?_
            exact K10
      clear hr9
      refine o_if_eq (pc := 39) 58 dX3_readSign_39 rfl (fun hc => ?_) (fun hc => ?_)
      · have hr16 := it_t hr16 hc
        obtain rfl := Option.some.inj hr16
        exact KB17.2 (by decide)
      · have hr16 := it_f hr16 hc
        refine o_aload_n (pc := 42) dX3_readSign_42 rfl ?_
        refine c_getI (pc := 43) 3 12 11 (by decide) (by decide) rfl (lt48 (by decide)) rfl lkX3_46 dX3_readSign_43 ?_
        refine o_iconst (pc := 46) (v := 1) dX3_readSign_46 rfl ?_
        refine o_icmp_ne (pc := 47) 58 dX3_readSign_47 rfl (fun hc => ?_) (fun hc => ?_)
        · have hr16 := it_f hr16 hc
          obtain rfl := Option.some.inj hr16
          exact KB17.2 (by decide)
        · have hr16 := it_t hr16 hc
          obtain rfl := Option.some.inj hr16
          exact KB17.1 rfl
  clear hr9
  refine o_if_eq (pc := 15) 35 dX3_readSign_15 rfl (fun hc => ?_) (fun hc => ?_)
  · have hr6 := it_t hr6 hc
    obtain rfl := Option.some.inj hr6
    exact KB7.2 (by decide)
  · have hr6 := it_f hr6 hc
    refine o_aload_n (pc := 18) dX3_readSign_18 rfl ?_
    refine c_getI (pc := 19) 3 12 11 (by decide) (by decide) rfl (lt48 (by decide)) rfl lkX3_46 dX3_readSign_19 ?_
    refine o_iconst (pc := 22) (v := 3) dX3_readSign_22 rfl ?_
    refine o_icmp_eq (pc := 23) 35 dX3_readSign_23 rfl (fun hc => ?_) (fun hc => ?_)
    · have hr6 := it_t hr6 hc
      obtain rfl := Option.some.inj hr6
      exact KB7.2 (by decide)
    · have hr6 := it_f hr6 hc
      obtain rfl := Option.some.inj hr6
      exact KB7.1 rfl
def fX3_read_L44 : Nat → Int32 → ST → Option (Int32 × ST)
  | 0, _, _ => none
  | n + 1, x1, s => (if 400 < x1 then some false else if (gi s 11 11) = 4 then some false else if (gi s 1 3) = 0 then some true else some false : Option Bool).bind (fun b10 => if b10 = true then (fX6_step s).bind (fun q14 => (if (gi q14 11 11) = 0 then (fX3_readLate q14).bind (fun q20 => some q20) else if (gi q14 11 11) = 1 then (fX3_readFact q14).bind (fun q23 => some q23) else if (gi q14 11 11) = 2 then (fX3_readValue q14).bind (fun q26 => some q26) else (fX3_readSign q14).bind (fun q28 => some q28) : Option (ST)).bind (fun w15 => lt (x1 + 1) (fun v29 => fX3_read_L44 n v29 w15))) else some (x1, s))
def fX3_read (s : ST) : Option (Int32 × ST) :=
  (fX6_rewind s).bind (fun q2 => lt (si q2 11 2 0) (fun s3 => lt (si s3 11 5 0) (fun s4 => lt (si s4 11 7 0) (fun s5 => lt (si s5 11 8 0) (fun s6 => lt (si s6 11 9 0) (fun s7 => lt (si s7 11 10 0) (fun s8 => lt (si s8 11 11 0) (fun s9 => (fX3_read_L44 FUEL 0 s9).bind (fun w30 => some (gi w30.2 1 3, w30.2))))))))))
set_option maxRecDepth 20000 in
theorem kX3_read_L44 {g : GX} {t : PH} {r : Option Value} {h2 : PH} : ∀ (n : Nat) (x1 : Int32) (s : ST) {w : Int32 × ST}, fX3_read_L44 n x1 s = some w → Rn g mdX3_read 139 [some (.ref 11), none] [] (cW t w.2) 0 0 r h2 → Rn g mdX3_read 44 [some (.ref 11), some (.int x1)] [] (cW t s) 0 0 r h2 := by
  intro n
  induction n with
  | zero => intro x1 s w hf K; cases hf
  | succ n ih =>
    intro x1 s w hf K
    rw [fX3_read_L44] at hf
    refine o_iload_n (pc := 44) dX3_read_44 rfl ?_
    refine o_sipush (pc := 45) (v := 400) dX3_read_45 rfl ?_
    obtain ⟨b10, hr11, hf⟩ := bd_elim hf
    have KB12 : (b10 = true → Rn g mdX3_read 69 [some (.ref 11), some (.int x1)] [] (cW t s) 0 0 r h2) ∧ (¬ b10 = true → Rn g mdX3_read 139 [some (.ref 11), some (.int x1)] [] (cW t s) 0 0 r h2) := by
      refine ⟨fun hc => ?_, fun hc => ?_⟩
      · have hf := it_t hf hc
        refine o_aload_n (pc := 69) dX3_read_69 rfl ?_
        refine c_getR (pc := 70) 3 0 11 1 (by decide) (by decide) rfl (lt48 (by decide)) rfl rfl lkX3_49 dX3_read_70 ?_
        obtain ⟨q14, hk13, hf⟩ := bd_elim hf
        refine c_callV (pc := 73) 5 1 [] (by decide) (lt48 (by decide)) rfl dX3_read_73 (kX6_step hk13) stX3_61 ⟨by decide, by decide, by decide, by decide⟩ ⟨rfl, rfl⟩ (Nat.le_of_ble_eq_true rfl) ?_
        show Rn g mdX3_read 76 [some (.ref 11), some (.int x1)] [] (cW t q14) 0 0 r h2
        refine o_aload_n (pc := 76) dX3_read_76 rfl ?_
        refine c_getI (pc := 77) 3 11 11 (by decide) (by decide) rfl (lt48 (by decide)) rfl lkX3_43 dX3_read_77 ?_
        obtain ⟨w15, hr16, hf⟩ := bd_elim hf
        have K17 : Rn g mdX3_read 133 [some (.ref 11), some (.int x1)] [] (cW t w15) 0 0 r h2 := by
          refine o_iinc (pc := 133) dX3_read_133 rfl (by decide) rfl ?_
          show Rn g mdX3_read 136 [some (.ref 11), some (.int (x1 + 1))] [] (cW t w15) 0 0 r h2
          obtain ⟨v29, ev29, hf⟩ := lt_elim hf
          rw [ev29]
          show Rn g mdX3_read 136 [some (.ref 11), some (.int v29)] [] (cW t w15) 0 0 r h2
          refine o_goto (pc := 136) 44 dX3_read_136 rfl ?_
          exact ih _ _ hf K
        clear hf
        by_cases hx18 : (gi q14 11 11) = 0
        · have hr16 := it_t hr16 hx18
          refine o_tableIn (pc := 80) 108 dX3_read_80 (by rw [hx18] <;> decide) (by rw [hx18] <;> decide) (by rw [hx18] <;> rfl) rfl ?_
          refine o_aload_n (pc := 108) dX3_read_108 rfl ?_
          obtain ⟨q20, hk19, hr16⟩ := bd_elim hr16
          refine c_callV (pc := 109) 3 11 [] (by decide) (lt48 (by decide)) rfl dX3_read_109 (kX3_readLate hk19) stX3_64 ⟨by decide, by decide, by decide, by decide⟩ ⟨rfl, rfl⟩ (Nat.le_of_ble_eq_true rfl) ?_
          show Rn g mdX3_read 112 [some (.ref 11), some (.int x1)] [] (cW t q20) 0 0 r h2
          refine o_goto (pc := 112) 133 dX3_read_112 rfl ?_
          obtain rfl := Option.some.inj hr16
          exact K17
        have hr16 := it_f hr16 hx18
        by_cases hx21 : (gi q14 11 11) = 1
        · have hr16 := it_t hr16 hx21
          refine o_tableIn (pc := 80) 115 dX3_read_80 (by rw [hx21] <;> decide) (by rw [hx21] <;> decide) (by rw [hx21] <;> rfl) rfl ?_
          refine o_aload_n (pc := 115) dX3_read_115 rfl ?_
          obtain ⟨q23, hk22, hr16⟩ := bd_elim hr16
          refine c_callV (pc := 116) 3 11 [] (by decide) (lt48 (by decide)) rfl dX3_read_116 (kX3_readFact hk22) stX3_67 ⟨by decide, by decide, by decide, by decide⟩ ⟨rfl, rfl⟩ (Nat.le_of_ble_eq_true rfl) ?_
          show Rn g mdX3_read 119 [some (.ref 11), some (.int x1)] [] (cW t q23) 0 0 r h2
          refine o_goto (pc := 119) 133 dX3_read_119 rfl ?_
          obtain rfl := Option.some.inj hr16
          exact K17
        have hr16 := it_f hr16 hx21
        by_cases hx24 : (gi q14 11 11) = 2
        · have hr16 := it_t hr16 hx24
          refine o_tableIn (pc := 80) 122 dX3_read_80 (by rw [hx24] <;> decide) (by rw [hx24] <;> decide) (by rw [hx24] <;> rfl) rfl ?_
          refine o_aload_n (pc := 122) dX3_read_122 rfl ?_
          obtain ⟨q26, hk25, hr16⟩ := bd_elim hr16
          refine c_callV (pc := 123) 3 11 [] (by decide) (lt48 (by decide)) rfl dX3_read_123 (kX3_readValue hk25) stX3_70 ⟨by decide, by decide, by decide, by decide⟩ ⟨rfl, rfl⟩ (Nat.le_of_ble_eq_true rfl) ?_
          show Rn g mdX3_read 126 [some (.ref 11), some (.int x1)] [] (cW t q26) 0 0 r h2
          refine o_goto (pc := 126) 133 dX3_read_126 rfl ?_
          obtain rfl := Option.some.inj hr16
          exact K17
        have hr16 := it_f hr16 hx24
        refine o_tableOut (pc := 80) 129 dX3_read_80 (sw_out 0 2 (fun n hn => ?_)) rfl ?_
        · match n, hn with
          | 0, _ => exact sw_ne hx18 rfl
          | 1, _ => exact sw_ne hx21 rfl
          | 2, _ => exact sw_ne hx24 rfl
          | n + 3, h => exact absurd h (by omega)
        · refine o_aload_n (pc := 129) dX3_read_129 rfl ?_
          obtain ⟨q28, hk27, hr16⟩ := bd_elim hr16
          refine c_callV (pc := 130) 3 11 [] (by decide) (lt48 (by decide)) rfl dX3_read_130 (kX3_readSign hk27) stX3_73 ⟨by decide, by decide, by decide, by decide⟩ ⟨rfl, rfl⟩ (Nat.le_of_ble_eq_true rfl) ?_
          show Rn g mdX3_read 133 [some (.ref 11), some (.int x1)] [] (cW t q28) 0 0 r h2
          obtain rfl := Option.some.inj hr16
          exact K17
      · have hf := it_f hf hc
        obtain rfl := Option.some.inj hf
        refine o_keep [true, false] ?_
        exact K
    clear hf
    refine o_icmp_gt (pc := 48) 139 dX3_read_48 rfl (fun hc => ?_) (fun hc => ?_)
    · have hr11 := it_t hr11 hc
      obtain rfl := Option.some.inj hr11
      exact KB12.2 (by decide)
    · have hr11 := it_f hr11 hc
      refine o_aload_n (pc := 51) dX3_read_51 rfl ?_
      refine c_getI (pc := 52) 3 11 11 (by decide) (by decide) rfl (lt48 (by decide)) rfl lkX3_43 dX3_read_52 ?_
      refine o_iconst (pc := 55) (v := 4) dX3_read_55 rfl ?_
      refine o_icmp_eq (pc := 56) 139 dX3_read_56 rfl (fun hc => ?_) (fun hc => ?_)
      · have hr11 := it_t hr11 hc
        obtain rfl := Option.some.inj hr11
        exact KB12.2 (by decide)
      · have hr11 := it_f hr11 hc
        refine o_aload_n (pc := 59) dX3_read_59 rfl ?_
        refine c_getR (pc := 60) 3 0 11 1 (by decide) (by decide) rfl (lt48 (by decide)) rfl rfl lkX3_49 dX3_read_60 ?_
        refine c_getI (pc := 63) 5 3 1 (by decide) (by decide) rfl (lt48 (by decide)) rfl lkX3_58 dX3_read_63 ?_
        refine o_if_ne (pc := 66) 139 dX3_read_66 rfl (fun hc => ?_) (fun hc => ?_)
        · have hr11 := it_f hr11 hc
          obtain rfl := Option.some.inj hr11
          exact KB12.2 (by decide)
        · have hr11 := it_t hr11 hc
          obtain rfl := Option.some.inj hr11
          exact KB12.1 rfl
set_option maxRecDepth 20000 in
theorem kX3_read {g : GX} {t : PH} {s : ST} {q : Int32 × ST} (hf : fX3_read s = some q) : Cn g mdX3_read [.ref 11] (cW t s) (some (.int q.1)) (cW t q.2) := by
  refine Cn.of (by decide) (Nat.le_of_ble_eq_true rfl) ?_
  show Rn g mdX3_read 0 [some (.ref 11), none] [] (cW t s) 0 0 (some (.int q.1)) (cW t q.2)
  unfold fX3_read at hf
  refine o_aload_n (pc := 0) dX3_read_0 rfl ?_
  refine c_getR (pc := 1) 3 0 11 1 (by decide) (by decide) rfl (lt48 (by decide)) rfl rfl lkX3_49 dX3_read_1 ?_
  obtain ⟨q2, hk1, hf⟩ := bd_elim hf
  refine c_callV (pc := 4) 5 1 [] (by decide) (lt48 (by decide)) rfl dX3_read_4 (kX6_rewind hk1) stX3_53 ⟨by decide, by decide, by decide, by decide⟩ ⟨rfl, rfl⟩ (Nat.le_of_ble_eq_true rfl) ?_
  show Rn g mdX3_read 7 [some (.ref 11), none] [] (cW t q2) 0 0 (some (.int q.1)) (cW t q.2)
  refine o_aload_n (pc := 7) dX3_read_7 rfl ?_
  refine o_iconst (pc := 8) (v := 0) dX3_read_8 rfl ?_
  refine c_putI (pc := 9) 3 2 11 (by decide) (by decide) rfl rfl (lt48 (by decide)) rfl lkX3_15 ⟨rfl, rfl⟩ dX3_read_9 ?_
  refine lz_s (cW t) hf (fun s3 hf => ?_)
  show Rn g mdX3_read 12 [some (.ref 11), none] [] (cW t s3) 0 0 (some (.int q.1)) (cW t q.2)
  refine o_aload_n (pc := 12) dX3_read_12 rfl ?_
  refine o_iconst (pc := 13) (v := 0) dX3_read_13 rfl ?_
  refine c_putI (pc := 14) 3 5 11 (by decide) (by decide) rfl rfl (lt48 (by decide)) rfl lkX3_25 ⟨rfl, rfl⟩ dX3_read_14 ?_
  refine lz_s (cW t) hf (fun s4 hf => ?_)
  show Rn g mdX3_read 17 [some (.ref 11), none] [] (cW t s4) 0 0 (some (.int q.1)) (cW t q.2)
  refine o_aload_n (pc := 17) dX3_read_17 rfl ?_
  refine o_iconst (pc := 18) (v := 0) dX3_read_18 rfl ?_
  refine c_putI (pc := 19) 3 7 11 (by decide) (by decide) rfl rfl (lt48 (by decide)) rfl lkX3_31 ⟨rfl, rfl⟩ dX3_read_19 ?_
  refine lz_s (cW t) hf (fun s5 hf => ?_)
  show Rn g mdX3_read 22 [some (.ref 11), none] [] (cW t s5) 0 0 (some (.int q.1)) (cW t q.2)
  refine o_aload_n (pc := 22) dX3_read_22 rfl ?_
  refine o_iconst (pc := 23) (v := 0) dX3_read_23 rfl ?_
  refine c_putI (pc := 24) 3 8 11 (by decide) (by decide) rfl rfl (lt48 (by decide)) rfl lkX3_34 ⟨rfl, rfl⟩ dX3_read_24 ?_
  refine lz_s (cW t) hf (fun s6 hf => ?_)
  show Rn g mdX3_read 27 [some (.ref 11), none] [] (cW t s6) 0 0 (some (.int q.1)) (cW t q.2)
  refine o_aload_n (pc := 27) dX3_read_27 rfl ?_
  refine o_iconst (pc := 28) (v := 0) dX3_read_28 rfl ?_
  refine c_putI (pc := 29) 3 9 11 (by decide) (by decide) rfl rfl (lt48 (by decide)) rfl lkX3_37 ⟨rfl, rfl⟩ dX3_read_29 ?_
  refine lz_s (cW t) hf (fun s7 hf => ?_)
  show Rn g mdX3_read 32 [some (.ref 11), none] [] (cW t s7) 0 0 (some (.int q.1)) (cW t q.2)
  refine o_aload_n (pc := 32) dX3_read_32 rfl ?_
  refine o_iconst (pc := 33) (v := 0) dX3_read_33 rfl ?_
  refine c_putI (pc := 34) 3 10 11 (by decide) (by decide) rfl rfl (lt48 (by decide)) rfl lkX3_40 ⟨rfl, rfl⟩ dX3_read_34 ?_
  refine lz_s (cW t) hf (fun s8 hf => ?_)
  show Rn g mdX3_read 37 [some (.ref 11), none] [] (cW t s8) 0 0 (some (.int q.1)) (cW t q.2)
  refine o_aload_n (pc := 37) dX3_read_37 rfl ?_
  refine o_iconst (pc := 38) (v := 0) dX3_read_38 rfl ?_
  refine c_putI (pc := 39) 3 11 11 (by decide) (by decide) rfl rfl (lt48 (by decide)) rfl lkX3_43 ⟨rfl, rfl⟩ dX3_read_39 ?_
  refine lz_s (cW t) hf (fun s9 hf => ?_)
  show Rn g mdX3_read 42 [some (.ref 11), none] [] (cW t s9) 0 0 (some (.int q.1)) (cW t q.2)
  refine o_iconst (pc := 42) (v := 0) dX3_read_42 rfl ?_
  refine o_istore_n (pc := 43) dX3_read_43 (by decide) rfl ?_
  show Rn g mdX3_read 44 [some (.ref 11), some (.int 0)] [] (cW t s9) 0 0 (some (.int q.1)) (cW t q.2)
  obtain ⟨w30, hl31, hf⟩ := bd_elim hf
  have K32 : Rn g mdX3_read 139 [some (.ref 11), none] [] (cW t w30.2) 0 0 (some (.int q.1)) (cW t q.2) := by
    refine o_aload_n (pc := 139) dX3_read_139 rfl ?_
    refine c_getR (pc := 140) 3 0 11 1 (by decide) (by decide) rfl (lt48 (by decide)) rfl rfl lkX3_49 dX3_read_140 ?_
    refine c_getI (pc := 143) 5 3 1 (by decide) (by decide) rfl (lt48 (by decide)) rfl lkX3_58 dX3_read_143 ?_
    obtain rfl := Option.some.inj hf
    exact o_ireturn (pc := 146) dX3_read_146 rfl (Nat.zero_le _) (Nat.zero_le _)
  exact kX3_read_L44 _ _ _ hl31 K32
