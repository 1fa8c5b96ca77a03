def fX12_minute_L48 (a1 : Int32) (a2 : Int32) (a3 : Int32) : Nat → Int32 → Int32 → Int32 → Int32 → ST → Option (Int32 × Int32 × Int32 × Int32 × ST)
  | 0, _, _, _, _, _ => none
  | n + 1, x4, x5, x6, x7, s => if (a3 + 60) < x7 then some (x4, x5, x6, x7, s) else (fX12_in x7.toInt64 0 600 s).bind (fun q14 => (if q14 = 0 then some (x4, x5, x6, s) else ck (inb a1 8) (lt (si s 9 (ix a1) x7) (fun s19 => (fX12_goes 1 s19).bind (fun q21 => (fX12_laysBack q21).bind (fun q23 => (if x4 = (-1) then some false else if (gi q23 0 71) < x5 then some false else some true : Option Bool).bind (fun b24 => if b24 = true then (if (gi q23 0 71) = x5 then if x6 ≤ (gi q23 0 69) then some false else some true else some false : Option Bool).bind (fun b27 => if b27 = true then lt (gi q23 0 71 : Int32) (fun v30 => lt (gi q23 0 69 : Int32) (fun v31 => some (x7, v30, v31, q23))) else some (x4, x5, x6, q23)) else lt (gi q23 0 71 : Int32) (fun v32 => lt (gi q23 0 69 : Int32) (fun v33 => some (x7, v32, v33, q23)))))))) : Option (Int32 × Int32 × Int32 × ST)).bind (fun w15 => lt (x7 + 1) (fun v34 => fX12_minute_L48 a1 a2 a3 n w15.1 w15.2.1 w15.2.2.1 v34 w15.2.2.2)))
def fX12_minute (p0 : Int32) (p1 : Int32) (s : ST) : Option (Int32 × ST) :=
  (fX12_isMeeting p0 s).bind (fun q2 => (if q2 = 0 then some true else (fX12_in p1.toInt64 0 2 s).bind (fun q7 => if q7 = 0 then some true else some false) : Option Bool).bind (fun b3 => if b3 = true then some ((-1), s) else (fX12_keepsAll s).bind (fun q9 => ck (inb p0 8) (lt (gi q9 9 (ix p0) : Int32) (fun v11 => lt (v11 - 60 : Int32) (fun v12 => (fX12_minute_L48 p0 p1 v11 FUEL (-1) 0 0 v12 q9).bind (fun w35 => ck (inb p0 8) (lt (si w35.2.2.2.2 9 (ix p0) v11) (fun s39 => (if p1 = 0 then some w35.1 else if p1 = 1 then some w35.2.1 else some w35.2.2.1 : Option (Int32)).bind (fun w40 => some (w40, s39)))))))))))
set_option maxRecDepth 20000 in
theorem kX12_minute_L48 {g : GX} (a1 : Int32) (a2 : Int32) (a3 : Int32) {r : Option Value} {h2 : PH} : ∀ (n : Nat) (x4 : Int32) (x5 : Int32) (x6 : Int32) (x7 : Int32) (s : ST) {w : Int32 × Int32 × Int32 × Int32 × ST}, fX12_minute_L48 a1 a2 a3 n x4 x5 x6 x7 s = some w → Rn g mdX12_minute 142 [some (.ref 0), some (.int a1), some (.int a2), some (.int a3), some (.int w.1), some (.int w.2.1), some (.int w.2.2.1), none] [] (mW w.2.2.2.2) 0 0 r h2 → Rn g mdX12_minute 48 [some (.ref 0), some (.int a1), some (.int a2), some (.int a3), some (.int x4), some (.int x5), some (.int x6), some (.int x7)] [] (mW s) 0 0 r h2 := by
  intro n
  induction n with
  | zero => intro x4 x5 x6 x7 s w hf K; cases hf
  | succ n ih =>
    intro x4 x5 x6 x7 s w hf K
    rw [fX12_minute_L48] at hf
    refine o_iload (pc := 48) dX12_minute_48 rfl ?_
    refine o_iload_n (pc := 50) dX12_minute_50 rfl ?_
    refine o_bipush (pc := 51) (v := 60) dX12_minute_51 rfl ?_
    refine o_iadd (pc := 53) dX12_minute_53 ?_
    refine o_icmp_gt (pc := 54) 142 dX12_minute_54 rfl (fun hc => ?_) (fun hc => ?_)
    · have hf := it_t hf hc
      obtain rfl := Option.some.inj hf
      refine o_keep [true, true, true, true, true, true, true, false] ?_
      exact K
    · have hf := it_f hf hc
      refine o_iload (pc := 57) dX12_minute_57 rfl ?_
      refine o_i2l (pc := 59) dX12_minute_59 ?_
      refine o_lconst (pc := 60) (v := 0) dX12_minute_60 rfl ?_
      refine o_ldc2 (pc := 61) dX12_minute_61 lcX12_494 ?_
      obtain ⟨q14, hk13, hf⟩ := bd_elim hf
      refine m_callS (pc := 64) [.long x7.toInt64, .long 0, .long 600] dX12_minute_64 (kX12_in hk13) stX12_191 ⟨by decide, by decide, by decide, by decide⟩ ⟨rfl, rfl⟩ (Nat.le_of_ble_eq_true rfl) ?_
      show Rn g mdX12_minute 67 [some (.ref 0), some (.int a1), some (.int a2), some (.int a3), some (.int x4), some (.int x5), some (.int x6), some (.int x7)] [.int q14] (mW s) 0 0 r h2
      obtain ⟨w15, hr16, hf⟩ := bd_elim hf
      have K17 : Rn g mdX12_minute 136 [some (.ref 0), some (.int a1), some (.int a2), some (.int a3), some (.int w15.1), some (.int w15.2.1), some (.int w15.2.2.1), some (.int x7)] [] (mW w15.2.2.2) 0 0 r h2 := by
        refine o_iinc (pc := 136) dX12_minute_136 rfl (by decide) rfl ?_
        show Rn g mdX12_minute 139 [some (.ref 0), some (.int a1), some (.int a2), some (.int a3), some (.int w15.1), some (.int w15.2.1), some (.int w15.2.2.1), some (.int (x7 + 1))] [] (mW w15.2.2.2) 0 0 r h2
        obtain ⟨v34, ev34, hf⟩ := lt_elim hf
        rw [ev34]
        show Rn g mdX12_minute 139 [some (.ref 0), some (.int a1), some (.int a2), some (.int a3), some (.int w15.1), some (.int w15.2.1), some (.int w15.2.2.1), some (.int v34)] [] (mW w15.2.2.2) 0 0 r h2
        refine o_goto (pc := 139) 48 dX12_minute_139 rfl ?_
        exact ih _ _ _ _ _ hf K
      clear hf
      refine o_if_eq (pc := 67) 136 dX12_minute_67 rfl (fun hc => ?_) (fun hc => ?_)
      · have hr16 := it_t hr16 hc
        obtain rfl := Option.some.inj hr16
        exact K17
      · have hr16 := it_f hr16 hc
        refine o_aload_n (pc := 70) dX12_minute_70 rfl ?_
        refine m_getA (pc := 71) 9 9 (by decide) rfl rfl lkX12_34 dX12_minute_71 ?_
        refine o_iload_n (pc := 74) dX12_minute_74 rfl ?_
        refine o_iload (pc := 75) dX12_minute_75 rfl ?_
        obtain ⟨hk18, hr16⟩ := ck_elim hr16
        refine m_iast (pc := 77) (by decide) rfl hk18 dX12_minute_77 ?_
        refine lz_s (mW) hr16 (fun s19 hr16 => ?_)
        show Rn g mdX12_minute 78 [some (.ref 0), some (.int a1), some (.int a2), some (.int a3), some (.int x4), some (.int x5), some (.int x6), some (.int x7)] [] (mW s19) 0 0 r h2
        refine o_aload_n (pc := 78) dX12_minute_78 rfl ?_
        refine o_iconst (pc := 79) (v := 1) dX12_minute_79 rfl ?_
        obtain ⟨q21, hk20, hr16⟩ := bd_elim hr16
        refine m_callV (pc := 80) [.int 1] dX12_minute_80 (kX12_goes hk20) stX12_512 ⟨by decide, by decide, by decide, by decide⟩ ⟨rfl, rfl⟩ (Nat.le_of_ble_eq_true rfl) ?_
        show Rn g mdX12_minute 83 [some (.ref 0), some (.int a1), some (.int a2), some (.int a3), some (.int x4), some (.int x5), some (.int x6), some (.int x7)] [] (mW q21) 0 0 r h2
        refine o_aload_n (pc := 83) dX12_minute_83 rfl ?_
        obtain ⟨q23, hk22, hr16⟩ := bd_elim hr16
        refine m_callV (pc := 84) [] dX12_minute_84 (kX12_laysBack hk22) stX12_515 ⟨by decide, by decide, by decide, by decide⟩ ⟨rfl, rfl⟩ (Nat.le_of_ble_eq_true rfl) ?_
        show Rn g mdX12_minute 87 [some (.ref 0), some (.int a1), some (.int a2), some (.int a3), some (.int x4), some (.int x5), some (.int x6), some (.int x7)] [] (mW q23) 0 0 r h2
        refine o_iload (pc := 87) dX12_minute_87 rfl ?_
        refine o_iconst (pc := 89) (v := (-1)) dX12_minute_89 rfl ?_
        obtain ⟨b24, hr25, hr16⟩ := bd_elim hr16
        have KB26 : (b24 = true → Rn g mdX12_minute 102 [some (.ref 0), some (.int a1), some (.int a2), some (.int a3), some (.int x4), some (.int x5), some (.int x6), some (.int x7)] [] (mW q23) 0 0 r h2) ∧ (¬ b24 = true → Rn g mdX12_minute 120 [some (.ref 0), some (.int a1), some (.int a2), some (.int a3), some (.int x4), some (.int x5), some (.int x6), some (.int x7)] [] (mW q23) 0 0 r h2) := by
          refine ⟨fun hc => ?_, fun hc => ?_⟩
          · have hr16 := it_t hr16 hc
            refine o_aload_n (pc := 102) dX12_minute_102 rfl ?_
            refine m_getI (pc := 103) 71 (by decide) rfl lkX12_509 dX12_minute_103 ?_
            refine o_iload (pc := 106) dX12_minute_106 rfl ?_
            obtain ⟨b27, hr28, hr16⟩ := bd_elim hr16
            have KB29 : (b27 = true → Rn g mdX12_minute 120 [some (.ref 0), some (.int a1), some (.int a2), some (.int a3), some (.int x4), some (.int x5), some (.int x6), some (.int x7)] [] (mW q23) 0 0 r h2) ∧ (¬ b27 = true → Rn g mdX12_minute 136 [some (.ref 0), some (.int a1), some (.int a2), some (.int a3), some (.int x4), some (.int x5), some (.int x6), some (.int x7)] [] (mW q23) 0 0 r h2) := by
              refine ⟨fun hc => ?_, fun hc => ?_⟩
              · have hr16 := it_t hr16 hc
                refine o_iload (pc := 120) dX12_minute_120 rfl ?_
                refine o_istore (pc := 122) dX12_minute_122 (by decide) rfl ?_
                show Rn g mdX12_minute 124 [some (.ref 0), some (.int a1), some (.int a2), some (.int a3), some (.int x7), some (.int x5), some (.int x6), some (.int x7)] [] (mW q23) 0 0 r h2
                refine o_aload_n (pc := 124) dX12_minute_124 rfl ?_
                refine m_getI (pc := 125) 71 (by decide) rfl lkX12_509 dX12_minute_125 ?_
                refine lz_i hr16 (fun v30 hr16 => ?_)
                refine o_istore (pc := 128) dX12_minute_128 (by decide) rfl ?_
                show Rn g mdX12_minute 130 [some (.ref 0), some (.int a1), some (.int a2), some (.int a3), some (.int x7), some (.int v30), some (.int x6), some (.int x7)] [] (mW q23) 0 0 r h2
                refine o_aload_n (pc := 130) dX12_minute_130 rfl ?_
                refine m_getI (pc := 131) 69 (by decide) rfl lkX12_503 dX12_minute_131 ?_
                refine lz_i hr16 (fun v31 hr16 => ?_)
                refine o_istore (pc := 134) dX12_minute_134 (by decide) rfl ?_
                show Rn g mdX12_minute 136 [some (.ref 0), some (.int a1), some (.int a2), some (.int a3), some (.int x7), some (.int v30), some (.int v31), some (.int x7)] [] (mW q23) 0 0 r h2
                obtain rfl := Option.some.inj hr16
                exact K17
              · have hr16 := it_f hr16 hc
                obtain rfl := Option.some.inj hr16
                exact K17
            clear hr16
            refine o_icmp_ne (pc := 108) 136 dX12_minute_108 rfl (fun hc => ?_) (fun hc => ?_)
            · have hr28 := it_f hr28 hc
              obtain rfl := Option.some.inj hr28
              exact KB29.2 (by decide)
            · have hr28 := it_t hr28 hc
              refine o_aload_n (pc := 111) dX12_minute_111 rfl ?_
              refine m_getI (pc := 112) 69 (by decide) rfl lkX12_503 dX12_minute_112 ?_
              refine o_iload (pc := 115) dX12_minute_115 rfl ?_
              refine o_icmp_ge (pc := 117) 136 dX12_minute_117 rfl (fun hc => ?_) (fun hc => ?_)
              · have hr28 := it_t hr28 hc
                obtain rfl := Option.some.inj hr28
                exact KB29.2 (by decide)
              · have hr28 := it_f hr28 hc
                obtain rfl := Option.some.inj hr28
                exact KB29.1 rfl
          · have hr16 := it_f hr16 hc
            refine o_iload (pc := 120) dX12_minute_120 rfl ?_
            refine o_istore (pc := 122) dX12_minute_122 (by decide) rfl ?_
            show Rn g mdX12_minute 124 [some (.ref 0), some (.int a1), some (.int a2), some (.int a3), some (.int x7), some (.int x5), some (.int x6), some (.int x7)] [] (mW q23) 0 0 r h2
            refine o_aload_n (pc := 124) dX12_minute_124 rfl ?_
            refine m_getI (pc := 125) 71 (by decide) rfl lkX12_509 dX12_minute_125 ?_
            refine lz_i hr16 (fun v32 hr16 => ?_)
            refine o_istore (pc := 128) dX12_minute_128 (by decide) rfl ?_
            show Rn g mdX12_minute 130 [some (.ref 0), some (.int a1), some (.int a2), some (.int a3), some (.int x7), some (.int v32), some (.int x6), some (.int x7)] [] (mW q23) 0 0 r h2
            refine o_aload_n (pc := 130) dX12_minute_130 rfl ?_
            refine m_getI (pc := 131) 69 (by decide) rfl lkX12_503 dX12_minute_131 ?_
            refine lz_i hr16 (fun v33 hr16 => ?_)
            refine o_istore (pc := 134) dX12_minute_134 (by decide) rfl ?_
            show Rn g mdX12_minute 136 [some (.ref 0), some (.int a1), some (.int a2), some (.int a3), some (.int x7), some (.int v32), some (.int v33), some (.int x7)] [] (mW q23) 0 0 r h2
            obtain rfl := Option.some.inj hr16
            exact K17
        clear hr16
        refine o_icmp_eq (pc := 90) 120 dX12_minute_90 rfl (fun hc => ?_) (fun hc => ?_)
        · have hr25 := it_t hr25 hc
          obtain rfl := Option.some.inj hr25
          exact KB26.2 (by decide)
        · have hr25 := it_f hr25 hc
          refine o_aload_n (pc := 93) dX12_minute_93 rfl ?_
          refine m_getI (pc := 94) 71 (by decide) rfl lkX12_509 dX12_minute_94 ?_
          refine o_iload (pc := 97) dX12_minute_97 rfl ?_
          refine o_icmp_lt (pc := 99) 120 dX12_minute_99 rfl (fun hc => ?_) (fun hc => ?_)
          · have hr25 := it_t hr25 hc
            obtain rfl := Option.some.inj hr25
            exact KB26.2 (by decide)
          · have hr25 := it_f hr25 hc
            obtain rfl := Option.some.inj hr25
            exact KB26.1 rfl
set_option maxRecDepth 20000 in
theorem kX12_minute {g : GX} {p0 : Int32} {p1 : Int32} {s : ST} {q : Int32 × ST} (hf : fX12_minute p0 p1 s = some q) : Cn g mdX12_minute [.ref 0, .int p0, .int p1] (mW s) (some (.int q.1)) (mW q.2) := by
  refine Cn.of (by decide) (Nat.le_of_ble_eq_true rfl) ?_
  show Rn g mdX12_minute 0 [some (.ref 0), some (.int p0), some (.int p1), none, none, none, none, none] [] (mW s) 0 0 (some (.int q.1)) (mW q.2)
  unfold fX12_minute at hf
  refine o_aload_n (pc := 0) dX12_minute_0 rfl ?_
  refine o_iload_n (pc := 1) dX12_minute_1 rfl ?_
  obtain ⟨q2, hk1, hf⟩ := bd_elim hf
  refine m_callV (pc := 2) [.int p0] dX12_minute_2 (kX12_isMeeting hk1) stX12_465 ⟨by decide, by decide, by decide, by decide⟩ ⟨rfl, rfl⟩ (Nat.le_of_ble_eq_true rfl) ?_
  show Rn g mdX12_minute 5 [some (.ref 0), some (.int p0), some (.int p1), none, none, none, none, none] [.int q2] (mW s) 0 0 (some (.int q.1)) (mW q.2)
  obtain ⟨b3, hr4, hf⟩ := bd_elim hf
  have KB5 : (b3 = true → Rn g mdX12_minute 20 [some (.ref 0), some (.int p0), some (.int p1), none, none, none, none, none] [] (mW s) 0 0 (some (.int q.1)) (mW q.2)) ∧ (¬ b3 = true → Rn g mdX12_minute 22 [some (.ref 0), some (.int p0), some (.int p1), none, none, none, none, none] [] (mW s) 0 0 (some (.int q.1)) (mW q.2)) := by
    refine ⟨fun hc => ?_, fun hc => ?_⟩
    · have hf := it_t hf hc
      refine o_iconst (pc := 20) (v := (-1)) dX12_minute_20 rfl ?_
      obtain rfl := Option.some.inj hf
      exact o_ireturn (pc := 21) dX12_minute_21 rfl (Nat.zero_le _) (Nat.zero_le _)
    · have hf := it_f hf hc
      refine o_aload_n (pc := 22) dX12_minute_22 rfl ?_
      obtain ⟨q9, hk8, hf⟩ := bd_elim hf
      refine m_callV (pc := 23) [] dX12_minute_23 (kX12_keepsAll hk8) stX12_522 ⟨by decide, by decide, by decide, by decide⟩ ⟨rfl, rfl⟩ (Nat.le_of_ble_eq_true rfl) ?_
      show Rn g mdX12_minute 26 [some (.ref 0), some (.int p0), some (.int p1), none, none, none, none, none] [] (mW q9) 0 0 (some (.int q.1)) (mW q.2)
      refine o_aload_n (pc := 26) dX12_minute_26 rfl ?_
      refine m_getA (pc := 27) 9 9 (by decide) rfl rfl lkX12_34 dX12_minute_27 ?_
      refine o_iload_n (pc := 30) dX12_minute_30 rfl ?_
      obtain ⟨hk10, hf⟩ := ck_elim hf
      refine m_iald (pc := 31) (by decide) rfl hk10 dX12_minute_31 ?_
      refine lz_i hf (fun v11 hf => ?_)
      refine o_istore_n (pc := 32) dX12_minute_32 (by decide) rfl ?_
      show Rn g mdX12_minute 33 [some (.ref 0), some (.int p0), some (.int p1), some (.int v11), none, none, none, none] [] (mW q9) 0 0 (some (.int q.1)) (mW q.2)
      refine o_iconst (pc := 33) (v := (-1)) dX12_minute_33 rfl ?_
      refine o_istore (pc := 34) dX12_minute_34 (by decide) rfl ?_
      show Rn g mdX12_minute 36 [some (.ref 0), some (.int p0), some (.int p1), some (.int v11), some (.int (-1)), none, none, none] [] (mW q9) 0 0 (some (.int q.1)) (mW q.2)
      refine o_iconst (pc := 36) (v := 0) dX12_minute_36 rfl ?_
      refine o_istore (pc := 37) dX12_minute_37 (by decide) rfl ?_
      show Rn g mdX12_minute 39 [some (.ref 0), some (.int p0), some (.int p1), some (.int v11), some (.int (-1)), some (.int 0), none, none] [] (mW q9) 0 0 (some (.int q.1)) (mW q.2)
      refine o_iconst (pc := 39) (v := 0) dX12_minute_39 rfl ?_
      refine o_istore (pc := 40) dX12_minute_40 (by decide) rfl ?_
      show Rn g mdX12_minute 42 [some (.ref 0), some (.int p0), some (.int p1), some (.int v11), some (.int (-1)), some (.int 0), some (.int 0), none] [] (mW q9) 0 0 (some (.int q.1)) (mW q.2)
      refine o_iload_n (pc := 42) dX12_minute_42 rfl ?_
      refine o_bipush (pc := 43) (v := 60) dX12_minute_43 rfl ?_
      refine o_isub (pc := 45) dX12_minute_45 ?_
      refine lz_i hf (fun v12 hf => ?_)
      refine o_istore (pc := 46) dX12_minute_46 (by decide) rfl ?_
      show Rn g mdX12_minute 48 [some (.ref 0), some (.int p0), some (.int p1), some (.int v11), some (.int (-1)), some (.int 0), some (.int 0), some (.int v12)] [] (mW q9) 0 0 (some (.int q.1)) (mW q.2)
      obtain ⟨w35, hl36, hf⟩ := bd_elim hf
      have K37 : Rn g mdX12_minute 142 [some (.ref 0), some (.int p0), some (.int p1), some (.int v11), some (.int w35.1), some (.int w35.2.1), some (.int w35.2.2.1), none] [] (mW w35.2.2.2.2) 0 0 (some (.int q.1)) (mW q.2) := by
        refine o_aload_n (pc := 142) dX12_minute_142 rfl ?_
        refine m_getA (pc := 143) 9 9 (by decide) rfl rfl lkX12_34 dX12_minute_143 ?_
        refine o_iload_n (pc := 146) dX12_minute_146 rfl ?_
        refine o_iload_n (pc := 147) dX12_minute_147 rfl ?_
        obtain ⟨hk38, hf⟩ := ck_elim hf
        refine m_iast (pc := 148) (by decide) rfl hk38 dX12_minute_148 ?_
        refine lz_s (mW) hf (fun s39 hf => ?_)
        show Rn g mdX12_minute 149 [some (.ref 0), some (.int p0), some (.int p1), some (.int v11), some (.int w35.1), some (.int w35.2.1), some (.int w35.2.2.1), none] [] (mW s39) 0 0 (some (.int q.1)) (mW q.2)
        refine o_iload_n (pc := 149) dX12_minute_149 rfl ?_
        obtain ⟨w40, hr41, hf⟩ := bd_elim hf
        have K42 : Rn g mdX12_minute 170 [none, none, none, none, none, none, none, none] [.int w40] (mW s39) 0 0 (some (.int q.1)) (mW q.2) := by
          obtain rfl := Option.some.inj hf
          exact o_ireturn (pc := 170) dX12_minute_170 rfl (Nat.zero_le _) (Nat.zero_le _)
        clear hf
        refine o_if_ne (pc := 150) 158 dX12_minute_150 rfl (fun hc => ?_) (fun hc => ?_)
        · have hr41 := it_f hr41 hc
          refine o_iload_n (pc := 158) dX12_minute_158 rfl ?_
          refine o_iconst (pc := 159) (v := 1) dX12_minute_159 rfl ?_
          refine o_icmp_ne (pc := 160) 168 dX12_minute_160 rfl (fun hc => ?_) (fun hc => ?_)
          · have hr41 := it_f hr41 hc
            refine o_iload (pc := 168) dX12_minute_168 rfl ?_
            obtain rfl := Option.some.inj hr41
            refine o_keep [false, false, false, false, false, false, false, false] ?_
            exact K42
          · have hr41 := it_t hr41 hc
            refine o_iload (pc := 163) dX12_minute_163 rfl ?_
            refine o_goto (pc := 165) 170 dX12_minute_165 rfl ?_
            obtain rfl := Option.some.inj hr41
            refine o_keep [false, false, false, false, false, false, false, false] ?_
            exact K42
        · have hr41 := it_t hr41 hc
          refine o_iload (pc := 153) dX12_minute_153 rfl ?_
          refine o_goto (pc := 155) 170 dX12_minute_155 rfl ?_
          obtain rfl := Option.some.inj hr41
          refine o_keep [false, false, false, false, false, false, false, false] ?_
          exact K42
      exact kX12_minute_L48 _ _ _ _ _ _ _ _ _ hl36 K37
  clear hf
  refine o_if_eq (pc := 5) 20 dX12_minute_5 rfl (fun hc => ?_) (fun hc => ?_)
  · have hr4 := it_t hr4 hc
    obtain rfl := Option.some.inj hr4
    exact KB5.1 rfl
  · have hr4 := it_f hr4 hc
    refine o_iload_n (pc := 8) dX12_minute_8 rfl ?_
    refine o_i2l (pc := 9) dX12_minute_9 ?_
    refine o_lconst (pc := 10) (v := 0) dX12_minute_10 rfl ?_
    refine o_ldc2 (pc := 11) dX12_minute_11 lcX12_520 ?_
    obtain ⟨q7, hk6, hr4⟩ := bd_elim hr4
    refine m_callS (pc := 14) [.long p1.toInt64, .long 0, .long 2] dX12_minute_14 (kX12_in hk6) stX12_191 ⟨by decide, by decide, by decide, by decide⟩ ⟨rfl, rfl⟩ (Nat.le_of_ble_eq_true rfl) ?_
    show Rn g mdX12_minute 17 [some (.ref 0), some (.int p0), some (.int p1), none, none, none, none, none] [.int q7] (mW s) 0 0 (some (.int q.1)) (mW q.2)
    refine o_if_ne (pc := 17) 22 dX12_minute_17 rfl (fun hc => ?_) (fun hc => ?_)
    · have hr4 := it_f hr4 hc
      obtain rfl := Option.some.inj hr4
      exact KB5.2 (by decide)
    · have hr4 := it_t hr4 hc
      obtain rfl := Option.some.inj hr4
      exact KB5.1 rfl
def fX12_leave_L32 (a1 : Int32) : Nat → Int32 → Int32 → Int32 → ST → Option (Int32 × Int32 × Int32 × ST)
  | 0, _, _, _, _ => none
  | n + 1, x2, x3, x4, s => ck (inb 4 13) (if (gi s 1 (ix 4)) ≤ x4 then some (x2, x3, x4, s) else lt (si s 0 56 x4) (fun s11 => (fX12_costsOf 1 s11).bind (fun q13 => (if x2 = (-2) then some true else if x3 ≤ q13.1 then some false else some true : Option Bool).bind (fun b14 => (if b14 = true then some (x4, q13.1) else some (x2, x3) : Option (Int32 × Int32)).bind (fun w17 => lt (x4 + 1) (fun v20 => fX12_leave_L32 a1 n w17.1 w17.2 v20 q13.2))))))
def fX12_leave (p0 : Int32) (s : ST) : Option (Int32 × ST) :=
  (fX12_isTown s).bind (fun q2 => (if q2 = 0 then some true else (fX12_in p0.toInt64 0 1 s).bind (fun q7 => if q7 = 0 then some true else some false) : Option Bool).bind (fun b3 => if b3 = true then some ((-1), s) else (fX12_keepsAll s).bind (fun q9 => (fX12_leave_L32 p0 FUEL (-2) (-2) 0 q9).bind (fun w21 => lt (si w21.2.2.2 0 56 (-1)) (fun s24 => (if p0 = 0 then some w21.1 else some w21.2.1 : Option (Int32)).bind (fun w25 => some (w25, s24)))))))
set_option maxRecDepth 20000 in
theorem kX12_leave_L32 {g : GX} (a1 : Int32) {r : Option Value} {h2 : PH} : ∀ (n : Nat) (x2 : Int32) (x3 : Int32) (x4 : Int32) (s : ST) {w : Int32 × Int32 × Int32 × ST}, fX12_leave_L32 a1 n x2 x3 x4 s = some w → Rn g mdX12_leave 80 [some (.ref 0), some (.int a1), some (.int w.1), some (.int w.2.1), none, none] [] (mW w.2.2.2) 0 0 r h2 → Rn g mdX12_leave 32 [some (.ref 0), some (.int a1), some (.int x2), some (.int x3), some (.int x4), none] [] (mW s) 0 0 r h2 := by
  intro n
  induction n with
  | zero => intro x2 x3 x4 s w hf K; cases hf
  | succ n ih =>
    intro x2 x3 x4 s w hf K
    rw [fX12_leave_L32] at hf
    refine o_iload (pc := 32) dX12_leave_32 rfl ?_
    refine o_aload_n (pc := 34) dX12_leave_34 rfl ?_
    refine m_getA (pc := 35) 1 1 (by decide) rfl rfl lkX12_9 dX12_leave_35 ?_
    refine o_iconst (pc := 38) (v := 4) dX12_leave_38 rfl ?_
    obtain ⟨hk10, hf⟩ := ck_elim hf
    refine m_iald (pc := 39) (by decide) rfl hk10 dX12_leave_39 ?_
    refine o_icmp_ge (pc := 40) 80 dX12_leave_40 rfl (fun hc => ?_) (fun hc => ?_)
    · have hf := it_t hf hc
      obtain rfl := Option.some.inj hf
      refine o_keep [true, true, true, true, false, false] ?_
      exact K
    · have hf := it_f hf hc
      refine o_aload_n (pc := 43) dX12_leave_43 rfl ?_
      refine o_iload (pc := 44) dX12_leave_44 rfl ?_
      refine m_putI (pc := 46) 56 (by decide) rfl rfl lkX12_151 ⟨rfl, rfl⟩ dX12_leave_46 ?_
      refine lz_s (mW) hf (fun s11 hf => ?_)
      show Rn g mdX12_leave 49 [some (.ref 0), some (.int a1), some (.int x2), some (.int x3), some (.int x4), none] [] (mW s11) 0 0 r h2
      refine o_aload_n (pc := 49) dX12_leave_49 rfl ?_
      refine o_iconst (pc := 50) (v := 1) dX12_leave_50 rfl ?_
      obtain ⟨q13, hk12, hf⟩ := bd_elim hf
      refine m_callV (pc := 51) [.int 1] dX12_leave_51 (kX12_costsOf hk12) stX12_530 ⟨by decide, by decide, by decide, by decide⟩ ⟨rfl, rfl⟩ (Nat.le_of_ble_eq_true rfl) ?_
      show Rn g mdX12_leave 54 [some (.ref 0), some (.int a1), some (.int x2), some (.int x3), some (.int x4), none] [.int q13.1] (mW q13.2) 0 0 r h2
      refine o_istore (pc := 54) dX12_leave_54 (by decide) rfl ?_
      show Rn g mdX12_leave 56 [some (.ref 0), some (.int a1), some (.int x2), some (.int x3), some (.int x4), some (.int q13.1)] [] (mW q13.2) 0 0 r h2
      refine o_iload_n (pc := 56) dX12_leave_56 rfl ?_
      refine o_bipush (pc := 57) (v := (-2)) dX12_leave_57 rfl ?_
      obtain ⟨b14, hr15, hf⟩ := bd_elim hf
      obtain ⟨w17, hr18, hf⟩ := bd_elim hf
      have K19 : Rn g mdX12_leave 74 [some (.ref 0), some (.int a1), some (.int w17.1), some (.int w17.2), some (.int x4), none] [] (mW q13.2) 0 0 r h2 := by
        refine o_iinc (pc := 74) dX12_leave_74 rfl (by decide) rfl ?_
        show Rn g mdX12_leave 77 [some (.ref 0), some (.int a1), some (.int w17.1), some (.int w17.2), some (.int (x4 + 1)), none] [] (mW q13.2) 0 0 r h2
        obtain ⟨v20, ev20, hf⟩ := lt_elim hf
        rw [ev20]
        show Rn g mdX12_leave 77 [some (.ref 0), some (.int a1), some (.int w17.1), some (.int w17.2), some (.int v20), none] [] (mW q13.2) 0 0 r h2
        refine o_goto (pc := 77) 32 dX12_leave_77 rfl ?_
        exact ih _ _ _ _ hf K
      clear hf
      have KB16 : (b14 = true → Rn g mdX12_leave 68 [some (.ref 0), some (.int a1), some (.int x2), some (.int x3), some (.int x4), some (.int q13.1)] [] (mW q13.2) 0 0 r h2) ∧ (¬ b14 = true → Rn g mdX12_leave 74 [some (.ref 0), some (.int a1), some (.int x2), some (.int x3), some (.int x4), some (.int q13.1)] [] (mW q13.2) 0 0 r h2) := by
        refine ⟨fun hc => ?_, fun hc => ?_⟩
        · have hr18 := it_t hr18 hc
          refine o_iload (pc := 68) dX12_leave_68 rfl ?_
          refine o_istore_n (pc := 70) dX12_leave_70 (by decide) rfl ?_
          show Rn g mdX12_leave 71 [some (.ref 0), some (.int a1), some (.int x4), some (.int x3), some (.int x4), some (.int q13.1)] [] (mW q13.2) 0 0 r h2
          refine o_iload (pc := 71) dX12_leave_71 rfl ?_
          refine o_istore_n (pc := 73) dX12_leave_73 (by decide) rfl ?_
          show Rn g mdX12_leave 74 [some (.ref 0), some (.int a1), some (.int x4), some (.int q13.1), some (.int x4), some (.int q13.1)] [] (mW q13.2) 0 0 r h2
          obtain rfl := Option.some.inj hr18
          refine o_keep [true, true, true, true, true, false] ?_
          exact K19
        · have hr18 := it_f hr18 hc
          obtain rfl := Option.some.inj hr18
          refine o_keep [true, true, true, true, true, false] ?_
          exact K19
      clear hr18
      refine o_icmp_eq (pc := 59) 68 dX12_leave_59 rfl (fun hc => ?_) (fun hc => ?_)
      · have hr15 := it_t hr15 hc
        obtain rfl := Option.some.inj hr15
        exact KB16.1 rfl
      · have hr15 := it_f hr15 hc
        refine o_iload (pc := 62) dX12_leave_62 rfl ?_
        refine o_iload_n (pc := 64) dX12_leave_64 rfl ?_
        refine o_icmp_ge (pc := 65) 74 dX12_leave_65 rfl (fun hc => ?_) (fun hc => ?_)
        · have hr15 := it_t hr15 hc
          obtain rfl := Option.some.inj hr15
          exact KB16.2 (by decide)
        · have hr15 := it_f hr15 hc
          obtain rfl := Option.some.inj hr15
          exact KB16.1 rfl
set_option maxRecDepth 20000 in
theorem kX12_leave {g : GX} {p0 : Int32} {s : ST} {q : Int32 × ST} (hf : fX12_leave p0 s = some q) : Cn g mdX12_leave [.ref 0, .int p0] (mW s) (some (.int q.1)) (mW q.2) := by
  refine Cn.of (by decide) (Nat.le_of_ble_eq_true rfl) ?_
  show Rn g mdX12_leave 0 [some (.ref 0), some (.int p0), none, none, none, none] [] (mW s) 0 0 (some (.int q.1)) (mW q.2)
  unfold fX12_leave at hf
  refine o_aload_n (pc := 0) dX12_leave_0 rfl ?_
  obtain ⟨q2, hk1, hf⟩ := bd_elim hf
  refine m_callV (pc := 1) [] dX12_leave_1 (kX12_isTown hk1) stX12_485 ⟨by decide, by decide, by decide, by decide⟩ ⟨rfl, rfl⟩ (Nat.le_of_ble_eq_true rfl) ?_
  show Rn g mdX12_leave 4 [some (.ref 0), some (.int p0), none, none, none, none] [.int q2] (mW s) 0 0 (some (.int q.1)) (mW q.2)
  obtain ⟨b3, hr4, hf⟩ := bd_elim hf
  have KB5 : (b3 = true → Rn g mdX12_leave 17 [some (.ref 0), some (.int p0), none, none, none, none] [] (mW s) 0 0 (some (.int q.1)) (mW q.2)) ∧ (¬ b3 = true → Rn g mdX12_leave 19 [some (.ref 0), some (.int p0), none, none, none, none] [] (mW s) 0 0 (some (.int q.1)) (mW q.2)) := by
    refine ⟨fun hc => ?_, fun hc => ?_⟩
    · have hf := it_t hf hc
      refine o_iconst (pc := 17) (v := (-1)) dX12_leave_17 rfl ?_
      obtain rfl := Option.some.inj hf
      exact o_ireturn (pc := 18) dX12_leave_18 rfl (Nat.zero_le _) (Nat.zero_le _)
    · have hf := it_f hf hc
      refine o_bipush (pc := 19) (v := (-2)) dX12_leave_19 rfl ?_
      refine o_istore_n (pc := 21) dX12_leave_21 (by decide) rfl ?_
      show Rn g mdX12_leave 22 [some (.ref 0), some (.int p0), some (.int (-2)), none, none, none] [] (mW s) 0 0 (some (.int q.1)) (mW q.2)
      refine o_bipush (pc := 22) (v := (-2)) dX12_leave_22 rfl ?_
      refine o_istore_n (pc := 24) dX12_leave_24 (by decide) rfl ?_
      show Rn g mdX12_leave 25 [some (.ref 0), some (.int p0), some (.int (-2)), some (.int (-2)), none, none] [] (mW s) 0 0 (some (.int q.1)) (mW q.2)
      refine o_aload_n (pc := 25) dX12_leave_25 rfl ?_
      obtain ⟨q9, hk8, hf⟩ := bd_elim hf
      refine m_callV (pc := 26) [] dX12_leave_26 (kX12_keepsAll hk8) stX12_522 ⟨by decide, by decide, by decide, by decide⟩ ⟨rfl, rfl⟩ (Nat.le_of_ble_eq_true rfl) ?_
      show Rn g mdX12_leave 29 [some (.ref 0), some (.int p0), some (.int (-2)), some (.int (-2)), none, none] [] (mW q9) 0 0 (some (.int q.1)) (mW q.2)
      refine o_iconst (pc := 29) (v := 0) dX12_leave_29 rfl ?_
      refine o_istore (pc := 30) dX12_leave_30 (by decide) rfl ?_
      show Rn g mdX12_leave 32 [some (.ref 0), some (.int p0), some (.int (-2)), some (.int (-2)), some (.int 0), none] [] (mW q9) 0 0 (some (.int q.1)) (mW q.2)
      obtain ⟨w21, hl22, hf⟩ := bd_elim hf
      have K23 : Rn g mdX12_leave 80 [some (.ref 0), some (.int p0), some (.int w21.1), some (.int w21.2.1), none, none] [] (mW w21.2.2.2) 0 0 (some (.int q.1)) (mW q.2) := by
        refine o_aload_n (pc := 80) dX12_leave_80 rfl ?_
        refine o_iconst (pc := 81) (v := (-1)) dX12_leave_81 rfl ?_
        refine m_putI (pc := 82) 56 (by decide) rfl rfl lkX12_151 ⟨rfl, rfl⟩ dX12_leave_82 ?_
        refine lz_s (mW) hf (fun s24 hf => ?_)
        show Rn g mdX12_leave 85 [some (.ref 0), some (.int p0), some (.int w21.1), some (.int w21.2.1), none, none] [] (mW s24) 0 0 (some (.int q.1)) (mW q.2)
        refine o_iload_n (pc := 85) dX12_leave_85 rfl ?_
        obtain ⟨w25, hr26, hf⟩ := bd_elim hf
        have K27 : Rn g mdX12_leave 94 [none, none, none, none, none, none] [.int w25] (mW s24) 0 0 (some (.int q.1)) (mW q.2) := by
          obtain rfl := Option.some.inj hf
          exact o_ireturn (pc := 94) dX12_leave_94 rfl (Nat.zero_le _) (Nat.zero_le _)
        clear hf
        refine o_if_ne (pc := 86) 93 dX12_leave_86 rfl (fun hc => ?_) (fun hc => ?_)
        · have hr26 := it_f hr26 hc
          refine o_iload_n (pc := 93) dX12_leave_93 rfl ?_
          obtain rfl := Option.some.inj hr26
          refine o_keep [false, false, false, false, false, false] ?_
          exact K27
        · have hr26 := it_t hr26 hc
          refine o_iload_n (pc := 89) dX12_leave_89 rfl ?_
          refine o_goto (pc := 90) 94 dX12_leave_90 rfl ?_
          obtain rfl := Option.some.inj hr26
          refine o_keep [false, false, false, false, false, false] ?_
          exact K27
      exact kX12_leave_L32 _ _ _ _ _ _ hl22 K23
  clear hf
  refine o_if_eq (pc := 4) 17 dX12_leave_4 rfl (fun hc => ?_) (fun hc => ?_)
  · have hr4 := it_t hr4 hc
    obtain rfl := Option.some.inj hr4
    exact KB5.1 rfl
  · have hr4 := it_f hr4 hc
    refine o_iload_n (pc := 7) dX12_leave_7 rfl ?_
    refine o_i2l (pc := 8) dX12_leave_8 ?_
    refine o_lconst (pc := 9) (v := 0) dX12_leave_9 rfl ?_
    refine o_lconst (pc := 10) (v := 1) dX12_leave_10 rfl ?_
    obtain ⟨q7, hk6, hr4⟩ := bd_elim hr4
    refine m_callS (pc := 11) [.long p0.toInt64, .long 0, .long 1] dX12_leave_11 (kX12_in hk6) stX12_191 ⟨by decide, by decide, by decide, by decide⟩ ⟨rfl, rfl⟩ (Nat.le_of_ble_eq_true rfl) ?_
    show Rn g mdX12_leave 14 [some (.ref 0), some (.int p0), none, none, none, none] [.int q7] (mW s) 0 0 (some (.int q.1)) (mW q.2)
    refine o_if_ne (pc := 14) 19 dX12_leave_14 rfl (fun hc => ?_) (fun hc => ?_)
    · have hr4 := it_f hr4 hc
      obtain rfl := Option.some.inj hr4
      exact KB5.2 (by decide)
    · have hr4 := it_t hr4 hc
      obtain rfl := Option.some.inj hr4
      exact KB5.1 rfl
def fX12_worth (p0 : Int32) (p1 : Int32) (s : ST) : Option (Int32 × ST) :=
  (fX12_isMeeting p0 s).bind (fun q2 => (if q2 = 0 then some true else (fX12_in p1.toInt64 1 20 s).bind (fun q7 => if q7 = 0 then some true else some false) : Option Bool).bind (fun b3 => if b3 = true then some ((-1000000), s) else (fX12_keepsAll s).bind (fun q9 => (fX12_costsOf p1 q9).bind (fun q11 => lt (si q11.2 0 56 p0) (fun s12 => (fX12_costsOf p1 s12).bind (fun q14 => lt (q11.1 - q14.1 : Int32) (fun v15 => lt (si q14.2 0 56 (-1)) (fun s16 => some (v15, s16)))))))))
set_option maxRecDepth 20000 in
theorem kX12_worth {g : GX} {p0 : Int32} {p1 : Int32} {s : ST} {q : Int32 × ST} (hf : fX12_worth p0 p1 s = some q) : Cn g mdX12_worth [.ref 0, .int p0, .int p1] (mW s) (some (.int q.1)) (mW q.2) := by
  refine Cn.of (by decide) (Nat.le_of_ble_eq_true rfl) ?_
  show Rn g mdX12_worth 0 [some (.ref 0), some (.int p0), some (.int p1), none, none] [] (mW s) 0 0 (some (.int q.1)) (mW q.2)
  unfold fX12_worth at hf
  refine o_aload_n (pc := 0) dX12_worth_0 rfl ?_
  refine o_iload_n (pc := 1) dX12_worth_1 rfl ?_
  obtain ⟨q2, hk1, hf⟩ := bd_elim hf
  refine m_callV (pc := 2) [.int p0] dX12_worth_2 (kX12_isMeeting hk1) stX12_465 ⟨by decide, by decide, by decide, by decide⟩ ⟨rfl, rfl⟩ (Nat.le_of_ble_eq_true rfl) ?_
  show Rn g mdX12_worth 5 [some (.ref 0), some (.int p0), some (.int p1), none, none] [.int q2] (mW s) 0 0 (some (.int q.1)) (mW q.2)
  obtain ⟨b3, hr4, hf⟩ := bd_elim hf
  have KB5 : (b3 = true → Rn g mdX12_worth 20 [some (.ref 0), some (.int p0), some (.int p1), none, none] [] (mW s) 0 0 (some (.int q.1)) (mW q.2)) ∧ (¬ b3 = true → Rn g mdX12_worth 24 [some (.ref 0), some (.int p0), some (.int p1), none, none] [] (mW s) 0 0 (some (.int q.1)) (mW q.2)) := by
    refine ⟨fun hc => ?_, fun hc => ?_⟩
    · have hf := it_t hf hc
      refine o_ldcw (pc := 20) dX12_worth_20 lcX12_417 ?_
      obtain rfl := Option.some.inj hf
      exact o_ireturn (pc := 23) dX12_worth_23 rfl (Nat.zero_le _) (Nat.zero_le _)
    · have hf := it_f hf hc
      refine o_aload_n (pc := 24) dX12_worth_24 rfl ?_
      obtain ⟨q9, hk8, hf⟩ := bd_elim hf
      refine m_callV (pc := 25) [] dX12_worth_25 (kX12_keepsAll hk8) stX12_522 ⟨by decide, by decide, by decide, by decide⟩ ⟨rfl, rfl⟩ (Nat.le_of_ble_eq_true rfl) ?_
      show Rn g mdX12_worth 28 [some (.ref 0), some (.int p0), some (.int p1), none, none] [] (mW q9) 0 0 (some (.int q.1)) (mW q.2)
      refine o_aload_n (pc := 28) dX12_worth_28 rfl ?_
      refine o_iload_n (pc := 29) dX12_worth_29 rfl ?_
      obtain ⟨q11, hk10, hf⟩ := bd_elim hf
      refine m_callV (pc := 30) [.int p1] dX12_worth_30 (kX12_costsOf hk10) stX12_530 ⟨by decide, by decide, by decide, by decide⟩ ⟨rfl, rfl⟩ (Nat.le_of_ble_eq_true rfl) ?_
      show Rn g mdX12_worth 33 [some (.ref 0), some (.int p0), some (.int p1), none, none] [.int q11.1] (mW q11.2) 0 0 (some (.int q.1)) (mW q.2)
      refine o_istore_n (pc := 33) dX12_worth_33 (by decide) rfl ?_
      show Rn g mdX12_worth 34 [some (.ref 0), some (.int p0), some (.int p1), some (.int q11.1), none] [] (mW q11.2) 0 0 (some (.int q.1)) (mW q.2)
      refine o_aload_n (pc := 34) dX12_worth_34 rfl ?_
      refine o_iload_n (pc := 35) dX12_worth_35 rfl ?_
      refine m_putI (pc := 36) 56 (by decide) rfl rfl lkX12_151 ⟨rfl, rfl⟩ dX12_worth_36 ?_
      refine lz_s (mW) hf (fun s12 hf => ?_)
      show Rn g mdX12_worth 39 [some (.ref 0), some (.int p0), some (.int p1), some (.int q11.1), none] [] (mW s12) 0 0 (some (.int q.1)) (mW q.2)
      refine o_iload_n (pc := 39) dX12_worth_39 rfl ?_
      refine o_aload_n (pc := 40) dX12_worth_40 rfl ?_
      refine o_iload_n (pc := 41) dX12_worth_41 rfl ?_
      obtain ⟨q14, hk13, hf⟩ := bd_elim hf
      refine m_callV (pc := 42) [.int p1] dX12_worth_42 (kX12_costsOf hk13) stX12_530 ⟨by decide, by decide, by decide, by decide⟩ ⟨rfl, rfl⟩ (Nat.le_of_ble_eq_true rfl) ?_
      show Rn g mdX12_worth 45 [some (.ref 0), some (.int p0), some (.int p1), some (.int q11.1), none] [.int q14.1, .int q11.1] (mW q14.2) 0 0 (some (.int q.1)) (mW q.2)
      refine o_isub (pc := 45) dX12_worth_45 ?_
      refine lz_i hf (fun v15 hf => ?_)
      refine o_istore (pc := 46) dX12_worth_46 (by decide) rfl ?_
      show Rn g mdX12_worth 48 [some (.ref 0), some (.int p0), some (.int p1), some (.int q11.1), some (.int v15)] [] (mW q14.2) 0 0 (some (.int q.1)) (mW q.2)
      refine o_aload_n (pc := 48) dX12_worth_48 rfl ?_
      refine o_iconst (pc := 49) (v := (-1)) dX12_worth_49 rfl ?_
      refine m_putI (pc := 50) 56 (by decide) rfl rfl lkX12_151 ⟨rfl, rfl⟩ dX12_worth_50 ?_
      refine lz_s (mW) hf (fun s16 hf => ?_)
      show Rn g mdX12_worth 53 [some (.ref 0), some (.int p0), some (.int p1), some (.int q11.1), some (.int v15)] [] (mW s16) 0 0 (some (.int q.1)) (mW q.2)
      refine o_iload (pc := 53) dX12_worth_53 rfl ?_
      obtain rfl := Option.some.inj hf
      exact o_ireturn (pc := 55) dX12_worth_55 rfl (Nat.zero_le _) (Nat.zero_le _)
  clear hf
  refine o_if_eq (pc := 5) 20 dX12_worth_5 rfl (fun hc => ?_) (fun hc => ?_)
  · have hr4 := it_t hr4 hc
    obtain rfl := Option.some.inj hr4
    exact KB5.1 rfl
  · have hr4 := it_f hr4 hc
    refine o_iload_n (pc := 8) dX12_worth_8 rfl ?_
    refine o_i2l (pc := 9) dX12_worth_9 ?_
    refine o_lconst (pc := 10) (v := 1) dX12_worth_10 rfl ?_
    refine o_ldc2 (pc := 11) dX12_worth_11 lcX12_498 ?_
    obtain ⟨q7, hk6, hr4⟩ := bd_elim hr4
    refine m_callS (pc := 14) [.long p1.toInt64, .long 1, .long 20] dX12_worth_14 (kX12_in hk6) stX12_191 ⟨by decide, by decide, by decide, by decide⟩ ⟨rfl, rfl⟩ (Nat.le_of_ble_eq_true rfl) ?_
    show Rn g mdX12_worth 17 [some (.ref 0), some (.int p0), some (.int p1), none, none] [.int q7] (mW s) 0 0 (some (.int q.1)) (mW q.2)
    refine o_if_ne (pc := 17) 24 dX12_worth_17 rfl (fun hc => ?_) (fun hc => ?_)
    · have hr4 := it_f hr4 hc
      obtain rfl := Option.some.inj hr4
      exact KB5.2 (by decide)
    · have hr4 := it_t hr4 hc
      obtain rfl := Option.some.inj hr4
      exact KB5.1 rfl
def fX12_laysRests_L11 (a1 : Int32) : Nat → Int32 → ST → Option (Int32 × ST)
  | 0, _, _ => none
  | n + 1, x2, s => if 49 ≤ x2 then some (x2, s) else lt (si s 0 58 (10 * (x2 / 7))) (fun s4 => lt (si s4 0 59 (10 * (x2 - x2 / 7 * 7))) (fun s5 => (fX12_goes 1 s5).bind (fun q7 => (fX12_laysBack q7).bind (fun q9 => ck (inb a1 8) (ck (inb x2 49) (lt (si q9 48 (ix x2) (gi q9 44 (ix a1))) (fun s12 => ck (inb a1 8) (ck (inb x2 49) (lt (si s12 49 (ix x2) (gi s12 45 (ix a1))) (fun s15 => lt (x2 + 1) (fun v16 => fX12_laysRests_L11 a1 n v16 s15)))))))))))
def fX12_laysRests (p0 : Int32) (s : ST) : Option (ST) :=
  (fX12_keepsAll s).bind (fun q2 => lt (si q2 0 57 p0) (fun s3 => (fX12_laysRests_L11 p0 FUEL 0 s3).bind (fun w17 => lt (si w17.2 0 57 (-1)) (fun s20 => some s20))))
set_option maxRecDepth 20000 in
theorem kX12_laysRests_L11 {g : GX} (a1 : Int32) {r : Option Value} {h2 : PH} : ∀ (n : Nat) (x2 : Int32) (s : ST) {w : Int32 × ST}, fX12_laysRests_L11 a1 n x2 s = some w → Rn g mdX12_laysRests 78 [some (.ref 0), none, none] [] (mW w.2) 0 0 r h2 → Rn g mdX12_laysRests 11 [some (.ref 0), some (.int a1), some (.int x2)] [] (mW s) 0 0 r h2 := by
  intro n
  induction n with
  | zero => intro x2 s w hf K; cases hf
  | succ n ih =>
    intro x2 s w hf K
    rw [fX12_laysRests_L11] at hf
    refine o_iload_n (pc := 11) dX12_laysRests_11 rfl ?_
    refine o_bipush (pc := 12) (v := 49) dX12_laysRests_12 rfl ?_
    refine o_icmp_ge (pc := 14) 78 dX12_laysRests_14 rfl (fun hc => ?_) (fun hc => ?_)
    · have hf := it_t hf hc
      obtain rfl := Option.some.inj hf
      refine o_keep [true, false, false] ?_
      exact K
    · have hf := it_f hf hc
      refine o_aload_n (pc := 17) dX12_laysRests_17 rfl ?_
      refine o_bipush (pc := 18) (v := 10) dX12_laysRests_18 rfl ?_
      refine o_iload_n (pc := 20) dX12_laysRests_20 rfl ?_
      refine o_bipush (pc := 21) (v := 7) dX12_laysRests_21 rfl ?_
      refine o_idiv (pc := 23) dX12_laysRests_23 (by decide) ?_
      refine o_imul (pc := 24) dX12_laysRests_24 ?_
      refine m_putI (pc := 25) 58 (by decide) rfl rfl lkX12_418 ⟨rfl, rfl⟩ dX12_laysRests_25 ?_
      refine lz_s (mW) hf (fun s4 hf => ?_)
      show Rn g mdX12_laysRests 28 [some (.ref 0), some (.int a1), some (.int x2)] [] (mW s4) 0 0 r h2
      refine o_aload_n (pc := 28) dX12_laysRests_28 rfl ?_
      refine o_bipush (pc := 29) (v := 10) dX12_laysRests_29 rfl ?_
      refine o_iload_n (pc := 31) dX12_laysRests_31 rfl ?_
      refine o_bipush (pc := 32) (v := 7) dX12_laysRests_32 rfl ?_
      refine o_irem (pc := 34) dX12_laysRests_34 (by decide) ?_
      refine o_imul (pc := 35) dX12_laysRests_35 ?_
      refine m_putI (pc := 36) 59 (by decide) rfl rfl lkX12_424 ⟨rfl, rfl⟩ dX12_laysRests_36 ?_
      refine lz_s (mW) hf (fun s5 hf => ?_)
      show Rn g mdX12_laysRests 39 [some (.ref 0), some (.int a1), some (.int x2)] [] (mW s5) 0 0 r h2
      refine o_aload_n (pc := 39) dX12_laysRests_39 rfl ?_
      refine o_iconst (pc := 40) (v := 1) dX12_laysRests_40 rfl ?_
      obtain ⟨q7, hk6, hf⟩ := bd_elim hf
      refine m_callV (pc := 41) [.int 1] dX12_laysRests_41 (kX12_goes hk6) stX12_512 ⟨by decide, by decide, by decide, by decide⟩ ⟨rfl, rfl⟩ (Nat.le_of_ble_eq_true rfl) ?_
      show Rn g mdX12_laysRests 44 [some (.ref 0), some (.int a1), some (.int x2)] [] (mW q7) 0 0 r h2
      refine o_aload_n (pc := 44) dX12_laysRests_44 rfl ?_
      obtain ⟨q9, hk8, hf⟩ := bd_elim hf
      refine m_callV (pc := 45) [] dX12_laysRests_45 (kX12_laysBack hk8) stX12_515 ⟨by decide, by decide, by decide, by decide⟩ ⟨rfl, rfl⟩ (Nat.le_of_ble_eq_true rfl) ?_
      show Rn g mdX12_laysRests 48 [some (.ref 0), some (.int a1), some (.int x2)] [] (mW q9) 0 0 r h2
      refine o_aload_n (pc := 48) dX12_laysRests_48 rfl ?_
      refine m_getA (pc := 49) 72 48 (by decide) rfl rfl lkX12_163 dX12_laysRests_49 ?_
      refine o_iload_n (pc := 52) dX12_laysRests_52 rfl ?_
      refine o_aload_n (pc := 53) dX12_laysRests_53 rfl ?_
      refine m_getA (pc := 54) 54 44 (by decide) rfl rfl lkX12_145 dX12_laysRests_54 ?_
      refine o_iload_n (pc := 57) dX12_laysRests_57 rfl ?_
      obtain ⟨hk10, hf⟩ := ck_elim hf
      refine m_iald (pc := 58) (by decide) rfl hk10 dX12_laysRests_58 ?_
      obtain ⟨hk11, hf⟩ := ck_elim hf
      refine m_iast (pc := 59) (by decide) rfl hk11 dX12_laysRests_59 ?_
      refine lz_s (mW) hf (fun s12 hf => ?_)
      show Rn g mdX12_laysRests 60 [some (.ref 0), some (.int a1), some (.int x2)] [] (mW s12) 0 0 r h2
      refine o_aload_n (pc := 60) dX12_laysRests_60 rfl ?_
      refine m_getA (pc := 61) 73 49 (by decide) rfl rfl lkX12_166 dX12_laysRests_61 ?_
      refine o_iload_n (pc := 64) dX12_laysRests_64 rfl ?_
      refine o_aload_n (pc := 65) dX12_laysRests_65 rfl ?_
      refine m_getA (pc := 66) 55 45 (by decide) rfl rfl lkX12_148 dX12_laysRests_66 ?_
      refine o_iload_n (pc := 69) dX12_laysRests_69 rfl ?_
      obtain ⟨hk13, hf⟩ := ck_elim hf
      refine m_iald (pc := 70) (by decide) rfl hk13 dX12_laysRests_70 ?_
      obtain ⟨hk14, hf⟩ := ck_elim hf
      refine m_iast (pc := 71) (by decide) rfl hk14 dX12_laysRests_71 ?_
      refine lz_s (mW) hf (fun s15 hf => ?_)
      show Rn g mdX12_laysRests 72 [some (.ref 0), some (.int a1), some (.int x2)] [] (mW s15) 0 0 r h2
      refine o_iinc (pc := 72) dX12_laysRests_72 rfl (by decide) rfl ?_
      show Rn g mdX12_laysRests 75 [some (.ref 0), some (.int a1), some (.int (x2 + 1))] [] (mW s15) 0 0 r h2
      obtain ⟨v16, ev16, hf⟩ := lt_elim hf
      rw [ev16]
      show Rn g mdX12_laysRests 75 [some (.ref 0), some (.int a1), some (.int v16)] [] (mW s15) 0 0 r h2
      refine o_goto (pc := 75) 11 dX12_laysRests_75 rfl ?_
      exact ih _ _ hf K
set_option maxRecDepth 20000 in
theorem kX12_laysRests {g : GX} {p0 : Int32} {s : ST} {q : ST} (hf : fX12_laysRests p0 s = some q) : Cn g mdX12_laysRests [.ref 0, .int p0] (mW s) none (mW q) := by
  refine Cn.of (by decide) (Nat.le_of_ble_eq_true rfl) ?_
  show Rn g mdX12_laysRests 0 [some (.ref 0), some (.int p0), none] [] (mW s) 0 0 none (mW q)
  unfold fX12_laysRests at hf
  refine o_aload_n (pc := 0) dX12_laysRests_0 rfl ?_
  obtain ⟨q2, hk1, hf⟩ := bd_elim hf
  refine m_callV (pc := 1) [] dX12_laysRests_1 (kX12_keepsAll hk1) stX12_522 ⟨by decide, by decide, by decide, by decide⟩ ⟨rfl, rfl⟩ (Nat.le_of_ble_eq_true rfl) ?_
  show Rn g mdX12_laysRests 4 [some (.ref 0), some (.int p0), none] [] (mW q2) 0 0 none (mW q)
  refine o_aload_n (pc := 4) dX12_laysRests_4 rfl ?_
  refine o_iload_n (pc := 5) dX12_laysRests_5 rfl ?_
  refine m_putI (pc := 6) 57 (by decide) rfl rfl lkX12_154 ⟨rfl, rfl⟩ dX12_laysRests_6 ?_
  refine lz_s (mW) hf (fun s3 hf => ?_)
  show Rn g mdX12_laysRests 9 [some (.ref 0), some (.int p0), none] [] (mW s3) 0 0 none (mW q)
  refine o_iconst (pc := 9) (v := 0) dX12_laysRests_9 rfl ?_
  refine o_istore_n (pc := 10) dX12_laysRests_10 (by decide) rfl ?_
  show Rn g mdX12_laysRests 11 [some (.ref 0), some (.int p0), some (.int 0)] [] (mW s3) 0 0 none (mW q)
  obtain ⟨w17, hl18, hf⟩ := bd_elim hf
  have K19 : Rn g mdX12_laysRests 78 [some (.ref 0), none, none] [] (mW w17.2) 0 0 none (mW q) := by
    refine o_aload_n (pc := 78) dX12_laysRests_78 rfl ?_
    refine o_iconst (pc := 79) (v := (-1)) dX12_laysRests_79 rfl ?_
    refine m_putI (pc := 80) 57 (by decide) rfl rfl lkX12_154 ⟨rfl, rfl⟩ dX12_laysRests_80 ?_
    refine lz_s (mW) hf (fun s20 hf => ?_)
    show Rn g mdX12_laysRests 83 [some (.ref 0), none, none] [] (mW s20) 0 0 none (mW q)
    obtain rfl := Option.some.inj hf
    exact o_return (pc := 83) dX12_laysRests_83 rfl (Nat.zero_le _) (Nat.zero_le _)
  exact kX12_laysRests_L11 _ _ _ _ hl18 K19
def fX12_isRest_L2 (a1 : Int32) : Nat → Int32 → ST → Option (Int32)
  | 0, _, _ => none
  | n + 1, x2, s => if 7 ≤ x2 then some 1 else ck (inb ((7 * x2) + (a1 - a1 / 7 * 7)) 49) (ck (inb a1 49) ((if (gi s 48 (ix ((7 * x2) + (a1 - a1 / 7 * 7)))) < (gi s 48 (ix a1)) then some true else ck (inb ((a1 - (a1 - a1 / 7 * 7)) + x2) 49) (ck (inb a1 49) (if (gi s 49 (ix a1)) ≤ (gi s 49 (ix ((a1 - (a1 - a1 / 7 * 7)) + x2))) then some false else some true)) : Option Bool).bind (fun b3 => if b3 = true then some 0 else lt (x2 + 1) (fun v8 => fX12_isRest_L2 a1 n v8 s))))
def fX12_isRest (p0 : Int32) (s : ST) : Option (Int32) :=
  fX12_isRest_L2 p0 FUEL 0 s
set_option maxRecDepth 20000 in
theorem kX12_isRest_L2 {g : GX} (a1 : Int32) (s : ST) : ∀ (n : Nat) (x2 : Int32) {q : Int32}, fX12_isRest_L2 a1 n x2 s = some q → Rn g mdX12_isRest 2 [some (.ref 0), some (.int a1), some (.int x2)] [] (mW s) 0 0 (some (.int q)) (mW s) := by
  intro n
  induction n with
  | zero => intro x2 q hf; cases hf
  | succ n ih =>
    intro x2 q hf
    rw [fX12_isRest_L2] at hf
    refine o_iload_n (pc := 2) dX12_isRest_2 rfl ?_
    refine o_bipush (pc := 3) (v := 7) dX12_isRest_3 rfl ?_
    refine o_icmp_ge (pc := 5) 61 dX12_isRest_5 rfl (fun hc => ?_) (fun hc => ?_)
    · have hf := it_t hf hc
      refine o_iconst (pc := 61) (v := 1) dX12_isRest_61 rfl ?_
      obtain rfl := Option.some.inj hf
      exact o_zreturn (pc := 62) dX12_isRest_62 rfl rfl (Nat.zero_le _) (Nat.zero_le _)
    · have hf := it_f hf hc
      refine o_aload_n (pc := 8) dX12_isRest_8 rfl ?_
      refine m_getA (pc := 9) 72 48 (by decide) rfl rfl lkX12_163 dX12_isRest_9 ?_
      refine o_bipush (pc := 12) (v := 7) dX12_isRest_12 rfl ?_
      refine o_iload_n (pc := 14) dX12_isRest_14 rfl ?_
      refine o_imul (pc := 15) dX12_isRest_15 ?_
      refine o_iload_n (pc := 16) dX12_isRest_16 rfl ?_
      refine o_bipush (pc := 17) (v := 7) dX12_isRest_17 rfl ?_
      refine o_irem (pc := 19) dX12_isRest_19 (by decide) ?_
      refine o_iadd (pc := 20) dX12_isRest_20 ?_
      obtain ⟨hk1, hf⟩ := ck_elim hf
      refine m_iald (pc := 21) (by decide) rfl hk1 dX12_isRest_21 ?_
      refine o_aload_n (pc := 22) dX12_isRest_22 rfl ?_
      refine m_getA (pc := 23) 72 48 (by decide) rfl rfl lkX12_163 dX12_isRest_23 ?_
      refine o_iload_n (pc := 26) dX12_isRest_26 rfl ?_
      obtain ⟨hk2, hf⟩ := ck_elim hf
      refine m_iald (pc := 27) (by decide) rfl hk2 dX12_isRest_27 ?_
      obtain ⟨b3, hr4, hf⟩ := bd_elim hf
      have KB5 : (b3 = true → Rn g mdX12_isRest 53 [some (.ref 0), some (.int a1), some (.int x2)] [] (mW s) 0 0 (some (.int q)) (mW s)) ∧ (¬ b3 = true → Rn g mdX12_isRest 55 [some (.ref 0), some (.int a1), some (.int x2)] [] (mW s) 0 0 (some (.int q)) (mW s)) := by
        refine ⟨fun hc => ?_, fun hc => ?_⟩
        · have hf := it_t hf hc
          refine o_iconst (pc := 53) (v := 0) dX12_isRest_53 rfl ?_
          obtain rfl := Option.some.inj hf
          exact o_zreturn (pc := 54) dX12_isRest_54 rfl rfl (Nat.zero_le _) (Nat.zero_le _)
        · have hf := it_f hf hc
          refine o_iinc (pc := 55) dX12_isRest_55 rfl (by decide) rfl ?_
          show Rn g mdX12_isRest 58 [some (.ref 0), some (.int a1), some (.int (x2 + 1))] [] (mW s) 0 0 (some (.int q)) (mW s)
          obtain ⟨v8, ev8, hf⟩ := lt_elim hf
          rw [ev8]
          show Rn g mdX12_isRest 58 [some (.ref 0), some (.int a1), some (.int v8)] [] (mW s) 0 0 (some (.int q)) (mW s)
          refine o_goto (pc := 58) 2 dX12_isRest_58 rfl ?_
          exact ih _ hf
      clear hf
      refine o_icmp_lt (pc := 28) 53 dX12_isRest_28 rfl (fun hc => ?_) (fun hc => ?_)
      · have hr4 := it_t hr4 hc
        obtain rfl := Option.some.inj hr4
        exact KB5.1 rfl
      · have hr4 := it_f hr4 hc
        refine o_aload_n (pc := 31) dX12_isRest_31 rfl ?_
        refine m_getA (pc := 32) 73 49 (by decide) rfl rfl lkX12_166 dX12_isRest_32 ?_
        refine o_iload_n (pc := 35) dX12_isRest_35 rfl ?_
        refine o_iload_n (pc := 36) dX12_isRest_36 rfl ?_
        refine o_bipush (pc := 37) (v := 7) dX12_isRest_37 rfl ?_
        refine o_irem (pc := 39) dX12_isRest_39 (by decide) ?_
        refine o_isub (pc := 40) dX12_isRest_40 ?_
        refine o_iload_n (pc := 41) dX12_isRest_41 rfl ?_
        refine o_iadd (pc := 42) dX12_isRest_42 ?_
        obtain ⟨hk6, hr4⟩ := ck_elim hr4
        refine m_iald (pc := 43) (by decide) rfl hk6 dX12_isRest_43 ?_
        refine o_aload_n (pc := 44) dX12_isRest_44 rfl ?_
        refine m_getA (pc := 45) 73 49 (by decide) rfl rfl lkX12_166 dX12_isRest_45 ?_
        refine o_iload_n (pc := 48) dX12_isRest_48 rfl ?_
        obtain ⟨hk7, hr4⟩ := ck_elim hr4
        refine m_iald (pc := 49) (by decide) rfl hk7 dX12_isRest_49 ?_
        refine o_icmp_ge (pc := 50) 55 dX12_isRest_50 rfl (fun hc => ?_) (fun hc => ?_)
        · have hr4 := it_t hr4 hc
          obtain rfl := Option.some.inj hr4
          exact KB5.2 (by decide)
        · have hr4 := it_f hr4 hc
          obtain rfl := Option.some.inj hr4
          exact KB5.1 rfl
set_option maxRecDepth 20000 in
theorem kX12_isRest {g : GX} {p0 : Int32} {s : ST} {q : Int32} (hf : fX12_isRest p0 s = some q) : Cn g mdX12_isRest [.ref 0, .int p0] (mW s) (some (.int q)) (mW s) := by
  refine Cn.of (by decide) (Nat.le_of_ble_eq_true rfl) ?_
  show Rn g mdX12_isRest 0 [some (.ref 0), some (.int p0), none] [] (mW s) 0 0 (some (.int q)) (mW s)
  unfold fX12_isRest at hf
  refine o_iconst (pc := 0) (v := 0) dX12_isRest_0 rfl ?_
  refine o_istore_n (pc := 1) dX12_isRest_1 (by decide) rfl ?_
  show Rn g mdX12_isRest 2 [some (.ref 0), some (.int p0), some (.int 0)] [] (mW s) 0 0 (some (.int q)) (mW s)
  exact kX12_isRest_L2 _ _ _ _ hf
def fX12_rests_L36 (a2 : Int32) : Nat → Int32 → Int32 → Int32 → ST → Option (Int32 × Int32 × Int32)
  | 0, _, _, _, _ => none
  | n + 1, x3, x4, x5, s => if 49 ≤ x5 then some (x3, x4, x5) else (fX12_isRest x5 s).bind (fun q11 => (if q11 = 0 then some (x3, x4) else (if x3 = 0 then some x5 else some x4 : Option (Int32)).bind (fun w15 => lt (x3 + 1) (fun v18 => some (v18, w15))) : Option (Int32 × Int32)).bind (fun w12 => lt (x5 + 1) (fun v19 => fX12_rests_L36 a2 n w12.1 w12.2 v19 s)))
def fX12_rests (p0 : Int32) (p1 : Int32) (s : ST) : Option (Int32 × ST) :=
  (fX12_isMeeting p0 s).bind (fun q2 => (if q2 = 0 then some true else (fX12_in p1.toInt64 0 2 s).bind (fun q7 => if q7 = 0 then some true else some false) : Option Bool).bind (fun b3 => if b3 = true then some ((-1), s) else (fX12_laysRests p0 s).bind (fun q9 => (fX12_rests_L36 p1 FUEL 0 (-2) 0 q9).bind (fun w20 => (if p1 = 0 then some true else if w20.2.1 = (-2) then some true else some false : Option Bool).bind (fun b23 => if b23 = true then (if p1 = 0 then some w20.1 else some (-2) : Option (Int32)).bind (fun w26 => some (w26, q9)) else (if p1 = 1 then some (10 * (w20.2.1 / 7)) else some (10 * (w20.2.1 - w20.2.1 / 7 * 7)) : Option (Int32)).bind (fun w29 => some (w29, q9)))))))
set_option maxRecDepth 20000 in
theorem kX12_rests_L36 {g : GX} (a2 : Int32) (s : ST) {r : Option Value} {h2 : PH} : ∀ (n : Nat) (x3 : Int32) (x4 : Int32) (x5 : Int32) {w : Int32 × Int32 × Int32}, fX12_rests_L36 a2 n x3 x4 x5 s = some w → Rn g mdX12_rests 74 [none, none, some (.int a2), some (.int w.1), some (.int w.2.1), none] [] (mW s) 0 0 r h2 → Rn g mdX12_rests 36 [some (.ref 0), none, some (.int a2), some (.int x3), some (.int x4), some (.int x5)] [] (mW s) 0 0 r h2 := by
  intro n
  induction n with
  | zero => intro x3 x4 x5 w hf K; cases hf
  | succ n ih =>
    intro x3 x4 x5 w hf K
    rw [fX12_rests_L36] at hf
    refine o_iload (pc := 36) dX12_rests_36 rfl ?_
    refine o_bipush (pc := 38) (v := 49) dX12_rests_38 rfl ?_
    refine o_icmp_ge (pc := 40) 74 dX12_rests_40 rfl (fun hc => ?_) (fun hc => ?_)
    · have hf := it_t hf hc
      obtain rfl := Option.some.inj hf
      refine o_keep [false, false, true, true, true, false] ?_
      exact K
    · have hf := it_f hf hc
      refine o_aload_n (pc := 43) dX12_rests_43 rfl ?_
      refine o_iload (pc := 44) dX12_rests_44 rfl ?_
      obtain ⟨q11, hk10, hf⟩ := bd_elim hf
      refine m_callV (pc := 46) [.int x5] dX12_rests_46 (kX12_isRest hk10) stX12_536 ⟨by decide, by decide, by decide, by decide⟩ ⟨rfl, rfl⟩ (Nat.le_of_ble_eq_true rfl) ?_
      show Rn g mdX12_rests 49 [some (.ref 0), none, some (.int a2), some (.int x3), some (.int x4), some (.int x5)] [.int q11] (mW s) 0 0 r h2
      obtain ⟨w12, hr13, hf⟩ := bd_elim hf
      have K14 : Rn g mdX12_rests 68 [some (.ref 0), none, some (.int a2), some (.int w12.1), some (.int w12.2), some (.int x5)] [] (mW s) 0 0 r h2 := by
        refine o_iinc (pc := 68) dX12_rests_68 rfl (by decide) rfl ?_
        show Rn g mdX12_rests 71 [some (.ref 0), none, some (.int a2), some (.int w12.1), some (.int w12.2), some (.int (x5 + 1))] [] (mW s) 0 0 r h2
        obtain ⟨v19, ev19, hf⟩ := lt_elim hf
        rw [ev19]
        show Rn g mdX12_rests 71 [some (.ref 0), none, some (.int a2), some (.int w12.1), some (.int w12.2), some (.int v19)] [] (mW s) 0 0 r h2
        refine o_goto (pc := 71) 36 dX12_rests_71 rfl ?_
        exact ih _ _ _ hf K
      clear hf
      refine o_if_eq (pc := 49) 68 dX12_rests_49 rfl (fun hc => ?_) (fun hc => ?_)
      · have hr13 := it_t hr13 hc
        obtain rfl := Option.some.inj hr13
        exact K14
      · have hr13 := it_f hr13 hc
        refine o_iload_n (pc := 52) dX12_rests_52 rfl ?_
        obtain ⟨w15, hr16, hr13⟩ := bd_elim hr13
        have K17 : Rn g mdX12_rests 63 [some (.ref 0), none, some (.int a2), some (.int x3), none, some (.int x5)] [.int w15] (mW s) 0 0 r h2 := by
          refine o_istore (pc := 63) dX12_rests_63 (by decide) rfl ?_
          show Rn g mdX12_rests 65 [some (.ref 0), none, some (.int a2), some (.int x3), some (.int w15), some (.int x5)] [] (mW s) 0 0 r h2
          refine o_iinc (pc := 65) dX12_rests_65 rfl (by decide) rfl ?_
          show Rn g mdX12_rests 68 [some (.ref 0), none, some (.int a2), some (.int (x3 + 1)), some (.int w15), some (.int x5)] [] (mW s) 0 0 r h2
          obtain ⟨v18, ev18, hr13⟩ := lt_elim hr13
          rw [ev18]
          show Rn g mdX12_rests 68 [some (.ref 0), none, some (.int a2), some (.int v18), some (.int w15), some (.int x5)] [] (mW s) 0 0 r h2
          obtain rfl := Option.some.inj hr13
          exact K14
        clear hr13
        refine o_if_ne (pc := 53) 61 dX12_rests_53 rfl (fun hc => ?_) (fun hc => ?_)
        · have hr16 := it_f hr16 hc
          refine o_iload (pc := 61) dX12_rests_61 rfl ?_
          obtain rfl := Option.some.inj hr16
          refine o_keep [true, false, true, true, false, true] ?_
          exact K17
        · have hr16 := it_t hr16 hc
          refine o_iload (pc := 56) dX12_rests_56 rfl ?_
          refine o_goto (pc := 58) 63 dX12_rests_58 rfl ?_
          obtain rfl := Option.some.inj hr16
          refine o_keep [true, false, true, true, false, true] ?_
          exact K17
set_option maxRecDepth 20000 in
theorem kX12_rests {g : GX} {p0 : Int32} {p1 : Int32} {s : ST} {q : Int32 × ST} (hf : fX12_rests p0 p1 s = some q) : Cn g mdX12_rests [.ref 0, .int p0, .int p1] (mW s) (some (.int q.1)) (mW q.2) := by
  refine Cn.of (by decide) (Nat.le_of_ble_eq_true rfl) ?_
  show Rn g mdX12_rests 0 [some (.ref 0), some (.int p0), some (.int p1), none, none, none] [] (mW s) 0 0 (some (.int q.1)) (mW q.2)
  unfold fX12_rests at hf
  refine o_aload_n (pc := 0) dX12_rests_0 rfl ?_
  refine o_iload_n (pc := 1) dX12_rests_1 rfl ?_
  obtain ⟨q2, hk1, hf⟩ := bd_elim hf
  refine m_callV (pc := 2) [.int p0] dX12_rests_2 (kX12_isMeeting hk1) stX12_465 ⟨by decide, by decide, by decide, by decide⟩ ⟨rfl, rfl⟩ (Nat.le_of_ble_eq_true rfl) ?_
  show Rn g mdX12_rests 5 [some (.ref 0), some (.int p0), some (.int p1), none, none, none] [.int q2] (mW s) 0 0 (some (.int q.1)) (mW q.2)
  obtain ⟨b3, hr4, hf⟩ := bd_elim hf
  have KB5 : (b3 = true → Rn g mdX12_rests 20 [some (.ref 0), some (.int p0), some (.int p1), none, none, none] [] (mW s) 0 0 (some (.int q.1)) (mW q.2)) ∧ (¬ b3 = true → Rn g mdX12_rests 22 [some (.ref 0), some (.int p0), some (.int p1), none, none, none] [] (mW s) 0 0 (some (.int q.1)) (mW q.2)) := by
    refine ⟨fun hc => ?_, fun hc => ?_⟩
    · have hf := it_t hf hc
      refine o_iconst (pc := 20) (v := (-1)) dX12_rests_20 rfl ?_
      obtain rfl := Option.some.inj hf
      exact o_ireturn (pc := 21) dX12_rests_21 rfl (Nat.zero_le _) (Nat.zero_le _)
    · have hf := it_f hf hc
      refine o_aload_n (pc := 22) dX12_rests_22 rfl ?_
      refine o_iload_n (pc := 23) dX12_rests_23 rfl ?_
      obtain ⟨q9, hk8, hf⟩ := bd_elim hf
      refine m_callV (pc := 24) [.int p0] dX12_rests_24 (kX12_laysRests hk8) stX12_533 ⟨by decide, by decide, by decide, by decide⟩ ⟨rfl, rfl⟩ (Nat.le_of_ble_eq_true rfl) ?_
      show Rn g mdX12_rests 27 [some (.ref 0), some (.int p0), some (.int p1), none, none, none] [] (mW q9) 0 0 (some (.int q.1)) (mW q.2)
      refine o_iconst (pc := 27) (v := 0) dX12_rests_27 rfl ?_
      refine o_istore_n (pc := 28) dX12_rests_28 (by decide) rfl ?_
      show Rn g mdX12_rests 29 [some (.ref 0), some (.int p0), some (.int p1), some (.int 0), none, none] [] (mW q9) 0 0 (some (.int q.1)) (mW q.2)
      refine o_bipush (pc := 29) (v := (-2)) dX12_rests_29 rfl ?_
      refine o_istore (pc := 31) dX12_rests_31 (by decide) rfl ?_
      show Rn g mdX12_rests 33 [some (.ref 0), some (.int p0), some (.int p1), some (.int 0), some (.int (-2)), none] [] (mW q9) 0 0 (some (.int q.1)) (mW q.2)
      refine o_iconst (pc := 33) (v := 0) dX12_rests_33 rfl ?_
      refine o_istore (pc := 34) dX12_rests_34 (by decide) rfl ?_
      show Rn g mdX12_rests 36 [some (.ref 0), some (.int p0), some (.int p1), some (.int 0), some (.int (-2)), some (.int 0)] [] (mW q9) 0 0 (some (.int q.1)) (mW q.2)
      obtain ⟨w20, hl21, hf⟩ := bd_elim hf
      have K22 : Rn g mdX12_rests 74 [none, none, some (.int p1), some (.int w20.1), some (.int w20.2.1), none] [] (mW q9) 0 0 (some (.int q.1)) (mW q.2) := by
        refine o_iload_n (pc := 74) dX12_rests_74 rfl ?_
        obtain ⟨b23, hr24, hf⟩ := bd_elim hf
        have KB25 : (b23 = true → Rn g mdX12_rests 85 [none, none, some (.int p1), some (.int w20.1), some (.int w20.2.1), none] [] (mW q9) 0 0 (some (.int q.1)) (mW q.2)) ∧ (¬ b23 = true → Rn g mdX12_rests 96 [none, none, some (.int p1), some (.int w20.1), some (.int w20.2.1), none] [] (mW q9) 0 0 (some (.int q.1)) (mW q.2)) := by
          refine ⟨fun hc => ?_, fun hc => ?_⟩
          · have hf := it_t hf hc
            refine o_iload_n (pc := 85) dX12_rests_85 rfl ?_
            obtain ⟨w26, hr27, hf⟩ := bd_elim hf
            have K28 : Rn g mdX12_rests 95 [none, none, none, none, none, none] [.int w26] (mW q9) 0 0 (some (.int q.1)) (mW q.2) := by
              obtain rfl := Option.some.inj hf
              exact o_ireturn (pc := 95) dX12_rests_95 rfl (Nat.zero_le _) (Nat.zero_le _)
            clear hf
            refine o_if_ne (pc := 86) 93 dX12_rests_86 rfl (fun hc => ?_) (fun hc => ?_)
            · have hr27 := it_f hr27 hc
              refine o_bipush (pc := 93) (v := (-2)) dX12_rests_93 rfl ?_
              obtain rfl := Option.some.inj hr27
              refine o_keep [false, false, false, false, false, false] ?_
              exact K28
            · have hr27 := it_t hr27 hc
              refine o_iload_n (pc := 89) dX12_rests_89 rfl ?_
              refine o_goto (pc := 90) 95 dX12_rests_90 rfl ?_
              obtain rfl := Option.some.inj hr27
              refine o_keep [false, false, false, false, false, false] ?_
              exact K28
          · have hf := it_f hf hc
            refine o_iload_n (pc := 96) dX12_rests_96 rfl ?_
            refine o_iconst (pc := 97) (v := 1) dX12_rests_97 rfl ?_
            obtain ⟨w29, hr30, hf⟩ := bd_elim hf
            have K31 : Rn g mdX12_rests 120 [none, none, none, none, none, none] [.int w29] (mW q9) 0 0 (some (.int q.1)) (mW q.2) := by
              obtain rfl := Option.some.inj hf
              exact o_ireturn (pc := 120) dX12_rests_120 rfl (Nat.zero_le _) (Nat.zero_le _)
            clear hf
            refine o_icmp_ne (pc := 98) 112 dX12_rests_98 rfl (fun hc => ?_) (fun hc => ?_)
            · have hr30 := it_f hr30 hc
              refine o_bipush (pc := 112) (v := 10) dX12_rests_112 rfl ?_
              refine o_iload (pc := 114) dX12_rests_114 rfl ?_
              refine o_bipush (pc := 116) (v := 7) dX12_rests_116 rfl ?_
              refine o_irem (pc := 118) dX12_rests_118 (by decide) ?_
              refine o_imul (pc := 119) dX12_rests_119 ?_
              obtain rfl := Option.some.inj hr30
              refine o_keep [false, false, false, false, false, false] ?_
              exact K31
            · have hr30 := it_t hr30 hc
              refine o_bipush (pc := 101) (v := 10) dX12_rests_101 rfl ?_
              refine o_iload (pc := 103) dX12_rests_103 rfl ?_
              refine o_bipush (pc := 105) (v := 7) dX12_rests_105 rfl ?_
              refine o_idiv (pc := 107) dX12_rests_107 (by decide) ?_
              refine o_imul (pc := 108) dX12_rests_108 ?_
              refine o_goto (pc := 109) 120 dX12_rests_109 rfl ?_
              obtain rfl := Option.some.inj hr30
              refine o_keep [false, false, false, false, false, false] ?_
              exact K31
        clear hf
        refine o_if_eq (pc := 75) 85 dX12_rests_75 rfl (fun hc => ?_) (fun hc => ?_)
        · have hr24 := it_t hr24 hc
          obtain rfl := Option.some.inj hr24
          exact KB25.1 rfl
        · have hr24 := it_f hr24 hc
          refine o_iload (pc := 78) dX12_rests_78 rfl ?_
          refine o_bipush (pc := 80) (v := (-2)) dX12_rests_80 rfl ?_
          refine o_icmp_ne (pc := 82) 96 dX12_rests_82 rfl (fun hc => ?_) (fun hc => ?_)
          · have hr24 := it_f hr24 hc
            obtain rfl := Option.some.inj hr24
            exact KB25.2 (by decide)
          · have hr24 := it_t hr24 hc
            obtain rfl := Option.some.inj hr24
            exact KB25.1 rfl
      refine o_keep [true, false, true, true, true, true] ?_
      exact kX12_rests_L36 _ _ _ _ _ _ hl21 K22
  clear hf
  refine o_if_eq (pc := 5) 20 dX12_rests_5 rfl (fun hc => ?_) (fun hc => ?_)
  · have hr4 := it_t hr4 hc
    obtain rfl := Option.some.inj hr4
    exact KB5.1 rfl
  · have hr4 := it_f hr4 hc
    refine o_iload_n (pc := 8) dX12_rests_8 rfl ?_
    refine o_i2l (pc := 9) dX12_rests_9 ?_
    refine o_lconst (pc := 10) (v := 0) dX12_rests_10 rfl ?_
    refine o_ldc2 (pc := 11) dX12_rests_11 lcX12_520 ?_
    obtain ⟨q7, hk6, hr4⟩ := bd_elim hr4
    refine m_callS (pc := 14) [.long p1.toInt64, .long 0, .long 2] dX12_rests_14 (kX12_in hk6) stX12_191 ⟨by decide, by decide, by decide, by decide⟩ ⟨rfl, rfl⟩ (Nat.le_of_ble_eq_true rfl) ?_
    show Rn g mdX12_rests 17 [some (.ref 0), some (.int p0), some (.int p1), none, none, none] [.int q7] (mW s) 0 0 (some (.int q.1)) (mW q.2)
    refine o_if_ne (pc := 17) 22 dX12_rests_17 rfl (fun hc => ?_) (fun hc => ?_)
    · have hr4 := it_f hr4 hc
      obtain rfl := Option.some.inj hr4
      exact KB5.2 (by decide)
    · have hr4 := it_t hr4 hc
      obtain rfl := Option.some.inj hr4
      exact KB5.1 rfl
def fX12_areAlike_L2 (a1 : Int32) (a2 : Int32) : Nat → Int32 → ST → Option (Int32)
  | 0, _, _ => none
  | n + 1, x3, s => ck (inb 3 13) (if (gi s 1 (ix 3)) ≤ x3 then some 1 else ck (inb ((5 * a1) + x3) 500) (ck (inb ((5 * a2) + x3) 500) ((if (gi s 50 (ix ((5 * a1) + x3))) = (gi s 50 (ix ((5 * a2) + x3))) then ck (inb ((5 * a1) + x3) 500) (ck (inb ((5 * a2) + x3) 500) (if (gi s 51 (ix ((5 * a1) + x3))) = (gi s 51 (ix ((5 * a2) + x3))) then some false else some true)) else some true : Option Bool).bind (fun b4 => if b4 = true then some 0 else lt (x3 + 1) (fun v9 => fX12_areAlike_L2 a1 a2 n v9 s)))))
def fX12_areAlike (p0 : Int32) (p1 : Int32) (s : ST) : Option (Int32) :=
  fX12_areAlike_L2 p0 p1 FUEL 0 s
set_option maxRecDepth 20000 in
theorem kX12_areAlike_L2 {g : GX} (a1 : Int32) (a2 : Int32) (s : ST) : ∀ (n : Nat) (x3 : Int32) {q : Int32}, fX12_areAlike_L2 a1 a2 n x3 s = some q → Rn g mdX12_areAlike 2 [some (.ref 0), some (.int a1), some (.int a2), some (.int x3)] [] (mW s) 0 0 (some (.int q)) (mW s) := by
  intro n
  induction n with
  | zero => intro x3 q hf; cases hf
  | succ n ih =>
    intro x3 q hf
    rw [fX12_areAlike_L2] at hf
    refine o_iload_n (pc := 2) dX12_areAlike_2 rfl ?_
    refine o_aload_n (pc := 3) dX12_areAlike_3 rfl ?_
    refine m_getA (pc := 4) 1 1 (by decide) rfl rfl lkX12_9 dX12_areAlike_4 ?_
    refine o_iconst (pc := 7) (v := 3) dX12_areAlike_7 rfl ?_
    obtain ⟨hk1, hf⟩ := ck_elim hf
    refine m_iald (pc := 8) (by decide) rfl hk1 dX12_areAlike_8 ?_
    refine o_icmp_ge (pc := 9) 66 dX12_areAlike_9 rfl (fun hc => ?_) (fun hc => ?_)
    · have hf := it_t hf hc
      refine o_iconst (pc := 66) (v := 1) dX12_areAlike_66 rfl ?_
      obtain rfl := Option.some.inj hf
      exact o_zreturn (pc := 67) dX12_areAlike_67 rfl rfl (Nat.zero_le _) (Nat.zero_le _)
    · have hf := it_f hf hc
      refine o_aload_n (pc := 12) dX12_areAlike_12 rfl ?_
      refine m_getA (pc := 13) 74 50 (by decide) rfl rfl lkX12_169 dX12_areAlike_13 ?_
      refine o_iconst (pc := 16) (v := 5) dX12_areAlike_16 rfl ?_
      refine o_iload_n (pc := 17) dX12_areAlike_17 rfl ?_
      refine o_imul (pc := 18) dX12_areAlike_18 ?_
      refine o_iload_n (pc := 19) dX12_areAlike_19 rfl ?_
      refine o_iadd (pc := 20) dX12_areAlike_20 ?_
      obtain ⟨hk2, hf⟩ := ck_elim hf
      refine m_iald (pc := 21) (by decide) rfl hk2 dX12_areAlike_21 ?_
      refine o_aload_n (pc := 22) dX12_areAlike_22 rfl ?_
      refine m_getA (pc := 23) 74 50 (by decide) rfl rfl lkX12_169 dX12_areAlike_23 ?_
      refine o_iconst (pc := 26) (v := 5) dX12_areAlike_26 rfl ?_
      refine o_iload_n (pc := 27) dX12_areAlike_27 rfl ?_
      refine o_imul (pc := 28) dX12_areAlike_28 ?_
      refine o_iload_n (pc := 29) dX12_areAlike_29 rfl ?_
      refine o_iadd (pc := 30) dX12_areAlike_30 ?_
      obtain ⟨hk3, hf⟩ := ck_elim hf
      refine m_iald (pc := 31) (by decide) rfl hk3 dX12_areAlike_31 ?_
      obtain ⟨b4, hr5, hf⟩ := bd_elim hf
      have KB6 : (b4 = true → Rn g mdX12_areAlike 58 [some (.ref 0), some (.int a1), some (.int a2), some (.int x3)] [] (mW s) 0 0 (some (.int q)) (mW s)) ∧ (¬ b4 = true → Rn g mdX12_areAlike 60 [some (.ref 0), some (.int a1), some (.int a2), some (.int x3)] [] (mW s) 0 0 (some (.int q)) (mW s)) := by
        refine ⟨fun hc => ?_, fun hc => ?_⟩
        · have hf := it_t hf hc
          refine o_iconst (pc := 58) (v := 0) dX12_areAlike_58 rfl ?_
          obtain rfl := Option.some.inj hf
          exact o_zreturn (pc := 59) dX12_areAlike_59 rfl rfl (Nat.zero_le _) (Nat.zero_le _)
        · have hf := it_f hf hc
          refine o_iinc (pc := 60) dX12_areAlike_60 rfl (by decide) rfl ?_
          show Rn g mdX12_areAlike 63 [some (.ref 0), some (.int a1), some (.int a2), some (.int (x3 + 1))] [] (mW s) 0 0 (some (.int q)) (mW s)
          obtain ⟨v9, ev9, hf⟩ := lt_elim hf
          rw [ev9]
          show Rn g mdX12_areAlike 63 [some (.ref 0), some (.int a1), some (.int a2), some (.int v9)] [] (mW s) 0 0 (some (.int q)) (mW s)
          refine o_goto (pc := 63) 2 dX12_areAlike_63 rfl ?_
          exact ih _ hf
      clear hf
      refine o_icmp_ne (pc := 32) 58 dX12_areAlike_32 rfl (fun hc => ?_) (fun hc => ?_)
      · have hr5 := it_f hr5 hc
        obtain rfl := Option.some.inj hr5
        exact KB6.1 rfl
      · have hr5 := it_t hr5 hc
        refine o_aload_n (pc := 35) dX12_areAlike_35 rfl ?_
        refine m_getA (pc := 36) 75 51 (by decide) rfl rfl lkX12_172 dX12_areAlike_36 ?_
        refine o_iconst (pc := 39) (v := 5) dX12_areAlike_39 rfl ?_
        refine o_iload_n (pc := 40) dX12_areAlike_40 rfl ?_
        refine o_imul (pc := 41) dX12_areAlike_41 ?_
        refine o_iload_n (pc := 42) dX12_areAlike_42 rfl ?_
        refine o_iadd (pc := 43) dX12_areAlike_43 ?_
        obtain ⟨hk7, hr5⟩ := ck_elim hr5
        refine m_iald (pc := 44) (by decide) rfl hk7 dX12_areAlike_44 ?_
        refine o_aload_n (pc := 45) dX12_areAlike_45 rfl ?_
        refine m_getA (pc := 46) 75 51 (by decide) rfl rfl lkX12_172 dX12_areAlike_46 ?_
        refine o_iconst (pc := 49) (v := 5) dX12_areAlike_49 rfl ?_
        refine o_iload_n (pc := 50) dX12_areAlike_50 rfl ?_
        refine o_imul (pc := 51) dX12_areAlike_51 ?_
        refine o_iload_n (pc := 52) dX12_areAlike_52 rfl ?_
        refine o_iadd (pc := 53) dX12_areAlike_53 ?_
        obtain ⟨hk8, hr5⟩ := ck_elim hr5
        refine m_iald (pc := 54) (by decide) rfl hk8 dX12_areAlike_54 ?_
        refine o_icmp_eq (pc := 55) 60 dX12_areAlike_55 rfl (fun hc => ?_) (fun hc => ?_)
        · have hr5 := it_t hr5 hc
          obtain rfl := Option.some.inj hr5
          exact KB6.2 (by decide)
        · have hr5 := it_f hr5 hc
          obtain rfl := Option.some.inj hr5
          exact KB6.1 rfl
set_option maxRecDepth 20000 in
theorem kX12_areAlike {g : GX} {p0 : Int32} {p1 : Int32} {s : ST} {q : Int32} (hf : fX12_areAlike p0 p1 s = some q) : Cn g mdX12_areAlike [.ref 0, .int p0, .int p1] (mW s) (some (.int q)) (mW s) := by
  refine Cn.of (by decide) (Nat.le_of_ble_eq_true rfl) ?_
  show Rn g mdX12_areAlike 0 [some (.ref 0), some (.int p0), some (.int p1), none] [] (mW s) 0 0 (some (.int q)) (mW s)
  unfold fX12_areAlike at hf
  refine o_iconst (pc := 0) (v := 0) dX12_areAlike_0 rfl ?_
  refine o_istore_n (pc := 1) dX12_areAlike_1 (by decide) rfl ?_
  show Rn g mdX12_areAlike 2 [some (.ref 0), some (.int p0), some (.int p1), some (.int 0)] [] (mW s) 0 0 (some (.int q)) (mW s)
  exact kX12_areAlike_L2 _ _ _ _ _ hf
def fX12_again_L48 (a1 : Int32) (a2 : Int32) (a3 : Int32) (a4 : Int32) : Nat → Int32 → ST → Option (Int32 × ST)
  | 0, _, _ => none
  | n + 1, x5, s => if 5 ≤ x5 then some (x5, s) else ck (inb x5 5) (ck (inb ((5 * a4) + x5) 500) (lt (si s 50 (ix ((5 * a4) + x5)) (gi s 3 (ix x5))) (fun s15 => ck (inb x5 5) (ck (inb ((5 * a4) + x5) 500) (lt (si s15 51 (ix ((5 * a4) + x5)) (gi s15 4 (ix x5))) (fun s18 => lt (x5 + 1) (fun v19 => fX12_again_L48 a1 a2 a3 a4 n v19 s18)))))))
def fX12_again_L104 (a1 : Int32) (a4 : Int32) : Nat → Int32 → Int32 → Int32 → ST → Option (Int32 × Int32 × Int32)
  | 0, _, _, _, _ => none
  | n + 1, x2, x3, x5, s => (if x5 < 0 then some false else if x2 = (-2) then some true else some false : Option Bool).bind (fun b24 => if b24 = true then (fX12_areAlike x5 a4 s).bind (fun q28 => (if q28 = 0 then some (x2, x3) else ck (inb 9 13) (lt (gi s 1 (ix 9) : Int32) (fun v33 => lt (a4 - x5 : Int32) (fun v34 => some (v33, v34)))) : Option (Int32 × Int32)).bind (fun w29 => lt (x5 + (-1)) (fun v35 => fX12_again_L104 a1 a4 n w29.1 w29.2 v35 s))) else some (x2, x3, x5))
def fX12_again_L32 (a1 : Int32) : Nat → Int32 → Int32 → Int32 → ST → Option (Int32 × Int32 × Int32 × ST)
  | 0, _, _, _, _ => none
  | n + 1, x2, x3, x4, s => (if 100 ≤ x4 then some false else if x2 = (-2) then some true else some false : Option Bool).bind (fun b10 => if b10 = true then (fX12_again_L48 a1 x2 x3 x4 FUEL 0 s).bind (fun w20 => lt (x4 - 1 : Int32) (fun v23 => (fX12_again_L104 a1 x4 FUEL x2 x3 v23 w20.2).bind (fun w36 => (fX12_dayGoes w20.2).bind (fun q40 => lt (x4 + 1) (fun v41 => fX12_again_L32 a1 n w36.1 w36.2.1 v41 q40.2))))) else some (x2, x3, x4, s))
def fX12_again (p0 : Int32) (s : ST) : Option (Int32 × ST) :=
  (fX12_isTown s).bind (fun q2 => (if q2 = 0 then some true else (fX12_in p0.toInt64 0 1 s).bind (fun q7 => if q7 = 0 then some true else some false) : Option Bool).bind (fun b3 => if b3 = true then some ((-1), s) else (fX12_keepsAll s).bind (fun q9 => (fX12_again_L32 p0 FUEL (-2) (-2) 0 q9).bind (fun w42 => (fX12_laysBack w42.2.2.2).bind (fun q46 => (if p0 = 0 then some w42.1 else some w42.2.1 : Option (Int32)).bind (fun w47 => some (w47, q46)))))))
set_option maxRecDepth 20000 in
theorem kX12_again_L48 {g : GX} (a1 : Int32) (a2 : Int32) (a3 : Int32) (a4 : Int32) {r : Option Value} {h2 : PH} : ∀ (n : Nat) (x5 : Int32) (s : ST) {w : Int32 × ST}, fX12_again_L48 a1 a2 a3 a4 n x5 s = some w → Rn g mdX12_again 98 [some (.ref 0), some (.int a1), some (.int a2), some (.int a3), some (.int a4), none] [] (mW w.2) 0 0 r h2 → Rn g mdX12_again 48 [some (.ref 0), some (.int a1), some (.int a2), some (.int a3), some (.int a4), some (.int x5)] [] (mW s) 0 0 r h2 := by
  intro n
  induction n with
  | zero => intro x5 s w hf K; cases hf
  | succ n ih =>
    intro x5 s w hf K
    rw [fX12_again_L48] at hf
    refine o_iload (pc := 48) dX12_again_48 rfl ?_
    refine o_iconst (pc := 50) (v := 5) dX12_again_50 rfl ?_
    refine o_icmp_ge (pc := 51) 98 dX12_again_51 rfl (fun hc => ?_) (fun hc => ?_)
    · have hf := it_t hf hc
      obtain rfl := Option.some.inj hf
      refine o_keep [true, true, true, true, true, false] ?_
      exact K
    · have hf := it_f hf hc
      refine o_aload_n (pc := 54) dX12_again_54 rfl ?_
      refine m_getA (pc := 55) 74 50 (by decide) rfl rfl lkX12_169 dX12_again_55 ?_
      refine o_iconst (pc := 58) (v := 5) dX12_again_58 rfl ?_
      refine o_iload (pc := 59) dX12_again_59 rfl ?_
      refine o_imul (pc := 61) dX12_again_61 ?_
      refine o_iload (pc := 62) dX12_again_62 rfl ?_
      refine o_iadd (pc := 64) dX12_again_64 ?_
      refine o_aload_n (pc := 65) dX12_again_65 rfl ?_
      refine m_getA (pc := 66) 3 3 (by decide) rfl rfl lkX12_16 dX12_again_66 ?_
      refine o_iload (pc := 69) dX12_again_69 rfl ?_
      obtain ⟨hk13, hf⟩ := ck_elim hf
      refine m_iald (pc := 71) (by decide) rfl hk13 dX12_again_71 ?_
      obtain ⟨hk14, hf⟩ := ck_elim hf
      refine m_iast (pc := 72) (by decide) rfl hk14 dX12_again_72 ?_
      refine lz_s (mW) hf (fun s15 hf => ?_)
      show Rn g mdX12_again 73 [some (.ref 0), some (.int a1), some (.int a2), some (.int a3), some (.int a4), some (.int x5)] [] (mW s15) 0 0 r h2
      refine o_aload_n (pc := 73) dX12_again_73 rfl ?_
      refine m_getA (pc := 74) 75 51 (by decide) rfl rfl lkX12_172 dX12_again_74 ?_
      refine o_iconst (pc := 77) (v := 5) dX12_again_77 rfl ?_
      refine o_iload (pc := 78) dX12_again_78 rfl ?_
      refine o_imul (pc := 80) dX12_again_80 ?_
      refine o_iload (pc := 81) dX12_again_81 rfl ?_
      refine o_iadd (pc := 83) dX12_again_83 ?_
      refine o_aload_n (pc := 84) dX12_again_84 rfl ?_
      refine m_getA (pc := 85) 4 4 (by decide) rfl rfl lkX12_19 dX12_again_85 ?_
      refine o_iload (pc := 88) dX12_again_88 rfl ?_
      obtain ⟨hk16, hf⟩ := ck_elim hf
      refine m_iald (pc := 90) (by decide) rfl hk16 dX12_again_90 ?_
      obtain ⟨hk17, hf⟩ := ck_elim hf
      refine m_iast (pc := 91) (by decide) rfl hk17 dX12_again_91 ?_
      refine lz_s (mW) hf (fun s18 hf => ?_)
      show Rn g mdX12_again 92 [some (.ref 0), some (.int a1), some (.int a2), some (.int a3), some (.int a4), some (.int x5)] [] (mW s18) 0 0 r h2
      refine o_iinc (pc := 92) dX12_again_92 rfl (by decide) rfl ?_
      show Rn g mdX12_again 95 [some (.ref 0), some (.int a1), some (.int a2), some (.int a3), some (.int a4), some (.int (x5 + 1))] [] (mW s18) 0 0 r h2
      obtain ⟨v19, ev19, hf⟩ := lt_elim hf
      rw [ev19]
      show Rn g mdX12_again 95 [some (.ref 0), some (.int a1), some (.int a2), some (.int a3), some (.int a4), some (.int v19)] [] (mW s18) 0 0 r h2
      refine o_goto (pc := 95) 48 dX12_again_95 rfl ?_
      exact ih _ _ hf K
set_option maxRecDepth 20000 in
theorem kX12_again_L104 {g : GX} (a1 : Int32) (a4 : Int32) (s : ST) {r : Option Value} {h2 : PH} : ∀ (n : Nat) (x2 : Int32) (x3 : Int32) (x5 : Int32) {w : Int32 × Int32 × Int32}, fX12_again_L104 a1 a4 n x2 x3 x5 s = some w → Rn g mdX12_again 146 [some (.ref 0), some (.int a1), some (.int w.1), some (.int w.2.1), some (.int a4), none] [] (mW s) 0 0 r h2 → Rn g mdX12_again 104 [some (.ref 0), some (.int a1), some (.int x2), some (.int x3), some (.int a4), some (.int x5)] [] (mW s) 0 0 r h2 := by
  intro n
  induction n with
  | zero => intro x2 x3 x5 w hf K; cases hf
  | succ n ih =>
    intro x2 x3 x5 w hf K
    rw [fX12_again_L104] at hf
    refine o_iload (pc := 104) dX12_again_104 rfl ?_
    obtain ⟨b24, hr25, hf⟩ := bd_elim hf
    have KB26 : (b24 = true → Rn g mdX12_again 115 [some (.ref 0), some (.int a1), some (.int x2), some (.int x3), some (.int a4), some (.int x5)] [] (mW s) 0 0 r h2) ∧ (¬ b24 = true → Rn g mdX12_again 146 [some (.ref 0), some (.int a1), some (.int x2), some (.int x3), some (.int a4), some (.int x5)] [] (mW s) 0 0 r h2) := by
      refine ⟨fun hc => ?_, fun hc => ?_⟩
      · have hf := it_t hf hc
        refine o_aload_n (pc := 115) dX12_again_115 rfl ?_
        refine o_iload (pc := 116) dX12_again_116 rfl ?_
        refine o_iload (pc := 118) dX12_again_118 rfl ?_
        obtain ⟨q28, hk27, hf⟩ := bd_elim hf
        refine m_callV (pc := 120) [.int x5, .int a4] dX12_again_120 (kX12_areAlike hk27) stX12_539 ⟨by decide, by decide, by decide, by decide⟩ ⟨rfl, rfl⟩ (Nat.le_of_ble_eq_true rfl) ?_
        show Rn g mdX12_again 123 [some (.ref 0), some (.int a1), some (.int x2), some (.int x3), some (.int a4), some (.int x5)] [.int q28] (mW s) 0 0 r h2
        obtain ⟨w29, hr30, hf⟩ := bd_elim hf
        have K31 : Rn g mdX12_again 140 [some (.ref 0), some (.int a1), some (.int w29.1), some (.int w29.2), some (.int a4), some (.int x5)] [] (mW s) 0 0 r h2 := by
          refine o_iinc (pc := 140) dX12_again_140 rfl (by decide) rfl ?_
          show Rn g mdX12_again 143 [some (.ref 0), some (.int a1), some (.int w29.1), some (.int w29.2), some (.int a4), some (.int (x5 + (-1)))] [] (mW s) 0 0 r h2
          obtain ⟨v35, ev35, hf⟩ := lt_elim hf
          rw [ev35]
          show Rn g mdX12_again 143 [some (.ref 0), some (.int a1), some (.int w29.1), some (.int w29.2), some (.int a4), some (.int v35)] [] (mW s) 0 0 r h2
          refine o_goto (pc := 143) 104 dX12_again_143 rfl ?_
          exact ih _ _ _ hf K
        clear hf
        refine o_if_eq (pc := 123) 140 dX12_again_123 rfl (fun hc => ?_) (fun hc => ?_)
        · have hr30 := it_t hr30 hc
          obtain rfl := Option.some.inj hr30
          exact K31
        · have hr30 := it_f hr30 hc
          refine o_aload_n (pc := 126) dX12_again_126 rfl ?_
          refine m_getA (pc := 127) 1 1 (by decide) rfl rfl lkX12_9 dX12_again_127 ?_
          refine o_bipush (pc := 130) (v := 9) dX12_again_130 rfl ?_
          obtain ⟨hk32, hr30⟩ := ck_elim hr30
          refine m_iald (pc := 132) (by decide) rfl hk32 dX12_again_132 ?_
          refine lz_i hr30 (fun v33 hr30 => ?_)
          refine o_istore_n (pc := 133) dX12_again_133 (by decide) rfl ?_
          show Rn g mdX12_again 134 [some (.ref 0), some (.int a1), some (.int v33), some (.int x3), some (.int a4), some (.int x5)] [] (mW s) 0 0 r h2
          refine o_iload (pc := 134) dX12_again_134 rfl ?_
          refine o_iload (pc := 136) dX12_again_136 rfl ?_
          refine o_isub (pc := 138) dX12_again_138 ?_
          refine lz_i hr30 (fun v34 hr30 => ?_)
          refine o_istore_n (pc := 139) dX12_again_139 (by decide) rfl ?_
          show Rn g mdX12_again 140 [some (.ref 0), some (.int a1), some (.int v33), some (.int v34), some (.int a4), some (.int x5)] [] (mW s) 0 0 r h2
          obtain rfl := Option.some.inj hr30
          exact K31
      · have hf := it_f hf hc
        obtain rfl := Option.some.inj hf
        refine o_keep [true, true, true, true, true, false] ?_
        exact K
    clear hf
    refine o_if_lt (pc := 106) 146 dX12_again_106 rfl (fun hc => ?_) (fun hc => ?_)
    · have hr25 := it_t hr25 hc
      obtain rfl := Option.some.inj hr25
      exact KB26.2 (by decide)
    · have hr25 := it_f hr25 hc
      refine o_iload_n (pc := 109) dX12_again_109 rfl ?_
      refine o_bipush (pc := 110) (v := (-2)) dX12_again_110 rfl ?_
      refine o_icmp_ne (pc := 112) 146 dX12_again_112 rfl (fun hc => ?_) (fun hc => ?_)
      · have hr25 := it_f hr25 hc
        obtain rfl := Option.some.inj hr25
        exact KB26.2 (by decide)
      · have hr25 := it_t hr25 hc
        obtain rfl := Option.some.inj hr25
        exact KB26.1 rfl
set_option maxRecDepth 20000 in
theorem kX12_again_L32 {g : GX} (a1 : Int32) {r : Option Value} {h2 : PH} : ∀ (n : Nat) (x2 : Int32) (x3 : Int32) (x4 : Int32) (s : ST) {w : Int32 × Int32 × Int32 × ST}, fX12_again_L32 a1 n x2 x3 x4 s = some w → Rn g mdX12_again 157 [some (.ref 0), some (.int a1), some (.int w.1), some (.int w.2.1), none, none] [] (mW w.2.2.2) 0 0 r h2 → Rn g mdX12_again 32 [some (.ref 0), some (.int a1), some (.int x2), some (.int x3), some (.int x4), none] [] (mW s) 0 0 r h2 := by
  intro n
  induction n with
  | zero => intro x2 x3 x4 s w hf K; cases hf
  | succ n ih =>
    intro x2 x3 x4 s w hf K
    rw [fX12_again_L32] at hf
    refine o_iload (pc := 32) dX12_again_32 rfl ?_
    refine o_bipush (pc := 34) (v := 100) dX12_again_34 rfl ?_
    obtain ⟨b10, hr11, hf⟩ := bd_elim hf
    have KB12 : (b10 = true → Rn g mdX12_again 45 [some (.ref 0), some (.int a1), some (.int x2), some (.int x3), some (.int x4), none] [] (mW s) 0 0 r h2) ∧ (¬ b10 = true → Rn g mdX12_again 157 [some (.ref 0), some (.int a1), some (.int x2), some (.int x3), some (.int x4), none] [] (mW s) 0 0 r h2) := by
      refine ⟨fun hc => ?_, fun hc => ?_⟩
      · have hf := it_t hf hc
        refine o_iconst (pc := 45) (v := 0) dX12_again_45 rfl ?_
        refine o_istore (pc := 46) dX12_again_46 (by decide) rfl ?_
        show Rn g mdX12_again 48 [some (.ref 0), some (.int a1), some (.int x2), some (.int x3), some (.int x4), some (.int 0)] [] (mW s) 0 0 r h2
        obtain ⟨w20, hl21, hf⟩ := bd_elim hf
        have K22 : Rn g mdX12_again 98 [some (.ref 0), some (.int a1), some (.int x2), some (.int x3), some (.int x4), none] [] (mW w20.2) 0 0 r h2 := by
          refine o_iload (pc := 98) dX12_again_98 rfl ?_
          refine o_iconst (pc := 100) (v := 1) dX12_again_100 rfl ?_
          refine o_isub (pc := 101) dX12_again_101 ?_
          refine lz_i hf (fun v23 hf => ?_)
          refine o_istore (pc := 102) dX12_again_102 (by decide) rfl ?_
          show Rn g mdX12_again 104 [some (.ref 0), some (.int a1), some (.int x2), some (.int x3), some (.int x4), some (.int v23)] [] (mW w20.2) 0 0 r h2
          obtain ⟨w36, hl37, hf⟩ := bd_elim hf
          have K38 : Rn g mdX12_again 146 [some (.ref 0), some (.int a1), some (.int w36.1), some (.int w36.2.1), some (.int x4), none] [] (mW w20.2) 0 0 r h2 := by
            refine o_aload_n (pc := 146) dX12_again_146 rfl ?_
            obtain ⟨q40, hk39, hf⟩ := bd_elim hf
            refine m_callV (pc := 147) [] dX12_again_147 (kX12_dayGoes hk39) stX12_491 ⟨by decide, by decide, by decide, by decide⟩ ⟨rfl, rfl⟩ (Nat.le_of_ble_eq_true rfl) ?_
            show Rn g mdX12_again 150 [some (.ref 0), some (.int a1), some (.int w36.1), some (.int w36.2.1), some (.int x4), none] [.int q40.1] (mW q40.2) 0 0 r h2
            refine o_pop (pc := 150) dX12_again_150 rfl ?_
            refine o_iinc (pc := 151) dX12_again_151 rfl (by decide) rfl ?_
            show Rn g mdX12_again 154 [some (.ref 0), some (.int a1), some (.int w36.1), some (.int w36.2.1), some (.int (x4 + 1)), none] [] (mW q40.2) 0 0 r h2
            obtain ⟨v41, ev41, hf⟩ := lt_elim hf
            rw [ev41]
            show Rn g mdX12_again 154 [some (.ref 0), some (.int a1), some (.int w36.1), some (.int w36.2.1), some (.int v41), none] [] (mW q40.2) 0 0 r h2
            refine o_goto (pc := 154) 32 dX12_again_154 rfl ?_
            exact ih _ _ _ _ hf K
          exact kX12_again_L104 _ _ _ _ _ _ _ hl37 K38
        exact kX12_again_L48 _ _ _ _ _ _ _ hl21 K22
      · have hf := it_f hf hc
        obtain rfl := Option.some.inj hf
        refine o_keep [true, true, true, true, false, false] ?_
        exact K
    clear hf
    refine o_icmp_ge (pc := 36) 157 dX12_again_36 rfl (fun hc => ?_) (fun hc => ?_)
    · have hr11 := it_t hr11 hc
      obtain rfl := Option.some.inj hr11
      exact KB12.2 (by decide)
    · have hr11 := it_f hr11 hc
      refine o_iload_n (pc := 39) dX12_again_39 rfl ?_
      refine o_bipush (pc := 40) (v := (-2)) dX12_again_40 rfl ?_
      refine o_icmp_ne (pc := 42) 157 dX12_again_42 rfl (fun hc => ?_) (fun hc => ?_)
      · have hr11 := it_f hr11 hc
        obtain rfl := Option.some.inj hr11
        exact KB12.2 (by decide)
      · have hr11 := it_t hr11 hc
        obtain rfl := Option.some.inj hr11
        exact KB12.1 rfl
set_option maxRecDepth 20000 in
theorem kX12_again {g : GX} {p0 : Int32} {s : ST} {q : Int32 × ST} (hf : fX12_again p0 s = some q) : Cn g mdX12_again [.ref 0, .int p0] (mW s) (some (.int q.1)) (mW q.2) := by
  refine Cn.of (by decide) (Nat.le_of_ble_eq_true rfl) ?_
  show Rn g mdX12_again 0 [some (.ref 0), some (.int p0), none, none, none, none] [] (mW s) 0 0 (some (.int q.1)) (mW q.2)
  unfold fX12_again at hf
  refine o_aload_n (pc := 0) dX12_again_0 rfl ?_
  obtain ⟨q2, hk1, hf⟩ := bd_elim hf
  refine m_callV (pc := 1) [] dX12_again_1 (kX12_isTown hk1) stX12_485 ⟨by decide, by decide, by decide, by decide⟩ ⟨rfl, rfl⟩ (Nat.le_of_ble_eq_true rfl) ?_
  show Rn g mdX12_again 4 [some (.ref 0), some (.int p0), none, none, none, none] [.int q2] (mW s) 0 0 (some (.int q.1)) (mW q.2)
  obtain ⟨b3, hr4, hf⟩ := bd_elim hf
  have KB5 : (b3 = true → Rn g mdX12_again 17 [some (.ref 0), some (.int p0), none, none, none, none] [] (mW s) 0 0 (some (.int q.1)) (mW q.2)) ∧ (¬ b3 = true → Rn g mdX12_again 19 [some (.ref 0), some (.int p0), none, none, none, none] [] (mW s) 0 0 (some (.int q.1)) (mW q.2)) := by
    refine ⟨fun hc => ?_, fun hc => ?_⟩
    · have hf := it_t hf hc
      refine o_iconst (pc := 17) (v := (-1)) dX12_again_17 rfl ?_
      obtain rfl := Option.some.inj hf
      exact o_ireturn (pc := 18) dX12_again_18 rfl (Nat.zero_le _) (Nat.zero_le _)
    · have hf := it_f hf hc
      refine o_bipush (pc := 19) (v := (-2)) dX12_again_19 rfl ?_
      refine o_istore_n (pc := 21) dX12_again_21 (by decide) rfl ?_
      show Rn g mdX12_again 22 [some (.ref 0), some (.int p0), some (.int (-2)), none, none, none] [] (mW s) 0 0 (some (.int q.1)) (mW q.2)
      refine o_bipush (pc := 22) (v := (-2)) dX12_again_22 rfl ?_
      refine o_istore_n (pc := 24) dX12_again_24 (by decide) rfl ?_
      show Rn g mdX12_again 25 [some (.ref 0), some (.int p0), some (.int (-2)), some (.int (-2)), none, none] [] (mW s) 0 0 (some (.int q.1)) (mW q.2)
      refine o_aload_n (pc := 25) dX12_again_25 rfl ?_
      obtain ⟨q9, hk8, hf⟩ := bd_elim hf
      refine m_callV (pc := 26) [] dX12_again_26 (kX12_keepsAll hk8) stX12_522 ⟨by decide, by decide, by decide, by decide⟩ ⟨rfl, rfl⟩ (Nat.le_of_ble_eq_true rfl) ?_
      show Rn g mdX12_again 29 [some (.ref 0), some (.int p0), some (.int (-2)), some (.int (-2)), none, none] [] (mW q9) 0 0 (some (.int q.1)) (mW q.2)
      refine o_iconst (pc := 29) (v := 0) dX12_again_29 rfl ?_
      refine o_istore (pc := 30) dX12_again_30 (by decide) rfl ?_
      show Rn g mdX12_again 32 [some (.ref 0), some (.int p0), some (.int (-2)), some (.int (-2)), some (.int 0), none] [] (mW q9) 0 0 (some (.int q.1)) (mW q.2)
      obtain ⟨w42, hl43, hf⟩ := bd_elim hf
      have K44 : Rn g mdX12_again 157 [some (.ref 0), some (.int p0), some (.int w42.1), some (.int w42.2.1), none, none] [] (mW w42.2.2.2) 0 0 (some (.int q.1)) (mW q.2) := by
        refine o_aload_n (pc := 157) dX12_again_157 rfl ?_
        obtain ⟨q46, hk45, hf⟩ := bd_elim hf
        refine m_callV (pc := 158) [] dX12_again_158 (kX12_laysBack hk45) stX12_515 ⟨by decide, by decide, by decide, by decide⟩ ⟨rfl, rfl⟩ (Nat.le_of_ble_eq_true rfl) ?_
        show Rn g mdX12_again 161 [some (.ref 0), some (.int p0), some (.int w42.1), some (.int w42.2.1), none, none] [] (mW q46) 0 0 (some (.int q.1)) (mW q.2)
        refine o_iload_n (pc := 161) dX12_again_161 rfl ?_
        obtain ⟨w47, hr48, hf⟩ := bd_elim hf
        have K49 : Rn g mdX12_again 170 [none, none, none, none, none, none] [.int w47] (mW q46) 0 0 (some (.int q.1)) (mW q.2) := by
          obtain rfl := Option.some.inj hf
          exact o_ireturn (pc := 170) dX12_again_170 rfl (Nat.zero_le _) (Nat.zero_le _)
        clear hf
        refine o_if_ne (pc := 162) 169 dX12_again_162 rfl (fun hc => ?_) (fun hc => ?_)
        · have hr48 := it_f hr48 hc
          refine o_iload_n (pc := 169) dX12_again_169 rfl ?_
          obtain rfl := Option.some.inj hr48
          refine o_keep [false, false, false, false, false, false] ?_
          exact K49
        · have hr48 := it_t hr48 hc
          refine o_iload_n (pc := 165) dX12_again_165 rfl ?_
          refine o_goto (pc := 166) 170 dX12_again_166 rfl ?_
          obtain rfl := Option.some.inj hr48
          refine o_keep [false, false, false, false, false, false] ?_
          exact K49
      exact kX12_again_L32 _ _ _ _ _ _ hl43 K44
  clear hf
  refine o_if_eq (pc := 4) 17 dX12_again_4 rfl (fun hc => ?_) (fun hc => ?_)
  · have hr4 := it_t hr4 hc
    obtain rfl := Option.some.inj hr4
    exact KB5.1 rfl
  · have hr4 := it_f hr4 hc
    refine o_iload_n (pc := 7) dX12_again_7 rfl ?_
    refine o_i2l (pc := 8) dX12_again_8 ?_
    refine o_lconst (pc := 9) (v := 0) dX12_again_9 rfl ?_
    refine o_lconst (pc := 10) (v := 1) dX12_again_10 rfl ?_
    obtain ⟨q7, hk6, hr4⟩ := bd_elim hr4
    refine m_callS (pc := 11) [.long p0.toInt64, .long 0, .long 1] dX12_again_11 (kX12_in hk6) stX12_191 ⟨by decide, by decide, by decide, by decide⟩ ⟨rfl, rfl⟩ (Nat.le_of_ble_eq_true rfl) ?_
    show Rn g mdX12_again 14 [some (.ref 0), some (.int p0), none, none, none, none] [.int q7] (mW s) 0 0 (some (.int q.1)) (mW q.2)
    refine o_if_ne (pc := 14) 19 dX12_again_14 rfl (fun hc => ?_) (fun hc => ?_)
    · have hr4 := it_f hr4 hc
      obtain rfl := Option.some.inj hr4
      exact KB5.2 (by decide)
    · have hr4 := it_t hr4 hc
      obtain rfl := Option.some.inj hr4
      exact KB5.1 rfl
def fX12_law_L59 (a1 : Int32) (a2 : Int32) (a6 : Int32) : Nat → Int32 → Int32 → Int32 → Int32 → ST → Option (Int32 × Int32 × Int32 × Int32 × ST)
  | 0, _, _, _, _, _ => none
  | n + 1, x3, x4, x5, x7, s => if 60 < x7 then some (x3, x4, x5, x7, s) else (if x7 < a6 then some (x3, x4, x5, s) else ck (inb 0 13) (lt (si s 1 (ix 0) a6) (fun s16 => ck (inb 1 13) (lt (si s16 1 (ix 1) x7) (fun s18 => (fX12_costsOf a1 s18).bind (fun q20 => (if x5 = (-1) then some true else if x5 ≤ q20.1 then some false else some true : Option Bool).bind (fun b21 => if b21 = true then some (a6, x7, q20.1, q20.2) else some (x3, x4, x5, q20.2))))))) : Option (Int32 × Int32 × Int32 × ST)).bind (fun w12 => lt (x7 + 10) (fun v24 => fX12_law_L59 a1 a2 a6 n w12.1 w12.2.1 w12.2.2.1 v24 w12.2.2.2))
def fX12_law_L48 (a1 : Int32) (a2 : Int32) : Nat → Int32 → Int32 → Int32 → Int32 → ST → Option (Int32 × Int32 × Int32 × Int32 × ST)
  | 0, _, _, _, _, _ => none
  | n + 1, x3, x4, x5, x6, s => if 50 < x6 then some (x3, x4, x5, x6, s) else (fX12_law_L59 a1 a2 x6 FUEL x3 x4 x5 10 s).bind (fun w25 => lt (x6 + 10) (fun v28 => fX12_law_L48 a1 a2 n w25.1 w25.2.1 w25.2.2.1 v28 w25.2.2.2.2))
def fX12_law (p0 : Int32) (p1 : Int32) (s : ST) : Option (Int32 × ST) :=
  (fX12_isTown s).bind (fun q2 => (if q2 = 0 then some true else (fX12_in p0.toInt64 1 20 s).bind (fun q7 => if q7 = 0 then some true else (fX12_in p1.toInt64 0 2 s).bind (fun q9 => if q9 = 0 then some true else some false)) : Option Bool).bind (fun b3 => if b3 = true then some ((-1), s) else (fX12_keepsAll s).bind (fun q11 => (fX12_law_L48 p0 p1 FUEL (-1) (-1) (-1) 0 q11).bind (fun w29 => (if p1 = 0 then some w29.1 else if p1 = 1 then some w29.2.1 else some w29.2.2.1 : Option (Int32)).bind (fun w32 => some (w32, w29.2.2.2.2))))))
set_option maxRecDepth 20000 in
theorem kX12_law_L59 {g : GX} (a1 : Int32) (a2 : Int32) (a6 : Int32) {r : Option Value} {h2 : PH} : ∀ (n : Nat) (x3 : Int32) (x4 : Int32) (x5 : Int32) (x7 : Int32) (s : ST) {w : Int32 × Int32 × Int32 × Int32 × ST}, fX12_law_L59 a1 a2 a6 n x3 x4 x5 x7 s = some w → Rn g mdX12_law 126 [some (.ref 0), some (.int a1), some (.int a2), some (.int w.1), some (.int w.2.1), some (.int w.2.2.1), some (.int a6), none, none] [] (mW w.2.2.2.2) 0 0 r h2 → Rn g mdX12_law 59 [some (.ref 0), some (.int a1), some (.int a2), some (.int x3), some (.int x4), some (.int x5), some (.int a6), some (.int x7), none] [] (mW s) 0 0 r h2 := by
  intro n
  induction n with
  | zero => intro x3 x4 x5 x7 s w hf K; cases hf
  | succ n ih =>
    intro x3 x4 x5 x7 s w hf K
    rw [fX12_law_L59] at hf
    refine o_iload (pc := 59) dX12_law_59 rfl ?_
    refine o_bipush (pc := 61) (v := 60) dX12_law_61 rfl ?_
    refine o_icmp_gt (pc := 63) 126 dX12_law_63 rfl (fun hc => ?_) (fun hc => ?_)
    · have hf := it_t hf hc
      obtain rfl := Option.some.inj hf
      refine o_keep [true, true, true, true, true, true, true, false, false] ?_
      exact K
    · have hf := it_f hf hc
      refine o_iload (pc := 66) dX12_law_66 rfl ?_
      refine o_iload (pc := 68) dX12_law_68 rfl ?_
      obtain ⟨w12, hr13, hf⟩ := bd_elim hf
      have K14 : Rn g mdX12_law 120 [some (.ref 0), some (.int a1), some (.int a2), some (.int w12.1), some (.int w12.2.1), some (.int w12.2.2.1), some (.int a6), some (.int x7), none] [] (mW w12.2.2.2) 0 0 r h2 := by
        refine o_iinc (pc := 120) dX12_law_120 rfl (by decide) rfl ?_
        show Rn g mdX12_law 123 [some (.ref 0), some (.int a1), some (.int a2), some (.int w12.1), some (.int w12.2.1), some (.int w12.2.2.1), some (.int a6), some (.int (x7 + 10)), none] [] (mW w12.2.2.2) 0 0 r h2
        obtain ⟨v24, ev24, hf⟩ := lt_elim hf
        rw [ev24]
        show Rn g mdX12_law 123 [some (.ref 0), some (.int a1), some (.int a2), some (.int w12.1), some (.int w12.2.1), some (.int w12.2.2.1), some (.int a6), some (.int v24), none] [] (mW w12.2.2.2) 0 0 r h2
        refine o_goto (pc := 123) 59 dX12_law_123 rfl ?_
        exact ih _ _ _ _ _ hf K
      clear hf
      refine o_icmp_lt (pc := 70) 120 dX12_law_70 rfl (fun hc => ?_) (fun hc => ?_)
      · have hr13 := it_t hr13 hc
        obtain rfl := Option.some.inj hr13
        exact K14
      · have hr13 := it_f hr13 hc
        refine o_aload_n (pc := 73) dX12_law_73 rfl ?_
        refine m_getA (pc := 74) 1 1 (by decide) rfl rfl lkX12_9 dX12_law_74 ?_
        refine o_iconst (pc := 77) (v := 0) dX12_law_77 rfl ?_
        refine o_iload (pc := 78) dX12_law_78 rfl ?_
        obtain ⟨hk15, hr13⟩ := ck_elim hr13
        refine m_iast (pc := 80) (by decide) rfl hk15 dX12_law_80 ?_
        refine lz_s (mW) hr13 (fun s16 hr13 => ?_)
        show Rn g mdX12_law 81 [some (.ref 0), some (.int a1), some (.int a2), some (.int x3), some (.int x4), some (.int x5), some (.int a6), some (.int x7), none] [] (mW s16) 0 0 r h2
        refine o_aload_n (pc := 81) dX12_law_81 rfl ?_
        refine m_getA (pc := 82) 1 1 (by decide) rfl rfl lkX12_9 dX12_law_82 ?_
        refine o_iconst (pc := 85) (v := 1) dX12_law_85 rfl ?_
        refine o_iload (pc := 86) dX12_law_86 rfl ?_
        obtain ⟨hk17, hr13⟩ := ck_elim hr13
        refine m_iast (pc := 88) (by decide) rfl hk17 dX12_law_88 ?_
        refine lz_s (mW) hr13 (fun s18 hr13 => ?_)
        show Rn g mdX12_law 89 [some (.ref 0), some (.int a1), some (.int a2), some (.int x3), some (.int x4), some (.int x5), some (.int a6), some (.int x7), none] [] (mW s18) 0 0 r h2
        refine o_aload_n (pc := 89) dX12_law_89 rfl ?_
        refine o_iload_n (pc := 90) dX12_law_90 rfl ?_
        obtain ⟨q20, hk19, hr13⟩ := bd_elim hr13
        refine m_callV (pc := 91) [.int a1] dX12_law_91 (kX12_costsOf hk19) stX12_530 ⟨by decide, by decide, by decide, by decide⟩ ⟨rfl, rfl⟩ (Nat.le_of_ble_eq_true rfl) ?_
        show Rn g mdX12_law 94 [some (.ref 0), some (.int a1), some (.int a2), some (.int x3), some (.int x4), some (.int x5), some (.int a6), some (.int x7), none] [.int q20.1] (mW q20.2) 0 0 r h2
        refine o_istore (pc := 94) dX12_law_94 (by decide) rfl ?_
        show Rn g mdX12_law 96 [some (.ref 0), some (.int a1), some (.int a2), some (.int x3), some (.int x4), some (.int x5), some (.int a6), some (.int x7), some (.int q20.1)] [] (mW q20.2) 0 0 r h2
        refine o_iload (pc := 96) dX12_law_96 rfl ?_
        refine o_iconst (pc := 98) (v := (-1)) dX12_law_98 rfl ?_
        obtain ⟨b21, hr22, hr13⟩ := bd_elim hr13
        have KB23 : (b21 = true → Rn g mdX12_law 109 [some (.ref 0), some (.int a1), some (.int a2), some (.int x3), some (.int x4), some (.int x5), some (.int a6), some (.int x7), some (.int q20.1)] [] (mW q20.2) 0 0 r h2) ∧ (¬ b21 = true → Rn g mdX12_law 120 [some (.ref 0), some (.int a1), some (.int a2), some (.int x3), some (.int x4), some (.int x5), some (.int a6), some (.int x7), some (.int q20.1)] [] (mW q20.2) 0 0 r h2) := by
          refine ⟨fun hc => ?_, fun hc => ?_⟩
          · have hr13 := it_t hr13 hc
            refine o_iload (pc := 109) dX12_law_109 rfl ?_
            refine o_istore_n (pc := 111) dX12_law_111 (by decide) rfl ?_
            show Rn g mdX12_law 112 [some (.ref 0), some (.int a1), some (.int a2), some (.int a6), some (.int x4), some (.int x5), some (.int a6), some (.int x7), some (.int q20.1)] [] (mW q20.2) 0 0 r h2
            refine o_iload (pc := 112) dX12_law_112 rfl ?_
            refine o_istore (pc := 114) dX12_law_114 (by decide) rfl ?_
            show Rn g mdX12_law 116 [some (.ref 0), some (.int a1), some (.int a2), some (.int a6), some (.int x7), some (.int x5), some (.int a6), some (.int x7), some (.int q20.1)] [] (mW q20.2) 0 0 r h2
            refine o_iload (pc := 116) dX12_law_116 rfl ?_
            refine o_istore (pc := 118) dX12_law_118 (by decide) rfl ?_
            show Rn g mdX12_law 120 [some (.ref 0), some (.int a1), some (.int a2), some (.int a6), some (.int x7), some (.int q20.1), some (.int a6), some (.int x7), some (.int q20.1)] [] (mW q20.2) 0 0 r h2
            obtain rfl := Option.some.inj hr13
            refine o_keep [true, true, true, true, true, true, true, true, false] ?_
            exact K14
          · have hr13 := it_f hr13 hc
            obtain rfl := Option.some.inj hr13
            refine o_keep [true, true, true, true, true, true, true, true, false] ?_
            exact K14
        clear hr13
        refine o_icmp_eq (pc := 99) 109 dX12_law_99 rfl (fun hc => ?_) (fun hc => ?_)
        · have hr22 := it_t hr22 hc
          obtain rfl := Option.some.inj hr22
          exact KB23.1 rfl
        · have hr22 := it_f hr22 hc
          refine o_iload (pc := 102) dX12_law_102 rfl ?_
          refine o_iload (pc := 104) dX12_law_104 rfl ?_
          refine o_icmp_ge (pc := 106) 120 dX12_law_106 rfl (fun hc => ?_) (fun hc => ?_)
          · have hr22 := it_t hr22 hc
            obtain rfl := Option.some.inj hr22
            exact KB23.2 (by decide)
          · have hr22 := it_f hr22 hc
            obtain rfl := Option.some.inj hr22
            exact KB23.1 rfl
set_option maxRecDepth 20000 in
theorem kX12_law_L48 {g : GX} (a1 : Int32) (a2 : Int32) {r : Option Value} {h2 : PH} : ∀ (n : Nat) (x3 : Int32) (x4 : Int32) (x5 : Int32) (x6 : Int32) (s : ST) {w : Int32 × Int32 × Int32 × Int32 × ST}, fX12_law_L48 a1 a2 n x3 x4 x5 x6 s = some w → Rn g mdX12_law 132 [none, none, some (.int a2), some (.int w.1), some (.int w.2.1), some (.int w.2.2.1), none, none, none] [] (mW w.2.2.2.2) 0 0 r h2 → Rn g mdX12_law 48 [some (.ref 0), some (.int a1), some (.int a2), some (.int x3), some (.int x4), some (.int x5), some (.int x6), none, none] [] (mW s) 0 0 r h2 := by
  intro n
  induction n with
  | zero => intro x3 x4 x5 x6 s w hf K; cases hf
  | succ n ih =>
    intro x3 x4 x5 x6 s w hf K
    rw [fX12_law_L48] at hf
    refine o_iload (pc := 48) dX12_law_48 rfl ?_
    refine o_bipush (pc := 50) (v := 50) dX12_law_50 rfl ?_
    refine o_icmp_gt (pc := 52) 132 dX12_law_52 rfl (fun hc => ?_) (fun hc => ?_)
    · have hf := it_t hf hc
      obtain rfl := Option.some.inj hf
      refine o_keep [false, false, true, true, true, true, false, false, false] ?_
      exact K
    · have hf := it_f hf hc
      refine o_bipush (pc := 55) (v := 10) dX12_law_55 rfl ?_
      refine o_istore (pc := 57) dX12_law_57 (by decide) rfl ?_
      show Rn g mdX12_law 59 [some (.ref 0), some (.int a1), some (.int a2), some (.int x3), some (.int x4), some (.int x5), some (.int x6), some (.int 10), none] [] (mW s) 0 0 r h2
      obtain ⟨w25, hl26, hf⟩ := bd_elim hf
      have K27 : Rn g mdX12_law 126 [some (.ref 0), some (.int a1), some (.int a2), some (.int w25.1), some (.int w25.2.1), some (.int w25.2.2.1), some (.int x6), none, none] [] (mW w25.2.2.2.2) 0 0 r h2 := by
        refine o_iinc (pc := 126) dX12_law_126 rfl (by decide) rfl ?_
        show Rn g mdX12_law 129 [some (.ref 0), some (.int a1), some (.int a2), some (.int w25.1), some (.int w25.2.1), some (.int w25.2.2.1), some (.int (x6 + 10)), none, none] [] (mW w25.2.2.2.2) 0 0 r h2
        obtain ⟨v28, ev28, hf⟩ := lt_elim hf
        rw [ev28]
        show Rn g mdX12_law 129 [some (.ref 0), some (.int a1), some (.int a2), some (.int w25.1), some (.int w25.2.1), some (.int w25.2.2.1), some (.int v28), none, none] [] (mW w25.2.2.2.2) 0 0 r h2
        refine o_goto (pc := 129) 48 dX12_law_129 rfl ?_
        exact ih _ _ _ _ _ hf K
      exact kX12_law_L59 _ _ _ _ _ _ _ _ _ hl26 K27
set_option maxRecDepth 20000 in
theorem kX12_law {g : GX} {p0 : Int32} {p1 : Int32} {s : ST} {q : Int32 × ST} (hf : fX12_law p0 p1 s = some q) : Cn g mdX12_law [.ref 0, .int p0, .int p1] (mW s) (some (.int q.1)) (mW q.2) := by
  refine Cn.of (by decide) (Nat.le_of_ble_eq_true rfl) ?_
  show Rn g mdX12_law 0 [some (.ref 0), some (.int p0), some (.int p1), none, none, none, none, none, none] [] (mW s) 0 0 (some (.int q.1)) (mW q.2)
  unfold fX12_law at hf
  refine o_aload_n (pc := 0) dX12_law_0 rfl ?_
  obtain ⟨q2, hk1, hf⟩ := bd_elim hf
  refine m_callV (pc := 1) [] dX12_law_1 (kX12_isTown hk1) stX12_485 ⟨by decide, by decide, by decide, by decide⟩ ⟨rfl, rfl⟩ (Nat.le_of_ble_eq_true rfl) ?_
  show Rn g mdX12_law 4 [some (.ref 0), some (.int p0), some (.int p1), none, none, none, none, none, none] [.int q2] (mW s) 0 0 (some (.int q.1)) (mW q.2)
  obtain ⟨b3, hr4, hf⟩ := bd_elim hf
  have KB5 : (b3 = true → Rn g mdX12_law 31 [some (.ref 0), some (.int p0), some (.int p1), none, none, none, none, none, none] [] (mW s) 0 0 (some (.int q.1)) (mW q.2)) ∧ (¬ b3 = true → Rn g mdX12_law 33 [some (.ref 0), some (.int p0), some (.int p1), none, none, none, none, none, none] [] (mW s) 0 0 (some (.int q.1)) (mW q.2)) := by
    refine ⟨fun hc => ?_, fun hc => ?_⟩
    · have hf := it_t hf hc
      refine o_iconst (pc := 31) (v := (-1)) dX12_law_31 rfl ?_
      obtain rfl := Option.some.inj hf
      exact o_ireturn (pc := 32) dX12_law_32 rfl (Nat.zero_le _) (Nat.zero_le _)
    · have hf := it_f hf hc
      refine o_iconst (pc := 33) (v := (-1)) dX12_law_33 rfl ?_
      refine o_istore_n (pc := 34) dX12_law_34 (by decide) rfl ?_
      show Rn g mdX12_law 35 [some (.ref 0), some (.int p0), some (.int p1), some (.int (-1)), none, none, none, none, none] [] (mW s) 0 0 (some (.int q.1)) (mW q.2)
      refine o_iconst (pc := 35) (v := (-1)) dX12_law_35 rfl ?_
      refine o_istore (pc := 36) dX12_law_36 (by decide) rfl ?_
      show Rn g mdX12_law 38 [some (.ref 0), some (.int p0), some (.int p1), some (.int (-1)), some (.int (-1)), none, none, none, none] [] (mW s) 0 0 (some (.int q.1)) (mW q.2)
      refine o_iconst (pc := 38) (v := (-1)) dX12_law_38 rfl ?_
      refine o_istore (pc := 39) dX12_law_39 (by decide) rfl ?_
      show Rn g mdX12_law 41 [some (.ref 0), some (.int p0), some (.int p1), some (.int (-1)), some (.int (-1)), some (.int (-1)), none, none, none] [] (mW s) 0 0 (some (.int q.1)) (mW q.2)
      refine o_aload_n (pc := 41) dX12_law_41 rfl ?_
      obtain ⟨q11, hk10, hf⟩ := bd_elim hf
      refine m_callV (pc := 42) [] dX12_law_42 (kX12_keepsAll hk10) stX12_522 ⟨by decide, by decide, by decide, by decide⟩ ⟨rfl, rfl⟩ (Nat.le_of_ble_eq_true rfl) ?_
      show Rn g mdX12_law 45 [some (.ref 0), some (.int p0), some (.int p1), some (.int (-1)), some (.int (-1)), some (.int (-1)), none, none, none] [] (mW q11) 0 0 (some (.int q.1)) (mW q.2)
      refine o_iconst (pc := 45) (v := 0) dX12_law_45 rfl ?_
      refine o_istore (pc := 46) dX12_law_46 (by decide) rfl ?_
      show Rn g mdX12_law 48 [some (.ref 0), some (.int p0), some (.int p1), some (.int (-1)), some (.int (-1)), some (.int (-1)), some (.int 0), none, none] [] (mW q11) 0 0 (some (.int q.1)) (mW q.2)
      obtain ⟨w29, hl30, hf⟩ := bd_elim hf
      have K31 : Rn g mdX12_law 132 [none, none, some (.int p1), some (.int w29.1), some (.int w29.2.1), some (.int w29.2.2.1), none, none, none] [] (mW w29.2.2.2.2) 0 0 (some (.int q.1)) (mW q.2) := by
        refine o_iload_n (pc := 132) dX12_law_132 rfl ?_
        obtain ⟨w32, hr33, hf⟩ := bd_elim hf
        have K34 : Rn g mdX12_law 152 [none, none, none, none, none, none, none, none, none] [.int w32] (mW w29.2.2.2.2) 0 0 (some (.int q.1)) (mW q.2) := by
          obtain rfl := Option.some.inj hf
          exact o_ireturn (pc := 152) dX12_law_152 rfl (Nat.zero_le _) (Nat.zero_le _)
        clear hf
        refine o_if_ne (pc := 133) 140 dX12_law_133 rfl (fun hc => ?_) (fun hc => ?_)
        · have hr33 := it_f hr33 hc
          refine o_iload_n (pc := 140) dX12_law_140 rfl ?_
          refine o_iconst (pc := 141) (v := 1) dX12_law_141 rfl ?_
          refine o_icmp_ne (pc := 142) 150 dX12_law_142 rfl (fun hc => ?_) (fun hc => ?_)
          · have hr33 := it_f hr33 hc
            refine o_iload (pc := 150) dX12_law_150 rfl ?_
            obtain rfl := Option.some.inj hr33
            refine o_keep [false, false, false, false, false, false, false, false, false] ?_
            exact K34
          · have hr33 := it_t hr33 hc
            refine o_iload (pc := 145) dX12_law_145 rfl ?_
            refine o_goto (pc := 147) 152 dX12_law_147 rfl ?_
            obtain rfl := Option.some.inj hr33
            refine o_keep [false, false, false, false, false, false, false, false, false] ?_
            exact K34
        · have hr33 := it_t hr33 hc
          refine o_iload_n (pc := 136) dX12_law_136 rfl ?_
          refine o_goto (pc := 137) 152 dX12_law_137 rfl ?_
          obtain rfl := Option.some.inj hr33
          refine o_keep [false, false, false, false, false, false, false, false, false] ?_
          exact K34
      exact kX12_law_L48 _ _ _ _ _ _ _ _ hl30 K31
  clear hf
  refine o_if_eq (pc := 4) 31 dX12_law_4 rfl (fun hc => ?_) (fun hc => ?_)
  · have hr4 := it_t hr4 hc
    obtain rfl := Option.some.inj hr4
    exact KB5.1 rfl
  · have hr4 := it_f hr4 hc
    refine o_iload_n (pc := 7) dX12_law_7 rfl ?_
    refine o_i2l (pc := 8) dX12_law_8 ?_
    refine o_lconst (pc := 9) (v := 1) dX12_law_9 rfl ?_
    refine o_ldc2 (pc := 10) dX12_law_10 lcX12_498 ?_
    obtain ⟨q7, hk6, hr4⟩ := bd_elim hr4
    refine m_callS (pc := 13) [.long p0.toInt64, .long 1, .long 20] dX12_law_13 (kX12_in hk6) stX12_191 ⟨by decide, by decide, by decide, by decide⟩ ⟨rfl, rfl⟩ (Nat.le_of_ble_eq_true rfl) ?_
    show Rn g mdX12_law 16 [some (.ref 0), some (.int p0), some (.int p1), none, none, none, none, none, none] [.int q7] (mW s) 0 0 (some (.int q.1)) (mW q.2)
    refine o_if_eq (pc := 16) 31 dX12_law_16 rfl (fun hc => ?_) (fun hc => ?_)
    · have hr4 := it_t hr4 hc
      obtain rfl := Option.some.inj hr4
      exact KB5.1 rfl
    · have hr4 := it_f hr4 hc
      refine o_iload_n (pc := 19) dX12_law_19 rfl ?_
      refine o_i2l (pc := 20) dX12_law_20 ?_
      refine o_lconst (pc := 21) (v := 0) dX12_law_21 rfl ?_
      refine o_ldc2 (pc := 22) dX12_law_22 lcX12_520 ?_
      obtain ⟨q9, hk8, hr4⟩ := bd_elim hr4
      refine m_callS (pc := 25) [.long p1.toInt64, .long 0, .long 2] dX12_law_25 (kX12_in hk8) stX12_191 ⟨by decide, by decide, by decide, by decide⟩ ⟨rfl, rfl⟩ (Nat.le_of_ble_eq_true rfl) ?_
      show Rn g mdX12_law 28 [some (.ref 0), some (.int p0), some (.int p1), none, none, none, none, none, none] [.int q9] (mW s) 0 0 (some (.int q.1)) (mW q.2)
      refine o_if_ne (pc := 28) 33 dX12_law_28 rfl (fun hc => ?_) (fun hc => ?_)
      · have hr4 := it_f hr4 hc
        obtain rfl := Option.some.inj hr4
        exact KB5.2 (by decide)
      · have hr4 := it_t hr4 hc
        obtain rfl := Option.some.inj hr4
        exact KB5.1 rfl
def fX12_clocks_L48 (a1 : Int32) (a2 : Int32) : Nat → Int32 → Int32 → Int32 → ST → Option (Int32 × Int32 × Int32 × ST)
  | 0, _, _, _, _ => none
  | n + 1, x3, x4, x5, s => ck (inb 3 13) (if (gi s 1 (ix 3)) ≤ x5 then some (x3, x4, x5, s) else ck (inb x5 5) (lt (si s 3 (ix x5) 0) (fun s16 => (fX12_costsOf a1 s16).bind (fun q18 => (if x4 ≤ q18.1 then some x3 else some x5 : Option (Int32)).bind (fun w19 => (if x4 ≤ q18.1 then some x4 else some q18.1 : Option (Int32)).bind (fun w22 => lt (x5 + 1) (fun v25 => fX12_clocks_L48 a1 a2 n w19 w22 v25 q18.2)))))))
def fX12_clocks (p0 : Int32) (p1 : Int32) (s : ST) : Option (Int32 × ST) :=
  (fX12_isTown s).bind (fun q2 => (if q2 = 0 then some true else (fX12_in p0.toInt64 1 20 s).bind (fun q7 => if q7 = 0 then some true else (fX12_in p1.toInt64 0 1 s).bind (fun q9 => if q9 = 0 then some true else some false)) : Option Bool).bind (fun b3 => if b3 = true then some ((-2), s) else (fX12_keepsAll s).bind (fun q11 => (fX12_costsOf p0 q11).bind (fun q13 => (fX12_clocks_L48 p0 p1 FUEL (-1) q13.1 0 q13.2).bind (fun w26 => (if p1 = 0 then some w26.1 else some w26.2.1 : Option (Int32)).bind (fun w29 => some (w29, w26.2.2.2)))))))
set_option maxRecDepth 20000 in
theorem kX12_clocks_L48 {g : GX} (a1 : Int32) (a2 : Int32) {r : Option Value} {h2 : PH} : ∀ (n : Nat) (x3 : Int32) (x4 : Int32) (x5 : Int32) (s : ST) {w : Int32 × Int32 × Int32 × ST}, fX12_clocks_L48 a1 a2 n x3 x4 x5 s = some w → Rn g mdX12_clocks 110 [none, none, some (.int a2), some (.int w.1), some (.int w.2.1), none, none] [] (mW w.2.2.2) 0 0 r h2 → Rn g mdX12_clocks 48 [some (.ref 0), some (.int a1), some (.int a2), some (.int x3), some (.int x4), some (.int x5), none] [] (mW s) 0 0 r h2 := by
  intro n
  induction n with
  | zero => intro x3 x4 x5 s w hf K; cases hf
  | succ n ih =>
    intro x3 x4 x5 s w hf K
    rw [fX12_clocks_L48] at hf
    refine o_iload (pc := 48) dX12_clocks_48 rfl ?_
    refine o_aload_n (pc := 50) dX12_clocks_50 rfl ?_
    refine m_getA (pc := 51) 1 1 (by decide) rfl rfl lkX12_9 dX12_clocks_51 ?_
    refine o_iconst (pc := 54) (v := 3) dX12_clocks_54 rfl ?_
    obtain ⟨hk14, hf⟩ := ck_elim hf
    refine m_iald (pc := 55) (by decide) rfl hk14 dX12_clocks_55 ?_
    refine o_icmp_ge (pc := 56) 110 dX12_clocks_56 rfl (fun hc => ?_) (fun hc => ?_)
    · have hf := it_t hf hc
      obtain rfl := Option.some.inj hf
      refine o_keep [false, false, true, true, true, false, false] ?_
      exact K
    · have hf := it_f hf hc
      refine o_aload_n (pc := 59) dX12_clocks_59 rfl ?_
      refine m_getA (pc := 60) 3 3 (by decide) rfl rfl lkX12_16 dX12_clocks_60 ?_
      refine o_iload (pc := 63) dX12_clocks_63 rfl ?_
      refine o_iconst (pc := 65) (v := 0) dX12_clocks_65 rfl ?_
      obtain ⟨hk15, hf⟩ := ck_elim hf
      refine m_iast (pc := 66) (by decide) rfl hk15 dX12_clocks_66 ?_
      refine lz_s (mW) hf (fun s16 hf => ?_)
      show Rn g mdX12_clocks 67 [some (.ref 0), some (.int a1), some (.int a2), some (.int x3), some (.int x4), some (.int x5), none] [] (mW s16) 0 0 r h2
      refine o_aload_n (pc := 67) dX12_clocks_67 rfl ?_
      refine o_iload_n (pc := 68) dX12_clocks_68 rfl ?_
      obtain ⟨q18, hk17, hf⟩ := bd_elim hf
      refine m_callV (pc := 69) [.int a1] dX12_clocks_69 (kX12_costsOf hk17) stX12_530 ⟨by decide, by decide, by decide, by decide⟩ ⟨rfl, rfl⟩ (Nat.le_of_ble_eq_true rfl) ?_
      show Rn g mdX12_clocks 72 [some (.ref 0), some (.int a1), some (.int a2), some (.int x3), some (.int x4), some (.int x5), none] [.int q18.1] (mW q18.2) 0 0 r h2
      refine o_istore (pc := 72) dX12_clocks_72 (by decide) rfl ?_
      show Rn g mdX12_clocks 74 [some (.ref 0), some (.int a1), some (.int a2), some (.int x3), some (.int x4), some (.int x5), some (.int q18.1)] [] (mW q18.2) 0 0 r h2
      refine o_iload (pc := 74) dX12_clocks_74 rfl ?_
      refine o_iload (pc := 76) dX12_clocks_76 rfl ?_
      obtain ⟨w19, hr20, hf⟩ := bd_elim hf
      have K21 : Rn g mdX12_clocks 87 [some (.ref 0), some (.int a1), some (.int a2), none, some (.int x4), some (.int x5), some (.int q18.1)] [.int w19] (mW q18.2) 0 0 r h2 := by
        refine o_istore_n (pc := 87) dX12_clocks_87 (by decide) rfl ?_
        show Rn g mdX12_clocks 88 [some (.ref 0), some (.int a1), some (.int a2), some (.int w19), some (.int x4), some (.int x5), some (.int q18.1)] [] (mW q18.2) 0 0 r h2
        refine o_iload (pc := 88) dX12_clocks_88 rfl ?_
        refine o_iload (pc := 90) dX12_clocks_90 rfl ?_
        obtain ⟨w22, hr23, hf⟩ := bd_elim hf
        have K24 : Rn g mdX12_clocks 102 [some (.ref 0), some (.int a1), some (.int a2), some (.int w19), none, some (.int x5), none] [.int w22] (mW q18.2) 0 0 r h2 := by
          refine o_istore (pc := 102) dX12_clocks_102 (by decide) rfl ?_
          show Rn g mdX12_clocks 104 [some (.ref 0), some (.int a1), some (.int a2), some (.int w19), some (.int w22), some (.int x5), none] [] (mW q18.2) 0 0 r h2
          refine o_iinc (pc := 104) dX12_clocks_104 rfl (by decide) rfl ?_
          show Rn g mdX12_clocks 107 [some (.ref 0), some (.int a1), some (.int a2), some (.int w19), some (.int w22), some (.int (x5 + 1)), none] [] (mW q18.2) 0 0 r h2
          obtain ⟨v25, ev25, hf⟩ := lt_elim hf
          rw [ev25]
          show Rn g mdX12_clocks 107 [some (.ref 0), some (.int a1), some (.int a2), some (.int w19), some (.int w22), some (.int v25), none] [] (mW q18.2) 0 0 r h2
          refine o_goto (pc := 107) 48 dX12_clocks_107 rfl ?_
          exact ih _ _ _ _ hf K
        clear hf
        refine o_icmp_ge (pc := 92) 100 dX12_clocks_92 rfl (fun hc => ?_) (fun hc => ?_)
        · have hr23 := it_t hr23 hc
          refine o_iload (pc := 100) dX12_clocks_100 rfl ?_
          obtain rfl := Option.some.inj hr23
          refine o_keep [true, true, true, true, false, true, false] ?_
          exact K24
        · have hr23 := it_f hr23 hc
          refine o_iload (pc := 95) dX12_clocks_95 rfl ?_
          refine o_goto (pc := 97) 102 dX12_clocks_97 rfl ?_
          obtain rfl := Option.some.inj hr23
          refine o_keep [true, true, true, true, false, true, false] ?_
          exact K24
      clear hf
      refine o_icmp_ge (pc := 78) 86 dX12_clocks_78 rfl (fun hc => ?_) (fun hc => ?_)
      · have hr20 := it_t hr20 hc
        refine o_iload_n (pc := 86) dX12_clocks_86 rfl ?_
        obtain rfl := Option.some.inj hr20
        refine o_keep [true, true, true, false, true, true, true] ?_
        exact K21
      · have hr20 := it_f hr20 hc
        refine o_iload (pc := 81) dX12_clocks_81 rfl ?_
        refine o_goto (pc := 83) 87 dX12_clocks_83 rfl ?_
        obtain rfl := Option.some.inj hr20
        refine o_keep [true, true, true, false, true, true, true] ?_
        exact K21
set_option maxRecDepth 20000 in
theorem kX12_clocks {g : GX} {p0 : Int32} {p1 : Int32} {s : ST} {q : Int32 × ST} (hf : fX12_clocks p0 p1 s = some q) : Cn g mdX12_clocks [.ref 0, .int p0, .int p1] (mW s) (some (.int q.1)) (mW q.2) := by
  refine Cn.of (by decide) (Nat.le_of_ble_eq_true rfl) ?_
  show Rn g mdX12_clocks 0 [some (.ref 0), some (.int p0), some (.int p1), none, none, none, none] [] (mW s) 0 0 (some (.int q.1)) (mW q.2)
  unfold fX12_clocks at hf
  refine o_aload_n (pc := 0) dX12_clocks_0 rfl ?_
  obtain ⟨q2, hk1, hf⟩ := bd_elim hf
  refine m_callV (pc := 1) [] dX12_clocks_1 (kX12_isTown hk1) stX12_485 ⟨by decide, by decide, by decide, by decide⟩ ⟨rfl, rfl⟩ (Nat.le_of_ble_eq_true rfl) ?_
  show Rn g mdX12_clocks 4 [some (.ref 0), some (.int p0), some (.int p1), none, none, none, none] [.int q2] (mW s) 0 0 (some (.int q.1)) (mW q.2)
  obtain ⟨b3, hr4, hf⟩ := bd_elim hf
  have KB5 : (b3 = true → Rn g mdX12_clocks 29 [some (.ref 0), some (.int p0), some (.int p1), none, none, none, none] [] (mW s) 0 0 (some (.int q.1)) (mW q.2)) ∧ (¬ b3 = true → Rn g mdX12_clocks 32 [some (.ref 0), some (.int p0), some (.int p1), none, none, none, none] [] (mW s) 0 0 (some (.int q.1)) (mW q.2)) := by
    refine ⟨fun hc => ?_, fun hc => ?_⟩
    · have hf := it_t hf hc
      refine o_bipush (pc := 29) (v := (-2)) dX12_clocks_29 rfl ?_
      obtain rfl := Option.some.inj hf
      exact o_ireturn (pc := 31) dX12_clocks_31 rfl (Nat.zero_le _) (Nat.zero_le _)
    · have hf := it_f hf hc
      refine o_aload_n (pc := 32) dX12_clocks_32 rfl ?_
      obtain ⟨q11, hk10, hf⟩ := bd_elim hf
      refine m_callV (pc := 33) [] dX12_clocks_33 (kX12_keepsAll hk10) stX12_522 ⟨by decide, by decide, by decide, by decide⟩ ⟨rfl, rfl⟩ (Nat.le_of_ble_eq_true rfl) ?_
      show Rn g mdX12_clocks 36 [some (.ref 0), some (.int p0), some (.int p1), none, none, none, none] [] (mW q11) 0 0 (some (.int q.1)) (mW q.2)
      refine o_iconst (pc := 36) (v := (-1)) dX12_clocks_36 rfl ?_
      refine o_istore_n (pc := 37) dX12_clocks_37 (by decide) rfl ?_
      show Rn g mdX12_clocks 38 [some (.ref 0), some (.int p0), some (.int p1), some (.int (-1)), none, none, none] [] (mW q11) 0 0 (some (.int q.1)) (mW q.2)
      refine o_aload_n (pc := 38) dX12_clocks_38 rfl ?_
      refine o_iload_n (pc := 39) dX12_clocks_39 rfl ?_
      obtain ⟨q13, hk12, hf⟩ := bd_elim hf
      refine m_callV (pc := 40) [.int p0] dX12_clocks_40 (kX12_costsOf hk12) stX12_530 ⟨by decide, by decide, by decide, by decide⟩ ⟨rfl, rfl⟩ (Nat.le_of_ble_eq_true rfl) ?_
      show Rn g mdX12_clocks 43 [some (.ref 0), some (.int p0), some (.int p1), some (.int (-1)), none, none, none] [.int q13.1] (mW q13.2) 0 0 (some (.int q.1)) (mW q.2)
      refine o_istore (pc := 43) dX12_clocks_43 (by decide) rfl ?_
      show Rn g mdX12_clocks 45 [some (.ref 0), some (.int p0), some (.int p1), some (.int (-1)), some (.int q13.1), none, none] [] (mW q13.2) 0 0 (some (.int q.1)) (mW q.2)
      refine o_iconst (pc := 45) (v := 0) dX12_clocks_45 rfl ?_
      refine o_istore (pc := 46) dX12_clocks_46 (by decide) rfl ?_
      show Rn g mdX12_clocks 48 [some (.ref 0), some (.int p0), some (.int p1), some (.int (-1)), some (.int q13.1), some (.int 0), none] [] (mW q13.2) 0 0 (some (.int q.1)) (mW q.2)
      obtain ⟨w26, hl27, hf⟩ := bd_elim hf
      have K28 : Rn g mdX12_clocks 110 [none, none, some (.int p1), some (.int w26.1), some (.int w26.2.1), none, none] [] (mW w26.2.2.2) 0 0 (some (.int q.1)) (mW q.2) := by
        refine o_iload_n (pc := 110) dX12_clocks_110 rfl ?_
        obtain ⟨w29, hr30, hf⟩ := bd_elim hf
        have K31 : Rn g mdX12_clocks 120 [none, none, none, none, none, none, none] [.int w29] (mW w26.2.2.2) 0 0 (some (.int q.1)) (mW q.2) := by
          obtain rfl := Option.some.inj hf
          exact o_ireturn (pc := 120) dX12_clocks_120 rfl (Nat.zero_le _) (Nat.zero_le _)
        clear hf
        refine o_if_ne (pc := 111) 118 dX12_clocks_111 rfl (fun hc => ?_) (fun hc => ?_)
        · have hr30 := it_f hr30 hc
          refine o_iload (pc := 118) dX12_clocks_118 rfl ?_
          obtain rfl := Option.some.inj hr30
          refine o_keep [false, false, false, false, false, false, false] ?_
          exact K31
        · have hr30 := it_t hr30 hc
          refine o_iload_n (pc := 114) dX12_clocks_114 rfl ?_
          refine o_goto (pc := 115) 120 dX12_clocks_115 rfl ?_
          obtain rfl := Option.some.inj hr30
          refine o_keep [false, false, false, false, false, false, false] ?_
          exact K31
      exact kX12_clocks_L48 _ _ _ _ _ _ _ hl27 K28
  clear hf
  refine o_if_eq (pc := 4) 29 dX12_clocks_4 rfl (fun hc => ?_) (fun hc => ?_)
  · have hr4 := it_t hr4 hc
    obtain rfl := Option.some.inj hr4
    exact KB5.1 rfl
  · have hr4 := it_f hr4 hc
    refine o_iload_n (pc := 7) dX12_clocks_7 rfl ?_
    refine o_i2l (pc := 8) dX12_clocks_8 ?_
    refine o_lconst (pc := 9) (v := 1) dX12_clocks_9 rfl ?_
    refine o_ldc2 (pc := 10) dX12_clocks_10 lcX12_498 ?_
    obtain ⟨q7, hk6, hr4⟩ := bd_elim hr4
    refine m_callS (pc := 13) [.long p0.toInt64, .long 1, .long 20] dX12_clocks_13 (kX12_in hk6) stX12_191 ⟨by decide, by decide, by decide, by decide⟩ ⟨rfl, rfl⟩ (Nat.le_of_ble_eq_true rfl) ?_
    show Rn g mdX12_clocks 16 [some (.ref 0), some (.int p0), some (.int p1), none, none, none, none] [.int q7] (mW s) 0 0 (some (.int q.1)) (mW q.2)
    refine o_if_eq (pc := 16) 29 dX12_clocks_16 rfl (fun hc => ?_) (fun hc => ?_)
    · have hr4 := it_t hr4 hc
      obtain rfl := Option.some.inj hr4
      exact KB5.1 rfl
    · have hr4 := it_f hr4 hc
      refine o_iload_n (pc := 19) dX12_clocks_19 rfl ?_
      refine o_i2l (pc := 20) dX12_clocks_20 ?_
      refine o_lconst (pc := 21) (v := 0) dX12_clocks_21 rfl ?_
      refine o_lconst (pc := 22) (v := 1) dX12_clocks_22 rfl ?_
      obtain ⟨q9, hk8, hr4⟩ := bd_elim hr4
      refine m_callS (pc := 23) [.long p1.toInt64, .long 0, .long 1] dX12_clocks_23 (kX12_in hk8) stX12_191 ⟨by decide, by decide, by decide, by decide⟩ ⟨rfl, rfl⟩ (Nat.le_of_ble_eq_true rfl) ?_
      show Rn g mdX12_clocks 26 [some (.ref 0), some (.int p0), some (.int p1), none, none, none, none] [.int q9] (mW s) 0 0 (some (.int q.1)) (mW q.2)
      refine o_if_ne (pc := 26) 32 dX12_clocks_26 rfl (fun hc => ?_) (fun hc => ?_)
      · have hr4 := it_f hr4 hc
        obtain rfl := Option.some.inj hr4
        exact KB5.2 (by decide)
      · have hr4 := it_t hr4 hc
        obtain rfl := Option.some.inj hr4
        exact KB5.1 rfl
def fX12_pardon_L53 (a1 : Int32) (a2 : Int32) : Nat → Int32 → Int32 → Int32 → ST → Option (Int32 × Int32 × Int32 × ST)
  | 0, _, _, _, _ => none
  | n + 1, x3, x4, x5, s => ck (inb 3 13) (if (gi s 1 (ix 3)) ≤ x5 then some (x3, x4, x5, s) else ck (inb 8 13) ((fX12_has (gi s 1 (ix 8)) x5 s).bind (fun q18 => (if q18 = 0 then ck (inb 8 13) (ck (inb 8 13) (lt (si s 1 (ix 8) ((gi s 1 (ix 8)) ||| (1 <<< (x5 &&& 31)))) (fun s24 => (fX12_costsOf a1 s24).bind (fun q26 => (if x4 ≤ (gi q26.2 0 70) then some x3 else some x5 : Option (Int32)).bind (fun w27 => (if x4 ≤ (gi q26.2 0 70) then some x4 else some (gi q26.2 0 70) : Option (Int32)).bind (fun w30 => some (w27, w30, q26.2))))))) else some (x3, x4, s) : Option (Int32 × Int32 × ST)).bind (fun w19 => lt (x5 + 1) (fun v33 => fX12_pardon_L53 a1 a2 n w19.1 w19.2.1 v33 w19.2.2)))))
def fX12_pardon (p0 : Int32) (p1 : Int32) (s : ST) : Option (Int32 × ST) :=
  (fX12_isTown s).bind (fun q2 => (if q2 = 0 then some true else (fX12_in p0.toInt64 1 20 s).bind (fun q7 => if q7 = 0 then some true else (fX12_in p1.toInt64 0 1 s).bind (fun q9 => if q9 = 0 then some true else some false)) : Option Bool).bind (fun b3 => if b3 = true then some ((-2), s) else (fX12_keepsAll s).bind (fun q11 => (fX12_costsOf p0 q11).bind (fun q13 => lt (gi q13.2 0 70 : Int32) (fun v14 => (fX12_pardon_L53 p0 p1 FUEL (-1) v14 0 q13.2).bind (fun w34 => (if p1 = 0 then some w34.1 else some w34.2.1 : Option (Int32)).bind (fun w37 => some (w37, w34.2.2.2))))))))
set_option maxRecDepth 20000 in
theorem kX12_pardon_L53 {g : GX} (a1 : Int32) (a2 : Int32) {r : Option Value} {h2 : PH} : ∀ (n : Nat) (x3 : Int32) (x4 : Int32) (x5 : Int32) (s : ST) {w : Int32 × Int32 × Int32 × ST}, fX12_pardon_L53 a1 a2 n x3 x4 x5 s = some w → Rn g mdX12_pardon 141 [none, none, some (.int a2), some (.int w.1), some (.int w.2.1), none] [] (mW w.2.2.2) 0 0 r h2 → Rn g mdX12_pardon 53 [some (.ref 0), some (.int a1), some (.int a2), some (.int x3), some (.int x4), some (.int x5)] [] (mW s) 0 0 r h2 := by
  intro n
  induction n with
  | zero => intro x3 x4 x5 s w hf K; cases hf
  | succ n ih =>
    intro x3 x4 x5 s w hf K
    rw [fX12_pardon_L53] at hf
    refine o_iload (pc := 53) dX12_pardon_53 rfl ?_
    refine o_aload_n (pc := 55) dX12_pardon_55 rfl ?_
    refine m_getA (pc := 56) 1 1 (by decide) rfl rfl lkX12_9 dX12_pardon_56 ?_
    refine o_iconst (pc := 59) (v := 3) dX12_pardon_59 rfl ?_
    obtain ⟨hk15, hf⟩ := ck_elim hf
    refine m_iald (pc := 60) (by decide) rfl hk15 dX12_pardon_60 ?_
    refine o_icmp_ge (pc := 61) 141 dX12_pardon_61 rfl (fun hc => ?_) (fun hc => ?_)
    · have hf := it_t hf hc
      obtain rfl := Option.some.inj hf
      refine o_keep [false, false, true, true, true, false] ?_
      exact K
    · have hf := it_f hf hc
      refine o_aload_n (pc := 64) dX12_pardon_64 rfl ?_
      refine m_getA (pc := 65) 1 1 (by decide) rfl rfl lkX12_9 dX12_pardon_65 ?_
      refine o_bipush (pc := 68) (v := 8) dX12_pardon_68 rfl ?_
      obtain ⟨hk16, hf⟩ := ck_elim hf
      refine m_iald (pc := 70) (by decide) rfl hk16 dX12_pardon_70 ?_
      refine o_iload (pc := 71) dX12_pardon_71 rfl ?_
      obtain ⟨q18, hk17, hf⟩ := bd_elim hf
      refine m_callS (pc := 73) [.int (gi s 1 (ix 8)), .int x5] dX12_pardon_73 (kX12_has hk17) stX12_403 ⟨by decide, by decide, by decide, by decide⟩ ⟨rfl, rfl⟩ (Nat.le_of_ble_eq_true rfl) ?_
      show Rn g mdX12_pardon 76 [some (.ref 0), some (.int a1), some (.int a2), some (.int x3), some (.int x4), some (.int x5)] [.int q18] (mW s) 0 0 r h2
      obtain ⟨w19, hr20, hf⟩ := bd_elim hf
      have K21 : Rn g mdX12_pardon 135 [some (.ref 0), some (.int a1), some (.int a2), some (.int w19.1), some (.int w19.2.1), some (.int x5)] [] (mW w19.2.2) 0 0 r h2 := by
        refine o_iinc (pc := 135) dX12_pardon_135 rfl (by decide) rfl ?_
        show Rn g mdX12_pardon 138 [some (.ref 0), some (.int a1), some (.int a2), some (.int w19.1), some (.int w19.2.1), some (.int (x5 + 1))] [] (mW w19.2.2) 0 0 r h2
        obtain ⟨v33, ev33, hf⟩ := lt_elim hf
        rw [ev33]
        show Rn g mdX12_pardon 138 [some (.ref 0), some (.int a1), some (.int a2), some (.int w19.1), some (.int w19.2.1), some (.int v33)] [] (mW w19.2.2) 0 0 r h2
        refine o_goto (pc := 138) 53 dX12_pardon_138 rfl ?_
        exact ih _ _ _ _ hf K
      clear hf
      refine o_if_ne (pc := 76) 135 dX12_pardon_76 rfl (fun hc => ?_) (fun hc => ?_)
      · have hr20 := it_f hr20 hc
        obtain rfl := Option.some.inj hr20
        exact K21
      · have hr20 := it_t hr20 hc
        refine o_aload_n (pc := 79) dX12_pardon_79 rfl ?_
        refine m_getA (pc := 80) 1 1 (by decide) rfl rfl lkX12_9 dX12_pardon_80 ?_
        refine o_bipush (pc := 83) (v := 8) dX12_pardon_83 rfl ?_
        refine o_dup2 (pc := 85) dX12_pardon_85 rfl rfl ?_
        obtain ⟨hk22, hr20⟩ := ck_elim hr20
        refine m_iald (pc := 86) (by decide) rfl hk22 dX12_pardon_86 ?_
        refine o_iconst (pc := 87) (v := 1) dX12_pardon_87 rfl ?_
        refine o_iload (pc := 88) dX12_pardon_88 rfl ?_
        refine o_ishl (pc := 90) dX12_pardon_90 ?_
        refine o_ior (pc := 91) dX12_pardon_91 ?_
        obtain ⟨hk23, hr20⟩ := ck_elim hr20
        refine m_iast (pc := 92) (by decide) rfl hk23 dX12_pardon_92 ?_
        refine lz_s (mW) hr20 (fun s24 hr20 => ?_)
        show Rn g mdX12_pardon 93 [some (.ref 0), some (.int a1), some (.int a2), some (.int x3), some (.int x4), some (.int x5)] [] (mW s24) 0 0 r h2
        refine o_aload_n (pc := 93) dX12_pardon_93 rfl ?_
        refine o_iload_n (pc := 94) dX12_pardon_94 rfl ?_
        obtain ⟨q26, hk25, hr20⟩ := bd_elim hr20
        refine m_callV (pc := 95) [.int a1] dX12_pardon_95 (kX12_costsOf hk25) stX12_530 ⟨by decide, by decide, by decide, by decide⟩ ⟨rfl, rfl⟩ (Nat.le_of_ble_eq_true rfl) ?_
        show Rn g mdX12_pardon 98 [some (.ref 0), some (.int a1), some (.int a2), some (.int x3), some (.int x4), some (.int x5)] [.int q26.1] (mW q26.2) 0 0 r h2
        refine o_pop (pc := 98) dX12_pardon_98 rfl ?_
        refine o_aload_n (pc := 99) dX12_pardon_99 rfl ?_
        refine m_getI (pc := 100) 70 (by decide) rfl lkX12_506 dX12_pardon_100 ?_
        refine o_iload (pc := 103) dX12_pardon_103 rfl ?_
        obtain ⟨w27, hr28, hr20⟩ := bd_elim hr20
        have K29 : Rn g mdX12_pardon 114 [some (.ref 0), some (.int a1), some (.int a2), none, some (.int x4), some (.int x5)] [.int w27] (mW q26.2) 0 0 r h2 := by
          refine o_istore_n (pc := 114) dX12_pardon_114 (by decide) rfl ?_
          show Rn g mdX12_pardon 115 [some (.ref 0), some (.int a1), some (.int a2), some (.int w27), some (.int x4), some (.int x5)] [] (mW q26.2) 0 0 r h2
          refine o_aload_n (pc := 115) dX12_pardon_115 rfl ?_
          refine m_getI (pc := 116) 70 (by decide) rfl lkX12_506 dX12_pardon_116 ?_
          refine o_iload (pc := 119) dX12_pardon_119 rfl ?_
          obtain ⟨w30, hr31, hr20⟩ := bd_elim hr20
          have K32 : Rn g mdX12_pardon 133 [some (.ref 0), some (.int a1), some (.int a2), some (.int w27), none, some (.int x5)] [.int w30] (mW q26.2) 0 0 r h2 := by
            refine o_istore (pc := 133) dX12_pardon_133 (by decide) rfl ?_
            show Rn g mdX12_pardon 135 [some (.ref 0), some (.int a1), some (.int a2), some (.int w27), some (.int w30), some (.int x5)] [] (mW q26.2) 0 0 r h2
            obtain rfl := Option.some.inj hr20
            exact K21
          clear hr20
          refine o_icmp_ge (pc := 121) 131 dX12_pardon_121 rfl (fun hc => ?_) (fun hc => ?_)
          · have hr31 := it_t hr31 hc
            refine o_iload (pc := 131) dX12_pardon_131 rfl ?_
            obtain rfl := Option.some.inj hr31
            refine o_keep [true, true, true, true, false, true] ?_
            exact K32
          · have hr31 := it_f hr31 hc
            refine o_aload_n (pc := 124) dX12_pardon_124 rfl ?_
            refine m_getI (pc := 125) 70 (by decide) rfl lkX12_506 dX12_pardon_125 ?_
            refine o_goto (pc := 128) 133 dX12_pardon_128 rfl ?_
            obtain rfl := Option.some.inj hr31
            refine o_keep [true, true, true, true, false, true] ?_
            exact K32
        clear hr20
        refine o_icmp_ge (pc := 105) 113 dX12_pardon_105 rfl (fun hc => ?_) (fun hc => ?_)
        · have hr28 := it_t hr28 hc
          refine o_iload_n (pc := 113) dX12_pardon_113 rfl ?_
          obtain rfl := Option.some.inj hr28
          refine o_keep [true, true, true, false, true, true] ?_
          exact K29
        · have hr28 := it_f hr28 hc
          refine o_iload (pc := 108) dX12_pardon_108 rfl ?_
          refine o_goto (pc := 110) 114 dX12_pardon_110 rfl ?_
          obtain rfl := Option.some.inj hr28
          refine o_keep [true, true, true, false, true, true] ?_
          exact K29
set_option maxRecDepth 20000 in
theorem kX12_pardon {g : GX} {p0 : Int32} {p1 : Int32} {s : ST} {q : Int32 × ST} (hf : fX12_pardon p0 p1 s = some q) : Cn g mdX12_pardon [.ref 0, .int p0, .int p1] (mW s) (some (.int q.1)) (mW q.2) := by
  refine Cn.of (by decide) (Nat.le_of_ble_eq_true rfl) ?_
  show Rn g mdX12_pardon 0 [some (.ref 0), some (.int p0), some (.int p1), none, none, none] [] (mW s) 0 0 (some (.int q.1)) (mW q.2)
  unfold fX12_pardon at hf
  refine o_aload_n (pc := 0) dX12_pardon_0 rfl ?_
  obtain ⟨q2, hk1, hf⟩ := bd_elim hf
  refine m_callV (pc := 1) [] dX12_pardon_1 (kX12_isTown hk1) stX12_485 ⟨by decide, by decide, by decide, by decide⟩ ⟨rfl, rfl⟩ (Nat.le_of_ble_eq_true rfl) ?_
  show Rn g mdX12_pardon 4 [some (.ref 0), some (.int p0), some (.int p1), none, none, none] [.int q2] (mW s) 0 0 (some (.int q.1)) (mW q.2)
  obtain ⟨b3, hr4, hf⟩ := bd_elim hf
  have KB5 : (b3 = true → Rn g mdX12_pardon 29 [some (.ref 0), some (.int p0), some (.int p1), none, none, none] [] (mW s) 0 0 (some (.int q.1)) (mW q.2)) ∧ (¬ b3 = true → Rn g mdX12_pardon 32 [some (.ref 0), some (.int p0), some (.int p1), none, none, none] [] (mW s) 0 0 (some (.int q.1)) (mW q.2)) := by
    refine ⟨fun hc => ?_, fun hc => ?_⟩
    · have hf := it_t hf hc
      refine o_bipush (pc := 29) (v := (-2)) dX12_pardon_29 rfl ?_
      obtain rfl := Option.some.inj hf
      exact o_ireturn (pc := 31) dX12_pardon_31 rfl (Nat.zero_le _) (Nat.zero_le _)
    · have hf := it_f hf hc
      refine o_aload_n (pc := 32) dX12_pardon_32 rfl ?_
      obtain ⟨q11, hk10, hf⟩ := bd_elim hf
      refine m_callV (pc := 33) [] dX12_pardon_33 (kX12_keepsAll hk10) stX12_522 ⟨by decide, by decide, by decide, by decide⟩ ⟨rfl, rfl⟩ (Nat.le_of_ble_eq_true rfl) ?_
      show Rn g mdX12_pardon 36 [some (.ref 0), some (.int p0), some (.int p1), none, none, none] [] (mW q11) 0 0 (some (.int q.1)) (mW q.2)
      refine o_aload_n (pc := 36) dX12_pardon_36 rfl ?_
      refine o_iload_n (pc := 37) dX12_pardon_37 rfl ?_
      obtain ⟨q13, hk12, hf⟩ := bd_elim hf
      refine m_callV (pc := 38) [.int p0] dX12_pardon_38 (kX12_costsOf hk12) stX12_530 ⟨by decide, by decide, by decide, by decide⟩ ⟨rfl, rfl⟩ (Nat.le_of_ble_eq_true rfl) ?_
      show Rn g mdX12_pardon 41 [some (.ref 0), some (.int p0), some (.int p1), none, none, none] [.int q13.1] (mW q13.2) 0 0 (some (.int q.1)) (mW q.2)
      refine o_pop (pc := 41) dX12_pardon_41 rfl ?_
      refine o_iconst (pc := 42) (v := (-1)) dX12_pardon_42 rfl ?_
      refine o_istore_n (pc := 43) dX12_pardon_43 (by decide) rfl ?_
      show Rn g mdX12_pardon 44 [some (.ref 0), some (.int p0), some (.int p1), some (.int (-1)), none, none] [] (mW q13.2) 0 0 (some (.int q.1)) (mW q.2)
      refine o_aload_n (pc := 44) dX12_pardon_44 rfl ?_
      refine m_getI (pc := 45) 70 (by decide) rfl lkX12_506 dX12_pardon_45 ?_
      refine lz_i hf (fun v14 hf => ?_)
      refine o_istore (pc := 48) dX12_pardon_48 (by decide) rfl ?_
      show Rn g mdX12_pardon 50 [some (.ref 0), some (.int p0), some (.int p1), some (.int (-1)), some (.int v14), none] [] (mW q13.2) 0 0 (some (.int q.1)) (mW q.2)
      refine o_iconst (pc := 50) (v := 0) dX12_pardon_50 rfl ?_
      refine o_istore (pc := 51) dX12_pardon_51 (by decide) rfl ?_
      show Rn g mdX12_pardon 53 [some (.ref 0), some (.int p0), some (.int p1), some (.int (-1)), some (.int v14), some (.int 0)] [] (mW q13.2) 0 0 (some (.int q.1)) (mW q.2)
      obtain ⟨w34, hl35, hf⟩ := bd_elim hf
      have K36 : Rn g mdX12_pardon 141 [none, none, some (.int p1), some (.int w34.1), some (.int w34.2.1), none] [] (mW w34.2.2.2) 0 0 (some (.int q.1)) (mW q.2) := by
        refine o_iload_n (pc := 141) dX12_pardon_141 rfl ?_
        obtain ⟨w37, hr38, hf⟩ := bd_elim hf
        have K39 : Rn g mdX12_pardon 151 [none, none, none, none, none, none] [.int w37] (mW w34.2.2.2) 0 0 (some (.int q.1)) (mW q.2) := by
          obtain rfl := Option.some.inj hf
          exact o_ireturn (pc := 151) dX12_pardon_151 rfl (Nat.zero_le _) (Nat.zero_le _)
        clear hf
        refine o_if_ne (pc := 142) 149 dX12_pardon_142 rfl (fun hc => ?_) (fun hc => ?_)
        · have hr38 := it_f hr38 hc
          refine o_iload (pc := 149) dX12_pardon_149 rfl ?_
          obtain rfl := Option.some.inj hr38
          refine o_keep [false, false, false, false, false, false] ?_
          exact K39
        · have hr38 := it_t hr38 hc
          refine o_iload_n (pc := 145) dX12_pardon_145 rfl ?_
          refine o_goto (pc := 146) 151 dX12_pardon_146 rfl ?_
          obtain rfl := Option.some.inj hr38
          refine o_keep [false, false, false, false, false, false] ?_
          exact K39
      exact kX12_pardon_L53 _ _ _ _ _ _ _ hl35 K36
  clear hf
  refine o_if_eq (pc := 4) 29 dX12_pardon_4 rfl (fun hc => ?_) (fun hc => ?_)
  · have hr4 := it_t hr4 hc
    obtain rfl := Option.some.inj hr4
    exact KB5.1 rfl
  · have hr4 := it_f hr4 hc
    refine o_iload_n (pc := 7) dX12_pardon_7 rfl ?_
    refine o_i2l (pc := 8) dX12_pardon_8 ?_
    refine o_lconst (pc := 9) (v := 1) dX12_pardon_9 rfl ?_
    refine o_ldc2 (pc := 10) dX12_pardon_10 lcX12_498 ?_
    obtain ⟨q7, hk6, hr4⟩ := bd_elim hr4
    refine m_callS (pc := 13) [.long p0.toInt64, .long 1, .long 20] dX12_pardon_13 (kX12_in hk6) stX12_191 ⟨by decide, by decide, by decide, by decide⟩ ⟨rfl, rfl⟩ (Nat.le_of_ble_eq_true rfl) ?_
    show Rn g mdX12_pardon 16 [some (.ref 0), some (.int p0), some (.int p1), none, none, none] [.int q7] (mW s) 0 0 (some (.int q.1)) (mW q.2)
    refine o_if_eq (pc := 16) 29 dX12_pardon_16 rfl (fun hc => ?_) (fun hc => ?_)
    · have hr4 := it_t hr4 hc
      obtain rfl := Option.some.inj hr4
      exact KB5.1 rfl
    · have hr4 := it_f hr4 hc
      refine o_iload_n (pc := 19) dX12_pardon_19 rfl ?_
      refine o_i2l (pc := 20) dX12_pardon_20 ?_
      refine o_lconst (pc := 21) (v := 0) dX12_pardon_21 rfl ?_
      refine o_lconst (pc := 22) (v := 1) dX12_pardon_22 rfl ?_
      obtain ⟨q9, hk8, hr4⟩ := bd_elim hr4
      refine m_callS (pc := 23) [.long p1.toInt64, .long 0, .long 1] dX12_pardon_23 (kX12_in hk8) stX12_191 ⟨by decide, by decide, by decide, by decide⟩ ⟨rfl, rfl⟩ (Nat.le_of_ble_eq_true rfl) ?_
      show Rn g mdX12_pardon 26 [some (.ref 0), some (.int p0), some (.int p1), none, none, none] [.int q9] (mW s) 0 0 (some (.int q.1)) (mW q.2)
      refine o_if_ne (pc := 26) 32 dX12_pardon_26 rfl (fun hc => ?_) (fun hc => ?_)
      · have hr4 := it_f hr4 hc
        obtain rfl := Option.some.inj hr4
        exact KB5.2 (by decide)
      · have hr4 := it_t hr4 hc
        obtain rfl := Option.some.inj hr4
        exact KB5.1 rfl
def fX12_log (p0 : Int32) (p1 : Int32) (p2 : Int32) (s : ST) : Option (Int32 × ST) :=
  if p0 = (-1) then ck (inb 10 13) (lt (si s 1 (ix 10) 0) (fun s22 => some (0, s22))) else ck (inb 10 13) (lt (gi s 1 (ix 10) : Int32) (fun v2 => (fX12_in p0.toInt64 0 30 s).bind (fun q4 => (if q4 = 0 then some true else (fX12_isPerson p1 s).bind (fun q9 => if q9 = 0 then some true else (fX12_in p2.toInt64 (-100) 1000 s).bind (fun q11 => if q11 = 0 then some true else if v2 = 10 then some true else some false)) : Option Bool).bind (fun b5 => if b5 = true then some ((-2), s) else ck (inb v2 10) (lt (si s 13 (ix v2) p0) (fun s13 => ck (inb v2 10) (lt (si s13 14 (ix v2) p1) (fun s15 => ck (inb v2 10) (lt (si s15 15 (ix v2) p2) (fun s17 => ck (inb 10 13) (ck (inb 10 13) (lt (si s17 1 (ix 10) ((gi s17 1 (ix 10)) + 1)) (fun s20 => some (v2 + 1, s20))))))))))))))
set_option maxRecDepth 20000 in
theorem kX12_log {g : GX} {p0 : Int32} {p1 : Int32} {p2 : Int32} {s : ST} {q : Int32 × ST} (hf : fX12_log p0 p1 p2 s = some q) : Cn g mdX12_log [.ref 0, .int p0, .int p1, .int p2] (mW s) (some (.int q.1)) (mW q.2) := by
  refine Cn.of (by decide) (Nat.le_of_ble_eq_true rfl) ?_
  show Rn g mdX12_log 0 [some (.ref 0), some (.int p0), some (.int p1), some (.int p2), none] [] (mW s) 0 0 (some (.int q.1)) (mW q.2)
  unfold fX12_log at hf
  refine o_iload_n (pc := 0) dX12_log_0 rfl ?_
  refine o_iconst (pc := 1) (v := (-1)) dX12_log_1 rfl ?_
  refine o_icmp_ne (pc := 2) 15 dX12_log_2 rfl (fun hc => ?_) (fun hc => ?_)
  · have hf := it_f hf hc
    refine o_aload_n (pc := 15) dX12_log_15 rfl ?_
    refine m_getA (pc := 16) 1 1 (by decide) rfl rfl lkX12_9 dX12_log_16 ?_
    refine o_bipush (pc := 19) (v := 10) dX12_log_19 rfl ?_
    obtain ⟨hk1, hf⟩ := ck_elim hf
    refine m_iald (pc := 21) (by decide) rfl hk1 dX12_log_21 ?_
    refine lz_i hf (fun v2 hf => ?_)
    refine o_istore (pc := 22) dX12_log_22 (by decide) rfl ?_
    show Rn g mdX12_log 24 [some (.ref 0), some (.int p0), some (.int p1), some (.int p2), some (.int v2)] [] (mW s) 0 0 (some (.int q.1)) (mW q.2)
    refine o_iload_n (pc := 24) dX12_log_24 rfl ?_
    refine o_i2l (pc := 25) dX12_log_25 ?_
    refine o_lconst (pc := 26) (v := 0) dX12_log_26 rfl ?_
    refine o_ldc2 (pc := 27) dX12_log_27 lcX12_542 ?_
    obtain ⟨q4, hk3, hf⟩ := bd_elim hf
    refine m_callS (pc := 30) [.long p0.toInt64, .long 0, .long 30] dX12_log_30 (kX12_in hk3) stX12_191 ⟨by decide, by decide, by decide, by decide⟩ ⟨rfl, rfl⟩ (Nat.le_of_ble_eq_true rfl) ?_
    show Rn g mdX12_log 33 [some (.ref 0), some (.int p0), some (.int p1), some (.int p2), some (.int v2)] [.int q4] (mW s) 0 0 (some (.int q.1)) (mW q.2)
    obtain ⟨b5, hr6, hf⟩ := bd_elim hf
    have KB7 : (b5 = true → Rn g mdX12_log 65 [some (.ref 0), some (.int p0), some (.int p1), some (.int p2), some (.int v2)] [] (mW s) 0 0 (some (.int q.1)) (mW q.2)) ∧ (¬ b5 = true → Rn g mdX12_log 68 [some (.ref 0), some (.int p0), some (.int p1), some (.int p2), some (.int v2)] [] (mW s) 0 0 (some (.int q.1)) (mW q.2)) := by
      refine ⟨fun hc => ?_, fun hc => ?_⟩
      · have hf := it_t hf hc
        refine o_bipush (pc := 65) (v := (-2)) dX12_log_65 rfl ?_
        obtain rfl := Option.some.inj hf
        exact o_ireturn (pc := 67) dX12_log_67 rfl (Nat.zero_le _) (Nat.zero_le _)
      · have hf := it_f hf hc
        refine o_aload_n (pc := 68) dX12_log_68 rfl ?_
        refine m_getA (pc := 69) 13 13 (by decide) rfl rfl lkX12_46 dX12_log_69 ?_
        refine o_iload (pc := 72) dX12_log_72 rfl ?_
        refine o_iload_n (pc := 74) dX12_log_74 rfl ?_
        obtain ⟨hk12, hf⟩ := ck_elim hf
        refine m_iast (pc := 75) (by decide) rfl hk12 dX12_log_75 ?_
        refine lz_s (mW) hf (fun s13 hf => ?_)
        show Rn g mdX12_log 76 [some (.ref 0), some (.int p0), some (.int p1), some (.int p2), some (.int v2)] [] (mW s13) 0 0 (some (.int q.1)) (mW q.2)
        refine o_aload_n (pc := 76) dX12_log_76 rfl ?_
        refine m_getA (pc := 77) 14 14 (by decide) rfl rfl lkX12_49 dX12_log_77 ?_
        refine o_iload (pc := 80) dX12_log_80 rfl ?_
        refine o_iload_n (pc := 82) dX12_log_82 rfl ?_
        obtain ⟨hk14, hf⟩ := ck_elim hf
        refine m_iast (pc := 83) (by decide) rfl hk14 dX12_log_83 ?_
        refine lz_s (mW) hf (fun s15 hf => ?_)
        show Rn g mdX12_log 84 [some (.ref 0), some (.int p0), some (.int p1), some (.int p2), some (.int v2)] [] (mW s15) 0 0 (some (.int q.1)) (mW q.2)
        refine o_aload_n (pc := 84) dX12_log_84 rfl ?_
        refine m_getA (pc := 85) 15 15 (by decide) rfl rfl lkX12_52 dX12_log_85 ?_
        refine o_iload (pc := 88) dX12_log_88 rfl ?_
        refine o_iload_n (pc := 90) dX12_log_90 rfl ?_
        obtain ⟨hk16, hf⟩ := ck_elim hf
        refine m_iast (pc := 91) (by decide) rfl hk16 dX12_log_91 ?_
        refine lz_s (mW) hf (fun s17 hf => ?_)
        show Rn g mdX12_log 92 [some (.ref 0), some (.int p0), some (.int p1), some (.int p2), some (.int v2)] [] (mW s17) 0 0 (some (.int q.1)) (mW q.2)
        refine o_aload_n (pc := 92) dX12_log_92 rfl ?_
        refine m_getA (pc := 93) 1 1 (by decide) rfl rfl lkX12_9 dX12_log_93 ?_
        refine o_bipush (pc := 96) (v := 10) dX12_log_96 rfl ?_
        refine o_dup2 (pc := 98) dX12_log_98 rfl rfl ?_
        obtain ⟨hk18, hf⟩ := ck_elim hf
        refine m_iald (pc := 99) (by decide) rfl hk18 dX12_log_99 ?_
        refine o_iconst (pc := 100) (v := 1) dX12_log_100 rfl ?_
        refine o_iadd (pc := 101) dX12_log_101 ?_
        obtain ⟨hk19, hf⟩ := ck_elim hf
        refine m_iast (pc := 102) (by decide) rfl hk19 dX12_log_102 ?_
        refine lz_s (mW) hf (fun s20 hf => ?_)
        show Rn g mdX12_log 103 [some (.ref 0), some (.int p0), some (.int p1), some (.int p2), some (.int v2)] [] (mW s20) 0 0 (some (.int q.1)) (mW q.2)
        refine o_iload (pc := 103) dX12_log_103 rfl ?_
        refine o_iconst (pc := 105) (v := 1) dX12_log_105 rfl ?_
        refine o_iadd (pc := 106) dX12_log_106 ?_
        obtain rfl := Option.some.inj hf
        exact o_ireturn (pc := 107) dX12_log_107 rfl (Nat.zero_le _) (Nat.zero_le _)
    clear hf
    refine o_if_eq (pc := 33) 65 dX12_log_33 rfl (fun hc => ?_) (fun hc => ?_)
    · have hr6 := it_t hr6 hc
      obtain rfl := Option.some.inj hr6
      exact KB7.1 rfl
    · have hr6 := it_f hr6 hc
      refine o_aload_n (pc := 36) dX12_log_36 rfl ?_
      refine o_iload_n (pc := 37) dX12_log_37 rfl ?_
      obtain ⟨q9, hk8, hr6⟩ := bd_elim hr6
      refine m_callV (pc := 38) [.int p1] dX12_log_38 (kX12_isPerson hk8) stX12_458 ⟨by decide, by decide, by decide, by decide⟩ ⟨rfl, rfl⟩ (Nat.le_of_ble_eq_true rfl) ?_
      show Rn g mdX12_log 41 [some (.ref 0), some (.int p0), some (.int p1), some (.int p2), some (.int v2)] [.int q9] (mW s) 0 0 (some (.int q.1)) (mW q.2)
      refine o_if_eq (pc := 41) 65 dX12_log_41 rfl (fun hc => ?_) (fun hc => ?_)
      · have hr6 := it_t hr6 hc
        obtain rfl := Option.some.inj hr6
        exact KB7.1 rfl
      · have hr6 := it_f hr6 hc
        refine o_iload_n (pc := 44) dX12_log_44 rfl ?_
        refine o_i2l (pc := 45) dX12_log_45 ?_
        refine o_ldc2 (pc := 46) dX12_log_46 lcX12_544 ?_
        refine o_ldc2 (pc := 49) dX12_log_49 lcX12_546 ?_
        obtain ⟨q11, hk10, hr6⟩ := bd_elim hr6
        refine m_callS (pc := 52) [.long p2.toInt64, .long (-100), .long 1000] dX12_log_52 (kX12_in hk10) stX12_191 ⟨by decide, by decide, by decide, by decide⟩ ⟨rfl, rfl⟩ (Nat.le_of_ble_eq_true rfl) ?_
        show Rn g mdX12_log 55 [some (.ref 0), some (.int p0), some (.int p1), some (.int p2), some (.int v2)] [.int q11] (mW s) 0 0 (some (.int q.1)) (mW q.2)
        refine o_if_eq (pc := 55) 65 dX12_log_55 rfl (fun hc => ?_) (fun hc => ?_)
        · have hr6 := it_t hr6 hc
          obtain rfl := Option.some.inj hr6
          exact KB7.1 rfl
        · have hr6 := it_f hr6 hc
          refine o_iload (pc := 58) dX12_log_58 rfl ?_
          refine o_bipush (pc := 60) (v := 10) dX12_log_60 rfl ?_
          refine o_icmp_ne (pc := 62) 68 dX12_log_62 rfl (fun hc => ?_) (fun hc => ?_)
          · have hr6 := it_f hr6 hc
            obtain rfl := Option.some.inj hr6
            exact KB7.2 (by decide)
          · have hr6 := it_t hr6 hc
            obtain rfl := Option.some.inj hr6
            exact KB7.1 rfl
  · have hf := it_t hf hc
    refine o_aload_n (pc := 5) dX12_log_5 rfl ?_
    refine m_getA (pc := 6) 1 1 (by decide) rfl rfl lkX12_9 dX12_log_6 ?_
    refine o_bipush (pc := 9) (v := 10) dX12_log_9 rfl ?_
    refine o_iconst (pc := 11) (v := 0) dX12_log_11 rfl ?_
    obtain ⟨hk21, hf⟩ := ck_elim hf
    refine m_iast (pc := 12) (by decide) rfl hk21 dX12_log_12 ?_
    refine lz_s (mW) hf (fun s22 hf => ?_)
    show Rn g mdX12_log 13 [some (.ref 0), some (.int p0), some (.int p1), some (.int p2), none] [] (mW s22) 0 0 (some (.int q.1)) (mW q.2)
    refine o_iconst (pc := 13) (v := 0) dX12_log_13 rfl ?_
    obtain rfl := Option.some.inj hf
    exact o_ireturn (pc := 14) dX12_log_14 rfl (Nat.zero_le _) (Nat.zero_le _)
def fX12_doesFit_L63 (a1 : Int32) (a2 : Int32) (a3 : Int32) (a5 : Int32) : Nat → Int32 → Int32 → ST → Option (Int32 × Int32)
  | 0, _, _, _ => none
  | n + 1, x4, x6, s => ck (inb 10 13) (if (gi s 1 (ix 10)) ≤ x6 then some (x4, x6) else ck (inb x6 10) ((if (gi s 14 (ix x6)) = a1 then ck (inb x6 10) (if (gi s 13 (ix x6)) = a5 then ck (inb a1 5) (ck (inb x6 10) (if (gi s 4 (ix a1)) = (gi s 15 (ix x6)) then some true else some false)) else some true) else some true : Option Bool).bind (fun b14 => (if b14 = true then some 1 else some 0 : Option (Int32)).bind (fun w20 => (if x4 = 0 then some false else if w20 = 0 then some false else some true : Option Bool).bind (fun b23 => (if b23 = true then some 1 else some 0 : Option (Int32)).bind (fun w26 => lt (x6 + 1) (fun v29 => fX12_doesFit_L63 a1 a2 a3 a5 n w26 v29 s)))))))
def fX12_doesFit_L30 (a1 : Int32) (a2 : Int32) (a3 : Int32) : Nat → Int32 → Int32 → ST → Option (Int32 × Int32 × ST)
  | 0, _, _, _ => none
  | n + 1, x4, x5, s => if 30 < x5 then some (x4, x5, s) else (fX12_dayGoes s).bind (fun q8 => ck (inb a1 5) (ck (inb ((9 * x5) + a2) 279) (lt (si q8.2 52 (ix ((9 * x5) + a2)) (gi q8.2 4 (ix a1))) (fun s11 => (fX12_doesFit_L63 a1 a2 a3 x5 FUEL x4 0 s11).bind (fun w30 => lt (x5 + 1) (fun v33 => fX12_doesFit_L30 a1 a2 a3 n w30.1 v33 s11))))))
def fX12_doesFit (p0 : Int32) (p1 : Int32) (s : ST) : Option (Int32 × ST) :=
  ck (inb p0 5) (lt (gi s 2 (ix p0) : Int32) (fun v2 => ck (inb p0 5) (lt (si s 2 (ix p0) ((10 * p1) - 20)) (fun s4 => (fX12_begins s4).bind (fun q6 => (fX12_doesFit_L30 p0 p1 v2 FUEL 1 0 q6).bind (fun w34 => ck (inb p0 5) (lt (si w34.2.2 2 (ix p0) v2) (fun s38 => (fX12_laysBack s38).bind (fun q40 => ck (bz w34.1) (some (w34.1, q40)))))))))))
set_option maxRecDepth 20000 in
theorem kX12_doesFit_L63 {g : GX} (a1 : Int32) (a2 : Int32) (a3 : Int32) (a5 : Int32) (s : ST) {r : Option Value} {h2 : PH} : ∀ (n : Nat) (x4 : Int32) (x6 : Int32) {w : Int32 × Int32}, fX12_doesFit_L63 a1 a2 a3 a5 n x4 x6 s = some w → Rn g mdX12_doesFit 144 [some (.ref 0), some (.int a1), some (.int a2), some (.int a3), some (.int w.1), some (.int a5), none, none] [] (mW s) 0 0 r h2 → Rn g mdX12_doesFit 63 [some (.ref 0), some (.int a1), some (.int a2), some (.int a3), some (.int x4), some (.int a5), some (.int x6), none] [] (mW s) 0 0 r h2 := by
  intro n
  induction n with
  | zero => intro x4 x6 w hf K; cases hf
  | succ n ih =>
    intro x4 x6 w hf K
    rw [fX12_doesFit_L63] at hf
    refine o_iload (pc := 63) dX12_doesFit_63 rfl ?_
    refine o_aload_n (pc := 65) dX12_doesFit_65 rfl ?_
    refine m_getA (pc := 66) 1 1 (by decide) rfl rfl lkX12_9 dX12_doesFit_66 ?_
    refine o_bipush (pc := 69) (v := 10) dX12_doesFit_69 rfl ?_
    obtain ⟨hk12, hf⟩ := ck_elim hf
    refine m_iald (pc := 71) (by decide) rfl hk12 dX12_doesFit_71 ?_
    refine o_icmp_ge (pc := 72) 144 dX12_doesFit_72 rfl (fun hc => ?_) (fun hc => ?_)
    · have hf := it_t hf hc
      obtain rfl := Option.some.inj hf
      refine o_keep [true, true, true, true, true, true, false, false] ?_
      exact K
    · have hf := it_f hf hc
      refine o_aload_n (pc := 75) dX12_doesFit_75 rfl ?_
      refine m_getA (pc := 76) 14 14 (by decide) rfl rfl lkX12_49 dX12_doesFit_76 ?_
      refine o_iload (pc := 79) dX12_doesFit_79 rfl ?_
      obtain ⟨hk13, hf⟩ := ck_elim hf
      refine m_iald (pc := 81) (by decide) rfl hk13 dX12_doesFit_81 ?_
      refine o_iload_n (pc := 82) dX12_doesFit_82 rfl ?_
      obtain ⟨b14, hr15, hf⟩ := bd_elim hf
      obtain ⟨w20, hr21, hf⟩ := bd_elim hf
      have K22 : Rn g mdX12_doesFit 119 [some (.ref 0), some (.int a1), some (.int a2), some (.int a3), some (.int x4), some (.int a5), some (.int x6), none] [.int w20] (mW s) 0 0 r h2 := by
        refine o_istore (pc := 119) dX12_doesFit_119 (by decide) rfl ?_
        show Rn g mdX12_doesFit 121 [some (.ref 0), some (.int a1), some (.int a2), some (.int a3), some (.int x4), some (.int a5), some (.int x6), some (.int w20)] [] (mW s) 0 0 r h2
        refine o_iload (pc := 121) dX12_doesFit_121 rfl ?_
        obtain ⟨b23, hr24, hf⟩ := bd_elim hf
        obtain ⟨w26, hr27, hf⟩ := bd_elim hf
        have K28 : Rn g mdX12_doesFit 136 [some (.ref 0), some (.int a1), some (.int a2), some (.int a3), none, some (.int a5), some (.int x6), none] [.int w26] (mW s) 0 0 r h2 := by
          refine o_istore (pc := 136) dX12_doesFit_136 (by decide) rfl ?_
          show Rn g mdX12_doesFit 138 [some (.ref 0), some (.int a1), some (.int a2), some (.int a3), some (.int w26), some (.int a5), some (.int x6), none] [] (mW s) 0 0 r h2
          refine o_iinc (pc := 138) dX12_doesFit_138 rfl (by decide) rfl ?_
          show Rn g mdX12_doesFit 141 [some (.ref 0), some (.int a1), some (.int a2), some (.int a3), some (.int w26), some (.int a5), some (.int (x6 + 1)), none] [] (mW s) 0 0 r h2
          obtain ⟨v29, ev29, hf⟩ := lt_elim hf
          rw [ev29]
          show Rn g mdX12_doesFit 141 [some (.ref 0), some (.int a1), some (.int a2), some (.int a3), some (.int w26), some (.int a5), some (.int v29), none] [] (mW s) 0 0 r h2
          refine o_goto (pc := 141) 63 dX12_doesFit_141 rfl ?_
          exact ih _ _ hf K
        clear hf
        have KB25 : (b23 = true → Rn g mdX12_doesFit 131 [some (.ref 0), some (.int a1), some (.int a2), some (.int a3), some (.int x4), some (.int a5), some (.int x6), some (.int w20)] [] (mW s) 0 0 r h2) ∧ (¬ b23 = true → Rn g mdX12_doesFit 135 [some (.ref 0), some (.int a1), some (.int a2), some (.int a3), some (.int x4), some (.int a5), some (.int x6), some (.int w20)] [] (mW s) 0 0 r h2) := by
          refine ⟨fun hc => ?_, fun hc => ?_⟩
          · have hr27 := it_t hr27 hc
            refine o_iconst (pc := 131) (v := 1) dX12_doesFit_131 rfl ?_
            refine o_goto (pc := 132) 136 dX12_doesFit_132 rfl ?_
            obtain rfl := Option.some.inj hr27
            refine o_keep [true, true, true, true, false, true, true, false] ?_
            exact K28
          · have hr27 := it_f hr27 hc
            refine o_iconst (pc := 135) (v := 0) dX12_doesFit_135 rfl ?_
            obtain rfl := Option.some.inj hr27
            refine o_keep [true, true, true, true, false, true, true, false] ?_
            exact K28
        clear hr27
        refine o_if_eq (pc := 123) 135 dX12_doesFit_123 rfl (fun hc => ?_) (fun hc => ?_)
        · have hr24 := it_t hr24 hc
          obtain rfl := Option.some.inj hr24
          exact KB25.2 (by decide)
        · have hr24 := it_f hr24 hc
          refine o_iload (pc := 126) dX12_doesFit_126 rfl ?_
          refine o_if_eq (pc := 128) 135 dX12_doesFit_128 rfl (fun hc => ?_) (fun hc => ?_)
          · have hr24 := it_t hr24 hc
            obtain rfl := Option.some.inj hr24
            exact KB25.2 (by decide)
          · have hr24 := it_f hr24 hc
            obtain rfl := Option.some.inj hr24
            exact KB25.1 rfl
      clear hf
      have KB16 : (b14 = true → Rn g mdX12_doesFit 114 [some (.ref 0), some (.int a1), some (.int a2), some (.int a3), some (.int x4), some (.int a5), some (.int x6), none] [] (mW s) 0 0 r h2) ∧ (¬ b14 = true → Rn g mdX12_doesFit 118 [some (.ref 0), some (.int a1), some (.int a2), some (.int a3), some (.int x4), some (.int a5), some (.int x6), none] [] (mW s) 0 0 r h2) := by
        refine ⟨fun hc => ?_, fun hc => ?_⟩
        · have hr21 := it_t hr21 hc
          refine o_iconst (pc := 114) (v := 1) dX12_doesFit_114 rfl ?_
          refine o_goto (pc := 115) 119 dX12_doesFit_115 rfl ?_
          obtain rfl := Option.some.inj hr21
          exact K22
        · have hr21 := it_f hr21 hc
          refine o_iconst (pc := 118) (v := 0) dX12_doesFit_118 rfl ?_
          obtain rfl := Option.some.inj hr21
          exact K22
      clear hr21
      refine o_icmp_ne (pc := 83) 114 dX12_doesFit_83 rfl (fun hc => ?_) (fun hc => ?_)
      · have hr15 := it_f hr15 hc
        obtain rfl := Option.some.inj hr15
        exact KB16.1 rfl
      · have hr15 := it_t hr15 hc
        refine o_aload_n (pc := 86) dX12_doesFit_86 rfl ?_
        refine m_getA (pc := 87) 13 13 (by decide) rfl rfl lkX12_46 dX12_doesFit_87 ?_
        refine o_iload (pc := 90) dX12_doesFit_90 rfl ?_
        obtain ⟨hk17, hr15⟩ := ck_elim hr15
        refine m_iald (pc := 92) (by decide) rfl hk17 dX12_doesFit_92 ?_
        refine o_iload (pc := 93) dX12_doesFit_93 rfl ?_
        refine o_icmp_ne (pc := 95) 114 dX12_doesFit_95 rfl (fun hc => ?_) (fun hc => ?_)
        · have hr15 := it_f hr15 hc
          obtain rfl := Option.some.inj hr15
          exact KB16.1 rfl
        · have hr15 := it_t hr15 hc
          refine o_aload_n (pc := 98) dX12_doesFit_98 rfl ?_
          refine m_getA (pc := 99) 4 4 (by decide) rfl rfl lkX12_19 dX12_doesFit_99 ?_
          refine o_iload_n (pc := 102) dX12_doesFit_102 rfl ?_
          obtain ⟨hk18, hr15⟩ := ck_elim hr15
          refine m_iald (pc := 103) (by decide) rfl hk18 dX12_doesFit_103 ?_
          refine o_aload_n (pc := 104) dX12_doesFit_104 rfl ?_
          refine m_getA (pc := 105) 15 15 (by decide) rfl rfl lkX12_52 dX12_doesFit_105 ?_
          refine o_iload (pc := 108) dX12_doesFit_108 rfl ?_
          obtain ⟨hk19, hr15⟩ := ck_elim hr15
          refine m_iald (pc := 110) (by decide) rfl hk19 dX12_doesFit_110 ?_
          refine o_icmp_ne (pc := 111) 118 dX12_doesFit_111 rfl (fun hc => ?_) (fun hc => ?_)
          · have hr15 := it_f hr15 hc
            obtain rfl := Option.some.inj hr15
            exact KB16.2 (by decide)
          · have hr15 := it_t hr15 hc
            obtain rfl := Option.some.inj hr15
            exact KB16.1 rfl
set_option maxRecDepth 20000 in
theorem kX12_doesFit_L30 {g : GX} (a1 : Int32) (a2 : Int32) (a3 : Int32) {r : Option Value} {h2 : PH} : ∀ (n : Nat) (x4 : Int32) (x5 : Int32) (s : ST) {w : Int32 × Int32 × ST}, fX12_doesFit_L30 a1 a2 a3 n x4 x5 s = some w → Rn g mdX12_doesFit 150 [some (.ref 0), some (.int a1), none, some (.int a3), some (.int w.1), none, none, none] [] (mW w.2.2) 0 0 r h2 → Rn g mdX12_doesFit 30 [some (.ref 0), some (.int a1), some (.int a2), some (.int a3), some (.int x4), some (.int x5), none, none] [] (mW s) 0 0 r h2 := by
  intro n
  induction n with
  | zero => intro x4 x5 s w hf K; cases hf
  | succ n ih =>
    intro x4 x5 s w hf K
    rw [fX12_doesFit_L30] at hf
    refine o_iload (pc := 30) dX12_doesFit_30 rfl ?_
    refine o_bipush (pc := 32) (v := 30) dX12_doesFit_32 rfl ?_
    refine o_icmp_gt (pc := 34) 150 dX12_doesFit_34 rfl (fun hc => ?_) (fun hc => ?_)
    · have hf := it_t hf hc
      obtain rfl := Option.some.inj hf
      refine o_keep [true, true, false, true, true, false, false, false] ?_
      exact K
    · have hf := it_f hf hc
      refine o_aload_n (pc := 37) dX12_doesFit_37 rfl ?_
      obtain ⟨q8, hk7, hf⟩ := bd_elim hf
      refine m_callV (pc := 38) [] dX12_doesFit_38 (kX12_dayGoes hk7) stX12_491 ⟨by decide, by decide, by decide, by decide⟩ ⟨rfl, rfl⟩ (Nat.le_of_ble_eq_true rfl) ?_
      show Rn g mdX12_doesFit 41 [some (.ref 0), some (.int a1), some (.int a2), some (.int a3), some (.int x4), some (.int x5), none, none] [.int q8.1] (mW q8.2) 0 0 r h2
      refine o_pop (pc := 41) dX12_doesFit_41 rfl ?_
      refine o_aload_n (pc := 42) dX12_doesFit_42 rfl ?_
      refine m_getA (pc := 43) 76 52 (by decide) rfl rfl lkX12_175 dX12_doesFit_43 ?_
      refine o_bipush (pc := 46) (v := 9) dX12_doesFit_46 rfl ?_
      refine o_iload (pc := 48) dX12_doesFit_48 rfl ?_
      refine o_imul (pc := 50) dX12_doesFit_50 ?_
      refine o_iload_n (pc := 51) dX12_doesFit_51 rfl ?_
      refine o_iadd (pc := 52) dX12_doesFit_52 ?_
      refine o_aload_n (pc := 53) dX12_doesFit_53 rfl ?_
      refine m_getA (pc := 54) 4 4 (by decide) rfl rfl lkX12_19 dX12_doesFit_54 ?_
      refine o_iload_n (pc := 57) dX12_doesFit_57 rfl ?_
      obtain ⟨hk9, hf⟩ := ck_elim hf
      refine m_iald (pc := 58) (by decide) rfl hk9 dX12_doesFit_58 ?_
      obtain ⟨hk10, hf⟩ := ck_elim hf
      refine m_iast (pc := 59) (by decide) rfl hk10 dX12_doesFit_59 ?_
      refine lz_s (mW) hf (fun s11 hf => ?_)
      show Rn g mdX12_doesFit 60 [some (.ref 0), some (.int a1), some (.int a2), some (.int a3), some (.int x4), some (.int x5), none, none] [] (mW s11) 0 0 r h2
      refine o_iconst (pc := 60) (v := 0) dX12_doesFit_60 rfl ?_
      refine o_istore (pc := 61) dX12_doesFit_61 (by decide) rfl ?_
      show Rn g mdX12_doesFit 63 [some (.ref 0), some (.int a1), some (.int a2), some (.int a3), some (.int x4), some (.int x5), some (.int 0), none] [] (mW s11) 0 0 r h2
      obtain ⟨w30, hl31, hf⟩ := bd_elim hf
      have K32 : Rn g mdX12_doesFit 144 [some (.ref 0), some (.int a1), some (.int a2), some (.int a3), some (.int w30.1), some (.int x5), none, none] [] (mW s11) 0 0 r h2 := by
        refine o_iinc (pc := 144) dX12_doesFit_144 rfl (by decide) rfl ?_
        show Rn g mdX12_doesFit 147 [some (.ref 0), some (.int a1), some (.int a2), some (.int a3), some (.int w30.1), some (.int (x5 + 1)), none, none] [] (mW s11) 0 0 r h2
        obtain ⟨v33, ev33, hf⟩ := lt_elim hf
        rw [ev33]
        show Rn g mdX12_doesFit 147 [some (.ref 0), some (.int a1), some (.int a2), some (.int a3), some (.int w30.1), some (.int v33), none, none] [] (mW s11) 0 0 r h2
        refine o_goto (pc := 147) 30 dX12_doesFit_147 rfl ?_
        exact ih _ _ _ hf K
      exact kX12_doesFit_L63 _ _ _ _ _ _ _ _ hl31 K32
set_option maxRecDepth 20000 in
theorem kX12_doesFit {g : GX} {p0 : Int32} {p1 : Int32} {s : ST} {q : Int32 × ST} (hf : fX12_doesFit p0 p1 s = some q) : Cn g mdX12_doesFit [.ref 0, .int p0, .int p1] (mW s) (some (.int q.1)) (mW q.2) := by
  refine Cn.of (by decide) (Nat.le_of_ble_eq_true rfl) ?_
  show Rn g mdX12_doesFit 0 [some (.ref 0), some (.int p0), some (.int p1), none, none, none, none, none] [] (mW s) 0 0 (some (.int q.1)) (mW q.2)
  unfold fX12_doesFit at hf
  refine o_aload_n (pc := 0) dX12_doesFit_0 rfl ?_
  refine m_getA (pc := 1) 2 2 (by decide) rfl rfl lkX12_13 dX12_doesFit_1 ?_
  refine o_iload_n (pc := 4) dX12_doesFit_4 rfl ?_
  obtain ⟨hk1, hf⟩ := ck_elim hf
  refine m_iald (pc := 5) (by decide) rfl hk1 dX12_doesFit_5 ?_
  refine lz_i hf (fun v2 hf => ?_)
  refine o_istore_n (pc := 6) dX12_doesFit_6 (by decide) rfl ?_
  show Rn g mdX12_doesFit 7 [some (.ref 0), some (.int p0), some (.int p1), some (.int v2), none, none, none, none] [] (mW s) 0 0 (some (.int q.1)) (mW q.2)
  refine o_aload_n (pc := 7) dX12_doesFit_7 rfl ?_
  refine m_getA (pc := 8) 2 2 (by decide) rfl rfl lkX12_13 dX12_doesFit_8 ?_
  refine o_iload_n (pc := 11) dX12_doesFit_11 rfl ?_
  refine o_bipush (pc := 12) (v := 10) dX12_doesFit_12 rfl ?_
  refine o_iload_n (pc := 14) dX12_doesFit_14 rfl ?_
  refine o_imul (pc := 15) dX12_doesFit_15 ?_
  refine o_bipush (pc := 16) (v := 20) dX12_doesFit_16 rfl ?_
  refine o_isub (pc := 18) dX12_doesFit_18 ?_
  obtain ⟨hk3, hf⟩ := ck_elim hf
  refine m_iast (pc := 19) (by decide) rfl hk3 dX12_doesFit_19 ?_
  refine lz_s (mW) hf (fun s4 hf => ?_)
  show Rn g mdX12_doesFit 20 [some (.ref 0), some (.int p0), some (.int p1), some (.int v2), none, none, none, none] [] (mW s4) 0 0 (some (.int q.1)) (mW q.2)
  refine o_aload_n (pc := 20) dX12_doesFit_20 rfl ?_
  obtain ⟨q6, hk5, hf⟩ := bd_elim hf
  refine m_callV (pc := 21) [] dX12_doesFit_21 (kX12_begins hk5) stX12_363 ⟨by decide, by decide, by decide, by decide⟩ ⟨rfl, rfl⟩ (Nat.le_of_ble_eq_true rfl) ?_
  show Rn g mdX12_doesFit 24 [some (.ref 0), some (.int p0), some (.int p1), some (.int v2), none, none, none, none] [] (mW q6) 0 0 (some (.int q.1)) (mW q.2)
  refine o_iconst (pc := 24) (v := 1) dX12_doesFit_24 rfl ?_
  refine o_istore (pc := 25) dX12_doesFit_25 (by decide) rfl ?_
  show Rn g mdX12_doesFit 27 [some (.ref 0), some (.int p0), some (.int p1), some (.int v2), some (.int 1), none, none, none] [] (mW q6) 0 0 (some (.int q.1)) (mW q.2)
  refine o_iconst (pc := 27) (v := 0) dX12_doesFit_27 rfl ?_
  refine o_istore (pc := 28) dX12_doesFit_28 (by decide) rfl ?_
  show Rn g mdX12_doesFit 30 [some (.ref 0), some (.int p0), some (.int p1), some (.int v2), some (.int 1), some (.int 0), none, none] [] (mW q6) 0 0 (some (.int q.1)) (mW q.2)
  obtain ⟨w34, hl35, hf⟩ := bd_elim hf
  have K36 : Rn g mdX12_doesFit 150 [some (.ref 0), some (.int p0), none, some (.int v2), some (.int w34.1), none, none, none] [] (mW w34.2.2) 0 0 (some (.int q.1)) (mW q.2) := by
    refine o_aload_n (pc := 150) dX12_doesFit_150 rfl ?_
    refine m_getA (pc := 151) 2 2 (by decide) rfl rfl lkX12_13 dX12_doesFit_151 ?_
    refine o_iload_n (pc := 154) dX12_doesFit_154 rfl ?_
    refine o_iload_n (pc := 155) dX12_doesFit_155 rfl ?_
    obtain ⟨hk37, hf⟩ := ck_elim hf
    refine m_iast (pc := 156) (by decide) rfl hk37 dX12_doesFit_156 ?_
    refine lz_s (mW) hf (fun s38 hf => ?_)
    show Rn g mdX12_doesFit 157 [some (.ref 0), some (.int p0), none, some (.int v2), some (.int w34.1), none, none, none] [] (mW s38) 0 0 (some (.int q.1)) (mW q.2)
    refine o_aload_n (pc := 157) dX12_doesFit_157 rfl ?_
    obtain ⟨q40, hk39, hf⟩ := bd_elim hf
    refine m_callV (pc := 158) [] dX12_doesFit_158 (kX12_laysBack hk39) stX12_515 ⟨by decide, by decide, by decide, by decide⟩ ⟨rfl, rfl⟩ (Nat.le_of_ble_eq_true rfl) ?_
    show Rn g mdX12_doesFit 161 [some (.ref 0), some (.int p0), none, some (.int v2), some (.int w34.1), none, none, none] [] (mW q40) 0 0 (some (.int q.1)) (mW q.2)
    refine o_iload (pc := 161) dX12_doesFit_161 rfl ?_
    obtain ⟨hk41, hf⟩ := ck_elim hf
    obtain rfl := Option.some.inj hf
    exact o_zreturn (pc := 163) dX12_doesFit_163 rfl (bz_n hk41).1 (Nat.zero_le _) (Nat.zero_le _)
  exact kX12_doesFit_L30 _ _ _ _ _ _ _ hl35 K36
def fX12_habit_L35 (a1 : Int32) (a2 : Int32) : Nat → Int32 → Int32 → Int32 → ST → Option (Int32 × Int32 × Int32 × ST)
  | 0, _, _, _, _ => none
  | n + 1, x3, x4, x5, s => if 9 ≤ x5 then some (x3, x4, x5, s) else (fX12_doesFit a1 x5 s).bind (fun q11 => (if q11.1 = 0 then some (x3, x4) else (if x3 = 0 then some ((10 * x5) - 20) else some x4 : Option (Int32)).bind (fun w15 => lt (x3 + 1) (fun v18 => some (v18, w15))) : Option (Int32 × Int32)).bind (fun w12 => lt (x5 + 1) (fun v19 => fX12_habit_L35 a1 a2 n w12.1 w12.2 v19 q11.2)))
def fX12_habit (p0 : Int32) (p1 : Int32) (s : ST) : Option (Int32 × ST) :=
  (fX12_isPerson p0 s).bind (fun q2 => (if q2 = 0 then some true else (fX12_in p1.toInt64 0 1 s).bind (fun q7 => if q7 = 0 then some true else some false) : Option Bool).bind (fun b3 => if b3 = true then some ((-1000), s) else (fX12_keepsAll s).bind (fun q9 => (fX12_habit_L35 p0 p1 FUEL 0 (-100) 0 q9).bind (fun w20 => (if p1 = 0 then some w20.1 else some w20.2.1 : Option (Int32)).bind (fun w23 => some (w23, w20.2.2.2))))))
set_option maxRecDepth 20000 in
theorem kX12_habit_L35 {g : GX} (a1 : Int32) (a2 : Int32) {r : Option Value} {h2 : PH} : ∀ (n : Nat) (x3 : Int32) (x4 : Int32) (x5 : Int32) (s : ST) {w : Int32 × Int32 × Int32 × ST}, fX12_habit_L35 a1 a2 n x3 x4 x5 s = some w → Rn g mdX12_habit 80 [none, none, some (.int a2), some (.int w.1), some (.int w.2.1), none] [] (mW w.2.2.2) 0 0 r h2 → Rn g mdX12_habit 35 [some (.ref 0), some (.int a1), some (.int a2), some (.int x3), some (.int x4), some (.int x5)] [] (mW s) 0 0 r h2 := by
  intro n
  induction n with
  | zero => intro x3 x4 x5 s w hf K; cases hf
  | succ n ih =>
    intro x3 x4 x5 s w hf K
    rw [fX12_habit_L35] at hf
    refine o_iload (pc := 35) dX12_habit_35 rfl ?_
    refine o_bipush (pc := 37) (v := 9) dX12_habit_37 rfl ?_
    refine o_icmp_ge (pc := 39) 80 dX12_habit_39 rfl (fun hc => ?_) (fun hc => ?_)
    · have hf := it_t hf hc
      obtain rfl := Option.some.inj hf
      refine o_keep [false, false, true, true, true, false] ?_
      exact K
    · have hf := it_f hf hc
      refine o_aload_n (pc := 42) dX12_habit_42 rfl ?_
      refine o_iload_n (pc := 43) dX12_habit_43 rfl ?_
      refine o_iload (pc := 44) dX12_habit_44 rfl ?_
      obtain ⟨q11, hk10, hf⟩ := bd_elim hf
      refine m_callV (pc := 46) [.int a1, .int x5] dX12_habit_46 (kX12_doesFit hk10) stX12_548 ⟨by decide, by decide, by decide, by decide⟩ ⟨rfl, rfl⟩ (Nat.le_of_ble_eq_true rfl) ?_
      show Rn g mdX12_habit 49 [some (.ref 0), some (.int a1), some (.int a2), some (.int x3), some (.int x4), some (.int x5)] [.int q11.1] (mW q11.2) 0 0 r h2
      obtain ⟨w12, hr13, hf⟩ := bd_elim hf
      have K14 : Rn g mdX12_habit 74 [some (.ref 0), some (.int a1), some (.int a2), some (.int w12.1), some (.int w12.2), some (.int x5)] [] (mW q11.2) 0 0 r h2 := by
        refine o_iinc (pc := 74) dX12_habit_74 rfl (by decide) rfl ?_
        show Rn g mdX12_habit 77 [some (.ref 0), some (.int a1), some (.int a2), some (.int w12.1), some (.int w12.2), some (.int (x5 + 1))] [] (mW q11.2) 0 0 r h2
        obtain ⟨v19, ev19, hf⟩ := lt_elim hf
        rw [ev19]
        show Rn g mdX12_habit 77 [some (.ref 0), some (.int a1), some (.int a2), some (.int w12.1), some (.int w12.2), some (.int v19)] [] (mW q11.2) 0 0 r h2
        refine o_goto (pc := 77) 35 dX12_habit_77 rfl ?_
        exact ih _ _ _ _ hf K
      clear hf
      refine o_if_eq (pc := 49) 74 dX12_habit_49 rfl (fun hc => ?_) (fun hc => ?_)
      · have hr13 := it_t hr13 hc
        obtain rfl := Option.some.inj hr13
        exact K14
      · have hr13 := it_f hr13 hc
        refine o_iload_n (pc := 52) dX12_habit_52 rfl ?_
        obtain ⟨w15, hr16, hr13⟩ := bd_elim hr13
        have K17 : Rn g mdX12_habit 69 [some (.ref 0), some (.int a1), some (.int a2), some (.int x3), none, some (.int x5)] [.int w15] (mW q11.2) 0 0 r h2 := by
          refine o_istore (pc := 69) dX12_habit_69 (by decide) rfl ?_
          show Rn g mdX12_habit 71 [some (.ref 0), some (.int a1), some (.int a2), some (.int x3), some (.int w15), some (.int x5)] [] (mW q11.2) 0 0 r h2
          refine o_iinc (pc := 71) dX12_habit_71 rfl (by decide) rfl ?_
          show Rn g mdX12_habit 74 [some (.ref 0), some (.int a1), some (.int a2), some (.int (x3 + 1)), some (.int w15), some (.int x5)] [] (mW q11.2) 0 0 r h2
          obtain ⟨v18, ev18, hr13⟩ := lt_elim hr13
          rw [ev18]
          show Rn g mdX12_habit 74 [some (.ref 0), some (.int a1), some (.int a2), some (.int v18), some (.int w15), some (.int x5)] [] (mW q11.2) 0 0 r h2
          obtain rfl := Option.some.inj hr13
          exact K14
        clear hr13
        refine o_if_ne (pc := 53) 67 dX12_habit_53 rfl (fun hc => ?_) (fun hc => ?_)
        · have hr16 := it_f hr16 hc
          refine o_iload (pc := 67) dX12_habit_67 rfl ?_
          obtain rfl := Option.some.inj hr16
          refine o_keep [true, true, true, true, false, true] ?_
          exact K17
        · have hr16 := it_t hr16 hc
          refine o_bipush (pc := 56) (v := 10) dX12_habit_56 rfl ?_
          refine o_iload (pc := 58) dX12_habit_58 rfl ?_
          refine o_imul (pc := 60) dX12_habit_60 ?_
          refine o_bipush (pc := 61) (v := 20) dX12_habit_61 rfl ?_
          refine o_isub (pc := 63) dX12_habit_63 ?_
          refine o_goto (pc := 64) 69 dX12_habit_64 rfl ?_
          obtain rfl := Option.some.inj hr16
          refine o_keep [true, true, true, true, false, true] ?_
          exact K17
set_option maxRecDepth 20000 in
theorem kX12_habit {g : GX} {p0 : Int32} {p1 : Int32} {s : ST} {q : Int32 × ST} (hf : fX12_habit p0 p1 s = some q) : Cn g mdX12_habit [.ref 0, .int p0, .int p1] (mW s) (some (.int q.1)) (mW q.2) := by
  refine Cn.of (by decide) (Nat.le_of_ble_eq_true rfl) ?_
  show Rn g mdX12_habit 0 [some (.ref 0), some (.int p0), some (.int p1), none, none, none] [] (mW s) 0 0 (some (.int q.1)) (mW q.2)
  unfold fX12_habit at hf
  refine o_aload_n (pc := 0) dX12_habit_0 rfl ?_
  refine o_iload_n (pc := 1) dX12_habit_1 rfl ?_
  obtain ⟨q2, hk1, hf⟩ := bd_elim hf
  refine m_callV (pc := 2) [.int p0] dX12_habit_2 (kX12_isPerson hk1) stX12_458 ⟨by decide, by decide, by decide, by decide⟩ ⟨rfl, rfl⟩ (Nat.le_of_ble_eq_true rfl) ?_
  show Rn g mdX12_habit 5 [some (.ref 0), some (.int p0), some (.int p1), none, none, none] [.int q2] (mW s) 0 0 (some (.int q.1)) (mW q.2)
  obtain ⟨b3, hr4, hf⟩ := bd_elim hf
  have KB5 : (b3 = true → Rn g mdX12_habit 18 [some (.ref 0), some (.int p0), some (.int p1), none, none, none] [] (mW s) 0 0 (some (.int q.1)) (mW q.2)) ∧ (¬ b3 = true → Rn g mdX12_habit 22 [some (.ref 0), some (.int p0), some (.int p1), none, none, none] [] (mW s) 0 0 (some (.int q.1)) (mW q.2)) := by
    refine ⟨fun hc => ?_, fun hc => ?_⟩
    · have hf := it_t hf hc
      refine o_sipush (pc := 18) (v := (-1000)) dX12_habit_18 rfl ?_
      obtain rfl := Option.some.inj hf
      exact o_ireturn (pc := 21) dX12_habit_21 rfl (Nat.zero_le _) (Nat.zero_le _)
    · have hf := it_f hf hc
      refine o_aload_n (pc := 22) dX12_habit_22 rfl ?_
      obtain ⟨q9, hk8, hf⟩ := bd_elim hf
      refine m_callV (pc := 23) [] dX12_habit_23 (kX12_keepsAll hk8) stX12_522 ⟨by decide, by decide, by decide, by decide⟩ ⟨rfl, rfl⟩ (Nat.le_of_ble_eq_true rfl) ?_
      show Rn g mdX12_habit 26 [some (.ref 0), some (.int p0), some (.int p1), none, none, none] [] (mW q9) 0 0 (some (.int q.1)) (mW q.2)
      refine o_iconst (pc := 26) (v := 0) dX12_habit_26 rfl ?_
      refine o_istore_n (pc := 27) dX12_habit_27 (by decide) rfl ?_
      show Rn g mdX12_habit 28 [some (.ref 0), some (.int p0), some (.int p1), some (.int 0), none, none] [] (mW q9) 0 0 (some (.int q.1)) (mW q.2)
      refine o_bipush (pc := 28) (v := (-100)) dX12_habit_28 rfl ?_
      refine o_istore (pc := 30) dX12_habit_30 (by decide) rfl ?_
      show Rn g mdX12_habit 32 [some (.ref 0), some (.int p0), some (.int p1), some (.int 0), some (.int (-100)), none] [] (mW q9) 0 0 (some (.int q.1)) (mW q.2)
      refine o_iconst (pc := 32) (v := 0) dX12_habit_32 rfl ?_
      refine o_istore (pc := 33) dX12_habit_33 (by decide) rfl ?_
      show Rn g mdX12_habit 35 [some (.ref 0), some (.int p0), some (.int p1), some (.int 0), some (.int (-100)), some (.int 0)] [] (mW q9) 0 0 (some (.int q.1)) (mW q.2)
      obtain ⟨w20, hl21, hf⟩ := bd_elim hf
      have K22 : Rn g mdX12_habit 80 [none, none, some (.int p1), some (.int w20.1), some (.int w20.2.1), none] [] (mW w20.2.2.2) 0 0 (some (.int q.1)) (mW q.2) := by
        refine o_iload_n (pc := 80) dX12_habit_80 rfl ?_
        obtain ⟨w23, hr24, hf⟩ := bd_elim hf
        have K25 : Rn g mdX12_habit 90 [none, none, none, none, none, none] [.int w23] (mW w20.2.2.2) 0 0 (some (.int q.1)) (mW q.2) := by
          obtain rfl := Option.some.inj hf
          exact o_ireturn (pc := 90) dX12_habit_90 rfl (Nat.zero_le _) (Nat.zero_le _)
        clear hf
        refine o_if_ne (pc := 81) 88 dX12_habit_81 rfl (fun hc => ?_) (fun hc => ?_)
        · have hr24 := it_f hr24 hc
          refine o_iload (pc := 88) dX12_habit_88 rfl ?_
          obtain rfl := Option.some.inj hr24
          refine o_keep [false, false, false, false, false, false] ?_
          exact K25
        · have hr24 := it_t hr24 hc
          refine o_iload_n (pc := 84) dX12_habit_84 rfl ?_
          refine o_goto (pc := 85) 90 dX12_habit_85 rfl ?_
          obtain rfl := Option.some.inj hr24
          refine o_keep [false, false, false, false, false, false] ?_
          exact K25
      exact kX12_habit_L35 _ _ _ _ _ _ _ hl21 K22
  clear hf
  refine o_if_eq (pc := 5) 18 dX12_habit_5 rfl (fun hc => ?_) (fun hc => ?_)
  · have hr4 := it_t hr4 hc
    obtain rfl := Option.some.inj hr4
    exact KB5.1 rfl
  · have hr4 := it_f hr4 hc
    refine o_iload_n (pc := 8) dX12_habit_8 rfl ?_
    refine o_i2l (pc := 9) dX12_habit_9 ?_
    refine o_lconst (pc := 10) (v := 0) dX12_habit_10 rfl ?_
    refine o_lconst (pc := 11) (v := 1) dX12_habit_11 rfl ?_
    obtain ⟨q7, hk6, hr4⟩ := bd_elim hr4
    refine m_callS (pc := 12) [.long p1.toInt64, .long 0, .long 1] dX12_habit_12 (kX12_in hk6) stX12_191 ⟨by decide, by decide, by decide, by decide⟩ ⟨rfl, rfl⟩ (Nat.le_of_ble_eq_true rfl) ?_
    show Rn g mdX12_habit 15 [some (.ref 0), some (.int p0), some (.int p1), none, none, none] [.int q7] (mW s) 0 0 (some (.int q.1)) (mW q.2)
    refine o_if_ne (pc := 15) 22 dX12_habit_15 rfl (fun hc => ?_) (fun hc => ?_)
    · have hr4 := it_f hr4 hc
      obtain rfl := Option.some.inj hr4
      exact KB5.2 (by decide)
    · have hr4 := it_t hr4 hc
      obtain rfl := Option.some.inj hr4
      exact KB5.1 rfl
def fX12_mostAlike_L16 (a1 : Int32) (a2 : Int32) (a3 : Int32) : Nat → Int32 → Int32 → ST → Option (Int32 × Int32)
  | 0, _, _, _ => none
  | n + 1, x4, x5, s => if 9 ≤ x5 then some (x4, x5) else ck (inb a3 9) ((if (gi s 53 (ix a3)) = 0 then some false else ck (inb x5 9) (if (gi s 53 (ix x5)) = 0 then some false else ck (inb ((9 * a1) + a3) 279) (ck (inb ((9 * a1) + x5) 279) (if (gi s 52 (ix ((9 * a1) + a3))) = (gi s 52 (ix ((9 * a1) + x5))) then some true else some false))) : Option Bool).bind (fun b2 => (if b2 = true then some 1 else some 0 : Option (Int32)).bind (fun w8 => lt (x4 + w8 : Int32) (fun v11 => lt (x5 + 1) (fun v12 => fX12_mostAlike_L16 a1 a2 a3 n v11 v12 s)))))
def fX12_mostAlike_L4 (a1 : Int32) : Nat → Int32 → Int32 → ST → Option (Int32 × Int32)
  | 0, _, _, _ => none
  | n + 1, x2, x3, s => if 9 ≤ x3 then some (x2, x3) else (fX12_mostAlike_L16 a1 x2 x3 FUEL 0 0 s).bind (fun w13 => (if w13.1 ≤ x2 then some x2 else some w13.1 : Option (Int32)).bind (fun w16 => lt (x3 + 1) (fun v19 => fX12_mostAlike_L4 a1 n w16 v19 s)))
def fX12_mostAlike (p0 : Int32) (s : ST) : Option (Int32) :=
  (fX12_mostAlike_L4 p0 FUEL 0 0 s).bind (fun w20 => some w20.1)
set_option maxRecDepth 20000 in
theorem kX12_mostAlike_L16 {g : GX} (a1 : Int32) (a2 : Int32) (a3 : Int32) (s : ST) {r : Option Value} {h2 : PH} : ∀ (n : Nat) (x4 : Int32) (x5 : Int32) {w : Int32 × Int32}, fX12_mostAlike_L16 a1 a2 a3 n x4 x5 s = some w → Rn g mdX12_mostAlike 84 [some (.ref 0), some (.int a1), some (.int a2), some (.int a3), some (.int w.1), none] [] (mW s) 0 0 r h2 → Rn g mdX12_mostAlike 16 [some (.ref 0), some (.int a1), some (.int a2), some (.int a3), some (.int x4), some (.int x5)] [] (mW s) 0 0 r h2 := by
  intro n
  induction n with
  | zero => intro x4 x5 w hf K; cases hf
  | succ n ih =>
    intro x4 x5 w hf K
    rw [fX12_mostAlike_L16] at hf
    refine o_iload (pc := 16) dX12_mostAlike_16 rfl ?_
    refine o_bipush (pc := 18) (v := 9) dX12_mostAlike_18 rfl ?_
    refine o_icmp_ge (pc := 20) 84 dX12_mostAlike_20 rfl (fun hc => ?_) (fun hc => ?_)
    · have hf := it_t hf hc
      obtain rfl := Option.some.inj hf
      refine o_keep [true, true, true, true, true, false] ?_
      exact K
    · have hf := it_f hf hc
      refine o_iload (pc := 23) dX12_mostAlike_23 rfl ?_
      refine o_aload_n (pc := 25) dX12_mostAlike_25 rfl ?_
      refine m_getA (pc := 26) 77 53 (by decide) rfl rfl lkX12_178 dX12_mostAlike_26 ?_
      refine o_iload_n (pc := 29) dX12_mostAlike_29 rfl ?_
      obtain ⟨hk1, hf⟩ := ck_elim hf
      refine m_zald (pc := 30) (by decide) rfl hk1 dX12_mostAlike_30 ?_
      obtain ⟨b2, hr3, hf⟩ := bd_elim hf
      obtain ⟨w8, hr9, hf⟩ := bd_elim hf
      have K10 : Rn g mdX12_mostAlike 75 [some (.ref 0), some (.int a1), some (.int a2), some (.int a3), none, some (.int x5)] [.int w8, .int x4] (mW s) 0 0 r h2 := by
        refine o_iadd (pc := 75) dX12_mostAlike_75 ?_
        refine lz_i hf (fun v11 hf => ?_)
        refine o_istore (pc := 76) dX12_mostAlike_76 (by decide) rfl ?_
        show Rn g mdX12_mostAlike 78 [some (.ref 0), some (.int a1), some (.int a2), some (.int a3), some (.int v11), some (.int x5)] [] (mW s) 0 0 r h2
        refine o_iinc (pc := 78) dX12_mostAlike_78 rfl (by decide) rfl ?_
        show Rn g mdX12_mostAlike 81 [some (.ref 0), some (.int a1), some (.int a2), some (.int a3), some (.int v11), some (.int (x5 + 1))] [] (mW s) 0 0 r h2
        obtain ⟨v12, ev12, hf⟩ := lt_elim hf
        rw [ev12]
        show Rn g mdX12_mostAlike 81 [some (.ref 0), some (.int a1), some (.int a2), some (.int a3), some (.int v11), some (.int v12)] [] (mW s) 0 0 r h2
        refine o_goto (pc := 81) 16 dX12_mostAlike_81 rfl ?_
        exact ih _ _ hf K
      clear hf
      have KB4 : (b2 = true → Rn g mdX12_mostAlike 70 [some (.ref 0), some (.int a1), some (.int a2), some (.int a3), some (.int x4), some (.int x5)] [.int x4] (mW s) 0 0 r h2) ∧ (¬ b2 = true → Rn g mdX12_mostAlike 74 [some (.ref 0), some (.int a1), some (.int a2), some (.int a3), some (.int x4), some (.int x5)] [.int x4] (mW s) 0 0 r h2) := by
        refine ⟨fun hc => ?_, fun hc => ?_⟩
        · have hr9 := it_t hr9 hc
          refine o_iconst (pc := 70) (v := 1) dX12_mostAlike_70 rfl ?_
          refine o_goto (pc := 71) 75 dX12_mostAlike_71 rfl ?_
          obtain rfl := Option.some.inj hr9
          refine o_keep [true, true, true, true, false, true] ?_
          exact K10
        · have hr9 := it_f hr9 hc
          refine o_iconst (pc := 74) (v := 0) dX12_mostAlike_74 rfl ?_
          obtain rfl := Option.some.inj hr9
          refine o_keep [true, true, true, true, false, true] ?_
          exact K10
      clear hr9
      refine o_if_eq (pc := 31) 74 dX12_mostAlike_31 rfl (fun hc => ?_) (fun hc => ?_)
      · have hr3 := it_t hr3 hc
        obtain rfl := Option.some.inj hr3
        exact KB4.2 (by decide)
      · have hr3 := it_f hr3 hc
        refine o_aload_n (pc := 34) dX12_mostAlike_34 rfl ?_
        refine m_getA (pc := 35) 77 53 (by decide) rfl rfl lkX12_178 dX12_mostAlike_35 ?_
        refine o_iload (pc := 38) dX12_mostAlike_38 rfl ?_
        obtain ⟨hk5, hr3⟩ := ck_elim hr3
        refine m_zald (pc := 40) (by decide) rfl hk5 dX12_mostAlike_40 ?_
        refine o_if_eq (pc := 41) 74 dX12_mostAlike_41 rfl (fun hc => ?_) (fun hc => ?_)
        · have hr3 := it_t hr3 hc
          obtain rfl := Option.some.inj hr3
          exact KB4.2 (by decide)
        · have hr3 := it_f hr3 hc
          refine o_aload_n (pc := 44) dX12_mostAlike_44 rfl ?_
          refine m_getA (pc := 45) 76 52 (by decide) rfl rfl lkX12_175 dX12_mostAlike_45 ?_
          refine o_bipush (pc := 48) (v := 9) dX12_mostAlike_48 rfl ?_
          refine o_iload_n (pc := 50) dX12_mostAlike_50 rfl ?_
          refine o_imul (pc := 51) dX12_mostAlike_51 ?_
          refine o_iload_n (pc := 52) dX12_mostAlike_52 rfl ?_
          refine o_iadd (pc := 53) dX12_mostAlike_53 ?_
          obtain ⟨hk6, hr3⟩ := ck_elim hr3
          refine m_iald (pc := 54) (by decide) rfl hk6 dX12_mostAlike_54 ?_
          refine o_aload_n (pc := 55) dX12_mostAlike_55 rfl ?_
          refine m_getA (pc := 56) 76 52 (by decide) rfl rfl lkX12_175 dX12_mostAlike_56 ?_
          refine o_bipush (pc := 59) (v := 9) dX12_mostAlike_59 rfl ?_
          refine o_iload_n (pc := 61) dX12_mostAlike_61 rfl ?_
          refine o_imul (pc := 62) dX12_mostAlike_62 ?_
          refine o_iload (pc := 63) dX12_mostAlike_63 rfl ?_
          refine o_iadd (pc := 65) dX12_mostAlike_65 ?_
          obtain ⟨hk7, hr3⟩ := ck_elim hr3
          refine m_iald (pc := 66) (by decide) rfl hk7 dX12_mostAlike_66 ?_
          refine o_icmp_ne (pc := 67) 74 dX12_mostAlike_67 rfl (fun hc => ?_) (fun hc => ?_)
          · have hr3 := it_f hr3 hc
            obtain rfl := Option.some.inj hr3
            exact KB4.2 (by decide)
          · have hr3 := it_t hr3 hc
            obtain rfl := Option.some.inj hr3
            exact KB4.1 rfl
set_option maxRecDepth 20000 in
theorem kX12_mostAlike_L4 {g : GX} (a1 : Int32) (s : ST) {r : Option Value} {h2 : PH} : ∀ (n : Nat) (x2 : Int32) (x3 : Int32) {w : Int32 × Int32}, fX12_mostAlike_L4 a1 n x2 x3 s = some w → Rn g mdX12_mostAlike 103 [none, none, some (.int w.1), none, none, none] [] (mW s) 0 0 r h2 → Rn g mdX12_mostAlike 4 [some (.ref 0), some (.int a1), some (.int x2), some (.int x3), none, none] [] (mW s) 0 0 r h2 := by
  intro n
  induction n with
  | zero => intro x2 x3 w hf K; cases hf
  | succ n ih =>
    intro x2 x3 w hf K
    rw [fX12_mostAlike_L4] at hf
    refine o_iload_n (pc := 4) dX12_mostAlike_4 rfl ?_
    refine o_bipush (pc := 5) (v := 9) dX12_mostAlike_5 rfl ?_
    refine o_icmp_ge (pc := 7) 103 dX12_mostAlike_7 rfl (fun hc => ?_) (fun hc => ?_)
    · have hf := it_t hf hc
      obtain rfl := Option.some.inj hf
      refine o_keep [false, false, true, false, false, false] ?_
      exact K
    · have hf := it_f hf hc
      refine o_iconst (pc := 10) (v := 0) dX12_mostAlike_10 rfl ?_
      refine o_istore (pc := 11) dX12_mostAlike_11 (by decide) rfl ?_
      show Rn g mdX12_mostAlike 13 [some (.ref 0), some (.int a1), some (.int x2), some (.int x3), some (.int 0), none] [] (mW s) 0 0 r h2
      refine o_iconst (pc := 13) (v := 0) dX12_mostAlike_13 rfl ?_
      refine o_istore (pc := 14) dX12_mostAlike_14 (by decide) rfl ?_
      show Rn g mdX12_mostAlike 16 [some (.ref 0), some (.int a1), some (.int x2), some (.int x3), some (.int 0), some (.int 0)] [] (mW s) 0 0 r h2
      obtain ⟨w13, hl14, hf⟩ := bd_elim hf
      have K15 : Rn g mdX12_mostAlike 84 [some (.ref 0), some (.int a1), some (.int x2), some (.int x3), some (.int w13.1), none] [] (mW s) 0 0 r h2 := by
        refine o_iload (pc := 84) dX12_mostAlike_84 rfl ?_
        refine o_iload_n (pc := 86) dX12_mostAlike_86 rfl ?_
        obtain ⟨w16, hr17, hf⟩ := bd_elim hf
        have K18 : Rn g mdX12_mostAlike 96 [some (.ref 0), some (.int a1), none, some (.int x3), none, none] [.int w16] (mW s) 0 0 r h2 := by
          refine o_istore_n (pc := 96) dX12_mostAlike_96 (by decide) rfl ?_
          show Rn g mdX12_mostAlike 97 [some (.ref 0), some (.int a1), some (.int w16), some (.int x3), none, none] [] (mW s) 0 0 r h2
          refine o_iinc (pc := 97) dX12_mostAlike_97 rfl (by decide) rfl ?_
          show Rn g mdX12_mostAlike 100 [some (.ref 0), some (.int a1), some (.int w16), some (.int (x3 + 1)), none, none] [] (mW s) 0 0 r h2
          obtain ⟨v19, ev19, hf⟩ := lt_elim hf
          rw [ev19]
          show Rn g mdX12_mostAlike 100 [some (.ref 0), some (.int a1), some (.int w16), some (.int v19), none, none] [] (mW s) 0 0 r h2
          refine o_goto (pc := 100) 4 dX12_mostAlike_100 rfl ?_
          exact ih _ _ hf K
        clear hf
        refine o_icmp_le (pc := 87) 95 dX12_mostAlike_87 rfl (fun hc => ?_) (fun hc => ?_)
        · have hr17 := it_t hr17 hc
          refine o_iload_n (pc := 95) dX12_mostAlike_95 rfl ?_
          obtain rfl := Option.some.inj hr17
          refine o_keep [true, true, false, true, false, false] ?_
          exact K18
        · have hr17 := it_f hr17 hc
          refine o_iload (pc := 90) dX12_mostAlike_90 rfl ?_
          refine o_goto (pc := 92) 96 dX12_mostAlike_92 rfl ?_
          obtain rfl := Option.some.inj hr17
          refine o_keep [true, true, false, true, false, false] ?_
          exact K18
      exact kX12_mostAlike_L16 _ _ _ _ _ _ _ hl14 K15
set_option maxRecDepth 20000 in
theorem kX12_mostAlike {g : GX} {p0 : Int32} {s : ST} {q : Int32} (hf : fX12_mostAlike p0 s = some q) : Cn g mdX12_mostAlike [.ref 0, .int p0] (mW s) (some (.int q)) (mW s) := by
  refine Cn.of (by decide) (Nat.le_of_ble_eq_true rfl) ?_
  show Rn g mdX12_mostAlike 0 [some (.ref 0), some (.int p0), none, none, none, none] [] (mW s) 0 0 (some (.int q)) (mW s)
  unfold fX12_mostAlike at hf
  refine o_iconst (pc := 0) (v := 0) dX12_mostAlike_0 rfl ?_
  refine o_istore_n (pc := 1) dX12_mostAlike_1 (by decide) rfl ?_
  show Rn g mdX12_mostAlike 2 [some (.ref 0), some (.int p0), some (.int 0), none, none, none] [] (mW s) 0 0 (some (.int q)) (mW s)
  refine o_iconst (pc := 2) (v := 0) dX12_mostAlike_2 rfl ?_
  refine o_istore_n (pc := 3) dX12_mostAlike_3 (by decide) rfl ?_
  show Rn g mdX12_mostAlike 4 [some (.ref 0), some (.int p0), some (.int 0), some (.int 0), none, none] [] (mW s) 0 0 (some (.int q)) (mW s)
  obtain ⟨w20, hl21, hf⟩ := bd_elim hf
  have K22 : Rn g mdX12_mostAlike 103 [none, none, some (.int w20.1), none, none, none] [] (mW s) 0 0 (some (.int q)) (mW s) := by
    refine o_iload_n (pc := 103) dX12_mostAlike_103 rfl ?_
    obtain rfl := Option.some.inj hf
    exact o_ireturn (pc := 104) dX12_mostAlike_104 rfl (Nat.zero_le _) (Nat.zero_le _)
  exact kX12_mostAlike_L4 _ _ _ _ _ hl21 K22
def fX12_door_L26 (a1 : Int32) (a2 : Int32) : Nat → Int32 → ST → Option (Int32 × ST)
  | 0, _, _ => none
  | n + 1, x3, s => if 9 ≤ x3 then some (x3, s) else (fX12_doesFit a1 x3 s).bind (fun q11 => ck (inb x3 9) (lt (si q11.2 53 (ix x3) (vp_nar .boolean q11.1)) (fun s13 => lt (x3 + 1) (fun v14 => fX12_door_L26 a1 a2 n v14 s13))))
def fX12_door_L55 (a2 : Int32) : Nat → Int32 → Int32 → ST → Option (Int32 × Int32)
  | 0, _, _, _ => none
  | n + 1, x3, x4, s => if 30 < x4 then some (x3, x4) else (fX12_mostAlike x4 s).bind (fun q19 => (fX12_mostAlike x3 s).bind (fun q21 => (if q21 ≤ q19 then some x3 else some x4 : Option (Int32)).bind (fun w22 => lt (x4 + 1) (fun v25 => fX12_door_L55 a2 n w22 v25 s))))
def fX12_door (p0 : Int32) (p1 : Int32) (s : ST) : Option (Int32 × ST) :=
  (fX12_isPerson p0 s).bind (fun q2 => (if q2 = 0 then some true else (fX12_in p1.toInt64 0 1 s).bind (fun q7 => if q7 = 0 then some true else some false) : Option Bool).bind (fun b3 => if b3 = true then some ((-1), s) else (fX12_keepsAll s).bind (fun q9 => (fX12_door_L26 p0 p1 FUEL 0 q9).bind (fun w15 => (fX12_door_L55 p1 FUEL 0 1 w15.2).bind (fun w26 => (fX12_mostAlike w26.1 w15.2).bind (fun q30 => (if q30 = 0 then some (-2) else if p1 = 0 then some w26.1 else (fX12_mostAlike w26.1 w15.2).bind (fun q35 => some q35) : Option (Int32)).bind (fun w31 => some (w31, w15.2))))))))
set_option maxRecDepth 20000 in
theorem kX12_door_L26 {g : GX} (a1 : Int32) (a2 : Int32) {r : Option Value} {h2 : PH} : ∀ (n : Nat) (x3 : Int32) (s : ST) {w : Int32 × ST}, fX12_door_L26 a1 a2 n x3 s = some w → Rn g mdX12_door 50 [some (.ref 0), none, some (.int a2), none, none] [] (mW w.2) 0 0 r h2 → Rn g mdX12_door 26 [some (.ref 0), some (.int a1), some (.int a2), some (.int x3), none] [] (mW s) 0 0 r h2 := by
  intro n
  induction n with
  | zero => intro x3 s w hf K; cases hf
  | succ n ih =>
    intro x3 s w hf K
    rw [fX12_door_L26] at hf
    refine o_iload_n (pc := 26) dX12_door_26 rfl ?_
    refine o_bipush (pc := 27) (v := 9) dX12_door_27 rfl ?_
    refine o_icmp_ge (pc := 29) 50 dX12_door_29 rfl (fun hc => ?_) (fun hc => ?_)
    · have hf := it_t hf hc
      obtain rfl := Option.some.inj hf
      refine o_keep [true, false, true, false, false] ?_
      exact K
    · have hf := it_f hf hc
      refine o_aload_n (pc := 32) dX12_door_32 rfl ?_
      refine m_getA (pc := 33) 77 53 (by decide) rfl rfl lkX12_178 dX12_door_33 ?_
      refine o_iload_n (pc := 36) dX12_door_36 rfl ?_
      refine o_aload_n (pc := 37) dX12_door_37 rfl ?_
      refine o_iload_n (pc := 38) dX12_door_38 rfl ?_
      refine o_iload_n (pc := 39) dX12_door_39 rfl ?_
      obtain ⟨q11, hk10, hf⟩ := bd_elim hf
      refine m_callV (pc := 40) [.int a1, .int x3] dX12_door_40 (kX12_doesFit hk10) stX12_548 ⟨by decide, by decide, by decide, by decide⟩ ⟨rfl, rfl⟩ (Nat.le_of_ble_eq_true rfl) ?_
      show Rn g mdX12_door 43 [some (.ref 0), some (.int a1), some (.int a2), some (.int x3), none] [.int q11.1, .int x3, .ref 53] (mW q11.2) 0 0 r h2
      obtain ⟨hk12, hf⟩ := ck_elim hf
      refine m_zast (pc := 43) (by decide) rfl hk12 dX12_door_43 ?_
      refine lz_s (mW) hf (fun s13 hf => ?_)
      show Rn g mdX12_door 44 [some (.ref 0), some (.int a1), some (.int a2), some (.int x3), none] [] (mW s13) 0 0 r h2
      refine o_iinc (pc := 44) dX12_door_44 rfl (by decide) rfl ?_
      show Rn g mdX12_door 47 [some (.ref 0), some (.int a1), some (.int a2), some (.int (x3 + 1)), none] [] (mW s13) 0 0 r h2
      obtain ⟨v14, ev14, hf⟩ := lt_elim hf
      rw [ev14]
      show Rn g mdX12_door 47 [some (.ref 0), some (.int a1), some (.int a2), some (.int v14), none] [] (mW s13) 0 0 r h2
      refine o_goto (pc := 47) 26 dX12_door_47 rfl ?_
      exact ih _ _ hf K
set_option maxRecDepth 20000 in
theorem kX12_door_L55 {g : GX} (a2 : Int32) (s : ST) {r : Option Value} {h2 : PH} : ∀ (n : Nat) (x3 : Int32) (x4 : Int32) {w : Int32 × Int32}, fX12_door_L55 a2 n x3 x4 s = some w → Rn g mdX12_door 89 [some (.ref 0), none, some (.int a2), some (.int w.1), none] [] (mW s) 0 0 r h2 → Rn g mdX12_door 55 [some (.ref 0), none, some (.int a2), some (.int x3), some (.int x4)] [] (mW s) 0 0 r h2 := by
  intro n
  induction n with
  | zero => intro x3 x4 w hf K; cases hf
  | succ n ih =>
    intro x3 x4 w hf K
    rw [fX12_door_L55] at hf
    refine o_iload (pc := 55) dX12_door_55 rfl ?_
    refine o_bipush (pc := 57) (v := 30) dX12_door_57 rfl ?_
    refine o_icmp_gt (pc := 59) 89 dX12_door_59 rfl (fun hc => ?_) (fun hc => ?_)
    · have hf := it_t hf hc
      obtain rfl := Option.some.inj hf
      refine o_keep [true, false, true, true, false] ?_
      exact K
    · have hf := it_f hf hc
      refine o_aload_n (pc := 62) dX12_door_62 rfl ?_
      refine o_iload (pc := 63) dX12_door_63 rfl ?_
      obtain ⟨q19, hk18, hf⟩ := bd_elim hf
      refine m_callV (pc := 65) [.int x4] dX12_door_65 (kX12_mostAlike hk18) stX12_551 ⟨by decide, by decide, by decide, by decide⟩ ⟨rfl, rfl⟩ (Nat.le_of_ble_eq_true rfl) ?_
      show Rn g mdX12_door 68 [some (.ref 0), none, some (.int a2), some (.int x3), some (.int x4)] [.int q19] (mW s) 0 0 r h2
      refine o_aload_n (pc := 68) dX12_door_68 rfl ?_
      refine o_iload_n (pc := 69) dX12_door_69 rfl ?_
      obtain ⟨q21, hk20, hf⟩ := bd_elim hf
      refine m_callV (pc := 70) [.int x3] dX12_door_70 (kX12_mostAlike hk20) stX12_551 ⟨by decide, by decide, by decide, by decide⟩ ⟨rfl, rfl⟩ (Nat.le_of_ble_eq_true rfl) ?_
      show Rn g mdX12_door 73 [some (.ref 0), none, some (.int a2), some (.int x3), some (.int x4)] [.int q21, .int q19] (mW s) 0 0 r h2
      obtain ⟨w22, hr23, hf⟩ := bd_elim hf
      have K24 : Rn g mdX12_door 82 [some (.ref 0), none, some (.int a2), none, some (.int x4)] [.int w22] (mW s) 0 0 r h2 := by
        refine o_istore_n (pc := 82) dX12_door_82 (by decide) rfl ?_
        show Rn g mdX12_door 83 [some (.ref 0), none, some (.int a2), some (.int w22), some (.int x4)] [] (mW s) 0 0 r h2
        refine o_iinc (pc := 83) dX12_door_83 rfl (by decide) rfl ?_
        show Rn g mdX12_door 86 [some (.ref 0), none, some (.int a2), some (.int w22), some (.int (x4 + 1))] [] (mW s) 0 0 r h2
        obtain ⟨v25, ev25, hf⟩ := lt_elim hf
        rw [ev25]
        show Rn g mdX12_door 86 [some (.ref 0), none, some (.int a2), some (.int w22), some (.int v25)] [] (mW s) 0 0 r h2
        refine o_goto (pc := 86) 55 dX12_door_86 rfl ?_
        exact ih _ _ hf K
      clear hf
      refine o_icmp_ge (pc := 73) 81 dX12_door_73 rfl (fun hc => ?_) (fun hc => ?_)
      · have hr23 := it_t hr23 hc
        refine o_iload_n (pc := 81) dX12_door_81 rfl ?_
        obtain rfl := Option.some.inj hr23
        refine o_keep [true, false, true, false, true] ?_
        exact K24
      · have hr23 := it_f hr23 hc
        refine o_iload (pc := 76) dX12_door_76 rfl ?_
        refine o_goto (pc := 78) 82 dX12_door_78 rfl ?_
        obtain rfl := Option.some.inj hr23
        refine o_keep [true, false, true, false, true] ?_
        exact K24
set_option maxRecDepth 20000 in
theorem kX12_door {g : GX} {p0 : Int32} {p1 : Int32} {s : ST} {q : Int32 × ST} (hf : fX12_door p0 p1 s = some q) : Cn g mdX12_door [.ref 0, .int p0, .int p1] (mW s) (some (.int q.1)) (mW q.2) := by
  refine Cn.of (by decide) (Nat.le_of_ble_eq_true rfl) ?_
  show Rn g mdX12_door 0 [some (.ref 0), some (.int p0), some (.int p1), none, none] [] (mW s) 0 0 (some (.int q.1)) (mW q.2)
  unfold fX12_door at hf
  refine o_aload_n (pc := 0) dX12_door_0 rfl ?_
  refine o_iload_n (pc := 1) dX12_door_1 rfl ?_
  obtain ⟨q2, hk1, hf⟩ := bd_elim hf
  refine m_callV (pc := 2) [.int p0] dX12_door_2 (kX12_isPerson hk1) stX12_458 ⟨by decide, by decide, by decide, by decide⟩ ⟨rfl, rfl⟩ (Nat.le_of_ble_eq_true rfl) ?_
  show Rn g mdX12_door 5 [some (.ref 0), some (.int p0), some (.int p1), none, none] [.int q2] (mW s) 0 0 (some (.int q.1)) (mW q.2)
  obtain ⟨b3, hr4, hf⟩ := bd_elim hf
  have KB5 : (b3 = true → Rn g mdX12_door 18 [some (.ref 0), some (.int p0), some (.int p1), none, none] [] (mW s) 0 0 (some (.int q.1)) (mW q.2)) ∧ (¬ b3 = true → Rn g mdX12_door 20 [some (.ref 0), some (.int p0), some (.int p1), none, none] [] (mW s) 0 0 (some (.int q.1)) (mW q.2)) := by
    refine ⟨fun hc => ?_, fun hc => ?_⟩
    · have hf := it_t hf hc
      refine o_iconst (pc := 18) (v := (-1)) dX12_door_18 rfl ?_
      obtain rfl := Option.some.inj hf
      exact o_ireturn (pc := 19) dX12_door_19 rfl (Nat.zero_le _) (Nat.zero_le _)
    · have hf := it_f hf hc
      refine o_aload_n (pc := 20) dX12_door_20 rfl ?_
      obtain ⟨q9, hk8, hf⟩ := bd_elim hf
      refine m_callV (pc := 21) [] dX12_door_21 (kX12_keepsAll hk8) stX12_522 ⟨by decide, by decide, by decide, by decide⟩ ⟨rfl, rfl⟩ (Nat.le_of_ble_eq_true rfl) ?_
      show Rn g mdX12_door 24 [some (.ref 0), some (.int p0), some (.int p1), none, none] [] (mW q9) 0 0 (some (.int q.1)) (mW q.2)
      refine o_iconst (pc := 24) (v := 0) dX12_door_24 rfl ?_
      refine o_istore_n (pc := 25) dX12_door_25 (by decide) rfl ?_
      show Rn g mdX12_door 26 [some (.ref 0), some (.int p0), some (.int p1), some (.int 0), none] [] (mW q9) 0 0 (some (.int q.1)) (mW q.2)
      obtain ⟨w15, hl16, hf⟩ := bd_elim hf
      have K17 : Rn g mdX12_door 50 [some (.ref 0), none, some (.int p1), none, none] [] (mW w15.2) 0 0 (some (.int q.1)) (mW q.2) := by
        refine o_iconst (pc := 50) (v := 0) dX12_door_50 rfl ?_
        refine o_istore_n (pc := 51) dX12_door_51 (by decide) rfl ?_
        show Rn g mdX12_door 52 [some (.ref 0), none, some (.int p1), some (.int 0), none] [] (mW w15.2) 0 0 (some (.int q.1)) (mW q.2)
        refine o_iconst (pc := 52) (v := 1) dX12_door_52 rfl ?_
        refine o_istore (pc := 53) dX12_door_53 (by decide) rfl ?_
        show Rn g mdX12_door 55 [some (.ref 0), none, some (.int p1), some (.int 0), some (.int 1)] [] (mW w15.2) 0 0 (some (.int q.1)) (mW q.2)
        obtain ⟨w26, hl27, hf⟩ := bd_elim hf
        have K28 : Rn g mdX12_door 89 [some (.ref 0), none, some (.int p1), some (.int w26.1), none] [] (mW w15.2) 0 0 (some (.int q.1)) (mW q.2) := by
          refine o_aload_n (pc := 89) dX12_door_89 rfl ?_
          refine o_iload_n (pc := 90) dX12_door_90 rfl ?_
          obtain ⟨q30, hk29, hf⟩ := bd_elim hf
          refine m_callV (pc := 91) [.int w26.1] dX12_door_91 (kX12_mostAlike hk29) stX12_551 ⟨by decide, by decide, by decide, by decide⟩ ⟨rfl, rfl⟩ (Nat.le_of_ble_eq_true rfl) ?_
          show Rn g mdX12_door 94 [some (.ref 0), none, some (.int p1), some (.int w26.1), none] [.int q30] (mW w15.2) 0 0 (some (.int q.1)) (mW q.2)
          obtain ⟨w31, hr32, hf⟩ := bd_elim hf
          have K33 : Rn g mdX12_door 115 [none, none, none, none, none] [.int w31] (mW w15.2) 0 0 (some (.int q.1)) (mW q.2) := by
            obtain rfl := Option.some.inj hf
            exact o_ireturn (pc := 115) dX12_door_115 rfl (Nat.zero_le _) (Nat.zero_le _)
          clear hf
          refine o_if_ne (pc := 94) 102 dX12_door_94 rfl (fun hc => ?_) (fun hc => ?_)
          · have hr32 := it_f hr32 hc
            refine o_iload_n (pc := 102) dX12_door_102 rfl ?_
            refine o_if_ne (pc := 103) 110 dX12_door_103 rfl (fun hc => ?_) (fun hc => ?_)
            · have hr32 := it_f hr32 hc
              refine o_aload_n (pc := 110) dX12_door_110 rfl ?_
              refine o_iload_n (pc := 111) dX12_door_111 rfl ?_
              obtain ⟨q35, hk34, hr32⟩ := bd_elim hr32
              refine m_callV (pc := 112) [.int w26.1] dX12_door_112 (kX12_mostAlike hk34) stX12_551 ⟨by decide, by decide, by decide, by decide⟩ ⟨rfl, rfl⟩ (Nat.le_of_ble_eq_true rfl) ?_
              show Rn g mdX12_door 115 [some (.ref 0), none, some (.int p1), some (.int w26.1), none] [.int q35] (mW w15.2) 0 0 (some (.int q.1)) (mW q.2)
              obtain rfl := Option.some.inj hr32
              refine o_keep [false, false, false, false, false] ?_
              exact K33
            · have hr32 := it_t hr32 hc
              refine o_iload_n (pc := 106) dX12_door_106 rfl ?_
              refine o_goto (pc := 107) 115 dX12_door_107 rfl ?_
              obtain rfl := Option.some.inj hr32
              refine o_keep [false, false, false, false, false] ?_
              exact K33
          · have hr32 := it_t hr32 hc
            refine o_bipush (pc := 97) (v := (-2)) dX12_door_97 rfl ?_
            refine o_goto (pc := 99) 115 dX12_door_99 rfl ?_
            obtain rfl := Option.some.inj hr32
            refine o_keep [false, false, false, false, false] ?_
            exact K33
        exact kX12_door_L55 _ _ _ _ _ hl27 K28
      exact kX12_door_L26 _ _ _ _ _ hl16 K17
  clear hf
  refine o_if_eq (pc := 5) 18 dX12_door_5 rfl (fun hc => ?_) (fun hc => ?_)
  · have hr4 := it_t hr4 hc
    obtain rfl := Option.some.inj hr4
    exact KB5.1 rfl
  · have hr4 := it_f hr4 hc
    refine o_iload_n (pc := 8) dX12_door_8 rfl ?_
    refine o_i2l (pc := 9) dX12_door_9 ?_
    refine o_lconst (pc := 10) (v := 0) dX12_door_10 rfl ?_
    refine o_lconst (pc := 11) (v := 1) dX12_door_11 rfl ?_
    obtain ⟨q7, hk6, hr4⟩ := bd_elim hr4
    refine m_callS (pc := 12) [.long p1.toInt64, .long 0, .long 1] dX12_door_12 (kX12_in hk6) stX12_191 ⟨by decide, by decide, by decide, by decide⟩ ⟨rfl, rfl⟩ (Nat.le_of_ble_eq_true rfl) ?_
    show Rn g mdX12_door 15 [some (.ref 0), some (.int p0), some (.int p1), none, none] [.int q7] (mW s) 0 0 (some (.int q.1)) (mW q.2)
    refine o_if_ne (pc := 15) 20 dX12_door_15 rfl (fun hc => ?_) (fun hc => ?_)
    · have hr4 := it_f hr4 hc
      obtain rfl := Option.some.inj hr4
      exact KB5.2 (by decide)
    · have hr4 := it_t hr4 hc
      obtain rfl := Option.some.inj hr4
      exact KB5.1 rfl
def fX12_seed (p0 : Int32) (s : ST) : Option (Int32 × ST) :=
  if 0 ≤ p0 then ck (inb 11 13) (lt (gi s 1 (ix 11) : Int32) (fun v2 => ck (inb 11 13) (lt (si s 1 (ix 11) p0) (fun s4 => some (v2, s4))))) else some ((-1), s)
set_option maxRecDepth 20000 in
theorem kX12_seed {g : GX} {p0 : Int32} {s : ST} {q : Int32 × ST} (hf : fX12_seed p0 s = some q) : Cn g mdX12_seed [.ref 0, .int p0] (mW s) (some (.int q.1)) (mW q.2) := by
  refine Cn.of (by decide) (Nat.le_of_ble_eq_true rfl) ?_
  show Rn g mdX12_seed 0 [some (.ref 0), some (.int p0), none] [] (mW s) 0 0 (some (.int q.1)) (mW q.2)
  unfold fX12_seed at hf
  refine o_iload_n (pc := 0) dX12_seed_0 rfl ?_
  refine o_if_ge (pc := 1) 6 dX12_seed_1 rfl (fun hc => ?_) (fun hc => ?_)
  · have hf := it_t hf hc
    refine o_aload_n (pc := 6) dX12_seed_6 rfl ?_
    refine m_getA (pc := 7) 1 1 (by decide) rfl rfl lkX12_9 dX12_seed_7 ?_
    refine o_bipush (pc := 10) (v := 11) dX12_seed_10 rfl ?_
    obtain ⟨hk1, hf⟩ := ck_elim hf
    refine m_iald (pc := 12) (by decide) rfl hk1 dX12_seed_12 ?_
    refine lz_i hf (fun v2 hf => ?_)
    refine o_istore_n (pc := 13) dX12_seed_13 (by decide) rfl ?_
    show Rn g mdX12_seed 14 [some (.ref 0), some (.int p0), some (.int v2)] [] (mW s) 0 0 (some (.int q.1)) (mW q.2)
    refine o_aload_n (pc := 14) dX12_seed_14 rfl ?_
    refine m_getA (pc := 15) 1 1 (by decide) rfl rfl lkX12_9 dX12_seed_15 ?_
    refine o_bipush (pc := 18) (v := 11) dX12_seed_18 rfl ?_
    refine o_iload_n (pc := 20) dX12_seed_20 rfl ?_
    obtain ⟨hk3, hf⟩ := ck_elim hf
    refine m_iast (pc := 21) (by decide) rfl hk3 dX12_seed_21 ?_
    refine lz_s (mW) hf (fun s4 hf => ?_)
    show Rn g mdX12_seed 22 [some (.ref 0), some (.int p0), some (.int v2)] [] (mW s4) 0 0 (some (.int q.1)) (mW q.2)
    refine o_iload_n (pc := 22) dX12_seed_22 rfl ?_
    obtain rfl := Option.some.inj hf
    exact o_ireturn (pc := 23) dX12_seed_23 rfl (Nat.zero_le _) (Nat.zero_le _)
  · have hf := it_f hf hc
    refine o_iconst (pc := 4) (v := (-1)) dX12_seed_4 rfl ?_
    obtain rfl := Option.some.inj hf
    exact o_ireturn (pc := 5) dX12_seed_5 rfl (Nat.zero_le _) (Nat.zero_le _)
def fX12_years_L74 (a1 : Int32) (a2 : Int32) (a3 : Int32) (a4 : Int32) : Nat → Int32 → Int32 → Int32 → Int32 → ST → Option (Int32 × Int32 × Int32 × Int32 × ST)
  | 0, _, _, _, _, _ => none
  | n + 1, x5, x6, x7, x8, s => if a1 ≤ x8 then some (x5, x6, x7, x8, s) else ck (inb 11 13) (lt (si s 1 (ix 11) x5) (fun s18 => (fX12_goes a2 s18).bind (fun q20 => lt (x6 + (gi q20 0 71) : Int32) (fun v21 => lt (x7 + (gi q20 0 69) : Int32) (fun v22 => ck (inb 11 13) (lt (gi q20 1 (ix 11) : Int32) (fun v24 => (fX12_laysBack q20).bind (fun q26 => lt (x8 + 1) (fun v27 => fX12_years_L74 a1 a2 a3 a4 n v24 v21 v22 v27 q26)))))))))
def fX12_years (p0 : Int32) (p1 : Int32) (p2 : Int32) (s : ST) : Option (Int32 × ST) :=
  (fX12_isTown s).bind (fun q2 => (if q2 = 0 then some true else (fX12_in p0.toInt64 1 10 s).bind (fun q7 => if q7 = 0 then some true else (fX12_in p1.toInt64 1 60 s).bind (fun q9 => if q9 = 0 then some true else (fX12_in p2.toInt64 0 1 s).bind (fun q11 => if q11 = 0 then some true else some false))) : Option Bool).bind (fun b3 => if b3 = true then some ((-1), s) else ck (inb 11 13) (lt (gi s 1 (ix 11) : Int32) (fun v13 => (fX12_keepsAll s).bind (fun q15 => lt (si q15 0 63 1) (fun s16 => (fX12_years_L74 p0 p1 p2 v13 FUEL v13 0 0 0 s16).bind (fun w28 => lt (si w28.2.2.2.2 0 63 0) (fun s31 => ck (inb 11 13) (lt (si s31 1 (ix 11) v13) (fun s33 => (if p2 = 0 then some w28.2.1 else some w28.2.2.1 : Option (Int32)).bind (fun w34 => some (w34, s33))))))))))))
set_option maxRecDepth 20000 in
theorem kX12_years_L74 {g : GX} (a1 : Int32) (a2 : Int32) (a3 : Int32) (a4 : Int32) {r : Option Value} {h2 : PH} : ∀ (n : Nat) (x5 : Int32) (x6 : Int32) (x7 : Int32) (x8 : Int32) (s : ST) {w : Int32 × Int32 × Int32 × Int32 × ST}, fX12_years_L74 a1 a2 a3 a4 n x5 x6 x7 x8 s = some w → Rn g mdX12_years 131 [some (.ref 0), none, none, some (.int a3), some (.int a4), none, some (.int w.2.1), some (.int w.2.2.1), none] [] (mW w.2.2.2.2) 0 0 r h2 → Rn g mdX12_years 74 [some (.ref 0), some (.int a1), some (.int a2), some (.int a3), some (.int a4), some (.int x5), some (.int x6), some (.int x7), some (.int x8)] [] (mW s) 0 0 r h2 := by
  intro n
  induction n with
  | zero => intro x5 x6 x7 x8 s w hf K; cases hf
  | succ n ih =>
    intro x5 x6 x7 x8 s w hf K
    rw [fX12_years_L74] at hf
    refine o_iload (pc := 74) dX12_years_74 rfl ?_
    refine o_iload_n (pc := 76) dX12_years_76 rfl ?_
    refine o_icmp_ge (pc := 77) 131 dX12_years_77 rfl (fun hc => ?_) (fun hc => ?_)
    · have hf := it_t hf hc
      obtain rfl := Option.some.inj hf
      refine o_keep [true, false, false, true, true, false, true, true, false] ?_
      exact K
    · have hf := it_f hf hc
      refine o_aload_n (pc := 80) dX12_years_80 rfl ?_
      refine m_getA (pc := 81) 1 1 (by decide) rfl rfl lkX12_9 dX12_years_81 ?_
      refine o_bipush (pc := 84) (v := 11) dX12_years_84 rfl ?_
      refine o_iload (pc := 86) dX12_years_86 rfl ?_
      obtain ⟨hk17, hf⟩ := ck_elim hf
      refine m_iast (pc := 88) (by decide) rfl hk17 dX12_years_88 ?_
      refine lz_s (mW) hf (fun s18 hf => ?_)
      show Rn g mdX12_years 89 [some (.ref 0), some (.int a1), some (.int a2), some (.int a3), some (.int a4), some (.int x5), some (.int x6), some (.int x7), some (.int x8)] [] (mW s18) 0 0 r h2
      refine o_aload_n (pc := 89) dX12_years_89 rfl ?_
      refine o_iload_n (pc := 90) dX12_years_90 rfl ?_
      obtain ⟨q20, hk19, hf⟩ := bd_elim hf
      refine m_callV (pc := 91) [.int a2] dX12_years_91 (kX12_goes hk19) stX12_512 ⟨by decide, by decide, by decide, by decide⟩ ⟨rfl, rfl⟩ (Nat.le_of_ble_eq_true rfl) ?_
      show Rn g mdX12_years 94 [some (.ref 0), some (.int a1), some (.int a2), some (.int a3), some (.int a4), some (.int x5), some (.int x6), some (.int x7), some (.int x8)] [] (mW q20) 0 0 r h2
      refine o_iload (pc := 94) dX12_years_94 rfl ?_
      refine o_aload_n (pc := 96) dX12_years_96 rfl ?_
      refine m_getI (pc := 97) 71 (by decide) rfl lkX12_509 dX12_years_97 ?_
      refine o_iadd (pc := 100) dX12_years_100 ?_
      refine lz_i hf (fun v21 hf => ?_)
      refine o_istore (pc := 101) dX12_years_101 (by decide) rfl ?_
      show Rn g mdX12_years 103 [some (.ref 0), some (.int a1), some (.int a2), some (.int a3), some (.int a4), some (.int x5), some (.int v21), some (.int x7), some (.int x8)] [] (mW q20) 0 0 r h2
      refine o_iload (pc := 103) dX12_years_103 rfl ?_
      refine o_aload_n (pc := 105) dX12_years_105 rfl ?_
      refine m_getI (pc := 106) 69 (by decide) rfl lkX12_503 dX12_years_106 ?_
      refine o_iadd (pc := 109) dX12_years_109 ?_
      refine lz_i hf (fun v22 hf => ?_)
      refine o_istore (pc := 110) dX12_years_110 (by decide) rfl ?_
      show Rn g mdX12_years 112 [some (.ref 0), some (.int a1), some (.int a2), some (.int a3), some (.int a4), some (.int x5), some (.int v21), some (.int v22), some (.int x8)] [] (mW q20) 0 0 r h2
      refine o_aload_n (pc := 112) dX12_years_112 rfl ?_
      refine m_getA (pc := 113) 1 1 (by decide) rfl rfl lkX12_9 dX12_years_113 ?_
      refine o_bipush (pc := 116) (v := 11) dX12_years_116 rfl ?_
      obtain ⟨hk23, hf⟩ := ck_elim hf
      refine m_iald (pc := 118) (by decide) rfl hk23 dX12_years_118 ?_
      refine lz_i hf (fun v24 hf => ?_)
      refine o_istore (pc := 119) dX12_years_119 (by decide) rfl ?_
      show Rn g mdX12_years 121 [some (.ref 0), some (.int a1), some (.int a2), some (.int a3), some (.int a4), some (.int v24), some (.int v21), some (.int v22), some (.int x8)] [] (mW q20) 0 0 r h2
      refine o_aload_n (pc := 121) dX12_years_121 rfl ?_
      obtain ⟨q26, hk25, hf⟩ := bd_elim hf
      refine m_callV (pc := 122) [] dX12_years_122 (kX12_laysBack hk25) stX12_515 ⟨by decide, by decide, by decide, by decide⟩ ⟨rfl, rfl⟩ (Nat.le_of_ble_eq_true rfl) ?_
      show Rn g mdX12_years 125 [some (.ref 0), some (.int a1), some (.int a2), some (.int a3), some (.int a4), some (.int v24), some (.int v21), some (.int v22), some (.int x8)] [] (mW q26) 0 0 r h2
      refine o_iinc (pc := 125) dX12_years_125 rfl (by decide) rfl ?_
      show Rn g mdX12_years 128 [some (.ref 0), some (.int a1), some (.int a2), some (.int a3), some (.int a4), some (.int v24), some (.int v21), some (.int v22), some (.int (x8 + 1))] [] (mW q26) 0 0 r h2
      obtain ⟨v27, ev27, hf⟩ := lt_elim hf
      rw [ev27]
      show Rn g mdX12_years 128 [some (.ref 0), some (.int a1), some (.int a2), some (.int a3), some (.int a4), some (.int v24), some (.int v21), some (.int v22), some (.int v27)] [] (mW q26) 0 0 r h2
      refine o_goto (pc := 128) 74 dX12_years_128 rfl ?_
      exact ih _ _ _ _ _ hf K
set_option maxRecDepth 20000 in
theorem kX12_years {g : GX} {p0 : Int32} {p1 : Int32} {p2 : Int32} {s : ST} {q : Int32 × ST} (hf : fX12_years p0 p1 p2 s = some q) : Cn g mdX12_years [.ref 0, .int p0, .int p1, .int p2] (mW s) (some (.int q.1)) (mW q.2) := by
  refine Cn.of (by decide) (Nat.le_of_ble_eq_true rfl) ?_
  show Rn g mdX12_years 0 [some (.ref 0), some (.int p0), some (.int p1), some (.int p2), none, none, none, none, none] [] (mW s) 0 0 (some (.int q.1)) (mW q.2)
  unfold fX12_years at hf
  refine o_aload_n (pc := 0) dX12_years_0 rfl ?_
  obtain ⟨q2, hk1, hf⟩ := bd_elim hf
  refine m_callV (pc := 1) [] dX12_years_1 (kX12_isTown hk1) stX12_485 ⟨by decide, by decide, by decide, by decide⟩ ⟨rfl, rfl⟩ (Nat.le_of_ble_eq_true rfl) ?_
  show Rn g mdX12_years 4 [some (.ref 0), some (.int p0), some (.int p1), some (.int p2), none, none, none, none, none] [.int q2] (mW s) 0 0 (some (.int q.1)) (mW q.2)
  obtain ⟨b3, hr4, hf⟩ := bd_elim hf
  have KB5 : (b3 = true → Rn g mdX12_years 41 [some (.ref 0), some (.int p0), some (.int p1), some (.int p2), none, none, none, none, none] [] (mW s) 0 0 (some (.int q.1)) (mW q.2)) ∧ (¬ b3 = true → Rn g mdX12_years 43 [some (.ref 0), some (.int p0), some (.int p1), some (.int p2), none, none, none, none, none] [] (mW s) 0 0 (some (.int q.1)) (mW q.2)) := by
    refine ⟨fun hc => ?_, fun hc => ?_⟩
    · have hf := it_t hf hc
      refine o_iconst (pc := 41) (v := (-1)) dX12_years_41 rfl ?_
      obtain rfl := Option.some.inj hf
      exact o_ireturn (pc := 42) dX12_years_42 rfl (Nat.zero_le _) (Nat.zero_le _)
    · have hf := it_f hf hc
      refine o_aload_n (pc := 43) dX12_years_43 rfl ?_
      refine m_getA (pc := 44) 1 1 (by decide) rfl rfl lkX12_9 dX12_years_44 ?_
      refine o_bipush (pc := 47) (v := 11) dX12_years_47 rfl ?_
      obtain ⟨hk12, hf⟩ := ck_elim hf
      refine m_iald (pc := 49) (by decide) rfl hk12 dX12_years_49 ?_
      refine lz_i hf (fun v13 hf => ?_)
      refine o_istore (pc := 50) dX12_years_50 (by decide) rfl ?_
      show Rn g mdX12_years 52 [some (.ref 0), some (.int p0), some (.int p1), some (.int p2), some (.int v13), none, none, none, none] [] (mW s) 0 0 (some (.int q.1)) (mW q.2)
      refine o_iload (pc := 52) dX12_years_52 rfl ?_
      refine o_istore (pc := 54) dX12_years_54 (by decide) rfl ?_
      show Rn g mdX12_years 56 [some (.ref 0), some (.int p0), some (.int p1), some (.int p2), some (.int v13), some (.int v13), none, none, none] [] (mW s) 0 0 (some (.int q.1)) (mW q.2)
      refine o_iconst (pc := 56) (v := 0) dX12_years_56 rfl ?_
      refine o_istore (pc := 57) dX12_years_57 (by decide) rfl ?_
      show Rn g mdX12_years 59 [some (.ref 0), some (.int p0), some (.int p1), some (.int p2), some (.int v13), some (.int v13), some (.int 0), none, none] [] (mW s) 0 0 (some (.int q.1)) (mW q.2)
      refine o_iconst (pc := 59) (v := 0) dX12_years_59 rfl ?_
      refine o_istore (pc := 60) dX12_years_60 (by decide) rfl ?_
      show Rn g mdX12_years 62 [some (.ref 0), some (.int p0), some (.int p1), some (.int p2), some (.int v13), some (.int v13), some (.int 0), some (.int 0), none] [] (mW s) 0 0 (some (.int q.1)) (mW q.2)
      refine o_aload_n (pc := 62) dX12_years_62 rfl ?_
      obtain ⟨q15, hk14, hf⟩ := bd_elim hf
      refine m_callV (pc := 63) [] dX12_years_63 (kX12_keepsAll hk14) stX12_522 ⟨by decide, by decide, by decide, by decide⟩ ⟨rfl, rfl⟩ (Nat.le_of_ble_eq_true rfl) ?_
      show Rn g mdX12_years 66 [some (.ref 0), some (.int p0), some (.int p1), some (.int p2), some (.int v13), some (.int v13), some (.int 0), some (.int 0), none] [] (mW q15) 0 0 (some (.int q.1)) (mW q.2)
      refine o_aload_n (pc := 66) dX12_years_66 rfl ?_
      refine o_iconst (pc := 67) (v := 1) dX12_years_67 rfl ?_
      refine m_putI (pc := 68) 63 (by decide) rfl rfl lkX12_410 ⟨rfl, rfl⟩ dX12_years_68 ?_
      refine lz_s (mW) hf (fun s16 hf => ?_)
      show Rn g mdX12_years 71 [some (.ref 0), some (.int p0), some (.int p1), some (.int p2), some (.int v13), some (.int v13), some (.int 0), some (.int 0), none] [] (mW s16) 0 0 (some (.int q.1)) (mW q.2)
      refine o_iconst (pc := 71) (v := 0) dX12_years_71 rfl ?_
      refine o_istore (pc := 72) dX12_years_72 (by decide) rfl ?_
      show Rn g mdX12_years 74 [some (.ref 0), some (.int p0), some (.int p1), some (.int p2), some (.int v13), some (.int v13), some (.int 0), some (.int 0), some (.int 0)] [] (mW s16) 0 0 (some (.int q.1)) (mW q.2)
      obtain ⟨w28, hl29, hf⟩ := bd_elim hf
      have K30 : Rn g mdX12_years 131 [some (.ref 0), none, none, some (.int p2), some (.int v13), none, some (.int w28.2.1), some (.int w28.2.2.1), none] [] (mW w28.2.2.2.2) 0 0 (some (.int q.1)) (mW q.2) := by
        refine o_aload_n (pc := 131) dX12_years_131 rfl ?_
        refine o_iconst (pc := 132) (v := 0) dX12_years_132 rfl ?_
        refine m_putI (pc := 133) 63 (by decide) rfl rfl lkX12_410 ⟨rfl, rfl⟩ dX12_years_133 ?_
        refine lz_s (mW) hf (fun s31 hf => ?_)
        show Rn g mdX12_years 136 [some (.ref 0), none, none, some (.int p2), some (.int v13), none, some (.int w28.2.1), some (.int w28.2.2.1), none] [] (mW s31) 0 0 (some (.int q.1)) (mW q.2)
        refine o_aload_n (pc := 136) dX12_years_136 rfl ?_
        refine m_getA (pc := 137) 1 1 (by decide) rfl rfl lkX12_9 dX12_years_137 ?_
        refine o_bipush (pc := 140) (v := 11) dX12_years_140 rfl ?_
        refine o_iload (pc := 142) dX12_years_142 rfl ?_
        obtain ⟨hk32, hf⟩ := ck_elim hf
        refine m_iast (pc := 144) (by decide) rfl hk32 dX12_years_144 ?_
        refine lz_s (mW) hf (fun s33 hf => ?_)
        show Rn g mdX12_years 145 [some (.ref 0), none, none, some (.int p2), some (.int v13), none, some (.int w28.2.1), some (.int w28.2.2.1), none] [] (mW s33) 0 0 (some (.int q.1)) (mW q.2)
        refine o_iload_n (pc := 145) dX12_years_145 rfl ?_
        obtain ⟨w34, hr35, hf⟩ := bd_elim hf
        have K36 : Rn g mdX12_years 156 [none, none, none, none, none, none, none, none, none] [.int w34] (mW s33) 0 0 (some (.int q.1)) (mW q.2) := by
          obtain rfl := Option.some.inj hf
          exact o_ireturn (pc := 156) dX12_years_156 rfl (Nat.zero_le _) (Nat.zero_le _)
        clear hf
        refine o_if_ne (pc := 146) 154 dX12_years_146 rfl (fun hc => ?_) (fun hc => ?_)
        · have hr35 := it_f hr35 hc
          refine o_iload (pc := 154) dX12_years_154 rfl ?_
          obtain rfl := Option.some.inj hr35
          refine o_keep [false, false, false, false, false, false, false, false, false] ?_
          exact K36
        · have hr35 := it_t hr35 hc
          refine o_iload (pc := 149) dX12_years_149 rfl ?_
          refine o_goto (pc := 151) 156 dX12_years_151 rfl ?_
          obtain rfl := Option.some.inj hr35
          refine o_keep [false, false, false, false, false, false, false, false, false] ?_
          exact K36
      exact kX12_years_L74 _ _ _ _ _ _ _ _ _ _ hl29 K30
  clear hf
  refine o_if_eq (pc := 4) 41 dX12_years_4 rfl (fun hc => ?_) (fun hc => ?_)
  · have hr4 := it_t hr4 hc
    obtain rfl := Option.some.inj hr4
    exact KB5.1 rfl
  · have hr4 := it_f hr4 hc
    refine o_iload_n (pc := 7) dX12_years_7 rfl ?_
    refine o_i2l (pc := 8) dX12_years_8 ?_
    refine o_lconst (pc := 9) (v := 1) dX12_years_9 rfl ?_
    refine o_ldc2 (pc := 10) dX12_years_10 lcX12_561 ?_
    obtain ⟨q7, hk6, hr4⟩ := bd_elim hr4
    refine m_callS (pc := 13) [.long p0.toInt64, .long 1, .long 10] dX12_years_13 (kX12_in hk6) stX12_191 ⟨by decide, by decide, by decide, by decide⟩ ⟨rfl, rfl⟩ (Nat.le_of_ble_eq_true rfl) ?_
    show Rn g mdX12_years 16 [some (.ref 0), some (.int p0), some (.int p1), some (.int p2), none, none, none, none, none] [.int q7] (mW s) 0 0 (some (.int q.1)) (mW q.2)
    refine o_if_eq (pc := 16) 41 dX12_years_16 rfl (fun hc => ?_) (fun hc => ?_)
    · have hr4 := it_t hr4 hc
      obtain rfl := Option.some.inj hr4
      exact KB5.1 rfl
    · have hr4 := it_f hr4 hc
      refine o_iload_n (pc := 19) dX12_years_19 rfl ?_
      refine o_i2l (pc := 20) dX12_years_20 ?_
      refine o_lconst (pc := 21) (v := 1) dX12_years_21 rfl ?_
      refine o_ldc2 (pc := 22) dX12_years_22 lcX12_563 ?_
      obtain ⟨q9, hk8, hr4⟩ := bd_elim hr4
      refine m_callS (pc := 25) [.long p1.toInt64, .long 1, .long 60] dX12_years_25 (kX12_in hk8) stX12_191 ⟨by decide, by decide, by decide, by decide⟩ ⟨rfl, rfl⟩ (Nat.le_of_ble_eq_true rfl) ?_
      show Rn g mdX12_years 28 [some (.ref 0), some (.int p0), some (.int p1), some (.int p2), none, none, none, none, none] [.int q9] (mW s) 0 0 (some (.int q.1)) (mW q.2)
      refine o_if_eq (pc := 28) 41 dX12_years_28 rfl (fun hc => ?_) (fun hc => ?_)
      · have hr4 := it_t hr4 hc
        obtain rfl := Option.some.inj hr4
        exact KB5.1 rfl
      · have hr4 := it_f hr4 hc
        refine o_iload_n (pc := 31) dX12_years_31 rfl ?_
        refine o_i2l (pc := 32) dX12_years_32 ?_
        refine o_lconst (pc := 33) (v := 0) dX12_years_33 rfl ?_
        refine o_lconst (pc := 34) (v := 1) dX12_years_34 rfl ?_
        obtain ⟨q11, hk10, hr4⟩ := bd_elim hr4
        refine m_callS (pc := 35) [.long p2.toInt64, .long 0, .long 1] dX12_years_35 (kX12_in hk10) stX12_191 ⟨by decide, by decide, by decide, by decide⟩ ⟨rfl, rfl⟩ (Nat.le_of_ble_eq_true rfl) ?_
        show Rn g mdX12_years 38 [some (.ref 0), some (.int p0), some (.int p1), some (.int p2), none, none, none, none, none] [.int q11] (mW s) 0 0 (some (.int q.1)) (mW q.2)
        refine o_if_ne (pc := 38) 43 dX12_years_38 rfl (fun hc => ?_) (fun hc => ?_)
        · have hr4 := it_f hr4 hc
          obtain rfl := Option.some.inj hr4
          exact KB5.2 (by decide)
        · have hr4 := it_t hr4 hc
          obtain rfl := Option.some.inj hr4
          exact KB5.1 rfl
def fX12_allOf_5_L4 : Nat → Int32 → Int32 → ST → Option (Int32 × Int32)
  | 0, _, _, _ => none
  | n + 1, x1, x2, s => if 5 ≤ x2 then some (x1, x2) else ck (inb x2 5) (lt (x1 + (gi s 5 (ix x2)) : Int32) (fun v2 => lt (x2 + 1) (fun v3 => fX12_allOf_5_L4 n v2 v3 s)))
def fX12_allOf_5 (s : ST) : Option (Int32) :=
  (fX12_allOf_5_L4 FUEL 0 0 s).bind (fun w4 => some w4.1)
set_option maxRecDepth 20000 in
theorem kX12_allOf_5_L4 {g : GX} (s : ST) {r : Option Value} {h2 : PH} : ∀ (n : Nat) (x1 : Int32) (x2 : Int32) {w : Int32 × Int32}, fX12_allOf_5_L4 n x1 x2 s = some w → Rn g mdX12_allOf 22 [none, some (.int w.1), none] [] (mW s) 0 0 r h2 → Rn g mdX12_allOf 4 [some (.ref 5), some (.int x1), some (.int x2)] [] (mW s) 0 0 r h2 := by
  intro n
  induction n with
  | zero => intro x1 x2 w hf K; cases hf
  | succ n ih =>
    intro x1 x2 w hf K
    rw [fX12_allOf_5_L4] at hf
    refine o_iload_n (pc := 4) dX12_allOf_4 rfl ?_
    refine o_aload_n (pc := 5) dX12_allOf_5 rfl ?_
    refine m_alen (pc := 6) 5 (by decide) (by decide) rfl rfl dX12_allOf_6 ?_
    refine o_icmp_ge (pc := 7) 22 dX12_allOf_7 rfl (fun hc => ?_) (fun hc => ?_)
    · have hf := it_t hf hc
      obtain rfl := Option.some.inj hf
      refine o_keep [false, true, false] ?_
      exact K
    · have hf := it_f hf hc
      refine o_iload_n (pc := 10) dX12_allOf_10 rfl ?_
      refine o_aload_n (pc := 11) dX12_allOf_11 rfl ?_
      refine o_iload_n (pc := 12) dX12_allOf_12 rfl ?_
      obtain ⟨hk1, hf⟩ := ck_elim hf
      refine m_iald (pc := 13) (by decide) rfl hk1 dX12_allOf_13 ?_
      refine o_iadd (pc := 14) dX12_allOf_14 ?_
      refine lz_i hf (fun v2 hf => ?_)
      refine o_istore_n (pc := 15) dX12_allOf_15 (by decide) rfl ?_
      show Rn g mdX12_allOf 16 [some (.ref 5), some (.int v2), some (.int x2)] [] (mW s) 0 0 r h2
      refine o_iinc (pc := 16) dX12_allOf_16 rfl (by decide) rfl ?_
      show Rn g mdX12_allOf 19 [some (.ref 5), some (.int v2), some (.int (x2 + 1))] [] (mW s) 0 0 r h2
      obtain ⟨v3, ev3, hf⟩ := lt_elim hf
      rw [ev3]
      show Rn g mdX12_allOf 19 [some (.ref 5), some (.int v2), some (.int v3)] [] (mW s) 0 0 r h2
      refine o_goto (pc := 19) 4 dX12_allOf_19 rfl ?_
      exact ih _ _ hf K
set_option maxRecDepth 20000 in
theorem kX12_allOf_5 {g : GX} {s : ST} {q : Int32} (hf : fX12_allOf_5 s = some q) : Cn g mdX12_allOf [.ref 5] (mW s) (some (.int q)) (mW s) := by
  refine Cn.of (by decide) (Nat.le_of_ble_eq_true rfl) ?_
  show Rn g mdX12_allOf 0 [some (.ref 5), none, none] [] (mW s) 0 0 (some (.int q)) (mW s)
  unfold fX12_allOf_5 at hf
  refine o_iconst (pc := 0) (v := 0) dX12_allOf_0 rfl ?_
  refine o_istore_n (pc := 1) dX12_allOf_1 (by decide) rfl ?_
  show Rn g mdX12_allOf 2 [some (.ref 5), some (.int 0), none] [] (mW s) 0 0 (some (.int q)) (mW s)
  refine o_iconst (pc := 2) (v := 0) dX12_allOf_2 rfl ?_
  refine o_istore_n (pc := 3) dX12_allOf_3 (by decide) rfl ?_
  show Rn g mdX12_allOf 4 [some (.ref 5), some (.int 0), some (.int 0)] [] (mW s) 0 0 (some (.int q)) (mW s)
  obtain ⟨w4, hl5, hf⟩ := bd_elim hf
  have K6 : Rn g mdX12_allOf 22 [none, some (.int w4.1), none] [] (mW s) 0 0 (some (.int q)) (mW s) := by
    refine o_iload_n (pc := 22) dX12_allOf_22 rfl ?_
    obtain rfl := Option.some.inj hf
    exact o_ireturn (pc := 23) dX12_allOf_23 rfl (Nat.zero_le _) (Nat.zero_le _)
  exact kX12_allOf_5_L4 _ _ _ _ hl5 K6
def fX12_allOf_6_L4 : Nat → Int32 → Int32 → ST → Option (Int32 × Int32)
  | 0, _, _, _ => none
  | n + 1, x1, x2, s => if 5 ≤ x2 then some (x1, x2) else ck (inb x2 5) (lt (x1 + (gi s 6 (ix x2)) : Int32) (fun v2 => lt (x2 + 1) (fun v3 => fX12_allOf_6_L4 n v2 v3 s)))
def fX12_allOf_6 (s : ST) : Option (Int32) :=
  (fX12_allOf_6_L4 FUEL 0 0 s).bind (fun w4 => some w4.1)
set_option maxRecDepth 20000 in
theorem kX12_allOf_6_L4 {g : GX} (s : ST) {r : Option Value} {h2 : PH} : ∀ (n : Nat) (x1 : Int32) (x2 : Int32) {w : Int32 × Int32}, fX12_allOf_6_L4 n x1 x2 s = some w → Rn g mdX12_allOf 22 [none, some (.int w.1), none] [] (mW s) 0 0 r h2 → Rn g mdX12_allOf 4 [some (.ref 6), some (.int x1), some (.int x2)] [] (mW s) 0 0 r h2 := by
  intro n
  induction n with
  | zero => intro x1 x2 w hf K; cases hf
  | succ n ih =>
    intro x1 x2 w hf K
    rw [fX12_allOf_6_L4] at hf
    refine o_iload_n (pc := 4) dX12_allOf_4 rfl ?_
    refine o_aload_n (pc := 5) dX12_allOf_5 rfl ?_
    refine m_alen (pc := 6) 5 (by decide) (by decide) rfl rfl dX12_allOf_6 ?_
    refine o_icmp_ge (pc := 7) 22 dX12_allOf_7 rfl (fun hc => ?_) (fun hc => ?_)
    · have hf := it_t hf hc
      obtain rfl := Option.some.inj hf
      refine o_keep [false, true, false] ?_
      exact K
    · have hf := it_f hf hc
      refine o_iload_n (pc := 10) dX12_allOf_10 rfl ?_
      refine o_aload_n (pc := 11) dX12_allOf_11 rfl ?_
      refine o_iload_n (pc := 12) dX12_allOf_12 rfl ?_
      obtain ⟨hk1, hf⟩ := ck_elim hf
      refine m_iald (pc := 13) (by decide) rfl hk1 dX12_allOf_13 ?_
      refine o_iadd (pc := 14) dX12_allOf_14 ?_
      refine lz_i hf (fun v2 hf => ?_)
      refine o_istore_n (pc := 15) dX12_allOf_15 (by decide) rfl ?_
      show Rn g mdX12_allOf 16 [some (.ref 6), some (.int v2), some (.int x2)] [] (mW s) 0 0 r h2
      refine o_iinc (pc := 16) dX12_allOf_16 rfl (by decide) rfl ?_
      show Rn g mdX12_allOf 19 [some (.ref 6), some (.int v2), some (.int (x2 + 1))] [] (mW s) 0 0 r h2
      obtain ⟨v3, ev3, hf⟩ := lt_elim hf
      rw [ev3]
      show Rn g mdX12_allOf 19 [some (.ref 6), some (.int v2), some (.int v3)] [] (mW s) 0 0 r h2
      refine o_goto (pc := 19) 4 dX12_allOf_19 rfl ?_
      exact ih _ _ hf K
set_option maxRecDepth 20000 in
theorem kX12_allOf_6 {g : GX} {s : ST} {q : Int32} (hf : fX12_allOf_6 s = some q) : Cn g mdX12_allOf [.ref 6] (mW s) (some (.int q)) (mW s) := by
  refine Cn.of (by decide) (Nat.le_of_ble_eq_true rfl) ?_
  show Rn g mdX12_allOf 0 [some (.ref 6), none, none] [] (mW s) 0 0 (some (.int q)) (mW s)
  unfold fX12_allOf_6 at hf
  refine o_iconst (pc := 0) (v := 0) dX12_allOf_0 rfl ?_
  refine o_istore_n (pc := 1) dX12_allOf_1 (by decide) rfl ?_
  show Rn g mdX12_allOf 2 [some (.ref 6), some (.int 0), none] [] (mW s) 0 0 (some (.int q)) (mW s)
  refine o_iconst (pc := 2) (v := 0) dX12_allOf_2 rfl ?_
  refine o_istore_n (pc := 3) dX12_allOf_3 (by decide) rfl ?_
  show Rn g mdX12_allOf 4 [some (.ref 6), some (.int 0), some (.int 0)] [] (mW s) 0 0 (some (.int q)) (mW s)
  obtain ⟨w4, hl5, hf⟩ := bd_elim hf
  have K6 : Rn g mdX12_allOf 22 [none, some (.int w4.1), none] [] (mW s) 0 0 (some (.int q)) (mW s) := by
    refine o_iload_n (pc := 22) dX12_allOf_22 rfl ?_
    obtain rfl := Option.some.inj hf
    exact o_ireturn (pc := 23) dX12_allOf_23 rfl (Nat.zero_le _) (Nat.zero_le _)
  exact kX12_allOf_6_L4 _ _ _ _ hl5 K6
def fX12_count (p0 : Int32) (s : ST) : Option (Int32) :=
  if p0 = 0 then ck (inb 0 13) (some (gi s 1 (ix 0))) else if p0 = 1 then ck (inb 1 13) (some (gi s 1 (ix 1))) else if p0 = 2 then ck (inb 2 13) (some (gi s 1 (ix 2))) else if p0 = 3 then ck (inb 3 13) (some (gi s 1 (ix 3))) else if p0 = 4 then ck (inb 4 13) (some (gi s 1 (ix 4))) else if p0 = 5 then some (gi s 0 30) else if p0 = 6 then ck (inb 12 13) (some (gi s 1 (ix 12))) else if p0 = 7 then ck (inb 9 13) (some (gi s 1 (ix 9))) else if p0 = 8 then ck (inb 8 13) (some (gi s 1 (ix 8))) else if p0 = 9 then (fX12_allOf_5 s).bind (fun q20 => some q20) else if p0 = 10 then (fX12_allOf_6 s).bind (fun q23 => some q23) else if p0 = 11 then ck (inb 10 13) (some (gi s 1 (ix 10))) else if p0 = 12 then some (gi s 0 66) else if p0 = 13 then ck (inb 11 13) (some (gi s 1 (ix 11))) else if p0 = 14 then some (gi s 0 26) else some (-1)
set_option maxRecDepth 20000 in
theorem kX12_count {g : GX} {p0 : Int32} {s : ST} {q : Int32} (hf : fX12_count p0 s = some q) : Cn g mdX12_count [.ref 0, .int p0] (mW s) (some (.int q)) (mW s) := by
  refine Cn.of (by decide) (Nat.le_of_ble_eq_true rfl) ?_
  show Rn g mdX12_count 0 [some (.ref 0), some (.int p0)] [] (mW s) 0 0 (some (.int q)) (mW s)
  unfold fX12_count at hf
  refine o_iload_n (pc := 0) dX12_count_0 rfl ?_
  by_cases hx1 : p0 = 0
  · have hf := it_t hf hx1
    refine o_tableIn (pc := 1) 76 dX12_count_1 (by rw [hx1] <;> decide) (by rw [hx1] <;> decide) (by rw [hx1] <;> rfl) rfl ?_
    refine o_aload_n (pc := 76) dX12_count_76 rfl ?_
    refine m_getA (pc := 77) 1 1 (by decide) rfl rfl lkX12_9 dX12_count_77 ?_
    refine o_iconst (pc := 80) (v := 0) dX12_count_80 rfl ?_
    obtain ⟨hk2, hf⟩ := ck_elim hf
    refine m_iald (pc := 81) (by decide) rfl hk2 dX12_count_81 ?_
    obtain rfl := Option.some.inj hf
    exact o_ireturn (pc := 82) dX12_count_82 rfl (Nat.zero_le _) (Nat.zero_le _)
  have hf := it_f hf hx1
  by_cases hx3 : p0 = 1
  · have hf := it_t hf hx3
    refine o_tableIn (pc := 1) 83 dX12_count_1 (by rw [hx3] <;> decide) (by rw [hx3] <;> decide) (by rw [hx3] <;> rfl) rfl ?_
    refine o_aload_n (pc := 83) dX12_count_83 rfl ?_
    refine m_getA (pc := 84) 1 1 (by decide) rfl rfl lkX12_9 dX12_count_84 ?_
    refine o_iconst (pc := 87) (v := 1) dX12_count_87 rfl ?_
    obtain ⟨hk4, hf⟩ := ck_elim hf
    refine m_iald (pc := 88) (by decide) rfl hk4 dX12_count_88 ?_
    obtain rfl := Option.some.inj hf
    exact o_ireturn (pc := 89) dX12_count_89 rfl (Nat.zero_le _) (Nat.zero_le _)
  have hf := it_f hf hx3
  by_cases hx5 : p0 = 2
  · have hf := it_t hf hx5
    refine o_tableIn (pc := 1) 90 dX12_count_1 (by rw [hx5] <;> decide) (by rw [hx5] <;> decide) (by rw [hx5] <;> rfl) rfl ?_
    refine o_aload_n (pc := 90) dX12_count_90 rfl ?_
    refine m_getA (pc := 91) 1 1 (by decide) rfl rfl lkX12_9 dX12_count_91 ?_
    refine o_iconst (pc := 94) (v := 2) dX12_count_94 rfl ?_
    obtain ⟨hk6, hf⟩ := ck_elim hf
    refine m_iald (pc := 95) (by decide) rfl hk6 dX12_count_95 ?_
    obtain rfl := Option.some.inj hf
    exact o_ireturn (pc := 96) dX12_count_96 rfl (Nat.zero_le _) (Nat.zero_le _)
  have hf := it_f hf hx5
  by_cases hx7 : p0 = 3
  · have hf := it_t hf hx7
    refine o_tableIn (pc := 1) 97 dX12_count_1 (by rw [hx7] <;> decide) (by rw [hx7] <;> decide) (by rw [hx7] <;> rfl) rfl ?_
    refine o_aload_n (pc := 97) dX12_count_97 rfl ?_
    refine m_getA (pc := 98) 1 1 (by decide) rfl rfl lkX12_9 dX12_count_98 ?_
    refine o_iconst (pc := 101) (v := 3) dX12_count_101 rfl ?_
    obtain ⟨hk8, hf⟩ := ck_elim hf
    refine m_iald (pc := 102) (by decide) rfl hk8 dX12_count_102 ?_
    obtain rfl := Option.some.inj hf
    exact o_ireturn (pc := 103) dX12_count_103 rfl (Nat.zero_le _) (Nat.zero_le _)
  have hf := it_f hf hx7
  by_cases hx9 : p0 = 4
  · have hf := it_t hf hx9
    refine o_tableIn (pc := 1) 104 dX12_count_1 (by rw [hx9] <;> decide) (by rw [hx9] <;> decide) (by rw [hx9] <;> rfl) rfl ?_
    refine o_aload_n (pc := 104) dX12_count_104 rfl ?_
    refine m_getA (pc := 105) 1 1 (by decide) rfl rfl lkX12_9 dX12_count_105 ?_
    refine o_iconst (pc := 108) (v := 4) dX12_count_108 rfl ?_
    obtain ⟨hk10, hf⟩ := ck_elim hf
    refine m_iald (pc := 109) (by decide) rfl hk10 dX12_count_109 ?_
    obtain rfl := Option.some.inj hf
    exact o_ireturn (pc := 110) dX12_count_110 rfl (Nat.zero_le _) (Nat.zero_le _)
  have hf := it_f hf hx9
  by_cases hx11 : p0 = 5
  · have hf := it_t hf hx11
    refine o_tableIn (pc := 1) 111 dX12_count_1 (by rw [hx11] <;> decide) (by rw [hx11] <;> decide) (by rw [hx11] <;> rfl) rfl ?_
    refine o_aload_n (pc := 111) dX12_count_111 rfl ?_
    refine m_getI (pc := 112) 30 (by decide) rfl lkX12_379 dX12_count_112 ?_
    obtain rfl := Option.some.inj hf
    exact o_ireturn (pc := 115) dX12_count_115 rfl (Nat.zero_le _) (Nat.zero_le _)
  have hf := it_f hf hx11
  by_cases hx12 : p0 = 6
  · have hf := it_t hf hx12
    refine o_tableIn (pc := 1) 116 dX12_count_1 (by rw [hx12] <;> decide) (by rw [hx12] <;> decide) (by rw [hx12] <;> rfl) rfl ?_
    refine o_aload_n (pc := 116) dX12_count_116 rfl ?_
    refine m_getA (pc := 117) 1 1 (by decide) rfl rfl lkX12_9 dX12_count_117 ?_
    refine o_bipush (pc := 120) (v := 12) dX12_count_120 rfl ?_
    obtain ⟨hk13, hf⟩ := ck_elim hf
    refine m_iald (pc := 122) (by decide) rfl hk13 dX12_count_122 ?_
    obtain rfl := Option.some.inj hf
    exact o_ireturn (pc := 123) dX12_count_123 rfl (Nat.zero_le _) (Nat.zero_le _)
  have hf := it_f hf hx12
  by_cases hx14 : p0 = 7
  · have hf := it_t hf hx14
    refine o_tableIn (pc := 1) 124 dX12_count_1 (by rw [hx14] <;> decide) (by rw [hx14] <;> decide) (by rw [hx14] <;> rfl) rfl ?_
    refine o_aload_n (pc := 124) dX12_count_124 rfl ?_
    refine m_getA (pc := 125) 1 1 (by decide) rfl rfl lkX12_9 dX12_count_125 ?_
    refine o_bipush (pc := 128) (v := 9) dX12_count_128 rfl ?_
    obtain ⟨hk15, hf⟩ := ck_elim hf
    refine m_iald (pc := 130) (by decide) rfl hk15 dX12_count_130 ?_
    obtain rfl := Option.some.inj hf
    exact o_ireturn (pc := 131) dX12_count_131 rfl (Nat.zero_le _) (Nat.zero_le _)
  have hf := it_f hf hx14
  by_cases hx16 : p0 = 8
  · have hf := it_t hf hx16
    refine o_tableIn (pc := 1) 132 dX12_count_1 (by rw [hx16] <;> decide) (by rw [hx16] <;> decide) (by rw [hx16] <;> rfl) rfl ?_
    refine o_aload_n (pc := 132) dX12_count_132 rfl ?_
    refine m_getA (pc := 133) 1 1 (by decide) rfl rfl lkX12_9 dX12_count_133 ?_
    refine o_bipush (pc := 136) (v := 8) dX12_count_136 rfl ?_
    obtain ⟨hk17, hf⟩ := ck_elim hf
    refine m_iald (pc := 138) (by decide) rfl hk17 dX12_count_138 ?_
    obtain rfl := Option.some.inj hf
    exact o_ireturn (pc := 139) dX12_count_139 rfl (Nat.zero_le _) (Nat.zero_le _)
  have hf := it_f hf hx16
  by_cases hx18 : p0 = 9
  · have hf := it_t hf hx18
    refine o_tableIn (pc := 1) 140 dX12_count_1 (by rw [hx18] <;> decide) (by rw [hx18] <;> decide) (by rw [hx18] <;> rfl) rfl ?_
    refine o_aload_n (pc := 140) dX12_count_140 rfl ?_
    refine m_getA (pc := 141) 5 5 (by decide) rfl rfl lkX12_22 dX12_count_141 ?_
    obtain ⟨q20, hk19, hf⟩ := bd_elim hf
    refine m_callS (pc := 144) [.ref 5] dX12_count_144 (kX12_allOf_5 hk19) stX12_565 ⟨by decide, by decide, by decide, by decide⟩ ⟨rfl, rfl⟩ (Nat.le_of_ble_eq_true rfl) ?_
    show Rn g mdX12_count 147 [some (.ref 0), some (.int p0)] [.int q20] (mW s) 0 0 (some (.int q)) (mW s)
    obtain rfl := Option.some.inj hf
    exact o_ireturn (pc := 147) dX12_count_147 rfl (Nat.zero_le _) (Nat.zero_le _)
  have hf := it_f hf hx18
  by_cases hx21 : p0 = 10
  · have hf := it_t hf hx21
    refine o_tableIn (pc := 1) 148 dX12_count_1 (by rw [hx21] <;> decide) (by rw [hx21] <;> decide) (by rw [hx21] <;> rfl) rfl ?_
    refine o_aload_n (pc := 148) dX12_count_148 rfl ?_
    refine m_getA (pc := 149) 6 6 (by decide) rfl rfl lkX12_25 dX12_count_149 ?_
    obtain ⟨q23, hk22, hf⟩ := bd_elim hf
    refine m_callS (pc := 152) [.ref 6] dX12_count_152 (kX12_allOf_6 hk22) stX12_565 ⟨by decide, by decide, by decide, by decide⟩ ⟨rfl, rfl⟩ (Nat.le_of_ble_eq_true rfl) ?_
    show Rn g mdX12_count 155 [some (.ref 0), some (.int p0)] [.int q23] (mW s) 0 0 (some (.int q)) (mW s)
    obtain rfl := Option.some.inj hf
    exact o_ireturn (pc := 155) dX12_count_155 rfl (Nat.zero_le _) (Nat.zero_le _)
  have hf := it_f hf hx21
  by_cases hx24 : p0 = 11
  · have hf := it_t hf hx24
    refine o_tableIn (pc := 1) 156 dX12_count_1 (by rw [hx24] <;> decide) (by rw [hx24] <;> decide) (by rw [hx24] <;> rfl) rfl ?_
    refine o_aload_n (pc := 156) dX12_count_156 rfl ?_
    refine m_getA (pc := 157) 1 1 (by decide) rfl rfl lkX12_9 dX12_count_157 ?_
    refine o_bipush (pc := 160) (v := 10) dX12_count_160 rfl ?_
    obtain ⟨hk25, hf⟩ := ck_elim hf
    refine m_iald (pc := 162) (by decide) rfl hk25 dX12_count_162 ?_
    obtain rfl := Option.some.inj hf
    exact o_ireturn (pc := 163) dX12_count_163 rfl (Nat.zero_le _) (Nat.zero_le _)
  have hf := it_f hf hx24
  by_cases hx26 : p0 = 12
  · have hf := it_t hf hx26
    refine o_tableIn (pc := 1) 164 dX12_count_1 (by rw [hx26] <;> decide) (by rw [hx26] <;> decide) (by rw [hx26] <;> rfl) rfl ?_
    refine o_aload_n (pc := 164) dX12_count_164 rfl ?_
    refine m_getI (pc := 165) 66 (by decide) rfl lkX12_366 dX12_count_165 ?_
    obtain rfl := Option.some.inj hf
    exact o_ireturn (pc := 168) dX12_count_168 rfl (Nat.zero_le _) (Nat.zero_le _)
  have hf := it_f hf hx26
  by_cases hx27 : p0 = 13
  · have hf := it_t hf hx27
    refine o_tableIn (pc := 1) 169 dX12_count_1 (by rw [hx27] <;> decide) (by rw [hx27] <;> decide) (by rw [hx27] <;> rfl) rfl ?_
    refine o_aload_n (pc := 169) dX12_count_169 rfl ?_
    refine m_getA (pc := 170) 1 1 (by decide) rfl rfl lkX12_9 dX12_count_170 ?_
    refine o_bipush (pc := 173) (v := 11) dX12_count_173 rfl ?_
    obtain ⟨hk28, hf⟩ := ck_elim hf
    refine m_iald (pc := 175) (by decide) rfl hk28 dX12_count_175 ?_
    obtain rfl := Option.some.inj hf
    exact o_ireturn (pc := 176) dX12_count_176 rfl (Nat.zero_le _) (Nat.zero_le _)
  have hf := it_f hf hx27
  by_cases hx29 : p0 = 14
  · have hf := it_t hf hx29
    refine o_tableIn (pc := 1) 177 dX12_count_1 (by rw [hx29] <;> decide) (by rw [hx29] <;> decide) (by rw [hx29] <;> rfl) rfl ?_
    refine o_aload_n (pc := 177) dX12_count_177 rfl ?_
    refine m_getI (pc := 178) 26 (by decide) rfl lkX12_195 dX12_count_178 ?_
    obtain rfl := Option.some.inj hf
    exact o_ireturn (pc := 181) dX12_count_181 rfl (Nat.zero_le _) (Nat.zero_le _)
  have hf := it_f hf hx29
  refine o_tableOut (pc := 1) 182 dX12_count_1 (sw_out 0 14 (fun n hn => ?_)) rfl ?_
  · match n, hn with
    | 0, _ => exact sw_ne hx1 rfl
    | 1, _ => exact sw_ne hx3 rfl
    | 2, _ => exact sw_ne hx5 rfl
    | 3, _ => exact sw_ne hx7 rfl
    | 4, _ => exact sw_ne hx9 rfl
    | 5, _ => exact sw_ne hx11 rfl
    | 6, _ => exact sw_ne hx12 rfl
    | 7, _ => exact sw_ne hx14 rfl
    | 8, _ => exact sw_ne hx16 rfl
    | 9, _ => exact sw_ne hx18 rfl
    | 10, _ => exact sw_ne hx21 rfl
    | 11, _ => exact sw_ne hx24 rfl
    | 12, _ => exact sw_ne hx26 rfl
    | 13, _ => exact sw_ne hx27 rfl
    | 14, _ => exact sw_ne hx29 rfl
    | n + 15, h => exact absurd h (by omega)
  · refine o_iconst (pc := 182) (v := (-1)) dX12_count_182 rfl ?_
    obtain rfl := Option.some.inj hf
    exact o_ireturn (pc := 183) dX12_count_183 rfl (Nat.zero_le _) (Nat.zero_le _)
def fX12_image (p0 : Int32) (s : ST) : Option (Int32 × ST) :=
  (fX12_in p0.toInt64 0 3 s).bind (fun q2 => if q2 = 0 then some ((-1), s) else ck (inb p0 4) (lt (si s 55 (ix p0) (vp_nar .boolean 1)) (fun s4 => (fX12_carriesAll p0 0 s4).bind (fun q6 => ck (inb 9 13) (some (gi q6 1 (ix 9), q6))))))
set_option maxRecDepth 20000 in
theorem kX12_image {g : GX} {p0 : Int32} {s : ST} {q : Int32 × ST} (hf : fX12_image p0 s = some q) : Cn g mdX12_image [.ref 0, .int p0] (mW s) (some (.int q.1)) (mW q.2) := by
  refine Cn.of (by decide) (Nat.le_of_ble_eq_true rfl) ?_
  show Rn g mdX12_image 0 [some (.ref 0), some (.int p0)] [] (mW s) 0 0 (some (.int q.1)) (mW q.2)
  unfold fX12_image at hf
  refine o_iload_n (pc := 0) dX12_image_0 rfl ?_
  refine o_i2l (pc := 1) dX12_image_1 ?_
  refine o_lconst (pc := 2) (v := 0) dX12_image_2 rfl ?_
  refine o_ldc2 (pc := 3) dX12_image_3 lcX12_525 ?_
  obtain ⟨q2, hk1, hf⟩ := bd_elim hf
  refine m_callS (pc := 6) [.long p0.toInt64, .long 0, .long 3] dX12_image_6 (kX12_in hk1) stX12_191 ⟨by decide, by decide, by decide, by decide⟩ ⟨rfl, rfl⟩ (Nat.le_of_ble_eq_true rfl) ?_
  show Rn g mdX12_image 9 [some (.ref 0), some (.int p0)] [.int q2] (mW s) 0 0 (some (.int q.1)) (mW q.2)
  refine o_if_ne (pc := 9) 14 dX12_image_9 rfl (fun hc => ?_) (fun hc => ?_)
  · have hf := it_f hf hc
    refine o_aload_n (pc := 14) dX12_image_14 rfl ?_
    refine m_getA (pc := 15) 79 55 (by decide) rfl rfl lkX12_185 dX12_image_15 ?_
    refine o_iload_n (pc := 18) dX12_image_18 rfl ?_
    refine o_iconst (pc := 19) (v := 1) dX12_image_19 rfl ?_
    obtain ⟨hk3, hf⟩ := ck_elim hf
    refine m_zast (pc := 20) (by decide) rfl hk3 dX12_image_20 ?_
    refine lz_s (mW) hf (fun s4 hf => ?_)
    show Rn g mdX12_image 21 [some (.ref 0), some (.int p0)] [] (mW s4) 0 0 (some (.int q.1)) (mW q.2)
    refine o_aload_n (pc := 21) dX12_image_21 rfl ?_
    refine o_iload_n (pc := 22) dX12_image_22 rfl ?_
    refine o_iconst (pc := 23) (v := 0) dX12_image_23 rfl ?_
    obtain ⟨q6, hk5, hf⟩ := bd_elim hf
    refine m_callV (pc := 24) [.int p0, .int 0] dX12_image_24 (kX12_carriesAll hk5) stX12_500 ⟨by decide, by decide, by decide, by decide⟩ ⟨rfl, rfl⟩ (Nat.le_of_ble_eq_true rfl) ?_
    show Rn g mdX12_image 27 [some (.ref 0), some (.int p0)] [] (mW q6) 0 0 (some (.int q.1)) (mW q.2)
    refine o_aload_n (pc := 27) dX12_image_27 rfl ?_
    refine m_getA (pc := 28) 1 1 (by decide) rfl rfl lkX12_9 dX12_image_28 ?_
    refine o_bipush (pc := 31) (v := 9) dX12_image_31 rfl ?_
    obtain ⟨hk7, hf⟩ := ck_elim hf
    refine m_iald (pc := 33) (by decide) rfl hk7 dX12_image_33 ?_
    obtain rfl := Option.some.inj hf
    exact o_ireturn (pc := 34) dX12_image_34 rfl (Nat.zero_le _) (Nat.zero_le _)
  · have hf := it_t hf hc
    refine o_iconst (pc := 12) (v := (-1)) dX12_image_12 rfl ?_
    obtain rfl := Option.some.inj hf
    exact o_ireturn (pc := 13) dX12_image_13 rfl (Nat.zero_le _) (Nat.zero_le _)
def fX12_back (p0 : Int32) (s : ST) : Option (Int32 × ST) :=
  (fX12_in p0.toInt64 0 3 s).bind (fun q2 => (if q2 = 0 then some true else ck (inb p0 4) (if (gi s 55 (ix p0)) = 0 then some true else some false) : Option Bool).bind (fun b3 => if b3 = true then some ((-1), s) else (fX12_carriesAll p0 1 s).bind (fun q8 => ck (inb 9 13) (some (gi q8 1 (ix 9), q8)))))
set_option maxRecDepth 20000 in
theorem kX12_back {g : GX} {p0 : Int32} {s : ST} {q : Int32 × ST} (hf : fX12_back p0 s = some q) : Cn g mdX12_back [.ref 0, .int p0] (mW s) (some (.int q.1)) (mW q.2) := by
  refine Cn.of (by decide) (Nat.le_of_ble_eq_true rfl) ?_
  show Rn g mdX12_back 0 [some (.ref 0), some (.int p0)] [] (mW s) 0 0 (some (.int q.1)) (mW q.2)
  unfold fX12_back at hf
  refine o_iload_n (pc := 0) dX12_back_0 rfl ?_
  refine o_i2l (pc := 1) dX12_back_1 ?_
  refine o_lconst (pc := 2) (v := 0) dX12_back_2 rfl ?_
  refine o_ldc2 (pc := 3) dX12_back_3 lcX12_525 ?_
  obtain ⟨q2, hk1, hf⟩ := bd_elim hf
  refine m_callS (pc := 6) [.long p0.toInt64, .long 0, .long 3] dX12_back_6 (kX12_in hk1) stX12_191 ⟨by decide, by decide, by decide, by decide⟩ ⟨rfl, rfl⟩ (Nat.le_of_ble_eq_true rfl) ?_
  show Rn g mdX12_back 9 [some (.ref 0), some (.int p0)] [.int q2] (mW s) 0 0 (some (.int q.1)) (mW q.2)
  obtain ⟨b3, hr4, hf⟩ := bd_elim hf
  have KB5 : (b3 = true → Rn g mdX12_back 21 [some (.ref 0), some (.int p0)] [] (mW s) 0 0 (some (.int q.1)) (mW q.2)) ∧ (¬ b3 = true → Rn g mdX12_back 23 [some (.ref 0), some (.int p0)] [] (mW s) 0 0 (some (.int q.1)) (mW q.2)) := by
    refine ⟨fun hc => ?_, fun hc => ?_⟩
    · have hf := it_t hf hc
      refine o_iconst (pc := 21) (v := (-1)) dX12_back_21 rfl ?_
      obtain rfl := Option.some.inj hf
      exact o_ireturn (pc := 22) dX12_back_22 rfl (Nat.zero_le _) (Nat.zero_le _)
    · have hf := it_f hf hc
      refine o_aload_n (pc := 23) dX12_back_23 rfl ?_
      refine o_iload_n (pc := 24) dX12_back_24 rfl ?_
      refine o_iconst (pc := 25) (v := 1) dX12_back_25 rfl ?_
      obtain ⟨q8, hk7, hf⟩ := bd_elim hf
      refine m_callV (pc := 26) [.int p0, .int 1] dX12_back_26 (kX12_carriesAll hk7) stX12_500 ⟨by decide, by decide, by decide, by decide⟩ ⟨rfl, rfl⟩ (Nat.le_of_ble_eq_true rfl) ?_
      show Rn g mdX12_back 29 [some (.ref 0), some (.int p0)] [] (mW q8) 0 0 (some (.int q.1)) (mW q.2)
      refine o_aload_n (pc := 29) dX12_back_29 rfl ?_
      refine m_getA (pc := 30) 1 1 (by decide) rfl rfl lkX12_9 dX12_back_30 ?_
      refine o_bipush (pc := 33) (v := 9) dX12_back_33 rfl ?_
      obtain ⟨hk9, hf⟩ := ck_elim hf
      refine m_iald (pc := 35) (by decide) rfl hk9 dX12_back_35 ?_
      obtain rfl := Option.some.inj hf
      exact o_ireturn (pc := 36) dX12_back_36 rfl (Nat.zero_le _) (Nat.zero_le _)
  clear hf
  refine o_if_eq (pc := 9) 21 dX12_back_9 rfl (fun hc => ?_) (fun hc => ?_)
  · have hr4 := it_t hr4 hc
    obtain rfl := Option.some.inj hr4
    exact KB5.1 rfl
  · have hr4 := it_f hr4 hc
    refine o_aload_n (pc := 12) dX12_back_12 rfl ?_
    refine m_getA (pc := 13) 79 55 (by decide) rfl rfl lkX12_185 dX12_back_13 ?_
    refine o_iload_n (pc := 16) dX12_back_16 rfl ?_
    obtain ⟨hk6, hr4⟩ := ck_elim hr4
    refine m_zald (pc := 17) (by decide) rfl hk6 dX12_back_17 ?_
    refine o_if_ne (pc := 18) 23 dX12_back_18 rfl (fun hc => ?_) (fun hc => ?_)
    · have hr4 := it_f hr4 hc
      obtain rfl := Option.some.inj hr4
      exact KB5.2 (by decide)
    · have hr4 := it_t hr4 hc
      obtain rfl := Option.some.inj hr4
      exact KB5.1 rfl
