def fX12_wordOf (p0 : Int32) (s : ST) : Option (Nat) :=
  if p0 = 0 then some 1000025 else if p0 = 1 then some 1000030 else if p0 = 2 then some 1000031 else if p0 = 3 then some 1000032 else if p0 = 4 then some 1000033 else if p0 = 5 then some 1000034 else if p0 = 6 then some 1000035 else if p0 = 7 then some 1000036 else if p0 = 8 then some 1000037 else if p0 = 9 then some 1000038 else if p0 = 10 then some 1000039 else if p0 = 11 then some 1000040 else if p0 = 12 then some 1000041 else some 1000026
set_option maxRecDepth 20000 in
theorem kX12_wordOf {g : GX} {p0 : Int32} {s : ST} {q : Nat} (hf : fX12_wordOf p0 s = some q) : Cn g mdX12_wordOf [.int p0] (mW s) (some (.ref q)) (mW s) := by
  refine Cn.of (by decide) (Nat.le_of_ble_eq_true rfl) ?_
  show Rn g mdX12_wordOf 0 [some (.int p0)] [] (mW s) 0 0 (some (.ref q)) (mW s)
  unfold fX12_wordOf at hf
  refine o_iload_n (pc := 0) dX12_wordOf_0 rfl ?_
  by_cases hx1 : p0 = 0
  · have hf := it_t hf hx1
    refine o_tableIn (pc := 1) 68 dX12_wordOf_1 (by rw [hx1] <;> decide) (by rw [hx1] <;> decide) (by rw [hx1] <;> rfl) rfl ?_
    refine o_ldcS (pc := 68) (i := 25) dX12_wordOf_68 rfl rfl rfl ?_
    show Rn g mdX12_wordOf 70 [some (.int p0)] [.ref 1000025] (mW s) 0 0 (some (.ref q)) (mW s)
    obtain rfl := Option.some.inj hf
    exact o_areturn (pc := 70) dX12_wordOf_70 rfl (Or.inl ⟨_, rfl⟩) (Or.inr ⟨_, rfl⟩) (Nat.zero_le _) (Nat.zero_le _)
  have hf := it_f hf hx1
  by_cases hx2 : p0 = 1
  · have hf := it_t hf hx2
    refine o_tableIn (pc := 1) 71 dX12_wordOf_1 (by rw [hx2] <;> decide) (by rw [hx2] <;> decide) (by rw [hx2] <;> rfl) rfl ?_
    refine o_ldcS (pc := 71) (i := 30) dX12_wordOf_71 rfl rfl rfl ?_
    show Rn g mdX12_wordOf 73 [some (.int p0)] [.ref 1000030] (mW s) 0 0 (some (.ref q)) (mW s)
    obtain rfl := Option.some.inj hf
    exact o_areturn (pc := 73) dX12_wordOf_73 rfl (Or.inl ⟨_, rfl⟩) (Or.inr ⟨_, rfl⟩) (Nat.zero_le _) (Nat.zero_le _)
  have hf := it_f hf hx2
  by_cases hx3 : p0 = 2
  · have hf := it_t hf hx3
    refine o_tableIn (pc := 1) 74 dX12_wordOf_1 (by rw [hx3] <;> decide) (by rw [hx3] <;> decide) (by rw [hx3] <;> rfl) rfl ?_
    refine o_ldcS (pc := 74) (i := 31) dX12_wordOf_74 rfl rfl rfl ?_
    show Rn g mdX12_wordOf 76 [some (.int p0)] [.ref 1000031] (mW s) 0 0 (some (.ref q)) (mW s)
    obtain rfl := Option.some.inj hf
    exact o_areturn (pc := 76) dX12_wordOf_76 rfl (Or.inl ⟨_, rfl⟩) (Or.inr ⟨_, rfl⟩) (Nat.zero_le _) (Nat.zero_le _)
  have hf := it_f hf hx3
  by_cases hx4 : p0 = 3
  · have hf := it_t hf hx4
    refine o_tableIn (pc := 1) 77 dX12_wordOf_1 (by rw [hx4] <;> decide) (by rw [hx4] <;> decide) (by rw [hx4] <;> rfl) rfl ?_
    refine o_ldcS (pc := 77) (i := 32) dX12_wordOf_77 rfl rfl rfl ?_
    show Rn g mdX12_wordOf 79 [some (.int p0)] [.ref 1000032] (mW s) 0 0 (some (.ref q)) (mW s)
    obtain rfl := Option.some.inj hf
    exact o_areturn (pc := 79) dX12_wordOf_79 rfl (Or.inl ⟨_, rfl⟩) (Or.inr ⟨_, rfl⟩) (Nat.zero_le _) (Nat.zero_le _)
  have hf := it_f hf hx4
  by_cases hx5 : p0 = 4
  · have hf := it_t hf hx5
    refine o_tableIn (pc := 1) 80 dX12_wordOf_1 (by rw [hx5] <;> decide) (by rw [hx5] <;> decide) (by rw [hx5] <;> rfl) rfl ?_
    refine o_ldcS (pc := 80) (i := 33) dX12_wordOf_80 rfl rfl rfl ?_
    show Rn g mdX12_wordOf 82 [some (.int p0)] [.ref 1000033] (mW s) 0 0 (some (.ref q)) (mW s)
    obtain rfl := Option.some.inj hf
    exact o_areturn (pc := 82) dX12_wordOf_82 rfl (Or.inl ⟨_, rfl⟩) (Or.inr ⟨_, rfl⟩) (Nat.zero_le _) (Nat.zero_le _)
  have hf := it_f hf hx5
  by_cases hx6 : p0 = 5
  · have hf := it_t hf hx6
    refine o_tableIn (pc := 1) 83 dX12_wordOf_1 (by rw [hx6] <;> decide) (by rw [hx6] <;> decide) (by rw [hx6] <;> rfl) rfl ?_
    refine o_ldcS (pc := 83) (i := 34) dX12_wordOf_83 rfl rfl rfl ?_
    show Rn g mdX12_wordOf 85 [some (.int p0)] [.ref 1000034] (mW s) 0 0 (some (.ref q)) (mW s)
    obtain rfl := Option.some.inj hf
    exact o_areturn (pc := 85) dX12_wordOf_85 rfl (Or.inl ⟨_, rfl⟩) (Or.inr ⟨_, rfl⟩) (Nat.zero_le _) (Nat.zero_le _)
  have hf := it_f hf hx6
  by_cases hx7 : p0 = 6
  · have hf := it_t hf hx7
    refine o_tableIn (pc := 1) 86 dX12_wordOf_1 (by rw [hx7] <;> decide) (by rw [hx7] <;> decide) (by rw [hx7] <;> rfl) rfl ?_
    refine o_ldcS (pc := 86) (i := 35) dX12_wordOf_86 rfl rfl rfl ?_
    show Rn g mdX12_wordOf 88 [some (.int p0)] [.ref 1000035] (mW s) 0 0 (some (.ref q)) (mW s)
    obtain rfl := Option.some.inj hf
    exact o_areturn (pc := 88) dX12_wordOf_88 rfl (Or.inl ⟨_, rfl⟩) (Or.inr ⟨_, rfl⟩) (Nat.zero_le _) (Nat.zero_le _)
  have hf := it_f hf hx7
  by_cases hx8 : p0 = 7
  · have hf := it_t hf hx8
    refine o_tableIn (pc := 1) 89 dX12_wordOf_1 (by rw [hx8] <;> decide) (by rw [hx8] <;> decide) (by rw [hx8] <;> rfl) rfl ?_
    refine o_ldcS (pc := 89) (i := 36) dX12_wordOf_89 rfl rfl rfl ?_
    show Rn g mdX12_wordOf 91 [some (.int p0)] [.ref 1000036] (mW s) 0 0 (some (.ref q)) (mW s)
    obtain rfl := Option.some.inj hf
    exact o_areturn (pc := 91) dX12_wordOf_91 rfl (Or.inl ⟨_, rfl⟩) (Or.inr ⟨_, rfl⟩) (Nat.zero_le _) (Nat.zero_le _)
  have hf := it_f hf hx8
  by_cases hx9 : p0 = 8
  · have hf := it_t hf hx9
    refine o_tableIn (pc := 1) 92 dX12_wordOf_1 (by rw [hx9] <;> decide) (by rw [hx9] <;> decide) (by rw [hx9] <;> rfl) rfl ?_
    refine o_ldcS (pc := 92) (i := 37) dX12_wordOf_92 rfl rfl rfl ?_
    show Rn g mdX12_wordOf 94 [some (.int p0)] [.ref 1000037] (mW s) 0 0 (some (.ref q)) (mW s)
    obtain rfl := Option.some.inj hf
    exact o_areturn (pc := 94) dX12_wordOf_94 rfl (Or.inl ⟨_, rfl⟩) (Or.inr ⟨_, rfl⟩) (Nat.zero_le _) (Nat.zero_le _)
  have hf := it_f hf hx9
  by_cases hx10 : p0 = 9
  · have hf := it_t hf hx10
    refine o_tableIn (pc := 1) 95 dX12_wordOf_1 (by rw [hx10] <;> decide) (by rw [hx10] <;> decide) (by rw [hx10] <;> rfl) rfl ?_
    refine o_ldcS (pc := 95) (i := 38) dX12_wordOf_95 rfl rfl rfl ?_
    show Rn g mdX12_wordOf 97 [some (.int p0)] [.ref 1000038] (mW s) 0 0 (some (.ref q)) (mW s)
    obtain rfl := Option.some.inj hf
    exact o_areturn (pc := 97) dX12_wordOf_97 rfl (Or.inl ⟨_, rfl⟩) (Or.inr ⟨_, rfl⟩) (Nat.zero_le _) (Nat.zero_le _)
  have hf := it_f hf hx10
  by_cases hx11 : p0 = 10
  · have hf := it_t hf hx11
    refine o_tableIn (pc := 1) 98 dX12_wordOf_1 (by rw [hx11] <;> decide) (by rw [hx11] <;> decide) (by rw [hx11] <;> rfl) rfl ?_
    refine o_ldcS (pc := 98) (i := 39) dX12_wordOf_98 rfl rfl rfl ?_
    show Rn g mdX12_wordOf 100 [some (.int p0)] [.ref 1000039] (mW s) 0 0 (some (.ref q)) (mW s)
    obtain rfl := Option.some.inj hf
    exact o_areturn (pc := 100) dX12_wordOf_100 rfl (Or.inl ⟨_, rfl⟩) (Or.inr ⟨_, rfl⟩) (Nat.zero_le _) (Nat.zero_le _)
  have hf := it_f hf hx11
  by_cases hx12 : p0 = 11
  · have hf := it_t hf hx12
    refine o_tableIn (pc := 1) 101 dX12_wordOf_1 (by rw [hx12] <;> decide) (by rw [hx12] <;> decide) (by rw [hx12] <;> rfl) rfl ?_
    refine o_ldcS (pc := 101) (i := 40) dX12_wordOf_101 rfl rfl rfl ?_
    show Rn g mdX12_wordOf 103 [some (.int p0)] [.ref 1000040] (mW s) 0 0 (some (.ref q)) (mW s)
    obtain rfl := Option.some.inj hf
    exact o_areturn (pc := 103) dX12_wordOf_103 rfl (Or.inl ⟨_, rfl⟩) (Or.inr ⟨_, rfl⟩) (Nat.zero_le _) (Nat.zero_le _)
  have hf := it_f hf hx12
  by_cases hx13 : p0 = 12
  · have hf := it_t hf hx13
    refine o_tableIn (pc := 1) 104 dX12_wordOf_1 (by rw [hx13] <;> decide) (by rw [hx13] <;> decide) (by rw [hx13] <;> rfl) rfl ?_
    refine o_ldcS (pc := 104) (i := 41) dX12_wordOf_104 rfl rfl rfl ?_
    show Rn g mdX12_wordOf 106 [some (.int p0)] [.ref 1000041] (mW s) 0 0 (some (.ref q)) (mW s)
    obtain rfl := Option.some.inj hf
    exact o_areturn (pc := 106) dX12_wordOf_106 rfl (Or.inl ⟨_, rfl⟩) (Or.inr ⟨_, rfl⟩) (Nat.zero_le _) (Nat.zero_le _)
  have hf := it_f hf hx13
  refine o_tableOut (pc := 1) 107 dX12_wordOf_1 (sw_out 0 12 (fun n hn => ?_)) rfl ?_
  · match n, hn with
    | 0, _ => exact sw_ne hx1 rfl
    | 1, _ => exact sw_ne hx2 rfl
    | 2, _ => exact sw_ne hx3 rfl
    | 3, _ => exact sw_ne hx4 rfl
    | 4, _ => exact sw_ne hx5 rfl
    | 5, _ => exact sw_ne hx6 rfl
    | 6, _ => exact sw_ne hx7 rfl
    | 7, _ => exact sw_ne hx8 rfl
    | 8, _ => exact sw_ne hx9 rfl
    | 9, _ => exact sw_ne hx10 rfl
    | 10, _ => exact sw_ne hx11 rfl
    | 11, _ => exact sw_ne hx12 rfl
    | 12, _ => exact sw_ne hx13 rfl
    | n + 13, h => exact absurd h (by omega)
  · refine o_ldcS (pc := 107) (i := 26) dX12_wordOf_107 rfl rfl rfl ?_
    show Rn g mdX12_wordOf 109 [some (.int p0)] [.ref 1000026] (mW s) 0 0 (some (.ref q)) (mW s)
    obtain rfl := Option.some.inj hf
    exact o_areturn (pc := 109) dX12_wordOf_109 rfl (Or.inl ⟨_, rfl⟩) (Or.inr ⟨_, rfl⟩) (Nat.zero_le _) (Nat.zero_le _)
def fX12_stood_L5 (a1 : Nat) : Nat → Int32 → ST → Option (Int32)
  | 0, _, _ => none
  | n + 1, x2, s => (if (gi s 0 26) ≤ x2 then some false else ck (inb x2 400) (if (gi s 26 (ix x2)) < 97 then some false else ck (inb x2 400) (if 122 < (gi s 26 (ix x2)) then some false else some true)) : Option Bool).bind (fun b2 => if b2 = true then lt (x2 + 1) (fun v7 => fX12_stood_L5 a1 n v7 s) else some x2)
def fX12_stood_L63 (a1 : Nat) : Nat → Int32 → Int32 → ST → Option (Int32 × Int32)
  | 0, _, _, _ => none
  | n + 1, x3, x4, s => ck (okT a1) ((if (tlen a1) ≤ x4 then some false else if x3 = 0 then some false else some true : Option Bool).bind (fun b16 => if b16 = true then ck (inb ((gi s 0 27) + x4) 400) (ck (okT a1) (ck (inb x4 (txB (a1 - 1000000)).length) ((if (gi s 26 (ix ((gi s 0 27) + x4))) = (tch a1 x4) then some 1 else some 0 : Option (Int32)).bind (fun w22 => lt (x4 + 1) (fun v25 => fX12_stood_L63 a1 n w22 v25 s))))) else some (x3, x4)))
def fX12_stood (p0 : Nat) (s : ST) : Option (Int32) :=
  lt (gi s 0 27 : Int32) (fun v1 => (fX12_stood_L5 p0 FUEL v1 s).bind (fun w8 => ck (okT p0) ((if (w8 - (gi s 0 27)) = (tlen p0) then some 1 else some 0 : Option (Int32)).bind (fun w12 => (fX12_stood_L63 p0 FUEL w12 0 s).bind (fun w26 => ck (bz w26.1) (some w26.1))))))
set_option maxRecDepth 20000 in
theorem kX12_stood_L5 {g : GX} (a1 : Nat) (s : ST) {r : Option Value} {h2 : PH} : ∀ (n : Nat) (x2 : Int32) {w : Int32}, fX12_stood_L5 a1 n x2 s = some w → Rn g mdX12_stood 41 [some (.ref 0), some (.ref a1), some (.int w), none, none] [] (mW s) 0 0 r h2 → Rn g mdX12_stood 5 [some (.ref 0), some (.ref a1), some (.int x2), none, none] [] (mW s) 0 0 r h2 := by
  intro n
  induction n with
  | zero => intro x2 w hf K; cases hf
  | succ n ih =>
    intro x2 w hf K
    rw [fX12_stood_L5] at hf
    refine o_iload_n (pc := 5) dX12_stood_5 rfl ?_
    refine o_aload_n (pc := 6) dX12_stood_6 rfl ?_
    refine m_getI (pc := 7) 26 (by decide) rfl lkX12_195 dX12_stood_7 ?_
    obtain ⟨b2, hr3, hf⟩ := bd_elim hf
    have KB4 : (b2 = true → Rn g mdX12_stood 35 [some (.ref 0), some (.ref a1), some (.int x2), none, none] [] (mW s) 0 0 r h2) ∧ (¬ b2 = true → Rn g mdX12_stood 41 [some (.ref 0), some (.ref a1), some (.int x2), none, none] [] (mW s) 0 0 r h2) := by
      refine ⟨fun hc => ?_, fun hc => ?_⟩
      · have hf := it_t hf hc
        refine o_iinc (pc := 35) dX12_stood_35 rfl (by decide) rfl ?_
        show Rn g mdX12_stood 38 [some (.ref 0), some (.ref a1), some (.int (x2 + 1)), none, none] [] (mW s) 0 0 r h2
        obtain ⟨v7, ev7, hf⟩ := lt_elim hf
        rw [ev7]
        show Rn g mdX12_stood 38 [some (.ref 0), some (.ref a1), some (.int v7), none, none] [] (mW s) 0 0 r h2
        refine o_goto (pc := 38) 5 dX12_stood_38 rfl ?_
        exact ih _ hf K
      · have hf := it_f hf hc
        obtain rfl := Option.some.inj hf
        exact K
    clear hf
    refine o_icmp_ge (pc := 10) 41 dX12_stood_10 rfl (fun hc => ?_) (fun hc => ?_)
    · have hr3 := it_t hr3 hc
      obtain rfl := Option.some.inj hr3
      exact KB4.2 (by decide)
    · have hr3 := it_f hr3 hc
      refine o_aload_n (pc := 13) dX12_stood_13 rfl ?_
      refine m_getA (pc := 14) 36 26 (by decide) rfl rfl lkX12_89 dX12_stood_14 ?_
      refine o_iload_n (pc := 17) dX12_stood_17 rfl ?_
      obtain ⟨hk5, hr3⟩ := ck_elim hr3
      refine m_bald (pc := 18) (by decide) rfl hk5 dX12_stood_18 ?_
      refine o_bipush (pc := 19) (v := 97) dX12_stood_19 rfl ?_
      refine o_icmp_lt (pc := 21) 41 dX12_stood_21 rfl (fun hc => ?_) (fun hc => ?_)
      · have hr3 := it_t hr3 hc
        obtain rfl := Option.some.inj hr3
        exact KB4.2 (by decide)
      · have hr3 := it_f hr3 hc
        refine o_aload_n (pc := 24) dX12_stood_24 rfl ?_
        refine m_getA (pc := 25) 36 26 (by decide) rfl rfl lkX12_89 dX12_stood_25 ?_
        refine o_iload_n (pc := 28) dX12_stood_28 rfl ?_
        obtain ⟨hk6, hr3⟩ := ck_elim hr3
        refine m_bald (pc := 29) (by decide) rfl hk6 dX12_stood_29 ?_
        refine o_bipush (pc := 30) (v := 122) dX12_stood_30 rfl ?_
        refine o_icmp_gt (pc := 32) 41 dX12_stood_32 rfl (fun hc => ?_) (fun hc => ?_)
        · have hr3 := it_t hr3 hc
          obtain rfl := Option.some.inj hr3
          exact KB4.2 (by decide)
        · have hr3 := it_f hr3 hc
          obtain rfl := Option.some.inj hr3
          exact KB4.1 rfl
set_option maxRecDepth 20000 in
theorem kX12_stood_L63 {g : GX} (a1 : Nat) (s : ST) {r : Option Value} {h2 : PH} : ∀ (n : Nat) (x3 : Int32) (x4 : Int32) {w : Int32 × Int32}, fX12_stood_L63 a1 n x3 x4 s = some w → Rn g mdX12_stood 109 [none, none, none, some (.int w.1), none] [] (mW s) 0 0 r h2 → Rn g mdX12_stood 63 [some (.ref 0), some (.ref a1), none, some (.int x3), some (.int x4)] [] (mW s) 0 0 r h2 := by
  intro n
  induction n with
  | zero => intro x3 x4 w hf K; cases hf
  | succ n ih =>
    intro x3 x4 w hf K
    rw [fX12_stood_L63] at hf
    refine o_iload (pc := 63) dX12_stood_63 rfl ?_
    refine o_aload_n (pc := 65) dX12_stood_65 rfl ?_
    obtain ⟨hk15, hf⟩ := ck_elim hf
    refine o_tlength (pc := 66) hk15 dX12_stood_66 stX12_238 ⟨by decide, by decide, by decide, by decide⟩ (Nat.le_of_ble_eq_true rfl) ?_
    show Rn g mdX12_stood 69 [some (.ref 0), some (.ref a1), none, some (.int x3), some (.int x4)] [.int (tlen a1), .int x4] (mW s) 0 0 r h2
    obtain ⟨b16, hr17, hf⟩ := bd_elim hf
    have KB18 : (b16 = true → Rn g mdX12_stood 76 [some (.ref 0), some (.ref a1), none, some (.int x3), some (.int x4)] [] (mW s) 0 0 r h2) ∧ (¬ b16 = true → Rn g mdX12_stood 109 [some (.ref 0), some (.ref a1), none, some (.int x3), some (.int x4)] [] (mW s) 0 0 r h2) := by
      refine ⟨fun hc => ?_, fun hc => ?_⟩
      · have hf := it_t hf hc
        refine o_aload_n (pc := 76) dX12_stood_76 rfl ?_
        refine m_getA (pc := 77) 36 26 (by decide) rfl rfl lkX12_89 dX12_stood_77 ?_
        refine o_aload_n (pc := 80) dX12_stood_80 rfl ?_
        refine m_getI (pc := 81) 27 (by decide) rfl lkX12_227 dX12_stood_81 ?_
        refine o_iload (pc := 84) dX12_stood_84 rfl ?_
        refine o_iadd (pc := 86) dX12_stood_86 ?_
        obtain ⟨hk19, hf⟩ := ck_elim hf
        refine m_bald (pc := 87) (by decide) rfl hk19 dX12_stood_87 ?_
        refine o_aload_n (pc := 88) dX12_stood_88 rfl ?_
        refine o_iload (pc := 89) dX12_stood_89 rfl ?_
        obtain ⟨hk20, hf⟩ := ck_elim hf
        obtain ⟨hk21, hf⟩ := ck_elim hf
        refine o_tcharAt (pc := 91) hk20 hk21 dX12_stood_91 stX12_242 ⟨by decide, by decide, by decide, by decide⟩ (Nat.le_of_ble_eq_true rfl) ?_
        show Rn g mdX12_stood 94 [some (.ref 0), some (.ref a1), none, some (.int x3), some (.int x4)] [.int (tch a1 x4), .int (gi s 26 (ix ((gi s 0 27) + x4)))] (mW s) 0 0 r h2
        obtain ⟨w22, hr23, hf⟩ := bd_elim hf
        have K24 : Rn g mdX12_stood 102 [some (.ref 0), some (.ref a1), none, none, some (.int x4)] [.int w22] (mW s) 0 0 r h2 := by
          refine o_istore_n (pc := 102) dX12_stood_102 (by decide) rfl ?_
          show Rn g mdX12_stood 103 [some (.ref 0), some (.ref a1), none, some (.int w22), some (.int x4)] [] (mW s) 0 0 r h2
          refine o_iinc (pc := 103) dX12_stood_103 rfl (by decide) rfl ?_
          show Rn g mdX12_stood 106 [some (.ref 0), some (.ref a1), none, some (.int w22), some (.int (x4 + 1))] [] (mW s) 0 0 r h2
          obtain ⟨v25, ev25, hf⟩ := lt_elim hf
          rw [ev25]
          show Rn g mdX12_stood 106 [some (.ref 0), some (.ref a1), none, some (.int w22), some (.int v25)] [] (mW s) 0 0 r h2
          refine o_goto (pc := 106) 63 dX12_stood_106 rfl ?_
          exact ih _ _ hf K
        clear hf
        refine o_icmp_ne (pc := 94) 101 dX12_stood_94 rfl (fun hc => ?_) (fun hc => ?_)
        · have hr23 := it_f hr23 hc
          refine o_iconst (pc := 101) (v := 0) dX12_stood_101 rfl ?_
          obtain rfl := Option.some.inj hr23
          refine o_keep [true, true, false, false, true] ?_
          exact K24
        · have hr23 := it_t hr23 hc
          refine o_iconst (pc := 97) (v := 1) dX12_stood_97 rfl ?_
          refine o_goto (pc := 98) 102 dX12_stood_98 rfl ?_
          obtain rfl := Option.some.inj hr23
          refine o_keep [true, true, false, false, true] ?_
          exact K24
      · have hf := it_f hf hc
        obtain rfl := Option.some.inj hf
        refine o_keep [false, false, false, true, false] ?_
        exact K
    clear hf
    refine o_icmp_ge (pc := 69) 109 dX12_stood_69 rfl (fun hc => ?_) (fun hc => ?_)
    · have hr17 := it_t hr17 hc
      obtain rfl := Option.some.inj hr17
      exact KB18.2 (by decide)
    · have hr17 := it_f hr17 hc
      refine o_iload_n (pc := 72) dX12_stood_72 rfl ?_
      refine o_if_eq (pc := 73) 109 dX12_stood_73 rfl (fun hc => ?_) (fun hc => ?_)
      · have hr17 := it_t hr17 hc
        obtain rfl := Option.some.inj hr17
        exact KB18.2 (by decide)
      · have hr17 := it_f hr17 hc
        obtain rfl := Option.some.inj hr17
        exact KB18.1 rfl
set_option maxRecDepth 20000 in
theorem kX12_stood {g : GX} {p0 : Nat} {s : ST} {q : Int32} (hf : fX12_stood p0 s = some q) : Cn g mdX12_stood [.ref 0, .ref p0] (mW s) (some (.int q)) (mW s) := by
  refine Cn.of (by decide) (Nat.le_of_ble_eq_true rfl) ?_
  show Rn g mdX12_stood 0 [some (.ref 0), some (.ref p0), none, none, none] [] (mW s) 0 0 (some (.int q)) (mW s)
  unfold fX12_stood at hf
  refine o_aload_n (pc := 0) dX12_stood_0 rfl ?_
  refine m_getI (pc := 1) 27 (by decide) rfl lkX12_227 dX12_stood_1 ?_
  refine lz_i hf (fun v1 hf => ?_)
  refine o_istore_n (pc := 4) dX12_stood_4 (by decide) rfl ?_
  show Rn g mdX12_stood 5 [some (.ref 0), some (.ref p0), some (.int v1), none, none] [] (mW s) 0 0 (some (.int q)) (mW s)
  obtain ⟨w8, hl9, hf⟩ := bd_elim hf
  have K10 : Rn g mdX12_stood 41 [some (.ref 0), some (.ref p0), some (.int w8), none, none] [] (mW s) 0 0 (some (.int q)) (mW s) := by
    refine o_iload_n (pc := 41) dX12_stood_41 rfl ?_
    refine o_aload_n (pc := 42) dX12_stood_42 rfl ?_
    refine m_getI (pc := 43) 27 (by decide) rfl lkX12_227 dX12_stood_43 ?_
    refine o_isub (pc := 46) dX12_stood_46 ?_
    refine o_aload_n (pc := 47) dX12_stood_47 rfl ?_
    obtain ⟨hk11, hf⟩ := ck_elim hf
    refine o_tlength (pc := 48) hk11 dX12_stood_48 stX12_238 ⟨by decide, by decide, by decide, by decide⟩ (Nat.le_of_ble_eq_true rfl) ?_
    show Rn g mdX12_stood 51 [some (.ref 0), some (.ref p0), some (.int w8), none, none] [.int (tlen p0), .int (w8 - (gi s 0 27))] (mW s) 0 0 (some (.int q)) (mW s)
    obtain ⟨w12, hr13, hf⟩ := bd_elim hf
    have K14 : Rn g mdX12_stood 59 [some (.ref 0), some (.ref p0), none, none, none] [.int w12] (mW s) 0 0 (some (.int q)) (mW s) := by
      refine o_istore_n (pc := 59) dX12_stood_59 (by decide) rfl ?_
      show Rn g mdX12_stood 60 [some (.ref 0), some (.ref p0), none, some (.int w12), none] [] (mW s) 0 0 (some (.int q)) (mW s)
      refine o_iconst (pc := 60) (v := 0) dX12_stood_60 rfl ?_
      refine o_istore (pc := 61) dX12_stood_61 (by decide) rfl ?_
      show Rn g mdX12_stood 63 [some (.ref 0), some (.ref p0), none, some (.int w12), some (.int 0)] [] (mW s) 0 0 (some (.int q)) (mW s)
      obtain ⟨w26, hl27, hf⟩ := bd_elim hf
      have K28 : Rn g mdX12_stood 109 [none, none, none, some (.int w26.1), none] [] (mW s) 0 0 (some (.int q)) (mW s) := by
        refine o_iload_n (pc := 109) dX12_stood_109 rfl ?_
        obtain ⟨hk29, hf⟩ := ck_elim hf
        obtain rfl := Option.some.inj hf
        exact o_zreturn (pc := 110) dX12_stood_110 rfl (bz_n hk29).1 (Nat.zero_le _) (Nat.zero_le _)
      exact kX12_stood_L63 _ _ _ _ _ hl27 K28
    clear hf
    refine o_icmp_ne (pc := 51) 58 dX12_stood_51 rfl (fun hc => ?_) (fun hc => ?_)
    · have hr13 := it_f hr13 hc
      refine o_iconst (pc := 58) (v := 0) dX12_stood_58 rfl ?_
      obtain rfl := Option.some.inj hr13
      refine o_keep [true, true, false, false, false] ?_
      exact K14
    · have hr13 := it_t hr13 hc
      refine o_iconst (pc := 54) (v := 1) dX12_stood_54 rfl ?_
      refine o_goto (pc := 55) 59 dX12_stood_55 rfl ?_
      obtain rfl := Option.some.inj hr13
      refine o_keep [true, true, false, false, false] ?_
      exact K14
  exact kX12_stood_L5 _ _ _ _ hl9 K10
def fX12_takes (p0 : Nat) (s : ST) : Option (Int32 × ST) :=
  (fX12_blanks s).bind (fun q2 => (fX12_stood p0 q2).bind (fun q4 => (if q4 = 0 then some 0 else ck (okT p0) (some (tlen p0)) : Option (Int32)).bind (fun w5 => lt (si q2 0 27 ((gi q2 0 27) + w5)) (fun s9 => ck (bz q4) (some (q4, s9))))))
set_option maxRecDepth 20000 in
theorem kX12_takes {g : GX} {p0 : Nat} {s : ST} {q : Int32 × ST} (hf : fX12_takes p0 s = some q) : Cn g mdX12_takes [.ref 0, .ref p0] (mW s) (some (.int q.1)) (mW q.2) := by
  refine Cn.of (by decide) (Nat.le_of_ble_eq_true rfl) ?_
  show Rn g mdX12_takes 0 [some (.ref 0), some (.ref p0), none] [] (mW s) 0 0 (some (.int q.1)) (mW q.2)
  unfold fX12_takes at hf
  refine o_aload_n (pc := 0) dX12_takes_0 rfl ?_
  obtain ⟨q2, hk1, hf⟩ := bd_elim hf
  refine m_callV (pc := 1) [] dX12_takes_1 (kX12_blanks hk1) stX12_246 ⟨by decide, by decide, by decide, by decide⟩ ⟨rfl, rfl⟩ (Nat.le_of_ble_eq_true rfl) ?_
  show Rn g mdX12_takes 4 [some (.ref 0), some (.ref p0), none] [] (mW q2) 0 0 (some (.int q.1)) (mW q.2)
  refine o_aload_n (pc := 4) dX12_takes_4 rfl ?_
  refine o_aload_n (pc := 5) dX12_takes_5 rfl ?_
  obtain ⟨q4, hk3, hf⟩ := bd_elim hf
  refine m_callV (pc := 6) [.ref p0] dX12_takes_6 (kX12_stood hk3) stX12_249 ⟨by decide, by decide, by decide, by decide⟩ ⟨rfl, rfl⟩ (Nat.le_of_ble_eq_true rfl) ?_
  show Rn g mdX12_takes 9 [some (.ref 0), some (.ref p0), none] [.int q4] (mW q2) 0 0 (some (.int q.1)) (mW q.2)
  refine o_istore_n (pc := 9) dX12_takes_9 (by decide) rfl ?_
  show Rn g mdX12_takes 10 [some (.ref 0), some (.ref p0), some (.int q4)] [] (mW q2) 0 0 (some (.int q.1)) (mW q.2)
  refine o_aload_n (pc := 10) dX12_takes_10 rfl ?_
  refine o_dup (pc := 11) dX12_takes_11 rfl ?_
  refine m_getI (pc := 12) 27 (by decide) rfl lkX12_227 dX12_takes_12 ?_
  refine o_iload_n (pc := 15) dX12_takes_15 rfl ?_
  obtain ⟨w5, hr6, hf⟩ := bd_elim hf
  have K7 : Rn g mdX12_takes 27 [none, none, some (.int q4)] [.int w5, .int (gi q2 0 27), .ref 0] (mW q2) 0 0 (some (.int q.1)) (mW q.2) := by
    refine o_iadd (pc := 27) dX12_takes_27 ?_
    refine m_putI (pc := 28) 27 (by decide) rfl rfl lkX12_227 ⟨rfl, rfl⟩ dX12_takes_28 ?_
    refine lz_s (mW) hf (fun s9 hf => ?_)
    show Rn g mdX12_takes 31 [none, none, some (.int q4)] [] (mW s9) 0 0 (some (.int q.1)) (mW q.2)
    refine o_iload_n (pc := 31) dX12_takes_31 rfl ?_
    obtain ⟨hk10, hf⟩ := ck_elim hf
    obtain rfl := Option.some.inj hf
    exact o_zreturn (pc := 32) dX12_takes_32 rfl (bz_n hk10).1 (Nat.zero_le _) (Nat.zero_le _)
  clear hf
  refine o_if_eq (pc := 16) 26 dX12_takes_16 rfl (fun hc => ?_) (fun hc => ?_)
  · have hr6 := it_t hr6 hc
    refine o_iconst (pc := 26) (v := 0) dX12_takes_26 rfl ?_
    obtain rfl := Option.some.inj hr6
    refine o_keep [false, false, true] ?_
    exact K7
  · have hr6 := it_f hr6 hc
    refine o_aload_n (pc := 19) dX12_takes_19 rfl ?_
    obtain ⟨hk8, hr6⟩ := ck_elim hr6
    refine o_tlength (pc := 20) hk8 dX12_takes_20 stX12_238 ⟨by decide, by decide, by decide, by decide⟩ (Nat.le_of_ble_eq_true rfl) ?_
    show Rn g mdX12_takes 23 [some (.ref 0), some (.ref p0), some (.int q4)] [.int (tlen p0), .int (gi q2 0 27), .ref 0] (mW q2) 0 0 (some (.int q.1)) (mW q.2)
    refine o_goto (pc := 23) 27 dX12_takes_23 rfl ?_
    obtain rfl := Option.some.inj hr6
    refine o_keep [false, false, true] ?_
    exact K7
def fX12_entry (p0 : Int32) (p1 : Int32) (s : ST) : Option (ST) :=
  (if (gi s 0 28) = 0 then ck (inb ((300 * (gi s 0 29)) + (gi s 0 31)) 1800) (lt (si s 27 (ix ((300 * (gi s 0 29)) + (gi s 0 31))) p0) (fun s5 => ck (inb ((300 * (gi s5 0 29)) + (gi s5 0 31)) 1800) (lt (si s5 28 (ix ((300 * (gi s5 0 29)) + (gi s5 0 31))) p1) (fun s7 => lt (si s7 0 31 ((gi s7 0 31) + 1)) (fun s8 => some s8))))) else some s : Option (ST)).bind (fun w1 => some w1)
set_option maxRecDepth 20000 in
theorem kX12_entry {g : GX} {p0 : Int32} {p1 : Int32} {s : ST} {q : ST} (hf : fX12_entry p0 p1 s = some q) : Cn g mdX12_entry [.ref 0, .int p0, .int p1] (mW s) none (mW q) := by
  refine Cn.of (by decide) (Nat.le_of_ble_eq_true rfl) ?_
  show Rn g mdX12_entry 0 [some (.ref 0), some (.int p0), some (.int p1)] [] (mW s) 0 0 none (mW q)
  unfold fX12_entry at hf
  refine o_aload_n (pc := 0) dX12_entry_0 rfl ?_
  refine m_getI (pc := 1) 28 (by decide) rfl lkX12_224 dX12_entry_1 ?_
  obtain ⟨w1, hr2, hf⟩ := bd_elim hf
  have K3 : Rn g mdX12_entry 55 [none, none, none] [] (mW w1) 0 0 none (mW q) := by
    obtain rfl := Option.some.inj hf
    exact o_return (pc := 55) dX12_entry_55 rfl (Nat.zero_le _) (Nat.zero_le _)
  clear hf
  refine o_if_ne (pc := 4) 55 dX12_entry_4 rfl (fun hc => ?_) (fun hc => ?_)
  · have hr2 := it_f hr2 hc
    obtain rfl := Option.some.inj hr2
    refine o_keep [false, false, false] ?_
    exact K3
  · have hr2 := it_t hr2 hc
    refine o_aload_n (pc := 7) dX12_entry_7 rfl ?_
    refine m_getA (pc := 8) 37 27 (by decide) rfl rfl lkX12_93 dX12_entry_8 ?_
    refine o_sipush (pc := 11) (v := 300) dX12_entry_11 rfl ?_
    refine o_aload_n (pc := 14) dX12_entry_14 rfl ?_
    refine m_getI (pc := 15) 29 (by decide) rfl lkX12_253 dX12_entry_15 ?_
    refine o_imul (pc := 18) dX12_entry_18 ?_
    refine o_aload_n (pc := 19) dX12_entry_19 rfl ?_
    refine m_getI (pc := 20) 31 (by decide) rfl lkX12_256 dX12_entry_20 ?_
    refine o_iadd (pc := 23) dX12_entry_23 ?_
    refine o_iload_n (pc := 24) dX12_entry_24 rfl ?_
    obtain ⟨hk4, hr2⟩ := ck_elim hr2
    refine m_iast (pc := 25) (by decide) rfl hk4 dX12_entry_25 ?_
    refine lz_s (mW) hr2 (fun s5 hr2 => ?_)
    show Rn g mdX12_entry 26 [some (.ref 0), some (.int p0), some (.int p1)] [] (mW s5) 0 0 none (mW q)
    refine o_aload_n (pc := 26) dX12_entry_26 rfl ?_
    refine m_getA (pc := 27) 38 28 (by decide) rfl rfl lkX12_96 dX12_entry_27 ?_
    refine o_sipush (pc := 30) (v := 300) dX12_entry_30 rfl ?_
    refine o_aload_n (pc := 33) dX12_entry_33 rfl ?_
    refine m_getI (pc := 34) 29 (by decide) rfl lkX12_253 dX12_entry_34 ?_
    refine o_imul (pc := 37) dX12_entry_37 ?_
    refine o_aload_n (pc := 38) dX12_entry_38 rfl ?_
    refine m_getI (pc := 39) 31 (by decide) rfl lkX12_256 dX12_entry_39 ?_
    refine o_iadd (pc := 42) dX12_entry_42 ?_
    refine o_iload_n (pc := 43) dX12_entry_43 rfl ?_
    obtain ⟨hk6, hr2⟩ := ck_elim hr2
    refine m_iast (pc := 44) (by decide) rfl hk6 dX12_entry_44 ?_
    refine lz_s (mW) hr2 (fun s7 hr2 => ?_)
    show Rn g mdX12_entry 45 [some (.ref 0), some (.int p0), some (.int p1)] [] (mW s7) 0 0 none (mW q)
    refine o_aload_n (pc := 45) dX12_entry_45 rfl ?_
    refine o_dup (pc := 46) dX12_entry_46 rfl ?_
    refine m_getI (pc := 47) 31 (by decide) rfl lkX12_256 dX12_entry_47 ?_
    refine o_iconst (pc := 50) (v := 1) dX12_entry_50 rfl ?_
    refine o_iadd (pc := 51) dX12_entry_51 ?_
    refine m_putI (pc := 52) 31 (by decide) rfl rfl lkX12_256 ⟨rfl, rfl⟩ dX12_entry_52 ?_
    refine lz_s (mW) hr2 (fun s8 hr2 => ?_)
    show Rn g mdX12_entry 55 [some (.ref 0), some (.int p0), some (.int p1)] [] (mW s8) 0 0 none (mW q)
    obtain rfl := Option.some.inj hr2
    refine o_keep [false, false, false] ?_
    exact K3
def fX12_isCounted (p0 : Int32) (s : ST) : Option (ST) :=
  (if (gi s 0 33) = 60 then (fX12_fails 3 p0 s).bind (fun q5 => some q5) else some s : Option (ST)).bind (fun w1 => lt (si w1 0 33 ((gi w1 0 33) + 1)) (fun s6 => some s6))
set_option maxRecDepth 20000 in
theorem kX12_isCounted {g : GX} {p0 : Int32} {s : ST} {q : ST} (hf : fX12_isCounted p0 s = some q) : Cn g mdX12_isCounted [.ref 0, .int p0] (mW s) none (mW q) := by
  refine Cn.of (by decide) (Nat.le_of_ble_eq_true rfl) ?_
  show Rn g mdX12_isCounted 0 [some (.ref 0), some (.int p0)] [] (mW s) 0 0 none (mW q)
  unfold fX12_isCounted at hf
  refine o_aload_n (pc := 0) dX12_isCounted_0 rfl ?_
  refine m_getI (pc := 1) 33 (by decide) rfl lkX12_259 dX12_isCounted_1 ?_
  refine o_bipush (pc := 4) (v := 60) dX12_isCounted_4 rfl ?_
  obtain ⟨w1, hr2, hf⟩ := bd_elim hf
  have K3 : Rn g mdX12_isCounted 15 [some (.ref 0), none] [] (mW w1) 0 0 none (mW q) := by
    refine o_aload_n (pc := 15) dX12_isCounted_15 rfl ?_
    refine o_dup (pc := 16) dX12_isCounted_16 rfl ?_
    refine m_getI (pc := 17) 33 (by decide) rfl lkX12_259 dX12_isCounted_17 ?_
    refine o_iconst (pc := 20) (v := 1) dX12_isCounted_20 rfl ?_
    refine o_iadd (pc := 21) dX12_isCounted_21 ?_
    refine m_putI (pc := 22) 33 (by decide) rfl rfl lkX12_259 ⟨rfl, rfl⟩ dX12_isCounted_22 ?_
    refine lz_s (mW) hf (fun s6 hf => ?_)
    show Rn g mdX12_isCounted 25 [some (.ref 0), none] [] (mW s6) 0 0 none (mW q)
    obtain rfl := Option.some.inj hf
    exact o_return (pc := 25) dX12_isCounted_25 rfl (Nat.zero_le _) (Nat.zero_le _)
  clear hf
  refine o_icmp_ne (pc := 6) 15 dX12_isCounted_6 rfl (fun hc => ?_) (fun hc => ?_)
  · have hr2 := it_f hr2 hc
    obtain rfl := Option.some.inj hr2
    refine o_keep [true, false] ?_
    exact K3
  · have hr2 := it_t hr2 hc
    refine o_aload_n (pc := 9) dX12_isCounted_9 rfl ?_
    refine o_iconst (pc := 10) (v := 3) dX12_isCounted_10 rfl ?_
    refine o_iload_n (pc := 11) dX12_isCounted_11 rfl ?_
    obtain ⟨q5, hk4, hr2⟩ := bd_elim hr2
    refine m_callV (pc := 12) [.int 3, .int p0] dX12_isCounted_12 (kX12_fails hk4) stX12_262 ⟨by decide, by decide, by decide, by decide⟩ ⟨rfl, rfl⟩ (Nat.le_of_ble_eq_true rfl) ?_
    show Rn g mdX12_isCounted 15 [some (.ref 0), some (.int p0)] [] (mW q5) 0 0 none (mW q)
    obtain rfl := Option.some.inj hr2
    refine o_keep [true, false] ?_
    exact K3
def fX12_digits_L25 (a1 : Int32) (a2 : Int32) : Nat → Int32 → ST → Option (Int32 × ST)
  | 0, _, _ => none
  | n + 1, x3, s => (fX12_isDigit s).bind (fun q5 => if q5 = 0 then some (x3, s) else (if 5 ≤ ((gi s 0 27) - a2) then some x3 else (fX12_sign s).bind (fun q10 => some (((10 * x3) + q10) - 48)) : Option (Int32)).bind (fun w6 => lt (si s 0 27 ((gi s 0 27) + 1)) (fun s11 => fX12_digits_L25 a1 a2 n w6 s11)))
def fX12_digits (p0 : Int32) (s : ST) : Option (Int32 × ST) :=
  (fX12_isDigit s).bind (fun q2 => if q2 = 0 then (fX12_fails 0 (gi s 0 27) s).bind (fun q24 => some (0, q24)) else lt (gi s 0 27 : Int32) (fun v3 => (fX12_digits_L25 p0 v3 FUEL 0 s).bind (fun w12 => (if 5 < ((gi w12.2 0 27) - v3) then some true else if w12.1 ≤ p0 then some false else some true : Option Bool).bind (fun b15 => (if b15 = true then (fX12_fails 1 v3 w12.2).bind (fun q22 => some q22) else some w12.2 : Option (ST)).bind (fun w18 => some (w12.1, w18))))))
set_option maxRecDepth 20000 in
theorem kX12_digits_L25 {g : GX} (a1 : Int32) (a2 : Int32) {r : Option Value} {h2 : PH} : ∀ (n : Nat) (x3 : Int32) (s : ST) {w : Int32 × ST}, fX12_digits_L25 a1 a2 n x3 s = some w → Rn g mdX12_digits 72 [some (.ref 0), some (.int a1), some (.int a2), some (.int w.1)] [] (mW w.2) 0 0 r h2 → Rn g mdX12_digits 25 [some (.ref 0), some (.int a1), some (.int a2), some (.int x3)] [] (mW s) 0 0 r h2 := by
  intro n
  induction n with
  | zero => intro x3 s w hf K; cases hf
  | succ n ih =>
    intro x3 s w hf K
    rw [fX12_digits_L25] at hf
    refine o_aload_n (pc := 25) dX12_digits_25 rfl ?_
    obtain ⟨q5, hk4, hf⟩ := bd_elim hf
    refine m_callV (pc := 26) [] dX12_digits_26 (kX12_isDigit hk4) stX12_266 ⟨by decide, by decide, by decide, by decide⟩ ⟨rfl, rfl⟩ (Nat.le_of_ble_eq_true rfl) ?_
    show Rn g mdX12_digits 29 [some (.ref 0), some (.int a1), some (.int a2), some (.int x3)] [.int q5] (mW s) 0 0 r h2
    refine o_if_eq (pc := 29) 72 dX12_digits_29 rfl (fun hc => ?_) (fun hc => ?_)
    · have hf := it_t hf hc
      obtain rfl := Option.some.inj hf
      exact K
    · have hf := it_f hf hc
      refine o_aload_n (pc := 32) dX12_digits_32 rfl ?_
      refine m_getI (pc := 33) 27 (by decide) rfl lkX12_227 dX12_digits_33 ?_
      refine o_iload_n (pc := 36) dX12_digits_36 rfl ?_
      refine o_isub (pc := 37) dX12_digits_37 ?_
      refine o_iconst (pc := 38) (v := 5) dX12_digits_38 rfl ?_
      obtain ⟨w6, hr7, hf⟩ := bd_elim hf
      have K8 : Rn g mdX12_digits 58 [some (.ref 0), some (.int a1), some (.int a2), none] [.int w6] (mW s) 0 0 r h2 := by
        refine o_istore_n (pc := 58) dX12_digits_58 (by decide) rfl ?_
        show Rn g mdX12_digits 59 [some (.ref 0), some (.int a1), some (.int a2), some (.int w6)] [] (mW s) 0 0 r h2
        refine o_aload_n (pc := 59) dX12_digits_59 rfl ?_
        refine o_dup (pc := 60) dX12_digits_60 rfl ?_
        refine m_getI (pc := 61) 27 (by decide) rfl lkX12_227 dX12_digits_61 ?_
        refine o_iconst (pc := 64) (v := 1) dX12_digits_64 rfl ?_
        refine o_iadd (pc := 65) dX12_digits_65 ?_
        refine m_putI (pc := 66) 27 (by decide) rfl rfl lkX12_227 ⟨rfl, rfl⟩ dX12_digits_66 ?_
        refine lz_s (mW) hf (fun s11 hf => ?_)
        show Rn g mdX12_digits 69 [some (.ref 0), some (.int a1), some (.int a2), some (.int w6)] [] (mW s11) 0 0 r h2
        refine o_goto (pc := 69) 25 dX12_digits_69 rfl ?_
        exact ih _ _ hf K
      clear hf
      refine o_icmp_ge (pc := 39) 57 dX12_digits_39 rfl (fun hc => ?_) (fun hc => ?_)
      · have hr7 := it_t hr7 hc
        refine o_iload_n (pc := 57) dX12_digits_57 rfl ?_
        obtain rfl := Option.some.inj hr7
        refine o_keep [true, true, true, false] ?_
        exact K8
      · have hr7 := it_f hr7 hc
        refine o_bipush (pc := 42) (v := 10) dX12_digits_42 rfl ?_
        refine o_iload_n (pc := 44) dX12_digits_44 rfl ?_
        refine o_imul (pc := 45) dX12_digits_45 ?_
        refine o_aload_n (pc := 46) dX12_digits_46 rfl ?_
        obtain ⟨q10, hk9, hr7⟩ := bd_elim hr7
        refine m_callV (pc := 47) [] dX12_digits_47 (kX12_sign hk9) stX12_230 ⟨by decide, by decide, by decide, by decide⟩ ⟨rfl, rfl⟩ (Nat.le_of_ble_eq_true rfl) ?_
        show Rn g mdX12_digits 50 [some (.ref 0), some (.int a1), some (.int a2), some (.int x3)] [.int q10, .int (10 * x3)] (mW s) 0 0 r h2
        refine o_iadd (pc := 50) dX12_digits_50 ?_
        refine o_bipush (pc := 51) (v := 48) dX12_digits_51 rfl ?_
        refine o_isub (pc := 53) dX12_digits_53 ?_
        refine o_goto (pc := 54) 58 dX12_digits_54 rfl ?_
        obtain rfl := Option.some.inj hr7
        refine o_keep [true, true, true, false] ?_
        exact K8
set_option maxRecDepth 20000 in
theorem kX12_digits {g : GX} {p0 : Int32} {s : ST} {q : Int32 × ST} (hf : fX12_digits p0 s = some q) : Cn g mdX12_digits [.ref 0, .int p0] (mW s) (some (.int q.1)) (mW q.2) := by
  refine Cn.of (by decide) (Nat.le_of_ble_eq_true rfl) ?_
  show Rn g mdX12_digits 0 [some (.ref 0), some (.int p0), none, none] [] (mW s) 0 0 (some (.int q.1)) (mW q.2)
  unfold fX12_digits at hf
  refine o_aload_n (pc := 0) dX12_digits_0 rfl ?_
  obtain ⟨q2, hk1, hf⟩ := bd_elim hf
  refine m_callV (pc := 1) [] dX12_digits_1 (kX12_isDigit hk1) stX12_266 ⟨by decide, by decide, by decide, by decide⟩ ⟨rfl, rfl⟩ (Nat.le_of_ble_eq_true rfl) ?_
  show Rn g mdX12_digits 4 [some (.ref 0), some (.int p0), none, none] [.int q2] (mW s) 0 0 (some (.int q.1)) (mW q.2)
  refine o_if_ne (pc := 4) 18 dX12_digits_4 rfl (fun hc => ?_) (fun hc => ?_)
  · have hf := it_f hf hc
    refine o_aload_n (pc := 18) dX12_digits_18 rfl ?_
    refine m_getI (pc := 19) 27 (by decide) rfl lkX12_227 dX12_digits_19 ?_
    refine lz_i hf (fun v3 hf => ?_)
    refine o_istore_n (pc := 22) dX12_digits_22 (by decide) rfl ?_
    show Rn g mdX12_digits 23 [some (.ref 0), some (.int p0), some (.int v3), none] [] (mW s) 0 0 (some (.int q.1)) (mW q.2)
    refine o_iconst (pc := 23) (v := 0) dX12_digits_23 rfl ?_
    refine o_istore_n (pc := 24) dX12_digits_24 (by decide) rfl ?_
    show Rn g mdX12_digits 25 [some (.ref 0), some (.int p0), some (.int v3), some (.int 0)] [] (mW s) 0 0 (some (.int q.1)) (mW q.2)
    obtain ⟨w12, hl13, hf⟩ := bd_elim hf
    have K14 : Rn g mdX12_digits 72 [some (.ref 0), some (.int p0), some (.int v3), some (.int w12.1)] [] (mW w12.2) 0 0 (some (.int q.1)) (mW q.2) := by
      refine o_aload_n (pc := 72) dX12_digits_72 rfl ?_
      refine m_getI (pc := 73) 27 (by decide) rfl lkX12_227 dX12_digits_73 ?_
      refine o_iload_n (pc := 76) dX12_digits_76 rfl ?_
      refine o_isub (pc := 77) dX12_digits_77 ?_
      refine o_iconst (pc := 78) (v := 5) dX12_digits_78 rfl ?_
      obtain ⟨b15, hr16, hf⟩ := bd_elim hf
      obtain ⟨w18, hr19, hf⟩ := bd_elim hf
      have K20 : Rn g mdX12_digits 93 [none, none, none, some (.int w12.1)] [] (mW w18) 0 0 (some (.int q.1)) (mW q.2) := by
        refine o_iload_n (pc := 93) dX12_digits_93 rfl ?_
        obtain rfl := Option.some.inj hf
        exact o_ireturn (pc := 94) dX12_digits_94 rfl (Nat.zero_le _) (Nat.zero_le _)
      clear hf
      have KB17 : (b15 = true → Rn g mdX12_digits 87 [some (.ref 0), some (.int p0), some (.int v3), some (.int w12.1)] [] (mW w12.2) 0 0 (some (.int q.1)) (mW q.2)) ∧ (¬ b15 = true → Rn g mdX12_digits 93 [some (.ref 0), some (.int p0), some (.int v3), some (.int w12.1)] [] (mW w12.2) 0 0 (some (.int q.1)) (mW q.2)) := by
        refine ⟨fun hc => ?_, fun hc => ?_⟩
        · have hr19 := it_t hr19 hc
          refine o_aload_n (pc := 87) dX12_digits_87 rfl ?_
          refine o_iconst (pc := 88) (v := 1) dX12_digits_88 rfl ?_
          refine o_iload_n (pc := 89) dX12_digits_89 rfl ?_
          obtain ⟨q22, hk21, hr19⟩ := bd_elim hr19
          refine m_callV (pc := 90) [.int 1, .int v3] dX12_digits_90 (kX12_fails hk21) stX12_262 ⟨by decide, by decide, by decide, by decide⟩ ⟨rfl, rfl⟩ (Nat.le_of_ble_eq_true rfl) ?_
          show Rn g mdX12_digits 93 [some (.ref 0), some (.int p0), some (.int v3), some (.int w12.1)] [] (mW q22) 0 0 (some (.int q.1)) (mW q.2)
          obtain rfl := Option.some.inj hr19
          refine o_keep [false, false, false, true] ?_
          exact K20
        · have hr19 := it_f hr19 hc
          obtain rfl := Option.some.inj hr19
          refine o_keep [false, false, false, true] ?_
          exact K20
      clear hr19
      refine o_icmp_gt (pc := 79) 87 dX12_digits_79 rfl (fun hc => ?_) (fun hc => ?_)
      · have hr16 := it_t hr16 hc
        obtain rfl := Option.some.inj hr16
        exact KB17.1 rfl
      · have hr16 := it_f hr16 hc
        refine o_iload_n (pc := 82) dX12_digits_82 rfl ?_
        refine o_iload_n (pc := 83) dX12_digits_83 rfl ?_
        refine o_icmp_le (pc := 84) 93 dX12_digits_84 rfl (fun hc => ?_) (fun hc => ?_)
        · have hr16 := it_t hr16 hc
          obtain rfl := Option.some.inj hr16
          exact KB17.2 (by decide)
        · have hr16 := it_f hr16 hc
          obtain rfl := Option.some.inj hr16
          exact KB17.1 rfl
    exact kX12_digits_L25 _ _ _ _ _ hl13 K14
  · have hf := it_t hf hc
    refine o_aload_n (pc := 7) dX12_digits_7 rfl ?_
    refine o_iconst (pc := 8) (v := 0) dX12_digits_8 rfl ?_
    refine o_aload_n (pc := 9) dX12_digits_9 rfl ?_
    refine m_getI (pc := 10) 27 (by decide) rfl lkX12_227 dX12_digits_10 ?_
    obtain ⟨q24, hk23, hf⟩ := bd_elim hf
    refine m_callV (pc := 13) [.int 0, .int (gi s 0 27)] dX12_digits_13 (kX12_fails hk23) stX12_262 ⟨by decide, by decide, by decide, by decide⟩ ⟨rfl, rfl⟩ (Nat.le_of_ble_eq_true rfl) ?_
    show Rn g mdX12_digits 16 [some (.ref 0), some (.int p0), none, none] [] (mW q24) 0 0 (some (.int q.1)) (mW q.2)
    refine o_iconst (pc := 16) (v := 0) dX12_digits_16 rfl ?_
    obtain rfl := Option.some.inj hf
    exact o_ireturn (pc := 17) dX12_digits_17 rfl (Nat.zero_le _) (Nat.zero_le _)
def fX12_value_L38 (a1 : Int32) : Nat → Int32 → ST → Option (Int32)
  | 0, _, _ => none
  | n + 1, x2, s => (if (gi s 0 35) ≤ x2 then some false else (fX12_wordOf x2 s).bind (fun q10 => (fX12_stood q10 s).bind (fun q12 => if q12 = 0 then some true else some false)) : Option Bool).bind (fun b6 => if b6 = true then lt (x2 + 1) (fun v13 => fX12_value_L38 a1 n v13 s) else some x2)
def fX12_value (s : ST) : Option (ST) :=
  (fX12_blanks s).bind (fun q2 => lt (gi q2 0 27 : Int32) (fun v3 => (fX12_isDigit q2).bind (fun q5 => if q5 = 0 then (fX12_value_L38 v3 FUEL 0 q2).bind (fun w14 => if w14 = (gi q2 0 35) then (fX12_fails 0 v3 q2).bind (fun q26 => some q26) else (fX12_isCounted v3 q2).bind (fun q18 => (fX12_wordOf w14 q18).bind (fun q20 => ck (okT q20) (lt (si q18 0 27 ((gi q18 0 27) + (tlen q20))) (fun s22 => (fX12_entry 1 w14 s22).bind (fun q24 => some q24)))))) else (fX12_digits 99999 q2).bind (fun q28 => (fX12_isCounted v3 q28.2).bind (fun q30 => (fX12_entry 0 q28.1 q30).bind (fun q32 => some q32))))))
set_option maxRecDepth 20000 in
theorem kX12_value_L38 {g : GX} (a1 : Int32) (s : ST) {r : Option Value} {h2 : PH} : ∀ (n : Nat) (x2 : Int32) {w : Int32}, fX12_value_L38 a1 n x2 s = some w → Rn g mdX12_value 63 [some (.ref 0), some (.int a1), some (.int w)] [] (mW s) 0 0 r h2 → Rn g mdX12_value 38 [some (.ref 0), some (.int a1), some (.int x2)] [] (mW s) 0 0 r h2 := by
  intro n
  induction n with
  | zero => intro x2 w hf K; cases hf
  | succ n ih =>
    intro x2 w hf K
    rw [fX12_value_L38] at hf
    refine o_iload_n (pc := 38) dX12_value_38 rfl ?_
    refine o_aload_n (pc := 39) dX12_value_39 rfl ?_
    refine m_getI (pc := 40) 35 (by decide) rfl lkX12_85 dX12_value_40 ?_
    obtain ⟨b6, hr7, hf⟩ := bd_elim hf
    have KB8 : (b6 = true → Rn g mdX12_value 57 [some (.ref 0), some (.int a1), some (.int x2)] [] (mW s) 0 0 r h2) ∧ (¬ b6 = true → Rn g mdX12_value 63 [some (.ref 0), some (.int a1), some (.int x2)] [] (mW s) 0 0 r h2) := by
      refine ⟨fun hc => ?_, fun hc => ?_⟩
      · have hf := it_t hf hc
        refine o_iinc (pc := 57) dX12_value_57 rfl (by decide) rfl ?_
        show Rn g mdX12_value 60 [some (.ref 0), some (.int a1), some (.int (x2 + 1))] [] (mW s) 0 0 r h2
        obtain ⟨v13, ev13, hf⟩ := lt_elim hf
        rw [ev13]
        show Rn g mdX12_value 60 [some (.ref 0), some (.int a1), some (.int v13)] [] (mW s) 0 0 r h2
        refine o_goto (pc := 60) 38 dX12_value_60 rfl ?_
        exact ih _ hf K
      · have hf := it_f hf hc
        obtain rfl := Option.some.inj hf
        exact K
    clear hf
    refine o_icmp_ge (pc := 43) 63 dX12_value_43 rfl (fun hc => ?_) (fun hc => ?_)
    · have hr7 := it_t hr7 hc
      obtain rfl := Option.some.inj hr7
      exact KB8.2 (by decide)
    · have hr7 := it_f hr7 hc
      refine o_aload_n (pc := 46) dX12_value_46 rfl ?_
      refine o_iload_n (pc := 47) dX12_value_47 rfl ?_
      obtain ⟨q10, hk9, hr7⟩ := bd_elim hr7
      refine m_callS (pc := 48) [.int x2] dX12_value_48 (kX12_wordOf hk9) stX12_281 ⟨by decide, by decide, by decide, by decide⟩ ⟨rfl, rfl⟩ (Nat.le_of_ble_eq_true rfl) ?_
      show Rn g mdX12_value 51 [some (.ref 0), some (.int a1), some (.int x2)] [.ref q10, .ref 0] (mW s) 0 0 r h2
      obtain ⟨q12, hk11, hr7⟩ := bd_elim hr7
      refine m_callV (pc := 51) [.ref q10] dX12_value_51 (kX12_stood hk11) stX12_249 ⟨by decide, by decide, by decide, by decide⟩ ⟨rfl, rfl⟩ (Nat.le_of_ble_eq_true rfl) ?_
      show Rn g mdX12_value 54 [some (.ref 0), some (.int a1), some (.int x2)] [.int q12] (mW s) 0 0 r h2
      refine o_if_ne (pc := 54) 63 dX12_value_54 rfl (fun hc => ?_) (fun hc => ?_)
      · have hr7 := it_f hr7 hc
        obtain rfl := Option.some.inj hr7
        exact KB8.2 (by decide)
      · have hr7 := it_t hr7 hc
        obtain rfl := Option.some.inj hr7
        exact KB8.1 rfl
set_option maxRecDepth 20000 in
theorem kX12_value {g : GX} {s : ST} {q : ST} (hf : fX12_value s = some q) : Cn g mdX12_value [.ref 0] (mW s) none (mW q) := by
  refine Cn.of (by decide) (Nat.le_of_ble_eq_true rfl) ?_
  show Rn g mdX12_value 0 [some (.ref 0), none, none] [] (mW s) 0 0 none (mW q)
  unfold fX12_value at hf
  refine o_aload_n (pc := 0) dX12_value_0 rfl ?_
  obtain ⟨q2, hk1, hf⟩ := bd_elim hf
  refine m_callV (pc := 1) [] dX12_value_1 (kX12_blanks hk1) stX12_246 ⟨by decide, by decide, by decide, by decide⟩ ⟨rfl, rfl⟩ (Nat.le_of_ble_eq_true rfl) ?_
  show Rn g mdX12_value 4 [some (.ref 0), none, none] [] (mW q2) 0 0 none (mW q)
  refine o_aload_n (pc := 4) dX12_value_4 rfl ?_
  refine m_getI (pc := 5) 27 (by decide) rfl lkX12_227 dX12_value_5 ?_
  refine lz_i hf (fun v3 hf => ?_)
  refine o_istore_n (pc := 8) dX12_value_8 (by decide) rfl ?_
  show Rn g mdX12_value 9 [some (.ref 0), some (.int v3), none] [] (mW q2) 0 0 none (mW q)
  refine o_aload_n (pc := 9) dX12_value_9 rfl ?_
  obtain ⟨q5, hk4, hf⟩ := bd_elim hf
  refine m_callV (pc := 10) [] dX12_value_10 (kX12_isDigit hk4) stX12_266 ⟨by decide, by decide, by decide, by decide⟩ ⟨rfl, rfl⟩ (Nat.le_of_ble_eq_true rfl) ?_
  show Rn g mdX12_value 13 [some (.ref 0), some (.int v3), none] [.int q5] (mW q2) 0 0 none (mW q)
  refine o_if_eq (pc := 13) 36 dX12_value_13 rfl (fun hc => ?_) (fun hc => ?_)
  · have hf := it_t hf hc
    refine o_iconst (pc := 36) (v := 0) dX12_value_36 rfl ?_
    refine o_istore_n (pc := 37) dX12_value_37 (by decide) rfl ?_
    show Rn g mdX12_value 38 [some (.ref 0), some (.int v3), some (.int 0)] [] (mW q2) 0 0 none (mW q)
    obtain ⟨w14, hl15, hf⟩ := bd_elim hf
    have K16 : Rn g mdX12_value 63 [some (.ref 0), some (.int v3), some (.int w14)] [] (mW q2) 0 0 none (mW q) := by
      refine o_iload_n (pc := 63) dX12_value_63 rfl ?_
      refine o_aload_n (pc := 64) dX12_value_64 rfl ?_
      refine m_getI (pc := 65) 35 (by decide) rfl lkX12_85 dX12_value_65 ?_
      refine o_icmp_ne (pc := 68) 78 dX12_value_68 rfl (fun hc => ?_) (fun hc => ?_)
      · have hf := it_f hf hc
        refine o_aload_n (pc := 78) dX12_value_78 rfl ?_
        refine o_iload_n (pc := 79) dX12_value_79 rfl ?_
        obtain ⟨q18, hk17, hf⟩ := bd_elim hf
        refine m_callV (pc := 80) [.int v3] dX12_value_80 (kX12_isCounted hk17) stX12_275 ⟨by decide, by decide, by decide, by decide⟩ ⟨rfl, rfl⟩ (Nat.le_of_ble_eq_true rfl) ?_
        show Rn g mdX12_value 83 [some (.ref 0), some (.int v3), some (.int w14)] [] (mW q18) 0 0 none (mW q)
        refine o_aload_n (pc := 83) dX12_value_83 rfl ?_
        refine o_dup (pc := 84) dX12_value_84 rfl ?_
        refine m_getI (pc := 85) 27 (by decide) rfl lkX12_227 dX12_value_85 ?_
        refine o_iload_n (pc := 88) dX12_value_88 rfl ?_
        obtain ⟨q20, hk19, hf⟩ := bd_elim hf
        refine m_callS (pc := 89) [.int w14] dX12_value_89 (kX12_wordOf hk19) stX12_281 ⟨by decide, by decide, by decide, by decide⟩ ⟨rfl, rfl⟩ (Nat.le_of_ble_eq_true rfl) ?_
        show Rn g mdX12_value 92 [some (.ref 0), some (.int v3), some (.int w14)] [.ref q20, .int (gi q18 0 27), .ref 0] (mW q18) 0 0 none (mW q)
        obtain ⟨hk21, hf⟩ := ck_elim hf
        refine o_tlength (pc := 92) hk21 dX12_value_92 stX12_238 ⟨by decide, by decide, by decide, by decide⟩ (Nat.le_of_ble_eq_true rfl) ?_
        show Rn g mdX12_value 95 [some (.ref 0), some (.int v3), some (.int w14)] [.int (tlen q20), .int (gi q18 0 27), .ref 0] (mW q18) 0 0 none (mW q)
        refine o_iadd (pc := 95) dX12_value_95 ?_
        refine m_putI (pc := 96) 27 (by decide) rfl rfl lkX12_227 ⟨rfl, rfl⟩ dX12_value_96 ?_
        refine lz_s (mW) hf (fun s22 hf => ?_)
        show Rn g mdX12_value 99 [some (.ref 0), some (.int v3), some (.int w14)] [] (mW s22) 0 0 none (mW q)
        refine o_aload_n (pc := 99) dX12_value_99 rfl ?_
        refine o_iconst (pc := 100) (v := 1) dX12_value_100 rfl ?_
        refine o_iload_n (pc := 101) dX12_value_101 rfl ?_
        obtain ⟨q24, hk23, hf⟩ := bd_elim hf
        refine m_callV (pc := 102) [.int 1, .int w14] dX12_value_102 (kX12_entry hk23) stX12_278 ⟨by decide, by decide, by decide, by decide⟩ ⟨rfl, rfl⟩ (Nat.le_of_ble_eq_true rfl) ?_
        show Rn g mdX12_value 105 [some (.ref 0), some (.int v3), some (.int w14)] [] (mW q24) 0 0 none (mW q)
        obtain rfl := Option.some.inj hf
        exact o_return (pc := 105) dX12_value_105 rfl (Nat.zero_le _) (Nat.zero_le _)
      · have hf := it_t hf hc
        refine o_aload_n (pc := 71) dX12_value_71 rfl ?_
        refine o_iconst (pc := 72) (v := 0) dX12_value_72 rfl ?_
        refine o_iload_n (pc := 73) dX12_value_73 rfl ?_
        obtain ⟨q26, hk25, hf⟩ := bd_elim hf
        refine m_callV (pc := 74) [.int 0, .int v3] dX12_value_74 (kX12_fails hk25) stX12_262 ⟨by decide, by decide, by decide, by decide⟩ ⟨rfl, rfl⟩ (Nat.le_of_ble_eq_true rfl) ?_
        show Rn g mdX12_value 77 [some (.ref 0), some (.int v3), some (.int w14)] [] (mW q26) 0 0 none (mW q)
        obtain rfl := Option.some.inj hf
        exact o_return (pc := 77) dX12_value_77 rfl (Nat.zero_le _) (Nat.zero_le _)
    exact kX12_value_L38 _ _ _ _ hl15 K16
  · have hf := it_f hf hc
    refine o_aload_n (pc := 16) dX12_value_16 rfl ?_
    refine o_ldcw (pc := 17) dX12_value_17 lcX12_270 ?_
    obtain ⟨q28, hk27, hf⟩ := bd_elim hf
    refine m_callV (pc := 20) [.int 99999] dX12_value_20 (kX12_digits hk27) stX12_271 ⟨by decide, by decide, by decide, by decide⟩ ⟨rfl, rfl⟩ (Nat.le_of_ble_eq_true rfl) ?_
    show Rn g mdX12_value 23 [some (.ref 0), some (.int v3), none] [.int q28.1] (mW q28.2) 0 0 none (mW q)
    refine o_istore_n (pc := 23) dX12_value_23 (by decide) rfl ?_
    show Rn g mdX12_value 24 [some (.ref 0), some (.int v3), some (.int q28.1)] [] (mW q28.2) 0 0 none (mW q)
    refine o_aload_n (pc := 24) dX12_value_24 rfl ?_
    refine o_iload_n (pc := 25) dX12_value_25 rfl ?_
    obtain ⟨q30, hk29, hf⟩ := bd_elim hf
    refine m_callV (pc := 26) [.int v3] dX12_value_26 (kX12_isCounted hk29) stX12_275 ⟨by decide, by decide, by decide, by decide⟩ ⟨rfl, rfl⟩ (Nat.le_of_ble_eq_true rfl) ?_
    show Rn g mdX12_value 29 [some (.ref 0), some (.int v3), some (.int q28.1)] [] (mW q30) 0 0 none (mW q)
    refine o_aload_n (pc := 29) dX12_value_29 rfl ?_
    refine o_iconst (pc := 30) (v := 0) dX12_value_30 rfl ?_
    refine o_iload_n (pc := 31) dX12_value_31 rfl ?_
    obtain ⟨q32, hk31, hf⟩ := bd_elim hf
    refine m_callV (pc := 32) [.int 0, .int q28.1] dX12_value_32 (kX12_entry hk31) stX12_278 ⟨by decide, by decide, by decide, by decide⟩ ⟨rfl, rfl⟩ (Nat.le_of_ble_eq_true rfl) ?_
    show Rn g mdX12_value 35 [some (.ref 0), some (.int v3), some (.int q28.1)] [] (mW q32) 0 0 none (mW q)
    obtain rfl := Option.some.inj hf
    exact o_return (pc := 35) dX12_value_35 rfl (Nat.zero_le _) (Nat.zero_le _)
def fX12_term_L8 : Nat → ST → Option (ST)
  | 0, _ => none
  | n + 1, s => if (gi s 0 28) = 0 then (fX12_sign s).bind (fun q6 => (if q6 = 42 then some true else (fX12_sign s).bind (fun q11 => if q11 = 47 then some true else (fX12_sign s).bind (fun q13 => if q13 = 37 then some true else some false)) : Option Bool).bind (fun b7 => if b7 = true then (fX12_sign s).bind (fun q15 => (if q15 = 42 then some 13 else (fX12_sign s).bind (fun q20 => if q20 = 47 then some 14 else some 15) : Option (Int32)).bind (fun w16 => lt (si s 0 27 ((gi s 0 27) + 1)) (fun s21 => (fX12_value s21).bind (fun q23 => (fX12_entry w16 0 q23).bind (fun q25 => (fX12_blanks q25).bind (fun q27 => fX12_term_L8 n q27)))))) else some s)) else some s
def fX12_term (s : ST) : Option (ST) :=
  (fX12_value s).bind (fun q2 => (fX12_blanks q2).bind (fun q4 => (fX12_term_L8 FUEL q4).bind (fun w28 => some w28)))
set_option maxRecDepth 20000 in
theorem kX12_term_L8 {g : GX} {r : Option Value} {h2 : PH} : ∀ (n : Nat) (s : ST) {w : ST}, fX12_term_L8 n s = some w → Rn g mdX12_term 100 [none, none] [] (mW w) 0 0 r h2 → Rn g mdX12_term 8 [some (.ref 0), none] [] (mW s) 0 0 r h2 := by
  intro n
  induction n with
  | zero => intro s w hf K; cases hf
  | succ n ih =>
    intro s w hf K
    rw [fX12_term_L8] at hf
    refine o_aload_n (pc := 8) dX12_term_8 rfl ?_
    refine m_getI (pc := 9) 28 (by decide) rfl lkX12_224 dX12_term_9 ?_
    refine o_if_ne (pc := 12) 100 dX12_term_12 rfl (fun hc => ?_) (fun hc => ?_)
    · have hf := it_f hf hc
      obtain rfl := Option.some.inj hf
      refine o_keep [false, false] ?_
      exact K
    · have hf := it_t hf hc
      refine o_aload_n (pc := 15) dX12_term_15 rfl ?_
      obtain ⟨q6, hk5, hf⟩ := bd_elim hf
      refine m_callV (pc := 16) [] dX12_term_16 (kX12_sign hk5) stX12_230 ⟨by decide, by decide, by decide, by decide⟩ ⟨rfl, rfl⟩ (Nat.le_of_ble_eq_true rfl) ?_
      show Rn g mdX12_term 19 [some (.ref 0), none] [.int q6] (mW s) 0 0 r h2
      refine o_bipush (pc := 19) (v := 42) dX12_term_19 rfl ?_
      obtain ⟨b7, hr8, hf⟩ := bd_elim hf
      have KB9 : (b7 = true → Rn g mdX12_term 42 [some (.ref 0), none] [] (mW s) 0 0 r h2) ∧ (¬ b7 = true → Rn g mdX12_term 100 [some (.ref 0), none] [] (mW s) 0 0 r h2) := by
        refine ⟨fun hc => ?_, fun hc => ?_⟩
        · have hf := it_t hf hc
          refine o_aload_n (pc := 42) dX12_term_42 rfl ?_
          obtain ⟨q15, hk14, hf⟩ := bd_elim hf
          refine m_callV (pc := 43) [] dX12_term_43 (kX12_sign hk14) stX12_230 ⟨by decide, by decide, by decide, by decide⟩ ⟨rfl, rfl⟩ (Nat.le_of_ble_eq_true rfl) ?_
          show Rn g mdX12_term 46 [some (.ref 0), none] [.int q15] (mW s) 0 0 r h2
          refine o_bipush (pc := 46) (v := 42) dX12_term_46 rfl ?_
          obtain ⟨w16, hr17, hf⟩ := bd_elim hf
          have K18 : Rn g mdX12_term 72 [some (.ref 0), none] [.int w16] (mW s) 0 0 r h2 := by
            refine o_istore_n (pc := 72) dX12_term_72 (by decide) rfl ?_
            show Rn g mdX12_term 73 [some (.ref 0), some (.int w16)] [] (mW s) 0 0 r h2
            refine o_aload_n (pc := 73) dX12_term_73 rfl ?_
            refine o_dup (pc := 74) dX12_term_74 rfl ?_
            refine m_getI (pc := 75) 27 (by decide) rfl lkX12_227 dX12_term_75 ?_
            refine o_iconst (pc := 78) (v := 1) dX12_term_78 rfl ?_
            refine o_iadd (pc := 79) dX12_term_79 ?_
            refine m_putI (pc := 80) 27 (by decide) rfl rfl lkX12_227 ⟨rfl, rfl⟩ dX12_term_80 ?_
            refine lz_s (mW) hf (fun s21 hf => ?_)
            show Rn g mdX12_term 83 [some (.ref 0), some (.int w16)] [] (mW s21) 0 0 r h2
            refine o_aload_n (pc := 83) dX12_term_83 rfl ?_
            obtain ⟨q23, hk22, hf⟩ := bd_elim hf
            refine m_callV (pc := 84) [] dX12_term_84 (kX12_value hk22) stX12_285 ⟨by decide, by decide, by decide, by decide⟩ ⟨rfl, rfl⟩ (Nat.le_of_ble_eq_true rfl) ?_
            show Rn g mdX12_term 87 [some (.ref 0), some (.int w16)] [] (mW q23) 0 0 r h2
            refine o_aload_n (pc := 87) dX12_term_87 rfl ?_
            refine o_iload_n (pc := 88) dX12_term_88 rfl ?_
            refine o_iconst (pc := 89) (v := 0) dX12_term_89 rfl ?_
            obtain ⟨q25, hk24, hf⟩ := bd_elim hf
            refine m_callV (pc := 90) [.int w16, .int 0] dX12_term_90 (kX12_entry hk24) stX12_278 ⟨by decide, by decide, by decide, by decide⟩ ⟨rfl, rfl⟩ (Nat.le_of_ble_eq_true rfl) ?_
            show Rn g mdX12_term 93 [some (.ref 0), some (.int w16)] [] (mW q25) 0 0 r h2
            refine o_aload_n (pc := 93) dX12_term_93 rfl ?_
            obtain ⟨q27, hk26, hf⟩ := bd_elim hf
            refine m_callV (pc := 94) [] dX12_term_94 (kX12_blanks hk26) stX12_246 ⟨by decide, by decide, by decide, by decide⟩ ⟨rfl, rfl⟩ (Nat.le_of_ble_eq_true rfl) ?_
            show Rn g mdX12_term 97 [some (.ref 0), some (.int w16)] [] (mW q27) 0 0 r h2
            refine o_goto (pc := 97) 8 dX12_term_97 rfl ?_
            refine o_keep [true, false] ?_
            exact ih _ hf K
          clear hf
          refine o_icmp_ne (pc := 48) 56 dX12_term_48 rfl (fun hc => ?_) (fun hc => ?_)
          · have hr17 := it_f hr17 hc
            refine o_aload_n (pc := 56) dX12_term_56 rfl ?_
            obtain ⟨q20, hk19, hr17⟩ := bd_elim hr17
            refine m_callV (pc := 57) [] dX12_term_57 (kX12_sign hk19) stX12_230 ⟨by decide, by decide, by decide, by decide⟩ ⟨rfl, rfl⟩ (Nat.le_of_ble_eq_true rfl) ?_
            show Rn g mdX12_term 60 [some (.ref 0), none] [.int q20] (mW s) 0 0 r h2
            refine o_bipush (pc := 60) (v := 47) dX12_term_60 rfl ?_
            refine o_icmp_ne (pc := 62) 70 dX12_term_62 rfl (fun hc => ?_) (fun hc => ?_)
            · have hr17 := it_f hr17 hc
              refine o_bipush (pc := 70) (v := 15) dX12_term_70 rfl ?_
              obtain rfl := Option.some.inj hr17
              exact K18
            · have hr17 := it_t hr17 hc
              refine o_bipush (pc := 65) (v := 14) dX12_term_65 rfl ?_
              refine o_goto (pc := 67) 72 dX12_term_67 rfl ?_
              obtain rfl := Option.some.inj hr17
              exact K18
          · have hr17 := it_t hr17 hc
            refine o_bipush (pc := 51) (v := 13) dX12_term_51 rfl ?_
            refine o_goto (pc := 53) 72 dX12_term_53 rfl ?_
            obtain rfl := Option.some.inj hr17
            exact K18
        · have hf := it_f hf hc
          obtain rfl := Option.some.inj hf
          refine o_keep [false, false] ?_
          exact K
      clear hf
      refine o_icmp_eq (pc := 21) 42 dX12_term_21 rfl (fun hc => ?_) (fun hc => ?_)
      · have hr8 := it_t hr8 hc
        obtain rfl := Option.some.inj hr8
        exact KB9.1 rfl
      · have hr8 := it_f hr8 hc
        refine o_aload_n (pc := 24) dX12_term_24 rfl ?_
        obtain ⟨q11, hk10, hr8⟩ := bd_elim hr8
        refine m_callV (pc := 25) [] dX12_term_25 (kX12_sign hk10) stX12_230 ⟨by decide, by decide, by decide, by decide⟩ ⟨rfl, rfl⟩ (Nat.le_of_ble_eq_true rfl) ?_
        show Rn g mdX12_term 28 [some (.ref 0), none] [.int q11] (mW s) 0 0 r h2
        refine o_bipush (pc := 28) (v := 47) dX12_term_28 rfl ?_
        refine o_icmp_eq (pc := 30) 42 dX12_term_30 rfl (fun hc => ?_) (fun hc => ?_)
        · have hr8 := it_t hr8 hc
          obtain rfl := Option.some.inj hr8
          exact KB9.1 rfl
        · have hr8 := it_f hr8 hc
          refine o_aload_n (pc := 33) dX12_term_33 rfl ?_
          obtain ⟨q13, hk12, hr8⟩ := bd_elim hr8
          refine m_callV (pc := 34) [] dX12_term_34 (kX12_sign hk12) stX12_230 ⟨by decide, by decide, by decide, by decide⟩ ⟨rfl, rfl⟩ (Nat.le_of_ble_eq_true rfl) ?_
          show Rn g mdX12_term 37 [some (.ref 0), none] [.int q13] (mW s) 0 0 r h2
          refine o_bipush (pc := 37) (v := 37) dX12_term_37 rfl ?_
          refine o_icmp_ne (pc := 39) 100 dX12_term_39 rfl (fun hc => ?_) (fun hc => ?_)
          · have hr8 := it_f hr8 hc
            obtain rfl := Option.some.inj hr8
            exact KB9.2 (by decide)
          · have hr8 := it_t hr8 hc
            obtain rfl := Option.some.inj hr8
            exact KB9.1 rfl
set_option maxRecDepth 20000 in
theorem kX12_term {g : GX} {s : ST} {q : ST} (hf : fX12_term s = some q) : Cn g mdX12_term [.ref 0] (mW s) none (mW q) := by
  refine Cn.of (by decide) (Nat.le_of_ble_eq_true rfl) ?_
  show Rn g mdX12_term 0 [some (.ref 0), none] [] (mW s) 0 0 none (mW q)
  unfold fX12_term at hf
  refine o_aload_n (pc := 0) dX12_term_0 rfl ?_
  obtain ⟨q2, hk1, hf⟩ := bd_elim hf
  refine m_callV (pc := 1) [] dX12_term_1 (kX12_value hk1) stX12_285 ⟨by decide, by decide, by decide, by decide⟩ ⟨rfl, rfl⟩ (Nat.le_of_ble_eq_true rfl) ?_
  show Rn g mdX12_term 4 [some (.ref 0), none] [] (mW q2) 0 0 none (mW q)
  refine o_aload_n (pc := 4) dX12_term_4 rfl ?_
  obtain ⟨q4, hk3, hf⟩ := bd_elim hf
  refine m_callV (pc := 5) [] dX12_term_5 (kX12_blanks hk3) stX12_246 ⟨by decide, by decide, by decide, by decide⟩ ⟨rfl, rfl⟩ (Nat.le_of_ble_eq_true rfl) ?_
  show Rn g mdX12_term 8 [some (.ref 0), none] [] (mW q4) 0 0 none (mW q)
  obtain ⟨w28, hl29, hf⟩ := bd_elim hf
  have K30 : Rn g mdX12_term 100 [none, none] [] (mW w28) 0 0 none (mW q) := by
    obtain rfl := Option.some.inj hf
    exact o_return (pc := 100) dX12_term_100 rfl (Nat.zero_le _) (Nat.zero_le _)
  exact kX12_term_L8 _ _ hl29 K30
def fX12_sum_L4 : Nat → ST → Option (ST)
  | 0, _ => none
  | n + 1, s => if (gi s 0 28) = 0 then (fX12_sign s).bind (fun q4 => (if q4 = 43 then some true else (fX12_sign s).bind (fun q9 => if q9 = 45 then some true else some false) : Option Bool).bind (fun b5 => if b5 = true then (fX12_sign s).bind (fun q11 => (if q11 = 43 then some 2 else some 3 : Option (Int32)).bind (fun w12 => lt (si s 0 27 ((gi s 0 27) + 1)) (fun s15 => (fX12_term s15).bind (fun q17 => (fX12_entry w12 0 q17).bind (fun q19 => fX12_sum_L4 n q19))))) else some s)) else some s
def fX12_sum (s : ST) : Option (ST) :=
  (fX12_term s).bind (fun q2 => (fX12_sum_L4 FUEL q2).bind (fun w20 => some w20))
set_option maxRecDepth 20000 in
theorem kX12_sum_L4 {g : GX} {r : Option Value} {h2 : PH} : ∀ (n : Nat) (s : ST) {w : ST}, fX12_sum_L4 n s = some w → Rn g mdX12_sum 67 [none, none] [] (mW w) 0 0 r h2 → Rn g mdX12_sum 4 [some (.ref 0), none] [] (mW s) 0 0 r h2 := by
  intro n
  induction n with
  | zero => intro s w hf K; cases hf
  | succ n ih =>
    intro s w hf K
    rw [fX12_sum_L4] at hf
    refine o_aload_n (pc := 4) dX12_sum_4 rfl ?_
    refine m_getI (pc := 5) 28 (by decide) rfl lkX12_224 dX12_sum_5 ?_
    refine o_if_ne (pc := 8) 67 dX12_sum_8 rfl (fun hc => ?_) (fun hc => ?_)
    · have hf := it_f hf hc
      obtain rfl := Option.some.inj hf
      refine o_keep [false, false] ?_
      exact K
    · have hf := it_t hf hc
      refine o_aload_n (pc := 11) dX12_sum_11 rfl ?_
      obtain ⟨q4, hk3, hf⟩ := bd_elim hf
      refine m_callV (pc := 12) [] dX12_sum_12 (kX12_sign hk3) stX12_230 ⟨by decide, by decide, by decide, by decide⟩ ⟨rfl, rfl⟩ (Nat.le_of_ble_eq_true rfl) ?_
      show Rn g mdX12_sum 15 [some (.ref 0), none] [.int q4] (mW s) 0 0 r h2
      refine o_bipush (pc := 15) (v := 43) dX12_sum_15 rfl ?_
      obtain ⟨b5, hr6, hf⟩ := bd_elim hf
      have KB7 : (b5 = true → Rn g mdX12_sum 29 [some (.ref 0), none] [] (mW s) 0 0 r h2) ∧ (¬ b5 = true → Rn g mdX12_sum 67 [some (.ref 0), none] [] (mW s) 0 0 r h2) := by
        refine ⟨fun hc => ?_, fun hc => ?_⟩
        · have hf := it_t hf hc
          refine o_aload_n (pc := 29) dX12_sum_29 rfl ?_
          obtain ⟨q11, hk10, hf⟩ := bd_elim hf
          refine m_callV (pc := 30) [] dX12_sum_30 (kX12_sign hk10) stX12_230 ⟨by decide, by decide, by decide, by decide⟩ ⟨rfl, rfl⟩ (Nat.le_of_ble_eq_true rfl) ?_
          show Rn g mdX12_sum 33 [some (.ref 0), none] [.int q11] (mW s) 0 0 r h2
          refine o_bipush (pc := 33) (v := 43) dX12_sum_33 rfl ?_
          obtain ⟨w12, hr13, hf⟩ := bd_elim hf
          have K14 : Rn g mdX12_sum 43 [some (.ref 0), none] [.int w12] (mW s) 0 0 r h2 := by
            refine o_istore_n (pc := 43) dX12_sum_43 (by decide) rfl ?_
            show Rn g mdX12_sum 44 [some (.ref 0), some (.int w12)] [] (mW s) 0 0 r h2
            refine o_aload_n (pc := 44) dX12_sum_44 rfl ?_
            refine o_dup (pc := 45) dX12_sum_45 rfl ?_
            refine m_getI (pc := 46) 27 (by decide) rfl lkX12_227 dX12_sum_46 ?_
            refine o_iconst (pc := 49) (v := 1) dX12_sum_49 rfl ?_
            refine o_iadd (pc := 50) dX12_sum_50 ?_
            refine m_putI (pc := 51) 27 (by decide) rfl rfl lkX12_227 ⟨rfl, rfl⟩ dX12_sum_51 ?_
            refine lz_s (mW) hf (fun s15 hf => ?_)
            show Rn g mdX12_sum 54 [some (.ref 0), some (.int w12)] [] (mW s15) 0 0 r h2
            refine o_aload_n (pc := 54) dX12_sum_54 rfl ?_
            obtain ⟨q17, hk16, hf⟩ := bd_elim hf
            refine m_callV (pc := 55) [] dX12_sum_55 (kX12_term hk16) stX12_288 ⟨by decide, by decide, by decide, by decide⟩ ⟨rfl, rfl⟩ (Nat.le_of_ble_eq_true rfl) ?_
            show Rn g mdX12_sum 58 [some (.ref 0), some (.int w12)] [] (mW q17) 0 0 r h2
            refine o_aload_n (pc := 58) dX12_sum_58 rfl ?_
            refine o_iload_n (pc := 59) dX12_sum_59 rfl ?_
            refine o_iconst (pc := 60) (v := 0) dX12_sum_60 rfl ?_
            obtain ⟨q19, hk18, hf⟩ := bd_elim hf
            refine m_callV (pc := 61) [.int w12, .int 0] dX12_sum_61 (kX12_entry hk18) stX12_278 ⟨by decide, by decide, by decide, by decide⟩ ⟨rfl, rfl⟩ (Nat.le_of_ble_eq_true rfl) ?_
            show Rn g mdX12_sum 64 [some (.ref 0), some (.int w12)] [] (mW q19) 0 0 r h2
            refine o_goto (pc := 64) 4 dX12_sum_64 rfl ?_
            refine o_keep [true, false] ?_
            exact ih _ hf K
          clear hf
          refine o_icmp_ne (pc := 35) 42 dX12_sum_35 rfl (fun hc => ?_) (fun hc => ?_)
          · have hr13 := it_f hr13 hc
            refine o_iconst (pc := 42) (v := 3) dX12_sum_42 rfl ?_
            obtain rfl := Option.some.inj hr13
            exact K14
          · have hr13 := it_t hr13 hc
            refine o_iconst (pc := 38) (v := 2) dX12_sum_38 rfl ?_
            refine o_goto (pc := 39) 43 dX12_sum_39 rfl ?_
            obtain rfl := Option.some.inj hr13
            exact K14
        · have hf := it_f hf hc
          obtain rfl := Option.some.inj hf
          refine o_keep [false, false] ?_
          exact K
      clear hf
      refine o_icmp_eq (pc := 17) 29 dX12_sum_17 rfl (fun hc => ?_) (fun hc => ?_)
      · have hr6 := it_t hr6 hc
        obtain rfl := Option.some.inj hr6
        exact KB7.1 rfl
      · have hr6 := it_f hr6 hc
        refine o_aload_n (pc := 20) dX12_sum_20 rfl ?_
        obtain ⟨q9, hk8, hr6⟩ := bd_elim hr6
        refine m_callV (pc := 21) [] dX12_sum_21 (kX12_sign hk8) stX12_230 ⟨by decide, by decide, by decide, by decide⟩ ⟨rfl, rfl⟩ (Nat.le_of_ble_eq_true rfl) ?_
        show Rn g mdX12_sum 24 [some (.ref 0), none] [.int q9] (mW s) 0 0 r h2
        refine o_bipush (pc := 24) (v := 45) dX12_sum_24 rfl ?_
        refine o_icmp_ne (pc := 26) 67 dX12_sum_26 rfl (fun hc => ?_) (fun hc => ?_)
        · have hr6 := it_f hr6 hc
          obtain rfl := Option.some.inj hr6
          exact KB7.2 (by decide)
        · have hr6 := it_t hr6 hc
          obtain rfl := Option.some.inj hr6
          exact KB7.1 rfl
set_option maxRecDepth 20000 in
theorem kX12_sum {g : GX} {s : ST} {q : ST} (hf : fX12_sum s = some q) : Cn g mdX12_sum [.ref 0] (mW s) none (mW q) := by
  refine Cn.of (by decide) (Nat.le_of_ble_eq_true rfl) ?_
  show Rn g mdX12_sum 0 [some (.ref 0), none] [] (mW s) 0 0 none (mW q)
  unfold fX12_sum at hf
  refine o_aload_n (pc := 0) dX12_sum_0 rfl ?_
  obtain ⟨q2, hk1, hf⟩ := bd_elim hf
  refine m_callV (pc := 1) [] dX12_sum_1 (kX12_term hk1) stX12_288 ⟨by decide, by decide, by decide, by decide⟩ ⟨rfl, rfl⟩ (Nat.le_of_ble_eq_true rfl) ?_
  show Rn g mdX12_sum 4 [some (.ref 0), none] [] (mW q2) 0 0 none (mW q)
  obtain ⟨w20, hl21, hf⟩ := bd_elim hf
  have K22 : Rn g mdX12_sum 67 [none, none] [] (mW w20) 0 0 none (mW q) := by
    obtain rfl := Option.some.inj hf
    exact o_return (pc := 67) dX12_sum_67 rfl (Nat.zero_le _) (Nat.zero_le _)
  exact kX12_sum_L4 _ _ hl21 K22
def fX12_compared (s : ST) : Option (ST) :=
  (fX12_sum s).bind (fun q2 => (fX12_sign q2).bind (fun q4 => (if q4 = 60 then some false else if q4 = 61 then some false else if q4 = 62 then some false else some true : Option Bool).bind (fun b5 => if b5 = true then (fX12_fails 0 (gi q2 0 27) q2).bind (fun q9 => some q9) else (fX12_isCounted (gi q2 0 27) q2).bind (fun q11 => lt (si q11 0 27 ((gi q11 0 27) + 1)) (fun s12 => (if q4 = 61 then some false else (fX12_sign s12).bind (fun q17 => if q17 = 61 then some true else some false) : Option Bool).bind (fun b13 => (if b13 = true then some 1 else some 0 : Option (Int32)).bind (fun w18 => (if w18 = 0 then some 0 else some 1 : Option (Int32)).bind (fun w21 => lt (si s12 0 27 ((gi s12 0 27) + w21)) (fun s24 => (fX12_sum s24).bind (fun q26 => (if q4 = 61 then some 6 else if q4 = 60 then if w18 = 0 then some 4 else some 5 else if w18 = 0 then some 8 else some 7 : Option (Int32)).bind (fun w27 => (fX12_entry w27 0 q26).bind (fun q31 => some q31))))))))))))
set_option maxRecDepth 20000 in
theorem kX12_compared {g : GX} {s : ST} {q : ST} (hf : fX12_compared s = some q) : Cn g mdX12_compared [.ref 0] (mW s) none (mW q) := by
  refine Cn.of (by decide) (Nat.le_of_ble_eq_true rfl) ?_
  show Rn g mdX12_compared 0 [some (.ref 0), none, none] [] (mW s) 0 0 none (mW q)
  unfold fX12_compared at hf
  refine o_aload_n (pc := 0) dX12_compared_0 rfl ?_
  obtain ⟨q2, hk1, hf⟩ := bd_elim hf
  refine m_callV (pc := 1) [] dX12_compared_1 (kX12_sum hk1) stX12_291 ⟨by decide, by decide, by decide, by decide⟩ ⟨rfl, rfl⟩ (Nat.le_of_ble_eq_true rfl) ?_
  show Rn g mdX12_compared 4 [some (.ref 0), none, none] [] (mW q2) 0 0 none (mW q)
  refine o_aload_n (pc := 4) dX12_compared_4 rfl ?_
  obtain ⟨q4, hk3, hf⟩ := bd_elim hf
  refine m_callV (pc := 5) [] dX12_compared_5 (kX12_sign hk3) stX12_230 ⟨by decide, by decide, by decide, by decide⟩ ⟨rfl, rfl⟩ (Nat.le_of_ble_eq_true rfl) ?_
  show Rn g mdX12_compared 8 [some (.ref 0), none, none] [.int q4] (mW q2) 0 0 none (mW q)
  refine o_istore_n (pc := 8) dX12_compared_8 (by decide) rfl ?_
  show Rn g mdX12_compared 9 [some (.ref 0), some (.int q4), none] [] (mW q2) 0 0 none (mW q)
  refine o_iload_n (pc := 9) dX12_compared_9 rfl ?_
  refine o_bipush (pc := 10) (v := 60) dX12_compared_10 rfl ?_
  obtain ⟨b5, hr6, hf⟩ := bd_elim hf
  have KB7 : (b5 = true → Rn g mdX12_compared 27 [some (.ref 0), some (.int q4), none] [] (mW q2) 0 0 none (mW q)) ∧ (¬ b5 = true → Rn g mdX12_compared 37 [some (.ref 0), some (.int q4), none] [] (mW q2) 0 0 none (mW q)) := by
    refine ⟨fun hc => ?_, fun hc => ?_⟩
    · have hf := it_t hf hc
      refine o_aload_n (pc := 27) dX12_compared_27 rfl ?_
      refine o_iconst (pc := 28) (v := 0) dX12_compared_28 rfl ?_
      refine o_aload_n (pc := 29) dX12_compared_29 rfl ?_
      refine m_getI (pc := 30) 27 (by decide) rfl lkX12_227 dX12_compared_30 ?_
      obtain ⟨q9, hk8, hf⟩ := bd_elim hf
      refine m_callV (pc := 33) [.int 0, .int (gi q2 0 27)] dX12_compared_33 (kX12_fails hk8) stX12_262 ⟨by decide, by decide, by decide, by decide⟩ ⟨rfl, rfl⟩ (Nat.le_of_ble_eq_true rfl) ?_
      show Rn g mdX12_compared 36 [some (.ref 0), some (.int q4), none] [] (mW q9) 0 0 none (mW q)
      obtain rfl := Option.some.inj hf
      exact o_return (pc := 36) dX12_compared_36 rfl (Nat.zero_le _) (Nat.zero_le _)
    · have hf := it_f hf hc
      refine o_aload_n (pc := 37) dX12_compared_37 rfl ?_
      refine o_aload_n (pc := 38) dX12_compared_38 rfl ?_
      refine m_getI (pc := 39) 27 (by decide) rfl lkX12_227 dX12_compared_39 ?_
      obtain ⟨q11, hk10, hf⟩ := bd_elim hf
      refine m_callV (pc := 42) [.int (gi q2 0 27)] dX12_compared_42 (kX12_isCounted hk10) stX12_275 ⟨by decide, by decide, by decide, by decide⟩ ⟨rfl, rfl⟩ (Nat.le_of_ble_eq_true rfl) ?_
      show Rn g mdX12_compared 45 [some (.ref 0), some (.int q4), none] [] (mW q11) 0 0 none (mW q)
      refine o_aload_n (pc := 45) dX12_compared_45 rfl ?_
      refine o_dup (pc := 46) dX12_compared_46 rfl ?_
      refine m_getI (pc := 47) 27 (by decide) rfl lkX12_227 dX12_compared_47 ?_
      refine o_iconst (pc := 50) (v := 1) dX12_compared_50 rfl ?_
      refine o_iadd (pc := 51) dX12_compared_51 ?_
      refine m_putI (pc := 52) 27 (by decide) rfl rfl lkX12_227 ⟨rfl, rfl⟩ dX12_compared_52 ?_
      refine lz_s (mW) hf (fun s12 hf => ?_)
      show Rn g mdX12_compared 55 [some (.ref 0), some (.int q4), none] [] (mW s12) 0 0 none (mW q)
      refine o_iload_n (pc := 55) dX12_compared_55 rfl ?_
      refine o_bipush (pc := 56) (v := 61) dX12_compared_56 rfl ?_
      obtain ⟨b13, hr14, hf⟩ := bd_elim hf
      obtain ⟨w18, hr19, hf⟩ := bd_elim hf
      have K20 : Rn g mdX12_compared 75 [some (.ref 0), some (.int q4), none] [.int w18] (mW s12) 0 0 none (mW q) := by
        refine o_istore_n (pc := 75) dX12_compared_75 (by decide) rfl ?_
        show Rn g mdX12_compared 76 [some (.ref 0), some (.int q4), some (.int w18)] [] (mW s12) 0 0 none (mW q)
        refine o_aload_n (pc := 76) dX12_compared_76 rfl ?_
        refine o_dup (pc := 77) dX12_compared_77 rfl ?_
        refine m_getI (pc := 78) 27 (by decide) rfl lkX12_227 dX12_compared_78 ?_
        refine o_iload_n (pc := 81) dX12_compared_81 rfl ?_
        obtain ⟨w21, hr22, hf⟩ := bd_elim hf
        have K23 : Rn g mdX12_compared 90 [some (.ref 0), some (.int q4), some (.int w18)] [.int w21, .int (gi s12 0 27), .ref 0] (mW s12) 0 0 none (mW q) := by
          refine o_iadd (pc := 90) dX12_compared_90 ?_
          refine m_putI (pc := 91) 27 (by decide) rfl rfl lkX12_227 ⟨rfl, rfl⟩ dX12_compared_91 ?_
          refine lz_s (mW) hf (fun s24 hf => ?_)
          show Rn g mdX12_compared 94 [some (.ref 0), some (.int q4), some (.int w18)] [] (mW s24) 0 0 none (mW q)
          refine o_aload_n (pc := 94) dX12_compared_94 rfl ?_
          obtain ⟨q26, hk25, hf⟩ := bd_elim hf
          refine m_callV (pc := 95) [] dX12_compared_95 (kX12_sum hk25) stX12_291 ⟨by decide, by decide, by decide, by decide⟩ ⟨rfl, rfl⟩ (Nat.le_of_ble_eq_true rfl) ?_
          show Rn g mdX12_compared 98 [some (.ref 0), some (.int q4), some (.int w18)] [] (mW q26) 0 0 none (mW q)
          refine o_aload_n (pc := 98) dX12_compared_98 rfl ?_
          refine o_iload_n (pc := 99) dX12_compared_99 rfl ?_
          refine o_bipush (pc := 100) (v := 61) dX12_compared_100 rfl ?_
          obtain ⟨w27, hr28, hf⟩ := bd_elim hf
          have K29 : Rn g mdX12_compared 139 [none, none, none] [.int w27, .ref 0] (mW q26) 0 0 none (mW q) := by
            refine o_iconst (pc := 139) (v := 0) dX12_compared_139 rfl ?_
            obtain ⟨q31, hk30, hf⟩ := bd_elim hf
            refine m_callV (pc := 140) [.int w27, .int 0] dX12_compared_140 (kX12_entry hk30) stX12_278 ⟨by decide, by decide, by decide, by decide⟩ ⟨rfl, rfl⟩ (Nat.le_of_ble_eq_true rfl) ?_
            show Rn g mdX12_compared 143 [none, none, none] [] (mW q31) 0 0 none (mW q)
            obtain rfl := Option.some.inj hf
            exact o_return (pc := 143) dX12_compared_143 rfl (Nat.zero_le _) (Nat.zero_le _)
          clear hf
          refine o_icmp_ne (pc := 102) 110 dX12_compared_102 rfl (fun hc => ?_) (fun hc => ?_)
          · have hr28 := it_f hr28 hc
            refine o_iload_n (pc := 110) dX12_compared_110 rfl ?_
            refine o_bipush (pc := 111) (v := 60) dX12_compared_111 rfl ?_
            refine o_icmp_ne (pc := 113) 128 dX12_compared_113 rfl (fun hc => ?_) (fun hc => ?_)
            · have hr28 := it_f hr28 hc
              refine o_iload_n (pc := 128) dX12_compared_128 rfl ?_
              refine o_if_eq (pc := 129) 137 dX12_compared_129 rfl (fun hc => ?_) (fun hc => ?_)
              · have hr28 := it_t hr28 hc
                refine o_bipush (pc := 137) (v := 8) dX12_compared_137 rfl ?_
                obtain rfl := Option.some.inj hr28
                refine o_keep [false, false, false] ?_
                exact K29
              · have hr28 := it_f hr28 hc
                refine o_bipush (pc := 132) (v := 7) dX12_compared_132 rfl ?_
                refine o_goto (pc := 134) 139 dX12_compared_134 rfl ?_
                obtain rfl := Option.some.inj hr28
                refine o_keep [false, false, false] ?_
                exact K29
            · have hr28 := it_t hr28 hc
              refine o_iload_n (pc := 116) dX12_compared_116 rfl ?_
              refine o_if_eq (pc := 117) 124 dX12_compared_117 rfl (fun hc => ?_) (fun hc => ?_)
              · have hr28 := it_t hr28 hc
                refine o_iconst (pc := 124) (v := 4) dX12_compared_124 rfl ?_
                refine o_goto (pc := 125) 139 dX12_compared_125 rfl ?_
                obtain rfl := Option.some.inj hr28
                refine o_keep [false, false, false] ?_
                exact K29
              · have hr28 := it_f hr28 hc
                refine o_iconst (pc := 120) (v := 5) dX12_compared_120 rfl ?_
                refine o_goto (pc := 121) 139 dX12_compared_121 rfl ?_
                obtain rfl := Option.some.inj hr28
                refine o_keep [false, false, false] ?_
                exact K29
          · have hr28 := it_t hr28 hc
            refine o_bipush (pc := 105) (v := 6) dX12_compared_105 rfl ?_
            refine o_goto (pc := 107) 139 dX12_compared_107 rfl ?_
            obtain rfl := Option.some.inj hr28
            refine o_keep [false, false, false] ?_
            exact K29
        clear hf
        refine o_if_eq (pc := 82) 89 dX12_compared_82 rfl (fun hc => ?_) (fun hc => ?_)
        · have hr22 := it_t hr22 hc
          refine o_iconst (pc := 89) (v := 0) dX12_compared_89 rfl ?_
          obtain rfl := Option.some.inj hr22
          exact K23
        · have hr22 := it_f hr22 hc
          refine o_iconst (pc := 85) (v := 1) dX12_compared_85 rfl ?_
          refine o_goto (pc := 86) 90 dX12_compared_86 rfl ?_
          obtain rfl := Option.some.inj hr22
          exact K23
      clear hf
      have KB15 : (b13 = true → Rn g mdX12_compared 70 [some (.ref 0), some (.int q4), none] [] (mW s12) 0 0 none (mW q)) ∧ (¬ b13 = true → Rn g mdX12_compared 74 [some (.ref 0), some (.int q4), none] [] (mW s12) 0 0 none (mW q)) := by
        refine ⟨fun hc => ?_, fun hc => ?_⟩
        · have hr19 := it_t hr19 hc
          refine o_iconst (pc := 70) (v := 1) dX12_compared_70 rfl ?_
          refine o_goto (pc := 71) 75 dX12_compared_71 rfl ?_
          obtain rfl := Option.some.inj hr19
          exact K20
        · have hr19 := it_f hr19 hc
          refine o_iconst (pc := 74) (v := 0) dX12_compared_74 rfl ?_
          obtain rfl := Option.some.inj hr19
          exact K20
      clear hr19
      refine o_icmp_eq (pc := 58) 74 dX12_compared_58 rfl (fun hc => ?_) (fun hc => ?_)
      · have hr14 := it_t hr14 hc
        obtain rfl := Option.some.inj hr14
        exact KB15.2 (by decide)
      · have hr14 := it_f hr14 hc
        refine o_aload_n (pc := 61) dX12_compared_61 rfl ?_
        obtain ⟨q17, hk16, hr14⟩ := bd_elim hr14
        refine m_callV (pc := 62) [] dX12_compared_62 (kX12_sign hk16) stX12_230 ⟨by decide, by decide, by decide, by decide⟩ ⟨rfl, rfl⟩ (Nat.le_of_ble_eq_true rfl) ?_
        show Rn g mdX12_compared 65 [some (.ref 0), some (.int q4), none] [.int q17] (mW s12) 0 0 none (mW q)
        refine o_bipush (pc := 65) (v := 61) dX12_compared_65 rfl ?_
        refine o_icmp_ne (pc := 67) 74 dX12_compared_67 rfl (fun hc => ?_) (fun hc => ?_)
        · have hr14 := it_f hr14 hc
          obtain rfl := Option.some.inj hr14
          exact KB15.2 (by decide)
        · have hr14 := it_t hr14 hc
          obtain rfl := Option.some.inj hr14
          exact KB15.1 rfl
  clear hf
  refine o_icmp_eq (pc := 12) 37 dX12_compared_12 rfl (fun hc => ?_) (fun hc => ?_)
  · have hr6 := it_t hr6 hc
    obtain rfl := Option.some.inj hr6
    exact KB7.2 (by decide)
  · have hr6 := it_f hr6 hc
    refine o_iload_n (pc := 15) dX12_compared_15 rfl ?_
    refine o_bipush (pc := 16) (v := 61) dX12_compared_16 rfl ?_
    refine o_icmp_eq (pc := 18) 37 dX12_compared_18 rfl (fun hc => ?_) (fun hc => ?_)
    · have hr6 := it_t hr6 hc
      obtain rfl := Option.some.inj hr6
      exact KB7.2 (by decide)
    · have hr6 := it_f hr6 hc
      refine o_iload_n (pc := 21) dX12_compared_21 rfl ?_
      refine o_bipush (pc := 22) (v := 62) dX12_compared_22 rfl ?_
      refine o_icmp_eq (pc := 24) 37 dX12_compared_24 rfl (fun hc => ?_) (fun hc => ?_)
      · have hr6 := it_t hr6 hc
        obtain rfl := Option.some.inj hr6
        exact KB7.2 (by decide)
      · have hr6 := it_f hr6 hc
        obtain rfl := Option.some.inj hr6
        exact KB7.1 rfl
def fX12_top (s : ST) : Option (Int32) :=
  (if (gi s 0 34) = 0 then some (-1) else ck (inb ((gi s 0 34) - 1) 402) (some (gi s 33 (ix ((gi s 0 34) - 1)))) : Option (Int32)).bind (fun w1 => some w1)
set_option maxRecDepth 20000 in
theorem kX12_top {g : GX} {s : ST} {q : Int32} (hf : fX12_top s = some q) : Cn g mdX12_top [.ref 0] (mW s) (some (.int q)) (mW s) := by
  refine Cn.of (by decide) (Nat.le_of_ble_eq_true rfl) ?_
  show Rn g mdX12_top 0 [some (.ref 0)] [] (mW s) 0 0 (some (.int q)) (mW s)
  unfold fX12_top at hf
  refine o_aload_n (pc := 0) dX12_top_0 rfl ?_
  refine m_getI (pc := 1) 34 (by decide) rfl lkX12_294 dX12_top_1 ?_
  obtain ⟨w1, hr2, hf⟩ := bd_elim hf
  have K3 : Rn g mdX12_top 22 [none] [.int w1] (mW s) 0 0 (some (.int q)) (mW s) := by
    obtain rfl := Option.some.inj hf
    exact o_ireturn (pc := 22) dX12_top_22 rfl (Nat.zero_le _) (Nat.zero_le _)
  clear hf
  refine o_if_ne (pc := 4) 11 dX12_top_4 rfl (fun hc => ?_) (fun hc => ?_)
  · have hr2 := it_f hr2 hc
    refine o_aload_n (pc := 11) dX12_top_11 rfl ?_
    refine m_getA (pc := 12) 43 33 (by decide) rfl rfl lkX12_111 dX12_top_12 ?_
    refine o_aload_n (pc := 15) dX12_top_15 rfl ?_
    refine m_getI (pc := 16) 34 (by decide) rfl lkX12_294 dX12_top_16 ?_
    refine o_iconst (pc := 19) (v := 1) dX12_top_19 rfl ?_
    refine o_isub (pc := 20) dX12_top_20 ?_
    obtain ⟨hk4, hr2⟩ := ck_elim hr2
    refine m_iald (pc := 21) (by decide) rfl hk4 dX12_top_21 ?_
    obtain rfl := Option.some.inj hr2
    refine o_keep [false] ?_
    exact K3
  · have hr2 := it_t hr2 hc
    refine o_iconst (pc := 7) (v := (-1)) dX12_top_7 rfl ?_
    refine o_goto (pc := 8) 22 dX12_top_8 rfl ?_
    obtain rfl := Option.some.inj hr2
    refine o_keep [false] ?_
    exact K3
def fX12_opens (p0 : Int32) (s : ST) : Option (ST) :=
  (if p0 = 9 then some true else if p0 = 12 then some true else some false : Option Bool).bind (fun b1 => (if b1 = true then (if (gi s 0 32) = 10 then (fX12_fails 2 (gi s 0 27) s).bind (fun q11 => some q11) else some s : Option (ST)).bind (fun w7 => lt (si w7 0 32 ((gi w7 0 32) + 1)) (fun s12 => some s12)) else some s : Option (ST)).bind (fun w4 => ck (inb (gi w4 0 34) 402) (lt (si w4 33 (ix (gi w4 0 34)) p0) (fun s14 => lt (si s14 0 34 ((gi s14 0 34) + 1)) (fun s15 => some s15)))))
set_option maxRecDepth 20000 in
theorem kX12_opens {g : GX} {p0 : Int32} {s : ST} {q : ST} (hf : fX12_opens p0 s = some q) : Cn g mdX12_opens [.ref 0, .int p0] (mW s) none (mW q) := by
  refine Cn.of (by decide) (Nat.le_of_ble_eq_true rfl) ?_
  show Rn g mdX12_opens 0 [some (.ref 0), some (.int p0)] [] (mW s) 0 0 none (mW q)
  unfold fX12_opens at hf
  refine o_iload_n (pc := 0) dX12_opens_0 rfl ?_
  refine o_bipush (pc := 1) (v := 9) dX12_opens_1 rfl ?_
  obtain ⟨b1, hr2, hf⟩ := bd_elim hf
  obtain ⟨w4, hr5, hf⟩ := bd_elim hf
  have K6 : Rn g mdX12_opens 40 [some (.ref 0), some (.int p0)] [] (mW w4) 0 0 none (mW q) := by
    refine o_aload_n (pc := 40) dX12_opens_40 rfl ?_
    refine m_getA (pc := 41) 43 33 (by decide) rfl rfl lkX12_111 dX12_opens_41 ?_
    refine o_aload_n (pc := 44) dX12_opens_44 rfl ?_
    refine m_getI (pc := 45) 34 (by decide) rfl lkX12_294 dX12_opens_45 ?_
    refine o_iload_n (pc := 48) dX12_opens_48 rfl ?_
    obtain ⟨hk13, hf⟩ := ck_elim hf
    refine m_iast (pc := 49) (by decide) rfl hk13 dX12_opens_49 ?_
    refine lz_s (mW) hf (fun s14 hf => ?_)
    show Rn g mdX12_opens 50 [some (.ref 0), some (.int p0)] [] (mW s14) 0 0 none (mW q)
    refine o_aload_n (pc := 50) dX12_opens_50 rfl ?_
    refine o_dup (pc := 51) dX12_opens_51 rfl ?_
    refine m_getI (pc := 52) 34 (by decide) rfl lkX12_294 dX12_opens_52 ?_
    refine o_iconst (pc := 55) (v := 1) dX12_opens_55 rfl ?_
    refine o_iadd (pc := 56) dX12_opens_56 ?_
    refine m_putI (pc := 57) 34 (by decide) rfl rfl lkX12_294 ⟨rfl, rfl⟩ dX12_opens_57 ?_
    refine lz_s (mW) hf (fun s15 hf => ?_)
    show Rn g mdX12_opens 60 [some (.ref 0), some (.int p0)] [] (mW s15) 0 0 none (mW q)
    obtain rfl := Option.some.inj hf
    exact o_return (pc := 60) dX12_opens_60 rfl (Nat.zero_le _) (Nat.zero_le _)
  clear hf
  have KB3 : (b1 = true → Rn g mdX12_opens 12 [some (.ref 0), some (.int p0)] [] (mW s) 0 0 none (mW q)) ∧ (¬ b1 = true → Rn g mdX12_opens 40 [some (.ref 0), some (.int p0)] [] (mW s) 0 0 none (mW q)) := by
    refine ⟨fun hc => ?_, fun hc => ?_⟩
    · have hr5 := it_t hr5 hc
      refine o_aload_n (pc := 12) dX12_opens_12 rfl ?_
      refine m_getI (pc := 13) 32 (by decide) rfl lkX12_297 dX12_opens_13 ?_
      refine o_bipush (pc := 16) (v := 10) dX12_opens_16 rfl ?_
      obtain ⟨w7, hr8, hr5⟩ := bd_elim hr5
      have K9 : Rn g mdX12_opens 30 [some (.ref 0), some (.int p0)] [] (mW w7) 0 0 none (mW q) := by
        refine o_aload_n (pc := 30) dX12_opens_30 rfl ?_
        refine o_dup (pc := 31) dX12_opens_31 rfl ?_
        refine m_getI (pc := 32) 32 (by decide) rfl lkX12_297 dX12_opens_32 ?_
        refine o_iconst (pc := 35) (v := 1) dX12_opens_35 rfl ?_
        refine o_iadd (pc := 36) dX12_opens_36 ?_
        refine m_putI (pc := 37) 32 (by decide) rfl rfl lkX12_297 ⟨rfl, rfl⟩ dX12_opens_37 ?_
        refine lz_s (mW) hr5 (fun s12 hr5 => ?_)
        show Rn g mdX12_opens 40 [some (.ref 0), some (.int p0)] [] (mW s12) 0 0 none (mW q)
        obtain rfl := Option.some.inj hr5
        exact K6
      clear hr5
      refine o_icmp_ne (pc := 18) 30 dX12_opens_18 rfl (fun hc => ?_) (fun hc => ?_)
      · have hr8 := it_f hr8 hc
        obtain rfl := Option.some.inj hr8
        exact K9
      · have hr8 := it_t hr8 hc
        refine o_aload_n (pc := 21) dX12_opens_21 rfl ?_
        refine o_iconst (pc := 22) (v := 2) dX12_opens_22 rfl ?_
        refine o_aload_n (pc := 23) dX12_opens_23 rfl ?_
        refine m_getI (pc := 24) 27 (by decide) rfl lkX12_227 dX12_opens_24 ?_
        obtain ⟨q11, hk10, hr8⟩ := bd_elim hr8
        refine m_callV (pc := 27) [.int 2, .int (gi s 0 27)] dX12_opens_27 (kX12_fails hk10) stX12_262 ⟨by decide, by decide, by decide, by decide⟩ ⟨rfl, rfl⟩ (Nat.le_of_ble_eq_true rfl) ?_
        show Rn g mdX12_opens 30 [some (.ref 0), some (.int p0)] [] (mW q11) 0 0 none (mW q)
        obtain rfl := Option.some.inj hr8
        exact K9
    · have hr5 := it_f hr5 hc
      obtain rfl := Option.some.inj hr5
      exact K6
  clear hr5
  refine o_icmp_eq (pc := 3) 12 dX12_opens_3 rfl (fun hc => ?_) (fun hc => ?_)
  · have hr2 := it_t hr2 hc
    obtain rfl := Option.some.inj hr2
    exact KB3.1 rfl
  · have hr2 := it_f hr2 hc
    refine o_iload_n (pc := 6) dX12_opens_6 rfl ?_
    refine o_bipush (pc := 7) (v := 12) dX12_opens_7 rfl ?_
    refine o_icmp_ne (pc := 9) 40 dX12_opens_9 rfl (fun hc => ?_) (fun hc => ?_)
    · have hr2 := it_f hr2 hc
      obtain rfl := Option.some.inj hr2
      exact KB3.2 (by decide)
    · have hr2 := it_t hr2 hc
      obtain rfl := Option.some.inj hr2
      exact KB3.1 rfl
def fX12_answers_L0 (a1 : Int32) : Nat → ST → Option (ST)
  | 0, _ => none
  | n + 1, s => (fX12_top s).bind (fun q2 => (if q2 = a1 then if (gi s 0 28) = 0 then some true else some false else some false : Option Bool).bind (fun b3 => if b3 = true then (fX12_entry a1 0 s).bind (fun q7 => lt (si q7 0 34 ((gi q7 0 34) - 1)) (fun s8 => (if a1 = 9 then some 1 else some 0 : Option (Int32)).bind (fun w9 => lt (si s8 0 32 ((gi s8 0 32) - w9)) (fun s12 => fX12_answers_L0 a1 n s12)))) else some s))
def fX12_answers (p0 : Int32) (s : ST) : Option (ST) :=
  (fX12_answers_L0 p0 FUEL s).bind (fun w13 => some w13)
set_option maxRecDepth 20000 in
theorem kX12_answers_L0 {g : GX} (a1 : Int32) {r : Option Value} {h2 : PH} : ∀ (n : Nat) (s : ST) {w : ST}, fX12_answers_L0 a1 n s = some w → Rn g mdX12_answers 54 [none, none] [] (mW w) 0 0 r h2 → Rn g mdX12_answers 0 [some (.ref 0), some (.int a1)] [] (mW s) 0 0 r h2 := by
  intro n
  induction n with
  | zero => intro s w hf K; cases hf
  | succ n ih =>
    intro s w hf K
    rw [fX12_answers_L0] at hf
    refine o_aload_n (pc := 0) dX12_answers_0 rfl ?_
    obtain ⟨q2, hk1, hf⟩ := bd_elim hf
    refine m_callV (pc := 1) [] dX12_answers_1 (kX12_top hk1) stX12_300 ⟨by decide, by decide, by decide, by decide⟩ ⟨rfl, rfl⟩ (Nat.le_of_ble_eq_true rfl) ?_
    show Rn g mdX12_answers 4 [some (.ref 0), some (.int a1)] [.int q2] (mW s) 0 0 r h2
    refine o_iload_n (pc := 4) dX12_answers_4 rfl ?_
    obtain ⟨b3, hr4, hf⟩ := bd_elim hf
    have KB5 : (b3 = true → Rn g mdX12_answers 15 [some (.ref 0), some (.int a1)] [] (mW s) 0 0 r h2) ∧ (¬ b3 = true → Rn g mdX12_answers 54 [some (.ref 0), some (.int a1)] [] (mW s) 0 0 r h2) := by
      refine ⟨fun hc => ?_, fun hc => ?_⟩
      · have hf := it_t hf hc
        refine o_aload_n (pc := 15) dX12_answers_15 rfl ?_
        refine o_iload_n (pc := 16) dX12_answers_16 rfl ?_
        refine o_iconst (pc := 17) (v := 0) dX12_answers_17 rfl ?_
        obtain ⟨q7, hk6, hf⟩ := bd_elim hf
        refine m_callV (pc := 18) [.int a1, .int 0] dX12_answers_18 (kX12_entry hk6) stX12_278 ⟨by decide, by decide, by decide, by decide⟩ ⟨rfl, rfl⟩ (Nat.le_of_ble_eq_true rfl) ?_
        show Rn g mdX12_answers 21 [some (.ref 0), some (.int a1)] [] (mW q7) 0 0 r h2
        refine o_aload_n (pc := 21) dX12_answers_21 rfl ?_
        refine o_dup (pc := 22) dX12_answers_22 rfl ?_
        refine m_getI (pc := 23) 34 (by decide) rfl lkX12_294 dX12_answers_23 ?_
        refine o_iconst (pc := 26) (v := 1) dX12_answers_26 rfl ?_
        refine o_isub (pc := 27) dX12_answers_27 ?_
        refine m_putI (pc := 28) 34 (by decide) rfl rfl lkX12_294 ⟨rfl, rfl⟩ dX12_answers_28 ?_
        refine lz_s (mW) hf (fun s8 hf => ?_)
        show Rn g mdX12_answers 31 [some (.ref 0), some (.int a1)] [] (mW s8) 0 0 r h2
        refine o_aload_n (pc := 31) dX12_answers_31 rfl ?_
        refine o_dup (pc := 32) dX12_answers_32 rfl ?_
        refine m_getI (pc := 33) 32 (by decide) rfl lkX12_297 dX12_answers_33 ?_
        refine o_iload_n (pc := 36) dX12_answers_36 rfl ?_
        refine o_bipush (pc := 37) (v := 9) dX12_answers_37 rfl ?_
        obtain ⟨w9, hr10, hf⟩ := bd_elim hf
        have K11 : Rn g mdX12_answers 47 [some (.ref 0), some (.int a1)] [.int w9, .int (gi s8 0 32), .ref 0] (mW s8) 0 0 r h2 := by
          refine o_isub (pc := 47) dX12_answers_47 ?_
          refine m_putI (pc := 48) 32 (by decide) rfl rfl lkX12_297 ⟨rfl, rfl⟩ dX12_answers_48 ?_
          refine lz_s (mW) hf (fun s12 hf => ?_)
          show Rn g mdX12_answers 51 [some (.ref 0), some (.int a1)] [] (mW s12) 0 0 r h2
          refine o_goto (pc := 51) 0 dX12_answers_51 rfl ?_
          exact ih _ hf K
        clear hf
        refine o_icmp_ne (pc := 39) 46 dX12_answers_39 rfl (fun hc => ?_) (fun hc => ?_)
        · have hr10 := it_f hr10 hc
          refine o_iconst (pc := 46) (v := 0) dX12_answers_46 rfl ?_
          obtain rfl := Option.some.inj hr10
          exact K11
        · have hr10 := it_t hr10 hc
          refine o_iconst (pc := 42) (v := 1) dX12_answers_42 rfl ?_
          refine o_goto (pc := 43) 47 dX12_answers_43 rfl ?_
          obtain rfl := Option.some.inj hr10
          exact K11
      · have hf := it_f hf hc
        obtain rfl := Option.some.inj hf
        refine o_keep [false, false] ?_
        exact K
    clear hf
    refine o_icmp_ne (pc := 5) 54 dX12_answers_5 rfl (fun hc => ?_) (fun hc => ?_)
    · have hr4 := it_f hr4 hc
      obtain rfl := Option.some.inj hr4
      exact KB5.2 (by decide)
    · have hr4 := it_t hr4 hc
      refine o_aload_n (pc := 8) dX12_answers_8 rfl ?_
      refine m_getI (pc := 9) 28 (by decide) rfl lkX12_224 dX12_answers_9 ?_
      refine o_if_ne (pc := 12) 54 dX12_answers_12 rfl (fun hc => ?_) (fun hc => ?_)
      · have hr4 := it_f hr4 hc
        obtain rfl := Option.some.inj hr4
        exact KB5.2 (by decide)
      · have hr4 := it_t hr4 hc
        obtain rfl := Option.some.inj hr4
        exact KB5.1 rfl
set_option maxRecDepth 20000 in
theorem kX12_answers {g : GX} {p0 : Int32} {s : ST} {q : ST} (hf : fX12_answers p0 s = some q) : Cn g mdX12_answers [.ref 0, .int p0] (mW s) none (mW q) := by
  refine Cn.of (by decide) (Nat.le_of_ble_eq_true rfl) ?_
  show Rn g mdX12_answers 0 [some (.ref 0), some (.int p0)] [] (mW s) 0 0 none (mW q)
  unfold fX12_answers at hf
  obtain ⟨w13, hl14, hf⟩ := bd_elim hf
  have K15 : Rn g mdX12_answers 54 [none, none] [] (mW w13) 0 0 none (mW q) := by
    obtain rfl := Option.some.inj hf
    exact o_return (pc := 54) dX12_answers_54 rfl (Nat.zero_le _) (Nat.zero_le _)
  exact kX12_answers_L0 _ _ _ hl14 K15
def fX12_fact (s : ST) : Option (Int32 × ST) :=
  (fX12_blanks s).bind (fun q2 => (fX12_stood 1000043 q2).bind (fun q4 => if q4 = 0 then (fX12_sign q2).bind (fun q6 => if q6 = 91 then (fX12_opens 12 q2).bind (fun q10 => lt (si q10 0 27 ((gi q10 0 27) + 1)) (fun s11 => some (0, s11))) else (fX12_compared q2).bind (fun q8 => some (1, q8))) else (fX12_opens 9 q2).bind (fun q13 => lt (si q13 0 27 ((gi q13 0 27) + 3)) (fun s14 => some (0, s14)))))
set_option maxRecDepth 20000 in
theorem kX12_fact {g : GX} {s : ST} {q : Int32 × ST} (hf : fX12_fact s = some q) : Cn g mdX12_fact [.ref 0] (mW s) (some (.int q.1)) (mW q.2) := by
  refine Cn.of (by decide) (Nat.le_of_ble_eq_true rfl) ?_
  show Rn g mdX12_fact 0 [some (.ref 0)] [] (mW s) 0 0 (some (.int q.1)) (mW q.2)
  unfold fX12_fact at hf
  refine o_aload_n (pc := 0) dX12_fact_0 rfl ?_
  obtain ⟨q2, hk1, hf⟩ := bd_elim hf
  refine m_callV (pc := 1) [] dX12_fact_1 (kX12_blanks hk1) stX12_246 ⟨by decide, by decide, by decide, by decide⟩ ⟨rfl, rfl⟩ (Nat.le_of_ble_eq_true rfl) ?_
  show Rn g mdX12_fact 4 [some (.ref 0)] [] (mW q2) 0 0 (some (.int q.1)) (mW q.2)
  refine o_aload_n (pc := 4) dX12_fact_4 rfl ?_
  refine o_ldcSw (pc := 5) (i := 43) dX12_fact_5 rfl rfl rfl ?_
  show Rn g mdX12_fact 8 [some (.ref 0)] [.ref 1000043, .ref 0] (mW q2) 0 0 (some (.int q.1)) (mW q.2)
  obtain ⟨q4, hk3, hf⟩ := bd_elim hf
  refine m_callV (pc := 8) [.ref 1000043] dX12_fact_8 (kX12_stood hk3) stX12_249 ⟨by decide, by decide, by decide, by decide⟩ ⟨rfl, rfl⟩ (Nat.le_of_ble_eq_true rfl) ?_
  show Rn g mdX12_fact 11 [some (.ref 0)] [.int q4] (mW q2) 0 0 (some (.int q.1)) (mW q.2)
  refine o_if_eq (pc := 11) 32 dX12_fact_11 rfl (fun hc => ?_) (fun hc => ?_)
  · have hf := it_t hf hc
    refine o_aload_n (pc := 32) dX12_fact_32 rfl ?_
    obtain ⟨q6, hk5, hf⟩ := bd_elim hf
    refine m_callV (pc := 33) [] dX12_fact_33 (kX12_sign hk5) stX12_230 ⟨by decide, by decide, by decide, by decide⟩ ⟨rfl, rfl⟩ (Nat.le_of_ble_eq_true rfl) ?_
    show Rn g mdX12_fact 36 [some (.ref 0)] [.int q6] (mW q2) 0 0 (some (.int q.1)) (mW q.2)
    refine o_bipush (pc := 36) (v := 91) dX12_fact_36 rfl ?_
    refine o_icmp_ne (pc := 38) 59 dX12_fact_38 rfl (fun hc => ?_) (fun hc => ?_)
    · have hf := it_f hf hc
      refine o_aload_n (pc := 59) dX12_fact_59 rfl ?_
      obtain ⟨q8, hk7, hf⟩ := bd_elim hf
      refine m_callV (pc := 60) [] dX12_fact_60 (kX12_compared hk7) stX12_308 ⟨by decide, by decide, by decide, by decide⟩ ⟨rfl, rfl⟩ (Nat.le_of_ble_eq_true rfl) ?_
      show Rn g mdX12_fact 63 [some (.ref 0)] [] (mW q8) 0 0 (some (.int q.1)) (mW q.2)
      refine o_iconst (pc := 63) (v := 1) dX12_fact_63 rfl ?_
      obtain rfl := Option.some.inj hf
      exact o_zreturn (pc := 64) dX12_fact_64 rfl rfl (Nat.zero_le _) (Nat.zero_le _)
    · have hf := it_t hf hc
      refine o_aload_n (pc := 41) dX12_fact_41 rfl ?_
      refine o_bipush (pc := 42) (v := 12) dX12_fact_42 rfl ?_
      obtain ⟨q10, hk9, hf⟩ := bd_elim hf
      refine m_callV (pc := 44) [.int 12] dX12_fact_44 (kX12_opens hk9) stX12_305 ⟨by decide, by decide, by decide, by decide⟩ ⟨rfl, rfl⟩ (Nat.le_of_ble_eq_true rfl) ?_
      show Rn g mdX12_fact 47 [some (.ref 0)] [] (mW q10) 0 0 (some (.int q.1)) (mW q.2)
      refine o_aload_n (pc := 47) dX12_fact_47 rfl ?_
      refine o_dup (pc := 48) dX12_fact_48 rfl ?_
      refine m_getI (pc := 49) 27 (by decide) rfl lkX12_227 dX12_fact_49 ?_
      refine o_iconst (pc := 52) (v := 1) dX12_fact_52 rfl ?_
      refine o_iadd (pc := 53) dX12_fact_53 ?_
      refine m_putI (pc := 54) 27 (by decide) rfl rfl lkX12_227 ⟨rfl, rfl⟩ dX12_fact_54 ?_
      refine lz_s (mW) hf (fun s11 hf => ?_)
      show Rn g mdX12_fact 57 [some (.ref 0)] [] (mW s11) 0 0 (some (.int q.1)) (mW q.2)
      refine o_iconst (pc := 57) (v := 0) dX12_fact_57 rfl ?_
      obtain rfl := Option.some.inj hf
      exact o_zreturn (pc := 58) dX12_fact_58 rfl rfl (Nat.zero_le _) (Nat.zero_le _)
  · have hf := it_f hf hc
    refine o_aload_n (pc := 14) dX12_fact_14 rfl ?_
    refine o_bipush (pc := 15) (v := 9) dX12_fact_15 rfl ?_
    obtain ⟨q13, hk12, hf⟩ := bd_elim hf
    refine m_callV (pc := 17) [.int 9] dX12_fact_17 (kX12_opens hk12) stX12_305 ⟨by decide, by decide, by decide, by decide⟩ ⟨rfl, rfl⟩ (Nat.le_of_ble_eq_true rfl) ?_
    show Rn g mdX12_fact 20 [some (.ref 0)] [] (mW q13) 0 0 (some (.int q.1)) (mW q.2)
    refine o_aload_n (pc := 20) dX12_fact_20 rfl ?_
    refine o_dup (pc := 21) dX12_fact_21 rfl ?_
    refine m_getI (pc := 22) 27 (by decide) rfl lkX12_227 dX12_fact_22 ?_
    refine o_iconst (pc := 25) (v := 3) dX12_fact_25 rfl ?_
    refine o_iadd (pc := 26) dX12_fact_26 ?_
    refine m_putI (pc := 27) 27 (by decide) rfl rfl lkX12_227 ⟨rfl, rfl⟩ dX12_fact_27 ?_
    refine lz_s (mW) hf (fun s14 hf => ?_)
    show Rn g mdX12_fact 30 [some (.ref 0)] [] (mW s14) 0 0 (some (.int q.1)) (mW q.2)
    refine o_iconst (pc := 30) (v := 0) dX12_fact_30 rfl ?_
    obtain rfl := Option.some.inj hf
    exact o_zreturn (pc := 31) dX12_fact_31 rfl rfl (Nat.zero_le _) (Nat.zero_le _)
def fX12_test_L9 : Nat → Int32 → Int32 → ST → Option (Int32 × Int32 × ST)
  | 0, _, _, _ => none
  | n + 1, x1, x2, s => (if x2 = 0 then some false else if (gi s 0 28) = 0 then some true else some false : Option Bool).bind (fun b2 => if b2 = true then if x1 = 0 then (fX12_answers 9 s).bind (fun q6 => (fX12_blanks q6).bind (fun q8 => (fX12_stood 1000044 q8).bind (fun q10 => (fX12_stood 1000045 q8).bind (fun q12 => (fX12_answers 10 q8).bind (fun q14 => (if q10 = 0 then if q12 = 0 then some false else some true else some true : Option Bool).bind (fun b15 => (if b15 = true then (if q12 = 0 then some q14 else (fX12_answers 11 q14).bind (fun q25 => some q25) : Option (ST)).bind (fun w21 => (if q10 = 0 then some 11 else some 10 : Option (Int32)).bind (fun w26 => (fX12_opens w26 w21).bind (fun q30 => (if q10 = 0 then some 2 else some 3 : Option (Int32)).bind (fun w31 => lt (si q30 0 27 ((gi q30 0 27) + w31)) (fun s34 => some (1, x2, s34)))))) else (fX12_answers 11 q14).bind (fun q36 => (fX12_top q36).bind (fun q38 => if q38 = 12 then (fX12_sign q36).bind (fun q40 => (if q40 = 93 then some q36 else (fX12_fails 0 (gi q36 0 27) q36).bind (fun q45 => some q45) : Option (ST)).bind (fun w41 => lt (si w41 0 27 ((gi w41 0 27) + 1)) (fun s46 => lt (si s46 0 34 ((gi s46 0 34) - 1)) (fun s47 => lt (si s47 0 32 ((gi s47 0 32) - 1)) (fun s48 => some (x1, x2, s48)))))) else some (x1, 0, q36))) : Option (Int32 × Int32 × ST)).bind (fun w18 => fX12_test_L9 n w18.1 w18.2.1 w18.2.2))))))) else (fX12_fact s).bind (fun q50 => (if q50.1 = 0 then some 1 else some 0 : Option (Int32)).bind (fun w51 => fX12_test_L9 n w51 x2 q50.2)) else some (x1, x2, s))
def fX12_test (s : ST) : Option (ST) :=
  lt (si s 0 34 0) (fun s1 => (fX12_test_L9 FUEL 1 1 s1).bind (fun w54 => some w54.2.2))
set_option maxRecDepth 20000 in
theorem kX12_test_L9 {g : GX} {r : Option Value} {h2 : PH} : ∀ (n : Nat) (x1 : Int32) (x2 : Int32) (s : ST) {w : Int32 × Int32 × ST}, fX12_test_L9 n x1 x2 s = some w → Rn g mdX12_test 202 [none, none, none, none, none] [] (mW w.2.2) 0 0 r h2 → Rn g mdX12_test 9 [some (.ref 0), some (.int x1), some (.int x2), none, none] [] (mW s) 0 0 r h2 := by
  intro n
  induction n with
  | zero => intro x1 x2 s w hf K; cases hf
  | succ n ih =>
    intro x1 x2 s w hf K
    rw [fX12_test_L9] at hf
    refine o_iload_n (pc := 9) dX12_test_9 rfl ?_
    obtain ⟨b2, hr3, hf⟩ := bd_elim hf
    have KB4 : (b2 = true → Rn g mdX12_test 20 [some (.ref 0), some (.int x1), some (.int x2), none, none] [] (mW s) 0 0 r h2) ∧ (¬ b2 = true → Rn g mdX12_test 202 [some (.ref 0), some (.int x1), some (.int x2), none, none] [] (mW s) 0 0 r h2) := by
      refine ⟨fun hc => ?_, fun hc => ?_⟩
      · have hf := it_t hf hc
        refine o_iload_n (pc := 20) dX12_test_20 rfl ?_
        refine o_if_eq (pc := 21) 40 dX12_test_21 rfl (fun hc => ?_) (fun hc => ?_)
        · have hf := it_t hf hc
          refine o_aload_n (pc := 40) dX12_test_40 rfl ?_
          refine o_bipush (pc := 41) (v := 9) dX12_test_41 rfl ?_
          obtain ⟨q6, hk5, hf⟩ := bd_elim hf
          refine m_callV (pc := 43) [.int 9] dX12_test_43 (kX12_answers hk5) stX12_314 ⟨by decide, by decide, by decide, by decide⟩ ⟨rfl, rfl⟩ (Nat.le_of_ble_eq_true rfl) ?_
          show Rn g mdX12_test 46 [some (.ref 0), some (.int x1), some (.int x2), none, none] [] (mW q6) 0 0 r h2
          refine o_aload_n (pc := 46) dX12_test_46 rfl ?_
          obtain ⟨q8, hk7, hf⟩ := bd_elim hf
          refine m_callV (pc := 47) [] dX12_test_47 (kX12_blanks hk7) stX12_246 ⟨by decide, by decide, by decide, by decide⟩ ⟨rfl, rfl⟩ (Nat.le_of_ble_eq_true rfl) ?_
          show Rn g mdX12_test 50 [some (.ref 0), some (.int x1), some (.int x2), none, none] [] (mW q8) 0 0 r h2
          refine o_aload_n (pc := 50) dX12_test_50 rfl ?_
          refine o_ldcSw (pc := 51) (i := 44) dX12_test_51 rfl rfl rfl ?_
          show Rn g mdX12_test 54 [some (.ref 0), some (.int x1), some (.int x2), none, none] [.ref 1000044, .ref 0] (mW q8) 0 0 r h2
          obtain ⟨q10, hk9, hf⟩ := bd_elim hf
          refine m_callV (pc := 54) [.ref 1000044] dX12_test_54 (kX12_stood hk9) stX12_249 ⟨by decide, by decide, by decide, by decide⟩ ⟨rfl, rfl⟩ (Nat.le_of_ble_eq_true rfl) ?_
          show Rn g mdX12_test 57 [some (.ref 0), some (.int x1), some (.int x2), none, none] [.int q10] (mW q8) 0 0 r h2
          refine o_istore_n (pc := 57) dX12_test_57 (by decide) rfl ?_
          show Rn g mdX12_test 58 [some (.ref 0), some (.int x1), some (.int x2), some (.int q10), none] [] (mW q8) 0 0 r h2
          refine o_aload_n (pc := 58) dX12_test_58 rfl ?_
          refine o_ldcSw (pc := 59) (i := 45) dX12_test_59 rfl rfl rfl ?_
          show Rn g mdX12_test 62 [some (.ref 0), some (.int x1), some (.int x2), some (.int q10), none] [.ref 1000045, .ref 0] (mW q8) 0 0 r h2
          obtain ⟨q12, hk11, hf⟩ := bd_elim hf
          refine m_callV (pc := 62) [.ref 1000045] dX12_test_62 (kX12_stood hk11) stX12_249 ⟨by decide, by decide, by decide, by decide⟩ ⟨rfl, rfl⟩ (Nat.le_of_ble_eq_true rfl) ?_
          show Rn g mdX12_test 65 [some (.ref 0), some (.int x1), some (.int x2), some (.int q10), none] [.int q12] (mW q8) 0 0 r h2
          refine o_istore (pc := 65) dX12_test_65 (by decide) rfl ?_
          show Rn g mdX12_test 67 [some (.ref 0), some (.int x1), some (.int x2), some (.int q10), some (.int q12)] [] (mW q8) 0 0 r h2
          refine o_aload_n (pc := 67) dX12_test_67 rfl ?_
          refine o_bipush (pc := 68) (v := 10) dX12_test_68 rfl ?_
          obtain ⟨q14, hk13, hf⟩ := bd_elim hf
          refine m_callV (pc := 70) [.int 10] dX12_test_70 (kX12_answers hk13) stX12_314 ⟨by decide, by decide, by decide, by decide⟩ ⟨rfl, rfl⟩ (Nat.le_of_ble_eq_true rfl) ?_
          show Rn g mdX12_test 73 [some (.ref 0), some (.int x1), some (.int x2), some (.int q10), some (.int q12)] [] (mW q14) 0 0 r h2
          refine o_iload_n (pc := 73) dX12_test_73 rfl ?_
          obtain ⟨b15, hr16, hf⟩ := bd_elim hf
          obtain ⟨w18, hr19, hf⟩ := bd_elim hf
          have K20 : Rn g mdX12_test 199 [some (.ref 0), some (.int w18.1), some (.int w18.2.1), none, none] [] (mW w18.2.2) 0 0 r h2 := by
            refine o_goto (pc := 199) 9 dX12_test_199 rfl ?_
            exact ih _ _ _ hf K
          clear hf
          have KB17 : (b15 = true → Rn g mdX12_test 82 [some (.ref 0), some (.int x1), some (.int x2), some (.int q10), some (.int q12)] [] (mW q14) 0 0 r h2) ∧ (¬ b15 = true → Rn g mdX12_test 131 [some (.ref 0), some (.int x1), some (.int x2), some (.int q10), some (.int q12)] [] (mW q14) 0 0 r h2) := by
            refine ⟨fun hc => ?_, fun hc => ?_⟩
            · have hr19 := it_t hr19 hc
              refine o_iload (pc := 82) dX12_test_82 rfl ?_
              obtain ⟨w21, hr22, hr19⟩ := bd_elim hr19
              have K23 : Rn g mdX12_test 93 [some (.ref 0), none, some (.int x2), some (.int q10), none] [] (mW w21) 0 0 r h2 := by
                refine o_aload_n (pc := 93) dX12_test_93 rfl ?_
                refine o_iload_n (pc := 94) dX12_test_94 rfl ?_
                obtain ⟨w26, hr27, hr19⟩ := bd_elim hr19
                have K28 : Rn g mdX12_test 105 [some (.ref 0), none, some (.int x2), some (.int q10), none] [.int w26, .ref 0] (mW w21) 0 0 r h2 := by
                  obtain ⟨q30, hk29, hr19⟩ := bd_elim hr19
                  refine m_callV (pc := 105) [.int w26] dX12_test_105 (kX12_opens hk29) stX12_305 ⟨by decide, by decide, by decide, by decide⟩ ⟨rfl, rfl⟩ (Nat.le_of_ble_eq_true rfl) ?_
                  show Rn g mdX12_test 108 [some (.ref 0), none, some (.int x2), some (.int q10), none] [] (mW q30) 0 0 r h2
                  refine o_aload_n (pc := 108) dX12_test_108 rfl ?_
                  refine o_dup (pc := 109) dX12_test_109 rfl ?_
                  refine m_getI (pc := 110) 27 (by decide) rfl lkX12_227 dX12_test_110 ?_
                  refine o_iload_n (pc := 113) dX12_test_113 rfl ?_
                  obtain ⟨w31, hr32, hr19⟩ := bd_elim hr19
                  have K33 : Rn g mdX12_test 122 [some (.ref 0), none, some (.int x2), none, none] [.int w31, .int (gi q30 0 27), .ref 0] (mW q30) 0 0 r h2 := by
                    refine o_iadd (pc := 122) dX12_test_122 ?_
                    refine m_putI (pc := 123) 27 (by decide) rfl rfl lkX12_227 ⟨rfl, rfl⟩ dX12_test_123 ?_
                    refine lz_s (mW) hr19 (fun s34 hr19 => ?_)
                    show Rn g mdX12_test 126 [some (.ref 0), none, some (.int x2), none, none] [] (mW s34) 0 0 r h2
                    refine o_iconst (pc := 126) (v := 1) dX12_test_126 rfl ?_
                    refine o_istore_n (pc := 127) dX12_test_127 (by decide) rfl ?_
                    show Rn g mdX12_test 128 [some (.ref 0), some (.int 1), some (.int x2), none, none] [] (mW s34) 0 0 r h2
                    refine o_goto (pc := 128) 199 dX12_test_128 rfl ?_
                    obtain rfl := Option.some.inj hr19
                    exact K20
                  clear hr19
                  refine o_if_eq (pc := 114) 121 dX12_test_114 rfl (fun hc => ?_) (fun hc => ?_)
                  · have hr32 := it_t hr32 hc
                    refine o_iconst (pc := 121) (v := 2) dX12_test_121 rfl ?_
                    obtain rfl := Option.some.inj hr32
                    refine o_keep [true, false, true, false, false] ?_
                    exact K33
                  · have hr32 := it_f hr32 hc
                    refine o_iconst (pc := 117) (v := 3) dX12_test_117 rfl ?_
                    refine o_goto (pc := 118) 122 dX12_test_118 rfl ?_
                    obtain rfl := Option.some.inj hr32
                    refine o_keep [true, false, true, false, false] ?_
                    exact K33
                clear hr19
                refine o_if_eq (pc := 95) 103 dX12_test_95 rfl (fun hc => ?_) (fun hc => ?_)
                · have hr27 := it_t hr27 hc
                  refine o_bipush (pc := 103) (v := 11) dX12_test_103 rfl ?_
                  obtain rfl := Option.some.inj hr27
                  exact K28
                · have hr27 := it_f hr27 hc
                  refine o_bipush (pc := 98) (v := 10) dX12_test_98 rfl ?_
                  refine o_goto (pc := 100) 105 dX12_test_100 rfl ?_
                  obtain rfl := Option.some.inj hr27
                  exact K28
              clear hr19
              refine o_if_eq (pc := 84) 93 dX12_test_84 rfl (fun hc => ?_) (fun hc => ?_)
              · have hr22 := it_t hr22 hc
                obtain rfl := Option.some.inj hr22
                refine o_keep [true, false, true, true, false] ?_
                exact K23
              · have hr22 := it_f hr22 hc
                refine o_aload_n (pc := 87) dX12_test_87 rfl ?_
                refine o_bipush (pc := 88) (v := 11) dX12_test_88 rfl ?_
                obtain ⟨q25, hk24, hr22⟩ := bd_elim hr22
                refine m_callV (pc := 90) [.int 11] dX12_test_90 (kX12_answers hk24) stX12_314 ⟨by decide, by decide, by decide, by decide⟩ ⟨rfl, rfl⟩ (Nat.le_of_ble_eq_true rfl) ?_
                show Rn g mdX12_test 93 [some (.ref 0), some (.int x1), some (.int x2), some (.int q10), some (.int q12)] [] (mW q25) 0 0 r h2
                obtain rfl := Option.some.inj hr22
                refine o_keep [true, false, true, true, false] ?_
                exact K23
            · have hr19 := it_f hr19 hc
              refine o_aload_n (pc := 131) dX12_test_131 rfl ?_
              refine o_bipush (pc := 132) (v := 11) dX12_test_132 rfl ?_
              obtain ⟨q36, hk35, hr19⟩ := bd_elim hr19
              refine m_callV (pc := 134) [.int 11] dX12_test_134 (kX12_answers hk35) stX12_314 ⟨by decide, by decide, by decide, by decide⟩ ⟨rfl, rfl⟩ (Nat.le_of_ble_eq_true rfl) ?_
              show Rn g mdX12_test 137 [some (.ref 0), some (.int x1), some (.int x2), some (.int q10), some (.int q12)] [] (mW q36) 0 0 r h2
              refine o_aload_n (pc := 137) dX12_test_137 rfl ?_
              obtain ⟨q38, hk37, hr19⟩ := bd_elim hr19
              refine m_callV (pc := 138) [] dX12_test_138 (kX12_top hk37) stX12_300 ⟨by decide, by decide, by decide, by decide⟩ ⟨rfl, rfl⟩ (Nat.le_of_ble_eq_true rfl) ?_
              show Rn g mdX12_test 141 [some (.ref 0), some (.int x1), some (.int x2), some (.int q10), some (.int q12)] [.int q38] (mW q36) 0 0 r h2
              refine o_bipush (pc := 141) (v := 12) dX12_test_141 rfl ?_
              refine o_icmp_ne (pc := 143) 197 dX12_test_143 rfl (fun hc => ?_) (fun hc => ?_)
              · have hr19 := it_f hr19 hc
                refine o_iconst (pc := 197) (v := 0) dX12_test_197 rfl ?_
                refine o_istore_n (pc := 198) dX12_test_198 (by decide) rfl ?_
                show Rn g mdX12_test 199 [some (.ref 0), some (.int x1), some (.int 0), some (.int q10), some (.int q12)] [] (mW q36) 0 0 r h2
                obtain rfl := Option.some.inj hr19
                refine o_keep [true, true, true, false, false] ?_
                exact K20
              · have hr19 := it_t hr19 hc
                refine o_aload_n (pc := 146) dX12_test_146 rfl ?_
                obtain ⟨q40, hk39, hr19⟩ := bd_elim hr19
                refine m_callV (pc := 147) [] dX12_test_147 (kX12_sign hk39) stX12_230 ⟨by decide, by decide, by decide, by decide⟩ ⟨rfl, rfl⟩ (Nat.le_of_ble_eq_true rfl) ?_
                show Rn g mdX12_test 150 [some (.ref 0), some (.int x1), some (.int x2), some (.int q10), some (.int q12)] [.int q40] (mW q36) 0 0 r h2
                refine o_bipush (pc := 150) (v := 93) dX12_test_150 rfl ?_
                obtain ⟨w41, hr42, hr19⟩ := bd_elim hr19
                have K43 : Rn g mdX12_test 164 [some (.ref 0), some (.int x1), some (.int x2), none, none] [] (mW w41) 0 0 r h2 := by
                  refine o_aload_n (pc := 164) dX12_test_164 rfl ?_
                  refine o_dup (pc := 165) dX12_test_165 rfl ?_
                  refine m_getI (pc := 166) 27 (by decide) rfl lkX12_227 dX12_test_166 ?_
                  refine o_iconst (pc := 169) (v := 1) dX12_test_169 rfl ?_
                  refine o_iadd (pc := 170) dX12_test_170 ?_
                  refine m_putI (pc := 171) 27 (by decide) rfl rfl lkX12_227 ⟨rfl, rfl⟩ dX12_test_171 ?_
                  refine lz_s (mW) hr19 (fun s46 hr19 => ?_)
                  show Rn g mdX12_test 174 [some (.ref 0), some (.int x1), some (.int x2), none, none] [] (mW s46) 0 0 r h2
                  refine o_aload_n (pc := 174) dX12_test_174 rfl ?_
                  refine o_dup (pc := 175) dX12_test_175 rfl ?_
                  refine m_getI (pc := 176) 34 (by decide) rfl lkX12_294 dX12_test_176 ?_
                  refine o_iconst (pc := 179) (v := 1) dX12_test_179 rfl ?_
                  refine o_isub (pc := 180) dX12_test_180 ?_
                  refine m_putI (pc := 181) 34 (by decide) rfl rfl lkX12_294 ⟨rfl, rfl⟩ dX12_test_181 ?_
                  refine lz_s (mW) hr19 (fun s47 hr19 => ?_)
                  show Rn g mdX12_test 184 [some (.ref 0), some (.int x1), some (.int x2), none, none] [] (mW s47) 0 0 r h2
                  refine o_aload_n (pc := 184) dX12_test_184 rfl ?_
                  refine o_dup (pc := 185) dX12_test_185 rfl ?_
                  refine m_getI (pc := 186) 32 (by decide) rfl lkX12_297 dX12_test_186 ?_
                  refine o_iconst (pc := 189) (v := 1) dX12_test_189 rfl ?_
                  refine o_isub (pc := 190) dX12_test_190 ?_
                  refine m_putI (pc := 191) 32 (by decide) rfl rfl lkX12_297 ⟨rfl, rfl⟩ dX12_test_191 ?_
                  refine lz_s (mW) hr19 (fun s48 hr19 => ?_)
                  show Rn g mdX12_test 194 [some (.ref 0), some (.int x1), some (.int x2), none, none] [] (mW s48) 0 0 r h2
                  refine o_goto (pc := 194) 199 dX12_test_194 rfl ?_
                  obtain rfl := Option.some.inj hr19
                  exact K20
                clear hr19
                refine o_icmp_eq (pc := 152) 164 dX12_test_152 rfl (fun hc => ?_) (fun hc => ?_)
                · have hr42 := it_t hr42 hc
                  obtain rfl := Option.some.inj hr42
                  refine o_keep [true, true, true, false, false] ?_
                  exact K43
                · have hr42 := it_f hr42 hc
                  refine o_aload_n (pc := 155) dX12_test_155 rfl ?_
                  refine o_iconst (pc := 156) (v := 0) dX12_test_156 rfl ?_
                  refine o_aload_n (pc := 157) dX12_test_157 rfl ?_
                  refine m_getI (pc := 158) 27 (by decide) rfl lkX12_227 dX12_test_158 ?_
                  obtain ⟨q45, hk44, hr42⟩ := bd_elim hr42
                  refine m_callV (pc := 161) [.int 0, .int (gi q36 0 27)] dX12_test_161 (kX12_fails hk44) stX12_262 ⟨by decide, by decide, by decide, by decide⟩ ⟨rfl, rfl⟩ (Nat.le_of_ble_eq_true rfl) ?_
                  show Rn g mdX12_test 164 [some (.ref 0), some (.int x1), some (.int x2), some (.int q10), some (.int q12)] [] (mW q45) 0 0 r h2
                  obtain rfl := Option.some.inj hr42
                  refine o_keep [true, true, true, false, false] ?_
                  exact K43
          clear hr19
          refine o_if_ne (pc := 74) 82 dX12_test_74 rfl (fun hc => ?_) (fun hc => ?_)
          · have hr16 := it_f hr16 hc
            obtain rfl := Option.some.inj hr16
            exact KB17.1 rfl
          · have hr16 := it_t hr16 hc
            refine o_iload (pc := 77) dX12_test_77 rfl ?_
            refine o_if_eq (pc := 79) 131 dX12_test_79 rfl (fun hc => ?_) (fun hc => ?_)
            · have hr16 := it_t hr16 hc
              obtain rfl := Option.some.inj hr16
              exact KB17.2 (by decide)
            · have hr16 := it_f hr16 hc
              obtain rfl := Option.some.inj hr16
              exact KB17.1 rfl
        · have hf := it_f hf hc
          refine o_aload_n (pc := 24) dX12_test_24 rfl ?_
          obtain ⟨q50, hk49, hf⟩ := bd_elim hf
          refine m_callV (pc := 25) [] dX12_test_25 (kX12_fact hk49) stX12_311 ⟨by decide, by decide, by decide, by decide⟩ ⟨rfl, rfl⟩ (Nat.le_of_ble_eq_true rfl) ?_
          show Rn g mdX12_test 28 [some (.ref 0), some (.int x1), some (.int x2), none, none] [.int q50.1] (mW q50.2) 0 0 r h2
          obtain ⟨w51, hr52, hf⟩ := bd_elim hf
          have K53 : Rn g mdX12_test 36 [some (.ref 0), none, some (.int x2), none, none] [.int w51] (mW q50.2) 0 0 r h2 := by
            refine o_istore_n (pc := 36) dX12_test_36 (by decide) rfl ?_
            show Rn g mdX12_test 37 [some (.ref 0), some (.int w51), some (.int x2), none, none] [] (mW q50.2) 0 0 r h2
            refine o_goto (pc := 37) 9 dX12_test_37 rfl ?_
            exact ih _ _ _ hf K
          clear hf
          refine o_if_ne (pc := 28) 35 dX12_test_28 rfl (fun hc => ?_) (fun hc => ?_)
          · have hr52 := it_f hr52 hc
            refine o_iconst (pc := 35) (v := 0) dX12_test_35 rfl ?_
            obtain rfl := Option.some.inj hr52
            refine o_keep [true, false, true, false, false] ?_
            exact K53
          · have hr52 := it_t hr52 hc
            refine o_iconst (pc := 31) (v := 1) dX12_test_31 rfl ?_
            refine o_goto (pc := 32) 36 dX12_test_32 rfl ?_
            obtain rfl := Option.some.inj hr52
            refine o_keep [true, false, true, false, false] ?_
            exact K53
      · have hf := it_f hf hc
        obtain rfl := Option.some.inj hf
        refine o_keep [false, false, false, false, false] ?_
        exact K
    clear hf
    refine o_if_eq (pc := 10) 202 dX12_test_10 rfl (fun hc => ?_) (fun hc => ?_)
    · have hr3 := it_t hr3 hc
      obtain rfl := Option.some.inj hr3
      exact KB4.2 (by decide)
    · have hr3 := it_f hr3 hc
      refine o_aload_n (pc := 13) dX12_test_13 rfl ?_
      refine m_getI (pc := 14) 28 (by decide) rfl lkX12_224 dX12_test_14 ?_
      refine o_if_ne (pc := 17) 202 dX12_test_17 rfl (fun hc => ?_) (fun hc => ?_)
      · have hr3 := it_f hr3 hc
        obtain rfl := Option.some.inj hr3
        exact KB4.2 (by decide)
      · have hr3 := it_t hr3 hc
        obtain rfl := Option.some.inj hr3
        exact KB4.1 rfl
set_option maxRecDepth 20000 in
theorem kX12_test {g : GX} {s : ST} {q : ST} (hf : fX12_test s = some q) : Cn g mdX12_test [.ref 0] (mW s) none (mW q) := by
  refine Cn.of (by decide) (Nat.le_of_ble_eq_true rfl) ?_
  show Rn g mdX12_test 0 [some (.ref 0), none, none, none, none] [] (mW s) 0 0 none (mW q)
  unfold fX12_test at hf
  refine o_aload_n (pc := 0) dX12_test_0 rfl ?_
  refine o_iconst (pc := 1) (v := 0) dX12_test_1 rfl ?_
  refine m_putI (pc := 2) 34 (by decide) rfl rfl lkX12_294 ⟨rfl, rfl⟩ dX12_test_2 ?_
  refine lz_s (mW) hf (fun s1 hf => ?_)
  show Rn g mdX12_test 5 [some (.ref 0), none, none, none, none] [] (mW s1) 0 0 none (mW q)
  refine o_iconst (pc := 5) (v := 1) dX12_test_5 rfl ?_
  refine o_istore_n (pc := 6) dX12_test_6 (by decide) rfl ?_
  show Rn g mdX12_test 7 [some (.ref 0), some (.int 1), none, none, none] [] (mW s1) 0 0 none (mW q)
  refine o_iconst (pc := 7) (v := 1) dX12_test_7 rfl ?_
  refine o_istore_n (pc := 8) dX12_test_8 (by decide) rfl ?_
  show Rn g mdX12_test 9 [some (.ref 0), some (.int 1), some (.int 1), none, none] [] (mW s1) 0 0 none (mW q)
  obtain ⟨w54, hl55, hf⟩ := bd_elim hf
  have K56 : Rn g mdX12_test 202 [none, none, none, none, none] [] (mW w54.2.2) 0 0 none (mW q) := by
    obtain rfl := Option.some.inj hf
    exact o_return (pc := 202) dX12_test_202 rfl (Nat.zero_le _) (Nat.zero_le _)
  exact kX12_test_L9 _ _ _ _ hl55 K56
def fX12_amount (p0 : Int32) (p1 : Int32) (s : ST) : Option (Int32 × ST) :=
  (fX12_blanks s).bind (fun q2 => lt (gi q2 0 27 : Int32) (fun v3 => (if (gi q2 0 28) = 0 then (fX12_digits 99999 q2).bind (fun q8 => some (q8.1, q8.2)) else some (0, q2) : Option (Int32 × ST)).bind (fun w4 => (if (gi w4.2 0 28) = 0 then (fX12_in w4.1.toInt64 p0.toInt64 p1.toInt64 w4.2).bind (fun q13 => if q13 = 0 then some true else some false) else some false : Option Bool).bind (fun b9 => (if b9 = true then (fX12_fails 1 v3 w4.2).bind (fun q18 => some q18) else some w4.2 : Option (ST)).bind (fun w14 => some (w4.1, w14))))))
set_option maxRecDepth 20000 in
theorem kX12_amount {g : GX} {p0 : Int32} {p1 : Int32} {s : ST} {q : Int32 × ST} (hf : fX12_amount p0 p1 s = some q) : Cn g mdX12_amount [.ref 0, .int p0, .int p1] (mW s) (some (.int q.1)) (mW q.2) := by
  refine Cn.of (by decide) (Nat.le_of_ble_eq_true rfl) ?_
  show Rn g mdX12_amount 0 [some (.ref 0), some (.int p0), some (.int p1), none, none] [] (mW s) 0 0 (some (.int q.1)) (mW q.2)
  unfold fX12_amount at hf
  refine o_aload_n (pc := 0) dX12_amount_0 rfl ?_
  obtain ⟨q2, hk1, hf⟩ := bd_elim hf
  refine m_callV (pc := 1) [] dX12_amount_1 (kX12_blanks hk1) stX12_246 ⟨by decide, by decide, by decide, by decide⟩ ⟨rfl, rfl⟩ (Nat.le_of_ble_eq_true rfl) ?_
  show Rn g mdX12_amount 4 [some (.ref 0), some (.int p0), some (.int p1), none, none] [] (mW q2) 0 0 (some (.int q.1)) (mW q.2)
  refine o_aload_n (pc := 4) dX12_amount_4 rfl ?_
  refine m_getI (pc := 5) 27 (by decide) rfl lkX12_227 dX12_amount_5 ?_
  refine lz_i hf (fun v3 hf => ?_)
  refine o_istore_n (pc := 8) dX12_amount_8 (by decide) rfl ?_
  show Rn g mdX12_amount 9 [some (.ref 0), some (.int p0), some (.int p1), some (.int v3), none] [] (mW q2) 0 0 (some (.int q.1)) (mW q.2)
  refine o_aload_n (pc := 9) dX12_amount_9 rfl ?_
  refine m_getI (pc := 10) 28 (by decide) rfl lkX12_224 dX12_amount_10 ?_
  obtain ⟨w4, hr5, hf⟩ := bd_elim hf
  have K6 : Rn g mdX12_amount 27 [some (.ref 0), some (.int p0), some (.int p1), some (.int v3), none] [.int w4.1] (mW w4.2) 0 0 (some (.int q.1)) (mW q.2) := by
    refine o_istore (pc := 27) dX12_amount_27 (by decide) rfl ?_
    show Rn g mdX12_amount 29 [some (.ref 0), some (.int p0), some (.int p1), some (.int v3), some (.int w4.1)] [] (mW w4.2) 0 0 (some (.int q.1)) (mW q.2)
    refine o_aload_n (pc := 29) dX12_amount_29 rfl ?_
    refine m_getI (pc := 30) 28 (by decide) rfl lkX12_224 dX12_amount_30 ?_
    obtain ⟨b9, hr10, hf⟩ := bd_elim hf
    obtain ⟨w14, hr15, hf⟩ := bd_elim hf
    have K16 : Rn g mdX12_amount 55 [none, none, none, none, some (.int w4.1)] [] (mW w14) 0 0 (some (.int q.1)) (mW q.2) := by
      refine o_iload (pc := 55) dX12_amount_55 rfl ?_
      obtain rfl := Option.some.inj hf
      exact o_ireturn (pc := 57) dX12_amount_57 rfl (Nat.zero_le _) (Nat.zero_le _)
    clear hf
    have KB11 : (b9 = true → Rn g mdX12_amount 49 [some (.ref 0), some (.int p0), some (.int p1), some (.int v3), some (.int w4.1)] [] (mW w4.2) 0 0 (some (.int q.1)) (mW q.2)) ∧ (¬ b9 = true → Rn g mdX12_amount 55 [some (.ref 0), some (.int p0), some (.int p1), some (.int v3), some (.int w4.1)] [] (mW w4.2) 0 0 (some (.int q.1)) (mW q.2)) := by
      refine ⟨fun hc => ?_, fun hc => ?_⟩
      · have hr15 := it_t hr15 hc
        refine o_aload_n (pc := 49) dX12_amount_49 rfl ?_
        refine o_iconst (pc := 50) (v := 1) dX12_amount_50 rfl ?_
        refine o_iload_n (pc := 51) dX12_amount_51 rfl ?_
        obtain ⟨q18, hk17, hr15⟩ := bd_elim hr15
        refine m_callV (pc := 52) [.int 1, .int v3] dX12_amount_52 (kX12_fails hk17) stX12_262 ⟨by decide, by decide, by decide, by decide⟩ ⟨rfl, rfl⟩ (Nat.le_of_ble_eq_true rfl) ?_
        show Rn g mdX12_amount 55 [some (.ref 0), some (.int p0), some (.int p1), some (.int v3), some (.int w4.1)] [] (mW q18) 0 0 (some (.int q.1)) (mW q.2)
        obtain rfl := Option.some.inj hr15
        refine o_keep [false, false, false, false, true] ?_
        exact K16
      · have hr15 := it_f hr15 hc
        obtain rfl := Option.some.inj hr15
        refine o_keep [false, false, false, false, true] ?_
        exact K16
    clear hr15
    refine o_if_ne (pc := 33) 55 dX12_amount_33 rfl (fun hc => ?_) (fun hc => ?_)
    · have hr10 := it_f hr10 hc
      obtain rfl := Option.some.inj hr10
      exact KB11.2 (by decide)
    · have hr10 := it_t hr10 hc
      refine o_iload (pc := 36) dX12_amount_36 rfl ?_
      refine o_i2l (pc := 38) dX12_amount_38 ?_
      refine o_iload_n (pc := 39) dX12_amount_39 rfl ?_
      refine o_i2l (pc := 40) dX12_amount_40 ?_
      refine o_iload_n (pc := 41) dX12_amount_41 rfl ?_
      refine o_i2l (pc := 42) dX12_amount_42 ?_
      obtain ⟨q13, hk12, hr10⟩ := bd_elim hr10
      refine m_callS (pc := 43) [.long w4.1.toInt64, .long p0.toInt64, .long p1.toInt64] dX12_amount_43 (kX12_in hk12) stX12_191 ⟨by decide, by decide, by decide, by decide⟩ ⟨rfl, rfl⟩ (Nat.le_of_ble_eq_true rfl) ?_
      show Rn g mdX12_amount 46 [some (.ref 0), some (.int p0), some (.int p1), some (.int v3), some (.int w4.1)] [.int q13] (mW w4.2) 0 0 (some (.int q.1)) (mW q.2)
      refine o_if_ne (pc := 46) 55 dX12_amount_46 rfl (fun hc => ?_) (fun hc => ?_)
      · have hr10 := it_f hr10 hc
        obtain rfl := Option.some.inj hr10
        exact KB11.2 (by decide)
      · have hr10 := it_t hr10 hc
        obtain rfl := Option.some.inj hr10
        exact KB11.1 rfl
  clear hf
  refine o_if_ne (pc := 13) 26 dX12_amount_13 rfl (fun hc => ?_) (fun hc => ?_)
  · have hr5 := it_f hr5 hc
    refine o_iconst (pc := 26) (v := 0) dX12_amount_26 rfl ?_
    obtain rfl := Option.some.inj hr5
    exact K6
  · have hr5 := it_t hr5 hc
    refine o_aload_n (pc := 16) dX12_amount_16 rfl ?_
    refine o_ldcw (pc := 17) dX12_amount_17 lcX12_270 ?_
    obtain ⟨q8, hk7, hr5⟩ := bd_elim hr5
    refine m_callV (pc := 20) [.int 99999] dX12_amount_20 (kX12_digits hk7) stX12_271 ⟨by decide, by decide, by decide, by decide⟩ ⟨rfl, rfl⟩ (Nat.le_of_ble_eq_true rfl) ?_
    show Rn g mdX12_amount 23 [some (.ref 0), some (.int p0), some (.int p1), some (.int v3), none] [.int q8.1] (mW q8.2) 0 0 (some (.int q.1)) (mW q.2)
    refine o_goto (pc := 23) 27 dX12_amount_23 rfl ?_
    obtain rfl := Option.some.inj hr5
    exact K6
def fX12_townWord (p0 : Int32) (s : ST) : Option (Nat) :=
  if p0 = 0 then some 1000024 else if p0 = 1 then some 1000025 else if p0 = 2 then some 1000026 else if p0 = 3 then some 1000027 else some 1000028
set_option maxRecDepth 20000 in
theorem kX12_townWord {g : GX} {p0 : Int32} {s : ST} {q : Nat} (hf : fX12_townWord p0 s = some q) : Cn g mdX12_townWord [.int p0] (mW s) (some (.ref q)) (mW s) := by
  refine Cn.of (by decide) (Nat.le_of_ble_eq_true rfl) ?_
  show Rn g mdX12_townWord 0 [some (.int p0)] [] (mW s) 0 0 (some (.ref q)) (mW s)
  unfold fX12_townWord at hf
  refine o_iload_n (pc := 0) dX12_townWord_0 rfl ?_
  by_cases hx1 : p0 = 0
  · have hf := it_t hf hx1
    refine o_tableIn (pc := 1) 32 dX12_townWord_1 (by rw [hx1] <;> decide) (by rw [hx1] <;> decide) (by rw [hx1] <;> rfl) rfl ?_
    refine o_ldcSw (pc := 32) (i := 24) dX12_townWord_32 rfl rfl rfl ?_
    show Rn g mdX12_townWord 35 [some (.int p0)] [.ref 1000024] (mW s) 0 0 (some (.ref q)) (mW s)
    obtain rfl := Option.some.inj hf
    exact o_areturn (pc := 35) dX12_townWord_35 rfl (Or.inl ⟨_, rfl⟩) (Or.inr ⟨_, rfl⟩) (Nat.zero_le _) (Nat.zero_le _)
  have hf := it_f hf hx1
  by_cases hx2 : p0 = 1
  · have hf := it_t hf hx2
    refine o_tableIn (pc := 1) 36 dX12_townWord_1 (by rw [hx2] <;> decide) (by rw [hx2] <;> decide) (by rw [hx2] <;> rfl) rfl ?_
    refine o_ldcS (pc := 36) (i := 25) dX12_townWord_36 rfl rfl rfl ?_
    show Rn g mdX12_townWord 38 [some (.int p0)] [.ref 1000025] (mW s) 0 0 (some (.ref q)) (mW s)
    obtain rfl := Option.some.inj hf
    exact o_areturn (pc := 38) dX12_townWord_38 rfl (Or.inl ⟨_, rfl⟩) (Or.inr ⟨_, rfl⟩) (Nat.zero_le _) (Nat.zero_le _)
  have hf := it_f hf hx2
  by_cases hx3 : p0 = 2
  · have hf := it_t hf hx3
    refine o_tableIn (pc := 1) 39 dX12_townWord_1 (by rw [hx3] <;> decide) (by rw [hx3] <;> decide) (by rw [hx3] <;> rfl) rfl ?_
    refine o_ldcS (pc := 39) (i := 26) dX12_townWord_39 rfl rfl rfl ?_
    show Rn g mdX12_townWord 41 [some (.int p0)] [.ref 1000026] (mW s) 0 0 (some (.ref q)) (mW s)
    obtain rfl := Option.some.inj hf
    exact o_areturn (pc := 41) dX12_townWord_41 rfl (Or.inl ⟨_, rfl⟩) (Or.inr ⟨_, rfl⟩) (Nat.zero_le _) (Nat.zero_le _)
  have hf := it_f hf hx3
  by_cases hx4 : p0 = 3
  · have hf := it_t hf hx4
    refine o_tableIn (pc := 1) 42 dX12_townWord_1 (by rw [hx4] <;> decide) (by rw [hx4] <;> decide) (by rw [hx4] <;> rfl) rfl ?_
    refine o_ldcSw (pc := 42) (i := 27) dX12_townWord_42 rfl rfl rfl ?_
    show Rn g mdX12_townWord 45 [some (.int p0)] [.ref 1000027] (mW s) 0 0 (some (.ref q)) (mW s)
    obtain rfl := Option.some.inj hf
    exact o_areturn (pc := 45) dX12_townWord_45 rfl (Or.inl ⟨_, rfl⟩) (Or.inr ⟨_, rfl⟩) (Nat.zero_le _) (Nat.zero_le _)
  have hf := it_f hf hx4
  refine o_tableOut (pc := 1) 46 dX12_townWord_1 (sw_out 0 3 (fun n hn => ?_)) rfl ?_
  · match n, hn with
    | 0, _ => exact sw_ne hx1 rfl
    | 1, _ => exact sw_ne hx2 rfl
    | 2, _ => exact sw_ne hx3 rfl
    | 3, _ => exact sw_ne hx4 rfl
    | n + 4, h => exact absurd h (by omega)
  · refine o_ldcSw (pc := 46) (i := 28) dX12_townWord_46 rfl rfl rfl ?_
    show Rn g mdX12_townWord 49 [some (.int p0)] [.ref 1000028] (mW s) 0 0 (some (.ref q)) (mW s)
    obtain rfl := Option.some.inj hf
    exact o_areturn (pc := 49) dX12_townWord_49 rfl (Or.inl ⟨_, rfl⟩) (Or.inr ⟨_, rfl⟩) (Nat.zero_le _) (Nat.zero_le _)
def fX12_onePerson (s : ST) : Option (Int32 × ST) :=
  ck (inb 3 9) ((fX12_amount 0 ((gi s 19 (ix 3)) - 1) s).bind (fun q3 => some (q3.1, q3.2)))
set_option maxRecDepth 20000 in
theorem kX12_onePerson {g : GX} {s : ST} {q : Int32 × ST} (hf : fX12_onePerson s = some q) : Cn g mdX12_onePerson [.ref 0] (mW s) (some (.int q.1)) (mW q.2) := by
  refine Cn.of (by decide) (Nat.le_of_ble_eq_true rfl) ?_
  show Rn g mdX12_onePerson 0 [some (.ref 0)] [] (mW s) 0 0 (some (.int q.1)) (mW q.2)
  unfold fX12_onePerson at hf
  refine o_aload_n (pc := 0) dX12_onePerson_0 rfl ?_
  refine o_iconst (pc := 1) (v := 0) dX12_onePerson_1 rfl ?_
  refine o_aload_n (pc := 2) dX12_onePerson_2 rfl ?_
  refine m_getA (pc := 3) 19 19 (by decide) rfl rfl lkX12_64 dX12_onePerson_3 ?_
  refine o_iconst (pc := 6) (v := 3) dX12_onePerson_6 rfl ?_
  obtain ⟨hk1, hf⟩ := ck_elim hf
  refine m_iald (pc := 7) (by decide) rfl hk1 dX12_onePerson_7 ?_
  refine o_iconst (pc := 8) (v := 1) dX12_onePerson_8 rfl ?_
  refine o_isub (pc := 9) dX12_onePerson_9 ?_
  obtain ⟨q3, hk2, hf⟩ := bd_elim hf
  refine m_callV (pc := 10) [.int 0, .int ((gi s 19 (ix 3)) - 1)] dX12_onePerson_10 (kX12_amount hk2) stX12_327 ⟨by decide, by decide, by decide, by decide⟩ ⟨rfl, rfl⟩ (Nat.le_of_ble_eq_true rfl) ?_
  show Rn g mdX12_onePerson 13 [some (.ref 0)] [.int q3.1] (mW q3.2) 0 0 (some (.int q.1)) (mW q.2)
  obtain rfl := Option.some.inj hf
  exact o_ireturn (pc := 13) dX12_onePerson_13 rfl (Nat.zero_le _) (Nat.zero_le _)
