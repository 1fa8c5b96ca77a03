def fX12_truth (p0 : Int32) (s : ST) : Option (Int64) :=
  (if p0 = 0 then some 0 else some 1 : Option (Int64)).bind (fun w1 => some w1)
set_option maxRecDepth 20000 in
theorem kX12_truth {g : GX} {p0 : Int32} {s : ST} {q : Int64} (hf : fX12_truth p0 s = some q) : Cn g mdX12_truth [.int p0] (mW s) (some (.long q)) (mW s) := by
  refine Cn.of (by decide) (Nat.le_of_ble_eq_true rfl) ?_
  show Rn g mdX12_truth 0 [some (.int p0)] [] (mW s) 0 0 (some (.long q)) (mW s)
  unfold fX12_truth at hf
  refine o_iload_n (pc := 0) dX12_truth_0 rfl ?_
  obtain ⟨w1, hr2, hf⟩ := bd_elim hf
  have K3 : Rn g mdX12_truth 9 [none] [.long w1] (mW s) 0 0 (some (.long q)) (mW s) := by
    obtain rfl := Option.some.inj hf
    exact o_lreturn (pc := 9) dX12_truth_9 rfl (Nat.zero_le _) (Nat.zero_le _)
  clear hf
  refine o_if_eq (pc := 1) 8 dX12_truth_1 rfl (fun hc => ?_) (fun hc => ?_)
  · have hr2 := it_t hr2 hc
    refine o_lconst (pc := 8) (v := 0) dX12_truth_8 rfl ?_
    obtain rfl := Option.some.inj hr2
    refine o_keep [false] ?_
    exact K3
  · have hr2 := it_f hr2 hc
    refine o_lconst (pc := 4) (v := 1) dX12_truth_4 rfl ?_
    refine o_goto (pc := 5) 9 dX12_truth_5 rfl ?_
    obtain rfl := Option.some.inj hr2
    refine o_keep [false] ?_
    exact K3
def fX12_both (p0 : Int32) (p1 : Int64) (p2 : Int64) (s : ST) : Option (Int64) :=
  if p0 = 2 then some (p1 + p2) else if p0 = 3 then some (p1 - p2) else if p0 = 4 then (if 0 ≤ (lg_cmp p1 p2) then some 0 else some 1 : Option (Int32)).bind (fun w4 => (fX12_truth w4 s).bind (fun q8 => some q8)) else if p0 = 5 then (if 0 < (lg_cmp p1 p2) then some 0 else some 1 : Option (Int32)).bind (fun w10 => (fX12_truth w10 s).bind (fun q14 => some q14)) else if p0 = 6 then (if (lg_cmp p1 p2) = 0 then some 1 else some 0 : Option (Int32)).bind (fun w16 => (fX12_truth w16 s).bind (fun q20 => some q20)) else if p0 = 7 then (if (lg_cmp p1 p2) < 0 then some 0 else some 1 : Option (Int32)).bind (fun w22 => (fX12_truth w22 s).bind (fun q26 => some q26)) else if p0 = 8 then (if (lg_cmp p1 p2) ≤ 0 then some 0 else some 1 : Option (Int32)).bind (fun w28 => (fX12_truth w28 s).bind (fun q32 => some q32)) else if p0 = 9 then some (p1 ||| p2) else if p0 = 10 then some (p1 &&& p2) else if p0 = 11 then some (p1 ||| p2) else if p0 = 12 then some (p1 ||| p2) else if p0 = 13 then some (p1 * p2) else if p0 = 14 then (if (lg_cmp p2 0) = 0 then some 0 else ck (decide (¬ p2 = 0)) (some (p1 / p2)) : Option (Int64)).bind (fun w39 => some w39) else if p0 = 15 then (if (lg_cmp p2 0) = 0 then some 0 else ck (decide (¬ p2 = 0)) (some (p1 - p1 / p2 * p2)) : Option (Int64)).bind (fun w44 => some w44) else some (p1 ||| p2)
set_option maxRecDepth 20000 in
theorem kX12_both {g : GX} {p0 : Int32} {p1 : Int64} {p2 : Int64} {s : ST} {q : Int64} (hf : fX12_both p0 p1 p2 s = some q) : Cn g mdX12_both [.int p0, .long p1, .long p2] (mW s) (some (.long q)) (mW s) := by
  refine Cn.of (by decide) (Nat.le_of_ble_eq_true rfl) ?_
  show Rn g mdX12_both 0 [some (.int p0), some (.long p1), none, some (.long p2), none] [] (mW s) 0 0 (some (.long q)) (mW s)
  unfold fX12_both at hf
  refine o_iload_n (pc := 0) dX12_both_0 rfl ?_
  by_cases hx1 : p0 = 2
  · have hf := it_t hf hx1
    refine o_tableIn (pc := 1) 72 dX12_both_1 (by rw [hx1] <;> decide) (by rw [hx1] <;> decide) (by rw [hx1] <;> rfl) rfl ?_
    refine o_lload_n (pc := 72) dX12_both_72 rfl ?_
    refine o_lload_n (pc := 73) dX12_both_73 rfl ?_
    refine o_ladd (pc := 74) dX12_both_74 ?_
    obtain rfl := Option.some.inj hf
    exact o_lreturn (pc := 75) dX12_both_75 rfl (Nat.zero_le _) (Nat.zero_le _)
  have hf := it_f hf hx1
  by_cases hx2 : p0 = 3
  · have hf := it_t hf hx2
    refine o_tableIn (pc := 1) 76 dX12_both_1 (by rw [hx2] <;> decide) (by rw [hx2] <;> decide) (by rw [hx2] <;> rfl) rfl ?_
    refine o_lload_n (pc := 76) dX12_both_76 rfl ?_
    refine o_lload_n (pc := 77) dX12_both_77 rfl ?_
    refine o_lsub (pc := 78) dX12_both_78 ?_
    obtain rfl := Option.some.inj hf
    exact o_lreturn (pc := 79) dX12_both_79 rfl (Nat.zero_le _) (Nat.zero_le _)
  have hf := it_f hf hx2
  by_cases hx3 : p0 = 4
  · have hf := it_t hf hx3
    refine o_tableIn (pc := 1) 112 dX12_both_1 (by rw [hx3] <;> decide) (by rw [hx3] <;> decide) (by rw [hx3] <;> rfl) rfl ?_
    refine o_lload_n (pc := 112) dX12_both_112 rfl ?_
    refine o_lload_n (pc := 113) dX12_both_113 rfl ?_
    refine o_lcmp (pc := 114) dX12_both_114 ?_
    obtain ⟨w4, hr5, hf⟩ := bd_elim hf
    have K6 : Rn g mdX12_both 123 [none, none, none, none, none] [.int w4] (mW s) 0 0 (some (.long q)) (mW s) := by
      obtain ⟨q8, hk7, hf⟩ := bd_elim hf
      refine m_callS (pc := 123) [.int w4] dX12_both_123 (kX12_truth hk7) stX12_391 ⟨by decide, by decide, by decide, by decide⟩ ⟨rfl, rfl⟩ (Nat.le_of_ble_eq_true rfl) ?_
      show Rn g mdX12_both 126 [none, none, none, none, none] [.long q8] (mW s) 0 0 (some (.long q)) (mW s)
      obtain rfl := Option.some.inj hf
      exact o_lreturn (pc := 126) dX12_both_126 rfl (Nat.zero_le _) (Nat.zero_le _)
    clear hf
    refine o_if_ge (pc := 115) 122 dX12_both_115 rfl (fun hc => ?_) (fun hc => ?_)
    · have hr5 := it_t hr5 hc
      refine o_iconst (pc := 122) (v := 0) dX12_both_122 rfl ?_
      obtain rfl := Option.some.inj hr5
      refine o_keep [false, false, false, false, false] ?_
      exact K6
    · have hr5 := it_f hr5 hc
      refine o_iconst (pc := 118) (v := 1) dX12_both_118 rfl ?_
      refine o_goto (pc := 119) 123 dX12_both_119 rfl ?_
      obtain rfl := Option.some.inj hr5
      refine o_keep [false, false, false, false, false] ?_
      exact K6
  have hf := it_f hf hx3
  by_cases hx9 : p0 = 5
  · have hf := it_t hf hx9
    refine o_tableIn (pc := 1) 127 dX12_both_1 (by rw [hx9] <;> decide) (by rw [hx9] <;> decide) (by rw [hx9] <;> rfl) rfl ?_
    refine o_lload_n (pc := 127) dX12_both_127 rfl ?_
    refine o_lload_n (pc := 128) dX12_both_128 rfl ?_
    refine o_lcmp (pc := 129) dX12_both_129 ?_
    obtain ⟨w10, hr11, hf⟩ := bd_elim hf
    have K12 : Rn g mdX12_both 138 [none, none, none, none, none] [.int w10] (mW s) 0 0 (some (.long q)) (mW s) := by
      obtain ⟨q14, hk13, hf⟩ := bd_elim hf
      refine m_callS (pc := 138) [.int w10] dX12_both_138 (kX12_truth hk13) stX12_391 ⟨by decide, by decide, by decide, by decide⟩ ⟨rfl, rfl⟩ (Nat.le_of_ble_eq_true rfl) ?_
      show Rn g mdX12_both 141 [none, none, none, none, none] [.long q14] (mW s) 0 0 (some (.long q)) (mW s)
      obtain rfl := Option.some.inj hf
      exact o_lreturn (pc := 141) dX12_both_141 rfl (Nat.zero_le _) (Nat.zero_le _)
    clear hf
    refine o_if_gt (pc := 130) 137 dX12_both_130 rfl (fun hc => ?_) (fun hc => ?_)
    · have hr11 := it_t hr11 hc
      refine o_iconst (pc := 137) (v := 0) dX12_both_137 rfl ?_
      obtain rfl := Option.some.inj hr11
      refine o_keep [false, false, false, false, false] ?_
      exact K12
    · have hr11 := it_f hr11 hc
      refine o_iconst (pc := 133) (v := 1) dX12_both_133 rfl ?_
      refine o_goto (pc := 134) 138 dX12_both_134 rfl ?_
      obtain rfl := Option.some.inj hr11
      refine o_keep [false, false, false, false, false] ?_
      exact K12
  have hf := it_f hf hx9
  by_cases hx15 : p0 = 6
  · have hf := it_t hf hx15
    refine o_tableIn (pc := 1) 142 dX12_both_1 (by rw [hx15] <;> decide) (by rw [hx15] <;> decide) (by rw [hx15] <;> rfl) rfl ?_
    refine o_lload_n (pc := 142) dX12_both_142 rfl ?_
    refine o_lload_n (pc := 143) dX12_both_143 rfl ?_
    refine o_lcmp (pc := 144) dX12_both_144 ?_
    obtain ⟨w16, hr17, hf⟩ := bd_elim hf
    have K18 : Rn g mdX12_both 153 [none, none, none, none, none] [.int w16] (mW s) 0 0 (some (.long q)) (mW s) := by
      obtain ⟨q20, hk19, hf⟩ := bd_elim hf
      refine m_callS (pc := 153) [.int w16] dX12_both_153 (kX12_truth hk19) stX12_391 ⟨by decide, by decide, by decide, by decide⟩ ⟨rfl, rfl⟩ (Nat.le_of_ble_eq_true rfl) ?_
      show Rn g mdX12_both 156 [none, none, none, none, none] [.long q20] (mW s) 0 0 (some (.long q)) (mW s)
      obtain rfl := Option.some.inj hf
      exact o_lreturn (pc := 156) dX12_both_156 rfl (Nat.zero_le _) (Nat.zero_le _)
    clear hf
    refine o_if_ne (pc := 145) 152 dX12_both_145 rfl (fun hc => ?_) (fun hc => ?_)
    · have hr17 := it_f hr17 hc
      refine o_iconst (pc := 152) (v := 0) dX12_both_152 rfl ?_
      obtain rfl := Option.some.inj hr17
      refine o_keep [false, false, false, false, false] ?_
      exact K18
    · have hr17 := it_t hr17 hc
      refine o_iconst (pc := 148) (v := 1) dX12_both_148 rfl ?_
      refine o_goto (pc := 149) 153 dX12_both_149 rfl ?_
      obtain rfl := Option.some.inj hr17
      refine o_keep [false, false, false, false, false] ?_
      exact K18
  have hf := it_f hf hx15
  by_cases hx21 : p0 = 7
  · have hf := it_t hf hx21
    refine o_tableIn (pc := 1) 157 dX12_both_1 (by rw [hx21] <;> decide) (by rw [hx21] <;> decide) (by rw [hx21] <;> rfl) rfl ?_
    refine o_lload_n (pc := 157) dX12_both_157 rfl ?_
    refine o_lload_n (pc := 158) dX12_both_158 rfl ?_
    refine o_lcmp (pc := 159) dX12_both_159 ?_
    obtain ⟨w22, hr23, hf⟩ := bd_elim hf
    have K24 : Rn g mdX12_both 168 [none, none, none, none, none] [.int w22] (mW s) 0 0 (some (.long q)) (mW s) := by
      obtain ⟨q26, hk25, hf⟩ := bd_elim hf
      refine m_callS (pc := 168) [.int w22] dX12_both_168 (kX12_truth hk25) stX12_391 ⟨by decide, by decide, by decide, by decide⟩ ⟨rfl, rfl⟩ (Nat.le_of_ble_eq_true rfl) ?_
      show Rn g mdX12_both 171 [none, none, none, none, none] [.long q26] (mW s) 0 0 (some (.long q)) (mW s)
      obtain rfl := Option.some.inj hf
      exact o_lreturn (pc := 171) dX12_both_171 rfl (Nat.zero_le _) (Nat.zero_le _)
    clear hf
    refine o_if_lt (pc := 160) 167 dX12_both_160 rfl (fun hc => ?_) (fun hc => ?_)
    · have hr23 := it_t hr23 hc
      refine o_iconst (pc := 167) (v := 0) dX12_both_167 rfl ?_
      obtain rfl := Option.some.inj hr23
      refine o_keep [false, false, false, false, false] ?_
      exact K24
    · have hr23 := it_f hr23 hc
      refine o_iconst (pc := 163) (v := 1) dX12_both_163 rfl ?_
      refine o_goto (pc := 164) 168 dX12_both_164 rfl ?_
      obtain rfl := Option.some.inj hr23
      refine o_keep [false, false, false, false, false] ?_
      exact K24
  have hf := it_f hf hx21
  by_cases hx27 : p0 = 8
  · have hf := it_t hf hx27
    refine o_tableIn (pc := 1) 172 dX12_both_1 (by rw [hx27] <;> decide) (by rw [hx27] <;> decide) (by rw [hx27] <;> rfl) rfl ?_
    refine o_lload_n (pc := 172) dX12_both_172 rfl ?_
    refine o_lload_n (pc := 173) dX12_both_173 rfl ?_
    refine o_lcmp (pc := 174) dX12_both_174 ?_
    obtain ⟨w28, hr29, hf⟩ := bd_elim hf
    have K30 : Rn g mdX12_both 183 [none, none, none, none, none] [.int w28] (mW s) 0 0 (some (.long q)) (mW s) := by
      obtain ⟨q32, hk31, hf⟩ := bd_elim hf
      refine m_callS (pc := 183) [.int w28] dX12_both_183 (kX12_truth hk31) stX12_391 ⟨by decide, by decide, by decide, by decide⟩ ⟨rfl, rfl⟩ (Nat.le_of_ble_eq_true rfl) ?_
      show Rn g mdX12_both 186 [none, none, none, none, none] [.long q32] (mW s) 0 0 (some (.long q)) (mW s)
      obtain rfl := Option.some.inj hf
      exact o_lreturn (pc := 186) dX12_both_186 rfl (Nat.zero_le _) (Nat.zero_le _)
    clear hf
    refine o_if_le (pc := 175) 182 dX12_both_175 rfl (fun hc => ?_) (fun hc => ?_)
    · have hr29 := it_t hr29 hc
      refine o_iconst (pc := 182) (v := 0) dX12_both_182 rfl ?_
      obtain rfl := Option.some.inj hr29
      refine o_keep [false, false, false, false, false] ?_
      exact K30
    · have hr29 := it_f hr29 hc
      refine o_iconst (pc := 178) (v := 1) dX12_both_178 rfl ?_
      refine o_goto (pc := 179) 183 dX12_both_179 rfl ?_
      obtain rfl := Option.some.inj hr29
      refine o_keep [false, false, false, false, false] ?_
      exact K30
  have hf := it_f hf hx27
  by_cases hx33 : p0 = 9
  · have hf := it_t hf hx33
    refine o_tableIn (pc := 1) 191 dX12_both_1 (by rw [hx33] <;> decide) (by rw [hx33] <;> decide) (by rw [hx33] <;> rfl) rfl ?_
    refine o_lload_n (pc := 191) dX12_both_191 rfl ?_
    refine o_lload_n (pc := 192) dX12_both_192 rfl ?_
    refine o_lor (pc := 193) dX12_both_193 ?_
    obtain rfl := Option.some.inj hf
    exact o_lreturn (pc := 194) dX12_both_194 rfl (Nat.zero_le _) (Nat.zero_le _)
  have hf := it_f hf hx33
  by_cases hx34 : p0 = 10
  · have hf := it_t hf hx34
    refine o_tableIn (pc := 1) 187 dX12_both_1 (by rw [hx34] <;> decide) (by rw [hx34] <;> decide) (by rw [hx34] <;> rfl) rfl ?_
    refine o_lload_n (pc := 187) dX12_both_187 rfl ?_
    refine o_lload_n (pc := 188) dX12_both_188 rfl ?_
    refine o_land (pc := 189) dX12_both_189 ?_
    obtain rfl := Option.some.inj hf
    exact o_lreturn (pc := 190) dX12_both_190 rfl (Nat.zero_le _) (Nat.zero_le _)
  have hf := it_f hf hx34
  by_cases hx35 : p0 = 11
  · have hf := it_t hf hx35
    refine o_tableIn (pc := 1) 191 dX12_both_1 (by rw [hx35] <;> decide) (by rw [hx35] <;> decide) (by rw [hx35] <;> rfl) rfl ?_
    refine o_lload_n (pc := 191) dX12_both_191 rfl ?_
    refine o_lload_n (pc := 192) dX12_both_192 rfl ?_
    refine o_lor (pc := 193) dX12_both_193 ?_
    obtain rfl := Option.some.inj hf
    exact o_lreturn (pc := 194) dX12_both_194 rfl (Nat.zero_le _) (Nat.zero_le _)
  have hf := it_f hf hx35
  by_cases hx36 : p0 = 12
  · have hf := it_t hf hx36
    refine o_tableIn (pc := 1) 191 dX12_both_1 (by rw [hx36] <;> decide) (by rw [hx36] <;> decide) (by rw [hx36] <;> rfl) rfl ?_
    refine o_lload_n (pc := 191) dX12_both_191 rfl ?_
    refine o_lload_n (pc := 192) dX12_both_192 rfl ?_
    refine o_lor (pc := 193) dX12_both_193 ?_
    obtain rfl := Option.some.inj hf
    exact o_lreturn (pc := 194) dX12_both_194 rfl (Nat.zero_le _) (Nat.zero_le _)
  have hf := it_f hf hx36
  by_cases hx37 : p0 = 13
  · have hf := it_t hf hx37
    refine o_tableIn (pc := 1) 80 dX12_both_1 (by rw [hx37] <;> decide) (by rw [hx37] <;> decide) (by rw [hx37] <;> rfl) rfl ?_
    refine o_lload_n (pc := 80) dX12_both_80 rfl ?_
    refine o_lload_n (pc := 81) dX12_both_81 rfl ?_
    refine o_lmul (pc := 82) dX12_both_82 ?_
    obtain rfl := Option.some.inj hf
    exact o_lreturn (pc := 83) dX12_both_83 rfl (Nat.zero_le _) (Nat.zero_le _)
  have hf := it_f hf hx37
  by_cases hx38 : p0 = 14
  · have hf := it_t hf hx38
    refine o_tableIn (pc := 1) 84 dX12_both_1 (by rw [hx38] <;> decide) (by rw [hx38] <;> decide) (by rw [hx38] <;> rfl) rfl ?_
    refine o_lload_n (pc := 84) dX12_both_84 rfl ?_
    refine o_lconst (pc := 85) (v := 0) dX12_both_85 rfl ?_
    refine o_lcmp (pc := 86) dX12_both_86 ?_
    obtain ⟨w39, hr40, hf⟩ := bd_elim hf
    have K41 : Rn g mdX12_both 97 [none, none, none, none, none] [.long w39] (mW s) 0 0 (some (.long q)) (mW s) := by
      obtain rfl := Option.some.inj hf
      exact o_lreturn (pc := 97) dX12_both_97 rfl (Nat.zero_le _) (Nat.zero_le _)
    clear hf
    refine o_if_ne (pc := 87) 94 dX12_both_87 rfl (fun hc => ?_) (fun hc => ?_)
    · have hr40 := it_f hr40 hc
      refine o_lload_n (pc := 94) dX12_both_94 rfl ?_
      refine o_lload_n (pc := 95) dX12_both_95 rfl ?_
      obtain ⟨hk42, hr40⟩ := ck_elim hr40
      refine o_ldiv (pc := 96) dX12_both_96 (of_decide_eq_true hk42) ?_
      obtain rfl := Option.some.inj hr40
      refine o_keep [false, false, false, false, false] ?_
      exact K41
    · have hr40 := it_t hr40 hc
      refine o_lconst (pc := 90) (v := 0) dX12_both_90 rfl ?_
      refine o_goto (pc := 91) 97 dX12_both_91 rfl ?_
      obtain rfl := Option.some.inj hr40
      refine o_keep [false, false, false, false, false] ?_
      exact K41
  have hf := it_f hf hx38
  by_cases hx43 : p0 = 15
  · have hf := it_t hf hx43
    refine o_tableIn (pc := 1) 98 dX12_both_1 (by rw [hx43] <;> decide) (by rw [hx43] <;> decide) (by rw [hx43] <;> rfl) rfl ?_
    refine o_lload_n (pc := 98) dX12_both_98 rfl ?_
    refine o_lconst (pc := 99) (v := 0) dX12_both_99 rfl ?_
    refine o_lcmp (pc := 100) dX12_both_100 ?_
    obtain ⟨w44, hr45, hf⟩ := bd_elim hf
    have K46 : Rn g mdX12_both 111 [none, none, none, none, none] [.long w44] (mW s) 0 0 (some (.long q)) (mW s) := by
      obtain rfl := Option.some.inj hf
      exact o_lreturn (pc := 111) dX12_both_111 rfl (Nat.zero_le _) (Nat.zero_le _)
    clear hf
    refine o_if_ne (pc := 101) 108 dX12_both_101 rfl (fun hc => ?_) (fun hc => ?_)
    · have hr45 := it_f hr45 hc
      refine o_lload_n (pc := 108) dX12_both_108 rfl ?_
      refine o_lload_n (pc := 109) dX12_both_109 rfl ?_
      obtain ⟨hk47, hr45⟩ := ck_elim hr45
      refine o_lrem (pc := 110) dX12_both_110 (of_decide_eq_true hk47) ?_
      obtain rfl := Option.some.inj hr45
      refine o_keep [false, false, false, false, false] ?_
      exact K46
    · have hr45 := it_t hr45 hc
      refine o_lconst (pc := 104) (v := 0) dX12_both_104 rfl ?_
      refine o_goto (pc := 105) 111 dX12_both_105 rfl ?_
      obtain rfl := Option.some.inj hr45
      refine o_keep [false, false, false, false, false] ?_
      exact K46
  have hf := it_f hf hx43
  refine o_tableOut (pc := 1) 191 dX12_both_1 (sw_out 2 13 (fun n hn => ?_)) rfl ?_
  · match n, hn with
    | 0, _ => exact sw_ne hx1 rfl
    | 1, _ => exact sw_ne hx2 rfl
    | 2, _ => exact sw_ne hx3 rfl
    | 3, _ => exact sw_ne hx9 rfl
    | 4, _ => exact sw_ne hx15 rfl
    | 5, _ => exact sw_ne hx21 rfl
    | 6, _ => exact sw_ne hx27 rfl
    | 7, _ => exact sw_ne hx33 rfl
    | 8, _ => exact sw_ne hx34 rfl
    | 9, _ => exact sw_ne hx35 rfl
    | 10, _ => exact sw_ne hx36 rfl
    | 11, _ => exact sw_ne hx37 rfl
    | 12, _ => exact sw_ne hx38 rfl
    | 13, _ => exact sw_ne hx43 rfl
    | n + 14, h => exact absurd h (by omega)
  · refine o_lload_n (pc := 191) dX12_both_191 rfl ?_
    refine o_lload_n (pc := 192) dX12_both_192 rfl ?_
    refine o_lor (pc := 193) dX12_both_193 ?_
    obtain rfl := Option.some.inj hf
    exact o_lreturn (pc := 194) dX12_both_194 rfl (Nat.zero_le _) (Nat.zero_le _)
def fX12_answer_L6 (a1 : Int32) (a3 : Int32) : Nat → Int32 → Int32 → ST → Option (Int32 × Int32 × ST)
  | 0, _, _, _ => none
  | n + 1, x4, x5, s => if a3 ≤ x5 then some (x4, x5, s) else ck (inb ((300 * a1) + x5) 1800) (lt (gi s 27 (ix ((300 * a1) + x5)) : Int32) (fun v2 => ck (inb ((300 * a1) + x5) 1800) (lt (gi s 28 (ix ((300 * a1) + x5)) : Int32) (fun v4 => (if v2 = 0 then some true else if v2 = 1 then some true else some false : Option Bool).bind (fun b5 => (if b5 = true then (if v2 = 0 then some v4.toInt64 else ck (inb v4 14) (some (gl s 34 (ix v4))) : Option (Int64)).bind (fun w11 => ck (inb x4 300) (lt (sl s 35 (ix x4) w11) (fun s16 => lt (x4 + 1) (fun v17 => some (v17, s16))))) else if v2 = 9 then ck (inb (x4 - 1) 300) (ck (inb (x4 - 1) 300) (lt (sl s 35 (ix (x4 - 1)) (1 - (gl s 35 (ix (x4 - 1))))) (fun s27 => some (x4, s27)))) else lt (x4 + (-1)) (fun v18 => ck (inb (v18 - 1) 300) (ck (inb v18 300) ((fX12_both v2 (gl s 35 (ix (v18 - 1))) (gl s 35 (ix v18)) s).bind (fun q22 => ck (inb (v18 - 1) 300) (lt (sl s 35 (ix (v18 - 1)) q22) (fun s24 => some (v18, s24))))))) : Option (Int32 × ST)).bind (fun w8 => lt (x5 + 1) (fun v28 => fX12_answer_L6 a1 a3 n w8.1 v28 w8.2)))))))
def fX12_answer (p0 : Int32) (p1 : Int32) (p2 : Int32) (s : ST) : Option (Int64 × ST) :=
  (fX12_answer_L6 p0 p2 FUEL 0 p1 s).bind (fun w29 => ck (inb 0 300) (some (gl w29.2.2 35 (ix 0), w29.2.2)))
set_option maxRecDepth 20000 in
theorem kX12_answer_L6 {g : GX} (a1 : Int32) (a3 : Int32) {r : Option Value} {h2 : PH} : ∀ (n : Nat) (x4 : Int32) (x5 : Int32) (s : ST) {w : Int32 × Int32 × ST}, fX12_answer_L6 a1 a3 n x4 x5 s = some w → Rn g mdX12_answer 153 [some (.ref 0), none, none, none, none, none, none, none] [] (mW w.2.2) 0 0 r h2 → Rn g mdX12_answer 6 [some (.ref 0), some (.int a1), none, some (.int a3), some (.int x4), some (.int x5), none, none] [] (mW s) 0 0 r h2 := by
  intro n
  induction n with
  | zero => intro x4 x5 s w hf K; cases hf
  | succ n ih =>
    intro x4 x5 s w hf K
    rw [fX12_answer_L6] at hf
    refine o_iload (pc := 6) dX12_answer_6 rfl ?_
    refine o_iload_n (pc := 8) dX12_answer_8 rfl ?_
    refine o_icmp_ge (pc := 9) 153 dX12_answer_9 rfl (fun hc => ?_) (fun hc => ?_)
    · have hf := it_t hf hc
      obtain rfl := Option.some.inj hf
      refine o_keep [true, false, false, false, false, false, false, false] ?_
      exact K
    · have hf := it_f hf hc
      refine o_aload_n (pc := 12) dX12_answer_12 rfl ?_
      refine m_getA (pc := 13) 37 27 (by decide) rfl rfl lkX12_93 dX12_answer_13 ?_
      refine o_sipush (pc := 16) (v := 300) dX12_answer_16 rfl ?_
      refine o_iload_n (pc := 19) dX12_answer_19 rfl ?_
      refine o_imul (pc := 20) dX12_answer_20 ?_
      refine o_iload (pc := 21) dX12_answer_21 rfl ?_
      refine o_iadd (pc := 23) dX12_answer_23 ?_
      obtain ⟨hk1, hf⟩ := ck_elim hf
      refine m_iald (pc := 24) (by decide) rfl hk1 dX12_answer_24 ?_
      refine lz_i hf (fun v2 hf => ?_)
      refine o_istore (pc := 25) dX12_answer_25 (by decide) rfl ?_
      show Rn g mdX12_answer 27 [some (.ref 0), some (.int a1), none, some (.int a3), some (.int x4), some (.int x5), some (.int v2), none] [] (mW s) 0 0 r h2
      refine o_aload_n (pc := 27) dX12_answer_27 rfl ?_
      refine m_getA (pc := 28) 38 28 (by decide) rfl rfl lkX12_96 dX12_answer_28 ?_
      refine o_sipush (pc := 31) (v := 300) dX12_answer_31 rfl ?_
      refine o_iload_n (pc := 34) dX12_answer_34 rfl ?_
      refine o_imul (pc := 35) dX12_answer_35 ?_
      refine o_iload (pc := 36) dX12_answer_36 rfl ?_
      refine o_iadd (pc := 38) dX12_answer_38 ?_
      obtain ⟨hk3, hf⟩ := ck_elim hf
      refine m_iald (pc := 39) (by decide) rfl hk3 dX12_answer_39 ?_
      refine lz_i hf (fun v4 hf => ?_)
      refine o_istore (pc := 40) dX12_answer_40 (by decide) rfl ?_
      show Rn g mdX12_answer 42 [some (.ref 0), some (.int a1), none, some (.int a3), some (.int x4), some (.int x5), some (.int v2), some (.int v4)] [] (mW s) 0 0 r h2
      refine o_iload (pc := 42) dX12_answer_42 rfl ?_
      obtain ⟨b5, hr6, hf⟩ := bd_elim hf
      obtain ⟨w8, hr9, hf⟩ := bd_elim hf
      have K10 : Rn g mdX12_answer 147 [some (.ref 0), some (.int a1), none, some (.int a3), some (.int w8.1), some (.int x5), none, none] [] (mW w8.2) 0 0 r h2 := by
        refine o_iinc (pc := 147) dX12_answer_147 rfl (by decide) rfl ?_
        show Rn g mdX12_answer 150 [some (.ref 0), some (.int a1), none, some (.int a3), some (.int w8.1), some (.int (x5 + 1)), none, none] [] (mW w8.2) 0 0 r h2
        obtain ⟨v28, ev28, hf⟩ := lt_elim hf
        rw [ev28]
        show Rn g mdX12_answer 150 [some (.ref 0), some (.int a1), none, some (.int a3), some (.int w8.1), some (.int v28), none, none] [] (mW w8.2) 0 0 r h2
        refine o_goto (pc := 150) 6 dX12_answer_150 rfl ?_
        exact ih _ _ _ hf K
      clear hf
      have KB7 : (b5 = true → Rn g mdX12_answer 53 [some (.ref 0), some (.int a1), none, some (.int a3), some (.int x4), some (.int x5), some (.int v2), some (.int v4)] [] (mW s) 0 0 r h2) ∧ (¬ b5 = true → Rn g mdX12_answer 84 [some (.ref 0), some (.int a1), none, some (.int a3), some (.int x4), some (.int x5), some (.int v2), some (.int v4)] [] (mW s) 0 0 r h2) := by
        refine ⟨fun hc => ?_, fun hc => ?_⟩
        · have hr9 := it_t hr9 hc
          refine o_aload_n (pc := 53) dX12_answer_53 rfl ?_
          refine m_getA (pc := 54) 45 35 (by decide) rfl rfl lkX12_118 dX12_answer_54 ?_
          refine o_iload (pc := 57) dX12_answer_57 rfl ?_
          refine o_iload (pc := 59) dX12_answer_59 rfl ?_
          obtain ⟨w11, hr12, hr9⟩ := bd_elim hr9
          have K13 : Rn g mdX12_answer 77 [some (.ref 0), some (.int a1), none, some (.int a3), some (.int x4), some (.int x5), none, none] [.long w11, .int x4, .ref 35] (mW s) 0 0 r h2 := by
            obtain ⟨hk15, hr9⟩ := ck_elim hr9
            refine m_last (pc := 77) (by decide) rfl hk15 dX12_answer_77 ?_
            refine lz_s (mW) hr9 (fun s16 hr9 => ?_)
            show Rn g mdX12_answer 78 [some (.ref 0), some (.int a1), none, some (.int a3), some (.int x4), some (.int x5), none, none] [] (mW s16) 0 0 r h2
            refine o_iinc (pc := 78) dX12_answer_78 rfl (by decide) rfl ?_
            show Rn g mdX12_answer 81 [some (.ref 0), some (.int a1), none, some (.int a3), some (.int (x4 + 1)), some (.int x5), none, none] [] (mW s16) 0 0 r h2
            obtain ⟨v17, ev17, hr9⟩ := lt_elim hr9
            rw [ev17]
            show Rn g mdX12_answer 81 [some (.ref 0), some (.int a1), none, some (.int a3), some (.int v17), some (.int x5), none, none] [] (mW s16) 0 0 r h2
            refine o_goto (pc := 81) 147 dX12_answer_81 rfl ?_
            obtain rfl := Option.some.inj hr9
            exact K10
          clear hr9
          refine o_if_ne (pc := 61) 70 dX12_answer_61 rfl (fun hc => ?_) (fun hc => ?_)
          · have hr12 := it_f hr12 hc
            refine o_aload_n (pc := 70) dX12_answer_70 rfl ?_
            refine m_getA (pc := 71) 44 34 (by decide) rfl rfl lkX12_114 dX12_answer_71 ?_
            refine o_iload (pc := 74) dX12_answer_74 rfl ?_
            obtain ⟨hk14, hr12⟩ := ck_elim hr12
            refine m_lald (pc := 76) (by decide) rfl hk14 dX12_answer_76 ?_
            obtain rfl := Option.some.inj hr12
            refine o_keep [true, true, false, true, true, true, false, false] ?_
            exact K13
          · have hr12 := it_t hr12 hc
            refine o_iload (pc := 64) dX12_answer_64 rfl ?_
            refine o_i2l (pc := 66) dX12_answer_66 ?_
            refine o_goto (pc := 67) 77 dX12_answer_67 rfl ?_
            obtain rfl := Option.some.inj hr12
            refine o_keep [true, true, false, true, true, true, false, false] ?_
            exact K13
        · have hr9 := it_f hr9 hc
          refine o_iload (pc := 84) dX12_answer_84 rfl ?_
          refine o_bipush (pc := 86) (v := 9) dX12_answer_86 rfl ?_
          refine o_icmp_ne (pc := 88) 114 dX12_answer_88 rfl (fun hc => ?_) (fun hc => ?_)
          · have hr9 := it_f hr9 hc
            refine o_iinc (pc := 114) dX12_answer_114 rfl (by decide) rfl ?_
            show Rn g mdX12_answer 117 [some (.ref 0), some (.int a1), none, some (.int a3), some (.int (x4 + (-1))), some (.int x5), some (.int v2), some (.int v4)] [] (mW s) 0 0 r h2
            obtain ⟨v18, ev18, hr9⟩ := lt_elim hr9
            rw [ev18]
            show Rn g mdX12_answer 117 [some (.ref 0), some (.int a1), none, some (.int a3), some (.int v18), some (.int x5), some (.int v2), some (.int v4)] [] (mW s) 0 0 r h2
            refine o_aload_n (pc := 117) dX12_answer_117 rfl ?_
            refine m_getA (pc := 118) 45 35 (by decide) rfl rfl lkX12_118 dX12_answer_118 ?_
            refine o_iload (pc := 121) dX12_answer_121 rfl ?_
            refine o_iconst (pc := 123) (v := 1) dX12_answer_123 rfl ?_
            refine o_isub (pc := 124) dX12_answer_124 ?_
            refine o_iload (pc := 125) dX12_answer_125 rfl ?_
            refine o_aload_n (pc := 127) dX12_answer_127 rfl ?_
            refine m_getA (pc := 128) 45 35 (by decide) rfl rfl lkX12_118 dX12_answer_128 ?_
            refine o_iload (pc := 131) dX12_answer_131 rfl ?_
            refine o_iconst (pc := 133) (v := 1) dX12_answer_133 rfl ?_
            refine o_isub (pc := 134) dX12_answer_134 ?_
            obtain ⟨hk19, hr9⟩ := ck_elim hr9
            refine m_lald (pc := 135) (by decide) rfl hk19 dX12_answer_135 ?_
            refine o_aload_n (pc := 136) dX12_answer_136 rfl ?_
            refine m_getA (pc := 137) 45 35 (by decide) rfl rfl lkX12_118 dX12_answer_137 ?_
            refine o_iload (pc := 140) dX12_answer_140 rfl ?_
            obtain ⟨hk20, hr9⟩ := ck_elim hr9
            refine m_lald (pc := 142) (by decide) rfl hk20 dX12_answer_142 ?_
            obtain ⟨q22, hk21, hr9⟩ := bd_elim hr9
            refine m_callS (pc := 143) [.int v2, .long (gl s 35 (ix (v18 - 1))), .long (gl s 35 (ix v18))] dX12_answer_143 (kX12_both hk21) stX12_395 ⟨by decide, by decide, by decide, by decide⟩ ⟨rfl, rfl⟩ (Nat.le_of_ble_eq_true rfl) ?_
            show Rn g mdX12_answer 146 [some (.ref 0), some (.int a1), none, some (.int a3), some (.int v18), some (.int x5), some (.int v2), some (.int v4)] [.long q22, .int (v18 - 1), .ref 35] (mW s) 0 0 r h2
            obtain ⟨hk23, hr9⟩ := ck_elim hr9
            refine m_last (pc := 146) (by decide) rfl hk23 dX12_answer_146 ?_
            refine lz_s (mW) hr9 (fun s24 hr9 => ?_)
            show Rn g mdX12_answer 147 [some (.ref 0), some (.int a1), none, some (.int a3), some (.int v18), some (.int x5), some (.int v2), some (.int v4)] [] (mW s24) 0 0 r h2
            obtain rfl := Option.some.inj hr9
            refine o_keep [true, true, false, true, true, true, false, false] ?_
            exact K10
          · have hr9 := it_t hr9 hc
            refine o_aload_n (pc := 91) dX12_answer_91 rfl ?_
            refine m_getA (pc := 92) 45 35 (by decide) rfl rfl lkX12_118 dX12_answer_92 ?_
            refine o_iload (pc := 95) dX12_answer_95 rfl ?_
            refine o_iconst (pc := 97) (v := 1) dX12_answer_97 rfl ?_
            refine o_isub (pc := 98) dX12_answer_98 ?_
            refine o_lconst (pc := 99) (v := 1) dX12_answer_99 rfl ?_
            refine o_aload_n (pc := 100) dX12_answer_100 rfl ?_
            refine m_getA (pc := 101) 45 35 (by decide) rfl rfl lkX12_118 dX12_answer_101 ?_
            refine o_iload (pc := 104) dX12_answer_104 rfl ?_
            refine o_iconst (pc := 106) (v := 1) dX12_answer_106 rfl ?_
            refine o_isub (pc := 107) dX12_answer_107 ?_
            obtain ⟨hk25, hr9⟩ := ck_elim hr9
            refine m_lald (pc := 108) (by decide) rfl hk25 dX12_answer_108 ?_
            refine o_lsub (pc := 109) dX12_answer_109 ?_
            obtain ⟨hk26, hr9⟩ := ck_elim hr9
            refine m_last (pc := 110) (by decide) rfl hk26 dX12_answer_110 ?_
            refine lz_s (mW) hr9 (fun s27 hr9 => ?_)
            show Rn g mdX12_answer 111 [some (.ref 0), some (.int a1), none, some (.int a3), some (.int x4), some (.int x5), some (.int v2), some (.int v4)] [] (mW s27) 0 0 r h2
            refine o_goto (pc := 111) 147 dX12_answer_111 rfl ?_
            obtain rfl := Option.some.inj hr9
            refine o_keep [true, true, false, true, true, true, false, false] ?_
            exact K10
      clear hr9
      refine o_if_eq (pc := 44) 53 dX12_answer_44 rfl (fun hc => ?_) (fun hc => ?_)
      · have hr6 := it_t hr6 hc
        obtain rfl := Option.some.inj hr6
        exact KB7.1 rfl
      · have hr6 := it_f hr6 hc
        refine o_iload (pc := 47) dX12_answer_47 rfl ?_
        refine o_iconst (pc := 49) (v := 1) dX12_answer_49 rfl ?_
        refine o_icmp_ne (pc := 50) 84 dX12_answer_50 rfl (fun hc => ?_) (fun hc => ?_)
        · have hr6 := it_f hr6 hc
          obtain rfl := Option.some.inj hr6
          exact KB7.2 (by decide)
        · have hr6 := it_t hr6 hc
          obtain rfl := Option.some.inj hr6
          exact KB7.1 rfl
set_option maxRecDepth 20000 in
theorem kX12_answer {g : GX} {p0 : Int32} {p1 : Int32} {p2 : Int32} {s : ST} {q : Int64 × ST} (hf : fX12_answer p0 p1 p2 s = some q) : Cn g mdX12_answer [.ref 0, .int p0, .int p1, .int p2] (mW s) (some (.long q.1)) (mW q.2) := by
  refine Cn.of (by decide) (Nat.le_of_ble_eq_true rfl) ?_
  show Rn g mdX12_answer 0 [some (.ref 0), some (.int p0), some (.int p1), some (.int p2), none, none, none, none] [] (mW s) 0 0 (some (.long q.1)) (mW q.2)
  unfold fX12_answer at hf
  refine o_iconst (pc := 0) (v := 0) dX12_answer_0 rfl ?_
  refine o_istore (pc := 1) dX12_answer_1 (by decide) rfl ?_
  show Rn g mdX12_answer 3 [some (.ref 0), some (.int p0), some (.int p1), some (.int p2), some (.int 0), none, none, none] [] (mW s) 0 0 (some (.long q.1)) (mW q.2)
  refine o_iload_n (pc := 3) dX12_answer_3 rfl ?_
  refine o_istore (pc := 4) dX12_answer_4 (by decide) rfl ?_
  show Rn g mdX12_answer 6 [some (.ref 0), some (.int p0), some (.int p1), some (.int p2), some (.int 0), some (.int p1), none, none] [] (mW s) 0 0 (some (.long q.1)) (mW q.2)
  obtain ⟨w29, hl30, hf⟩ := bd_elim hf
  have K31 : Rn g mdX12_answer 153 [some (.ref 0), none, none, none, none, none, none, none] [] (mW w29.2.2) 0 0 (some (.long q.1)) (mW q.2) := by
    refine o_aload_n (pc := 153) dX12_answer_153 rfl ?_
    refine m_getA (pc := 154) 45 35 (by decide) rfl rfl lkX12_118 dX12_answer_154 ?_
    refine o_iconst (pc := 157) (v := 0) dX12_answer_157 rfl ?_
    obtain ⟨hk32, hf⟩ := ck_elim hf
    refine m_lald (pc := 158) (by decide) rfl hk32 dX12_answer_158 ?_
    obtain rfl := Option.some.inj hf
    exact o_lreturn (pc := 159) dX12_answer_159 rfl (Nat.zero_le _) (Nat.zero_le _)
  refine o_keep [true, true, false, true, true, true, false, false] ?_
  exact kX12_answer_L6 _ _ _ _ _ _ hl30 K31
def fX12_meant_L13 (a1 : Int32) : Nat → Int32 → ST → Option (Int64 × ST)
  | 0, _, _ => none
  | n + 1, x2, s => ck (inb a1 6) (if ((12 * a1) + (gi s 29 (ix a1))) ≤ x2 then some (0, s) else ck (inb x2 72) (ck (inb x2 72) (if (gi s 31 (ix x2)) = (gi s 32 (ix x2)) then ck (inb x2 72) (ck (inb x2 72) ((fX12_answer a1 (gi s 30 (ix x2)) (gi s 31 (ix x2)) s).bind (fun q10 => some (q10.1, q10.2)))) else ck (inb x2 72) (ck (inb x2 72) ((fX12_answer a1 (gi s 31 (ix x2)) (gi s 32 (ix x2)) s).bind (fun q14 => if (lg_cmp q14.1 1) = 0 then ck (inb x2 72) (ck (inb x2 72) ((fX12_answer a1 (gi q14.2 30 (ix x2)) (gi q14.2 31 (ix x2)) q14.2).bind (fun q19 => some (q19.1, q19.2)))) else lt (x2 + 1) (fun v15 => fX12_meant_L13 a1 n v15 q14.2)))))))
def fX12_meant (s : ST) : Option (Int64 × ST) :=
  ck (inb 12 13) (lt (gi s 1 (ix 12) : Int32) (fun v2 => lt (12 * v2 : Int32) (fun v3 => fX12_meant_L13 v2 FUEL v3 s)))
set_option maxRecDepth 20000 in
theorem kX12_meant_L13 {g : GX} (a1 : Int32) : ∀ (n : Nat) (x2 : Int32) (s : ST) {q : Int64 × ST}, fX12_meant_L13 a1 n x2 s = some q → Rn g mdX12_meant 13 [some (.ref 0), some (.int a1), some (.int x2)] [] (mW s) 0 0 (some (.long q.1)) (mW q.2) := by
  intro n
  induction n with
  | zero => intro x2 s q hf; cases hf
  | succ n ih =>
    intro x2 s q hf
    rw [fX12_meant_L13] at hf
    refine o_iload_n (pc := 13) dX12_meant_13 rfl ?_
    refine o_bipush (pc := 14) (v := 12) dX12_meant_14 rfl ?_
    refine o_iload_n (pc := 16) dX12_meant_16 rfl ?_
    refine o_imul (pc := 17) dX12_meant_17 ?_
    refine o_aload_n (pc := 18) dX12_meant_18 rfl ?_
    refine m_getA (pc := 19) 39 29 (by decide) rfl rfl lkX12_99 dX12_meant_19 ?_
    refine o_iload_n (pc := 22) dX12_meant_22 rfl ?_
    obtain ⟨hk4, hf⟩ := ck_elim hf
    refine m_iald (pc := 23) (by decide) rfl hk4 dX12_meant_23 ?_
    refine o_iadd (pc := 24) dX12_meant_24 ?_
    refine o_icmp_ge (pc := 25) 89 dX12_meant_25 rfl (fun hc => ?_) (fun hc => ?_)
    · have hf := it_t hf hc
      refine o_lconst (pc := 89) (v := 0) dX12_meant_89 rfl ?_
      obtain rfl := Option.some.inj hf
      exact o_lreturn (pc := 90) dX12_meant_90 rfl (Nat.zero_le _) (Nat.zero_le _)
    · have hf := it_f hf hc
      refine o_aload_n (pc := 28) dX12_meant_28 rfl ?_
      refine m_getA (pc := 29) 41 31 (by decide) rfl rfl lkX12_105 dX12_meant_29 ?_
      refine o_iload_n (pc := 32) dX12_meant_32 rfl ?_
      obtain ⟨hk5, hf⟩ := ck_elim hf
      refine m_iald (pc := 33) (by decide) rfl hk5 dX12_meant_33 ?_
      refine o_aload_n (pc := 34) dX12_meant_34 rfl ?_
      refine m_getA (pc := 35) 42 32 (by decide) rfl rfl lkX12_108 dX12_meant_35 ?_
      refine o_iload_n (pc := 38) dX12_meant_38 rfl ?_
      obtain ⟨hk6, hf⟩ := ck_elim hf
      refine m_iald (pc := 39) (by decide) rfl hk6 dX12_meant_39 ?_
      refine o_icmp_eq (pc := 40) 65 dX12_meant_40 rfl (fun hc => ?_) (fun hc => ?_)
      · have hf := it_t hf hc
        refine o_aload_n (pc := 65) dX12_meant_65 rfl ?_
        refine o_iload_n (pc := 66) dX12_meant_66 rfl ?_
        refine o_aload_n (pc := 67) dX12_meant_67 rfl ?_
        refine m_getA (pc := 68) 40 30 (by decide) rfl rfl lkX12_102 dX12_meant_68 ?_
        refine o_iload_n (pc := 71) dX12_meant_71 rfl ?_
        obtain ⟨hk7, hf⟩ := ck_elim hf
        refine m_iald (pc := 72) (by decide) rfl hk7 dX12_meant_72 ?_
        refine o_aload_n (pc := 73) dX12_meant_73 rfl ?_
        refine m_getA (pc := 74) 41 31 (by decide) rfl rfl lkX12_105 dX12_meant_74 ?_
        refine o_iload_n (pc := 77) dX12_meant_77 rfl ?_
        obtain ⟨hk8, hf⟩ := ck_elim hf
        refine m_iald (pc := 78) (by decide) rfl hk8 dX12_meant_78 ?_
        obtain ⟨q10, hk9, hf⟩ := bd_elim hf
        refine m_callV (pc := 79) [.int a1, .int (gi s 30 (ix x2)), .int (gi s 31 (ix x2))] dX12_meant_79 (kX12_answer hk9) stX12_387 ⟨by decide, by decide, by decide, by decide⟩ ⟨rfl, rfl⟩ (Nat.le_of_ble_eq_true rfl) ?_
        show Rn g mdX12_meant 82 [some (.ref 0), some (.int a1), some (.int x2)] [.long q10.1] (mW q10.2) 0 0 (some (.long q.1)) (mW q.2)
        obtain rfl := Option.some.inj hf
        exact o_lreturn (pc := 82) dX12_meant_82 rfl (Nat.zero_le _) (Nat.zero_le _)
      · have hf := it_f hf hc
        refine o_aload_n (pc := 43) dX12_meant_43 rfl ?_
        refine o_iload_n (pc := 44) dX12_meant_44 rfl ?_
        refine o_aload_n (pc := 45) dX12_meant_45 rfl ?_
        refine m_getA (pc := 46) 41 31 (by decide) rfl rfl lkX12_105 dX12_meant_46 ?_
        refine o_iload_n (pc := 49) dX12_meant_49 rfl ?_
        obtain ⟨hk11, hf⟩ := ck_elim hf
        refine m_iald (pc := 50) (by decide) rfl hk11 dX12_meant_50 ?_
        refine o_aload_n (pc := 51) dX12_meant_51 rfl ?_
        refine m_getA (pc := 52) 42 32 (by decide) rfl rfl lkX12_108 dX12_meant_52 ?_
        refine o_iload_n (pc := 55) dX12_meant_55 rfl ?_
        obtain ⟨hk12, hf⟩ := ck_elim hf
        refine m_iald (pc := 56) (by decide) rfl hk12 dX12_meant_56 ?_
        obtain ⟨q14, hk13, hf⟩ := bd_elim hf
        refine m_callV (pc := 57) [.int a1, .int (gi s 31 (ix x2)), .int (gi s 32 (ix x2))] dX12_meant_57 (kX12_answer hk13) stX12_387 ⟨by decide, by decide, by decide, by decide⟩ ⟨rfl, rfl⟩ (Nat.le_of_ble_eq_true rfl) ?_
        show Rn g mdX12_meant 60 [some (.ref 0), some (.int a1), some (.int x2)] [.long q14.1] (mW q14.2) 0 0 (some (.long q.1)) (mW q.2)
        refine o_lconst (pc := 60) (v := 1) dX12_meant_60 rfl ?_
        refine o_lcmp (pc := 61) dX12_meant_61 ?_
        refine o_if_ne (pc := 62) 83 dX12_meant_62 rfl (fun hc => ?_) (fun hc => ?_)
        · have hf := it_f hf hc
          refine o_iinc (pc := 83) dX12_meant_83 rfl (by decide) rfl ?_
          show Rn g mdX12_meant 86 [some (.ref 0), some (.int a1), some (.int (x2 + 1))] [] (mW q14.2) 0 0 (some (.long q.1)) (mW q.2)
          obtain ⟨v15, ev15, hf⟩ := lt_elim hf
          rw [ev15]
          show Rn g mdX12_meant 86 [some (.ref 0), some (.int a1), some (.int v15)] [] (mW q14.2) 0 0 (some (.long q.1)) (mW q.2)
          refine o_goto (pc := 86) 13 dX12_meant_86 rfl ?_
          exact ih _ _ hf
        · have hf := it_t hf hc
          refine o_aload_n (pc := 65) dX12_meant_65 rfl ?_
          refine o_iload_n (pc := 66) dX12_meant_66 rfl ?_
          refine o_aload_n (pc := 67) dX12_meant_67 rfl ?_
          refine m_getA (pc := 68) 40 30 (by decide) rfl rfl lkX12_102 dX12_meant_68 ?_
          refine o_iload_n (pc := 71) dX12_meant_71 rfl ?_
          obtain ⟨hk16, hf⟩ := ck_elim hf
          refine m_iald (pc := 72) (by decide) rfl hk16 dX12_meant_72 ?_
          refine o_aload_n (pc := 73) dX12_meant_73 rfl ?_
          refine m_getA (pc := 74) 41 31 (by decide) rfl rfl lkX12_105 dX12_meant_74 ?_
          refine o_iload_n (pc := 77) dX12_meant_77 rfl ?_
          obtain ⟨hk17, hf⟩ := ck_elim hf
          refine m_iald (pc := 78) (by decide) rfl hk17 dX12_meant_78 ?_
          obtain ⟨q19, hk18, hf⟩ := bd_elim hf
          refine m_callV (pc := 79) [.int a1, .int (gi q14.2 30 (ix x2)), .int (gi q14.2 31 (ix x2))] dX12_meant_79 (kX12_answer hk18) stX12_387 ⟨by decide, by decide, by decide, by decide⟩ ⟨rfl, rfl⟩ (Nat.le_of_ble_eq_true rfl) ?_
          show Rn g mdX12_meant 82 [some (.ref 0), some (.int a1), some (.int x2)] [.long q19.1] (mW q19.2) 0 0 (some (.long q.1)) (mW q.2)
          obtain rfl := Option.some.inj hf
          exact o_lreturn (pc := 82) dX12_meant_82 rfl (Nat.zero_le _) (Nat.zero_le _)
set_option maxRecDepth 20000 in
theorem kX12_meant {g : GX} {s : ST} {q : Int64 × ST} (hf : fX12_meant s = some q) : Cn g mdX12_meant [.ref 0] (mW s) (some (.long q.1)) (mW q.2) := by
  refine Cn.of (by decide) (Nat.le_of_ble_eq_true rfl) ?_
  show Rn g mdX12_meant 0 [some (.ref 0), none, none] [] (mW s) 0 0 (some (.long q.1)) (mW q.2)
  unfold fX12_meant at hf
  refine o_aload_n (pc := 0) dX12_meant_0 rfl ?_
  refine m_getA (pc := 1) 1 1 (by decide) rfl rfl lkX12_9 dX12_meant_1 ?_
  refine o_bipush (pc := 4) (v := 12) dX12_meant_4 rfl ?_
  obtain ⟨hk1, hf⟩ := ck_elim hf
  refine m_iald (pc := 6) (by decide) rfl hk1 dX12_meant_6 ?_
  refine lz_i hf (fun v2 hf => ?_)
  refine o_istore_n (pc := 7) dX12_meant_7 (by decide) rfl ?_
  show Rn g mdX12_meant 8 [some (.ref 0), some (.int v2), none] [] (mW s) 0 0 (some (.long q.1)) (mW q.2)
  refine o_bipush (pc := 8) (v := 12) dX12_meant_8 rfl ?_
  refine o_iload_n (pc := 10) dX12_meant_10 rfl ?_
  refine o_imul (pc := 11) dX12_meant_11 ?_
  refine lz_i hf (fun v3 hf => ?_)
  refine o_istore_n (pc := 12) dX12_meant_12 (by decide) rfl ?_
  show Rn g mdX12_meant 13 [some (.ref 0), some (.int v2), some (.int v3)] [] (mW s) 0 0 (some (.long q.1)) (mW q.2)
  exact kX12_meant_L13 _ _ _ _ hf
def fX12_laysOrder_L14 (a1 : Int32) : Nat → Int32 → ST → Option (Int32 × ST)
  | 0, _, _ => none
  | n + 1, x2, s => (if x2 ≤ 0 then some false else ck (inb (x2 - 1) 8) (ck (inb (gi s 36 (ix (x2 - 1))) 8) (ck (inb a1 8) (if (gi s 9 (ix (gi s 36 (ix (x2 - 1))))) ≤ (gi s 9 (ix a1)) then some false else some true))) : Option Bool).bind (fun b2 => if b2 = true then ck (inb (x2 - 1) 8) (ck (inb x2 8) (lt (si s 36 (ix x2) (gi s 36 (ix (x2 - 1)))) (fun s10 => lt (x2 + (-1)) (fun v11 => fX12_laysOrder_L14 a1 n v11 s10)))) else some (x2, s))
def fX12_laysOrder_L2 : Nat → Int32 → ST → Option (Int32 × ST)
  | 0, _, _ => none
  | n + 1, x1, s => ck (inb 4 13) (if (gi s 1 (ix 4)) ≤ x1 then some (x1, s) else (fX12_laysOrder_L14 x1 FUEL x1 s).bind (fun w12 => ck (inb w12.1 8) (lt (si w12.2 36 (ix w12.1) x1) (fun s16 => lt (x1 + 1) (fun v17 => fX12_laysOrder_L2 n v17 s16)))))
def fX12_laysOrder (s : ST) : Option (ST) :=
  (fX12_laysOrder_L2 FUEL 0 s).bind (fun w18 => some w18.2)
set_option maxRecDepth 20000 in
theorem kX12_laysOrder_L14 {g : GX} (a1 : Int32) {r : Option Value} {h2 : PH} : ∀ (n : Nat) (x2 : Int32) (s : ST) {w : Int32 × ST}, fX12_laysOrder_L14 a1 n x2 s = some w → Rn g mdX12_laysOrder 60 [some (.ref 0), some (.int a1), some (.int w.1)] [] (mW w.2) 0 0 r h2 → Rn g mdX12_laysOrder 14 [some (.ref 0), some (.int a1), some (.int x2)] [] (mW s) 0 0 r h2 := by
  intro n
  induction n with
  | zero => intro x2 s w hf K; cases hf
  | succ n ih =>
    intro x2 s w hf K
    rw [fX12_laysOrder_L14] at hf
    refine o_iload_n (pc := 14) dX12_laysOrder_14 rfl ?_
    obtain ⟨b2, hr3, hf⟩ := bd_elim hf
    have KB4 : (b2 = true → Rn g mdX12_laysOrder 40 [some (.ref 0), some (.int a1), some (.int x2)] [] (mW s) 0 0 r h2) ∧ (¬ b2 = true → Rn g mdX12_laysOrder 60 [some (.ref 0), some (.int a1), some (.int x2)] [] (mW s) 0 0 r h2) := by
      refine ⟨fun hc => ?_, fun hc => ?_⟩
      · have hf := it_t hf hc
        refine o_aload_n (pc := 40) dX12_laysOrder_40 rfl ?_
        refine m_getA (pc := 41) 46 36 (by decide) rfl rfl lkX12_121 dX12_laysOrder_41 ?_
        refine o_iload_n (pc := 44) dX12_laysOrder_44 rfl ?_
        refine o_aload_n (pc := 45) dX12_laysOrder_45 rfl ?_
        refine m_getA (pc := 46) 46 36 (by decide) rfl rfl lkX12_121 dX12_laysOrder_46 ?_
        refine o_iload_n (pc := 49) dX12_laysOrder_49 rfl ?_
        refine o_iconst (pc := 50) (v := 1) dX12_laysOrder_50 rfl ?_
        refine o_isub (pc := 51) dX12_laysOrder_51 ?_
        obtain ⟨hk8, hf⟩ := ck_elim hf
        refine m_iald (pc := 52) (by decide) rfl hk8 dX12_laysOrder_52 ?_
        obtain ⟨hk9, hf⟩ := ck_elim hf
        refine m_iast (pc := 53) (by decide) rfl hk9 dX12_laysOrder_53 ?_
        refine lz_s (mW) hf (fun s10 hf => ?_)
        show Rn g mdX12_laysOrder 54 [some (.ref 0), some (.int a1), some (.int x2)] [] (mW s10) 0 0 r h2
        refine o_iinc (pc := 54) dX12_laysOrder_54 rfl (by decide) rfl ?_
        show Rn g mdX12_laysOrder 57 [some (.ref 0), some (.int a1), some (.int (x2 + (-1)))] [] (mW s10) 0 0 r h2
        obtain ⟨v11, ev11, hf⟩ := lt_elim hf
        rw [ev11]
        show Rn g mdX12_laysOrder 57 [some (.ref 0), some (.int a1), some (.int v11)] [] (mW s10) 0 0 r h2
        refine o_goto (pc := 57) 14 dX12_laysOrder_57 rfl ?_
        exact ih _ _ hf K
      · have hf := it_f hf hc
        obtain rfl := Option.some.inj hf
        exact K
    clear hf
    refine o_if_le (pc := 15) 60 dX12_laysOrder_15 rfl (fun hc => ?_) (fun hc => ?_)
    · have hr3 := it_t hr3 hc
      obtain rfl := Option.some.inj hr3
      exact KB4.2 (by decide)
    · have hr3 := it_f hr3 hc
      refine o_aload_n (pc := 18) dX12_laysOrder_18 rfl ?_
      refine m_getA (pc := 19) 9 9 (by decide) rfl rfl lkX12_34 dX12_laysOrder_19 ?_
      refine o_aload_n (pc := 22) dX12_laysOrder_22 rfl ?_
      refine m_getA (pc := 23) 46 36 (by decide) rfl rfl lkX12_121 dX12_laysOrder_23 ?_
      refine o_iload_n (pc := 26) dX12_laysOrder_26 rfl ?_
      refine o_iconst (pc := 27) (v := 1) dX12_laysOrder_27 rfl ?_
      refine o_isub (pc := 28) dX12_laysOrder_28 ?_
      obtain ⟨hk5, hr3⟩ := ck_elim hr3
      refine m_iald (pc := 29) (by decide) rfl hk5 dX12_laysOrder_29 ?_
      obtain ⟨hk6, hr3⟩ := ck_elim hr3
      refine m_iald (pc := 30) (by decide) rfl hk6 dX12_laysOrder_30 ?_
      refine o_aload_n (pc := 31) dX12_laysOrder_31 rfl ?_
      refine m_getA (pc := 32) 9 9 (by decide) rfl rfl lkX12_34 dX12_laysOrder_32 ?_
      refine o_iload_n (pc := 35) dX12_laysOrder_35 rfl ?_
      obtain ⟨hk7, hr3⟩ := ck_elim hr3
      refine m_iald (pc := 36) (by decide) rfl hk7 dX12_laysOrder_36 ?_
      refine o_icmp_le (pc := 37) 60 dX12_laysOrder_37 rfl (fun hc => ?_) (fun hc => ?_)
      · have hr3 := it_t hr3 hc
        obtain rfl := Option.some.inj hr3
        exact KB4.2 (by decide)
      · have hr3 := it_f hr3 hc
        obtain rfl := Option.some.inj hr3
        exact KB4.1 rfl
set_option maxRecDepth 20000 in
theorem kX12_laysOrder_L2 {g : GX} {r : Option Value} {h2 : PH} : ∀ (n : Nat) (x1 : Int32) (s : ST) {w : Int32 × ST}, fX12_laysOrder_L2 n x1 s = some w → Rn g mdX12_laysOrder 73 [none, none, none] [] (mW w.2) 0 0 r h2 → Rn g mdX12_laysOrder 2 [some (.ref 0), some (.int x1), none] [] (mW s) 0 0 r h2 := by
  intro n
  induction n with
  | zero => intro x1 s w hf K; cases hf
  | succ n ih =>
    intro x1 s w hf K
    rw [fX12_laysOrder_L2] at hf
    refine o_iload_n (pc := 2) dX12_laysOrder_2 rfl ?_
    refine o_aload_n (pc := 3) dX12_laysOrder_3 rfl ?_
    refine m_getA (pc := 4) 1 1 (by decide) rfl rfl lkX12_9 dX12_laysOrder_4 ?_
    refine o_iconst (pc := 7) (v := 4) dX12_laysOrder_7 rfl ?_
    obtain ⟨hk1, hf⟩ := ck_elim hf
    refine m_iald (pc := 8) (by decide) rfl hk1 dX12_laysOrder_8 ?_
    refine o_icmp_ge (pc := 9) 73 dX12_laysOrder_9 rfl (fun hc => ?_) (fun hc => ?_)
    · have hf := it_t hf hc
      obtain rfl := Option.some.inj hf
      refine o_keep [false, false, false] ?_
      exact K
    · have hf := it_f hf hc
      refine o_iload_n (pc := 12) dX12_laysOrder_12 rfl ?_
      refine o_istore_n (pc := 13) dX12_laysOrder_13 (by decide) rfl ?_
      show Rn g mdX12_laysOrder 14 [some (.ref 0), some (.int x1), some (.int x1)] [] (mW s) 0 0 r h2
      obtain ⟨w12, hl13, hf⟩ := bd_elim hf
      have K14 : Rn g mdX12_laysOrder 60 [some (.ref 0), some (.int x1), some (.int w12.1)] [] (mW w12.2) 0 0 r h2 := by
        refine o_aload_n (pc := 60) dX12_laysOrder_60 rfl ?_
        refine m_getA (pc := 61) 46 36 (by decide) rfl rfl lkX12_121 dX12_laysOrder_61 ?_
        refine o_iload_n (pc := 64) dX12_laysOrder_64 rfl ?_
        refine o_iload_n (pc := 65) dX12_laysOrder_65 rfl ?_
        obtain ⟨hk15, hf⟩ := ck_elim hf
        refine m_iast (pc := 66) (by decide) rfl hk15 dX12_laysOrder_66 ?_
        refine lz_s (mW) hf (fun s16 hf => ?_)
        show Rn g mdX12_laysOrder 67 [some (.ref 0), some (.int x1), some (.int w12.1)] [] (mW s16) 0 0 r h2
        refine o_iinc (pc := 67) dX12_laysOrder_67 rfl (by decide) rfl ?_
        show Rn g mdX12_laysOrder 70 [some (.ref 0), some (.int (x1 + 1)), some (.int w12.1)] [] (mW s16) 0 0 r h2
        obtain ⟨v17, ev17, hf⟩ := lt_elim hf
        rw [ev17]
        show Rn g mdX12_laysOrder 70 [some (.ref 0), some (.int v17), some (.int w12.1)] [] (mW s16) 0 0 r h2
        refine o_goto (pc := 70) 2 dX12_laysOrder_70 rfl ?_
        refine o_keep [true, true, false] ?_
        exact ih _ _ hf K
      exact kX12_laysOrder_L14 _ _ _ _ hl13 K14
set_option maxRecDepth 20000 in
theorem kX12_laysOrder {g : GX} {s : ST} {q : ST} (hf : fX12_laysOrder s = some q) : Cn g mdX12_laysOrder [.ref 0] (mW s) none (mW q) := by
  refine Cn.of (by decide) (Nat.le_of_ble_eq_true rfl) ?_
  show Rn g mdX12_laysOrder 0 [some (.ref 0), none, none] [] (mW s) 0 0 none (mW q)
  unfold fX12_laysOrder at hf
  refine o_iconst (pc := 0) (v := 0) dX12_laysOrder_0 rfl ?_
  refine o_istore_n (pc := 1) dX12_laysOrder_1 (by decide) rfl ?_
  show Rn g mdX12_laysOrder 2 [some (.ref 0), some (.int 0), none] [] (mW s) 0 0 none (mW q)
  obtain ⟨w18, hl19, hf⟩ := bd_elim hf
  have K20 : Rn g mdX12_laysOrder 73 [none, none, none] [] (mW w18.2) 0 0 none (mW q) := by
    obtain rfl := Option.some.inj hf
    exact o_return (pc := 73) dX12_laysOrder_73 rfl (Nat.zero_le _) (Nat.zero_le _)
  exact kX12_laysOrder_L2 _ _ _ hl19 K20
def fX12_meansOf (p0 : Int32) (p1 : Int32) (s : ST) : Option (Int32 × ST) :=
  ck (inb 12 13) (if (gi s 1 (ix 12)) = (-1) then ck (inb p0 5) ((fX12_held ((gi s 2 (ix p0)).toInt64) (-30) 120 s).bind (fun q58 => some (q58, s))) else ck (inb p1 8) ((if (gi s 7 (ix p1)) = p0 then ck (inb p1 8) (some (gi s 8 (ix p1))) else ck (inb p1 8) (some (gi s 7 (ix p1))) : Option (Int32)).bind (fun w3 => ck (inb 0 14) (lt (sl s 34 (ix 0) p0.toInt64) (fun s9 => ck (inb 1 14) (lt (sl s9 34 (ix 1) p1.toInt64) (fun s11 => ck (inb p1 8) (ck (inb 2 14) (lt (sl s11 34 (ix 2) ((gi s11 9 (ix p1)).toInt64)) (fun s14 => ck (inb p0 5) (ck (inb 3 14) (lt (sl s14 34 (ix 3) ((gi s14 2 (ix p0)).toInt64)) (fun s17 => ck (inb 0 13) (ck (inb 4 14) (lt (sl s17 34 (ix 4) ((gi s17 1 (ix 0)).toInt64)) (fun s20 => ck (inb 1 13) (ck (inb 5 14) (lt (sl s20 34 (ix 5) ((gi s20 1 (ix 1)).toInt64)) (fun s23 => ck (inb 6 14) (lt (sl s23 34 (ix 6) w3.toInt64) (fun s25 => ck (inb w3 5) (ck (inb 7 14) (lt (sl s25 34 (ix 7) ((gi s25 4 (ix w3)).toInt64)) (fun s28 => ck (inb p0 5) (ck (inb 8 14) (lt (sl s28 34 (ix 8) ((gi s28 4 (ix p0)).toInt64)) (fun s31 => ck (inb p0 5) (ck (inb 9 14) (lt (sl s31 34 (ix 9) ((gi s31 5 (ix p0)).toInt64)) (fun s34 => ck (inb p0 5) (ck (inb 10 14) (lt (sl s34 34 (ix 10) ((gi s34 6 (ix p0)).toInt64)) (fun s37 => ck (inb 9 13) (ck (inb 11 14) (lt (sl s37 34 (ix 11) ((gi s37 1 (ix 9)).toInt64)) (fun s40 => ck (inb p0 5) (ck (inb 12 14) (lt (sl s40 34 (ix 12) ((gi s40 3 (ix p0)).toInt64)) (fun s43 => ck (inb 8 13) ((fX12_has (gi s43 1 (ix 8)) p0 s43).bind (fun q46 => (if q46 = 0 then some 0 else some 1 : Option (Int64)).bind (fun w47 => ck (inb 13 14) (lt (sl s43 34 (ix 13) w47) (fun s51 => (fX12_meant s51).bind (fun q53 => (fX12_held q53.1 (-30) 120 q53.2).bind (fun q55 => some (q55, q53.2)))))))))))))))))))))))))))))))))))))))))))))))
set_option maxRecDepth 20000 in
theorem kX12_meansOf {g : GX} {p0 : Int32} {p1 : Int32} {s : ST} {q : Int32 × ST} (hf : fX12_meansOf p0 p1 s = some q) : Cn g mdX12_meansOf [.ref 0, .int p0, .int p1] (mW s) (some (.int q.1)) (mW q.2) := by
  refine Cn.of (by decide) (Nat.le_of_ble_eq_true rfl) ?_
  show Rn g mdX12_meansOf 0 [some (.ref 0), some (.int p0), some (.int p1), none] [] (mW s) 0 0 (some (.int q.1)) (mW q.2)
  unfold fX12_meansOf at hf
  refine o_aload_n (pc := 0) dX12_meansOf_0 rfl ?_
  refine m_getA (pc := 1) 1 1 (by decide) rfl rfl lkX12_9 dX12_meansOf_1 ?_
  refine o_bipush (pc := 4) (v := 12) dX12_meansOf_4 rfl ?_
  obtain ⟨hk1, hf⟩ := ck_elim hf
  refine m_iald (pc := 6) (by decide) rfl hk1 dX12_meansOf_6 ?_
  refine o_iconst (pc := 7) (v := (-1)) dX12_meansOf_7 rfl ?_
  refine o_icmp_ne (pc := 8) 26 dX12_meansOf_8 rfl (fun hc => ?_) (fun hc => ?_)
  · have hf := it_f hf hc
    refine o_aload_n (pc := 26) dX12_meansOf_26 rfl ?_
    refine m_getA (pc := 27) 7 7 (by decide) rfl rfl lkX12_28 dX12_meansOf_27 ?_
    refine o_iload_n (pc := 30) dX12_meansOf_30 rfl ?_
    obtain ⟨hk2, hf⟩ := ck_elim hf
    refine m_iald (pc := 31) (by decide) rfl hk2 dX12_meansOf_31 ?_
    refine o_iload_n (pc := 32) dX12_meansOf_32 rfl ?_
    obtain ⟨w3, hr4, hf⟩ := bd_elim hf
    have K5 : Rn g mdX12_meansOf 51 [some (.ref 0), some (.int p0), some (.int p1), none] [.int w3] (mW s) 0 0 (some (.int q.1)) (mW q.2) := by
      refine o_istore_n (pc := 51) dX12_meansOf_51 (by decide) rfl ?_
      show Rn g mdX12_meansOf 52 [some (.ref 0), some (.int p0), some (.int p1), some (.int w3)] [] (mW s) 0 0 (some (.int q.1)) (mW q.2)
      refine o_aload_n (pc := 52) dX12_meansOf_52 rfl ?_
      refine m_getA (pc := 53) 44 34 (by decide) rfl rfl lkX12_114 dX12_meansOf_53 ?_
      refine o_iconst (pc := 56) (v := 0) dX12_meansOf_56 rfl ?_
      refine o_iload_n (pc := 57) dX12_meansOf_57 rfl ?_
      refine o_i2l (pc := 58) dX12_meansOf_58 ?_
      obtain ⟨hk8, hf⟩ := ck_elim hf
      refine m_last (pc := 59) (by decide) rfl hk8 dX12_meansOf_59 ?_
      refine lz_s (mW) hf (fun s9 hf => ?_)
      show Rn g mdX12_meansOf 60 [some (.ref 0), some (.int p0), some (.int p1), some (.int w3)] [] (mW s9) 0 0 (some (.int q.1)) (mW q.2)
      refine o_aload_n (pc := 60) dX12_meansOf_60 rfl ?_
      refine m_getA (pc := 61) 44 34 (by decide) rfl rfl lkX12_114 dX12_meansOf_61 ?_
      refine o_iconst (pc := 64) (v := 1) dX12_meansOf_64 rfl ?_
      refine o_iload_n (pc := 65) dX12_meansOf_65 rfl ?_
      refine o_i2l (pc := 66) dX12_meansOf_66 ?_
      obtain ⟨hk10, hf⟩ := ck_elim hf
      refine m_last (pc := 67) (by decide) rfl hk10 dX12_meansOf_67 ?_
      refine lz_s (mW) hf (fun s11 hf => ?_)
      show Rn g mdX12_meansOf 68 [some (.ref 0), some (.int p0), some (.int p1), some (.int w3)] [] (mW s11) 0 0 (some (.int q.1)) (mW q.2)
      refine o_aload_n (pc := 68) dX12_meansOf_68 rfl ?_
      refine m_getA (pc := 69) 44 34 (by decide) rfl rfl lkX12_114 dX12_meansOf_69 ?_
      refine o_iconst (pc := 72) (v := 2) dX12_meansOf_72 rfl ?_
      refine o_aload_n (pc := 73) dX12_meansOf_73 rfl ?_
      refine m_getA (pc := 74) 9 9 (by decide) rfl rfl lkX12_34 dX12_meansOf_74 ?_
      refine o_iload_n (pc := 77) dX12_meansOf_77 rfl ?_
      obtain ⟨hk12, hf⟩ := ck_elim hf
      refine m_iald (pc := 78) (by decide) rfl hk12 dX12_meansOf_78 ?_
      refine o_i2l (pc := 79) dX12_meansOf_79 ?_
      obtain ⟨hk13, hf⟩ := ck_elim hf
      refine m_last (pc := 80) (by decide) rfl hk13 dX12_meansOf_80 ?_
      refine lz_s (mW) hf (fun s14 hf => ?_)
      show Rn g mdX12_meansOf 81 [some (.ref 0), some (.int p0), some (.int p1), some (.int w3)] [] (mW s14) 0 0 (some (.int q.1)) (mW q.2)
      refine o_aload_n (pc := 81) dX12_meansOf_81 rfl ?_
      refine m_getA (pc := 82) 44 34 (by decide) rfl rfl lkX12_114 dX12_meansOf_82 ?_
      refine o_iconst (pc := 85) (v := 3) dX12_meansOf_85 rfl ?_
      refine o_aload_n (pc := 86) dX12_meansOf_86 rfl ?_
      refine m_getA (pc := 87) 2 2 (by decide) rfl rfl lkX12_13 dX12_meansOf_87 ?_
      refine o_iload_n (pc := 90) dX12_meansOf_90 rfl ?_
      obtain ⟨hk15, hf⟩ := ck_elim hf
      refine m_iald (pc := 91) (by decide) rfl hk15 dX12_meansOf_91 ?_
      refine o_i2l (pc := 92) dX12_meansOf_92 ?_
      obtain ⟨hk16, hf⟩ := ck_elim hf
      refine m_last (pc := 93) (by decide) rfl hk16 dX12_meansOf_93 ?_
      refine lz_s (mW) hf (fun s17 hf => ?_)
      show Rn g mdX12_meansOf 94 [some (.ref 0), some (.int p0), some (.int p1), some (.int w3)] [] (mW s17) 0 0 (some (.int q.1)) (mW q.2)
      refine o_aload_n (pc := 94) dX12_meansOf_94 rfl ?_
      refine m_getA (pc := 95) 44 34 (by decide) rfl rfl lkX12_114 dX12_meansOf_95 ?_
      refine o_iconst (pc := 98) (v := 4) dX12_meansOf_98 rfl ?_
      refine o_aload_n (pc := 99) dX12_meansOf_99 rfl ?_
      refine m_getA (pc := 100) 1 1 (by decide) rfl rfl lkX12_9 dX12_meansOf_100 ?_
      refine o_iconst (pc := 103) (v := 0) dX12_meansOf_103 rfl ?_
      obtain ⟨hk18, hf⟩ := ck_elim hf
      refine m_iald (pc := 104) (by decide) rfl hk18 dX12_meansOf_104 ?_
      refine o_i2l (pc := 105) dX12_meansOf_105 ?_
      obtain ⟨hk19, hf⟩ := ck_elim hf
      refine m_last (pc := 106) (by decide) rfl hk19 dX12_meansOf_106 ?_
      refine lz_s (mW) hf (fun s20 hf => ?_)
      show Rn g mdX12_meansOf 107 [some (.ref 0), some (.int p0), some (.int p1), some (.int w3)] [] (mW s20) 0 0 (some (.int q.1)) (mW q.2)
      refine o_aload_n (pc := 107) dX12_meansOf_107 rfl ?_
      refine m_getA (pc := 108) 44 34 (by decide) rfl rfl lkX12_114 dX12_meansOf_108 ?_
      refine o_iconst (pc := 111) (v := 5) dX12_meansOf_111 rfl ?_
      refine o_aload_n (pc := 112) dX12_meansOf_112 rfl ?_
      refine m_getA (pc := 113) 1 1 (by decide) rfl rfl lkX12_9 dX12_meansOf_113 ?_
      refine o_iconst (pc := 116) (v := 1) dX12_meansOf_116 rfl ?_
      obtain ⟨hk21, hf⟩ := ck_elim hf
      refine m_iald (pc := 117) (by decide) rfl hk21 dX12_meansOf_117 ?_
      refine o_i2l (pc := 118) dX12_meansOf_118 ?_
      obtain ⟨hk22, hf⟩ := ck_elim hf
      refine m_last (pc := 119) (by decide) rfl hk22 dX12_meansOf_119 ?_
      refine lz_s (mW) hf (fun s23 hf => ?_)
      show Rn g mdX12_meansOf 120 [some (.ref 0), some (.int p0), some (.int p1), some (.int w3)] [] (mW s23) 0 0 (some (.int q.1)) (mW q.2)
      refine o_aload_n (pc := 120) dX12_meansOf_120 rfl ?_
      refine m_getA (pc := 121) 44 34 (by decide) rfl rfl lkX12_114 dX12_meansOf_121 ?_
      refine o_bipush (pc := 124) (v := 6) dX12_meansOf_124 rfl ?_
      refine o_iload_n (pc := 126) dX12_meansOf_126 rfl ?_
      refine o_i2l (pc := 127) dX12_meansOf_127 ?_
      obtain ⟨hk24, hf⟩ := ck_elim hf
      refine m_last (pc := 128) (by decide) rfl hk24 dX12_meansOf_128 ?_
      refine lz_s (mW) hf (fun s25 hf => ?_)
      show Rn g mdX12_meansOf 129 [some (.ref 0), some (.int p0), some (.int p1), some (.int w3)] [] (mW s25) 0 0 (some (.int q.1)) (mW q.2)
      refine o_aload_n (pc := 129) dX12_meansOf_129 rfl ?_
      refine m_getA (pc := 130) 44 34 (by decide) rfl rfl lkX12_114 dX12_meansOf_130 ?_
      refine o_bipush (pc := 133) (v := 7) dX12_meansOf_133 rfl ?_
      refine o_aload_n (pc := 135) dX12_meansOf_135 rfl ?_
      refine m_getA (pc := 136) 4 4 (by decide) rfl rfl lkX12_19 dX12_meansOf_136 ?_
      refine o_iload_n (pc := 139) dX12_meansOf_139 rfl ?_
      obtain ⟨hk26, hf⟩ := ck_elim hf
      refine m_iald (pc := 140) (by decide) rfl hk26 dX12_meansOf_140 ?_
      refine o_i2l (pc := 141) dX12_meansOf_141 ?_
      obtain ⟨hk27, hf⟩ := ck_elim hf
      refine m_last (pc := 142) (by decide) rfl hk27 dX12_meansOf_142 ?_
      refine lz_s (mW) hf (fun s28 hf => ?_)
      show Rn g mdX12_meansOf 143 [some (.ref 0), some (.int p0), some (.int p1), some (.int w3)] [] (mW s28) 0 0 (some (.int q.1)) (mW q.2)
      refine o_aload_n (pc := 143) dX12_meansOf_143 rfl ?_
      refine m_getA (pc := 144) 44 34 (by decide) rfl rfl lkX12_114 dX12_meansOf_144 ?_
      refine o_bipush (pc := 147) (v := 8) dX12_meansOf_147 rfl ?_
      refine o_aload_n (pc := 149) dX12_meansOf_149 rfl ?_
      refine m_getA (pc := 150) 4 4 (by decide) rfl rfl lkX12_19 dX12_meansOf_150 ?_
      refine o_iload_n (pc := 153) dX12_meansOf_153 rfl ?_
      obtain ⟨hk29, hf⟩ := ck_elim hf
      refine m_iald (pc := 154) (by decide) rfl hk29 dX12_meansOf_154 ?_
      refine o_i2l (pc := 155) dX12_meansOf_155 ?_
      obtain ⟨hk30, hf⟩ := ck_elim hf
      refine m_last (pc := 156) (by decide) rfl hk30 dX12_meansOf_156 ?_
      refine lz_s (mW) hf (fun s31 hf => ?_)
      show Rn g mdX12_meansOf 157 [some (.ref 0), some (.int p0), some (.int p1), some (.int w3)] [] (mW s31) 0 0 (some (.int q.1)) (mW q.2)
      refine o_aload_n (pc := 157) dX12_meansOf_157 rfl ?_
      refine m_getA (pc := 158) 44 34 (by decide) rfl rfl lkX12_114 dX12_meansOf_158 ?_
      refine o_bipush (pc := 161) (v := 9) dX12_meansOf_161 rfl ?_
      refine o_aload_n (pc := 163) dX12_meansOf_163 rfl ?_
      refine m_getA (pc := 164) 5 5 (by decide) rfl rfl lkX12_22 dX12_meansOf_164 ?_
      refine o_iload_n (pc := 167) dX12_meansOf_167 rfl ?_
      obtain ⟨hk32, hf⟩ := ck_elim hf
      refine m_iald (pc := 168) (by decide) rfl hk32 dX12_meansOf_168 ?_
      refine o_i2l (pc := 169) dX12_meansOf_169 ?_
      obtain ⟨hk33, hf⟩ := ck_elim hf
      refine m_last (pc := 170) (by decide) rfl hk33 dX12_meansOf_170 ?_
      refine lz_s (mW) hf (fun s34 hf => ?_)
      show Rn g mdX12_meansOf 171 [some (.ref 0), some (.int p0), some (.int p1), some (.int w3)] [] (mW s34) 0 0 (some (.int q.1)) (mW q.2)
      refine o_aload_n (pc := 171) dX12_meansOf_171 rfl ?_
      refine m_getA (pc := 172) 44 34 (by decide) rfl rfl lkX12_114 dX12_meansOf_172 ?_
      refine o_bipush (pc := 175) (v := 10) dX12_meansOf_175 rfl ?_
      refine o_aload_n (pc := 177) dX12_meansOf_177 rfl ?_
      refine m_getA (pc := 178) 6 6 (by decide) rfl rfl lkX12_25 dX12_meansOf_178 ?_
      refine o_iload_n (pc := 181) dX12_meansOf_181 rfl ?_
      obtain ⟨hk35, hf⟩ := ck_elim hf
      refine m_iald (pc := 182) (by decide) rfl hk35 dX12_meansOf_182 ?_
      refine o_i2l (pc := 183) dX12_meansOf_183 ?_
      obtain ⟨hk36, hf⟩ := ck_elim hf
      refine m_last (pc := 184) (by decide) rfl hk36 dX12_meansOf_184 ?_
      refine lz_s (mW) hf (fun s37 hf => ?_)
      show Rn g mdX12_meansOf 185 [some (.ref 0), some (.int p0), some (.int p1), some (.int w3)] [] (mW s37) 0 0 (some (.int q.1)) (mW q.2)
      refine o_aload_n (pc := 185) dX12_meansOf_185 rfl ?_
      refine m_getA (pc := 186) 44 34 (by decide) rfl rfl lkX12_114 dX12_meansOf_186 ?_
      refine o_bipush (pc := 189) (v := 11) dX12_meansOf_189 rfl ?_
      refine o_aload_n (pc := 191) dX12_meansOf_191 rfl ?_
      refine m_getA (pc := 192) 1 1 (by decide) rfl rfl lkX12_9 dX12_meansOf_192 ?_
      refine o_bipush (pc := 195) (v := 9) dX12_meansOf_195 rfl ?_
      obtain ⟨hk38, hf⟩ := ck_elim hf
      refine m_iald (pc := 197) (by decide) rfl hk38 dX12_meansOf_197 ?_
      refine o_i2l (pc := 198) dX12_meansOf_198 ?_
      obtain ⟨hk39, hf⟩ := ck_elim hf
      refine m_last (pc := 199) (by decide) rfl hk39 dX12_meansOf_199 ?_
      refine lz_s (mW) hf (fun s40 hf => ?_)
      show Rn g mdX12_meansOf 200 [some (.ref 0), some (.int p0), some (.int p1), some (.int w3)] [] (mW s40) 0 0 (some (.int q.1)) (mW q.2)
      refine o_aload_n (pc := 200) dX12_meansOf_200 rfl ?_
      refine m_getA (pc := 201) 44 34 (by decide) rfl rfl lkX12_114 dX12_meansOf_201 ?_
      refine o_bipush (pc := 204) (v := 12) dX12_meansOf_204 rfl ?_
      refine o_aload_n (pc := 206) dX12_meansOf_206 rfl ?_
      refine m_getA (pc := 207) 3 3 (by decide) rfl rfl lkX12_16 dX12_meansOf_207 ?_
      refine o_iload_n (pc := 210) dX12_meansOf_210 rfl ?_
      obtain ⟨hk41, hf⟩ := ck_elim hf
      refine m_iald (pc := 211) (by decide) rfl hk41 dX12_meansOf_211 ?_
      refine o_i2l (pc := 212) dX12_meansOf_212 ?_
      obtain ⟨hk42, hf⟩ := ck_elim hf
      refine m_last (pc := 213) (by decide) rfl hk42 dX12_meansOf_213 ?_
      refine lz_s (mW) hf (fun s43 hf => ?_)
      show Rn g mdX12_meansOf 214 [some (.ref 0), some (.int p0), some (.int p1), some (.int w3)] [] (mW s43) 0 0 (some (.int q.1)) (mW q.2)
      refine o_aload_n (pc := 214) dX12_meansOf_214 rfl ?_
      refine m_getA (pc := 215) 44 34 (by decide) rfl rfl lkX12_114 dX12_meansOf_215 ?_
      refine o_bipush (pc := 218) (v := 13) dX12_meansOf_218 rfl ?_
      refine o_aload_n (pc := 220) dX12_meansOf_220 rfl ?_
      refine m_getA (pc := 221) 1 1 (by decide) rfl rfl lkX12_9 dX12_meansOf_221 ?_
      refine o_bipush (pc := 224) (v := 8) dX12_meansOf_224 rfl ?_
      obtain ⟨hk44, hf⟩ := ck_elim hf
      refine m_iald (pc := 226) (by decide) rfl hk44 dX12_meansOf_226 ?_
      refine o_iload_n (pc := 227) dX12_meansOf_227 rfl ?_
      obtain ⟨q46, hk45, hf⟩ := bd_elim hf
      refine m_callS (pc := 228) [.int (gi s43 1 (ix 8)), .int p0] dX12_meansOf_228 (kX12_has hk45) stX12_403 ⟨by decide, by decide, by decide, by decide⟩ ⟨rfl, rfl⟩ (Nat.le_of_ble_eq_true rfl) ?_
      show Rn g mdX12_meansOf 231 [some (.ref 0), some (.int p0), some (.int p1), some (.int w3)] [.int q46, .int 13, .ref 34] (mW s43) 0 0 (some (.int q.1)) (mW q.2)
      obtain ⟨w47, hr48, hf⟩ := bd_elim hf
      have K49 : Rn g mdX12_meansOf 239 [some (.ref 0), none, none, none] [.long w47, .int 13, .ref 34] (mW s43) 0 0 (some (.int q.1)) (mW q.2) := by
        obtain ⟨hk50, hf⟩ := ck_elim hf
        refine m_last (pc := 239) (by decide) rfl hk50 dX12_meansOf_239 ?_
        refine lz_s (mW) hf (fun s51 hf => ?_)
        show Rn g mdX12_meansOf 240 [some (.ref 0), none, none, none] [] (mW s51) 0 0 (some (.int q.1)) (mW q.2)
        refine o_aload_n (pc := 240) dX12_meansOf_240 rfl ?_
        obtain ⟨q53, hk52, hf⟩ := bd_elim hf
        refine m_callV (pc := 241) [] dX12_meansOf_241 (kX12_meant hk52) stX12_406 ⟨by decide, by decide, by decide, by decide⟩ ⟨rfl, rfl⟩ (Nat.le_of_ble_eq_true rfl) ?_
        show Rn g mdX12_meansOf 244 [some (.ref 0), none, none, none] [.long q53.1] (mW q53.2) 0 0 (some (.int q.1)) (mW q.2)
        refine o_bipush (pc := 244) (v := (-30)) dX12_meansOf_244 rfl ?_
        refine o_bipush (pc := 246) (v := 120) dX12_meansOf_246 rfl ?_
        obtain ⟨q55, hk54, hf⟩ := bd_elim hf
        refine m_callS (pc := 248) [.long q53.1, .int (-30), .int 120] dX12_meansOf_248 (kX12_held hk54) stX12_399 ⟨by decide, by decide, by decide, by decide⟩ ⟨rfl, rfl⟩ (Nat.le_of_ble_eq_true rfl) ?_
        show Rn g mdX12_meansOf 251 [some (.ref 0), none, none, none] [.int q55] (mW q53.2) 0 0 (some (.int q.1)) (mW q.2)
        obtain rfl := Option.some.inj hf
        exact o_ireturn (pc := 251) dX12_meansOf_251 rfl (Nat.zero_le _) (Nat.zero_le _)
      clear hf
      refine o_if_eq (pc := 231) 238 dX12_meansOf_231 rfl (fun hc => ?_) (fun hc => ?_)
      · have hr48 := it_t hr48 hc
        refine o_lconst (pc := 238) (v := 0) dX12_meansOf_238 rfl ?_
        obtain rfl := Option.some.inj hr48
        refine o_keep [true, false, false, false] ?_
        exact K49
      · have hr48 := it_f hr48 hc
        refine o_lconst (pc := 234) (v := 1) dX12_meansOf_234 rfl ?_
        refine o_goto (pc := 235) 239 dX12_meansOf_235 rfl ?_
        obtain rfl := Option.some.inj hr48
        refine o_keep [true, false, false, false] ?_
        exact K49
    clear hf
    refine o_icmp_ne (pc := 33) 45 dX12_meansOf_33 rfl (fun hc => ?_) (fun hc => ?_)
    · have hr4 := it_f hr4 hc
      refine o_aload_n (pc := 45) dX12_meansOf_45 rfl ?_
      refine m_getA (pc := 46) 7 7 (by decide) rfl rfl lkX12_28 dX12_meansOf_46 ?_
      refine o_iload_n (pc := 49) dX12_meansOf_49 rfl ?_
      obtain ⟨hk6, hr4⟩ := ck_elim hr4
      refine m_iald (pc := 50) (by decide) rfl hk6 dX12_meansOf_50 ?_
      obtain rfl := Option.some.inj hr4
      exact K5
    · have hr4 := it_t hr4 hc
      refine o_aload_n (pc := 36) dX12_meansOf_36 rfl ?_
      refine m_getA (pc := 37) 8 8 (by decide) rfl rfl lkX12_31 dX12_meansOf_37 ?_
      refine o_iload_n (pc := 40) dX12_meansOf_40 rfl ?_
      obtain ⟨hk7, hr4⟩ := ck_elim hr4
      refine m_iald (pc := 41) (by decide) rfl hk7 dX12_meansOf_41 ?_
      refine o_goto (pc := 42) 51 dX12_meansOf_42 rfl ?_
      obtain rfl := Option.some.inj hr4
      exact K5
  · have hf := it_t hf hc
    refine o_aload_n (pc := 11) dX12_meansOf_11 rfl ?_
    refine m_getA (pc := 12) 2 2 (by decide) rfl rfl lkX12_13 dX12_meansOf_12 ?_
    refine o_iload_n (pc := 15) dX12_meansOf_15 rfl ?_
    obtain ⟨hk56, hf⟩ := ck_elim hf
    refine m_iald (pc := 16) (by decide) rfl hk56 dX12_meansOf_16 ?_
    refine o_i2l (pc := 17) dX12_meansOf_17 ?_
    refine o_bipush (pc := 18) (v := (-30)) dX12_meansOf_18 rfl ?_
    refine o_bipush (pc := 20) (v := 120) dX12_meansOf_20 rfl ?_
    obtain ⟨q58, hk57, hf⟩ := bd_elim hf
    refine m_callS (pc := 22) [.long ((gi s 2 (ix p0)).toInt64), .int (-30), .int 120] dX12_meansOf_22 (kX12_held hk57) stX12_399 ⟨by decide, by decide, by decide, by decide⟩ ⟨rfl, rfl⟩ (Nat.le_of_ble_eq_true rfl) ?_
    show Rn g mdX12_meansOf 25 [some (.ref 0), some (.int p0), some (.int p1), none] [.int q58] (mW s) 0 0 (some (.int q.1)) (mW q.2)
    obtain rfl := Option.some.inj hf
    exact o_ireturn (pc := 25) dX12_meansOf_25 rfl (Nat.zero_le _) (Nat.zero_le _)
def fX12_draws (p0 : Int32) (s : ST) : Option (Int32 × ST) :=
  ck (inb 11 13) (ck (inb 11 13) (lt (si s 1 (ix 11) ((((((gi s 1 (ix 11)).toInt64) * 1103515245) + 12345) - ((((gi s 1 (ix 11)).toInt64) * 1103515245) + 12345) / 2147483648 * 2147483648).toInt32)) (fun s3 => ck (inb 11 13) (ck (decide (¬ p0 = 0)) (some (((gi s3 1 (ix 11)) / 65536) - ((gi s3 1 (ix 11)) / 65536) / p0 * p0, s3))))))
set_option maxRecDepth 20000 in
theorem kX12_draws {g : GX} {p0 : Int32} {s : ST} {q : Int32 × ST} (hf : fX12_draws p0 s = some q) : Cn g mdX12_draws [.ref 0, .int p0] (mW s) (some (.int q.1)) (mW q.2) := by
  refine Cn.of (by decide) (Nat.le_of_ble_eq_true rfl) ?_
  show Rn g mdX12_draws 0 [some (.ref 0), some (.int p0)] [] (mW s) 0 0 (some (.int q.1)) (mW q.2)
  unfold fX12_draws at hf
  refine o_aload_n (pc := 0) dX12_draws_0 rfl ?_
  refine m_getA (pc := 1) 1 1 (by decide) rfl rfl lkX12_9 dX12_draws_1 ?_
  refine o_bipush (pc := 4) (v := 11) dX12_draws_4 rfl ?_
  refine o_aload_n (pc := 6) dX12_draws_6 rfl ?_
  refine m_getA (pc := 7) 1 1 (by decide) rfl rfl lkX12_9 dX12_draws_7 ?_
  refine o_bipush (pc := 10) (v := 11) dX12_draws_10 rfl ?_
  obtain ⟨hk1, hf⟩ := ck_elim hf
  refine m_iald (pc := 12) (by decide) rfl hk1 dX12_draws_12 ?_
  refine o_i2l (pc := 13) dX12_draws_13 ?_
  refine o_ldc2 (pc := 14) dX12_draws_14 lcX12_554 ?_
  refine o_lmul (pc := 17) dX12_draws_17 ?_
  refine o_ldc2 (pc := 18) dX12_draws_18 lcX12_556 ?_
  refine o_ladd (pc := 21) dX12_draws_21 ?_
  refine o_ldc2 (pc := 22) dX12_draws_22 lcX12_558 ?_
  refine o_lrem (pc := 25) dX12_draws_25 (by decide) ?_
  refine o_l2i (pc := 26) dX12_draws_26 ?_
  obtain ⟨hk2, hf⟩ := ck_elim hf
  refine m_iast (pc := 27) (by decide) rfl hk2 dX12_draws_27 ?_
  refine lz_s (mW) hf (fun s3 hf => ?_)
  show Rn g mdX12_draws 28 [some (.ref 0), some (.int p0)] [] (mW s3) 0 0 (some (.int q.1)) (mW q.2)
  refine o_aload_n (pc := 28) dX12_draws_28 rfl ?_
  refine m_getA (pc := 29) 1 1 (by decide) rfl rfl lkX12_9 dX12_draws_29 ?_
  refine o_bipush (pc := 32) (v := 11) dX12_draws_32 rfl ?_
  obtain ⟨hk4, hf⟩ := ck_elim hf
  refine m_iald (pc := 34) (by decide) rfl hk4 dX12_draws_34 ?_
  refine o_ldcw (pc := 35) dX12_draws_35 lcX12_560 ?_
  refine o_idiv (pc := 38) dX12_draws_38 (by decide) ?_
  refine o_iload_n (pc := 39) dX12_draws_39 rfl ?_
  obtain ⟨hk5, hf⟩ := ck_elim hf
  refine o_irem (pc := 40) dX12_draws_40 (of_decide_eq_true hk5) ?_
  obtain rfl := Option.some.inj hf
  exact o_ireturn (pc := 41) dX12_draws_41 rfl (Nat.zero_le _) (Nat.zero_le _)
def fX12_drawnMore (p0 : Int32) (s : ST) : Option (Int32 × ST) :=
  (if (gi s 0 63) = 0 then some (p0, s) else (fX12_draws 11 s).bind (fun q5 => (fX12_held (((p0 + q5.1) - 5).toInt64) (-30) 120 q5.2).bind (fun q7 => some (q7, q5.2))) : Option (Int32 × ST)).bind (fun w1 => some (w1.1, w1.2))
set_option maxRecDepth 20000 in
theorem kX12_drawnMore {g : GX} {p0 : Int32} {s : ST} {q : Int32 × ST} (hf : fX12_drawnMore p0 s = some q) : Cn g mdX12_drawnMore [.ref 0, .int p0] (mW s) (some (.int q.1)) (mW q.2) := by
  refine Cn.of (by decide) (Nat.le_of_ble_eq_true rfl) ?_
  show Rn g mdX12_drawnMore 0 [some (.ref 0), some (.int p0)] [] (mW s) 0 0 (some (.int q.1)) (mW q.2)
  unfold fX12_drawnMore at hf
  refine o_aload_n (pc := 0) dX12_drawnMore_0 rfl ?_
  refine m_getI (pc := 1) 63 (by decide) rfl lkX12_410 dX12_drawnMore_1 ?_
  obtain ⟨w1, hr2, hf⟩ := bd_elim hf
  have K3 : Rn g mdX12_drawnMore 29 [none, none] [.int w1.1] (mW w1.2) 0 0 (some (.int q.1)) (mW q.2) := by
    obtain rfl := Option.some.inj hf
    exact o_ireturn (pc := 29) dX12_drawnMore_29 rfl (Nat.zero_le _) (Nat.zero_le _)
  clear hf
  refine o_if_eq (pc := 4) 28 dX12_drawnMore_4 rfl (fun hc => ?_) (fun hc => ?_)
  · have hr2 := it_t hr2 hc
    refine o_iload_n (pc := 28) dX12_drawnMore_28 rfl ?_
    obtain rfl := Option.some.inj hr2
    refine o_keep [false, false] ?_
    exact K3
  · have hr2 := it_f hr2 hc
    refine o_iload_n (pc := 7) dX12_drawnMore_7 rfl ?_
    refine o_aload_n (pc := 8) dX12_drawnMore_8 rfl ?_
    refine o_bipush (pc := 9) (v := 11) dX12_drawnMore_9 rfl ?_
    obtain ⟨q5, hk4, hr2⟩ := bd_elim hr2
    refine m_callV (pc := 11) [.int 11] dX12_drawnMore_11 (kX12_draws hk4) stX12_414 ⟨by decide, by decide, by decide, by decide⟩ ⟨rfl, rfl⟩ (Nat.le_of_ble_eq_true rfl) ?_
    show Rn g mdX12_drawnMore 14 [some (.ref 0), some (.int p0)] [.int q5.1, .int p0] (mW q5.2) 0 0 (some (.int q.1)) (mW q.2)
    refine o_iadd (pc := 14) dX12_drawnMore_14 ?_
    refine o_iconst (pc := 15) (v := 5) dX12_drawnMore_15 rfl ?_
    refine o_isub (pc := 16) dX12_drawnMore_16 ?_
    refine o_i2l (pc := 17) dX12_drawnMore_17 ?_
    refine o_bipush (pc := 18) (v := (-30)) dX12_drawnMore_18 rfl ?_
    refine o_bipush (pc := 20) (v := 120) dX12_drawnMore_20 rfl ?_
    obtain ⟨q7, hk6, hr2⟩ := bd_elim hr2
    refine m_callS (pc := 22) [.long (((p0 + q5.1) - 5).toInt64), .int (-30), .int 120] dX12_drawnMore_22 (kX12_held hk6) stX12_399 ⟨by decide, by decide, by decide, by decide⟩ ⟨rfl, rfl⟩ (Nat.le_of_ble_eq_true rfl) ?_
    show Rn g mdX12_drawnMore 25 [some (.ref 0), some (.int p0)] [.int q7] (mW q5.2) 0 0 (some (.int q.1)) (mW q.2)
    refine o_goto (pc := 25) 29 dX12_drawnMore_25 rfl ?_
    obtain rfl := Option.some.inj hr2
    refine o_keep [false, false] ?_
    exact K3
def fX12_comes (p0 : Int32) (p1 : Int32) (p2 : Int32) (s : ST) : Option (Int32) :=
  ck (inb p1 8) (ck (inb p0 5) (lt (((gi s 9 (ix p1)) + p2) - (gi s 3 (ix p0)) : Int32) (fun v3 => ck (inb p0 5) ((if (gi s 37 (ix p0)) = (-1000000) then some false else ck (inb p0 5) (if (gi s 37 (ix p0)) ≤ v3 then some false else some true) : Option Bool).bind (fun b5 => (if b5 = true then ck (inb p0 5) (some (gi s 37 (ix p0))) else some v3 : Option (Int32)).bind (fun w9 => some w9))))))
set_option maxRecDepth 20000 in
theorem kX12_comes {g : GX} {p0 : Int32} {p1 : Int32} {p2 : Int32} {s : ST} {q : Int32} (hf : fX12_comes p0 p1 p2 s = some q) : Cn g mdX12_comes [.ref 0, .int p0, .int p1, .int p2] (mW s) (some (.int q)) (mW s) := by
  refine Cn.of (by decide) (Nat.le_of_ble_eq_true rfl) ?_
  show Rn g mdX12_comes 0 [some (.ref 0), some (.int p0), some (.int p1), some (.int p2), none] [] (mW s) 0 0 (some (.int q)) (mW s)
  unfold fX12_comes at hf
  refine o_aload_n (pc := 0) dX12_comes_0 rfl ?_
  refine m_getA (pc := 1) 9 9 (by decide) rfl rfl lkX12_34 dX12_comes_1 ?_
  refine o_iload_n (pc := 4) dX12_comes_4 rfl ?_
  obtain ⟨hk1, hf⟩ := ck_elim hf
  refine m_iald (pc := 5) (by decide) rfl hk1 dX12_comes_5 ?_
  refine o_iload_n (pc := 6) dX12_comes_6 rfl ?_
  refine o_iadd (pc := 7) dX12_comes_7 ?_
  refine o_aload_n (pc := 8) dX12_comes_8 rfl ?_
  refine m_getA (pc := 9) 3 3 (by decide) rfl rfl lkX12_16 dX12_comes_9 ?_
  refine o_iload_n (pc := 12) dX12_comes_12 rfl ?_
  obtain ⟨hk2, hf⟩ := ck_elim hf
  refine m_iald (pc := 13) (by decide) rfl hk2 dX12_comes_13 ?_
  refine o_isub (pc := 14) dX12_comes_14 ?_
  refine lz_i hf (fun v3 hf => ?_)
  refine o_istore (pc := 15) dX12_comes_15 (by decide) rfl ?_
  show Rn g mdX12_comes 17 [some (.ref 0), some (.int p0), some (.int p1), some (.int p2), some (.int v3)] [] (mW s) 0 0 (some (.int q)) (mW s)
  refine o_aload_n (pc := 17) dX12_comes_17 rfl ?_
  refine m_getA (pc := 18) 47 37 (by decide) rfl rfl lkX12_124 dX12_comes_18 ?_
  refine o_iload_n (pc := 21) dX12_comes_21 rfl ?_
  obtain ⟨hk4, hf⟩ := ck_elim hf
  refine m_iald (pc := 22) (by decide) rfl hk4 dX12_comes_22 ?_
  refine o_ldcw (pc := 23) dX12_comes_23 lcX12_417 ?_
  obtain ⟨b5, hr6, hf⟩ := bd_elim hf
  obtain ⟨w9, hr10, hf⟩ := bd_elim hf
  have K11 : Rn g mdX12_comes 51 [none, none, none, none, none] [.int w9] (mW s) 0 0 (some (.int q)) (mW s) := by
    obtain rfl := Option.some.inj hf
    exact o_ireturn (pc := 51) dX12_comes_51 rfl (Nat.zero_le _) (Nat.zero_le _)
  clear hf
  have KB7 : (b5 = true → Rn g mdX12_comes 40 [some (.ref 0), some (.int p0), some (.int p1), some (.int p2), some (.int v3)] [] (mW s) 0 0 (some (.int q)) (mW s)) ∧ (¬ b5 = true → Rn g mdX12_comes 49 [some (.ref 0), some (.int p0), some (.int p1), some (.int p2), some (.int v3)] [] (mW s) 0 0 (some (.int q)) (mW s)) := by
    refine ⟨fun hc => ?_, fun hc => ?_⟩
    · have hr10 := it_t hr10 hc
      refine o_aload_n (pc := 40) dX12_comes_40 rfl ?_
      refine m_getA (pc := 41) 47 37 (by decide) rfl rfl lkX12_124 dX12_comes_41 ?_
      refine o_iload_n (pc := 44) dX12_comes_44 rfl ?_
      obtain ⟨hk12, hr10⟩ := ck_elim hr10
      refine m_iald (pc := 45) (by decide) rfl hk12 dX12_comes_45 ?_
      refine o_goto (pc := 46) 51 dX12_comes_46 rfl ?_
      obtain rfl := Option.some.inj hr10
      refine o_keep [false, false, false, false, false] ?_
      exact K11
    · have hr10 := it_f hr10 hc
      refine o_iload (pc := 49) dX12_comes_49 rfl ?_
      obtain rfl := Option.some.inj hr10
      refine o_keep [false, false, false, false, false] ?_
      exact K11
  clear hr10
  refine o_icmp_eq (pc := 26) 49 dX12_comes_26 rfl (fun hc => ?_) (fun hc => ?_)
  · have hr6 := it_t hr6 hc
    obtain rfl := Option.some.inj hr6
    exact KB7.2 (by decide)
  · have hr6 := it_f hr6 hc
    refine o_aload_n (pc := 29) dX12_comes_29 rfl ?_
    refine m_getA (pc := 30) 47 37 (by decide) rfl rfl lkX12_124 dX12_comes_30 ?_
    refine o_iload_n (pc := 33) dX12_comes_33 rfl ?_
    obtain ⟨hk8, hr6⟩ := ck_elim hr6
    refine m_iald (pc := 34) (by decide) rfl hk8 dX12_comes_34 ?_
    refine o_iload (pc := 35) dX12_comes_35 rfl ?_
    refine o_icmp_le (pc := 37) 49 dX12_comes_37 rfl (fun hc => ?_) (fun hc => ?_)
    · have hr6 := it_t hr6 hc
      obtain rfl := Option.some.inj hr6
      exact KB7.2 (by decide)
    · have hr6 := it_f hr6 hc
      obtain rfl := Option.some.inj hr6
      exact KB7.1 rfl
def fX12_finesOf (p0 : Int32) (p1 : Int32) (s : ST) : Option (Int32 × ST) :=
  ck (inb 8 13) ((fX12_has (gi s 1 (ix 8)) p0 s).bind (fun q3 => if q3 = 0 then ck (inb 0 13) (if (gi s 1 (ix 0)) ≤ p1 then ck (inb 1 13) (if p1 ≤ (gi s 1 (ix 1)) then some (0, s) else ck (inb p0 5) (ck (inb p0 5) (lt (si s 39 (ix p0) ((gi s 39 (ix p0)) + 1)) (fun s8 => ck (inb 6 13) (some (gi s8 1 (ix 6), s8)))))) else ck (inb p0 5) (ck (inb p0 5) (lt (si s 38 (ix p0) ((gi s 38 (ix p0)) + 1)) (fun s12 => ck (inb 5 13) (some (gi s12 1 (ix 5), s12)))))) else some (0, s)))
set_option maxRecDepth 20000 in
theorem kX12_finesOf {g : GX} {p0 : Int32} {p1 : Int32} {s : ST} {q : Int32 × ST} (hf : fX12_finesOf p0 p1 s = some q) : Cn g mdX12_finesOf [.ref 0, .int p0, .int p1] (mW s) (some (.int q.1)) (mW q.2) := by
  refine Cn.of (by decide) (Nat.le_of_ble_eq_true rfl) ?_
  show Rn g mdX12_finesOf 0 [some (.ref 0), some (.int p0), some (.int p1)] [] (mW s) 0 0 (some (.int q.1)) (mW q.2)
  unfold fX12_finesOf at hf
  refine o_aload_n (pc := 0) dX12_finesOf_0 rfl ?_
  refine m_getA (pc := 1) 1 1 (by decide) rfl rfl lkX12_9 dX12_finesOf_1 ?_
  refine o_bipush (pc := 4) (v := 8) dX12_finesOf_4 rfl ?_
  obtain ⟨hk1, hf⟩ := ck_elim hf
  refine m_iald (pc := 6) (by decide) rfl hk1 dX12_finesOf_6 ?_
  refine o_iload_n (pc := 7) dX12_finesOf_7 rfl ?_
  obtain ⟨q3, hk2, hf⟩ := bd_elim hf
  refine m_callS (pc := 8) [.int (gi s 1 (ix 8)), .int p0] dX12_finesOf_8 (kX12_has hk2) stX12_403 ⟨by decide, by decide, by decide, by decide⟩ ⟨rfl, rfl⟩ (Nat.le_of_ble_eq_true rfl) ?_
  show Rn g mdX12_finesOf 11 [some (.ref 0), some (.int p0), some (.int p1)] [.int q3] (mW s) 0 0 (some (.int q.1)) (mW q.2)
  refine o_if_eq (pc := 11) 16 dX12_finesOf_11 rfl (fun hc => ?_) (fun hc => ?_)
  · have hf := it_t hf hc
    refine o_iload_n (pc := 16) dX12_finesOf_16 rfl ?_
    refine o_aload_n (pc := 17) dX12_finesOf_17 rfl ?_
    refine m_getA (pc := 18) 1 1 (by decide) rfl rfl lkX12_9 dX12_finesOf_18 ?_
    refine o_iconst (pc := 21) (v := 0) dX12_finesOf_21 rfl ?_
    obtain ⟨hk4, hf⟩ := ck_elim hf
    refine m_iald (pc := 22) (by decide) rfl hk4 dX12_finesOf_22 ?_
    refine o_icmp_ge (pc := 23) 43 dX12_finesOf_23 rfl (fun hc => ?_) (fun hc => ?_)
    · have hf := it_t hf hc
      refine o_iload_n (pc := 43) dX12_finesOf_43 rfl ?_
      refine o_aload_n (pc := 44) dX12_finesOf_44 rfl ?_
      refine m_getA (pc := 45) 1 1 (by decide) rfl rfl lkX12_9 dX12_finesOf_45 ?_
      refine o_iconst (pc := 48) (v := 1) dX12_finesOf_48 rfl ?_
      obtain ⟨hk5, hf⟩ := ck_elim hf
      refine m_iald (pc := 49) (by decide) rfl hk5 dX12_finesOf_49 ?_
      refine o_icmp_le (pc := 50) 71 dX12_finesOf_50 rfl (fun hc => ?_) (fun hc => ?_)
      · have hf := it_t hf hc
        refine o_iconst (pc := 71) (v := 0) dX12_finesOf_71 rfl ?_
        obtain rfl := Option.some.inj hf
        exact o_ireturn (pc := 72) dX12_finesOf_72 rfl (Nat.zero_le _) (Nat.zero_le _)
      · have hf := it_f hf hc
        refine o_aload_n (pc := 53) dX12_finesOf_53 rfl ?_
        refine m_getA (pc := 54) 49 39 (by decide) rfl rfl lkX12_130 dX12_finesOf_54 ?_
        refine o_iload_n (pc := 57) dX12_finesOf_57 rfl ?_
        refine o_dup2 (pc := 58) dX12_finesOf_58 rfl rfl ?_
        obtain ⟨hk6, hf⟩ := ck_elim hf
        refine m_iald (pc := 59) (by decide) rfl hk6 dX12_finesOf_59 ?_
        refine o_iconst (pc := 60) (v := 1) dX12_finesOf_60 rfl ?_
        refine o_iadd (pc := 61) dX12_finesOf_61 ?_
        obtain ⟨hk7, hf⟩ := ck_elim hf
        refine m_iast (pc := 62) (by decide) rfl hk7 dX12_finesOf_62 ?_
        refine lz_s (mW) hf (fun s8 hf => ?_)
        show Rn g mdX12_finesOf 63 [some (.ref 0), some (.int p0), some (.int p1)] [] (mW s8) 0 0 (some (.int q.1)) (mW q.2)
        refine o_aload_n (pc := 63) dX12_finesOf_63 rfl ?_
        refine m_getA (pc := 64) 1 1 (by decide) rfl rfl lkX12_9 dX12_finesOf_64 ?_
        refine o_bipush (pc := 67) (v := 6) dX12_finesOf_67 rfl ?_
        obtain ⟨hk9, hf⟩ := ck_elim hf
        refine m_iald (pc := 69) (by decide) rfl hk9 dX12_finesOf_69 ?_
        obtain rfl := Option.some.inj hf
        exact o_ireturn (pc := 70) dX12_finesOf_70 rfl (Nat.zero_le _) (Nat.zero_le _)
    · have hf := it_f hf hc
      refine o_aload_n (pc := 26) dX12_finesOf_26 rfl ?_
      refine m_getA (pc := 27) 48 38 (by decide) rfl rfl lkX12_127 dX12_finesOf_27 ?_
      refine o_iload_n (pc := 30) dX12_finesOf_30 rfl ?_
      refine o_dup2 (pc := 31) dX12_finesOf_31 rfl rfl ?_
      obtain ⟨hk10, hf⟩ := ck_elim hf
      refine m_iald (pc := 32) (by decide) rfl hk10 dX12_finesOf_32 ?_
      refine o_iconst (pc := 33) (v := 1) dX12_finesOf_33 rfl ?_
      refine o_iadd (pc := 34) dX12_finesOf_34 ?_
      obtain ⟨hk11, hf⟩ := ck_elim hf
      refine m_iast (pc := 35) (by decide) rfl hk11 dX12_finesOf_35 ?_
      refine lz_s (mW) hf (fun s12 hf => ?_)
      show Rn g mdX12_finesOf 36 [some (.ref 0), some (.int p0), some (.int p1)] [] (mW s12) 0 0 (some (.int q.1)) (mW q.2)
      refine o_aload_n (pc := 36) dX12_finesOf_36 rfl ?_
      refine m_getA (pc := 37) 1 1 (by decide) rfl rfl lkX12_9 dX12_finesOf_37 ?_
      refine o_iconst (pc := 40) (v := 5) dX12_finesOf_40 rfl ?_
      obtain ⟨hk13, hf⟩ := ck_elim hf
      refine m_iald (pc := 41) (by decide) rfl hk13 dX12_finesOf_41 ?_
      obtain rfl := Option.some.inj hf
      exact o_ireturn (pc := 42) dX12_finesOf_42 rfl (Nat.zero_le _) (Nat.zero_le _)
  · have hf := it_f hf hc
    refine o_iconst (pc := 14) (v := 0) dX12_finesOf_14 rfl ?_
    obtain rfl := Option.some.inj hf
    exact o_ireturn (pc := 15) dX12_finesOf_15 rfl (Nat.zero_le _) (Nat.zero_le _)
def fX12_meets (p0 : Int32) (s : ST) : Option (ST) :=
  ck (inb p0 8) (lt (gi s 7 (ix p0) : Int32) (fun v2 => ck (inb p0 8) (lt (gi s 8 (ix p0) : Int32) (fun v4 => (if (gi s 0 57) = p0 then some (gi s 0 58, s) else (fX12_meansOf v2 p0 s).bind (fun q9 => some (q9.1, q9.2)) : Option (Int32 × ST)).bind (fun w5 => (if (gi w5.2 0 57) = p0 then some (gi w5.2 0 59, w5.2) else (fX12_meansOf v4 p0 w5.2).bind (fun q14 => some (q14.1, q14.2)) : Option (Int32 × ST)).bind (fun w10 => (fX12_drawnMore w5.1 w10.2).bind (fun q16 => (fX12_drawnMore w10.1 q16.2).bind (fun q18 => (fX12_comes v2 p0 q16.1 q18.2).bind (fun q20 => (fX12_comes v4 p0 q18.1 q18.2).bind (fun q22 => (if q20 ≤ q22 then some (q22 - q20) else some (q20 - q22) : Option (Int32)).bind (fun w23 => ck (inb 2 13) ((if w23 ≤ (gi q18.2 1 (ix 2)) then some 0 else some 1 : Option (Int32)).bind (fun w27 => (if w27 = 0 then some w23 else ck (inb 2 13) (some (gi q18.2 1 (ix 2))) : Option (Int32)).bind (fun w30 => (if q20 ≤ q22 then some v2 else some v4 : Option (Int32)).bind (fun w34 => (if q20 ≤ q22 then some q22 else some q20 : Option (Int32)).bind (fun w37 => (if w27 = 0 then some w37 else some (-1) : Option (Int32)).bind (fun w40 => ck (inb p0 8) (lt (si q18.2 40 (ix p0) w40) (fun s44 => ck (inb p0 8) (ck (inb p0 8) (lt (si s44 41 (ix p0) (q20 - (gi s44 9 (ix p0)))) (fun s47 => ck (inb p0 8) (ck (inb p0 8) (lt (si s47 42 (ix p0) (q22 - (gi s47 9 (ix p0)))) (fun s50 => ck (inb p0 8) (lt (si s50 43 (ix p0) w30) (fun s52 => ck (inb p0 8) ((fX12_finesOf v2 (gi s52 41 (ix p0)) s52).bind (fun q55 => ck (inb p0 8) ((fX12_finesOf v4 (gi q55.2 42 (ix p0)) q55.2).bind (fun q58 => (if w34 = v2 then some w30 else some 0 : Option (Int32)).bind (fun w59 => ck (inb p0 8) (lt (si q58.2 44 (ix p0) (q55.1 + w59)) (fun s63 => (if w34 = v4 then some w30 else some 0 : Option (Int32)).bind (fun w64 => ck (inb p0 8) (lt (si s63 45 (ix p0) (q58.1 + w64)) (fun s68 => ck (inb v2 5) (ck (inb v2 5) (lt (si s68 5 (ix v2) ((gi s68 5 (ix v2)) + q55.1)) (fun s71 => ck (inb v4 5) (ck (inb v4 5) (lt (si s71 5 (ix v4) ((gi s71 5 (ix v4)) + q58.1)) (fun s74 => ck (inb w34 5) (ck (inb w34 5) (lt (si s74 6 (ix w34) ((gi s74 6 (ix w34)) + w30)) (fun s77 => (if w27 = 0 then ck (inb p0 8) (some (w37 + (gi s77 10 (ix p0)))) else if w34 = v2 then some (q20 + w30) else some q20 : Option (Int32)).bind (fun w78 => ck (inb v2 5) (lt (si s77 37 (ix v2) w78) (fun s83 => (if w27 = 0 then ck (inb p0 8) (some (w37 + (gi s83 10 (ix p0)))) else if w34 = v4 then some (q22 + w30) else some q22 : Option (Int32)).bind (fun w84 => ck (inb v4 5) (lt (si s83 37 (ix v4) w84) (fun s89 => ck (inb p0 8) (ck (inb v2 5) (lt (si s89 4 (ix v2) (gi s89 41 (ix p0))) (fun s92 => ck (inb p0 8) (ck (inb v4 5) (lt (si s92 4 (ix v4) (gi s92 42 (ix p0))) (fun s95 => ck (inb p0 8) ((if w27 = 0 then some 1 else some 0 : Option (Int32)).bind (fun w97 => ck (inb p0 8) (lt (si s95 11 (ix p0) ((gi s95 11 (ix p0)) + w97)) (fun s101 => ck (inb p0 8) ((if w27 = 0 then some 0 else some 1 : Option (Int32)).bind (fun w103 => ck (inb p0 8) (lt (si s101 12 (ix p0) ((gi s101 12 (ix p0)) + w103)) (fun s107 => (if w27 = 0 then some 0 else some 1 : Option (Int32)).bind (fun w108 => lt (si s107 0 60 ((gi s107 0 60) + w108)) (fun s111 => lt (si s111 0 61 ((gi s111 0 61) + ((q55.1 + q58.1) + w30))) (fun s112 => lt (si s112 0 62 ((gi s112 0 62) + w30)) (fun s113 => some s113))))))))))))))))))))))))))))))))))))))))))))))))))))))))))))))))))))))
set_option maxRecDepth 20000 in
theorem kX12_meets {g : GX} {p0 : Int32} {s : ST} {q : ST} (hf : fX12_meets p0 s = some q) : Cn g mdX12_meets [.ref 0, .int p0] (mW s) none (mW q) := by
  refine Cn.of (by decide) (Nat.le_of_ble_eq_true rfl) ?_
  show Rn g mdX12_meets 0 [some (.ref 0), some (.int p0), none, none, none, none, none, none, none, none, none, none, none, none, none] [] (mW s) 0 0 none (mW q)
  unfold fX12_meets at hf
  refine o_aload_n (pc := 0) dX12_meets_0 rfl ?_
  refine m_getA (pc := 1) 7 7 (by decide) rfl rfl lkX12_28 dX12_meets_1 ?_
  refine o_iload_n (pc := 4) dX12_meets_4 rfl ?_
  obtain ⟨hk1, hf⟩ := ck_elim hf
  refine m_iald (pc := 5) (by decide) rfl hk1 dX12_meets_5 ?_
  refine lz_i hf (fun v2 hf => ?_)
  refine o_istore_n (pc := 6) dX12_meets_6 (by decide) rfl ?_
  show Rn g mdX12_meets 7 [some (.ref 0), some (.int p0), some (.int v2), none, none, none, none, none, none, none, none, none, none, none, none] [] (mW s) 0 0 none (mW q)
  refine o_aload_n (pc := 7) dX12_meets_7 rfl ?_
  refine m_getA (pc := 8) 8 8 (by decide) rfl rfl lkX12_31 dX12_meets_8 ?_
  refine o_iload_n (pc := 11) dX12_meets_11 rfl ?_
  obtain ⟨hk3, hf⟩ := ck_elim hf
  refine m_iald (pc := 12) (by decide) rfl hk3 dX12_meets_12 ?_
  refine lz_i hf (fun v4 hf => ?_)
  refine o_istore_n (pc := 13) dX12_meets_13 (by decide) rfl ?_
  show Rn g mdX12_meets 14 [some (.ref 0), some (.int p0), some (.int v2), some (.int v4), none, none, none, none, none, none, none, none, none, none, none] [] (mW s) 0 0 none (mW q)
  refine o_aload_n (pc := 14) dX12_meets_14 rfl ?_
  refine m_getI (pc := 15) 57 (by decide) rfl lkX12_154 dX12_meets_15 ?_
  refine o_iload_n (pc := 18) dX12_meets_18 rfl ?_
  obtain ⟨w5, hr6, hf⟩ := bd_elim hf
  have K7 : Rn g mdX12_meets 35 [some (.ref 0), some (.int p0), some (.int v2), some (.int v4), none, none, none, none, none, none, none, none, none, none, none] [.int w5.1] (mW w5.2) 0 0 none (mW q) := by
    refine o_istore (pc := 35) dX12_meets_35 (by decide) rfl ?_
    show Rn g mdX12_meets 37 [some (.ref 0), some (.int p0), some (.int v2), some (.int v4), some (.int w5.1), none, none, none, none, none, none, none, none, none, none] [] (mW w5.2) 0 0 none (mW q)
    refine o_aload_n (pc := 37) dX12_meets_37 rfl ?_
    refine m_getI (pc := 38) 57 (by decide) rfl lkX12_154 dX12_meets_38 ?_
    refine o_iload_n (pc := 41) dX12_meets_41 rfl ?_
    obtain ⟨w10, hr11, hf⟩ := bd_elim hf
    have K12 : Rn g mdX12_meets 58 [some (.ref 0), some (.int p0), some (.int v2), some (.int v4), some (.int w5.1), none, none, none, none, none, none, none, none, none, none] [.int w10.1] (mW w10.2) 0 0 none (mW q) := by
      refine o_istore (pc := 58) dX12_meets_58 (by decide) rfl ?_
      show Rn g mdX12_meets 60 [some (.ref 0), some (.int p0), some (.int v2), some (.int v4), some (.int w5.1), some (.int w10.1), none, none, none, none, none, none, none, none, none] [] (mW w10.2) 0 0 none (mW q)
      refine o_aload_n (pc := 60) dX12_meets_60 rfl ?_
      refine o_iload (pc := 61) dX12_meets_61 rfl ?_
      obtain ⟨q16, hk15, hf⟩ := bd_elim hf
      refine m_callV (pc := 63) [.int w5.1] dX12_meets_63 (kX12_drawnMore hk15) stX12_427 ⟨by decide, by decide, by decide, by decide⟩ ⟨rfl, rfl⟩ (Nat.le_of_ble_eq_true rfl) ?_
      show Rn g mdX12_meets 66 [some (.ref 0), some (.int p0), some (.int v2), some (.int v4), some (.int w5.1), some (.int w10.1), none, none, none, none, none, none, none, none, none] [.int q16.1] (mW q16.2) 0 0 none (mW q)
      refine o_istore (pc := 66) dX12_meets_66 (by decide) rfl ?_
      show Rn g mdX12_meets 68 [some (.ref 0), some (.int p0), some (.int v2), some (.int v4), some (.int q16.1), some (.int w10.1), none, none, none, none, none, none, none, none, none] [] (mW q16.2) 0 0 none (mW q)
      refine o_aload_n (pc := 68) dX12_meets_68 rfl ?_
      refine o_iload (pc := 69) dX12_meets_69 rfl ?_
      obtain ⟨q18, hk17, hf⟩ := bd_elim hf
      refine m_callV (pc := 71) [.int w10.1] dX12_meets_71 (kX12_drawnMore hk17) stX12_427 ⟨by decide, by decide, by decide, by decide⟩ ⟨rfl, rfl⟩ (Nat.le_of_ble_eq_true rfl) ?_
      show Rn g mdX12_meets 74 [some (.ref 0), some (.int p0), some (.int v2), some (.int v4), some (.int q16.1), some (.int w10.1), none, none, none, none, none, none, none, none, none] [.int q18.1] (mW q18.2) 0 0 none (mW q)
      refine o_istore (pc := 74) dX12_meets_74 (by decide) rfl ?_
      show Rn g mdX12_meets 76 [some (.ref 0), some (.int p0), some (.int v2), some (.int v4), some (.int q16.1), some (.int q18.1), none, none, none, none, none, none, none, none, none] [] (mW q18.2) 0 0 none (mW q)
      refine o_aload_n (pc := 76) dX12_meets_76 rfl ?_
      refine o_iload_n (pc := 77) dX12_meets_77 rfl ?_
      refine o_iload_n (pc := 78) dX12_meets_78 rfl ?_
      refine o_iload (pc := 79) dX12_meets_79 rfl ?_
      obtain ⟨q20, hk19, hf⟩ := bd_elim hf
      refine m_callV (pc := 81) [.int v2, .int p0, .int q16.1] dX12_meets_81 (kX12_comes hk19) stX12_430 ⟨by decide, by decide, by decide, by decide⟩ ⟨rfl, rfl⟩ (Nat.le_of_ble_eq_true rfl) ?_
      show Rn g mdX12_meets 84 [some (.ref 0), some (.int p0), some (.int v2), some (.int v4), some (.int q16.1), some (.int q18.1), none, none, none, none, none, none, none, none, none] [.int q20] (mW q18.2) 0 0 none (mW q)
      refine o_istore (pc := 84) dX12_meets_84 (by decide) rfl ?_
      show Rn g mdX12_meets 86 [some (.ref 0), some (.int p0), some (.int v2), some (.int v4), some (.int q16.1), some (.int q18.1), some (.int q20), none, none, none, none, none, none, none, none] [] (mW q18.2) 0 0 none (mW q)
      refine o_aload_n (pc := 86) dX12_meets_86 rfl ?_
      refine o_iload_n (pc := 87) dX12_meets_87 rfl ?_
      refine o_iload_n (pc := 88) dX12_meets_88 rfl ?_
      refine o_iload (pc := 89) dX12_meets_89 rfl ?_
      obtain ⟨q22, hk21, hf⟩ := bd_elim hf
      refine m_callV (pc := 91) [.int v4, .int p0, .int q18.1] dX12_meets_91 (kX12_comes hk21) stX12_430 ⟨by decide, by decide, by decide, by decide⟩ ⟨rfl, rfl⟩ (Nat.le_of_ble_eq_true rfl) ?_
      show Rn g mdX12_meets 94 [some (.ref 0), some (.int p0), some (.int v2), some (.int v4), some (.int q16.1), some (.int q18.1), some (.int q20), none, none, none, none, none, none, none, none] [.int q22] (mW q18.2) 0 0 none (mW q)
      refine o_istore (pc := 94) dX12_meets_94 (by decide) rfl ?_
      show Rn g mdX12_meets 96 [some (.ref 0), some (.int p0), some (.int v2), some (.int v4), some (.int q16.1), some (.int q18.1), some (.int q20), some (.int q22), none, none, none, none, none, none, none] [] (mW q18.2) 0 0 none (mW q)
      refine o_iload (pc := 96) dX12_meets_96 rfl ?_
      refine o_iload (pc := 98) dX12_meets_98 rfl ?_
      obtain ⟨w23, hr24, hf⟩ := bd_elim hf
      have K25 : Rn g mdX12_meets 116 [some (.ref 0), some (.int p0), some (.int v2), some (.int v4), none, none, some (.int q20), some (.int q22), none, none, none, none, none, none, none] [.int w23] (mW q18.2) 0 0 none (mW q) := by
        refine o_istore (pc := 116) dX12_meets_116 (by decide) rfl ?_
        show Rn g mdX12_meets 118 [some (.ref 0), some (.int p0), some (.int v2), some (.int v4), none, none, some (.int q20), some (.int q22), some (.int w23), none, none, none, none, none, none] [] (mW q18.2) 0 0 none (mW q)
        refine o_iload (pc := 118) dX12_meets_118 rfl ?_
        refine o_aload_n (pc := 120) dX12_meets_120 rfl ?_
        refine m_getA (pc := 121) 1 1 (by decide) rfl rfl lkX12_9 dX12_meets_121 ?_
        refine o_iconst (pc := 124) (v := 2) dX12_meets_124 rfl ?_
        obtain ⟨hk26, hf⟩ := ck_elim hf
        refine m_iald (pc := 125) (by decide) rfl hk26 dX12_meets_125 ?_
        obtain ⟨w27, hr28, hf⟩ := bd_elim hf
        have K29 : Rn g mdX12_meets 134 [some (.ref 0), some (.int p0), some (.int v2), some (.int v4), none, none, some (.int q20), some (.int q22), some (.int w23), none, none, none, none, none, none] [.int w27] (mW q18.2) 0 0 none (mW q) := by
          refine o_istore (pc := 134) dX12_meets_134 (by decide) rfl ?_
          show Rn g mdX12_meets 136 [some (.ref 0), some (.int p0), some (.int v2), some (.int v4), none, none, some (.int q20), some (.int q22), some (.int w23), some (.int w27), none, none, none, none, none] [] (mW q18.2) 0 0 none (mW q)
          refine o_iload (pc := 136) dX12_meets_136 rfl ?_
          obtain ⟨w30, hr31, hf⟩ := bd_elim hf
          have K32 : Rn g mdX12_meets 152 [some (.ref 0), some (.int p0), some (.int v2), some (.int v4), none, none, some (.int q20), some (.int q22), none, some (.int w27), none, none, none, none, none] [.int w30] (mW q18.2) 0 0 none (mW q) := by
            refine o_istore (pc := 152) dX12_meets_152 (by decide) rfl ?_
            show Rn g mdX12_meets 154 [some (.ref 0), some (.int p0), some (.int v2), some (.int v4), none, none, some (.int q20), some (.int q22), none, some (.int w27), some (.int w30), none, none, none, none] [] (mW q18.2) 0 0 none (mW q)
            refine o_iload (pc := 154) dX12_meets_154 rfl ?_
            refine o_iload (pc := 156) dX12_meets_156 rfl ?_
            obtain ⟨w34, hr35, hf⟩ := bd_elim hf
            have K36 : Rn g mdX12_meets 166 [some (.ref 0), some (.int p0), some (.int v2), some (.int v4), none, none, some (.int q20), some (.int q22), none, some (.int w27), some (.int w30), none, none, none, none] [.int w34] (mW q18.2) 0 0 none (mW q) := by
              refine o_istore (pc := 166) dX12_meets_166 (by decide) rfl ?_
              show Rn g mdX12_meets 168 [some (.ref 0), some (.int p0), some (.int v2), some (.int v4), none, none, some (.int q20), some (.int q22), none, some (.int w27), some (.int w30), some (.int w34), none, none, none] [] (mW q18.2) 0 0 none (mW q)
              refine o_iload (pc := 168) dX12_meets_168 rfl ?_
              refine o_iload (pc := 170) dX12_meets_170 rfl ?_
              obtain ⟨w37, hr38, hf⟩ := bd_elim hf
              have K39 : Rn g mdX12_meets 182 [some (.ref 0), some (.int p0), some (.int v2), some (.int v4), none, none, some (.int q20), some (.int q22), none, some (.int w27), some (.int w30), some (.int w34), none, none, none] [.int w37] (mW q18.2) 0 0 none (mW q) := by
                refine o_istore (pc := 182) dX12_meets_182 (by decide) rfl ?_
                show Rn g mdX12_meets 184 [some (.ref 0), some (.int p0), some (.int v2), some (.int v4), none, none, some (.int q20), some (.int q22), none, some (.int w27), some (.int w30), some (.int w34), some (.int w37), none, none] [] (mW q18.2) 0 0 none (mW q)
                refine o_aload_n (pc := 184) dX12_meets_184 rfl ?_
                refine m_getA (pc := 185) 50 40 (by decide) rfl rfl lkX12_133 dX12_meets_185 ?_
                refine o_iload_n (pc := 188) dX12_meets_188 rfl ?_
                refine o_iload (pc := 189) dX12_meets_189 rfl ?_
                obtain ⟨w40, hr41, hf⟩ := bd_elim hf
                have K42 : Rn g mdX12_meets 200 [some (.ref 0), some (.int p0), some (.int v2), some (.int v4), none, none, some (.int q20), some (.int q22), none, some (.int w27), some (.int w30), some (.int w34), some (.int w37), none, none] [.int w40, .int p0, .ref 40] (mW q18.2) 0 0 none (mW q) := by
                  obtain ⟨hk43, hf⟩ := ck_elim hf
                  refine m_iast (pc := 200) (by decide) rfl hk43 dX12_meets_200 ?_
                  refine lz_s (mW) hf (fun s44 hf => ?_)
                  show Rn g mdX12_meets 201 [some (.ref 0), some (.int p0), some (.int v2), some (.int v4), none, none, some (.int q20), some (.int q22), none, some (.int w27), some (.int w30), some (.int w34), some (.int w37), none, none] [] (mW s44) 0 0 none (mW q)
                  refine o_aload_n (pc := 201) dX12_meets_201 rfl ?_
                  refine m_getA (pc := 202) 51 41 (by decide) rfl rfl lkX12_136 dX12_meets_202 ?_
                  refine o_iload_n (pc := 205) dX12_meets_205 rfl ?_
                  refine o_iload (pc := 206) dX12_meets_206 rfl ?_
                  refine o_aload_n (pc := 208) dX12_meets_208 rfl ?_
                  refine m_getA (pc := 209) 9 9 (by decide) rfl rfl lkX12_34 dX12_meets_209 ?_
                  refine o_iload_n (pc := 212) dX12_meets_212 rfl ?_
                  obtain ⟨hk45, hf⟩ := ck_elim hf
                  refine m_iald (pc := 213) (by decide) rfl hk45 dX12_meets_213 ?_
                  refine o_isub (pc := 214) dX12_meets_214 ?_
                  obtain ⟨hk46, hf⟩ := ck_elim hf
                  refine m_iast (pc := 215) (by decide) rfl hk46 dX12_meets_215 ?_
                  refine lz_s (mW) hf (fun s47 hf => ?_)
                  show Rn g mdX12_meets 216 [some (.ref 0), some (.int p0), some (.int v2), some (.int v4), none, none, some (.int q20), some (.int q22), none, some (.int w27), some (.int w30), some (.int w34), some (.int w37), none, none] [] (mW s47) 0 0 none (mW q)
                  refine o_aload_n (pc := 216) dX12_meets_216 rfl ?_
                  refine m_getA (pc := 217) 52 42 (by decide) rfl rfl lkX12_139 dX12_meets_217 ?_
                  refine o_iload_n (pc := 220) dX12_meets_220 rfl ?_
                  refine o_iload (pc := 221) dX12_meets_221 rfl ?_
                  refine o_aload_n (pc := 223) dX12_meets_223 rfl ?_
                  refine m_getA (pc := 224) 9 9 (by decide) rfl rfl lkX12_34 dX12_meets_224 ?_
                  refine o_iload_n (pc := 227) dX12_meets_227 rfl ?_
                  obtain ⟨hk48, hf⟩ := ck_elim hf
                  refine m_iald (pc := 228) (by decide) rfl hk48 dX12_meets_228 ?_
                  refine o_isub (pc := 229) dX12_meets_229 ?_
                  obtain ⟨hk49, hf⟩ := ck_elim hf
                  refine m_iast (pc := 230) (by decide) rfl hk49 dX12_meets_230 ?_
                  refine lz_s (mW) hf (fun s50 hf => ?_)
                  show Rn g mdX12_meets 231 [some (.ref 0), some (.int p0), some (.int v2), some (.int v4), none, none, some (.int q20), some (.int q22), none, some (.int w27), some (.int w30), some (.int w34), some (.int w37), none, none] [] (mW s50) 0 0 none (mW q)
                  refine o_aload_n (pc := 231) dX12_meets_231 rfl ?_
                  refine m_getA (pc := 232) 53 43 (by decide) rfl rfl lkX12_142 dX12_meets_232 ?_
                  refine o_iload_n (pc := 235) dX12_meets_235 rfl ?_
                  refine o_iload (pc := 236) dX12_meets_236 rfl ?_
                  obtain ⟨hk51, hf⟩ := ck_elim hf
                  refine m_iast (pc := 238) (by decide) rfl hk51 dX12_meets_238 ?_
                  refine lz_s (mW) hf (fun s52 hf => ?_)
                  show Rn g mdX12_meets 239 [some (.ref 0), some (.int p0), some (.int v2), some (.int v4), none, none, some (.int q20), some (.int q22), none, some (.int w27), some (.int w30), some (.int w34), some (.int w37), none, none] [] (mW s52) 0 0 none (mW q)
                  refine o_aload_n (pc := 239) dX12_meets_239 rfl ?_
                  refine o_iload_n (pc := 240) dX12_meets_240 rfl ?_
                  refine o_aload_n (pc := 241) dX12_meets_241 rfl ?_
                  refine m_getA (pc := 242) 51 41 (by decide) rfl rfl lkX12_136 dX12_meets_242 ?_
                  refine o_iload_n (pc := 245) dX12_meets_245 rfl ?_
                  obtain ⟨hk53, hf⟩ := ck_elim hf
                  refine m_iald (pc := 246) (by decide) rfl hk53 dX12_meets_246 ?_
                  obtain ⟨q55, hk54, hf⟩ := bd_elim hf
                  refine m_callV (pc := 247) [.int v2, .int (gi s52 41 (ix p0))] dX12_meets_247 (kX12_finesOf hk54) stX12_434 ⟨by decide, by decide, by decide, by decide⟩ ⟨rfl, rfl⟩ (Nat.le_of_ble_eq_true rfl) ?_
                  show Rn g mdX12_meets 250 [some (.ref 0), some (.int p0), some (.int v2), some (.int v4), none, none, some (.int q20), some (.int q22), none, some (.int w27), some (.int w30), some (.int w34), some (.int w37), none, none] [.int q55.1] (mW q55.2) 0 0 none (mW q)
                  refine o_istore (pc := 250) dX12_meets_250 (by decide) rfl ?_
                  show Rn g mdX12_meets 252 [some (.ref 0), some (.int p0), some (.int v2), some (.int v4), none, none, some (.int q20), some (.int q22), none, some (.int w27), some (.int w30), some (.int w34), some (.int w37), some (.int q55.1), none] [] (mW q55.2) 0 0 none (mW q)
                  refine o_aload_n (pc := 252) dX12_meets_252 rfl ?_
                  refine o_iload_n (pc := 253) dX12_meets_253 rfl ?_
                  refine o_aload_n (pc := 254) dX12_meets_254 rfl ?_
                  refine m_getA (pc := 255) 52 42 (by decide) rfl rfl lkX12_139 dX12_meets_255 ?_
                  refine o_iload_n (pc := 258) dX12_meets_258 rfl ?_
                  obtain ⟨hk56, hf⟩ := ck_elim hf
                  refine m_iald (pc := 259) (by decide) rfl hk56 dX12_meets_259 ?_
                  obtain ⟨q58, hk57, hf⟩ := bd_elim hf
                  refine m_callV (pc := 260) [.int v4, .int (gi q55.2 42 (ix p0))] dX12_meets_260 (kX12_finesOf hk57) stX12_434 ⟨by decide, by decide, by decide, by decide⟩ ⟨rfl, rfl⟩ (Nat.le_of_ble_eq_true rfl) ?_
                  show Rn g mdX12_meets 263 [some (.ref 0), some (.int p0), some (.int v2), some (.int v4), none, none, some (.int q20), some (.int q22), none, some (.int w27), some (.int w30), some (.int w34), some (.int w37), some (.int q55.1), none] [.int q58.1] (mW q58.2) 0 0 none (mW q)
                  refine o_istore (pc := 263) dX12_meets_263 (by decide) rfl ?_
                  show Rn g mdX12_meets 265 [some (.ref 0), some (.int p0), some (.int v2), some (.int v4), none, none, some (.int q20), some (.int q22), none, some (.int w27), some (.int w30), some (.int w34), some (.int w37), some (.int q55.1), some (.int q58.1)] [] (mW q58.2) 0 0 none (mW q)
                  refine o_aload_n (pc := 265) dX12_meets_265 rfl ?_
                  refine m_getA (pc := 266) 54 44 (by decide) rfl rfl lkX12_145 dX12_meets_266 ?_
                  refine o_iload_n (pc := 269) dX12_meets_269 rfl ?_
                  refine o_iload (pc := 270) dX12_meets_270 rfl ?_
                  refine o_iload (pc := 272) dX12_meets_272 rfl ?_
                  refine o_iload_n (pc := 274) dX12_meets_274 rfl ?_
                  obtain ⟨w59, hr60, hf⟩ := bd_elim hf
                  have K61 : Rn g mdX12_meets 284 [some (.ref 0), some (.int p0), some (.int v2), some (.int v4), none, none, some (.int q20), some (.int q22), none, some (.int w27), some (.int w30), some (.int w34), some (.int w37), some (.int q55.1), some (.int q58.1)] [.int w59, .int q55.1, .int p0, .ref 44] (mW q58.2) 0 0 none (mW q) := by
                    refine o_iadd (pc := 284) dX12_meets_284 ?_
                    obtain ⟨hk62, hf⟩ := ck_elim hf
                    refine m_iast (pc := 285) (by decide) rfl hk62 dX12_meets_285 ?_
                    refine lz_s (mW) hf (fun s63 hf => ?_)
                    show Rn g mdX12_meets 286 [some (.ref 0), some (.int p0), some (.int v2), some (.int v4), none, none, some (.int q20), some (.int q22), none, some (.int w27), some (.int w30), some (.int w34), some (.int w37), some (.int q55.1), some (.int q58.1)] [] (mW s63) 0 0 none (mW q)
                    refine o_aload_n (pc := 286) dX12_meets_286 rfl ?_
                    refine m_getA (pc := 287) 55 45 (by decide) rfl rfl lkX12_148 dX12_meets_287 ?_
                    refine o_iload_n (pc := 290) dX12_meets_290 rfl ?_
                    refine o_iload (pc := 291) dX12_meets_291 rfl ?_
                    refine o_iload (pc := 293) dX12_meets_293 rfl ?_
                    refine o_iload_n (pc := 295) dX12_meets_295 rfl ?_
                    obtain ⟨w64, hr65, hf⟩ := bd_elim hf
                    have K66 : Rn g mdX12_meets 305 [some (.ref 0), some (.int p0), some (.int v2), some (.int v4), none, none, some (.int q20), some (.int q22), none, some (.int w27), some (.int w30), some (.int w34), some (.int w37), some (.int q55.1), some (.int q58.1)] [.int w64, .int q58.1, .int p0, .ref 45] (mW s63) 0 0 none (mW q) := by
                      refine o_iadd (pc := 305) dX12_meets_305 ?_
                      obtain ⟨hk67, hf⟩ := ck_elim hf
                      refine m_iast (pc := 306) (by decide) rfl hk67 dX12_meets_306 ?_
                      refine lz_s (mW) hf (fun s68 hf => ?_)
                      show Rn g mdX12_meets 307 [some (.ref 0), some (.int p0), some (.int v2), some (.int v4), none, none, some (.int q20), some (.int q22), none, some (.int w27), some (.int w30), some (.int w34), some (.int w37), some (.int q55.1), some (.int q58.1)] [] (mW s68) 0 0 none (mW q)
                      refine o_aload_n (pc := 307) dX12_meets_307 rfl ?_
                      refine m_getA (pc := 308) 5 5 (by decide) rfl rfl lkX12_22 dX12_meets_308 ?_
                      refine o_iload_n (pc := 311) dX12_meets_311 rfl ?_
                      refine o_dup2 (pc := 312) dX12_meets_312 rfl rfl ?_
                      obtain ⟨hk69, hf⟩ := ck_elim hf
                      refine m_iald (pc := 313) (by decide) rfl hk69 dX12_meets_313 ?_
                      refine o_iload (pc := 314) dX12_meets_314 rfl ?_
                      refine o_iadd (pc := 316) dX12_meets_316 ?_
                      obtain ⟨hk70, hf⟩ := ck_elim hf
                      refine m_iast (pc := 317) (by decide) rfl hk70 dX12_meets_317 ?_
                      refine lz_s (mW) hf (fun s71 hf => ?_)
                      show Rn g mdX12_meets 318 [some (.ref 0), some (.int p0), some (.int v2), some (.int v4), none, none, some (.int q20), some (.int q22), none, some (.int w27), some (.int w30), some (.int w34), some (.int w37), some (.int q55.1), some (.int q58.1)] [] (mW s71) 0 0 none (mW q)
                      refine o_aload_n (pc := 318) dX12_meets_318 rfl ?_
                      refine m_getA (pc := 319) 5 5 (by decide) rfl rfl lkX12_22 dX12_meets_319 ?_
                      refine o_iload_n (pc := 322) dX12_meets_322 rfl ?_
                      refine o_dup2 (pc := 323) dX12_meets_323 rfl rfl ?_
                      obtain ⟨hk72, hf⟩ := ck_elim hf
                      refine m_iald (pc := 324) (by decide) rfl hk72 dX12_meets_324 ?_
                      refine o_iload (pc := 325) dX12_meets_325 rfl ?_
                      refine o_iadd (pc := 327) dX12_meets_327 ?_
                      obtain ⟨hk73, hf⟩ := ck_elim hf
                      refine m_iast (pc := 328) (by decide) rfl hk73 dX12_meets_328 ?_
                      refine lz_s (mW) hf (fun s74 hf => ?_)
                      show Rn g mdX12_meets 329 [some (.ref 0), some (.int p0), some (.int v2), some (.int v4), none, none, some (.int q20), some (.int q22), none, some (.int w27), some (.int w30), some (.int w34), some (.int w37), some (.int q55.1), some (.int q58.1)] [] (mW s74) 0 0 none (mW q)
                      refine o_aload_n (pc := 329) dX12_meets_329 rfl ?_
                      refine m_getA (pc := 330) 6 6 (by decide) rfl rfl lkX12_25 dX12_meets_330 ?_
                      refine o_iload (pc := 333) dX12_meets_333 rfl ?_
                      refine o_dup2 (pc := 335) dX12_meets_335 rfl rfl ?_
                      obtain ⟨hk75, hf⟩ := ck_elim hf
                      refine m_iald (pc := 336) (by decide) rfl hk75 dX12_meets_336 ?_
                      refine o_iload (pc := 337) dX12_meets_337 rfl ?_
                      refine o_iadd (pc := 339) dX12_meets_339 ?_
                      obtain ⟨hk76, hf⟩ := ck_elim hf
                      refine m_iast (pc := 340) (by decide) rfl hk76 dX12_meets_340 ?_
                      refine lz_s (mW) hf (fun s77 hf => ?_)
                      show Rn g mdX12_meets 341 [some (.ref 0), some (.int p0), some (.int v2), some (.int v4), none, none, some (.int q20), some (.int q22), none, some (.int w27), some (.int w30), some (.int w34), some (.int w37), some (.int q55.1), some (.int q58.1)] [] (mW s77) 0 0 none (mW q)
                      refine o_aload_n (pc := 341) dX12_meets_341 rfl ?_
                      refine m_getA (pc := 342) 47 37 (by decide) rfl rfl lkX12_124 dX12_meets_342 ?_
                      refine o_iload_n (pc := 345) dX12_meets_345 rfl ?_
                      refine o_iload (pc := 346) dX12_meets_346 rfl ?_
                      obtain ⟨w78, hr79, hf⟩ := bd_elim hf
                      have K80 : Rn g mdX12_meets 379 [some (.ref 0), some (.int p0), some (.int v2), some (.int v4), none, none, none, some (.int q22), none, some (.int w27), some (.int w30), some (.int w34), some (.int w37), some (.int q55.1), some (.int q58.1)] [.int w78, .int v2, .ref 37] (mW s77) 0 0 none (mW q) := by
                        obtain ⟨hk82, hf⟩ := ck_elim hf
                        refine m_iast (pc := 379) (by decide) rfl hk82 dX12_meets_379 ?_
                        refine lz_s (mW) hf (fun s83 hf => ?_)
                        show Rn g mdX12_meets 380 [some (.ref 0), some (.int p0), some (.int v2), some (.int v4), none, none, none, some (.int q22), none, some (.int w27), some (.int w30), some (.int w34), some (.int w37), some (.int q55.1), some (.int q58.1)] [] (mW s83) 0 0 none (mW q)
                        refine o_aload_n (pc := 380) dX12_meets_380 rfl ?_
                        refine m_getA (pc := 381) 47 37 (by decide) rfl rfl lkX12_124 dX12_meets_381 ?_
                        refine o_iload_n (pc := 384) dX12_meets_384 rfl ?_
                        refine o_iload (pc := 385) dX12_meets_385 rfl ?_
                        obtain ⟨w84, hr85, hf⟩ := bd_elim hf
                        have K86 : Rn g mdX12_meets 418 [some (.ref 0), some (.int p0), some (.int v2), some (.int v4), none, none, none, none, none, some (.int w27), some (.int w30), none, none, some (.int q55.1), some (.int q58.1)] [.int w84, .int v4, .ref 37] (mW s83) 0 0 none (mW q) := by
                          obtain ⟨hk88, hf⟩ := ck_elim hf
                          refine m_iast (pc := 418) (by decide) rfl hk88 dX12_meets_418 ?_
                          refine lz_s (mW) hf (fun s89 hf => ?_)
                          show Rn g mdX12_meets 419 [some (.ref 0), some (.int p0), some (.int v2), some (.int v4), none, none, none, none, none, some (.int w27), some (.int w30), none, none, some (.int q55.1), some (.int q58.1)] [] (mW s89) 0 0 none (mW q)
                          refine o_aload_n (pc := 419) dX12_meets_419 rfl ?_
                          refine m_getA (pc := 420) 4 4 (by decide) rfl rfl lkX12_19 dX12_meets_420 ?_
                          refine o_iload_n (pc := 423) dX12_meets_423 rfl ?_
                          refine o_aload_n (pc := 424) dX12_meets_424 rfl ?_
                          refine m_getA (pc := 425) 51 41 (by decide) rfl rfl lkX12_136 dX12_meets_425 ?_
                          refine o_iload_n (pc := 428) dX12_meets_428 rfl ?_
                          obtain ⟨hk90, hf⟩ := ck_elim hf
                          refine m_iald (pc := 429) (by decide) rfl hk90 dX12_meets_429 ?_
                          obtain ⟨hk91, hf⟩ := ck_elim hf
                          refine m_iast (pc := 430) (by decide) rfl hk91 dX12_meets_430 ?_
                          refine lz_s (mW) hf (fun s92 hf => ?_)
                          show Rn g mdX12_meets 431 [some (.ref 0), some (.int p0), some (.int v2), some (.int v4), none, none, none, none, none, some (.int w27), some (.int w30), none, none, some (.int q55.1), some (.int q58.1)] [] (mW s92) 0 0 none (mW q)
                          refine o_aload_n (pc := 431) dX12_meets_431 rfl ?_
                          refine m_getA (pc := 432) 4 4 (by decide) rfl rfl lkX12_19 dX12_meets_432 ?_
                          refine o_iload_n (pc := 435) dX12_meets_435 rfl ?_
                          refine o_aload_n (pc := 436) dX12_meets_436 rfl ?_
                          refine m_getA (pc := 437) 52 42 (by decide) rfl rfl lkX12_139 dX12_meets_437 ?_
                          refine o_iload_n (pc := 440) dX12_meets_440 rfl ?_
                          obtain ⟨hk93, hf⟩ := ck_elim hf
                          refine m_iald (pc := 441) (by decide) rfl hk93 dX12_meets_441 ?_
                          obtain ⟨hk94, hf⟩ := ck_elim hf
                          refine m_iast (pc := 442) (by decide) rfl hk94 dX12_meets_442 ?_
                          refine lz_s (mW) hf (fun s95 hf => ?_)
                          show Rn g mdX12_meets 443 [some (.ref 0), some (.int p0), some (.int v2), some (.int v4), none, none, none, none, none, some (.int w27), some (.int w30), none, none, some (.int q55.1), some (.int q58.1)] [] (mW s95) 0 0 none (mW q)
                          refine o_aload_n (pc := 443) dX12_meets_443 rfl ?_
                          refine m_getA (pc := 444) 11 11 (by decide) rfl rfl lkX12_40 dX12_meets_444 ?_
                          refine o_iload_n (pc := 447) dX12_meets_447 rfl ?_
                          refine o_dup2 (pc := 448) dX12_meets_448 rfl rfl ?_
                          obtain ⟨hk96, hf⟩ := ck_elim hf
                          refine m_iald (pc := 449) (by decide) rfl hk96 dX12_meets_449 ?_
                          refine o_iload (pc := 450) dX12_meets_450 rfl ?_
                          obtain ⟨w97, hr98, hf⟩ := bd_elim hf
                          have K99 : Rn g mdX12_meets 460 [some (.ref 0), some (.int p0), none, none, none, none, none, none, none, some (.int w27), some (.int w30), none, none, some (.int q55.1), some (.int q58.1)] [.int w97, .int (gi s95 11 (ix p0)), .int p0, .ref 11] (mW s95) 0 0 none (mW q) := by
                            refine o_iadd (pc := 460) dX12_meets_460 ?_
                            obtain ⟨hk100, hf⟩ := ck_elim hf
                            refine m_iast (pc := 461) (by decide) rfl hk100 dX12_meets_461 ?_
                            refine lz_s (mW) hf (fun s101 hf => ?_)
                            show Rn g mdX12_meets 462 [some (.ref 0), some (.int p0), none, none, none, none, none, none, none, some (.int w27), some (.int w30), none, none, some (.int q55.1), some (.int q58.1)] [] (mW s101) 0 0 none (mW q)
                            refine o_aload_n (pc := 462) dX12_meets_462 rfl ?_
                            refine m_getA (pc := 463) 12 12 (by decide) rfl rfl lkX12_43 dX12_meets_463 ?_
                            refine o_iload_n (pc := 466) dX12_meets_466 rfl ?_
                            refine o_dup2 (pc := 467) dX12_meets_467 rfl rfl ?_
                            obtain ⟨hk102, hf⟩ := ck_elim hf
                            refine m_iald (pc := 468) (by decide) rfl hk102 dX12_meets_468 ?_
                            refine o_iload (pc := 469) dX12_meets_469 rfl ?_
                            obtain ⟨w103, hr104, hf⟩ := bd_elim hf
                            have K105 : Rn g mdX12_meets 479 [some (.ref 0), none, none, none, none, none, none, none, none, some (.int w27), some (.int w30), none, none, some (.int q55.1), some (.int q58.1)] [.int w103, .int (gi s101 12 (ix p0)), .int p0, .ref 12] (mW s101) 0 0 none (mW q) := by
                              refine o_iadd (pc := 479) dX12_meets_479 ?_
                              obtain ⟨hk106, hf⟩ := ck_elim hf
                              refine m_iast (pc := 480) (by decide) rfl hk106 dX12_meets_480 ?_
                              refine lz_s (mW) hf (fun s107 hf => ?_)
                              show Rn g mdX12_meets 481 [some (.ref 0), none, none, none, none, none, none, none, none, some (.int w27), some (.int w30), none, none, some (.int q55.1), some (.int q58.1)] [] (mW s107) 0 0 none (mW q)
                              refine o_aload_n (pc := 481) dX12_meets_481 rfl ?_
                              refine o_dup (pc := 482) dX12_meets_482 rfl ?_
                              refine m_getI (pc := 483) 60 (by decide) rfl lkX12_437 dX12_meets_483 ?_
                              refine o_iload (pc := 486) dX12_meets_486 rfl ?_
                              obtain ⟨w108, hr109, hf⟩ := bd_elim hf
                              have K110 : Rn g mdX12_meets 496 [some (.ref 0), none, none, none, none, none, none, none, none, none, some (.int w30), none, none, some (.int q55.1), some (.int q58.1)] [.int w108, .int (gi s107 0 60), .ref 0] (mW s107) 0 0 none (mW q) := by
                                refine o_iadd (pc := 496) dX12_meets_496 ?_
                                refine m_putI (pc := 497) 60 (by decide) rfl rfl lkX12_437 ⟨rfl, rfl⟩ dX12_meets_497 ?_
                                refine lz_s (mW) hf (fun s111 hf => ?_)
                                show Rn g mdX12_meets 500 [some (.ref 0), none, none, none, none, none, none, none, none, none, some (.int w30), none, none, some (.int q55.1), some (.int q58.1)] [] (mW s111) 0 0 none (mW q)
                                refine o_aload_n (pc := 500) dX12_meets_500 rfl ?_
                                refine o_dup (pc := 501) dX12_meets_501 rfl ?_
                                refine m_getI (pc := 502) 61 (by decide) rfl lkX12_440 dX12_meets_502 ?_
                                refine o_iload (pc := 505) dX12_meets_505 rfl ?_
                                refine o_iload (pc := 507) dX12_meets_507 rfl ?_
                                refine o_iadd (pc := 509) dX12_meets_509 ?_
                                refine o_iload (pc := 510) dX12_meets_510 rfl ?_
                                refine o_iadd (pc := 512) dX12_meets_512 ?_
                                refine o_iadd (pc := 513) dX12_meets_513 ?_
                                refine m_putI (pc := 514) 61 (by decide) rfl rfl lkX12_440 ⟨rfl, rfl⟩ dX12_meets_514 ?_
                                refine lz_s (mW) hf (fun s112 hf => ?_)
                                show Rn g mdX12_meets 517 [some (.ref 0), none, none, none, none, none, none, none, none, none, some (.int w30), none, none, some (.int q55.1), some (.int q58.1)] [] (mW s112) 0 0 none (mW q)
                                refine o_aload_n (pc := 517) dX12_meets_517 rfl ?_
                                refine o_dup (pc := 518) dX12_meets_518 rfl ?_
                                refine m_getI (pc := 519) 62 (by decide) rfl lkX12_443 dX12_meets_519 ?_
                                refine o_iload (pc := 522) dX12_meets_522 rfl ?_
                                refine o_iadd (pc := 524) dX12_meets_524 ?_
                                refine m_putI (pc := 525) 62 (by decide) rfl rfl lkX12_443 ⟨rfl, rfl⟩ dX12_meets_525 ?_
                                refine lz_s (mW) hf (fun s113 hf => ?_)
                                show Rn g mdX12_meets 528 [some (.ref 0), none, none, none, none, none, none, none, none, none, some (.int w30), none, none, some (.int q55.1), some (.int q58.1)] [] (mW s113) 0 0 none (mW q)
                                obtain rfl := Option.some.inj hf
                                exact o_return (pc := 528) dX12_meets_528 rfl (Nat.zero_le _) (Nat.zero_le _)
                              clear hf
                              refine o_if_eq (pc := 488) 495 dX12_meets_488 rfl (fun hc => ?_) (fun hc => ?_)
                              · have hr109 := it_t hr109 hc
                                refine o_iconst (pc := 495) (v := 0) dX12_meets_495 rfl ?_
                                obtain rfl := Option.some.inj hr109
                                refine o_keep [true, false, false, false, false, false, false, false, false, false, true, false, false, true, true] ?_
                                exact K110
                              · have hr109 := it_f hr109 hc
                                refine o_iconst (pc := 491) (v := 1) dX12_meets_491 rfl ?_
                                refine o_goto (pc := 492) 496 dX12_meets_492 rfl ?_
                                obtain rfl := Option.some.inj hr109
                                refine o_keep [true, false, false, false, false, false, false, false, false, false, true, false, false, true, true] ?_
                                exact K110
                            clear hf
                            refine o_if_eq (pc := 471) 478 dX12_meets_471 rfl (fun hc => ?_) (fun hc => ?_)
                            · have hr104 := it_t hr104 hc
                              refine o_iconst (pc := 478) (v := 0) dX12_meets_478 rfl ?_
                              obtain rfl := Option.some.inj hr104
                              refine o_keep [true, false, false, false, false, false, false, false, false, true, true, false, false, true, true] ?_
                              exact K105
                            · have hr104 := it_f hr104 hc
                              refine o_iconst (pc := 474) (v := 1) dX12_meets_474 rfl ?_
                              refine o_goto (pc := 475) 479 dX12_meets_475 rfl ?_
                              obtain rfl := Option.some.inj hr104
                              refine o_keep [true, false, false, false, false, false, false, false, false, true, true, false, false, true, true] ?_
                              exact K105
                          clear hf
                          refine o_if_eq (pc := 452) 459 dX12_meets_452 rfl (fun hc => ?_) (fun hc => ?_)
                          · have hr98 := it_t hr98 hc
                            refine o_iconst (pc := 459) (v := 1) dX12_meets_459 rfl ?_
                            obtain rfl := Option.some.inj hr98
                            refine o_keep [true, true, false, false, false, false, false, false, false, true, true, false, false, true, true] ?_
                            exact K99
                          · have hr98 := it_f hr98 hc
                            refine o_iconst (pc := 455) (v := 0) dX12_meets_455 rfl ?_
                            refine o_goto (pc := 456) 460 dX12_meets_456 rfl ?_
                            obtain rfl := Option.some.inj hr98
                            refine o_keep [true, true, false, false, false, false, false, false, false, true, true, false, false, true, true] ?_
                            exact K99
                        clear hf
                        refine o_if_eq (pc := 387) 409 dX12_meets_387 rfl (fun hc => ?_) (fun hc => ?_)
                        · have hr85 := it_t hr85 hc
                          refine o_iload (pc := 409) dX12_meets_409 rfl ?_
                          refine o_aload_n (pc := 411) dX12_meets_411 rfl ?_
                          refine m_getA (pc := 412) 10 10 (by decide) rfl rfl lkX12_37 dX12_meets_412 ?_
                          refine o_iload_n (pc := 415) dX12_meets_415 rfl ?_
                          obtain ⟨hk87, hr85⟩ := ck_elim hr85
                          refine m_iald (pc := 416) (by decide) rfl hk87 dX12_meets_416 ?_
                          refine o_iadd (pc := 417) dX12_meets_417 ?_
                          obtain rfl := Option.some.inj hr85
                          refine o_keep [true, true, true, true, false, false, false, false, false, true, true, false, false, true, true] ?_
                          exact K86
                        · have hr85 := it_f hr85 hc
                          refine o_iload (pc := 390) dX12_meets_390 rfl ?_
                          refine o_iload_n (pc := 392) dX12_meets_392 rfl ?_
                          refine o_icmp_ne (pc := 393) 404 dX12_meets_393 rfl (fun hc => ?_) (fun hc => ?_)
                          · have hr85 := it_f hr85 hc
                            refine o_iload (pc := 404) dX12_meets_404 rfl ?_
                            refine o_goto (pc := 406) 418 dX12_meets_406 rfl ?_
                            obtain rfl := Option.some.inj hr85
                            refine o_keep [true, true, true, true, false, false, false, false, false, true, true, false, false, true, true] ?_
                            exact K86
                          · have hr85 := it_t hr85 hc
                            refine o_iload (pc := 396) dX12_meets_396 rfl ?_
                            refine o_iload (pc := 398) dX12_meets_398 rfl ?_
                            refine o_iadd (pc := 400) dX12_meets_400 ?_
                            refine o_goto (pc := 401) 418 dX12_meets_401 rfl ?_
                            obtain rfl := Option.some.inj hr85
                            refine o_keep [true, true, true, true, false, false, false, false, false, true, true, false, false, true, true] ?_
                            exact K86
                      clear hf
                      refine o_if_eq (pc := 348) 370 dX12_meets_348 rfl (fun hc => ?_) (fun hc => ?_)
                      · have hr79 := it_t hr79 hc
                        refine o_iload (pc := 370) dX12_meets_370 rfl ?_
                        refine o_aload_n (pc := 372) dX12_meets_372 rfl ?_
                        refine m_getA (pc := 373) 10 10 (by decide) rfl rfl lkX12_37 dX12_meets_373 ?_
                        refine o_iload_n (pc := 376) dX12_meets_376 rfl ?_
                        obtain ⟨hk81, hr79⟩ := ck_elim hr79
                        refine m_iald (pc := 377) (by decide) rfl hk81 dX12_meets_377 ?_
                        refine o_iadd (pc := 378) dX12_meets_378 ?_
                        obtain rfl := Option.some.inj hr79
                        refine o_keep [true, true, true, true, false, false, false, true, false, true, true, true, true, true, true] ?_
                        exact K80
                      · have hr79 := it_f hr79 hc
                        refine o_iload (pc := 351) dX12_meets_351 rfl ?_
                        refine o_iload_n (pc := 353) dX12_meets_353 rfl ?_
                        refine o_icmp_ne (pc := 354) 365 dX12_meets_354 rfl (fun hc => ?_) (fun hc => ?_)
                        · have hr79 := it_f hr79 hc
                          refine o_iload (pc := 365) dX12_meets_365 rfl ?_
                          refine o_goto (pc := 367) 379 dX12_meets_367 rfl ?_
                          obtain rfl := Option.some.inj hr79
                          refine o_keep [true, true, true, true, false, false, false, true, false, true, true, true, true, true, true] ?_
                          exact K80
                        · have hr79 := it_t hr79 hc
                          refine o_iload (pc := 357) dX12_meets_357 rfl ?_
                          refine o_iload (pc := 359) dX12_meets_359 rfl ?_
                          refine o_iadd (pc := 361) dX12_meets_361 ?_
                          refine o_goto (pc := 362) 379 dX12_meets_362 rfl ?_
                          obtain rfl := Option.some.inj hr79
                          refine o_keep [true, true, true, true, false, false, false, true, false, true, true, true, true, true, true] ?_
                          exact K80
                    clear hf
                    refine o_icmp_ne (pc := 296) 304 dX12_meets_296 rfl (fun hc => ?_) (fun hc => ?_)
                    · have hr65 := it_f hr65 hc
                      refine o_iconst (pc := 304) (v := 0) dX12_meets_304 rfl ?_
                      obtain rfl := Option.some.inj hr65
                      exact K66
                    · have hr65 := it_t hr65 hc
                      refine o_iload (pc := 299) dX12_meets_299 rfl ?_
                      refine o_goto (pc := 301) 305 dX12_meets_301 rfl ?_
                      obtain rfl := Option.some.inj hr65
                      exact K66
                  clear hf
                  refine o_icmp_ne (pc := 275) 283 dX12_meets_275 rfl (fun hc => ?_) (fun hc => ?_)
                  · have hr60 := it_f hr60 hc
                    refine o_iconst (pc := 283) (v := 0) dX12_meets_283 rfl ?_
                    obtain rfl := Option.some.inj hr60
                    exact K61
                  · have hr60 := it_t hr60 hc
                    refine o_iload (pc := 278) dX12_meets_278 rfl ?_
                    refine o_goto (pc := 280) 284 dX12_meets_280 rfl ?_
                    obtain rfl := Option.some.inj hr60
                    exact K61
                clear hf
                refine o_if_eq (pc := 191) 198 dX12_meets_191 rfl (fun hc => ?_) (fun hc => ?_)
                · have hr41 := it_t hr41 hc
                  refine o_iload (pc := 198) dX12_meets_198 rfl ?_
                  obtain rfl := Option.some.inj hr41
                  exact K42
                · have hr41 := it_f hr41 hc
                  refine o_iconst (pc := 194) (v := (-1)) dX12_meets_194 rfl ?_
                  refine o_goto (pc := 195) 200 dX12_meets_195 rfl ?_
                  obtain rfl := Option.some.inj hr41
                  exact K42
              clear hf
              refine o_icmp_le (pc := 172) 180 dX12_meets_172 rfl (fun hc => ?_) (fun hc => ?_)
              · have hr38 := it_t hr38 hc
                refine o_iload (pc := 180) dX12_meets_180 rfl ?_
                obtain rfl := Option.some.inj hr38
                exact K39
              · have hr38 := it_f hr38 hc
                refine o_iload (pc := 175) dX12_meets_175 rfl ?_
                refine o_goto (pc := 177) 182 dX12_meets_177 rfl ?_
                obtain rfl := Option.some.inj hr38
                exact K39
            clear hf
            refine o_icmp_ge (pc := 158) 165 dX12_meets_158 rfl (fun hc => ?_) (fun hc => ?_)
            · have hr35 := it_t hr35 hc
              refine o_iload_n (pc := 165) dX12_meets_165 rfl ?_
              obtain rfl := Option.some.inj hr35
              exact K36
            · have hr35 := it_f hr35 hc
              refine o_iload_n (pc := 161) dX12_meets_161 rfl ?_
              refine o_goto (pc := 162) 166 dX12_meets_162 rfl ?_
              obtain rfl := Option.some.inj hr35
              exact K36
          clear hf
          refine o_if_eq (pc := 138) 150 dX12_meets_138 rfl (fun hc => ?_) (fun hc => ?_)
          · have hr31 := it_t hr31 hc
            refine o_iload (pc := 150) dX12_meets_150 rfl ?_
            obtain rfl := Option.some.inj hr31
            refine o_keep [true, true, true, true, false, false, true, true, false, true, false, false, false, false, false] ?_
            exact K32
          · have hr31 := it_f hr31 hc
            refine o_aload_n (pc := 141) dX12_meets_141 rfl ?_
            refine m_getA (pc := 142) 1 1 (by decide) rfl rfl lkX12_9 dX12_meets_142 ?_
            refine o_iconst (pc := 145) (v := 2) dX12_meets_145 rfl ?_
            obtain ⟨hk33, hr31⟩ := ck_elim hr31
            refine m_iald (pc := 146) (by decide) rfl hk33 dX12_meets_146 ?_
            refine o_goto (pc := 147) 152 dX12_meets_147 rfl ?_
            obtain rfl := Option.some.inj hr31
            refine o_keep [true, true, true, true, false, false, true, true, false, true, false, false, false, false, false] ?_
            exact K32
        clear hf
        refine o_icmp_le (pc := 126) 133 dX12_meets_126 rfl (fun hc => ?_) (fun hc => ?_)
        · have hr28 := it_t hr28 hc
          refine o_iconst (pc := 133) (v := 0) dX12_meets_133 rfl ?_
          obtain rfl := Option.some.inj hr28
          exact K29
        · have hr28 := it_f hr28 hc
          refine o_iconst (pc := 129) (v := 1) dX12_meets_129 rfl ?_
          refine o_goto (pc := 130) 134 dX12_meets_130 rfl ?_
          obtain rfl := Option.some.inj hr28
          exact K29
      clear hf
      refine o_icmp_le (pc := 100) 111 dX12_meets_100 rfl (fun hc => ?_) (fun hc => ?_)
      · have hr24 := it_t hr24 hc
        refine o_iload (pc := 111) dX12_meets_111 rfl ?_
        refine o_iload (pc := 113) dX12_meets_113 rfl ?_
        refine o_isub (pc := 115) dX12_meets_115 ?_
        obtain rfl := Option.some.inj hr24
        refine o_keep [true, true, true, true, false, false, true, true, false, false, false, false, false, false, false] ?_
        exact K25
      · have hr24 := it_f hr24 hc
        refine o_iload (pc := 103) dX12_meets_103 rfl ?_
        refine o_iload (pc := 105) dX12_meets_105 rfl ?_
        refine o_isub (pc := 107) dX12_meets_107 ?_
        refine o_goto (pc := 108) 116 dX12_meets_108 rfl ?_
        obtain rfl := Option.some.inj hr24
        refine o_keep [true, true, true, true, false, false, true, true, false, false, false, false, false, false, false] ?_
        exact K25
    clear hf
    refine o_icmp_ne (pc := 42) 52 dX12_meets_42 rfl (fun hc => ?_) (fun hc => ?_)
    · have hr11 := it_f hr11 hc
      refine o_aload_n (pc := 52) dX12_meets_52 rfl ?_
      refine o_iload_n (pc := 53) dX12_meets_53 rfl ?_
      refine o_iload_n (pc := 54) dX12_meets_54 rfl ?_
      obtain ⟨q14, hk13, hr11⟩ := bd_elim hr11
      refine m_callV (pc := 55) [.int v4, .int p0] dX12_meets_55 (kX12_meansOf hk13) stX12_421 ⟨by decide, by decide, by decide, by decide⟩ ⟨rfl, rfl⟩ (Nat.le_of_ble_eq_true rfl) ?_
      show Rn g mdX12_meets 58 [some (.ref 0), some (.int p0), some (.int v2), some (.int v4), some (.int w5.1), none, none, none, none, none, none, none, none, none, none] [.int q14.1] (mW q14.2) 0 0 none (mW q)
      obtain rfl := Option.some.inj hr11
      exact K12
    · have hr11 := it_t hr11 hc
      refine o_aload_n (pc := 45) dX12_meets_45 rfl ?_
      refine m_getI (pc := 46) 59 (by decide) rfl lkX12_424 dX12_meets_46 ?_
      refine o_goto (pc := 49) 58 dX12_meets_49 rfl ?_
      obtain rfl := Option.some.inj hr11
      exact K12
  clear hf
  refine o_icmp_ne (pc := 19) 29 dX12_meets_19 rfl (fun hc => ?_) (fun hc => ?_)
  · have hr6 := it_f hr6 hc
    refine o_aload_n (pc := 29) dX12_meets_29 rfl ?_
    refine o_iload_n (pc := 30) dX12_meets_30 rfl ?_
    refine o_iload_n (pc := 31) dX12_meets_31 rfl ?_
    obtain ⟨q9, hk8, hr6⟩ := bd_elim hr6
    refine m_callV (pc := 32) [.int v2, .int p0] dX12_meets_32 (kX12_meansOf hk8) stX12_421 ⟨by decide, by decide, by decide, by decide⟩ ⟨rfl, rfl⟩ (Nat.le_of_ble_eq_true rfl) ?_
    show Rn g mdX12_meets 35 [some (.ref 0), some (.int p0), some (.int v2), some (.int v4), none, none, none, none, none, none, none, none, none, none, none] [.int q9.1] (mW q9.2) 0 0 none (mW q)
    obtain rfl := Option.some.inj hr6
    exact K7
  · have hr6 := it_t hr6 hc
    refine o_aload_n (pc := 22) dX12_meets_22 rfl ?_
    refine m_getI (pc := 23) 58 (by decide) rfl lkX12_418 dX12_meets_23 ?_
    refine o_goto (pc := 26) 35 dX12_meets_26 rfl ?_
    obtain rfl := Option.some.inj hr6
    exact K7
def fX12_setsClock (p0 : Int32) (s : ST) : Option (ST) :=
  ck (inb p0 5) (ck (inb p0 5) ((if (gi s 39 (ix p0)) ≤ (gi s 38 (ix p0)) then ck (inb p0 5) (ck (inb p0 5) (if (gi s 38 (ix p0)) ≤ (gi s 39 (ix p0)) then some 0 else some (-1))) else some 1 : Option (Int32)).bind (fun w3 => ck (inb p0 5) ((fX12_held (((gi s 3 (ix p0)) + w3).toInt64) (-20) 20 s).bind (fun q10 => ck (inb p0 5) (lt (si s 3 (ix p0) q10) (fun s12 => some s12)))))))
set_option maxRecDepth 20000 in
theorem kX12_setsClock {g : GX} {p0 : Int32} {s : ST} {q : ST} (hf : fX12_setsClock p0 s = some q) : Cn g mdX12_setsClock [.ref 0, .int p0] (mW s) none (mW q) := by
  refine Cn.of (by decide) (Nat.le_of_ble_eq_true rfl) ?_
  show Rn g mdX12_setsClock 0 [some (.ref 0), some (.int p0), none] [] (mW s) 0 0 none (mW q)
  unfold fX12_setsClock at hf
  refine o_aload_n (pc := 0) dX12_setsClock_0 rfl ?_
  refine m_getA (pc := 1) 49 39 (by decide) rfl rfl lkX12_130 dX12_setsClock_1 ?_
  refine o_iload_n (pc := 4) dX12_setsClock_4 rfl ?_
  obtain ⟨hk1, hf⟩ := ck_elim hf
  refine m_iald (pc := 5) (by decide) rfl hk1 dX12_setsClock_5 ?_
  refine o_aload_n (pc := 6) dX12_setsClock_6 rfl ?_
  refine m_getA (pc := 7) 48 38 (by decide) rfl rfl lkX12_127 dX12_setsClock_7 ?_
  refine o_iload_n (pc := 10) dX12_setsClock_10 rfl ?_
  obtain ⟨hk2, hf⟩ := ck_elim hf
  refine m_iald (pc := 11) (by decide) rfl hk2 dX12_setsClock_11 ?_
  obtain ⟨w3, hr4, hf⟩ := bd_elim hf
  have K5 : Rn g mdX12_setsClock 39 [some (.ref 0), some (.int p0), none] [.int w3] (mW s) 0 0 none (mW q) := by
    refine o_istore_n (pc := 39) dX12_setsClock_39 (by decide) rfl ?_
    show Rn g mdX12_setsClock 40 [some (.ref 0), some (.int p0), some (.int w3)] [] (mW s) 0 0 none (mW q)
    refine o_aload_n (pc := 40) dX12_setsClock_40 rfl ?_
    refine m_getA (pc := 41) 3 3 (by decide) rfl rfl lkX12_16 dX12_setsClock_41 ?_
    refine o_iload_n (pc := 44) dX12_setsClock_44 rfl ?_
    refine o_aload_n (pc := 45) dX12_setsClock_45 rfl ?_
    refine m_getA (pc := 46) 3 3 (by decide) rfl rfl lkX12_16 dX12_setsClock_46 ?_
    refine o_iload_n (pc := 49) dX12_setsClock_49 rfl ?_
    obtain ⟨hk8, hf⟩ := ck_elim hf
    refine m_iald (pc := 50) (by decide) rfl hk8 dX12_setsClock_50 ?_
    refine o_iload_n (pc := 51) dX12_setsClock_51 rfl ?_
    refine o_iadd (pc := 52) dX12_setsClock_52 ?_
    refine o_i2l (pc := 53) dX12_setsClock_53 ?_
    refine o_bipush (pc := 54) (v := (-20)) dX12_setsClock_54 rfl ?_
    refine o_bipush (pc := 56) (v := 20) dX12_setsClock_56 rfl ?_
    obtain ⟨q10, hk9, hf⟩ := bd_elim hf
    refine m_callS (pc := 58) [.long (((gi s 3 (ix p0)) + w3).toInt64), .int (-20), .int 20] dX12_setsClock_58 (kX12_held hk9) stX12_399 ⟨by decide, by decide, by decide, by decide⟩ ⟨rfl, rfl⟩ (Nat.le_of_ble_eq_true rfl) ?_
    show Rn g mdX12_setsClock 61 [some (.ref 0), some (.int p0), some (.int w3)] [.int q10, .int p0, .ref 3] (mW s) 0 0 none (mW q)
    obtain ⟨hk11, hf⟩ := ck_elim hf
    refine m_iast (pc := 61) (by decide) rfl hk11 dX12_setsClock_61 ?_
    refine lz_s (mW) hf (fun s12 hf => ?_)
    show Rn g mdX12_setsClock 62 [some (.ref 0), some (.int p0), some (.int w3)] [] (mW s12) 0 0 none (mW q)
    obtain rfl := Option.some.inj hf
    exact o_return (pc := 62) dX12_setsClock_62 rfl (Nat.zero_le _) (Nat.zero_le _)
  clear hf
  refine o_icmp_le (pc := 12) 19 dX12_setsClock_12 rfl (fun hc => ?_) (fun hc => ?_)
  · have hr4 := it_t hr4 hc
    refine o_aload_n (pc := 19) dX12_setsClock_19 rfl ?_
    refine m_getA (pc := 20) 49 39 (by decide) rfl rfl lkX12_130 dX12_setsClock_20 ?_
    refine o_iload_n (pc := 23) dX12_setsClock_23 rfl ?_
    obtain ⟨hk6, hr4⟩ := ck_elim hr4
    refine m_iald (pc := 24) (by decide) rfl hk6 dX12_setsClock_24 ?_
    refine o_aload_n (pc := 25) dX12_setsClock_25 rfl ?_
    refine m_getA (pc := 26) 48 38 (by decide) rfl rfl lkX12_127 dX12_setsClock_26 ?_
    refine o_iload_n (pc := 29) dX12_setsClock_29 rfl ?_
    obtain ⟨hk7, hr4⟩ := ck_elim hr4
    refine m_iald (pc := 30) (by decide) rfl hk7 dX12_setsClock_30 ?_
    refine o_icmp_ge (pc := 31) 38 dX12_setsClock_31 rfl (fun hc => ?_) (fun hc => ?_)
    · have hr4 := it_t hr4 hc
      refine o_iconst (pc := 38) (v := 0) dX12_setsClock_38 rfl ?_
      obtain rfl := Option.some.inj hr4
      exact K5
    · have hr4 := it_f hr4 hc
      refine o_iconst (pc := 34) (v := (-1)) dX12_setsClock_34 rfl ?_
      refine o_goto (pc := 35) 39 dX12_setsClock_35 rfl ?_
      obtain rfl := Option.some.inj hr4
      exact K5
  · have hr4 := it_f hr4 hc
    refine o_iconst (pc := 15) (v := 1) dX12_setsClock_15 rfl ?_
    refine o_goto (pc := 16) 39 dX12_setsClock_16 rfl ?_
    obtain rfl := Option.some.inj hr4
    exact K5
def fX12_dayGoes_L21 : Nat → Int32 → ST → Option (Int32 × ST)
  | 0, _, _ => none
  | n + 1, x1, s => if 5 ≤ x1 then some (x1, s) else ck (inb x1 5) (lt (si s 37 (ix x1) (-1000000)) (fun s7 => ck (inb x1 5) (lt (si s7 38 (ix x1) 0) (fun s9 => ck (inb x1 5) (lt (si s9 39 (ix x1) 0) (fun s11 => lt (x1 + 1) (fun v12 => fX12_dayGoes_L21 n v12 s11)))))))
def fX12_dayGoes_L57 : Nat → Int32 → ST → Option (Int32 × ST)
  | 0, _, _ => none
  | n + 1, x1, s => ck (inb 4 13) (if (gi s 1 (ix 4)) ≤ x1 then some (x1, s) else ck (inb x1 8) ((if (gi s 36 (ix x1)) = (gi s 0 56) then some s else ck (inb x1 8) ((fX12_meets (gi s 36 (ix x1)) s).bind (fun q23 => some q23)) : Option (ST)).bind (fun w18 => lt (x1 + 1) (fun v24 => fX12_dayGoes_L57 n v24 w18))))
def fX12_dayGoes_L98 : Nat → Int32 → ST → Option (Int32 × ST)
  | 0, _, _ => none
  | n + 1, x1, s => ck (inb 3 13) (if (gi s 1 (ix 3)) ≤ x1 then some (x1, s) else (fX12_setsClock x1 s).bind (fun q30 => lt (x1 + 1) (fun v31 => fX12_dayGoes_L98 n v31 q30)))
def fX12_dayGoes (s : ST) : Option (Int32 × ST) :=
  (fX12_laysOrder s).bind (fun q2 => lt (si q2 0 60 0) (fun s3 => lt (si s3 0 61 0) (fun s4 => lt (si s4 0 62 0) (fun s5 => (fX12_dayGoes_L21 FUEL 0 s5).bind (fun w13 => (fX12_dayGoes_L57 FUEL 0 w13.2).bind (fun w25 => (fX12_dayGoes_L98 FUEL 0 w25.2).bind (fun w32 => ck (inb 9 13) (ck (inb 9 13) (lt (si w32.2 1 (ix 9) ((gi w32.2 1 (ix 9)) + 1)) (fun s37 => some (gi s37 0 60, s37)))))))))))
set_option maxRecDepth 20000 in
theorem kX12_dayGoes_L21 {g : GX} {r : Option Value} {h2 : PH} : ∀ (n : Nat) (x1 : Int32) (s : ST) {w : Int32 × ST}, fX12_dayGoes_L21 n x1 s = some w → Rn g mdX12_dayGoes 55 [some (.ref 0), none] [] (mW w.2) 0 0 r h2 → Rn g mdX12_dayGoes 21 [some (.ref 0), some (.int x1)] [] (mW s) 0 0 r h2 := by
  intro n
  induction n with
  | zero => intro x1 s w hf K; cases hf
  | succ n ih =>
    intro x1 s w hf K
    rw [fX12_dayGoes_L21] at hf
    refine o_iload_n (pc := 21) dX12_dayGoes_21 rfl ?_
    refine o_iconst (pc := 22) (v := 5) dX12_dayGoes_22 rfl ?_
    refine o_icmp_ge (pc := 23) 55 dX12_dayGoes_23 rfl (fun hc => ?_) (fun hc => ?_)
    · have hf := it_t hf hc
      obtain rfl := Option.some.inj hf
      refine o_keep [true, false] ?_
      exact K
    · have hf := it_f hf hc
      refine o_aload_n (pc := 26) dX12_dayGoes_26 rfl ?_
      refine m_getA (pc := 27) 47 37 (by decide) rfl rfl lkX12_124 dX12_dayGoes_27 ?_
      refine o_iload_n (pc := 30) dX12_dayGoes_30 rfl ?_
      refine o_ldcw (pc := 31) dX12_dayGoes_31 lcX12_417 ?_
      obtain ⟨hk6, hf⟩ := ck_elim hf
      refine m_iast (pc := 34) (by decide) rfl hk6 dX12_dayGoes_34 ?_
      refine lz_s (mW) hf (fun s7 hf => ?_)
      show Rn g mdX12_dayGoes 35 [some (.ref 0), some (.int x1)] [] (mW s7) 0 0 r h2
      refine o_aload_n (pc := 35) dX12_dayGoes_35 rfl ?_
      refine m_getA (pc := 36) 48 38 (by decide) rfl rfl lkX12_127 dX12_dayGoes_36 ?_
      refine o_iload_n (pc := 39) dX12_dayGoes_39 rfl ?_
      refine o_iconst (pc := 40) (v := 0) dX12_dayGoes_40 rfl ?_
      obtain ⟨hk8, hf⟩ := ck_elim hf
      refine m_iast (pc := 41) (by decide) rfl hk8 dX12_dayGoes_41 ?_
      refine lz_s (mW) hf (fun s9 hf => ?_)
      show Rn g mdX12_dayGoes 42 [some (.ref 0), some (.int x1)] [] (mW s9) 0 0 r h2
      refine o_aload_n (pc := 42) dX12_dayGoes_42 rfl ?_
      refine m_getA (pc := 43) 49 39 (by decide) rfl rfl lkX12_130 dX12_dayGoes_43 ?_
      refine o_iload_n (pc := 46) dX12_dayGoes_46 rfl ?_
      refine o_iconst (pc := 47) (v := 0) dX12_dayGoes_47 rfl ?_
      obtain ⟨hk10, hf⟩ := ck_elim hf
      refine m_iast (pc := 48) (by decide) rfl hk10 dX12_dayGoes_48 ?_
      refine lz_s (mW) hf (fun s11 hf => ?_)
      show Rn g mdX12_dayGoes 49 [some (.ref 0), some (.int x1)] [] (mW s11) 0 0 r h2
      refine o_iinc (pc := 49) dX12_dayGoes_49 rfl (by decide) rfl ?_
      show Rn g mdX12_dayGoes 52 [some (.ref 0), some (.int (x1 + 1))] [] (mW s11) 0 0 r h2
      obtain ⟨v12, ev12, hf⟩ := lt_elim hf
      rw [ev12]
      show Rn g mdX12_dayGoes 52 [some (.ref 0), some (.int v12)] [] (mW s11) 0 0 r h2
      refine o_goto (pc := 52) 21 dX12_dayGoes_52 rfl ?_
      exact ih _ _ hf K
set_option maxRecDepth 20000 in
theorem kX12_dayGoes_L57 {g : GX} {r : Option Value} {h2 : PH} : ∀ (n : Nat) (x1 : Int32) (s : ST) {w : Int32 × ST}, fX12_dayGoes_L57 n x1 s = some w → Rn g mdX12_dayGoes 96 [some (.ref 0), none] [] (mW w.2) 0 0 r h2 → Rn g mdX12_dayGoes 57 [some (.ref 0), some (.int x1)] [] (mW s) 0 0 r h2 := by
  intro n
  induction n with
  | zero => intro x1 s w hf K; cases hf
  | succ n ih =>
    intro x1 s w hf K
    rw [fX12_dayGoes_L57] at hf
    refine o_iload_n (pc := 57) dX12_dayGoes_57 rfl ?_
    refine o_aload_n (pc := 58) dX12_dayGoes_58 rfl ?_
    refine m_getA (pc := 59) 1 1 (by decide) rfl rfl lkX12_9 dX12_dayGoes_59 ?_
    refine o_iconst (pc := 62) (v := 4) dX12_dayGoes_62 rfl ?_
    obtain ⟨hk16, hf⟩ := ck_elim hf
    refine m_iald (pc := 63) (by decide) rfl hk16 dX12_dayGoes_63 ?_
    refine o_icmp_ge (pc := 64) 96 dX12_dayGoes_64 rfl (fun hc => ?_) (fun hc => ?_)
    · have hf := it_t hf hc
      obtain rfl := Option.some.inj hf
      refine o_keep [true, false] ?_
      exact K
    · have hf := it_f hf hc
      refine o_aload_n (pc := 67) dX12_dayGoes_67 rfl ?_
      refine m_getA (pc := 68) 46 36 (by decide) rfl rfl lkX12_121 dX12_dayGoes_68 ?_
      refine o_iload_n (pc := 71) dX12_dayGoes_71 rfl ?_
      obtain ⟨hk17, hf⟩ := ck_elim hf
      refine m_iald (pc := 72) (by decide) rfl hk17 dX12_dayGoes_72 ?_
      refine o_aload_n (pc := 73) dX12_dayGoes_73 rfl ?_
      refine m_getI (pc := 74) 56 (by decide) rfl lkX12_151 dX12_dayGoes_74 ?_
      obtain ⟨w18, hr19, hf⟩ := bd_elim hf
      have K20 : Rn g mdX12_dayGoes 90 [some (.ref 0), some (.int x1)] [] (mW w18) 0 0 r h2 := by
        refine o_iinc (pc := 90) dX12_dayGoes_90 rfl (by decide) rfl ?_
        show Rn g mdX12_dayGoes 93 [some (.ref 0), some (.int (x1 + 1))] [] (mW w18) 0 0 r h2
        obtain ⟨v24, ev24, hf⟩ := lt_elim hf
        rw [ev24]
        show Rn g mdX12_dayGoes 93 [some (.ref 0), some (.int v24)] [] (mW w18) 0 0 r h2
        refine o_goto (pc := 93) 57 dX12_dayGoes_93 rfl ?_
        exact ih _ _ hf K
      clear hf
      refine o_icmp_eq (pc := 77) 90 dX12_dayGoes_77 rfl (fun hc => ?_) (fun hc => ?_)
      · have hr19 := it_t hr19 hc
        obtain rfl := Option.some.inj hr19
        exact K20
      · have hr19 := it_f hr19 hc
        refine o_aload_n (pc := 80) dX12_dayGoes_80 rfl ?_
        refine o_aload_n (pc := 81) dX12_dayGoes_81 rfl ?_
        refine m_getA (pc := 82) 46 36 (by decide) rfl rfl lkX12_121 dX12_dayGoes_82 ?_
        refine o_iload_n (pc := 85) dX12_dayGoes_85 rfl ?_
        obtain ⟨hk21, hr19⟩ := ck_elim hr19
        refine m_iald (pc := 86) (by decide) rfl hk21 dX12_dayGoes_86 ?_
        obtain ⟨q23, hk22, hr19⟩ := bd_elim hr19
        refine m_callV (pc := 87) [.int (gi s 36 (ix x1))] dX12_dayGoes_87 (kX12_meets hk22) stX12_449 ⟨by decide, by decide, by decide, by decide⟩ ⟨rfl, rfl⟩ (Nat.le_of_ble_eq_true rfl) ?_
        show Rn g mdX12_dayGoes 90 [some (.ref 0), some (.int x1)] [] (mW q23) 0 0 r h2
        obtain rfl := Option.some.inj hr19
        exact K20
set_option maxRecDepth 20000 in
theorem kX12_dayGoes_L98 {g : GX} {r : Option Value} {h2 : PH} : ∀ (n : Nat) (x1 : Int32) (s : ST) {w : Int32 × ST}, fX12_dayGoes_L98 n x1 s = some w → Rn g mdX12_dayGoes 119 [some (.ref 0), none] [] (mW w.2) 0 0 r h2 → Rn g mdX12_dayGoes 98 [some (.ref 0), some (.int x1)] [] (mW s) 0 0 r h2 := by
  intro n
  induction n with
  | zero => intro x1 s w hf K; cases hf
  | succ n ih =>
    intro x1 s w hf K
    rw [fX12_dayGoes_L98] at hf
    refine o_iload_n (pc := 98) dX12_dayGoes_98 rfl ?_
    refine o_aload_n (pc := 99) dX12_dayGoes_99 rfl ?_
    refine m_getA (pc := 100) 1 1 (by decide) rfl rfl lkX12_9 dX12_dayGoes_100 ?_
    refine o_iconst (pc := 103) (v := 3) dX12_dayGoes_103 rfl ?_
    obtain ⟨hk28, hf⟩ := ck_elim hf
    refine m_iald (pc := 104) (by decide) rfl hk28 dX12_dayGoes_104 ?_
    refine o_icmp_ge (pc := 105) 119 dX12_dayGoes_105 rfl (fun hc => ?_) (fun hc => ?_)
    · have hf := it_t hf hc
      obtain rfl := Option.some.inj hf
      refine o_keep [true, false] ?_
      exact K
    · have hf := it_f hf hc
      refine o_aload_n (pc := 108) dX12_dayGoes_108 rfl ?_
      refine o_iload_n (pc := 109) dX12_dayGoes_109 rfl ?_
      obtain ⟨q30, hk29, hf⟩ := bd_elim hf
      refine m_callV (pc := 110) [.int x1] dX12_dayGoes_110 (kX12_setsClock hk29) stX12_452 ⟨by decide, by decide, by decide, by decide⟩ ⟨rfl, rfl⟩ (Nat.le_of_ble_eq_true rfl) ?_
      show Rn g mdX12_dayGoes 113 [some (.ref 0), some (.int x1)] [] (mW q30) 0 0 r h2
      refine o_iinc (pc := 113) dX12_dayGoes_113 rfl (by decide) rfl ?_
      show Rn g mdX12_dayGoes 116 [some (.ref 0), some (.int (x1 + 1))] [] (mW q30) 0 0 r h2
      obtain ⟨v31, ev31, hf⟩ := lt_elim hf
      rw [ev31]
      show Rn g mdX12_dayGoes 116 [some (.ref 0), some (.int v31)] [] (mW q30) 0 0 r h2
      refine o_goto (pc := 116) 98 dX12_dayGoes_116 rfl ?_
      exact ih _ _ hf K
set_option maxRecDepth 20000 in
theorem kX12_dayGoes {g : GX} {s : ST} {q : Int32 × ST} (hf : fX12_dayGoes s = some q) : Cn g mdX12_dayGoes [.ref 0] (mW s) (some (.int q.1)) (mW q.2) := by
  refine Cn.of (by decide) (Nat.le_of_ble_eq_true rfl) ?_
  show Rn g mdX12_dayGoes 0 [some (.ref 0), none] [] (mW s) 0 0 (some (.int q.1)) (mW q.2)
  unfold fX12_dayGoes at hf
  refine o_aload_n (pc := 0) dX12_dayGoes_0 rfl ?_
  obtain ⟨q2, hk1, hf⟩ := bd_elim hf
  refine m_callV (pc := 1) [] dX12_dayGoes_1 (kX12_laysOrder hk1) stX12_446 ⟨by decide, by decide, by decide, by decide⟩ ⟨rfl, rfl⟩ (Nat.le_of_ble_eq_true rfl) ?_
  show Rn g mdX12_dayGoes 4 [some (.ref 0), none] [] (mW q2) 0 0 (some (.int q.1)) (mW q.2)
  refine o_aload_n (pc := 4) dX12_dayGoes_4 rfl ?_
  refine o_iconst (pc := 5) (v := 0) dX12_dayGoes_5 rfl ?_
  refine m_putI (pc := 6) 60 (by decide) rfl rfl lkX12_437 ⟨rfl, rfl⟩ dX12_dayGoes_6 ?_
  refine lz_s (mW) hf (fun s3 hf => ?_)
  show Rn g mdX12_dayGoes 9 [some (.ref 0), none] [] (mW s3) 0 0 (some (.int q.1)) (mW q.2)
  refine o_aload_n (pc := 9) dX12_dayGoes_9 rfl ?_
  refine o_iconst (pc := 10) (v := 0) dX12_dayGoes_10 rfl ?_
  refine m_putI (pc := 11) 61 (by decide) rfl rfl lkX12_440 ⟨rfl, rfl⟩ dX12_dayGoes_11 ?_
  refine lz_s (mW) hf (fun s4 hf => ?_)
  show Rn g mdX12_dayGoes 14 [some (.ref 0), none] [] (mW s4) 0 0 (some (.int q.1)) (mW q.2)
  refine o_aload_n (pc := 14) dX12_dayGoes_14 rfl ?_
  refine o_iconst (pc := 15) (v := 0) dX12_dayGoes_15 rfl ?_
  refine m_putI (pc := 16) 62 (by decide) rfl rfl lkX12_443 ⟨rfl, rfl⟩ dX12_dayGoes_16 ?_
  refine lz_s (mW) hf (fun s5 hf => ?_)
  show Rn g mdX12_dayGoes 19 [some (.ref 0), none] [] (mW s5) 0 0 (some (.int q.1)) (mW q.2)
  refine o_iconst (pc := 19) (v := 0) dX12_dayGoes_19 rfl ?_
  refine o_istore_n (pc := 20) dX12_dayGoes_20 (by decide) rfl ?_
  show Rn g mdX12_dayGoes 21 [some (.ref 0), some (.int 0)] [] (mW s5) 0 0 (some (.int q.1)) (mW q.2)
  obtain ⟨w13, hl14, hf⟩ := bd_elim hf
  have K15 : Rn g mdX12_dayGoes 55 [some (.ref 0), none] [] (mW w13.2) 0 0 (some (.int q.1)) (mW q.2) := by
    refine o_iconst (pc := 55) (v := 0) dX12_dayGoes_55 rfl ?_
    refine o_istore_n (pc := 56) dX12_dayGoes_56 (by decide) rfl ?_
    show Rn g mdX12_dayGoes 57 [some (.ref 0), some (.int 0)] [] (mW w13.2) 0 0 (some (.int q.1)) (mW q.2)
    obtain ⟨w25, hl26, hf⟩ := bd_elim hf
    have K27 : Rn g mdX12_dayGoes 96 [some (.ref 0), none] [] (mW w25.2) 0 0 (some (.int q.1)) (mW q.2) := by
      refine o_iconst (pc := 96) (v := 0) dX12_dayGoes_96 rfl ?_
      refine o_istore_n (pc := 97) dX12_dayGoes_97 (by decide) rfl ?_
      show Rn g mdX12_dayGoes 98 [some (.ref 0), some (.int 0)] [] (mW w25.2) 0 0 (some (.int q.1)) (mW q.2)
      obtain ⟨w32, hl33, hf⟩ := bd_elim hf
      have K34 : Rn g mdX12_dayGoes 119 [some (.ref 0), none] [] (mW w32.2) 0 0 (some (.int q.1)) (mW q.2) := by
        refine o_aload_n (pc := 119) dX12_dayGoes_119 rfl ?_
        refine m_getA (pc := 120) 1 1 (by decide) rfl rfl lkX12_9 dX12_dayGoes_120 ?_
        refine o_bipush (pc := 123) (v := 9) dX12_dayGoes_123 rfl ?_
        refine o_dup2 (pc := 125) dX12_dayGoes_125 rfl rfl ?_
        obtain ⟨hk35, hf⟩ := ck_elim hf
        refine m_iald (pc := 126) (by decide) rfl hk35 dX12_dayGoes_126 ?_
        refine o_iconst (pc := 127) (v := 1) dX12_dayGoes_127 rfl ?_
        refine o_iadd (pc := 128) dX12_dayGoes_128 ?_
        obtain ⟨hk36, hf⟩ := ck_elim hf
        refine m_iast (pc := 129) (by decide) rfl hk36 dX12_dayGoes_129 ?_
        refine lz_s (mW) hf (fun s37 hf => ?_)
        show Rn g mdX12_dayGoes 130 [some (.ref 0), none] [] (mW s37) 0 0 (some (.int q.1)) (mW q.2)
        refine o_aload_n (pc := 130) dX12_dayGoes_130 rfl ?_
        refine m_getI (pc := 131) 60 (by decide) rfl lkX12_437 dX12_dayGoes_131 ?_
        obtain rfl := Option.some.inj hf
        exact o_ireturn (pc := 134) dX12_dayGoes_134 rfl (Nat.zero_le _) (Nat.zero_le _)
      exact kX12_dayGoes_L98 _ _ _ hl33 K34
    exact kX12_dayGoes_L57 _ _ _ hl26 K27
  exact kX12_dayGoes_L21 _ _ _ hl14 K15
