/-! THE LAW: its loop, and from its entry -/
section LAc
variable {p : Program} {e : Env} {s : State} {m : MethodId} {below : List Frame} {meth : Method} {c : Code} {b L : Nat} {xs : Nat → Int32} {g : GX}
theorem le6 {L i : Nat} (hL : L ≤ 3072) (hi : i ≤ 3072) : (nI L - 6 < nI i) = (L < i + 6) := by
  by_cases h : 6 ≤ L
  · rw [nj_subr h, nj_lt (by omega) (by omega)]
    exact propext (by omega)
  · have h0 : nI L - 6 < 0 := by
      have : L = 0 ∨ L = 1 ∨ L = 2 ∨ L = 3 ∨ L = 4 ∨ L = 5 := by omega
      rcases this with rfl | rfl | rfl | rfl | rfl | rfl <;> decide
    have h1 : 0 ≤ nI i := by rw [nj_lel (by decide) (by omega)]; omega
    have h2 : nI L - 6 < nI i := by grind
    exact propext ⟨fun _ => by omega, fun _ => h2⟩
/-- the law's own end, with 1 on the stack, nothing written that was there before, its room as the claim has it -/
theorem lw_ret {l : Launch} (hx : p.tables.exec = Jvm.exec) (hb : c.code = code) (hr : meth.sig.returnType = ret) (hlocks : meth.locks = false) {pc : Nat} {H : Heap} {ls : Array Slot} (hdg : decode code pc = .ok (.ireturn, 1)) : W p l e room_1 s m #[Value.ref b] below meth c H [] 600000 7302250 (lw_Z below #[Value.ref b] s) (F0 m pc ls [.int 1]) := by
  intro T hT X
  obtain ⟨fs, hret, hrun, hended, hW, hframe⟩ := X.leave (v := some (.int 1)) (hlocks := hlocks) (fun h => by rw [hr] at h; cases h)
  have hmeth' : T.vm.method? m = some meth := X.method'
  refine ⟨T.setFrames fs, ?_, .returned (some (.int 1)), hrun, hended, rfl, ⟨_, rfl⟩, hW, hframe⟩
  jvm_step X.here [X.here.top, hx, hb, hdg, hmeth', hr, ret, narrow_b1]
  (try refine ⟨rfl, ?_⟩); (try refine ⟨rfl, ?_⟩)
  first | (intro acts; rw [hret _ acts rfl rfl rfl]) | rw [hret _ _ rfl rfl rfl]
  exact Steps.refl _
theorem law_loop (hL : L ≤ 3072) (hX : LX g p s m meth c b L xs) : ∀ (k d : Nat) (t : PH) (z z' : ST) (a1 a2 : Nat → Nat) (H : Heap) (locs : List Loc) (ls : Array Slot), L < 6 * d + 6 + 6 * k → 6 * d ≤ 3072 → INV t z z' d → t.1 ≤ 12 * d → TwoH g (lA s) a1 a2 (cW t z) (mW z') H → va_S (lA s) s.heap H locs → lv_has ls 4 [(0, .ref b), (1, .ref (a1 0)), (2, .ref (a2 0)), (3, .int (nI (6 * d)))] →
    W p g.1 e room_1 s m #[Value.ref b] below meth c H locs (104 + 12 * d) (17235 + 1204 * d) (lw_Z below #[Value.ref b] s) (F0 m 18 ls []) := by
  have hx := hX.1.1
  have hb := hX.1.2.1
  have hXs := hX.1.2.2.2.2.2.2.1
  have hbl := hX.1.2.2.2.2.2.2.2.1
  have hbA : ¬ lA s b := Nat.not_le.mpr hbl
  intro k
  induction k with
  | zero =>
    intro d t z z' a1 a2 H locs ls hk hd hI ht hT hS hl
    refine lv_iload_n hx hb dL_18 rfl (lv_at hl 3 rfl) ?_
    refine lv_aload_n hx hb dL_19 rfl (lv_at hl 0 rfl) ?_
    refine va_slen hx hb hXs hbl hbA hS dL_20 ?_
    refine lv_bipush (v := 6) hx hb dL_21 (by decide) ?_
    refine lv_isub hx hb dL_23 ?_
    refine lv_icmp_gt (tgt := 1108) hx hb dL_24 (by decide) (fun _ => ?_) (fun h => absurd (show nI L - 6 < nI (6 * d) by rw [le6 hL hd]; omega) h)
    refine lv_iconst (v := 1) hx hb dL_1108 (by decide) ?_
    refine va_forget (fun q hq => hS.2.2 q hq) ?_
    refine W.widen (k := 600000) (n := 7302250) (by omega) (by omega) ?_
    exact lw_ret hx hb hX.1.2.2.1 hX.1.2.2.2.2.2.2.2.2.1 dL_1109
  | succ k ih =>
    intro d t z z' a1 a2 H locs ls hk hd hI ht hT hS hl
    refine lv_iload_n hx hb dL_18 rfl (lv_at hl 3 rfl) ?_
    refine lv_aload_n hx hb dL_19 rfl (lv_at hl 0 rfl) ?_
    refine va_slen hx hb hXs hbl hbA hS dL_20 ?_
    refine lv_bipush (v := 6) hx hb dL_21 (by decide) ?_
    refine lv_isub hx hb dL_23 ?_
    refine lv_icmp_gt (tgt := 1108) hx hb dL_24 (by decide) (fun _ => ?_) (fun h => ?_)
    · refine lv_iconst (v := 1) hx hb dL_1108 (by decide) ?_
      refine va_forget (fun q hq => hS.2.2 q hq) ?_
      refine W.widen (k := 600000) (n := 7302250) (by omega) (by omega) ?_
      exact lw_ret hx hb hX.1.2.2.1 hX.1.2.2.2.2.2.2.2.2.1 dL_1109
    have h6 : ¬ (nI L - 6 < nI (6 * d)) := h
    rw [le6 hL hd] at h6
    have hi : 6 * d + 6 ≤ L := by omega
    refine lv_aload_n hx hb dL_27 rfl (lv_at hl 0 rfl) ?_
    refine lv_iload_n hx hb dL_28 rfl (lv_at hl 3 rfl) ?_
    refine va_sld hx hb hXs hbl hbA hS (vp_in_nI (by omega) (by omega)) dL_29 ?_
    refine lv_bipush (v := 31) hx hb dL_30 (by decide) ?_
    refine lv_iand hx hb dL_32 ?_
    have K : ∀ (t' : PH) (w w' : ST) (a1' a2' : Nat → Nat) (H1 : Heap) (locs1 : List Loc), INV t' w w' (d + 1) → t'.1 ≤ t.1 + 12 → a1' 0 = a1 0 → a2' 0 = a2 0 → TwoH g (lA s) a1' a2' (cW t' w) (mW w') H1 → va_S (lA s) s.heap H1 locs1 → W p g.1 e room_1 s m #[Value.ref b] below meth c H1 locs1 (104 + 12 * d + 12) (17235 + 1204 * d + 1204) (lw_Z below #[Value.ref b] s) (F0 m 1102 ls []) := by
      intro t' w w' a1' a2' H1 locs1 hI1 ht1 e1 e2 hT1 hS1
      refine lv_iinc (v := nI (6 * (d + 1))) (lv' := [(3, .int (nI (6 * (d + 1)))), (0, .ref b), (1, .ref (a1 0)), (2, .ref (a2 0))]) hx hb dL_1102 hl (k := 3) rfl (by rw [show Int32.ofInt 6 = nI 6 from rfl, nj_add]; rfl) (by decide) rfl (fun ls' hl' => ?_)
      refine lv_goto (tgt := 18) hx hb dL_1105 (by decide) ?_
      refine W.widen (k := 104 + 12 * (d + 1)) (n := 17235 + 1204 * (d + 1)) (by omega) (by omega) ?_
      refine ih (d + 1) t' w w' a1' a2' H1 locs1 ls' (by omega) (by omega) hI1 (by omega) hT1 hS1 ?_
      rw [e1, e2]
      exact lv_sub hl' [1, 2, 3, 0] rfl
    obtain ⟨j, hj, ej⟩ := pk_andE (xs (nI (6 * d)).toNatClampNeg) (m := 31) 5 (by decide)
    rw [ej]
    have hj : j < 32 := hj
    clear ej
    match j, hj with
    | 0, _ => exact lv_tableIn (tgt := 176) hx hb dL_33 (by decide) (by decide) rfl (by decide) (l_arm (n := 5) arD_feed stL_13 stL_17 (by decide) (by decide) (by decide) (by decide) hX hT hS hl (by omega) (by omega) (by omega) (by omega) (stp_feed hI (by omega) (by omega) (xs (6 * d + 1 + 0)) (xs (6 * d + 1 + 1)) (xs (6 * d + 1 + 2)) (xs (6 * d + 1 + 3)) (xs (6 * d + 1 + 4))) K)
    | 1, _ => exact lv_tableIn (tgt := 239) hx hb dL_33 (by decide) (by decide) rfl (by decide) (l_arm (n := 1) arD_end stL_18 stL_22 (by decide) (by decide) (by decide) (by decide) hX hT hS hl (by omega) (by omega) (by omega) (by omega) (stp_end hI (by omega) (by omega) (xs (6 * d + 1 + 0))) K)
    | 2, _ => exact lv_tableIn (tgt := 262) hx hb dL_33 (by decide) (by decide) rfl (by decide) (l_arm (n := 0) arD_town stL_23 stL_27 (by decide) (by decide) (by decide) (by decide) hX hT hS hl (by omega) (by omega) (by omega) (by omega) (stp_town hI (by omega) (by omega) ) K)
    | 3, _ => exact lv_tableIn (tgt := 275) hx hb dL_33 (by decide) (by decide) rfl (by decide) (l_arm (n := 0) arD_rule stL_28 stL_31 (by decide) (by decide) (by decide) (by decide) hX hT hS hl (by omega) (by omega) (by omega) (by omega) (stp_rule hI (by omega) (by omega) ) K)
    | 4, _ => exact lv_tableIn (tgt := 288) hx hb dL_33 (by decide) (by decide) rfl (by decide) (l_arm (n := 1) arD_force stL_32 stL_35 (by decide) (by decide) (by decide) (by decide) hX hT hS hl (by omega) (by omega) (by omega) (by omega) (stp_force hI (by omega) (by omega) (xs (6 * d + 1 + 0))) K)
    | 5, _ => exact lv_tableIn (tgt := 311) hx hb dL_33 (by decide) (by decide) rfl (by decide) (l_arm (n := 2) arD_person stL_36 stL_40 (by decide) (by decide) (by decide) (by decide) hX hT hS hl (by omega) (by omega) (by omega) (by omega) (stp_person hI (by omega) (by omega) (xs (6 * d + 1 + 0)) (xs (6 * d + 1 + 1))) K)
    | 6, _ => exact lv_tableIn (tgt := 344) hx hb dL_33 (by decide) (by decide) rfl (by decide) (l_arm (n := 2) arD_meeting stL_41 stL_44 (by decide) (by decide) (by decide) (by decide) hX hT hS hl (by omega) (by omega) (by omega) (by omega) (stp_meeting hI (by omega) (by omega) (xs (6 * d + 1 + 0)) (xs (6 * d + 1 + 1))) K)
    | 7, _ => exact lv_tableIn (tgt := 377) hx hb dL_33 (by decide) (by decide) rfl (by decide) (l_arm (n := 0) arD_day stL_45 stL_48 (by decide) (by decide) (by decide) (by decide) hX hT hS hl (by omega) (by omega) (by omega) (by omega) (stp_day hI (by omega) (by omega) ) K)
    | 8, _ => exact lv_tableIn (tgt := 390) hx hb dL_33 (by decide) (by decide) rfl (by decide) (l_arm (n := 2) arD_ask stL_49 stL_52 (by decide) (by decide) (by decide) (by decide) hX hT hS hl (by omega) (by omega) (by omega) (by omega) (stp_ask hI (by omega) (by omega) (xs (6 * d + 1 + 0)) (xs (6 * d + 1 + 1))) K)
    | 9, _ => exact lv_tableIn (tgt := 423) hx hb dL_33 (by decide) (by decide) rfl (by decide) (l_arm (n := 2) arD_set stL_53 stL_56 (by decide) (by decide) (by decide) (by decide) hX hT hS hl (by omega) (by omega) (by omega) (by omega) (stp_set hI (by omega) (by omega) (xs (6 * d + 1 + 0)) (xs (6 * d + 1 + 1))) K)
    | 10, _ => exact lv_tableIn (tgt := 456) hx hb dL_33 (by decide) (by decide) rfl (by decide) (l_arm (n := 1) arD_let stL_57 stL_60 (by decide) (by decide) (by decide) (by decide) hX hT hS hl (by omega) (by omega) (by omega) (by omega) (stp_let hI (by omega) (by omega) (xs (6 * d + 1 + 0))) K)
    | 11, _ => exact lv_tableIn (tgt := 479) hx hb dL_33 (by decide) (by decide) rfl (by decide) (l_arm (n := 0) arD_undo stL_61 stL_64 (by decide) (by decide) (by decide) (by decide) hX hT hS hl (by omega) (by omega) (by omega) (by omega) (stp_undo hI (by omega) (by omega) ) K)
    | 12, _ => exact lv_tableIn (tgt := 492) hx hb dL_33 (by decide) (by decide) rfl (by decide) (l_arm (n := 3) arD_ahead stL_65 stL_69 (by decide) (by decide) (by decide) (by decide) hX hT hS hl (by omega) (by omega) (by omega) (by omega) (stp_ahead hI (by omega) (by omega) (xs (6 * d + 1 + 0)) (xs (6 * d + 1 + 1)) (xs (6 * d + 1 + 2))) K)
    | 13, _ => exact lv_tableIn (tgt := 535) hx hb dL_33 (by decide) (by decide) rfl (by decide) (l_arm (n := 2) arD_today stL_70 stL_73 (by decide) (by decide) (by decide) (by decide) hX hT hS hl (by omega) (by omega) (by omega) (by omega) (stp_today hI (by omega) (by omega) (xs (6 * d + 1 + 0)) (xs (6 * d + 1 + 1))) K)
    | 14, _ => exact lv_tableIn (tgt := 568) hx hb dL_33 (by decide) (by decide) rfl (by decide) (l_arm (n := 1) arD_ends stL_74 stL_77 (by decide) (by decide) (by decide) (by decide) hX hT hS hl (by omega) (by omega) (by omega) (by omega) (stp_ends hI (by omega) (by omega) (xs (6 * d + 1 + 0))) K)
    | 15, _ => exact lv_tableIn (tgt := 591) hx hb dL_33 (by decide) (by decide) rfl (by decide) (l_arm (n := 1) arD_chain stL_78 stL_81 (by decide) (by decide) (by decide) (by decide) hX hT hS hl (by omega) (by omega) (by omega) (by omega) (stp_chain hI (by omega) (by omega) (xs (6 * d + 1 + 0))) K)
    | 16, _ => exact lv_tableIn (tgt := 614) hx hb dL_33 (by decide) (by decide) rfl (by decide) (l_arm (n := 2) arD_minute stL_82 stL_85 (by decide) (by decide) (by decide) (by decide) hX hT hS hl (by omega) (by omega) (by omega) (by omega) (stp_minute hI (by omega) (by omega) (xs (6 * d + 1 + 0)) (xs (6 * d + 1 + 1))) K)
    | 17, _ => exact lv_tableIn (tgt := 647) hx hb dL_33 (by decide) (by decide) rfl (by decide) (l_arm (n := 1) arD_leave stL_86 stL_89 (by decide) (by decide) (by decide) (by decide) hX hT hS hl (by omega) (by omega) (by omega) (by omega) (stp_leave hI (by omega) (by omega) (xs (6 * d + 1 + 0))) K)
    | 18, _ => exact lv_tableIn (tgt := 670) hx hb dL_33 (by decide) (by decide) rfl (by decide) (l_arm (n := 2) arD_rests stL_90 stL_93 (by decide) (by decide) (by decide) (by decide) hX hT hS hl (by omega) (by omega) (by omega) (by omega) (stp_rests hI (by omega) (by omega) (xs (6 * d + 1 + 0)) (xs (6 * d + 1 + 1))) K)
    | 19, _ => exact lv_tableIn (tgt := 703) hx hb dL_33 (by decide) (by decide) rfl (by decide) (l_arm (n := 1) arD_again stL_94 stL_97 (by decide) (by decide) (by decide) (by decide) hX hT hS hl (by omega) (by omega) (by omega) (by omega) (stp_again hI (by omega) (by omega) (xs (6 * d + 1 + 0))) K)
    | 20, _ => exact lv_tableIn (tgt := 726) hx hb dL_33 (by decide) (by decide) rfl (by decide) (l_arm (n := 2) arD_law stL_98 stL_101 (by decide) (by decide) (by decide) (by decide) hX hT hS hl (by omega) (by omega) (by omega) (by omega) (stp_law hI (by omega) (by omega) (xs (6 * d + 1 + 0)) (xs (6 * d + 1 + 1))) K)
    | 21, _ => exact lv_tableIn (tgt := 759) hx hb dL_33 (by decide) (by decide) rfl (by decide) (l_arm (n := 3) arD_log stL_102 stL_105 (by decide) (by decide) (by decide) (by decide) hX hT hS hl (by omega) (by omega) (by omega) (by omega) (stp_log hI (by omega) (by omega) (xs (6 * d + 1 + 0)) (xs (6 * d + 1 + 1)) (xs (6 * d + 1 + 2))) K)
    | 22, _ => exact lv_tableIn (tgt := 802) hx hb dL_33 (by decide) (by decide) rfl (by decide) (l_arm (n := 2) arD_habit stL_106 stL_109 (by decide) (by decide) (by decide) (by decide) hX hT hS hl (by omega) (by omega) (by omega) (by omega) (stp_habit hI (by omega) (by omega) (xs (6 * d + 1 + 0)) (xs (6 * d + 1 + 1))) K)
    | 23, _ => exact lv_tableIn (tgt := 835) hx hb dL_33 (by decide) (by decide) rfl (by decide) (l_arm (n := 2) arD_door stL_110 stL_113 (by decide) (by decide) (by decide) (by decide) hX hT hS hl (by omega) (by omega) (by omega) (by omega) (stp_door hI (by omega) (by omega) (xs (6 * d + 1 + 0)) (xs (6 * d + 1 + 1))) K)
    | 24, _ => exact lv_tableIn (tgt := 868) hx hb dL_33 (by decide) (by decide) rfl (by decide) (l_arm (n := 2) arD_clocks stL_114 stL_117 (by decide) (by decide) (by decide) (by decide) hX hT hS hl (by omega) (by omega) (by omega) (by omega) (stp_clocks hI (by omega) (by omega) (xs (6 * d + 1 + 0)) (xs (6 * d + 1 + 1))) K)
    | 25, _ => exact lv_tableIn (tgt := 901) hx hb dL_33 (by decide) (by decide) rfl (by decide) (l_arm (n := 2) arD_pardon stL_118 stL_121 (by decide) (by decide) (by decide) (by decide) hX hT hS hl (by omega) (by omega) (by omega) (by omega) (stp_pardon hI (by omega) (by omega) (xs (6 * d + 1 + 0)) (xs (6 * d + 1 + 1))) K)
    | 26, _ => exact lv_tableIn (tgt := 934) hx hb dL_33 (by decide) (by decide) rfl (by decide) (l_arm (n := 2) arD_worth stL_122 stL_125 (by decide) (by decide) (by decide) (by decide) hX hT hS hl (by omega) (by omega) (by omega) (by omega) (stp_worth hI (by omega) (by omega) (xs (6 * d + 1 + 0)) (xs (6 * d + 1 + 1))) K)
    | 27, _ => exact lv_tableIn (tgt := 967) hx hb dL_33 (by decide) (by decide) rfl (by decide) (l_arm (n := 1) arD_seed stL_126 stL_129 (by decide) (by decide) (by decide) (by decide) hX hT hS hl (by omega) (by omega) (by omega) (by omega) (stp_seed hI (by omega) (by omega) (xs (6 * d + 1 + 0))) K)
    | 28, _ => exact lv_tableIn (tgt := 990) hx hb dL_33 (by decide) (by decide) rfl (by decide) (l_arm (n := 3) arD_years stL_130 stL_133 (by decide) (by decide) (by decide) (by decide) hX hT hS hl (by omega) (by omega) (by omega) (by omega) (stp_years hI (by omega) (by omega) (xs (6 * d + 1 + 0)) (xs (6 * d + 1 + 1)) (xs (6 * d + 1 + 2))) K)
    | 29, _ => exact lv_tableIn (tgt := 1033) hx hb dL_33 (by decide) (by decide) rfl (by decide) (l_arm (n := 1) arD_count stL_134 stL_137 (by decide) (by decide) (by decide) (by decide) hX hT hS hl (by omega) (by omega) (by omega) (by omega) (stp_count hI (by omega) (by omega) (xs (6 * d + 1 + 0))) K)
    | 30, _ => exact lv_tableIn (tgt := 1056) hx hb dL_33 (by decide) (by decide) rfl (by decide) (l_arm (n := 1) arD_image stL_138 stL_141 (by decide) (by decide) (by decide) (by decide) hX hT hS hl (by omega) (by omega) (by omega) (by omega) (stp_image hI (by omega) (by omega) (xs (6 * d + 1 + 0))) K)
    | 31, _ => exact lv_tableIn (tgt := 1079) hx hb dL_33 (by decide) (by decide) rfl (by decide) (l_arm (n := 1) arD_back stL_142 stL_145 (by decide) (by decide) (by decide) (by decide) hX hT hS hl (by omega) (by omega) (by omega) (by omega) (stp_back hI (by omega) (by omega) (xs (6 * d + 1 + 0))) K)
    | n + 32, h => exact absurd h (by omega)
end LAc
