def mdImage : MD := (yX11_image, cX11_image, 2, some .int, { frames := 4, cells := 12, slots := 1063, locals := 100 })
/-- image(k): the answer, the things, the state -/
def fX11_image (p0 : Int32) (t : PH) (s : ST) : Option (Int32 × PH × ST) :=
  (if p0 < 0 then some true else if p0 < 4 then some false else some true : Option Bool).bind (fun b => if b = true then some ((-1), t, s) else
    ck (inb p0 4) (om (rR t 29 (ix p0))
      (ck (decide (t.1 + 60 < 1000000)) ((fX10_copyFrom_Wh_Wh (48 + t.1) 17 (uS (imH t s (ix p0)) s.2.2)).bind (fun s1 => some (gi s1 26 45, uT (imH t s (ix p0)), s1))))
      (fun w => ck (decide (isWh t w)) ((fX10_copyFrom_Wh_Wh w 17 s).bind (fun s1 => some (gi s1 26 45, t, s1))))))
/-- from the place where the image is there -/
theorem im_tail {g : GX} {t : PH} {s s1 : ST} {p0 : Int32} {w nc ns : Nat} (hk : inb p0 4 = true) (hr : rR t 29 (ix p0) = some w) (hw : isWh t w) (hc : nc ≤ 12) (hs : ns ≤ 1063) (hf : fX10_copyFrom_Wh_Wh w 17 s = some s1) : Rn g mdImage 33 [some (.ref 0), some (.int p0)] [] (cW t s) nc ns (some (.int (gi s1 26 45))) (cW t s1) := by
  refine o_aload_n (pc := 33) dX11_image_33 rfl ?_
  refine c_getR (pc := 34) 10 6 0 29 (by decide) (by decide) rfl (lt48 (by decide)) rfl rfl lkX11_49 dX11_image_34 ?_
  refine o_iload_n (pc := 37) dX11_image_37 rfl ?_
  refine c_aald (pc := 38) 29 4 5 (by decide) hk dX11_image_38 ?_
  rw [hr]
  refine o_aload_n (pc := 39) dX11_image_39 rfl ?_
  refine c_getR (pc := 40) 10 5 0 17 (by decide) (by decide) rfl (lt48 (by decide)) rfl rfl lkX11_45 dX11_image_40 ?_
  refine c_callV (pc := 43) 9 w [.ref 17] (by decide) (by have := hw.1; omega) hw.2.1 dX11_image_43 (kX10_copyFrom_Wh_Wh hw (wh17 t) hf) stX11_280 ⟨by decide, by decide, show nc + 0 ≤ 12 by omega, show ns + 0 ≤ 1063 by omega⟩ ⟨rfl, rfl⟩ (Nat.le_of_ble_eq_true rfl) ?_
  show Rn g mdImage 46 [some (.ref 0), some (.int p0)] [] (cW t s1) nc ns (some (.int (gi s1 26 45))) (cW t s1)
  refine o_aload_n (pc := 46) dX11_image_46 rfl ?_
  refine c_getR (pc := 47) 10 5 0 17 (by decide) (by decide) rfl (lt48 (by decide)) rfl rfl lkX11_45 dX11_image_47 ?_
  refine c_getR (pc := 50) 9 1 17 25 (by decide) (by decide) rfl (lt48 (by decide)) rfl rfl lkX11_104 dX11_image_50 ?_
  refine c_getR (pc := 53) 4 0 25 26 (by decide) (by decide) rfl (lt48 (by decide)) rfl rfl lkX11_108 dX11_image_53 ?_
  refine o_bipush (pc := 56) (v := 45) dX11_image_56 rfl ?_
  refine c_iald (pc := 58) (n := 46) (lt48 (by decide)) rfl (by decide) dX11_image_58 ?_
  exact o_ireturn (pc := 59) dX11_image_59 rfl hc hs
set_option maxRecDepth 20000 in
theorem kX11_image {g : GX} {p0 : Int32} {t : PH} {s : ST} {q : Int32 × PH × ST} (hf : fX11_image p0 t s = some q) : Cn g mdImage [.ref 0, .int p0] (cW t s) (some (.int q.1)) (cW q.2.1 q.2.2) := by
  refine Cn.of (by decide) (Nat.le_of_ble_eq_true rfl) ?_
  show Rn g mdImage 0 [some (.ref 0), some (.int p0)] [] (cW t s) 0 0 (some (.int q.1)) (cW q.2.1 q.2.2)
  unfold fX11_image at hf
  obtain ⟨b, hr, hf⟩ := bd_elim hf
  have KB : (b = true → Rn g mdImage 9 [some (.ref 0), some (.int p0)] [] (cW t s) 0 0 (some (.int q.1)) (cW q.2.1 q.2.2)) ∧ (¬ b = true → Rn g mdImage 11 [some (.ref 0), some (.int p0)] [] (cW t s) 0 0 (some (.int q.1)) (cW q.2.1 q.2.2)) := by
    refine ⟨fun hc => ?_, fun hc => ?_⟩
    · have hf := it_t hf hc
      obtain rfl := Option.some.inj hf
      refine o_iconst (pc := 9) (v := (-1)) dX11_image_9 rfl ?_
      exact o_ireturn (pc := 10) dX11_image_10 rfl (by decide) (by decide)
    · have hf := it_f hf hc
      obtain ⟨hk, hf⟩ := ck_elim hf
      refine o_aload_n (pc := 11) dX11_image_11 rfl ?_
      refine c_getR (pc := 12) 10 6 0 29 (by decide) (by decide) rfl (lt48 (by decide)) rfl rfl lkX11_49 dX11_image_12 ?_
      refine o_iload_n (pc := 15) dX11_image_15 rfl ?_
      refine c_aald (pc := 16) 29 4 5 (by decide) hk dX11_image_16 ?_
      refine o_ifnonnullV (pc := 17) (rR t 29 (ix p0)) 33 dX11_image_17 rfl (fun w hw => ?_) (fun hw => ?_)
      · have hf := om_s hf hw
        obtain ⟨h1, hf⟩ := ck_elim hf
        have h1 := of_decide_eq_true h1
        obtain ⟨s1, h2, hf⟩ := bd_elim hf
        obtain rfl := Option.some.inj hf
        exact im_tail hk hw h1 (by decide) (by decide) h2
      · have hf := om_n hf hw
        obtain ⟨h1, hf⟩ := ck_elim hf
        have h1 := of_decide_eq_true h1
        obtain ⟨s1, h2, hf⟩ := bd_elim hf
        obtain rfl := Option.some.inj hf
        have hn : hN (cW t s) = 48 + t.1 := rfl
        have o0 : Ob (cW t s) 0 10 := ⟨lt48 (by decide), rfl⟩
        have a29 : Ar (cW t s) 29 5 4 := ⟨lt48 (by decide), rfl⟩
        refine o_aload_n (pc := 20) dX11_image_20 rfl ?_
        refine c_getR (pc := 21) 10 6 0 29 (by decide) (by decide) rfl (lt48 (by decide)) rfl rfl lkX11_49 dX11_image_21 ?_
        refine o_iload_n (pc := 24) dX11_image_24 rfl ?_
        refine o_newX (pc := 25) (ci := 9) (q := 48 + t.1) hn (by decide) lnX11_42 dX11_image_25 (by omega) (by decide) (by decide) (okLs_ref (Or.inl o0.1) (okLs_int okLs_nil)) (okSt_int (okSt_ref (Or.inl a29.1) okSt_nil)) ?_
        have oW : Ob (hNew (cW t s) (.inl 9)) (48 + t.1) 9 := Ob.madeX hn
        have o0 := Ob.new (z := .inl 9) o0
        have a29 := Ar.new (z := .inl 9) a29
        have hn2 : hN (hNew (cW t s) (.inl 9)) = 48 + t.1 + 1 := hn_new hn
        refine o_dup (pc := 28) dX11_image_28 rfl ?_
        refine o_callI (pc := 29) (md2 := mdX10_init) (vs := []) dX11_image_29 (kI_Whole oW (by omega)) stX11_44 ⟨by decide, by decide, by decide, by decide⟩ (Nat.le_of_ble_eq_true rfl) (Or.inr ⟨okLs_ref (Or.inl o0.1) (okLs_int okLs_nil), okSt_ref (Or.inl oW.1) (okSt_int (okSt_ref (Or.inl a29.1) okSt_nil))⟩) ?_
        show Rn g mdImage 32 [some (.ref 0), some (.int p0)] [.ref (48 + t.1), .int p0, .ref 29] (i_Whole (48 + t.1) (hNew (cW t s) (.inl 9))) 12 1063 _ _
        have oW2 : Ob (i_Whole (48 + t.1) (hNew (cW t s) (.inl 9))) (48 + t.1) 9 := ob_Whole oW
        have a29 : Ar (i_Whole (48 + t.1) (hNew (cW t s) (.inl 9))) 29 5 4 := ar_Whole a29
        refine o_aast (pc := 32) (t := 5) (n := 4) (ci := 9) (Or.inr ⟨rfl, rfl⟩) dX11_image_32 a29.1 a29.2 (inb_in hk) oW2.1 oW2.2 ?_
        show Rn g mdImage 33 [some (.ref 0), some (.int p0)] [] (imH t s (ix p0)) 12 1063 _ _
        have hst := stay_im t s (ix p0)
        have hwh := im_Wh t s (ix p0)
        have hrr : rR (uT (imH t s (ix p0))) 29 (ix p0) = some (48 + t.1) := by
          show hR (imH t s (ix p0)) 29 (ix p0) = some (48 + t.1)
          unfold imH
          rw [hR_sR]
          unfold va_up
          rw [if_pos rfl]
        have key := im_tail (g := g) hk hrr hwh (Nat.le_refl 12) (Nat.le_refl 1063) h2
        rw [← cW_raw hst] at key
        exact key
  clear hf
  refine o_iload_n (pc := 0) dX11_image_0 rfl ?_
  refine o_if_lt (pc := 1) 9 dX11_image_1 rfl (fun hc => ?_) (fun hc => ?_)
  · have hr := it_t hr hc
    obtain rfl := Option.some.inj hr
    exact KB.1 rfl
  · have hr := it_f hr hc
    refine o_iload_n (pc := 4) dX11_image_4 rfl ?_
    refine o_iconst (pc := 5) (v := 4) dX11_image_5 rfl ?_
    refine o_icmp_lt (pc := 6) 11 dX11_image_6 rfl (fun hc => ?_) (fun hc => ?_)
    · have hr := it_t hr hc
      obtain rfl := Option.some.inj hr
      exact KB.2 (by decide)
    · have hr := it_f hr hc
      obtain rfl := Option.some.inj hr
      exact KB.1 rfl
