theorem cls_all {P : Nat → Prop} (h0 : P 0) (h1 : P 1) (h2 : P 2) (h3 : P 3) (h4 : P 4) (h5 : P 5) (h6 : P 6) (h7 : P 7) (h8 : P 8) (h9 : P 9) (h10 : P 10) (h11 : P 11) : ∀ ci, ci < 12 → P ci := by
  intro ci h
  match ci, h with
  | 0, _ => exact h0
  | 1, _ => exact h1
  | 2, _ => exact h2
  | 3, _ => exact h3
  | 4, _ => exact h4
  | 5, _ => exact h5
  | 6, _ => exact h6
  | 7, _ => exact h7
  | 8, _ => exact h8
  | 9, _ => exact h9
  | 10, _ => exact h10
  | 11, _ => exact h11
  | n + 12, h => exact absurd h (by omega)
theorem inTB : ∀ ci, ci < 12 → ∀ w ∈ u_ws (cR ci) (cT ci) (nF ci), w ∈ TB := cls_all inTB0 inTB1 inTB2 inTB3 inTB4 inTB5 inTB6 inTB7 inTB8 inTB9 inTB10 inTB11
theorem cls_at : ∀ ci, ci < 12 → cls12[ci]? = some (cR ci, cT ci, nF ci) := cls_all rfl rfl rfl rfl rfl rfl rfl rfl rfl rfl rfl rfl
theorem cls_ty : ∀ ci, ci < 12 → ∀ k, k < nF ci → parseFieldDescriptor ((cT ci) k).2.2.1 = some (tyF ci k) := cls_all tyX0_ok tyX1_ok tyX2_ok tyX3_ok tyX5_ok tyX6_ok tyX7_ok tyX8_ok tyX9_ok tyX10_ok tyX11_ok tyX12_ok
theorem cls_nm : ∀ ci, ci < 12 → ∀ a, a < nF ci → ∀ b, b < nF ci → a ≠ b → ((cT ci) a).2.1 ≠ ((cT ci) b).2.1 := cls_all nmX0 nmX1 nmX2 nmX3 nmX5 nmX6 nmX7 nmX8 nmX9 nmX10 nmX11 nmX12
theorem ax_lt {xt ad : Nat → Nat} {h : PH} {a : Nat} (w : wfH h) (ha : a < hN h) : ax xt ad a = ad a := if_pos (Nat.lt_of_lt_of_le ha w.1)
theorem ws_obj {cA : Nat → ClassId} {xt ad : Nat → Nat} {h : PH} {a ci : Nat} (w : wfH h) (ha : a < hN h) (hs : hS h a = .inl ci) : (wsO cA xt ad h)[a]? = some (ax xt ad a, .inr (ci, (List.range (nF ci)).map (fV xt ad h a ci))) := by
  rw [wsO_at ha, cE_obj hs, ax_lt w ha]
theorem ws_arr {cA : Nat → ClassId} {xt ad : Nat → Nat} {h : PH} {a t n : Nat} (w : wfH h) (ha : a < hN h) (hs : hS h a = .inr (t, n)) : (wsO cA xt ad h)[a]? = some (ax xt ad a, .inl (cA t, n, aC xt ad h a t)) := by
  rw [wsO_at ha, cE_arr hs, ax_lt w ha]
theorem fs_at {N k : Nat} {f : Nat → Value} (hk : k < N) : ((List.range N).map f)[k]? = some (f k) := by simp [hk]
section OH
variable {g : GX} {md : MD} {pc : Nat} {ls : List (Option Value)} {st : List Value} {h : PH} {nc ns : Nat} {r : Option Value} {h2 : PH}
theorem o_getV {ci k x a : Nat} {v : Value} (hci : ci < 12) (hk : k < nF ci) (hw : lkF md.1.cls x ci k) (hd : decode md.2.1 pc = .ok (.getfield x, 3)) (ha : a < hN h) (hs : hS h a = .inl ci) (hv : ∀ xt ad, fV xt ad h a ci k = gv xt ad v) (kk : Rn g md (pc + 3) ls (v :: st) h nc ns r h2) : Rn g md pc ls (.ref a :: st) h nc ns r h2 := by
  intro n0 ad0 ad A p e s m args below meth c H locs la hA hE hH hS hL
  have hfs := fs_at (f := fV g.2.2.2 ad h a ci) hk
  rw [hv] at hfs
  have key := kk n0 ad0 ad A p e s m args below meth c H locs la hA hE hH hS hL
  rcases hw with hw | ⟨host, hw⟩
  · exact va_get hA.1 hA.2.1 (Ts := TB) hA.2.2.2.2.2.2.2.1 (inTB ci hci) hA.2.2.2.2.2.1 hA.2.2.2.2.2.2.2.2.1.1 hH.1 a (ws_obj hH.2.2 ha hs) (cls_at ci hci) k hk (hA.2.2.2.2.2.2.2.1 _ hw) (fun _ h9 => h9) hfs hd key
  · exact va_getN hA.1 hA.2.1 (Ts := TB) hA.2.2.2.2.2.2.2.1 (inTB ci hci) hA.2.2.2.2.2.1 hA.2.2.2.2.2.2.2.2.1.1 hH.1 a (ws_obj hH.2.2 ha hs) (cls_at ci hci) k hk (hA.2.2.2.2.2.2.2.1 _ hw) (fun _ h9 => h9) hfs hd key
theorem o_getI {ci k x a : Nat} (hci : ci < 12) (hk : k < nF ci) (hr : isRf (tyF ci k) = false) (hw : lkF md.1.cls x ci k) (hd : decode md.2.1 pc = .ok (.getfield x, 3)) (ha : a < hN h) (hs : hS h a = .inl ci) (kk : Rn g md (pc + 3) ls (.int (hI h a k) :: st) h nc ns r h2) : Rn g md pc ls (.ref a :: st) h nc ns r h2 :=
  o_getV hci hk hw hd ha hs (fun xt ad => by simp [fV, hr, gv]) kk
theorem o_getR {ci k x a b : Nat} (hci : ci < 12) (hk : k < nF ci) (hr : isRf (tyF ci k) = true) (hw : lkF md.1.cls x ci k) (hd : decode md.2.1 pc = .ok (.getfield x, 3)) (ha : a < hN h) (hs : hS h a = .inl ci) (hb : hR h a k = some b) (kk : Rn g md (pc + 3) ls (.ref b :: st) h nc ns r h2) : Rn g md pc ls (.ref a :: st) h nc ns r h2 :=
  o_getV hci hk hw hd ha hs (fun xt ad => by simp [fV, hr, hb, gv, va_rf]) kk
theorem o_getN {ci k x a : Nat} (hci : ci < 12) (hk : k < nF ci) (hr : isRf (tyF ci k) = true) (hw : lkF md.1.cls x ci k) (hd : decode md.2.1 pc = .ok (.getfield x, 3)) (ha : a < hN h) (hs : hS h a = .inl ci) (hb : hR h a k = none) (kk : Rn g md (pc + 3) ls (.null :: st) h nc ns r h2) : Rn g md pc ls (.ref a :: st) h nc ns r h2 :=
  o_getV hci hk hw hd ha hs (fun xt ad => by simp [fV, hr, hb, gv, va_rf]) kk
/-- a write of a field: fin says that the field is final (then it is a constructor of its class that writes) -/
theorem o_putV {ci k x a : Nat} {v : Value} {h1 : PH} (fin : Bool) (hci : ci < 12) (hk : k < nF ci) (hw : lkF md.1.cls x ci k) (hf : ((cT ci) k).2.2.2 = fin) (hfi : fin = true → md.1.name = "<init>" ∧ ((cT ci) k).1 = md.1.cls ∧ Cond.fieldLink md.1.cls x ((cT ci) k).1 ((cT ci) k).2.1 ((cT ci) k).2.2.1 ∈ TB) (hd : decode md.2.1 pc = .ok (.putfield x, 3)) (ha : a < hN h) (hs : hS h a = .inl ci)
    (hn : ∀ xt ad, narrow (tyF ci k) (gv xt ad v) = gv xt ad v ∧ fits (tyF ci k) (gv xt ad v) = true) (h1n : hN h1 = hN h) (hws : ∀ cA xt ad, (wsO cA xt ad h).set a (ad a, .inr (ci, ((List.range (nF ci)).map (fV xt ad h a ci)).set k (gv xt ad v))) = wsO cA xt ad h1) (hwf : wfH h → wfH h1)
    (kk : Rn g md (pc + 3) ls st h1 nc ns r h2) : Rn g md pc ls (v :: .ref a :: st) h nc ns r h2 := by
  intro n0 ad0 ad A p e s m args below meth c H locs la hA hE hH hS hL
  have e1 := hws g.2.2.1 g.2.2.2 ad
  rw [← ax_lt (xt := g.2.2.2) (ad := ad) hH.2.2 ha] at e1
  have key : ∀ (H1 : Heap) (locs1 : List Loc), va_P g.2.1 cls12 ((wsO g.2.2.1 g.2.2.2 ad h).set a (ax g.2.2.2 ad a, .inr (ci, ((List.range (nF ci)).map (fV g.2.2.2 ad h a ci)).set k (gv g.2.2.2 ad v)))) H1 → va_D A ((wsO g.2.2.1 g.2.2.2 ad h).set a (ax g.2.2.2 ad a, .inr (ci, ((List.range (nF ci)).map (fV g.2.2.2 ad h a ci)).set k (gv g.2.2.2 ad v)))) → va_S A s.heap H1 locs1 → W p g.1 e md.2.2.2.2 s m args below meth c H1 locs1 nc ns (MQ below (Qm g A n0 ad0 r h2) args s md.2.2.2.2.cells md.2.2.2.2.slots A) (F0 m (pc + 3) la (st.map (gv g.2.2.2 ad))) := by
    intro H1 locs1 p1 d1 s1
    rw [e1] at p1 d1
    exact kk n0 ad0 ad A p e s m args below meth c H1 locs1 la hA (h1n ▸ hE) ⟨p1, d1, hwf hH.2.2⟩ s1 hL
  have hlen : k < ((List.range (nF ci)).map (fV g.2.2.2 ad h a ci)).length := by simpa using hk
  cases fin with
  | true =>
    obtain ⟨f1, f2, f3⟩ := hfi rfl
    exact va_putF hA.1 hA.2.1 (Ts := TB) hA.2.2.2.2.2.2.2.1 (inTB ci hci) (tyF ci) (cls_ty ci hci) (cls_nm ci hci) hA.2.2.2.2.2.1 hA.2.2.2.2.2.2.2.2.1.1 hH.1 hH.2.1 hS a (ws_obj hH.2.2 ha hs) (cls_at ci hci) k hk (hA.2.2.2.2.2.2.2.1 _ f3) (fun _ h9 => h9) hf (hA.2.2.2.2.2.2.1.trans f1) f2 (cls_ty ci hci k hk) (hn _ _).1 (hn _ _).2 hlen hd key
  | false =>
    rcases hw with hw | ⟨host, hw⟩
    · exact va_put hA.1 hA.2.1 (Ts := TB) hA.2.2.2.2.2.2.2.1 (inTB ci hci) (tyF ci) (cls_ty ci hci) (cls_nm ci hci) hA.2.2.2.2.2.1 hA.2.2.2.2.2.2.2.2.1.1 hH.1 hH.2.1 hS a (ws_obj hH.2.2 ha hs) (cls_at ci hci) k hk (hA.2.2.2.2.2.2.2.1 _ hw) (fun _ h9 => h9) hf (cls_ty ci hci k hk) (hn _ _).1 (hn _ _).2 hlen hd key
    · exact va_putN hA.1 hA.2.1 (Ts := TB) hA.2.2.2.2.2.2.2.1 (inTB ci hci) (tyF ci) (cls_ty ci hci) (cls_nm ci hci) hA.2.2.2.2.2.1 hA.2.2.2.2.2.2.2.2.1.1 hH.1 hH.2.1 hS a (ws_obj hH.2.2 ha hs) (cls_at ci hci) k hk (hA.2.2.2.2.2.2.2.1 _ hw) (fun _ h9 => h9) hf (cls_ty ci hci k hk) (hn _ _).1 (hn _ _).2 hlen hd key
theorem o_putI {ci k x a : Nat} {v : Int32} (hci : ci < 12) (hk : k < nF ci) (hr : isRf (tyF ci k) = false) (hw : lkF md.1.cls x ci k) (hf : ((cT ci) k).2.2.2 = false) (hd : decode md.2.1 pc = .ok (.putfield x, 3)) (ha : a < hN h) (hs : hS h a = .inl ci) (hn : narrow (tyF ci k) (.int v) = .int v ∧ fits (tyF ci k) (.int v) = true) (kk : Rn g md (pc + 3) ls st (sI h a k v) nc ns r h2) : Rn g md pc ls (.int v :: .ref a :: st) h nc ns r h2 :=
  o_putV (h1 := sI h a k v) false hci hk hw hf (fun z => by cases z) hd ha hs (fun _ _ => hn) rfl (fun cA xt ad => ws_fI hs hk hr) wfH_sA kk
theorem o_putIF {ci k x a : Nat} {v : Int32} (hci : ci < 12) (hk : k < nF ci) (hr : isRf (tyF ci k) = false) (hw : Cond.fieldLink md.1.cls x ((cT ci) k).1 ((cT ci) k).2.1 ((cT ci) k).2.2.1 ∈ TB) (hf : ((cT ci) k).2.2.2 = true) (hi : md.1.name = "<init>" ∧ ((cT ci) k).1 = md.1.cls) (hd : decode md.2.1 pc = .ok (.putfield x, 3)) (ha : a < hN h) (hs : hS h a = .inl ci) (hn : narrow (tyF ci k) (.int v) = .int v ∧ fits (tyF ci k) (.int v) = true) (kk : Rn g md (pc + 3) ls st (sI h a k v) nc ns r h2) : Rn g md pc ls (.int v :: .ref a :: st) h nc ns r h2 :=
  o_putV (h1 := sI h a k v) true hci hk (Or.inl hw) hf (fun _ => ⟨hi.1, hi.2, hw⟩) hd ha hs (fun _ _ => hn) rfl (fun cA xt ad => ws_fI hs hk hr) wfH_sA kk
theorem rf_nf {ty : FieldType} (hr : isRf ty = true) : ∀ v : Value, (v = .null ∨ ∃ a, v = .ref a) → narrow ty v = v ∧ fits ty v = true := by
  intro v hv
  cases ty <;> first
    | (cases hr; done)
    | (rcases hv with rfl | ⟨a, rfl⟩ <;> exact ⟨rfl, rfl⟩)
theorem o_putR {ci k x a b : Nat} (hci : ci < 12) (hk : k < nF ci) (hr : isRf (tyF ci k) = true) (hw : lkF md.1.cls x ci k) (hf : ((cT ci) k).2.2.2 = false) (hd : decode md.2.1 pc = .ok (.putfield x, 3)) (ha : a < hN h) (hs : hS h a = .inl ci) (hb : okA (hN h) b) (kk : Rn g md (pc + 3) ls st (sR h a k (some b)) nc ns r h2) : Rn g md pc ls (.ref b :: .ref a :: st) h nc ns r h2 :=
  o_putV (h1 := sR h a k (some b)) false hci hk hw hf (fun z => by cases z) hd ha hs (fun _ _ => rf_nf hr _ (Or.inr ⟨_, rfl⟩)) rfl (fun cA xt ad => ws_fR (x := some b) hs hk hr) (fun w => wfH_sR w (fun _ e => Option.some.inj e ▸ hb)) kk
theorem o_putN {ci k x a : Nat} (hci : ci < 12) (hk : k < nF ci) (hr : isRf (tyF ci k) = true) (hw : lkF md.1.cls x ci k) (hf : ((cT ci) k).2.2.2 = false) (hd : decode md.2.1 pc = .ok (.putfield x, 3)) (ha : a < hN h) (hs : hS h a = .inl ci) (kk : Rn g md (pc + 3) ls st (sR h a k none) nc ns r h2) : Rn g md pc ls (.null :: .ref a :: st) h nc ns r h2 :=
  o_putV (h1 := sR h a k none) false hci hk hw hf (fun z => by cases z) hd ha hs (fun _ _ => rf_nf hr _ (Or.inl rfl)) rfl (fun cA xt ad => ws_fR (x := none) hs hk hr) (fun w => wfH_sR w (fun _ e => by cases e)) kk
theorem o_putRF {ci k x a b : Nat} (hci : ci < 12) (hk : k < nF ci) (hr : isRf (tyF ci k) = true) (hw : Cond.fieldLink md.1.cls x ((cT ci) k).1 ((cT ci) k).2.1 ((cT ci) k).2.2.1 ∈ TB) (hf : ((cT ci) k).2.2.2 = true) (hi : md.1.name = "<init>" ∧ ((cT ci) k).1 = md.1.cls) (hd : decode md.2.1 pc = .ok (.putfield x, 3)) (ha : a < hN h) (hs : hS h a = .inl ci) (hb : okA (hN h) b) (kk : Rn g md (pc + 3) ls st (sR h a k (some b)) nc ns r h2) : Rn g md pc ls (.ref b :: .ref a :: st) h nc ns r h2 :=
  o_putV (h1 := sR h a k (some b)) true hci hk (Or.inl hw) hf (fun _ => ⟨hi.1, hi.2, hw⟩) hd ha hs (fun _ _ => rf_nf hr _ (Or.inr ⟨_, rfl⟩)) rfl (fun cA xt ad => ws_fR (x := some b) hs hk hr) (fun w => wfH_sR w (fun _ e => Option.some.inj e ▸ hb)) kk
/-! arrays -/
theorem tys_at (cA : Nat → ClassId) {t : Nat} (ht : t < 6) : (tysA cA)[t]? = some (cA t, tA t) := by
  match t, ht with
  | 0, _ => rfl
  | 1, _ => rfl
  | 2, _ => rfl
  | 3, _ => rfl
  | 4, _ => rfl
  | 5, _ => rfl
  | n + 6, h => exact absurd h (by omega)
theorem aC_int {xt ad : Nat → Nat} {h : PH} {a t : Nat} (h1 : t ≠ 1) (h4 : t < 4) : aC xt ad h a t = .inl (hI h a) := by simp only [aC, if_neg h1, if_pos h4]
theorem o_iald {a n : Nat} {i : Int32} (hd : decode md.2.1 pc = .ok (.iaload, 1)) (ha : a < hN h) (hs : hS h a = .inr (0, n)) (hi : vp_in i n) (kk : Rn g md (pc + 1) ls (.int (hI h a i.toNatClampNeg) :: st) h nc ns r h2) : Rn g md pc ls (.int i :: .ref a :: st) h nc ns r h2 := by
  intro n0 ad0 ad A p e s m args below meth c H locs la hA hE hH hS hL
  exact va_iald hA.1 hA.2.1 hA.2.2.2.2.2.2.2.2.1.1 hH.1 a 0 ((ws_arr hH.2.2 ha hs).trans (by rw [aC_int (by decide) (by decide)])) (tys_at _ (by decide)) hi hd (kk n0 ad0 ad A p e s m args below meth c H locs la hA hE hH hS hL)
theorem o_bald {a n : Nat} {i : Int32} (hd : decode md.2.1 pc = .ok (.baload, 1)) (ha : a < hN h) (hs : hS h a = .inr (2, n)) (hi : vp_in i n) (kk : Rn g md (pc + 1) ls (.int (hI h a i.toNatClampNeg) :: st) h nc ns r h2) : Rn g md pc ls (.int i :: .ref a :: st) h nc ns r h2 := by
  intro n0 ad0 ad A p e s m args below meth c H locs la hA hE hH hS hL
  exact va_bald hA.1 hA.2.1 hA.2.2.2.2.2.2.2.2.1.1 hH.1 a 2 ((ws_arr hH.2.2 ha hs).trans (by rw [aC_int (by decide) (by decide)])) (tys_at _ (by decide)) hi hd (kk n0 ad0 ad A p e s m args below meth c H locs la hA hE hH hS hL)
theorem o_zald {a n : Nat} {i : Int32} (hd : decode md.2.1 pc = .ok (.baload, 1)) (ha : a < hN h) (hs : hS h a = .inr (3, n)) (hi : vp_in i n) (kk : Rn g md (pc + 1) ls (.int (hI h a i.toNatClampNeg) :: st) h nc ns r h2) : Rn g md pc ls (.int i :: .ref a :: st) h nc ns r h2 := by
  intro n0 ad0 ad A p e s m args below meth c H locs la hA hE hH hS hL
  exact va_zald hA.1 hA.2.1 hA.2.2.2.2.2.2.2.2.1.1 hH.1 a 3 ((ws_arr hH.2.2 ha hs).trans (by rw [aC_int (by decide) (by decide)])) (tys_at _ (by decide)) hi hd (kk n0 ad0 ad A p e s m args below meth c H locs la hA hE hH hS hL)
theorem o_lald {a n : Nat} {i : Int32} (hd : decode md.2.1 pc = .ok (.laload, 1)) (ha : a < hN h) (hs : hS h a = .inr (1, n)) (hi : vp_in i n) (kk : Rn g md (pc + 1) ls (.long (hL h a i.toNatClampNeg) :: st) h nc ns r h2) : Rn g md pc ls (.int i :: .ref a :: st) h nc ns r h2 := by
  intro n0 ad0 ad A p e s m args below meth c H locs la hA hE hH hS hL
  exact va_lald hA.1 hA.2.1 hA.2.2.2.2.2.2.2.2.1.1 hH.1 a 1 ((ws_arr hH.2.2 ha hs).trans (by simp only [aC, if_pos])) (tys_at _ (by decide)) hi hd (kk n0 ad0 ad A p e s m args below meth c H locs la hA hE hH hS hL)
theorem o_alen {a n t : Nat} (ht : t < 6) (hd : decode md.2.1 pc = .ok (.arraylength, 1)) (ha : a < hN h) (hs : hS h a = .inr (t, n)) (kk : Rn g md (pc + 1) ls (.int (Int32.ofNat n) :: st) h nc ns r h2) : Rn g md pc ls (.ref a :: st) h nc ns r h2 := by
  intro n0 ad0 ad A p e s m args below meth c H locs la hA hE hH hS hL
  exact va_alen hA.1 hA.2.1 hA.2.2.2.2.2.2.2.2.1.1 hH.1 a t (ws_arr hH.2.2 ha hs) (tys_at _ ht) rfl hd (kk n0 ad0 ad A p e s m args below meth c H locs la hA hE hH hS hL)
theorem o_iast {a n : Nat} {i x : Int32} (hd : decode md.2.1 pc = .ok (.iastore, 1)) (ha : a < hN h) (hs : hS h a = .inr (0, n)) (hi : vp_in i n) (kk : Rn g md (pc + 1) ls st (sI h a i.toNatClampNeg x) nc ns r h2) : Rn g md pc ls (.int x :: .int i :: .ref a :: st) h nc ns r h2 := by
  intro n0 ad0 ad A p e s m args below meth c H locs la hA hE hH hS hL
  have e1 := ws_sI (cA := g.2.2.1) (xt := g.2.2.2) (ad := ad) (f := upd (hI h a) i.toNatClampNeg x) hs (by decide) (by decide)
  rw [← ax_lt (xt := g.2.2.2) (ad := ad) hH.2.2 ha] at e1
  exact va_iast hA.1 hA.2.1 hA.2.2.2.2.2.2.2.2.1.1 hH.1 hH.2.1 hS a 0 ((ws_arr hH.2.2 ha hs).trans (by rw [aC_int (by decide) (by decide)])) (tys_at _ (by decide)) hi hd
    (fun H1 locs1 p1 d1 s1 => kk n0 ad0 ad A p e s m args below meth c H1 locs1 la hA hE ⟨e1 ▸ p1, e1 ▸ d1, wfH_sA hH.2.2⟩ s1 hL)
theorem o_bast {a n : Nat} {i x : Int32} (hd : decode md.2.1 pc = .ok (.bastore, 1)) (ha : a < hN h) (hs : hS h a = .inr (2, n)) (hi : vp_in i n) (kk : Rn g md (pc + 1) ls st (sI h a i.toNatClampNeg x.toInt8.toInt32) nc ns r h2) : Rn g md pc ls (.int x :: .int i :: .ref a :: st) h nc ns r h2 := by
  intro n0 ad0 ad A p e s m args below meth c H locs la hA hE hH hS hL
  have e1 := ws_sI (cA := g.2.2.1) (xt := g.2.2.2) (ad := ad) (f := upd (hI h a) i.toNatClampNeg (vp_nar .byte x)) hs (by decide) (by decide)
  rw [← ax_lt (xt := g.2.2.2) (ad := ad) hH.2.2 ha] at e1
  rw [← vp_nar_byte] at kk
  exact va_bast hA.1 hA.2.1 hA.2.2.2.2.2.2.2.2.1.1 hH.1 hH.2.1 hS a 2 ((ws_arr hH.2.2 ha hs).trans (by rw [aC_int (by decide) (by decide)])) (tys_at _ (by decide)) hi hd
    (fun H1 locs1 p1 d1 s1 => kk n0 ad0 ad A p e s m args below meth c H1 locs1 la hA hE ⟨e1 ▸ p1, e1 ▸ d1, wfH_sA hH.2.2⟩ s1 hL)
theorem o_zast {a n : Nat} {i x : Int32} (hd : decode md.2.1 pc = .ok (.bastore, 1)) (ha : a < hN h) (hs : hS h a = .inr (3, n)) (hi : vp_in i n) (kk : Rn g md (pc + 1) ls st (sI h a i.toNatClampNeg (vp_nar .boolean x)) nc ns r h2) : Rn g md pc ls (.int x :: .int i :: .ref a :: st) h nc ns r h2 := by
  intro n0 ad0 ad A p e s m args below meth c H locs la hA hE hH hS hL
  have e1 := ws_sI (cA := g.2.2.1) (xt := g.2.2.2) (ad := ad) (f := upd (hI h a) i.toNatClampNeg (vp_nar .boolean x)) hs (by decide) (by decide)
  rw [← ax_lt (xt := g.2.2.2) (ad := ad) hH.2.2 ha] at e1
  exact va_zast hA.1 hA.2.1 hA.2.2.2.2.2.2.2.2.1.1 hH.1 hH.2.1 hS a 3 ((ws_arr hH.2.2 ha hs).trans (by rw [aC_int (by decide) (by decide)])) (tys_at _ (by decide)) hi hd
    (fun H1 locs1 p1 d1 s1 => kk n0 ad0 ad A p e s m args below meth c H1 locs1 la hA hE ⟨e1 ▸ p1, e1 ▸ d1, wfH_sA hH.2.2⟩ s1 hL)
theorem o_last {a n : Nat} {i : Int32} {x : Int64} (hd : decode md.2.1 pc = .ok (.lastore, 1)) (ha : a < hN h) (hs : hS h a = .inr (1, n)) (hi : vp_in i n) (kk : Rn g md (pc + 1) ls st (sL h a i.toNatClampNeg x) nc ns r h2) : Rn g md pc ls (.long x :: .int i :: .ref a :: st) h nc ns r h2 := by
  intro n0 ad0 ad A p e s m args below meth c H locs la hA hE hH hS hL
  have e1 := ws_sL (cA := g.2.2.1) (xt := g.2.2.2) (ad := ad) (j := i.toNatClampNeg) (x := x) hs
  rw [← ax_lt (xt := g.2.2.2) (ad := ad) hH.2.2 ha] at e1
  exact va_last hA.1 hA.2.1 hA.2.2.2.2.2.2.2.2.1.1 hH.1 hH.2.1 hS a 1 ((ws_arr hH.2.2 ha hs).trans (by simp only [aC, if_pos])) (tys_at _ (by decide)) hi hd
    (fun H1 locs1 p1 d1 s1 => kk n0 ad0 ad A p e s m args below meth c H1 locs1 la hA hE ⟨e1 ▸ p1, e1 ▸ d1, wfH_sL hH.2.2⟩ s1 hL)
end OH
