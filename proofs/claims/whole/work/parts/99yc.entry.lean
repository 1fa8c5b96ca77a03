/-! THE LAW, from its entry -/
theorem two_first {g : GX} {A : Nat → Prop} {a1 a2 : Nat → Nat} {H : Heap} (h : TwoH g A a1 a2 hLa0 hMo0 H) : TwoH g A a1 a2 (cW (uT hLa0) sLa0) (mW sMo0) H := by
  refine ⟨la0_world h.1, mo0_world h.2.1, fun i j hi hj => h.2.2 i j ?_ ?_⟩
  · have hi : i < 48 + (hN hLa0 - 48) := hi
    rw [la0_n] at hi ⊢
    exact hi
  · have hj : j < 56 := hj
    rw [mo0_n]
    exact hj
theorem h_none {g : GX} {A : Nat → Prop} {ad : Nat → Nat} {H : Heap} : HRel g.2.1 g.2.2.1 g.2.2.2 A ad (pe0 0) H :=
  ⟨fun k q h => by simp [wsO, hN, pe0] at h, ⟨fun i j p q h => by simp [wsO, hN, pe0] at h, fun k q h => by simp [wsO, hN, pe0] at h⟩, show 0 ≤ 1000000 by decide, fun i k a hi _ => absurd hi (by show ¬ i < 0; omega)⟩
theorem whole_start {p : Program} {e : Env} {s : State} {m : MethodId} {below : List Frame} {meth : Method} {c : Code} (l : Launch) {b L : Nat} {xs : Nat → Int32} (hL : L ≤ 3072) (C0 : lw_At p s m meth c b L xs) : W p l e room_1 s m #[Value.ref b] below meth c s.heap [] 0 0 (lw_Z below #[Value.ref b] s) (entryFrame m ([Value.ref b] : List Value).toArray 4) := by
  obtain ⟨g, rfl, hX⟩ := start_K l C0
  have hx := hX.1.1
  have hb := hX.1.2.1
  have hS0 : va_S (lA s) s.heap s.heap [] := va_S.rf
  have hl := lv_entry ([.ref b]) (n := 4) (Nat.le_of_ble_eq_true rfl)
  rw [lg_entry_eq]
  generalize (lg_sl ([.ref b]) ++ List.replicate (4 - (lg_sl ([.ref b])).length) Slot.unset).toArray = ls at hl ⊢
  have hl : lv_has ls 4 [(0, .ref b)] := hl
  refine l_new (ci := 10) (k0 := 10) (a2 := fun _ => 0) (h2 := pe0 0) hX h_none hS0 (by decide) lnL_7 dL_0 (by decide) (by decide) (fun a1 H1 hT1 hS1 => ?_)
  refine lv_dup hx hb dL_3 rfl ?_
  refine l_callI (md2 := mdX11_init) (h1' := hLa0) hX hT1 hS1 hl.1 dL_4 (kI_LA (Ob.madeX rfl) (show 0 < 1 by decide) (show 1 + 47 < 1000000 by decide)) (show 0 < 1 by decide) stL_9 (by decide) (by decide) (by simp [Value.category]) (fun a1' H2 locs2 hE1 hT2 hS2 => ?_)
  have e1 : a1' 0 = a1 0 := hE1.2.1 0 (show 0 < 1 by decide)
  rw [← e1]
  refine lv_astore_n (lv' := [(1, .ref (a1' 0)), (0, .ref b)]) hx hb dL_7 rfl hl (by decide) rfl (fun ls hl => ?_)
  refine l_new (ci := 11) (k0 := 11) hX hT2.1 hS2 (by decide) lnL_10 dL_8 (by decide) (by decide) (fun a2 H3 hT3 hS3 => ?_)
  refine lv_dup hx hb dL_11 rfl ?_
  refine l_callI (md2 := mdX12_init) (h1' := hMo0) hX hT3 hS3 hl.1 dL_12 (kI_Mo (Ob.madeX rfl) (show 1 + 55 < 1000000 by decide)) (show 0 < 1 by decide) stL_12 (by decide) (by decide) (by simp [Value.category]) (fun a2' H4 locs4 hE2 hT4 hS4 => ?_)
  have e2 : a2' 0 = a2 0 := hE2.2.1 0 (show 0 < 1 by decide)
  rw [← e2]
  refine lv_astore_n (lv' := [(2, .ref (a2' 0)), (1, .ref (a1' 0)), (0, .ref b)]) hx hb dL_15 rfl hl (by decide) rfl (fun ls hl => ?_)
  refine lv_iconst (v := 0) hx hb dL_16 (by decide) ?_
  refine lv_istore_n (lv' := [(3, .int 0), (2, .ref (a2' 0)), (1, .ref (a1' 0)), (0, .ref b)]) hx hb dL_17 rfl hl (by decide) rfl (fun ls hl => ?_)
  refine W.widen (k := 104 + 12 * 0) (n := 17235 + 1204 * 0) (by decide) (by decide) ?_
  exact law_loop hL hX L 0 (uT hLa0) sLa0 sMo0 a1' a2' H4 locs4 ls (by omega) (by omega) first_inv (by show hN hLa0 - 48 ≤ 12 * 0; rw [la0_n]; decide) (two_first hT4.sym) hS4 (lv_sub hl [3, 2, 1, 0] rfl)
