/-! THE REFERENCE: one object (0) and its arrays (1 to 55) -/
def mS (i : Nat) : PSh := match i with
  | 0 => .inl 11
  | 1 => .inr (0, 13)
  | 2 => .inr (0, 5)
  | 3 => .inr (0, 5)
  | 4 => .inr (0, 5)
  | 5 => .inr (0, 5)
  | 6 => .inr (0, 5)
  | 7 => .inr (0, 8)
  | 8 => .inr (0, 8)
  | 9 => .inr (0, 8)
  | 10 => .inr (0, 8)
  | 11 => .inr (0, 8)
  | 12 => .inr (0, 8)
  | 13 => .inr (0, 10)
  | 14 => .inr (0, 10)
  | 15 => .inr (0, 10)
  | 16 => .inr (0, 5)
  | 17 => .inr (0, 8)
  | 18 => .inr (0, 1)
  | 19 => .inr (0, 9)
  | 20 => .inr (0, 5)
  | 21 => .inr (0, 5)
  | 22 => .inr (0, 8)
  | 23 => .inr (0, 8)
  | 24 => .inr (0, 8)
  | 25 => .inr (0, 8)
  | 26 => .inr (2, 400)
  | 27 => .inr (0, 1800)
  | 28 => .inr (0, 1800)
  | 29 => .inr (0, 6)
  | 30 => .inr (0, 72)
  | 31 => .inr (0, 72)
  | 32 => .inr (0, 72)
  | 33 => .inr (0, 402)
  | 34 => .inr (1, 14)
  | 35 => .inr (1, 300)
  | 36 => .inr (0, 8)
  | 37 => .inr (0, 5)
  | 38 => .inr (0, 5)
  | 39 => .inr (0, 5)
  | 40 => .inr (0, 8)
  | 41 => .inr (0, 8)
  | 42 => .inr (0, 8)
  | 43 => .inr (0, 8)
  | 44 => .inr (0, 8)
  | 45 => .inr (0, 8)
  | 46 => .inr (0, 920)
  | 47 => .inr (0, 1)
  | 48 => .inr (0, 49)
  | 49 => .inr (0, 49)
  | 50 => .inr (0, 500)
  | 51 => .inr (0, 500)
  | 52 => .inr (0, 279)
  | 53 => .inr (3, 9)
  | 54 => .inr (0, 6000)
  | 55 => .inr (3, 4)
  | _ => .inl 11
def mR0 (k : Nat) : Option Nat := match k with
  | 1 => some 1
  | 2 => some 2
  | 3 => some 3
  | 4 => some 4
  | 5 => some 5
  | 6 => some 6
  | 7 => some 7
  | 8 => some 8
  | 9 => some 9
  | 10 => some 10
  | 11 => some 11
  | 12 => some 12
  | 13 => some 13
  | 14 => some 14
  | 15 => some 15
  | 16 => some 16
  | 17 => some 17
  | 18 => some 18
  | 19 => some 19
  | 20 => some 20
  | 21 => some 21
  | 22 => some 22
  | 23 => some 23
  | 24 => some 24
  | 25 => some 25
  | 36 => some 26
  | 37 => some 27
  | 38 => some 28
  | 39 => some 29
  | 40 => some 30
  | 41 => some 31
  | 42 => some 32
  | 43 => some 33
  | 44 => some 34
  | 45 => some 35
  | 46 => some 36
  | 47 => some 37
  | 48 => some 38
  | 49 => some 39
  | 50 => some 40
  | 51 => some 41
  | 52 => some 42
  | 53 => some 43
  | 54 => some 44
  | 55 => some 45
  | 64 => some 46
  | 65 => some 47
  | 72 => some 48
  | 73 => some 49
  | 74 => some 50
  | 75 => some 51
  | 76 => some 52
  | 77 => some 53
  | 78 => some 54
  | 79 => some 55
  | _ => none
def mR (i k : Nat) : Option Nat := match i with
  | 0 => mR0 k
  | _ => none
def mW (s : ST) : PH := (56, mS, s.1, s.2.1, mR)
section MR
variable {g : GX} {md : MD} {pc : Nat} {ls : List (Option Value)} {st : List Value} {s : ST} {nc ns : Nat} {r : Option Value} {h2 : PH}
theorem m_getI {x : Nat} (k : Nat) (hk : k < 82) (hr : isRf (tyX12 k) = false) (hw : lkF md.1.cls x 11 k) (hd : decode md.2.1 pc = .ok (.getfield x, 3)) (kk : Rn g md (pc + 3) ls (.int (gi s 0 k) :: st) (mW s) nc ns r h2) : Rn g md pc ls (.ref 0 :: st) (mW s) nc ns r h2 :=
  o_getI (ci := 11) (k := k) (by decide) hk hr hw hd (by decide : 0 < 56) rfl kk
theorem m_getA {x : Nat} (k b : Nat) (hk : k < 82) (hr : isRf (tyX12 k) = true) (hb : mR0 k = some b) (hw : lkF md.1.cls x 11 k) (hd : decode md.2.1 pc = .ok (.getfield x, 3)) (kk : Rn g md (pc + 3) ls (.ref b :: st) (mW s) nc ns r h2) : Rn g md pc ls (.ref 0 :: st) (mW s) nc ns r h2 :=
  o_getR (ci := 11) (k := k) (by decide) hk hr hw hd (by decide : 0 < 56) rfl hb kk
theorem m_putI {x : Nat} {v : Int32} (k : Nat) (hk : k < 82) (hr : isRf (tyX12 k) = false) (hf : (TX12 k).2.2.2 = false) (hw : lkF md.1.cls x 11 k) (hn : narrow (tyX12 k) (.int v) = .int v ∧ fits (tyX12 k) (.int v) = true) (hd : decode md.2.1 pc = .ok (.putfield x, 3)) (kk : Rn g md (pc + 3) ls st (mW (si s 0 k v)) nc ns r h2) : Rn g md pc ls (.int v :: .ref 0 :: st) (mW s) nc ns r h2 :=
  o_putI (ci := 11) (k := k) (by decide) hk hr hw hf hd (by decide : 0 < 56) rfl hn kk
theorem m_iald {a n : Nat} {i : Int32} (ha : a < 56) (hs : mS a = .inr (0, n)) (hi : inb i n = true) (hd : decode md.2.1 pc = .ok (.iaload, 1)) (kk : Rn g md (pc + 1) ls (.int (gi s a (ix i)) :: st) (mW s) nc ns r h2) : Rn g md pc ls (.int i :: .ref a :: st) (mW s) nc ns r h2 :=
  o_iald hd ha hs (inb_in hi) kk
theorem m_bald {a n : Nat} {i : Int32} (ha : a < 56) (hs : mS a = .inr (2, n)) (hi : inb i n = true) (hd : decode md.2.1 pc = .ok (.baload, 1)) (kk : Rn g md (pc + 1) ls (.int (gi s a (ix i)) :: st) (mW s) nc ns r h2) : Rn g md pc ls (.int i :: .ref a :: st) (mW s) nc ns r h2 :=
  o_bald hd ha hs (inb_in hi) kk
theorem m_zald {a n : Nat} {i : Int32} (ha : a < 56) (hs : mS a = .inr (3, n)) (hi : inb i n = true) (hd : decode md.2.1 pc = .ok (.baload, 1)) (kk : Rn g md (pc + 1) ls (.int (gi s a (ix i)) :: st) (mW s) nc ns r h2) : Rn g md pc ls (.int i :: .ref a :: st) (mW s) nc ns r h2 :=
  o_zald hd ha hs (inb_in hi) kk
theorem m_lald {a n : Nat} {i : Int32} (ha : a < 56) (hs : mS a = .inr (1, n)) (hi : inb i n = true) (hd : decode md.2.1 pc = .ok (.laload, 1)) (kk : Rn g md (pc + 1) ls (.long (gl s a (ix i)) :: st) (mW s) nc ns r h2) : Rn g md pc ls (.int i :: .ref a :: st) (mW s) nc ns r h2 :=
  o_lald hd ha hs (inb_in hi) kk
theorem m_iast {a n : Nat} {i x : Int32} (ha : a < 56) (hs : mS a = .inr (0, n)) (hi : inb i n = true) (hd : decode md.2.1 pc = .ok (.iastore, 1)) (kk : Rn g md (pc + 1) ls st (mW (si s a (ix i) x)) nc ns r h2) : Rn g md pc ls (.int x :: .int i :: .ref a :: st) (mW s) nc ns r h2 :=
  o_iast hd ha hs (inb_in hi) kk
theorem m_bast {a n : Nat} {i x : Int32} (ha : a < 56) (hs : mS a = .inr (2, n)) (hi : inb i n = true) (hd : decode md.2.1 pc = .ok (.bastore, 1)) (kk : Rn g md (pc + 1) ls st (mW (si s a (ix i) x.toInt8.toInt32)) nc ns r h2) : Rn g md pc ls (.int x :: .int i :: .ref a :: st) (mW s) nc ns r h2 :=
  o_bast hd ha hs (inb_in hi) kk
theorem m_zast {a n : Nat} {i x : Int32} (ha : a < 56) (hs : mS a = .inr (3, n)) (hi : inb i n = true) (hd : decode md.2.1 pc = .ok (.bastore, 1)) (kk : Rn g md (pc + 1) ls st (mW (si s a (ix i) (vp_nar .boolean x))) nc ns r h2) : Rn g md pc ls (.int x :: .int i :: .ref a :: st) (mW s) nc ns r h2 :=
  o_zast hd ha hs (inb_in hi) kk
theorem m_last {a n : Nat} {i : Int32} {x : Int64} (ha : a < 56) (hs : mS a = .inr (1, n)) (hi : inb i n = true) (hd : decode md.2.1 pc = .ok (.lastore, 1)) (kk : Rn g md (pc + 1) ls st (mW (sl s a (ix i) x)) nc ns r h2) : Rn g md pc ls (.long x :: .int i :: .ref a :: st) (mW s) nc ns r h2 :=
  o_last hd ha hs (inb_in hi) kk
theorem m_alen {a n t : Nat} (v : Int32) (ha : a < 56) (ht : t < 6) (hs : mS a = .inr (t, n)) (hv : Int32.ofNat n = v) (hd : decode md.2.1 pc = .ok (.arraylength, 1)) (kk : Rn g md (pc + 1) ls (.int v :: st) (mW s) nc ns r h2) : Rn g md pc ls (.ref a :: st) (mW s) nc ns r h2 :=
  o_alen ht hd ha hs (hv ▸ kk)
theorem m_callV {md2 : MD} {x : Nat} {s1 : ST} {rv : Option Value} (vs : List Value) (hd : decode md.2.1 pc = .ok (.invokevirtual x, 3)) (hC : Cn g md2 (.ref 0 :: vs) (mW s) rv (mW s1)) (hw : siteV md.1.cls x RX12 md2 vs.length) (hf : fitR md md2 nc ns) (hz : md2.2.2.2.2.cells = 0 ∧ md2.2.2.2.2.slots = 0) (hst : (st.map fun v => v.category).sum ≤ 8) (kk : Rn g md (pc + 3) ls (rv.toList ++ st) (mW s1) nc ns r h2) : Rn g md pc ls (vs.reverse ++ .ref 0 :: st) (mW s) nc ns r h2 :=
  o_callV (ci := 11) hd hC (by decide) rfl (by decide : 0 < 56) hw hf hst (Or.inl rfl) (by rw [hz.1, hz.2]; exact kk)
theorem m_callS {md2 : MD} {x : Nat} {s1 : ST} {rv : Option Value} (vs : List Value) (hd : decode md.2.1 pc = .ok (.invokestatic x, 3)) (hC : Cn g md2 vs (mW s) rv (mW s1)) (hw : siteS md.1.cls x md2 vs.length) (hf : fitR md md2 nc ns) (hz : md2.2.2.2.2.cells = 0 ∧ md2.2.2.2.2.slots = 0) (hst : (st.map fun v => v.category).sum ≤ 8) (kk : Rn g md (pc + 3) ls (rv.toList ++ st) (mW s1) nc ns r h2) : Rn g md pc ls (vs.reverse ++ st) (mW s) nc ns r h2 :=
  o_callS hd hC hw hf hst (Or.inl rfl) (by rw [hz.1, hz.2]; exact kk)
end MR
