/-! THE PURE WORLD: a heap of numbered things (objects and arrays), whose contents are functions; how a machine's heap holds it -/
/-- the shape of a thing: .inl ci an object of class ci (place in cls12); .inr (t, n) an array of kind t (0 int, 1 long, 2 byte, 3 boolean, 4 Rule, 5 Whole), n long -/
abbrev PSh : Type := Nat ⊕ (Nat × Nat)
/-- how many; shapes; ints (of arrays and of objects' fields); longs; references -/
abbrev PH : Type := Nat × (Nat → PSh) × (Nat → Nat → Int32) × (Nat → Nat → Int64) × (Nat → Nat → Option Nat)
def hN (h : PH) : Nat := h.1
def hS (h : PH) : Nat → PSh := h.2.1
def hI (h : PH) : Nat → Nat → Int32 := h.2.2.1
def hL (h : PH) : Nat → Nat → Int64 := h.2.2.2.1
def hR (h : PH) : Nat → Nat → Option Nat := h.2.2.2.2
/-- all ints of the thing i become f -/
def sA (h : PH) (i : Nat) (f : Nat → Int32) : PH := (h.1, h.2.1, (fun a => if a = i then f else h.2.2.1 a), h.2.2.2.1, h.2.2.2.2)
def sI (h : PH) (i j : Nat) (x : Int32) : PH := sA h i (upd (hI h i) j x)
def sL (h : PH) (i j : Nat) (x : Int64) : PH := (h.1, h.2.1, h.2.2.1, (fun a => if a = i then vp_updL (h.2.2.2.1 i) j x else h.2.2.2.1 a), h.2.2.2.2)
def sR (h : PH) (i j : Nat) (x : Option Nat) : PH := (h.1, h.2.1, h.2.2.1, h.2.2.2.1, (fun a => if a = i then va_up (h.2.2.2.2 i) j x else h.2.2.2.2 a))
/-- one more thing, all noughts -/
def hNew (h : PH) (z : PSh) : PH := (h.1 + 1, (fun a => if a = h.1 then z else h.2.1 a), (fun a => if a = h.1 then (fun _ => 0) else h.2.2.1 a), (fun a => if a = h.1 then (fun _ => 0) else h.2.2.2.1 a), (fun a => if a = h.1 then (fun _ => none) else h.2.2.2.2 a))
/-- an address: numbers from 1000000 on are things outside (texts, a static array) -/
def ax (xt ad : Nat → Nat) (i : Nat) : Nat := if i < 1000000 then ad i else xt i
def gv (xt ad : Nat → Nat) (v : Value) : Value := match v with
  | .ref i => .ref (ax xt ad i)
  | w => w
def fV (xt ad : Nat → Nat) (h : PH) (i ci k : Nat) : Value := if isRf (tyF ci k) = true then va_rf ((hR h i k).map (ax xt ad)) else .int (hI h i k)
def aC (xt ad : Nat → Nat) (h : PH) (i t : Nat) : (Nat → Int32) ⊕ (Nat → Int64) ⊕ (Nat → UInt32) ⊕ (Nat → UInt64) ⊕ (Nat → Option Nat) :=
  if t = 1 then .inr (.inl (hL h i)) else if t < 4 then .inl (hI h i) else .inr (.inr (.inr (.inr (fun j => (hR h i j).map (ax xt ad)))))
def cE (cA : Nat → ClassId) (xt ad : Nat → Nat) (h : PH) (i : Nat) : va_E := match hS h i with
  | .inl ci => .inr (ci, (List.range (nF ci)).map (fV xt ad h i ci))
  | .inr q => .inl (cA q.1, q.2, aC xt ad h i q.1)
def wsO (cA : Nat → ClassId) (xt ad : Nat → Nat) (h : PH) : va_W := (List.range (hN h)).map (fun i => (ad i, cE cA xt ad h i))
/-- a reference that is made, or outside -/
def okA (n a : Nat) : Prop := a < n ∨ 1000000 ≤ a
def okV (n : Nat) (v : Value) : Prop := match v with
  | .ref a => okA n a
  | _ => True
def wfH (h : PH) : Prop := hN h ≤ 1000000 ∧ ∀ i k a, i < hN h → hR h i k = some a → okA (hN h) a
def HRel (D : va_G) (cA : Nat → ClassId) (xt : Nat → Nat) (A : Nat → Prop) (ad : Nat → Nat) (h : PH) (H : Heap) : Prop :=
  va_P D cls12 (wsO cA xt ad h) H ∧ va_D A (wsO cA xt ad h) ∧ wfH h
theorem wsO_at {cA : Nat → ClassId} {xt ad : Nat → Nat} {h : PH} {i : Nat} (hi : i < hN h) : (wsO cA xt ad h)[i]? = some (ad i, cE cA xt ad h i) := by
  unfold wsO
  rw [List.getElem?_map, List.getElem?_range hi]
  rfl
theorem wsO_len {cA : Nat → ClassId} {xt ad : Nat → Nat} {h : PH} : (wsO cA xt ad h).length = hN h := by simp [wsO]
theorem ws_set {cA : Nat → ClassId} {xt ad : Nat → Nat} {h h2 : PH} {i : Nat} {x : va_E} (hn : hN h2 = hN h) (hx : cE cA xt ad h2 i = x) (ho : ∀ j, j ≠ i → cE cA xt ad h2 j = cE cA xt ad h j) : (wsO cA xt ad h).set i (ad i, x) = wsO cA xt ad h2 := by
  apply List.ext_getElem?
  intro j
  by_cases hj : j < hN h
  · rw [wsO_at (by rw [hn]; exact hj), List.getElem?_set]
    by_cases e : i = j
    · subst e
      simp [wsO_len, hj, hx]
    · rw [if_neg e, wsO_at hj, ho j (fun q => e q.symm)]
  · have h1 : (wsO cA xt ad h2).length ≤ j := by rw [wsO_len, hn]; omega
    have h2 : ((wsO cA xt ad h).set i (ad i, x)).length ≤ j := by rw [List.length_set, wsO_len]; omega
    rw [List.getElem?_eq_none h1, List.getElem?_eq_none h2]
theorem cE_obj {cA : Nat → ClassId} {xt ad : Nat → Nat} {h : PH} {i ci : Nat} (hs : hS h i = .inl ci) : cE cA xt ad h i = .inr (ci, (List.range (nF ci)).map (fV xt ad h i ci)) := by
  unfold cE; rw [hs]
theorem cE_arr {cA : Nat → ClassId} {xt ad : Nat → Nat} {h : PH} {i t n : Nat} (hs : hS h i = .inr (t, n)) : cE cA xt ad h i = .inl (cA t, n, aC xt ad h i t) := by
  unfold cE; rw [hs]
theorem cE_congr {cA : Nat → ClassId} {xt ad : Nat → Nat} {h h2 : PH} {j : Nat} (e1 : hS h2 j = hS h j) (e2 : hI h2 j = hI h j) (e3 : hL h2 j = hL h j) (e4 : hR h2 j = hR h j) : cE cA xt ad h2 j = cE cA xt ad h j := by
  unfold cE
  rw [e1]
  cases hS h j with
  | inl ci =>
    have e : fV xt ad h2 j ci = fV xt ad h j ci := by funext k; simp only [fV, e2, e4]
    simp only [e]
  | inr q => simp only [aC, e2, e3, e4]
/-! reading what was written -/
theorem hN_sA (h : PH) (i : Nat) (f : Nat → Int32) : hN (sA h i f) = hN h := rfl
theorem hS_sA (h : PH) (i : Nat) (f : Nat → Int32) : hS (sA h i f) = hS h := rfl
theorem hL_sA (h : PH) (i : Nat) (f : Nat → Int32) : hL (sA h i f) = hL h := rfl
theorem hR_sA (h : PH) (i : Nat) (f : Nat → Int32) : hR (sA h i f) = hR h := rfl
theorem hI_sA (h : PH) (i : Nat) (f : Nat → Int32) : hI (sA h i f) i = f := if_pos rfl
theorem hI_sAn (h : PH) {i j : Nat} (f : Nat → Int32) (e : j ≠ i) : hI (sA h i f) j = hI h j := if_neg e
theorem hN_sL (h : PH) (i j : Nat) (x : Int64) : hN (sL h i j x) = hN h := rfl
theorem hS_sL (h : PH) (i j : Nat) (x : Int64) : hS (sL h i j x) = hS h := rfl
theorem hI_sL (h : PH) (i j : Nat) (x : Int64) : hI (sL h i j x) = hI h := rfl
theorem hR_sL (h : PH) (i j : Nat) (x : Int64) : hR (sL h i j x) = hR h := rfl
theorem hL_sL (h : PH) (i j : Nat) (x : Int64) : hL (sL h i j x) i = vp_updL (hL h i) j x := if_pos rfl
theorem hL_sLn (h : PH) {i k : Nat} (j : Nat) (x : Int64) (e : k ≠ i) : hL (sL h i j x) k = hL h k := if_neg e
theorem hN_sR (h : PH) (i j : Nat) (x : Option Nat) : hN (sR h i j x) = hN h := rfl
theorem hS_sR (h : PH) (i j : Nat) (x : Option Nat) : hS (sR h i j x) = hS h := rfl
theorem hI_sR (h : PH) (i j : Nat) (x : Option Nat) : hI (sR h i j x) = hI h := rfl
theorem hL_sR (h : PH) (i j : Nat) (x : Option Nat) : hL (sR h i j x) = hL h := rfl
theorem hR_sR (h : PH) (i j : Nat) (x : Option Nat) : hR (sR h i j x) i = va_up (hR h i) j x := if_pos rfl
theorem hR_sRn (h : PH) {i k : Nat} (j : Nat) (x : Option Nat) (e : k ≠ i) : hR (sR h i j x) k = hR h k := if_neg e
/-! the world behind a write -/
theorem wfH_sA {h : PH} {i : Nat} {f : Nat → Int32} (w : wfH h) : wfH (sA h i f) := w
theorem wfH_sL {h : PH} {i j : Nat} {x : Int64} (w : wfH h) : wfH (sL h i j x) := w
theorem wfH_sR {h : PH} {i j : Nat} {x : Option Nat} (w : wfH h) (hx : ∀ a, x = some a → okA (hN h) a) : wfH (sR h i j x) := by
  refine ⟨w.1, fun p k a hp hr => ?_⟩
  by_cases e : p = i
  · subst e
    rw [hR_sR] at hr
    unfold va_up at hr
    by_cases e2 : k = j
    · rw [if_pos e2] at hr; exact hx a hr
    · rw [if_neg e2] at hr; exact w.2 p k a hp hr
  · rw [hR_sRn h j x e] at hr
    exact w.2 p k a hp hr
theorem ws_sI {cA : Nat → ClassId} {xt ad : Nat → Nat} {h : PH} {i t n : Nat} {f : Nat → Int32} (hs : hS h i = .inr (t, n)) (h1 : t ≠ 1) (h4 : t < 4) : (wsO cA xt ad h).set i (ad i, .inl (cA t, n, .inl f)) = wsO cA xt ad (sA h i f) := by
  refine ws_set rfl ?_ (fun j e => cE_congr rfl (hI_sAn h f e) rfl rfl)
  rw [cE_arr (show hS (sA h i f) i = .inr (t, n) from hs)]
  simp only [aC, if_neg h1, if_pos h4, hI_sA]
theorem ws_sL {cA : Nat → ClassId} {xt ad : Nat → Nat} {h : PH} {i n j : Nat} {x : Int64} (hs : hS h i = .inr (1, n)) : (wsO cA xt ad h).set i (ad i, .inl (cA 1, n, .inr (.inl (vp_updL (hL h i) j x)))) = wsO cA xt ad (sL h i j x) := by
  refine ws_set rfl ?_ (fun k e => cE_congr rfl rfl (hL_sLn h j x e) rfl)
  rw [cE_arr (show hS (sL h i j x) i = .inr (1, n) from hs)]
  simp only [aC, if_pos, hL_sL]
theorem ws_sR {cA : Nat → ClassId} {xt ad : Nat → Nat} {h : PH} {i t n j : Nat} {x : Nat} (hs : hS h i = .inr (t, n)) (h1 : t ≠ 1) (h4 : ¬ t < 4) : (wsO cA xt ad h).set i (ad i, .inl (cA t, n, .inr (.inr (.inr (.inr (va_up (fun j => (hR h i j).map (ax xt ad)) j (some (ax xt ad x)))))))) = wsO cA xt ad (sR h i j (some x)) := by
  refine ws_set rfl ?_ (fun k e => cE_congr rfl rfl rfl (hR_sRn h j (some x) e))
  rw [cE_arr (show hS (sR h i j (some x)) i = .inr (t, n) from hs)]
  simp only [aC, if_neg h1, if_neg h4, hR_sR]
  congr 7
  funext k
  unfold va_up
  by_cases e : k = j
  · rw [if_pos e, if_pos e]; rfl
  · rw [if_neg e, if_neg e]
theorem fs_set {N k : Nat} {f g : Nat → Value} {v : Value} (hk : k < N) (h1 : g k = v) (h2 : ∀ j, j ≠ k → g j = f j) : ((List.range N).map f).set k v = (List.range N).map g := by
  apply List.ext_getElem?
  intro j
  rw [List.getElem?_set]
  by_cases e : k = j
  · subst e
    simp [hk, h1]
  · rw [if_neg e]
    by_cases hj : j < N
    · simp [hj, h2 j (fun q => e q.symm)]
    · simp [hj]
theorem ws_fI {cA : Nat → ClassId} {xt ad : Nat → Nat} {h : PH} {i ci k : Nat} {x : Int32} (hs : hS h i = .inl ci) (hk : k < nF ci) (hr : isRf (tyF ci k) = false) : (wsO cA xt ad h).set i (ad i, .inr (ci, ((List.range (nF ci)).map (fV xt ad h i ci)).set k (.int x))) = wsO cA xt ad (sI h i k x) := by
  refine ws_set rfl ?_ (fun j e => cE_congr rfl (hI_sAn h _ e) rfl rfl)
  rw [cE_obj (show hS (sI h i k x) i = .inl ci from hs)]
  rw [fs_set (g := fV xt ad (sI h i k x) i ci) hk]
  · simp [fV, hr, sI, hI_sA, upd]
  · intro j e
    simp only [fV, sI, hI_sA, hR_sA, upd, if_neg e]
theorem ws_fR {cA : Nat → ClassId} {xt ad : Nat → Nat} {h : PH} {i ci k : Nat} {x : Option Nat} (hs : hS h i = .inl ci) (hk : k < nF ci) (hr : isRf (tyF ci k) = true) : (wsO cA xt ad h).set i (ad i, .inr (ci, ((List.range (nF ci)).map (fV xt ad h i ci)).set k (va_rf (x.map (ax xt ad))))) = wsO cA xt ad (sR h i k x) := by
  refine ws_set rfl ?_ (fun j e => cE_congr rfl rfl rfl (hR_sRn h k x e))
  rw [cE_obj (show hS (sR h i k x) i = .inl ci from hs)]
  rw [fs_set (g := fV xt ad (sR h i k x) i ci) hk]
  · simp [fV, hr, hR_sR, va_up]
  · intro j e
    simp only [fV, hI_sR, hR_sR, va_up, if_neg e]
/-! a new thing -/
theorem hN_new (h : PH) (z : PSh) : hN (hNew h z) = hN h + 1 := rfl
theorem hS_new (h : PH) (z : PSh) : hS (hNew h z) (hN h) = z := if_pos rfl
theorem hS_newn (h : PH) (z : PSh) {j : Nat} (e : j ≠ hN h) : hS (hNew h z) j = hS h j := if_neg e
theorem hI_new (h : PH) (z : PSh) : hI (hNew h z) (hN h) = fun _ => 0 := if_pos rfl
theorem hI_newn (h : PH) (z : PSh) {j : Nat} (e : j ≠ hN h) : hI (hNew h z) j = hI h j := if_neg e
theorem hL_new (h : PH) (z : PSh) : hL (hNew h z) (hN h) = fun _ => 0 := if_pos rfl
theorem hL_newn (h : PH) (z : PSh) {j : Nat} (e : j ≠ hN h) : hL (hNew h z) j = hL h j := if_neg e
theorem hR_new (h : PH) (z : PSh) : hR (hNew h z) (hN h) = fun _ => none := if_pos rfl
theorem hR_newn (h : PH) (z : PSh) {j : Nat} (e : j ≠ hN h) : hR (hNew h z) j = hR h j := if_neg e
/-- two ways to address that are one on what is made -/
def adE (n : Nat) (ad ad2 : Nat → Nat) : Prop := ∀ i, i < n → ad2 i = ad i
theorem ax_E {xt ad ad2 : Nat → Nat} {n a : Nat} (hn : n ≤ 1000000) (e : adE n ad ad2) (h : okA n a) : ax xt ad2 a = ax xt ad a := by
  unfold ax
  rcases h with h | h
  · rw [if_pos (by omega), if_pos (by omega), e a h]
  · rw [if_neg (by omega), if_neg (by omega)]
theorem gv_E {xt ad ad2 : Nat → Nat} {n : Nat} {v : Value} (hn : n ≤ 1000000) (e : adE n ad ad2) (h : okV n v) : gv xt ad2 v = gv xt ad v := by
  cases v <;> first | rfl | exact congrArg Value.ref (ax_E hn e h)
theorem cE_E {cA : Nat → ClassId} {xt ad ad2 : Nat → Nat} {h : PH} {i : Nat} (w : wfH h) (hi : i < hN h) (e : adE (hN h) ad ad2) : cE cA xt ad2 h i = cE cA xt ad h i := by
  have key : ∀ k, (hR h i k).map (ax xt ad2) = (hR h i k).map (ax xt ad) := by
    intro k
    cases hr : hR h i k with
    | none => rfl
    | some a => exact congrArg some (ax_E w.1 e (w.2 i k a hi hr))
  unfold cE
  cases hS h i with
  | inl ci =>
    have e2 : fV xt ad2 h i ci = fV xt ad h i ci := by funext k; simp only [fV, key]
    simp only [e2]
  | inr q => simp only [aC, key]
theorem wsO_E {cA : Nat → ClassId} {xt ad ad2 : Nat → Nat} {h : PH} (w : wfH h) (e : adE (hN h) ad ad2) : wsO cA xt ad2 h = wsO cA xt ad h := by
  unfold wsO
  apply List.map_congr_left
  intro i hi
  have hi := List.mem_range.mp hi
  rw [cE_E w hi e, e i hi]
theorem wfH_new {h : PH} {z : PSh} (w : wfH h) (hn : hN h < 1000000) : wfH (hNew h z) := by
  refine ⟨by rw [hN_new]; omega, fun i k a hi hr => ?_⟩
  by_cases e : i = hN h
  · subst e
    rw [hR_new] at hr
    cases hr
  · rw [hR_newn h z e] at hr
    rw [hN_new] at hi
    rcases w.2 i k a (by omega) hr with h1 | h1
    · exact Or.inl (by rw [hN_new]; omega)
    · exact Or.inr h1
theorem ws_new {cA : Nat → ClassId} {xt ad : Nat → Nat} {h : PH} {z : PSh} {q : Nat} {x : va_E} (w : wfH h) (hn : hN h < 1000000) (hx : cE cA xt (va_up ad (hN h) q) (hNew h z) (hN h) = x) : wsO cA xt ad h ++ [(q, x)] = wsO cA xt (va_up ad (hN h) q) (hNew h z) := by
  have e : adE (hN h) ad (va_up ad (hN h) q) := fun i hi => if_neg (by omega)
  rw [← wsO_E w e]
  unfold wsO
  rw [hN_new, List.range_succ, List.map_append]
  congr 1
  · apply List.map_congr_left
    intro i hi
    have hi := List.mem_range.mp hi
    rw [cE_congr (hS_newn h z (by omega)) (hI_newn h z (by omega)) (hL_newn h z (by omega)) (hR_newn h z (by omega))]
  · rw [List.map_singleton, hx]
    simp [va_up]
