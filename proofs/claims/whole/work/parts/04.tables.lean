/-! TABLES: the classes; which words of the tables are used; methods; links -/
abbrev cls12 : List vw_C := [(RX0, TX0, 18), (RX1, TX1, 7), (RX2, TX2, 4), (RX3, TX3, 13), (RX5, TX5, 1), (RX6, TX6, 7), (RX7, TX7, 15), (RX8, TX8, 3), (RX9, TX9, 3), (RX10, TX10, 9), (RX11, TX11, 9), (RX12, TX12, 82)]
/-- the class of a number: name, fields, how many; and their types -/
def cR (ci : Nat) : String := match ci with
  | 0 => RX0 | 1 => RX1 | 2 => RX2 | 3 => RX3 | 4 => RX5 | 5 => RX6 | 6 => RX7 | 7 => RX8 | 8 => RX9 | 9 => RX10 | 10 => RX11 | _ => RX12
def cT (ci : Nat) : u_T := match ci with
  | 0 => TX0 | 1 => TX1 | 2 => TX2 | 3 => TX3 | 4 => TX5 | 5 => TX6 | 6 => TX7 | 7 => TX8 | 8 => TX9 | 9 => TX10 | 10 => TX11 | _ => TX12
def nF (ci : Nat) : Nat := match ci with
  | 0 => 18 | 1 => 7 | 2 => 4 | 3 => 13 | 4 => 1 | 5 => 7 | 6 => 15 | 7 => 3 | 8 => 3 | 9 => 9 | 10 => 9 | _ => 82
def tyF (ci : Nat) : Nat → FieldType := match ci with
  | 0 => tyX0 | 1 => tyX1 | 2 => tyX2 | 3 => tyX3 | 4 => tyX5 | 5 => tyX6 | 6 => tyX7 | 7 => tyX8 | 8 => tyX9 | 9 => tyX10 | 10 => tyX11 | _ => tyX12
def isRf (t : FieldType) : Bool := match t with
  | .object _ => true
  | .array _ => true
  | _ => false
def tA (t : Nat) : FieldType := match t with
  | 0 => .int | 1 => .long | 2 => .byte | 3 => .boolean | 4 => .object RX2 | _ => .object RX10
abbrev tysA (cA : Nat → ClassId) : List (ClassId × FieldType) := [(cA 0, .int), (cA 1, .long), (cA 2, .byte), (cA 3, .boolean), (cA 4, .object RX2), (cA 5, .object RX10)]
def keepB (w : Cond) : Bool := match w with
  | .fieldLinkNest .. => true
  | w => goodWord w
def TB : List Cond := lw_tbl.filter keepB
/-- a method: its name, its bytes, its locals, what it returns, its room -/
abbrev MD : Type := MethodName × ByteArray × Nat × Option FieldType × Room
/-- what a link says of a field that is read or written: plain, or a nest mate's -/
def lkF (own : String) (x ci k : Nat) : Prop := Cond.fieldLink own x ((cT ci) k).1 ((cT ci) k).2.1 ((cT ci) k).2.2.1 ∈ TB ∨ ∃ host, Cond.fieldLinkNest own x ((cT ci) k).1 ((cT ci) k).2.1 ((cT ci) k).2.2.1 host ∈ TB
/-- what the tables say of a place that calls: the link, the method -/
def siteB (own : String) (x : Nat) (md2 : MD) (n : Nat) : Prop :=
  Cond.methodLink own x md2.1 ∈ TB ∧ Cond.code md2.1 md2.2.1 md2.2.2.1 md2.2.2.2.1 ∈ TB ∧ Cond.initialized md2.1.cls ∈ TB ∧ md2.1.cls ≠ "java/lang/invoke/MethodHandle" ∧ md2.1.cls ≠ "java/lang/invoke/VarHandle" ∧ (parseMethodDescriptor md2.1.desc).map (fun d => d.parameters.length) = some n
def siteV (own : String) (x : Nat) (C : String) (md2 : MD) (n : Nat) : Prop := siteB own x md2 n ∧ Cond.instanceMethod md2.1 ∈ TB ∧ Cond.selects C md2.1 md2.1 ∈ TB
def siteS (own : String) (x : Nat) (md2 : MD) (n : Nat) : Prop := siteB own x md2 n ∧ Cond.static md2.1 ∈ TB
def siteI (own : String) (x : Nat) (md2 : MD) (n : Nat) : Prop := siteB own x md2 n ∧ md2.1.name = "<init>" ∧ md2.2.2.2.1 = none ∧ Cond.instanceMethod md2.1 ∈ TB
/-- the room of a callee within its caller's -/
def fitR (md md2 : MD) (nc ns : Nat) : Prop := md2.2.2.2.2.frames + 1 ≤ md.2.2.2.2.frames ∧ 8 + (md2.2.2.1 + 11) + md2.2.2.2.2.locals ≤ md.2.2.2.2.locals ∧ nc + md2.2.2.2.2.cells ≤ md.2.2.2.2.cells ∧ ns + md2.2.2.2.2.slots ≤ md.2.2.2.2.slots
/-- a constant of the tables -/
theorem tb_at (k : Nat) {c : Cond} (h : lw_tbl[k]? = some c) (hk : keepB c = true) : c ∈ TB := List.mem_filter.mpr ⟨List.mem_of_getElem? h, hk⟩
