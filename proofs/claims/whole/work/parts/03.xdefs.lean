/-! THE X KIT: an abstract state (cells by number, ints and references apart) over the kit's judgement W; one contract a method, over abstract states -/
/-- the tables' words that last, and those of nest mates -/
def lw_g : List Cond := lw_tbl.filter goodWord
def xisN : Cond → Bool
  | .fieldLinkNest .. => true
  | .methodLinkNest .. => true
  | _ => false
def lw_n : List Cond := lw_tbl.filter xisN
theorem xin {w : Cond} (i : Nat) (h : lw_tbl[i]? = some w) (hg : goodWord w = true) : w ∈ lw_g := List.mem_filter.mpr ⟨List.mem_of_getElem? h, hg⟩
theorem xinN {w : Cond} (i : Nat) (h : lw_tbl[i]? = some w) (hg : xisN w = true) : w ∈ lw_n := List.mem_filter.mpr ⟨List.mem_of_getElem? h, hg⟩
/-- a method: its name, bytes, locals, answer's type -/
abbrev xY : Type := MethodName × ByteArray × Nat × Option FieldType
/-- a state: the next free cell; of each cell its kind (0 .. 11 an object of that class; 12 ints, 13 booleans, 14 clauses) and length; the references in it; the ints in it -/
abbrev xS : Type := Nat × (Nat → Nat × Nat) × (Nat → Nat → Option Nat) × (Nat → Nat → Int32)
/-- launch, the heap at the law's start, classes, slots, array classes, addresses of what was there before (numbers below 64), the script -/
abbrev xG : Type := Launch × Heap × (Nat → ClassId) × (Nat → Nat → Nat) × (Nat → ClassId) × (Nat → Nat) × Nat × (Nat → Int32)
def xRt : List (List Bool) := [[true, false, false, false, false], [true, true, true, true], [false, false, true], [true, true, true, true, false, true, true], [true, false], [true, true, true, true, true, true], [true, true, false, false, true, false, false, false], [true, true, true], [false, false, true, false], [true, true, true, true, true, true, true, false, true, false, true], [true, true, false, true, true, true, true, true], [false, true, true, false, false, false, false, false, false, true, true, true, true, true, false, true, false, false, false, false, true, true, true, true, false, false, true, true, true, true, false, false, false, false]]
/-- is field k of class ci a reference -/
def xR (ci k : Nat) : Bool := (xRt.getD ci []).getD k false
/-- field k of class ci, by the constant at that place of a class -/
def xFl (own : String) (index ci kf : Nat) : Prop := ∃ r : vw_C, vwCl[ci]? = some r ∧ kf < r.2.2 ∧ (∀ w ∈ u_ws r.1 r.2.1 r.2.2, w ∈ lw_g) ∧ (r.2.1 kf).1 = r.1 ∧ (Cond.fieldLink own index r.1 (r.2.1 kf).2.1 (r.2.1 kf).2.2.1 ∈ lw_g ∨ ∃ host : String, Cond.fieldLinkNest own index r.1 (r.2.1 kf).2.1 (r.2.1 kf).2.2.1 host ∈ lw_n)
/-- its type, final or not -/
def xFt (ci kf : Nat) (ty : FieldType) (fin : Bool) : Prop := ∃ (r : vw_C) (tys : Nat → FieldType), vwCl[ci]? = some r ∧ (∀ k, k < r.2.2 → parseFieldDescriptor (r.2.1 k).2.2.1 = some (tys k)) ∧ (∀ a, a < r.2.2 → ∀ b, b < r.2.2 → a ≠ b → (r.2.1 a).2.1 ≠ (r.2.1 b).2.1) ∧ parseFieldDescriptor (r.2.1 kf).2.2.1 = some ty ∧ (r.2.1 kf).2.2.2 = fin
/-- a static field by the constant at that place -/
def xSl (own : String) (index : Nat) (C nm ds : String) : Prop := Cond.fieldLink own index C nm ds ∈ lw_g ∨ ∃ host : String, Cond.fieldLinkNest own index C nm ds host ∈ lw_n
/-- what the tables must say of a called method: its code, its class, its parameters -/
def xLc (yc : xY) (na : Nat) : Prop := Cond.code yc.1 yc.2.1 yc.2.2.1 yc.2.2.2 ∈ lw_g ∧ Cond.initialized yc.1.cls ∈ lw_g ∧ (yc.1.cls ≠ "java/lang/invoke/MethodHandle" ∧ yc.1.cls ≠ "java/lang/invoke/VarHandle" ∧ (parseMethodDescriptor yc.1.desc).map (fun d => d.parameters.length) = some na) ∧ yc.2.2.1 ≤ 45
def xLs (own : String) (index : Nat) (yc : xY) (na : Nat) : Prop := xLc yc na ∧ Cond.methodLink own index yc.1 ∈ lw_g ∧ Cond.static yc.1 ∈ lw_g
def xLv (own : String) (index : Nat) (yc : xY) (na : Nat) : Prop := xLc yc na ∧ Cond.methodLink own index yc.1 ∈ lw_g ∧ Cond.instanceMethod yc.1 ∈ lw_g ∧ Cond.selects yc.1.cls yc.1 yc.1 ∈ lw_g
def xLi (own : String) (index : Nat) (yc : xY) (na : Nat) : Prop := xLc yc na ∧ yc.1.name = "<init>" ∧ yc.2.2.2 = none ∧ (Cond.methodLink own index yc.1 ∈ lw_g ∨ ∃ host : String, Cond.methodLinkNest own index yc.1 host ∈ lw_n) ∧ Cond.instanceMethod yc.1 ∈ lw_g
/-- what the tables must say of a class that is made -/
def xNw (own : String) (index ci N : Nat) : Prop := ∃ (r : vw_C) (tys : Nat → FieldType), vwCl[ci]? = some r ∧ r.2.2 = N ∧ (∀ w ∈ u_ws r.1 r.2.1 r.2.2, w ∈ lw_g) ∧ (∀ k, k < r.2.2 → parseFieldDescriptor (r.2.1 k).2.2.1 = some (tys k)) ∧ Cond.classLink own index r.1 ∈ lw_g ∧ Cond.instantiable r.1 N ∈ lw_g ∧ Cond.initialized r.1 ∈ lw_g ∧ ∀ j, j < r.2.2 → defaultValue (tys j) = if xR ci j = true then .null else .int 0
/-- a static method of a nest mate's -/
def xLsN (own : String) (index : Nat) (yc : xY) (na : Nat) : Prop := xLc yc na ∧ (∃ host : String, Cond.methodLinkNest own index yc.1 host ∈ lw_n) ∧ Cond.static yc.1 ∈ lw_g
