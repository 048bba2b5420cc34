/-! cells, worlds, states of the pure machine -/
/-- a cell: an int array (0) or a boolean array (1), its length and values; a long array; an object (the number of its class, its fields) -/
abbrev px_E : Type := (Nat × Nat × (Nat → Int32)) ⊕ ((Nat × (Nat → Int64)) ⊕ (Nat × List Value))
abbrev px_W : Type := List px_E
/-- where a method stands: pc, locals, operand stack, world, cells made, slots made -/
abbrev px_C : Type := Nat × List Value × List Value × px_W × Nat × Nat
/-- how a method ends: none: it threw; some v: it returned v; with world, cells, slots -/
abbrev px_Z : Type := Option (Option Value) × px_W × Nat × Nat
def px_if (c : Jvm.ClassFile.Cond) (x : Int32) : Bool := match c with
  | .eq => decide (x = 0)
  | .ne => decide (¬ x = 0)
  | .lt => decide (x < 0)
  | .ge => decide (0 ≤ x)
  | .gt => decide (0 < x)
  | .le => decide (x ≤ 0)
def px_ic (c : Jvm.ClassFile.Cond) (x y : Int32) : Bool := match c with
  | .eq => decide (x = y)
  | .ne => decide (¬ x = y)
  | .lt => decide (x < y)
  | .ge => decide (y ≤ x)
  | .gt => decide (y < x)
  | .le => decide (x ≤ y)
/-- the words that a stack weighs -/
def px_w : List Value → Nat
  | [] => 0
  | v :: r => v.category + px_w r
