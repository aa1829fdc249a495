/-! the model's changes, seen from outside -/
def setO (r : Nat → Int32) (x y : Int32) : Op := if (x = 0 ∧ (0 ≤ y ∧ y ≤ 99)) ∨ (x = 1 ∧ (1 ≤ y ∧ y ≤ 7)) then (r x.toInt.toNat, upd r x.toInt.toNat y) else (-2, r)
theorem setO_0 {r : Nat → Int32} {y : Int32} (h : 0 ≤ y ∧ y ≤ 99) : setO r 0 y = (r 0, upd r 0 y) := if_pos (Or.inl ⟨rfl, h⟩)
theorem setO_1 {r : Nat → Int32} {y : Int32} (h : 1 ≤ y ∧ y ≤ 7) : setO r 1 y = (r 1, upd r 1 y) := if_pos (Or.inr ⟨rfl, h⟩)
theorem setO_n {r : Nat → Int32} {x y : Int32} (h : ¬ ((x = 0 ∧ (0 ≤ y ∧ y ≤ 99)) ∨ (x = 1 ∧ (1 ≤ y ∧ y ≤ 7)))) : setO r x y = (-2, r) := if_neg h
def tst (t : Int32) (k : Nat) : Int32 := match k with
  | 0 => t &&& 127
  | 1 => t >>> (7 &&& 31) &&& 127
  | _ => t >>> (14 &&& 31) &&& 127
