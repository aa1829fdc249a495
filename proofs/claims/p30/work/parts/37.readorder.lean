/-! an order, read by its form -/
def frL (i : Nat) : List Int32 := if i = 0 then [35, 58, 35, 44, 35, 44, 35, 42, 35] else if i = 1 then [37, 61, 35] else if i = 2 then [35] else []
def btF (i j : Nat) : Int32 := (frL i).getD j 0
def lnF (i : Nat) : Nat := (frL i).length
def SxR (ad tv : Nat → Nat) (A : Nat → Prop) (U : State) : Prop := SfX ad U ∧ (∀ i, i < 4 → StA (ad i) (tv i) (lnF i) (btF i) A U) ∧ SzA A U ∧ SfA A U
theorem SxR.call {ad tv : Nat → Nat} {A B : Nat → Prop} {s U : State} {H : Heap} {locs : List Loc} (h : SxR ad tv A s) (hS : va_S A s.heap H locs) (hAB : ∀ z, B z → A z) (hU : U.heap = H) (hW : s.WarmedH U.vm) : SxR ad tv B U := ⟨h.1.call hW, fun i hi => (h.2.1 i hi).call hS hAB hU hW, h.2.2.1.call hS hAB hU hW, h.2.2.2.call hS hAB hU hW⟩
