/-! which form an order has; one part of it -/
section MYQ
variable {p : Program} {l : Launch} {e : Env} {R : Room} {s : State} {m : MethodId} {args : Array Value} {below : List Frame} {meth : Method} {c : Code} {H : Heap} {locs : List Loc} {cells slots : Nat} {Q : State → Prop}
variable {cc : ByteArray} {pc : Nat} {ls : Array Slot} {rest st0 : List Value} {free : Nat → Prop}
end MYQ
def SfX (ad : Nat → Nat) (U : State) : Prop := vk_R RX2 68 "#:#,#,#*#" (ad 0) U ∧ vk_R RX2 70 "%=#" (ad 1) U ∧ vk_R RX2 72 "#" (ad 2) U ∧ vk_R RX2 74 "" (ad 3) U
theorem SfX.call {ad : Nat → Nat} {s U : State} (h : SfX ad s) (hW : s.WarmedH U.vm) : SfX ad U := ⟨vk_R.warm hW h.1, vk_R.warm hW h.2.1, vk_R.warm hW h.2.2.1, vk_R.warm hW h.2.2.2⟩
