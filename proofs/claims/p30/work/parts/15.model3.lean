/-! the model's states, and its changes as a whole -/
def cpN (r g : Nat → Int32) (lo n : Nat) : Nat → Int32 := fun k => if lo ≤ k ∧ k < lo + n then g (k - lo) else r k
theorem cpN_0 {r g : Nat → Int32} {lo : Nat} : cpN r g lo 0 = r := funext fun k => if_neg (by omega)
theorem cpN_s {r g : Nat → Int32} {lo n : Nat} : upd (cpN r g lo n) (lo + n) (g n) = cpN r g lo (n + 1) := by
  funext k
  simp only [upd]
  unfold cpN
  by_cases q : k = lo + n
  · rw [if_pos q, if_pos (by omega)]
    congr 1
    omega
  · rw [if_neg q]
    by_cases h : lo ≤ k ∧ k < lo + n
    · rw [if_pos h, if_pos (by omega)]
    · rw [if_neg h, if_neg (by omega)]
theorem cpN_hi {r g : Nat → Int32} {lo n k : Nat} (h : lo + n ≤ k) : cpN r g lo n k = r k := if_neg (by omega)
theorem cpN_in {r g : Nat → Int32} {lo n k : Nat} (h : k < n) : cpN r g lo n (lo + k) = g k := by
  unfold cpN
  rw [if_pos (by omega)]
  congr 1
  omega
theorem cpN_in0 {r g : Nat → Int32} {n k : Nat} (h : k < n) : cpN r g 0 n k = g k := by
  unfold cpN
  rw [if_pos (by omega)]
  congr 1
