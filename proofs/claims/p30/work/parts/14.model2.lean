/-! the model's inner writers -/
theorem updM_2 {M : Nat → Nat → Int32} {k : Nat} {f g : Nat → Int32} : updM (updM M k f) k g = updM M k g := by
  funext j
  unfold updM
  by_cases q : j = k
  · rw [if_pos q, if_pos q]
  · rw [if_neg q, if_neg q, if_neg q]
theorem updM_self {M : Nat → Nat → Int32} {k : Nat} {f : Nat → Int32} (h : M k = f) : updM M k f = M := by
  funext j
  unfold updM
  by_cases q : j = k
  · rw [if_pos q, q, h]
  · rw [if_neg q]
