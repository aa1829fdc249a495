/-! the next row of shares; the search -/
theorem i_m1 (x : Int32) : x + Int32.ofInt (-1) = x - 1 := by
  rw [Int32.sub_eq_add_neg]
  rfl
noncomputable def um (C : (Nat → Nat) → Int32) (K : (Nat → Nat) → Prop) (x : Nat → Nat) (a : Int32 × (Nat → Nat)) : Int32 × (Nat → Nat) := @ite _ ((a.1 = -1 ∨ C x < a.1) ∧ K x) (Classical.propDecidable _) (C x, x) a
theorem um_y {C : (Nat → Nat) → Int32} {K : (Nat → Nat) → Prop} {x : Nat → Nat} {a : Int32 × (Nat → Nat)} (h : (a.1 = -1 ∨ C x < a.1) ∧ K x) : um C K x a = (C x, x) := if_pos h
theorem um_n {C : (Nat → Nat) → Int32} {K : (Nat → Nat) → Prop} {x : Nat → Nat} {a : Int32 × (Nat → Nat)} (h : ¬ ((a.1 = -1 ∨ C x < a.1) ∧ K x)) : um C K x a = a := if_neg h
def Cm (r : Nat → Int32) (x : Nat → Nat) : Int32 := nI (sn (fun k => x k * Vn r k 3) 5)
noncomputable def skR (r : Nat → Int32) : Int32 × (Nat → Nat) := if nlv r = 0 then (-1, fun _ => 0) else dfs (um (Cm r) (fun x => kpP r x (Vn r))) (nlv r - 1) 0 20 (fun _ => 0) (-1, fun _ => 0)
theorem sn_un {x : Nat → Nat} {k v : Nat} : ∀ {n : Nat}, k < n → sn (un x k v) n + x k = sn x n + v
  | 0, h => absurd h (Nat.not_lt_zero _)
  | n + 1, h => by
    show sn (un x k v) n + un x k v n + x k = sn x n + x n + v
    by_cases q : k = n
    · subst q
      rw [un_eq]
      have e9 : sn (un x k v) k = sn x k := sn_ext k (fun i hi => un_ne (by omega))
      omega
    · rw [un_ne (fun z => q z.symm)]
      have := sn_un (x := x) (v := v) (show k < n by omega)
      omega
theorem sn_le_one {x : Nat → Nat} {k : Nat} : ∀ {n : Nat}, k < n → x k ≤ sn x n
  | 0, h => absurd h (Nat.not_lt_zero _)
  | n + 1, h => by
    show x k ≤ sn x n + x n
    by_cases q : k = n
    · rw [q]; omega
    · have := sn_le_one (x := x) (show k < n by omega); omega
