/-! undo, saving, reads of the model -/
def ofN (r : Nat → Int32) (i : Nat) : Nat → Int32
  | 0 => prF r i
  | 1 => tsF r i 0 0
  | 2 => tsF r i 1 0
  | 3 => tsF r i 2 0
  | 4 => r (12 + 14 * i + 11)
  | 5 => r (12 + 14 * i + 12)
  | 6 => r (12 + 14 * i + 13)
  | _ => -2
/-- y as a case: out of 0 .. n, or one of them -/
theorem cs6 (y : Int32) : (y.toInt < 0 ∨ 6 < y.toInt) ∨ y = 0 ∨ y = 1 ∨ y = 2 ∨ y = 3 ∨ y = 4 ∨ y = 5 ∨ y = 6 := by
  by_cases h : y.toInt < 0 ∨ 6 < y.toInt
  · exact Or.inl h
  · refine Or.inr ?_
    have e : ∀ z : Int32, y.toInt = z.toInt → y = z := fun z q => Int32.toInt_inj.mp q
    have h6 : y.toInt = 0 ∨ y.toInt = 1 ∨ y.toInt = 2 ∨ y.toInt = 3 ∨ y.toInt = 4 ∨ y.toInt = 5 ∨ y.toInt = 6 := by omega
    rcases h6 with q | q | q | q | q | q | q
    · exact Or.inl (e 0 q)
    · exact Or.inr (Or.inl (e 1 q))
    · exact Or.inr (Or.inr (Or.inl (e 2 q)))
    · exact Or.inr (Or.inr (Or.inr (Or.inl (e 3 q))))
    · exact Or.inr (Or.inr (Or.inr (Or.inr (Or.inl (e 4 q)))))
    · exact Or.inr (Or.inr (Or.inr (Or.inr (Or.inr (Or.inl (e 5 q))))))
    · exact Or.inr (Or.inr (Or.inr (Or.inr (Or.inr (Or.inr (e 6 q))))))
theorem cs13 (y : Int32) : (y.toInt < 0 ∨ 13 < y.toInt) ∨ ((y = 0 ∨ y = 1 ∨ y = 2 ∨ y = 3) ∨ (y = 4 ∨ y = 5 ∨ y = 6) ∨ (y = 7 ∨ y = 8 ∨ y = 9) ∨ (y = 10 ∨ y = 11 ∨ y = 12 ∨ y = 13)) := by
  by_cases h : y.toInt < 0 ∨ 13 < y.toInt
  · exact Or.inl h
  · refine Or.inr ?_
    have e : ∀ z : Int32, y.toInt = z.toInt → y = z := fun z q => Int32.toInt_inj.mp q
    have e0 : y.toInt = 0 → y = 0 := e 0
    have e1 : y.toInt = 1 → y = 1 := e 1
    have e2 : y.toInt = 2 → y = 2 := e 2
    have e3 : y.toInt = 3 → y = 3 := e 3
    have e4 : y.toInt = 4 → y = 4 := e 4
    have e5 : y.toInt = 5 → y = 5 := e 5
    have e6 : y.toInt = 6 → y = 6 := e 6
    have e7 : y.toInt = 7 → y = 7 := e 7
    have e8 : y.toInt = 8 → y = 8 := e 8
    have e9 : y.toInt = 9 → y = 9 := e 9
    have e10 : y.toInt = 10 → y = 10 := e 10
    have e11 : y.toInt = 11 → y = 11 := e 11
    have e12 : y.toInt = 12 → y = 12 := e 12
    have e13 : y.toInt = 13 → y = 13 := e 13
    have h6 : ((y.toInt = 0 ∨ y.toInt = 1 ∨ y.toInt = 2 ∨ y.toInt = 3) ∨ (y.toInt = 4 ∨ y.toInt = 5 ∨ y.toInt = 6) ∨ (y.toInt = 7 ∨ y.toInt = 8 ∨ y.toInt = 9) ∨ (y.toInt = 10 ∨ y.toInt = 11 ∨ y.toInt = 12 ∨ y.toInt = 13)) := by omega
    rcases h6 with (q | q | q | q) | (q | q | q) | (q | q | q) | (q | q | q | q) <;> simp [e0, e1, e2, e3, e4, e5, e6, e7, e8, e9, e10, e11, e12, e13, q]
def selN (n : Nat) (y : Int32) (f : Nat → Int32) : Int32 := if y.toInt < 0 ∨ (n : Int) < y.toInt then -2 else f y.toInt.toNat
theorem selN_out {n : Nat} {y : Int32} {f : Nat → Int32} (h : y.toInt < 0 ∨ (n : Int) < y.toInt) : -2 = selN n y f := (if_pos h).symm
theorem selN_in {n : Nat} {y : Int32} {f : Nat → Int32} (k : Nat) (hk : k ≤ n) (h : y.toInt = (k : Int)) : f k = selN n y f := by
  unfold selN
  rw [if_neg (by omega), h]
  rfl
def ofO (r : Nat → Int32) (x y : Int32) : Int32 := if lfP r x then selN 6 y (ofN r x.toInt.toNat) else -1
theorem ofO_1 {r : Nat → Int32} {x y : Int32} (h : ¬ lfP r x) : -1 = ofO r x y := (if_neg h).symm
theorem ofO_2 {r : Nat → Int32} {i : Nat} {y v : Int32} (hi : i < 5) (h : lfP r (nI i)) (hv : v = selN 6 y (ofN r i)) : v = ofO r (nI i) y := by
  unfold ofO
  rw [if_pos h, nIt (by omega)]
  exact hv
def blN (r : Nat → Int32) : Nat → Int32
  | 0 => prS r / 20
  | 1 => tsS r 0 0 / 20
  | 2 => tsS r 1 0 / 20
  | 3 => tsS r 2 0 / 20
  | 4 => shS r
  | 5 => mkF r (nlv r)
  | _ => -2
theorem cs5 (y : Int32) : (y.toInt < 0 ∨ 5 < y.toInt) ∨ y = 0 ∨ y = 1 ∨ y = 2 ∨ y = 3 ∨ y = 4 ∨ y = 5 := by
  by_cases h : y.toInt < 0 ∨ 5 < y.toInt
  · exact Or.inl h
  · refine Or.inr ?_
    rcases cs6 y with q | q | q | q | q | q | q | q
    · omega
    · exact Or.inl q
    · exact Or.inr (Or.inl q)
    · exact Or.inr (Or.inr (Or.inl q))
    · exact Or.inr (Or.inr (Or.inr (Or.inl q)))
    · exact Or.inr (Or.inr (Or.inr (Or.inr (Or.inl q))))
    · exact Or.inr (Or.inr (Or.inr (Or.inr (Or.inr q))))
    · rw [q] at h
      exact absurd (Or.inr (by decide)) h
def cnN (r : Nat → Int32) (a b : Int32) : Nat → Int32
  | 0 => r 2
  | 1 => r 5
  | 2 => r 3
  | 3 => r 4
  | 4 => r 6
  | 5 => r 7
  | 6 => r 8
  | 7 => r 9
  | 8 => r 10
  | 9 => r 11
  | 10 => r 0
  | 11 => r 1
  | 12 => a
  | 13 => b
  | _ => -2

def kfG (r : Nat → Int32) : Nat → Nat → Int32
  | 0, _ => -6
  | n + 1, d => if whyF r (nI d) = 0 then kfG r n (d + 1) else nI d
theorem kfG_y {r : Nat → Int32} {n d : Nat} (h : whyF r (nI d) = 0) : kfG r (n + 1) d = kfG r n (d + 1) := if_pos h
theorem kfG_n {r : Nat → Int32} {n d : Nat} (h : ¬ whyF r (nI d) = 0) : kfG r (n + 1) d = nI d := if_neg h
