section MYS
variable {p : Program} {l : Launch} {e : Env} {R : Room} {s : State} {m : MethodId} {args : Array Value} {below : List Frame} {meth : Method} {c : Code} {H : Heap} {locs : List Loc} {cells slots : Nat} {Q : State → Prop}
variable {cc : ByteArray} {pc : Nat} {ls : Array Slot} {rest : List Value} {a : Nat} {G : GG}
theorem r_ialdS {n : Nat} {f : Nat → Int32} {y : Int32} (hx : p.tables.exec = Jvm.exec) (hb : c.code = cc) (hK : Kn G s) (h : ar G 0 a (iA n f) H) {x : Int32} (i : Nat) (he : x = nI i) (hi : i < n) (hn : n < 2 ^ 31) (hy : f i = y) (hdg : decode cc pc = .ok (.iaload, 1))
    (kk : W p l e R s m args below meth c H locs cells slots Q (F0 m (pc + 1) ls (.int y :: rest))) : W p l e R s m args below meth c H locs cells slots Q (F0 m pc ls (.int x :: .ref a :: rest)) := by
  subst hy
  exact r_iald hx hb hK h i he hi hn hdg kk
end MYS

/-! THE MODEL: one object and its arrays, 13 cells from w on; M k: what the field k holds (an array as a function, a number at 0) -/
def updM (M : Nat → Nat → Int32) (k : Nat) (f : Nat → Int32) : Nat → Nat → Int32 := fun j => if j = k then f else M j
theorem updM_eq {M : Nat → Nat → Int32} {k : Nat} {f : Nat → Int32} : updM M k f k = f := if_pos rfl
theorem updM_ne {M : Nat → Nat → Int32} {k j : Nat} {f : Nat → Int32} (h : j ≠ k) : updM M k f j = M j := if_neg h
