section MYS
variable {p : Program} {l : Launch} {e : Env} {R : Room} {s : State} {m : MethodId} {args : Array Value} {below : List Frame} {meth : Method} {c : Code} {H : Heap} {locs : List Loc} {cells slots : Nat} {Q : State → Prop}
variable {cc : ByteArray} {pc : Nat} {ls : Array Slot} {rest : List Value} {a : Nat} {G : GG}
theorem r_ialdS {n : Nat} {f : Nat → Int32} {y : Int32} (hx : p.tables.exec = Jvm.exec) (hb : c.code = cc) (hK : Kn G s) (h : ar G 0 a (iA n f) H) {x : Int32} (i : Nat) (he : x = nI i) (hi : i < n) (hn : n < 2 ^ 31) (hy : f i = y) (hdg : decode cc pc = .ok (.iaload, 1))
    (kk : W p l e R s m args below meth c H locs cells slots Q (F0 m (pc + 1) ls (.int y :: rest))) : W p l e R s m args below meth c H locs cells slots Q (F0 m pc ls (.int x :: .ref a :: rest)) := by
  subst hy
  exact r_iald hx hb hK h i he hi hn hdg kk
theorem r_caldS {n : Nat} {f : Nat → Int32} {y : Int32} (hx : p.tables.exec = Jvm.exec) (hb : c.code = cc) (hK : Kn G s) (h : ar G 1 a (iA n f) H) {x : Int32} (i : Nat) (he : x = nI i) (hi : i < n) (hn : n < 2 ^ 31) (hy : f i = y) (hdg : decode cc pc = .ok (.caload, 1))
    (kk : W p l e R s m args below meth c H locs cells slots Q (F0 m (pc + 1) ls (.int y :: rest))) : W p l e R s m args below meth c H locs cells slots Q (F0 m pc ls (.int x :: .ref a :: rest)) := by
  subst hy
  exact r_cald hx hb hK h i he hi hn hdg kk
theorem r_zaldS {n : Nat} {f : Nat → Int32} {y : Int32} (hx : p.tables.exec = Jvm.exec) (hb : c.code = cc) (hK : Kn G s) (h : ar G 2 a (iA n f) H) {x : Int32} (i : Nat) (he : x = nI i) (hi : i < n) (hn : n < 2 ^ 31) (hy : f i = y) (hdg : decode cc pc = .ok (.baload, 1))
    (kk : W p l e R s m args below meth c H locs cells slots Q (F0 m (pc + 1) ls (.int y :: rest))) : W p l e R s m args below meth c H locs cells slots Q (F0 m pc ls (.int x :: .ref a :: rest)) := by
  subst hy
  exact r_zald hx hb hK h i he hi hn hdg kk
end MYS

/-! THE MODEL: one object and its arrays, 13 cells from w on; M k: what the field k holds (an array as a function, a number at 0) -/
abbrev mdO (w : Nat) (M : Nat → Nat → Int32) : List Value := [.ref (w + 1), .ref (w + 2), .ref (w + 3), .ref (w + 4), .ref (w + 5), .int (M 5 0), .ref (w + 6), .int (M 7 0), .int (M 8 0), .ref (w + 7), .ref (w + 8), .ref (w + 9), .ref (w + 10), .ref (w + 11), .ref (w + 12), .int (M 15 0)]
def MdAt (G : GG) (w : Nat) (M : Nat → Nat → Int32) (H : Heap) : Prop :=
  ob G 7 w (mdO w M) H ∧ ar G 0 (w + 1) (iA 82 (M 0)) H ∧ ar G 0 (w + 2) (iA 492 (M 1)) H ∧ ar G 0 (w + 3) (iA 82 (M 2)) H ∧ ar G 0 (w + 4) (iA 164 (M 3)) H ∧ ar G 2 (w + 5) (iA 2 (M 4)) H ∧ ar G 0 (w + 6) (iA 80 (M 6)) H ∧ ar G 0 (w + 7) (iA 8 (M 9)) H ∧ ar G 0 (w + 8) (iA 5 (M 10)) H ∧ ar G 0 (w + 9) (iA 5 (M 11)) H ∧ ar G 0 (w + 10) (iA 5 (M 12)) H ∧ ar G 0 (w + 11) (iA 15 (M 13)) H ∧ ar G 0 (w + 12) (iA 5 (M 14)) H
def updM (M : Nat → Nat → Int32) (k : Nat) (f : Nat → Int32) : Nat → Nat → Int32 := fun j => if j = k then f else M j
theorem updM_eq {M : Nat → Nat → Int32} {k : Nat} {f : Nat → Int32} : updM M k f k = f := if_pos rfl
theorem updM_ne {M : Nat → Nat → Int32} {k j : Nat} {f : Nat → Int32} (h : j ≠ k) : updM M k f j = M j := if_neg h
theorem MdAt.kept {G : GG} {w : Nat} {M : Nat → Nat → Int32} {H H1 : Heap} (h : MdAt G w M H) (e : ∀ q, w ≤ q → q < w + 13 → H1[q]? = H[q]?) : MdAt G w M H1 :=
  ⟨h.1.kept (e _ (by omega) (by omega)), h.2.1.kept (e _ (by omega) (by omega)), h.2.2.1.kept (e _ (by omega) (by omega)), h.2.2.2.1.kept (e _ (by omega) (by omega)), h.2.2.2.2.1.kept (e _ (by omega) (by omega)), h.2.2.2.2.2.1.kept (e _ (by omega) (by omega)), h.2.2.2.2.2.2.1.kept (e _ (by omega) (by omega)), h.2.2.2.2.2.2.2.1.kept (e _ (by omega) (by omega)), h.2.2.2.2.2.2.2.2.1.kept (e _ (by omega) (by omega)), h.2.2.2.2.2.2.2.2.2.1.kept (e _ (by omega) (by omega)), h.2.2.2.2.2.2.2.2.2.2.1.kept (e _ (by omega) (by omega)), h.2.2.2.2.2.2.2.2.2.2.2.1.kept (e _ (by omega) (by omega)), h.2.2.2.2.2.2.2.2.2.2.2.2.kept (e _ (by omega) (by omega))⟩
theorem MdAt.a0 {G : GG} {w : Nat} {M : Nat → Nat → Int32} {f : Nat → Int32} {H H1 : Heap} (h : MdAt G w M H) (h1 : ar G 0 (w + 1) (iA 82 f) H1) (o : Oq (w + 1) H H1) : MdAt G w (updM M 0 f) H1 :=
  ⟨h.1.kept (o.2 _ (by omega)), h1, h.2.2.1.kept (o.2 _ (by omega)), h.2.2.2.1.kept (o.2 _ (by omega)), h.2.2.2.2.1.kept (o.2 _ (by omega)), h.2.2.2.2.2.1.kept (o.2 _ (by omega)), h.2.2.2.2.2.2.1.kept (o.2 _ (by omega)), h.2.2.2.2.2.2.2.1.kept (o.2 _ (by omega)), h.2.2.2.2.2.2.2.2.1.kept (o.2 _ (by omega)), h.2.2.2.2.2.2.2.2.2.1.kept (o.2 _ (by omega)), h.2.2.2.2.2.2.2.2.2.2.1.kept (o.2 _ (by omega)), h.2.2.2.2.2.2.2.2.2.2.2.1.kept (o.2 _ (by omega)), h.2.2.2.2.2.2.2.2.2.2.2.2.kept (o.2 _ (by omega))⟩
theorem MdAt.a1 {G : GG} {w : Nat} {M : Nat → Nat → Int32} {f : Nat → Int32} {H H1 : Heap} (h : MdAt G w M H) (h1 : ar G 0 (w + 2) (iA 492 f) H1) (o : Oq (w + 2) H H1) : MdAt G w (updM M 1 f) H1 :=
  ⟨h.1.kept (o.2 _ (by omega)), h.2.1.kept (o.2 _ (by omega)), h1, h.2.2.2.1.kept (o.2 _ (by omega)), h.2.2.2.2.1.kept (o.2 _ (by omega)), h.2.2.2.2.2.1.kept (o.2 _ (by omega)), h.2.2.2.2.2.2.1.kept (o.2 _ (by omega)), h.2.2.2.2.2.2.2.1.kept (o.2 _ (by omega)), h.2.2.2.2.2.2.2.2.1.kept (o.2 _ (by omega)), h.2.2.2.2.2.2.2.2.2.1.kept (o.2 _ (by omega)), h.2.2.2.2.2.2.2.2.2.2.1.kept (o.2 _ (by omega)), h.2.2.2.2.2.2.2.2.2.2.2.1.kept (o.2 _ (by omega)), h.2.2.2.2.2.2.2.2.2.2.2.2.kept (o.2 _ (by omega))⟩
theorem MdAt.a2 {G : GG} {w : Nat} {M : Nat → Nat → Int32} {f : Nat → Int32} {H H1 : Heap} (h : MdAt G w M H) (h1 : ar G 0 (w + 3) (iA 82 f) H1) (o : Oq (w + 3) H H1) : MdAt G w (updM M 2 f) H1 :=
  ⟨h.1.kept (o.2 _ (by omega)), h.2.1.kept (o.2 _ (by omega)), h.2.2.1.kept (o.2 _ (by omega)), h1, h.2.2.2.2.1.kept (o.2 _ (by omega)), h.2.2.2.2.2.1.kept (o.2 _ (by omega)), h.2.2.2.2.2.2.1.kept (o.2 _ (by omega)), h.2.2.2.2.2.2.2.1.kept (o.2 _ (by omega)), h.2.2.2.2.2.2.2.2.1.kept (o.2 _ (by omega)), h.2.2.2.2.2.2.2.2.2.1.kept (o.2 _ (by omega)), h.2.2.2.2.2.2.2.2.2.2.1.kept (o.2 _ (by omega)), h.2.2.2.2.2.2.2.2.2.2.2.1.kept (o.2 _ (by omega)), h.2.2.2.2.2.2.2.2.2.2.2.2.kept (o.2 _ (by omega))⟩
theorem MdAt.a3 {G : GG} {w : Nat} {M : Nat → Nat → Int32} {f : Nat → Int32} {H H1 : Heap} (h : MdAt G w M H) (h1 : ar G 0 (w + 4) (iA 164 f) H1) (o : Oq (w + 4) H H1) : MdAt G w (updM M 3 f) H1 :=
  ⟨h.1.kept (o.2 _ (by omega)), h.2.1.kept (o.2 _ (by omega)), h.2.2.1.kept (o.2 _ (by omega)), h.2.2.2.1.kept (o.2 _ (by omega)), h1, h.2.2.2.2.2.1.kept (o.2 _ (by omega)), h.2.2.2.2.2.2.1.kept (o.2 _ (by omega)), h.2.2.2.2.2.2.2.1.kept (o.2 _ (by omega)), h.2.2.2.2.2.2.2.2.1.kept (o.2 _ (by omega)), h.2.2.2.2.2.2.2.2.2.1.kept (o.2 _ (by omega)), h.2.2.2.2.2.2.2.2.2.2.1.kept (o.2 _ (by omega)), h.2.2.2.2.2.2.2.2.2.2.2.1.kept (o.2 _ (by omega)), h.2.2.2.2.2.2.2.2.2.2.2.2.kept (o.2 _ (by omega))⟩
theorem MdAt.a4 {G : GG} {w : Nat} {M : Nat → Nat → Int32} {f : Nat → Int32} {H H1 : Heap} (h : MdAt G w M H) (h1 : ar G 2 (w + 5) (iA 2 f) H1) (o : Oq (w + 5) H H1) : MdAt G w (updM M 4 f) H1 :=
  ⟨h.1.kept (o.2 _ (by omega)), h.2.1.kept (o.2 _ (by omega)), h.2.2.1.kept (o.2 _ (by omega)), h.2.2.2.1.kept (o.2 _ (by omega)), h.2.2.2.2.1.kept (o.2 _ (by omega)), h1, h.2.2.2.2.2.2.1.kept (o.2 _ (by omega)), h.2.2.2.2.2.2.2.1.kept (o.2 _ (by omega)), h.2.2.2.2.2.2.2.2.1.kept (o.2 _ (by omega)), h.2.2.2.2.2.2.2.2.2.1.kept (o.2 _ (by omega)), h.2.2.2.2.2.2.2.2.2.2.1.kept (o.2 _ (by omega)), h.2.2.2.2.2.2.2.2.2.2.2.1.kept (o.2 _ (by omega)), h.2.2.2.2.2.2.2.2.2.2.2.2.kept (o.2 _ (by omega))⟩
theorem MdAt.a6 {G : GG} {w : Nat} {M : Nat → Nat → Int32} {f : Nat → Int32} {H H1 : Heap} (h : MdAt G w M H) (h1 : ar G 0 (w + 6) (iA 80 f) H1) (o : Oq (w + 6) H H1) : MdAt G w (updM M 6 f) H1 :=
  ⟨h.1.kept (o.2 _ (by omega)), h.2.1.kept (o.2 _ (by omega)), h.2.2.1.kept (o.2 _ (by omega)), h.2.2.2.1.kept (o.2 _ (by omega)), h.2.2.2.2.1.kept (o.2 _ (by omega)), h.2.2.2.2.2.1.kept (o.2 _ (by omega)), h1, h.2.2.2.2.2.2.2.1.kept (o.2 _ (by omega)), h.2.2.2.2.2.2.2.2.1.kept (o.2 _ (by omega)), h.2.2.2.2.2.2.2.2.2.1.kept (o.2 _ (by omega)), h.2.2.2.2.2.2.2.2.2.2.1.kept (o.2 _ (by omega)), h.2.2.2.2.2.2.2.2.2.2.2.1.kept (o.2 _ (by omega)), h.2.2.2.2.2.2.2.2.2.2.2.2.kept (o.2 _ (by omega))⟩
theorem MdAt.a9 {G : GG} {w : Nat} {M : Nat → Nat → Int32} {f : Nat → Int32} {H H1 : Heap} (h : MdAt G w M H) (h1 : ar G 0 (w + 7) (iA 8 f) H1) (o : Oq (w + 7) H H1) : MdAt G w (updM M 9 f) H1 :=
  ⟨h.1.kept (o.2 _ (by omega)), h.2.1.kept (o.2 _ (by omega)), h.2.2.1.kept (o.2 _ (by omega)), h.2.2.2.1.kept (o.2 _ (by omega)), h.2.2.2.2.1.kept (o.2 _ (by omega)), h.2.2.2.2.2.1.kept (o.2 _ (by omega)), h.2.2.2.2.2.2.1.kept (o.2 _ (by omega)), h1, h.2.2.2.2.2.2.2.2.1.kept (o.2 _ (by omega)), h.2.2.2.2.2.2.2.2.2.1.kept (o.2 _ (by omega)), h.2.2.2.2.2.2.2.2.2.2.1.kept (o.2 _ (by omega)), h.2.2.2.2.2.2.2.2.2.2.2.1.kept (o.2 _ (by omega)), h.2.2.2.2.2.2.2.2.2.2.2.2.kept (o.2 _ (by omega))⟩
theorem MdAt.a10 {G : GG} {w : Nat} {M : Nat → Nat → Int32} {f : Nat → Int32} {H H1 : Heap} (h : MdAt G w M H) (h1 : ar G 0 (w + 8) (iA 5 f) H1) (o : Oq (w + 8) H H1) : MdAt G w (updM M 10 f) H1 :=
  ⟨h.1.kept (o.2 _ (by omega)), h.2.1.kept (o.2 _ (by omega)), h.2.2.1.kept (o.2 _ (by omega)), h.2.2.2.1.kept (o.2 _ (by omega)), h.2.2.2.2.1.kept (o.2 _ (by omega)), h.2.2.2.2.2.1.kept (o.2 _ (by omega)), h.2.2.2.2.2.2.1.kept (o.2 _ (by omega)), h.2.2.2.2.2.2.2.1.kept (o.2 _ (by omega)), h1, h.2.2.2.2.2.2.2.2.2.1.kept (o.2 _ (by omega)), h.2.2.2.2.2.2.2.2.2.2.1.kept (o.2 _ (by omega)), h.2.2.2.2.2.2.2.2.2.2.2.1.kept (o.2 _ (by omega)), h.2.2.2.2.2.2.2.2.2.2.2.2.kept (o.2 _ (by omega))⟩
theorem MdAt.a11 {G : GG} {w : Nat} {M : Nat → Nat → Int32} {f : Nat → Int32} {H H1 : Heap} (h : MdAt G w M H) (h1 : ar G 0 (w + 9) (iA 5 f) H1) (o : Oq (w + 9) H H1) : MdAt G w (updM M 11 f) H1 :=
  ⟨h.1.kept (o.2 _ (by omega)), h.2.1.kept (o.2 _ (by omega)), h.2.2.1.kept (o.2 _ (by omega)), h.2.2.2.1.kept (o.2 _ (by omega)), h.2.2.2.2.1.kept (o.2 _ (by omega)), h.2.2.2.2.2.1.kept (o.2 _ (by omega)), h.2.2.2.2.2.2.1.kept (o.2 _ (by omega)), h.2.2.2.2.2.2.2.1.kept (o.2 _ (by omega)), h.2.2.2.2.2.2.2.2.1.kept (o.2 _ (by omega)), h1, h.2.2.2.2.2.2.2.2.2.2.1.kept (o.2 _ (by omega)), h.2.2.2.2.2.2.2.2.2.2.2.1.kept (o.2 _ (by omega)), h.2.2.2.2.2.2.2.2.2.2.2.2.kept (o.2 _ (by omega))⟩
theorem MdAt.a12 {G : GG} {w : Nat} {M : Nat → Nat → Int32} {f : Nat → Int32} {H H1 : Heap} (h : MdAt G w M H) (h1 : ar G 0 (w + 10) (iA 5 f) H1) (o : Oq (w + 10) H H1) : MdAt G w (updM M 12 f) H1 :=
  ⟨h.1.kept (o.2 _ (by omega)), h.2.1.kept (o.2 _ (by omega)), h.2.2.1.kept (o.2 _ (by omega)), h.2.2.2.1.kept (o.2 _ (by omega)), h.2.2.2.2.1.kept (o.2 _ (by omega)), h.2.2.2.2.2.1.kept (o.2 _ (by omega)), h.2.2.2.2.2.2.1.kept (o.2 _ (by omega)), h.2.2.2.2.2.2.2.1.kept (o.2 _ (by omega)), h.2.2.2.2.2.2.2.2.1.kept (o.2 _ (by omega)), h.2.2.2.2.2.2.2.2.2.1.kept (o.2 _ (by omega)), h1, h.2.2.2.2.2.2.2.2.2.2.2.1.kept (o.2 _ (by omega)), h.2.2.2.2.2.2.2.2.2.2.2.2.kept (o.2 _ (by omega))⟩
theorem MdAt.a13 {G : GG} {w : Nat} {M : Nat → Nat → Int32} {f : Nat → Int32} {H H1 : Heap} (h : MdAt G w M H) (h1 : ar G 0 (w + 11) (iA 15 f) H1) (o : Oq (w + 11) H H1) : MdAt G w (updM M 13 f) H1 :=
  ⟨h.1.kept (o.2 _ (by omega)), h.2.1.kept (o.2 _ (by omega)), h.2.2.1.kept (o.2 _ (by omega)), h.2.2.2.1.kept (o.2 _ (by omega)), h.2.2.2.2.1.kept (o.2 _ (by omega)), h.2.2.2.2.2.1.kept (o.2 _ (by omega)), h.2.2.2.2.2.2.1.kept (o.2 _ (by omega)), h.2.2.2.2.2.2.2.1.kept (o.2 _ (by omega)), h.2.2.2.2.2.2.2.2.1.kept (o.2 _ (by omega)), h.2.2.2.2.2.2.2.2.2.1.kept (o.2 _ (by omega)), h.2.2.2.2.2.2.2.2.2.2.1.kept (o.2 _ (by omega)), h1, h.2.2.2.2.2.2.2.2.2.2.2.2.kept (o.2 _ (by omega))⟩
theorem MdAt.a14 {G : GG} {w : Nat} {M : Nat → Nat → Int32} {f : Nat → Int32} {H H1 : Heap} (h : MdAt G w M H) (h1 : ar G 0 (w + 12) (iA 5 f) H1) (o : Oq (w + 12) H H1) : MdAt G w (updM M 14 f) H1 :=
  ⟨h.1.kept (o.2 _ (by omega)), h.2.1.kept (o.2 _ (by omega)), h.2.2.1.kept (o.2 _ (by omega)), h.2.2.2.1.kept (o.2 _ (by omega)), h.2.2.2.2.1.kept (o.2 _ (by omega)), h.2.2.2.2.2.1.kept (o.2 _ (by omega)), h.2.2.2.2.2.2.1.kept (o.2 _ (by omega)), h.2.2.2.2.2.2.2.1.kept (o.2 _ (by omega)), h.2.2.2.2.2.2.2.2.1.kept (o.2 _ (by omega)), h.2.2.2.2.2.2.2.2.2.1.kept (o.2 _ (by omega)), h.2.2.2.2.2.2.2.2.2.2.1.kept (o.2 _ (by omega)), h.2.2.2.2.2.2.2.2.2.2.2.1.kept (o.2 _ (by omega)), h1⟩
theorem MdAt.s5 {G : GG} {w : Nat} {M : Nat → Nat → Int32} {v : Int32} {H H1 : Heap} (h : MdAt G w M H) (h1 : ob G 7 w [.ref (w + 1), .ref (w + 2), .ref (w + 3), .ref (w + 4), .ref (w + 5), .int v, .ref (w + 6), .int (M 7 0), .int (M 8 0), .ref (w + 7), .ref (w + 8), .ref (w + 9), .ref (w + 10), .ref (w + 11), .ref (w + 12), .int (M 15 0)] H1) (o : Oq w H H1) : MdAt G w (updM M 5 (fun _ => v)) H1 :=
  ⟨h1, h.2.1.kept (o.2 _ (by omega)), h.2.2.1.kept (o.2 _ (by omega)), h.2.2.2.1.kept (o.2 _ (by omega)), h.2.2.2.2.1.kept (o.2 _ (by omega)), h.2.2.2.2.2.1.kept (o.2 _ (by omega)), h.2.2.2.2.2.2.1.kept (o.2 _ (by omega)), h.2.2.2.2.2.2.2.1.kept (o.2 _ (by omega)), h.2.2.2.2.2.2.2.2.1.kept (o.2 _ (by omega)), h.2.2.2.2.2.2.2.2.2.1.kept (o.2 _ (by omega)), h.2.2.2.2.2.2.2.2.2.2.1.kept (o.2 _ (by omega)), h.2.2.2.2.2.2.2.2.2.2.2.1.kept (o.2 _ (by omega)), h.2.2.2.2.2.2.2.2.2.2.2.2.kept (o.2 _ (by omega))⟩
theorem MdAt.s7 {G : GG} {w : Nat} {M : Nat → Nat → Int32} {v : Int32} {H H1 : Heap} (h : MdAt G w M H) (h1 : ob G 7 w [.ref (w + 1), .ref (w + 2), .ref (w + 3), .ref (w + 4), .ref (w + 5), .int (M 5 0), .ref (w + 6), .int v, .int (M 8 0), .ref (w + 7), .ref (w + 8), .ref (w + 9), .ref (w + 10), .ref (w + 11), .ref (w + 12), .int (M 15 0)] H1) (o : Oq w H H1) : MdAt G w (updM M 7 (fun _ => v)) H1 :=
  ⟨h1, h.2.1.kept (o.2 _ (by omega)), h.2.2.1.kept (o.2 _ (by omega)), h.2.2.2.1.kept (o.2 _ (by omega)), h.2.2.2.2.1.kept (o.2 _ (by omega)), h.2.2.2.2.2.1.kept (o.2 _ (by omega)), h.2.2.2.2.2.2.1.kept (o.2 _ (by omega)), h.2.2.2.2.2.2.2.1.kept (o.2 _ (by omega)), h.2.2.2.2.2.2.2.2.1.kept (o.2 _ (by omega)), h.2.2.2.2.2.2.2.2.2.1.kept (o.2 _ (by omega)), h.2.2.2.2.2.2.2.2.2.2.1.kept (o.2 _ (by omega)), h.2.2.2.2.2.2.2.2.2.2.2.1.kept (o.2 _ (by omega)), h.2.2.2.2.2.2.2.2.2.2.2.2.kept (o.2 _ (by omega))⟩
theorem MdAt.s8 {G : GG} {w : Nat} {M : Nat → Nat → Int32} {v : Int32} {H H1 : Heap} (h : MdAt G w M H) (h1 : ob G 7 w [.ref (w + 1), .ref (w + 2), .ref (w + 3), .ref (w + 4), .ref (w + 5), .int (M 5 0), .ref (w + 6), .int (M 7 0), .int v, .ref (w + 7), .ref (w + 8), .ref (w + 9), .ref (w + 10), .ref (w + 11), .ref (w + 12), .int (M 15 0)] H1) (o : Oq w H H1) : MdAt G w (updM M 8 (fun _ => v)) H1 :=
  ⟨h1, h.2.1.kept (o.2 _ (by omega)), h.2.2.1.kept (o.2 _ (by omega)), h.2.2.2.1.kept (o.2 _ (by omega)), h.2.2.2.2.1.kept (o.2 _ (by omega)), h.2.2.2.2.2.1.kept (o.2 _ (by omega)), h.2.2.2.2.2.2.1.kept (o.2 _ (by omega)), h.2.2.2.2.2.2.2.1.kept (o.2 _ (by omega)), h.2.2.2.2.2.2.2.2.1.kept (o.2 _ (by omega)), h.2.2.2.2.2.2.2.2.2.1.kept (o.2 _ (by omega)), h.2.2.2.2.2.2.2.2.2.2.1.kept (o.2 _ (by omega)), h.2.2.2.2.2.2.2.2.2.2.2.1.kept (o.2 _ (by omega)), h.2.2.2.2.2.2.2.2.2.2.2.2.kept (o.2 _ (by omega))⟩
theorem MdAt.s15 {G : GG} {w : Nat} {M : Nat → Nat → Int32} {v : Int32} {H H1 : Heap} (h : MdAt G w M H) (h1 : ob G 7 w [.ref (w + 1), .ref (w + 2), .ref (w + 3), .ref (w + 4), .ref (w + 5), .int (M 5 0), .ref (w + 6), .int (M 7 0), .int (M 8 0), .ref (w + 7), .ref (w + 8), .ref (w + 9), .ref (w + 10), .ref (w + 11), .ref (w + 12), .int v] H1) (o : Oq w H H1) : MdAt G w (updM M 15 (fun _ => v)) H1 :=
  ⟨h1, h.2.1.kept (o.2 _ (by omega)), h.2.2.1.kept (o.2 _ (by omega)), h.2.2.2.1.kept (o.2 _ (by omega)), h.2.2.2.2.1.kept (o.2 _ (by omega)), h.2.2.2.2.2.1.kept (o.2 _ (by omega)), h.2.2.2.2.2.2.1.kept (o.2 _ (by omega)), h.2.2.2.2.2.2.2.1.kept (o.2 _ (by omega)), h.2.2.2.2.2.2.2.2.1.kept (o.2 _ (by omega)), h.2.2.2.2.2.2.2.2.2.1.kept (o.2 _ (by omega)), h.2.2.2.2.2.2.2.2.2.2.1.kept (o.2 _ (by omega)), h.2.2.2.2.2.2.2.2.2.2.2.1.kept (o.2 _ (by omega)), h.2.2.2.2.2.2.2.2.2.2.2.2.kept (o.2 _ (by omega))⟩


theorem i64_lt {x y : Int32} : x.toInt64 < y.toInt64 ↔ x < y := by
  rw [Int64.lt_iff_toInt_lt, i32_lt_iff, Int32.toInt_toInt64, Int32.toInt_toInt64]
theorem lgc_lt {x y : Int32} : lg_cmp x.toInt64 y.toInt64 < 0 ↔ x < y := by
  unfold lg_cmp
  by_cases h : x.toInt64 > y.toInt64
  · rw [if_pos h]
    have h' : y < x := i64_lt.mp h
    exact ⟨fun q => absurd q (by decide), fun q => by rw [i32_lt_iff] at q h'; omega⟩
  · rw [if_neg h]
    have h' : ¬ y < x := fun q => h (i64_lt.mpr q)
    by_cases e : x.toInt64 = y.toInt64
    · rw [if_pos e]
      refine ⟨fun q => absurd q (by decide), fun q => ?_⟩
      have := i64_lt.mpr q
      rw [e, Int64.lt_iff_toInt_lt] at this
      omega
    · rw [if_neg e]
      refine ⟨fun _ => ?_, fun _ => by decide⟩
      rw [i32_lt_iff] at h' ⊢
      have : x.toInt ≠ y.toInt := fun q => e (by rw [Int32.toInt_inj.mp q])
      omega
theorem lgc_gt {x y : Int32} : 0 < lg_cmp x.toInt64 y.toInt64 ↔ y < x := by
  unfold lg_cmp
  by_cases h : x.toInt64 > y.toInt64
  · rw [if_pos h]
    exact ⟨fun _ => i64_lt.mp h, fun _ => by decide⟩
  · rw [if_neg h]
    have h' : ¬ y < x := fun q => h (i64_lt.mpr q)
    by_cases e : x.toInt64 = y.toInt64
    · rw [if_pos e]
      exact ⟨fun q => absurd q (by decide), fun q => absurd q h'⟩
    · rw [if_neg e]
      exact ⟨fun q => absurd q (by decide), fun q => absurd q h'⟩
theorem ixE (i k : Nat) : (12 : Int32) + 14 * nI i + nI k = nI (12 + 14 * i + k) := by
  rw [show (12 : Int32) = nI 12 from rfl, show (14 : Int32) = nI 14 from rfl, pk_mul, nI_add, nI_add]
theorem mx_ge {q : Int32} (h : 0 ≤ q) : q = mxI 0 q := by
  unfold mxI
  by_cases h0 : 0 < q
  · rw [if_pos h0]
  · rw [if_neg h0]
    rw [i32_le_iff] at h
    rw [i32_lt_iff] at h0
    apply Int32.toInt_inj.mp
    omega
theorem mx_lt {q : Int32} (h : q < 0) : 0 = mxI 0 q := (if_neg (fun z => by rw [i32_lt_iff] at z h; omega)).symm
theorem ad19 (x : Int32) : x + 20 - 1 = x + 19 := by
  rw [Int32.sub_eq_add_neg, Int32.add_assoc]
  rfl

set_option maxHeartbeats 4000000 in
set_option maxRecDepth 100000 in
theorem k_X7_in (l : Launch) (G : GG) (v lo hi : Int32)  : Met l yX7_in (ws_ yX7_in cX7_in 4 (some .boolean)) (rm_ 0) (PC G [.long v.toInt64, .int lo, .int hi] (fun _ => True)) (vp_Si (fun z => z = bi (lo ≤ v ∧ v ≤ hi))) 0 0 NoA := by
  refine met_q (by decide +kernel) (Nat.le_of_ble_eq_true rfl) ?_
  intro p e s m args below meth c Q hQ hx hb hr hT hown hml hlocks hnm hK _ ls hl
  have hl : lv_has ls 4 [(0, .long v.toInt64), (2, .int lo), (3, .int hi)] := hl
  refine lv_lload_n hx hb dX7_in_0 rfl (lv_at hl 0 rfl) ?_
  refine lv_iload_n hx hb dX7_in_1 rfl (lv_at hl 1 rfl) ?_
  refine lv_i2l hx hb dX7_in_2 rfl ?_
  refine W.lcmp hx hb dX7_in_3 ?_
  refine lv_if_lt (tgt := 18) hx hb dX7_in_4 (by decide) (fun c1 => ?_) (fun c1 => ?_)
  · have c1 := lgc_lt.mp c1
    refine lv_iconst (v := 0) hx hb dX7_in_18 (by decide) ?_
    exact nd_z hQ hx hb hr hlocks dX7_in_19 (by first | exact Or.inl rfl | exact Or.inr rfl | exact bi01) (bi_f (fun q => i32_le_nlt q.1 c1))
  · have c1 : ¬ v < lo := fun q => c1 (lgc_lt.mpr q)
    refine lv_lload_n hx hb dX7_in_7 rfl (lv_at hl 0 rfl) ?_
    refine lv_iload_n hx hb dX7_in_8 rfl (lv_at hl 2 rfl) ?_
    refine lv_i2l hx hb dX7_in_9 rfl ?_
    refine W.lcmp hx hb dX7_in_10 ?_
    refine lv_if_gt (tgt := 18) hx hb dX7_in_11 (by decide) (fun c2 => ?_) (fun c2 => ?_)
    · have c2 := lgc_gt.mp c2
      refine lv_iconst (v := 0) hx hb dX7_in_18 (by decide) ?_
      exact nd_z hQ hx hb hr hlocks dX7_in_19 (by first | exact Or.inl rfl | exact Or.inr rfl | exact bi01) (bi_f (fun q => i32_le_nlt q.2 c2))
    · have c2 : ¬ hi < v := fun q => c2 (lgc_gt.mpr q)
      refine lv_iconst (v := 1) hx hb dX7_in_14 (by decide) ?_
      refine lv_goto (tgt := 19) hx hb dX7_in_15 (by decide) ?_
      exact nd_z hQ hx hb hr hlocks dX7_in_19 (by first | exact Or.inl rfl | exact Or.inr rfl | exact bi01) (bi_t ⟨i32_nlt c1, i32_nlt c2⟩)

set_option maxHeartbeats 4000000 in
set_option maxRecDepth 100000 in
theorem k_X7_its (l : Launch) (G : GG) (w : Nat) (M : Nat → Nat → Int32) (i k : Nat) (hik : 12 + 14 * i + k < 82) : Met l yX7_its (ws_ yX7_its cX7_its 3 (some .int)) (rm_ 0) (PC G [.ref w, .int (nI i), .int (nI k)] (MdAt G w M)) (vp_Si (fun z => z = M 0 (12 + 14 * i + k))) 0 0 NoA := by
  refine met_q (by decide +kernel) (Nat.le_of_ble_eq_true rfl) ?_
  intro p e s m args below meth c Q hQ hx hb hr hT hown hml hlocks hnm hK hM ls hl
  have hl : lv_has ls 3 [(0, .ref w), (1, .int (nI i)), (2, .int (nI k))] := hl
  refine lv_aload_n hx hb dX7_its_0 rfl (lv_at hl 0 rfl) ?_
  refine rg (C := RX7) (T := TX7) (N := 16) (v := .ref (w + 1)) hx hb hT inX7 hown hK hM.1 rfl 0 (by decide) mf_X7_7 rfl dX7_its_1 ?_
  refine lv_bipush (v := 12) hx hb dX7_its_4 (by decide) ?_
  refine lv_bipush (v := 14) hx hb dX7_its_6 (by decide) ?_
  refine lv_iload_n hx hb dX7_its_8 rfl (lv_at hl 1 rfl) ?_
  refine lv_imul hx hb dX7_its_9 ?_
  refine lv_iadd hx hb dX7_its_10 ?_
  refine lv_iload_n hx hb dX7_its_11 rfl (lv_at hl 2 rfl) ?_
  refine lv_iadd hx hb dX7_its_12 ?_
  refine r_ialdS (y := M 0 (12 + 14 * i + k)) hx hb hK hM.2.1 (12 + 14 * i + k) (ixE i k) (hik) (Nat.le_of_ble_eq_true rfl) rfl dX7_its_13 ?_
  exact nd_i hQ hx hb hr hlocks dX7_its_14 (rfl)

set_option maxHeartbeats 4000000 in
set_option maxRecDepth 100000 in
theorem k_X7_lay (l : Launch) (G : GG) (w : Nat) (M : Nat → Nat → Int32) (i k : Nat) (v : Int32) (hik : 12 + 14 * i + k < 82) : Met l yX7_lay (ws_ yX7_lay cX7_lay 4 (none : Option Jvm.ClassFile.FieldType)) (rm_ 0) (PC G [.ref w, .int (nI i), .int (nI k), .int v] (MdAt G w M)) (QV (MdAt G w (updM M 0 (upd (M 0) (12 + 14 * i + k) v))) (In w 13)) 0 0 (In w 13) := by
  refine met_q (by decide +kernel) (Nat.le_of_ble_eq_true rfl) ?_
  intro p e s m args below meth c Q hQ hx hb hr hT hown hml hlocks hnm hK hM ls hl
  have hl : lv_has ls 4 [(0, .ref w), (1, .int (nI i)), (2, .int (nI k)), (3, .int v)] := hl
  have hS : va_S (In w 13) s.heap s.heap [] := va_S.rf
  refine lv_aload_n hx hb dX7_lay_0 rfl (lv_at hl 0 rfl) ?_
  refine rg (C := RX7) (T := TX7) (N := 16) (v := .ref (w + 1)) hx hb hT inX7 hown hK hM.1 rfl 0 (by decide) mf_X7_7 rfl dX7_lay_1 ?_
  refine lv_bipush (v := 12) hx hb dX7_lay_4 (by decide) ?_
  refine lv_bipush (v := 14) hx hb dX7_lay_6 (by decide) ?_
  refine lv_iload_n hx hb dX7_lay_8 rfl (lv_at hl 1 rfl) ?_
  refine lv_imul hx hb dX7_lay_9 ?_
  refine lv_iadd hx hb dX7_lay_10 ?_
  refine lv_iload_n hx hb dX7_lay_11 rfl (lv_at hl 2 rfl) ?_
  refine lv_iadd hx hb dX7_lay_12 ?_
  refine lv_iload_n hx hb dX7_lay_13 rfl (lv_at hl 3 rfl) ?_
  refine r_iast hx hb hK hM.2.1 (12 + 14 * i + k) (ixE i k) (hik) (Nat.le_of_ble_eq_true rfl) hS (show _ ∧ _ from ⟨by omega, by omega⟩) dX7_lay_14 (fun H locs h1 o hS => ?_)
  exact nd_V hQ hx hb hr hlocks dX7_lay_15 hS (hM.a0 h1 o)

set_option maxHeartbeats 4000000 in
set_option maxRecDepth 100000 in
theorem k_X7_isLeaf (l : Launch) (G : GG) (w : Nat) (M : Nat → Nat → Int32) (x : Int32) (hw : WF (M 0)) : Met l yX7_isLeaf (ws_ yX7_isLeaf cX7_isLeaf 2 (some .boolean)) (rm_ 1) (PC G [.ref w, .int x] (MdAt G w M)) (vp_Si (fun z => z = bi (0 ≤ x ∧ x < M 0 5))) 0 0 NoA := by
  refine met_q (by decide +kernel) (Nat.le_of_ble_eq_true rfl) ?_
  intro p e s m args below meth c Q hQ hx hb hr hT hown hml hlocks hnm hK hM ls hl
  have hl : lv_has ls 2 [(0, .ref w), (1, .int x)] := hl
  refine lv_iload_n hx hb dX7_isLeaf_0 rfl (lv_at hl 1 rfl) ?_
  refine lv_i2l hx hb dX7_isLeaf_1 rfl ?_
  refine lv_iconst (v := 0) hx hb dX7_isLeaf_2 (by decide) ?_
  refine lv_aload_n hx hb dX7_isLeaf_3 rfl (lv_at hl 0 rfl) ?_
  refine rg (C := RX7) (T := TX7) (N := 16) (v := .ref (w + 1)) hx hb hT inX7 hown hK hM.1 rfl 0 (by decide) mf_X7_7 rfl dX7_isLeaf_4 ?_
  refine lv_iconst (v := 5) hx hb dX7_isLeaf_7 (by decide) ?_
  refine r_ialdS (y := M 0 5) hx hb hK hM.2.1 5 (by decide) (by omega) (Nat.le_of_ble_eq_true rfl) rfl dX7_isLeaf_8 ?_
  refine lv_iconst (v := 1) hx hb dX7_isLeaf_9 (by decide) ?_
  refine lv_isub hx hb dX7_isLeaf_10 ?_
  refine got_i (run_s hx hb hml hown hT hK hl.1 (k_X7_in l G x 0 (M 0 5 - 1)) (cw_X7_47 hT ⟨Nat.le_of_ble_eq_true rfl, Nat.le_of_ble_eq_true rfl⟩) trivial rfl rfl (Nat.le_of_ble_eq_true rfl) dX7_isLeaf_11 ⟨Nat.zero_le _, Nat.zero_le _⟩) (fun v_1 hv_1 => ?_)
  subst hv_1
  have hlem : x ≤ M 0 5 - 1 ↔ x < M 0 5 := by
    have h1 := hw.1
    rw [i32_le_iff, i32_lt_iff, Int32.toInt_sub, show (1 : Int32).toInt = 1 from rfl, Int.bmod_eq_of_le (by omega) (by omega)]
    omega
  exact nd_z hQ hx hb hr hlocks dX7_isLeaf_14 (by first | exact Or.inl rfl | exact Or.inr rfl | exact bi01) (by unfold bi; simp only [hlem])

set_option maxHeartbeats 4000000 in
set_option maxRecDepth 100000 in
theorem k_X7_priceOf (l : Launch) (G : GG) (w : Nat) (M : Nat → Nat → Int32) (i : Nat) (hw : WF (M 0)) (hi : i < 5) : Met l yX7_priceOf (ws_ yX7_priceOf cX7_priceOf 3 (some .int)) (rm_ 1) (PC G [.ref w, .int (nI i)] (MdAt G w M)) (vp_Si (fun z => z = prF (M 0) i)) 0 0 NoA := by
  refine met_q (by decide +kernel) (Nat.le_of_ble_eq_true rfl) ?_
  intro p e s m args below meth c Q hQ hx hb hr hT hown hml hlocks hnm hK hM ls hl
  have hl : lv_has ls 3 [(0, .ref w), (1, .int (nI i))] := hl
  have hpl := hw.pl
  have hpl7 := hpl.2
  refine lv_aload_n hx hb dX7_priceOf_0 rfl (lv_at hl 0 rfl) ?_
  refine lv_iload_n hx hb dX7_priceOf_1 rfl (lv_at hl 1 rfl) ?_
  refine lv_iconst (v := 0) hx hb dX7_priceOf_2 (by decide) ?_
  refine got_i (run_i hx hb hml hown hT hK hl.1 (k_X7_its l G w M i 0 (by omega)) (cw_X7_62 hT ⟨Nat.le_of_ble_eq_true rfl, Nat.le_of_ble_eq_true rfl⟩) hM.1 rfl hM rfl rfl (Nat.le_of_ble_eq_true rfl) dX7_priceOf_3 ⟨Nat.zero_le _, Nat.zero_le _⟩) (fun v_1 hv_1 => ?_)
  subst hv_1
  refine lv_aload_n hx hb dX7_priceOf_6 rfl (lv_at hl 0 rfl) ?_
  refine lv_iload_n hx hb dX7_priceOf_7 rfl (lv_at hl 1 rfl) ?_
  refine lv_iconst (v := 1) hx hb dX7_priceOf_8 (by decide) ?_
  refine lv_aload_n hx hb dX7_priceOf_9 rfl (lv_at hl 0 rfl) ?_
  refine rg (C := RX7) (T := TX7) (N := 16) (v := .ref (w + 1)) hx hb hT inX7 hown hK hM.1 rfl 0 (by decide) mf_X7_7 rfl dX7_priceOf_10 ?_
  refine lv_iconst (v := 2) hx hb dX7_priceOf_13 (by decide) ?_
  refine r_ialdS (y := M 0 2) hx hb hK hM.2.1 2 (by decide) (by omega) (Nat.le_of_ble_eq_true rfl) rfl dX7_priceOf_14 ?_
  refine lv_aload_n hx hb dX7_priceOf_15 rfl (lv_at hl 0 rfl) ?_
  refine rg (C := RX7) (T := TX7) (N := 16) (v := .ref (w + 1)) hx hb hT inX7 hown hK hM.1 rfl 0 (by decide) mf_X7_7 rfl dX7_priceOf_16 ?_
  refine lv_iconst (v := 1) hx hb dX7_priceOf_19 (by decide) ?_
  refine r_ialdS (y := M 0 1) hx hb hK hM.2.1 1 (by decide) (by omega) (Nat.le_of_ble_eq_true rfl) rfl dX7_priceOf_20 ?_
  refine lv_irem hx hb dX7_priceOf_21 (hw.wk) ?_
  refine lv_iadd hx hb dX7_priceOf_22 ?_
  rw [show (1 : Int32) + (M 0 2 - M 0 2 / M 0 1 * M 0 1) = nI (1 + plv (M 0)) by rw [show M 0 2 - M 0 2 / M 0 1 * M 0 1 = nI (plv (M 0)) from hpl.1]; exact nI_add 1 _]
  refine got_i (run_i hx hb hml hown hT hK hl.1 (k_X7_its l G w M i (1 + plv (M 0)) (by omega)) (cw_X7_62 hT ⟨Nat.le_of_ble_eq_true rfl, Nat.le_of_ble_eq_true rfl⟩) hM.1 rfl hM rfl rfl (Nat.le_of_ble_eq_true rfl) dX7_priceOf_23 ⟨Nat.zero_le _, Nat.zero_le _⟩) (fun v_2 hv_2 => ?_)
  subst hv_2
  refine lv_iadd hx hb dX7_priceOf_26 ?_
  refine lv_istore_n (lv' := [(2, .int ((M 0 (12 + 14 * i + 0)) + (M 0 (12 + 14 * i + (1 + plv (M 0)))))), (0, .ref w), (1, .int (nI i))]) hx hb dX7_priceOf_27 rfl hl (by decide) rfl (fun ls hl => ?_)
  refine lv_iload_n hx hb dX7_priceOf_28 rfl (lv_at hl 0 rfl) ?_
  refine lv_if_ge (tgt := 36) hx hb dX7_priceOf_29 (by decide) (fun c1 => ?_) (fun c1 => ?_)
  · refine lv_iload_n hx hb dX7_priceOf_36 rfl (lv_at hl 0 rfl) ?_
    exact nd_i hQ hx hb hr hlocks dX7_priceOf_37 (mx_ge c1)
  · refine lv_iconst (v := 0) hx hb dX7_priceOf_32 (by decide) ?_
    refine lv_goto (tgt := 37) hx hb dX7_priceOf_33 (by decide) ?_
    exact nd_i hQ hx hb hr hlocks dX7_priceOf_37 (mx_lt (i32_nle c1))

set_option maxHeartbeats 4000000 in
set_option maxRecDepth 100000 in
theorem k_X7_tasteOf (l : Launch) (G : GG) (w : Nat) (M : Nat → Nat → Int32) (i t : Nat) (d : Int32) (hi : i < 5) (ht : t < 3) : Met l yX7_tasteOf (ws_ yX7_tasteOf cX7_tasteOf 5 (some .int)) (rm_ 1) (PC G [.ref w, .int (nI i), .int (nI t), .int d] (MdAt G w M)) (vp_Si (fun z => z = tsF (M 0) i t d)) 0 0 NoA := by
  refine met_q (by decide +kernel) (Nat.le_of_ble_eq_true rfl) ?_
  intro p e s m args below meth c Q hQ hx hb hr hT hown hml hlocks hnm hK hM ls hl
  have hl : lv_has ls 5 [(0, .ref w), (1, .int (nI i)), (2, .int (nI t)), (3, .int d)] := hl
  refine lv_sipush (v := 1000) hx hb dX7_tasteOf_0 (by decide) ?_
  refine lv_aload_n hx hb dX7_tasteOf_3 rfl (lv_at hl 0 rfl) ?_
  refine rg (C := RX7) (T := TX7) (N := 16) (v := .ref (w + 1)) hx hb hT inX7 hown hK hM.1 rfl 0 (by decide) mf_X7_7 rfl dX7_tasteOf_4 ?_
  refine lv_iconst (v := 0) hx hb dX7_tasteOf_7 (by decide) ?_
  refine r_ialdS (y := M 0 0) hx hb hK hM.2.1 0 (by decide) (by omega) (Nat.le_of_ble_eq_true rfl) rfl dX7_tasteOf_8 ?_
  refine lv_aload_n hx hb dX7_tasteOf_9 rfl (lv_at hl 0 rfl) ?_
  refine lv_iload_n hx hb dX7_tasteOf_10 rfl (lv_at hl 1 rfl) ?_
  refine lv_bipush (v := 12) hx hb dX7_tasteOf_11 (by decide) ?_
  refine got_i (run_i hx hb hml hown hT hK hl.1 (k_X7_its l G w M i 12 (by omega)) (cw_X7_62 hT ⟨Nat.le_of_ble_eq_true rfl, Nat.le_of_ble_eq_true rfl⟩) hM.1 rfl hM rfl rfl (Nat.le_of_ble_eq_true rfl) dX7_tasteOf_13 ⟨Nat.zero_le _, Nat.zero_le _⟩) (fun v_1 hv_1 => ?_)
  subst hv_1
  refine lv_iload_n hx hb dX7_tasteOf_16 rfl (lv_at hl 3 rfl) ?_
  refine lv_iadd hx hb dX7_tasteOf_17 ?_
  refine lv_imul hx hb dX7_tasteOf_18 ?_
  refine lv_isub hx hb dX7_tasteOf_19 ?_
  refine lv_istore (lv' := [(4, .int (1000 - ((M 0 0) * ((M 0 (12 + 14 * i + 12)) + d)))), (0, .ref w), (1, .int (nI i)), (2, .int (nI t)), (3, .int d)]) hx hb dX7_tasteOf_20 hl (by decide) rfl (fun ls hl => ?_)
  refine lv_iload hx hb dX7_tasteOf_22 (lv_at hl 0 rfl) ?_
  refine lv_if_ge (tgt := 31) hx hb dX7_tasteOf_24 (by decide) (fun c1 => ?_) (fun c1 => ?_)
  · refine lv_aload_n hx hb dX7_tasteOf_31 rfl (lv_at hl 1 rfl) ?_
    refine lv_iload_n hx hb dX7_tasteOf_32 rfl (lv_at hl 2 rfl) ?_
    refine lv_bipush (v := 8) hx hb dX7_tasteOf_33 (by decide) ?_
    refine lv_iload_n hx hb dX7_tasteOf_35 rfl (lv_at hl 3 rfl) ?_
    refine lv_iadd hx hb dX7_tasteOf_36 ?_
    rw [show (8 : Int32) + nI t = nI (8 + t) from nI_add 8 t]
    refine got_i (run_i hx hb hml hown hT hK hl.1 (k_X7_its l G w M i (8 + t) (by omega)) (cw_X7_62 hT ⟨Nat.le_of_ble_eq_true rfl, Nat.le_of_ble_eq_true rfl⟩) hM.1 rfl hM rfl rfl (Nat.le_of_ble_eq_true rfl) dX7_tasteOf_37 ⟨Nat.zero_le _, Nat.zero_le _⟩) (fun v_2 hv_2 => ?_)
    subst hv_2
    refine lv_iload hx hb dX7_tasteOf_40 (lv_at hl 0 rfl) ?_
    refine lv_imul hx hb dX7_tasteOf_42 ?_
    refine lv_sipush (v := 1000) hx hb dX7_tasteOf_43 (by decide) ?_
    refine lv_idiv hx hb dX7_tasteOf_46 (by decide) ?_
    exact nd_i hQ hx hb hr hlocks dX7_tasteOf_47 (by unfold tsF; rw [← mx_ge c1])
  · refine lv_iconst (v := 0) hx hb dX7_tasteOf_27 (by decide) ?_
    refine lv_goto (tgt := 47) hx hb dX7_tasteOf_28 (by decide) ?_
    exact nd_i hQ hx hb hr hlocks dX7_tasteOf_47 (by unfold tsF; rw [← mx_lt (i32_nle c1), Int32.mul_zero]; rfl)

set_option maxHeartbeats 4000000 in
set_option maxRecDepth 100000 in
theorem k_X7_sumOfPrices (l : Launch) (G : GG) (w : Nat) (M : Nat → Nat → Int32)  (hw : WF (M 0)) : Met l yX7_sumOfPrices (ws_ yX7_sumOfPrices cX7_sumOfPrices 3 (some .int)) (rm_ 2) (PC G [.ref w] (MdAt G w M)) (vp_Si (fun z => z = prS (M 0))) 0 0 NoA := by
  refine met_q (by decide +kernel) (Nat.le_of_ble_eq_true rfl) ?_
  intro p e s m args below meth c Q hQ hx hb hr hT hown hml hlocks hnm hK hM ls hl
  have hl : lv_has ls 3 [(0, .ref w)] := hl
  have hn5 := hw.nl5
  have hnl := hw.nl
  refine lv_iconst (v := 0) hx hb dX7_sumOfPrices_0 (by decide) ?_
  refine lv_istore_n (lv' := [(1, .int 0), (0, .ref w)]) hx hb dX7_sumOfPrices_1 rfl hl (by decide) rfl (fun ls hl => ?_)
  refine lv_iconst (v := 0) hx hb dX7_sumOfPrices_2 (by decide) ?_
  refine lv_istore_n (lv' := [(2, .int 0), (1, .int 0), (0, .ref w)]) hx hb dX7_sumOfPrices_3 rfl hl (by decide) rfl (fun ls hl => ?_)
  have loop : ∀ (k : Nat) (i : Nat), i ≤ nlv (M 0) → nlv (M 0) - i < k → ∀ ls : Array Slot, lv_has ls 3 [(2, .int (nI i)), (1, .int (sm (fun i => shF (M 0) i * prF (M 0) i) i)), (0, .ref w)] → W p l e (rm_ 2) s m args below meth c s.heap [] 0 0 Q (F0 m 4 ls []) := by
    intro k
    induction k with
    | zero => intro i hi hm; exact absurd hm (Nat.not_lt_zero _)
    | succ k ih =>
      intro i hi hm ls hl
      refine lv_iload_n hx hb dX7_sumOfPrices_4 rfl (lv_at hl 0 rfl) ?_
      refine lv_aload_n hx hb dX7_sumOfPrices_5 rfl (lv_at hl 2 rfl) ?_
      refine rg (C := RX7) (T := TX7) (N := 16) (v := .ref (w + 1)) hx hb hT inX7 hown hK hM.1 rfl 0 (by decide) mf_X7_7 rfl dX7_sumOfPrices_6 ?_
      refine lv_iconst (v := 5) hx hb dX7_sumOfPrices_9 (by decide) ?_
      refine r_ialdS (y := M 0 5) hx hb hK hM.2.1 5 (by decide) (by omega) (Nat.le_of_ble_eq_true rfl) rfl dX7_sumOfPrices_10 ?_
      refine lv_icmp_ge (tgt := 36) hx hb dX7_sumOfPrices_11 (by decide) (fun cd => ?_) (fun cd => ?_)
      · have hge : nlv (M 0) ≤ i := by
          rw [hnl, nI_leI (by omega) (by omega)] at cd
          exact cd
        have he : i = nlv (M 0) := by omega
        subst he
        refine lv_iload_n hx hb dX7_sumOfPrices_36 rfl (lv_at hl 1 rfl) ?_
        exact nd_i hQ hx hb hr hlocks dX7_sumOfPrices_37 (rfl)
      · have hlt : i < nlv (M 0) := by
          rw [hnl, nI_leI (by omega) (by omega)] at cd
          omega
        refine lv_iload_n hx hb dX7_sumOfPrices_14 rfl (lv_at hl 1 rfl) ?_
        refine lv_aload_n hx hb dX7_sumOfPrices_15 rfl (lv_at hl 2 rfl) ?_
        refine lv_iload_n hx hb dX7_sumOfPrices_16 rfl (lv_at hl 0 rfl) ?_
        refine lv_bipush (v := 13) hx hb dX7_sumOfPrices_17 (by decide) ?_
        refine got_i (run_i hx hb hml hown hT hK hl.1 (k_X7_its l G w M i 13 (by omega)) (cw_X7_62 hT ⟨Nat.le_of_ble_eq_true rfl, Nat.le_of_ble_eq_true rfl⟩) hM.1 rfl hM rfl rfl (Nat.le_of_ble_eq_true rfl) dX7_sumOfPrices_19 ⟨Nat.zero_le _, Nat.zero_le _⟩) (fun v_1 hv_1 => ?_)
        subst hv_1
        refine lv_aload_n hx hb dX7_sumOfPrices_22 rfl (lv_at hl 2 rfl) ?_
        refine lv_iload_n hx hb dX7_sumOfPrices_23 rfl (lv_at hl 0 rfl) ?_
        refine got_i (run_i hx hb hml hown hT hK hl.1 (k_X7_priceOf l G w M i hw (by omega)) (cw_X7_66 hT ⟨Nat.le_of_ble_eq_true rfl, Nat.le_of_ble_eq_true rfl⟩) hM.1 rfl hM rfl rfl (Nat.le_of_ble_eq_true rfl) dX7_sumOfPrices_24 ⟨Nat.zero_le _, Nat.zero_le _⟩) (fun v_2 hv_2 => ?_)
        subst hv_2
        refine lv_imul hx hb dX7_sumOfPrices_27 ?_
        refine lv_iadd hx hb dX7_sumOfPrices_28 ?_
        refine lv_istore_n (lv' := [(1, .int ((sm (fun i => shF (M 0) i * prF (M 0) i) i) + ((M 0 (12 + 14 * i + 13)) * (prF (M 0) i)))), (2, .int (nI i)), (0, .ref w)]) hx hb dX7_sumOfPrices_29 rfl hl (by decide) rfl (fun ls hl => ?_)
        refine lv_iinc (v := nI (i + 1)) (lv' := [(2, .int (nI (i + 1))), (1, .int ((sm (fun i => shF (M 0) i * prF (M 0) i) i) + ((M 0 (12 + 14 * i + 13)) * (prF (M 0) i)))), (0, .ref w)]) hx hb dX7_sumOfPrices_30 hl (k := 1) rfl (nI_1 i) (by decide) rfl (fun ls hl => ?_)
        refine lv_goto (tgt := 4) hx hb dX7_sumOfPrices_33 (by decide) ?_
        exact ih (i + 1) (by omega) (by omega) ls (lv_sub hl [0, 1, 2] rfl)
  exact loop (nlv (M 0) + 1) 0 (Nat.zero_le _) (by omega) ls (lv_sub hl [0, 1, 2] rfl)

set_option maxHeartbeats 4000000 in
set_option maxRecDepth 100000 in
theorem k_X7_sumOfTastes (l : Launch) (G : GG) (w : Nat) (M : Nat → Nat → Int32) (t : Nat) (d : Int32) (hw : WF (M 0)) (ht : t < 3) : Met l yX7_sumOfTastes (ws_ yX7_sumOfTastes cX7_sumOfTastes 5 (some .int)) (rm_ 2) (PC G [.ref w, .int (nI t), .int d] (MdAt G w M)) (vp_Si (fun z => z = tsS (M 0) t d)) 0 0 NoA := by
  refine met_q (by decide +kernel) (Nat.le_of_ble_eq_true rfl) ?_
  intro p e s m args below meth c Q hQ hx hb hr hT hown hml hlocks hnm hK hM ls hl
  have hl : lv_has ls 5 [(0, .ref w), (1, .int (nI t)), (2, .int d)] := hl
  have hn5 := hw.nl5
  have hnl := hw.nl
  refine lv_iconst (v := 0) hx hb dX7_sumOfTastes_0 (by decide) ?_
  refine lv_istore_n (lv' := [(3, .int 0), (0, .ref w), (1, .int (nI t)), (2, .int d)]) hx hb dX7_sumOfTastes_1 rfl hl (by decide) rfl (fun ls hl => ?_)
  refine lv_iconst (v := 0) hx hb dX7_sumOfTastes_2 (by decide) ?_
  refine lv_istore (lv' := [(4, .int 0), (3, .int 0), (0, .ref w), (1, .int (nI t)), (2, .int d)]) hx hb dX7_sumOfTastes_3 hl (by decide) rfl (fun ls hl => ?_)
  have loop : ∀ (k : Nat) (i : Nat), i ≤ nlv (M 0) → nlv (M 0) - i < k → ∀ ls : Array Slot, lv_has ls 5 [(4, .int (nI i)), (3, .int (sm (fun i => shF (M 0) i * tsF (M 0) i t d) i)), (0, .ref w), (1, .int (nI t)), (2, .int d)] → W p l e (rm_ 2) s m args below meth c s.heap [] 0 0 Q (F0 m 5 ls []) := by
    intro k
    induction k with
    | zero => intro i hi hm; exact absurd hm (Nat.not_lt_zero _)
    | succ k ih =>
      intro i hi hm ls hl
      refine lv_iload hx hb dX7_sumOfTastes_5 (lv_at hl 0 rfl) ?_
      refine lv_aload_n hx hb dX7_sumOfTastes_7 rfl (lv_at hl 2 rfl) ?_
      refine rg (C := RX7) (T := TX7) (N := 16) (v := .ref (w + 1)) hx hb hT inX7 hown hK hM.1 rfl 0 (by decide) mf_X7_7 rfl dX7_sumOfTastes_8 ?_
      refine lv_iconst (v := 5) hx hb dX7_sumOfTastes_11 (by decide) ?_
      refine r_ialdS (y := M 0 5) hx hb hK hM.2.1 5 (by decide) (by omega) (Nat.le_of_ble_eq_true rfl) rfl dX7_sumOfTastes_12 ?_
      refine lv_icmp_ge (tgt := 42) hx hb dX7_sumOfTastes_13 (by decide) (fun cd => ?_) (fun cd => ?_)
      · have hge : nlv (M 0) ≤ i := by
          rw [hnl, nI_leI (by omega) (by omega)] at cd
          exact cd
        have he : i = nlv (M 0) := by omega
        subst he
        refine lv_iload_n hx hb dX7_sumOfTastes_42 rfl (lv_at hl 1 rfl) ?_
        exact nd_i hQ hx hb hr hlocks dX7_sumOfTastes_43 (rfl)
      · have hlt : i < nlv (M 0) := by
          rw [hnl, nI_leI (by omega) (by omega)] at cd
          omega
        refine lv_iload_n hx hb dX7_sumOfTastes_16 rfl (lv_at hl 1 rfl) ?_
        refine lv_aload_n hx hb dX7_sumOfTastes_17 rfl (lv_at hl 2 rfl) ?_
        refine lv_iload hx hb dX7_sumOfTastes_18 (lv_at hl 0 rfl) ?_
        refine lv_bipush (v := 13) hx hb dX7_sumOfTastes_20 (by decide) ?_
        refine got_i (run_i hx hb hml hown hT hK hl.1 (k_X7_its l G w M i 13 (by omega)) (cw_X7_62 hT ⟨Nat.le_of_ble_eq_true rfl, Nat.le_of_ble_eq_true rfl⟩) hM.1 rfl hM rfl rfl (Nat.le_of_ble_eq_true rfl) dX7_sumOfTastes_22 ⟨Nat.zero_le _, Nat.zero_le _⟩) (fun v_1 hv_1 => ?_)
        subst hv_1
        refine lv_aload_n hx hb dX7_sumOfTastes_25 rfl (lv_at hl 2 rfl) ?_
        refine lv_iload hx hb dX7_sumOfTastes_26 (lv_at hl 0 rfl) ?_
        refine lv_iload_n hx hb dX7_sumOfTastes_28 rfl (lv_at hl 3 rfl) ?_
        refine lv_iload_n hx hb dX7_sumOfTastes_29 rfl (lv_at hl 4 rfl) ?_
        refine got_i (run_i hx hb hml hown hT hK hl.1 (k_X7_tasteOf l G w M i t d (by omega) ht) (cw_X7_69 hT ⟨Nat.le_of_ble_eq_true rfl, Nat.le_of_ble_eq_true rfl⟩) hM.1 rfl hM rfl rfl (Nat.le_of_ble_eq_true rfl) dX7_sumOfTastes_30 ⟨Nat.zero_le _, Nat.zero_le _⟩) (fun v_2 hv_2 => ?_)
        subst hv_2
        refine lv_imul hx hb dX7_sumOfTastes_33 ?_
        refine lv_iadd hx hb dX7_sumOfTastes_34 ?_
        refine lv_istore_n (lv' := [(3, .int ((sm (fun i => shF (M 0) i * tsF (M 0) i t d) i) + ((M 0 (12 + 14 * i + 13)) * (tsF (M 0) i t d)))), (4, .int (nI i)), (0, .ref w), (1, .int (nI t)), (2, .int d)]) hx hb dX7_sumOfTastes_35 rfl hl (by decide) rfl (fun ls hl => ?_)
        refine lv_iinc (v := nI (i + 1)) (lv' := [(4, .int (nI (i + 1))), (3, .int ((sm (fun i => shF (M 0) i * tsF (M 0) i t d) i) + ((M 0 (12 + 14 * i + 13)) * (tsF (M 0) i t d)))), (0, .ref w), (1, .int (nI t)), (2, .int d)]) hx hb dX7_sumOfTastes_36 hl (k := 1) rfl (nI_1 i) (by decide) rfl (fun ls hl => ?_)
        refine lv_goto (tgt := 5) hx hb dX7_sumOfTastes_39 (by decide) ?_
        exact ih (i + 1) (by omega) (by omega) ls (lv_sub hl [0, 1, 2, 3, 4] rfl)
  exact loop (nlv (M 0) + 1) 0 (Nat.zero_le _) (by omega) ls (lv_sub hl [0, 1, 2, 3, 4] rfl)

set_option maxHeartbeats 4000000 in
set_option maxRecDepth 100000 in
theorem k_X7_shares (l : Launch) (G : GG) (w : Nat) (M : Nat → Nat → Int32)  (hw : WF (M 0)) : Met l yX7_shares (ws_ yX7_shares cX7_shares 3 (some .int)) (rm_ 1) (PC G [.ref w] (MdAt G w M)) (vp_Si (fun z => z = shS (M 0))) 0 0 NoA := by
  refine met_q (by decide +kernel) (Nat.le_of_ble_eq_true rfl) ?_
  intro p e s m args below meth c Q hQ hx hb hr hT hown hml hlocks hnm hK hM ls hl
  have hl : lv_has ls 3 [(0, .ref w)] := hl
  have hn5 := hw.nl5
  have hnl := hw.nl
  refine lv_iconst (v := 0) hx hb dX7_shares_0 (by decide) ?_
  refine lv_istore_n (lv' := [(1, .int 0), (0, .ref w)]) hx hb dX7_shares_1 rfl hl (by decide) rfl (fun ls hl => ?_)
  refine lv_iconst (v := 0) hx hb dX7_shares_2 (by decide) ?_
  refine lv_istore_n (lv' := [(2, .int 0), (1, .int 0), (0, .ref w)]) hx hb dX7_shares_3 rfl hl (by decide) rfl (fun ls hl => ?_)
  have loop : ∀ (k : Nat) (i : Nat), i ≤ nlv (M 0) → nlv (M 0) - i < k → ∀ ls : Array Slot, lv_has ls 3 [(2, .int (nI i)), (1, .int (sm (shF (M 0)) i)), (0, .ref w)] → W p l e (rm_ 1) s m args below meth c s.heap [] 0 0 Q (F0 m 4 ls []) := by
    intro k
    induction k with
    | zero => intro i hi hm; exact absurd hm (Nat.not_lt_zero _)
    | succ k ih =>
      intro i hi hm ls hl
      refine lv_iload_n hx hb dX7_shares_4 rfl (lv_at hl 0 rfl) ?_
      refine lv_aload_n hx hb dX7_shares_5 rfl (lv_at hl 2 rfl) ?_
      refine rg (C := RX7) (T := TX7) (N := 16) (v := .ref (w + 1)) hx hb hT inX7 hown hK hM.1 rfl 0 (by decide) mf_X7_7 rfl dX7_shares_6 ?_
      refine lv_iconst (v := 5) hx hb dX7_shares_9 (by decide) ?_
      refine r_ialdS (y := M 0 5) hx hb hK hM.2.1 5 (by decide) (by omega) (Nat.le_of_ble_eq_true rfl) rfl dX7_shares_10 ?_
      refine lv_icmp_ge (tgt := 30) hx hb dX7_shares_11 (by decide) (fun cd => ?_) (fun cd => ?_)
      · have hge : nlv (M 0) ≤ i := by
          rw [hnl, nI_leI (by omega) (by omega)] at cd
          exact cd
        have he : i = nlv (M 0) := by omega
        subst he
        refine lv_iload_n hx hb dX7_shares_30 rfl (lv_at hl 1 rfl) ?_
        exact nd_i hQ hx hb hr hlocks dX7_shares_31 (rfl)
      · have hlt : i < nlv (M 0) := by
          rw [hnl, nI_leI (by omega) (by omega)] at cd
          omega
        refine lv_iload_n hx hb dX7_shares_14 rfl (lv_at hl 1 rfl) ?_
        refine lv_aload_n hx hb dX7_shares_15 rfl (lv_at hl 2 rfl) ?_
        refine lv_iload_n hx hb dX7_shares_16 rfl (lv_at hl 0 rfl) ?_
        refine lv_bipush (v := 13) hx hb dX7_shares_17 (by decide) ?_
        refine got_i (run_i hx hb hml hown hT hK hl.1 (k_X7_its l G w M i 13 (by omega)) (cw_X7_62 hT ⟨Nat.le_of_ble_eq_true rfl, Nat.le_of_ble_eq_true rfl⟩) hM.1 rfl hM rfl rfl (Nat.le_of_ble_eq_true rfl) dX7_shares_19 ⟨Nat.zero_le _, Nat.zero_le _⟩) (fun v_1 hv_1 => ?_)
        subst hv_1
        refine lv_iadd hx hb dX7_shares_22 ?_
        refine lv_istore_n (lv' := [(1, .int ((sm (shF (M 0)) i) + (M 0 (12 + 14 * i + 13)))), (2, .int (nI i)), (0, .ref w)]) hx hb dX7_shares_23 rfl hl (by decide) rfl (fun ls hl => ?_)
        refine lv_iinc (v := nI (i + 1)) (lv' := [(2, .int (nI (i + 1))), (1, .int ((sm (shF (M 0)) i) + (M 0 (12 + 14 * i + 13)))), (0, .ref w)]) hx hb dX7_shares_24 hl (k := 1) rfl (nI_1 i) (by decide) rfl (fun ls hl => ?_)
        refine lv_goto (tgt := 4) hx hb dX7_shares_27 (by decide) ?_
        exact ih (i + 1) (by omega) (by omega) ls (lv_sub hl [0, 1, 2] rfl)
  exact loop (nlv (M 0) + 1) 0 (Nat.zero_le _) (by omega) ls (lv_sub hl [0, 1, 2] rfl)

set_option maxHeartbeats 4000000 in
set_option maxRecDepth 100000 in
theorem k_X7_needs (l : Launch) (G : GG) (w : Nat) (M : Nat → Nat → Int32) (i : Nat) (g : Int32) (hi : i < 5) : Met l yX7_needs (ws_ yX7_needs cX7_needs 3 (some .int)) (rm_ 1) (PC G [.ref w, .int (nI i), .int g] (MdAt G w M)) (vp_Si (fun z => z = ndF (M 0) i g)) 0 0 NoA := by
  refine met_q (by decide +kernel) (Nat.le_of_ble_eq_true rfl) ?_
  intro p e s m args below meth c Q hQ hx hb hr hT hown hml hlocks hnm hK hM ls hl
  have hl : lv_has ls 3 [(0, .ref w), (1, .int (nI i)), (2, .int g)] := hl
  refine lv_iload_n hx hb dX7_needs_0 rfl (lv_at hl 2 rfl) ?_
  refine lv_aload_n hx hb dX7_needs_1 rfl (lv_at hl 0 rfl) ?_
  refine lv_iload_n hx hb dX7_needs_2 rfl (lv_at hl 1 rfl) ?_
  refine lv_bipush (v := 13) hx hb dX7_needs_3 (by decide) ?_
  refine got_i (run_i hx hb hml hown hT hK hl.1 (k_X7_its l G w M i 13 (by omega)) (cw_X7_62 hT ⟨Nat.le_of_ble_eq_true rfl, Nat.le_of_ble_eq_true rfl⟩) hM.1 rfl hM rfl rfl (Nat.le_of_ble_eq_true rfl) dX7_needs_5 ⟨Nat.zero_le _, Nat.zero_le _⟩) (fun v_1 hv_1 => ?_)
  subst hv_1
  refine lv_imul hx hb dX7_needs_8 ?_
  refine lv_bipush (v := 19) hx hb dX7_needs_9 (by decide) ?_
  refine lv_iadd hx hb dX7_needs_11 ?_
  refine lv_bipush (v := 20) hx hb dX7_needs_12 (by decide) ?_
  refine lv_idiv hx hb dX7_needs_14 (by decide) ?_
  exact nd_i hQ hx hb hr hlocks dX7_needs_15 (by unfold ndF; rw [ad19]; rfl)

set_option maxHeartbeats 4000000 in
set_option maxRecDepth 100000 in
theorem k_X7_suffices (l : Launch) (G : GG) (w : Nat) (M : Nat → Nat → Int32) (g : Int32) (hw : WF (M 0)) : Met l yX7_suffices (ws_ yX7_suffices cX7_suffices 3 (some .boolean)) (rm_ 2) (PC G [.ref w, .int g] (MdAt G w M)) (vp_Si (fun z => z = bc (sfP (M 0) g))) 0 0 NoA := by
  refine met_q (by decide +kernel) (Nat.le_of_ble_eq_true rfl) ?_
  intro p e s m args below meth c Q hQ hx hb hr hT hown hml hlocks hnm hK hM ls hl
  have hl : lv_has ls 3 [(0, .ref w), (1, .int g)] := hl
  have hn5 := hw.nl5
  have hnl := hw.nl
  refine lv_iconst (v := 0) hx hb dX7_suffices_0 (by decide) ?_
  refine lv_istore_n (lv' := [(2, .int 0), (0, .ref w), (1, .int g)]) hx hb dX7_suffices_1 rfl hl (by decide) rfl (fun ls hl => ?_)
  have loop : ∀ (k : Nat) (i : Nat), i ≤ nlv (M 0) → (∀ j, j < i → ndF (M 0) j g ≤ stF (M 0) j) → nlv (M 0) - i < k → ∀ ls : Array Slot, lv_has ls 3 [(2, .int (nI i)), (0, .ref w), (1, .int g)] → W p l e (rm_ 2) s m args below meth c s.heap [] 0 0 Q (F0 m 2 ls []) := by
    intro k
    induction k with
    | zero => intro i hi hb4 hm; exact absurd hm (Nat.not_lt_zero _)
    | succ k ih =>
      intro i hi hb4 hm ls hl
      refine lv_iload_n hx hb dX7_suffices_2 rfl (lv_at hl 0 rfl) ?_
      refine lv_aload_n hx hb dX7_suffices_3 rfl (lv_at hl 1 rfl) ?_
      refine rg (C := RX7) (T := TX7) (N := 16) (v := .ref (w + 1)) hx hb hT inX7 hown hK hM.1 rfl 0 (by decide) mf_X7_7 rfl dX7_suffices_4 ?_
      refine lv_iconst (v := 5) hx hb dX7_suffices_7 (by decide) ?_
      refine r_ialdS (y := M 0 5) hx hb hK hM.2.1 5 (by decide) (by omega) (Nat.le_of_ble_eq_true rfl) rfl dX7_suffices_8 ?_
      refine lv_icmp_ge (tgt := 36) hx hb dX7_suffices_9 (by decide) (fun cd => ?_) (fun cd => ?_)
      · have hge : nlv (M 0) ≤ i := by
          rw [hnl, nI_leI (by omega) (by omega)] at cd
          exact cd
        have he : i = nlv (M 0) := by omega
        subst he
        refine lv_iconst (v := 1) hx hb dX7_suffices_36 (by decide) ?_
        exact nd_z hQ hx hb hr hlocks dX7_suffices_37 (by first | exact Or.inl rfl | exact Or.inr rfl) (bc_t hb4)
      · have hlt : i < nlv (M 0) := by
          rw [hnl, nI_leI (by omega) (by omega)] at cd
          omega
        refine lv_aload_n hx hb dX7_suffices_12 rfl (lv_at hl 1 rfl) ?_
        refine lv_iload_n hx hb dX7_suffices_13 rfl (lv_at hl 0 rfl) ?_
        refine lv_iload_n hx hb dX7_suffices_14 rfl (lv_at hl 2 rfl) ?_
        refine got_i (run_i hx hb hml hown hT hK hl.1 (k_X7_needs l G w M i g (by omega)) (cw_X7_104 hT ⟨Nat.le_of_ble_eq_true rfl, Nat.le_of_ble_eq_true rfl⟩) hM.1 rfl hM rfl rfl (Nat.le_of_ble_eq_true rfl) dX7_suffices_15 ⟨Nat.zero_le _, Nat.zero_le _⟩) (fun v_1 hv_1 => ?_)
        subst hv_1
        refine lv_aload_n hx hb dX7_suffices_18 rfl (lv_at hl 1 rfl) ?_
        refine lv_iload_n hx hb dX7_suffices_19 rfl (lv_at hl 0 rfl) ?_
        refine lv_bipush (v := 11) hx hb dX7_suffices_20 (by decide) ?_
        refine got_i (run_i hx hb hml hown hT hK hl.1 (k_X7_its l G w M i 11 (by omega)) (cw_X7_62 hT ⟨Nat.le_of_ble_eq_true rfl, Nat.le_of_ble_eq_true rfl⟩) hM.1 rfl hM rfl rfl (Nat.le_of_ble_eq_true rfl) dX7_suffices_22 ⟨Nat.zero_le _, Nat.zero_le _⟩) (fun v_2 hv_2 => ?_)
        subst hv_2
        refine lv_icmp_le (tgt := 30) hx hb dX7_suffices_25 (by decide) (fun cs => ?_) (fun cs => ?_)
        · refine lv_iinc (v := nI (i + 1)) (lv' := [(2, .int (nI (i + 1))), (0, .ref w), (1, .int g)]) hx hb dX7_suffices_30 hl (k := 0) rfl (nI_1 i) (by decide) rfl (fun ls hl => ?_)
          refine lv_goto (tgt := 2) hx hb dX7_suffices_33 (by decide) ?_
          exact ih (i + 1) (by omega) (lt_s hb4 cs) (by omega) ls (lv_sub hl [0, 1, 2] rfl)
        · refine lv_iconst (v := 0) hx hb dX7_suffices_28 (by decide) ?_
          exact nd_z hQ hx hb hr hlocks dX7_suffices_29 (by first | exact Or.inl rfl | exact Or.inr rfl) (bc_f (fun q => cs (q i hlt)))
  exact loop (nlv (M 0) + 1) 0 (Nat.zero_le _) (fun j hj => absurd hj (Nat.not_lt_zero _)) (by omega) ls hl

set_option maxHeartbeats 4000000 in
set_option maxRecDepth 100000 in
theorem k_X7_mask (l : Launch) (G : GG) (w : Nat) (M : Nat → Nat → Int32)  (hw : WF (M 0)) : Met l yX7_mask (ws_ yX7_mask cX7_mask 3 (some .int)) (rm_ 1) (PC G [.ref w] (MdAt G w M)) (vp_Si (fun z => z = mkF (M 0) (nlv (M 0)))) 0 0 NoA := by
  refine met_q (by decide +kernel) (Nat.le_of_ble_eq_true rfl) ?_
  intro p e s m args below meth c Q hQ hx hb hr hT hown hml hlocks hnm hK hM ls hl
  have hl : lv_has ls 3 [(0, .ref w)] := hl
  have hn5 := hw.nl5
  have hnl := hw.nl
  refine lv_iconst (v := 0) hx hb dX7_mask_0 (by decide) ?_
  refine lv_istore_n (lv' := [(1, .int 0), (0, .ref w)]) hx hb dX7_mask_1 rfl hl (by decide) rfl (fun ls hl => ?_)
  refine lv_iconst (v := 0) hx hb dX7_mask_2 (by decide) ?_
  refine lv_istore_n (lv' := [(2, .int 0), (1, .int 0), (0, .ref w)]) hx hb dX7_mask_3 rfl hl (by decide) rfl (fun ls hl => ?_)
  have loop : ∀ (k : Nat) (i : Nat), i ≤ nlv (M 0) → nlv (M 0) - i < k → ∀ ls : Array Slot, lv_has ls 3 [(2, .int (nI i)), (1, .int (mkF (M 0) i)), (0, .ref w)] → W p l e (rm_ 1) s m args below meth c s.heap [] 0 0 Q (F0 m 4 ls []) := by
    intro k
    induction k with
    | zero => intro i hi hm; exact absurd hm (Nat.not_lt_zero _)
    | succ k ih =>
      intro i hi hm ls hl
      refine lv_iload_n hx hb dX7_mask_4 rfl (lv_at hl 0 rfl) ?_
      refine lv_aload_n hx hb dX7_mask_5 rfl (lv_at hl 2 rfl) ?_
      refine rg (C := RX7) (T := TX7) (N := 16) (v := .ref (w + 1)) hx hb hT inX7 hown hK hM.1 rfl 0 (by decide) mf_X7_7 rfl dX7_mask_6 ?_
      refine lv_iconst (v := 5) hx hb dX7_mask_9 (by decide) ?_
      refine r_ialdS (y := M 0 5) hx hb hK hM.2.1 5 (by decide) (by omega) (Nat.le_of_ble_eq_true rfl) rfl dX7_mask_10 ?_
      refine lv_icmp_ge (tgt := 40) hx hb dX7_mask_11 (by decide) (fun cd => ?_) (fun cd => ?_)
      · have hge : nlv (M 0) ≤ i := by
          rw [hnl, nI_leI (by omega) (by omega)] at cd
          exact cd
        have he : i = nlv (M 0) := by omega
        subst he
        refine lv_iload_n hx hb dX7_mask_40 rfl (lv_at hl 1 rfl) ?_
        exact nd_i hQ hx hb hr hlocks dX7_mask_41 (rfl)
      · have hlt : i < nlv (M 0) := by
          rw [hnl, nI_leI (by omega) (by omega)] at cd
          omega
        refine lv_iload_n hx hb dX7_mask_14 rfl (lv_at hl 1 rfl) ?_
        refine lv_aload_n hx hb dX7_mask_15 rfl (lv_at hl 2 rfl) ?_
        refine lv_iload_n hx hb dX7_mask_16 rfl (lv_at hl 0 rfl) ?_
        refine lv_bipush (v := 13) hx hb dX7_mask_17 (by decide) ?_
        refine got_i (run_i hx hb hml hown hT hK hl.1 (k_X7_its l G w M i 13 (by omega)) (cw_X7_62 hT ⟨Nat.le_of_ble_eq_true rfl, Nat.le_of_ble_eq_true rfl⟩) hM.1 rfl hM rfl rfl (Nat.le_of_ble_eq_true rfl) dX7_mask_19 ⟨Nat.zero_le _, Nat.zero_le _⟩) (fun v_1 hv_1 => ?_)
        subst hv_1
        refine lv_if_le (tgt := 31) hx hb dX7_mask_22 (by decide) (fun cs => ?_) (fun cs => ?_)
        · have es : mkF (M 0) (i + 1) = mkF (M 0) i ||| 0 := (if_neg (fun q => i32_le_nlt cs q)).trans Int32.or_zero.symm
          refine lv_iconst (v := 0) hx hb dX7_mask_31 (by decide) ?_
          refine lv_ior hx hb dX7_mask_32 ?_
          refine lv_istore_n (lv' := [(1, .int ((mkF (M 0) i) ||| 0)), (2, .int (nI i)), (0, .ref w)]) hx hb dX7_mask_33 rfl hl (by decide) rfl (fun ls hl => ?_)
          refine lv_iinc (v := nI (i + 1)) (lv' := [(2, .int (nI (i + 1))), (1, .int ((mkF (M 0) i) ||| 0)), (0, .ref w)]) hx hb dX7_mask_34 hl (k := 1) rfl (nI_1 i) (by decide) rfl (fun ls hl => ?_)
          refine lv_goto (tgt := 4) hx hb dX7_mask_37 (by decide) ?_
          rw [← es] at hl
          exact ih (i + 1) (by omega) (by omega) ls (lv_sub hl [0, 1, 2] rfl)
        · have es : mkF (M 0) (i + 1) = mkF (M 0) i ||| (1 <<< (nI i &&& 31)) := if_pos (i32_nle cs)
          refine lv_iconst (v := 1) hx hb dX7_mask_25 (by decide) ?_
          refine lv_iload_n hx hb dX7_mask_26 rfl (lv_at hl 0 rfl) ?_
          refine lv_ishl hx hb dX7_mask_27 ?_
          refine lv_goto (tgt := 32) hx hb dX7_mask_28 (by decide) ?_
          refine lv_ior hx hb dX7_mask_32 ?_
          refine lv_istore_n (lv' := [(1, .int ((mkF (M 0) i) ||| (1 <<< ((nI i) &&& 31)))), (2, .int (nI i)), (0, .ref w)]) hx hb dX7_mask_33 rfl hl (by decide) rfl (fun ls hl => ?_)
          refine lv_iinc (v := nI (i + 1)) (lv' := [(2, .int (nI (i + 1))), (1, .int ((mkF (M 0) i) ||| (1 <<< ((nI i) &&& 31)))), (0, .ref w)]) hx hb dX7_mask_34 hl (k := 1) rfl (nI_1 i) (by decide) rfl (fun ls hl => ?_)
          refine lv_goto (tgt := 4) hx hb dX7_mask_37 (by decide) ?_
          rw [← es] at hl
          exact ih (i + 1) (by omega) (by omega) ls (lv_sub hl [0, 1, 2] rfl)
  exact loop (nlv (M 0) + 1) 0 (Nat.zero_le _) (by omega) ls hl


theorem whyF_hi {r : Nat → Int32} {d : Int32} (h : shS r = 20) (hb : ∀ j, j < 3 → ¬ tsS r j d / 20 < r (6 + j)) {t : Nat} (ht : t < 3) (hb2 : ∀ j, j < t → ¬ r (9 + j) < tsS r j d / 20) (hl : r (9 + t) < tsS r t d / 20) : 5 + nI t = whyF r d := by
  have d0 := decide_eq_false (hb 0 (by omega))
  have d1 := decide_eq_false (hb 1 (by omega))
  have d2 := decide_eq_false (hb 2 (by omega))
  have dh := decide_eq_true h
  have h3 : t = 0 ∨ t = 1 ∨ t = 2 := by omega
  rcases h3 with q | q | q <;> subst q
  · exact (show (5 : Int32) + nI 0 = 5 by decide).trans (wyB_5 dh d0 d1 d2 (decide_eq_true hl))
  · exact (show (5 : Int32) + nI 1 = 6 by decide).trans (wyB_6 dh d0 d1 d2 (decide_eq_false (hb2 0 (by omega))) (decide_eq_true hl))
  · exact (show (5 : Int32) + nI 2 = 7 by decide).trans (wyB_7 dh d0 d1 d2 (decide_eq_false (hb2 0 (by omega))) (decide_eq_false (hb2 1 (by omega))) (decide_eq_true hl))
theorem whyF_ok {r : Nat → Int32} {d : Int32} (h : shS r = 20) (hb : ∀ j, j < 3 → ¬ tsS r j d / 20 < r (6 + j)) (hb2 : ∀ j, j < 3 → ¬ r (9 + j) < tsS r j d / 20) : 0 = whyF r d :=
  wyB_0 (decide_eq_true h) (decide_eq_false (hb 0 (by omega))) (decide_eq_false (hb 1 (by omega))) (decide_eq_false (hb 2 (by omega))) (decide_eq_false (hb2 0 (by omega))) (decide_eq_false (hb2 1 (by omega))) (decide_eq_false (hb2 2 (by omega)))

set_option maxHeartbeats 4000000 in
set_option maxRecDepth 100000 in
theorem k_X7_reason (l : Launch) (G : GG) (w : Nat) (M : Nat → Nat → Int32) (d : Int32) (hw : WF (M 0)) : Met l yX7_reason (ws_ yX7_reason cX7_reason 4 (some .int)) (rm_ 3) (PC G [.ref w, .int d] (MdAt G w M)) (vp_Si (fun z => z = whyF (M 0) d)) 0 0 NoA := by
  refine met_q (by decide +kernel) (Nat.le_of_ble_eq_true rfl) ?_
  intro p e s m args below meth c Q hQ hx hb hr hT hown hml hlocks hnm hK hM ls hl
  have hl : lv_has ls 4 [(0, .ref w), (1, .int d)] := hl
  refine lv_aload_n hx hb dX7_reason_0 rfl (lv_at hl 0 rfl) ?_
  refine got_i (run_i hx hb hml hown hT hK hl.1 (k_X7_shares l G w M hw) (cw_X7_73 hT ⟨Nat.le_of_ble_eq_true rfl, Nat.le_of_ble_eq_true rfl⟩) hM.1 rfl hM rfl rfl (Nat.le_of_ble_eq_true rfl) dX7_reason_1 ⟨Nat.zero_le _, Nat.zero_le _⟩) (fun v_1 hv_1 => ?_)
  subst hv_1
  refine lv_bipush (v := 20) hx hb dX7_reason_4 (by decide) ?_
  refine lv_icmp_eq (tgt := 11) hx hb dX7_reason_6 (by decide) (fun c2 => ?_) (fun c2 => ?_)
  · refine lv_iconst (v := 0) hx hb dX7_reason_11 (by decide) ?_
    refine lv_istore_n (lv' := [(2, .int 0), (0, .ref w), (1, .int d)]) hx hb dX7_reason_12 rfl hl (by decide) rfl (fun ls hl => ?_)
    have loop : ∀ (k : Nat) (k0 : Nat), k0 ≤ 6 → (∀ j, j < 3 → j < k0 → ¬ tsS (M 0) j d / 20 < M 0 (6 + j)) → (∀ j, j + 3 < k0 → ¬ M 0 (9 + j) < tsS (M 0) j d / 20) → 6 - k0 < k → ∀ ls : Array Slot, lv_has ls 4 [(2, .int (nI k0)), (0, .ref w), (1, .int d)] → W p l e (rm_ 3) s m args below meth c s.heap [] 0 0 Q (F0 m 13 ls []) := by
      intro k
      induction k with
      | zero => intro k0 hk hb4 hb5 hm; exact absurd hm (Nat.not_lt_zero _)
      | succ k ih =>
        intro k0 hk hb4 hb5 hm ls hl
        refine lv_iload_n hx hb dX7_reason_13 rfl (lv_at hl 0 rfl) ?_
        refine lv_bipush (v := 6) hx hb dX7_reason_14 (by decide) ?_
        refine lv_icmp_ge (tgt := 77) hx hb dX7_reason_16 (by decide) (fun cd => ?_) (fun cd => ?_)
        · have e_k0 : k0 = 6 := by
            have h9 : nI 6 ≤ nI k0 := cd
            rw [nI_leI (by omega) (by omega)] at h9
            omega
          subst e_k0
          refine lv_iconst (v := 0) hx hb dX7_reason_77 (by decide) ?_
          exact nd_i hQ hx hb hr hlocks dX7_reason_78 (whyF_ok c2 (fun j hj => hb4 j hj (by omega)) (fun j hj => hb5 j (by omega)))
        · have h_k0 : k0 < 6 := by
            have h9 : ¬ nI 6 ≤ nI k0 := cd
            rw [nI_leI (by omega) (by omega)] at h9
            omega
          refine lv_aload_n hx hb dX7_reason_19 rfl (lv_at hl 1 rfl) ?_
          refine lv_iload_n hx hb dX7_reason_20 rfl (lv_at hl 0 rfl) ?_
          refine lv_iconst (v := 3) hx hb dX7_reason_21 (by decide) ?_
          refine lv_irem hx hb dX7_reason_22 (by decide) ?_
          refine lv_iload_n hx hb dX7_reason_23 rfl (lv_at hl 2 rfl) ?_
          rw [show nI k0 - nI k0 / 3 * 3 = nI (k0 % 3) from pk_rem (d := 3) (by omega) (by omega) (by omega)]
          refine got_i (run_i hx hb hml hown hT hK hl.1 (k_X7_sumOfTastes l G w M (k0 % 3) d hw (by omega)) (cw_X7_77 hT ⟨Nat.le_of_ble_eq_true rfl, Nat.le_of_ble_eq_true rfl⟩) hM.1 rfl hM rfl rfl (Nat.le_of_ble_eq_true rfl) dX7_reason_24 ⟨Nat.zero_le _, Nat.zero_le _⟩) (fun v_2 hv_2 => ?_)
          subst hv_2
          refine lv_bipush (v := 20) hx hb dX7_reason_27 (by decide) ?_
          refine lv_idiv hx hb dX7_reason_29 (by decide) ?_
          refine lv_istore_n (lv' := [(3, .int ((tsS (M 0) (k0 % 3) d) / 20)), (2, .int (nI k0)), (0, .ref w), (1, .int d)]) hx hb dX7_reason_30 rfl hl (by decide) rfl (fun ls hl => ?_)
          refine lv_iload_n hx hb dX7_reason_31 rfl (lv_at hl 1 rfl) ?_
          refine lv_iconst (v := 3) hx hb dX7_reason_32 (by decide) ?_
          refine lv_icmp_ge (tgt := 52) hx hb dX7_reason_33 (by decide) (fun c3 => ?_) (fun c3 => ?_)
          · have h3 : 3 ≤ k0 := by
              have h9 : nI 3 ≤ nI k0 := c3
              rw [nI_leI (by omega) (by omega)] at h9
              exact h9
            have em : k0 % 3 = k0 - 3 := by omega
            rw [em] at hl
            refine lv_iload_n hx hb dX7_reason_52 rfl (lv_at hl 0 rfl) ?_
            refine lv_aload_n hx hb dX7_reason_53 rfl (lv_at hl 2 rfl) ?_
            refine rg (C := RX7) (T := TX7) (N := 16) (v := .ref (w + 1)) hx hb hT inX7 hown hK hM.1 rfl 0 (by decide) mf_X7_7 rfl dX7_reason_54 ?_
            refine lv_bipush (v := 9) hx hb dX7_reason_57 (by decide) ?_
            refine lv_iload_n hx hb dX7_reason_59 rfl (lv_at hl 1 rfl) ?_
            refine lv_iadd hx hb dX7_reason_60 ?_
            refine lv_iconst (v := 3) hx hb dX7_reason_61 (by decide) ?_
            refine lv_isub hx hb dX7_reason_62 ?_
            refine r_ialdS (y := M 0 (9 + (k0 - 3))) hx hb hK hM.2.1 (9 + (k0 - 3)) (by rw [show (9 : Int32) + nI k0 = nI (9 + k0) from nI_add 9 k0, show nI (9 + k0) - 3 = nI (9 + k0 - 3) from pk_sub (b := 3) (by omega)]; congr 1; omega) (by omega) (Nat.le_of_ble_eq_true rfl) rfl dX7_reason_63 ?_
            refine lv_icmp_le (tgt := 71) hx hb dX7_reason_64 (by decide) (fun c4 => ?_) (fun c4 => ?_)
            · refine lv_iinc (v := nI (k0 + 1)) (lv' := [(2, .int (nI (k0 + 1))), (3, .int ((tsS (M 0) (k0 - 3) d) / 20)), (0, .ref w), (1, .int d)]) hx hb dX7_reason_71 hl (k := 1) rfl (nI_1 k0) (by decide) rfl (fun ls hl => ?_)
              refine lv_goto (tgt := 13) hx hb dX7_reason_74 (by decide) ?_
              exact ih (k0 + 1) (by omega) (fun j h1 h2 => hb4 j h1 (by omega)) (fun j hj => by by_cases q : j + 3 < k0; exact hb5 j q; rw [show j = k0 - 3 by omega]; exact i32_le_nlt c4) (by omega) ls (lv_sub hl [0, 2, 3] rfl)
            · refine lv_iconst (v := 2) hx hb dX7_reason_67 (by decide) ?_
              refine lv_iload_n hx hb dX7_reason_68 rfl (lv_at hl 1 rfl) ?_
              refine lv_iadd hx hb dX7_reason_69 ?_
              exact nd_i hQ hx hb hr hlocks dX7_reason_70 (by
          have e2 : (2 : Int32) + nI k0 = 5 + nI (k0 - 3) := by
            rw [show (2 : Int32) = nI 2 from rfl, show (5 : Int32) = nI 5 from rfl, nI_add, nI_add]
            congr 1
            omega
          rw [e2]
          exact whyF_hi c2 (fun j hj => hb4 j hj (by omega)) (by omega) (fun j hj => hb5 j (by omega)) (i32_nle c4))
          · have h3 : k0 < 3 := by
              have h9 : ¬ nI 3 ≤ nI k0 := c3
              rw [nI_leI (by omega) (by omega)] at h9
              omega
            have em : k0 % 3 = k0 := by omega
            rw [em] at hl
            refine lv_iload_n hx hb dX7_reason_36 rfl (lv_at hl 0 rfl) ?_
            refine lv_aload_n hx hb dX7_reason_37 rfl (lv_at hl 2 rfl) ?_
            refine rg (C := RX7) (T := TX7) (N := 16) (v := .ref (w + 1)) hx hb hT inX7 hown hK hM.1 rfl 0 (by decide) mf_X7_7 rfl dX7_reason_38 ?_
            refine lv_bipush (v := 6) hx hb dX7_reason_41 (by decide) ?_
            refine lv_iload_n hx hb dX7_reason_43 rfl (lv_at hl 1 rfl) ?_
            refine lv_iadd hx hb dX7_reason_44 ?_
            refine r_ialdS (y := M 0 (6 + k0)) hx hb hK hM.2.1 (6 + k0) (nI_add 6 k0) (by omega) (Nat.le_of_ble_eq_true rfl) rfl dX7_reason_45 ?_
            refine lv_icmp_ge (tgt := 71) hx hb dX7_reason_46 (by decide) (fun c4 => ?_) (fun c4 => ?_)
            · refine lv_iinc (v := nI (k0 + 1)) (lv' := [(2, .int (nI (k0 + 1))), (3, .int ((tsS (M 0) k0 d) / 20)), (0, .ref w), (1, .int d)]) hx hb dX7_reason_71 hl (k := 1) rfl (nI_1 k0) (by decide) rfl (fun ls hl => ?_)
              refine lv_goto (tgt := 13) hx hb dX7_reason_74 (by decide) ?_
              exact ih (k0 + 1) (by omega) (fun j h1 h2 => by by_cases q : j < k0; exact hb4 j h1 q; rw [show j = k0 by omega]; exact i32_le_nlt c4) (fun j hj => hb5 j (by omega)) (by omega) ls (lv_sub hl [0, 2, 3] rfl)
            · refine lv_goto (tgt := 67) hx hb dX7_reason_49 (by decide) ?_
              refine lv_iconst (v := 2) hx hb dX7_reason_67 (by decide) ?_
              refine lv_iload_n hx hb dX7_reason_68 rfl (lv_at hl 1 rfl) ?_
              refine lv_iadd hx hb dX7_reason_69 ?_
              exact nd_i hQ hx hb hr hlocks dX7_reason_70 (whyF_low c2 h3 (fun j hj => hb4 j (by omega) hj) (i32_nle c4))
    exact loop 7 0 (by omega) (fun j _ hj => absurd hj (Nat.not_lt_zero _)) (fun j hj => absurd hj (Nat.not_lt_zero _)) (by omega) ls (lv_sub hl [0, 1, 2] rfl)
  · refine lv_iconst (v := 1) hx hb dX7_reason_9 (by decide) ?_
    exact nd_i hQ hx hb hr hlocks dX7_reason_10 (whyF_no c2)
