/-! what the start gives -/
section START
variable {s : State} {b : Addr}
theorem hAs : ∀ a : Nat, a < s.heap.size → ¬ (fun q => s.heap.size ≤ q) a := fun a h => Nat.not_le.mpr h
def stFl : List Cond := flatC (Jvm.Cond.and given_1 narrow_1)
/-- a static row of two numbers -/
theorem st_row (hts : ∀ w ∈ lw_tbl, w.before #[Value.ref b] s = true) (hs : ∀ w ∈ stFl, w.before #[Value.ref b] s = true) {n : String} {x y : Int32} (h1 : Cond.laysStatic RX6 n "[I" ∈ lw_tbl) (h2 : Cond.arrayOf (.static RX6 n "[I") .int ∈ stFl) (h3 : Cond.eq (.length (.static RX6 n "[I")) (.int 2) ∈ stFl) (h4 : Cond.eq (.elem (.static RX6 n "[I") (.int 0)) (.int x) ∈ stFl) (h5 : Cond.eq (.elem (.static RX6 n "[I") (.int 1)) (.int y) ∈ stFl) : ∃ t, (Term.static RX6 n "[I").eval #[Value.ref b] s none [] s = some (.ref t) ∧ TzA n t (f2I x y) (fun q => s.heap.size ≤ q) s := by
  obtain ⟨t, ht, hT⟩ := va_Tof (args := #[Value.ref b]) (s := s) (tm := .static RX6 n "[I") (ty := .int) (N := 2) (f := fun j => .int (f2I x y j)) (A := fun q => s.heap.size ≤ q) (by decide) (hs _ h2) (va_eqt (hs _ h3)) (fun j hj => by
    have e : j = 0 ∨ j = 1 := by omega
    rcases e with rfl | rfl
    · exact va_eqt (hs _ h4)
    · exact va_eqt (hs _ h5)) hAs
  exact ⟨t, ht, va_Zref (hts _ h1) (hts _ (by decide +kernel)) ht hAs, hT⟩
theorem st_SxL (hts : ∀ w ∈ lw_tbl, w.before #[Value.ref b] s = true) (hs : ∀ w ∈ stFl, w.before #[Value.ref b] s = true) : ∃ t3, SxL t3 (fun q => s.heap.size ≤ q) s := by
  obtain ⟨t0, -, h0⟩ := st_row hts hs (n := "LEAST_SETTING") (x := 0) (y := 1) (by decide +kernel) (by decide +kernel) (by decide +kernel) (by decide +kernel) (by decide +kernel)
  obtain ⟨t1, -, h1⟩ := st_row hts hs (n := "MOST_SETTING") (x := 99) (y := 7) (by decide +kernel) (by decide +kernel) (by decide +kernel) (by decide +kernel) (by decide +kernel)
  exact ⟨fun i => if i = 0 then t0 else t1, ⟨va_Nw.of rfl (hts _ (by decide +kernel)), va_Nw.of rfl (hts _ (by decide +kernel))⟩, h0, h1⟩
/-- a length that is a number is that of an array of less than 2 ^ 31 places -/
theorem st_len {args : Array Value} {tm : Term} {v : Value} (h : (Term.length tm).eval args s none [] s = some v) : ∃ (t : Nat) (cell : Cell), tm.eval args s none [] s = some (.ref t) ∧ s.heap[t]? = some cell ∧ cell.slots.size < 2 ^ 31 := by
  simp only [Term.eval, Option.bind_eq_bind] at h
  obtain ⟨r, hr, h⟩ := Option.bind_eq_some_iff.mp h
  cases r with
  | ref t =>
    obtain ⟨cell, hc, h⟩ := Option.bind_eq_some_iff.mp h
    refine ⟨t, cell, hr, (State.arrayAt?_spec hc).1, ?_⟩
    by_cases hn : cell.slots.size < 2 ^ 31
    · exact hn
    · rw [if_neg hn] at h
      cases h
  | _ => cases h
theorem st_SxC (hts : ∀ w ∈ lw_tbl, w.before #[Value.ref b] s = true) (hs : ∀ w ∈ stFl, w.before #[Value.ref b] s = true) : ∃ t4, SxC t4 (fun q => s.heap.size ≤ q) s := by
  obtain ⟨t, ht, hZ, hT⟩ := st_row hts hs (n := "FIRST_SETTING") (x := 10) (y := 7) (by decide +kernel) (by decide +kernel) (by decide +kernel) (by decide +kernel) (by decide +kernel)
  obtain ⟨a, c, cell, k, q1, q2, q3, q4, q5, q6, -⟩ := Cond.exactly_spec (args := #[Value.ref b]) (first := s) (o := none) (s := s) (idx := []) (t := .static RX6 "FIRST_SETTING" "[I") (cls := "[I") (hs _ (by decide +kernel))
  cases ht.symm.trans q1
  obtain ⟨t9, cell9, w1, w2, w3⟩ := st_len (va_eqt (hs (Cond.eq (.length (.static RX6 "FIRST_SETTING" "[I")) (.int 2)) (by decide +kernel)))
  cases ht.symm.trans w1
  cases q3.symm.trans w2
  obtain ⟨cell2, g1, g2, g3, g4, g5, g6, g7⟩ := hT
  cases q3.symm.trans g1
  have hsize : cell.slots.size = 2 := by
    have h9 := congrArg (fun x : Int32 => x.toUInt32.toNat) g5
    have e1 : cell.slots.size.toInt32.toUInt32.toNat = cell.slots.size % 2 ^ 32 := rfl
    have e2 : (Int32.ofNat 2).toUInt32.toNat = 2 := rfl
    have h8 : cell.slots.size % 2 ^ 32 = 2 := e1.symm.trans (h9.trans e2)
    omega
  have hslots : cell.slots = #[.int 10, .int 7] := by
    have w0 := g6 0 (by omega)
    have w1 := g6 1 (by omega)
    refine Array.ext_getElem? (fun i => ?_)
    by_cases h0 : i = 0
    · subst h0; exact w0
    · by_cases h1 : i = 1
      · subst h1; exact w1
      · rw [Array.getElem?_eq_none (by omega), Array.getElem?_eq_none (by show 2 ≤ i; omega)]
  exact ⟨t, ⟨va_AO.of (hts _ (by decide +kernel)), va_AO.of (hts _ (by decide +kernel)), hts (.arrayOver (.array .int)) (by decide +kernel)⟩, ⟨va_Nw.of rfl (hts _ (by decide +kernel)), va_Nw.of rfl (hts _ (by decide +kernel)), va_Nw.of rfl (hts _ (by decide +kernel)), va_Nw.of rfl (hts _ (by decide +kernel)), va_Nw.of rfl (hts _ (by decide +kernel))⟩, hZ, ⟨cell, g1, g3, (fun k hk => by rw [hk] at q5; cases q5), by rw [q6]; exact q2, hslots⟩, Nat.not_le.mpr (Array.getElem?_eq_some_iff.mp g1).1⟩
theorem st_arr {t : FieldType} (h : (Cond.arrayClass t).before #[Value.ref b] s = true) : ∃ cA, ArrOfT s cA t ∧ s.vm.findClass ("[" ++ t.toString) = some cA := by
  obtain ⟨c, k, comp, h1, h2, h3⟩ := Cond.arrayClass_spec h
  exact ⟨c, fun n z => ⟨fun k h => (by cases h), k, h2, comp, h3⟩, h1⟩
theorem st_arrO {C : String} (h : (Cond.arrayOver (.object C)).before #[Value.ref b] s = true) : ∃ cA, ArrOfT s cA (.object C) ∧ va_RA s cA (.object C) := by
  obtain ⟨comp, c, k, h1, h2, h3, h4, h5⟩ := Cond.arrayOver_spec h
  exact ⟨c, fun n z => ⟨fun k h => (by cases h), k, h3, comp, h4⟩, k, comp, h3, h4, h1, h5⟩
theorem st_Kn (hts : ∀ w ∈ lw_tbl, w.before #[Value.ref b] s = true) : ∃ G, Kn G s := by
  have hg : ∀ w ∈ lw_good, w.before #[Value.ref b] s = true := fun w h => hts w (List.mem_filter.mp h).1
  have hc : ∀ c : Nat, ∃ x : ClassId × (Nat → Nat), ∀ q : vw_C, vwCl[c]? = some q → u_Kn s q.1 q.2.1 q.2.2 x.1 x.2 := by
    intro c
    by_cases h8 : c < 7
    · have e : c = 0 ∨ c = 1 ∨ c = 2 ∨ c = 3 ∨ c = 4 ∨ c = 5 ∨ c = 6 := by omega
      rcases e with rfl | rfl | rfl | rfl | rfl | rfl | rfl
      · obtain ⟨cC, iS, h⟩ := u_known (C := RX0) (T := TX0) (N := 3) hg inX0 (hg _ mn_X0)
        exact ⟨(cC, iS), fun q hq => by cases hq; exact h⟩
      · obtain ⟨cC, iS, h⟩ := u_known (C := RX1) (T := TX1) (N := 6) hg inX1 (hg _ mn_X1)
        exact ⟨(cC, iS), fun q hq => by cases hq; exact h⟩
      · obtain ⟨cC, iS, h⟩ := u_known (C := RX2) (T := TX2) (N := 5) hg inX2 (hg _ mn_X2)
        exact ⟨(cC, iS), fun q hq => by cases hq; exact h⟩
      · obtain ⟨cC, iS, h⟩ := u_known (C := RX3) (T := TX3) (N := 2) hg inX3 (hg _ mn_X3)
        exact ⟨(cC, iS), fun q hq => by cases hq; exact h⟩
      · obtain ⟨cC, iS, h⟩ := u_known (C := RX4) (T := TX4) (N := 10) hg inX4 (hg _ mn_X4)
        exact ⟨(cC, iS), fun q hq => by cases hq; exact h⟩
      · obtain ⟨cC, iS, h⟩ := u_known (C := RX5) (T := TX5) (N := 8) hg inX5 (hg _ mn_X5)
        exact ⟨(cC, iS), fun q hq => by cases hq; exact h⟩
      · obtain ⟨cC, iS, h⟩ := u_known (C := RX6) (T := TX6) (N := 6) hg inX6 (hg _ mn_X6)
        exact ⟨(cC, iS), fun q hq => by cases hq; exact h⟩
    · exact ⟨(0, fun _ => 0), fun q hq => by rw [List.getElem?_eq_none (by show 7 ≤ c; omega)] at hq; cases hq⟩
  obtain ⟨D, hD⟩ := Classical.axiomOfChoice hc
  obtain ⟨a0, x0, y0⟩ := st_arr (hg _ mac_int)
  obtain ⟨a1, x1, y1⟩ := st_arr (hg _ mac_char)
  obtain ⟨a2, x2, y2⟩ := st_arr (hg _ mac_int)
  obtain ⟨a3, x3, y3⟩ := st_arrO (C := RX1) (hts _ (by decide +kernel))
  obtain ⟨a4, x4, y4⟩ := st_arrO (C := RX5) (hts _ (by decide +kernel))
  obtain ⟨comp, a5, k5, z1, z2, z3, z4, z5⟩ := aoa_spec (t := .int) (hts (.arrayOver (.array .int)) (by decide +kernel))
  refine ⟨((fun c => (D c).1, fun c => (D c).2), fun k => if k = 0 then a0 else if k = 1 then a1 else if k = 2 then a2 else if k = 3 then a3 else if k = 4 then a4 else a5), fun c q hq => hD c q hq, fun k q hk => ?_⟩
  by_cases h6 : k < 6
  · have e : k = 0 ∨ k = 1 ∨ k = 2 ∨ k = 3 ∨ k = 4 ∨ k = 5 := by omega
    rcases e with rfl | rfl | rfl | rfl | rfl | rfl
    · cases hk; exact ⟨x0, y0⟩
    · cases hk; exact ⟨x1, y1⟩
    · cases hk; exact ⟨x2, y2⟩
    · cases hk; exact ⟨x3, y3⟩
    · cases hk; exact ⟨x4, y4⟩
    · cases hk; exact ⟨fun n z => ⟨fun k h => (by cases h), k5, z3, comp, z4⟩, z5⟩
  · rw [List.getElem?_eq_none (by show 6 ≤ k; omega)] at hk; cases hk
end START
