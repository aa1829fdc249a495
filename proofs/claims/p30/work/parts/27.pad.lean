/-! long numbers out of natural ones; the characters of a text part -/
def PadAt (G : GG) (z : Nat) (T : Nat → Int32) (n : Int32) (H : Heap) : Prop := ob G 3 z [.ref (z + 1), .int n] H ∧ ar G 1 (z + 1) (iA 80 T) H
theorem PadAt.kept {G : GG} {z : Nat} {T : Nat → Int32} {n : Int32} {H H1 : Heap} (h : PadAt G z T n H) (e : ∀ q, z ≤ q → q < z + 2 → H1[q]? = H[q]?) : PadAt G z T n H1 := ⟨h.1.kept (e _ (by omega) (by omega)), h.2.kept (e _ (by omega) (by omega))⟩
theorem PadAt.top {G : GG} {z : Nat} {T : Nat → Int32} {n : Int32} {H : Heap} (h : PadAt G z T n H) : z + 1 < H.size := h.2.lt
