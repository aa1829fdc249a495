/-! the class's reader: its object and its numbers -/
def OrAt (G : GG) (z pz : Nat) (N : Nat → Int32) (u0 j : Nat) (kd : Int32) (H : Heap) : Prop := ob G 2 z [.ref pz, .int (nI u0), .int (nI j), .int kd, .ref (z + 1)] H ∧ ar G 0 (z + 1) (iA 5 N) H
theorem OrAt.kept {G : GG} {z pz : Nat} {N : Nat → Int32} {u0 j : Nat} {kd : Int32} {H H1 : Heap} (h : OrAt G z pz N u0 j kd H) (e : ∀ q, z ≤ q → q < z + 2 → H1[q]? = H[q]?) : OrAt G z pz N u0 j kd H1 := ⟨h.1.kept (e _ (by omega) (by omega)), h.2.kept (e _ (by omega) (by omega))⟩
theorem OrAt.top {G : GG} {z pz : Nat} {N : Nat → Int32} {u0 j : Nat} {kd : Int32} {H : Heap} (h : OrAt G z pz N u0 j kd H) : z + 1 < H.size := h.2.lt
/-- the reader and its pad -/
def RdC (G : GG) (z pz : Nat) (T : Nat → Int32) (n : Nat) (N : Nat → Int32) (u0 j : Nat) (kd : Int32) (H : Heap) : Prop := OrAt G z pz N u0 j kd H ∧ PadAt G pz T (nI n) H
