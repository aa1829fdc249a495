/-! the class's best swap is the model's -/
theorem tsS_nI {r : Nat → Int32} (h : Iv r) {k : Nat} (hk : k < 3) : tsS r k 0 = nI (sn (fun i => sv r i * Vv r i k) (nlv r)) := by
  have hn5 := h.1.nl5
  unfold tsS
  rw [← sm_nI]
  exact sm_ext _ (fun i hi => by rw [(sv_s h (by omega)).1, (Vv_t h (by omega) hk).1, pk_mul])
