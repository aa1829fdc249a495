/-! what holds of every row that the law meets: Iv, and grams and coins stay small -/
def GC (B : Int) (r : Nat → Int32) : Prop := (0 ≤ (r 3).toInt ∧ (r 3).toInt ≤ B) ∧ (0 ≤ (r 4).toInt ∧ (r 4).toInt ≤ B)
theorem GC.same {B : Int} {r r2 : Nat → Int32} (h : GC B r) (h3 : r2 3 = r 3) (h4 : r2 4 = r 4) : GC B r2 := by
  unfold GC
  rw [h3, h4]
  exact h
theorem sm_ex {f g : Nat → Int32} : ∀ n : Nat, (∀ i, i < n → f i = g i) → sm f n = sm g n
  | 0, _ => rfl
  | n + 1, h => by
    show sm f n + f n = sm g n + g n
    rw [sm_ex n (fun i hi => h i (by omega)), h n (by omega)]
theorem prS_le {r : Nat → Int32} (h : Iv r) : ∃ S, S ≤ 20160 ∧ prS r = nI S := by
  have hn5 := h.1.nl5
  refine ⟨sn (fun i => sv r i * Vv r i 3) (nlv r), ?_, ?_⟩
  · have h1 : sn (fun i => sv r i * Vv r i 3) (nlv r) ≤ sn (fun i => sv r i * 1008) (nlv r) := sn_le _ (fun i hi => Nat.mul_le_mul_left _ (Vv_p h (by omega)).2)
    have h2 := sn_mul (sv r) 1008 (nlv r)
    have h3 := h.2.2.2.2.2
    omega
  · unfold prS
    rw [sm_ex (g := fun i => nI (sv r i * Vv r i 3)) _ (fun i hi => by rw [(sv_s h (by omega)).1, (Vv_p h (by omega)).1, pk_mul]), sm_nI]
/-- a row after c calls -/
def Good (c : Nat) (r : Nat → Int32) : Prop := Iv r ∧ GC (4100000 * (c : Int)) r
theorem Iv.ext {r r2 : Nat → Int32} (h : Iv r) (e : ∀ k, k < 82 → r k = r2 k) : Iv r2 := by
  have hn : nlv r2 = nlv r := by unfold nlv; rw [e 5 (by omega)]
  have hn5 := h.1.nl5
  obtain ⟨h1, h2, h3, h4, h5, h6⟩ := h
  refine ⟨?_, by rw [← e 2 (by omega)]; exact h2, by rw [← e 0 (by omega)]; exact h3, fun t ht => ?_, fun i hi => ?_, ?_⟩
  · unfold WF
    rw [← e 5 (by omega), ← e 1 (by omega), ← e 2 (by omega)]
    exact h1
  · unfold BdR
    rw [← e _ (by omega), ← e _ (by omega)]
    exact h4 t ht
  · obtain ⟨b1, b2, b3, b4, b5, b6⟩ := h5 i hi
    unfold LfR
    rw [← e _ (by omega), ← e (12 + 14 * i + 11) (by omega), ← e (12 + 14 * i + 12) (by omega), ← e (12 + 14 * i + 13) (by omega), ← e 2 (by omega)]
    exact ⟨b1, fun k hk => by rw [← e _ (by omega)]; exact b2 k hk, fun k hk => by rw [← e _ (by omega)]; exact b3 k hk, b4, b5, b6⟩
  · rw [hn]
    rw [sn_ext (g := sv r) _ (fun i hi => by unfold sv; rw [e _ (by omega)])]
    exact h6
theorem Good.ext {c : Nat} {r r2 : Nat → Int32} (h : Good c r) (e : ∀ k, k < 82 → r k = r2 k) : Good c r2 := ⟨h.1.ext e, h.2.same (e 3 (by omega)).symm (e 4 (by omega)).symm⟩
