/-! what the model answers out of its search -/
theorem x_ix {x : Int32} {n : Nat} (h : 0 ≤ x ∧ x ≤ nI n) (hn : n < 1000) : ∃ k, k < n + 1 ∧ x = nI k := by
  refine ix_of h.1 (n := n + 1) ?_ (by omega)
  have h8 := h.2
  rw [i32_le_iff, nI_toInt (by omega)] at h8
  rw [i32_lt_iff, nI_toInt (by omega)]
  omega
noncomputable def cpO (r : Nat → Int32) (x : Int32) : Int32 :=
  if 0 ≤ x ∧ x ≤ 5 then (if (skR r).1 = -1 then -6 else if x = 0 then (skR r).1 / 20 else nI ((skR r).2 (x.toInt.toNat - 1))) else -2
theorem cpO_1 {r : Nat → Int32} {x : Int32} (h : ¬ (0 ≤ x ∧ x ≤ 5)) : -2 = cpO r x := (if_neg h).symm
theorem cpO_2 {r : Nat → Int32} {x : Int32} (h : 0 ≤ x ∧ x ≤ 5) (h2 : (skR r).1 = -1) : -6 = cpO r x := ((if_pos h).trans (if_pos h2)).symm
theorem cpO_3 {r : Nat → Int32} {x : Int32} (h : 0 ≤ x ∧ x ≤ 5) (h2 : ¬ (skR r).1 = -1) (h3 : x = 0) : (skR r).1 / 20 = cpO r x := (((if_pos h).trans (if_neg h2)).trans (if_pos h3)).symm
theorem cpO_4 {r : Nat → Int32} {k : Nat} (hk : k < 6) (h : 0 ≤ nI k ∧ nI k ≤ 5) (h2 : ¬ (skR r).1 = -1) (h3 : ¬ nI k = 0) : nI ((skR r).2 (k - 1)) = cpO r (nI k) := by
  refine (((if_pos h).trans (if_neg h2)).trans ((if_neg h3).trans ?_)).symm
  rw [nIt (by omega)]
noncomputable def coO (r : Nat → Int32) : Op := if (skR r).1 = -1 then (-5, r) else ((skR r).1 / 20, shR r (fun k => nI ((skR r).2 k)) (nlv r))
theorem coO_1 {r : Nat → Int32} (h : (skR r).1 = -1) : coO r = (-5, r) := if_pos h
theorem coO_2 {r : Nat → Int32} (h : ¬ (skR r).1 = -1) : coO r = ((skR r).1 / 20, shR r (fun k => nI ((skR r).2 k)) (nlv r)) := if_neg h
def lsV (r : Nat → Int32) (k : Nat) : Int32 := if k < 3 then (if r (6 + k) = 0 then 0 else r (6 + k) - 1) else (if r (6 + k) = 100 then 100 else r (6 + k) + 1)
theorem Iv_ls {r : Nat → Int32} (h : Iv r) {k : Nat} (hk : k < 6) : Iv (upd r (6 + k) (lsV r k)) := by
  obtain ⟨hw, hd, hf, hb, hl, hs⟩ := h
  have e : ∀ j, j ≠ 6 + k → upd r (6 + k) (lsV r k) j = r j := fun j hj => upd_ne hj
  have hv : 0 ≤ (lsV r k).toInt ∧ (lsV r k).toInt ≤ 100 := by
    unfold lsV
    by_cases q : k < 3
    · rw [if_pos q]
      obtain ⟨⟨a1, a2⟩, -⟩ := hb k q
      by_cases z : r (6 + k) = 0
      · rw [if_pos z]; decide
      · rw [if_neg z]
        have hz : (r (6 + k)).toInt ≠ 0 := fun w => z (Int32.toInt_inj.mp w)
        rw [Int32.toInt_sub, show (1 : Int32).toInt = 1 from rfl, Int.bmod_eq_of_le (by omega) (by omega)]
        omega
    · rw [if_neg q]
      obtain ⟨-, ⟨a1, a2⟩⟩ := hb (k - 3) (by omega)
      rw [show 9 + (k - 3) = 6 + k by omega] at a1 a2
      by_cases z : r (6 + k) = 100
      · rw [if_pos z]; decide
      · rw [if_neg z]
        have hz : (r (6 + k)).toInt ≠ 100 := fun w => z (Int32.toInt_inj.mp w)
        rw [Int32.toInt_add, show (1 : Int32).toInt = 1 from rfl, Int.bmod_eq_of_le (by omega) (by omega)]
        omega
  have hn : nlv (upd r (6 + k) (lsV r k)) = nlv r := by unfold nlv; rw [e 5 (by omega)]
  refine ⟨by unfold WF; rw [e 5 (by omega), e 1 (by omega), e 2 (by omega)]; exact hw, by rw [e 2 (by omega)]; exact hd, by rw [e 0 (by omega)]; exact hf, fun t ht => ?_, fun i hi => ?_, ?_⟩
  · obtain ⟨h1, h2⟩ := hb t ht
    refine ⟨?_, ?_⟩
    · by_cases q : 6 + t = 6 + k
      · rw [q, upd_eq]; exact hv
      · rw [e _ q]; exact h1
    · by_cases q : 9 + t = 6 + k
      · rw [q, upd_eq]; exact hv
      · rw [e _ q]; exact h2
  · obtain ⟨b1, b2, b3, b4, b5, b6⟩ := hl i hi
    unfold LfR
    rw [e _ (by omega), e _ (by omega), e _ (by omega), e _ (by omega), e _ (by omega)]
    exact ⟨b1, fun j hj => by rw [e _ (by omega)]; exact b2 j hj, fun j hj => by rw [e _ (by omega)]; exact b3 j hj, b4, b5, b6⟩
  · rw [hn]
    have : sn (sv (upd r (6 + k) (lsV r k))) (nlv r) = sn (sv r) (nlv r) := sn_ext _ (fun i _ => by unfold sv; rw [e _ (by omega)])
    rw [this]
    exact hs
