/-! the ranges are kept: mix, bound; the orders -/
theorem nd_nn {r : Nat → Int32} (h : Iv r) {i : Nat} (hi : i < 5) {g : Int32} (hg : 1 ≤ g ∧ g ≤ 9999) : 0 ≤ (ndF r i g).toInt := by
  have g1 : 1 ≤ g.toInt := i32_le_iff.mp hg.1
  have g2 : g.toInt ≤ 9999 := i32_le_iff.mp hg.2
  obtain ⟨e1, s1⟩ := sv_s h hi
  have hm : g.toInt.toNat * sv r i ≤ 9999 * 20 := Nat.mul_le_mul (by omega) s1
  unfold ndF
  rw [e1, nI_of_toInt (show 0 ≤ g.toInt by omega), pk_mul, show (20 : Int32) = nI 20 from rfl, show (1 : Int32) = nI 1 from rfl, nI_add, pk_sub (by omega), pk_div (by omega) (by omega) (by omega), nI_toInt (by omega)]
  omega
theorem Iv_mx {r : Nat → Int32} (h : Iv r) (g : Int32) : Iv (mxO r g).2 := by
  by_cases h1 : 1 ≤ g ∧ g ≤ 9999
  · by_cases h2 : whyF r 0 = 0 ∧ sfP r g
    · rw [mxO_3 h1 h2]
      show Iv (upd (upd (mgR r g (nlv r)) 3 (r 3 + g)) 4 (r 4 + g * (prS r / 20) / 100))
      obtain ⟨r9, hr9⟩ : ∃ z1 : Nat → Int32, z1 = upd (upd (mgR r g (nlv r)) 3 (r 3 + g)) 4 (r 4 + g * (prS r / 20) / 100) := ⟨_, rfl⟩
      rw [← hr9]
      obtain ⟨hw, hd, hf, hb, hl, hs⟩ := id h
      have e : ∀ j, j ≠ 3 → j ≠ 4 → ¬ (23 ≤ j ∧ (j - 23) % 14 = 0 ∧ (j - 23) / 14 < nlv r) → r9 j = r j := fun j h3 h4 hq => by rw [hr9, upd_ne h4, upd_ne h3]; exact if_neg hq
      have en : ∀ j, j < 23 → j ≠ 3 → j ≠ 4 → r9 j = r j := fun j hj h3 h4 => e j h3 h4 (fun q => by omega)
      have el : ∀ i c, c < 14 → c ≠ 11 → r9 (12 + 14 * i + c) = r (12 + 14 * i + c) := fun i c hc h11 => e _ (by omega) (by omega) (fun q => by omega)
      have hn : nlv r9 = nlv r := by unfold nlv; rw [en 5 (by omega) (by omega) (by omega)]
      refine ⟨by unfold WF; rw [en 5 (by omega) (by omega) (by omega), en 1 (by omega) (by omega) (by omega), en 2 (by omega) (by omega) (by omega)]; exact hw, by rw [en 2 (by omega) (by omega) (by omega)]; exact hd, by rw [en 0 (by omega) (by omega) (by omega)]; exact hf, fun t ht => ?_, fun i hi => ?_, ?_⟩
      · unfold BdR
        rw [en _ (by omega) (by omega) (by omega), en _ (by omega) (by omega) (by omega)]
        exact hb t ht
      · obtain ⟨b1, b2, b3, b4, b5, b6⟩ := hl i hi
        unfold LfR
        rw [el i 0 (by omega) (by omega), el i 12 (by omega) (by omega), el i 13 (by omega) (by omega), en 2 (by omega) (by omega) (by omega)]
        refine ⟨b1, fun j hj => by rw [el i (1 + j) (by omega) (by omega)]; exact b2 j hj, fun j hj => by rw [el i (8 + j) (by omega) (by omega)]; exact b3 j hj, ?_, b5, b6⟩
        by_cases q : i < nlv r
        · have e9 : r9 (12 + 14 * i + 11) = r (12 + 14 * i + 11) - ndF r i g := by
            rw [hr9, upd_ne (by omega), upd_ne (by omega)]
            show (if 23 ≤ 12 + 14 * i + 11 ∧ (12 + 14 * i + 11 - 23) % 14 = 0 ∧ (12 + 14 * i + 11 - 23) / 14 < nlv r then r (12 + 14 * i + 11) - ndF r ((12 + 14 * i + 11 - 23) / 14) g else r (12 + 14 * i + 11)) = _
            rw [if_pos ⟨by omega, by omega, by omega⟩, show (12 + 14 * i + 11 - 23) / 14 = i by omega]
          have n1 := nd_nn h hi h1
          have n2 : (ndF r i g).toInt ≤ (r (12 + 14 * i + 11)).toInt := i32_le_iff.mp (h2.2 i q)
          rw [e9, Int32.toInt_sub, Int.bmod_eq_of_le (by omega) (by omega)]
          omega
        · rw [e _ (by omega) (by omega) (fun z => by omega)]
          exact b4
      · rw [hn]
        have e9 : sn (sv r9) (nlv r) = sn (sv r) (nlv r) := sn_ext _ (fun i _ => by unfold sv; rw [el i 13 (by omega) (by omega)])
        rw [e9]
        exact hs
    · rw [mxO_2 h1 h2]; exact h
  · rw [mxO_1 h1]; exact h
theorem Iv_bd {r : Nat → Int32} (h : Iv r) {t : Nat} (ht : t < 3) {lo hi : Int32} (h1 : 0 ≤ lo.toInt ∧ lo.toInt ≤ 100) (h2 : 0 ≤ hi.toInt ∧ hi.toInt ≤ 100) : Iv (upd (upd r (6 + t) lo) (9 + t) hi) := by
  obtain ⟨hw, hd, hf, hb, hl, hs⟩ := id h
  have e : ∀ j, j ≠ 6 + t → j ≠ 9 + t → upd (upd r (6 + t) lo) (9 + t) hi j = r j := fun j a b => by rw [upd_ne b, upd_ne a]
  have hn : nlv (upd (upd r (6 + t) lo) (9 + t) hi) = nlv r := by unfold nlv; rw [e 5 (by omega) (by omega)]
  refine ⟨by unfold WF; rw [e 5 (by omega) (by omega), e 1 (by omega) (by omega), e 2 (by omega) (by omega)]; exact hw, by rw [e 2 (by omega) (by omega)]; exact hd, by rw [e 0 (by omega) (by omega)]; exact hf, fun u hu => ?_, fun i hi => ?_, ?_⟩
  · unfold BdR
    by_cases q : u = t
    · subst q
      rw [upd_ne (by omega), upd_eq, upd_eq]
      exact ⟨h1, h2⟩
    · rw [e _ (by omega) (by omega), e _ (by omega) (by omega)]
      exact hb u hu
  · obtain ⟨b1, b2, b3, b4, b5, b6⟩ := hl i hi
    unfold LfR
    rw [e _ (by omega) (by omega), e _ (by omega) (by omega), e _ (by omega) (by omega), e 2 (by omega) (by omega), e _ (by omega) (by omega)]
    exact ⟨b1, fun j hj => by rw [e _ (by omega) (by omega)]; exact b2 j hj, fun j hj => by rw [e _ (by omega) (by omega)]; exact b3 j hj, b4, b5, b6⟩
  · rw [hn]
    have e9 : sn (sv (upd (upd r (6 + t) lo) (9 + t) hi)) (nlv r) = sn (sv r) (nlv r) := sn_ext _ (fun i _ => by unfold sv; rw [e _ (by omega) (by omega)])
    rw [e9]
    exact hs
theorem Iv_bn {r : Nat → Int32} (h : Iv r) (x lo hi : Int32) : Iv (bnO r x lo hi).2 := by
  by_cases h1 : 0 ≤ x ∧ x < 3
  · by_cases h2 : (0 ≤ lo ∧ lo ≤ 100) ∧ (lo ≤ hi ∧ hi ≤ 100)
    · have x1 : 0 ≤ x.toInt := i32_le_iff.mp h1.1
      have x2 : x.toInt < 3 := i32_lt_iff.mp h1.2
      obtain ⟨t, ht, rfl⟩ : ∃ t, t < 3 ∧ x = nI t := ⟨x.toInt.toNat, by omega, nI_of_toInt x1⟩
      rw [bnO_3 ht h1 h2]
      have a1 : 0 ≤ lo.toInt := i32_le_iff.mp h2.1.1
      have a2 : lo.toInt ≤ 100 := i32_le_iff.mp h2.1.2
      have a3 := i32_le_iff.mp h2.2.1
      have a4 : hi.toInt ≤ 100 := i32_le_iff.mp h2.2.2
      exact Iv_bd h ht ⟨a1, a2⟩ ⟨by omega, a4⟩
    · rw [bnO_2 h1 h2]; exact h
  · rw [bnO_1 h1]; exact h
