/-! the ranges are kept: buy, row, set, choose -/
theorem Iv_lf {r r9 : Nat → Int32} (h : Iv r) {k : Nat} (hk : k < 5) (e : ∀ j, ¬ (12 + 14 * k ≤ j ∧ j < 26 + 14 * k) → r9 j = r j) (hl9 : LfR r9 k) (hs9 : sv r9 k = sv r k) : Iv r9 := by
  obtain ⟨hw, hd, hf, hb, hl, hs⟩ := id h
  have hn : nlv r9 = nlv r := by unfold nlv; rw [e 5 (by omega)]
  refine ⟨by unfold WF; rw [e 5 (by omega), e 1 (by omega), e 2 (by omega)]; exact hw, by rw [e 2 (by omega)]; exact hd, by rw [e 0 (by omega)]; exact hf, fun u hu => ?_, fun i hi => ?_, ?_⟩
  · unfold BdR
    rw [e _ (by omega), e _ (by omega)]
    exact hb u hu
  · by_cases q : i = k
    · rw [q]; exact hl9
    · obtain ⟨b1, b2, b3, b4, b5, b6⟩ := hl i hi
      have eo : ∀ c, c < 14 → r9 (12 + 14 * i + c) = r (12 + 14 * i + c) := fun c hc => e _ (by omega)
      unfold LfR
      rw [eo 0 (by omega), eo 11 (by omega), eo 12 (by omega), eo 13 (by omega), e 2 (by omega)]
      exact ⟨b1, fun j hj => by rw [eo _ (by omega)]; exact b2 j hj, fun j hj => by rw [eo _ (by omega)]; exact b3 j hj, b4, b5, b6⟩
  · rw [hn]
    have e9 : sn (sv r9) (nlv r) = sn (sv r) (nlv r) := sn_ext _ (fun i _ => by
      by_cases q : i = k
      · rw [q]; exact hs9
      · unfold sv; rw [e _ (by omega)])
    rw [e9]
    exact hs
theorem Iv_bg {r : Nat → Int32} (h : Iv r) (x g : Int32) : Iv (bgO r x g).2 := by
  by_cases h1 : lfP r x
  · by_cases h2 : 1 ≤ g ∧ g ≤ 9999
    · obtain ⟨k, hk, rfl⟩ := lfx_of h.1 h1
      have hn5 := h.1.nl5
      by_cases h3 : 9999 < r (12 + 14 * k + 11) + g
      · rw [bgO_3 (by omega) h1 h2 h3]; exact h
      · rw [bgO_4 (by omega) h1 h2 h3]
        obtain ⟨r9, hr9⟩ : ∃ z1 : Nat → Int32, z1 = upd (upd r (12 + 14 * k + 12) (if 0 < r (12 + 14 * k + 11) + g then r (12 + 14 * k + 11) * r (12 + 14 * k + 12) / (r (12 + 14 * k + 11) + g) else 0)) (12 + 14 * k + 11) (r (12 + 14 * k + 11) + g) := ⟨_, rfl⟩
        show Iv (upd (upd r (12 + 14 * k + 12) (if 0 < r (12 + 14 * k + 11) + g then r (12 + 14 * k + 11) * r (12 + 14 * k + 12) / (r (12 + 14 * k + 11) + g) else 0)) (12 + 14 * k + 11) (r (12 + 14 * k + 11) + g))
        rw [← hr9]
        obtain ⟨hw, hd, hf, hb, hl, hs⟩ := id h
        obtain ⟨b1, b2, b3, b4, b5, b6⟩ := hl k (by omega)
        have g1 : 1 ≤ g.toInt := i32_le_iff.mp h2.1
        have g2 : g.toInt ≤ 9999 := i32_le_iff.mp h2.2
        have es : (r (12 + 14 * k + 11) + g).toInt = (r (12 + 14 * k + 11)).toInt + g.toInt := by rw [Int32.toInt_add, Int.bmod_eq_of_le (by omega) (by omega)]
        rw [i32_lt_iff, es] at h3
        have h3 : ¬ 9999 < (r (12 + 14 * k + 11)).toInt + g.toInt := h3
        have e : ∀ c, c ≠ 11 → c ≠ 12 → r9 (12 + 14 * k + c) = r (12 + 14 * k + c) := fun c h11 h12 => by rw [hr9, upd_ne (by omega), upd_ne (by omega)]
        have e11 : r9 (12 + 14 * k + 11) = r (12 + 14 * k + 11) + g := by rw [hr9, upd_eq]
        have hpos : 0 < r (12 + 14 * k + 11) + g := by rw [i32_lt_iff, es, show (0 : Int32).toInt = 0 from rfl]; omega
        have e12 : r9 (12 + 14 * k + 12) = r (12 + 14 * k + 11) * r (12 + 14 * k + 12) / (r (12 + 14 * k + 11) + g) := by rw [hr9, upd_ne (by omega), upd_eq, if_pos hpos]
        have e2 : r9 2 = r 2 := by rw [hr9, upd_ne (by omega), upd_ne (by omega)]
        obtain ⟨s, hs1⟩ : ∃ s, s = (r (12 + 14 * k + 11)).toInt.toNat := ⟨_, rfl⟩
        obtain ⟨a, ha1⟩ : ∃ s, s = (r (12 + 14 * k + 12)).toInt.toNat := ⟨_, rfl⟩
        obtain ⟨g0, hg1⟩ : ∃ s, s = g.toInt.toNat := ⟨_, rfl⟩
        have n1 : r (12 + 14 * k + 11) = nI s := by rw [hs1]; exact nI_of_toInt b4.1
        have n2 : r (12 + 14 * k + 12) = nI a := by rw [ha1]; exact nI_of_toInt b5.1
        have n3 : g = nI g0 := by rw [hg1]; exact nI_of_toInt (by omega)
        have hm : s * a ≤ 9999 * 9999 := Nat.mul_le_mul (by omega) (by omega)
        have hq : s * a / (s + g0) ≤ a := Nat.div_le_of_le_mul (by rw [Nat.add_mul]; omega)
        have e12n : r9 (12 + 14 * k + 12) = nI (s * a / (s + g0)) := by rw [e12, n1, n2, n3, pk_mul, nI_add, pk_div (by omega) (by omega) (by omega)]
        obtain ⟨q0, hq0⟩ : ∃ z1, z1 = s * a / (s + g0) := ⟨_, rfl⟩
        rw [← hq0] at hq e12n
        refine Iv_lf h (k := k) (by omega) (fun j hj => by rw [hr9, upd_ne (by omega), upd_ne (by omega)]) ?_ (by unfold sv; rw [e 13 (by omega) (by omega)])
        unfold LfR
        rw [e 0 (by omega) (by omega), e11, e12n, e 13 (by omega) (by omega), e2, es, nI_toInt (by omega)]
        exact ⟨b1, fun j hj => by rw [e _ (by omega) (by omega)]; exact b2 j hj, fun j hj => by rw [e _ (by omega) (by omega)]; exact b3 j hj, by omega, by omega, b6⟩
    · rw [bgO_2 h1 h2]; exact h
  · rw [bgO_1 h1]; exact h
theorem Iv_rw {r : Nat → Int32} (h : Iv r) (x : Int32) (y : Int64) : Iv (rwO r x y).2 := by
  by_cases h1 : lfP r x
  · by_cases h2 : chP y
    · obtain ⟨k, hk, rfl⟩ := lfx_of h.1 h1
      have hn5 := h.1.nl5
      rw [rwO_3 (by omega) h1 h2]
      show Iv (chR r k y 7)
      obtain ⟨b1, b2, b3, b4, b5, b6⟩ := h.2.2.2.2.1 k (by omega)
      have e : ∀ j, ¬ (12 + 14 * k + 1 ≤ j ∧ j < 12 + 14 * k + 1 + 7) → chR r k y 7 j = r j := fun j hj => if_neg hj
      have e1 : ∀ j, j < 7 → chR r k y 7 (12 + 14 * k + (1 + j)) = chF y j := fun j hj => by
        show (if 12 + 14 * k + 1 ≤ 12 + 14 * k + (1 + j) ∧ 12 + 14 * k + (1 + j) < 12 + 14 * k + 1 + 7 then chF y (12 + 14 * k + (1 + j) - (12 + 14 * k + 1)) else r (12 + 14 * k + (1 + j))) = _
        rw [if_pos (by omega), show 12 + 14 * k + (1 + j) - (12 + 14 * k + 1) = j by omega]
      refine Iv_lf h (k := k) (by omega) (fun j hj => e j (by omega)) ?_ (by unfold sv; rw [e _ (by omega)])
      unfold LfR
      rw [e (12 + 14 * k + 0) (by omega), e (12 + 14 * k + 11) (by omega), e (12 + 14 * k + 12) (by omega), e (12 + 14 * k + 13) (by omega), e 2 (by omega)]
      refine ⟨b1, fun j hj => ?_, fun j hj => by rw [e _ (by omega)]; exact b3 j hj, b4, b5, b6⟩
      rw [e1 j hj]
      obtain ⟨c1, c2⟩ := h2 j hj
      exact ⟨i32_le_iff.mp c1, i32_le_iff.mp c2⟩
    · rw [rwO_2 h1 h2]; exact h
  · rw [rwO_1 h1]; exact h
theorem Iv_set {r : Nat → Int32} (h : Iv r) (x y : Int32) : Iv (setO r x y).2 := by
  by_cases q : (x = 0 ∧ (0 ≤ y ∧ y ≤ 99)) ∨ (x = 1 ∧ (1 ≤ y ∧ y ≤ 7))
  · obtain ⟨hw, hd, hf, hb, hl, hs⟩ := id h
    have gen : ∀ k, k < 2 → (k = 0 → 0 ≤ y.toInt ∧ y.toInt ≤ 99) → (k = 1 → 1 ≤ y.toInt ∧ y.toInt ≤ 7) → Iv (upd r k y) := by
      intro k hk h0 h1
      have e : ∀ j, j ≠ k → upd r k y j = r j := fun j hj => upd_ne hj
      have hn : nlv (upd r k y) = nlv r := by unfold nlv; rw [e 5 (by omega)]
      refine ⟨?_, by rw [e 2 (by omega)]; exact hd, ?_, fun u hu => ?_, fun i hi => ?_, ?_⟩
      · unfold WF
        rw [e 5 (by omega), e 2 (by omega)]
        refine ⟨hw.1, ?_, hw.2.2⟩
        by_cases z : k = 1
        · rw [z, upd_eq]; exact h1 z
        · rw [e 1 (by omega)]; exact hw.2.1
      · by_cases z : k = 0
        · rw [z, upd_eq]; exact h0 z
        · rw [e 0 (by omega)]; exact hf
      · unfold BdR
        rw [e _ (by omega), e _ (by omega)]
        exact hb u hu
      · obtain ⟨b1, b2, b3, b4, b5, b6⟩ := hl i hi
        unfold LfR
        rw [e (12 + 14 * i + 0) (by omega), e (12 + 14 * i + 11) (by omega), e (12 + 14 * i + 12) (by omega), e (12 + 14 * i + 13) (by omega), e 2 (by omega)]
        exact ⟨b1, fun j hj => by rw [e _ (by omega)]; exact b2 j hj, fun j hj => by rw [e _ (by omega)]; exact b3 j hj, b4, b5, b6⟩
      · rw [hn]
        have e9 : sn (sv (upd r k y)) (nlv r) = sn (sv r) (nlv r) := sn_ext _ (fun i _ => by unfold sv; rw [e _ (by omega)])
        rw [e9]
        exact hs
    rcases q with ⟨rfl, q⟩ | ⟨rfl, q⟩
    · rw [setO_0 q]
      exact gen 0 (by omega) (fun _ => ⟨i32_le_iff.mp q.1, i32_le_iff.mp q.2⟩) (fun z => absurd z (by omega))
    · rw [setO_1 q]
      exact gen 1 (by omega) (fun z => absurd z (by omega)) (fun _ => ⟨i32_le_iff.mp q.1, i32_le_iff.mp q.2⟩)
  · rw [setO_n q]; exact h
theorem sk_sum {r : Nat → Int32} (_h : Iv r) (h2 : ¬ (skR r).1 = -1) : sn (skR r).2 (nlv r) = 20 ∧ 0 < nlv r := by
  by_cases hn : nlv r = 0
  · exfalso
    apply h2
    unfold skR
    rw [if_pos hn]
  · refine ⟨?_, by omega⟩
    have h9 : (skR r) = (skR r) ∧ ((skR r).1 = -1 ∨ sn (skR r).2 (nlv r) = 20) := by
      have h8 := dfs_rel (fun (a b : Int32 × (Nat → Nat)) => a = b ∧ (b.1 = -1 ∨ sn b.2 (nlv r) = 20)) (um (Cm r) (fun x => kpP r x (Vn r))) (um (Cm r) (fun x => kpP r x (Vn r))) (nlv r - 1) 0 20 (fun _ => 0) (fun y hy a b hab => ?_) (-1, fun _ => 0) (-1, fun _ => 0) ⟨rfl, Or.inl rfl⟩
      · unfold skR
        rw [if_neg hn]
        exact h8
      · obtain ⟨rfl, hb⟩ := hab
        refine ⟨rfl, ?_⟩
        by_cases q : (a.1 = -1 ∨ Cm r y < a.1) ∧ kpP r y (Vn r)
        · rw [um_y q]
          right
          show sn y (nlv r) = 20
          rw [← hy.2.2, show nlv r - 1 + 1 = nlv r by omega]
          exact sn_ext _ (fun i _ => by rw [Nat.zero_add])
        · rw [um_n q]
          exact hb
    exact h9.2.resolve_left h2
theorem Iv_co {r : Nat → Int32} (h : Iv r) : Iv (coO r).2 := by
  by_cases h2 : (skR r).1 = -1
  · rw [coO_1 h2]; exact h
  · rw [coO_2 h2]
    obtain ⟨hsum, hn0⟩ := sk_sum h h2
    show Iv (shR r (fun k => nI ((skR r).2 k)) (nlv r))
    obtain ⟨r9, hr9⟩ : ∃ z1 : Nat → Int32, z1 = shR r (fun k => nI ((skR r).2 k)) (nlv r) := ⟨_, rfl⟩
    rw [← hr9]
    obtain ⟨hw, hd, hf, hb, hl, hs⟩ := id h
    have hn5 := hw.nl5
    have e : ∀ j, ¬ (25 ≤ j ∧ (j - 25) % 14 = 0 ∧ (j - 25) / 14 < nlv r) → r9 j = r j := fun j hj => by rw [hr9]; exact if_neg hj
    have en : ∀ j, j < 25 → r9 j = r j := fun j hj => e j (by omega)
    have el : ∀ i c, c < 13 → r9 (12 + 14 * i + c) = r (12 + 14 * i + c) := fun i c hc => e _ (fun q => by omega)
    have e13 : ∀ i, i < nlv r → r9 (12 + 14 * i + 13) = nI ((skR r).2 i) := fun i hi => by
      rw [hr9]
      show (if 25 ≤ 12 + 14 * i + 13 ∧ (12 + 14 * i + 13 - 25) % 14 = 0 ∧ (12 + 14 * i + 13 - 25) / 14 < nlv r then nI ((skR r).2 ((12 + 14 * i + 13 - 25) / 14)) else r (12 + 14 * i + 13)) = _
      rw [if_pos ⟨by omega, by omega, by omega⟩, show (12 + 14 * i + 13 - 25) / 14 = i by omega]
    have hle : ∀ i, i < nlv r → (skR r).2 i ≤ 20 := fun i hi => by rw [← hsum]; exact sn_le_one hi
    have hn : nlv r9 = nlv r := by unfold nlv; rw [en 5 (by omega)]
    refine ⟨by unfold WF; rw [en 5 (by omega), en 1 (by omega), en 2 (by omega)]; exact hw, by rw [en 2 (by omega)]; exact hd, by rw [en 0 (by omega)]; exact hf, fun u hu => ?_, fun i hi => ?_, ?_⟩
    · unfold BdR
      rw [en _ (by omega), en _ (by omega)]
      exact hb u hu
    · obtain ⟨b1, b2, b3, b4, b5, b6⟩ := hl i hi
      unfold LfR
      rw [el i 0 (by omega), el i 11 (by omega), el i 12 (by omega), en 2 (by omega)]
      refine ⟨b1, fun j hj => by rw [el i _ (by omega)]; exact b2 j hj, fun j hj => by rw [el i _ (by omega)]; exact b3 j hj, b4, b5, ?_⟩
      by_cases q : i < nlv r
      · have := hle i q
        rw [e13 i q, nI_toInt (by omega)]
        omega
      · rw [e _ (fun z => by omega)]
        exact b6
    · rw [hn]
      have e9 : sn (sv r9) (nlv r) = sn (skR r).2 (nlv r) := sn_ext _ (fun i hi => by
        have := hle i hi
        unfold sv
        rw [e13 i hi, nI_toInt (by omega)]
        omega)
      rw [e9, hsum]
      exact Nat.le_refl _
