/-! the ranges are kept: share, pass, mix, leaf -/
theorem sn_up {r : Nat → Int32} {k : Nat} {v : Int32} : sv (upd r (12 + 14 * k + 13) v) = un (sv r) k v.toInt.toNat := by
  funext i
  unfold sv
  by_cases q : i = k
  · rw [q, upd_eq, un_eq]
  · rw [upd_ne (by omega), un_ne q]
theorem lfx_of {r : Nat → Int32} {x : Int32} (hw : WF r) (h : lfP r x) : ∃ k, k < nlv r ∧ x = nI k := by
  have h1 := h.1
  have h2 := h.2
  rw [hw.nl, i32_lt_iff, nI_toInt (by have := hw.nl5; omega)] at h2
  rw [i32_le_iff, show (0 : Int32).toInt = 0 from rfl] at h1
  exact ⟨x.toInt.toNat, by omega, nI_of_toInt h1⟩
theorem Iv_sh {r : Nat → Int32} (h : Iv r) (x g : Int32) : Iv (shO r x g).2 := by
  by_cases h1 : lfP r x
  · by_cases h2 : 0 ≤ g ∧ g ≤ 20
    · obtain ⟨k, hk, rfl⟩ := lfx_of h.1 h1
      have hn5 := h.1.nl5
      by_cases h3 : 20 < shS r - r (12 + 14 * k + 13) + g
      · rw [shO_3 (by omega) h1 h2 h3]; exact h
      · rw [shO_4 (by omega) h1 h2 h3]
        show Iv (upd r (12 + 14 * k + 13) g)
        obtain ⟨hw, hd, hf, hb, hl, hs⟩ := id h
        have e : ∀ j, j ≠ 12 + 14 * k + 13 → upd r (12 + 14 * k + 13) g j = r j := fun j hj => upd_ne hj
        have hn : nlv (upd r (12 + 14 * k + 13) g) = nlv r := by unfold nlv; rw [e 5 (by omega)]
        have g1 := i32_le_iff.mp h2.1
        have g2 := i32_le_iff.mp h2.2
        have g1 : 0 ≤ g.toInt := g1
        have g2 : g.toInt ≤ 20 := g2
        refine ⟨by unfold WF; rw [e 5 (by omega), e 1 (by omega), e 2 (by omega)]; exact hw, by rw [e 2 (by omega)]; exact hd, by rw [e 0 (by omega)]; exact hf, fun t ht => ?_, fun i hi => ?_, ?_⟩
        · unfold BdR
          rw [e _ (by omega), e _ (by omega)]
          exact hb t ht
        · obtain ⟨b1, b2, b3, b4, b5, b6⟩ := hl i hi
          unfold LfR
          rw [e _ (by omega), e _ (by omega), e _ (by omega), e 2 (by omega)]
          refine ⟨b1, fun j hj => by rw [e _ (by omega)]; exact b2 j hj, fun j hj => by rw [e _ (by omega)]; exact b3 j hj, b4, b5, ?_⟩
          by_cases q : i = k
          · rw [q, upd_eq]; exact ⟨g1, g2⟩
          · rw [e _ (by omega)]; exact b6
        · rw [hn, sn_up]
          have a1 := sn_un (x := sv r) (v := g.toInt.toNat) (n := nlv r) hk
          have a2 := sn_le_one (x := sv r) hk
          have a3 : r (12 + 14 * k + 13) = nI (sv r k) := (sv_s h (by omega)).1
          rw [shS_nI h, a3, pk_sub a2, nI_of_toInt g1, nI_add, show (20 : Int32) = nI 20 from rfl, nI_ltI (by omega) (by omega)] at h3
          omega
    · rw [shO_2 h1 h2]; exact h
  · rw [shO_1 h1]; exact h
theorem Iv_pd {r : Nat → Int32} (h : Iv r) (d : Int32) : Iv (pdO r d).2 := by
  by_cases h1 : 1 ≤ d ∧ d ≤ 99
  · by_cases h2 : 9999 < r 2 + d
    · rw [pdO_2 h1 h2]; exact h
    · rw [pdO_3 h1 h2]
      show Iv (upd (agF r d (nlv r)) 2 (r 2 + d))
      obtain ⟨hw, hd, hf, hb, hl, hs⟩ := id h
      have d1 : 1 ≤ d.toInt := i32_le_iff.mp h1.1
      have d2 : d.toInt ≤ 99 := i32_le_iff.mp h1.2
      have r2 := hw.2.2
      have e2 : (r 2 + d).toInt = (r 2).toInt + d.toInt := by rw [Int32.toInt_add, Int.bmod_eq_of_le (by omega) (by omega)]
      rw [i32_lt_iff, e2] at h2
      have h2 : ¬ 9999 < (r 2).toInt + d.toInt := h2
      have e : ∀ j, j ≠ 2 → ¬ (24 ≤ j ∧ (j - 24) % 14 = 0 ∧ (j - 24) / 14 < nlv r) → upd (agF r d (nlv r)) 2 (r 2 + d) j = r j := fun j hj hq => by rw [upd_ne hj]; exact if_neg hq
      have en : ∀ j, j < 24 → j ≠ 2 → upd (agF r d (nlv r)) 2 (r 2 + d) j = r j := fun j hj h2 => e j h2 (fun q => by omega)
      have el : ∀ i c, c < 14 → c ≠ 12 → upd (agF r d (nlv r)) 2 (r 2 + d) (12 + 14 * i + c) = r (12 + 14 * i + c) := fun i c hc h12 => e _ (by omega) (fun q => by omega)
      have hn : nlv (upd (agF r d (nlv r)) 2 (r 2 + d)) = nlv r := by
        show (upd (agF r d (nlv r)) 2 (r 2 + d) 5).toInt.toNat = _
        rw [en 5 (by omega) (by omega)]
        rfl
      have e22 : upd (agF r d (nlv r)) 2 (r 2 + d) 2 = r 2 + d := upd_eq
      have hwn : WF (upd (agF r d (nlv r)) 2 (r 2 + d)) := by
        unfold WF
        rw [en 5 (by omega) (by omega), en 1 (by omega) (by omega), e22, e2]
        exact ⟨hw.1, hw.2.1, by omega⟩
      refine ⟨hwn, by rw [e22, e2]; omega, by rw [en 0 (by omega) (by omega)]; exact hf, fun t ht => ?_, fun i hi => ?_, ?_⟩
      · unfold BdR
        rw [en _ (by omega) (by omega), en _ (by omega) (by omega)]
        exact hb t ht
      · obtain ⟨b1, b2, b3, b4, b5, b6⟩ := hl i hi
        unfold LfR
        rw [el i 0 (by omega) (by omega), el i 11 (by omega) (by omega), el i 13 (by omega) (by omega), e22, e2]
        refine ⟨b1, fun j hj => by rw [el i (1 + j) (by omega) (by omega)]; exact b2 j hj, fun j hj => by rw [el i (8 + j) (by omega) (by omega)]; exact b3 j hj, b4, ?_, b6⟩
        by_cases q : i < nlv r
        · have e9 : upd (agF r d (nlv r)) 2 (r 2 + d) (12 + 14 * i + 12) = r (12 + 14 * i + 12) + d := by
            rw [upd_ne (by omega)]
            exact if_pos ⟨by omega, by omega, by omega⟩
          rw [e9, Int32.toInt_add, Int.bmod_eq_of_le (by omega) (by omega)]
          omega
        · rw [e _ (by omega) (fun z => by omega)]
          omega
      · rw [hn]
        have e9 : sn (sv (upd (agF r d (nlv r)) 2 (r 2 + d))) (nlv r) = sn (sv r) (nlv r) := sn_ext _ (fun i _ => by unfold sv; rw [el i 13 (by omega) (by omega)])
        rw [e9]
        exact hs
  · rw [pdO_1 h1]; exact h
theorem Iv_ad {r : Nat → Int32} (h : Iv r) (p a b c st : Int32) : Iv (adO r p a b c st).2 := by
  by_cases h1 : lfOk p a b c st
  · by_cases h2 : 5 ≤ nlv r
    · rw [adO_2 h1 h2]; exact h
    · rw [adO_3 h1 h2]
      show Iv (adR r (nlv r) p a b c st)
      obtain ⟨hw, hd, hf, hb, hl, hs⟩ := id h
      obtain ⟨⟨⟨a1, a2⟩, ⟨b1, b2⟩, ⟨c1, c2⟩⟩, ⟨p1, p2⟩, ⟨s1, s2⟩⟩ := h1
      rw [i32_le_iff] at a1 a2 b1 b2 c1 c2 p1 p2 s1 s2
      have z0 : (0 : Int32).toInt = 0 := rfl
      have z1 : (100 : Int32).toInt = 100 := rfl
      have z2 : (999 : Int32).toInt = 999 := rfl
      have z3 : (9999 : Int32).toInt = 9999 := rfl
      obtain ⟨k, hk⟩ : ∃ k, k = nlv r := ⟨_, rfl⟩
      rw [← hk] at h2 ⊢
      have r2 := hw.2.2
      have e : ∀ j, j ≠ 5 → ¬ (12 + 14 * k ≤ j ∧ j < 26 + 14 * k) → adR r k p a b c st j = r j := fun j h5 hq => (if_neg h5).trans (if_neg hq)
      have e5 : adR r k p a b c st 5 = nI (k + 1) := if_pos rfl
      have el : ∀ q, q < 14 → adR r k p a b c st (12 + 14 * k + q) = lfN p a b c st q := fun q hq => by
        show (if 12 + 14 * k + q = 5 then nI (k + 1) else if 12 + 14 * k ≤ 12 + 14 * k + q ∧ 12 + 14 * k + q < 26 + 14 * k then lfN p a b c st (12 + 14 * k + q - (12 + 14 * k)) else r (12 + 14 * k + q)) = _
        rw [if_neg (by omega), if_pos (by omega), show 12 + 14 * k + q - (12 + 14 * k) = q by omega]
      have hn : nlv (adR r k p a b c st) = k + 1 := by unfold nlv; rw [e5, nIt (by omega)]
      have hwn : WF (adR r k p a b c st) := by
        unfold WF
        rw [e5, e 1 (by omega) (by omega), e 2 (by omega) (by omega), nI_toInt (by omega)]
        exact ⟨by omega, hw.2.1, r2⟩
      refine ⟨hwn, by rw [e 2 (by omega) (by omega)]; exact hd, by rw [e 0 (by omega) (by omega)]; exact hf, fun t ht => ?_, fun i hi => ?_, ?_⟩
      · unfold BdR
        rw [e _ (by omega) (by omega), e _ (by omega) (by omega)]
        exact hb t ht
      · by_cases q : i = k
        · subst q
          unfold LfR
          rw [el 0 (by omega), el 11 (by omega), el 12 (by omega), el 13 (by omega), e 2 (by omega) (by omega)]
          refine ⟨⟨by show 0 ≤ p.toInt; omega, by show p.toInt ≤ 999; omega⟩, fun j hj => ?_, fun j hj => ?_, ⟨by show 0 ≤ st.toInt; omega, by show st.toInt ≤ 9999; omega⟩, ⟨by show (0 : Int) ≤ (0 : Int32).toInt; omega, by show (0 : Int32).toInt ≤ _; omega⟩, ⟨by show (0 : Int) ≤ (0 : Int32).toInt; omega, by show (0 : Int32).toInt ≤ 20; omega⟩⟩
          · rw [el (1 + j) (by omega)]
            have e9 : ∀ j, j < 7 → lfN p a b c st (1 + j) = 0 := fun j hj => by
              have h7 : j = 0 ∨ j = 1 ∨ j = 2 ∨ j = 3 ∨ j = 4 ∨ j = 5 ∨ j = 6 := by omega
              rcases h7 with h7 | h7 | h7 | h7 | h7 | h7 | h7 <;> subst h7 <;> rfl
            rw [e9 j hj, z0]; omega
          · rw [el (8 + j) (by omega)]
            have h7 : j = 0 ∨ j = 1 ∨ j = 2 := by omega
            rcases h7 with h7 | h7 | h7 <;> subst h7
            · show 0 ≤ a.toInt ∧ a.toInt ≤ 100; omega
            · show 0 ≤ b.toInt ∧ b.toInt ≤ 100; omega
            · show 0 ≤ c.toInt ∧ c.toInt ≤ 100; omega
        · obtain ⟨g1, g2, g3, g4, g5, g6⟩ := hl i hi
          unfold LfR
          have eo : ∀ q, q < 14 → adR r k p a b c st (12 + 14 * i + q) = r (12 + 14 * i + q) := fun q hq => e _ (by omega) (by omega)
          rw [eo 0 (by omega), eo 11 (by omega), eo 12 (by omega), eo 13 (by omega), e 2 (by omega) (by omega)]
          exact ⟨g1, fun j hj => by rw [eo (1 + j) (by omega)]; exact g2 j hj, fun j hj => by rw [eo (8 + j) (by omega)]; exact g3 j hj, g4, g5, g6⟩
      · rw [hn]
        show sn (sv (adR r k p a b c st)) k + sv (adR r k p a b c st) k ≤ 20
        have e9 : sn (sv (adR r k p a b c st)) k = sn (sv r) k := sn_ext _ (fun i hi => by unfold sv; rw [e _ (by omega) (by omega)])
        have e8 : sv (adR r k p a b c st) k = 0 := by unfold sv; rw [el 13 (by omega)]; rfl
        rw [e9, e8, hk]
        exact hs
  · rw [adO_1 h1]; exact h
