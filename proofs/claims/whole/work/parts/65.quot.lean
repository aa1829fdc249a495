/-! floats: quotients are ordinary numbers, and what their bits are -/
theorem rr_norm {f : FP.Core.Fmt} (hf : FP.Core.Good f) {A B : Nat} {e lo hi : Int} (hA : 0 < A) (hB : 0 < B) (hlo : lo ≤ FP.Core.leading A B) (hhi : FP.Core.leading A B ≤ hi) (hq1 : f.qmin ≤ lo + e - ((f.p : Int) - 1)) (hq2 : hi + e - ((f.p : Int) - 1) + 1 ≤ f.qmax) : ∃ c q, FP.Core.roundRatio f false A B e = .fin false c q ∧ f.tails ≤ c ∧ c < 2 ^ f.p ∧ lo + e - ((f.p : Int) - 1) ≤ q ∧ q ≤ hi + e - ((f.p : Int) - 1) + 1 := by
  have hQ : FP.Core.quantum f A B e = FP.Core.leading A B + e - ((f.p : Int) - 1) := by
    unfold FP.Core.quantum
    omega
  have hle := FP.Core.nearest_units_le (f := f) hA hB e
  have hge : f.tails ≤ FP.Core.nearest (FP.Core.unitsNum A e (FP.Core.quantum f A B e)) (FP.Core.unitsDen B e (FP.Core.quantum f A B e)) := by
    refine FP.Core.nearest_ge (FP.Core.unitsDen_pos hB ..) ?_
    have h2 : ¬ FP.Core.Below A B (FP.Core.quantum f A B e - e + ((f.p - 1 : Nat) : Int)) := by
      have h3 := (FP.Core.leading_spec hA hB).1
      rw [show FP.Core.quantum f A B e - e + ((f.p - 1 : Nat) : Int) = FP.Core.leading A B by have := hf.2; omega]
      exact h3
    rw [← FP.Core.units_below] at h2
    exact Nat.le_of_not_lt h2
  have h9 := FP.Core.two_tails hf
  have h8 := FP.Core.tails_two hf
  have e0 : FP.Core.roundRatio f false A B e = FP.Core.settle f false (FP.Core.nearest (FP.Core.unitsNum A e (FP.Core.quantum f A B e)) (FP.Core.unitsDen B e (FP.Core.quantum f A B e))) (FP.Core.quantum f A B e) := by
    unfold FP.Core.roundRatio
    rw [if_neg (by omega)]
    rfl
  rw [e0]
  generalize FP.Core.nearest (FP.Core.unitsNum A e (FP.Core.quantum f A B e)) (FP.Core.unitsDen B e (FP.Core.quantum f A B e)) = c at hle hge
  generalize FP.Core.quantum f A B e = q at hQ
  unfold FP.Core.settle FP.Core.bound
  by_cases hc : c < 2 ^ f.p
  · rw [if_pos hc, if_pos (by omega)]
    exact ⟨c, q, rfl, hge, hc, by omega, by omega⟩
  · rw [if_neg hc, if_pos (by omega)]
    exact ⟨f.tails, q + 1, rfl, Nat.le_refl _, by omega, by omega, by omega⟩
theorem ld_one {A k : Nat} (hA : 0 < A) (h : A < 2 ^ k) : 0 ≤ FP.Core.leading A 1 ∧ FP.Core.leading A 1 ≤ (k : Int) - 1 := by
  obtain ⟨s1, s2⟩ := FP.Core.leading_spec hA (B := 1) (by decide)
  have h1 : ¬ FP.Core.Below A 1 0 := by unfold FP.Core.Below; simp; omega
  have h2 : FP.Core.Below A 1 (k : Int) := by
    unfold FP.Core.Below
    rw [show (-(k : Int)).toNat = 0 by omega, show ((k : Int)).toNat = k by omega]
    omega
  have a1 := FP.Core.lt_of_below h1 s2
  have a2 := FP.Core.lt_of_below s1 h2
  omega
theorem ld_two {A B T : Nat} (hT : 0 < T) (hA : T ≤ A ∧ A < 2 * T) (hB : T ≤ B ∧ B < 2 * T) : -1 ≤ FP.Core.leading A B ∧ FP.Core.leading A B ≤ 0 := by
  obtain ⟨s1, s2⟩ := FP.Core.leading_spec (A := A) (B := B) (by omega) (by omega)
  have h1 : ¬ FP.Core.Below A B (-1) := by
    unfold FP.Core.Below
    rw [show (-(-1 : Int)).toNat = 1 by omega, show ((-1 : Int)).toNat = 0 by omega]
    omega
  have h2 : FP.Core.Below A B 1 := by
    unfold FP.Core.Below
    rw [show (-(1 : Int)).toNat = 0 by omega, show ((1 : Int)).toNat = 1 by omega]
    omega
  have a1 := FP.Core.lt_of_below h1 s2
  have a2 := FP.Core.lt_of_below s1 h2
  omega
theorem i2f_n {C : Nat} (h0 : 0 < C) (h : C < 2 ^ 31) : ∃ c q, FP.Core.val32 (FP.i2f (nI C)) = .fin false c q ∧ 2 ^ 23 ≤ c ∧ c < 2 ^ 24 ∧ -23 ≤ q ∧ q ≤ 8 := by
  obtain ⟨e1, e2, e3, e4⟩ := q32
  obtain ⟨l1, l2⟩ := ld_one h0 h
  obtain ⟨c, q, h1, h2, h3, h4, h5⟩ := rr_norm (f := FP.Core.b32) (e := 0) FP.Core.good_b32 h0 (by decide) l1 l2 (by rw [e1, e4]; decide) (by rw [e2, e4]; decide)
  rw [e3] at h2
  rw [e4] at h3 h4 h5
  refine ⟨c, q, ?_, h2, h3, by omega, by omega⟩
  show FP.Core.val32 (FP.Core.i2f (nI C)) = _
  rw [FP.Core.val32_i2f, nI_toInt h, ← h1]
  unfold FP.Core.ofInt FP.Core.round
  rw [decide_eq_false (by omega), Int.natAbs_natCast]
theorem i2d_n {C : Nat} (h0 : 0 < C) (h : C < 2 ^ 11) : ∃ c q, FP.Core.val64 (FP.i2d (nI C)) = .fin false c q ∧ 2 ^ 52 ≤ c ∧ c < 2 ^ 53 ∧ -52 ≤ q ∧ q ≤ -41 := by
  obtain ⟨e1, e2, e3, e4⟩ := q64
  obtain ⟨l1, l2⟩ := ld_one h0 h
  obtain ⟨c, q, h1, h2, h3, h4, h5⟩ := rr_norm (f := FP.Core.b64) (e := 0) FP.Core.good_b64 h0 (by decide) l1 l2 (by rw [e1, e4]; decide) (by rw [e2, e4]; decide)
  rw [e3] at h2
  rw [e4] at h3 h4 h5
  refine ⟨c, q, ?_, h2, h3, by omega, by omega⟩
  show FP.Core.val64 (FP.Core.i2d (nI C)) = _
  rw [FP.Core.val64_i2d, nI_toInt (by omega), ← h1]
  unfold FP.Core.ofInt FP.Core.round
  rw [decide_eq_false (by omega), Int.natAbs_natCast]
theorem enc64 {c : Nat} {q : Int} (h : 2 ^ 52 ≤ c) (hq : -1074 ≤ q) : FP.Core.encode FP.Core.b64 (.fin false c q) = (q + 1075).toNat * 2 ^ 52 + (c - 2 ^ 52) := by
  obtain ⟨e1, -, e3, -⟩ := q64
  show (if c < FP.Core.b64.tails then FP.Core.assemble FP.Core.b64 false 0 c else FP.Core.assemble FP.Core.b64 false ((q - FP.Core.b64.qmin).toNat + 1) (c - FP.Core.b64.tails)) = _
  rw [e3, if_neg (by omega), e1]
  unfold FP.Core.assemble
  rw [e3, show (q - -1074).toNat + 1 = (q + 1075).toNat by omega, show false.toNat = 0 from rfl, Nat.zero_mul, Nat.zero_add]
theorem enc32 {c : Nat} {q : Int} (h : 2 ^ 23 ≤ c) (hq : -149 ≤ q) : FP.Core.encode FP.Core.b32 (.fin false c q) = (q + 150).toNat * 2 ^ 23 + (c - 2 ^ 23) := by
  obtain ⟨e1, -, e3, -⟩ := q32
  show (if c < FP.Core.b32.tails then FP.Core.assemble FP.Core.b32 false 0 c else FP.Core.assemble FP.Core.b32 false ((q - FP.Core.b32.qmin).toNat + 1) (c - FP.Core.b32.tails)) = _
  rw [e3, if_neg (by omega), e1]
  unfold FP.Core.assemble
  rw [e3, show (q - -149).toNat + 1 = (q + 150).toNat by omega, show false.toNat = 0 from rfl, Nat.zero_mul, Nat.zero_add]
theorem lL_t32 {a : Nat} (h : a < 2 ^ 31) : (lL a).toInt32 = nI a := by
  apply Int32.toInt_inj.mp
  rw [Int64.toInt_toInt32, lL_toInt (by omega), nI_toInt h, Int.bmod_eq_of_le (by omega) (by omega)]
/-- a taste's double -/
theorem taste_b {S : Nat} (h : S ≤ 2000) : FP.Core.val64 (FP.ddiv (FP.i2d (nI S)) 4626322717216342016) ≠ .nan ∧ BitsP (FP.ddiv (FP.i2d (nI S)) 4626322717216342016) 52 1023 (FP.ddiv (FP.i2d (nI S)) 4626322717216342016).toInt64 := by
  obtain ⟨e1, e2, e3, e4⟩ := q64
  have hv : FP.Core.val64 (FP.ddiv (FP.i2d (nI S)) 4626322717216342016) = FP.Core.quotient FP.Core.b64 (FP.Core.val64 (FP.i2d (nI S))) (FP.Core.val64 4626322717216342016) := FP.Core.val64_ddiv _ _
  have h20 : FP.Core.val64 4626322717216342016 = .fin false (5 * 2 ^ 50) (-48) := by decide +kernel
  by_cases h0 : S = 0
  · subst h0
    have hz : FP.Core.val64 (FP.ddiv (FP.i2d (nI 0)) 4626322717216342016) = .fin false 0 (-1074) := by decide +kernel
    exact ⟨fin64 hz, Or.inl ⟨hz, by decide +kernel⟩⟩
  · obtain ⟨c1, q1, a1, a2, a3, a4, a5⟩ := i2d_n (C := S) (by omega) (by omega)
    rw [a1, h20] at hv
    obtain ⟨l1, l2⟩ := ld_two (T := 2 ^ 52) (by decide) ⟨a2, a3⟩ (B := 5 * 2 ^ 50) (by decide)
    obtain ⟨c, q, b1, b2, b3, b4, b5⟩ := rr_norm (f := FP.Core.b64) (A := c1) (B := 5 * 2 ^ 50) (e := q1 - (-48)) FP.Core.good_b64 (by omega) (by decide) l1 l2 (by rw [e1, e4]; omega) (by rw [e2, e4]; omega)
    rw [e3] at b2
    rw [e4] at b3 b4 b5
    have hy : FP.Core.val64 (FP.ddiv (FP.i2d (nI S)) 4626322717216342016) = .fin false c q := by
      rw [hv, ← b1]
      show (if (5 * 2 ^ 50 : Nat) = 0 then (if c1 = 0 then FP.Core.Datum.nan else .inf (false != false)) else FP.Core.roundRatio FP.Core.b64 (false != false) c1 (5 * 2 ^ 50) (q1 - (-48))) = _
      rw [if_neg (by decide)]
      rfl
    refine ⟨fin64 hy, Or.inr ⟨c - 2 ^ 52, (q + 52).toNat, (-(q + 52)).toNat, (q + 1075).toNat, by omega, by omega, by omega, by omega, ?_, by omega, ?_⟩⟩
    · rw [hy, show 2 ^ 52 + (c - 2 ^ 52) * 2 ^ (52 - 52) = c by omega, show (-52 + ((q + 52).toNat : Int) - ((-(q + 52)).toNat : Int)) = q by omega]
    · have hw : FP.Core.of64 (FP.Core.val64 (FP.ddiv (FP.i2d (nI S)) 4626322717216342016)) = FP.ddiv (FP.i2d (nI S)) 4626322717216342016 := FP.Core.of64_val64 (fin64 hy)
      rw [hy] at hw
      rw [← hw]
      unfold FP.Core.of64 lL
      rw [enc64 b2 (by omega)]
/-- a mean's float -/
theorem mean_b {C g : Nat} (hC : C < 2 ^ 31) (hg0 : 0 < g) (hg : g < 2 ^ 31) : FP.Core.val32 (FP.fdiv (FP.i2f (nI C)) (FP.i2f (nI g))) ≠ .nan ∧ FP.Core.val64 (FP.f2d (FP.fdiv (FP.i2f (nI C)) (FP.i2f (nI g)))) ≠ .nan ∧ ∃ res : Int64, BitsP (FP.f2d (FP.fdiv (FP.i2f (nI C)) (FP.i2f (nI g)))) 23 127 res ∧ res.toInt32 = (FP.fdiv (FP.i2f (nI C)) (FP.i2f (nI g))).toInt32 := by
  obtain ⟨e1, e2, e3, e4⟩ := q32
  obtain ⟨x, hx⟩ : ∃ x, x = FP.fdiv (FP.i2f (nI C)) (FP.i2f (nI g)) := ⟨_, rfl⟩
  have hv : FP.Core.val32 x = FP.Core.quotient FP.Core.b32 (FP.Core.val32 (FP.i2f (nI C))) (FP.Core.val32 (FP.i2f (nI g))) := by rw [hx]; exact FP.Core.val32_fdiv _ _
  rw [← hx]
  obtain ⟨c2, q2, d1, d2, d3, d4, d5⟩ := i2f_n hg0 hg
  have key : (FP.Core.val32 x = .fin false 0 (-149)) ∨ ∃ c q, FP.Core.val32 x = .fin false c q ∧ 2 ^ 23 ≤ c ∧ c < 2 ^ 24 ∧ -55 ≤ q ∧ q ≤ 9 := by
    by_cases h0 : C = 0
    · left
      subst h0
      rw [hv, d1, show FP.Core.val32 (FP.i2f (nI 0)) = .fin false 0 (-149) by decide +kernel]
      show (if c2 = 0 then (if (0 : Nat) = 0 then FP.Core.Datum.nan else .inf (false != false)) else FP.Core.roundRatio FP.Core.b32 (false != false) 0 c2 (-149 - q2)) = _
      rw [if_neg (by omega), ← e1]
      rfl
    · right
      obtain ⟨c1, q1, a1, a2, a3, a4, a5⟩ := i2f_n (C := C) (by omega) hC
      obtain ⟨l1, l2⟩ := ld_two (T := 2 ^ 23) (by decide) ⟨a2, a3⟩ (B := c2) ⟨d2, d3⟩
      obtain ⟨c, q, b1, b2, b3, b4, b5⟩ := rr_norm (f := FP.Core.b32) (A := c1) (B := c2) (e := q1 - q2) FP.Core.good_b32 (by omega) (by omega) l1 l2 (by rw [e1, e4]; omega) (by rw [e2, e4]; omega)
      rw [e3] at b2
      rw [e4] at b3 b4 b5
      refine ⟨c, q, ?_, b2, b3, by omega, by omega⟩
      rw [hv, a1, d1, ← b1]
      show (if c2 = 0 then (if c1 = 0 then FP.Core.Datum.nan else .inf (false != false)) else FP.Core.roundRatio FP.Core.b32 (false != false) c1 c2 (q1 - q2)) = _
      rw [if_neg (by omega)]
      rfl
  have hn : FP.Core.val32 x ≠ .nan := by
    rcases key with h | ⟨c, q, h, -⟩
    · exact fin32 h
    · exact fin32 h
  have hd : FP.Core.val64 (FP.f2d x) = FP.Core.round FP.Core.b64 (FP.Core.val32 x) := by
    rw [FP.f2d_core ((FP.Core.notNaN_iff32 x).mpr hn)]
    exact FP.Core.val64_f2d x
  have hw : FP.Core.of32 (FP.Core.val32 x) = x := FP.Core.of32_val32 hn
  refine ⟨hn, ?_⟩
  rcases key with h | ⟨c, q, h, b2, b3, b4, b5⟩
  · rw [h] at hd hw
    have hz : FP.Core.val64 (FP.f2d x) = .fin false 0 (-1074) := by
      rw [hd, ← q64.1]
      rfl
    refine ⟨fin64 hz, 0, Or.inl ⟨hz, rfl⟩, ?_⟩
    rw [← hw]
    decide +kernel
  · rw [h] at hd hw
    have hy : FP.Core.val64 (FP.f2d x) = .fin false (c * 2 ^ 29) (q - 29) := by
      rw [hd]
      show FP.Core.roundRatio FP.Core.b64 false c 1 q = _
      refine FP.Core.roundRatio_exact FP.Core.good_b64 (by decide) (fits64 (by omega) (by omega) (by omega) (by omega)) ?_
      rw [show (q - (q - 29)).toNat = 29 by omega, show (q - 29 - q).toNat = 0 by omega, Nat.pow_zero, Nat.mul_one, Nat.mul_one]
    refine ⟨fin64 hy, lL ((q + 150).toNat * 2 ^ 23 + (c - 2 ^ 23)), Or.inr ⟨c - 2 ^ 23, (q + 23).toNat, (-(q + 23)).toNat, (q + 150).toNat, by omega, by omega, by omega, by omega, ?_, by omega, rfl⟩, ?_⟩
    · rw [hy, show 2 ^ 52 + (c - 2 ^ 23) * 2 ^ (52 - 23) = c * 2 ^ 29 by omega, show (-52 + ((q + 23).toNat : Int) - ((-(q + 23)).toNat : Int)) = q - 29 by omega]
    · rw [lL_t32 (by omega), ← hw]
      unfold FP.Core.of32
      rw [enc32 b2 (by omega)]
      rfl
