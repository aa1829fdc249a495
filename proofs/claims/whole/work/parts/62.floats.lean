/-! floats: numbers by significand and exponent -/
theorem nn64 {a : UInt64} (h : FP.Core.val64 a ≠ .nan) : vf_n64 a := by
  have h1 : FP.Core.dIsNaN a = false := (FP.Core.notNaN_iff a).mpr h
  have h2 : ¬ 9218868437227405312 < a.toNat % 2 ^ 63 := fun q => by
    rw [(FP.Core.isNaN_bits a).mpr q] at h1
    cases h1
  unfold vf_n64
  rw [UInt64.le_iff_toNat_le, UInt64.toNat_and, show (0x7fffffffffffffff : UInt64).toNat = 2 ^ 63 - 1 from rfl, Nat.and_two_pow_sub_one_eq_mod, show (0x7ff0000000000000 : UInt64).toNat = 9218868437227405312 from rfl]
  omega
theorem nn32 {a : UInt32} (h : FP.Core.val32 a ≠ .nan) : vf_n32 a := by
  have h1 : FP.Core.fIsNaN a = false := (FP.Core.notNaN_iff32 a).mpr h
  have h2 : ¬ 2139095040 < a.toNat % 2 ^ 31 := fun q => by
    rw [(FP.Core.isNaN_bits32 a).mpr q] at h1
    cases h1
  unfold vf_n32
  rw [UInt32.le_iff_toNat_le, UInt32.toNat_and, show (0x7fffffff : UInt32).toNat = 2 ^ 31 - 1 from rfl, Nat.and_two_pow_sub_one_eq_mod, show (0x7f800000 : UInt32).toNat = 2139095040 from rfl]
  omega
theorem fin64 {a : UInt64} {s : Bool} {c : Nat} {q : Int} (h : FP.Core.val64 a = .fin s c q) : FP.Core.val64 a ≠ .nan := by rw [h]; exact fun z => by cases z
theorem fin32 {a : UInt32} {s : Bool} {c : Nat} {q : Int} (h : FP.Core.val32 a = .fin s c q) : FP.Core.val32 a ≠ .nan := by rw [h]; exact fun z => by cases z
theorem q64 : FP.Core.b64.qmin = -1074 ∧ FP.Core.b64.qmax = 971 ∧ FP.Core.b64.tails = 2 ^ 52 ∧ FP.Core.b64.p = 53 := ⟨by decide, by decide, by decide, rfl⟩
theorem q32 : FP.Core.b32.qmin = -149 ∧ FP.Core.b32.qmax = 104 ∧ FP.Core.b32.tails = 2 ^ 23 ∧ FP.Core.b32.p = 24 := ⟨by decide, by decide, by decide, rfl⟩
theorem fits64 {s : Bool} {c : Nat} {q : Int} (h1 : 2 ^ 52 ≤ c) (h2 : c < 2 ^ 53) (h3 : -1074 ≤ q) (h4 : q ≤ 971) : FP.Core.fits FP.Core.b64 (.fin s c q) := by
  obtain ⟨e1, e2, e3, e4⟩ := q64
  refine ⟨by rw [e4]; exact h2, by rw [e1]; exact h3, by rw [e2]; exact h4, Or.inr (by rw [e3]; exact h1)⟩
/-- a half -/
theorem d_half {y : UInt64} {c : Nat} {q : Int} (h : FP.Core.val64 y = .fin false c q) (h1 : 2 ^ 52 ≤ c) (h2 : c < 2 ^ 53) (h3 : -1073 ≤ q) (h4 : q ≤ 971) : FP.Core.val64 (FP.ddiv y 4611686018427387904) = .fin false c (q - 1) := by
  show FP.Core.val64 (FP.Core.ddiv y 4611686018427387904) = _
  rw [FP.Core.val64_ddiv, h, show FP.Core.val64 4611686018427387904 = .fin false (2 ^ 52) (-51) by decide +kernel]
  show (if (2 ^ 52 : Nat) = 0 then (if c = 0 then FP.Core.Datum.nan else .inf (false != false)) else FP.Core.roundRatio FP.Core.b64 (false != false) c (2 ^ 52) (q - (-51))) = _
  rw [if_neg (by decide)]
  refine FP.Core.roundRatio_exact FP.Core.good_b64 (by decide) (fits64 h1 h2 (by omega) (by omega)) ?_
  rw [show (q - -51 - (q - 1)).toNat = 52 by omega, show (q - 1 - (q - -51)).toNat = 0 by omega, Nat.pow_zero, Nat.mul_one]
/-- twice -/
theorem d_twice {y : UInt64} {c : Nat} {q : Int} (h : FP.Core.val64 y = .fin false c q) (h1 : 2 ^ 52 ≤ c) (h2 : c < 2 ^ 53) (h3 : -1074 ≤ q) (h4 : q ≤ 970) : FP.Core.val64 (FP.dmul y 4611686018427387904) = .fin false c (q + 1) := by
  show FP.Core.val64 (FP.Core.dmul y 4611686018427387904) = _
  rw [FP.Core.val64_dmul, h, show FP.Core.val64 4611686018427387904 = .fin false (2 ^ 52) (-51) by decide +kernel]
  show FP.Core.roundRatio FP.Core.b64 (false != false) (c * 2 ^ 52) 1 (q + (-51)) = _
  refine FP.Core.roundRatio_exact FP.Core.good_b64 (by decide) (fits64 h1 h2 (by omega) (by omega)) ?_
  rw [show (q + -51 - (q + 1)).toNat = 0 by omega, show (q + 1 - (q + -51)).toNat = 52 by omega, Nat.pow_zero, Nat.mul_one, Nat.mul_one]
/-! comparisons -/
theorem d_cmp {y z : UInt64} {c d : Nat} {q r : Int} (h : FP.Core.val64 y = .fin false c q) (h2 : FP.Core.val64 z = .fin false d r) : FP.dcmp y z = some (compare ((FP.Core.inUnits c q (min q r) : Nat) : Int) ((FP.Core.inUnits d r (min q r) : Nat) : Int)) := by
  show FP.Core.order (FP.Core.val64 y) (FP.Core.val64 z) = _
  rw [h, h2]
  rfl
theorem two_v : FP.Core.val64 4611686018427387904 = .fin false (2 ^ 52) (-51) := by decide +kernel
theorem one_v : FP.Core.val64 FP.dconst1 = .fin false (2 ^ 52) (-52) := FP.Core.val64_dconst1
theorem zero_v : FP.Core.val64 FP.dconst0 = .fin false 0 (-1074) := FP.Core.val64_dconst0.trans (by rw [q64.1])
theorem pw_le {a b : Nat} (h : a ≤ b) : 2 ^ a ≤ 2 ^ b := Nat.pow_le_pow_right (by decide) h
theorem d_lt {y z : UInt64} {c : Nat} {q r : Int} (h : FP.Core.val64 y = .fin false c q) (h1 : 2 ^ 52 ≤ c) (h2 : c < 2 ^ 53) (hz : FP.Core.val64 z = .fin false (2 ^ 52) r) : (q < r → FP.dcmp y z = some .lt) ∧ (r ≤ q → ∃ o, FP.dcmp y z = some o ∧ o ≠ .lt) := by
  rw [d_cmp h hz]
  constructor
  · intro hq
    congr 1
    rw [Int.min_eq_left (by omega)]
    unfold FP.Core.inUnits
    rw [show (q - q).toNat = 0 by omega, Nat.pow_zero, Nat.mul_one]
    have h9 : 2 ^ 1 ≤ 2 ^ (r - q).toNat := pw_le (by omega)
    have h10 : 2 ^ 52 * 2 ^ 1 ≤ 2 ^ 52 * 2 ^ (r - q).toNat := Nat.mul_le_mul_left _ h9
    exact Int.compare_eq_lt.mpr (Int.ofNat_lt.mpr (by omega))
  · intro hq
    refine ⟨_, rfl, ?_⟩
    rw [Int.min_eq_right hq]
    unfold FP.Core.inUnits
    rw [show (r - r).toNat = 0 by omega, Nat.pow_zero, Nat.mul_one]
    have h9 : 2 ^ 0 ≤ 2 ^ (q - r).toNat := pw_le (by omega)
    have h10 : c * 2 ^ 0 ≤ c * 2 ^ (q - r).toNat := Nat.mul_le_mul_left _ h9
    intro hc
    have h11 := Int.ofNat_lt.mp (Int.compare_eq_lt.mp hc)
    omega
theorem d_gt0 {y : UInt64} {c : Nat} {q : Int} (h : FP.Core.val64 y = .fin false c q) (h1 : 2 ^ 52 ≤ c) (h3 : -1074 ≤ q) : FP.dcmp y FP.dconst0 = some .gt := by
  rw [d_cmp h zero_v]
  congr 1
  rw [Int.min_eq_right h3]
  unfold FP.Core.inUnits
  rw [Nat.zero_mul]
  have h9 : 2 ^ 0 ≤ 2 ^ (q - -1074).toNat := pw_le (by omega)
  have h10 : c * 2 ^ 0 ≤ c * 2 ^ (q - -1074).toNat := Nat.mul_le_mul_left _ h9
  exact Int.compare_eq_gt.mpr (Int.ofNat_lt.mpr (by omega))
theorem d_eq0 {y : UInt64} (h : FP.Core.val64 y = .fin false 0 (-1074)) : FP.dcmp y FP.dconst0 = some .eq := by
  rw [d_cmp h zero_v]
  rfl
