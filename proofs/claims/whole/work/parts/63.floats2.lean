/-! floats: the fraction, the exponent, put together -/
theorem tt_log {t : Nat} (h0 : 0 < t) (h : t < 2 ^ 52) : t.log2 ≤ 51 ∧ 2 ^ 52 ≤ t * 2 ^ (52 - t.log2) ∧ t * 2 ^ (52 - t.log2) < 2 ^ 53 := by
  have h1 : 2 ^ t.log2 ≤ t := Nat.log2_self_le (by omega)
  have h2 : t < 2 ^ (t.log2 + 1) := Nat.lt_log2_self
  have h3 : t.log2 < 52 := (Nat.pow_lt_pow_iff_right (a := 2) (by decide)).mp (by omega)
  refine ⟨by omega, ?_, ?_⟩
  · calc 2 ^ 52 = 2 ^ t.log2 * 2 ^ (52 - t.log2) := by rw [← Nat.pow_add]; congr 1; omega
      _ ≤ t * 2 ^ (52 - t.log2) := Nat.mul_le_mul_right _ h1
  · calc t * 2 ^ (52 - t.log2) < 2 ^ (t.log2 + 1) * 2 ^ (52 - t.log2) := (Nat.mul_lt_mul_right (Nat.two_pow_pos _)).mpr h2
      _ = 2 ^ 53 := by rw [← Nat.pow_add]; congr 1; omega
theorem d_sub1 {y : UInt64} {t : Nat} (h : FP.Core.val64 y = .fin false (2 ^ 52 + t) (-52)) : FP.Core.val64 (FP.dsub y FP.dconst1) = FP.Core.roundRatio FP.Core.b64 false t 1 (-52) := by
  show FP.Core.val64 (FP.Core.dsub y FP.dconst1) = _
  rw [FP.Core.val64_dsub, h, one_v]
  have hS : FP.Core.sumUnits false (2 ^ 52 + t) (-52) true (2 ^ 52) (-52) (min (-52) (-52)) = (t : Int) := by
    unfold FP.Core.sumUnits FP.Core.signed FP.Core.inUnits
    simp
    omega
  show FP.Core.round FP.Core.b64 (.fin (FP.Core.sumSign false true (FP.Core.sumUnits false (2 ^ 52 + t) (-52) true (2 ^ 52) (-52) (min (-52) (-52)))) (FP.Core.sumUnits false (2 ^ 52 + t) (-52) true (2 ^ 52) (-52) (min (-52) (-52))).natAbs (min (-52) (-52))) = _
  rw [hS]
  have hs : FP.Core.sumSign false true (t : Int) = false := by
    unfold FP.Core.sumSign
    split
    · rfl
    · exact decide_eq_false (by omega)
  rw [hs]
  rfl
theorem lL_ofInt {v : Nat} (h : v < 2 ^ 63) : Int64.ofInt (v : Int) = lL v := by
  apply Int64.toInt_inj.mp
  rw [lL_toInt h, Int64.toInt_ofInt, show (Int64.size : Nat) = 18446744073709551616 from rfl, Int.bmod_eq_of_le (by omega) (by omega)]
theorem d_frac {y z : UInt64} {v fb : Nat} (hfb : fb ≤ 52) (hv : v < 2 ^ fb) (h : FP.Core.val64 y = .fin false (2 ^ 52 + v * 2 ^ (52 - fb)) (-52)) (hz : FP.Core.val64 z = .fin false (2 ^ 52) ((fb : Int) - 52)) : FP.Core.val64 (FP.dsub y FP.dconst1) ≠ .nan ∧ FP.Core.val64 (FP.dmul (FP.dsub y FP.dconst1) z) ≠ .nan ∧ FP.d2l (FP.dmul (FP.dsub y FP.dconst1) z) = lL v := by
  have ht : v * 2 ^ (52 - fb) < 2 ^ 52 := by
    calc v * 2 ^ (52 - fb) < 2 ^ fb * 2 ^ (52 - fb) := (Nat.mul_lt_mul_right (Nat.two_pow_pos _)).mpr hv
      _ = 2 ^ 52 := by rw [← Nat.pow_add]; congr 1; omega
  have hs := d_sub1 h
  have hm : FP.Core.val64 (FP.dmul (FP.dsub y FP.dconst1) z) = FP.Core.round FP.Core.b64 (FP.Core.exactProduct (FP.Core.val64 (FP.dsub y FP.dconst1)) (FP.Core.val64 z)) := FP.Core.val64_dmul _ _
  have hd : FP.d2l (FP.dmul (FP.dsub y FP.dconst1) z) = FP.Core.toL (FP.Core.val64 (FP.dmul (FP.dsub y FP.dconst1) z)) := rfl
  by_cases h0 : v = 0
  · subst h0
    rw [Nat.zero_mul] at hs
    have hs2 : FP.Core.val64 (FP.dsub y FP.dconst1) = .fin false 0 FP.Core.b64.qmin := hs
    rw [hs2, hz] at hm
    have hm2 : FP.Core.val64 (FP.dmul (FP.dsub y FP.dconst1) z) = .fin false 0 FP.Core.b64.qmin := by
      rw [hm]
      show FP.Core.roundRatio FP.Core.b64 (false != false) (0 * 2 ^ 52) 1 _ = _
      rw [Nat.zero_mul]
      rfl
    refine ⟨fin64 hs2, fin64 hm2, ?_⟩
    rw [hd, hm2]
    decide +kernel
  · obtain ⟨l1, l2, l3⟩ := tt_log (t := v * 2 ^ (52 - fb)) (Nat.mul_pos (by omega) (Nat.two_pow_pos _)) ht
    obtain ⟨k, hk⟩ : ∃ k, k = (v * 2 ^ (52 - fb)).log2 := ⟨_, rfl⟩
    rw [← hk] at l1 l2 l3
    obtain ⟨c, hc⟩ : ∃ c, c = v * 2 ^ (52 - fb) * 2 ^ (52 - k) := ⟨_, rfl⟩
    rw [← hc] at l2 l3
    have hs2 : FP.Core.val64 (FP.dsub y FP.dconst1) = .fin false c ((k : Int) - 104) := by
      rw [hs]
      refine FP.Core.roundRatio_exact FP.Core.good_b64 (by decide) (fits64 l2 l3 (by omega) (by omega)) ?_
      rw [show (-52 - ((k : Int) - 104)).toNat = 52 - k by omega, show ((k : Int) - 104 - -52).toNat = 0 by omega, Nat.pow_zero, Nat.mul_one, Nat.mul_one, hc]
    rw [hs2, hz] at hm
    have hm2 : FP.Core.val64 (FP.dmul (FP.dsub y FP.dconst1) z) = .fin false c ((k : Int) - 104 + fb) := by
      rw [hm]
      show FP.Core.roundRatio FP.Core.b64 (false != false) (c * 2 ^ 52) 1 ((k : Int) - 104 + ((fb : Int) - 52)) = _
      refine FP.Core.roundRatio_exact FP.Core.good_b64 (by decide) (fits64 l2 l3 (by omega) (by omega)) ?_
      rw [show ((k : Int) - 104 + ((fb : Int) - 52) - ((k : Int) - 104 + fb)).toNat = 0 by omega, show ((k : Int) - 104 + fb - ((k : Int) - 104 + ((fb : Int) - 52))).toNat = 52 by omega, Nat.pow_zero, Nat.mul_one, Nat.mul_one]
    refine ⟨fin64 hs2, fin64 hm2, ?_⟩
    rw [hd, hm2]
    have htr : FP.Core.truncate false c ((k : Int) - 104 + fb) = (v : Int) := by
      unfold FP.Core.truncate FP.Core.signed
      rw [if_neg (by decide), show ((k : Int) - 104 + fb).toNat = 0 by omega, show (-((k : Int) - 104 + fb)).toNat = (52 - fb) + (52 - k) by omega, Nat.pow_zero, Nat.mul_one, hc, Nat.mul_assoc, ← Nat.pow_add, Nat.mul_div_cancel _ (Nat.two_pow_pos _)]
    have hv9 : v < 2 ^ 52 := Nat.lt_of_lt_of_le hv (pw_le hfb)
    show Int64.ofInt (max (-2 ^ 63) (min (2 ^ 63 - 1) (FP.Core.truncate false c ((k : Int) - 104 + fb)))) = _
    rw [htr, Int.min_eq_right (by omega), Int.max_eq_right (by omega)]
    exact lL_ofInt (by omega)
theorem nI_64 {k : Nat} (h : k < 2 ^ 31) : (nI k).toInt64 = lL k := by
  apply Int64.toInt_inj.mp
  rw [Int32.toInt_toInt64, nI_toInt h, lL_toInt (by omega)]
theorem lL_shl {a k : Nat} {x : Int64} (hk : x.toBitVec.smod 64 = BitVec.ofNat 64 k) (hk2 : k < 64) (h : a * 2 ^ k < 2 ^ 64) : lL a <<< x = lL (a * 2 ^ k) := by
  apply Int64.toBitVec_inj.mp
  rw [Int64.toBitVec_shiftLeft, hk]
  show (BitVec.ofNat 64 a) <<< (BitVec.ofNat 64 k) = BitVec.ofNat 64 (a * 2 ^ k)
  apply BitVec.eq_of_toNat_eq
  have ha : a < 2 ^ 64 := Nat.lt_of_le_of_lt (Nat.le_mul_of_pos_right _ (Nat.two_pow_pos _)) h
  rw [BitVec.shiftLeft_eq', BitVec.toNat_shiftLeft, BitVec.toNat_ofNat, BitVec.toNat_ofNat, BitVec.toNat_ofNat, Nat.mod_eq_of_lt ha, Nat.mod_eq_of_lt (by omega : k < 2 ^ 64), Nat.shiftLeft_eq]
theorem lL_or {a v k : Nat} (hv : v < 2 ^ k) (h : a * 2 ^ k + v < 2 ^ 64) : lL (a * 2 ^ k) ||| lL v = lL (a * 2 ^ k + v) := by
  show (UInt64.ofNat (a * 2 ^ k) ||| UInt64.ofNat v).toInt64 = (UInt64.ofNat (a * 2 ^ k + v)).toInt64
  congr 1
  apply UInt64.toNat_inj.mp
  rw [UInt64.toNat_or, UInt64.toNat_ofNat', UInt64.toNat_ofNat', UInt64.toNat_ofNat', Nat.mod_eq_of_lt (by omega), Nat.mod_eq_of_lt (by omega), Nat.mod_eq_of_lt h, ← Nat.shiftLeft_eq]
  exact (Nat.shiftLeft_add_eq_or_of_lt hv a).symm
/-- what a double's bits are, in the format of fb bits of fraction -/
def BitsP (y : UInt64) (fb bias : Nat) (res : Int64) : Prop := (FP.Core.val64 y = .fin false 0 (-1074) ∧ res = 0) ∨ ∃ v a b E : Nat, a ≤ 63 ∧ b ≤ 63 ∧ (a = 0 ∨ b = 0) ∧ v < 2 ^ fb ∧ FP.Core.val64 y = .fin false (2 ^ 52 + v * 2 ^ (52 - fb)) (-52 + a - b) ∧ E + b = bias + a ∧ res = lL (E * 2 ^ fb + v)
theorem cv_ge {o : Option Ordering} (h : ∃ o', o = some o' ∧ o' ≠ .lt) (op : ClassFile.CmpOp) : ¬ Op.cmpValue o op < 0 := by
  obtain ⟨o', rfl, hne⟩ := h
  cases o' with
  | lt => exact absurd rfl hne
  | eq => cases op <;> decide
  | gt => cases op <;> decide
theorem cv_lt {o : Option Ordering} (h : o = some .lt) (op : ClassFile.CmpOp) : Op.cmpValue o op < 0 := by
  subst h
  cases op <;> decide
theorem m1s (x : Int32) (i : Nat) : x - nI i + Int32.ofInt (-1) = x - nI (i + 1) := by
  rw [i_m1, ← nI_1, Int32.sub_eq_add_neg, Int32.sub_eq_add_neg, Int32.sub_eq_add_neg, Int32.neg_add, Int32.sub_eq_add_neg, Int32.add_assoc]
