/-! the row's ranges; prices, tastes, shares as natural numbers -/
def LfR (r : Nat → Int32) (i : Nat) : Prop :=
  (0 ≤ (r (12 + 14 * i + 0)).toInt ∧ (r (12 + 14 * i + 0)).toInt ≤ 999) ∧ (∀ k, k < 7 → -9 ≤ (r (12 + 14 * i + (1 + k))).toInt ∧ (r (12 + 14 * i + (1 + k))).toInt ≤ 9) ∧ (∀ t, t < 3 → 0 ≤ (r (12 + 14 * i + (8 + t))).toInt ∧ (r (12 + 14 * i + (8 + t))).toInt ≤ 100) ∧
  (0 ≤ (r (12 + 14 * i + 11)).toInt ∧ (r (12 + 14 * i + 11)).toInt ≤ 9999) ∧ (0 ≤ (r (12 + 14 * i + 12)).toInt ∧ (r (12 + 14 * i + 12)).toInt ≤ (r 2).toInt) ∧ (0 ≤ (r (12 + 14 * i + 13)).toInt ∧ (r (12 + 14 * i + 13)).toInt ≤ 20)
def sv (r : Nat → Int32) (i : Nat) : Nat := (r (12 + 14 * i + 13)).toInt.toNat
def BdR (r : Nat → Int32) (t : Nat) : Prop := (0 ≤ (r (6 + t)).toInt ∧ (r (6 + t)).toInt ≤ 100) ∧ (0 ≤ (r (9 + t)).toInt ∧ (r (9 + t)).toInt ≤ 100)
def Iv (r : Nat → Int32) : Prop := WF r ∧ (r 2).toInt ≤ 9999 ∧ (0 ≤ (r 0).toInt ∧ (r 0).toInt ≤ 99) ∧ (∀ t, t < 3 → BdR r t) ∧ (∀ i, i < 5 → LfR r i) ∧ sn (sv r) (nlv r) ≤ 20
theorem mx_nI {q : Int32} {z : Int} (hq : q.toInt = z) (hz : z < 2 ^ 31) : mxI 0 q = nI z.toNat := by
  unfold mxI
  by_cases h : 0 < q
  · rw [if_pos h]
    rw [i32_lt_iff, show (0 : Int32).toInt = 0 from rfl, hq] at h
    rw [← hq]
    exact nI_of_toInt (by omega)
  · rw [if_neg h]
    rw [i32_lt_iff, show (0 : Int32).toInt = 0 from rfl, hq] at h
    rw [show z.toNat = 0 by omega]
    exact nI_0.symm
def Vv (r : Nat → Int32) (k c : Nat) : Nat := if c = 3 then (prF r k).toInt.toNat else (tsF r k c 0).toInt.toNat
theorem Vv_p {r : Nat → Int32} (h : Iv r) {i : Nat} (hi : i < 5) : prF r i = nI (Vv r i 3) ∧ Vv r i 3 ≤ 1008 := by
  obtain ⟨hw, -, -, -, hl, -⟩ := h
  obtain ⟨⟨a1, a2⟩, hc, -⟩ := hl i hi
  obtain ⟨b1, b2⟩ := hc (plv r) hw.pl.2
  have hs : (r (12 + 14 * i + 0) + r (12 + 14 * i + (1 + plv r))).toInt = (r (12 + 14 * i + 0)).toInt + (r (12 + 14 * i + (1 + plv r))).toInt := by
    rw [Int32.toInt_add, Int.bmod_eq_of_le (by omega) (by omega)]
  have e : prF r i = nI ((r (12 + 14 * i + 0)).toInt + (r (12 + 14 * i + (1 + plv r))).toInt).toNat := mx_nI hs (by omega)
  have ev : Vv r i 3 = ((r (12 + 14 * i + 0)).toInt + (r (12 + 14 * i + (1 + plv r))).toInt).toNat := by
    unfold Vv
    rw [if_pos rfl, e, nIt (by omega)]
  rw [ev]
  exact ⟨e, by omega⟩
theorem tsF_nI {r : Nat → Int32} (h : Iv r) {i t : Nat} (hi : i < 5) (ht : t < 3) : ∃ n, n ≤ 100 ∧ tsF r i t 0 = nI n := by
  obtain ⟨hw, hd, hf, -, hl, -⟩ := h
  obtain ⟨-, -, hts, -, hag, -⟩ := hl i hi
  obtain ⟨c1, c2⟩ := hts t ht
  have e0 := nI_of_toInt c1
  have ef := nI_of_toInt hf.1
  have ea := nI_of_toInt hag.1
  obtain ⟨a, ha⟩ : ∃ a, a = (r (12 + 14 * i + (8 + t))).toInt.toNat := ⟨_, rfl⟩
  obtain ⟨f, hf'⟩ : ∃ a, a = (r 0).toInt.toNat := ⟨_, rfl⟩
  obtain ⟨g, hg⟩ : ∃ a, a = (r (12 + 14 * i + 12)).toInt.toNat := ⟨_, rfl⟩
  rw [← ha] at e0
  rw [← hf'] at ef
  rw [← hg] at ea
  have hfg : f * g ≤ 99 * 9999 := Nat.mul_le_mul (by omega) (by omega)
  have em : r 0 * (r (12 + 14 * i + 12) + 0) = nI (f * g) := by rw [Int32.add_zero, ef, ea, pk_mul]
  have hs : (1000 - r 0 * (r (12 + 14 * i + 12) + 0)).toInt = 1000 - ((f * g : Nat) : Int) := by
    rw [em, Int32.toInt_sub, nI_toInt (by omega), show (1000 : Int32).toInt = 1000 from rfl, Int.bmod_eq_of_le (by omega) (by omega)]
  have hm := mx_nI hs (by omega)
  obtain ⟨m, hm'⟩ : ∃ m, m = (1000 - ((f * g : Nat) : Int)).toNat := ⟨_, rfl⟩
  rw [← hm'] at hm
  have hm1 : m ≤ 1000 := by omega
  have ham : a * m ≤ 100 * 1000 := Nat.mul_le_mul (by omega) hm1
  refine ⟨a * m / 1000, by omega, ?_⟩
  unfold tsF
  rw [hm, e0, pk_mul]
  exact pk_div (d := 1000) (by omega) (by omega) (by omega)
theorem Vv_t {r : Nat → Int32} (h : Iv r) {i t : Nat} (hi : i < 5) (ht : t < 3) : tsF r i t 0 = nI (Vv r i t) ∧ Vv r i t ≤ 100 := by
  obtain ⟨n, hn, e⟩ := tsF_nI h hi ht
  have ev : Vv r i t = n := by
    unfold Vv
    rw [if_neg (by omega), e, nIt (by omega)]
  rw [ev]
  exact ⟨e, hn⟩
theorem sv_s {r : Nat → Int32} (h : Iv r) {i : Nat} (hi : i < 5) : shF r i = nI (sv r i) ∧ sv r i ≤ 20 := by
  obtain ⟨-, -, -, -, -, h1, h2⟩ := (h.2.2.2.2.1 i hi)
  exact ⟨nI_of_toInt h1, by unfold sv; omega⟩
theorem shS_nI {r : Nat → Int32} (h : Iv r) : shS r = nI (sn (sv r) (nlv r)) := by
  unfold shS
  rw [← sm_nI]
  have := h.1.nl5
  exact sm_ext _ (fun i hi => (sv_s h (by omega)).1)
/-- the values that the model lays down for a day: nothing beyond the leaves -/
def Vn (r : Nat → Int32) (k c : Nat) : Nat := if k < nlv r then Vv r k c else 0
def kpP (r : Nat → Int32) (x : Nat → Nat) (V : Nat → Nat → Nat) : Prop := ∀ t, t < 3 → ¬ nI (sn (fun k => x k * V k t) 5) / 20 < r (6 + t) ∧ nI (sn (fun k => x k * V k t) 5) / 20 ≤ r (9 + t)
