/-! THE LAW'S NUMBERS, pure -/
def lw (x : Int32) (N : Nat) : Nat := x.toBitVec.toNat % 2 ^ 31 % N
theorem lw_lt (x : Int32) {N : Nat} (h0 : 0 < N) : lw x N < N := Nat.mod_lt _ h0
theorem lw_e (x : Int32) {N : Nat} (h0 : 0 < N) (hN : N < 2 ^ 31) : (x &&& 2147483647) - (x &&& 2147483647) / nI N * nI N = nI (lw x N) := by
  rw [pk_and x (m := 2147483647) 31 (by decide)]
  exact pk_rem (Nat.mod_lt _ (by decide)) h0 hN
theorem lw_0 {N : Nat} : lw 0 N = 0 := by
  unfold lw
  rw [show (0 : Int32).toBitVec.toNat = 0 from rfl, Nat.zero_mod]
theorem ix_m {a b : Nat} {x y : Int32} (hx : x = nI a) (hy : y = nI b) : x * y = nI (a * b) := by
  rw [hx, hy]; exact pk_mul a b
theorem ix_a {a b : Nat} {x y : Int32} (hx : x = nI a) (hy : y = nI b) : x + y = nI (a + b) := by
  rw [hx, hy]; exact nI_add a b
theorem nI_lit {x : Int32} {n : Nat} (h : Int32.ofNat n = x) : x = nI n := h.symm
/-- what the leaves were made of, beside their row -/
def RM (r mk : Nat → Int32) : Prop := ∀ i, i < nlv r → mk (12 * i) = r (12 + 14 * i + 0) ∧ (∀ t, t < 3 → mk (12 * i + 1 + t) = r (12 + 14 * i + (8 + t))) ∧ ∀ j, j < 7 → mk (12 * i + 4 + j) = r (12 + 14 * i + (1 + j))
/-- the leaves' prices, changes and tastes, their number and the day are as they were -/
def Sm (r r2 : Nat → Int32) : Prop := (r2 5 = r 5 ∧ r2 2 = r 2) ∧ ∀ i k, i < 5 → k < 11 → r2 (12 + 14 * i + k) = r (12 + 14 * i + k)
theorem Sm.rf {r : Nat → Int32} : Sm r r := ⟨⟨rfl, rfl⟩, fun _ _ _ _ => rfl⟩
theorem RM.same {r r2 mk : Nat → Int32} (h : RM r mk) (hn : nlv r ≤ 5) (e5 : r2 5 = r 5) (e : ∀ i k, i < 5 → k < 11 → r2 (12 + 14 * i + k) = r (12 + 14 * i + k)) : RM r2 mk := by
  have hnl : nlv r2 = nlv r := by unfold nlv; rw [e5]
  intro i hi
  rw [hnl] at hi
  obtain ⟨h1, h2, h3⟩ := h i hi
  refine ⟨h1.trans (e i _ (by omega) (by omega)).symm, fun t ht => (h2 t ht).trans (e i (8 + t) (by omega) (by omega)).symm, fun j hj => (h3 j hj).trans (e i (1 + j) (by omega) (by omega)).symm⟩
theorem nlv_same {r r2 : Nat → Int32} (h : r2 5 = r 5) : nlv r2 = nlv r := by unfold nlv; rw [h]
theorem upd_far {r : Nat → Int32} {i k j : Nat} {v : Int32} (hk : k < 11) (hj : j < 12 ∨ (∃ i2, j = 12 + 14 * i2 + 11) ∨ (∃ i2, j = 12 + 14 * i2 + 12) ∨ ∃ i2, j = 12 + 14 * i2 + 13) : upd r j v (12 + 14 * i + k) = r (12 + 14 * i + k) := upd_ne (by
  rcases hj with h | ⟨i2, h⟩ | ⟨i2, h⟩ | ⟨i2, h⟩ <;> omega)
/-! leaves -/
theorem mx0_n {x : Int32} (h : ¬ 0 ≤ x) : mxI 0 x = 0 := if_neg (fun q => h (i32_le_iff.mpr (by rw [i32_lt_iff] at q; omega)))
theorem mx0_p {x : Int32} (h : 0 ≤ x) : mxI 0 x = x := by
  unfold mxI
  by_cases q : (0 : Int32) < x
  · rw [if_pos q]
  · rw [if_neg q]
    apply Int32.toInt_inj.mp
    rw [i32_le_iff] at h
    rw [i32_lt_iff] at q
    omega
theorem ts_n {r : Nat → Int32} {i t : Nat} (h : ¬ 0 ≤ 1000 - r 0 * r (12 + 14 * i + 12)) : tsF r i t 0 = 0 := by
  unfold tsF
  rw [Int32.add_zero, mx0_n h, Int32.mul_zero]
  decide
theorem ts_p {r : Nat → Int32} {i t : Nat} (h : 0 ≤ 1000 - r 0 * r (12 + 14 * i + 12)) : tsF r i t 0 = r (12 + 14 * i + (8 + t)) * (1000 - r 0 * r (12 + 14 * i + 12)) / 1000 := by
  unfold tsF
  rw [Int32.add_zero, mx0_p h]
/-! why -/
def wyf (c : Bool) (b : Nat → Bool) : Nat → Int32
  | 0 => if c = true then 0 else 1
  | k + 1 => if wyf c b k = 0 ∧ b k = true then nI (2 + k) else wyf c b k
theorem wyf_y {c : Bool} {b : Nat → Bool} {k : Nat} (h : wyf c b k = 0) (h2 : b k = true) : wyf c b (k + 1) = nI (2 + k) := if_pos ⟨h, h2⟩
theorem wyf_n {c : Bool} {b : Nat → Bool} {k : Nat} (h : ¬ wyf c b k = 0) : wyf c b (k + 1) = wyf c b k := if_neg (fun q => h q.1)
theorem wyf_m {c : Bool} {b : Nat → Bool} {k : Nat} (h : b k = false) : wyf c b (k + 1) = wyf c b k := if_neg (fun q => by rw [h] at q; exact absurd q.2 (by decide))
theorem wyf_8 : ∀ c b0 b1 b2 b3 b4 b5 : Bool, wyf c (fun k => match k with | 0 => b0 | 1 => b1 | 2 => b2 | 3 => b3 | 4 => b4 | _ => b5) 6 = wyB c b0 b1 b2 b3 b4 b5 := by decide +kernel
theorem wyf_x {c : Bool} {b b' : Nat → Bool} : ∀ n, (∀ k, k < n → b k = b' k) → wyf c b n = wyf c b' n
  | 0, _ => rfl
  | n + 1, h => by
    show (if wyf c b n = 0 ∧ b n = true then nI (2 + n) else wyf c b n) = (if wyf c b' n = 0 ∧ b' n = true then nI (2 + n) else wyf c b' n)
    rw [wyf_x n (fun k hk => h k (by omega)), h n (by omega)]
theorem wyf_6 {c : Bool} {b : Nat → Bool} : wyf c b 6 = wyB c (b 0) (b 1) (b 2) (b 3) (b 4) (b 5) := by
  rw [← wyf_8]
  refine wyf_x 6 (fun k hk => ?_)
  have e : k = 0 ∨ k = 1 ∨ k = 2 ∨ k = 3 ∨ k = 4 ∨ k = 5 := by omega
  rcases e with rfl | rfl | rfl | rfl | rfl | rfl <;> rfl
def brk (r : Nat → Int32) (c : Nat) : Bool := if c < 3 then decide (tsS r (c % 3) 0 / 20 < r (6 + c)) else decide (r (6 + c) < tsS r (c % 3) 0 / 20)
def wyN (r : Nat → Int32) (c : Nat) : Int32 := wyf (decide (shS r = 20)) (brk r) c
theorem wyN_6 {r : Nat → Int32} : wyN r 6 = whyF r 0 := wyf_6
theorem brk_1 {r : Nat → Int32} {c : Nat} (hc : c < 3) {v : Int32} (hv : v = r (6 + c)) (h : ¬ v ≤ tsS r (c % 3) 0 / 20) : brk r c = true := by
  unfold brk
  rw [if_pos hc]
  exact decide_eq_true (by rw [← hv]; exact i32_nle h)
theorem brk_2 {r : Nat → Int32} {c : Nat} (hc : c < 3) {v : Int32} (hv : v = r (6 + c)) (h : v ≤ tsS r (c % 3) 0 / 20) : brk r c = false := by
  unfold brk
  rw [if_pos hc]
  exact decide_eq_false (by rw [← hv]; exact i32_le_nlt h)
theorem brk_3 {r : Nat → Int32} {c : Nat} (hc : ¬ c < 3) {v : Int32} (hv : v = r (6 + c)) (h : ¬ tsS r (c % 3) 0 / 20 ≤ v) : brk r c = true := by
  unfold brk
  rw [if_neg hc]
  exact decide_eq_true (by rw [← hv]; exact i32_nle h)
theorem brk_4 {r : Nat → Int32} {c : Nat} (hc : ¬ c < 3) {v : Int32} (hv : v = r (6 + c)) (h : tsS r (c % 3) 0 / 20 ≤ v) : brk r c = false := by
  unfold brk
  rw [if_neg hc]
  exact decide_eq_false (by rw [← hv]; exact i32_le_nlt h)
theorem kf_pos {r : Nat → Int32} : ∀ n d : Nat, 1 ≤ d → d + n < 1000 → ¬ kfG r n d = 0
  | 0, d, _, _ => by show ¬ (-6 : Int32) = 0; decide
  | n + 1, d, h, h2 => by
    by_cases q : whyF r (nI d) = 0
    · rw [kfG_y q]; exact kf_pos n (d + 1) (by omega) (by omega)
    · rw [kfG_n q]; exact nI_ne0 (by omega) (by omega)
theorem kf_y {r : Nat → Int32} (h : whyF r 0 = 0) : ¬ kfG r 401 0 = 0 := by
  rw [kfG_y (n := 400) (d := 0) h]
  exact kf_pos 400 1 (by omega) (by omega)
theorem kf_n {r : Nat → Int32} (h : ¬ whyF r 0 = 0) : kfG r 401 0 = 0 := kfG_n (n := 400) (d := 0) h
theorem mgO_n {r : Nat → Int32} (h : ¬ whyF r 0 = 0) : mgO r = 0 := if_neg h
/-! how much can be mixed -/
def sk (r : Nat → Int32) (i : Nat) : Nat := (stF r i).toInt.toNat
theorem sk_s {r : Nat → Int32} (h : Iv r) {i : Nat} (hi : i < 5) : stF r i = nI (sk r i) ∧ sk r i ≤ 9999 := by
  obtain ⟨-, -, -, h4, -, -⟩ := h.2.2.2.2.1 i hi
  have h0 : 0 ≤ (stF r i).toInt := h4.1
  have h9 : (stF r i).toInt ≤ 9999 := h4.2
  exact ⟨nI_of_toInt h0, by unfold sk; omega⟩
def gbN (r : Nat → Int32) : Nat → Nat
  | 0 => 9999
  | n + 1 => if 0 < sv r n then min (gbN r n) (sk r n * 20 / sv r n) else gbN r n
theorem gbN_le {r : Nat → Int32} : ∀ n, gbN r n ≤ 9999
  | 0 => Nat.le_refl _
  | n + 1 => by
    have h := gbN_le (r := r) n
    show (if 0 < sv r n then min (gbN r n) (sk r n * 20 / sv r n) else gbN r n) ≤ 9999
    split <;> omega
theorem gb_nI {r : Nat → Int32} (h : Iv r) : ∀ n, n ≤ 5 → gbF r n = nI (gbN r n)
  | 0, _ => rfl
  | n + 1, hn => by
    have ih := gb_nI h n (by omega)
    obtain ⟨e1, e2⟩ := sk_s h (i := n) (by omega)
    obtain ⟨f1, f2⟩ := sv_s h (i := n) (by omega)
    have hg := gbN_le (r := r) n
    have hq : sk r n * 20 / sv r n ≤ sk r n * 20 := Nat.div_le_self _ _
    show (if 0 < shF r n then mnI (gbF r n) (stF r n * 20 / shF r n) else gbF r n) = nI (if 0 < sv r n then min (gbN r n) (sk r n * 20 / sv r n) else gbN r n)
    by_cases h0 : 0 < sv r n
    · rw [if_pos h0, if_pos (by rw [f1]; exact nI_lt h0 (by omega)), ih, e1, f1, show nI (sk r n) * 20 / nI (sv r n) = nI (sk r n * 20 / sv r n) from by rw [show nI (sk r n) * 20 = nI (sk r n * 20) from pk_mul _ 20]; exact pk_div (by omega) h0 (by omega)]
      unfold mnI
      by_cases q : sk r n * 20 / sv r n < gbN r n
      · rw [if_pos (nI_lt q (by omega))]
        congr 1; omega
      · rw [if_neg (nI_nlt (by omega) (by omega))]
        congr 1; omega
    · rw [if_neg h0, if_neg (by rw [f1]; exact nI_nlt (a := 0) (b := sv r n) (by omega) (by omega)), ih]
theorem gb_all {r : Nat → Int32} : ∀ n i, i < n → 0 < sv r i → gbN r n ≤ sk r i * 20 / sv r i
  | 0, i, hi, _ => absurd hi (Nat.not_lt_zero _)
  | n + 1, i, hi, h0 => by
    show (if 0 < sv r n then min (gbN r n) (sk r n * 20 / sv r n) else gbN r n) ≤ _
    by_cases q : i = n
    · subst q
      rw [if_pos h0]; omega
    · have ih := gb_all (r := r) n i (by omega) h0
      split <;> omega
theorem gb_ex {r : Nat → Int32} : ∀ n, gbN r n < 9999 → ∃ i, i < n ∧ 0 < sv r i ∧ gbN r n = sk r i * 20 / sv r i
  | 0, h => absurd h (Nat.lt_irrefl _)
  | n + 1, h => by
    have hd : gbN r (n + 1) = if 0 < sv r n then min (gbN r n) (sk r n * 20 / sv r n) else gbN r n := rfl
    rw [hd] at h ⊢
    by_cases h0 : 0 < sv r n
    · rw [if_pos h0] at h ⊢
      by_cases q : sk r n * 20 / sv r n ≤ gbN r n
      · exact ⟨n, by omega, h0, by omega⟩
      · obtain ⟨i, a, b, c⟩ := gb_ex (r := r) n (by omega)
        exact ⟨i, by omega, b, by omega⟩
    · rw [if_neg h0] at h ⊢
      obtain ⟨i, a, b, c⟩ := gb_ex (r := r) n h
      exact ⟨i, by omega, b, c⟩
theorem nd_nI {r : Nat → Int32} (h : Iv r) {i : Nat} (hi : i < 5) {m : Nat} (hm : m ≤ 10000) : ndF r i (nI m) = nI ((m * sv r i + 19) / 20) ∧ m * sv r i ≤ 200000 := by
  obtain ⟨f1, f2⟩ := sv_s h hi
  have hb : m * sv r i ≤ 10000 * 20 := Nat.mul_le_mul hm f2
  refine ⟨?_, hb⟩
  unfold ndF
  rw [f1, pk_mul, show nI (m * sv r i) + 20 - 1 = nI (m * sv r i + 19) from by rw [show nI (m * sv r i) + 20 = nI (m * sv r i + 20) from nI_add _ 20, show (1 : Int32) = nI 1 from rfl, pk_sub (by omega)]; congr 1]
  exact pk_div (d := 20) (by omega) (by omega) (by omega)
theorem sf_iff {r : Nat → Int32} (h : Iv r) {m : Nat} (hm : m ≤ 10000) : sfP r (nI m) ↔ ∀ i, i < nlv r → (m * sv r i + 19) / 20 ≤ sk r i := by
  have hn := h.1.nl5
  constructor
  · intro q i hi
    obtain ⟨e1, e2⟩ := nd_nI h (i := i) (by omega) hm
    obtain ⟨g1, g2⟩ := sk_s h (i := i) (by omega)
    have := q i hi
    rw [e1, g1] at this
    exact (nI_leI (by omega) (by omega)).mp this
  · intro q i hi
    obtain ⟨e1, e2⟩ := nd_nI h (i := i) (by omega) hm
    obtain ⟨g1, g2⟩ := sk_s h (i := i) (by omega)
    rw [e1, g1]
    exact nI_le (q i hi) (by omega)
theorem sf_yes {r : Nat → Int32} (h : Iv r) {m : Nat} (hm : m ≤ gbN r (nlv r)) : sfP r (nI m) := by
  have hg := gbN_le (r := r) (nlv r)
  refine (sf_iff h (by omega)).mpr (fun i hi => ?_)
  by_cases h0 : 0 < sv r i
  · have h1 := gb_all (r := r) _ i hi h0
    have h2 := (Nat.le_div_iff_mul_le h0).mp (Nat.le_trans hm h1)
    omega
  · rw [show sv r i = 0 by omega, Nat.mul_zero]
    exact Nat.zero_le _
theorem sf_no {r : Nat → Int32} (h : Iv r) (hg : gbN r (nlv r) < 9999) : ¬ sfP r (nI (gbN r (nlv r) + 1)) := by
  intro q
  have q2 := (sf_iff h (by omega)).mp q
  obtain ⟨i, hi, h0, he⟩ := gb_ex (r := r) _ hg
  have h3 := q2 i hi
  have h4 : ¬ gbN r (nlv r) + 1 ≤ sk r i * 20 / sv r i := by omega
  rw [Nat.le_div_iff_mul_le h0] at h4
  omega
theorem mg_all {r : Nat → Int32} (h : Iv r) : ∃ g, g ≤ 9999 ∧ mgO r = nI g ∧ (∀ m, 1 ≤ m → m ≤ g → whyF r 0 = 0 ∧ sfP r (nI m)) ∧ (g < 9999 → mxO r (nI (g + 1)) = (-5, r)) := by
  have hn := h.1.nl5
  by_cases hy : whyF r 0 = 0
  · refine ⟨gbN r (nlv r), gbN_le _, ?_, fun m h1 h2 => ⟨hy, sf_yes h h2⟩, fun hg => ?_⟩
    · unfold mgO
      rw [if_pos hy]
      exact gb_nI h _ hn
    · exact mxO_2 ⟨nI_le (a := 1) (by omega) (by omega), nI_le (b := 9999) (by omega) (by omega)⟩ (fun q => sf_no h hg q.2)
  · refine ⟨0, by omega, mgO_n hy, fun m h1 h2 => absurd h2 (by omega), fun _ => ?_⟩
    exact mxO_2 ⟨nI_le (a := 1) (b := 1) (by omega) (by omega), nI_le (a := 1) (b := 9999) (by omega) (by omega)⟩ (fun q => hy q.1)
theorem mx_0 {r : Nat → Int32} : mxO r 0 = (-2, r) := mxO_1 (by decide)
/-- what a mixing leaves -/
theorem mx_row {r : Nat → Int32} {g : Int32} {i : Nat} (hi : i < nlv r) (hn : nlv r ≤ 5) : stF (upd (upd (mgR r g (nlv r)) 3 (r 3 + g)) 4 (r 4 + g * (prS r / 20) / 100)) i = stF r i - ndF r i g := by
  show upd _ _ _ (12 + 14 * i + 11) = _
  rw [upd_ne (by omega), upd_ne (by omega)]
  unfold mgR
  rw [if_pos (by omega)]
  have e : (12 + 14 * i + 11 - 23) / 14 = i := by omega
  rw [e]
  rfl
theorem mx_sm {r : Nat → Int32} {g : Int32} : Sm r (upd (upd (mgR r g (nlv r)) 3 (r 3 + g)) 4 (r 4 + g * (prS r / 20) / 100)) ∧ ∀ i, shF (upd (upd (mgR r g (nlv r)) 3 (r 3 + g)) 4 (r 4 + g * (prS r / 20) / 100)) i = shF r i := by
  have e : ∀ k, k ≠ 3 → k ≠ 4 → ¬ (23 ≤ k ∧ (k - 23) % 14 = 0) → upd (upd (mgR r g (nlv r)) 3 (r 3 + g)) 4 (r 4 + g * (prS r / 20) / 100) k = r k := fun k h3 h4 h => by
    rw [upd_ne h4, upd_ne h3]
    unfold mgR
    exact if_neg (fun q => h ⟨q.1, q.2.1⟩)
  refine ⟨⟨⟨e 5 (by omega) (by omega) (by omega), e 2 (by omega) (by omega) (by omega)⟩, fun i k hi hk => e _ (by omega) (by omega) (by omega)⟩, fun i => e _ (by omega) (by omega) (by omega)⟩
/-- the tests of a mixing, of each leaf -/
theorem mx_chk {r : Nat → Int32} (h : Iv r) {i : Nat} (hi : i < nlv r) {m : Nat} (hm : m ≤ 9999) (hs : sfP r (nI m)) : ∃ q s9 st : Nat, stF r i = nI st ∧ ndF r i (nI m) = nI q ∧ shF r i = nI s9 ∧ q ≤ st ∧ st ≤ 9999 ∧ m * s9 ≤ 200000 ∧ m * s9 ≤ 20 * q ∧ (0 < q → 20 * (q - 1) < m * s9) := by
  have hn := h.1.nl5
  obtain ⟨e1, e2⟩ := nd_nI h (i := i) (by omega) (m := m) (by omega)
  obtain ⟨f1, f2⟩ := sv_s h (i := i) (by omega)
  obtain ⟨g1, g2⟩ := sk_s h (i := i) (by omega)
  have h9 := (sf_iff h (by omega)).mp hs i hi
  exact ⟨(m * sv r i + 19) / 20, sv r i, sk r i, g1, e1, f1, h9, g2, e2, by omega, fun h0 => by omega⟩
