/-! the class's best swap is the model's -/
theorem tsS_nI {r : Nat → Int32} (h : Iv r) {k : Nat} (hk : k < 3) : tsS r k 0 = nI (sn (fun i => sv r i * Vv r i k) (nlv r)) := by
  have hn5 := h.1.nl5
  unfold tsS
  rw [← sm_nI]
  exact sm_ext _ (fun i hi => by rw [(sv_s h (by omega)).1, (Vv_t h (by omega) hk).1, pk_mul])
theorem xab_sum {r : Nat → Int32} (h : Iv r) {a b k : Nat} (hab : a ≠ b) (ha : a < nlv r) (hb : b < nlv r) (h1 : 1 ≤ sv r a) : sn (fun i => xab r a b i * Vn r i k) 5 + Vv r a k = sn (fun i => sv r i * Vv r i k) (nlv r) + Vv r b k := by
  have hn5 := h.1.nl5
  rw [sn_Vn hn5]
  obtain ⟨f, hf⟩ : ∃ f : Nat → Nat, f = fun i => sv r i * Vv r i k := ⟨_, rfl⟩
  have e1 := sn_un (x := f) (k := a) (v := (sv r a - 1) * Vv r a k) (n := nlv r) ha
  have e2 := sn_un (x := un f a ((sv r a - 1) * Vv r a k)) (k := b) (v := (sv r b + 1) * Vv r b k) (n := nlv r) hb
  rw [un_ne (Ne.symm hab)] at e2
  have e3 : sT (Vv r) (nlv r) (xab r a b) k = sn (un (un f a ((sv r a - 1) * Vv r a k)) b ((sv r b + 1) * Vv r b k)) (nlv r) := sn_ext _ (fun i hi => by
    show xab r a b i * Vv r i k = _
    unfold xab
    rw [if_pos hi]
    by_cases q : i = b
    · rw [q, un_eq, if_neg (Ne.symm hab), if_pos rfl]
    · rw [un_ne q]
      by_cases w : i = a
      · rw [w, un_eq, if_pos rfl]
      · rw [un_ne w, if_neg w, if_neg q, hf])
  have fa : f a = (sv r a - 1) * Vv r a k + Vv r a k := by
    rw [hf]
    show sv r a * Vv r a k = _
    obtain ⟨z, hz⟩ : ∃ z, sv r a = z + 1 := ⟨sv r a - 1, by omega⟩
    rw [hz, Nat.add_sub_cancel, Nat.add_mul, Nat.one_mul]
  have fb : (sv r b + 1) * Vv r b k = f b + Vv r b k := by
    rw [hf, Nat.add_mul, Nat.one_mul]
  rw [e3]
  rw [show (fun i => sv r i * Vv r i k) = f from hf.symm]
  omega
theorem ks_kp {r : Nat → Int32} (h : Iv r) {a b k : Nat} (hab : a ≠ b) (ha : a < nlv r) (hb : b < nlv r) (h0 : ¬ shF r a = 0) (hk : k < 3) : ksF r a b k = nI (sn (fun i => xab r a b i * Vn r i k) 5) / 20 := by
  have hn5 := h.1.nl5
  have h1 : 1 ≤ sv r a := Nat.pos_of_ne_zero (fun z => h0 (by rw [(sv_s h (by omega)).1, z]; rfl))
  have hx := xab_sum h (k := k) hab ha hb h1
  have hle : Vv r a k ≤ sn (fun i => sv r i * Vv r i k) (nlv r) := by
    refine Nat.le_trans ?_ (sn_le_one (x := fun i => sv r i * Vv r i k) ha)
    show Vv r a k ≤ sv r a * Vv r a k
    exact Nat.le_mul_of_pos_left _ h1
  unfold ksF
  rw [tsS_nI h hk, (Vv_t h (by omega) hk).1, (Vv_t h (by omega) hk).1, pk_sub hle, nI_add]
  congr 2
  omega
theorem sw_iff {r : Nat → Int32} (h : Iv r) (hs : shS r = 20) {a b : Nat} (ha : a < nlv r) (hb : b < nlv r) {most : Int32} (hm : 0 ≤ most) : swC r a b most ↔ (most < prF r a - prF r b ∧ ksP r a b) := by
  unfold swC ksP kpP
  constructor
  · rintro ⟨q1, -, -, q2, q3, q4⟩
    exact ⟨q3, ⟨q2, hs⟩, fun k hk => by
      rw [ks_kp h q1 ha hb q2 hk]
      exact ⟨i32_nlt (q4 k hk).1, (q4 k hk).2⟩⟩
  · rintro ⟨q3, ⟨q2, -⟩, q4⟩
    have q1 : a ≠ b := fun z => by
      rw [z, Int32.sub_self] at q3
      exact i32_lt_nle q3 hm
    exact ⟨q1, ha, hb, q2, q3, fun k hk => by
      have q5 := q4 k hk
      rw [ks_kp h q1 ha hb q2 hk] at q5
      exact ⟨i32_le_nlt q5.1, q5.2⟩⟩
def R2s (r : Nat → Int32) (m : Int32 × Int32 × Int32) (c : Int32 × Int32) : Prop := m.1 = c.2 ∧ 0 ≤ c.2 ∧ ((c.1 = -6 ∧ m.2.1 = -6 ∧ m.2.2 = -6) ∨ ∃ a b, a < 5 ∧ b < 5 ∧ c.1 = 5 * nI a + nI b ∧ m.2.1 = nI a ∧ m.2.2 = nI b ∧ m.1 = prF r a - prF r b)
theorem sw_row {r : Nat → Int32} (h : Iv r) (hs : shS r = 20) {f : Nat} (hf : f < nlv r) {c : Int32 × Int32} (hc : R2s r (swM r (5 * f)) c) : ∀ t, t ≤ 5 → R2s r (swM r (5 * f + t)) (swI r f c (min t (nlv r)))
  | 0, _ => by rw [Nat.zero_min]; exact hc
  | t + 1, ht => by
    have hn5 := h.1.nl5
    have ih := sw_row h hs hf hc t (by omega)
    have e1 : (5 * f + t) / 5 = f := by omega
    have e2 : (5 * f + t) % 5 = t := by omega
    show R2s r (swM r (5 * f + t + 1)) _
    by_cases q : t < nlv r
    · rw [show min (t + 1) (nlv r) = t + 1 by omega]
      rw [show min t (nlv r) = t by omega] at ih
      obtain ⟨i1, i2, i3⟩ := ih
      have hi := sw_iff h hs hf q (most := (swM r (5 * f + t)).1) (by rw [i1]; exact i2)
      by_cases w : swC r f t (swM r (5 * f + t)).1
      · rw [swM_y (by rw [e1, e2]; exact w), e1, e2]
        have w2 := hi.mp w
        rw [i1] at w2
        rw [show swI r f c (t + 1) = (5 * nI f + nI t, prF r f - prF r t) from if_pos w2]
        refine ⟨rfl, ?_, Or.inr ⟨f, t, by omega, by omega, rfl, rfl, rfl, rfl⟩⟩
        show 0 ≤ prF r f - prF r t
        have a1 := i32_le_iff.mp i2
        have a2 := i32_lt_iff.mp w2.1
        rw [i32_le_iff]
        omega
      · rw [swM_n (by rw [e1, e2]; exact w)]
        rw [show swI r f c (t + 1) = swI r f c t from if_neg (fun z => w (hi.mpr (by rw [i1]; exact z)))]
        exact ⟨i1, i2, i3⟩
    · rw [show min (t + 1) (nlv r) = min t (nlv r) by omega, swM_n (fun z => q (by rw [e1, e2] at z; exact z.2.2.1))]
      exact ih
theorem sw_skip {r : Nat → Int32} {f : Nat} (hf : ¬ f < nlv r) : ∀ t, t ≤ 5 → swM r (5 * f + t) = swM r (5 * f)
  | 0, _ => rfl
  | t + 1, ht => by
    show swM r (5 * f + t + 1) = _
    rw [swM_n (fun z => hf (by rw [show (5 * f + t) / 5 = f by omega] at z; exact z.2.1))]
    exact sw_skip hf t (by omega)
theorem sw_all {r : Nat → Int32} (h : Iv r) (hs : shS r = 20) : ∀ f, f ≤ 5 → R2s r (swM r (5 * f)) (swO r (min f (nlv r)))
  | 0, _ => by rw [Nat.zero_min]; exact ⟨rfl, Int32.le_refl _, Or.inl ⟨rfl, rfl, rfl⟩⟩
  | f + 1, hf => by
    have hn5 := h.1.nl5
    have ih := sw_all h hs f (by omega)
    by_cases q : f < nlv r
    · rw [show min f (nlv r) = f by omega] at ih
      rw [show min (f + 1) (nlv r) = f + 1 by omega]
      have h9 := sw_row h hs q ih 5 (Nat.le_refl _)
      rw [show min 5 (nlv r) = nlv r by omega] at h9
      exact h9
    · rw [show min (f + 1) (nlv r) = min f (nlv r) by omega, show 5 * (f + 1) = 5 * f + 5 by omega, sw_skip q 5 (Nat.le_refl _)]
      exact ih
theorem sw_none {r : Nat → Int32} (hs : ¬ shS r = 20) : ∀ f, swO r f = (-6, 0)
  | 0 => rfl
  | f + 1 => by
    show swI r f (swO r f) (nlv r) = _
    rw [sw_none hs f]
    have h9 : ∀ t, swI r f (-6, 0) t = (-6, 0) := by
      intro t
      induction t with
      | zero => rfl
      | succ t ih => rw [show swI r f (-6, 0) (t + 1) = swI r f (-6, 0) t from if_neg (fun z => hs z.2.1.2)]; exact ih
    exact h9 _
