/-! the class's search finds what the model's search finds -/
def RlP (n : Nat) (a : Nat × (Nat → Nat)) (b : Int32 × (Nat → Nat)) : Prop := ((a.1 = 1000000 ∧ b.1 = -1) ∨ (a.1 ≤ 20160 ∧ b.1 = nI a.1)) ∧ b.2 = a.2 ∧ ∀ k, n ≤ k → a.2 k = 0
def BdE (lo hi : Nat → Int32) (r : Nat → Int32) : Prop := ∀ t, t < 3 → ∀ m, m ≤ 2000 → (nI m < lo t ↔ nI m / 20 < r (6 + t)) ∧ (nI m ≤ hi t ↔ nI m / 20 ≤ r (9 + t))
theorem sn_Vn {r : Nat → Int32} {c : Nat} (hn : nlv r ≤ 5) (y : Nat → Nat) : sn (fun k => y k * Vn r k c) 5 = sT (Vv r) (nlv r) y c := by
  have h9 := sn_split (fun k => y k * Vn r k c) (nlv r) (5 - nlv r)
  rw [show nlv r + (5 - nlv r) = 5 by omega] at h9
  rw [h9, sn_zero (f := fun i => (fun k => y k * Vn r k c) (nlv r + i)) _ (fun i hi => by show y (nlv r + i) * Vn r (nlv r + i) c = 0; unfold Vn; rw [if_neg (by omega), Nat.mul_zero]), Nat.add_zero]
  exact sn_ext _ (fun i hi => by show y i * Vn r i c = y i * Vv r i c; unfold Vn; rw [if_pos hi])
theorem sk_rel {r : Nat → Int32} {lo hi : Nat → Int32} (hv : Iv r) (hB : BdE lo hi r) (hn : 0 < nlv r) : RlP (nlv r) (dfs (uc (nlv r) (Vv r) lo hi) (nlv r - 1) 0 20 (fun _ => 0) (1000000, fun _ => 0)) (skR r) := by
  have hn5 := hv.1.nl5
  unfold skR
  rw [if_neg (by omega)]
  refine dfs_rel (RlP (nlv r)) _ _ (nlv r - 1) 0 20 (fun _ => 0) (fun y hy a b hR => ?_) _ _ ⟨Or.inl ⟨rfl, rfl⟩, rfl, fun _ _ => rfl⟩
  obtain ⟨y1, y2, y3⟩ := hy
  have ys : sn y (nlv r) = 20 := by
    rw [← y3, show nlv r - 1 + 1 = nlv r by omega]
    exact sn_ext _ (fun i _ => by rw [Nat.zero_add])
  have hp : sT (Vv r) (nlv r) y 3 ≤ 20160 := by
    have h8 := sn_bd (x := y) (V := Vv r) (c := 3) (B := 1008) (nlv r) (fun k hk => Vv_le hv (by omega) (by omega))
    rw [ys] at h8
    exact h8
  have ht : ∀ t, t < 3 → sT (Vv r) (nlv r) y t ≤ 2000 := fun t ht => by
    have h8 := sn_bd (x := y) (V := Vv r) (c := t) (B := 100) (nlv r) (fun k hk => (Vv_t hv (by omega) ht).2)
    rw [ys] at h8
    exact h8
  have eC : Cm r y = nI (sT (Vv r) (nlv r) y 3) := by unfold Cm; rw [sn_Vn hn5]
  have eK : kpP r y (Vn r) ↔ fsP lo hi (Vv r) (nlv r) y := by
    refine forall_congr' fun t => forall_congr' fun ht3 => ?_
    rw [sn_Vn hn5, (hB t ht3 _ (ht t ht3)).1, (hB t ht3 _ (ht t ht3)).2]
  obtain ⟨hr1, hr2, hr3⟩ := hR
  have eL : (b.1 = -1 ∨ Cm r y < b.1) ↔ sT (Vv r) (nlv r) y 3 < a.1 := by
    rcases hr1 with ⟨h1, h2⟩ | ⟨h1, h2⟩
    · exact ⟨fun _ => by omega, fun _ => Or.inl h2⟩
    · rw [eC, h2]
      constructor
      · rintro (h3 | h3)
        · exfalso
          have h4 : (nI a.1).toInt = (-1 : Int32).toInt := by rw [h3]
          rw [nI_toInt (by omega), show (-1 : Int32).toInt = -1 from rfl] at h4
          omega
        · exact (nI_ltI (by omega) (by omega)).mp h3
      · exact fun h3 => Or.inr ((nI_ltI (by omega) (by omega)).mpr h3)
  by_cases q : sT (Vv r) (nlv r) y 3 < a.1 ∧ fsP lo hi (Vv r) (nlv r) y
  · rw [uc_y q, um_y ⟨eL.mpr q.1, eK.mpr q.2⟩]
    exact ⟨Or.inr ⟨hp, eC⟩, rfl, fun k hk => y2 k (by omega)⟩
  · rw [uc_n q, um_n (fun z => q ⟨eL.mp z.1, eK.mp z.2⟩)]
    exact ⟨hr1, hr2, hr3⟩
theorem sk_rel0 {r : Nat → Int32} {lo hi : Nat → Int32} (hv : Iv r) (hB : BdE lo hi r) : RlP (nlv r) (dfz (uc (nlv r) (Vv r) lo hi) (nlv r) 0 20 (fun _ => 0) (1000000, fun _ => 0)) (skR r) := by
  rcases Nat.eq_zero_or_pos (nlv r) with h | h
  · unfold skR
    rw [if_pos h, h]
    exact ⟨Or.inl ⟨rfl, rfl⟩, rfl, fun _ _ => rfl⟩
  · have h9 := sk_rel hv hB h
    obtain ⟨n1, hn1⟩ : ∃ z, nlv r = z + 1 := ⟨nlv r - 1, by omega⟩
    rw [hn1] at h9 ⊢
    exact h9
/-- the row that a search with a bound let down by one speaks of: z: which bound, or none of them -/
def lrw (r : Nat → Int32) (z : Option Nat) : Nat → Int32 := match z with
  | none => r
  | some k => upd r (6 + k) (lsV r k)
def lrz (z : Option Nat) : Int32 := match z with
  | none => -1
  | some k => nI k
theorem lrw_iv {r : Nat → Int32} (h : Iv r) {z : Option Nat} (hz : ∀ k, z = some k → k < 6) : Iv (lrw r z) := by
  cases z with
  | none => exact h
  | some k => exact Iv_ls h (hz k rfl)
theorem lrw_e {r : Nat → Int32} {z : Option Nat} (hz : ∀ k, z = some k → k < 6) {j : Nat} (hj : j < 6 ∨ 12 ≤ j) : lrw r z j = r j := by
  cases z with
  | none => rfl
  | some k => exact upd_ne (by have := hz k rfl; omega)
theorem lrw_nlv {r : Nat → Int32} {z : Option Nat} (hz : ∀ k, z = some k → k < 6) : nlv (lrw r z) = nlv r := by unfold nlv; rw [lrw_e hz (by omega)]
theorem lrw_Vv {r : Nat → Int32} {z : Option Nat} (hz : ∀ k, z = some k → k < 6) : Vv (lrw r z) = Vv r := by
  funext k c
  unfold Vv prF tsF plv
  have eh : ∀ j, 12 ≤ j → lrw r z j = r j := fun j hj => lrw_e hz (Or.inr hj)
  rw [lrw_e hz (j := 0) (by omega), lrw_e hz (j := 1) (by omega), lrw_e hz (j := 2) (by omega), eh (12 + 14 * k + 0) (by omega), eh (12 + 14 * k + (1 + (irm (r 2) (r 1)).toInt.toNat)) (by omega), eh (12 + 14 * k + (8 + c)) (by omega), eh (12 + 14 * k + 12) (by omega)]
theorem i20 {m : Nat} {x : Int32} (hm : m ≤ 2000) (h0 : 0 ≤ x.toInt) (h1 : x.toInt ≤ 101) : (nI m < x * 20 ↔ nI m / 20 < x) ∧ (nI m ≤ x * 20 + 20 - 1 ↔ nI m / 20 ≤ x) := by
  have e1 : (x * 20).toInt = x.toInt * 20 := by rw [Int32.toInt_mul, show (20 : Int32).toInt = 20 from rfl, Int.bmod_eq_of_le (by omega) (by omega)]
  have e2 : (x * 20 + 20).toInt = x.toInt * 20 + 20 := by rw [Int32.toInt_add, e1, show (20 : Int32).toInt = 20 from rfl, Int.bmod_eq_of_le (by omega) (by omega)]
  have e3 : (x * 20 + 20 - 1).toInt = x.toInt * 20 + 19 := by rw [Int32.toInt_sub, e2, show (1 : Int32).toInt = 1 from rfl, Int.bmod_eq_of_le (by omega) (by omega)]; omega
  have ed : nI m / 20 = nI (m / 20) := pk_div (a := m) (d := 20) (by omega) (by omega) (by omega)
  rw [ed, i32_lt_iff, i32_lt_iff, i32_le_iff, i32_le_iff, e1, e3, nI_toInt (by omega), nI_toInt (by omega)]
  omega
theorem i20m {m : Nat} {x : Int32} (hm : m ≤ 2000) (h0 : -1 ≤ x.toInt) (h1 : x.toInt ≤ 101) : (nI m < x * 20 ↔ nI m / 20 < x) ∧ (0 ≤ x.toInt → (nI m ≤ x * 20 + 20 - 1 ↔ nI m / 20 ≤ x)) := by
  by_cases q : 0 ≤ x.toInt
  · exact ⟨(i20 hm q h1).1, fun _ => (i20 hm q h1).2⟩
  · have hx : x = -1 := Int32.toInt_inj.mp (by show x.toInt = -1; omega)
    refine ⟨?_, fun z => absurd z q⟩
    subst hx
    have ed : nI m / 20 = nI (m / 20) := pk_div (a := m) (d := 20) (by omega) (by omega) (by omega)
    rw [ed, i32_lt_iff, i32_lt_iff, nI_toInt (by omega), nI_toInt (by omega), show (-1 * 20 : Int32).toInt = -20 from rfl, show (-1 : Int32).toInt = -1 from rfl]
    omega
theorem lr_bd {S : Nat → Nat → Int32} {r : Nat → Int32} (h : Iv r) {z : Option Nat} (hz : ∀ k, z = some k → k < 6) : BdE (rbS S r (lrz z) 4) (rbS S r (lrz z) 5) (lrw r z) := by
  intro t ht m hm
  obtain ⟨⟨l1, l2⟩, g1, g2⟩ := h.2.2.2.1 t ht
  have e4 : rbS S r (lrz z) 4 t = (r (6 + t) - bi (lrz z = nI t)) * 20 := by unfold rbS; rw [updM_ne (by omega), updM_eq]
  have e5 : rbS S r (lrz z) 5 t = (r (9 + t) + bi (lrz z = nI (3 + t))) * 20 + 20 - 1 := by unfold rbS; rw [updM_eq]
  rw [e4, e5]
  have i1 : (r (6 + t) - 1).toInt = (r (6 + t)).toInt - 1 := by rw [Int32.toInt_sub, show (1 : Int32).toInt = 1 from rfl, Int.bmod_eq_of_le (by omega) (by omega)]
  have i2 : (r (9 + t) + 1).toInt = (r (9 + t)).toInt + 1 := by rw [Int32.toInt_add, show (1 : Int32).toInt = 1 from rfl, Int.bmod_eq_of_le (by omega) (by omega)]
  have ed : nI m / 20 = nI (m / 20) := pk_div (a := m) (d := 20) (by omega) (by omega) (by omega)
  have no : ∀ j, ¬ lrz z = nI j → j < 6 → lrw r z (6 + j) = r (6 + j) := fun j hj hj6 => by
    cases z with
    | none => rfl
    | some k => exact upd_ne (fun q => hj (by show nI k = nI j; rw [show k = j by omega]))
  have ye : ∀ j, lrz z = nI j → j < 6 → lrw r z (6 + j) = lsV r j := fun j hj hj6 => by
    cases z with
    | none =>
      exfalso
      have h4 : (nI j).toInt = (-1 : Int32).toInt := by rw [← hj]; rfl
      rw [nI_toInt (by omega), show (-1 : Int32).toInt = -1 from rfl] at h4
      omega
    | some k =>
      have hk := hz k rfl
      have hkj : k = j := (nI_eq (by omega) (by omega)).mp hj
      subst hkj
      exact upd_eq
  constructor
  · by_cases q : lrz z = nI t
    · rw [← bi_t q, ye t q (by omega)]
      unfold lsV
      rw [if_pos ht]
      by_cases w : r (6 + t) = 0
      · rw [if_pos w, w, (i20m (x := (0 : Int32) - 1) hm (by decide) (by decide)).1, ed, i32_lt_iff, i32_lt_iff, nI_toInt (by omega), show ((0 : Int32) - 1).toInt = -1 from rfl, show (0 : Int32).toInt = 0 from rfl]
        omega
      · rw [if_neg w]
        exact (i20m hm (by omega) (by omega)).1
    · rw [← bi_f q, no t q (by omega), Int32.sub_zero]
      exact (i20m hm (by omega) (by omega)).1
  · rw [show 9 + t = 6 + (3 + t) by omega] at g1 g2 i2 ⊢
    by_cases q : lrz z = nI (3 + t)
    · rw [← bi_t q, ye (3 + t) q (by omega)]
      unfold lsV
      rw [if_neg (by omega)]
      by_cases w : r (6 + (3 + t)) = 100
      · rw [if_pos w, w, (i20 (x := (100 : Int32) + 1) hm (by decide) (by decide)).2, ed, i32_le_iff, i32_le_iff, nI_toInt (by omega), show ((100 : Int32) + 1).toInt = 101 from rfl, show (100 : Int32).toInt = 100 from rfl]
        omega
      · rw [if_neg w]
        exact (i20 hm (by omega) (by omega)).2
    · rw [← bi_f q, no (3 + t) q (by omega), Int32.add_zero]
      exact (i20 hm (by omega) (by omega)).2
theorem ShopAt.top {G : GG} {b : Nat} {r : Nat → Int32} {H : Heap} (h : ShopAt G b r H) : b + 19 < H.size := by
  have h9 := (h.leaf (i := 4) (by omega)).2.2.lt
  omega
theorem SrAt.top {G : GG} {a : Nat} {S : Nat → Nat → Int32} {H : Heap} (h : SrAt G a S H) : a + 28 < H.size := by
  have h9 := (h.2.2.2.2.2.2.2.2.2 4 (by omega)).lt
  omega
theorem SrAt.fill0 {G : GG} {a : Nat} {S : Nat → Nat → Int32} {f : Nat → Int32} {H H1 : Heap} (h : SrAt G a S H) (h1 : ar G 0 (a + 1) (iA 5 f) H1) (e : ∀ q : Nat, q < H.size → ¬ q = a + 1 → H1[q]? = H[q]?) : SrAt G a (updM S 0 f) H1 := by
  have ht := h.top
  exact ⟨h.1.kept (e _ (by omega) (by omega)), h1, h.2.2.1.kept (e _ (by omega) (by omega)), h.2.2.2.1.kept (e _ (by omega) (by omega)), h.2.2.2.2.1.kept (e _ (by omega) (by omega)), h.2.2.2.2.2.1.kept (fun q _ _ => e q (by omega) (by omega)), h.2.2.2.2.2.2.1.kept (fun q _ _ => e q (by omega) (by omega)), h.2.2.2.2.2.2.2.1.kept (fun q _ _ => e q (by omega) (by omega)), h.2.2.2.2.2.2.2.2.kept (fun q _ _ => e q (by omega) (by omega))⟩
def FdS (S1 : Nat → Nat → Int32) (a : Int32 × (Nat → Nat)) : Prop := (∀ c, c < 4 → S1 9 c = 0) ∧ (¬ a.1 = -1 → S1 1 0 = a.1) ∧ ∀ k, k < 5 → S1 0 k = nI (a.2 k)
theorem rl_fd {n : Nat} {a : Nat × (Nat → Nat)} {b : Int32 × (Nat → Nat)} (h : RlP n a b) : (nI a.1 = 1000000 ↔ b.1 = -1) ∧ (¬ b.1 = -1 → nI a.1 = b.1) := by
  obtain ⟨h1 | h1, -, -⟩ := h
  · rw [h1.1, h1.2]
    exact ⟨⟨fun _ => rfl, fun _ => rfl⟩, fun z => absurd rfl z⟩
  · obtain ⟨h2, h3⟩ := h1
    have hne : ¬ nI a.1 = 1000000 := fun z => by
      have h4 : (nI a.1).toInt = (1000000 : Int32).toInt := by rw [z]
      rw [nI_toInt (by omega), show (1000000 : Int32).toInt = 1000000 from rfl] at h4
      omega
    have hne2 : ¬ b.1 = -1 := fun z => by
      have h4 : (nI a.1).toInt = (-1 : Int32).toInt := by rw [← h3, z]
      rw [nI_toInt (by omega), show (-1 : Int32).toInt = -1 from rfl] at h4
      omega
    exact ⟨⟨fun z => absurd z hne, fun z => absurd z hne2⟩, fun _ => h3.symm⟩

set_option maxHeartbeats 4000000 in
set_option maxRecDepth 100000 in
theorem k_X4_find (l : Launch) (G : GG) (a : Nat) (S : Nat → Nat → Int32) (b : Nat) (r : Nat → Int32) (z : Option Nat) (hne : b + 20 ≤ a ∨ a + 29 ≤ b) (hv : Iv r) (hzk : ∀ k, z = some k → k < 6) (h90 : ∀ c, c < 4 → S 9 c = 0) : Met l yX4_find (ws_ yX4_find cX4_find 3 (some .boolean)) (rm_ 8) (PC G [.ref a, .ref b, .int (lrz z)] (fun H => SrAt G a S H ∧ ShopAt G b r H)) (QI (fun v H => v = bc (¬ (skR (lrw r z)).1 = -1) ∧ ∃ S2, FdS S2 (skR (lrw r z)) ∧ SrAt G a S2 H) (In a 29)) 0 0 (In a 29) := by
  refine met_q (by decide +kernel) (Nat.le_of_ble_eq_true rfl) ?_
  intro p e s m args below meth c Q hQ hx hb hr hT hown hml hlocks hnm hK ⟨hR, hSh⟩ ls hl
  have hl : lv_has ls 3 [(0, .ref a), (1, .ref b), (2, .int (lrz z))] := hl
  have hS : va_S (In a 29) s.heap s.heap [] := va_S.rf
  have hw := hv.1
  have hn5 := hw.nl5
  have hnl := hw.nl
  refine lv_aload_n hx hb dX4_find_0 rfl (lv_at hl 0 rfl) ?_
  refine lv_aload_n hx hb dX4_find_1 rfl (lv_at hl 1 rfl) ?_
  refine rg (C := RX5) (T := TX5) (N := 8) (v := .int (r 5)) hx hb hT inX5 hown hK hSh.1 rfl 4 (by decide) mf_X4_38 rfl dX4_find_2 ?_
  rw [hnl]
  refine rp (C := RX4) (T := TX4) (N := 10) (v := .int (nI (nlv r))) (ty := .int) hx hb hT inX4 tyX4 tyX4_ok nmX4 hown hK hR.1 rfl 2 (by decide) mf_X4_44 rfl (by decide +kernel) rfl rfl (Nat.le_of_ble_eq_true rfl) hS (show _ ∧ _ from ⟨by omega, by omega⟩) dX4_find_5 (fun H locs h1 o hS => ?_)
  have hR := hR.s2 h1 o
  have hSh := hSh.kept (fun q _ _ => o.2 q (by omega))
  refine lv_aload_n hx hb dX4_find_8 rfl (lv_at hl 0 rfl) ?_
  refine lv_aload_n hx hb dX4_find_9 rfl (lv_at hl 1 rfl) ?_
  refine got_V (run_i hx hb hml hown hT hK hl.1 (k_X4_readValues l G a (updM S 2 (fun _ => nI (nlv r))) b r hne hv rfl) (cw_X4_45 hT ⟨Nat.le_of_ble_eq_true rfl, Nat.le_of_ble_eq_true rfl⟩) hR.1 rfl ⟨hR, hSh⟩ rfl rfl (Nat.le_of_ble_eq_true rfl) dX4_find_10 ⟨Nat.zero_le _, Nat.zero_le _⟩) hS (fun q hq => hq) (fun q hq => hq) (fun  H locs h1 hz hk hS => ?_)
  obtain ⟨Sa, hV, hR⟩ := h1
  have htop := hSh.top
  have hSh := hSh.kept (fun q h1 h2 => hk q (by omega) (fun q2 => by obtain ⟨q3, q4⟩ := q2; omega))
  refine lv_aload_n hx hb dX4_find_13 rfl (lv_at hl 0 rfl) ?_
  refine lv_aload_n hx hb dX4_find_14 rfl (lv_at hl 1 rfl) ?_
  refine lv_iload_n hx hb dX4_find_15 rfl (lv_at hl 2 rfl) ?_
  refine got_V (run_i hx hb hml hown hT hK hl.1 (k_X4_readBounds l G a Sa b r (lrz z) hne) (cw_X4_49 hT ⟨Nat.le_of_ble_eq_true rfl, Nat.le_of_ble_eq_true rfl⟩) hR.1 rfl ⟨hR, hSh⟩ rfl rfl (Nat.le_of_ble_eq_true rfl) dX4_find_16 ⟨Nat.zero_le _, Nat.zero_le _⟩) hS (fun q hq => hq) (fun q hq => hq) (fun  H locs h1 hz hk hS => ?_)
  have hR := h1
  have htop := hSh.top
  have hSh := hSh.kept (fun q h1 h2 => hk q (by omega) (fun q2 => by obtain ⟨q3, q4⟩ := q2; omega))
  refine lv_aload_n hx hb dX4_find_19 rfl (lv_at hl 0 rfl) ?_
  refine lv_ldc hx hb hown (hT _ mk_X4_53) dX4_find_20 ?_
  refine rp (C := RX4) (T := TX4) (N := 10) (v := .int 1000000) (ty := .int) hx hb hT inX4 tyX4 tyX4_ok nmX4 hown hK hR.1 rfl 1 (by decide) mf_X4_54 rfl (by decide +kernel) rfl rfl (Nat.le_of_ble_eq_true rfl) hS (show _ ∧ _ from ⟨by omega, by omega⟩) dX4_find_22 (fun H locs h1 o hS => ?_)
  have hR := hR.s1 h1 o
  have hSh := hSh.kept (fun q _ _ => o.2 q (by omega))
  refine lv_aload_n hx hb dX4_find_25 rfl (lv_at hl 0 rfl) ?_
  refine rg (C := RX4) (T := TX4) (N := 10) (v := .ref (a + 1)) hx hb hT inX4 hown hK hR.1 rfl 0 (by decide) mf_X4_9 rfl dX4_find_26 ?_
  refine lv_iconst (v := 0) hx hb dX4_find_29 (by decide) ?_
  refine got_V (run_s hx hb hml hown hT hK hl.1 (k_J7_fill_53178 l G (a + 1) 5 _ 0 (by omega)) (cw_X4_57 hT ⟨Nat.le_of_ble_eq_true rfl, Nat.le_of_ble_eq_true rfl⟩) hR.2.1 rfl rfl (Nat.le_of_ble_eq_true rfl) dX4_find_30 ⟨Nat.zero_le _, Nat.zero_le _⟩) hS (fun q (hq : q = a + 1) => show _ ∧ _ from ⟨by omega, by omega⟩) (fun q (hq : q = a + 1) => show _ ∧ _ from ⟨by omega, by omega⟩) (fun  H locs h1 hz hk hS => ?_)
  have htop := hSh.top
  have hSh := hSh.kept (fun q h1 h2 => hk q (by omega) (fun q2 => by omega))
  have hR := hR.fill0 h1 hk
  obtain ⟨S5, eS5⟩ : ∃ z1 : Nat → Nat → Int32, z1 = (updM (updM (rbS Sa r (lrz z)) 1 (fun _ => 1000000)) 0 (fun _ => 0)) := ⟨_, rfl⟩
  rw [← eS5] at hR
  have e4 : S5 4 = rbS Sa r (lrz z) 4 := by rw [eS5, updM_ne (by omega), updM_ne (by omega)]
  have e5 : S5 5 = rbS Sa r (lrz z) 5 := by rw [eS5, updM_ne (by omega), updM_ne (by omega)]
  have elo : ∀ k, k ≠ 0 → k ≠ 1 → k ≠ 4 → k ≠ 5 → S5 k = Sa k := fun k h0 h1 h4 h5 => by rw [eS5, updM_ne h0, updM_ne h1]; unfold rbS; rw [updM_ne h5, updM_ne h4]
  have hI : TsI S5 (nlv r) (Vv r) 0 20 (fun _ => 0) (1000000, fun _ => 0) := by
    refine ⟨⟨hn5, ?_, fun l1 hl1 c1 hc1 => ?_, fun k c1 hk1 hc1 => Vv_le hv (by omega) hc1⟩, fun k hk1 => absurd hk1 (by omega), fun l1 hl1 hl5 c1 hc1 => ?_, ⟨Nat.le_refl _, ?_, fun k hk1 => ?_⟩, rfl⟩
    · rw [elo 2 (by omega) (by omega) (by omega) (by omega), hV.1 2 (by omega) (by omega) (by omega), updM_eq]
    · rw [elo 6 (by omega) (by omega) (by omega) (by omega), elo 7 (by omega) (by omega) (by omega) (by omega), elo 8 (by omega) (by omega) (by omega) (by omega)]
      exact hV.2 l1 (by omega) hl1 c1 hc1
    · rw [elo 9 (by omega) (by omega) (by omega) (by omega), hV.1 9 (by omega) (by omega) (by omega), updM_ne (by omega), show l1 = 0 by omega, show 4 * 0 + c1 = c1 by omega, h90 c1 hc1]
      exact nI_0.symm
    · rw [eS5, updM_ne (by omega), updM_eq]; rfl
    · rw [eS5, updM_eq]; exact nI_0.symm
  refine lv_aload_n hx hb dX4_find_33 rfl (lv_at hl 0 rfl) ?_
  refine lv_iconst (v := 0) hx hb dX4_find_34 (by decide) ?_
  refine lv_bipush (v := 20) hx hb dX4_find_35 (by decide) ?_
  refine got_V (run_s hx hb hml hown hT hK hl.1 (k_X4_tryShares l G a (nlv r) (Vv r) (nlv r) S5 0 20 (fun _ => 0) (1000000, fun _ => 0) (by omega) hI) (cw_X4_63 hT (show (nlv r + 2 : Nat) + 1 ≤ 8 ∧ 8 + (4 + 11) + 40 * (nlv r + 2) ≤ 40 * 8 from ⟨by omega, by omega⟩)) hR rfl rfl (Nat.le_of_ble_eq_true rfl) dX4_find_37 ⟨Nat.zero_le _, Nat.zero_le _⟩) hS (fun q hq => hq) (fun q hq => hq) (fun  H locs h1 hz hk hS => ?_)
  obtain ⟨S6, hE, hR⟩ := h1
  rw [e4, e5] at hE
  have hrel := sk_rel0 (lrw_iv hv hzk) (lr_bd (S := Sa) hv hzk)
  rw [lrw_nlv hzk, lrw_Vv hzk] at hrel
  obtain ⟨A0, hA0⟩ : ∃ z1 : Nat × (Nat → Nat), z1 = dfz (uc (nlv r) (Vv r) (rbS Sa r (lrz z) 4) (rbS Sa r (lrz z) 5)) (nlv r) 0 20 (fun _ => 0) (1000000, fun _ => 0) := ⟨_, rfl⟩
  rw [← hA0] at hE hrel
  obtain ⟨hfd1, hfd2⟩ := rl_fd hrel
  obtain ⟨-, -, f9, -, f1, f0, f00⟩ := hE
  have hFd : FdS S6 (skR (lrw r z)) := by
    refine ⟨fun c1 hc1 => ?_, fun q => ?_, fun k hk1 => ?_⟩
    · have h8 := f9 0 (Nat.le_refl _) (by omega) c1 hc1
      rw [show 4 * 0 + c1 = c1 by omega] at h8
      rw [h8, elo 9 (by omega) (by omega) (by omega) (by omega), hV.1 9 (by omega) (by omega) (by omega), updM_ne (by omega), h90 c1 hc1]
    · rw [f1]; exact hfd2 q
    · obtain ⟨-, q2, q3⟩ := hrel
      rw [q2]
      by_cases w : k < nlv r
      · exact f0 k w
      · rw [f00 k (by omega), q3 k (by omega), eS5, updM_eq]; exact nI_0.symm
  refine lv_aload_n hx hb dX4_find_40 rfl (lv_at hl 0 rfl) ?_
  refine rg (C := RX4) (T := TX4) (N := 10) (v := .int (S6 1 0)) hx hb hT inX4 hown hK hR.1 rfl 1 (by decide) mf_X4_54 rfl dX4_find_41 ?_
  rw [f1]
  refine lv_ldc hx hb hown (hT _ mk_X4_53) dX4_find_44 ?_
  refine lv_icmp_eq (tgt := 53) hx hb dX4_find_46 (by decide) (fun c1 => ?_) (fun c1 => ?_)
  · refine lv_iconst (v := 0) hx hb dX4_find_53 (by decide) ?_
    exact nd_Z hQ hx hb hr hlocks dX4_find_54 hS (by first | exact Or.inl rfl | exact Or.inr rfl) (⟨bc_f (fun q => q (hfd1.mp c1)), S6, hFd, hR⟩)
  · refine lv_iconst (v := 1) hx hb dX4_find_49 (by decide) ?_
    refine lv_goto (tgt := 54) hx hb dX4_find_50 (by decide) ?_
    exact nd_Z hQ hx hb hr hlocks dX4_find_54 hS (by first | exact Or.inl rfl | exact Or.inr rfl) (⟨bc_t (fun q => c1 (hfd1.mpr q)), S6, hFd, hR⟩)
