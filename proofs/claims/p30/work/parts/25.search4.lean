/-! the class's search: depth first with what may be passed over -/
def sT (V : Nat → Nat → Nat) (n : Nat) (y : Nat → Nat) (c : Nat) : Nat := sn (fun k => y k * V k c) n
def fsP (lo hi : Nat → Int32) (V : Nat → Nat → Nat) (n : Nat) (y : Nat → Nat) : Prop := ∀ t, t < 3 → ¬ nI (sT V n y t) < lo t ∧ nI (sT V n y t) ≤ hi t
noncomputable def uc (n : Nat) (V : Nat → Nat → Nat) (lo hi : Nat → Int32) (y : Nat → Nat) (a : Nat × (Nat → Nat)) : Nat × (Nat → Nat) := @ite _ (sT V n y 3 < a.1 ∧ fsP lo hi V n y) (Classical.propDecidable _) (sT V n y 3, y) a
theorem uc_y {n : Nat} {V : Nat → Nat → Nat} {lo hi : Nat → Int32} {y : Nat → Nat} {a : Nat × (Nat → Nat)} (h : sT V n y 3 < a.1 ∧ fsP lo hi V n y) : uc n V lo hi y a = (sT V n y 3, y) := if_pos h
theorem uc_n {n : Nat} {V : Nat → Nat → Nat} {lo hi : Nat → Int32} {y : Nat → Nat} {a : Nat × (Nat → Nat)} (h : ¬ (sT V n y 3 < a.1 ∧ fsP lo hi V n y)) : uc n V lo hi y a = a := if_neg h
def dfz {α : Type} (u : (Nat → Nat) → α → α) : Nat → Nat → Nat → (Nat → Nat) → α → α
  | 0, _, _, _, a => a
  | d + 1, leaf, rest, x, a => dfs u d leaf rest x a
def dnq {α : Type} (g : Nat → α → α) : Nat → α → α
  | 0, a => a
  | q + 1, a => dn g q a
theorem dnq_s {α : Type} {g : Nat → α → α} : ∀ {q : Nat} {a : α}, dnq g q (g q a) = dnq g (q + 1) a
  | 0, _ => rfl
  | _ + 1, _ => rfl
def TsF (S : Nat → Nat → Int32) (n : Nat) (V : Nat → Nat → Nat) : Prop := n ≤ 5 ∧ S 2 0 = nI n ∧ (∀ l, l < n → ∀ c, c < 4 → S 6 (4 * l + c) = nI (V l c) ∧ S 7 (4 * l + c) = nI (lsD V c n (n - 1 - l)) ∧ S 8 (4 * l + c) = nI (msD V c n (n - 1 - l))) ∧ ∀ k c, k < n → c < 4 → V k c ≤ 1008
def TsI (S : Nat → Nat → Int32) (n : Nat) (V : Nat → Nat → Nat) (leaf rest : Nat) (x : Nat → Nat) (acc : Nat × (Nat → Nat)) : Prop :=
  TsF S n V ∧ (∀ k, k < leaf → S 3 k = nI (x k)) ∧ (∀ l, l ≤ leaf → l < 5 → ∀ c, c < 4 → S 9 (4 * l + c) = nI (sT V l x c)) ∧ (acc.1 ≤ 1000000 ∧ S 1 0 = nI acc.1 ∧ ∀ k, k < n → S 0 k = nI (acc.2 k)) ∧ sn x leaf + rest = 20
def TsE (S S1 : Nat → Nat → Int32) (n leaf : Nat) (acc : Nat × (Nat → Nat)) : Prop :=
  (∀ k, k ≠ 0 → k ≠ 1 → k ≠ 3 → k ≠ 9 → S1 k = S k) ∧ (∀ k, k < leaf → S1 3 k = S 3 k) ∧ (∀ l, l ≤ leaf → l < 5 → ∀ c, c < 4 → S1 9 (4 * l + c) = S 9 (4 * l + c)) ∧ acc.1 ≤ 1000000 ∧ S1 1 0 = nI acc.1 ∧ (∀ k, k < n → S1 0 k = nI (acc.2 k)) ∧ ∀ k, n ≤ k → S1 0 k = S 0 k
theorem TsF.ext {S S1 : Nat → Nat → Int32} {n : Nat} {V : Nat → Nat → Nat} (h : TsF S n V) (e2 : S1 2 = S 2) (e6 : S1 6 = S 6) (e7 : S1 7 = S 7) (e8 : S1 8 = S 8) : TsF S1 n V := by
  unfold TsF
  rw [e2, e6, e7, e8]
  exact h
theorem sn_bd {x : Nat → Nat} {V : Nat → Nat → Nat} {c B : Nat} : ∀ n : Nat, (∀ k, k < n → V k c ≤ B) → sT V n x c ≤ sn x n * B
  | n, h => by
    unfold sT
    rw [← sn_mul]
    exact sn_le n (fun k hk => Nat.mul_le_mul_left _ (h k hk))
theorem sT_un {V : Nat → Nat → Nat} {x : Nat → Nat} {leaf s c : Nat} : sT V (leaf + 1) (un x leaf s) c = sT V leaf x c + s * V leaf c := by
  show sn (fun k => un x leaf s k * V k c) leaf + un x leaf s leaf * V leaf c = _
  rw [un_eq, sn_ext (f := fun k => un x leaf s k * V k c) (g := fun k => x k * V k c) leaf (fun i hi => by rw [un_ne (by omega)])]
  rfl
theorem sT_unlo {V : Nat → Nat → Nat} {x : Nat → Nat} {leaf s c l : Nat} (h : l ≤ leaf) : sT V l (un x leaf s) c = sT V l x c := sn_ext l (fun i hi => by rw [un_ne (by omega)])
theorem nI_lt_mono {a b : Nat} {z : Int32} (h : nI b < z) (hab : a ≤ b) (hb : b < 2 ^ 31) : nI a < z := by
  rw [i32_lt_iff, nI_toInt (by omega)] at h
  rw [i32_lt_iff, nI_toInt (by omega)]
  omega
theorem nI_le_mono {a b : Nat} {z : Int32} (h : nI b ≤ z) (hab : a ≤ b) (hb : b < 2 ^ 31) : nI a ≤ z := by
  rw [i32_le_iff, nI_toInt (by omega)] at h
  rw [i32_le_iff, nI_toInt (by omega)]
  omega
theorem ts_num {S : Nat → Nat → Int32} {n : Nat} {V : Nat → Nat → Nat} {leaf rest : Nat} {x : Nat → Nat} {acc : Nat × (Nat → Nat)} (h : TsI S n V leaf rest x acc) (hl : leaf < n) {c : Nat} (hc : c < 4) {v : Nat} {k : Nat} (hk : S k (4 * leaf + c) = nI v) : S 9 (4 * leaf + c) + nI rest * S k (4 * leaf + c) = nI (sT V leaf x c + rest * v) := by
  rw [h.2.2.1 leaf (Nat.le_refl _) (by have := h.1.1; omega) c hc, hk, pk_mul, nI_add]
theorem ts_B {S : Nat → Nat → Int32} {n : Nat} {V : Nat → Nat → Nat} {leaf rest : Nat} {x : Nat → Nat} {acc : Nat × (Nat → Nat)} (h : TsI S n V leaf rest x acc) (hl : leaf < n) {c : Nat} (hc : c < 4) {v : Nat} (hv : v ≤ 1008) : sT V leaf x c + rest * v ≤ 20160 := by
  have h1 := sn_bd (x := x) (V := V) (c := c) (B := 1008) leaf (fun k hk => h.1.2.2.2 k c (by omega) hc)
  have h2 := h.2.2.2.2
  have h3 : rest * v ≤ rest * 1008 := Nat.mul_le_mul_left _ hv
  omega
theorem ts_sub {S : Nat → Nat → Int32} {n : Nat} {V : Nat → Nat → Nat} {leaf rest d : Nat} {x y : Nat → Nat} {acc : Nat × (Nat → Nat)} (_h : TsI S n V leaf rest x acc) (hd : leaf + (d + 1) = n) (hy : SubT leaf d rest x y) (c : Nat) : sT V leaf x c + rest * lsD V c n d ≤ sT V n y c ∧ sT V n y c ≤ sT V leaf x c + rest * msD V c n d := by
  have h9 := sub_sum (V := fun k => V k c) (lo := lsD V c n d) (hi := msD V c n d) hy (fun i hi => by
    have h8 := ls_bd (V := V) (c := c) (n := n) d (by omega) i hi
    rw [show n - 1 - d + i = leaf + i by omega] at h8
    exact h8)
  rw [hd] at h9
  exact h9
theorem ts_skip {S : Nat → Nat → Int32} {n : Nat} {V : Nat → Nat → Nat} {leaf rest d : Nat} {x : Nat → Nat} {acc : Nat × (Nat → Nat)} (h : TsI S n V leaf rest x acc) (hd : leaf + (d + 1) = n) (hm : ¬ miP S leaf rest) (y : Nat → Nat) (hy : SubT leaf d rest x y) : uc n V (S 4) (S 5) y acc = acc := by
  refine uc_n (fun q => hm ?_)
  obtain ⟨q1, q2⟩ := q
  have hF := h.1.2.2.1 leaf (by omega)
  have hB := h.1.2.2.2
  have ed : n - 1 - leaf = d := by omega
  refine ⟨?_, fun t ht => ⟨?_, ?_⟩⟩
  · have e := ts_num h (by omega) (c := 3) (by omega) (hF 3 (by omega)).2.1
    rw [e, h.2.2.2.1.2.1, ed]
    have h1 := (ts_sub h hd hy 3).1
    have h2 := (ls_mem (V := V) (c := 3) (n := n) (B := 1008) (fun k hk => hB k 3 hk (by omega)) d (by omega)).1
    have h3 := ts_B h (by omega) (c := 3) (by omega) h2
    have h4 := h.2.2.2.1.1
    exact (nI_ltI (by omega) (by omega)).mpr (by omega)
  · have e := ts_num h (by omega) (c := t) (by omega) (hF t (by omega)).2.2
    rw [e, ed]
    intro z
    have h1 := (ts_sub h hd hy t).2
    have h2 := (ls_mem (V := V) (c := t) (n := n) (B := 1008) (fun k hk => hB k t hk (by omega)) d (by omega)).2
    have h3 := ts_B h (by omega) (c := t) (by omega) h2
    exact (q2 t ht).1 (nI_lt_mono z h1 (by omega))
  · have e := ts_num h (by omega) (c := t) (by omega) (hF t (by omega)).2.1
    rw [e, ed]
    have h1 := (ts_sub h hd hy t).1
    have h2 := (ls_mem (V := V) (c := t) (n := n) (B := 1008) (fun k hk => hB k t hk (by omega)) d (by omega)).2
    have h3 := ts_sub h hd hy t
    have h5 := ts_B h (by omega) (c := t) (by omega) h2
    exact nI_le_mono (q2 t ht).2 h1 (by omega)
theorem ts_last {S : Nat → Nat → Int32} {n : Nat} {V : Nat → Nat → Nat} {leaf rest : Nat} {x : Nat → Nat} {acc : Nat × (Nat → Nat)} (h : TsI S n V leaf rest x acc) (hd : leaf + 1 = n) (hm : miP S leaf rest) : uc n V (S 4) (S 5) (un x leaf rest) acc = (sT V leaf x 3 + rest * V leaf 3, un x leaf rest) := by
  have hF := h.1.2.2.1 leaf (by omega)
  have hB := h.1.2.2.2
  have ed : n - 1 - leaf = 0 := by omega
  have eV : n - 1 = leaf := by omega
  have es : ∀ c, sT V n (un x leaf rest) c = sT V leaf x c + rest * V leaf c := fun c => by rw [← hd]; exact sT_un
  have e7 : ∀ c, c < 4 → S 7 (4 * leaf + c) = nI (V leaf c) := fun c hc => by rw [(hF c hc).2.1, ed]; show nI (V (n - 1) c) = _; rw [eV]
  have e8 : ∀ c, c < 4 → S 8 (4 * leaf + c) = nI (V leaf c) := fun c hc => by rw [(hF c hc).2.2, ed]; show nI (V (n - 1) c) = _; rw [eV]
  obtain ⟨m1, m2⟩ := hm
  have hle := h.2.2.2.1.1
  rw [uc_y, es]
  refine ⟨?_, fun t ht => ?_⟩
  · rw [ts_num h (by omega) (c := 3) (by omega) (e7 3 (by omega)), h.2.2.2.1.2.1] at m1
    have h5 := ts_B h (by omega) (c := 3) (by omega) (hB leaf 3 (by omega) (by omega))
    rw [es]
    exact (nI_ltI (by omega) (by omega)).mp m1
  · have m3 := m2 t ht
    rw [ts_num h (by omega) (c := t) (by omega) (e7 t (by omega)), ts_num h (by omega) (c := t) (by omega) (e8 t (by omega))] at m3
    rw [es]
    exact m3
theorem ts_step {S S1 : Nat → Nat → Int32} {n : Nat} {V : Nat → Nat → Nat} {leaf rest s : Nat} {x : Nat → Nat} {acc acc1 : Nat × (Nat → Nat)} (h : TsI S n V leaf rest x acc) (hl : leaf + 1 < n) (hs : s ≤ rest) (hE : TsE S S1 n leaf acc1) : TsI (giS S1 leaf s) n V (leaf + 1) (rest - s) (un x leaf s) acc1 := by
  obtain ⟨hF, hx3, h9, -, hsum⟩ := h
  obtain ⟨e1, e3, e9, ea, eb, ec, -⟩ := hE
  have g : ∀ k, k ≠ 3 → k ≠ 9 → giS S1 leaf s k = S1 k := fun k h3 h9 => by unfold giS; rw [updM_ne h9, updM_ne h3]
  have g3 : giS S1 leaf s 3 = upd (S1 3) leaf (nI s) := by unfold giS; rw [updM_ne (by omega), updM_eq]
  have g9 : giS S1 leaf s 9 = cpN (S1 9) (ghR S1 leaf s) (4 * (leaf + 1)) 4 := by unfold giS; exact updM_eq
  have hn5 := hF.1
  refine ⟨hF.ext ?_ ?_ ?_ ?_, fun k hk => ?_, fun l hl1 hl5 c hc => ?_, ⟨ea, ?_, fun k hk => ?_⟩, ?_⟩
  · rw [g 2 (by omega) (by omega), e1 2 (by omega) (by omega) (by omega) (by omega)]
  · rw [g 6 (by omega) (by omega), e1 6 (by omega) (by omega) (by omega) (by omega)]
  · rw [g 7 (by omega) (by omega), e1 7 (by omega) (by omega) (by omega) (by omega)]
  · rw [g 8 (by omega) (by omega), e1 8 (by omega) (by omega) (by omega) (by omega)]
  · rw [g3]
    by_cases q : k = leaf
    · rw [q, upd_eq, un_eq]
    · rw [upd_ne q, un_ne q, e3 k (by omega), hx3 k (by omega)]
  · rw [g9]
    by_cases q : l = leaf + 1
    · rw [q, cpN_in hc, sT_un]
      unfold ghR
      rw [e9 leaf (Nat.le_refl _) (by omega) c hc, h9 leaf (Nat.le_refl _) (by omega) c hc, e1 6 (by omega) (by omega) (by omega) (by omega), (hF.2.2.1 leaf (by omega) c hc).1, pk_mul, nI_add]
    · rw [show cpN (S1 9) (ghR S1 leaf s) (4 * (leaf + 1)) 4 (4 * l + c) = S1 9 (4 * l + c) from if_neg (by omega), e9 l (by omega) hl5 c hc, h9 l (by omega) hl5 c hc, sT_unlo (by omega)]
  · rw [g 1 (by omega) (by omega)]; exact eb
  · rw [g 0 (by omega) (by omega)]; exact ec k hk
  · have h8 := sn_ext (f := un x leaf s) (g := x) leaf (fun i hi => un_ne (by omega))
    show sn (un x leaf s) leaf + un x leaf s leaf + (rest - s) = 20
    rw [un_eq, h8]
    omega
theorem ts_back {S S1 S2 : Nat → Nat → Int32} {n leaf s : Nat} {acc1 acc2 : Nat × (Nat → Nat)} (hE : TsE S S1 n leaf acc1) (hE2 : TsE (giS S1 leaf s) S2 n (leaf + 1) acc2) : TsE S S2 n leaf acc2 := by
  obtain ⟨e1, e3, e9, -, -, -, ed⟩ := hE
  obtain ⟨f1, f3, f9, fa, fb, fc, fd⟩ := hE2
  have g : ∀ k, k ≠ 3 → k ≠ 9 → giS S1 leaf s k = S1 k := fun k h3 h9 => by unfold giS; rw [updM_ne h9, updM_ne h3]
  refine ⟨fun k h0 h1 h3 h9 => by rw [f1 k h0 h1 h3 h9, g k h3 h9, e1 k h0 h1 h3 h9], fun k hk => ?_, fun l hl hl5 c hc => ?_, fa, fb, fc, fun k hk => by rw [fd k hk, g 0 (by omega) (by omega), ed k hk]⟩
  · rw [f3 k (by omega)]
    unfold giS
    rw [updM_ne (by omega), updM_eq, upd_ne (by omega), e3 k hk]
  · rw [f9 l (by omega) hl5 c hc]
    unfold giS
    rw [updM_eq, show cpN (S1 9) (ghR S1 leaf s) (4 * (leaf + 1)) 4 (4 * l + c) = S1 9 (4 * l + c) from if_neg (by omega), e9 l hl hl5 c hc]
theorem ts_kb {S : Nat → Nat → Int32} {n : Nat} {V : Nat → Nat → Nat} {leaf rest : Nat} {x : Nat → Nat} {acc : Nat × (Nat → Nat)} (h : TsI S n V leaf rest x acc) (hd : leaf + 1 = n) (hm : miP S leaf rest) : TsE S (kbS S leaf rest n) n leaf (uc n V (S 4) (S 5) (un x leaf rest) acc) := by
  have hF := h.1.2.2.1 leaf (by omega)
  have hB := ts_B h (by omega) (c := 3) (by omega) (h.1.2.2.2 leaf 3 (by omega) (by omega))
  rw [ts_last h hd hm]
  refine ⟨fun k h0 h1 h3 h9 => by unfold kbS; rw [updM_ne h1, updM_ne h0, updM_ne h3], fun k hk => ?_, fun l hl hl5 c hc => by unfold kbS; rw [updM_ne (by omega), updM_ne (by omega), updM_ne (by omega)], by show sT V leaf x 3 + rest * V leaf 3 ≤ 1000000; omega, ?_, fun k hk => ?_, fun k hk => ?_⟩
  · unfold kbS
    rw [updM_ne (by omega), updM_ne (by omega), updM_eq, upd_ne (by omega)]
  · unfold kbS
    rw [updM_eq]
    exact ts_num h (by omega) (c := 3) (by omega) (hF 3 (by omega)).1
  · unfold kbS
    rw [updM_ne (by omega), updM_eq]
    show va_cpy (upd (S 3) leaf (nI rest)) (S 0) 0 0 n k = nI (un x leaf rest k)
    unfold va_cpy
    rw [if_pos (by omega), show 0 + (k - 0) = k by omega]
    by_cases q : k = leaf
    · rw [q, upd_eq, un_eq]
    · rw [upd_ne q, un_ne q, h.2.1 k (by omega)]
  · unfold kbS
    rw [updM_ne (by omega), updM_eq]
    exact if_neg (by omega)
def TsM (l : Launch) (G : GG) (a n : Nat) (V : Nat → Nat → Nat) (d : Nat) : Prop := ∀ (S : Nat → Nat → Int32) (leaf rest : Nat) (x : Nat → Nat) (acc : Nat × (Nat → Nat)), leaf + d = n → TsI S n V leaf rest x acc →
  Met l yX4_tryShares (ws_ yX4_tryShares cX4_tryShares 4 none) (rm_ (d + 2)) (PC G [.ref a, .int (nI leaf), .int (nI rest)] (SrAt G a S)) (QV (fun H => ∃ S2, TsE S S2 n leaf (dfz (uc n V (S 4) (S 5)) d leaf rest x acc) ∧ SrAt G a S2 H) (In a 29)) 0 0 (In a 29)

set_option maxHeartbeats 4000000 in
set_option maxRecDepth 100000 in
theorem k_ts0 (l : Launch) (G : GG) (a : Nat) (S : Nat → Nat → Int32) (n : Nat) (V : Nat → Nat → Nat) (leaf rest : Nat) (x : Nat → Nat) (acc : Nat × (Nat → Nat)) (hd : leaf + 0 = n) (hI : TsI S n V leaf rest x acc) : Met l yX4_tryShares (ws_ yX4_tryShares cX4_tryShares 4 (none : Option Jvm.ClassFile.FieldType)) (rm_ 2) (PC G [.ref a, .int (nI leaf), .int (nI rest)] (SrAt G a S)) (QV (fun H => ∃ S2, TsE S S2 n leaf (dfz (uc n V (S 4) (S 5)) 0 leaf rest x acc) ∧ SrAt G a S2 H) (In a 29)) 0 0 (In a 29) := by
  refine met_q (by decide +kernel) (Nat.le_of_ble_eq_true rfl) ?_
  intro p e s m args below meth c Q hQ hx hb hr hT hown hml hlocks hnm hK hR ls hl
  have hl : lv_has ls 4 [(0, .ref a), (1, .int (nI leaf)), (2, .int (nI rest))] := hl
  have hS : va_S (In a 29) s.heap s.heap [] := va_S.rf
  have hn5 := hI.1.1
  have hS2 : S 2 0 = nI n := hI.1.2.1
  refine lv_iload_n hx hb dX4_tryShares_0 rfl (lv_at hl 1 rfl) ?_
  refine lv_aload_n hx hb dX4_tryShares_1 rfl (lv_at hl 0 rfl) ?_
  refine rg (C := RX4) (T := TX4) (N := 10) (v := .int (S 2 0)) hx hb hT inX4 hown hK hR.1 rfl 2 (by decide) mf_X4_44 rfl dX4_tryShares_2 ?_
  rw [hS2]
  refine lv_icmp_ge (tgt := 17) hx hb dX4_tryShares_5 (by decide) (fun c1 => ?_) (fun c1 => ?_)
  · exact nd_V hQ hx hb hr hlocks dX4_tryShares_17 hS (⟨S, ⟨fun _ _ _ _ _ => rfl, fun _ _ => rfl, fun _ _ _ _ _ => rfl, hI.2.2.2.1.1, hI.2.2.2.1.2.1, hI.2.2.2.1.2.2, fun _ _ => rfl⟩, hR⟩)
  · exact absurd (nI_le (show n ≤ leaf by omega) (by omega)) c1

set_option maxHeartbeats 4000000 in
set_option maxRecDepth 100000 in
theorem k_tsS (l : Launch) (G : GG) (a : Nat) (S : Nat → Nat → Int32) (n : Nat) (V : Nat → Nat → Nat) (leaf rest : Nat) (x : Nat → Nat) (acc : Nat × (Nat → Nat)) (d : Nat) (IH : TsM l G a n V d) (hd : leaf + (d + 1) = n) (hI : TsI S n V leaf rest x acc) : Met l yX4_tryShares (ws_ yX4_tryShares cX4_tryShares 4 (none : Option Jvm.ClassFile.FieldType)) (rm_ (d + 1 + 2)) (PC G [.ref a, .int (nI leaf), .int (nI rest)] (SrAt G a S)) (QV (fun H => ∃ S2, TsE S S2 n leaf (dfz (uc n V (S 4) (S 5)) (d + 1) leaf rest x acc) ∧ SrAt G a S2 H) (In a 29)) 0 0 (In a 29) := by
  refine met_q (by decide +kernel) (Nat.le_of_ble_eq_true rfl) ?_
  intro p e s m args below meth c Q hQ hx hb hr hT hown hml hlocks hnm hK hR ls hl
  have hl : lv_has ls 4 [(0, .ref a), (1, .int (nI leaf)), (2, .int (nI rest))] := hl
  have hS : va_S (In a 29) s.heap s.heap [] := va_S.rf
  have hn5 := hI.1.1
  have hS2 : S 2 0 = nI n := hI.1.2.1
  have hr20 : rest ≤ 20 := by have := hI.2.2.2.2; omega
  refine lv_iload_n hx hb dX4_tryShares_0 rfl (lv_at hl 1 rfl) ?_
  refine lv_aload_n hx hb dX4_tryShares_1 rfl (lv_at hl 0 rfl) ?_
  refine rg (C := RX4) (T := TX4) (N := 10) (v := .int (S 2 0)) hx hb hT inX4 hown hK hR.1 rfl 2 (by decide) mf_X4_44 rfl dX4_tryShares_2 ?_
  rw [hS2]
  refine lv_icmp_ge (tgt := 17) hx hb dX4_tryShares_5 (by decide) (fun c1 => ?_) (fun c1 => ?_)
  · exact absurd ((nI_leI (by omega) (by omega)).mp c1) (by omega)
  · refine lv_aload_n hx hb dX4_tryShares_8 rfl (lv_at hl 0 rfl) ?_
    refine lv_iload_n hx hb dX4_tryShares_9 rfl (lv_at hl 1 rfl) ?_
    refine lv_iload_n hx hb dX4_tryShares_10 rfl (lv_at hl 2 rfl) ?_
    refine got_i (run_i hx hb hml hown hT hK hl.1 (k_X4_mayImprove l G a S leaf rest (by omega)) (cw_X4_90 hT (show (0 : Nat) + 1 ≤ d + 1 + 2 ∧ 8 + (5 + 11) + 40 * (0) ≤ 40 * (d + 1 + 2) from ⟨by omega, by omega⟩)) hR.1 rfl hR rfl rfl (Nat.le_of_ble_eq_true rfl) dX4_tryShares_11 ⟨Nat.zero_le _, Nat.zero_le _⟩) (fun v_1 hv_1 => ?_)
    subst hv_1
    refine lv_if_ne (tgt := 18) hx hb dX4_tryShares_14 (by decide) (fun c2 => ?_) (fun c2 => ?_)
    · have hmi := bc_n0 c2
      refine lv_iload_n hx hb dX4_tryShares_18 rfl (lv_at hl 1 rfl) ?_
      refine lv_aload_n hx hb dX4_tryShares_19 rfl (lv_at hl 0 rfl) ?_
      refine rg (C := RX4) (T := TX4) (N := 10) (v := .int (S 2 0)) hx hb hT inX4 hown hK hR.1 rfl 2 (by decide) mf_X4_44 rfl dX4_tryShares_20 ?_
      rw [hS2]
      refine lv_iconst (v := 1) hx hb dX4_tryShares_23 (by decide) ?_
      refine lv_isub hx hb dX4_tryShares_24 ?_
      rw [show nI n - 1 = nI (n - 1) from pk_sub (b := 1) (by omega)]
      refine lv_icmp_ne (tgt := 35) hx hb dX4_tryShares_25 (by decide) (fun c3 => ?_) (fun c3 => ?_)
      · have hdp : 0 < d := Nat.pos_of_ne_zero (fun z => c3 (by rw [show leaf = n - 1 by omega]))
        obtain ⟨d1, hd1⟩ : ∃ z, d = z + 1 := ⟨d - 1, by omega⟩
        obtain ⟨R0, hR0⟩ : ∃ z, z = dfz (uc n V (S 4) (S 5)) (d + 1) leaf rest x acc := ⟨_, rfl⟩
        have hfin : dnq (fun s b => dfz (uc n V (S 4) (S 5)) d (leaf + 1) (rest - s) (un x leaf s) b) (rest + 1) acc = R0 := by rw [hR0, hd1]; rfl
        rw [← hR0] at hQ
        refine lv_iload_n hx hb dX4_tryShares_35 rfl (lv_at hl 2 rfl) ?_
        refine lv_istore_n (lv' := [(3, .int (nI rest)), (0, .ref a), (1, .int (nI leaf)), (2, .int (nI rest))]) hx hb dX4_tryShares_36 rfl hl (by decide) rfl (fun ls hl => ?_)
        have loop : ∀ (k : Nat) (q : Nat) (S1 : Nat → Nat → Int32) (acc1 : Nat × (Nat → Nat)) (H : Heap) (locs : List Loc), va_S (In a 29) s.heap H locs → q ≤ rest + 1 → TsE S S1 n leaf acc1 → dnq (fun s b => dfz (uc n V (S 4) (S 5)) d (leaf + 1) (rest - s) (un x leaf s) b) q acc1 = R0 → SrAt G a S1 H → q < k → ∀ ls : Array Slot, lv_has ls 4 [(3, .int (nI q - 1)), (0, .ref a), (1, .int (nI leaf)), (2, .int (nI rest))] → W p l e (rm_ (d + 1 + 2)) s m args below meth c H locs 0 0 Q (F0 m 37 ls []) := by
          intro k
          induction k with
          | zero => intro q S1 acc1 H locs hS hq hE hF hR hm; exact absurd hm (Nat.not_lt_zero _)
          | succ k ih =>
            intro q S1 acc1 H locs hS hq hE hF hR hm ls hl
            have hs1 : 0 < q → nI q - 1 = nI (q - 1) := fun h => pk_sub (b := 1) h
            refine lv_iload_n hx hb dX4_tryShares_37 rfl (lv_at hl 0 rfl) ?_
            refine lv_if_lt (tgt := 63) hx hb dX4_tryShares_38 (by decide) (fun c4 => ?_) (fun c4 => ?_)
            · have hq0 : q = 0 := by
                rcases Nat.eq_zero_or_pos q with h | h
                · exact h
                · rw [hs1 h] at c4
                  exact absurd c4 (nI_pos (by omega))
              subst hq0
              exact nd_V hQ hx hb hr hlocks dX4_tryShares_63 hS (⟨S1, by rw [← hF]; exact hE, hR⟩)
            · have hqp : 0 < q := by
                rcases Nat.eq_zero_or_pos q with h | h
                · rw [h] at c4
                  exact absurd (by decide) c4
                · exact h
              rw [hs1 hqp] at hl
              obtain ⟨s0, hs0⟩ : ∃ z, z = q - 1 := ⟨_, rfl⟩
              rw [← hs0] at hl
              have hqs : q = s0 + 1 := by omega
              subst hqs
              have hI2 := ts_step hI (by omega) (show s0 ≤ rest by omega) hE
              have e4 : giS S1 leaf s0 4 = S 4 := by unfold giS; rw [updM_ne (by omega), updM_ne (by omega)]; exact hE.1 4 (by omega) (by omega) (by omega) (by omega)
              have e5 : giS S1 leaf s0 5 = S 5 := by unfold giS; rw [updM_ne (by omega), updM_ne (by omega)]; exact hE.1 5 (by omega) (by omega) (by omega) (by omega)
              refine lv_aload_n hx hb dX4_tryShares_41 rfl (lv_at hl 1 rfl) ?_
              refine lv_iload_n hx hb dX4_tryShares_42 rfl (lv_at hl 2 rfl) ?_
              refine lv_iload_n hx hb dX4_tryShares_43 rfl (lv_at hl 0 rfl) ?_
              refine got_V (run_i hx hb hml hown hT hK hl.1 (k_X4_giveTo l G a S1 leaf s0 (by omega)) (cw_X4_98 hT (show (0 : Nat) + 1 ≤ d + 1 + 2 ∧ 8 + (4 + 11) + 40 * (0) ≤ 40 * (d + 1 + 2) from ⟨by omega, by omega⟩)) hR.1 rfl hR rfl rfl (Nat.le_of_ble_eq_true rfl) dX4_tryShares_44 ⟨Nat.zero_le _, Nat.zero_le _⟩) hS (fun q hq => hq) (fun q hq => hq) (fun  H locs h1 hz hk hS => ?_)
              have hR := h1
              refine lv_aload_n hx hb dX4_tryShares_47 rfl (lv_at hl 1 rfl) ?_
              refine lv_iload_n hx hb dX4_tryShares_48 rfl (lv_at hl 2 rfl) ?_
              refine lv_iconst (v := 1) hx hb dX4_tryShares_49 (by decide) ?_
              refine lv_iadd hx hb dX4_tryShares_50 ?_
              rw [nI_1]
              refine lv_iload_n hx hb dX4_tryShares_51 rfl (lv_at hl 3 rfl) ?_
              refine lv_iload_n hx hb dX4_tryShares_52 rfl (lv_at hl 0 rfl) ?_
              refine lv_isub hx hb dX4_tryShares_53 ?_
              rw [show nI rest - nI s0 = nI (rest - s0) from pk_sub (by omega)]
              refine got_V (run_s hx hb hml hown hT hK hl.1 (IH (giS S1 leaf s0) (leaf + 1) (rest - s0) (un x leaf s0) acc1 (by omega) hI2) (cw_X4_63 hT (show (d + 2 : Nat) + 1 ≤ d + 1 + 2 ∧ 8 + (4 + 11) + 40 * (d + 2) ≤ 40 * (d + 1 + 2) from ⟨by omega, by omega⟩)) hR rfl rfl (Nat.le_of_ble_eq_true rfl) dX4_tryShares_54 ⟨Nat.zero_le _, Nat.zero_le _⟩) hS (fun q hq => hq) (fun q hq => hq) (fun  H locs h1 hz hk hS => ?_)
              obtain ⟨S3, hE3, hR⟩ := h1
              rw [e4, e5] at hE3
              refine lv_iinc (v := nI s0 - 1) (lv' := [(3, .int (nI s0 - 1)), (0, .ref a), (1, .int (nI leaf)), (2, .int (nI rest))]) hx hb dX4_tryShares_57 hl (k := 0) rfl (i_m1 _) (by decide) rfl (fun ls hl => ?_)
              refine lv_goto (tgt := 37) hx hb dX4_tryShares_60 (by decide) ?_
              exact ih s0 S3 _ _ _ hS (by omega) (ts_back hE hE3) (by rw [dnq_s (g := fun s b => dfz (uc n V (S 4) (S 5)) d (leaf + 1) (rest - s) (un x leaf s) b)]; exact hF) hR (by omega) ls (lv_sub hl [0, 1, 2, 3] rfl)
        exact loop (rest + 1 + 1) (rest + 1) S acc _ _ hS (Nat.le_refl _) ⟨fun _ _ _ _ _ => rfl, fun _ _ => rfl, fun _ _ _ _ _ => rfl, hI.2.2.2.1.1, hI.2.2.2.1.2.1, hI.2.2.2.1.2.2, fun _ _ => rfl⟩ hfin hR (by omega) ls (lv_sub hl [0, 1, 2, 3] (by rw [show nI (rest + 1) - 1 = nI rest from pk_sub (b := 1) (by omega)]; rfl))
      · have hd0 : d = 0 := by
          have h9 : nI leaf = nI (n - 1) := c3
          have h8 := (nI_eq (by omega) (by omega)).mp h9
          omega
        subst hd0
        refine lv_aload_n hx hb dX4_tryShares_28 rfl (lv_at hl 0 rfl) ?_
        refine lv_iload_n hx hb dX4_tryShares_29 rfl (lv_at hl 1 rfl) ?_
        refine lv_iload_n hx hb dX4_tryShares_30 rfl (lv_at hl 2 rfl) ?_
        refine got_V (run_i hx hb hml hown hT hK hl.1 (k_X4_keepBest l G a S leaf rest n (by omega) hn5 hS2) (cw_X4_94 hT (show (1 : Nat) + 1 ≤ 0 + 1 + 2 ∧ 8 + (3 + 11) + 40 * 1 ≤ 40 * (0 + 1 + 2) from ⟨by omega, by omega⟩)) hR.1 rfl hR rfl rfl (Nat.le_of_ble_eq_true rfl) dX4_tryShares_31 ⟨Nat.zero_le _, Nat.zero_le _⟩) hS (fun q hq => hq) (fun q hq => hq) (fun  H locs h1 hz hk hS => ?_)
        have hR := h1
        exact nd_V hQ hx hb hr hlocks dX4_tryShares_34 hS (⟨_, ts_kb hI hd hmi, hR⟩)
    · have hmi := bc_e0 c2
      exact nd_V hQ hx hb hr hlocks dX4_tryShares_17 hS (⟨S, (by
          rw [show dfz (uc n V (S 4) (S 5)) (d + 1) leaf rest x acc = acc from dfs_skip _ d leaf rest x acc (fun y hy => ts_skip hI hd hmi y hy)]
          exact ⟨fun _ _ _ _ _ => rfl, fun _ _ => rfl, fun _ _ _ _ _ => rfl, hI.2.2.2.1.1, hI.2.2.2.1.2.1, hI.2.2.2.1.2.2, fun _ _ => rfl⟩), hR⟩)

theorem k_X4_tryShares (l : Launch) (G : GG) (a n : Nat) (V : Nat → Nat → Nat) : ∀ d : Nat, TsM l G a n V d
  | 0 => fun S leaf rest x acc hd hI => k_ts0 l G a S n V leaf rest x acc hd hI
  | d + 1 => fun S leaf rest x acc hd hI => k_tsS l G a S n V leaf rest x acc d (k_X4_tryShares l G a n V d) hd hI
