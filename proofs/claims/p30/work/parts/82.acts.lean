def lL (a : Nat) : Int64 := (UInt64.ofNat a).toInt64
theorem lL_toInt {a : Nat} (ha : a < 2 ^ 63) : (lL a).toInt = a := by
  show (Int64.ofNat a).toInt = a
  rw [Int64.toInt_ofNat', show (Int64.size : Nat) = 18446744073709551616 from rfl, Int.bmod_eq_of_le (by omega) (by omega)]
theorem lL_32 {a : Nat} (ha : a < 256) : (lL a).toInt32 = nI a := by
  apply Int32.toInt_inj.mp
  rw [Int64.toInt_toInt32, lL_toInt (by omega), nI_toInt (by omega), Int.bmod_eq_of_le (by omega) (by omega)]
theorem nI_64 {k : Nat} (h : k < 2 ^ 31) : (nI k).toInt64 = lL k := by
  apply Int64.toInt_inj.mp
  rw [Int32.toInt_toInt64, nI_toInt h, lL_toInt (by omega)]
theorem lL_shl {a k : Nat} {x : Int64} (hk : x.toBitVec.smod 64 = BitVec.ofNat 64 k) (hk2 : k < 64) (h : a * 2 ^ k < 2 ^ 64) : lL a <<< x = lL (a * 2 ^ k) := by
  apply Int64.toBitVec_inj.mp
  rw [Int64.toBitVec_shiftLeft, hk]
  show (BitVec.ofNat 64 a) <<< (BitVec.ofNat 64 k) = BitVec.ofNat 64 (a * 2 ^ k)
  apply BitVec.eq_of_toNat_eq
  have ha : a < 2 ^ 64 := Nat.lt_of_le_of_lt (Nat.le_mul_of_pos_right _ (Nat.two_pow_pos _)) h
  rw [BitVec.shiftLeft_eq', BitVec.toNat_shiftLeft, BitVec.toNat_ofNat, BitVec.toNat_ofNat, BitVec.toNat_ofNat, Nat.mod_eq_of_lt ha, Nat.mod_eq_of_lt (by omega : k < 2 ^ 64), Nat.shiftLeft_eq]
theorem lL_or {a v k : Nat} (hv : v < 2 ^ k) (h : a * 2 ^ k + v < 2 ^ 64) : lL (a * 2 ^ k) ||| lL v = lL (a * 2 ^ k + v) := by
  show (UInt64.ofNat (a * 2 ^ k) ||| UInt64.ofNat v).toInt64 = (UInt64.ofNat (a * 2 ^ k + v)).toInt64
  congr 1
  apply UInt64.toNat_inj.mp
  rw [UInt64.toNat_or, UInt64.toNat_ofNat', UInt64.toNat_ofNat', UInt64.toNat_ofNat', Nat.mod_eq_of_lt (by omega), Nat.mod_eq_of_lt (by omega), Nat.mod_eq_of_lt h, ← Nat.shiftLeft_eq]
  exact (Nat.shiftLeft_add_eq_or_of_lt hv a).symm
/-! THE LAW'S NUMBERS, pure: choosing, and what each act leaves -/
theorem sk_ok {r : Nat → Int32} (h2 : ¬ (skR r).1 = -1) : (skR r).1 = Cm r (skR r).2 ∧ kpP r (skR r).2 (Vn r) := by
  by_cases hn : nlv r = 0
  · exfalso
    apply h2
    unfold skR
    rw [if_pos hn]
  · have h9 : (skR r) = (skR r) ∧ ((skR r).1 = -1 ∨ ((skR r).1 = Cm r (skR r).2 ∧ kpP r (skR r).2 (Vn r))) := by
      have h8 := dfs_rel (fun (a b : Int32 × (Nat → Nat)) => a = b ∧ (b.1 = -1 ∨ (b.1 = Cm r b.2 ∧ kpP r b.2 (Vn r)))) (um (Cm r) (fun x => kpP r x (Vn r))) (um (Cm r) (fun x => kpP r x (Vn r))) (nlv r - 1) 0 20 (fun _ => 0) (fun y hy a b hab => ?_) (-1, fun _ => 0) (-1, fun _ => 0) ⟨rfl, Or.inl rfl⟩
      · unfold skR
        rw [if_neg hn]
        exact h8
      · obtain ⟨rfl, hb⟩ := hab
        refine ⟨rfl, ?_⟩
        by_cases q : (a.1 = -1 ∨ Cm r y < a.1) ∧ kpP r y (Vn r)
        · rw [um_y q]
          exact Or.inr ⟨rfl, q.2⟩
        · rw [um_n q]
          exact hb
    exact h9.2.resolve_left h2
theorem sk_nn {r : Nat → Int32} (h : Iv r) (h2 : ¬ (skR r).1 = -1) : 0 ≤ (skR r).1 / 20 := by
  have hn := h.1.nl5
  obtain ⟨e1, e2⟩ := sk_ok h2
  obtain ⟨hs, -⟩ := sk_sum h h2
  have hb : sn (fun k => (skR r).2 k * Vv r k 3) (nlv r) ≤ 20160 := by
    have g1 := sn_le (f := fun k => (skR r).2 k * Vv r k 3) (g := fun k => (skR r).2 k * 1008) (nlv r) (fun i hi => Nat.mul_le_mul_left _ (Vv_p h (by omega)).2)
    have g2 := sn_mul (skR r).2 1008 (nlv r)
    omega
  rw [e1]
  unfold Cm
  rw [sn_Vn hn]
  unfold sT
  rw [show nI (sn (fun k => (skR r).2 k * Vv r k 3) (nlv r)) / 20 = nI (sn (fun k => (skR r).2 k * Vv r k 3) (nlv r) / 20) from pk_div (d := 20) (by omega) (by omega) (by omega)]
  exact nI_pos' (by omega)
theorem shR_o {r s : Nat → Int32} {n k : Nat} (h : ¬ (25 ≤ k ∧ (k - 25) % 14 = 0)) : shR r s n k = r k := if_neg (fun q => h ⟨q.1, q.2.1⟩)
theorem shR_i {r s : Nat → Int32} {n i : Nat} (h : i < n) : shF (shR r s n) i = s i := by
  show shR r s n (12 + 14 * i + 13) = s i
  unfold shR
  rw [if_pos (by omega), show (12 + 14 * i + 13 - 25) / 14 = i by omega]
theorem shR_sm {r s : Nat → Int32} {n : Nat} : Sm r (shR r s n) := ⟨⟨shR_o (by omega), shR_o (by omega)⟩, fun i k hi hk => shR_o (by omega)⟩
theorem shR_pr {r s : Nat → Int32} {n i : Nat} (hw : WF r) : prF (shR r s n) i = prF r i := by
  have hp : plv (shR r s n) = plv r := by
    unfold plv
    rw [shR_o (by omega), shR_o (by omega)]
  have h7 := hw.pl.2
  unfold prF
  rw [hp, shR_o (by omega), shR_o (by omega)]
theorem shR_ts {r s : Nat → Int32} {n i t : Nat} {d : Int32} (ht : t < 3) : tsF (shR r s n) i t d = tsF r i t d := by
  unfold tsF
  rw [shR_o (by omega), shR_o (by omega), shR_o (by omega)]
theorem co_all {r : Nat → Int32} (h : Iv r) (h2 : ¬ (skR r).1 = -1) : prS (coO r).2 = (skR r).1 ∧ whyF (coO r).2 0 = 0 ∧ shF (coO r).2 0 = nI ((skR r).2 0) ∧ Sm r (coO r).2 := by
  have hn5 := h.1.nl5
  obtain ⟨e1, e2⟩ := sk_ok h2
  obtain ⟨hs, hn0⟩ := sk_sum h h2
  rw [coO_2 h2]
  show prS (shR r (fun k => nI ((skR r).2 k)) (nlv r)) = _ ∧ whyF (shR r (fun k => nI ((skR r).2 k)) (nlv r)) 0 = 0 ∧ shF (shR r (fun k => nI ((skR r).2 k)) (nlv r)) 0 = _ ∧ Sm r (shR r (fun k => nI ((skR r).2 k)) (nlv r))
  generalize (skR r).2 = x at e1 e2 hs ⊢
  obtain ⟨r2, hr2⟩ : ∃ z1 : Nat → Int32, z1 = shR r (fun k => nI (x k)) (nlv r) := ⟨_, rfl⟩
  have hnl : nlv r2 = nlv r := by rw [hr2]; exact nlv_same shR_sm.1.1
  have hsh : ∀ i, i < nlv r → shF r2 i = nI (x i) := fun i hi => by rw [hr2]; exact shR_i (s := fun k => nI (x k)) hi
  have hpr : prS r2 = nI (sT (Vv r) (nlv r) x 3) := by
    unfold prS sT
    rw [hnl, ← sm_nI]
    exact sm_ext _ (fun i hi => by rw [hsh i hi, hr2, shR_pr h.1, (Vv_p h (by omega)).1, pk_mul])
  have hts : ∀ t, t < 3 → tsS r2 t 0 = nI (sT (Vv r) (nlv r) x t) := fun t ht => by
    unfold tsS sT
    rw [hnl, ← sm_nI]
    exact sm_ext _ (fun i hi => by rw [hsh i hi, hr2, shR_ts ht, (Vv_t h (by omega) ht).1, pk_mul])
  have hss : shS r2 = 20 := by
    unfold shS
    rw [hnl, sm_ext (g := fun k => nI (x k)) _ hsh, sm_nI, hs]
    rfl
  have hlo : ∀ j, 6 ≤ j → j < 12 → r2 j = r j := fun j h6 h12 => by rw [hr2]; exact shR_o (by omega)
  have hk : ∀ t, t < 3 → ¬ tsS r2 t 0 / 20 < r (6 + t) ∧ tsS r2 t 0 / 20 ≤ r (9 + t) := fun t ht => by
    have := e2 t ht
    rw [sn_Vn hn5] at this
    rw [hts t ht]
    exact this
  rw [← hr2]
  refine ⟨by rw [hpr, e1]; unfold Cm; rw [sn_Vn hn5], ?_, hsh 0 hn0, by rw [hr2]; exact shR_sm⟩
  unfold whyF
  rw [hlo 6 (by omega) (by omega), hlo 7 (by omega) (by omega), hlo 8 (by omega) (by omega), hlo 9 (by omega) (by omega), hlo 10 (by omega) (by omega), hlo 11 (by omega) (by omega)]
  rw [decide_eq_true hss, decide_eq_false (hk 0 (by omega)).1, decide_eq_false (hk 1 (by omega)).1, decide_eq_false (hk 2 (by omega)).1, decide_eq_false (i32_le_nlt (hk 0 (by omega)).2), decide_eq_false (i32_le_nlt (hk 1 (by omega)).2), decide_eq_false (i32_le_nlt (hk 2 (by omega)).2)]
  rfl
/-! a new leaf -/
theorem ad_lf {r : Nat → Int32} {n k : Nat} {p a b c st : Int32} (hk : k < 14) : adR r n p a b c st (12 + 14 * n + k) = lfN p a b c st k := by
  unfold adR
  rw [if_neg (by omega), if_pos (by omega), show 12 + 14 * n + k - (12 + 14 * n) = k by omega]
theorem ad_lo {r : Nat → Int32} {n k : Nat} {p a b c st : Int32} (h5 : k ≠ 5) (hk : k < 12 + 14 * n) : adR r n p a b c st k = r k := by
  unfold adR
  rw [if_neg h5, if_neg (by omega)]
theorem ad_nl {r : Nat → Int32} {n : Nat} {p a b c st : Int32} (hn : n < 5) : nlv (adR r n p a b c st) = n + 1 := by
  have e : adR r n p a b c st 5 = nI (n + 1) := if_pos rfl
  unfold nlv
  rw [e]
  exact nIt (by omega)
def mkL (mk : Nat → Int32) (n : Nat) (p a b c : Int32) : Nat → Int32 := upd (upd (upd (upd mk (12 * n) p) (12 * n + 1) a) (12 * n + 2) b) (12 * n + 3) c
def mkZ (mk : Nat → Int32) (n : Nat) (p a b c : Int32) (k : Nat) : Nat → Int32 := fun j => if 12 * n + 4 ≤ j ∧ j < 12 * n + 4 + k then 0 else mkL mk n p a b c j
theorem mkZ_0 {mk : Nat → Int32} {n : Nat} {p a b c : Int32} {j : Nat} : mkL mk n p a b c j = mkZ mk n p a b c 0 j := (if_neg (by omega)).symm
theorem mkZ_s {mk : Nat → Int32} {n k : Nat} {p a b c : Int32} {j : Nat} : upd (mkZ mk n p a b c k) (12 * n + 4 + k) 0 j = mkZ mk n p a b c (k + 1) j := by
  simp only [upd]
  unfold mkZ
  by_cases q : j = 12 * n + 4 + k
  · rw [if_pos q, if_pos (by omega)]
  · rw [if_neg q]
    by_cases w : 12 * n + 4 ≤ j ∧ j < 12 * n + 4 + k
    · rw [if_pos w, if_pos (by omega)]
    · rw [if_neg w, if_neg (by omega)]
theorem ad_RM {r mk : Nat → Int32} (h : RM r mk) (hn : nlv r < 5) {p a b c st : Int32} : RM (adR r (nlv r) p a b c st) (mkZ mk (nlv r) p a b c 7) := by
  intro i hi
  rw [ad_nl hn] at hi
  by_cases q : i = nlv r
  · subst q
    have z : ∀ j, j < 4 → mkZ mk (nlv r) p a b c 7 (12 * nlv r + j) = mkL mk (nlv r) p a b c (12 * nlv r + j) := fun j hj => if_neg (by omega)
    refine ⟨?_, fun t ht => ?_, fun j hj => ?_⟩
    · rw [ad_lf (by omega)]
      refine (z 0 (by omega)).trans ?_
      show mkL mk (nlv r) p a b c (12 * nlv r) = p
      unfold mkL
      rw [upd_ne (by omega), upd_ne (by omega), upd_ne (by omega)]
      exact upd_eq
    · rw [ad_lf (by omega)]
      rw [show 12 * nlv r + 1 + t = 12 * nlv r + (1 + t) by omega, z (1 + t) (by omega)]
      have e : t = 0 ∨ t = 1 ∨ t = 2 := by omega
      unfold mkL
      rcases e with rfl | rfl | rfl
      · rw [upd_ne (by omega), upd_ne (by omega)]; exact upd_eq
      · rw [upd_ne (by omega)]; exact upd_eq
      · exact upd_eq
    · rw [ad_lf (by omega)]
      refine (if_pos (by omega)).trans ?_
      unfold lfN
      rw [if_neg (by omega), if_neg (by omega), if_neg (by omega), if_neg (by omega), if_neg (by omega)]
  · have hi2 : i < nlv r := by omega
    obtain ⟨h1, h2, h3⟩ := h i hi2
    have z : ∀ j, j < 12 * nlv r → mkZ mk (nlv r) p a b c 7 j = mk j := fun j hj => by
      refine (if_neg (by omega)).trans ?_
      unfold mkL
      rw [upd_ne (by omega), upd_ne (by omega), upd_ne (by omega), upd_ne (by omega)]
    refine ⟨?_, fun t ht => ?_, fun j hj => ?_⟩
    · rw [z _ (by omega), ad_lo (by omega) (by omega)]; exact h1
    · rw [z _ (by omega), ad_lo (by omega) (by omega)]; exact h2 t ht
    · rw [z _ (by omega), ad_lo (by omega) (by omega)]; exact h3 j hj
theorem nI_or {x y : Nat} (hx : x < 2 ^ 32) (hy : y < 2 ^ 32) (hxy : x ||| y < 2 ^ 32) : nI x ||| nI y = nI (x ||| y) := by
  apply Int32.toBitVec_inj.mp
  apply BitVec.eq_of_toNat_eq
  rw [Int32.toBitVec_or, BitVec.toNat_or, pk_tn hx, pk_tn hy, pk_tn hxy]
theorem or_add {x y k : Nat} (hx : x < 2 ^ k) : x ||| y * 2 ^ k = x + y * 2 ^ k := by
  rw [Nat.or_comm, ← Nat.shiftLeft_eq, ← Nat.shiftLeft_add_eq_or_of_lt hx]
  omega
theorem tst_w {a b c : Nat} (ha : a < 128) (hb : b < 128) (hc : c < 128) : (nI a ||| nI b <<< (7 &&& 31)) ||| nI c <<< (14 &&& 31) = nI (a + b * 128 + c * 16384) := by
  rw [pk_shlN (n := b) (7 &&& 31) 7 (by decide) (by omega), pk_shlN (n := c) (14 &&& 31) 14 (by decide) (by omega)]
  have e1 : a ||| b * 2 ^ 7 = a + b * 2 ^ 7 := or_add (by omega)
  have e2 : (a + b * 2 ^ 7) ||| c * 2 ^ 14 = a + b * 2 ^ 7 + c * 2 ^ 14 := or_add (by omega)
  rw [nI_or (by omega) (by omega) (by rw [e1]; omega), e1, nI_or (by omega) (by omega) (by rw [e2]; omega), e2]
theorem tst_n {a b c : Nat} (ha : a < 128) (hb : b < 128) (hc : c < 128) {t : Int32} (h : t = nI (a + b * 128 + c * 16384)) : tst t 0 = nI a ∧ tst t 1 = nI b ∧ tst t 2 = nI c := by
  subst h
  refine ⟨?_, ?_, ?_⟩
  · show nI _ &&& 127 = _
    rw [pk_andN (by omega) 7 (by decide)]
    congr 1; omega
  · show nI _ >>> (7 &&& 31) &&& 127 = _
    rw [pk_shrN (by omega) _ 7 (by decide), pk_andN (by omega) 7 (by decide)]
    congr 1; omega
  · show nI _ >>> (14 &&& 31) &&& 127 = _
    rw [pk_shrN (by omega) _ 14 (by decide), pk_andN (by omega) 7 (by decide)]
    congr 1; omega
theorem lf_ok {p a b c st : Nat} (hp : p < 300) (ha : a < 101) (hb : b < 101) (hc : c < 101) (hst : st < 3000) : lfOk (nI p) (nI a) (nI b) (nI c) (nI st) :=
  ⟨⟨⟨nI_pos' (by omega), nI_le (b := 100) (by omega) (by omega)⟩, ⟨nI_pos' (by omega), nI_le (b := 100) (by omega) (by omega)⟩, ⟨nI_pos' (by omega), nI_le (b := 100) (by omega) (by omega)⟩⟩, ⟨nI_pos' (by omega), nI_le (b := 999) (by omega) (by omega)⟩, ⟨nI_pos' (by omega), nI_le (b := 9999) (by omega) (by omega)⟩⟩
/-! a row of changes -/
def rwN (c : Nat → Nat) : Nat → Nat
  | 0 => 0
  | k + 1 => rwN c k + c k * 2 ^ (5 * k)
theorem rwN_lt {c : Nat → Nat} (hc : ∀ k, c k < 19) : ∀ k, rwN c k < 2 ^ (5 * k)
  | 0 => Nat.one_pos
  | k + 1 => by
    have ih := rwN_lt hc k
    have h19 := hc k
    show rwN c k + c k * 2 ^ (5 * k) < 2 ^ (5 * (k + 1))
    rw [show 5 * (k + 1) = 5 * k + 5 by omega, Nat.pow_add]
    have : c k * 2 ^ (5 * k) ≤ 18 * 2 ^ (5 * k) := Nat.mul_le_mul_right _ (by omega)
    omega
theorem rw_step {c : Nat → Nat} (hc : ∀ k, c k < 19) {k : Nat} (hk : k < 7) : lL (rwN c k) ||| ((nI (c k)).toInt64 <<< ((5 * nI k).toInt64 &&& 63)) = lL (rwN c (k + 1)) := by
  have h19 := hc k
  have hr := rwN_lt hc k
  have hp : (2 : Nat) ^ (5 * k) ≤ 2 ^ 30 := Nat.pow_le_pow_right (by omega) (by omega)
  have hm : c k * 2 ^ (5 * k) ≤ 18 * 2 ^ 30 := Nat.mul_le_mul (by omega) hp
  have hs : (((5 * nI k).toInt64 &&& 63) : Int64).toBitVec.smod 64 = BitVec.ofNat 64 (5 * k) := by
    have e : k = 0 ∨ k = 1 ∨ k = 2 ∨ k = 3 ∨ k = 4 ∨ k = 5 ∨ k = 6 := by omega
    rcases e with rfl | rfl | rfl | rfl | rfl | rfl | rfl <;> decide
  rw [nI_64 (by omega), lL_shl hs (by omega) (by omega), Int64.or_comm, lL_or hr (by omega)]
  congr 1
  show c k * 2 ^ (5 * k) + rwN c k = rwN c k + c k * 2 ^ (5 * k)
  omega
theorem lL_and5 {a : Nat} (ha : a < 2 ^ 64) : lL a &&& 31 = lL (a % 32) := by
  show (UInt64.ofNat a &&& Int64.toUInt64 31).toInt64 = (UInt64.ofNat (a % 32)).toInt64
  congr 1
  apply UInt64.toNat_inj.mp
  rw [UInt64.toNat_and, UInt64.toNat_ofNat', UInt64.toNat_ofNat', Nat.mod_eq_of_lt ha, show (Int64.toUInt64 31).toNat = 2 ^ 5 - 1 from rfl, Nat.and_two_pow_sub_one_eq_mod, Nat.mod_eq_of_lt (show a % 32 < 2 ^ 64 by omega)]
theorem lL_sar {a k : Nat} {x : Int64} (hk : (x.toBitVec.smod 64).toNat = k) (ha : a < 2 ^ 63) : lL a >>> x = lL (a / 2 ^ k) := by
  apply Int64.toInt_inj.mp
  show (BitVec.sshiftRight (lL a).toBitVec (x.toBitVec.smod 64).toNat).toInt = _
  rw [hk, BitVec.toInt_sshiftRight, Int.shiftRight_eq_div_pow]
  show (lL a).toInt / _ = _
  rw [lL_toInt ha, lL_toInt (Nat.lt_of_le_of_lt (Nat.div_le_self _ _) ha)]
  rfl
theorem rw_get {c : Nat → Nat} (hc : ∀ k, c k < 19) {k : Nat} (hk : k < 7) : rwN c 7 / 2 ^ (5 * k) % 32 = c k := by
  have h0 := hc 0
  have h1 := hc 1
  have h2 := hc 2
  have h3 := hc 3
  have h4 := hc 4
  have h5 := hc 5
  have h6 := hc 6
  have hd : rwN c 7 = 0 + c 0 * 2 ^ (5 * 0) + c 1 * 2 ^ (5 * 1) + c 2 * 2 ^ (5 * 2) + c 3 * 2 ^ (5 * 3) + c 4 * 2 ^ (5 * 4) + c 5 * 2 ^ (5 * 5) + c 6 * 2 ^ (5 * 6) := rfl
  rw [hd]
  have e : k = 0 ∨ k = 1 ∨ k = 2 ∨ k = 3 ∨ k = 4 ∨ k = 5 ∨ k = 6 := by omega
  rcases e with rfl | rfl | rfl | rfl | rfl | rfl | rfl <;> omega
theorem rw_ch {c : Nat → Nat} (hc : ∀ k, c k < 19) {k : Nat} (hk : k < 7) : chF (lL (rwN c 7)) k = nI (c k) - 9 := by
  have hr := rwN_lt hc 7
  have hs : ((((5 * nI k).toInt64 &&& 63) : Int64).toBitVec.smod 64).toNat = 5 * k := by
    have e : k = 0 ∨ k = 1 ∨ k = 2 ∨ k = 3 ∨ k = 4 ∨ k = 5 ∨ k = 6 := by omega
    rcases e with rfl | rfl | rfl | rfl | rfl | rfl | rfl <;> decide
  unfold chF
  have hq : rwN c 7 / 2 ^ (5 * k) ≤ rwN c 7 := Nat.div_le_self _ _
  rw [lL_sar hs (by omega), lL_and5 (by omega), rw_get hc hk, lL_32 (by have := hc k; omega)]
theorem ch_in {x : Nat} (h : x < 19) : -9 ≤ nI x - 9 ∧ nI x - 9 ≤ 9 := by
  have e : (nI x - 9).toInt = (x : Int) - 9 := by
    have := pk_sub_toInt (a := x) (b := 9) (by omega) (by omega)
    exact this
  rw [i32_le_iff, i32_le_iff, e, show (-9 : Int32).toInt = -9 from rfl, show (9 : Int32).toInt = 9 from rfl]
  omega
theorem rw_ok {c : Nat → Nat} (hc : ∀ k, c k < 19) : chP (lL (rwN c 7)) := fun k hk => by rw [rw_ch hc hk]; exact ch_in (hc k)
theorem ch_31 : ¬ chP 31 := fun h => absurd (h 0 (by omega)).2 (by decide)
def mkR (mk : Nat → Int32) (i : Nat) (c : Nat → Nat) (k : Nat) : Nat → Int32 := fun j => if 12 * i + 4 ≤ j ∧ j < 12 * i + 4 + k then nI (c (j - (12 * i + 4))) - 9 else mk j
theorem mkR_0 {mk : Nat → Int32} {i : Nat} {c : Nat → Nat} {j : Nat} : mk j = mkR mk i c 0 j := (if_neg (by omega)).symm
theorem mkR_s {mk : Nat → Int32} {i k : Nat} {c : Nat → Nat} {j : Nat} : upd (mkR mk i c k) (12 * i + 4 + k) (nI (c k) - 9) j = mkR mk i c (k + 1) j := by
  simp only [upd]
  unfold mkR
  by_cases q : j = 12 * i + 4 + k
  · rw [if_pos q, if_pos (by omega), show j - (12 * i + 4) = k by omega]
  · rw [if_neg q]
    by_cases w : 12 * i + 4 ≤ j ∧ j < 12 * i + 4 + k
    · rw [if_pos w, if_pos (by omega)]
    · rw [if_neg w, if_neg (by omega)]
theorem ch_o {r : Nat → Int32} {i k : Nat} {x : Int64} (h : k < 13 + 14 * i ∨ 20 + 14 * i ≤ k) : chR r i x 7 k = r k := if_neg (by omega)
theorem rw_RM {r mk : Nat → Int32} (h : RM r mk) {i : Nat} {c : Nat → Nat} (hc : ∀ k, c k < 19) : RM (chR r i (lL (rwN c 7)) 7) (mkR mk i c 7) := by
  intro i2 hi
  rw [nlv_same (ch_o (r := r) (i := i) (x := lL (rwN c 7)) (k := 5) (by omega))] at hi
  obtain ⟨h1, h2, h3⟩ := h i2 hi
  have z : ∀ j, ¬ (12 * i + 4 ≤ j ∧ j < 12 * i + 4 + 7) → mkR mk i c 7 j = mk j := fun j hj => if_neg hj
  refine ⟨?_, fun t ht => ?_, fun j hj => ?_⟩
  · rw [z _ (by omega), ch_o (by omega)]; exact h1
  · rw [z _ (by omega), ch_o (by omega)]; exact h2 t ht
  · by_cases q : i2 = i
    · subst q
      unfold mkR chR
      rw [if_pos (by omega), if_pos (by omega), show 12 * i2 + 4 + j - (12 * i2 + 4) = j by omega, show 12 + 14 * i2 + (1 + j) - (12 + 14 * i2 + 1) = j by omega, rw_ch hc hj]
    · rw [z _ (by omega), ch_o (by omega)]; exact h3 j hj
/-! days -/
theorem pd_row {r : Nat → Int32} {d : Int32} {i : Nat} (hi : i < nlv r) : upd (agF r d (nlv r)) 2 (r 2 + d) (12 + 14 * i + 12) = r (12 + 14 * i + 12) + d := by
  rw [upd_ne (by omega)]
  unfold agF
  rw [if_pos (by omega)]
theorem pd_o {r : Nat → Int32} {d : Int32} {k : Nat} (h : k ≠ 2) (h2 : ¬ (24 ≤ k ∧ (k - 24) % 14 = 0)) : upd (agF r d (nlv r)) 2 (r 2 + d) k = r k := by
  rw [upd_ne h]
  exact if_neg (fun q => h2 ⟨q.1, q.2.1⟩)
theorem day_lt {r : Nat → Int32} (h : Iv r) (hd : (r 2).toInt ≤ 2000) {n : Nat} (hn : n ≤ 99) : ¬ 9999 < r 2 + nI n ∧ (r 2 + nI n).toInt = (r 2).toInt + n := by
  have h0 := h.1.2.2
  have e : (r 2 + nI n).toInt = (r 2).toInt + n := by
    rw [Int32.toInt_add, nI_toInt (by omega), Int.bmod_eq_of_le (by omega) (by omega)]
  refine ⟨fun q => ?_, e⟩
  rw [i32_lt_iff, e, show (9999 : Int32).toInt = 9999 from rfl] at q
  omega
