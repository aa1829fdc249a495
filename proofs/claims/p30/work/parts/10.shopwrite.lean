/-! what changes a shop: as functions of the row -/
theorem nIt {t : Nat} (h : t < 2 ^ 31) : (nI t).toInt.toNat = t := by rw [nI_toInt h]; omega
theorem ix_of {x : Int32} {n : Nat} (h0 : 0 ≤ x) (h : x < nI n) (hn : n < 2 ^ 31) : ∃ t, t < n ∧ x = nI t := by
  rw [i32_le_iff] at h0
  have h0 : 0 ≤ x.toInt := h0
  rw [i32_lt_iff, nI_toInt hn] at h
  exact ⟨x.toInt.toNat, by omega, nI_of_toInt h0⟩
theorem i32_nlt {x y : Int32} (h : ¬ x < y) : y ≤ x := by rw [i32_le_iff]; rw [i32_lt_iff] at h; omega
theorem i32_nle {x y : Int32} (h : ¬ x ≤ y) : y < x := by rw [i32_lt_iff]; rw [i32_le_iff] at h; omega
theorem i32_lt_nle {x y : Int32} (h : x < y) : ¬ y ≤ x := by rw [i32_le_iff]; rw [i32_lt_iff] at h; omega
theorem i32_le_nlt {x y : Int32} (h : x ≤ y) : ¬ y < x := by rw [i32_lt_iff]; rw [i32_le_iff] at h; omega
abbrev Op : Type := Int32 × (Nat → Int32)
abbrev lfP (r : Nat → Int32) (x : Int32) : Prop := 0 ≤ x ∧ x < r 5
def bnO (r : Nat → Int32) (x lo hi : Int32) : Op :=
  if ¬ (0 ≤ x ∧ x < 3) then (-1, r) else if ¬ ((0 ≤ lo ∧ lo ≤ 100) ∧ (lo ≤ hi ∧ hi ≤ 100)) then (-2, r) else (100 * r (6 + x.toInt.toNat) + r (9 + x.toInt.toNat), upd (upd r (6 + x.toInt.toNat) lo) (9 + x.toInt.toNat) hi)
theorem bnO_1 {r : Nat → Int32} {x lo hi : Int32} (h : ¬ (0 ≤ x ∧ x < 3)) : bnO r x lo hi = (-1, r) := if_pos h
theorem bnO_2 {r : Nat → Int32} {x lo hi : Int32} (h : 0 ≤ x ∧ x < 3) (h2 : ¬ ((0 ≤ lo ∧ lo ≤ 100) ∧ (lo ≤ hi ∧ hi ≤ 100))) : bnO r x lo hi = (-2, r) := (if_neg (fun q => q h)).trans (if_pos h2)
theorem bnO_3 {r : Nat → Int32} {t : Nat} {lo hi : Int32} (ht : t < 3) (h : 0 ≤ nI t ∧ nI t < 3) (h2 : (0 ≤ lo ∧ lo ≤ 100) ∧ (lo ≤ hi ∧ hi ≤ 100)) : bnO r (nI t) lo hi = (100 * r (6 + t) + r (9 + t), upd (upd r (6 + t) lo) (9 + t) hi) := by
  refine ((if_neg (fun q => q h)).trans (if_neg (fun q => q h2))).trans ?_
  rw [nIt (by omega)]
def bgO (r : Nat → Int32) (x g : Int32) : Op :=
  if ¬ lfP r x then (-1, r) else if ¬ (1 ≤ g ∧ g ≤ 9999) then (-2, r) else if 9999 < r (12 + 14 * x.toInt.toNat + 11) + g then (-5, r) else
    (r (12 + 14 * x.toInt.toNat + 11) + g, upd (upd r (12 + 14 * x.toInt.toNat + 12) (if 0 < r (12 + 14 * x.toInt.toNat + 11) + g then r (12 + 14 * x.toInt.toNat + 11) * r (12 + 14 * x.toInt.toNat + 12) / (r (12 + 14 * x.toInt.toNat + 11) + g) else 0)) (12 + 14 * x.toInt.toNat + 11) (r (12 + 14 * x.toInt.toNat + 11) + g))
def shO (r : Nat → Int32) (x v : Int32) : Op :=
  if ¬ lfP r x then (-1, r) else if ¬ (0 ≤ v ∧ v ≤ 20) then (-2, r) else if 20 < shS r - r (12 + 14 * x.toInt.toNat + 13) + v then (-5, r) else
    (shS r - r (12 + 14 * x.toInt.toNat + 13) + v, upd r (12 + 14 * x.toInt.toNat + 13) v)
def agF (r : Nat → Int32) (d : Int32) (n : Nat) : Nat → Int32 := fun k => if 24 ≤ k ∧ (k - 24) % 14 = 0 ∧ (k - 24) / 14 < n then r k + d else r k
def pdO (r : Nat → Int32) (d : Int32) : Op :=
  if ¬ (1 ≤ d ∧ d ≤ 99) then (-2, r) else if 9999 < r 2 + d then (-5, r) else (r 2 + d, upd (agF r d (nlv r)) 2 (r 2 + d))
def shR (r s : Nat → Int32) (n : Nat) : Nat → Int32 := fun k => if 25 ≤ k ∧ (k - 25) % 14 = 0 ∧ (k - 25) / 14 < n then s ((k - 25) / 14) else r k
def mgR (r : Nat → Int32) (g : Int32) (n : Nat) : Nat → Int32 := fun k => if 23 ≤ k ∧ (k - 23) % 14 = 0 ∧ (k - 23) / 14 < n then r k - ndF r ((k - 23) / 14) g else r k
noncomputable def mxO (r : Nat → Int32) (g : Int32) : Op :=
  if ¬ (1 ≤ g ∧ g ≤ 9999) then (-2, r) else @ite _ (¬ (whyF r 0 = 0 ∧ sfP r g)) (Classical.propDecidable _) (-5, r)
    (prS r / 20, upd (upd (mgR r g (nlv r)) 3 (r 3 + g)) 4 (r 4 + g * (prS r / 20) / 100))
def chR (r : Nat → Int32) (i : Nat) (x : Int64) (n : Nat) : Nat → Int32 := fun k => if 12 + 14 * i + 1 ≤ k ∧ k < 12 + 14 * i + 1 + n then chF x (k - (12 + 14 * i + 1)) else r k
def chP (x : Int64) : Prop := ∀ k, k < 7 → -9 ≤ chF x k ∧ chF x k ≤ 9
noncomputable def rwO (r : Nat → Int32) (x : Int32) (y : Int64) : Op :=
  @ite _ (¬ lfP r x) (Classical.propDecidable _) (-1, r) (@ite _ (¬ chP y) (Classical.propDecidable _) (-2, r) (prF (chR r x.toInt.toNat y 7) x.toInt.toNat, chR r x.toInt.toNat y 7))
def lfN (p a b c st : Int32) : Nat → Int32 := fun j => if j = 0 then p else if j = 8 then a else if j = 9 then b else if j = 10 then c else if j = 11 then st else 0
def adR (r : Nat → Int32) (n : Nat) (p a b c st : Int32) : Nat → Int32 := fun k => if k = 5 then nI (n + 1) else if 12 + 14 * n ≤ k ∧ k < 26 + 14 * n then lfN p a b c st (k - (12 + 14 * n)) else r k
def lfOk (p a b c st : Int32) : Prop := ((0 ≤ a ∧ a ≤ 100) ∧ (0 ≤ b ∧ b ≤ 100) ∧ (0 ≤ c ∧ c ≤ 100)) ∧ (0 ≤ p ∧ p ≤ 999) ∧ (0 ≤ st ∧ st ≤ 9999)
noncomputable def adO (r : Nat → Int32) (p a b c st : Int32) : Op :=
  @ite _ (¬ lfOk p a b c st) (Classical.propDecidable _) (-2, r) (if 5 ≤ nlv r then (-4, r) else (nI (nlv r), adR r (nlv r) p a b c st))

set_option maxHeartbeats 4000000 in
set_option maxRecDepth 100000 in
theorem k_X5_changeBounds (l : Launch) (G : GG) (b : Nat) (r : Nat → Int32) (x lo hi : Int32)  : Met l yX5_changeBounds (ws_ yX5_changeBounds cX5_changeBounds 5 (some .int)) (rm_ 1) (PC G [.ref b, .int x, .int lo, .int hi] (ShopAt G b r)) (QI (fun v H => v = (bnO r x lo hi).1 ∧ ShopAt G b (bnO r x lo hi).2 H) (In b 20)) 0 0 (In b 20) := by
  refine met_q (by decide +kernel) (Nat.le_of_ble_eq_true rfl) ?_
  intro p e s m args below meth c Q hQ hx hb hr hT hown hml hlocks hnm hK hSh ls hl
  have hl : lv_has ls 5 [(0, .ref b), (1, .int x), (2, .int lo), (3, .int hi)] := hl
  have hS : va_S (In b 20) s.heap s.heap [] := va_S.rf
  refine lv_iload_n hx hb dX5_changeBounds_0 rfl (lv_at hl 1 rfl) ?_
  refine lv_if_lt (tgt := 9) hx hb dX5_changeBounds_1 (by decide) (fun c1 => ?_) (fun c1 => ?_)
  · refine lv_iconst (v := (-1)) hx hb dX5_changeBounds_9 (by decide) ?_
    exact nd_I hQ hx hb hr hlocks dX5_changeBounds_10 hS (by rw [bnO_1 (fun q => i32_le_nlt q.1 c1)]; exact ⟨rfl, hSh⟩)
  · refine lv_iload_n hx hb dX5_changeBounds_4 rfl (lv_at hl 1 rfl) ?_
    refine lv_iconst (v := 3) hx hb dX5_changeBounds_5 (by decide) ?_
    refine lv_icmp_lt (tgt := 11) hx hb dX5_changeBounds_6 (by decide) (fun c2 => ?_) (fun c2 => ?_)
    · have hx3 : 0 ≤ x ∧ x < 3 := ⟨i32_nlt c1, c2⟩
      refine lv_iload_n hx hb dX5_changeBounds_11 rfl (lv_at hl 2 rfl) ?_
      refine lv_iconst (v := 0) hx hb dX5_changeBounds_12 (by decide) ?_
      refine lv_bipush (v := 100) hx hb dX5_changeBounds_13 (by decide) ?_
      refine got_i (run_s hx hb hml hown hT hK hl.1 (k_X5_isWithin l G lo 0 100) (cw_X5_71 hT ⟨Nat.le_of_ble_eq_true rfl, Nat.le_of_ble_eq_true rfl⟩) trivial rfl rfl (Nat.le_of_ble_eq_true rfl) dX5_changeBounds_15 ⟨Nat.zero_le _, Nat.zero_le _⟩) (fun v_1 hv_1 => ?_)
      subst hv_1
      refine lv_if_eq (tgt := 31) hx hb dX5_changeBounds_18 (by decide) (fun c3 => ?_) (fun c3 => ?_)
      · refine lv_bipush (v := (-2)) hx hb dX5_changeBounds_31 (by decide) ?_
        exact nd_I hQ hx hb hr hlocks dX5_changeBounds_33 hS (by rw [bnO_2 hx3 (fun q => bi_e0 c3 q.1)]; exact ⟨rfl, hSh⟩)
      · refine lv_iload_n hx hb dX5_changeBounds_21 rfl (lv_at hl 3 rfl) ?_
        refine lv_iload_n hx hb dX5_changeBounds_22 rfl (lv_at hl 2 rfl) ?_
        refine lv_bipush (v := 100) hx hb dX5_changeBounds_23 (by decide) ?_
        refine got_i (run_s hx hb hml hown hT hK hl.1 (k_X5_isWithin l G hi lo 100) (cw_X5_71 hT ⟨Nat.le_of_ble_eq_true rfl, Nat.le_of_ble_eq_true rfl⟩) trivial rfl rfl (Nat.le_of_ble_eq_true rfl) dX5_changeBounds_25 ⟨Nat.zero_le _, Nat.zero_le _⟩) (fun v_2 hv_2 => ?_)
        subst hv_2
        refine lv_if_ne (tgt := 34) hx hb dX5_changeBounds_28 (by decide) (fun c4 => ?_) (fun c4 => ?_)
        · have hr2 : (0 ≤ lo ∧ lo ≤ 100) ∧ (lo ≤ hi ∧ hi ≤ 100) := ⟨bi_n0 c3, bi_n0 c4⟩
          obtain ⟨t, ht, rfl⟩ := ix_of hx3.1 (n := 3) hx3.2 (by omega)
          refine lv_bipush (v := 100) hx hb dX5_changeBounds_34 (by decide) ?_
          refine lv_aload_n hx hb dX5_changeBounds_36 rfl (lv_at hl 0 rfl) ?_
          refine rg (C := RX5) (T := TX5) (N := 8) (v := .ref (b + 2)) hx hb hT inX5 hown hK hSh.1 rfl 1 (by decide) mf_X5_17 rfl dX5_changeBounds_37 ?_
          refine lv_iload_n hx hb dX5_changeBounds_40 rfl (lv_at hl 1 rfl) ?_
          refine r_iald hx hb hK hSh.2.2.1 t (rfl) (by omega) (Nat.le_of_ble_eq_true rfl) dX5_changeBounds_41 ?_
          refine lv_imul hx hb dX5_changeBounds_42 ?_
          refine lv_aload_n hx hb dX5_changeBounds_43 rfl (lv_at hl 0 rfl) ?_
          refine rg (C := RX5) (T := TX5) (N := 8) (v := .ref (b + 3)) hx hb hT inX5 hown hK hSh.1 rfl 2 (by decide) mf_X5_21 rfl dX5_changeBounds_44 ?_
          refine lv_iload_n hx hb dX5_changeBounds_47 rfl (lv_at hl 1 rfl) ?_
          refine r_iald hx hb hK hSh.2.2.2.1 t (rfl) (by omega) (Nat.le_of_ble_eq_true rfl) dX5_changeBounds_48 ?_
          refine lv_iadd hx hb dX5_changeBounds_49 ?_
          refine lv_istore (lv' := [(4, .int ((100 * (r (6 + t))) + (r (9 + t)))), (0, .ref b), (1, .int (nI t)), (2, .int lo), (3, .int hi)]) hx hb dX5_changeBounds_50 hl (by decide) rfl (fun ls hl => ?_)
          refine lv_aload_n hx hb dX5_changeBounds_52 rfl (lv_at hl 1 rfl) ?_
          refine rg (C := RX5) (T := TX5) (N := 8) (v := .ref (b + 2)) hx hb hT inX5 hown hK hSh.1 rfl 1 (by decide) mf_X5_17 rfl dX5_changeBounds_53 ?_
          refine lv_iload_n hx hb dX5_changeBounds_56 rfl (lv_at hl 2 rfl) ?_
          refine lv_iload_n hx hb dX5_changeBounds_57 rfl (lv_at hl 3 rfl) ?_
          refine r_iast hx hb hK hSh.2.2.1 t (rfl) (by omega) (Nat.le_of_ble_eq_true rfl) hS (show _ ∧ _ from ⟨by omega, by omega⟩) dX5_changeBounds_58 (fun H locs h1 o hS => ?_)
          have hSh := hSh.pLow ht h1 o
          refine lv_aload_n hx hb dX5_changeBounds_59 rfl (lv_at hl 1 rfl) ?_
          refine rg (C := RX5) (T := TX5) (N := 8) (v := .ref (b + 3)) hx hb hT inX5 hown hK hSh.1 rfl 2 (by decide) mf_X5_21 rfl dX5_changeBounds_60 ?_
          refine lv_iload_n hx hb dX5_changeBounds_63 rfl (lv_at hl 2 rfl) ?_
          refine lv_iload_n hx hb dX5_changeBounds_64 rfl (lv_at hl 4 rfl) ?_
          refine r_iast hx hb hK hSh.2.2.2.1 t (rfl) (by omega) (Nat.le_of_ble_eq_true rfl) hS (show _ ∧ _ from ⟨by omega, by omega⟩) dX5_changeBounds_65 (fun H locs h1 o hS => ?_)
          have hSh := hSh.pHigh ht h1 o
          refine lv_iload hx hb dX5_changeBounds_66 (lv_at hl 0 rfl) ?_
          exact nd_I hQ hx hb hr hlocks dX5_changeBounds_68 hS (by rw [bnO_3 ht hx3 hr2]; exact ⟨rfl, hSh⟩)
        · refine lv_bipush (v := (-2)) hx hb dX5_changeBounds_31 (by decide) ?_
          exact nd_I hQ hx hb hr hlocks dX5_changeBounds_33 hS (by rw [bnO_2 hx3 (fun q => bi_e0 c4 q.2)]; exact ⟨rfl, hSh⟩)
    · refine lv_iconst (v := (-1)) hx hb dX5_changeBounds_9 (by decide) ?_
      exact nd_I hQ hx hb hr hlocks dX5_changeBounds_10 hS (by rw [bnO_1 (fun q => c2 q.2)]; exact ⟨rfl, hSh⟩)


theorem bgO_1 {r : Nat → Int32} {x g : Int32} (h : ¬ lfP r x) : bgO r x g = (-1, r) := if_pos h
theorem bgO_2 {r : Nat → Int32} {x g : Int32} (h : lfP r x) (h2 : ¬ (1 ≤ g ∧ g ≤ 9999)) : bgO r x g = (-2, r) := (if_neg (fun q => q h)).trans (if_pos h2)
theorem bgO_3 {r : Nat → Int32} {i : Nat} {g : Int32} (hi : i < 5) (h : lfP r (nI i)) (h2 : 1 ≤ g ∧ g ≤ 9999) (h3 : 9999 < r (12 + 14 * i + 11) + g) : bgO r (nI i) g = (-5, r) := by
  refine ((if_neg (fun q => q h)).trans (if_neg (fun q => q h2))).trans (if_pos ?_)
  rw [nIt (by omega)]
  exact h3
theorem bgO_4 {r : Nat → Int32} {i : Nat} {g : Int32} (hi : i < 5) (h : lfP r (nI i)) (h2 : 1 ≤ g ∧ g ≤ 9999) (h3 : ¬ 9999 < r (12 + 14 * i + 11) + g) : bgO r (nI i) g = (r (12 + 14 * i + 11) + g, upd (upd r (12 + 14 * i + 12) (if 0 < r (12 + 14 * i + 11) + g then r (12 + 14 * i + 11) * r (12 + 14 * i + 12) / (r (12 + 14 * i + 11) + g) else 0)) (12 + 14 * i + 11) (r (12 + 14 * i + 11) + g)) := by
  refine ((if_neg (fun q => q h)).trans (if_neg (fun q => q h2))).trans ((if_neg ?_).trans ?_)
  · rw [nIt (by omega)]
    exact h3
  · rw [nIt (by omega)]
theorem lf_ix {r : Nat → Int32} {x : Int32} (hw : WF r) (h : lfP r x) : ∃ i, i < nlv r ∧ x = nI i := ix_of h.1 (by rw [← hw.nl]; exact h.2) (by have := hw.nl5; omega)

set_option maxHeartbeats 4000000 in
set_option maxRecDepth 100000 in
theorem k_X5_addGrams (l : Launch) (G : GG) (b : Nat) (r : Nat → Int32) (x g : Int32) (hw : WF r) : Met l yX5_addGrams (ws_ yX5_addGrams cX5_addGrams 5 (some .int)) (rm_ 1) (PC G [.ref b, .int x, .int g] (ShopAt G b r)) (QI (fun v H => v = (bgO r x g).1 ∧ ShopAt G b (bgO r x g).2 H) (In b 20)) 0 0 (In b 20) := by
  refine met_q (by decide +kernel) (Nat.le_of_ble_eq_true rfl) ?_
  intro p e s m args below meth c Q hQ hx hb hr hT hown hml hlocks hnm hK hSh ls hl
  have hl : lv_has ls 5 [(0, .ref b), (1, .int x), (2, .int g)] := hl
  have hS : va_S (In b 20) s.heap s.heap [] := va_S.rf
  have hn5 := hw.nl5
  refine lv_aload_n hx hb dX5_addGrams_0 rfl (lv_at hl 0 rfl) ?_
  refine lv_iload_n hx hb dX5_addGrams_1 rfl (lv_at hl 1 rfl) ?_
  refine got_i (run_i hx hb hml hown hT hK hl.1 (k_X5_hasLeaf l G b r x) (cw_X5_82 hT ⟨Nat.le_of_ble_eq_true rfl, Nat.le_of_ble_eq_true rfl⟩) hSh.1 rfl hSh rfl rfl (Nat.le_of_ble_eq_true rfl) dX5_addGrams_2 ⟨Nat.zero_le _, Nat.zero_le _⟩) (fun v_1 hv_1 => ?_)
  subst hv_1
  refine lv_if_ne (tgt := 10) hx hb dX5_addGrams_5 (by decide) (fun c1 => ?_) (fun c1 => ?_)
  · have hl1 : lfP r x := bi_n0 c1
    refine lv_iload_n hx hb dX5_addGrams_10 rfl (lv_at hl 2 rfl) ?_
    refine lv_iconst (v := 1) hx hb dX5_addGrams_11 (by decide) ?_
    refine lv_sipush (v := 9999) hx hb dX5_addGrams_12 (by decide) ?_
    refine got_i (run_s hx hb hml hown hT hK hl.1 (k_X5_isWithin l G g 1 9999) (cw_X5_71 hT ⟨Nat.le_of_ble_eq_true rfl, Nat.le_of_ble_eq_true rfl⟩) trivial rfl rfl (Nat.le_of_ble_eq_true rfl) dX5_addGrams_15 ⟨Nat.zero_le _, Nat.zero_le _⟩) (fun v_2 hv_2 => ?_)
    subst hv_2
    refine lv_if_ne (tgt := 24) hx hb dX5_addGrams_18 (by decide) (fun c2 => ?_) (fun c2 => ?_)
    · have hg := bi_n0 c2
      obtain ⟨i, hi, rfl⟩ := lf_ix hw hl1
      refine lv_aload_n hx hb dX5_addGrams_24 rfl (lv_at hl 0 rfl) ?_
      refine rg (C := RX5) (T := TX5) (N := 8) (v := .ref (b + 1)) hx hb hT inX5 hown hK hSh.1 rfl 0 (by decide) mf_X5_11 rfl dX5_addGrams_25 ?_
      refine lv_iload_n hx hb dX5_addGrams_28 rfl (lv_at hl 1 rfl) ?_
      refine r_aaldS (y := b + 5 + 3 * i) hx hb hK hSh.2.1 rfl rfl i (rfl) (by omega) (Nat.le_of_ble_eq_true rfl) rfl dX5_addGrams_29 ?_
      refine lv_astore_n (lv' := [(3, .ref (b + 5 + 3 * i)), (0, .ref b), (1, .int (nI i)), (2, .int g)]) hx hb dX5_addGrams_30 rfl hl (by decide) rfl (fun ls hl => ?_)
      refine lv_aload_n hx hb dX5_addGrams_31 rfl (lv_at hl 0 rfl) ?_
      refine rg (C := RX1) (T := TX1) (N := 6) (v := .int (r (12 + 14 * i + 11))) hx hb hT inX1 hown hK (hSh.leaf (i := i) (by omega)).1 rfl 1 (by decide) mf_X5_99 rfl dX5_addGrams_32 ?_
      refine lv_iload_n hx hb dX5_addGrams_35 rfl (lv_at hl 3 rfl) ?_
      refine lv_iadd hx hb dX5_addGrams_36 ?_
      refine lv_istore (lv' := [(4, .int ((r (12 + 14 * i + 11)) + g)), (3, .ref (b + 5 + 3 * i)), (0, .ref b), (1, .int (nI i)), (2, .int g)]) hx hb dX5_addGrams_37 hl (by decide) rfl (fun ls hl => ?_)
      refine lv_iload hx hb dX5_addGrams_39 (lv_at hl 0 rfl) ?_
      refine lv_sipush (v := 9999) hx hb dX5_addGrams_41 (by decide) ?_
      refine lv_icmp_le (tgt := 50) hx hb dX5_addGrams_44 (by decide) (fun c3 => ?_) (fun c3 => ?_)
      · refine lv_aload_n hx hb dX5_addGrams_50 rfl (lv_at hl 1 rfl) ?_
        refine lv_iload hx hb dX5_addGrams_51 (lv_at hl 0 rfl) ?_
        refine lv_if_le (tgt := 71) hx hb dX5_addGrams_53 (by decide) (fun cq => ?_) (fun cq => ?_)
        · refine lv_iconst (v := 0) hx hb dX5_addGrams_71 (by decide) ?_
          refine rp (C := RX1) (T := TX1) (N := 6) (v := .int 0) (ty := .int) hx hb hT inX1 tyX1 tyX1_ok nmX1 hown hK (hSh.leaf (i := i) (by omega)).1 rfl 2 (by decide) mf_X5_102 rfl (by decide +kernel) rfl rfl (Nat.le_of_ble_eq_true rfl) hS (show _ ∧ _ from ⟨by omega, by omega⟩) dX5_addGrams_72 (fun H locs h1 o hS => ?_)
          have hSh := hSh.pAge (by omega) h1 o
          refine lv_aload_n hx hb dX5_addGrams_75 rfl (lv_at hl 1 rfl) ?_
          refine lv_iload hx hb dX5_addGrams_76 (lv_at hl 0 rfl) ?_
          refine rp (C := RX1) (T := TX1) (N := 6) (v := .int ((r (12 + 14 * i + 11)) + g)) (ty := .int) hx hb hT inX1 tyX1 tyX1_ok nmX1 hown hK (hSh.leaf (i := i) (by omega)).1 rfl 1 (by decide) mf_X5_99 rfl (by decide +kernel) rfl rfl (Nat.le_of_ble_eq_true rfl) hS (show _ ∧ _ from ⟨by omega, by omega⟩) dX5_addGrams_78 (fun H locs h1 o hS => ?_)
          have hSh := hSh.pStock (by omega) h1 o
          refine lv_iload hx hb dX5_addGrams_81 (lv_at hl 0 rfl) ?_
          exact nd_I hQ hx hb hr hlocks dX5_addGrams_83 hS (by rw [bgO_4 (by omega) hl1 hg (i32_le_nlt c3), if_neg (i32_le_nlt cq)]; exact ⟨rfl, hSh⟩)
        · have cq := i32_nle cq
          refine lv_aload_n hx hb dX5_addGrams_56 rfl (lv_at hl 1 rfl) ?_
          refine rg (C := RX1) (T := TX1) (N := 6) (v := .int (r (12 + 14 * i + 11))) hx hb hT inX1 hown hK (hSh.leaf (i := i) (by omega)).1 rfl 1 (by decide) mf_X5_99 rfl dX5_addGrams_57 ?_
          refine lv_aload_n hx hb dX5_addGrams_60 rfl (lv_at hl 1 rfl) ?_
          refine rg (C := RX1) (T := TX1) (N := 6) (v := .int (r (12 + 14 * i + 12))) hx hb hT inX1 hown hK (hSh.leaf (i := i) (by omega)).1 rfl 2 (by decide) mf_X5_102 rfl dX5_addGrams_61 ?_
          refine lv_imul hx hb dX5_addGrams_64 ?_
          refine lv_iload hx hb dX5_addGrams_65 (lv_at hl 0 rfl) ?_
          refine lv_idiv hx hb dX5_addGrams_67 (fun q => i32_le_nlt (i32_le_iff.mpr (by rw [q]; decide)) cq) ?_
          refine lv_goto (tgt := 72) hx hb dX5_addGrams_68 (by decide) ?_
          refine rp (C := RX1) (T := TX1) (N := 6) (v := .int (((r (12 + 14 * i + 11)) * (r (12 + 14 * i + 12))) / ((r (12 + 14 * i + 11)) + g))) (ty := .int) hx hb hT inX1 tyX1 tyX1_ok nmX1 hown hK (hSh.leaf (i := i) (by omega)).1 rfl 2 (by decide) mf_X5_102 rfl (by decide +kernel) rfl rfl (Nat.le_of_ble_eq_true rfl) hS (show _ ∧ _ from ⟨by omega, by omega⟩) dX5_addGrams_72 (fun H locs h1 o hS => ?_)
          have hSh := hSh.pAge (by omega) h1 o
          refine lv_aload_n hx hb dX5_addGrams_75 rfl (lv_at hl 1 rfl) ?_
          refine lv_iload hx hb dX5_addGrams_76 (lv_at hl 0 rfl) ?_
          refine rp (C := RX1) (T := TX1) (N := 6) (v := .int ((r (12 + 14 * i + 11)) + g)) (ty := .int) hx hb hT inX1 tyX1 tyX1_ok nmX1 hown hK (hSh.leaf (i := i) (by omega)).1 rfl 1 (by decide) mf_X5_99 rfl (by decide +kernel) rfl rfl (Nat.le_of_ble_eq_true rfl) hS (show _ ∧ _ from ⟨by omega, by omega⟩) dX5_addGrams_78 (fun H locs h1 o hS => ?_)
          have hSh := hSh.pStock (by omega) h1 o
          refine lv_iload hx hb dX5_addGrams_81 (lv_at hl 0 rfl) ?_
          exact nd_I hQ hx hb hr hlocks dX5_addGrams_83 hS (by rw [bgO_4 (by omega) hl1 hg (i32_le_nlt c3), if_pos cq]; exact ⟨rfl, hSh⟩)
      · refine lv_bipush (v := (-5)) hx hb dX5_addGrams_47 (by decide) ?_
        exact nd_I hQ hx hb hr hlocks dX5_addGrams_49 hS (by rw [bgO_3 (by omega) hl1 hg (i32_nle c3)]; exact ⟨rfl, hSh⟩)
    · refine lv_bipush (v := (-2)) hx hb dX5_addGrams_21 (by decide) ?_
      exact nd_I hQ hx hb hr hlocks dX5_addGrams_23 hS (by rw [bgO_2 hl1 (bi_e0 c2)]; exact ⟨rfl, hSh⟩)
  · refine lv_iconst (v := (-1)) hx hb dX5_addGrams_8 (by decide) ?_
    exact nd_I hQ hx hb hr hlocks dX5_addGrams_9 hS (by rw [bgO_1 (bi_e0 c1)]; exact ⟨rfl, hSh⟩)


theorem shO_1 {r : Nat → Int32} {x g : Int32} (h : ¬ lfP r x) : shO r x g = (-1, r) := if_pos h
theorem shO_2 {r : Nat → Int32} {x g : Int32} (h : lfP r x) (h2 : ¬ (0 ≤ g ∧ g ≤ 20)) : shO r x g = (-2, r) := (if_neg (fun q => q h)).trans (if_pos h2)
theorem shO_3 {r : Nat → Int32} {i : Nat} {g : Int32} (hi : i < 5) (h : lfP r (nI i)) (h2 : 0 ≤ g ∧ g ≤ 20) (h3 : 20 < shS r - r (12 + 14 * i + 13) + g) : shO r (nI i) g = (-5, r) := by
  refine ((if_neg (fun q => q h)).trans (if_neg (fun q => q h2))).trans (if_pos ?_)
  rw [nIt (by omega)]
  exact h3
theorem shO_4 {r : Nat → Int32} {i : Nat} {g : Int32} (hi : i < 5) (h : lfP r (nI i)) (h2 : 0 ≤ g ∧ g ≤ 20) (h3 : ¬ 20 < shS r - r (12 + 14 * i + 13) + g) : shO r (nI i) g = (shS r - r (12 + 14 * i + 13) + g, upd r (12 + 14 * i + 13) g) := by
  refine ((if_neg (fun q => q h)).trans (if_neg (fun q => q h2))).trans ((if_neg ?_).trans ?_)
  · rw [nIt (by omega)]
    exact h3
  · rw [nIt (by omega)]

set_option maxHeartbeats 4000000 in
set_option maxRecDepth 100000 in
theorem k_X5_changeShare (l : Launch) (G : GG) (b : Nat) (r : Nat → Int32) (x g : Int32) (hw : WF r) : Met l yX5_changeShare (ws_ yX5_changeShare cX5_changeShare 4 (some .int)) (rm_ 1) (PC G [.ref b, .int x, .int g] (ShopAt G b r)) (QI (fun v H => v = (shO r x g).1 ∧ ShopAt G b (shO r x g).2 H) (In b 20)) 0 0 (In b 20) := by
  refine met_q (by decide +kernel) (Nat.le_of_ble_eq_true rfl) ?_
  intro p e s m args below meth c Q hQ hx hb hr hT hown hml hlocks hnm hK hSh ls hl
  have hl : lv_has ls 4 [(0, .ref b), (1, .int x), (2, .int g)] := hl
  have hS : va_S (In b 20) s.heap s.heap [] := va_S.rf
  have hn5 := hw.nl5
  refine lv_aload_n hx hb dX5_changeShare_0 rfl (lv_at hl 0 rfl) ?_
  refine lv_iload_n hx hb dX5_changeShare_1 rfl (lv_at hl 1 rfl) ?_
  refine got_i (run_i hx hb hml hown hT hK hl.1 (k_X5_hasLeaf l G b r x) (cw_X5_82 hT ⟨Nat.le_of_ble_eq_true rfl, Nat.le_of_ble_eq_true rfl⟩) hSh.1 rfl hSh rfl rfl (Nat.le_of_ble_eq_true rfl) dX5_changeShare_2 ⟨Nat.zero_le _, Nat.zero_le _⟩) (fun v_1 hv_1 => ?_)
  subst hv_1
  refine lv_if_ne (tgt := 10) hx hb dX5_changeShare_5 (by decide) (fun c1 => ?_) (fun c1 => ?_)
  · have hl1 : lfP r x := bi_n0 c1
    refine lv_iload_n hx hb dX5_changeShare_10 rfl (lv_at hl 2 rfl) ?_
    refine lv_iconst (v := 0) hx hb dX5_changeShare_11 (by decide) ?_
    refine lv_bipush (v := 20) hx hb dX5_changeShare_12 (by decide) ?_
    refine got_i (run_s hx hb hml hown hT hK hl.1 (k_X5_isWithin l G g 0 20) (cw_X5_71 hT ⟨Nat.le_of_ble_eq_true rfl, Nat.le_of_ble_eq_true rfl⟩) trivial rfl rfl (Nat.le_of_ble_eq_true rfl) dX5_changeShare_14 ⟨Nat.zero_le _, Nat.zero_le _⟩) (fun v_2 hv_2 => ?_)
    subst hv_2
    refine lv_if_ne (tgt := 23) hx hb dX5_changeShare_17 (by decide) (fun c2 => ?_) (fun c2 => ?_)
    · have hg := bi_n0 c2
      obtain ⟨i, hi, rfl⟩ := lf_ix hw hl1
      refine lv_aload_n hx hb dX5_changeShare_23 rfl (lv_at hl 0 rfl) ?_
      refine got_i (run_i hx hb hml hown hT hK hl.1 (k_X5_allShares l G b r hw) (cw_X5_105 hT ⟨Nat.le_of_ble_eq_true rfl, Nat.le_of_ble_eq_true rfl⟩) hSh.1 rfl hSh rfl rfl (Nat.le_of_ble_eq_true rfl) dX5_changeShare_24 ⟨Nat.zero_le _, Nat.zero_le _⟩) (fun v_3 hv_3 => ?_)
      subst hv_3
      refine lv_aload_n hx hb dX5_changeShare_27 rfl (lv_at hl 0 rfl) ?_
      refine rg (C := RX5) (T := TX5) (N := 8) (v := .ref (b + 1)) hx hb hT inX5 hown hK hSh.1 rfl 0 (by decide) mf_X5_11 rfl dX5_changeShare_28 ?_
      refine lv_iload_n hx hb dX5_changeShare_31 rfl (lv_at hl 1 rfl) ?_
      refine r_aaldS (y := b + 5 + 3 * i) hx hb hK hSh.2.1 rfl rfl i (rfl) (by omega) (Nat.le_of_ble_eq_true rfl) rfl dX5_changeShare_32 ?_
      refine rg (C := RX1) (T := TX1) (N := 6) (v := .int (r (12 + 14 * i + 13))) hx hb hT inX1 hown hK (hSh.leaf (i := i) (by omega)).1 rfl 3 (by decide) mf_X5_109 rfl dX5_changeShare_33 ?_
      refine lv_isub hx hb dX5_changeShare_36 ?_
      refine lv_iload_n hx hb dX5_changeShare_37 rfl (lv_at hl 2 rfl) ?_
      refine lv_iadd hx hb dX5_changeShare_38 ?_
      refine lv_istore_n (lv' := [(3, .int (((shS r) - (r (12 + 14 * i + 13))) + g)), (0, .ref b), (1, .int (nI i)), (2, .int g)]) hx hb dX5_changeShare_39 rfl hl (by decide) rfl (fun ls hl => ?_)
      refine lv_iload_n hx hb dX5_changeShare_40 rfl (lv_at hl 0 rfl) ?_
      refine lv_bipush (v := 20) hx hb dX5_changeShare_41 (by decide) ?_
      refine lv_icmp_le (tgt := 49) hx hb dX5_changeShare_43 (by decide) (fun c3 => ?_) (fun c3 => ?_)
      · refine lv_aload_n hx hb dX5_changeShare_49 rfl (lv_at hl 1 rfl) ?_
        refine rg (C := RX5) (T := TX5) (N := 8) (v := .ref (b + 1)) hx hb hT inX5 hown hK hSh.1 rfl 0 (by decide) mf_X5_11 rfl dX5_changeShare_50 ?_
        refine lv_iload_n hx hb dX5_changeShare_53 rfl (lv_at hl 2 rfl) ?_
        refine r_aaldS (y := b + 5 + 3 * i) hx hb hK hSh.2.1 rfl rfl i (rfl) (by omega) (Nat.le_of_ble_eq_true rfl) rfl dX5_changeShare_54 ?_
        refine lv_iload_n hx hb dX5_changeShare_55 rfl (lv_at hl 3 rfl) ?_
        refine rp (C := RX1) (T := TX1) (N := 6) (v := .int g) (ty := .int) hx hb hT inX1 tyX1 tyX1_ok nmX1 hown hK (hSh.leaf (i := i) (by omega)).1 rfl 3 (by decide) mf_X5_109 rfl (by decide +kernel) rfl rfl (Nat.le_of_ble_eq_true rfl) hS (show _ ∧ _ from ⟨by omega, by omega⟩) dX5_changeShare_56 (fun H locs h1 o hS => ?_)
        have hSh := hSh.pShare (by omega) h1 o
        refine lv_iload_n hx hb dX5_changeShare_59 rfl (lv_at hl 0 rfl) ?_
        exact nd_I hQ hx hb hr hlocks dX5_changeShare_60 hS (by rw [shO_4 (by omega) hl1 hg (i32_le_nlt c3)]; exact ⟨rfl, hSh⟩)
      · refine lv_bipush (v := (-5)) hx hb dX5_changeShare_46 (by decide) ?_
        exact nd_I hQ hx hb hr hlocks dX5_changeShare_48 hS (by rw [shO_3 (by omega) hl1 hg (i32_nle c3)]; exact ⟨rfl, hSh⟩)
    · refine lv_bipush (v := (-2)) hx hb dX5_changeShare_20 (by decide) ?_
      exact nd_I hQ hx hb hr hlocks dX5_changeShare_22 hS (by rw [shO_2 hl1 (bi_e0 c2)]; exact ⟨rfl, hSh⟩)
  · refine lv_iconst (v := (-1)) hx hb dX5_changeShare_8 (by decide) ?_
    exact nd_I hQ hx hb hr hlocks dX5_changeShare_9 hS (by rw [shO_1 (bi_e0 c1)]; exact ⟨rfl, hSh⟩)


theorem agF_5 {r : Nat → Int32} {d : Int32} {n : Nat} : agF r d n 5 = r 5 := if_neg (by omega)
theorem agF_2 {r : Nat → Int32} {d : Int32} {n : Nat} : agF r d n 2 = r 2 := if_neg (by omega)
theorem agF_0 {r : Nat → Int32} {d : Int32} : agF r d 0 = r := funext fun k => if_neg (by omega)
theorem agF_s {r : Nat → Int32} {d : Int32} {n : Nat} : upd (agF r d n) (12 + 14 * n + 12) (agF r d n (12 + 14 * n + 12) + d) = agF r d (n + 1) := by
  funext k
  simp only [upd]
  by_cases q : k = 12 + 14 * n + 12
  · rw [if_pos q]
    subst q
    unfold agF
    rw [if_neg (by omega), if_pos (by omega)]
  · rw [if_neg q]
    unfold agF
    by_cases h : 24 ≤ k ∧ (k - 24) % 14 = 0 ∧ (k - 24) / 14 < n
    · rw [if_pos h, if_pos (by omega)]
    · rw [if_neg h, if_neg (by omega)]
theorem pdO_1 {r : Nat → Int32} {d : Int32} (h : ¬ (1 ≤ d ∧ d ≤ 99)) : pdO r d = (-2, r) := if_pos h
theorem pdO_2 {r : Nat → Int32} {d : Int32} (h : 1 ≤ d ∧ d ≤ 99) (h2 : 9999 < r 2 + d) : pdO r d = (-5, r) := (if_neg (fun q => q h)).trans (if_pos h2)
theorem pdO_3 {r : Nat → Int32} {d : Int32} (h : 1 ≤ d ∧ d ≤ 99) (h2 : ¬ 9999 < r 2 + d) : pdO r d = (r 2 + d, upd (agF r d (nlv r)) 2 (r 2 + d)) := (if_neg (fun q => q h)).trans (if_neg h2)

set_option maxHeartbeats 4000000 in
set_option maxRecDepth 100000 in
theorem k_X5_passDays (l : Launch) (G : GG) (b : Nat) (r : Nat → Int32) (d : Int32) (hw : WF r) : Met l yX5_passDays (ws_ yX5_passDays cX5_passDays 3 (some .int)) (rm_ 1) (PC G [.ref b, .int d] (ShopAt G b r)) (QI (fun v H => v = (pdO r d).1 ∧ ShopAt G b (pdO r d).2 H) (In b 20)) 0 0 (In b 20) := by
  refine met_q (by decide +kernel) (Nat.le_of_ble_eq_true rfl) ?_
  intro p e s m args below meth c Q hQ hx hb hr hT hown hml hlocks hnm hK hSh ls hl
  have hl : lv_has ls 3 [(0, .ref b), (1, .int d)] := hl
  have hS : va_S (In b 20) s.heap s.heap [] := va_S.rf
  have hn5 := hw.nl5
  have hnl := hw.nl
  refine lv_iload_n hx hb dX5_passDays_0 rfl (lv_at hl 1 rfl) ?_
  refine lv_iconst (v := 1) hx hb dX5_passDays_1 (by decide) ?_
  refine lv_bipush (v := 99) hx hb dX5_passDays_2 (by decide) ?_
  refine got_i (run_s hx hb hml hown hT hK hl.1 (k_X5_isWithin l G d 1 99) (cw_X5_71 hT ⟨Nat.le_of_ble_eq_true rfl, Nat.le_of_ble_eq_true rfl⟩) trivial rfl rfl (Nat.le_of_ble_eq_true rfl) dX5_passDays_4 ⟨Nat.zero_le _, Nat.zero_le _⟩) (fun v_1 hv_1 => ?_)
  subst hv_1
  refine lv_if_ne (tgt := 13) hx hb dX5_passDays_7 (by decide) (fun c2 => ?_) (fun c2 => ?_)
  · have hg := bi_n0 c2
    refine lv_aload_n hx hb dX5_passDays_13 rfl (lv_at hl 0 rfl) ?_
    refine rg (C := RX5) (T := TX5) (N := 8) (v := .int (r 2)) hx hb hT inX5 hown hK hSh.1 rfl 5 (by decide) mf_X5_56 rfl dX5_passDays_14 ?_
    refine lv_iload_n hx hb dX5_passDays_17 rfl (lv_at hl 1 rfl) ?_
    refine lv_iadd hx hb dX5_passDays_18 ?_
    refine lv_sipush (v := 9999) hx hb dX5_passDays_19 (by decide) ?_
    refine lv_icmp_le (tgt := 28) hx hb dX5_passDays_22 (by decide) (fun c3 => ?_) (fun c3 => ?_)
    · refine lv_iconst (v := 0) hx hb dX5_passDays_28 (by decide) ?_
      refine lv_istore_n (lv' := [(2, .int 0), (0, .ref b), (1, .int d)]) hx hb dX5_passDays_29 rfl hl (by decide) rfl (fun ls hl => ?_)
      have loop : ∀ (k : Nat) (i : Nat) (H : Heap) (locs : List Loc), va_S (In b 20) s.heap H locs → i ≤ nlv r → ShopAt G b (agF r d i) H → nlv r - i < k → ∀ ls : Array Slot, lv_has ls 3 [(2, .int (nI i)), (0, .ref b), (1, .int d)] → W p l e (rm_ 1) s m args below meth c H locs 0 0 Q (F0 m 30 ls []) := by
        intro k
        induction k with
        | zero => intro i H locs hS hi hSh hm; exact absurd hm (Nat.not_lt_zero _)
        | succ k ih =>
          intro i H locs hS hi hSh hm ls hl
          refine lv_iload_n hx hb dX5_passDays_30 rfl (lv_at hl 0 rfl) ?_
          refine lv_aload_n hx hb dX5_passDays_31 rfl (lv_at hl 1 rfl) ?_
          refine rg (C := RX5) (T := TX5) (N := 8) (v := .int ((agF r d i) 5)) hx hb hT inX5 hown hK hSh.1 rfl 4 (by decide) mf_X5_52 rfl dX5_passDays_32 ?_
          refine lv_icmp_ge (tgt := 59) hx hb dX5_passDays_35 (by decide) (fun cd => ?_) (fun cd => ?_)
          · have hge : nlv r ≤ i := by
              rw [agF_5, hnl, nI_leI (by omega) (by omega)] at cd
              exact cd
            have he : i = nlv r := by omega
            subst he
            refine lv_aload_n hx hb dX5_passDays_59 rfl (lv_at hl 1 rfl) ?_
            refine lv_dup hx hb dX5_passDays_60 rfl ?_
            refine rg (C := RX5) (T := TX5) (N := 8) (v := .int ((agF r d (nlv r)) 2)) hx hb hT inX5 hown hK hSh.1 rfl 5 (by decide) mf_X5_56 rfl dX5_passDays_61 ?_
            refine lv_iload_n hx hb dX5_passDays_64 rfl (lv_at hl 2 rfl) ?_
            refine lv_iadd hx hb dX5_passDays_65 ?_
            refine rp (C := RX5) (T := TX5) (N := 8) (v := .int (((agF r d (nlv r)) 2) + d)) (ty := .int) hx hb hT inX5 tyX5 tyX5_ok nmX5 hown hK hSh.1 rfl 5 (by decide) mf_X5_56 rfl (by decide +kernel) rfl rfl (Nat.le_of_ble_eq_true rfl) hS (show _ ∧ _ from ⟨by omega, by omega⟩) dX5_passDays_66 (fun H locs h1 o hS => ?_)
            have hSh := hSh.pDay h1 o
            refine lv_aload_n hx hb dX5_passDays_69 rfl (lv_at hl 1 rfl) ?_
            refine rg (C := RX5) (T := TX5) (N := 8) (v := .int ((upd (agF r d (nlv r)) 2 (agF r d (nlv r) 2 + d)) 2)) hx hb hT inX5 hown hK hSh.1 rfl 5 (by decide) mf_X5_56 rfl dX5_passDays_70 ?_
            exact nd_I hQ hx hb hr hlocks dX5_passDays_73 hS (by rw [pdO_3 hg (i32_le_nlt c3)]; rw [agF_2] at hSh ⊢; exact ⟨upd_eq, hSh⟩)
          · have hlt : i < nlv r := by
              rw [agF_5, hnl, nI_leI (by omega) (by omega)] at cd
              omega
            refine lv_aload_n hx hb dX5_passDays_38 rfl (lv_at hl 1 rfl) ?_
            refine rg (C := RX5) (T := TX5) (N := 8) (v := .ref (b + 1)) hx hb hT inX5 hown hK hSh.1 rfl 0 (by decide) mf_X5_11 rfl dX5_passDays_39 ?_
            refine lv_iload_n hx hb dX5_passDays_42 rfl (lv_at hl 0 rfl) ?_
            refine r_aaldS (y := b + 5 + 3 * i) hx hb hK hSh.2.1 rfl rfl i (rfl) (by omega) (Nat.le_of_ble_eq_true rfl) rfl dX5_passDays_43 ?_
            refine lv_dup hx hb dX5_passDays_44 rfl ?_
            refine rg (C := RX1) (T := TX1) (N := 6) (v := .int ((agF r d i) (12 + 14 * i + 12))) hx hb hT inX1 hown hK (hSh.leaf (i := i) (by omega)).1 rfl 2 (by decide) mf_X5_102 rfl dX5_passDays_45 ?_
            refine lv_iload_n hx hb dX5_passDays_48 rfl (lv_at hl 2 rfl) ?_
            refine lv_iadd hx hb dX5_passDays_49 ?_
            refine rp (C := RX1) (T := TX1) (N := 6) (v := .int (((agF r d i) (12 + 14 * i + 12)) + d)) (ty := .int) hx hb hT inX1 tyX1 tyX1_ok nmX1 hown hK (hSh.leaf (i := i) (by omega)).1 rfl 2 (by decide) mf_X5_102 rfl (by decide +kernel) rfl rfl (Nat.le_of_ble_eq_true rfl) hS (show _ ∧ _ from ⟨by omega, by omega⟩) dX5_passDays_50 (fun H locs h1 o hS => ?_)
            have hSh := hSh.pAge (by omega) h1 o
            rw [agF_s] at hSh
            refine lv_iinc (v := nI (i + 1)) (lv' := [(2, .int (nI (i + 1))), (0, .ref b), (1, .int d)]) hx hb dX5_passDays_53 hl (k := 0) rfl (nI_1 i) (by decide) rfl (fun ls hl => ?_)
            refine lv_goto (tgt := 30) hx hb dX5_passDays_56 (by decide) ?_
            exact ih (i + 1) _ _ hS (by omega) hSh (by omega) ls (lv_sub hl [0, 1, 2] rfl)
      exact loop (nlv r + 1) 0 _ _ hS (Nat.zero_le _) (by rw [agF_0]; exact hSh) (by omega) ls (lv_sub hl [0, 1, 2] rfl)
    · refine lv_bipush (v := (-5)) hx hb dX5_passDays_25 (by decide) ?_
      exact nd_I hQ hx hb hr hlocks dX5_passDays_27 hS (by rw [pdO_2 hg (i32_nle c3)]; exact ⟨rfl, hSh⟩)
  · refine lv_bipush (v := (-2)) hx hb dX5_passDays_10 (by decide) ?_
    exact nd_I hQ hx hb hr hlocks dX5_passDays_12 hS (by rw [pdO_1 (bi_e0 c2)]; exact ⟨rfl, hSh⟩)


theorem shR_5 {r s : Nat → Int32} {n : Nat} : shR r s n 5 = r 5 := if_neg (by omega)
theorem shR_0 {r s : Nat → Int32} : shR r s 0 = r := funext fun k => if_neg (by omega)
theorem shR_s {r s : Nat → Int32} {n : Nat} : upd (shR r s n) (12 + 14 * n + 13) (s n) = shR r s (n + 1) := by
  funext k
  simp only [upd]
  by_cases q : k = 12 + 14 * n + 13
  · rw [if_pos q]
    subst q
    unfold shR
    rw [if_pos (by omega)]
    congr 1
    omega
  · rw [if_neg q]
    unfold shR
    by_cases h : 25 ≤ k ∧ (k - 25) % 14 = 0 ∧ (k - 25) / 14 < n
    · rw [if_pos h, if_pos (by omega)]
    · rw [if_neg h, if_neg (by omega)]

set_option maxHeartbeats 4000000 in
set_option maxRecDepth 100000 in
theorem k_X5_takeShares (l : Launch) (G : GG) (b a : Nat) (r f : Nat → Int32) (hw : WF r) (hne : a < b ∨ b + 20 ≤ a) : Met l yX5_takeShares (ws_ yX5_takeShares cX5_takeShares 3 (none : Option Jvm.ClassFile.FieldType)) (rm_ 0) (PC G [.ref b, .ref a] (fun H => ShopAt G b r H ∧ ar G 0 a (iA 5 f) H)) (QV (ShopAt G b (shR r f (nlv r))) (In b 20)) 0 0 (In b 20) := by
  refine met_q (by decide +kernel) (Nat.le_of_ble_eq_true rfl) ?_
  intro p e s m args below meth c Q hQ hx hb hr hT hown hml hlocks hnm hK ⟨hSh, hB⟩ ls hl
  have hl : lv_has ls 3 [(0, .ref b), (1, .ref a)] := hl
  have hS : va_S (In b 20) s.heap s.heap [] := va_S.rf
  have hn5 := hw.nl5
  have hnl := hw.nl
  refine lv_iconst (v := 0) hx hb dX5_takeShares_0 (by decide) ?_
  refine lv_istore_n (lv' := [(2, .int 0), (0, .ref b), (1, .ref a)]) hx hb dX5_takeShares_1 rfl hl (by decide) rfl (fun ls hl => ?_)
  have loop : ∀ (k : Nat) (i : Nat) (H : Heap) (locs : List Loc), va_S (In b 20) s.heap H locs → i ≤ nlv r → ShopAt G b (shR r f i) H → ar G 0 a (iA 5 f) H → nlv r - i < k → ∀ ls : Array Slot, lv_has ls 3 [(2, .int (nI i)), (0, .ref b), (1, .ref a)] → W p l e (rm_ 0) s m args below meth c H locs 0 0 Q (F0 m 2 ls []) := by
    intro k
    induction k with
    | zero => intro i H locs hS hi hSh hB hm; exact absurd hm (Nat.not_lt_zero _)
    | succ k ih =>
      intro i H locs hS hi hSh hB hm ls hl
      refine lv_iload_n hx hb dX5_takeShares_2 rfl (lv_at hl 0 rfl) ?_
      refine lv_aload_n hx hb dX5_takeShares_3 rfl (lv_at hl 1 rfl) ?_
      refine rg (C := RX5) (T := TX5) (N := 8) (v := .int ((shR r f i) 5)) hx hb hT inX5 hown hK hSh.1 rfl 4 (by decide) mf_X5_52 rfl dX5_takeShares_4 ?_
      refine lv_icmp_ge (tgt := 34) hx hb dX5_takeShares_7 (by decide) (fun cd => ?_) (fun cd => ?_)
      · have hge : nlv r ≤ i := by
          rw [shR_5, hnl, nI_leI (by omega) (by omega)] at cd
          exact cd
        have he : i = nlv r := by omega
        subst he
        exact nd_V hQ hx hb hr hlocks dX5_takeShares_34 hS (hSh)
      · have hlt : i < nlv r := by
          rw [shR_5, hnl, nI_leI (by omega) (by omega)] at cd
          omega
        refine lv_iload_n hx hb dX5_takeShares_10 rfl (lv_at hl 0 rfl) ?_
        refine lv_aload_n hx hb dX5_takeShares_11 rfl (lv_at hl 2 rfl) ?_
        refine r_alen hx hb hK hB rfl (v := 5) rfl dX5_takeShares_12 ?_
        refine lv_icmp_ge (tgt := 34) hx hb dX5_takeShares_13 (by decide) (fun ce => ?_) (fun ce => ?_)
        · exact absurd (show nI 5 ≤ nI i from ce) (by rw [nI_leI (by omega) (by omega)]; omega)
        · refine lv_aload_n hx hb dX5_takeShares_16 rfl (lv_at hl 1 rfl) ?_
          refine rg (C := RX5) (T := TX5) (N := 8) (v := .ref (b + 1)) hx hb hT inX5 hown hK hSh.1 rfl 0 (by decide) mf_X5_11 rfl dX5_takeShares_17 ?_
          refine lv_iload_n hx hb dX5_takeShares_20 rfl (lv_at hl 0 rfl) ?_
          refine r_aaldS (y := b + 5 + 3 * i) hx hb hK hSh.2.1 rfl rfl i (rfl) (by omega) (Nat.le_of_ble_eq_true rfl) rfl dX5_takeShares_21 ?_
          refine lv_aload_n hx hb dX5_takeShares_22 rfl (lv_at hl 2 rfl) ?_
          refine lv_iload_n hx hb dX5_takeShares_23 rfl (lv_at hl 0 rfl) ?_
          refine r_iald hx hb hK hB i (rfl) (by omega) (Nat.le_of_ble_eq_true rfl) dX5_takeShares_24 ?_
          refine rp (C := RX1) (T := TX1) (N := 6) (v := .int (f i)) (ty := .int) hx hb hT inX1 tyX1 tyX1_ok nmX1 hown hK (hSh.leaf (i := i) (by omega)).1 rfl 3 (by decide) mf_X5_109 rfl (by decide +kernel) rfl rfl (Nat.le_of_ble_eq_true rfl) hS (show _ ∧ _ from ⟨by omega, by omega⟩) dX5_takeShares_25 (fun H locs h1 o hS => ?_)
          have hSh := hSh.pShare (by omega) h1 o
          rw [shR_s] at hSh
          have hB := hB.kept (o.2 _ (by omega))
          refine lv_iinc (v := nI (i + 1)) (lv' := [(2, .int (nI (i + 1))), (0, .ref b), (1, .ref a)]) hx hb dX5_takeShares_28 hl (k := 0) rfl (nI_1 i) (by decide) rfl (fun ls hl => ?_)
          refine lv_goto (tgt := 2) hx hb dX5_takeShares_31 (by decide) ?_
          exact ih (i + 1) _ _ hS (by omega) hSh hB (by omega) ls (lv_sub hl [0, 1, 2] rfl)
  exact loop (nlv r + 1) 0 _ _ hS (Nat.zero_le _) (by rw [shR_0]; exact hSh) hB (by omega) ls (lv_sub hl [0, 1, 2] rfl)
