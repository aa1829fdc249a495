/-! what a shop tells, in numbers -/
def bi (P : Prop) [Decidable P] : Int32 := if P then 1 else 0
theorem bi01 {P : Prop} [Decidable P] : bi P = 0 ∨ bi P = 1 := by
  unfold bi
  split
  · exact Or.inr rfl
  · exact Or.inl rfl
theorem bi_t {P : Prop} [Decidable P] (h : P) : 1 = bi P := (if_pos h).symm
theorem bi_f {P : Prop} [Decidable P] (h : ¬ P) : 0 = bi P := (if_neg h).symm
theorem bi_e0 {P : Prop} [Decidable P] (h : bi P = 0) : ¬ P := fun q => by
  rw [← bi_t q] at h
  exact absurd h (by decide)
theorem bi_n0 {P : Prop} [Decidable P] (h : ¬ bi P = 0) : P := Decidable.byContradiction fun q => h (bi_f q).symm
def mxI (x y : Int32) : Int32 := if x < y then y else x
def mnI (x y : Int32) : Int32 := if y < x then y else x
def sm (f : Nat → Int32) : Nat → Int32
  | 0 => 0
  | n + 1 => sm f n + f n
theorem sm_ext {f g : Nat → Int32} : ∀ n : Nat, (∀ i, i < n → f i = g i) → sm f n = sm g n
  | 0, _ => rfl
  | n + 1, h => by
    show sm f n + f n = sm g n + g n
    rw [sm_ext n (fun i hi => h i (by omega)), h n (by omega)]
def prF (r : Nat → Int32) (i : Nat) : Int32 := mxI 0 (r (12 + 14 * i + 0) + r (12 + 14 * i + (1 + plv r)))
def tsF (r : Nat → Int32) (i t : Nat) (d : Int32) : Int32 := r (12 + 14 * i + (8 + t)) * mxI 0 (1000 - r 0 * (r (12 + 14 * i + 12) + d)) / 1000
def shF (r : Nat → Int32) (i : Nat) : Int32 := r (12 + 14 * i + 13)
def prS (r : Nat → Int32) : Int32 := sm (fun i => shF r i * prF r i) (nlv r)
def tsS (r : Nat → Int32) (t : Nat) (d : Int32) : Int32 := sm (fun i => shF r i * tsF r i t d) (nlv r)
def shS (r : Nat → Int32) : Int32 := sm (shF r) (nlv r)

set_option maxHeartbeats 4000000 in
set_option maxRecDepth 100000 in
theorem k_X5_isWithin (l : Launch) (G : GG) (v lo hi : Int32)  : Met l yX5_isWithin (ws_ yX5_isWithin cX5_isWithin 3 (some .boolean)) (rm_ 0) (PC G [.int v, .int lo, .int hi] (fun _ => True)) (vp_Si (fun z => z = bi (lo ≤ v ∧ v ≤ hi))) 0 0 NoA := by
  refine met_q (by decide +kernel) (Nat.le_of_ble_eq_true rfl) ?_
  intro p e s m args below meth c Q hQ hx hb hr hT hown hml hlocks hnm hK _ ls hl
  have hl : lv_has ls 3 [(0, .int v), (1, .int lo), (2, .int hi)] := hl
  refine lv_iload_n hx hb dX5_isWithin_0 rfl (lv_at hl 0 rfl) ?_
  refine lv_iload_n hx hb dX5_isWithin_1 rfl (lv_at hl 1 rfl) ?_
  refine lv_icmp_lt (tgt := 14) hx hb dX5_isWithin_2 (by decide) (fun c1 => ?_) (fun c1 => ?_)
  · refine lv_iconst (v := 0) hx hb dX5_isWithin_14 (by decide) ?_
    exact nd_z hQ hx hb hr hlocks dX5_isWithin_15 (by first | exact Or.inl rfl | exact Or.inr rfl | exact bi01) (bi_f (fun q => by rw [i32_le_iff] at q; rw [i32_lt_iff] at c1; omega))
  · refine lv_iload_n hx hb dX5_isWithin_5 rfl (lv_at hl 0 rfl) ?_
    refine lv_iload_n hx hb dX5_isWithin_6 rfl (lv_at hl 2 rfl) ?_
    refine lv_icmp_gt (tgt := 14) hx hb dX5_isWithin_7 (by decide) (fun c2 => ?_) (fun c2 => ?_)
    · refine lv_iconst (v := 0) hx hb dX5_isWithin_14 (by decide) ?_
      exact nd_z hQ hx hb hr hlocks dX5_isWithin_15 (by first | exact Or.inl rfl | exact Or.inr rfl | exact bi01) (bi_f (fun q => by rw [i32_le_iff, i32_le_iff] at q; rw [i32_lt_iff] at c2; omega))
    · refine lv_iconst (v := 1) hx hb dX5_isWithin_10 (by decide) ?_
      refine lv_goto (tgt := 15) hx hb dX5_isWithin_11 (by decide) ?_
      exact nd_z hQ hx hb hr hlocks dX5_isWithin_15 (by first | exact Or.inl rfl | exact Or.inr rfl | exact bi01) (bi_t ⟨by rw [i32_le_iff]; rw [i32_lt_iff] at c1; omega, by rw [i32_le_iff]; rw [i32_lt_iff] at c2; omega⟩)

set_option maxHeartbeats 4000000 in
set_option maxRecDepth 100000 in
theorem k_X5_hasLeaf (l : Launch) (G : GG) (b : Nat) (r : Nat → Int32) (x : Int32)  : Met l yX5_hasLeaf (ws_ yX5_hasLeaf cX5_hasLeaf 2 (some .boolean)) (rm_ 0) (PC G [.ref b, .int x] (ShopAt G b r)) (vp_Si (fun z => z = bi (0 ≤ x ∧ x < r 5))) 0 0 NoA := by
  refine met_q (by decide +kernel) (Nat.le_of_ble_eq_true rfl) ?_
  intro p e s m args below meth c Q hQ hx hb hr hT hown hml hlocks hnm hK hSh ls hl
  have hl : lv_has ls 2 [(0, .ref b), (1, .int x)] := hl
  refine lv_iload_n hx hb dX5_hasLeaf_0 rfl (lv_at hl 1 rfl) ?_
  refine lv_if_lt (tgt := 16) hx hb dX5_hasLeaf_1 (by decide) (fun c1 => ?_) (fun c1 => ?_)
  · refine lv_iconst (v := 0) hx hb dX5_hasLeaf_16 (by decide) ?_
    exact nd_z hQ hx hb hr hlocks dX5_hasLeaf_17 (by first | exact Or.inl rfl | exact Or.inr rfl | exact bi01) (bi_f (fun q => by rw [i32_le_iff] at q; rw [i32_lt_iff] at c1; have := q.1; have h0 : (0 : Int32).toInt = 0 := rfl; omega))
  · refine lv_iload_n hx hb dX5_hasLeaf_4 rfl (lv_at hl 1 rfl) ?_
    refine lv_aload_n hx hb dX5_hasLeaf_5 rfl (lv_at hl 0 rfl) ?_
    refine rg (C := RX5) (T := TX5) (N := 8) (v := .int (r 5)) hx hb hT inX5 hown hK hSh.1 rfl 4 (by decide) mf_X5_52 rfl dX5_hasLeaf_6 ?_
    refine lv_icmp_ge (tgt := 16) hx hb dX5_hasLeaf_9 (by decide) (fun c2 => ?_) (fun c2 => ?_)
    · refine lv_iconst (v := 0) hx hb dX5_hasLeaf_16 (by decide) ?_
      exact nd_z hQ hx hb hr hlocks dX5_hasLeaf_17 (by first | exact Or.inl rfl | exact Or.inr rfl | exact bi01) (bi_f (fun q => by rw [i32_lt_iff] at q; rw [i32_le_iff] at c2; have := q.2; omega))
    · refine lv_iconst (v := 1) hx hb dX5_hasLeaf_12 (by decide) ?_
      refine lv_goto (tgt := 17) hx hb dX5_hasLeaf_13 (by decide) ?_
      exact nd_z hQ hx hb hr hlocks dX5_hasLeaf_17 (by first | exact Or.inl rfl | exact Or.inr rfl | exact bi01) (bi_t ⟨by rw [i32_le_iff]; rw [i32_lt_iff] at c1; omega, by rw [i32_lt_iff]; rw [i32_le_iff] at c2; omega⟩)

set_option maxHeartbeats 4000000 in
set_option maxRecDepth 100000 in
theorem k_X5_priceOf (l : Launch) (G : GG) (b : Nat) (r : Nat → Int32) (i : Nat) (hw : WF r) (hi : i < 5) : Met l yX5_priceOf (ws_ yX5_priceOf cX5_priceOf 4 (some .int)) (rm_ 1) (PC G [.ref b, .int (nI i)] (ShopAt G b r)) (vp_Si (fun z => z = prF r i)) 0 0 NoA := by
  refine met_q (by decide +kernel) (Nat.le_of_ble_eq_true rfl) ?_
  intro p e s m args below meth c Q hQ hx hb hr hT hown hml hlocks hnm hK hSh ls hl
  have hl : lv_has ls 4 [(0, .ref b), (1, .int (nI i))] := hl
  have hpl := hw.pl
  have hpl7 := hpl.2
  refine lv_aload_n hx hb dX5_priceOf_0 rfl (lv_at hl 0 rfl) ?_
  refine rg (C := RX5) (T := TX5) (N := 8) (v := .ref (b + 4)) hx hb hT inX5 hown hK hSh.1 rfl 3 (by decide) mf_X5_32 rfl dX5_priceOf_1 ?_
  refine lv_iconst (v := 1) hx hb dX5_priceOf_4 (by decide) ?_
  refine r_iald hx hb hK hSh.2.2.2.2.1 1 (by decide) (by omega) (Nat.le_of_ble_eq_true rfl) dX5_priceOf_5 ?_
  refine lv_istore_n (lv' := [(2, .int (r 1)), (0, .ref b), (1, .int (nI i))]) hx hb dX5_priceOf_6 rfl hl (by decide) rfl (fun ls hl => ?_)
  refine lv_iload_n hx hb dX5_priceOf_7 rfl (lv_at hl 0 rfl) ?_
  refine lv_if_le (tgt := 20) hx hb dX5_priceOf_8 (by decide) (fun c1 => ?_) (fun c1 => ?_)
  · exact absurd c1 (by have := hw.2.1.1; rw [i32_le_iff]; have h0 : (0 : Int32).toInt = 0 := rfl; omega)
  · refine lv_aload_n hx hb dX5_priceOf_11 rfl (lv_at hl 1 rfl) ?_
    refine rg (C := RX5) (T := TX5) (N := 8) (v := .int (r 2)) hx hb hT inX5 hown hK hSh.1 rfl 5 (by decide) mf_X5_56 rfl dX5_priceOf_12 ?_
    refine lv_iload_n hx hb dX5_priceOf_15 rfl (lv_at hl 0 rfl) ?_
    refine lv_irem hx hb dX5_priceOf_16 (hw.wk) ?_
    refine lv_goto (tgt := 21) hx hb dX5_priceOf_17 (by decide) ?_
    refine lv_istore_n (lv' := [(3, .int ((r 2) - (r 2) / (r 1) * (r 1))), (2, .int (r 1)), (0, .ref b), (1, .int (nI i))]) hx hb dX5_priceOf_21 rfl hl (by decide) rfl (fun ls hl => ?_)
    refine lv_iconst (v := 0) hx hb dX5_priceOf_22 (by decide) ?_
    refine lv_aload_n hx hb dX5_priceOf_23 rfl (lv_at hl 2 rfl) ?_
    refine rg (C := RX5) (T := TX5) (N := 8) (v := .ref (b + 1)) hx hb hT inX5 hown hK hSh.1 rfl 0 (by decide) mf_X5_11 rfl dX5_priceOf_24 ?_
    refine lv_iload_n hx hb dX5_priceOf_27 rfl (lv_at hl 3 rfl) ?_
    refine r_aaldS (y := b + 5 + 3 * i) hx hb hK hSh.2.1 rfl rfl i (rfl) (by omega) (Nat.le_of_ble_eq_true rfl) rfl dX5_priceOf_28 ?_
    refine rg (C := RX1) (T := TX1) (N := 6) (v := .int (r (12 + 14 * i + 0))) hx hb hT inX1 hown hK (hSh.leaf (i := i) (by omega)).1 rfl 0 (by decide) mf_X5_124 rfl dX5_priceOf_29 ?_
    refine lv_aload_n hx hb dX5_priceOf_32 rfl (lv_at hl 2 rfl) ?_
    refine rg (C := RX5) (T := TX5) (N := 8) (v := .ref (b + 1)) hx hb hT inX5 hown hK hSh.1 rfl 0 (by decide) mf_X5_11 rfl dX5_priceOf_33 ?_
    refine lv_iload_n hx hb dX5_priceOf_36 rfl (lv_at hl 3 rfl) ?_
    refine r_aaldS (y := b + 5 + 3 * i) hx hb hK hSh.2.1 rfl rfl i (rfl) (by omega) (Nat.le_of_ble_eq_true rfl) rfl dX5_priceOf_37 ?_
    refine rg (C := RX1) (T := TX1) (N := 6) (v := .ref (b + 5 + 3 * i + 1)) hx hb hT inX1 hown hK (hSh.leaf (i := i) (by omega)).1 rfl 4 (by decide) mf_X5_90 rfl dX5_priceOf_38 ?_
    refine lv_iload_n hx hb dX5_priceOf_41 rfl (lv_at hl 0 rfl) ?_
    refine r_iald hx hb hK (hSh.leaf (i := i) (by omega)).2.1 (plv r) (hpl.1) (by omega) (Nat.le_of_ble_eq_true rfl) dX5_priceOf_42 ?_
    refine lv_iadd hx hb dX5_priceOf_43 ?_
    refine va_mmax hx hb (hml.trans hl.1.symm) hown (hT _ mm_X5_127) (hT _ mst_J9_max_7cf53) (hT _ mz_J9) (hT _ mc_J9_max_7cf53) (Nat.le_of_ble_eq_true rfl) (Nat.le_of_ble_eq_true rfl) (Nat.zero_le _) (Nat.zero_le _) dX5_priceOf_44 ?_
    exact nd_i hQ hx hb hr hlocks dX5_priceOf_47 (rfl)

set_option maxHeartbeats 4000000 in
set_option maxRecDepth 100000 in
theorem k_X5_tasteOf (l : Launch) (G : GG) (b : Nat) (r : Nat → Int32) (i t : Nat) (d : Int32) (hi : i < 5) (ht : t < 3) : Met l yX5_tasteOf (ws_ yX5_tasteOf cX5_tasteOf 5 (some .int)) (rm_ 1) (PC G [.ref b, .int (nI i), .int (nI t), .int d] (ShopAt G b r)) (vp_Si (fun z => z = tsF r i t d)) 0 0 NoA := by
  refine met_q (by decide +kernel) (Nat.le_of_ble_eq_true rfl) ?_
  intro p e s m args below meth c Q hQ hx hb hr hT hown hml hlocks hnm hK hSh ls hl
  have hl : lv_has ls 5 [(0, .ref b), (1, .int (nI i)), (2, .int (nI t)), (3, .int d)] := hl
  refine lv_iconst (v := 0) hx hb dX5_tasteOf_0 (by decide) ?_
  refine lv_sipush (v := 1000) hx hb dX5_tasteOf_1 (by decide) ?_
  refine lv_aload_n hx hb dX5_tasteOf_4 rfl (lv_at hl 0 rfl) ?_
  refine rg (C := RX5) (T := TX5) (N := 8) (v := .ref (b + 4)) hx hb hT inX5 hown hK hSh.1 rfl 3 (by decide) mf_X5_32 rfl dX5_tasteOf_5 ?_
  refine lv_iconst (v := 0) hx hb dX5_tasteOf_8 (by decide) ?_
  refine r_iald hx hb hK hSh.2.2.2.2.1 0 (by decide) (by omega) (Nat.le_of_ble_eq_true rfl) dX5_tasteOf_9 ?_
  refine lv_aload_n hx hb dX5_tasteOf_10 rfl (lv_at hl 0 rfl) ?_
  refine rg (C := RX5) (T := TX5) (N := 8) (v := .ref (b + 1)) hx hb hT inX5 hown hK hSh.1 rfl 0 (by decide) mf_X5_11 rfl dX5_tasteOf_11 ?_
  refine lv_iload_n hx hb dX5_tasteOf_14 rfl (lv_at hl 1 rfl) ?_
  refine r_aaldS (y := b + 5 + 3 * i) hx hb hK hSh.2.1 rfl rfl i (rfl) (by omega) (Nat.le_of_ble_eq_true rfl) rfl dX5_tasteOf_15 ?_
  refine rg (C := RX1) (T := TX1) (N := 6) (v := .int (r (12 + 14 * i + 12))) hx hb hT inX1 hown hK (hSh.leaf (i := i) (by omega)).1 rfl 2 (by decide) mf_X5_102 rfl dX5_tasteOf_16 ?_
  refine lv_iload_n hx hb dX5_tasteOf_19 rfl (lv_at hl 3 rfl) ?_
  refine lv_iadd hx hb dX5_tasteOf_20 ?_
  refine lv_imul hx hb dX5_tasteOf_21 ?_
  refine lv_isub hx hb dX5_tasteOf_22 ?_
  refine va_mmax hx hb (hml.trans hl.1.symm) hown (hT _ mm_X5_127) (hT _ mst_J9_max_7cf53) (hT _ mz_J9) (hT _ mc_J9_max_7cf53) (Nat.le_of_ble_eq_true rfl) (Nat.le_of_ble_eq_true rfl) (Nat.zero_le _) (Nat.zero_le _) dX5_tasteOf_23 ?_
  refine lv_istore (lv' := [(4, .int (if 0 < (1000 - ((r 0) * ((r (12 + 14 * i + 12)) + d))) then (1000 - ((r 0) * ((r (12 + 14 * i + 12)) + d))) else 0)), (0, .ref b), (1, .int (nI i)), (2, .int (nI t)), (3, .int d)]) hx hb dX5_tasteOf_26 hl (by decide) rfl (fun ls hl => ?_)
  refine lv_aload_n hx hb dX5_tasteOf_28 rfl (lv_at hl 1 rfl) ?_
  refine rg (C := RX5) (T := TX5) (N := 8) (v := .ref (b + 1)) hx hb hT inX5 hown hK hSh.1 rfl 0 (by decide) mf_X5_11 rfl dX5_tasteOf_29 ?_
  refine lv_iload_n hx hb dX5_tasteOf_32 rfl (lv_at hl 2 rfl) ?_
  refine r_aaldS (y := b + 5 + 3 * i) hx hb hK hSh.2.1 rfl rfl i (rfl) (by omega) (Nat.le_of_ble_eq_true rfl) rfl dX5_tasteOf_33 ?_
  refine rg (C := RX1) (T := TX1) (N := 6) (v := .ref (b + 5 + 3 * i + 2)) hx hb hT inX1 hown hK (hSh.leaf (i := i) (by omega)).1 rfl 5 (by decide) mf_X5_79 rfl dX5_tasteOf_34 ?_
  refine lv_iload_n hx hb dX5_tasteOf_37 rfl (lv_at hl 3 rfl) ?_
  refine r_iald hx hb hK (hSh.leaf (i := i) (by omega)).2.2 t (rfl) (by omega) (Nat.le_of_ble_eq_true rfl) dX5_tasteOf_38 ?_
  refine lv_iload hx hb dX5_tasteOf_39 (lv_at hl 0 rfl) ?_
  refine lv_imul hx hb dX5_tasteOf_41 ?_
  refine lv_sipush (v := 1000) hx hb dX5_tasteOf_42 (by decide) ?_
  refine lv_idiv hx hb dX5_tasteOf_45 (by decide) ?_
  exact nd_i hQ hx hb hr hlocks dX5_tasteOf_46 (rfl)

set_option maxHeartbeats 4000000 in
set_option maxRecDepth 100000 in
theorem k_X5_allShares (l : Launch) (G : GG) (b : Nat) (r : Nat → Int32)  (hw : WF r) : Met l yX5_allShares (ws_ yX5_allShares cX5_allShares 3 (some .int)) (rm_ 0) (PC G [.ref b] (ShopAt G b r)) (vp_Si (fun z => z = shS r)) 0 0 NoA := by
  refine met_q (by decide +kernel) (Nat.le_of_ble_eq_true rfl) ?_
  intro p e s m args below meth c Q hQ hx hb hr hT hown hml hlocks hnm hK hSh ls hl
  have hl : lv_has ls 3 [(0, .ref b)] := hl
  have hn5 := hw.nl5
  have hnl := hw.nl
  refine lv_iconst (v := 0) hx hb dX5_allShares_0 (by decide) ?_
  refine lv_istore_n (lv' := [(1, .int 0), (0, .ref b)]) hx hb dX5_allShares_1 rfl hl (by decide) rfl (fun ls hl => ?_)
  refine lv_iconst (v := 0) hx hb dX5_allShares_2 (by decide) ?_
  refine lv_istore_n (lv' := [(2, .int 0), (1, .int 0), (0, .ref b)]) hx hb dX5_allShares_3 rfl hl (by decide) rfl (fun ls hl => ?_)
  have loop : ∀ (k : Nat) (i : Nat), i ≤ nlv r → nlv r - i < k → ∀ ls : Array Slot, lv_has ls 3 [(0, .ref b), (2, .int (nI i)), (1, .int (sm (shF r) i))] → W p l e (rm_ 0) s m args below meth c s.heap [] 0 0 Q (F0 m 4 ls []) := by
    intro k
    induction k with
    | zero => intro i hi hm; exact absurd hm (Nat.not_lt_zero _)
    | succ k ih =>
      intro i hi hm ls hl
      refine lv_iload_n hx hb dX5_allShares_4 rfl (lv_at hl 1 rfl) ?_
      refine lv_aload_n hx hb dX5_allShares_5 rfl (lv_at hl 0 rfl) ?_
      refine rg (C := RX5) (T := TX5) (N := 8) (v := .int (r 5)) hx hb hT inX5 hown hK hSh.1 rfl 4 (by decide) mf_X5_52 rfl dX5_allShares_6 ?_
      refine lv_icmp_ge (tgt := 30) hx hb dX5_allShares_9 (by decide) (fun cd => ?_) (fun cd => ?_)
      · have hge : nlv r ≤ i := by
          rw [hnl, nI_leI (by omega) (by omega)] at cd
          exact cd
        have he : i = nlv r := by omega
        subst he
        refine lv_iload_n hx hb dX5_allShares_30 rfl (lv_at hl 2 rfl) ?_
        exact nd_i hQ hx hb hr hlocks dX5_allShares_31 (rfl)
      · have hlt : i < nlv r := by
          rw [hnl, nI_leI (by omega) (by omega)] at cd
          omega
        refine lv_iload_n hx hb dX5_allShares_12 rfl (lv_at hl 2 rfl) ?_
        refine lv_aload_n hx hb dX5_allShares_13 rfl (lv_at hl 0 rfl) ?_
        refine rg (C := RX5) (T := TX5) (N := 8) (v := .ref (b + 1)) hx hb hT inX5 hown hK hSh.1 rfl 0 (by decide) mf_X5_11 rfl dX5_allShares_14 ?_
        refine lv_iload_n hx hb dX5_allShares_17 rfl (lv_at hl 1 rfl) ?_
        refine r_aaldS (y := b + 5 + 3 * i) hx hb hK hSh.2.1 rfl rfl i (rfl) (by omega) (Nat.le_of_ble_eq_true rfl) rfl dX5_allShares_18 ?_
        refine rg (C := RX1) (T := TX1) (N := 6) (v := .int (r (12 + 14 * i + 13))) hx hb hT inX1 hown hK (hSh.leaf (i := i) (by omega)).1 rfl 3 (by decide) mf_X5_109 rfl dX5_allShares_19 ?_
        refine lv_iadd hx hb dX5_allShares_22 ?_
        refine lv_istore_n (lv' := [(1, .int ((sm (shF r) i) + (r (12 + 14 * i + 13)))), (0, .ref b), (2, .int (nI i))]) hx hb dX5_allShares_23 rfl hl (by decide) rfl (fun ls hl => ?_)
        refine lv_iinc (v := nI (i + 1)) (lv' := [(2, .int (nI (i + 1))), (1, .int ((sm (shF r) i) + (r (12 + 14 * i + 13)))), (0, .ref b)]) hx hb dX5_allShares_24 hl (k := 2) rfl (nI_1 i) (by decide) rfl (fun ls hl => ?_)
        refine lv_goto (tgt := 4) hx hb dX5_allShares_27 (by decide) ?_
        exact ih (i + 1) (by omega) (by omega) ls (lv_sub hl [2, 0, 1] rfl)
  exact loop (nlv r + 1) 0 (Nat.zero_le _) (by omega) ls (lv_sub hl [2, 0, 1] rfl)

set_option maxHeartbeats 4000000 in
set_option maxRecDepth 100000 in
theorem k_X5_blendPrice (l : Launch) (G : GG) (b : Nat) (r : Nat → Int32)  (hw : WF r) : Met l yX5_blendPrice (ws_ yX5_blendPrice cX5_blendPrice 3 (some .int)) (rm_ 2) (PC G [.ref b] (ShopAt G b r)) (vp_Si (fun z => z = prS r / 20)) 0 0 NoA := by
  refine met_q (by decide +kernel) (Nat.le_of_ble_eq_true rfl) ?_
  intro p e s m args below meth c Q hQ hx hb hr hT hown hml hlocks hnm hK hSh ls hl
  have hl : lv_has ls 3 [(0, .ref b)] := hl
  have hn5 := hw.nl5
  have hnl := hw.nl
  refine lv_iconst (v := 0) hx hb dX5_blendPrice_0 (by decide) ?_
  refine lv_istore_n (lv' := [(1, .int 0), (0, .ref b)]) hx hb dX5_blendPrice_1 rfl hl (by decide) rfl (fun ls hl => ?_)
  refine lv_iconst (v := 0) hx hb dX5_blendPrice_2 (by decide) ?_
  refine lv_istore_n (lv' := [(2, .int 0), (1, .int 0), (0, .ref b)]) hx hb dX5_blendPrice_3 rfl hl (by decide) rfl (fun ls hl => ?_)
  have loop : ∀ (k : Nat) (i : Nat), i ≤ nlv r → nlv r - i < k → ∀ ls : Array Slot, lv_has ls 3 [(0, .ref b), (2, .int (nI i)), (1, .int (sm (fun i => shF r i * prF r i) i))] → W p l e (rm_ 2) s m args below meth c s.heap [] 0 0 Q (F0 m 4 ls []) := by
    intro k
    induction k with
    | zero => intro i hi hm; exact absurd hm (Nat.not_lt_zero _)
    | succ k ih =>
      intro i hi hm ls hl
      refine lv_iload_n hx hb dX5_blendPrice_4 rfl (lv_at hl 1 rfl) ?_
      refine lv_aload_n hx hb dX5_blendPrice_5 rfl (lv_at hl 0 rfl) ?_
      refine rg (C := RX5) (T := TX5) (N := 8) (v := .int (r 5)) hx hb hT inX5 hown hK hSh.1 rfl 4 (by decide) mf_X5_52 rfl dX5_blendPrice_6 ?_
      refine lv_icmp_ge (tgt := 36) hx hb dX5_blendPrice_9 (by decide) (fun cd => ?_) (fun cd => ?_)
      · have hge : nlv r ≤ i := by
          rw [hnl, nI_leI (by omega) (by omega)] at cd
          exact cd
        have he : i = nlv r := by omega
        subst he
        refine lv_iload_n hx hb dX5_blendPrice_36 rfl (lv_at hl 2 rfl) ?_
        refine lv_bipush (v := 20) hx hb dX5_blendPrice_37 (by decide) ?_
        refine lv_idiv hx hb dX5_blendPrice_39 (by decide) ?_
        exact nd_i hQ hx hb hr hlocks dX5_blendPrice_40 (rfl)
      · have hlt : i < nlv r := by
          rw [hnl, nI_leI (by omega) (by omega)] at cd
          omega
        refine lv_iload_n hx hb dX5_blendPrice_12 rfl (lv_at hl 2 rfl) ?_
        refine lv_aload_n hx hb dX5_blendPrice_13 rfl (lv_at hl 0 rfl) ?_
        refine rg (C := RX5) (T := TX5) (N := 8) (v := .ref (b + 1)) hx hb hT inX5 hown hK hSh.1 rfl 0 (by decide) mf_X5_11 rfl dX5_blendPrice_14 ?_
        refine lv_iload_n hx hb dX5_blendPrice_17 rfl (lv_at hl 1 rfl) ?_
        refine r_aaldS (y := b + 5 + 3 * i) hx hb hK hSh.2.1 rfl rfl i (rfl) (by omega) (Nat.le_of_ble_eq_true rfl) rfl dX5_blendPrice_18 ?_
        refine rg (C := RX1) (T := TX1) (N := 6) (v := .int (r (12 + 14 * i + 13))) hx hb hT inX1 hown hK (hSh.leaf (i := i) (by omega)).1 rfl 3 (by decide) mf_X5_109 rfl dX5_blendPrice_19 ?_
        refine lv_aload_n hx hb dX5_blendPrice_22 rfl (lv_at hl 0 rfl) ?_
        refine lv_iload_n hx hb dX5_blendPrice_23 rfl (lv_at hl 1 rfl) ?_
        refine got_i (run_i hx hb hml hown hT hK hl.1 (k_X5_priceOf l G b r i hw (by omega)) (cw_X5_93 hT ⟨Nat.le_of_ble_eq_true rfl, Nat.le_of_ble_eq_true rfl⟩) hSh.1 rfl hSh rfl rfl (Nat.le_of_ble_eq_true rfl) dX5_blendPrice_24 ⟨Nat.zero_le _, Nat.zero_le _⟩) (fun v_1 hv_1 => ?_)
        subst hv_1
        refine lv_imul hx hb dX5_blendPrice_27 ?_
        refine lv_iadd hx hb dX5_blendPrice_28 ?_
        refine lv_istore_n (lv' := [(1, .int ((sm (fun i => shF r i * prF r i) i) + ((r (12 + 14 * i + 13)) * (prF r i)))), (0, .ref b), (2, .int (nI i))]) hx hb dX5_blendPrice_29 rfl hl (by decide) rfl (fun ls hl => ?_)
        refine lv_iinc (v := nI (i + 1)) (lv' := [(2, .int (nI (i + 1))), (1, .int ((sm (fun i => shF r i * prF r i) i) + ((r (12 + 14 * i + 13)) * (prF r i)))), (0, .ref b)]) hx hb dX5_blendPrice_30 hl (k := 2) rfl (nI_1 i) (by decide) rfl (fun ls hl => ?_)
        refine lv_goto (tgt := 4) hx hb dX5_blendPrice_33 (by decide) ?_
        exact ih (i + 1) (by omega) (by omega) ls (lv_sub hl [2, 0, 1] rfl)
  exact loop (nlv r + 1) 0 (Nat.zero_le _) (by omega) ls (lv_sub hl [2, 0, 1] rfl)

set_option maxHeartbeats 4000000 in
set_option maxRecDepth 100000 in
theorem k_X5_tasteSum (l : Launch) (G : GG) (b : Nat) (r : Nat → Int32) (t : Nat) (d : Int32) (hw : WF r) (ht : t < 3) : Met l yX5_tasteSum (ws_ yX5_tasteSum cX5_tasteSum 5 (some .int)) (rm_ 2) (PC G [.ref b, .int (nI t), .int d] (ShopAt G b r)) (vp_Si (fun z => z = tsS r t d)) 0 0 NoA := by
  refine met_q (by decide +kernel) (Nat.le_of_ble_eq_true rfl) ?_
  intro p e s m args below meth c Q hQ hx hb hr hT hown hml hlocks hnm hK hSh ls hl
  have hl : lv_has ls 5 [(0, .ref b), (1, .int (nI t)), (2, .int d)] := hl
  have hn5 := hw.nl5
  have hnl := hw.nl
  refine lv_iconst (v := 0) hx hb dX5_tasteSum_0 (by decide) ?_
  refine lv_istore_n (lv' := [(3, .int 0), (0, .ref b), (1, .int (nI t)), (2, .int d)]) hx hb dX5_tasteSum_1 rfl hl (by decide) rfl (fun ls hl => ?_)
  refine lv_iconst (v := 0) hx hb dX5_tasteSum_2 (by decide) ?_
  refine lv_istore (lv' := [(4, .int 0), (3, .int 0), (0, .ref b), (1, .int (nI t)), (2, .int d)]) hx hb dX5_tasteSum_3 hl (by decide) rfl (fun ls hl => ?_)
  have loop : ∀ (k : Nat) (i : Nat), i ≤ nlv r → nlv r - i < k → ∀ ls : Array Slot, lv_has ls 5 [(0, .ref b), (1, .int (nI t)), (2, .int d), (4, .int (nI i)), (3, .int (sm (fun i => shF r i * tsF r i t d) i))] → W p l e (rm_ 2) s m args below meth c s.heap [] 0 0 Q (F0 m 5 ls []) := by
    intro k
    induction k with
    | zero => intro i hi hm; exact absurd hm (Nat.not_lt_zero _)
    | succ k ih =>
      intro i hi hm ls hl
      refine lv_iload hx hb dX5_tasteSum_5 (lv_at hl 3 rfl) ?_
      refine lv_aload_n hx hb dX5_tasteSum_7 rfl (lv_at hl 0 rfl) ?_
      refine rg (C := RX5) (T := TX5) (N := 8) (v := .int (r 5)) hx hb hT inX5 hown hK hSh.1 rfl 4 (by decide) mf_X5_52 rfl dX5_tasteSum_8 ?_
      refine lv_icmp_ge (tgt := 42) hx hb dX5_tasteSum_11 (by decide) (fun cd => ?_) (fun cd => ?_)
      · have hge : nlv r ≤ i := by
          rw [hnl, nI_leI (by omega) (by omega)] at cd
          exact cd
        have he : i = nlv r := by omega
        subst he
        refine lv_iload_n hx hb dX5_tasteSum_42 rfl (lv_at hl 4 rfl) ?_
        exact nd_i hQ hx hb hr hlocks dX5_tasteSum_43 (rfl)
      · have hlt : i < nlv r := by
          rw [hnl, nI_leI (by omega) (by omega)] at cd
          omega
        refine lv_iload_n hx hb dX5_tasteSum_14 rfl (lv_at hl 4 rfl) ?_
        refine lv_aload_n hx hb dX5_tasteSum_15 rfl (lv_at hl 0 rfl) ?_
        refine rg (C := RX5) (T := TX5) (N := 8) (v := .ref (b + 1)) hx hb hT inX5 hown hK hSh.1 rfl 0 (by decide) mf_X5_11 rfl dX5_tasteSum_16 ?_
        refine lv_iload hx hb dX5_tasteSum_19 (lv_at hl 3 rfl) ?_
        refine r_aaldS (y := b + 5 + 3 * i) hx hb hK hSh.2.1 rfl rfl i (rfl) (by omega) (Nat.le_of_ble_eq_true rfl) rfl dX5_tasteSum_21 ?_
        refine rg (C := RX1) (T := TX1) (N := 6) (v := .int (r (12 + 14 * i + 13))) hx hb hT inX1 hown hK (hSh.leaf (i := i) (by omega)).1 rfl 3 (by decide) mf_X5_109 rfl dX5_tasteSum_22 ?_
        refine lv_aload_n hx hb dX5_tasteSum_25 rfl (lv_at hl 0 rfl) ?_
        refine lv_iload hx hb dX5_tasteSum_26 (lv_at hl 3 rfl) ?_
        refine lv_iload_n hx hb dX5_tasteSum_28 rfl (lv_at hl 1 rfl) ?_
        refine lv_iload_n hx hb dX5_tasteSum_29 rfl (lv_at hl 2 rfl) ?_
        refine got_i (run_i hx hb hml hown hT hK hl.1 (k_X5_tasteOf l G b r i t d (by omega) ht) (cw_X5_133 hT ⟨Nat.le_of_ble_eq_true rfl, Nat.le_of_ble_eq_true rfl⟩) hSh.1 rfl hSh rfl rfl (Nat.le_of_ble_eq_true rfl) dX5_tasteSum_30 ⟨Nat.zero_le _, Nat.zero_le _⟩) (fun v_1 hv_1 => ?_)
        subst hv_1
        refine lv_imul hx hb dX5_tasteSum_33 ?_
        refine lv_iadd hx hb dX5_tasteSum_34 ?_
        refine lv_istore_n (lv' := [(3, .int ((sm (fun i => shF r i * tsF r i t d) i) + ((r (12 + 14 * i + 13)) * (tsF r i t d)))), (0, .ref b), (1, .int (nI t)), (2, .int d), (4, .int (nI i))]) hx hb dX5_tasteSum_35 rfl hl (by decide) rfl (fun ls hl => ?_)
        refine lv_iinc (v := nI (i + 1)) (lv' := [(4, .int (nI (i + 1))), (3, .int ((sm (fun i => shF r i * tsF r i t d) i) + ((r (12 + 14 * i + 13)) * (tsF r i t d)))), (0, .ref b), (1, .int (nI t)), (2, .int d)]) hx hb dX5_tasteSum_36 hl (k := 4) rfl (nI_1 i) (by decide) rfl (fun ls hl => ?_)
        refine lv_goto (tgt := 5) hx hb dX5_tasteSum_39 (by decide) ?_
        exact ih (i + 1) (by omega) (by omega) ls (lv_sub hl [2, 3, 4, 0, 1] rfl)
  exact loop (nlv r + 1) 0 (Nat.zero_le _) (by omega) ls (lv_sub hl [2, 3, 4, 0, 1] rfl)
