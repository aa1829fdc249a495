/-! the row's ranges; prices, tastes, shares as natural numbers -/
def LfR (r : Nat → Int32) (i : Nat) : Prop :=
  (0 ≤ (r (12 + 14 * i + 0)).toInt ∧ (r (12 + 14 * i + 0)).toInt ≤ 999) ∧ (∀ k, k < 7 → -9 ≤ (r (12 + 14 * i + (1 + k))).toInt ∧ (r (12 + 14 * i + (1 + k))).toInt ≤ 9) ∧ (∀ t, t < 3 → 0 ≤ (r (12 + 14 * i + (8 + t))).toInt ∧ (r (12 + 14 * i + (8 + t))).toInt ≤ 100) ∧
  (0 ≤ (r (12 + 14 * i + 11)).toInt ∧ (r (12 + 14 * i + 11)).toInt ≤ 9999) ∧ (0 ≤ (r (12 + 14 * i + 12)).toInt ∧ (r (12 + 14 * i + 12)).toInt ≤ (r 2).toInt) ∧ (0 ≤ (r (12 + 14 * i + 13)).toInt ∧ (r (12 + 14 * i + 13)).toInt ≤ 20)
def sv (r : Nat → Int32) (i : Nat) : Nat := (r (12 + 14 * i + 13)).toInt.toNat
def BdR (r : Nat → Int32) (t : Nat) : Prop := (0 ≤ (r (6 + t)).toInt ∧ (r (6 + t)).toInt ≤ 100) ∧ (0 ≤ (r (9 + t)).toInt ∧ (r (9 + t)).toInt ≤ 100)
def Iv (r : Nat → Int32) : Prop := WF r ∧ (r 2).toInt ≤ 9999 ∧ (0 ≤ (r 0).toInt ∧ (r 0).toInt ≤ 99) ∧ (∀ t, t < 3 → BdR r t) ∧ (∀ i, i < 5 → LfR r i) ∧ sn (sv r) (nlv r) ≤ 20
theorem mx_nI {q : Int32} {z : Int} (hq : q.toInt = z) (hz : z < 2 ^ 31) : mxI 0 q = nI z.toNat := by
  unfold mxI
  by_cases h : 0 < q
  · rw [if_pos h]
    rw [i32_lt_iff, show (0 : Int32).toInt = 0 from rfl, hq] at h
    rw [← hq]
    exact nI_of_toInt (by omega)
  · rw [if_neg h]
    rw [i32_lt_iff, show (0 : Int32).toInt = 0 from rfl, hq] at h
    rw [show z.toNat = 0 by omega]
    exact nI_0.symm
def Vv (r : Nat → Int32) (k c : Nat) : Nat := if c = 3 then (prF r k).toInt.toNat else (tsF r k c 0).toInt.toNat
theorem Vv_p {r : Nat → Int32} (h : Iv r) {i : Nat} (hi : i < 5) : prF r i = nI (Vv r i 3) ∧ Vv r i 3 ≤ 1008 := by
  obtain ⟨hw, -, -, -, hl, -⟩ := h
  obtain ⟨⟨a1, a2⟩, hc, -⟩ := hl i hi
  obtain ⟨b1, b2⟩ := hc (plv r) hw.pl.2
  have hs : (r (12 + 14 * i + 0) + r (12 + 14 * i + (1 + plv r))).toInt = (r (12 + 14 * i + 0)).toInt + (r (12 + 14 * i + (1 + plv r))).toInt := by
    rw [Int32.toInt_add, Int.bmod_eq_of_le (by omega) (by omega)]
  have e : prF r i = nI ((r (12 + 14 * i + 0)).toInt + (r (12 + 14 * i + (1 + plv r))).toInt).toNat := mx_nI hs (by omega)
  have ev : Vv r i 3 = ((r (12 + 14 * i + 0)).toInt + (r (12 + 14 * i + (1 + plv r))).toInt).toNat := by
    unfold Vv
    rw [if_pos rfl, e, nIt (by omega)]
  rw [ev]
  exact ⟨e, by omega⟩
theorem tsF_nI {r : Nat → Int32} (h : Iv r) {i t : Nat} (hi : i < 5) (ht : t < 3) : ∃ n, n ≤ 100 ∧ tsF r i t 0 = nI n := by
  obtain ⟨hw, hd, hf, -, hl, -⟩ := h
  obtain ⟨-, -, hts, -, hag, -⟩ := hl i hi
  obtain ⟨c1, c2⟩ := hts t ht
  have e0 := nI_of_toInt c1
  have ef := nI_of_toInt hf.1
  have ea := nI_of_toInt hag.1
  obtain ⟨a, ha⟩ : ∃ a, a = (r (12 + 14 * i + (8 + t))).toInt.toNat := ⟨_, rfl⟩
  obtain ⟨f, hf'⟩ : ∃ a, a = (r 0).toInt.toNat := ⟨_, rfl⟩
  obtain ⟨g, hg⟩ : ∃ a, a = (r (12 + 14 * i + 12)).toInt.toNat := ⟨_, rfl⟩
  rw [← ha] at e0
  rw [← hf'] at ef
  rw [← hg] at ea
  have hfg : f * g ≤ 99 * 9999 := Nat.mul_le_mul (by omega) (by omega)
  have em : r 0 * (r (12 + 14 * i + 12) + 0) = nI (f * g) := by rw [Int32.add_zero, ef, ea, pk_mul]
  have hs : (1000 - r 0 * (r (12 + 14 * i + 12) + 0)).toInt = 1000 - ((f * g : Nat) : Int) := by
    rw [em, Int32.toInt_sub, nI_toInt (by omega), show (1000 : Int32).toInt = 1000 from rfl, Int.bmod_eq_of_le (by omega) (by omega)]
  have hm := mx_nI hs (by omega)
  obtain ⟨m, hm'⟩ : ∃ m, m = (1000 - ((f * g : Nat) : Int)).toNat := ⟨_, rfl⟩
  rw [← hm'] at hm
  have hm1 : m ≤ 1000 := by omega
  have ham : a * m ≤ 100 * 1000 := Nat.mul_le_mul (by omega) hm1
  refine ⟨a * m / 1000, by omega, ?_⟩
  unfold tsF
  rw [hm, e0, pk_mul]
  exact pk_div (d := 1000) (by omega) (by omega) (by omega)
theorem Vv_t {r : Nat → Int32} (h : Iv r) {i t : Nat} (hi : i < 5) (ht : t < 3) : tsF r i t 0 = nI (Vv r i t) ∧ Vv r i t ≤ 100 := by
  obtain ⟨n, hn, e⟩ := tsF_nI h hi ht
  have ev : Vv r i t = n := by
    unfold Vv
    rw [if_neg (by omega), e, nIt (by omega)]
  rw [ev]
  exact ⟨e, hn⟩
theorem sv_s {r : Nat → Int32} (h : Iv r) {i : Nat} (hi : i < 5) : shF r i = nI (sv r i) ∧ sv r i ≤ 20 := by
  obtain ⟨-, -, -, -, -, h1, h2⟩ := (h.2.2.2.2.1 i hi)
  exact ⟨nI_of_toInt h1, by unfold sv; omega⟩
theorem shS_nI {r : Nat → Int32} (h : Iv r) : shS r = nI (sn (sv r) (nlv r)) := by
  unfold shS
  rw [← sm_nI]
  have := h.1.nl5
  exact sm_ext _ (fun i hi => (sv_s h (by omega)).1)
/-- the values that the model lays down for a day: nothing beyond the leaves -/
def Vn (r : Nat → Int32) (k c : Nat) : Nat := if k < nlv r then Vv r k c else 0
theorem Vn_le {r : Nat → Int32} (h : Iv r) {k c : Nat} (hk : k < 5) (hc : c < 4) : Vn r k c ≤ 1008 := by
  unfold Vn
  split
  · by_cases q : c = 3
    · rw [q]; exact (Vv_p h hk).2
    · have := (Vv_t h hk (t := c) (by omega)).2; omega
  · omega
def prq (r : Nat → Int32) (k : Nat) : Int32 := nI (Vn r k 3)
def tsq (r : Nat → Int32) (q : Nat) : Int32 := nI (Vn r (q / 3) (q % 3))

set_option maxHeartbeats 4000000 in
set_option maxRecDepth 100000 in
theorem k_X7_layDay (l : Launch) (G : GG) (w : Nat) (M : Nat → Nat → Int32)  (hv : Iv (M 0)) : Met l yX7_layDay (ws_ yX7_layDay cX7_layDay 4 (none : Option Jvm.ClassFile.FieldType)) (rm_ 2) (PC G [.ref w] (MdAt G w M)) (QV (MdAt G w (updM (updM M 12 (prq (M 0))) 13 (tsq (M 0)))) (In w 13)) 0 0 (In w 13) := by
  refine met_q (by decide +kernel) (Nat.le_of_ble_eq_true rfl) ?_
  intro p e s m args below meth c Q hQ hx hb hr hT hown hml hlocks hnm hK hM ls hl
  have hl : lv_has ls 4 [(0, .ref w)] := hl
  have hS : va_S (In w 13) s.heap s.heap [] := va_S.rf
  have hw := hv.1
  have hn5 := hw.nl5
  have hnl := hw.nl
  refine lv_iconst (v := 0) hx hb dX7_layDay_0 (by decide) ?_
  refine lv_istore_n (lv' := [(1, .int 0), (0, .ref w)]) hx hb dX7_layDay_1 rfl hl (by decide) rfl (fun ls hl => ?_)
  have loop : ∀ (k : Nat) (i : Nat) (H : Heap) (locs : List Loc), va_S (In w 13) s.heap H locs → i ≤ 5 → MdAt G w (updM (updM M 12 (cpN (M 12) (prq (M 0)) 0 i)) 13 (cpN (M 13) (tsq (M 0)) 0 (3 * i))) H → 5 - i < k → ∀ ls : Array Slot, lv_has ls 4 [(1, .int (nI i)), (0, .ref w)] → W p l e (rm_ 2) s m args below meth c H locs 0 0 Q (F0 m 2 ls []) := by
    intro k
    induction k with
    | zero => intro i H locs hS hi hM hm; exact absurd hm (Nat.not_lt_zero _)
    | succ k ih =>
      intro i H locs hS hi hM hm ls hl
      refine lv_iload_n hx hb dX7_layDay_2 rfl (lv_at hl 0 rfl) ?_
      refine lv_iconst (v := 5) hx hb dX7_layDay_3 (by decide) ?_
      refine lv_icmp_ge (tgt := 86) hx hb dX7_layDay_4 (by decide) (fun cd => ?_) (fun cd => ?_)
      · have e_i : i = 5 := by
          have h9 : nI 5 ≤ nI i := cd
          rw [nI_leI (by omega) (by omega)] at h9
          omega
        subst e_i
        exact nd_V hQ hx hb hr hlocks dX7_layDay_86 hS ((by
      have e1 : ∀ j, j < 5 → cpN (M 12) (prq (M 0)) 0 5 j = prq (M 0) j := fun j hj => cpN_in0 hj
      have e2 : ∀ j, j < 15 → cpN (M 13) (tsq (M 0)) 0 (3 * 5) j = tsq (M 0) j := fun j hj => cpN_in0 (by omega)
      obtain ⟨p0, p1, p2, p3, p4, p5, p6, p7, p8, p9, p10, p11, p12⟩ := hM
      exact ⟨p0, p1, p2, p3, p4, p5, p6, p7, p8, p9, iA_ext p10 e1, iA_ext p11 e2, p12⟩))
      · have h_i : i < 5 := by
          have h9 : ¬ nI 5 ≤ nI i := cd
          rw [nI_leI (by omega) (by omega)] at h9
          omega
        refine lv_iload_n hx hb dX7_layDay_7 rfl (lv_at hl 0 rfl) ?_
        refine lv_aload_n hx hb dX7_layDay_8 rfl (lv_at hl 1 rfl) ?_
        refine rg (C := RX7) (T := TX7) (N := 16) (v := .ref (w + 1)) hx hb hT inX7 hown hK hM.1 rfl 0 (by decide) mf_X7_7 rfl dX7_layDay_9 ?_
        refine lv_iconst (v := 5) hx hb dX7_layDay_12 (by decide) ?_
        refine r_ialdS (y := (updM (updM M 12 (cpN (M 12) (prq (M 0)) 0 i)) 13 (cpN (M 13) (tsq (M 0)) 0 (3 * i))) 0 5) hx hb hK hM.2.1 5 (by decide) (by omega) (Nat.le_of_ble_eq_true rfl) rfl dX7_layDay_13 ?_
        refine lv_icmp_ge (tgt := 21) hx hb dX7_layDay_14 (by decide) (fun ce => ?_) (fun ce => ?_)
        · have hlt : ¬ i < nlv (M 0) := by
            have h9 : M 0 5 ≤ nI i := ce
            rw [hnl, nI_leI (by omega) (by omega)] at h9
            omega
          refine lv_iconst (v := 0) hx hb dX7_layDay_21 (by decide) ?_
          refine lv_istore_n (lv' := [(2, .int 0), (1, .int (nI i)), (0, .ref w)]) hx hb dX7_layDay_22 rfl hl (by decide) rfl (fun ls hl => ?_)
          refine lv_aload_n hx hb dX7_layDay_23 rfl (lv_at hl 2 rfl) ?_
          refine rg (C := RX7) (T := TX7) (N := 16) (v := .ref (w + 10)) hx hb hT inX7 hown hK hM.1 rfl 12 (by decide) mf_X7_38 rfl dX7_layDay_24 ?_
          refine lv_iload_n hx hb dX7_layDay_27 rfl (lv_at hl 1 rfl) ?_
          refine lv_iload_n hx hb dX7_layDay_28 rfl (lv_at hl 0 rfl) ?_
          refine lv_if_eq (tgt := 40) hx hb dX7_layDay_29 (by decide) (fun cf => ?_) (fun cf => ?_)
          · refine lv_iconst (v := 0) hx hb dX7_layDay_40 (by decide) ?_
            rw [show (0 : Int32) = prq (M 0) i by unfold prq Vn; rw [if_neg hlt]; exact nI_0.symm]
            refine r_iast hx hb hK hM.2.2.2.2.2.2.2.2.2.2.1 i (rfl) (h_i) (Nat.le_of_ble_eq_true rfl) hS (show _ ∧ _ from ⟨by omega, by omega⟩) dX7_layDay_41 (fun H locs h1 o hS => ?_)
            have hM := hM.a12 h1 o
            have es : upd (cpN (M 12) (prq (M 0)) 0 i) i (prq (M 0) i) = cpN (M 12) (prq (M 0)) 0 (i + 1) := by have h9 := cpN_s (r := M 12) (g := prq (M 0)) (lo := 0) (n := i); rw [Nat.zero_add] at h9; exact h9
            have hM : MdAt G w (updM (updM M 12 (cpN (M 12) (prq (M 0)) 0 (i + 1))) 13 (cpN (M 13) (tsq (M 0)) 0 (3 * i))) H := by
              have em : updM (updM (updM M 12 (cpN (M 12) (prq (M 0)) 0 i)) 13 (cpN (M 13) (tsq (M 0)) 0 (3 * i))) 12 (cpN (M 12) (prq (M 0)) 0 (i + 1)) = (updM (updM M 12 (cpN (M 12) (prq (M 0)) 0 (i + 1))) 13 (cpN (M 13) (tsq (M 0)) 0 (3 * i))) := by
                funext j
                unfold updM
                by_cases q : j = 12
                · rw [if_pos q, if_neg (by omega), if_pos q]
                · rw [if_neg q, if_neg q, if_neg q]
              rw [← em, ← es]
              exact hM
            refine lv_iconst (v := 0) hx hb dX7_layDay_42 (by decide) ?_
            refine lv_istore_n (lv' := [(3, .int 0), (2, .int 0), (1, .int (nI i)), (0, .ref w)]) hx hb dX7_layDay_43 rfl hl (by decide) rfl (fun ls hl => ?_)
            have loop2 : ∀ (k : Nat) (t : Nat) (H : Heap) (locs : List Loc), va_S (In w 13) s.heap H locs → t ≤ 3 → MdAt G w (updM (updM M 12 (cpN (M 12) (prq (M 0)) 0 (i + 1))) 13 (cpN (M 13) (tsq (M 0)) 0 (3 * i + t))) H → 3 - t < k → ∀ ls : Array Slot, lv_has ls 4 [(3, .int (nI t)), (2, .int 0), (1, .int (nI i)), (0, .ref w)] → W p l e (rm_ 2) s m args below meth c H locs 0 0 Q (F0 m 44 ls []) := by
              intro k2
              induction k2 with
              | zero => intro t H locs hS ht hM hm; exact absurd hm (Nat.not_lt_zero _)
              | succ k2 ih2 =>
                intro t H locs hS ht hM hm ls hl
                refine lv_iload_n hx hb dX7_layDay_44 rfl (lv_at hl 0 rfl) ?_
                refine lv_iconst (v := 3) hx hb dX7_layDay_45 (by decide) ?_
                refine lv_icmp_ge (tgt := 80) hx hb dX7_layDay_46 (by decide) (fun cd => ?_) (fun cd => ?_)
                · have e_t : t = 3 := by
                    have h9 : nI 3 ≤ nI t := cd
                    rw [nI_leI (by omega) (by omega)] at h9
                    omega
                  subst e_t
                  refine lv_iinc (v := nI (i + 1)) (lv' := [(1, .int (nI (i + 1))), (3, .int (nI 3)), (2, .int 0), (0, .ref w)]) hx hb dX7_layDay_80 hl (k := 2) rfl (nI_1 i) (by decide) rfl (fun ls hl => ?_)
                  refine lv_goto (tgt := 2) hx hb dX7_layDay_83 (by decide) ?_
                  have hM : MdAt G w (updM (updM M 12 (cpN (M 12) (prq (M 0)) 0 (i + 1))) 13 (cpN (M 13) (tsq (M 0)) 0 (3 * (i + 1)))) H := hM
                  exact ih (i + 1) _ _ hS (by omega) hM (by omega) ls (lv_sub hl [0, 3] rfl)
                · have h_t : t < 3 := by
                    have h9 : ¬ nI 3 ≤ nI t := cd
                    rw [nI_leI (by omega) (by omega)] at h9
                    omega
                  refine lv_aload_n hx hb dX7_layDay_49 rfl (lv_at hl 3 rfl) ?_
                  refine rg (C := RX7) (T := TX7) (N := 16) (v := .ref (w + 11)) hx hb hT inX7 hown hK hM.1 rfl 13 (by decide) mf_X7_41 rfl dX7_layDay_50 ?_
                  refine lv_iconst (v := 3) hx hb dX7_layDay_53 (by decide) ?_
                  refine lv_iload_n hx hb dX7_layDay_54 rfl (lv_at hl 2 rfl) ?_
                  refine lv_imul hx hb dX7_layDay_55 ?_
                  refine lv_iload_n hx hb dX7_layDay_56 rfl (lv_at hl 0 rfl) ?_
                  refine lv_iadd hx hb dX7_layDay_57 ?_
                  refine lv_iload_n hx hb dX7_layDay_58 rfl (lv_at hl 1 rfl) ?_
                  refine lv_if_eq (tgt := 72) hx hb dX7_layDay_59 (by decide) (fun cg => ?_) (fun cg => ?_)
                  · refine lv_iconst (v := 0) hx hb dX7_layDay_72 (by decide) ?_
                    rw [show (0 : Int32) = tsq (M 0) (3 * i + t) by unfold tsq Vn; rw [show (3 * i + t) / 3 = i by omega, if_neg hlt]; exact nI_0.symm]
                    refine r_iast hx hb hK hM.2.2.2.2.2.2.2.2.2.2.2.1 (3 * i + t) (by rw [show (3 : Int32) = nI 3 from rfl, pk_mul, nI_add]) (by omega) (Nat.le_of_ble_eq_true rfl) hS (show _ ∧ _ from ⟨by omega, by omega⟩) dX7_layDay_73 (fun H locs h1 o hS => ?_)
                    have hM := hM.a13 h1 o
                    have es : upd (cpN (M 13) (tsq (M 0)) 0 (3 * i + t)) (3 * i + t) (tsq (M 0) (3 * i + t)) = cpN (M 13) (tsq (M 0)) 0 (3 * i + (t + 1)) := by have h9 := cpN_s (r := M 13) (g := tsq (M 0)) (lo := 0) (n := 3 * i + t); rw [Nat.zero_add] at h9; exact h9
                    rw [updM_2, updM_eq, es] at hM
                    refine lv_iinc (v := nI (t + 1)) (lv' := [(3, .int (nI (t + 1))), (2, .int 0), (1, .int (nI i)), (0, .ref w)]) hx hb dX7_layDay_74 hl (k := 0) rfl (nI_1 t) (by decide) rfl (fun ls hl => ?_)
                    refine lv_goto (tgt := 44) hx hb dX7_layDay_77 (by decide) ?_
                    exact ih2 (t + 1) _ _ hS (by omega) hM (by omega) ls (lv_sub hl [0, 1, 2, 3] rfl)
                  · exact absurd rfl cg
            exact loop2 4 0 _ _ hS (by omega) (by exact hM) (by omega) ls (lv_sub hl [0, 1, 2, 3] rfl)
          · exact absurd rfl cf
        · have hlt : i < nlv (M 0) := by
            have h9 : ¬ M 0 5 ≤ nI i := ce
            rw [hnl, nI_leI (by omega) (by omega)] at h9
            omega
          refine lv_iconst (v := 1) hx hb dX7_layDay_17 (by decide) ?_
          refine lv_goto (tgt := 22) hx hb dX7_layDay_18 (by decide) ?_
          refine lv_istore_n (lv' := [(2, .int 1), (1, .int (nI i)), (0, .ref w)]) hx hb dX7_layDay_22 rfl hl (by decide) rfl (fun ls hl => ?_)
          refine lv_aload_n hx hb dX7_layDay_23 rfl (lv_at hl 2 rfl) ?_
          refine rg (C := RX7) (T := TX7) (N := 16) (v := .ref (w + 10)) hx hb hT inX7 hown hK hM.1 rfl 12 (by decide) mf_X7_38 rfl dX7_layDay_24 ?_
          refine lv_iload_n hx hb dX7_layDay_27 rfl (lv_at hl 1 rfl) ?_
          refine lv_iload_n hx hb dX7_layDay_28 rfl (lv_at hl 0 rfl) ?_
          refine lv_if_eq (tgt := 40) hx hb dX7_layDay_29 (by decide) (fun cf => ?_) (fun cf => ?_)
          · exact absurd cf (by decide)
          · refine lv_aload_n hx hb dX7_layDay_32 rfl (lv_at hl 2 rfl) ?_
            refine lv_iload_n hx hb dX7_layDay_33 rfl (lv_at hl 1 rfl) ?_
            refine got_i (run_i hx hb hml hown hT hK hl.1 (k_X7_priceOf l G w (updM (updM M 12 (cpN (M 12) (prq (M 0)) 0 i)) 13 (cpN (M 13) (tsq (M 0)) 0 (3 * i))) i hw (by omega)) (cw_X7_66 hT ⟨Nat.le_of_ble_eq_true rfl, Nat.le_of_ble_eq_true rfl⟩) hM.1 rfl hM rfl rfl (Nat.le_of_ble_eq_true rfl) dX7_layDay_34 ⟨Nat.zero_le _, Nat.zero_le _⟩) (fun v_1 hv_1 => ?_)
            subst hv_1
            refine lv_goto (tgt := 41) hx hb dX7_layDay_37 (by decide) ?_
            rw [show prF ((updM (updM M 12 (cpN (M 12) (prq (M 0)) 0 i)) 13 (cpN (M 13) (tsq (M 0)) 0 (3 * i))) 0) i = prq (M 0) i by unfold prq Vn; rw [if_pos hlt]; exact (Vv_p hv (by omega)).1]
            refine r_iast hx hb hK hM.2.2.2.2.2.2.2.2.2.2.1 i (rfl) (h_i) (Nat.le_of_ble_eq_true rfl) hS (show _ ∧ _ from ⟨by omega, by omega⟩) dX7_layDay_41 (fun H locs h1 o hS => ?_)
            have hM := hM.a12 h1 o
            have es : upd (cpN (M 12) (prq (M 0)) 0 i) i (prq (M 0) i) = cpN (M 12) (prq (M 0)) 0 (i + 1) := by have h9 := cpN_s (r := M 12) (g := prq (M 0)) (lo := 0) (n := i); rw [Nat.zero_add] at h9; exact h9
            have hM : MdAt G w (updM (updM M 12 (cpN (M 12) (prq (M 0)) 0 (i + 1))) 13 (cpN (M 13) (tsq (M 0)) 0 (3 * i))) H := by
              have em : updM (updM (updM M 12 (cpN (M 12) (prq (M 0)) 0 i)) 13 (cpN (M 13) (tsq (M 0)) 0 (3 * i))) 12 (cpN (M 12) (prq (M 0)) 0 (i + 1)) = (updM (updM M 12 (cpN (M 12) (prq (M 0)) 0 (i + 1))) 13 (cpN (M 13) (tsq (M 0)) 0 (3 * i))) := by
                funext j
                unfold updM
                by_cases q : j = 12
                · rw [if_pos q, if_neg (by omega), if_pos q]
                · rw [if_neg q, if_neg q, if_neg q]
              rw [← em, ← es]
              exact hM
            refine lv_iconst (v := 0) hx hb dX7_layDay_42 (by decide) ?_
            refine lv_istore_n (lv' := [(3, .int 0), (2, .int 1), (1, .int (nI i)), (0, .ref w)]) hx hb dX7_layDay_43 rfl hl (by decide) rfl (fun ls hl => ?_)
            have loop2 : ∀ (k : Nat) (t : Nat) (H : Heap) (locs : List Loc), va_S (In w 13) s.heap H locs → t ≤ 3 → MdAt G w (updM (updM M 12 (cpN (M 12) (prq (M 0)) 0 (i + 1))) 13 (cpN (M 13) (tsq (M 0)) 0 (3 * i + t))) H → 3 - t < k → ∀ ls : Array Slot, lv_has ls 4 [(3, .int (nI t)), (2, .int 1), (1, .int (nI i)), (0, .ref w)] → W p l e (rm_ 2) s m args below meth c H locs 0 0 Q (F0 m 44 ls []) := by
              intro k2
              induction k2 with
              | zero => intro t H locs hS ht hM hm; exact absurd hm (Nat.not_lt_zero _)
              | succ k2 ih2 =>
                intro t H locs hS ht hM hm ls hl
                refine lv_iload_n hx hb dX7_layDay_44 rfl (lv_at hl 0 rfl) ?_
                refine lv_iconst (v := 3) hx hb dX7_layDay_45 (by decide) ?_
                refine lv_icmp_ge (tgt := 80) hx hb dX7_layDay_46 (by decide) (fun cd => ?_) (fun cd => ?_)
                · have e_t : t = 3 := by
                    have h9 : nI 3 ≤ nI t := cd
                    rw [nI_leI (by omega) (by omega)] at h9
                    omega
                  subst e_t
                  refine lv_iinc (v := nI (i + 1)) (lv' := [(1, .int (nI (i + 1))), (3, .int (nI 3)), (2, .int 1), (0, .ref w)]) hx hb dX7_layDay_80 hl (k := 2) rfl (nI_1 i) (by decide) rfl (fun ls hl => ?_)
                  refine lv_goto (tgt := 2) hx hb dX7_layDay_83 (by decide) ?_
                  have hM : MdAt G w (updM (updM M 12 (cpN (M 12) (prq (M 0)) 0 (i + 1))) 13 (cpN (M 13) (tsq (M 0)) 0 (3 * (i + 1)))) H := hM
                  exact ih (i + 1) _ _ hS (by omega) hM (by omega) ls (lv_sub hl [0, 3] rfl)
                · have h_t : t < 3 := by
                    have h9 : ¬ nI 3 ≤ nI t := cd
                    rw [nI_leI (by omega) (by omega)] at h9
                    omega
                  refine lv_aload_n hx hb dX7_layDay_49 rfl (lv_at hl 3 rfl) ?_
                  refine rg (C := RX7) (T := TX7) (N := 16) (v := .ref (w + 11)) hx hb hT inX7 hown hK hM.1 rfl 13 (by decide) mf_X7_41 rfl dX7_layDay_50 ?_
                  refine lv_iconst (v := 3) hx hb dX7_layDay_53 (by decide) ?_
                  refine lv_iload_n hx hb dX7_layDay_54 rfl (lv_at hl 2 rfl) ?_
                  refine lv_imul hx hb dX7_layDay_55 ?_
                  refine lv_iload_n hx hb dX7_layDay_56 rfl (lv_at hl 0 rfl) ?_
                  refine lv_iadd hx hb dX7_layDay_57 ?_
                  refine lv_iload_n hx hb dX7_layDay_58 rfl (lv_at hl 1 rfl) ?_
                  refine lv_if_eq (tgt := 72) hx hb dX7_layDay_59 (by decide) (fun cg => ?_) (fun cg => ?_)
                  · exact absurd cg (by decide)
                  · refine lv_aload_n hx hb dX7_layDay_62 rfl (lv_at hl 3 rfl) ?_
                    refine lv_iload_n hx hb dX7_layDay_63 rfl (lv_at hl 2 rfl) ?_
                    refine lv_iload_n hx hb dX7_layDay_64 rfl (lv_at hl 0 rfl) ?_
                    refine lv_iconst (v := 0) hx hb dX7_layDay_65 (by decide) ?_
                    refine got_i (run_i hx hb hml hown hT hK hl.1 (k_X7_tasteOf l G w (updM (updM M 12 (cpN (M 12) (prq (M 0)) 0 (i + 1))) 13 (cpN (M 13) (tsq (M 0)) 0 (3 * i + t))) i t 0 (by omega) h_t) (cw_X7_69 hT ⟨Nat.le_of_ble_eq_true rfl, Nat.le_of_ble_eq_true rfl⟩) hM.1 rfl hM rfl rfl (Nat.le_of_ble_eq_true rfl) dX7_layDay_66 ⟨Nat.zero_le _, Nat.zero_le _⟩) (fun v_2 hv_2 => ?_)
                    subst hv_2
                    refine lv_goto (tgt := 73) hx hb dX7_layDay_69 (by decide) ?_
                    rw [show tsF ((updM (updM M 12 (cpN (M 12) (prq (M 0)) 0 (i + 1))) 13 (cpN (M 13) (tsq (M 0)) 0 (3 * i + t))) 0) i t 0 = tsq (M 0) (3 * i + t) by unfold tsq Vn; rw [show (3 * i + t) / 3 = i by omega, show (3 * i + t) % 3 = t by omega, if_pos hlt]; exact (Vv_t hv (by omega) h_t).1]
                    refine r_iast hx hb hK hM.2.2.2.2.2.2.2.2.2.2.2.1 (3 * i + t) (by rw [show (3 : Int32) = nI 3 from rfl, pk_mul, nI_add]) (by omega) (Nat.le_of_ble_eq_true rfl) hS (show _ ∧ _ from ⟨by omega, by omega⟩) dX7_layDay_73 (fun H locs h1 o hS => ?_)
                    have hM := hM.a13 h1 o
                    have es : upd (cpN (M 13) (tsq (M 0)) 0 (3 * i + t)) (3 * i + t) (tsq (M 0) (3 * i + t)) = cpN (M 13) (tsq (M 0)) 0 (3 * i + (t + 1)) := by have h9 := cpN_s (r := M 13) (g := tsq (M 0)) (lo := 0) (n := 3 * i + t); rw [Nat.zero_add] at h9; exact h9
                    rw [updM_2, updM_eq, es] at hM
                    refine lv_iinc (v := nI (t + 1)) (lv' := [(3, .int (nI (t + 1))), (2, .int 1), (1, .int (nI i)), (0, .ref w)]) hx hb dX7_layDay_74 hl (k := 0) rfl (nI_1 t) (by decide) rfl (fun ls hl => ?_)
                    refine lv_goto (tgt := 44) hx hb dX7_layDay_77 (by decide) ?_
                    exact ih2 (t + 1) _ _ hS (by omega) hM (by omega) ls (lv_sub hl [0, 1, 2, 3] rfl)
            exact loop2 4 0 _ _ hS (by omega) (by exact hM) (by omega) ls (lv_sub hl [0, 1, 2, 3] rfl)
  exact loop 6 0 _ _ hS (by omega) (by rw [cpN_0, show cpN (M 13) (tsq (M 0)) 0 (3 * 0) = M 13 from cpN_0, updM_self (by rfl : M 12 = M 12), updM_self (by rfl : M 13 = M 13)]; exact hM) (by omega) ls (lv_sub hl [0, 1] rfl)


def kpP (r : Nat → Int32) (x : Nat → Nat) (V : Nat → Nat → Nat) : Prop := ∀ t, t < 3 → ¬ nI (sn (fun k => x k * V k t) 5) / 20 < r (6 + t) ∧ nI (sn (fun k => x k * V k t) 5) / 20 ≤ r (9 + t)

set_option maxHeartbeats 4000000 in
set_option maxRecDepth 100000 in
theorem k_X7_keeps (l : Launch) (G : GG) (w : Nat) (M : Nat → Nat → Int32) (x : Nat → Nat) (V : Nat → Nat → Nat) (hx5 : ∀ k, k < 5 → M 11 k = nI (x k)) (hT5 : ∀ k, k < 5 → ∀ t, t < 3 → M 13 (3 * k + t) = nI (V k t)) : Met l yX7_keeps (ws_ yX7_keeps cX7_keeps 4 (some .boolean)) (rm_ 0) (PC G [.ref w] (MdAt G w M)) (vp_Si (fun z => z = bc (kpP (M 0) x V))) 0 0 NoA := by
  refine met_q (by decide +kernel) (Nat.le_of_ble_eq_true rfl) ?_
  intro p e s m args below meth c Q hQ hx hb hr hT hown hml hlocks hnm hK hM ls hl
  have hl : lv_has ls 4 [(0, .ref w)] := hl
  refine lv_iconst (v := 0) hx hb dX7_keeps_0 (by decide) ?_
  refine lv_istore_n (lv' := [(1, .int 0), (0, .ref w)]) hx hb dX7_keeps_1 rfl hl (by decide) rfl (fun ls hl => ?_)
  have loop : ∀ (k : Nat) (t : Nat), t ≤ 3 → (∀ t1, t1 < t → ¬ nI (sn (fun k => x k * V k t1) 5) / 20 < M 0 (6 + t1) ∧ nI (sn (fun k => x k * V k t1) 5) / 20 ≤ M 0 (9 + t1)) → 3 - t < k → ∀ ls : Array Slot, lv_has ls 4 [(1, .int (nI t)), (0, .ref w)] → W p l e (rm_ 0) s m args below meth c s.heap [] 0 0 Q (F0 m 2 ls []) := by
    intro k
    induction k with
    | zero => intro t ht hb4 hm; exact absurd hm (Nat.not_lt_zero _)
    | succ k ih =>
      intro t ht hb4 hm ls hl
      refine lv_iload_n hx hb dX7_keeps_2 rfl (lv_at hl 0 rfl) ?_
      refine lv_iconst (v := 3) hx hb dX7_keeps_3 (by decide) ?_
      refine lv_icmp_ge (tgt := 82) hx hb dX7_keeps_4 (by decide) (fun cd => ?_) (fun cd => ?_)
      · have e_t : t = 3 := by
          have h9 : nI 3 ≤ nI t := cd
          rw [nI_leI (by omega) (by omega)] at h9
          omega
        subst e_t
        refine lv_iconst (v := 1) hx hb dX7_keeps_82 (by decide) ?_
        exact nd_z hQ hx hb hr hlocks dX7_keeps_83 (by first | exact Or.inl rfl | exact Or.inr rfl) (bc_t hb4)
      · have h_t : t < 3 := by
          have h9 : ¬ nI 3 ≤ nI t := cd
          rw [nI_leI (by omega) (by omega)] at h9
          omega
        refine lv_iconst (v := 0) hx hb dX7_keeps_7 (by decide) ?_
        refine lv_istore_n (lv' := [(2, .int 0), (1, .int (nI t)), (0, .ref w)]) hx hb dX7_keeps_8 rfl hl (by decide) rfl (fun ls hl => ?_)
        refine lv_iconst (v := 0) hx hb dX7_keeps_9 (by decide) ?_
        refine lv_istore_n (lv' := [(3, .int 0), (2, .int 0), (1, .int (nI t)), (0, .ref w)]) hx hb dX7_keeps_10 rfl hl (by decide) rfl (fun ls hl => ?_)
        have loop2 : ∀ (k : Nat) (i : Nat), i ≤ 5 → 5 - i < k → ∀ ls : Array Slot, lv_has ls 4 [(3, .int (nI i)), (2, .int (nI (sn (fun k => x k * V k t) i))), (1, .int (nI t)), (0, .ref w)] → W p l e (rm_ 0) s m args below meth c s.heap [] 0 0 Q (F0 m 11 ls []) := by
          intro k2
          induction k2 with
          | zero => intro i hi hm; exact absurd hm (Nat.not_lt_zero _)
          | succ k2 ih2 =>
            intro i hi hm ls hl
            refine lv_iload_n hx hb dX7_keeps_11 rfl (lv_at hl 0 rfl) ?_
            refine lv_iconst (v := 5) hx hb dX7_keeps_12 (by decide) ?_
            refine lv_icmp_ge (tgt := 42) hx hb dX7_keeps_13 (by decide) (fun cd => ?_) (fun cd => ?_)
            · have e_i : i = 5 := by
                have h9 : nI 5 ≤ nI i := cd
                rw [nI_leI (by omega) (by omega)] at h9
                omega
              subst e_i
              refine lv_iload_n hx hb dX7_keeps_42 rfl (lv_at hl 1 rfl) ?_
              refine lv_bipush (v := 20) hx hb dX7_keeps_43 (by decide) ?_
              refine lv_idiv hx hb dX7_keeps_45 (by decide) ?_
              refine lv_aload_n hx hb dX7_keeps_46 rfl (lv_at hl 3 rfl) ?_
              refine rg (C := RX7) (T := TX7) (N := 16) (v := .ref (w + 1)) hx hb hT inX7 hown hK hM.1 rfl 0 (by decide) mf_X7_7 rfl dX7_keeps_47 ?_
              refine lv_bipush (v := 6) hx hb dX7_keeps_50 (by decide) ?_
              refine lv_iload_n hx hb dX7_keeps_52 rfl (lv_at hl 2 rfl) ?_
              refine lv_iadd hx hb dX7_keeps_53 ?_
              refine r_ialdS (y := M 0 (6 + t)) hx hb hK hM.2.1 (6 + t) (nI_add 6 t) (by omega) (Nat.le_of_ble_eq_true rfl) rfl dX7_keeps_54 ?_
              refine lv_icmp_lt (tgt := 74) hx hb dX7_keeps_55 (by decide) (fun c3 => ?_) (fun c3 => ?_)
              · refine lv_iconst (v := 0) hx hb dX7_keeps_74 (by decide) ?_
                exact nd_z hQ hx hb hr hlocks dX7_keeps_75 (by first | exact Or.inl rfl | exact Or.inr rfl) (bc_f (fun q => (q t h_t).1 c3))
              · refine lv_iload_n hx hb dX7_keeps_58 rfl (lv_at hl 1 rfl) ?_
                refine lv_bipush (v := 20) hx hb dX7_keeps_59 (by decide) ?_
                refine lv_idiv hx hb dX7_keeps_61 (by decide) ?_
                refine lv_aload_n hx hb dX7_keeps_62 rfl (lv_at hl 3 rfl) ?_
                refine rg (C := RX7) (T := TX7) (N := 16) (v := .ref (w + 1)) hx hb hT inX7 hown hK hM.1 rfl 0 (by decide) mf_X7_7 rfl dX7_keeps_63 ?_
                refine lv_bipush (v := 9) hx hb dX7_keeps_66 (by decide) ?_
                refine lv_iload_n hx hb dX7_keeps_68 rfl (lv_at hl 2 rfl) ?_
                refine lv_iadd hx hb dX7_keeps_69 ?_
                refine r_ialdS (y := M 0 (9 + t)) hx hb hK hM.2.1 (9 + t) (nI_add 9 t) (by omega) (Nat.le_of_ble_eq_true rfl) rfl dX7_keeps_70 ?_
                refine lv_icmp_le (tgt := 76) hx hb dX7_keeps_71 (by decide) (fun c4 => ?_) (fun c4 => ?_)
                · refine lv_iinc (v := nI (t + 1)) (lv' := [(1, .int (nI (t + 1))), (3, .int (nI 5)), (2, .int (nI (sn (fun k => x k * V k t) 5))), (0, .ref w)]) hx hb dX7_keeps_76 hl (k := 2) rfl (nI_1 t) (by decide) rfl (fun ls hl => ?_)
                  refine lv_goto (tgt := 2) hx hb dX7_keeps_79 (by decide) ?_
                  exact ih (t + 1) (by omega) (lt_s hb4 ⟨c3, c4⟩) (by omega) ls (lv_sub hl [0, 3] rfl)
                · refine lv_iconst (v := 0) hx hb dX7_keeps_74 (by decide) ?_
                  exact nd_z hQ hx hb hr hlocks dX7_keeps_75 (by first | exact Or.inl rfl | exact Or.inr rfl) (bc_f (fun q => c4 (q t h_t).2))
            · have h_i : i < 5 := by
                have h9 : ¬ nI 5 ≤ nI i := cd
                rw [nI_leI (by omega) (by omega)] at h9
                omega
              refine lv_iload_n hx hb dX7_keeps_16 rfl (lv_at hl 1 rfl) ?_
              refine lv_aload_n hx hb dX7_keeps_17 rfl (lv_at hl 3 rfl) ?_
              refine rg (C := RX7) (T := TX7) (N := 16) (v := .ref (w + 9)) hx hb hT inX7 hown hK hM.1 rfl 11 (by decide) mf_X7_35 rfl dX7_keeps_18 ?_
              refine lv_iload_n hx hb dX7_keeps_21 rfl (lv_at hl 0 rfl) ?_
              refine r_ialdS (y := M 11 i) hx hb hK hM.2.2.2.2.2.2.2.2.2.1 i (rfl) (by omega) (Nat.le_of_ble_eq_true rfl) rfl dX7_keeps_22 ?_
              refine lv_aload_n hx hb dX7_keeps_23 rfl (lv_at hl 3 rfl) ?_
              refine rg (C := RX7) (T := TX7) (N := 16) (v := .ref (w + 11)) hx hb hT inX7 hown hK hM.1 rfl 13 (by decide) mf_X7_41 rfl dX7_keeps_24 ?_
              refine lv_iconst (v := 3) hx hb dX7_keeps_27 (by decide) ?_
              refine lv_iload_n hx hb dX7_keeps_28 rfl (lv_at hl 0 rfl) ?_
              refine lv_imul hx hb dX7_keeps_29 ?_
              refine lv_iload_n hx hb dX7_keeps_30 rfl (lv_at hl 2 rfl) ?_
              refine lv_iadd hx hb dX7_keeps_31 ?_
              refine r_ialdS (y := M 13 (3 * i + t)) hx hb hK hM.2.2.2.2.2.2.2.2.2.2.2.1 (3 * i + t) (by rw [show (3 : Int32) = nI 3 from rfl, pk_mul, nI_add]) (by omega) (Nat.le_of_ble_eq_true rfl) rfl dX7_keeps_32 ?_
              rw [hx5 i h_i, hT5 i h_i t h_t]
              refine lv_imul hx hb dX7_keeps_33 ?_
              refine lv_iadd hx hb dX7_keeps_34 ?_
              rw [pk_mul, nI_add]
              refine lv_istore_n (lv' := [(2, .int (nI (sn (fun k => x k * V k t) (i + 1)))), (3, .int (nI i)), (1, .int (nI t)), (0, .ref w)]) hx hb dX7_keeps_35 rfl hl (by decide) rfl (fun ls hl => ?_)
              refine lv_iinc (v := nI (i + 1)) (lv' := [(3, .int (nI (i + 1))), (2, .int (nI (sn (fun k => x k * V k t) (i + 1)))), (1, .int (nI t)), (0, .ref w)]) hx hb dX7_keeps_36 hl (k := 1) rfl (nI_1 i) (by decide) rfl (fun ls hl => ?_)
              refine lv_goto (tgt := 11) hx hb dX7_keeps_39 (by decide) ?_
              exact ih2 (i + 1) (by omega) (by omega) ls (lv_sub hl [0, 1, 2, 3] rfl)
        exact loop2 6 0 (by omega) (by omega) ls (lv_sub hl [0, 1, 2, 3] rfl)
  exact loop 4 0 (by omega) (fun j hj => absurd hj (Nat.not_lt_zero _)) (by omega) ls (lv_sub hl [0, 1] rfl)

set_option maxHeartbeats 4000000 in
set_option maxRecDepth 100000 in
theorem k_X7_triedPrice (l : Launch) (G : GG) (w : Nat) (M : Nat → Nat → Int32) (x : Nat → Nat) (V : Nat → Nat → Nat) (hx5 : ∀ k, k < 5 → M 11 k = nI (x k)) (hP5 : ∀ k, k < 5 → M 12 k = nI (V k 3)) : Met l yX7_triedPrice (ws_ yX7_triedPrice cX7_triedPrice 3 (some .int)) (rm_ 0) (PC G [.ref w] (MdAt G w M)) (vp_Si (fun z => z = nI (sn (fun k => x k * V k 3) 5))) 0 0 NoA := by
  refine met_q (by decide +kernel) (Nat.le_of_ble_eq_true rfl) ?_
  intro p e s m args below meth c Q hQ hx hb hr hT hown hml hlocks hnm hK hM ls hl
  have hl : lv_has ls 3 [(0, .ref w)] := hl
  refine lv_iconst (v := 0) hx hb dX7_triedPrice_0 (by decide) ?_
  refine lv_istore_n (lv' := [(1, .int 0), (0, .ref w)]) hx hb dX7_triedPrice_1 rfl hl (by decide) rfl (fun ls hl => ?_)
  refine lv_iconst (v := 0) hx hb dX7_triedPrice_2 (by decide) ?_
  refine lv_istore_n (lv' := [(2, .int 0), (1, .int 0), (0, .ref w)]) hx hb dX7_triedPrice_3 rfl hl (by decide) rfl (fun ls hl => ?_)
  have loop : ∀ (k : Nat) (i : Nat), i ≤ 5 → 5 - i < k → ∀ ls : Array Slot, lv_has ls 3 [(2, .int (nI i)), (1, .int (nI (sn (fun k => x k * V k 3) i))), (0, .ref w)] → W p l e (rm_ 0) s m args below meth c s.heap [] 0 0 Q (F0 m 4 ls []) := by
    intro k
    induction k with
    | zero => intro i hi hm; exact absurd hm (Nat.not_lt_zero _)
    | succ k ih =>
      intro i hi hm ls hl
      refine lv_iload_n hx hb dX7_triedPrice_4 rfl (lv_at hl 0 rfl) ?_
      refine lv_iconst (v := 5) hx hb dX7_triedPrice_5 (by decide) ?_
      refine lv_icmp_ge (tgt := 31) hx hb dX7_triedPrice_6 (by decide) (fun cd => ?_) (fun cd => ?_)
      · have e_i : i = 5 := by
          have h9 : nI 5 ≤ nI i := cd
          rw [nI_leI (by omega) (by omega)] at h9
          omega
        subst e_i
        refine lv_iload_n hx hb dX7_triedPrice_31 rfl (lv_at hl 1 rfl) ?_
        exact nd_i hQ hx hb hr hlocks dX7_triedPrice_32 (rfl)
      · have h_i : i < 5 := by
          have h9 : ¬ nI 5 ≤ nI i := cd
          rw [nI_leI (by omega) (by omega)] at h9
          omega
        refine lv_iload_n hx hb dX7_triedPrice_9 rfl (lv_at hl 1 rfl) ?_
        refine lv_aload_n hx hb dX7_triedPrice_10 rfl (lv_at hl 2 rfl) ?_
        refine rg (C := RX7) (T := TX7) (N := 16) (v := .ref (w + 9)) hx hb hT inX7 hown hK hM.1 rfl 11 (by decide) mf_X7_35 rfl dX7_triedPrice_11 ?_
        refine lv_iload_n hx hb dX7_triedPrice_14 rfl (lv_at hl 0 rfl) ?_
        refine r_ialdS (y := M 11 i) hx hb hK hM.2.2.2.2.2.2.2.2.2.1 i (rfl) (by omega) (Nat.le_of_ble_eq_true rfl) rfl dX7_triedPrice_15 ?_
        refine lv_aload_n hx hb dX7_triedPrice_16 rfl (lv_at hl 2 rfl) ?_
        refine rg (C := RX7) (T := TX7) (N := 16) (v := .ref (w + 10)) hx hb hT inX7 hown hK hM.1 rfl 12 (by decide) mf_X7_38 rfl dX7_triedPrice_17 ?_
        refine lv_iload_n hx hb dX7_triedPrice_20 rfl (lv_at hl 0 rfl) ?_
        refine r_ialdS (y := M 12 i) hx hb hK hM.2.2.2.2.2.2.2.2.2.2.1 i (rfl) (by omega) (Nat.le_of_ble_eq_true rfl) rfl dX7_triedPrice_21 ?_
        rw [hx5 i h_i, hP5 i h_i]
        refine lv_imul hx hb dX7_triedPrice_22 ?_
        refine lv_iadd hx hb dX7_triedPrice_23 ?_
        rw [pk_mul, nI_add]
        refine lv_istore_n (lv' := [(1, .int (nI (sn (fun k => x k * V k 3) (i + 1)))), (2, .int (nI i)), (0, .ref w)]) hx hb dX7_triedPrice_24 rfl hl (by decide) rfl (fun ls hl => ?_)
        refine lv_iinc (v := nI (i + 1)) (lv' := [(2, .int (nI (i + 1))), (1, .int (nI (sn (fun k => x k * V k 3) (i + 1)))), (0, .ref w)]) hx hb dX7_triedPrice_25 hl (k := 1) rfl (nI_1 i) (by decide) rfl (fun ls hl => ?_)
        refine lv_goto (tgt := 4) hx hb dX7_triedPrice_28 (by decide) ?_
        exact ih (i + 1) (by omega) (by omega) ls (lv_sub hl [0, 1, 2] rfl)
  exact loop 6 0 (by omega) (by omega) ls (lv_sub hl [0, 1, 2] rfl)
