/-! what the model answers out of its search -/
theorem x_ix {x : Int32} {n : Nat} (h : 0 ≤ x ∧ x ≤ nI n) (hn : n < 1000) : ∃ k, k < n + 1 ∧ x = nI k := by
  refine ix_of h.1 (n := n + 1) ?_ (by omega)
  have h8 := h.2
  rw [i32_le_iff, nI_toInt (by omega)] at h8
  rw [i32_lt_iff, nI_toInt (by omega)]
  omega
noncomputable def cpO (r : Nat → Int32) (x : Int32) : Int32 :=
  if 0 ≤ x ∧ x ≤ 5 then (if (skR r).1 = -1 then -6 else if x = 0 then (skR r).1 / 20 else nI ((skR r).2 (x.toInt.toNat - 1))) else -2
theorem cpO_1 {r : Nat → Int32} {x : Int32} (h : ¬ (0 ≤ x ∧ x ≤ 5)) : -2 = cpO r x := (if_neg h).symm
theorem cpO_2 {r : Nat → Int32} {x : Int32} (h : 0 ≤ x ∧ x ≤ 5) (h2 : (skR r).1 = -1) : -6 = cpO r x := ((if_pos h).trans (if_pos h2)).symm
theorem cpO_3 {r : Nat → Int32} {x : Int32} (h : 0 ≤ x ∧ x ≤ 5) (h2 : ¬ (skR r).1 = -1) (h3 : x = 0) : (skR r).1 / 20 = cpO r x := (((if_pos h).trans (if_neg h2)).trans (if_pos h3)).symm
theorem cpO_4 {r : Nat → Int32} {k : Nat} (hk : k < 6) (h : 0 ≤ nI k ∧ nI k ≤ 5) (h2 : ¬ (skR r).1 = -1) (h3 : ¬ nI k = 0) : nI ((skR r).2 (k - 1)) = cpO r (nI k) := by
  refine (((if_pos h).trans (if_neg h2)).trans ((if_neg h3).trans ?_)).symm
  rw [nIt (by omega)]
noncomputable def coO (r : Nat → Int32) : Op := if (skR r).1 = -1 then (-5, r) else ((skR r).1 / 20, shR r (fun k => nI ((skR r).2 k)) (nlv r))
theorem coO_1 {r : Nat → Int32} (h : (skR r).1 = -1) : coO r = (-5, r) := if_pos h
theorem coO_2 {r : Nat → Int32} (h : ¬ (skR r).1 = -1) : coO r = ((skR r).1 / 20, shR r (fun k => nI ((skR r).2 k)) (nlv r)) := if_neg h
def lsV (r : Nat → Int32) (k : Nat) : Int32 := if k < 3 then (if r (6 + k) = 0 then 0 else r (6 + k) - 1) else (if r (6 + k) = 100 then 100 else r (6 + k) + 1)
noncomputable def loO (r : Nat → Int32) (x : Int32) : Int32 :=
  if 0 ≤ x ∧ x ≤ 5 then (if (skR r).1 = -1 then -6 else (skR r).1 - (skR (upd r (6 + x.toInt.toNat) (lsV r x.toInt.toNat))).1) else -2
theorem loO_1 {r : Nat → Int32} {x : Int32} (h : ¬ (0 ≤ x ∧ x ≤ 5)) : -2 = loO r x := (if_neg h).symm
theorem loO_2 {r : Nat → Int32} {x : Int32} (h : 0 ≤ x ∧ x ≤ 5) (h2 : (skR r).1 = -1) : -6 = loO r x := ((if_pos h).trans (if_pos h2)).symm
theorem loO_3 {r : Nat → Int32} {k : Nat} (hk : k < 6) (h : 0 ≤ nI k ∧ nI k ≤ 5) (h2 : ¬ (skR r).1 = -1) : (skR r).1 - (skR (upd r (6 + k) (lsV r k))).1 = loO r (nI k) := by
  refine ((if_pos h).trans ((if_neg h2).trans ?_)).symm
  rw [nIt (by omega)]
theorem Iv_ls {r : Nat → Int32} (h : Iv r) {k : Nat} (hk : k < 6) : Iv (upd r (6 + k) (lsV r k)) := by
  obtain ⟨hw, hd, hf, hb, hl, hs⟩ := h
  have e : ∀ j, j ≠ 6 + k → upd r (6 + k) (lsV r k) j = r j := fun j hj => upd_ne hj
  have hv : 0 ≤ (lsV r k).toInt ∧ (lsV r k).toInt ≤ 100 := by
    unfold lsV
    by_cases q : k < 3
    · rw [if_pos q]
      obtain ⟨⟨a1, a2⟩, -⟩ := hb k q
      by_cases z : r (6 + k) = 0
      · rw [if_pos z]; decide
      · rw [if_neg z]
        have hz : (r (6 + k)).toInt ≠ 0 := fun w => z (Int32.toInt_inj.mp w)
        rw [Int32.toInt_sub, show (1 : Int32).toInt = 1 from rfl, Int.bmod_eq_of_le (by omega) (by omega)]
        omega
    · rw [if_neg q]
      obtain ⟨-, ⟨a1, a2⟩⟩ := hb (k - 3) (by omega)
      rw [show 9 + (k - 3) = 6 + k by omega] at a1 a2
      by_cases z : r (6 + k) = 100
      · rw [if_pos z]; decide
      · rw [if_neg z]
        have hz : (r (6 + k)).toInt ≠ 100 := fun w => z (Int32.toInt_inj.mp w)
        rw [Int32.toInt_add, show (1 : Int32).toInt = 1 from rfl, Int.bmod_eq_of_le (by omega) (by omega)]
        omega
  have hn : nlv (upd r (6 + k) (lsV r k)) = nlv r := by unfold nlv; rw [e 5 (by omega)]
  refine ⟨by unfold WF; rw [e 5 (by omega), e 1 (by omega), e 2 (by omega)]; exact hw, by rw [e 2 (by omega)]; exact hd, by rw [e 0 (by omega)]; exact hf, fun t ht => ?_, fun i hi => ?_, ?_⟩
  · obtain ⟨h1, h2⟩ := hb t ht
    refine ⟨?_, ?_⟩
    · by_cases q : 6 + t = 6 + k
      · rw [q, upd_eq]; exact hv
      · rw [e _ q]; exact h1
    · by_cases q : 9 + t = 6 + k
      · rw [q, upd_eq]; exact hv
      · rw [e _ q]; exact h2
  · obtain ⟨b1, b2, b3, b4, b5, b6⟩ := hl i hi
    unfold LfR
    rw [e _ (by omega), e _ (by omega), e _ (by omega), e _ (by omega), e _ (by omega)]
    exact ⟨b1, fun j hj => by rw [e _ (by omega)]; exact b2 j hj, fun j hj => by rw [e _ (by omega)]; exact b3 j hj, b4, b5, b6⟩
  · rw [hn]
    have : sn (sv (upd r (6 + k) (lsV r k))) (nlv r) = sn (sv r) (nlv r) := sn_ext _ (fun i _ => by unfold sv; rw [e _ (by omega)])
    rw [this]
    exact hs

set_option maxHeartbeats 4000000 in
set_option maxRecDepth 100000 in
theorem k_X7_cheapest (l : Launch) (G : GG) (w : Nat) (M : Nat → Nat → Int32) (x : Int32) (hv : Iv (M 0)) : Met l yX7_cheapest (ws_ yX7_cheapest cX7_cheapest 2 (some .int)) (rm_ 4) (PC G [.ref w, .int x] (MdAt G w M)) (QI (fun v H => v = cpO (M 0) x ∧ ∃ M2, (∀ k, k < 11 → M2 k = M k) ∧ MdAt G w M2 H) (In w 13)) 0 0 (In w 13) := by
  refine met_q (by decide +kernel) (Nat.le_of_ble_eq_true rfl) ?_
  intro p e s m args below meth c Q hQ hx hb hr hT hown hml hlocks hnm hK hM ls hl
  have hl : lv_has ls 2 [(0, .ref w), (1, .int x)] := hl
  have hS : va_S (In w 13) s.heap s.heap [] := va_S.rf
  refine lv_iload_n hx hb dX7_cheapest_0 rfl (lv_at hl 1 rfl) ?_
  refine lv_i2l hx hb dX7_cheapest_1 rfl ?_
  refine lv_iconst (v := 0) hx hb dX7_cheapest_2 (by decide) ?_
  refine lv_iconst (v := 5) hx hb dX7_cheapest_3 (by decide) ?_
  refine got_i (run_s hx hb hml hown hT hK hl.1 (k_X7_in l G x 0 5) (cw_X7_47 hT ⟨Nat.le_of_ble_eq_true rfl, Nat.le_of_ble_eq_true rfl⟩) trivial rfl rfl (Nat.le_of_ble_eq_true rfl) dX7_cheapest_4 ⟨Nat.zero_le _, Nat.zero_le _⟩) (fun v_1 hv_1 => ?_)
  subst hv_1
  refine lv_if_ne (tgt := 13) hx hb dX7_cheapest_7 (by decide) (fun c1 => ?_) (fun c1 => ?_)
  · have hx6 := bi_n0 c1
    refine lv_aload_n hx hb dX7_cheapest_13 rfl (lv_at hl 0 rfl) ?_
    refine got_V (run_i hx hb hml hown hT hK hl.1 (k_X7_seek l G w M hv) (cw_X7_127 hT ⟨Nat.le_of_ble_eq_true rfl, Nat.le_of_ble_eq_true rfl⟩) hM.1 rfl hM rfl rfl (Nat.le_of_ble_eq_true rfl) dX7_cheapest_14 ⟨Nat.zero_le _, Nat.zero_le _⟩) hS (fun q hq => hq) (fun q hq => hq) (fun  H locs h1 hz hk hS => ?_)
    obtain ⟨M2, hSkM2, hM⟩ := h1
    have e15 := hSkM2.2.1
    refine lv_aload_n hx hb dX7_cheapest_17 rfl (lv_at hl 0 rfl) ?_
    refine rg (C := RX7) (T := TX7) (N := 16) (v := .int (M2 15 0)) hx hb hT inX7 hown hK hM.1 rfl 15 (by decide) mf_X7_80 rfl dX7_cheapest_18 ?_
    rw [e15]
    refine lv_iconst (v := (-1)) hx hb dX7_cheapest_21 (by decide) ?_
    refine lv_icmp_ne (tgt := 30) hx hb dX7_cheapest_22 (by decide) (fun c2 => ?_) (fun c2 => ?_)
    · refine lv_iload_n hx hb dX7_cheapest_30 rfl (lv_at hl 1 rfl) ?_
      refine lv_if_ne (tgt := 44) hx hb dX7_cheapest_31 (by decide) (fun c3 => ?_) (fun c3 => ?_)
      · obtain ⟨k, hk, rfl⟩ := x_ix (n := 5) hx6 (by omega)
        have hk0 : 0 < k := Nat.pos_of_ne_zero (fun q => c3 (by rw [q]; rfl))
        refine lv_aload_n hx hb dX7_cheapest_44 rfl (lv_at hl 0 rfl) ?_
        refine rg (C := RX7) (T := TX7) (N := 16) (v := .ref (w + 12)) hx hb hT inX7 hown hK hM.1 rfl 14 (by decide) mf_X7_44 rfl dX7_cheapest_45 ?_
        refine lv_iload_n hx hb dX7_cheapest_48 rfl (lv_at hl 1 rfl) ?_
        refine lv_iconst (v := 1) hx hb dX7_cheapest_49 (by decide) ?_
        refine lv_isub hx hb dX7_cheapest_50 ?_
        refine r_ialdS (y := M2 14 (k - 1)) hx hb hK hM.2.2.2.2.2.2.2.2.2.2.2.2 (k - 1) (pk_sub (b := 1) hk0) (by omega) (Nat.le_of_ble_eq_true rfl) rfl dX7_cheapest_51 ?_
        rw [hSkM2.2.2 (k - 1) (by omega)]
        exact nd_I hQ hx hb hr hlocks dX7_cheapest_52 hS (⟨cpO_4 hk hx6 c2 c3, M2, hSkM2.1, hM⟩)
      · refine lv_aload_n hx hb dX7_cheapest_34 rfl (lv_at hl 0 rfl) ?_
        refine rg (C := RX7) (T := TX7) (N := 16) (v := .int (M2 15 0)) hx hb hT inX7 hown hK hM.1 rfl 15 (by decide) mf_X7_80 rfl dX7_cheapest_35 ?_
        rw [e15]
        refine lv_bipush (v := 20) hx hb dX7_cheapest_38 (by decide) ?_
        refine lv_idiv hx hb dX7_cheapest_40 (by decide) ?_
        refine lv_goto (tgt := 52) hx hb dX7_cheapest_41 (by decide) ?_
        exact nd_I hQ hx hb hr hlocks dX7_cheapest_52 hS (⟨cpO_3 hx6 c2 c3, M2, hSkM2.1, hM⟩)
    · refine lv_bipush (v := (-6)) hx hb dX7_cheapest_25 (by decide) ?_
      refine lv_goto (tgt := 52) hx hb dX7_cheapest_27 (by decide) ?_
      exact nd_I hQ hx hb hr hlocks dX7_cheapest_52 hS (⟨cpO_2 hx6 c2, M2, hSkM2.1, hM⟩)
  · refine lv_bipush (v := (-2)) hx hb dX7_cheapest_10 (by decide) ?_
    exact nd_I hQ hx hb hr hlocks dX7_cheapest_12 hS (⟨cpO_1 (bi_e0 c1), M, fun _ _ => rfl, hM⟩)

set_option maxHeartbeats 4000000 in
set_option maxRecDepth 100000 in
theorem k_X7_choose (l : Launch) (G : GG) (w : Nat) (M : Nat → Nat → Int32) (s0 : Nat)  (hw : WF (M 0)) (hs : M 5 0 = nI s0) (hs6 : s0 ≤ 6) (hv : Iv (M 0)) : Met l yX7_choose (ws_ yX7_choose cX7_choose 2 (some .int)) (rm_ 4) (PC G [.ref w] (MdAt G w M)) (QI (fun v H => v = (coO (M 0)).1 ∧ ∃ M2, PubS M M2 (coO (M 0)) s0 ∧ MdAt G w M2 H) (In w 13)) 0 0 (In w 13) := by
  refine met_q (by decide +kernel) (Nat.le_of_ble_eq_true rfl) ?_
  intro p e s m args below meth c Q hQ hx hb hr hT hown hml hlocks hnm hK hM ls hl
  have hl : lv_has ls 2 [(0, .ref w)] := hl
  have hS : va_S (In w 13) s.heap s.heap [] := va_S.rf
  have hn5 := hw.nl5
  have hnl := hw.nl
  refine lv_aload_n hx hb dX7_choose_0 rfl (lv_at hl 0 rfl) ?_
  refine got_V (run_i hx hb hml hown hT hK hl.1 (k_X7_seek l G w M hv) (cw_X7_127 hT ⟨Nat.le_of_ble_eq_true rfl, Nat.le_of_ble_eq_true rfl⟩) hM.1 rfl hM rfl rfl (Nat.le_of_ble_eq_true rfl) dX7_choose_1 ⟨Nat.zero_le _, Nat.zero_le _⟩) hS (fun q hq => hq) (fun q hq => hq) (fun  H locs h1 hz hk hS => ?_)
  obtain ⟨Ma, hSkMa, hM⟩ := h1
  have e15 := hSkMa.2.1
  refine lv_aload_n hx hb dX7_choose_4 rfl (lv_at hl 0 rfl) ?_
  refine rg (C := RX7) (T := TX7) (N := 16) (v := .int (Ma 15 0)) hx hb hT inX7 hown hK hM.1 rfl 15 (by decide) mf_X7_80 rfl dX7_choose_5 ?_
  rw [e15]
  refine lv_iconst (v := (-1)) hx hb dX7_choose_8 (by decide) ?_
  refine lv_icmp_ne (tgt := 15) hx hb dX7_choose_9 (by decide) (fun c1 => ?_) (fun c1 => ?_)
  · refine lv_aload_n hx hb dX7_choose_15 rfl (lv_at hl 0 rfl) ?_
    refine got_V (run_i hx hb hml hown hT hK hl.1 (k_X7_remember l G w Ma) (cw_X7_55 hT ⟨Nat.le_of_ble_eq_true rfl, Nat.le_of_ble_eq_true rfl⟩) hM.1 rfl hM rfl rfl (Nat.le_of_ble_eq_true rfl) dX7_choose_16 ⟨Nat.zero_le _, Nat.zero_le _⟩) hS (fun q hq => hq) (fun q hq => hq) (fun  H locs h1 hz hk hS => ?_)
    have hM := h1
    obtain ⟨hlow, -, hfo⟩ := hSkMa
    obtain ⟨M1, eM1⟩ : ∃ z, z = updM Ma 2 (Ma 0) := ⟨_, rfl⟩
    rw [← eM1] at hM
    have e0 : M1 0 = M 0 := by rw [eM1, updM_ne (by omega)]; exact hlow 0 (by omega)
    have e1 : M1 1 = M 1 := by rw [eM1, updM_ne (by omega)]; exact hlow 1 (by omega)
    have e2 : M1 2 = M 0 := by rw [eM1, updM_eq]; exact hlow 0 (by omega)
    have e3 : M1 3 = M 3 := by rw [eM1, updM_ne (by omega)]; exact hlow 3 (by omega)
    have e4 : M1 4 = M 4 := by rw [eM1, updM_ne (by omega)]; exact hlow 4 (by omega)
    have e5 : M1 5 0 = nI s0 := by rw [eM1, updM_ne (by omega), hlow 5 (by omega)]; exact hs
    have e6 : M1 6 = M 6 := by rw [eM1, updM_ne (by omega)]; exact hlow 6 (by omega)
    have e7 : M1 7 0 = M 7 0 := by rw [eM1, updM_ne (by omega), hlow 7 (by omega)]
    have e14 : ∀ k, k < 5 → M1 14 k = nI ((skR (M 0)).2 k) := fun k hk => by rw [eM1, updM_ne (by omega)]; exact hfo k hk
    have e15 : M1 15 0 = (skR (M 0)).1 := by rw [eM1, updM_ne (by omega)]; exact e15
    refine lv_iconst (v := 0) hx hb dX7_choose_19 (by decide) ?_
    refine lv_istore_n (lv' := [(1, .int 0), (0, .ref w)]) hx hb dX7_choose_20 rfl hl (by decide) rfl (fun ls hl => ?_)
    have loop : ∀ (k : Nat) (i : Nat) (H : Heap) (locs : List Loc), va_S (In w 13) s.heap H locs → i ≤ nlv (M 0) → MdAt G w (updM M1 0 (shR (M 0) (fun k => nI ((skR (M 0)).2 k)) i)) H → nlv (M 0) - i < k → ∀ ls : Array Slot, lv_has ls 2 [(1, .int (nI i)), (0, .ref w)] → W p l e (rm_ 4) s m args below meth c H locs 0 0 Q (F0 m 21 ls []) := by
      intro k
      induction k with
      | zero => intro i H locs hS hi hM hm; exact absurd hm (Nat.not_lt_zero _)
      | succ k ih =>
        intro i H locs hS hi hM hm ls hl
        refine lv_iload_n hx hb dX7_choose_21 rfl (lv_at hl 0 rfl) ?_
        refine lv_aload_n hx hb dX7_choose_22 rfl (lv_at hl 1 rfl) ?_
        refine rg (C := RX7) (T := TX7) (N := 16) (v := .ref (w + 1)) hx hb hT inX7 hown hK hM.1 rfl 0 (by decide) mf_X7_7 rfl dX7_choose_23 ?_
        refine lv_iconst (v := 5) hx hb dX7_choose_26 (by decide) ?_
        refine r_ialdS (y := (shR (M 0) (fun k => nI ((skR (M 0)).2 k)) i) 5) hx hb hK hM.2.1 5 (by decide) (by omega) (Nat.le_of_ble_eq_true rfl) rfl dX7_choose_27 ?_
        refine lv_icmp_ge (tgt := 50) hx hb dX7_choose_28 (by decide) (fun cd => ?_) (fun cd => ?_)
        · have hge : nlv (M 0) ≤ i := by
            rw [shR_5, hnl, nI_leI (by omega) (by omega)] at cd
            exact cd
          have he : i = nlv (M 0) := by omega
          subst he
          refine lv_aload_n hx hb dX7_choose_50 rfl (lv_at hl 1 rfl) ?_
          refine lv_aload_n hx hb dX7_choose_51 rfl (lv_at hl 1 rfl) ?_
          refine rg (C := RX7) (T := TX7) (N := 16) (v := .int (M1 15 0)) hx hb hT inX7 hown hK hM.1 rfl 15 (by decide) mf_X7_80 rfl dX7_choose_52 ?_
          rw [e15]
          refine lv_bipush (v := 20) hx hb dX7_choose_55 (by decide) ?_
          refine lv_idiv hx hb dX7_choose_57 (by decide) ?_
          refine got_I (run_i hx hb hml hown hT hK hl.1 (k_X7_record l G w (updM M1 0 (shR (M 0) (fun k => nI ((skR (M 0)).2 k)) (nlv (M 0)))) s0 ((skR (M 0)).1 / 20) e5 hs6) (cw_X7_58 hT ⟨Nat.le_of_ble_eq_true rfl, Nat.le_of_ble_eq_true rfl⟩) hM.1 rfl hM rfl rfl (Nat.le_of_ble_eq_true rfl) dX7_choose_58 ⟨Nat.zero_le _, Nat.zero_le _⟩) hS (fun q hq => hq) (fun q hq => hq) (fun v_1 H locs h1 hz hk hS => ?_)
          obtain ⟨hv9, hM⟩ := h1
          rw [hv9]
          exact nd_I hQ hx hb hr hlocks dX7_choose_61 hS (by rw [coO_2 c1]; exact ⟨rfl, _, pub_rec (M := M) (M2 := updM M1 0 (shR (M 0) (fun k => nI ((skR (M 0)).2 k)) (nlv (M 0)))) (op := ((skR (M 0)).1 / 20, (shR (M 0) (fun k => nI ((skR (M 0)).2 k)) (nlv (M 0))))) rfl e1 e2 e3 e4 e5 e6 e7, hM⟩)
        · have hlt : i < nlv (M 0) := by
            rw [shR_5, hnl, nI_leI (by omega) (by omega)] at cd
            omega
          refine lv_aload_n hx hb dX7_choose_31 rfl (lv_at hl 1 rfl) ?_
          refine lv_iload_n hx hb dX7_choose_32 rfl (lv_at hl 0 rfl) ?_
          refine lv_bipush (v := 13) hx hb dX7_choose_33 (by decide) ?_
          refine lv_aload_n hx hb dX7_choose_35 rfl (lv_at hl 1 rfl) ?_
          refine rg (C := RX7) (T := TX7) (N := 16) (v := .ref (w + 12)) hx hb hT inX7 hown hK hM.1 rfl 14 (by decide) mf_X7_44 rfl dX7_choose_36 ?_
          refine lv_iload_n hx hb dX7_choose_39 rfl (lv_at hl 0 rfl) ?_
          refine r_ialdS (y := M1 14 i) hx hb hK hM.2.2.2.2.2.2.2.2.2.2.2.2 i (rfl) (by omega) (Nat.le_of_ble_eq_true rfl) rfl dX7_choose_40 ?_
          rw [e14 i (by omega)]
          refine got_V (run_i hx hb hml hown hT hK hl.1 (k_X7_lay l G w (updM M1 0 (shR (M 0) (fun k => nI ((skR (M 0)).2 k)) i)) i 13 (nI ((skR (M 0)).2 i)) (by omega)) (cw_X7_97 hT ⟨Nat.le_of_ble_eq_true rfl, Nat.le_of_ble_eq_true rfl⟩) hM.1 rfl hM rfl rfl (Nat.le_of_ble_eq_true rfl) dX7_choose_41 ⟨Nat.zero_le _, Nat.zero_le _⟩) hS (fun q hq => hq) (fun q hq => hq) (fun  H locs h1 hz hk hS => ?_)
          have hM := h1
          rw [updM_2, updM_eq, shR_s (s := fun k => nI ((skR (M 0)).2 k))] at hM
          refine lv_iinc (v := nI (i + 1)) (lv' := [(1, .int (nI (i + 1))), (0, .ref w)]) hx hb dX7_choose_44 hl (k := 0) rfl (nI_1 i) (by decide) rfl (fun ls hl => ?_)
          refine lv_goto (tgt := 21) hx hb dX7_choose_47 (by decide) ?_
          exact ih (i + 1) _ _ hS (by omega) hM (by omega) ls (lv_sub hl [0, 1] rfl)
    exact loop (nlv (M 0) + 1) 0 _ _ hS (Nat.zero_le _) (by rw [shR_0, ← e0, updM_self rfl]; exact hM) (by omega) ls (lv_sub hl [0, 1] rfl)
  · refine lv_bipush (v := (-5)) hx hb dX7_choose_12 (by decide) ?_
    obtain ⟨hlow, -, -⟩ := hSkMa
    have hpub : PubS M Ma (-5, M 0) s0 := by
      refine ⟨hlow 0 (by omega), ?_, ?_, hlow 3 (by omega), hlow 4 (by omega), hlow 6 (by omega), by rw [hlow 7 (by omega)]⟩
      · unfold pushP
        rw [if_pos (by decide : (-5 : Int32) < 0)]
        exact hlow 1 (by omega)
      · unfold pushS
        rw [if_pos (by decide : (-5 : Int32) < 0), hlow 5 (by omega)]
        exact hs
    exact nd_I hQ hx hb hr hlocks dX7_choose_14 hS (by rw [coO_1 c1]; exact ⟨rfl, Ma, hpub, hM⟩)

set_option maxHeartbeats 4000000 in
set_option maxRecDepth 100000 in
theorem k_X7_looser (l : Launch) (G : GG) (w : Nat) (M : Nat → Nat → Int32) (x : Int32) (hv : Iv (M 0)) : Met l yX7_looser (ws_ yX7_looser cX7_looser 5 (some .int)) (rm_ 4) (PC G [.ref w, .int x] (MdAt G w M)) (QI (fun v H => v = loO (M 0) x ∧ ∃ M2, (∀ k, k < 11 → M2 k = M k) ∧ MdAt G w M2 H) (In w 13)) 0 0 (In w 13) := by
  refine met_q (by decide +kernel) (Nat.le_of_ble_eq_true rfl) ?_
  intro p e s m args below meth c Q hQ hx hb hr hT hown hml hlocks hnm hK hM ls hl
  have hl : lv_has ls 5 [(0, .ref w), (1, .int x)] := hl
  have hS : va_S (In w 13) s.heap s.heap [] := va_S.rf
  refine lv_iload_n hx hb dX7_looser_0 rfl (lv_at hl 1 rfl) ?_
  refine lv_i2l hx hb dX7_looser_1 rfl ?_
  refine lv_iconst (v := 0) hx hb dX7_looser_2 (by decide) ?_
  refine lv_iconst (v := 5) hx hb dX7_looser_3 (by decide) ?_
  refine got_i (run_s hx hb hml hown hT hK hl.1 (k_X7_in l G x 0 5) (cw_X7_47 hT ⟨Nat.le_of_ble_eq_true rfl, Nat.le_of_ble_eq_true rfl⟩) trivial rfl rfl (Nat.le_of_ble_eq_true rfl) dX7_looser_4 ⟨Nat.zero_le _, Nat.zero_le _⟩) (fun v_1 hv_1 => ?_)
  subst hv_1
  refine lv_if_ne (tgt := 13) hx hb dX7_looser_7 (by decide) (fun c1 => ?_) (fun c1 => ?_)
  · have hx6 := bi_n0 c1
    obtain ⟨k, hk6, rfl⟩ := x_ix (n := 5) hx6 (by omega)
    refine lv_aload_n hx hb dX7_looser_13 rfl (lv_at hl 0 rfl) ?_
    refine got_V (run_i hx hb hml hown hT hK hl.1 (k_X7_seek l G w M hv) (cw_X7_127 hT ⟨Nat.le_of_ble_eq_true rfl, Nat.le_of_ble_eq_true rfl⟩) hM.1 rfl hM rfl rfl (Nat.le_of_ble_eq_true rfl) dX7_looser_14 ⟨Nat.zero_le _, Nat.zero_le _⟩) hS (fun q hq => hq) (fun q hq => hq) (fun  H locs h1 hz hk hS => ?_)
    obtain ⟨Ma, hSkMa, hM⟩ := h1
    obtain ⟨hlow, e15, -⟩ := hSkMa
    have h0 : Ma 0 = M 0 := hlow 0 (by omega)
    refine lv_aload_n hx hb dX7_looser_17 rfl (lv_at hl 0 rfl) ?_
    refine rg (C := RX7) (T := TX7) (N := 16) (v := .int (Ma 15 0)) hx hb hT inX7 hown hK hM.1 rfl 15 (by decide) mf_X7_80 rfl dX7_looser_18 ?_
    rw [e15]
    refine lv_istore_n (lv' := [(2, .int ((skR (M 0)).1)), (0, .ref w), (1, .int (nI k))]) hx hb dX7_looser_21 rfl hl (by decide) rfl (fun ls hl => ?_)
    refine lv_iload_n hx hb dX7_looser_22 rfl (lv_at hl 0 rfl) ?_
    refine lv_iconst (v := (-1)) hx hb dX7_looser_23 (by decide) ?_
    refine lv_icmp_ne (tgt := 30) hx hb dX7_looser_24 (by decide) (fun c2 => ?_) (fun c2 => ?_)
    · have hp : (6 : Int32) + nI k = nI (6 + k) := nI_add 6 k
      refine lv_bipush (v := 6) hx hb dX7_looser_30 (by decide) ?_
      refine lv_iload_n hx hb dX7_looser_32 rfl (lv_at hl 2 rfl) ?_
      refine lv_iadd hx hb dX7_looser_33 ?_
      rw [hp]
      refine lv_istore_n (lv' := [(3, .int (nI (6 + k))), (2, .int ((skR (M 0)).1)), (0, .ref w), (1, .int (nI k))]) hx hb dX7_looser_34 rfl hl (by decide) rfl (fun ls hl => ?_)
      refine lv_aload_n hx hb dX7_looser_35 rfl (lv_at hl 2 rfl) ?_
      refine rg (C := RX7) (T := TX7) (N := 16) (v := .ref (w + 1)) hx hb hT inX7 hown hK hM.1 rfl 0 (by decide) mf_X7_7 rfl dX7_looser_36 ?_
      refine lv_iload_n hx hb dX7_looser_39 rfl (lv_at hl 0 rfl) ?_
      refine r_ialdS (y := Ma 0 (6 + k)) hx hb hK hM.2.1 (6 + k) (rfl) (by omega) (Nat.le_of_ble_eq_true rfl) rfl dX7_looser_40 ?_
      rw [h0]
      refine lv_istore (lv' := [(4, .int (M 0 (6 + k))), (3, .int (nI (6 + k))), (2, .int ((skR (M 0)).1)), (0, .ref w), (1, .int (nI k))]) hx hb dX7_looser_41 hl (by decide) rfl (fun ls hl => ?_)
      refine lv_aload_n hx hb dX7_looser_43 rfl (lv_at hl 3 rfl) ?_
      refine rg (C := RX7) (T := TX7) (N := 16) (v := .ref (w + 1)) hx hb hT inX7 hown hK hM.1 rfl 0 (by decide) mf_X7_7 rfl dX7_looser_44 ?_
      refine lv_iload_n hx hb dX7_looser_47 rfl (lv_at hl 1 rfl) ?_
      refine lv_iload_n hx hb dX7_looser_48 rfl (lv_at hl 4 rfl) ?_
      refine lv_iconst (v := 3) hx hb dX7_looser_49 (by decide) ?_
      refine lv_icmp_ge (tgt := 69) hx hb dX7_looser_50 (by decide) (fun c3 => ?_) (fun c3 => ?_)
      · have h3 : ¬ k < 3 := by
          have h9 : nI 3 ≤ nI k := c3
          rw [nI_leI (by omega) (by omega)] at h9
          omega
        refine lv_iload hx hb dX7_looser_69 (lv_at hl 0 rfl) ?_
        refine lv_bipush (v := 100) hx hb dX7_looser_71 (by decide) ?_
        refine lv_icmp_ne (tgt := 81) hx hb dX7_looser_73 (by decide) (fun c4 => ?_) (fun c4 => ?_)
        · refine lv_iload hx hb dX7_looser_81 (lv_at hl 0 rfl) ?_
          refine lv_iconst (v := 1) hx hb dX7_looser_83 (by decide) ?_
          refine lv_iadd hx hb dX7_looser_84 ?_
          rw [show M 0 (6 + k) + 1 = lsV (M 0) k from ((if_neg h3).trans (if_neg c4)).symm]
          refine r_iast hx hb hK hM.2.1 (6 + k) (rfl) (by omega) (Nat.le_of_ble_eq_true rfl) hS (show _ ∧ _ from ⟨by omega, by omega⟩) dX7_looser_85 (fun H locs h1 o hS => ?_)
          have hM := hM.a0 h1 o
          rw [h0] at hM
          refine lv_aload_n hx hb dX7_looser_86 rfl (lv_at hl 3 rfl) ?_
          refine got_V (run_i hx hb hml hown hT hK hl.1 (k_X7_seek l G w (updM Ma 0 (upd (M 0) (6 + k) (lsV (M 0) k))) (Iv_ls hv hk6)) (cw_X7_127 hT ⟨Nat.le_of_ble_eq_true rfl, Nat.le_of_ble_eq_true rfl⟩) hM.1 rfl hM rfl rfl (Nat.le_of_ble_eq_true rfl) dX7_looser_87 ⟨Nat.zero_le _, Nat.zero_le _⟩) hS (fun q hq => hq) (fun q hq => hq) (fun  H locs h1 hz hk hS => ?_)
          obtain ⟨Mb, ⟨hlowb, e15b, -⟩, hM⟩ := h1
          have hb0 : Mb 0 = upd (M 0) (6 + k) (lsV (M 0) k) := hlowb 0 (by omega)
          refine lv_aload_n hx hb dX7_looser_90 rfl (lv_at hl 3 rfl) ?_
          refine rg (C := RX7) (T := TX7) (N := 16) (v := .ref (w + 1)) hx hb hT inX7 hown hK hM.1 rfl 0 (by decide) mf_X7_7 rfl dX7_looser_91 ?_
          refine lv_iload_n hx hb dX7_looser_94 rfl (lv_at hl 1 rfl) ?_
          refine lv_iload hx hb dX7_looser_95 (lv_at hl 0 rfl) ?_
          refine r_iast hx hb hK hM.2.1 (6 + k) (rfl) (by omega) (Nat.le_of_ble_eq_true rfl) hS (show _ ∧ _ from ⟨by omega, by omega⟩) dX7_looser_97 (fun H locs h1 o hS => ?_)
          have hM := hM.a0 h1 o
          have eb : upd (Mb 0) (6 + k) (M 0 (6 + k)) = M 0 := by
            rw [hb0]
            funext j
            simp only [upd]
            by_cases q : j = 6 + k
            · rw [if_pos q, q]
            · rw [if_neg q, if_neg q]
          rw [eb] at hM
          refine lv_iload_n hx hb dX7_looser_98 rfl (lv_at hl 2 rfl) ?_
          refine lv_aload_n hx hb dX7_looser_99 rfl (lv_at hl 3 rfl) ?_
          refine rg (C := RX7) (T := TX7) (N := 16) (v := .int (Mb 15 0)) hx hb hT inX7 hown hK hM.1 rfl 15 (by decide) mf_X7_80 rfl dX7_looser_100 ?_
          rw [e15b]
          refine lv_isub hx hb dX7_looser_103 ?_
          exact nd_I hQ hx hb hr hlocks dX7_looser_104 hS (⟨loO_3 hk6 hx6 c2, updM Mb 0 (M 0), fun j hj => by
              by_cases q : j = 0
              · rw [q, updM_eq]
              · rw [updM_ne q, hlowb j hj, updM_ne q]; exact hlow j hj, hM⟩)
        · refine lv_bipush (v := 100) hx hb dX7_looser_76 (by decide) ?_
          refine lv_goto (tgt := 85) hx hb dX7_looser_78 (by decide) ?_
          rw [show (100 : Int32) = lsV (M 0) k from ((if_neg h3).trans (if_pos c4)).symm]
          refine r_iast hx hb hK hM.2.1 (6 + k) (rfl) (by omega) (Nat.le_of_ble_eq_true rfl) hS (show _ ∧ _ from ⟨by omega, by omega⟩) dX7_looser_85 (fun H locs h1 o hS => ?_)
          have hM := hM.a0 h1 o
          rw [h0] at hM
          refine lv_aload_n hx hb dX7_looser_86 rfl (lv_at hl 3 rfl) ?_
          refine got_V (run_i hx hb hml hown hT hK hl.1 (k_X7_seek l G w (updM Ma 0 (upd (M 0) (6 + k) (lsV (M 0) k))) (Iv_ls hv hk6)) (cw_X7_127 hT ⟨Nat.le_of_ble_eq_true rfl, Nat.le_of_ble_eq_true rfl⟩) hM.1 rfl hM rfl rfl (Nat.le_of_ble_eq_true rfl) dX7_looser_87 ⟨Nat.zero_le _, Nat.zero_le _⟩) hS (fun q hq => hq) (fun q hq => hq) (fun  H locs h1 hz hk hS => ?_)
          obtain ⟨Mb, ⟨hlowb, e15b, -⟩, hM⟩ := h1
          have hb0 : Mb 0 = upd (M 0) (6 + k) (lsV (M 0) k) := hlowb 0 (by omega)
          refine lv_aload_n hx hb dX7_looser_90 rfl (lv_at hl 3 rfl) ?_
          refine rg (C := RX7) (T := TX7) (N := 16) (v := .ref (w + 1)) hx hb hT inX7 hown hK hM.1 rfl 0 (by decide) mf_X7_7 rfl dX7_looser_91 ?_
          refine lv_iload_n hx hb dX7_looser_94 rfl (lv_at hl 1 rfl) ?_
          refine lv_iload hx hb dX7_looser_95 (lv_at hl 0 rfl) ?_
          refine r_iast hx hb hK hM.2.1 (6 + k) (rfl) (by omega) (Nat.le_of_ble_eq_true rfl) hS (show _ ∧ _ from ⟨by omega, by omega⟩) dX7_looser_97 (fun H locs h1 o hS => ?_)
          have hM := hM.a0 h1 o
          have eb : upd (Mb 0) (6 + k) (M 0 (6 + k)) = M 0 := by
            rw [hb0]
            funext j
            simp only [upd]
            by_cases q : j = 6 + k
            · rw [if_pos q, q]
            · rw [if_neg q, if_neg q]
          rw [eb] at hM
          refine lv_iload_n hx hb dX7_looser_98 rfl (lv_at hl 2 rfl) ?_
          refine lv_aload_n hx hb dX7_looser_99 rfl (lv_at hl 3 rfl) ?_
          refine rg (C := RX7) (T := TX7) (N := 16) (v := .int (Mb 15 0)) hx hb hT inX7 hown hK hM.1 rfl 15 (by decide) mf_X7_80 rfl dX7_looser_100 ?_
          rw [e15b]
          refine lv_isub hx hb dX7_looser_103 ?_
          exact nd_I hQ hx hb hr hlocks dX7_looser_104 hS (⟨loO_3 hk6 hx6 c2, updM Mb 0 (M 0), fun j hj => by
              by_cases q : j = 0
              · rw [q, updM_eq]
              · rw [updM_ne q, hlowb j hj, updM_ne q]; exact hlow j hj, hM⟩)
      · have h3 : k < 3 := by
          have h9 : ¬ nI 3 ≤ nI k := c3
          rw [nI_leI (by omega) (by omega)] at h9
          omega
        refine lv_iload hx hb dX7_looser_53 (lv_at hl 0 rfl) ?_
        refine lv_if_ne (tgt := 62) hx hb dX7_looser_55 (by decide) (fun c4 => ?_) (fun c4 => ?_)
        · refine lv_iload hx hb dX7_looser_62 (lv_at hl 0 rfl) ?_
          refine lv_iconst (v := 1) hx hb dX7_looser_64 (by decide) ?_
          refine lv_isub hx hb dX7_looser_65 ?_
          refine lv_goto (tgt := 85) hx hb dX7_looser_66 (by decide) ?_
          rw [show M 0 (6 + k) - 1 = lsV (M 0) k from ((if_pos h3).trans (if_neg c4)).symm]
          refine r_iast hx hb hK hM.2.1 (6 + k) (rfl) (by omega) (Nat.le_of_ble_eq_true rfl) hS (show _ ∧ _ from ⟨by omega, by omega⟩) dX7_looser_85 (fun H locs h1 o hS => ?_)
          have hM := hM.a0 h1 o
          rw [h0] at hM
          refine lv_aload_n hx hb dX7_looser_86 rfl (lv_at hl 3 rfl) ?_
          refine got_V (run_i hx hb hml hown hT hK hl.1 (k_X7_seek l G w (updM Ma 0 (upd (M 0) (6 + k) (lsV (M 0) k))) (Iv_ls hv hk6)) (cw_X7_127 hT ⟨Nat.le_of_ble_eq_true rfl, Nat.le_of_ble_eq_true rfl⟩) hM.1 rfl hM rfl rfl (Nat.le_of_ble_eq_true rfl) dX7_looser_87 ⟨Nat.zero_le _, Nat.zero_le _⟩) hS (fun q hq => hq) (fun q hq => hq) (fun  H locs h1 hz hk hS => ?_)
          obtain ⟨Mb, ⟨hlowb, e15b, -⟩, hM⟩ := h1
          have hb0 : Mb 0 = upd (M 0) (6 + k) (lsV (M 0) k) := hlowb 0 (by omega)
          refine lv_aload_n hx hb dX7_looser_90 rfl (lv_at hl 3 rfl) ?_
          refine rg (C := RX7) (T := TX7) (N := 16) (v := .ref (w + 1)) hx hb hT inX7 hown hK hM.1 rfl 0 (by decide) mf_X7_7 rfl dX7_looser_91 ?_
          refine lv_iload_n hx hb dX7_looser_94 rfl (lv_at hl 1 rfl) ?_
          refine lv_iload hx hb dX7_looser_95 (lv_at hl 0 rfl) ?_
          refine r_iast hx hb hK hM.2.1 (6 + k) (rfl) (by omega) (Nat.le_of_ble_eq_true rfl) hS (show _ ∧ _ from ⟨by omega, by omega⟩) dX7_looser_97 (fun H locs h1 o hS => ?_)
          have hM := hM.a0 h1 o
          have eb : upd (Mb 0) (6 + k) (M 0 (6 + k)) = M 0 := by
            rw [hb0]
            funext j
            simp only [upd]
            by_cases q : j = 6 + k
            · rw [if_pos q, q]
            · rw [if_neg q, if_neg q]
          rw [eb] at hM
          refine lv_iload_n hx hb dX7_looser_98 rfl (lv_at hl 2 rfl) ?_
          refine lv_aload_n hx hb dX7_looser_99 rfl (lv_at hl 3 rfl) ?_
          refine rg (C := RX7) (T := TX7) (N := 16) (v := .int (Mb 15 0)) hx hb hT inX7 hown hK hM.1 rfl 15 (by decide) mf_X7_80 rfl dX7_looser_100 ?_
          rw [e15b]
          refine lv_isub hx hb dX7_looser_103 ?_
          exact nd_I hQ hx hb hr hlocks dX7_looser_104 hS (⟨loO_3 hk6 hx6 c2, updM Mb 0 (M 0), fun j hj => by
              by_cases q : j = 0
              · rw [q, updM_eq]
              · rw [updM_ne q, hlowb j hj, updM_ne q]; exact hlow j hj, hM⟩)
        · refine lv_iconst (v := 0) hx hb dX7_looser_58 (by decide) ?_
          refine lv_goto (tgt := 85) hx hb dX7_looser_59 (by decide) ?_
          rw [show (0 : Int32) = lsV (M 0) k from ((if_pos h3).trans (if_pos c4)).symm]
          refine r_iast hx hb hK hM.2.1 (6 + k) (rfl) (by omega) (Nat.le_of_ble_eq_true rfl) hS (show _ ∧ _ from ⟨by omega, by omega⟩) dX7_looser_85 (fun H locs h1 o hS => ?_)
          have hM := hM.a0 h1 o
          rw [h0] at hM
          refine lv_aload_n hx hb dX7_looser_86 rfl (lv_at hl 3 rfl) ?_
          refine got_V (run_i hx hb hml hown hT hK hl.1 (k_X7_seek l G w (updM Ma 0 (upd (M 0) (6 + k) (lsV (M 0) k))) (Iv_ls hv hk6)) (cw_X7_127 hT ⟨Nat.le_of_ble_eq_true rfl, Nat.le_of_ble_eq_true rfl⟩) hM.1 rfl hM rfl rfl (Nat.le_of_ble_eq_true rfl) dX7_looser_87 ⟨Nat.zero_le _, Nat.zero_le _⟩) hS (fun q hq => hq) (fun q hq => hq) (fun  H locs h1 hz hk hS => ?_)
          obtain ⟨Mb, ⟨hlowb, e15b, -⟩, hM⟩ := h1
          have hb0 : Mb 0 = upd (M 0) (6 + k) (lsV (M 0) k) := hlowb 0 (by omega)
          refine lv_aload_n hx hb dX7_looser_90 rfl (lv_at hl 3 rfl) ?_
          refine rg (C := RX7) (T := TX7) (N := 16) (v := .ref (w + 1)) hx hb hT inX7 hown hK hM.1 rfl 0 (by decide) mf_X7_7 rfl dX7_looser_91 ?_
          refine lv_iload_n hx hb dX7_looser_94 rfl (lv_at hl 1 rfl) ?_
          refine lv_iload hx hb dX7_looser_95 (lv_at hl 0 rfl) ?_
          refine r_iast hx hb hK hM.2.1 (6 + k) (rfl) (by omega) (Nat.le_of_ble_eq_true rfl) hS (show _ ∧ _ from ⟨by omega, by omega⟩) dX7_looser_97 (fun H locs h1 o hS => ?_)
          have hM := hM.a0 h1 o
          have eb : upd (Mb 0) (6 + k) (M 0 (6 + k)) = M 0 := by
            rw [hb0]
            funext j
            simp only [upd]
            by_cases q : j = 6 + k
            · rw [if_pos q, q]
            · rw [if_neg q, if_neg q]
          rw [eb] at hM
          refine lv_iload_n hx hb dX7_looser_98 rfl (lv_at hl 2 rfl) ?_
          refine lv_aload_n hx hb dX7_looser_99 rfl (lv_at hl 3 rfl) ?_
          refine rg (C := RX7) (T := TX7) (N := 16) (v := .int (Mb 15 0)) hx hb hT inX7 hown hK hM.1 rfl 15 (by decide) mf_X7_80 rfl dX7_looser_100 ?_
          rw [e15b]
          refine lv_isub hx hb dX7_looser_103 ?_
          exact nd_I hQ hx hb hr hlocks dX7_looser_104 hS (⟨loO_3 hk6 hx6 c2, updM Mb 0 (M 0), fun j hj => by
              by_cases q : j = 0
              · rw [q, updM_eq]
              · rw [updM_ne q, hlowb j hj, updM_ne q]; exact hlow j hj, hM⟩)
    · refine lv_bipush (v := (-6)) hx hb dX7_looser_27 (by decide) ?_
      exact nd_I hQ hx hb hr hlocks dX7_looser_29 hS (⟨loO_2 hx6 c2, Ma, hlow, hM⟩)
  · refine lv_bipush (v := (-2)) hx hb dX7_looser_10 (by decide) ?_
    exact nd_I hQ hx hb hr hlocks dX7_looser_12 hS (⟨loO_1 (bi_e0 c1), M, fun _ _ => rfl, hM⟩)
