/-! the model's changes, seen from outside -/
theorem pub_rec {M M2 : Nat → Nat → Int32} {op : Op} {s : Nat} (h0 : M2 0 = op.2) (h1 : M2 1 = M 1) (h2 : M2 2 = M 0) (h3 : M2 3 = M 3) (h4 : M2 4 = M 4) (h5 : M2 5 0 = nI s) (h6 : M2 6 = M 6) (h7 : M2 7 0 = M 7 0) : PubS M (if op.1 < 0 then M2 else updM (updM M2 1 (recP (M2 1) (M2 2) s)) 5 (fun _ => nI (min (s + 1) 6))) op s := by
  unfold PubS pushP pushS
  by_cases q : op.1 < 0
  · rw [if_pos q, if_pos q, if_pos q]
    exact ⟨h0, h1, h5, h3, h4, h6, h7⟩
  · rw [if_neg q, if_neg q, if_neg q]
    refine ⟨h0, ?_, rfl, h3, h4, h6, h7⟩
    show recP (M2 1) (M2 2) s = _
    rw [h1, h2]
theorem pub_err {M : Nat → Nat → Int32} {op : Op} {s : Nat} (h : op.1 < 0) (h0 : M 0 = op.2) (h5 : M 5 0 = nI s) : PubS M M op s := by
  unfold PubS pushP pushS
  rw [if_pos h, if_pos h]
  exact ⟨h0, rfl, h5, rfl, rfl, rfl, rfl⟩
theorem pub_er {M : Nat → Nat → Int32} {v : Int32} {s : Nat} (h : v < 0) (h5 : M 5 0 = nI s) : PubS M M (v, M 0) s := pub_err h rfl h5
def setO (r : Nat → Int32) (x y : Int32) : Op := if (x = 0 ∧ (0 ≤ y ∧ y ≤ 99)) ∨ (x = 1 ∧ (1 ≤ y ∧ y ≤ 7)) then (r x.toInt.toNat, upd r x.toInt.toNat y) else (-2, r)
theorem setO_0 {r : Nat → Int32} {y : Int32} (h : 0 ≤ y ∧ y ≤ 99) : setO r 0 y = (r 0, upd r 0 y) := if_pos (Or.inl ⟨rfl, h⟩)
theorem setO_1 {r : Nat → Int32} {y : Int32} (h : 1 ≤ y ∧ y ≤ 7) : setO r 1 y = (r 1, upd r 1 y) := if_pos (Or.inr ⟨rfl, h⟩)
theorem setO_n {r : Nat → Int32} {x y : Int32} (h : ¬ ((x = 0 ∧ (0 ≤ y ∧ y ≤ 99)) ∨ (x = 1 ∧ (1 ≤ y ∧ y ≤ 7)))) : setO r x y = (-2, r) := if_neg h
def tst (t : Int32) (k : Nat) : Int32 := match k with
  | 0 => t &&& 127
  | 1 => t >>> (7 &&& 31) &&& 127
  | _ => t >>> (14 &&& 31) &&& 127
theorem lgl_gt {x y : Int64} : 0 < lg_cmp x y ↔ y < x := by
  unfold lg_cmp
  by_cases h : x > y
  · rw [if_pos h]
    exact ⟨fun _ => h, fun _ => by decide⟩
  · rw [if_neg h]
    by_cases e : x = y
    · rw [if_pos e]
      exact ⟨fun q => absurd q (by decide), fun q => absurd q h⟩
    · rw [if_neg e]
      exact ⟨fun q => absurd q (by decide), fun q => absurd q h⟩
theorem and31 (z : Int64) : ∃ n : Nat, n < 32 ∧ z &&& 31 = lN n := by
  refine ⟨z.toBitVec.toNat % 32, Nat.mod_lt _ (by omega), ?_⟩
  apply Int64.toBitVec_inj.mp
  apply BitVec.eq_of_toNat_eq
  have h1 : (z &&& 31).toBitVec = z.toBitVec &&& (31 : Int64).toBitVec := rfl
  have h2 : (31 : Int64).toBitVec.toNat = 31 := by decide
  have h3 : (lN (z.toBitVec.toNat % 32)).toBitVec = BitVec.ofNat 64 (z.toBitVec.toNat % 32) := rfl
  have h4 := Nat.and_two_pow_sub_one_eq_mod z.toBitVec.toNat 5
  rw [h1, BitVec.toNat_and, h2, h3, BitVec.toNat_ofNat, show (31 : Nat) = 2 ^ 5 - 1 by rfl, h4]
  omega
theorem ch_iff {y : Int64} {k : Nat} : (-9 ≤ chF y k ∧ chF y k ≤ 9) ↔ ¬ 18 < (y >>> ((5 * nI k).toInt64 &&& 63) &&& 31) := by
  obtain ⟨n, hn, e⟩ := and31 (y >>> ((5 * nI k).toInt64 &&& 63))
  unfold chF
  rw [e, lN_i]
  have hs : (nI n - 9).toInt = (n : Int) - 9 := by
    rw [Int32.toInt_sub, nI_toInt (by omega), show (9 : Int32).toInt = 9 from rfl, Int.bmod_eq_of_le (by omega) (by omega)]
  rw [i32_le_iff, i32_le_iff, hs, show (-9 : Int32).toInt = -9 from rfl, show (9 : Int32).toInt = 9 from rfl, show (18 : Int64) = lN 18 from rfl, lN_lt (by omega) (by omega)]
  omega
theorem pos_of_buy {st g : Int32} (h0 : 0 ≤ st.toInt ∧ st.toInt ≤ 9999) (hg : 1 ≤ g ∧ g ≤ 9999) : 0 < st + g ∧ ¬ st + g = 0 := by
  have h1 := i32_le_iff.mp hg.1
  have h2 := i32_le_iff.mp hg.2
  rw [show (1 : Int32).toInt = 1 from rfl] at h1
  rw [show (9999 : Int32).toInt = 9999 from rfl] at h2
  have hs : (st + g).toInt = st.toInt + g.toInt := by
    rw [Int32.toInt_add, Int.bmod_eq_of_le (by omega) (by omega)]
  have hp : 0 < st + g := by rw [i32_lt_iff, hs, show (0 : Int32).toInt = 0 from rfl]; omega
  exact ⟨hp, fun q => by rw [q] at hp; exact absurd hp (by decide)⟩

set_option maxHeartbeats 4000000 in
set_option maxRecDepth 100000 in
theorem k_X7_set (l : Launch) (G : GG) (w : Nat) (M : Nat → Nat → Int32) (s0 : Nat) (x y : Int32) (hw : WF (M 0)) (hs : M 5 0 = nI s0) (hs6 : s0 ≤ 6)  : Met l yX7_set (ws_ yX7_set cX7_set 4 (some .int)) (rm_ 1) (PC G [.ref w, .int x, .int y] (MdAt G w M)) (QI (fun v H => v = (setO (M 0) x y).1 ∧ ∃ M2, PubS M M2 (setO (M 0) x y) s0 ∧ MdAt G w M2 H) (In w 13)) 0 0 (In w 13) := by
  refine met_q (by decide +kernel) (Nat.le_of_ble_eq_true rfl) ?_
  intro p e s m args below meth c Q hQ hx hb hr hT hown hml hlocks hnm hK hM ls hl
  have hl : lv_has ls 4 [(0, .ref w), (1, .int x), (2, .int y)] := hl
  have hS : va_S (In w 13) s.heap s.heap [] := va_S.rf
  refine lv_iload_n hx hb dX7_set_0 rfl (lv_at hl 1 rfl) ?_
  refine lv_if_ne (tgt := 18) hx hb dX7_set_1 (by decide) (fun c1 => ?_) (fun c1 => ?_)
  · refine lv_iload_n hx hb dX7_set_18 rfl (lv_at hl 1 rfl) ?_
    refine lv_iconst (v := 1) hx hb dX7_set_19 (by decide) ?_
    refine lv_icmp_ne (tgt := 34) hx hb dX7_set_20 (by decide) (fun c2 => ?_) (fun c2 => ?_)
    · refine lv_bipush (v := (-2)) hx hb dX7_set_34 (by decide) ?_
      exact nd_I hQ hx hb hr hlocks dX7_set_36 hS (by rw [setO_n (fun q => q.elim (fun q => c1 q.1) (fun q => c2 q.1))]; exact ⟨rfl, M, pub_er (by decide) hs, hM⟩)
    · refine lv_iload_n hx hb dX7_set_23 rfl (lv_at hl 2 rfl) ?_
      refine lv_i2l hx hb dX7_set_24 rfl ?_
      refine lv_iconst (v := 1) hx hb dX7_set_25 (by decide) ?_
      refine lv_bipush (v := 7) hx hb dX7_set_26 (by decide) ?_
      refine got_i (run_s hx hb hml hown hT hK hl.1 (k_X7_in l G y 1 7) (cw_X7_47 hT ⟨Nat.le_of_ble_eq_true rfl, Nat.le_of_ble_eq_true rfl⟩) trivial rfl rfl (Nat.le_of_ble_eq_true rfl) dX7_set_28 ⟨Nat.zero_le _, Nat.zero_le _⟩) (fun v_1 hv_1 => ?_)
      subst hv_1
      refine lv_if_ne (tgt := 37) hx hb dX7_set_31 (by decide) (fun c3 => ?_) (fun c3 => ?_)
      · have hg := bi_n0 c3
        have c2 : x = 1 := c2
        subst c2
        refine lv_aload_n hx hb dX7_set_37 rfl (lv_at hl 0 rfl) ?_
        refine got_V (run_i hx hb hml hown hT hK hl.1 (k_X7_remember l G w M) (cw_X7_55 hT ⟨Nat.le_of_ble_eq_true rfl, Nat.le_of_ble_eq_true rfl⟩) hM.1 rfl hM rfl rfl (Nat.le_of_ble_eq_true rfl) dX7_set_38 ⟨Nat.zero_le _, Nat.zero_le _⟩) hS (fun q hq => hq) (fun q hq => hq) (fun  H locs h1 hz hk hS => ?_)
        have hM := h1
        obtain ⟨M1, eM1⟩ : ∃ z, z = updM M 2 (M 0) := ⟨_, rfl⟩
        rw [← eM1] at hM
        have e0 : M1 0 = M 0 := by rw [eM1]; rfl
        have e1 : M1 1 = M 1 := by rw [eM1]; rfl
        have e2 : M1 2 = M 0 := by rw [eM1]; rfl
        have e3 : M1 3 = M 3 := by rw [eM1]; rfl
        have e4 : M1 4 = M 4 := by rw [eM1]; rfl
        have e5 : M1 5 0 = nI s0 := by rw [eM1]; exact hs
        have e6 : M1 6 = M 6 := by rw [eM1]; rfl
        have e7 : M1 7 0 = M 7 0 := by rw [eM1]; rfl
        refine lv_aload_n hx hb dX7_set_41 rfl (lv_at hl 0 rfl) ?_
        refine rg (C := RX7) (T := TX7) (N := 16) (v := .ref (w + 1)) hx hb hT inX7 hown hK hM.1 rfl 0 (by decide) mf_X7_7 rfl dX7_set_42 ?_
        refine lv_iload_n hx hb dX7_set_45 rfl (lv_at hl 1 rfl) ?_
        refine r_ialdS (y := M1 0 1) hx hb hK hM.2.1 1 (by decide) (by omega) (Nat.le_of_ble_eq_true rfl) rfl dX7_set_46 ?_
        refine lv_istore_n (lv' := [(3, .int (M1 0 1)), (0, .ref w), (1, .int 1), (2, .int y)]) hx hb dX7_set_47 rfl hl (by decide) rfl (fun ls hl => ?_)
        refine lv_aload_n hx hb dX7_set_48 rfl (lv_at hl 1 rfl) ?_
        refine rg (C := RX7) (T := TX7) (N := 16) (v := .ref (w + 1)) hx hb hT inX7 hown hK hM.1 rfl 0 (by decide) mf_X7_7 rfl dX7_set_49 ?_
        refine lv_iload_n hx hb dX7_set_52 rfl (lv_at hl 2 rfl) ?_
        refine lv_iload_n hx hb dX7_set_53 rfl (lv_at hl 3 rfl) ?_
        refine r_iast hx hb hK hM.2.1 1 (by decide) (by omega) (Nat.le_of_ble_eq_true rfl) hS (show _ ∧ _ from ⟨by omega, by omega⟩) dX7_set_54 (fun H locs h1 o hS => ?_)
        have hM := hM.a0 h1 o
        refine lv_aload_n hx hb dX7_set_55 rfl (lv_at hl 1 rfl) ?_
        refine lv_iload_n hx hb dX7_set_56 rfl (lv_at hl 0 rfl) ?_
        refine got_I (run_i hx hb hml hown hT hK hl.1 (k_X7_record l G w (updM M1 0 (upd (M1 0) 1 y)) s0 (M1 0 1) e5 hs6) (cw_X7_58 hT ⟨Nat.le_of_ble_eq_true rfl, Nat.le_of_ble_eq_true rfl⟩) hM.1 rfl hM rfl rfl (Nat.le_of_ble_eq_true rfl) dX7_set_57 ⟨Nat.zero_le _, Nat.zero_le _⟩) hS (fun q hq => hq) (fun q hq => hq) (fun v_2 H locs h1 hz hk hS => ?_)
        obtain ⟨hv9, hM⟩ := h1
        rw [hv9]
        exact nd_I hQ hx hb hr hlocks dX7_set_60 hS (by rw [setO_1 hg, e0]; rw [e0] at hM; exact ⟨rfl, _, pub_rec (M := M) (M2 := updM M1 0 (upd (M 0) 1 y)) (op := (M 0 1, upd (M 0) 1 y)) rfl e1 e2 e3 e4 e5 e6 e7, hM⟩)
      · refine lv_bipush (v := (-2)) hx hb dX7_set_34 (by decide) ?_
        exact nd_I hQ hx hb hr hlocks dX7_set_36 hS (by rw [setO_n (fun q => q.elim (fun q => c1 q.1) (fun q => bi_e0 c3 q.2))]; exact ⟨rfl, M, pub_er (by decide) hs, hM⟩)
  · refine lv_iload_n hx hb dX7_set_4 rfl (lv_at hl 2 rfl) ?_
    refine lv_i2l hx hb dX7_set_5 rfl ?_
    refine lv_iconst (v := 0) hx hb dX7_set_6 (by decide) ?_
    refine lv_bipush (v := 99) hx hb dX7_set_7 (by decide) ?_
    refine got_i (run_s hx hb hml hown hT hK hl.1 (k_X7_in l G y 0 99) (cw_X7_47 hT ⟨Nat.le_of_ble_eq_true rfl, Nat.le_of_ble_eq_true rfl⟩) trivial rfl rfl (Nat.le_of_ble_eq_true rfl) dX7_set_9 ⟨Nat.zero_le _, Nat.zero_le _⟩) (fun v_3 hv_3 => ?_)
    subst hv_3
    refine lv_if_ne (tgt := 37) hx hb dX7_set_12 (by decide) (fun c3 => ?_) (fun c3 => ?_)
    · have hg := bi_n0 c3
      have c1 : x = 0 := c1
      subst c1
      refine lv_aload_n hx hb dX7_set_37 rfl (lv_at hl 0 rfl) ?_
      refine got_V (run_i hx hb hml hown hT hK hl.1 (k_X7_remember l G w M) (cw_X7_55 hT ⟨Nat.le_of_ble_eq_true rfl, Nat.le_of_ble_eq_true rfl⟩) hM.1 rfl hM rfl rfl (Nat.le_of_ble_eq_true rfl) dX7_set_38 ⟨Nat.zero_le _, Nat.zero_le _⟩) hS (fun q hq => hq) (fun q hq => hq) (fun  H locs h1 hz hk hS => ?_)
      have hM := h1
      obtain ⟨M1, eM1⟩ : ∃ z, z = updM M 2 (M 0) := ⟨_, rfl⟩
      rw [← eM1] at hM
      have e0 : M1 0 = M 0 := by rw [eM1]; rfl
      have e1 : M1 1 = M 1 := by rw [eM1]; rfl
      have e2 : M1 2 = M 0 := by rw [eM1]; rfl
      have e3 : M1 3 = M 3 := by rw [eM1]; rfl
      have e4 : M1 4 = M 4 := by rw [eM1]; rfl
      have e5 : M1 5 0 = nI s0 := by rw [eM1]; exact hs
      have e6 : M1 6 = M 6 := by rw [eM1]; rfl
      have e7 : M1 7 0 = M 7 0 := by rw [eM1]; rfl
      refine lv_aload_n hx hb dX7_set_41 rfl (lv_at hl 0 rfl) ?_
      refine rg (C := RX7) (T := TX7) (N := 16) (v := .ref (w + 1)) hx hb hT inX7 hown hK hM.1 rfl 0 (by decide) mf_X7_7 rfl dX7_set_42 ?_
      refine lv_iload_n hx hb dX7_set_45 rfl (lv_at hl 1 rfl) ?_
      refine r_ialdS (y := M1 0 0) hx hb hK hM.2.1 0 (by decide) (by omega) (Nat.le_of_ble_eq_true rfl) rfl dX7_set_46 ?_
      refine lv_istore_n (lv' := [(3, .int (M1 0 0)), (0, .ref w), (1, .int 0), (2, .int y)]) hx hb dX7_set_47 rfl hl (by decide) rfl (fun ls hl => ?_)
      refine lv_aload_n hx hb dX7_set_48 rfl (lv_at hl 1 rfl) ?_
      refine rg (C := RX7) (T := TX7) (N := 16) (v := .ref (w + 1)) hx hb hT inX7 hown hK hM.1 rfl 0 (by decide) mf_X7_7 rfl dX7_set_49 ?_
      refine lv_iload_n hx hb dX7_set_52 rfl (lv_at hl 2 rfl) ?_
      refine lv_iload_n hx hb dX7_set_53 rfl (lv_at hl 3 rfl) ?_
      refine r_iast hx hb hK hM.2.1 0 (by decide) (by omega) (Nat.le_of_ble_eq_true rfl) hS (show _ ∧ _ from ⟨by omega, by omega⟩) dX7_set_54 (fun H locs h1 o hS => ?_)
      have hM := hM.a0 h1 o
      refine lv_aload_n hx hb dX7_set_55 rfl (lv_at hl 1 rfl) ?_
      refine lv_iload_n hx hb dX7_set_56 rfl (lv_at hl 0 rfl) ?_
      refine got_I (run_i hx hb hml hown hT hK hl.1 (k_X7_record l G w (updM M1 0 (upd (M1 0) 0 y)) s0 (M1 0 0) e5 hs6) (cw_X7_58 hT ⟨Nat.le_of_ble_eq_true rfl, Nat.le_of_ble_eq_true rfl⟩) hM.1 rfl hM rfl rfl (Nat.le_of_ble_eq_true rfl) dX7_set_57 ⟨Nat.zero_le _, Nat.zero_le _⟩) hS (fun q hq => hq) (fun q hq => hq) (fun v_4 H locs h1 hz hk hS => ?_)
      obtain ⟨hv9, hM⟩ := h1
      rw [hv9]
      exact nd_I hQ hx hb hr hlocks dX7_set_60 hS (by rw [setO_0 hg, e0]; rw [e0] at hM; exact ⟨rfl, _, pub_rec (M := M) (M2 := updM M1 0 (upd (M 0) 0 y)) (op := (M 0 0, upd (M 0) 0 y)) rfl e1 e2 e3 e4 e5 e6 e7, hM⟩)
    · refine lv_goto (tgt := 34) hx hb dX7_set_15 (by decide) ?_
      refine lv_bipush (v := (-2)) hx hb dX7_set_34 (by decide) ?_
      exact nd_I hQ hx hb hr hlocks dX7_set_36 hS (by rw [setO_n (fun q => q.elim (fun q => bi_e0 c3 q.2) (fun q => absurd (c1.symm.trans q.1) (by decide)))]; exact ⟨rfl, M, pub_er (by decide) hs, hM⟩)

set_option maxHeartbeats 4000000 in
set_option maxRecDepth 100000 in
theorem k_X7_leaf (l : Launch) (G : GG) (w : Nat) (M : Nat → Nat → Int32) (s0 : Nat) (x t st : Int32) (hw : WF (M 0)) (hs : M 5 0 = nI s0) (hs6 : s0 ≤ 6)  : Met l yX7_leaf (ws_ yX7_leaf cX7_leaf 4 (some .int)) (rm_ 2) (PC G [.ref w, .int x, .int t, .int st] (MdAt G w M)) (QI (fun v H => v = (adO (M 0) x (tst t 0) (tst t 1) (tst t 2) st).1 ∧ ∃ M2, PubS M M2 (adO (M 0) x (tst t 0) (tst t 1) (tst t 2) st) s0 ∧ MdAt G w M2 H) (In w 13)) 0 0 (In w 13) := by
  refine met_q (by decide +kernel) (Nat.le_of_ble_eq_true rfl) ?_
  intro p e s m args below meth c Q hQ hx hb hr hT hown hml hlocks hnm hK hM ls hl
  have hl : lv_has ls 4 [(0, .ref w), (1, .int x), (2, .int t), (3, .int st)] := hl
  have hS : va_S (In w 13) s.heap s.heap [] := va_S.rf
  refine lv_aload_n hx hb dX7_leaf_0 rfl (lv_at hl 0 rfl) ?_
  refine got_V (run_i hx hb hml hown hT hK hl.1 (k_X7_remember l G w M) (cw_X7_55 hT ⟨Nat.le_of_ble_eq_true rfl, Nat.le_of_ble_eq_true rfl⟩) hM.1 rfl hM rfl rfl (Nat.le_of_ble_eq_true rfl) dX7_leaf_1 ⟨Nat.zero_le _, Nat.zero_le _⟩) hS (fun q hq => hq) (fun q hq => hq) (fun  H locs h1 hz hk hS => ?_)
  have hM := h1
  obtain ⟨M1, eM1⟩ : ∃ z, z = updM M 2 (M 0) := ⟨_, rfl⟩
  rw [← eM1] at hM
  have e0 : M1 0 = M 0 := by rw [eM1]; rfl
  have e1 : M1 1 = M 1 := by rw [eM1]; rfl
  have e2 : M1 2 = M 0 := by rw [eM1]; rfl
  have e3 : M1 3 = M 3 := by rw [eM1]; rfl
  have e4 : M1 4 = M 4 := by rw [eM1]; rfl
  have e5 : M1 5 0 = nI s0 := by rw [eM1]; exact hs
  have e6 : M1 6 = M 6 := by rw [eM1]; rfl
  have e7 : M1 7 0 = M 7 0 := by rw [eM1]; rfl
  refine lv_aload_n hx hb dX7_leaf_4 rfl (lv_at hl 0 rfl) ?_
  refine lv_aload_n hx hb dX7_leaf_5 rfl (lv_at hl 0 rfl) ?_
  refine lv_iload_n hx hb dX7_leaf_6 rfl (lv_at hl 1 rfl) ?_
  refine lv_iload_n hx hb dX7_leaf_7 rfl (lv_at hl 2 rfl) ?_
  refine lv_bipush (v := 127) hx hb dX7_leaf_8 (by decide) ?_
  refine lv_iand hx hb dX7_leaf_10 ?_
  refine lv_iload_n hx hb dX7_leaf_11 rfl (lv_at hl 2 rfl) ?_
  refine lv_bipush (v := 7) hx hb dX7_leaf_12 (by decide) ?_
  refine lv_ishr hx hb dX7_leaf_14 ?_
  refine lv_bipush (v := 127) hx hb dX7_leaf_15 (by decide) ?_
  refine lv_iand hx hb dX7_leaf_17 ?_
  refine lv_iload_n hx hb dX7_leaf_18 rfl (lv_at hl 2 rfl) ?_
  refine lv_bipush (v := 14) hx hb dX7_leaf_19 (by decide) ?_
  refine lv_ishr hx hb dX7_leaf_21 ?_
  refine lv_bipush (v := 127) hx hb dX7_leaf_22 (by decide) ?_
  refine lv_iand hx hb dX7_leaf_24 ?_
  refine lv_iload_n hx hb dX7_leaf_25 rfl (lv_at hl 3 rfl) ?_
  refine got_I (run_i hx hb hml hown hT hK hl.1 (k_X7_comes l G w M1 x (tst t 0) (tst t 1) (tst t 2) st (by rw [e0]; exact hw)) (cw_X7_116 hT ⟨Nat.le_of_ble_eq_true rfl, Nat.le_of_ble_eq_true rfl⟩) hM.1 rfl hM rfl rfl (Nat.le_of_ble_eq_true rfl) dX7_leaf_26 ⟨Nat.zero_le _, Nat.zero_le _⟩) hS (fun q hq => hq) (fun q hq => hq) (fun v_1 H locs h1 hz hk hS => ?_)
  obtain ⟨hv8, hM⟩ := h1
  rw [hv8]
  rw [e0] at hM
  rw [e0]
  refine got_I (run_i hx hb hml hown hT hK hl.1 (k_X7_record l G w (updM M1 0 ((adO (M 0) x (tst t 0) (tst t 1) (tst t 2) st).2)) s0 ((adO (M 0) x (tst t 0) (tst t 1) (tst t 2) st).1) e5 hs6) (cw_X7_58 hT ⟨Nat.le_of_ble_eq_true rfl, Nat.le_of_ble_eq_true rfl⟩) hM.1 rfl hM rfl rfl (Nat.le_of_ble_eq_true rfl) dX7_leaf_29 ⟨Nat.zero_le _, Nat.zero_le _⟩) hS (fun q hq => hq) (fun q hq => hq) (fun v_2 H locs h1 hz hk hS => ?_)
  obtain ⟨hv9, hM⟩ := h1
  rw [hv9]
  exact nd_I hQ hx hb hr hlocks dX7_leaf_32 hS (⟨rfl, _, pub_rec (M := M) (M2 := updM M1 0 ((adO (M 0) x (tst t 0) (tst t 1) (tst t 2) st).2)) (op := ((adO (M 0) x (tst t 0) (tst t 1) (tst t 2) st).1, (adO (M 0) x (tst t 0) (tst t 1) (tst t 2) st).2)) rfl e1 e2 e3 e4 e5 e6 e7, hM⟩)

set_option maxHeartbeats 4000000 in
set_option maxRecDepth 100000 in
theorem k_X7_share (l : Launch) (G : GG) (w : Nat) (M : Nat → Nat → Int32) (s0 : Nat) (x g : Int32) (hw : WF (M 0)) (hs : M 5 0 = nI s0) (hs6 : s0 ≤ 6)  : Met l yX7_share (ws_ yX7_share cX7_share 3 (some .int)) (rm_ 3) (PC G [.ref w, .int x, .int g] (MdAt G w M)) (QI (fun v H => v = (shO (M 0) x g).1 ∧ ∃ M2, PubS M M2 (shO (M 0) x g) s0 ∧ MdAt G w M2 H) (In w 13)) 0 0 (In w 13) := by
  refine met_q (by decide +kernel) (Nat.le_of_ble_eq_true rfl) ?_
  intro p e s m args below meth c Q hQ hx hb hr hT hown hml hlocks hnm hK hM ls hl
  have hl : lv_has ls 3 [(0, .ref w), (1, .int x), (2, .int g)] := hl
  have hS : va_S (In w 13) s.heap s.heap [] := va_S.rf
  refine lv_aload_n hx hb dX7_share_0 rfl (lv_at hl 0 rfl) ?_
  refine got_V (run_i hx hb hml hown hT hK hl.1 (k_X7_remember l G w M) (cw_X7_55 hT ⟨Nat.le_of_ble_eq_true rfl, Nat.le_of_ble_eq_true rfl⟩) hM.1 rfl hM rfl rfl (Nat.le_of_ble_eq_true rfl) dX7_share_1 ⟨Nat.zero_le _, Nat.zero_le _⟩) hS (fun q hq => hq) (fun q hq => hq) (fun  H locs h1 hz hk hS => ?_)
  have hM := h1
  obtain ⟨M1, eM1⟩ : ∃ z, z = updM M 2 (M 0) := ⟨_, rfl⟩
  rw [← eM1] at hM
  have e0 : M1 0 = M 0 := by rw [eM1]; rfl
  have e1 : M1 1 = M 1 := by rw [eM1]; rfl
  have e2 : M1 2 = M 0 := by rw [eM1]; rfl
  have e3 : M1 3 = M 3 := by rw [eM1]; rfl
  have e4 : M1 4 = M 4 := by rw [eM1]; rfl
  have e5 : M1 5 0 = nI s0 := by rw [eM1]; exact hs
  have e6 : M1 6 = M 6 := by rw [eM1]; rfl
  have e7 : M1 7 0 = M 7 0 := by rw [eM1]; rfl
  refine lv_aload_n hx hb dX7_share_4 rfl (lv_at hl 0 rfl) ?_
  refine lv_aload_n hx hb dX7_share_5 rfl (lv_at hl 0 rfl) ?_
  refine lv_iload_n hx hb dX7_share_6 rfl (lv_at hl 1 rfl) ?_
  refine lv_iload_n hx hb dX7_share_7 rfl (lv_at hl 2 rfl) ?_
  refine got_I (run_i hx hb hml hown hT hK hl.1 (k_X7_gets l G w M1 x g (by rw [e0]; exact hw)) (cw_X7_124 hT ⟨Nat.le_of_ble_eq_true rfl, Nat.le_of_ble_eq_true rfl⟩) hM.1 rfl hM rfl rfl (Nat.le_of_ble_eq_true rfl) dX7_share_8 ⟨Nat.zero_le _, Nat.zero_le _⟩) hS (fun q hq => hq) (fun q hq => hq) (fun v_1 H locs h1 hz hk hS => ?_)
  obtain ⟨hv8, hM⟩ := h1
  rw [hv8]
  rw [e0] at hM
  rw [e0]
  refine got_I (run_i hx hb hml hown hT hK hl.1 (k_X7_record l G w (updM M1 0 ((shO (M 0) x g).2)) s0 ((shO (M 0) x g).1) e5 hs6) (cw_X7_58 hT ⟨Nat.le_of_ble_eq_true rfl, Nat.le_of_ble_eq_true rfl⟩) hM.1 rfl hM rfl rfl (Nat.le_of_ble_eq_true rfl) dX7_share_11 ⟨Nat.zero_le _, Nat.zero_le _⟩) hS (fun q hq => hq) (fun q hq => hq) (fun v_2 H locs h1 hz hk hS => ?_)
  obtain ⟨hv9, hM⟩ := h1
  rw [hv9]
  exact nd_I hQ hx hb hr hlocks dX7_share_14 hS (⟨rfl, _, pub_rec (M := M) (M2 := updM M1 0 ((shO (M 0) x g).2)) (op := ((shO (M 0) x g).1, (shO (M 0) x g).2)) rfl e1 e2 e3 e4 e5 e6 e7, hM⟩)

set_option maxHeartbeats 4000000 in
set_option maxRecDepth 100000 in
theorem k_X7_mix (l : Launch) (G : GG) (w : Nat) (M : Nat → Nat → Int32) (s0 : Nat) (g : Int32) (hw : WF (M 0)) (hs : M 5 0 = nI s0) (hs6 : s0 ≤ 6)  : Met l yX7_mix (ws_ yX7_mix cX7_mix 2 (some .int)) (rm_ 5) (PC G [.ref w, .int g] (MdAt G w M)) (QI (fun v H => v = (mxO (M 0) g).1 ∧ ∃ M2, PubS M M2 (mxO (M 0) g) s0 ∧ MdAt G w M2 H) (In w 13)) 0 0 (In w 13) := by
  refine met_q (by decide +kernel) (Nat.le_of_ble_eq_true rfl) ?_
  intro p e s m args below meth c Q hQ hx hb hr hT hown hml hlocks hnm hK hM ls hl
  have hl : lv_has ls 2 [(0, .ref w), (1, .int g)] := hl
  have hS : va_S (In w 13) s.heap s.heap [] := va_S.rf
  refine lv_aload_n hx hb dX7_mix_0 rfl (lv_at hl 0 rfl) ?_
  refine got_V (run_i hx hb hml hown hT hK hl.1 (k_X7_remember l G w M) (cw_X7_55 hT ⟨Nat.le_of_ble_eq_true rfl, Nat.le_of_ble_eq_true rfl⟩) hM.1 rfl hM rfl rfl (Nat.le_of_ble_eq_true rfl) dX7_mix_1 ⟨Nat.zero_le _, Nat.zero_le _⟩) hS (fun q hq => hq) (fun q hq => hq) (fun  H locs h1 hz hk hS => ?_)
  have hM := h1
  obtain ⟨M1, eM1⟩ : ∃ z, z = updM M 2 (M 0) := ⟨_, rfl⟩
  rw [← eM1] at hM
  have e0 : M1 0 = M 0 := by rw [eM1]; rfl
  have e1 : M1 1 = M 1 := by rw [eM1]; rfl
  have e2 : M1 2 = M 0 := by rw [eM1]; rfl
  have e3 : M1 3 = M 3 := by rw [eM1]; rfl
  have e4 : M1 4 = M 4 := by rw [eM1]; rfl
  have e5 : M1 5 0 = nI s0 := by rw [eM1]; exact hs
  have e6 : M1 6 = M 6 := by rw [eM1]; rfl
  have e7 : M1 7 0 = M 7 0 := by rw [eM1]; rfl
  refine lv_aload_n hx hb dX7_mix_4 rfl (lv_at hl 0 rfl) ?_
  refine lv_aload_n hx hb dX7_mix_5 rfl (lv_at hl 0 rfl) ?_
  refine lv_iload_n hx hb dX7_mix_6 rfl (lv_at hl 1 rfl) ?_
  refine got_I (run_i hx hb hml hown hT hK hl.1 (k_X7_mixes l G w M1 g (by rw [e0]; exact hw)) (cw_X7_130 hT ⟨Nat.le_of_ble_eq_true rfl, Nat.le_of_ble_eq_true rfl⟩) hM.1 rfl hM rfl rfl (Nat.le_of_ble_eq_true rfl) dX7_mix_7 ⟨Nat.zero_le _, Nat.zero_le _⟩) hS (fun q hq => hq) (fun q hq => hq) (fun v_1 H locs h1 hz hk hS => ?_)
  obtain ⟨hv8, hM⟩ := h1
  rw [hv8]
  rw [e0] at hM
  rw [e0]
  refine got_I (run_i hx hb hml hown hT hK hl.1 (k_X7_record l G w (updM M1 0 ((mxO (M 0) g).2)) s0 ((mxO (M 0) g).1) e5 hs6) (cw_X7_58 hT ⟨Nat.le_of_ble_eq_true rfl, Nat.le_of_ble_eq_true rfl⟩) hM.1 rfl hM rfl rfl (Nat.le_of_ble_eq_true rfl) dX7_mix_10 ⟨Nat.zero_le _, Nat.zero_le _⟩) hS (fun q hq => hq) (fun q hq => hq) (fun v_2 H locs h1 hz hk hS => ?_)
  obtain ⟨hv9, hM⟩ := h1
  rw [hv9]
  exact nd_I hQ hx hb hr hlocks dX7_mix_13 hS (⟨rfl, _, pub_rec (M := M) (M2 := updM M1 0 ((mxO (M 0) g).2)) (op := ((mxO (M 0) g).1, (mxO (M 0) g).2)) rfl e1 e2 e3 e4 e5 e6 e7, hM⟩)

set_option maxHeartbeats 4000000 in
set_option maxRecDepth 100000 in
theorem k_X7_pass (l : Launch) (G : GG) (w : Nat) (M : Nat → Nat → Int32) (s0 : Nat) (d : Int32) (hw : WF (M 0)) (hs : M 5 0 = nI s0) (hs6 : s0 ≤ 6)  : Met l yX7_pass (ws_ yX7_pass cX7_pass 2 (some .int)) (rm_ 3) (PC G [.ref w, .int d] (MdAt G w M)) (QI (fun v H => v = (pdO (M 0) d).1 ∧ ∃ M2, PubS M M2 (pdO (M 0) d) s0 ∧ MdAt G w M2 H) (In w 13)) 0 0 (In w 13) := by
  refine met_q (by decide +kernel) (Nat.le_of_ble_eq_true rfl) ?_
  intro p e s m args below meth c Q hQ hx hb hr hT hown hml hlocks hnm hK hM ls hl
  have hl : lv_has ls 2 [(0, .ref w), (1, .int d)] := hl
  have hS : va_S (In w 13) s.heap s.heap [] := va_S.rf
  refine lv_aload_n hx hb dX7_pass_0 rfl (lv_at hl 0 rfl) ?_
  refine got_V (run_i hx hb hml hown hT hK hl.1 (k_X7_remember l G w M) (cw_X7_55 hT ⟨Nat.le_of_ble_eq_true rfl, Nat.le_of_ble_eq_true rfl⟩) hM.1 rfl hM rfl rfl (Nat.le_of_ble_eq_true rfl) dX7_pass_1 ⟨Nat.zero_le _, Nat.zero_le _⟩) hS (fun q hq => hq) (fun q hq => hq) (fun  H locs h1 hz hk hS => ?_)
  have hM := h1
  obtain ⟨M1, eM1⟩ : ∃ z, z = updM M 2 (M 0) := ⟨_, rfl⟩
  rw [← eM1] at hM
  have e0 : M1 0 = M 0 := by rw [eM1]; rfl
  have e1 : M1 1 = M 1 := by rw [eM1]; rfl
  have e2 : M1 2 = M 0 := by rw [eM1]; rfl
  have e3 : M1 3 = M 3 := by rw [eM1]; rfl
  have e4 : M1 4 = M 4 := by rw [eM1]; rfl
  have e5 : M1 5 0 = nI s0 := by rw [eM1]; exact hs
  have e6 : M1 6 = M 6 := by rw [eM1]; rfl
  have e7 : M1 7 0 = M 7 0 := by rw [eM1]; rfl
  refine lv_aload_n hx hb dX7_pass_4 rfl (lv_at hl 0 rfl) ?_
  refine lv_aload_n hx hb dX7_pass_5 rfl (lv_at hl 0 rfl) ?_
  refine lv_iload_n hx hb dX7_pass_6 rfl (lv_at hl 1 rfl) ?_
  refine got_I (run_i hx hb hml hown hT hK hl.1 (k_X7_waits l G w M1 d (by rw [e0]; exact hw)) (cw_X7_133 hT ⟨Nat.le_of_ble_eq_true rfl, Nat.le_of_ble_eq_true rfl⟩) hM.1 rfl hM rfl rfl (Nat.le_of_ble_eq_true rfl) dX7_pass_7 ⟨Nat.zero_le _, Nat.zero_le _⟩) hS (fun q hq => hq) (fun q hq => hq) (fun v_1 H locs h1 hz hk hS => ?_)
  obtain ⟨hv8, hM⟩ := h1
  rw [hv8]
  rw [e0] at hM
  rw [e0]
  refine got_I (run_i hx hb hml hown hT hK hl.1 (k_X7_record l G w (updM M1 0 ((pdO (M 0) d).2)) s0 ((pdO (M 0) d).1) e5 hs6) (cw_X7_58 hT ⟨Nat.le_of_ble_eq_true rfl, Nat.le_of_ble_eq_true rfl⟩) hM.1 rfl hM rfl rfl (Nat.le_of_ble_eq_true rfl) dX7_pass_10 ⟨Nat.zero_le _, Nat.zero_le _⟩) hS (fun q hq => hq) (fun q hq => hq) (fun v_2 H locs h1 hz hk hS => ?_)
  obtain ⟨hv9, hM⟩ := h1
  rw [hv9]
  exact nd_I hQ hx hb hr hlocks dX7_pass_13 hS (⟨rfl, _, pub_rec (M := M) (M2 := updM M1 0 ((pdO (M 0) d).2)) (op := ((pdO (M 0) d).1, (pdO (M 0) d).2)) rfl e1 e2 e3 e4 e5 e6 e7, hM⟩)

set_option maxHeartbeats 4000000 in
set_option maxRecDepth 100000 in
theorem k_X7_bound (l : Launch) (G : GG) (w : Nat) (M : Nat → Nat → Int32) (s0 : Nat) (x lo hi : Int32) (hw : WF (M 0)) (hs : M 5 0 = nI s0) (hs6 : s0 ≤ 6)  : Met l yX7_bound (ws_ yX7_bound cX7_bound 5 (some .int)) (rm_ 1) (PC G [.ref w, .int x, .int lo, .int hi] (MdAt G w M)) (QI (fun v H => v = (bnO (M 0) x lo hi).1 ∧ ∃ M2, PubS M M2 (bnO (M 0) x lo hi) s0 ∧ MdAt G w M2 H) (In w 13)) 0 0 (In w 13) := by
  refine met_q (by decide +kernel) (Nat.le_of_ble_eq_true rfl) ?_
  intro p e s m args below meth c Q hQ hx hb hr hT hown hml hlocks hnm hK hM ls hl
  have hl : lv_has ls 5 [(0, .ref w), (1, .int x), (2, .int lo), (3, .int hi)] := hl
  have hS : va_S (In w 13) s.heap s.heap [] := va_S.rf
  refine lv_iload_n hx hb dX7_bound_0 rfl (lv_at hl 1 rfl) ?_
  refine lv_i2l hx hb dX7_bound_1 rfl ?_
  refine lv_iconst (v := 0) hx hb dX7_bound_2 (by decide) ?_
  refine lv_iconst (v := 2) hx hb dX7_bound_3 (by decide) ?_
  refine got_i (run_s hx hb hml hown hT hK hl.1 (k_X7_in l G x 0 2) (cw_X7_47 hT ⟨Nat.le_of_ble_eq_true rfl, Nat.le_of_ble_eq_true rfl⟩) trivial rfl rfl (Nat.le_of_ble_eq_true rfl) dX7_bound_4 ⟨Nat.zero_le _, Nat.zero_le _⟩) (fun v_1 hv_1 => ?_)
  subst hv_1
  refine lv_if_ne (tgt := 12) hx hb dX7_bound_7 (by decide) (fun c1 => ?_) (fun c1 => ?_)
  · have hx3 : 0 ≤ x ∧ x < 3 := by
      have h9 := bi_n0 c1
      refine ⟨h9.1, ?_⟩
      have h8 := h9.2
      rw [i32_le_iff] at h8
      rw [i32_lt_iff]
      have e2 : (2 : Int32).toInt = 2 := rfl
      have e3 : (3 : Int32).toInt = 3 := rfl
      omega
    refine lv_iload_n hx hb dX7_bound_12 rfl (lv_at hl 2 rfl) ?_
    refine lv_i2l hx hb dX7_bound_13 rfl ?_
    refine lv_iconst (v := 0) hx hb dX7_bound_14 (by decide) ?_
    refine lv_bipush (v := 100) hx hb dX7_bound_15 (by decide) ?_
    refine got_i (run_s hx hb hml hown hT hK hl.1 (k_X7_in l G lo 0 100) (cw_X7_47 hT ⟨Nat.le_of_ble_eq_true rfl, Nat.le_of_ble_eq_true rfl⟩) trivial rfl rfl (Nat.le_of_ble_eq_true rfl) dX7_bound_17 ⟨Nat.zero_le _, Nat.zero_le _⟩) (fun v_2 hv_2 => ?_)
    subst hv_2
    refine lv_if_eq (tgt := 34) hx hb dX7_bound_20 (by decide) (fun c3 => ?_) (fun c3 => ?_)
    · refine lv_bipush (v := (-2)) hx hb dX7_bound_34 (by decide) ?_
      exact nd_I hQ hx hb hr hlocks dX7_bound_36 hS (by rw [bnO_2 hx3 (fun q => bi_e0 c3 q.1)]; exact ⟨rfl, M, pub_er (by decide) hs, hM⟩)
    · refine lv_iload_n hx hb dX7_bound_23 rfl (lv_at hl 3 rfl) ?_
      refine lv_i2l hx hb dX7_bound_24 rfl ?_
      refine lv_iload_n hx hb dX7_bound_25 rfl (lv_at hl 2 rfl) ?_
      refine lv_bipush (v := 100) hx hb dX7_bound_26 (by decide) ?_
      refine got_i (run_s hx hb hml hown hT hK hl.1 (k_X7_in l G hi lo 100) (cw_X7_47 hT ⟨Nat.le_of_ble_eq_true rfl, Nat.le_of_ble_eq_true rfl⟩) trivial rfl rfl (Nat.le_of_ble_eq_true rfl) dX7_bound_28 ⟨Nat.zero_le _, Nat.zero_le _⟩) (fun v_3 hv_3 => ?_)
      subst hv_3
      refine lv_if_ne (tgt := 37) hx hb dX7_bound_31 (by decide) (fun c4 => ?_) (fun c4 => ?_)
      · have hr2 : (0 ≤ lo ∧ lo ≤ 100) ∧ (lo ≤ hi ∧ hi ≤ 100) := ⟨bi_n0 c3, bi_n0 c4⟩
        obtain ⟨t, ht, rfl⟩ := ix_of hx3.1 (n := 3) hx3.2 (by omega)
        refine lv_aload_n hx hb dX7_bound_37 rfl (lv_at hl 0 rfl) ?_
        refine got_V (run_i hx hb hml hown hT hK hl.1 (k_X7_remember l G w M) (cw_X7_55 hT ⟨Nat.le_of_ble_eq_true rfl, Nat.le_of_ble_eq_true rfl⟩) hM.1 rfl hM rfl rfl (Nat.le_of_ble_eq_true rfl) dX7_bound_38 ⟨Nat.zero_le _, Nat.zero_le _⟩) hS (fun q hq => hq) (fun q hq => hq) (fun  H locs h1 hz hk hS => ?_)
        have hM := h1
        obtain ⟨M1, eM1⟩ : ∃ z, z = updM M 2 (M 0) := ⟨_, rfl⟩
        rw [← eM1] at hM
        have e0 : M1 0 = M 0 := by rw [eM1]; rfl
        have e1 : M1 1 = M 1 := by rw [eM1]; rfl
        have e2 : M1 2 = M 0 := by rw [eM1]; rfl
        have e3 : M1 3 = M 3 := by rw [eM1]; rfl
        have e4 : M1 4 = M 4 := by rw [eM1]; rfl
        have e5 : M1 5 0 = nI s0 := by rw [eM1]; exact hs
        have e6 : M1 6 = M 6 := by rw [eM1]; rfl
        have e7 : M1 7 0 = M 7 0 := by rw [eM1]; rfl
        refine lv_bipush (v := 100) hx hb dX7_bound_41 (by decide) ?_
        refine lv_aload_n hx hb dX7_bound_43 rfl (lv_at hl 0 rfl) ?_
        refine rg (C := RX7) (T := TX7) (N := 16) (v := .ref (w + 1)) hx hb hT inX7 hown hK hM.1 rfl 0 (by decide) mf_X7_7 rfl dX7_bound_44 ?_
        refine lv_bipush (v := 6) hx hb dX7_bound_47 (by decide) ?_
        refine lv_iload_n hx hb dX7_bound_49 rfl (lv_at hl 1 rfl) ?_
        refine lv_iadd hx hb dX7_bound_50 ?_
        refine r_ialdS (y := M1 0 (6 + t)) hx hb hK hM.2.1 (6 + t) (nI_add 6 t) (by omega) (Nat.le_of_ble_eq_true rfl) rfl dX7_bound_51 ?_
        refine lv_imul hx hb dX7_bound_52 ?_
        refine lv_aload_n hx hb dX7_bound_53 rfl (lv_at hl 0 rfl) ?_
        refine rg (C := RX7) (T := TX7) (N := 16) (v := .ref (w + 1)) hx hb hT inX7 hown hK hM.1 rfl 0 (by decide) mf_X7_7 rfl dX7_bound_54 ?_
        refine lv_bipush (v := 9) hx hb dX7_bound_57 (by decide) ?_
        refine lv_iload_n hx hb dX7_bound_59 rfl (lv_at hl 1 rfl) ?_
        refine lv_iadd hx hb dX7_bound_60 ?_
        refine r_ialdS (y := M1 0 (9 + t)) hx hb hK hM.2.1 (9 + t) (nI_add 9 t) (by omega) (Nat.le_of_ble_eq_true rfl) rfl dX7_bound_61 ?_
        refine lv_iadd hx hb dX7_bound_62 ?_
        refine lv_istore (lv' := [(4, .int ((100 * (M1 0 (6 + t))) + (M1 0 (9 + t)))), (0, .ref w), (1, .int (nI t)), (2, .int lo), (3, .int hi)]) hx hb dX7_bound_63 hl (by decide) rfl (fun ls hl => ?_)
        refine lv_aload_n hx hb dX7_bound_65 rfl (lv_at hl 1 rfl) ?_
        refine rg (C := RX7) (T := TX7) (N := 16) (v := .ref (w + 1)) hx hb hT inX7 hown hK hM.1 rfl 0 (by decide) mf_X7_7 rfl dX7_bound_66 ?_
        refine lv_bipush (v := 6) hx hb dX7_bound_69 (by decide) ?_
        refine lv_iload_n hx hb dX7_bound_71 rfl (lv_at hl 2 rfl) ?_
        refine lv_iadd hx hb dX7_bound_72 ?_
        refine lv_iload_n hx hb dX7_bound_73 rfl (lv_at hl 3 rfl) ?_
        refine r_iast hx hb hK hM.2.1 (6 + t) (nI_add 6 t) (by omega) (Nat.le_of_ble_eq_true rfl) hS (show _ ∧ _ from ⟨by omega, by omega⟩) dX7_bound_74 (fun H locs h1 o hS => ?_)
        have hM := hM.a0 h1 o
        refine lv_aload_n hx hb dX7_bound_75 rfl (lv_at hl 1 rfl) ?_
        refine rg (C := RX7) (T := TX7) (N := 16) (v := .ref (w + 1)) hx hb hT inX7 hown hK hM.1 rfl 0 (by decide) mf_X7_7 rfl dX7_bound_76 ?_
        refine lv_bipush (v := 9) hx hb dX7_bound_79 (by decide) ?_
        refine lv_iload_n hx hb dX7_bound_81 rfl (lv_at hl 2 rfl) ?_
        refine lv_iadd hx hb dX7_bound_82 ?_
        refine lv_iload_n hx hb dX7_bound_83 rfl (lv_at hl 4 rfl) ?_
        refine r_iast hx hb hK hM.2.1 (9 + t) (nI_add 9 t) (by omega) (Nat.le_of_ble_eq_true rfl) hS (show _ ∧ _ from ⟨by omega, by omega⟩) dX7_bound_84 (fun H locs h1 o hS => ?_)
        have hM := hM.a0 h1 o
        rw [updM_2, updM_eq, e0] at hM
        refine lv_aload_n hx hb dX7_bound_85 rfl (lv_at hl 1 rfl) ?_
        refine lv_iload hx hb dX7_bound_86 (lv_at hl 0 rfl) ?_
        rw [e0]
        refine got_I (run_i hx hb hml hown hT hK hl.1 (k_X7_record l G w (updM M1 0 (upd (upd (M 0) (6 + t) lo) (9 + t) hi)) s0 (100 * M 0 (6 + t) + M 0 (9 + t)) e5 hs6) (cw_X7_58 hT ⟨Nat.le_of_ble_eq_true rfl, Nat.le_of_ble_eq_true rfl⟩) hM.1 rfl hM rfl rfl (Nat.le_of_ble_eq_true rfl) dX7_bound_88 ⟨Nat.zero_le _, Nat.zero_le _⟩) hS (fun q hq => hq) (fun q hq => hq) (fun v_4 H locs h1 hz hk hS => ?_)
        obtain ⟨hv9, hM⟩ := h1
        rw [hv9]
        exact nd_I hQ hx hb hr hlocks dX7_bound_91 hS (by rw [bnO_3 ht hx3 hr2]; exact ⟨rfl, _, pub_rec (M := M) (M2 := updM M1 0 (upd (upd (M 0) (6 + t) lo) (9 + t) hi)) (op := (100 * M 0 (6 + t) + M 0 (9 + t), (upd (upd (M 0) (6 + t) lo) (9 + t) hi))) rfl e1 e2 e3 e4 e5 e6 e7, hM⟩)
      · refine lv_bipush (v := (-2)) hx hb dX7_bound_34 (by decide) ?_
        exact nd_I hQ hx hb hr hlocks dX7_bound_36 hS (by rw [bnO_2 hx3 (fun q => bi_e0 c4 q.2)]; exact ⟨rfl, M, pub_er (by decide) hs, hM⟩)
  · have hbad : ¬ (0 ≤ x ∧ x < 3) := by
      intro q
      refine bi_e0 c1 ⟨q.1, ?_⟩
      have h8 := q.2
      rw [i32_lt_iff] at h8
      rw [i32_le_iff]
      have e2 : (2 : Int32).toInt = 2 := rfl
      have e3 : (3 : Int32).toInt = 3 := rfl
      omega
    refine lv_iconst (v := (-1)) hx hb dX7_bound_10 (by decide) ?_
    exact nd_I hQ hx hb hr hlocks dX7_bound_11 hS (by rw [bnO_1 hbad]; exact ⟨rfl, M, pub_er (by decide) hs, hM⟩)

set_option maxHeartbeats 4000000 in
set_option maxRecDepth 100000 in
theorem k_X7_buy (l : Launch) (G : GG) (w : Nat) (M : Nat → Nat → Int32) (s0 : Nat) (x g : Int32) (hw : WF (M 0)) (hs : M 5 0 = nI s0) (hs6 : s0 ≤ 6) (hst : ∀ i, i < 5 → 0 ≤ (M 0 (12 + 14 * i + 11)).toInt ∧ (M 0 (12 + 14 * i + 11)).toInt ≤ 9999) : Met l yX7_buy (ws_ yX7_buy cX7_buy 4 (some .int)) (rm_ 2) (PC G [.ref w, .int x, .int g] (MdAt G w M)) (QI (fun v H => v = (bgO (M 0) x g).1 ∧ ∃ M2, PubS M M2 (bgO (M 0) x g) s0 ∧ MdAt G w M2 H) (In w 13)) 0 0 (In w 13) := by
  refine met_q (by decide +kernel) (Nat.le_of_ble_eq_true rfl) ?_
  intro p e s m args below meth c Q hQ hx hb hr hT hown hml hlocks hnm hK hM ls hl
  have hl : lv_has ls 4 [(0, .ref w), (1, .int x), (2, .int g)] := hl
  have hS : va_S (In w 13) s.heap s.heap [] := va_S.rf
  have hn5 := hw.nl5
  refine lv_aload_n hx hb dX7_buy_0 rfl (lv_at hl 0 rfl) ?_
  refine lv_iload_n hx hb dX7_buy_1 rfl (lv_at hl 1 rfl) ?_
  refine got_i (run_i hx hb hml hown hT hK hl.1 (k_X7_isLeaf l G w M x hw) (cw_X7_101 hT ⟨Nat.le_of_ble_eq_true rfl, Nat.le_of_ble_eq_true rfl⟩) hM.1 rfl hM rfl rfl (Nat.le_of_ble_eq_true rfl) dX7_buy_2 ⟨Nat.zero_le _, Nat.zero_le _⟩) (fun v_1 hv_1 => ?_)
  subst hv_1
  refine lv_if_ne (tgt := 10) hx hb dX7_buy_5 (by decide) (fun c1 => ?_) (fun c1 => ?_)
  · have hl1 : lfP (M 0) x := bi_n0 c1
    refine lv_iload_n hx hb dX7_buy_10 rfl (lv_at hl 2 rfl) ?_
    refine lv_i2l hx hb dX7_buy_11 rfl ?_
    refine lv_iconst (v := 1) hx hb dX7_buy_12 (by decide) ?_
    refine lv_sipush (v := 9999) hx hb dX7_buy_13 (by decide) ?_
    refine got_i (run_s hx hb hml hown hT hK hl.1 (k_X7_in l G g 1 9999) (cw_X7_47 hT ⟨Nat.le_of_ble_eq_true rfl, Nat.le_of_ble_eq_true rfl⟩) trivial rfl rfl (Nat.le_of_ble_eq_true rfl) dX7_buy_16 ⟨Nat.zero_le _, Nat.zero_le _⟩) (fun v_2 hv_2 => ?_)
    subst hv_2
    refine lv_if_ne (tgt := 25) hx hb dX7_buy_19 (by decide) (fun c2 => ?_) (fun c2 => ?_)
    · have hg := bi_n0 c2
      obtain ⟨i, hi, rfl⟩ := lf_ix hw hl1
      have hpos := pos_of_buy (hst i (by omega)) hg
      refine lv_aload_n hx hb dX7_buy_25 rfl (lv_at hl 0 rfl) ?_
      refine lv_iload_n hx hb dX7_buy_26 rfl (lv_at hl 1 rfl) ?_
      refine lv_bipush (v := 11) hx hb dX7_buy_27 (by decide) ?_
      refine got_i (run_i hx hb hml hown hT hK hl.1 (k_X7_its l G w M i 11 (by omega)) (cw_X7_62 hT ⟨Nat.le_of_ble_eq_true rfl, Nat.le_of_ble_eq_true rfl⟩) hM.1 rfl hM rfl rfl (Nat.le_of_ble_eq_true rfl) dX7_buy_29 ⟨Nat.zero_le _, Nat.zero_le _⟩) (fun v_3 hv_3 => ?_)
      subst hv_3
      refine lv_iload_n hx hb dX7_buy_32 rfl (lv_at hl 2 rfl) ?_
      refine lv_iadd hx hb dX7_buy_33 ?_
      refine lv_istore_n (lv' := [(3, .int ((M 0 (12 + 14 * i + 11)) + g)), (0, .ref w), (1, .int (nI i)), (2, .int g)]) hx hb dX7_buy_34 rfl hl (by decide) rfl (fun ls hl => ?_)
      refine lv_iload_n hx hb dX7_buy_35 rfl (lv_at hl 0 rfl) ?_
      refine lv_sipush (v := 9999) hx hb dX7_buy_36 (by decide) ?_
      refine lv_icmp_le (tgt := 45) hx hb dX7_buy_39 (by decide) (fun c3 => ?_) (fun c3 => ?_)
      · refine lv_aload_n hx hb dX7_buy_45 rfl (lv_at hl 1 rfl) ?_
        refine got_V (run_i hx hb hml hown hT hK hl.1 (k_X7_remember l G w M) (cw_X7_55 hT ⟨Nat.le_of_ble_eq_true rfl, Nat.le_of_ble_eq_true rfl⟩) hM.1 rfl hM rfl rfl (Nat.le_of_ble_eq_true rfl) dX7_buy_46 ⟨Nat.zero_le _, Nat.zero_le _⟩) hS (fun q hq => hq) (fun q hq => hq) (fun  H locs h1 hz hk hS => ?_)
        have hM := h1
        obtain ⟨M1, eM1⟩ : ∃ z, z = updM M 2 (M 0) := ⟨_, rfl⟩
        rw [← eM1] at hM
        have e0 : M1 0 = M 0 := by rw [eM1]; rfl
        have e1 : M1 1 = M 1 := by rw [eM1]; rfl
        have e2 : M1 2 = M 0 := by rw [eM1]; rfl
        have e3 : M1 3 = M 3 := by rw [eM1]; rfl
        have e4 : M1 4 = M 4 := by rw [eM1]; rfl
        have e5 : M1 5 0 = nI s0 := by rw [eM1]; exact hs
        have e6 : M1 6 = M 6 := by rw [eM1]; rfl
        have e7 : M1 7 0 = M 7 0 := by rw [eM1]; rfl
        refine lv_aload_n hx hb dX7_buy_49 rfl (lv_at hl 1 rfl) ?_
        refine lv_iload_n hx hb dX7_buy_50 rfl (lv_at hl 2 rfl) ?_
        refine lv_bipush (v := 12) hx hb dX7_buy_51 (by decide) ?_
        refine lv_aload_n hx hb dX7_buy_53 rfl (lv_at hl 1 rfl) ?_
        refine lv_iload_n hx hb dX7_buy_54 rfl (lv_at hl 2 rfl) ?_
        refine lv_bipush (v := 11) hx hb dX7_buy_55 (by decide) ?_
        refine got_i (run_i hx hb hml hown hT hK hl.1 (k_X7_its l G w M1 i 11 (by omega)) (cw_X7_62 hT ⟨Nat.le_of_ble_eq_true rfl, Nat.le_of_ble_eq_true rfl⟩) hM.1 rfl hM rfl rfl (Nat.le_of_ble_eq_true rfl) dX7_buy_57 ⟨Nat.zero_le _, Nat.zero_le _⟩) (fun v_4 hv_4 => ?_)
        subst hv_4
        rw [e0]
        refine lv_aload_n hx hb dX7_buy_60 rfl (lv_at hl 1 rfl) ?_
        refine lv_iload_n hx hb dX7_buy_61 rfl (lv_at hl 2 rfl) ?_
        refine lv_bipush (v := 12) hx hb dX7_buy_62 (by decide) ?_
        refine got_i (run_i hx hb hml hown hT hK hl.1 (k_X7_its l G w M1 i 12 (by omega)) (cw_X7_62 hT ⟨Nat.le_of_ble_eq_true rfl, Nat.le_of_ble_eq_true rfl⟩) hM.1 rfl hM rfl rfl (Nat.le_of_ble_eq_true rfl) dX7_buy_64 ⟨Nat.zero_le _, Nat.zero_le _⟩) (fun v_5 hv_5 => ?_)
        subst hv_5
        rw [e0]
        refine lv_imul hx hb dX7_buy_67 ?_
        refine lv_iload_n hx hb dX7_buy_68 rfl (lv_at hl 0 rfl) ?_
        refine lv_idiv hx hb dX7_buy_69 (hpos.2) ?_
        refine got_V (run_i hx hb hml hown hT hK hl.1 (k_X7_lay l G w M1 i 12 _ (by omega)) (cw_X7_97 hT ⟨Nat.le_of_ble_eq_true rfl, Nat.le_of_ble_eq_true rfl⟩) hM.1 rfl hM rfl rfl (Nat.le_of_ble_eq_true rfl) dX7_buy_70 ⟨Nat.zero_le _, Nat.zero_le _⟩) hS (fun q hq => hq) (fun q hq => hq) (fun  H locs h1 hz hk hS => ?_)
        have hM := h1
        rw [e0] at hM
        refine lv_aload_n hx hb dX7_buy_73 rfl (lv_at hl 1 rfl) ?_
        refine lv_iload_n hx hb dX7_buy_74 rfl (lv_at hl 2 rfl) ?_
        refine lv_bipush (v := 11) hx hb dX7_buy_75 (by decide) ?_
        refine lv_iload_n hx hb dX7_buy_77 rfl (lv_at hl 0 rfl) ?_
        refine got_V (run_i hx hb hml hown hT hK hl.1 (k_X7_lay l G w (updM M1 0 (upd (M 0) (12 + 14 * i + 12) (M 0 (12 + 14 * i + 11) * M 0 (12 + 14 * i + 12) / (M 0 (12 + 14 * i + 11) + g)))) i 11 (M 0 (12 + 14 * i + 11) + g) (by omega)) (cw_X7_97 hT ⟨Nat.le_of_ble_eq_true rfl, Nat.le_of_ble_eq_true rfl⟩) hM.1 rfl hM rfl rfl (Nat.le_of_ble_eq_true rfl) dX7_buy_78 ⟨Nat.zero_le _, Nat.zero_le _⟩) hS (fun q hq => hq) (fun q hq => hq) (fun  H locs h1 hz hk hS => ?_)
        have hM := h1
        rw [updM_2, updM_eq] at hM
        refine lv_aload_n hx hb dX7_buy_81 rfl (lv_at hl 1 rfl) ?_
        refine lv_iload_n hx hb dX7_buy_82 rfl (lv_at hl 0 rfl) ?_
        refine got_I (run_i hx hb hml hown hT hK hl.1 (k_X7_record l G w (updM M1 0 (upd (upd (M 0) (12 + 14 * i + 12) (M 0 (12 + 14 * i + 11) * M 0 (12 + 14 * i + 12) / (M 0 (12 + 14 * i + 11) + g))) (12 + 14 * i + 11) (M 0 (12 + 14 * i + 11) + g))) s0 (M 0 (12 + 14 * i + 11) + g) e5 hs6) (cw_X7_58 hT ⟨Nat.le_of_ble_eq_true rfl, Nat.le_of_ble_eq_true rfl⟩) hM.1 rfl hM rfl rfl (Nat.le_of_ble_eq_true rfl) dX7_buy_83 ⟨Nat.zero_le _, Nat.zero_le _⟩) hS (fun q hq => hq) (fun q hq => hq) (fun v_6 H locs h1 hz hk hS => ?_)
        obtain ⟨hv9, hM⟩ := h1
        rw [hv9]
        exact nd_I hQ hx hb hr hlocks dX7_buy_86 hS (by rw [bgO_4 (by omega) hl1 hg (i32_le_nlt c3), if_pos hpos.1]; exact ⟨rfl, _, pub_rec (M := M) (M2 := updM M1 0 (upd (upd (M 0) (12 + 14 * i + 12) (M 0 (12 + 14 * i + 11) * M 0 (12 + 14 * i + 12) / (M 0 (12 + 14 * i + 11) + g))) (12 + 14 * i + 11) (M 0 (12 + 14 * i + 11) + g))) (op := (M 0 (12 + 14 * i + 11) + g, (upd (upd (M 0) (12 + 14 * i + 12) (M 0 (12 + 14 * i + 11) * M 0 (12 + 14 * i + 12) / (M 0 (12 + 14 * i + 11) + g))) (12 + 14 * i + 11) (M 0 (12 + 14 * i + 11) + g)))) rfl e1 e2 e3 e4 e5 e6 e7, hM⟩)
      · refine lv_bipush (v := (-5)) hx hb dX7_buy_42 (by decide) ?_
        exact nd_I hQ hx hb hr hlocks dX7_buy_44 hS (by rw [bgO_3 (by omega) hl1 hg (i32_nle c3)]; exact ⟨rfl, M, pub_er (by decide) hs, hM⟩)
    · refine lv_bipush (v := (-2)) hx hb dX7_buy_22 (by decide) ?_
      exact nd_I hQ hx hb hr hlocks dX7_buy_24 hS (by rw [bgO_2 hl1 (bi_e0 c2)]; exact ⟨rfl, M, pub_er (by decide) hs, hM⟩)
  · refine lv_iconst (v := (-1)) hx hb dX7_buy_8 (by decide) ?_
    exact nd_I hQ hx hb hr hlocks dX7_buy_9 hS (by rw [bgO_1 (bi_e0 c1)]; exact ⟨rfl, M, pub_er (by decide) hs, hM⟩)

set_option maxHeartbeats 4000000 in
set_option maxRecDepth 100000 in
theorem k_X7_row (l : Launch) (G : GG) (w : Nat) (M : Nat → Nat → Int32) (s0 : Nat) (x : Int32) (y : Int64) (hw : WF (M 0)) (hs : M 5 0 = nI s0) (hs6 : s0 ≤ 6)  : Met l yX7_row (ws_ yX7_row cX7_row 5 (some .int)) (rm_ 2) (PC G [.ref w, .int x, .long y] (MdAt G w M)) (QI (fun v H => v = (rwO (M 0) x y).1 ∧ ∃ M2, PubS M M2 (rwO (M 0) x y) s0 ∧ MdAt G w M2 H) (In w 13)) 0 0 (In w 13) := by
  refine met_q (by decide +kernel) (Nat.le_of_ble_eq_true rfl) ?_
  intro p e s m args below meth c Q hQ hx hb hr hT hown hml hlocks hnm hK hM ls hl
  have hl : lv_has ls 5 [(0, .ref w), (1, .int x), (2, .long y)] := hl
  have hS : va_S (In w 13) s.heap s.heap [] := va_S.rf
  have hn5 := hw.nl5
  refine lv_aload_n hx hb dX7_row_0 rfl (lv_at hl 0 rfl) ?_
  refine lv_iload_n hx hb dX7_row_1 rfl (lv_at hl 1 rfl) ?_
  refine got_i (run_i hx hb hml hown hT hK hl.1 (k_X7_isLeaf l G w M x hw) (cw_X7_101 hT ⟨Nat.le_of_ble_eq_true rfl, Nat.le_of_ble_eq_true rfl⟩) hM.1 rfl hM rfl rfl (Nat.le_of_ble_eq_true rfl) dX7_row_2 ⟨Nat.zero_le _, Nat.zero_le _⟩) (fun v_1 hv_1 => ?_)
  subst hv_1
  refine lv_if_ne (tgt := 10) hx hb dX7_row_5 (by decide) (fun c1 => ?_) (fun c1 => ?_)
  · have hl1 : lfP (M 0) x := bi_n0 c1
    obtain ⟨i, hi, rfl⟩ := lf_ix hw hl1
    refine lv_iconst (v := 0) hx hb dX7_row_10 (by decide) ?_
    refine lv_istore (lv' := [(4, .int 0), (0, .ref w), (1, .int (nI i)), (2, .long y)]) hx hb dX7_row_11 hl (by decide) rfl (fun ls hl => ?_)
    have loop : ∀ (k : Nat) (t : Nat), t ≤ 7 → (∀ j, j < t → -9 ≤ chF y j ∧ chF y j ≤ 9) → 7 - t < k → ∀ ls : Array Slot, lv_has ls 5 [(4, .int (nI t)), (0, .ref w), (1, .int (nI i)), (2, .long y)] → W p l e (rm_ 2) s m args below meth c s.heap [] 0 0 Q (F0 m 13 ls []) := by
      intro k
      induction k with
      | zero => intro t ht hb4 hm; exact absurd hm (Nat.not_lt_zero _)
      | succ k ih =>
        intro t ht hb4 hm ls hl
        refine lv_iload hx hb dX7_row_13 (lv_at hl 0 rfl) ?_
        refine lv_bipush (v := 7) hx hb dX7_row_15 (by decide) ?_
        refine lv_icmp_ge (tgt := 46) hx hb dX7_row_17 (by decide) (fun cd => ?_) (fun cd => ?_)
        · have e_t : t = 7 := by
            have h9 : nI 7 ≤ nI t := cd
            rw [nI_leI (by omega) (by omega)] at h9
            omega
          subst e_t
          refine lv_aload_n hx hb dX7_row_46 rfl (lv_at hl 1 rfl) ?_
          refine got_V (run_i hx hb hml hown hT hK hl.1 (k_X7_remember l G w M) (cw_X7_55 hT ⟨Nat.le_of_ble_eq_true rfl, Nat.le_of_ble_eq_true rfl⟩) hM.1 rfl hM rfl rfl (Nat.le_of_ble_eq_true rfl) dX7_row_47 ⟨Nat.zero_le _, Nat.zero_le _⟩) hS (fun q hq => hq) (fun q hq => hq) (fun  H locs h1 hz hk hS => ?_)
          have hM := h1
          obtain ⟨M1, eM1⟩ : ∃ z, z = updM M 2 (M 0) := ⟨_, rfl⟩
          rw [← eM1] at hM
          have e0 : M1 0 = M 0 := by rw [eM1]; rfl
          have e1 : M1 1 = M 1 := by rw [eM1]; rfl
          have e2 : M1 2 = M 0 := by rw [eM1]; rfl
          have e3 : M1 3 = M 3 := by rw [eM1]; rfl
          have e4 : M1 4 = M 4 := by rw [eM1]; rfl
          have e5 : M1 5 0 = nI s0 := by rw [eM1]; exact hs
          have e6 : M1 6 = M 6 := by rw [eM1]; rfl
          have e7 : M1 7 0 = M 7 0 := by rw [eM1]; rfl
          refine lv_iconst (v := 0) hx hb dX7_row_50 (by decide) ?_
          refine lv_istore (lv' := [(4, .int 0), (0, .ref w), (1, .int (nI i)), (2, .long y)]) hx hb dX7_row_51 hl (by decide) rfl (fun ls hl => ?_)
          have loop2 : ∀ (k : Nat) (u : Nat) (H : Heap) (locs : List Loc), va_S (In w 13) s.heap H locs → u ≤ 7 → MdAt G w (updM M1 0 (chR (M 0) i y u)) H → 7 - u < k → ∀ ls : Array Slot, lv_has ls 5 [(4, .int (nI u)), (0, .ref w), (1, .int (nI i)), (2, .long y)] → W p l e (rm_ 2) s m args below meth c H locs 0 0 Q (F0 m 53 ls []) := by
            intro k
            induction k with
            | zero => intro u H locs hS hu hM hm; exact absurd hm (Nat.not_lt_zero _)
            | succ k ih =>
              intro u H locs hS hu hM hm ls hl
              refine lv_iload hx hb dX7_row_53 (lv_at hl 0 rfl) ?_
              refine lv_bipush (v := 7) hx hb dX7_row_55 (by decide) ?_
              refine lv_icmp_ge (tgt := 89) hx hb dX7_row_57 (by decide) (fun cd => ?_) (fun cd => ?_)
              · have e_u : u = 7 := by
                  have h9 : nI 7 ≤ nI u := cd
                  rw [nI_leI (by omega) (by omega)] at h9
                  omega
                subst e_u
                refine lv_aload_n hx hb dX7_row_89 rfl (lv_at hl 1 rfl) ?_
                refine lv_aload_n hx hb dX7_row_90 rfl (lv_at hl 1 rfl) ?_
                refine lv_iload_n hx hb dX7_row_91 rfl (lv_at hl 2 rfl) ?_
                refine got_i (run_i hx hb hml hown hT hK hl.1 (k_X7_priceOf l G w (updM M1 0 (chR (M 0) i y 7)) i (chR_wf hw) (by omega)) (cw_X7_66 hT ⟨Nat.le_of_ble_eq_true rfl, Nat.le_of_ble_eq_true rfl⟩) hM.1 rfl hM rfl rfl (Nat.le_of_ble_eq_true rfl) dX7_row_92 ⟨Nat.zero_le _, Nat.zero_le _⟩) (fun v_2 hv_2 => ?_)
                subst hv_2
                refine got_I (run_i hx hb hml hown hT hK hl.1 (k_X7_record l G w (updM M1 0 (chR (M 0) i y 7)) s0 (prF (chR (M 0) i y 7) i) e5 hs6) (cw_X7_58 hT ⟨Nat.le_of_ble_eq_true rfl, Nat.le_of_ble_eq_true rfl⟩) hM.1 rfl hM rfl rfl (Nat.le_of_ble_eq_true rfl) dX7_row_95 ⟨Nat.zero_le _, Nat.zero_le _⟩) hS (fun q hq => hq) (fun q hq => hq) (fun v_3 H locs h1 hz hk hS => ?_)
                obtain ⟨hv9, hM⟩ := h1
                rw [hv9]
                exact nd_I hQ hx hb hr hlocks dX7_row_98 hS (by rw [rwO_3 (by omega) hl1 hb4]; exact ⟨rfl, _, pub_rec (M := M) (M2 := updM M1 0 (chR (M 0) i y 7)) (op := (prF (chR (M 0) i y 7) i, (chR (M 0) i y 7))) rfl e1 e2 e3 e4 e5 e6 e7, hM⟩)
              · have h_u : u < 7 := by
                  have h9 : ¬ nI 7 ≤ nI u := cd
                  rw [nI_leI (by omega) (by omega)] at h9
                  omega
                refine lv_aload_n hx hb dX7_row_60 rfl (lv_at hl 1 rfl) ?_
                refine lv_iload_n hx hb dX7_row_61 rfl (lv_at hl 2 rfl) ?_
                refine lv_iconst (v := 1) hx hb dX7_row_62 (by decide) ?_
                refine lv_iload hx hb dX7_row_63 (lv_at hl 0 rfl) ?_
                refine lv_iadd hx hb dX7_row_65 ?_
                refine lv_lload_n hx hb dX7_row_66 rfl (lv_at hl 3 rfl) ?_
                refine lv_iconst (v := 5) hx hb dX7_row_67 (by decide) ?_
                refine lv_iload hx hb dX7_row_68 (lv_at hl 0 rfl) ?_
                refine lv_imul hx hb dX7_row_70 ?_
                refine lv_lshr hx hb dX7_row_71 rfl ?_
                refine lv_ldc2 hx hb hown (hT _ mk_X7_120) dX7_row_72 ?_
                refine lv_land hx hb dX7_row_75 ?_
                refine lv_l2i hx hb dX7_row_76 rfl ?_
                refine lv_bipush (v := 9) hx hb dX7_row_77 (by decide) ?_
                refine lv_isub hx hb dX7_row_79 ?_
                rw [show (1 : Int32) + nI u = nI (1 + u) from nI_add 1 u]
                refine got_V (run_i hx hb hml hown hT hK hl.1 (k_X7_lay l G w (updM M1 0 (chR (M 0) i y u)) i (1 + u) (chF y u) (by omega)) (cw_X7_97 hT ⟨Nat.le_of_ble_eq_true rfl, Nat.le_of_ble_eq_true rfl⟩) hM.1 rfl hM rfl rfl (Nat.le_of_ble_eq_true rfl) dX7_row_80 ⟨Nat.zero_le _, Nat.zero_le _⟩) hS (fun q hq => hq) (fun q hq => hq) (fun  H locs h1 hz hk hS => ?_)
                have hM := h1
                rw [updM_2, updM_eq, chR_s] at hM
                refine lv_iinc (v := nI (u + 1)) (lv' := [(4, .int (nI (u + 1))), (0, .ref w), (1, .int (nI i)), (2, .long y)]) hx hb dX7_row_83 hl (k := 0) rfl (nI_1 u) (by decide) rfl (fun ls hl => ?_)
                refine lv_goto (tgt := 53) hx hb dX7_row_86 (by decide) ?_
                exact ih (u + 1) _ _ hS (by omega) hM (by omega) ls (lv_sub hl [0, 1, 2, 3] rfl)
          exact loop2 8 0 _ _ hS (by omega) (by rw [chR_0, ← e0, updM_self rfl]; exact hM) (by omega) ls (lv_sub hl [0, 1, 2, 3] rfl)
        · have h_t : t < 7 := by
            have h9 : ¬ nI 7 ≤ nI t := cd
            rw [nI_leI (by omega) (by omega)] at h9
            omega
          refine lv_lload_n hx hb dX7_row_20 rfl (lv_at hl 3 rfl) ?_
          refine lv_iconst (v := 5) hx hb dX7_row_21 (by decide) ?_
          refine lv_iload hx hb dX7_row_22 (lv_at hl 0 rfl) ?_
          refine lv_imul hx hb dX7_row_24 ?_
          refine lv_lshr hx hb dX7_row_25 rfl ?_
          refine lv_ldc2 hx hb hown (hT _ mk_X7_120) dX7_row_26 ?_
          refine lv_land hx hb dX7_row_29 ?_
          refine lv_ldc2 hx hb hown (hT _ mk_X7_122) dX7_row_30 ?_
          refine W.lcmp hx hb dX7_row_33 ?_
          refine lv_if_le (tgt := 40) hx hb dX7_row_34 (by decide) (fun cw => ?_) (fun cw => ?_)
          · refine lv_iinc (v := nI (t + 1)) (lv' := [(4, .int (nI (t + 1))), (0, .ref w), (1, .int (nI i)), (2, .long y)]) hx hb dX7_row_40 hl (k := 0) rfl (nI_1 t) (by decide) rfl (fun ls hl => ?_)
            refine lv_goto (tgt := 13) hx hb dX7_row_43 (by decide) ?_
            exact ih (t + 1) (by omega) (lt_s hb4 (ch_iff.mpr (fun q => i32_le_nlt cw (lgl_gt.mpr q)))) (by omega) ls (lv_sub hl [0, 1, 2, 3] rfl)
          · refine lv_bipush (v := (-2)) hx hb dX7_row_37 (by decide) ?_
            exact nd_I hQ hx hb hr hlocks dX7_row_39 hS (by rw [rwO_2 hl1 (fun q => (ch_iff.mp (q t h_t)) (lgl_gt.mp (i32_nle cw)))]; exact ⟨rfl, M, pub_er (by decide) hs, hM⟩)
    exact loop 8 0 (by omega) (fun j hj => absurd hj (Nat.not_lt_zero _)) (by omega) ls (lv_sub hl [0, 1, 2, 3] rfl)
  · refine lv_iconst (v := (-1)) hx hb dX7_row_8 (by decide) ?_
    exact nd_I hQ hx hb hr hlocks dX7_row_9 hS (by rw [rwO_1 (bi_e0 c1)]; exact ⟨rfl, M, pub_er (by decide) hs, hM⟩)
