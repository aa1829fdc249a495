set_option maxHeartbeats 4000000 in
set_option maxRecDepth 100000 in
theorem k_X6_leaf (l : Launch) (G : GG) (z nx kp : Nat) (r : Nat → Int32) (T : Nat → Nat → Int32) (x t st : Int32) (hnx : nx < 7) (hkp : kp ≤ 6) (hw : WF r) : Met l yX6_leaf (ws_ yX6_leaf cX6_leaf 4 (some .int)) (rm_ 8) (PC G [.ref z, .int x, .int t, .int st] (T3 G z r T nx kp)) (QI (fun v H => v = (adO r x (tst t 0) (tst t 1) (tst t 2) st).1 ∧ T3c G z r T nx kp (adO r x (tst t 0) (tst t 1) (tst t 2) st) H) (In z 163)) 0 0 (In z 163) := by
  refine met_q (by decide +kernel) (Nat.le_of_ble_eq_true rfl) ?_
  intro p e s m args below meth c Q hQ hx hb hr hT hown hml hlocks hnm hK hZ ls hl
  have hl : lv_has ls 4 [(0, .ref z), (1, .int x), (2, .int t), (3, .int st)] := hl
  have hS : va_S (In z 163) s.heap s.heap [] := va_S.rf
  refine lv_aload_n hx hb dX6_leaf_0 rfl (lv_at hl 0 rfl) ?_
  refine rg (C := RX6) (T := TX6) (N := 6) (v := .ref (z + 21)) hx hb hT inX6 hown hK hZ.1 rfl 1 (by decide) mf_X6_19 rfl dX6_leaf_1 ?_
  refine lv_aload_n hx hb dX6_leaf_4 rfl (lv_at hl 0 rfl) ?_
  refine rg (C := RX6) (T := TX6) (N := 6) (v := .ref (z + 1)) hx hb hT inX6 hown hK hZ.1 rfl 0 (by decide) mf_X6_10 rfl dX6_leaf_5 ?_
  refine got_V (run_i hx hb hml hown hT hK hl.1 (k_X0_draft l G (z + 21) (z + 1) nx kp T r hnx (by omega)) (cw_X6_50 hT ⟨Nat.le_of_ble_eq_true rfl, Nat.le_of_ble_eq_true rfl⟩) hZ.2.2.1 rfl ⟨hZ.2.2, hZ.2.1⟩ rfl rfl (Nat.le_of_ble_eq_true rfl) dX6_leaf_8 ⟨Nat.zero_le _, Nat.zero_le _⟩) hS (fun q (hq : _ ∧ _) => show _ ∧ _ from ⟨by omega, by omega⟩) (fun q (hq : _ ∧ _) => show _ ∧ _ from ⟨by omega, by omega⟩) (fun  H locs h1 hz hk hS => ?_)
  have ht1 := hZ.2.1.top
  have ht2 := hZ.2.2.top
  have hZ : T3 G z r (updT T nx r) nx kp H := ⟨hZ.1.kept (hk z (by omega) (fun (q : _ ∧ _) => by omega)), hZ.2.1.kept (fun q _ _ => hk q (by omega) (fun (w : _ ∧ _) => by omega)), h1⟩
  refine lv_aload_n hx hb dX6_leaf_11 rfl (lv_at hl 0 rfl) ?_
  refine rg (C := RX6) (T := TX6) (N := 6) (v := .ref (z + 21)) hx hb hT inX6 hown hK hZ.1 rfl 1 (by decide) mf_X6_19 rfl dX6_leaf_12 ?_
  refine lv_aload_n hx hb dX6_leaf_15 rfl (lv_at hl 0 rfl) ?_
  refine rg (C := RX6) (T := TX6) (N := 6) (v := .ref (z + 1)) hx hb hT inX6 hown hK hZ.1 rfl 0 (by decide) mf_X6_10 rfl dX6_leaf_16 ?_
  refine lv_iload_n hx hb dX6_leaf_19 rfl (lv_at hl 1 rfl) ?_
  refine lv_iload_n hx hb dX6_leaf_20 rfl (lv_at hl 2 rfl) ?_
  refine lv_bipush (v := 127) hx hb dX6_leaf_21 (by decide) ?_
  refine lv_iand hx hb dX6_leaf_23 ?_
  refine lv_iload_n hx hb dX6_leaf_24 rfl (lv_at hl 2 rfl) ?_
  refine lv_bipush (v := 7) hx hb dX6_leaf_25 (by decide) ?_
  refine lv_ishr hx hb dX6_leaf_27 ?_
  refine lv_bipush (v := 127) hx hb dX6_leaf_28 (by decide) ?_
  refine lv_iand hx hb dX6_leaf_30 ?_
  refine lv_iload_n hx hb dX6_leaf_31 rfl (lv_at hl 2 rfl) ?_
  refine lv_bipush (v := 14) hx hb dX6_leaf_32 (by decide) ?_
  refine lv_ishr hx hb dX6_leaf_34 ?_
  refine lv_bipush (v := 127) hx hb dX6_leaf_35 (by decide) ?_
  refine lv_iand hx hb dX6_leaf_37 ?_
  refine lv_iload_n hx hb dX6_leaf_38 rfl (lv_at hl 3 rfl) ?_
  refine got_I (run_i hx hb hml hown hT hK hl.1 (k_X5_addLeaf l G (z + 1) r x (tst t 0) (tst t 1) (tst t 2) st hw) (cw_X6_62 hT ⟨Nat.le_of_ble_eq_true rfl, Nat.le_of_ble_eq_true rfl⟩) hZ.2.1.1 rfl hZ.2.1 rfl rfl (Nat.le_of_ble_eq_true rfl) dX6_leaf_39 ⟨Nat.zero_le _, Nat.zero_le _⟩) hS (fun q (hq : _ ∧ _) => show _ ∧ _ from ⟨by omega, by omega⟩) (fun q (hq : _ ∧ _) => show _ ∧ _ from ⟨by omega, by omega⟩) (fun v_1 H locs h1 hz hk hS => ?_)
  obtain ⟨hv, hSn⟩ := h1
  have ht1 := hZ.2.1.top
  have ht2 := hZ.2.2.top
  have hZ : T3 G z (adO r x (tst t 0) (tst t 1) (tst t 2) st).2 (updT T nx r) nx kp H := ⟨hZ.1.kept (hk z (by omega) (fun (q : _ ∧ _) => by omega)), hSn, hZ.2.2.kept (fun q _ _ => hk q (by omega) (fun (w : _ ∧ _) => by omega))⟩
  subst hv
  refine got_I (run_i hx hb hml hown hT hK hl.1 (k_X0_settle l G (z + 21) nx kp (updT T nx r) (adO r x (tst t 0) (tst t 1) (tst t 2) st).1 hnx hkp) (cw_X6_58 hT ⟨Nat.le_of_ble_eq_true rfl, Nat.le_of_ble_eq_true rfl⟩) hZ.2.2.1 rfl hZ.2.2 rfl rfl (Nat.le_of_ble_eq_true rfl) dX6_leaf_42 ⟨Nat.zero_le _, Nat.zero_le _⟩) hS (fun q (hq : _ ∧ _) => show _ ∧ _ from ⟨by omega, by omega⟩) (fun q (hq : _ ∧ _) => show _ ∧ _ from ⟨by omega, by omega⟩) (fun v_2 H locs h1 hz hk hS => ?_)
  obtain ⟨hv2, hHn⟩ := h1
  have ht1 := hZ.2.1.top
  have ht2 := hZ.2.2.top
  have hZ : T3c G z r T nx kp (adO r x (tst t 0) (tst t 1) (tst t 2) st) H := ⟨hZ.1.kept (hk z (by omega) (fun (q : _ ∧ _) => by omega)), hZ.2.1.kept (fun q _ _ => hk q (by omega) (fun (w : _ ∧ _) => by omega)), hHn⟩
  exact nd_I hQ hx hb hr hlocks dX6_leaf_45 hS (⟨hv2, hZ⟩)

set_option maxHeartbeats 4000000 in
set_option maxRecDepth 100000 in
theorem k_X6_why (l : Launch) (G : GG) (z : Nat) (r : Nat → Int32)  (hw : WF r) : Met l yX6_why (ws_ yX6_why cX6_why 1 (some .int)) (rm_ 4) (PC G [.ref z] (fun H => Te G z H ∧ ShopAt G (z + 1) r H)) (vp_Si (fun v => v = whyF r 0)) 0 0 NoA := by
  refine met_q (by decide +kernel) (Nat.le_of_ble_eq_true rfl) ?_
  intro p e s m args below meth c Q hQ hx hb hr hT hown hml hlocks hnm hK hZ ls hl
  have hl : lv_has ls 1 [(0, .ref z)] := hl
  refine lv_aload_n hx hb dX6_why_0 rfl (lv_at hl 0 rfl) ?_
  refine rg (C := RX6) (T := TX6) (N := 6) (v := .ref (z + 1)) hx hb hT inX6 hown hK hZ.1 rfl 0 (by decide) mf_X6_10 rfl dX6_why_1 ?_
  refine lv_iconst (v := 0) hx hb dX6_why_4 (by decide) ?_
  refine got_i (run_i hx hb hml hown hT hK hl.1 (k_X5_whyBroken l G (z + 1) r 0 hw) (cw_X6_140 hT ⟨Nat.le_of_ble_eq_true rfl, Nat.le_of_ble_eq_true rfl⟩) hZ.2.1 rfl hZ.2 rfl rfl (Nat.le_of_ble_eq_true rfl) dX6_why_5 ⟨Nat.zero_le _, Nat.zero_le _⟩) (fun v_1 hv_1 => ?_)
  subst hv_1
  exact nd_i hQ hx hb hr hlocks dX6_why_8 (rfl)

set_option maxHeartbeats 4000000 in
set_option maxRecDepth 100000 in
theorem k_X6_mostGrams (l : Launch) (G : GG) (z : Nat) (r : Nat → Int32)  (hw : WF r) : Met l yX6_mostGrams (ws_ yX6_mostGrams cX6_mostGrams 1 (some .int)) (rm_ 4) (PC G [.ref z] (fun H => Te G z H ∧ ShopAt G (z + 1) r H)) (vp_Si (fun v => v = mgO r)) 0 0 NoA := by
  refine met_q (by decide +kernel) (Nat.le_of_ble_eq_true rfl) ?_
  intro p e s m args below meth c Q hQ hx hb hr hT hown hml hlocks hnm hK hZ ls hl
  have hl : lv_has ls 1 [(0, .ref z)] := hl
  refine lv_aload_n hx hb dX6_mostGrams_0 rfl (lv_at hl 0 rfl) ?_
  refine rg (C := RX6) (T := TX6) (N := 6) (v := .ref (z + 1)) hx hb hT inX6 hown hK hZ.1 rfl 0 (by decide) mf_X6_10 rfl dX6_mostGrams_1 ?_
  refine lv_iconst (v := 0) hx hb dX6_mostGrams_4 (by decide) ?_
  refine got_i (run_i hx hb hml hown hT hK hl.1 (k_X5_whyBroken l G (z + 1) r 0 hw) (cw_X6_140 hT ⟨Nat.le_of_ble_eq_true rfl, Nat.le_of_ble_eq_true rfl⟩) hZ.2.1 rfl hZ.2 rfl rfl (Nat.le_of_ble_eq_true rfl) dX6_mostGrams_5 ⟨Nat.zero_le _, Nat.zero_le _⟩) (fun v_1 hv_1 => ?_)
  subst hv_1
  refine lv_if_ne (tgt := 21) hx hb dX6_mostGrams_8 (by decide) (fun c1 => ?_) (fun c1 => ?_)
  · refine lv_iconst (v := 0) hx hb dX6_mostGrams_21 (by decide) ?_
    exact nd_i hQ hx hb hr hlocks dX6_mostGrams_22 ((if_neg c1).symm)
  · refine lv_aload_n hx hb dX6_mostGrams_11 rfl (lv_at hl 0 rfl) ?_
    refine rg (C := RX6) (T := TX6) (N := 6) (v := .ref (z + 1)) hx hb hT inX6 hown hK hZ.1 rfl 0 (by decide) mf_X6_10 rfl dX6_mostGrams_12 ?_
    refine got_i (run_i hx hb hml hown hT hK hl.1 (k_X5_gramsByStocks l G (z + 1) r hw) (cw_X6_182 hT ⟨Nat.le_of_ble_eq_true rfl, Nat.le_of_ble_eq_true rfl⟩) hZ.2.1 rfl hZ.2 rfl rfl (Nat.le_of_ble_eq_true rfl) dX6_mostGrams_15 ⟨Nat.zero_le _, Nat.zero_le _⟩) (fun v_2 hv_2 => ?_)
    subst hv_2
    refine lv_goto (tgt := 22) hx hb dX6_mostGrams_18 (by decide) ?_
    exact nd_i hQ hx hb hr hlocks dX6_mostGrams_22 ((if_pos c1).symm)
