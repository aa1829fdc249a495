set_option maxHeartbeats 4000000 in
set_option maxRecDepth 100000 in
theorem k_X6_set (l : Launch) (G : GG) (z nx kp : Nat) (r : Nat → Int32) (T : Nat → Nat → Int32) (x y : Int32) (t : Nat → Nat) (hnx : nx < 7) (hkp : kp ≤ 6) : Met l yX6_set (ws_ yX6_set cX6_set 3 (some .int)) (rm_ 8) (PCX G (SxL t (In z 163)) [.ref z, .int x, .int y] (T3 G z r T nx kp)) (QI (fun v H => v = (setO r x y).1 ∧ T3c G z r T nx kp (setO r x y) H) (In z 163)) 0 0 (In z 163) := by
  refine met_qx (by decide +kernel) (Nat.le_of_ble_eq_true rfl) ?_
  intro p e s m args below meth c Q hQ hx hb hr hT hown hml hlocks hnm hK hX hZ ls hl
  have hl : lv_has ls 3 [(0, .ref z), (1, .int x), (2, .int y)] := hl
  have hS : va_S (In z 163) s.heap s.heap [] := va_S.rf
  refine lv_aload_n hx hb dX6_set_0 rfl (lv_at hl 0 rfl) ?_
  refine rg (C := RX6) (T := TX6) (N := 6) (v := .ref (z + 21)) hx hb hT inX6 hown hK hZ.1 rfl 1 (by decide) mf_X6_19 rfl dX6_set_1 ?_
  refine lv_aload_n hx hb dX6_set_4 rfl (lv_at hl 0 rfl) ?_
  refine rg (C := RX6) (T := TX6) (N := 6) (v := .ref (z + 1)) hx hb hT inX6 hown hK hZ.1 rfl 0 (by decide) mf_X6_10 rfl dX6_set_5 ?_
  refine got_V (run_i hx hb hml hown hT hK hl.1 (k_X0_draft l G (z + 21) (z + 1) nx kp T r hnx (by omega)) (cw_X6_50 hT ⟨Nat.le_of_ble_eq_true rfl, Nat.le_of_ble_eq_true rfl⟩) hZ.2.2.1 rfl ⟨hZ.2.2, hZ.2.1⟩ rfl rfl (Nat.le_of_ble_eq_true rfl) dX6_set_8 ⟨Nat.zero_le _, Nat.zero_le _⟩) hS (fun q (hq : _ ∧ _) => show _ ∧ _ from ⟨by omega, by omega⟩) (fun q (hq : _ ∧ _) => show _ ∧ _ from ⟨by omega, by omega⟩) (fun  H locs h1 hz hk hS => ?_)
  have ht1 := hZ.2.1.top
  have ht2 := hZ.2.2.top
  have hZ : T3 G z r (updT T nx r) nx kp H := ⟨hZ.1.kept (hk z (by omega) (fun (q : _ ∧ _) => by omega)), hZ.2.1.kept (fun q _ _ => hk q (by omega) (fun (w : _ ∧ _) => by omega)), h1⟩
  refine lv_aload_n hx hb dX6_set_11 rfl (lv_at hl 0 rfl) ?_
  refine rg (C := RX6) (T := TX6) (N := 6) (v := .ref (z + 21)) hx hb hT inX6 hown hK hZ.1 rfl 1 (by decide) mf_X6_19 rfl dX6_set_12 ?_
  refine lv_aload_n hx hb dX6_set_15 rfl (lv_at hl 0 rfl) ?_
  refine rg (C := RX6) (T := TX6) (N := 6) (v := .ref (z + 1)) hx hb hT inX6 hown hK hZ.1 rfl 0 (by decide) mf_X6_10 rfl dX6_set_16 ?_
  refine lv_iload_n hx hb dX6_set_19 rfl (lv_at hl 1 rfl) ?_
  refine lv_iload_n hx hb dX6_set_20 rfl (lv_at hl 2 rfl) ?_
  refine got_I (run_ix SB_SxL (fun U hU hW => hX.call hS (fun q (hq : _ ∧ _) => show _ ∧ _ from ⟨by omega, by omega⟩) hU hW) hx hb hml hown hT hK hl.1 (k_X5_changeSetting l G (z + 1) r x y t) (cw_X6_54 hT ⟨Nat.le_of_ble_eq_true rfl, Nat.le_of_ble_eq_true rfl⟩) hZ.2.1.1 rfl hZ.2.1 rfl rfl (Nat.le_of_ble_eq_true rfl) dX6_set_21 ⟨Nat.zero_le _, Nat.zero_le _⟩) hS (fun q (hq : _ ∧ _) => show _ ∧ _ from ⟨by omega, by omega⟩) (fun q (hq : _ ∧ _) => show _ ∧ _ from ⟨by omega, by omega⟩) (fun v1 H locs h1 hz hk hS => ?_)
  obtain ⟨hv, hSn⟩ := h1
  have ht1 := hZ.2.1.top
  have ht2 := hZ.2.2.top
  have hZ : T3 G z (setO r x y).2 (updT T nx r) nx kp H := ⟨hZ.1.kept (hk z (by omega) (fun (q : _ ∧ _) => by omega)), hSn, hZ.2.2.kept (fun q _ _ => hk q (by omega) (fun (w : _ ∧ _) => by omega))⟩
  subst hv
  refine got_I (run_i hx hb hml hown hT hK hl.1 (k_X0_settle l G (z + 21) nx kp (updT T nx r) (setO r x y).1 hnx hkp) (cw_X6_58 hT ⟨Nat.le_of_ble_eq_true rfl, Nat.le_of_ble_eq_true rfl⟩) hZ.2.2.1 rfl hZ.2.2 rfl rfl (Nat.le_of_ble_eq_true rfl) dX6_set_24 ⟨Nat.zero_le _, Nat.zero_le _⟩) hS (fun q (hq : _ ∧ _) => show _ ∧ _ from ⟨by omega, by omega⟩) (fun q (hq : _ ∧ _) => show _ ∧ _ from ⟨by omega, by omega⟩) (fun v_1 H locs h1 hz hk hS => ?_)
  obtain ⟨hv2, hHn⟩ := h1
  have ht1 := hZ.2.1.top
  have ht2 := hZ.2.2.top
  have hZ : T3c G z r T nx kp (setO r x y) H := ⟨hZ.1.kept (hk z (by omega) (fun (q : _ ∧ _) => by omega)), hZ.2.1.kept (fun q _ _ => hk q (by omega) (fun (w : _ ∧ _) => by omega)), hHn⟩
  exact nd_I hQ hx hb hr hlocks dX6_set_27 hS (⟨hv2, hZ⟩)
