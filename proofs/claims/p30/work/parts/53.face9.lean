set_option maxHeartbeats 4000000 in
set_option maxRecDepth 100000 in
theorem k_X6_blend (l : Launch) (G : GG) (z : Nat) (r : Nat → Int32) (y : Int32) (hw : WF r) : Met l yX6_blend (ws_ yX6_blend cX6_blend 2 (some .int)) (rm_ 4) (PC G [.ref z, .int y] (fun H => Te G z H ∧ ShopAt G (z + 1) r H)) (vp_Si (fun v => v = selN 5 y (blN r))) 0 0 NoA := by
  refine met_q (by decide +kernel) (Nat.le_of_ble_eq_true rfl) ?_
  intro p e s m args below meth c Q hQ hx hb hr hT hown hml hlocks hnm hK hZ ls hl
  have hl : lv_has ls 2 [(0, .ref z), (1, .int y)] := hl
  refine lv_iload_n hx hb dX6_blend_0 rfl (lv_at hl 1 rfl) ?_
  rcases cs5 y with qc | qc | qc | qc | qc | qc | qc
  · refine lv_tableOut (tgt := 79) hx hb dX6_blend_1 qc (by decide) ?_
    refine lv_bipush (v := (-2)) hx hb dX6_blend_79 (by decide) ?_
    exact nd_i hQ hx hb hr hlocks dX6_blend_81 (selN_out qc)
  · subst qc
    refine lv_tableIn (off := 39) (tgt := 40) hx hb dX6_blend_1 (by decide) (by decide) (by decide) (by decide) ?_
    refine lv_aload_n hx hb dX6_blend_40 rfl (lv_at hl 0 rfl) ?_
    refine rg (C := RX6) (T := TX6) (N := 6) (v := .ref (z + 1)) hx hb hT inX6 hown hK hZ.1 rfl 0 (by decide) mf_X6_10 rfl dX6_blend_41 ?_
    refine got_i (run_i hx hb hml hown hT hK hl.1 (k_X5_blendPrice l G (z + 1) r hw) (cw_X6_127 hT ⟨Nat.le_of_ble_eq_true rfl, Nat.le_of_ble_eq_true rfl⟩) hZ.2.1 rfl hZ.2 rfl rfl (Nat.le_of_ble_eq_true rfl) dX6_blend_44 ⟨Nat.zero_le _, Nat.zero_le _⟩) (fun v_1 hv_1 => ?_)
    subst hv_1
    exact nd_i hQ hx hb hr hlocks dX6_blend_47 (selN_in (f := blN r) 0 (by omega) rfl)
  · subst qc
    refine lv_tableIn (off := 47) (tgt := 48) hx hb dX6_blend_1 (by decide) (by decide) (by decide) (by decide) ?_
    refine lv_aload_n hx hb dX6_blend_48 rfl (lv_at hl 0 rfl) ?_
    refine rg (C := RX6) (T := TX6) (N := 6) (v := .ref (z + 1)) hx hb hT inX6 hown hK hZ.1 rfl 0 (by decide) mf_X6_10 rfl dX6_blend_49 ?_
    refine lv_iload_n hx hb dX6_blend_52 rfl (lv_at hl 1 rfl) ?_
    refine lv_iconst (v := 1) hx hb dX6_blend_53 (by decide) ?_
    refine lv_isub hx hb dX6_blend_54 ?_
    rw [show (1 : Int32) - 1 = nI 0 by decide]
    refine lv_iconst (v := 0) hx hb dX6_blend_55 (by decide) ?_
    refine got_i (run_i hx hb hml hown hT hK hl.1 (k_X5_tasteSum l G (z + 1) r 0 0 hw (by omega)) (cw_X6_131 hT ⟨Nat.le_of_ble_eq_true rfl, Nat.le_of_ble_eq_true rfl⟩) hZ.2.1 rfl hZ.2 rfl rfl (Nat.le_of_ble_eq_true rfl) dX6_blend_56 ⟨Nat.zero_le _, Nat.zero_le _⟩) (fun v_2 hv_2 => ?_)
    subst hv_2
    refine lv_bipush (v := 20) hx hb dX6_blend_59 (by decide) ?_
    refine lv_idiv hx hb dX6_blend_61 (by decide) ?_
    exact nd_i hQ hx hb hr hlocks dX6_blend_62 (selN_in (f := blN r) 1 (by omega) rfl)
  · subst qc
    refine lv_tableIn (off := 47) (tgt := 48) hx hb dX6_blend_1 (by decide) (by decide) (by decide) (by decide) ?_
    refine lv_aload_n hx hb dX6_blend_48 rfl (lv_at hl 0 rfl) ?_
    refine rg (C := RX6) (T := TX6) (N := 6) (v := .ref (z + 1)) hx hb hT inX6 hown hK hZ.1 rfl 0 (by decide) mf_X6_10 rfl dX6_blend_49 ?_
    refine lv_iload_n hx hb dX6_blend_52 rfl (lv_at hl 1 rfl) ?_
    refine lv_iconst (v := 1) hx hb dX6_blend_53 (by decide) ?_
    refine lv_isub hx hb dX6_blend_54 ?_
    rw [show (2 : Int32) - 1 = nI 1 by decide]
    refine lv_iconst (v := 0) hx hb dX6_blend_55 (by decide) ?_
    refine got_i (run_i hx hb hml hown hT hK hl.1 (k_X5_tasteSum l G (z + 1) r 1 0 hw (by omega)) (cw_X6_131 hT ⟨Nat.le_of_ble_eq_true rfl, Nat.le_of_ble_eq_true rfl⟩) hZ.2.1 rfl hZ.2 rfl rfl (Nat.le_of_ble_eq_true rfl) dX6_blend_56 ⟨Nat.zero_le _, Nat.zero_le _⟩) (fun v_3 hv_3 => ?_)
    subst hv_3
    refine lv_bipush (v := 20) hx hb dX6_blend_59 (by decide) ?_
    refine lv_idiv hx hb dX6_blend_61 (by decide) ?_
    exact nd_i hQ hx hb hr hlocks dX6_blend_62 (selN_in (f := blN r) 2 (by omega) rfl)
  · subst qc
    refine lv_tableIn (off := 47) (tgt := 48) hx hb dX6_blend_1 (by decide) (by decide) (by decide) (by decide) ?_
    refine lv_aload_n hx hb dX6_blend_48 rfl (lv_at hl 0 rfl) ?_
    refine rg (C := RX6) (T := TX6) (N := 6) (v := .ref (z + 1)) hx hb hT inX6 hown hK hZ.1 rfl 0 (by decide) mf_X6_10 rfl dX6_blend_49 ?_
    refine lv_iload_n hx hb dX6_blend_52 rfl (lv_at hl 1 rfl) ?_
    refine lv_iconst (v := 1) hx hb dX6_blend_53 (by decide) ?_
    refine lv_isub hx hb dX6_blend_54 ?_
    rw [show (3 : Int32) - 1 = nI 2 by decide]
    refine lv_iconst (v := 0) hx hb dX6_blend_55 (by decide) ?_
    refine got_i (run_i hx hb hml hown hT hK hl.1 (k_X5_tasteSum l G (z + 1) r 2 0 hw (by omega)) (cw_X6_131 hT ⟨Nat.le_of_ble_eq_true rfl, Nat.le_of_ble_eq_true rfl⟩) hZ.2.1 rfl hZ.2 rfl rfl (Nat.le_of_ble_eq_true rfl) dX6_blend_56 ⟨Nat.zero_le _, Nat.zero_le _⟩) (fun v_4 hv_4 => ?_)
    subst hv_4
    refine lv_bipush (v := 20) hx hb dX6_blend_59 (by decide) ?_
    refine lv_idiv hx hb dX6_blend_61 (by decide) ?_
    exact nd_i hQ hx hb hr hlocks dX6_blend_62 (selN_in (f := blN r) 3 (by omega) rfl)
  · subst qc
    refine lv_tableIn (off := 62) (tgt := 63) hx hb dX6_blend_1 (by decide) (by decide) (by decide) (by decide) ?_
    refine lv_aload_n hx hb dX6_blend_63 rfl (lv_at hl 0 rfl) ?_
    refine rg (C := RX6) (T := TX6) (N := 6) (v := .ref (z + 1)) hx hb hT inX6 hown hK hZ.1 rfl 0 (by decide) mf_X6_10 rfl dX6_blend_64 ?_
    refine got_i (run_i hx hb hml hown hT hK hl.1 (k_X5_allShares l G (z + 1) r hw) (cw_X6_134 hT ⟨Nat.le_of_ble_eq_true rfl, Nat.le_of_ble_eq_true rfl⟩) hZ.2.1 rfl hZ.2 rfl rfl (Nat.le_of_ble_eq_true rfl) dX6_blend_67 ⟨Nat.zero_le _, Nat.zero_le _⟩) (fun v_5 hv_5 => ?_)
    subst hv_5
    exact nd_i hQ hx hb hr hlocks dX6_blend_70 (selN_in (f := blN r) 4 (by omega) rfl)
  · subst qc
    refine lv_tableIn (off := 70) (tgt := 71) hx hb dX6_blend_1 (by decide) (by decide) (by decide) (by decide) ?_
    refine lv_aload_n hx hb dX6_blend_71 rfl (lv_at hl 0 rfl) ?_
    refine rg (C := RX6) (T := TX6) (N := 6) (v := .ref (z + 1)) hx hb hT inX6 hown hK hZ.1 rfl 0 (by decide) mf_X6_10 rfl dX6_blend_72 ?_
    refine got_i (run_i hx hb hml hown hT hK hl.1 (k_X5_leavesInBlend l G (z + 1) r hw) (cw_X6_137 hT ⟨Nat.le_of_ble_eq_true rfl, Nat.le_of_ble_eq_true rfl⟩) hZ.2.1 rfl hZ.2 rfl rfl (Nat.le_of_ble_eq_true rfl) dX6_blend_75 ⟨Nat.zero_le _, Nat.zero_le _⟩) (fun v_6 hv_6 => ?_)
    subst hv_6
    exact nd_i hQ hx hb hr hlocks dX6_blend_78 (selN_in (f := blN r) 5 (by omega) rfl)
