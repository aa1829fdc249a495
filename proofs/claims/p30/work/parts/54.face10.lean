set_option maxHeartbeats 4000000 in
set_option maxRecDepth 100000 in
theorem k_X6_of (l : Launch) (G : GG) (z : Nat) (r : Nat → Int32) (x y : Int32) (hw : WF r) : Met l yX6_of (ws_ yX6_of cX6_of 3 (some .int)) (rm_ 4) (PC G [.ref z, .int x, .int y] (fun H => Te G z H ∧ ShopAt G (z + 1) r H)) (vp_Si (fun v => v = ofO r x y)) 0 0 NoA := by
  refine met_q (by decide +kernel) (Nat.le_of_ble_eq_true rfl) ?_
  intro p e s m args below meth c Q hQ hx hb hr hT hown hml hlocks hnm hK hZ ls hl
  have hl : lv_has ls 3 [(0, .ref z), (1, .int x), (2, .int y)] := hl
  have hn5 := hw.nl5
  refine lv_aload_n hx hb dX6_of_0 rfl (lv_at hl 0 rfl) ?_
  refine rg (C := RX6) (T := TX6) (N := 6) (v := .ref (z + 1)) hx hb hT inX6 hown hK hZ.1 rfl 0 (by decide) mf_X6_10 rfl dX6_of_1 ?_
  refine lv_iload_n hx hb dX6_of_4 rfl (lv_at hl 1 rfl) ?_
  refine got_i (run_i hx hb hml hown hT hK hl.1 (k_X5_hasLeaf l G (z + 1) r x) (cw_X6_102 hT ⟨Nat.le_of_ble_eq_true rfl, Nat.le_of_ble_eq_true rfl⟩) hZ.2.1 rfl hZ.2 rfl rfl (Nat.le_of_ble_eq_true rfl) dX6_of_5 ⟨Nat.zero_le _, Nat.zero_le _⟩) (fun v_1 hv_1 => ?_)
  subst hv_1
  refine lv_if_ne (tgt := 13) hx hb dX6_of_8 (by decide) (fun c1 => ?_) (fun c1 => ?_)
  · have hl1 : lfP r x := bi_n0 c1
    obtain ⟨i, hi, rfl⟩ := lf_ix hw hl1
    refine lv_iload_n hx hb dX6_of_13 rfl (lv_at hl 2 rfl) ?_
    rcases cs6 y with qc | qc | qc | qc | qc | qc | qc | qc
    · refine lv_tableOut (tgt := 117) hx hb dX6_of_14 qc (by decide) ?_
      refine lv_bipush (v := (-2)) hx hb dX6_of_117 (by decide) ?_
      exact nd_i hQ hx hb hr hlocks dX6_of_119 (ofO_2 (by omega) hl1 (selN_out qc))
    · subst qc
      refine lv_tableIn (off := 42) (tgt := 56) hx hb dX6_of_14 (by decide) (by decide) (by decide) (by decide) ?_
      refine lv_aload_n hx hb dX6_of_56 rfl (lv_at hl 0 rfl) ?_
      refine rg (C := RX6) (T := TX6) (N := 6) (v := .ref (z + 1)) hx hb hT inX6 hown hK hZ.1 rfl 0 (by decide) mf_X6_10 rfl dX6_of_57 ?_
      refine lv_iload_n hx hb dX6_of_60 rfl (lv_at hl 1 rfl) ?_
      refine got_i (run_i hx hb hml hown hT hK hl.1 (k_X5_priceOf l G (z + 1) r i hw (by omega)) (cw_X6_106 hT ⟨Nat.le_of_ble_eq_true rfl, Nat.le_of_ble_eq_true rfl⟩) hZ.2.1 rfl hZ.2 rfl rfl (Nat.le_of_ble_eq_true rfl) dX6_of_61 ⟨Nat.zero_le _, Nat.zero_le _⟩) (fun v_2 hv_2 => ?_)
      subst hv_2
      exact nd_i hQ hx hb hr hlocks dX6_of_64 (ofO_2 (by omega) hl1 (selN_in (f := ofN r i) 0 (by omega) rfl))
    · subst qc
      refine lv_tableIn (off := 51) (tgt := 65) hx hb dX6_of_14 (by decide) (by decide) (by decide) (by decide) ?_
      refine lv_aload_n hx hb dX6_of_65 rfl (lv_at hl 0 rfl) ?_
      refine rg (C := RX6) (T := TX6) (N := 6) (v := .ref (z + 1)) hx hb hT inX6 hown hK hZ.1 rfl 0 (by decide) mf_X6_10 rfl dX6_of_66 ?_
      refine lv_iload_n hx hb dX6_of_69 rfl (lv_at hl 1 rfl) ?_
      refine lv_iload_n hx hb dX6_of_70 rfl (lv_at hl 2 rfl) ?_
      refine lv_iconst (v := 1) hx hb dX6_of_71 (by decide) ?_
      refine lv_isub hx hb dX6_of_72 ?_
      rw [show (1 : Int32) - 1 = nI 0 by decide]
      refine lv_iconst (v := 0) hx hb dX6_of_73 (by decide) ?_
      refine got_i (run_i hx hb hml hown hT hK hl.1 (k_X5_tasteOf l G (z + 1) r i 0 0 (by omega) (by omega)) (cw_X6_109 hT ⟨Nat.le_of_ble_eq_true rfl, Nat.le_of_ble_eq_true rfl⟩) hZ.2.1 rfl hZ.2 rfl rfl (Nat.le_of_ble_eq_true rfl) dX6_of_74 ⟨Nat.zero_le _, Nat.zero_le _⟩) (fun v_3 hv_3 => ?_)
      subst hv_3
      exact nd_i hQ hx hb hr hlocks dX6_of_77 (ofO_2 (by omega) hl1 (selN_in (f := ofN r i) 1 (by omega) rfl))
    · subst qc
      refine lv_tableIn (off := 51) (tgt := 65) hx hb dX6_of_14 (by decide) (by decide) (by decide) (by decide) ?_
      refine lv_aload_n hx hb dX6_of_65 rfl (lv_at hl 0 rfl) ?_
      refine rg (C := RX6) (T := TX6) (N := 6) (v := .ref (z + 1)) hx hb hT inX6 hown hK hZ.1 rfl 0 (by decide) mf_X6_10 rfl dX6_of_66 ?_
      refine lv_iload_n hx hb dX6_of_69 rfl (lv_at hl 1 rfl) ?_
      refine lv_iload_n hx hb dX6_of_70 rfl (lv_at hl 2 rfl) ?_
      refine lv_iconst (v := 1) hx hb dX6_of_71 (by decide) ?_
      refine lv_isub hx hb dX6_of_72 ?_
      rw [show (2 : Int32) - 1 = nI 1 by decide]
      refine lv_iconst (v := 0) hx hb dX6_of_73 (by decide) ?_
      refine got_i (run_i hx hb hml hown hT hK hl.1 (k_X5_tasteOf l G (z + 1) r i 1 0 (by omega) (by omega)) (cw_X6_109 hT ⟨Nat.le_of_ble_eq_true rfl, Nat.le_of_ble_eq_true rfl⟩) hZ.2.1 rfl hZ.2 rfl rfl (Nat.le_of_ble_eq_true rfl) dX6_of_74 ⟨Nat.zero_le _, Nat.zero_le _⟩) (fun v_4 hv_4 => ?_)
      subst hv_4
      exact nd_i hQ hx hb hr hlocks dX6_of_77 (ofO_2 (by omega) hl1 (selN_in (f := ofN r i) 2 (by omega) rfl))
    · subst qc
      refine lv_tableIn (off := 51) (tgt := 65) hx hb dX6_of_14 (by decide) (by decide) (by decide) (by decide) ?_
      refine lv_aload_n hx hb dX6_of_65 rfl (lv_at hl 0 rfl) ?_
      refine rg (C := RX6) (T := TX6) (N := 6) (v := .ref (z + 1)) hx hb hT inX6 hown hK hZ.1 rfl 0 (by decide) mf_X6_10 rfl dX6_of_66 ?_
      refine lv_iload_n hx hb dX6_of_69 rfl (lv_at hl 1 rfl) ?_
      refine lv_iload_n hx hb dX6_of_70 rfl (lv_at hl 2 rfl) ?_
      refine lv_iconst (v := 1) hx hb dX6_of_71 (by decide) ?_
      refine lv_isub hx hb dX6_of_72 ?_
      rw [show (3 : Int32) - 1 = nI 2 by decide]
      refine lv_iconst (v := 0) hx hb dX6_of_73 (by decide) ?_
      refine got_i (run_i hx hb hml hown hT hK hl.1 (k_X5_tasteOf l G (z + 1) r i 2 0 (by omega) (by omega)) (cw_X6_109 hT ⟨Nat.le_of_ble_eq_true rfl, Nat.le_of_ble_eq_true rfl⟩) hZ.2.1 rfl hZ.2 rfl rfl (Nat.le_of_ble_eq_true rfl) dX6_of_74 ⟨Nat.zero_le _, Nat.zero_le _⟩) (fun v_5 hv_5 => ?_)
      subst hv_5
      exact nd_i hQ hx hb hr hlocks dX6_of_77 (ofO_2 (by omega) hl1 (selN_in (f := ofN r i) 3 (by omega) rfl))
    · subst qc
      refine lv_tableIn (off := 64) (tgt := 78) hx hb dX6_of_14 (by decide) (by decide) (by decide) (by decide) ?_
      refine lv_aload_n hx hb dX6_of_78 rfl (lv_at hl 0 rfl) ?_
      refine rg (C := RX6) (T := TX6) (N := 6) (v := .ref (z + 1)) hx hb hT inX6 hown hK hZ.1 rfl 0 (by decide) mf_X6_10 rfl dX6_of_79 ?_
      refine rg (C := RX5) (T := TX5) (N := 8) (v := .ref ((z + 1) + 1)) hx hb hT inX5 hown hK hZ.2.1 rfl 0 (by decide) mf_X6_112 rfl dX6_of_82 ?_
      refine lv_iload_n hx hb dX6_of_85 rfl (lv_at hl 1 rfl) ?_
      refine r_aaldS (y := (z + 1) + 5 + 3 * i) hx hb hK hZ.2.2.1 rfl rfl i (rfl) (by omega) (Nat.le_of_ble_eq_true rfl) rfl dX6_of_86 ?_
      refine rg (C := RX1) (T := TX1) (N := 6) (v := .int (r (12 + 14 * i + 11))) hx hb hT inX1 hown hK (hZ.2.leaf (i := i) (by omega)).1 rfl 1 (by decide) mf_X6_116 rfl dX6_of_87 ?_
      exact nd_i hQ hx hb hr hlocks dX6_of_90 (ofO_2 (by omega) hl1 (selN_in (f := ofN r i) 4 (by omega) rfl))
    · subst qc
      refine lv_tableIn (off := 77) (tgt := 91) hx hb dX6_of_14 (by decide) (by decide) (by decide) (by decide) ?_
      refine lv_aload_n hx hb dX6_of_91 rfl (lv_at hl 0 rfl) ?_
      refine rg (C := RX6) (T := TX6) (N := 6) (v := .ref (z + 1)) hx hb hT inX6 hown hK hZ.1 rfl 0 (by decide) mf_X6_10 rfl dX6_of_92 ?_
      refine rg (C := RX5) (T := TX5) (N := 8) (v := .ref ((z + 1) + 1)) hx hb hT inX5 hown hK hZ.2.1 rfl 0 (by decide) mf_X6_112 rfl dX6_of_95 ?_
      refine lv_iload_n hx hb dX6_of_98 rfl (lv_at hl 1 rfl) ?_
      refine r_aaldS (y := (z + 1) + 5 + 3 * i) hx hb hK hZ.2.2.1 rfl rfl i (rfl) (by omega) (Nat.le_of_ble_eq_true rfl) rfl dX6_of_99 ?_
      refine rg (C := RX1) (T := TX1) (N := 6) (v := .int (r (12 + 14 * i + 12))) hx hb hT inX1 hown hK (hZ.2.leaf (i := i) (by omega)).1 rfl 2 (by decide) mf_X6_121 rfl dX6_of_100 ?_
      exact nd_i hQ hx hb hr hlocks dX6_of_103 (ofO_2 (by omega) hl1 (selN_in (f := ofN r i) 5 (by omega) rfl))
    · subst qc
      refine lv_tableIn (off := 90) (tgt := 104) hx hb dX6_of_14 (by decide) (by decide) (by decide) (by decide) ?_
      refine lv_aload_n hx hb dX6_of_104 rfl (lv_at hl 0 rfl) ?_
      refine rg (C := RX6) (T := TX6) (N := 6) (v := .ref (z + 1)) hx hb hT inX6 hown hK hZ.1 rfl 0 (by decide) mf_X6_10 rfl dX6_of_105 ?_
      refine rg (C := RX5) (T := TX5) (N := 8) (v := .ref ((z + 1) + 1)) hx hb hT inX5 hown hK hZ.2.1 rfl 0 (by decide) mf_X6_112 rfl dX6_of_108 ?_
      refine lv_iload_n hx hb dX6_of_111 rfl (lv_at hl 1 rfl) ?_
      refine r_aaldS (y := (z + 1) + 5 + 3 * i) hx hb hK hZ.2.2.1 rfl rfl i (rfl) (by omega) (Nat.le_of_ble_eq_true rfl) rfl dX6_of_112 ?_
      refine rg (C := RX1) (T := TX1) (N := 6) (v := .int (r (12 + 14 * i + 13))) hx hb hT inX1 hown hK (hZ.2.leaf (i := i) (by omega)).1 rfl 3 (by decide) mf_X6_124 rfl dX6_of_113 ?_
      exact nd_i hQ hx hb hr hlocks dX6_of_116 (ofO_2 (by omega) hl1 (selN_in (f := ofN r i) 6 (by omega) rfl))
  · refine lv_iconst (v := (-1)) hx hb dX6_of_11 (by decide) ?_
    exact nd_i hQ hx hb hr hlocks dX6_of_12 (ofO_1 (bi_e0 c1))
