set_option maxHeartbeats 4000000 in
set_option maxRecDepth 100000 in
theorem k_X5_changeSetting (l : Launch) (G : GG) (b : Nat) (r : Nat → Int32) (x y : Int32) (t : Nat → Nat)  : Met l yX5_changeSetting (ws_ yX5_changeSetting cX5_changeSetting 4 (some .int)) (rm_ 1) (PCX G (SxL t (In b 20)) [.ref b, .int x, .int y] (ShopAt G b r)) (QI (fun v H => v = (setO r x y).1 ∧ ShopAt G b (setO r x y).2 H) (In b 20)) 0 0 (In b 20) := by
  refine met_qx (by decide +kernel) (Nat.le_of_ble_eq_true rfl) ?_
  intro p e s m args below meth c Q hQ hx hb hr hT hown hml hlocks hnm hK hX hSh ls hl
  have hl : lv_has ls 4 [(0, .ref b), (1, .int x), (2, .int y)] := hl
  have hS : va_S (In b 20) s.heap s.heap [] := va_S.rf
  refine lv_iload_n hx hb dX5_changeSetting_0 rfl (lv_at hl 1 rfl) ?_
  refine lv_if_lt (tgt := 13) hx hb dX5_changeSetting_1 (by decide) (fun c1 => ?_) (fun c1 => ?_)
  · refine lv_bipush (v := (-2)) hx hb dX5_changeSetting_13 (by decide) ?_
    exact nd_I hQ hx hb hr hlocks dX5_changeSetting_15 hS (by rw [setO_n (fun q => by rcases q with ⟨q, -⟩ | ⟨q, -⟩ <;> subst q <;> exact absurd c1 (by decide))]; exact ⟨rfl, hSh⟩)
  · refine lv_iload_n hx hb dX5_changeSetting_4 rfl (lv_at hl 1 rfl) ?_
    refine lv_aload_n hx hb dX5_changeSetting_5 rfl (lv_at hl 0 rfl) ?_
    refine rg (C := RX5) (T := TX5) (N := 8) (v := .ref (b + 4)) hx hb hT inX5 hown hK hSh.1 rfl 3 (by decide) mf_X5_32 rfl dX5_changeSetting_6 ?_
    refine r_alen hx hb hK hSh.2.2.2.2.1 rfl (v := 2) rfl dX5_changeSetting_9 ?_
    refine lv_icmp_lt (tgt := 16) hx hb dX5_changeSetting_10 (by decide) (fun c2 => ?_) (fun c2 => ?_)
    · have hx2 : x = 0 ∨ x = 1 := by
        rw [i32_lt_iff] at c1 c2
        have e0 : (0 : Int32).toInt = 0 := rfl
        have e2 : (2 : Int32).toInt = 2 := rfl
        have h9 : x.toInt = 0 ∨ x.toInt = 1 := by omega
        rcases h9 with q | q
        · exact Or.inl (Int32.toInt_inj.mp q)
        · exact Or.inr (Int32.toInt_inj.mp q)
      rcases hx2 with q | q
      · subst q
        refine lv_iload_n hx hb dX5_changeSetting_16 rfl (lv_at hl 2 rfl) ?_
        refine va_getsN hx hb hX.2.1.1 hS hown (va_Nw.use rfl hX.1.1) (fun _ q => q) dX5_changeSetting_17 ?_
        refine lv_iload_n hx hb dX5_changeSetting_20 rfl (lv_at hl 1 rfl) ?_
        refine va_ti hx hb hX.2.1.2 hS (vp_in_nI (show 0 < 2 by omega) (by omega)) (v := .int 0) rfl dX5_changeSetting_21 ?_
        refine va_getsN hx hb hX.2.2.1 hS hown (va_Nw.use rfl hX.1.2) (fun _ q => q) dX5_changeSetting_22 ?_
        refine lv_iload_n hx hb dX5_changeSetting_25 rfl (lv_at hl 1 rfl) ?_
        refine va_ti hx hb hX.2.2.2 hS (vp_in_nI (show 0 < 2 by omega) (by omega)) (v := .int 99) rfl dX5_changeSetting_26 ?_
        refine got_i (run_s hx hb hml hown hT hK hl.1 (k_X5_isWithin l G y 0 99) (cw_X5_71 hT ⟨Nat.le_of_ble_eq_true rfl, Nat.le_of_ble_eq_true rfl⟩) trivial rfl rfl (Nat.le_of_ble_eq_true rfl) dX5_changeSetting_27 ⟨Nat.zero_le _, Nat.zero_le _⟩) (fun v_1 hv_1 => ?_)
        subst hv_1
        refine lv_if_ne (tgt := 36) hx hb dX5_changeSetting_30 (by decide) (fun c3 => ?_) (fun c3 => ?_)
        · refine lv_aload_n hx hb dX5_changeSetting_36 rfl (lv_at hl 0 rfl) ?_
          refine rg (C := RX5) (T := TX5) (N := 8) (v := .ref (b + 4)) hx hb hT inX5 hown hK hSh.1 rfl 3 (by decide) mf_X5_32 rfl dX5_changeSetting_37 ?_
          refine lv_iload_n hx hb dX5_changeSetting_40 rfl (lv_at hl 1 rfl) ?_
          refine r_iald hx hb hK hSh.2.2.2.2.1 0 (by decide) (by omega) (Nat.le_of_ble_eq_true rfl) dX5_changeSetting_41 ?_
          refine lv_istore_n (lv' := [(3, .int (r 0)), (0, .ref b), (1, .int 0), (2, .int y)]) hx hb dX5_changeSetting_42 rfl hl (by decide) rfl (fun ls hl => ?_)
          refine lv_aload_n hx hb dX5_changeSetting_43 rfl (lv_at hl 1 rfl) ?_
          refine rg (C := RX5) (T := TX5) (N := 8) (v := .ref (b + 4)) hx hb hT inX5 hown hK hSh.1 rfl 3 (by decide) mf_X5_32 rfl dX5_changeSetting_44 ?_
          refine lv_iload_n hx hb dX5_changeSetting_47 rfl (lv_at hl 2 rfl) ?_
          refine lv_iload_n hx hb dX5_changeSetting_48 rfl (lv_at hl 3 rfl) ?_
          refine r_iast hx hb hK hSh.2.2.2.2.1 0 (rfl) (by omega) (Nat.le_of_ble_eq_true rfl) hS (show _ ∧ _ from ⟨by omega, by omega⟩) dX5_changeSetting_49 (fun H locs h1 o hS => ?_)
          have hSh := hSh.pSet (k := 0) (by omega) h1 o
          refine lv_iload_n hx hb dX5_changeSetting_50 rfl (lv_at hl 0 rfl) ?_
          exact nd_I hQ hx hb hr hlocks dX5_changeSetting_51 hS (by rw [setO_0 (bi_n0 c3)]; exact ⟨rfl, hSh⟩)
        · refine lv_bipush (v := (-2)) hx hb dX5_changeSetting_33 (by decide) ?_
          exact nd_I hQ hx hb hr hlocks dX5_changeSetting_35 hS (by rw [setO_n (fun q => q.elim (fun w => bi_e0 c3 w.2) (fun w => absurd w.1 (by decide)))]; exact ⟨rfl, hSh⟩)
      · subst q
        refine lv_iload_n hx hb dX5_changeSetting_16 rfl (lv_at hl 2 rfl) ?_
        refine va_getsN hx hb hX.2.1.1 hS hown (va_Nw.use rfl hX.1.1) (fun _ q => q) dX5_changeSetting_17 ?_
        refine lv_iload_n hx hb dX5_changeSetting_20 rfl (lv_at hl 1 rfl) ?_
        refine va_ti hx hb hX.2.1.2 hS (vp_in_nI (show 1 < 2 by omega) (by omega)) (v := .int 1) rfl dX5_changeSetting_21 ?_
        refine va_getsN hx hb hX.2.2.1 hS hown (va_Nw.use rfl hX.1.2) (fun _ q => q) dX5_changeSetting_22 ?_
        refine lv_iload_n hx hb dX5_changeSetting_25 rfl (lv_at hl 1 rfl) ?_
        refine va_ti hx hb hX.2.2.2 hS (vp_in_nI (show 1 < 2 by omega) (by omega)) (v := .int 7) rfl dX5_changeSetting_26 ?_
        refine got_i (run_s hx hb hml hown hT hK hl.1 (k_X5_isWithin l G y 1 7) (cw_X5_71 hT ⟨Nat.le_of_ble_eq_true rfl, Nat.le_of_ble_eq_true rfl⟩) trivial rfl rfl (Nat.le_of_ble_eq_true rfl) dX5_changeSetting_27 ⟨Nat.zero_le _, Nat.zero_le _⟩) (fun v_2 hv_2 => ?_)
        subst hv_2
        refine lv_if_ne (tgt := 36) hx hb dX5_changeSetting_30 (by decide) (fun c3 => ?_) (fun c3 => ?_)
        · refine lv_aload_n hx hb dX5_changeSetting_36 rfl (lv_at hl 0 rfl) ?_
          refine rg (C := RX5) (T := TX5) (N := 8) (v := .ref (b + 4)) hx hb hT inX5 hown hK hSh.1 rfl 3 (by decide) mf_X5_32 rfl dX5_changeSetting_37 ?_
          refine lv_iload_n hx hb dX5_changeSetting_40 rfl (lv_at hl 1 rfl) ?_
          refine r_iald hx hb hK hSh.2.2.2.2.1 1 (by decide) (by omega) (Nat.le_of_ble_eq_true rfl) dX5_changeSetting_41 ?_
          refine lv_istore_n (lv' := [(3, .int (r 1)), (0, .ref b), (1, .int 1), (2, .int y)]) hx hb dX5_changeSetting_42 rfl hl (by decide) rfl (fun ls hl => ?_)
          refine lv_aload_n hx hb dX5_changeSetting_43 rfl (lv_at hl 1 rfl) ?_
          refine rg (C := RX5) (T := TX5) (N := 8) (v := .ref (b + 4)) hx hb hT inX5 hown hK hSh.1 rfl 3 (by decide) mf_X5_32 rfl dX5_changeSetting_44 ?_
          refine lv_iload_n hx hb dX5_changeSetting_47 rfl (lv_at hl 2 rfl) ?_
          refine lv_iload_n hx hb dX5_changeSetting_48 rfl (lv_at hl 3 rfl) ?_
          refine r_iast hx hb hK hSh.2.2.2.2.1 1 (rfl) (by omega) (Nat.le_of_ble_eq_true rfl) hS (show _ ∧ _ from ⟨by omega, by omega⟩) dX5_changeSetting_49 (fun H locs h1 o hS => ?_)
          have hSh := hSh.pSet (k := 1) (by omega) h1 o
          refine lv_iload_n hx hb dX5_changeSetting_50 rfl (lv_at hl 0 rfl) ?_
          exact nd_I hQ hx hb hr hlocks dX5_changeSetting_51 hS (by rw [setO_1 (bi_n0 c3)]; exact ⟨rfl, hSh⟩)
        · refine lv_bipush (v := (-2)) hx hb dX5_changeSetting_33 (by decide) ?_
          exact nd_I hQ hx hb hr hlocks dX5_changeSetting_35 hS (by rw [setO_n (fun q => q.elim (fun w => absurd w.1 (by decide)) (fun w => bi_e0 c3 w.2))]; exact ⟨rfl, hSh⟩)
    · refine lv_bipush (v := (-2)) hx hb dX5_changeSetting_13 (by decide) ?_
      exact nd_I hQ hx hb hr hlocks dX5_changeSetting_15 hS (by rw [setO_n (fun q => by rcases q with ⟨q, -⟩ | ⟨q, -⟩ <;> subst q <;> exact absurd c2 (by decide))]; exact ⟨rfl, hSh⟩)
