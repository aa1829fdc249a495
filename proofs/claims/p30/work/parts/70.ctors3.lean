/-! history, face, model: their constructors -/
set_option maxHeartbeats 4000000 in
set_option maxRecDepth 100000 in
theorem k_X0_init (l : Launch) (G : GG) (h : Nat) (t : Nat)   : Met l yX0_init (ws_ yX0_init cX0_init 2 (none : Option Jvm.ClassFile.FieldType)) (rmM 3 141 714) (PCX G (SxC t (In h 142)) [.ref h] (fun H => ob G 0 h [.null, .int 0, .int 0] H ∧ H.size = h + 1)) (QV (fun H => HistAt G h (fun _ => rI) 0 0 H ∧ H.size = h + 142) (In h 142)) 141 714 (In h 142) := by
  refine met_qx (by decide +kernel) (Nat.le_of_ble_eq_true rfl) ?_
  intro p e s m args below meth c Q hQ hx hb hr hT hown hml hlocks hnm hK hX ⟨ho, hz⟩ ls hl
  have hl : lv_has ls 2 [(0, .ref h)] := hl
  have hS : va_S (In h 142) s.heap s.heap [] := va_S.rf
  have hlt0 : h < s.heap.size := ho.lt
  refine lv_aload_n hx hb dX0_init_0 rfl (lv_at hl 0 rfl) ?_
  refine r_oi hx hb (hml.trans hl.1.symm) hown hT mm_X0_3 (Nat.le_of_ble_eq_true rfl) (Nat.le_of_ble_eq_true rfl) dX0_init_1 ?_
  refine lv_aload_n hx hb dX0_init_4 rfl (lv_at hl 0 rfl) ?_
  refine lv_bipush (v := 7) hx hb dX0_init_5 (by decide) ?_
  refine r_newq (n := 7) (h := h + 1) (k := 4) hx hb hT hown ml_X0_11 hX.1.2.1 hK rfl rfl (by decide) hz (Nat.le_of_ble_eq_true rfl) (Nat.le_of_ble_eq_true rfl) hS dX0_init_7 (fun H hs g hS => ?_)
  replace ho := ho.kept (g.2 _ ho.lt)
  replace hz : H.size = h + 2 := by have h7 := g.1; omega
  clear g
  refine W_nrm (c2 := 1) (s2 := 7) rfl rfl ?_
  refine rpF (C := RX0) (T := TX0) (N := 3) (v := .ref (h + 1)) (ty := .array (.object "TeaBlends$Shop")) hx hb hT inX0 tyX0 tyX0_ok nmX0 hown hK ho rfl 0 (by decide) mf_X0_13 rfl hnm rfl (by decide +kernel) rfl rfl (Nat.le_of_ble_eq_true rfl) hS (show _ ∧ _ from ⟨by omega, by omega⟩) dX0_init_10 (fun H locs h1 o hS => ?_)
  replace ho : ob G 0 h [.ref (h + 1), .int 0, .int 0] H := h1
  replace hs := hs.kept (o.2 _ (by omega))
  replace hz : H.size = h + 2 := o.1.trans hz
  clear o
  refine lv_iconst (v := 0) hx hb dX0_init_13 (by decide) ?_
  refine lv_istore_n (lv' := [(1, .int 0), (0, .ref h)]) hx hb dX0_init_14 rfl hl (by decide) rfl (fun ls hl => ?_)
  refine lv_iload_n hx hb dX0_init_15 rfl (lv_at hl 0 rfl) ?_
  refine lv_aload_n hx hb dX0_init_16 rfl (lv_at hl 1 rfl) ?_
  refine rg (C := RX0) (T := TX0) (N := 3) (v := .ref (h + 1)) hx hb hT inX0 hown hK ho rfl 0 (by decide) mf_X0_13 rfl dX0_init_17 ?_
  refine r_alen hx hb hK hs rfl (v := 7) rfl dX0_init_20 ?_
  refine lv_icmp_ge (tgt := 43) hx hb dX0_init_21 (by decide) (fun cd0 => ?_) (fun cd0 => ?_)
  · exact absurd cd0 (by decide)
  · refine lv_aload_n hx hb dX0_init_24 rfl (lv_at hl 1 rfl) ?_
    refine rg (C := RX0) (T := TX0) (N := 3) (v := .ref (h + 1)) hx hb hT inX0 hown hK ho rfl 0 (by decide) mf_X0_13 rfl dX0_init_25 ?_
    refine lv_iload_n hx hb dX0_init_28 rfl (lv_at hl 0 rfl) ?_
    refine r_new (ci := 5) (C := RX5) (T := TX5) (N := 8) (h := h + 2 + 20 * 0) (fs := [.null, .null, .null, .null, .int 0, .int 0, .int 0, .int 0]) hx hb hT inX5 tyX5 tyX5_ok hown ml_X0_11 mn_X5 mz_X5 hK rfl dfX5 (by omega) (Nat.le_of_ble_eq_true rfl) (Nat.le_of_ble_eq_true rfl) hS dX0_init_29 (fun H hL0 g hS => ?_)
    replace ho := ho.kept (g.2 _ ho.lt)
    replace hs := hs.kept (g.2 _ hs.lt)
    replace hz : H.size = h + 3 := by have h7 := g.1; omega
    clear g
    refine W_nrm (c2 := 2) (s2 := 15) rfl rfl ?_
    refine lv_dup hx hb dX0_init_32 rfl ?_
    refine got_V (va_runI (Ts := lw_good) ⟨hx, hb, hml, hown, hT⟩ (k_X5_init l G (h + 2 + 20 * 0) t) (cw_X0_17 hT ⟨Nat.le_of_ble_eq_true rfl, Nat.le_of_ble_eq_true rfl⟩) (pre_sx SB_SxC hK ⟨hL0, hz⟩ (fun U hU hW => hX.call hS (fun q (hq : _ ∧ _) => show _ ∧ _ from ⟨by omega, by omega⟩) hU hW)) rfl rfl hl.1 rfl (Nat.le_of_ble_eq_true rfl) dX0_init_33 ⟨Nat.le_of_ble_eq_true rfl, Nat.le_of_ble_eq_true rfl⟩) hS (fun q (hq : _ ∧ _) => show _ ∧ _ from ⟨by omega, by omega⟩) (fun q (hq : _ ∧ _) => show _ ∧ _ from ⟨by omega, by omega⟩) (fun H locs h1 hzz hk hS => ?_)
    replace ho := ho.kept (hk _ ho.lt (fun (w : _ ∧ _) => by omega))
    replace hs := hs.kept (hk _ hs.lt (fun (w : _ ∧ _) => by omega))
    replace hz : H.size = h + 22 := by have h7 := h1.2; omega
    replace hL0 := h1.1
    clear hk hzz h1
    refine W_nrm (c2 := 21) (s2 := 108) rfl rfl ?_
    refine r_aast (ci := 5) (C := RX5) (T := TX5) (N := 8) hx hb hK hs rfl hL0.1 rfl 0 rfl (by decide) (Nat.le_of_ble_eq_true rfl) hS (show _ ∧ _ from ⟨by omega, by omega⟩) dX0_init_36 (fun H locs h1 o hS => ?_)
    replace ho := ho.kept (o.2 _ (by omega))
    replace hL0 := hL0.kept (fun q h8 h9 => o.2 q (by omega))
    replace hz : H.size = h + 22 := o.1.trans hz
    replace hs := h1
    clear o h1
    refine lv_iinc (v := 0 + 1) (lv' := [(1, .int (0 + 1)), (0, .ref h)]) hx hb dX0_init_37 hl (k := 0) rfl (rfl) (by decide) rfl (fun ls hl => ?_)
    refine lv_goto (tgt := 15) hx hb dX0_init_40 (by decide) ?_
    refine lv_iload_n hx hb dX0_init_15 rfl (lv_at hl 0 rfl) ?_
    refine lv_aload_n hx hb dX0_init_16 rfl (lv_at hl 1 rfl) ?_
    refine rg (C := RX0) (T := TX0) (N := 3) (v := .ref (h + 1)) hx hb hT inX0 hown hK ho rfl 0 (by decide) mf_X0_13 rfl dX0_init_17 ?_
    refine r_alen hx hb hK hs rfl (v := 7) rfl dX0_init_20 ?_
    refine lv_icmp_ge (tgt := 43) hx hb dX0_init_21 (by decide) (fun cd1 => ?_) (fun cd1 => ?_)
    · exact absurd cd1 (by decide)
    · refine lv_aload_n hx hb dX0_init_24 rfl (lv_at hl 1 rfl) ?_
      refine rg (C := RX0) (T := TX0) (N := 3) (v := .ref (h + 1)) hx hb hT inX0 hown hK ho rfl 0 (by decide) mf_X0_13 rfl dX0_init_25 ?_
      refine lv_iload_n hx hb dX0_init_28 rfl (lv_at hl 0 rfl) ?_
      refine r_new (ci := 5) (C := RX5) (T := TX5) (N := 8) (h := h + 2 + 20 * 1) (fs := [.null, .null, .null, .null, .int 0, .int 0, .int 0, .int 0]) hx hb hT inX5 tyX5 tyX5_ok hown ml_X0_11 mn_X5 mz_X5 hK rfl dfX5 (by omega) (Nat.le_of_ble_eq_true rfl) (Nat.le_of_ble_eq_true rfl) hS dX0_init_29 (fun H hL1 g hS => ?_)
      replace ho := ho.kept (g.2 _ ho.lt)
      replace hL0 := hL0.kept (fun q h8 h9 => g.2 q (by have h7 := hL0.top; omega))
      replace hs := hs.kept (g.2 _ hs.lt)
      replace hz : H.size = h + 23 := by have h7 := g.1; omega
      clear g
      refine W_nrm (c2 := 22) (s2 := 116) rfl rfl ?_
      refine lv_dup hx hb dX0_init_32 rfl ?_
      refine got_V (va_runI (Ts := lw_good) ⟨hx, hb, hml, hown, hT⟩ (k_X5_init l G (h + 2 + 20 * 1) t) (cw_X0_17 hT ⟨Nat.le_of_ble_eq_true rfl, Nat.le_of_ble_eq_true rfl⟩) (pre_sx SB_SxC hK ⟨hL1, hz⟩ (fun U hU hW => hX.call hS (fun q (hq : _ ∧ _) => show _ ∧ _ from ⟨by omega, by omega⟩) hU hW)) rfl rfl hl.1 rfl (Nat.le_of_ble_eq_true rfl) dX0_init_33 ⟨Nat.le_of_ble_eq_true rfl, Nat.le_of_ble_eq_true rfl⟩) hS (fun q (hq : _ ∧ _) => show _ ∧ _ from ⟨by omega, by omega⟩) (fun q (hq : _ ∧ _) => show _ ∧ _ from ⟨by omega, by omega⟩) (fun H locs h1 hzz hk hS => ?_)
      replace ho := ho.kept (hk _ ho.lt (fun (w : _ ∧ _) => by omega))
      replace hL0 := hL0.kept (fun q h8 h9 => hk q (by have h7 := hL0.top; omega) (fun (w : _ ∧ _) => by omega))
      replace hs := hs.kept (hk _ hs.lt (fun (w : _ ∧ _) => by omega))
      replace hz : H.size = h + 42 := by have h7 := h1.2; omega
      replace hL1 := h1.1
      clear hk hzz h1
      refine W_nrm (c2 := 41) (s2 := 209) rfl rfl ?_
      refine r_aast (ci := 5) (C := RX5) (T := TX5) (N := 8) hx hb hK hs rfl hL1.1 rfl 1 rfl (by decide) (Nat.le_of_ble_eq_true rfl) hS (show _ ∧ _ from ⟨by omega, by omega⟩) dX0_init_36 (fun H locs h1 o hS => ?_)
      replace ho := ho.kept (o.2 _ (by omega))
      replace hL0 := hL0.kept (fun q h8 h9 => o.2 q (by omega))
      replace hL1 := hL1.kept (fun q h8 h9 => o.2 q (by omega))
      replace hz : H.size = h + 42 := o.1.trans hz
      replace hs := h1
      clear o h1
      refine lv_iinc (v := (0 + 1) + 1) (lv' := [(1, .int ((0 + 1) + 1)), (0, .ref h)]) hx hb dX0_init_37 hl (k := 0) rfl (rfl) (by decide) rfl (fun ls hl => ?_)
      refine lv_goto (tgt := 15) hx hb dX0_init_40 (by decide) ?_
      refine lv_iload_n hx hb dX0_init_15 rfl (lv_at hl 0 rfl) ?_
      refine lv_aload_n hx hb dX0_init_16 rfl (lv_at hl 1 rfl) ?_
      refine rg (C := RX0) (T := TX0) (N := 3) (v := .ref (h + 1)) hx hb hT inX0 hown hK ho rfl 0 (by decide) mf_X0_13 rfl dX0_init_17 ?_
      refine r_alen hx hb hK hs rfl (v := 7) rfl dX0_init_20 ?_
      refine lv_icmp_ge (tgt := 43) hx hb dX0_init_21 (by decide) (fun cd2 => ?_) (fun cd2 => ?_)
      · exact absurd cd2 (by decide)
      · refine lv_aload_n hx hb dX0_init_24 rfl (lv_at hl 1 rfl) ?_
        refine rg (C := RX0) (T := TX0) (N := 3) (v := .ref (h + 1)) hx hb hT inX0 hown hK ho rfl 0 (by decide) mf_X0_13 rfl dX0_init_25 ?_
        refine lv_iload_n hx hb dX0_init_28 rfl (lv_at hl 0 rfl) ?_
        refine r_new (ci := 5) (C := RX5) (T := TX5) (N := 8) (h := h + 2 + 20 * 2) (fs := [.null, .null, .null, .null, .int 0, .int 0, .int 0, .int 0]) hx hb hT inX5 tyX5 tyX5_ok hown ml_X0_11 mn_X5 mz_X5 hK rfl dfX5 (by omega) (Nat.le_of_ble_eq_true rfl) (Nat.le_of_ble_eq_true rfl) hS dX0_init_29 (fun H hL2 g hS => ?_)
        replace ho := ho.kept (g.2 _ ho.lt)
        replace hL0 := hL0.kept (fun q h8 h9 => g.2 q (by have h7 := hL0.top; omega))
        replace hL1 := hL1.kept (fun q h8 h9 => g.2 q (by have h7 := hL1.top; omega))
        replace hs := hs.kept (g.2 _ hs.lt)
        replace hz : H.size = h + 43 := by have h7 := g.1; omega
        clear g
        refine W_nrm (c2 := 42) (s2 := 217) rfl rfl ?_
        refine lv_dup hx hb dX0_init_32 rfl ?_
        refine got_V (va_runI (Ts := lw_good) ⟨hx, hb, hml, hown, hT⟩ (k_X5_init l G (h + 2 + 20 * 2) t) (cw_X0_17 hT ⟨Nat.le_of_ble_eq_true rfl, Nat.le_of_ble_eq_true rfl⟩) (pre_sx SB_SxC hK ⟨hL2, hz⟩ (fun U hU hW => hX.call hS (fun q (hq : _ ∧ _) => show _ ∧ _ from ⟨by omega, by omega⟩) hU hW)) rfl rfl hl.1 rfl (Nat.le_of_ble_eq_true rfl) dX0_init_33 ⟨Nat.le_of_ble_eq_true rfl, Nat.le_of_ble_eq_true rfl⟩) hS (fun q (hq : _ ∧ _) => show _ ∧ _ from ⟨by omega, by omega⟩) (fun q (hq : _ ∧ _) => show _ ∧ _ from ⟨by omega, by omega⟩) (fun H locs h1 hzz hk hS => ?_)
        replace ho := ho.kept (hk _ ho.lt (fun (w : _ ∧ _) => by omega))
        replace hL0 := hL0.kept (fun q h8 h9 => hk q (by have h7 := hL0.top; omega) (fun (w : _ ∧ _) => by omega))
        replace hL1 := hL1.kept (fun q h8 h9 => hk q (by have h7 := hL1.top; omega) (fun (w : _ ∧ _) => by omega))
        replace hs := hs.kept (hk _ hs.lt (fun (w : _ ∧ _) => by omega))
        replace hz : H.size = h + 62 := by have h7 := h1.2; omega
        replace hL2 := h1.1
        clear hk hzz h1
        refine W_nrm (c2 := 61) (s2 := 310) rfl rfl ?_
        refine r_aast (ci := 5) (C := RX5) (T := TX5) (N := 8) hx hb hK hs rfl hL2.1 rfl 2 rfl (by decide) (Nat.le_of_ble_eq_true rfl) hS (show _ ∧ _ from ⟨by omega, by omega⟩) dX0_init_36 (fun H locs h1 o hS => ?_)
        replace ho := ho.kept (o.2 _ (by omega))
        replace hL0 := hL0.kept (fun q h8 h9 => o.2 q (by omega))
        replace hL1 := hL1.kept (fun q h8 h9 => o.2 q (by omega))
        replace hL2 := hL2.kept (fun q h8 h9 => o.2 q (by omega))
        replace hz : H.size = h + 62 := o.1.trans hz
        replace hs := h1
        clear o h1
        refine lv_iinc (v := ((0 + 1) + 1) + 1) (lv' := [(1, .int (((0 + 1) + 1) + 1)), (0, .ref h)]) hx hb dX0_init_37 hl (k := 0) rfl (rfl) (by decide) rfl (fun ls hl => ?_)
        refine lv_goto (tgt := 15) hx hb dX0_init_40 (by decide) ?_
        refine lv_iload_n hx hb dX0_init_15 rfl (lv_at hl 0 rfl) ?_
        refine lv_aload_n hx hb dX0_init_16 rfl (lv_at hl 1 rfl) ?_
        refine rg (C := RX0) (T := TX0) (N := 3) (v := .ref (h + 1)) hx hb hT inX0 hown hK ho rfl 0 (by decide) mf_X0_13 rfl dX0_init_17 ?_
        refine r_alen hx hb hK hs rfl (v := 7) rfl dX0_init_20 ?_
        refine lv_icmp_ge (tgt := 43) hx hb dX0_init_21 (by decide) (fun cd3 => ?_) (fun cd3 => ?_)
        · exact absurd cd3 (by decide)
        · refine lv_aload_n hx hb dX0_init_24 rfl (lv_at hl 1 rfl) ?_
          refine rg (C := RX0) (T := TX0) (N := 3) (v := .ref (h + 1)) hx hb hT inX0 hown hK ho rfl 0 (by decide) mf_X0_13 rfl dX0_init_25 ?_
          refine lv_iload_n hx hb dX0_init_28 rfl (lv_at hl 0 rfl) ?_
          refine r_new (ci := 5) (C := RX5) (T := TX5) (N := 8) (h := h + 2 + 20 * 3) (fs := [.null, .null, .null, .null, .int 0, .int 0, .int 0, .int 0]) hx hb hT inX5 tyX5 tyX5_ok hown ml_X0_11 mn_X5 mz_X5 hK rfl dfX5 (by omega) (Nat.le_of_ble_eq_true rfl) (Nat.le_of_ble_eq_true rfl) hS dX0_init_29 (fun H hL3 g hS => ?_)
          replace ho := ho.kept (g.2 _ ho.lt)
          replace hL0 := hL0.kept (fun q h8 h9 => g.2 q (by have h7 := hL0.top; omega))
          replace hL1 := hL1.kept (fun q h8 h9 => g.2 q (by have h7 := hL1.top; omega))
          replace hL2 := hL2.kept (fun q h8 h9 => g.2 q (by have h7 := hL2.top; omega))
          replace hs := hs.kept (g.2 _ hs.lt)
          replace hz : H.size = h + 63 := by have h7 := g.1; omega
          clear g
          refine W_nrm (c2 := 62) (s2 := 318) rfl rfl ?_
          refine lv_dup hx hb dX0_init_32 rfl ?_
          refine got_V (va_runI (Ts := lw_good) ⟨hx, hb, hml, hown, hT⟩ (k_X5_init l G (h + 2 + 20 * 3) t) (cw_X0_17 hT ⟨Nat.le_of_ble_eq_true rfl, Nat.le_of_ble_eq_true rfl⟩) (pre_sx SB_SxC hK ⟨hL3, hz⟩ (fun U hU hW => hX.call hS (fun q (hq : _ ∧ _) => show _ ∧ _ from ⟨by omega, by omega⟩) hU hW)) rfl rfl hl.1 rfl (Nat.le_of_ble_eq_true rfl) dX0_init_33 ⟨Nat.le_of_ble_eq_true rfl, Nat.le_of_ble_eq_true rfl⟩) hS (fun q (hq : _ ∧ _) => show _ ∧ _ from ⟨by omega, by omega⟩) (fun q (hq : _ ∧ _) => show _ ∧ _ from ⟨by omega, by omega⟩) (fun H locs h1 hzz hk hS => ?_)
          replace ho := ho.kept (hk _ ho.lt (fun (w : _ ∧ _) => by omega))
          replace hL0 := hL0.kept (fun q h8 h9 => hk q (by have h7 := hL0.top; omega) (fun (w : _ ∧ _) => by omega))
          replace hL1 := hL1.kept (fun q h8 h9 => hk q (by have h7 := hL1.top; omega) (fun (w : _ ∧ _) => by omega))
          replace hL2 := hL2.kept (fun q h8 h9 => hk q (by have h7 := hL2.top; omega) (fun (w : _ ∧ _) => by omega))
          replace hs := hs.kept (hk _ hs.lt (fun (w : _ ∧ _) => by omega))
          replace hz : H.size = h + 82 := by have h7 := h1.2; omega
          replace hL3 := h1.1
          clear hk hzz h1
          refine W_nrm (c2 := 81) (s2 := 411) rfl rfl ?_
          refine r_aast (ci := 5) (C := RX5) (T := TX5) (N := 8) hx hb hK hs rfl hL3.1 rfl 3 rfl (by decide) (Nat.le_of_ble_eq_true rfl) hS (show _ ∧ _ from ⟨by omega, by omega⟩) dX0_init_36 (fun H locs h1 o hS => ?_)
          replace ho := ho.kept (o.2 _ (by omega))
          replace hL0 := hL0.kept (fun q h8 h9 => o.2 q (by omega))
          replace hL1 := hL1.kept (fun q h8 h9 => o.2 q (by omega))
          replace hL2 := hL2.kept (fun q h8 h9 => o.2 q (by omega))
          replace hL3 := hL3.kept (fun q h8 h9 => o.2 q (by omega))
          replace hz : H.size = h + 82 := o.1.trans hz
          replace hs := h1
          clear o h1
          refine lv_iinc (v := (((0 + 1) + 1) + 1) + 1) (lv' := [(1, .int ((((0 + 1) + 1) + 1) + 1)), (0, .ref h)]) hx hb dX0_init_37 hl (k := 0) rfl (rfl) (by decide) rfl (fun ls hl => ?_)
          refine lv_goto (tgt := 15) hx hb dX0_init_40 (by decide) ?_
          refine lv_iload_n hx hb dX0_init_15 rfl (lv_at hl 0 rfl) ?_
          refine lv_aload_n hx hb dX0_init_16 rfl (lv_at hl 1 rfl) ?_
          refine rg (C := RX0) (T := TX0) (N := 3) (v := .ref (h + 1)) hx hb hT inX0 hown hK ho rfl 0 (by decide) mf_X0_13 rfl dX0_init_17 ?_
          refine r_alen hx hb hK hs rfl (v := 7) rfl dX0_init_20 ?_
          refine lv_icmp_ge (tgt := 43) hx hb dX0_init_21 (by decide) (fun cd4 => ?_) (fun cd4 => ?_)
          · exact absurd cd4 (by decide)
          · refine lv_aload_n hx hb dX0_init_24 rfl (lv_at hl 1 rfl) ?_
            refine rg (C := RX0) (T := TX0) (N := 3) (v := .ref (h + 1)) hx hb hT inX0 hown hK ho rfl 0 (by decide) mf_X0_13 rfl dX0_init_25 ?_
            refine lv_iload_n hx hb dX0_init_28 rfl (lv_at hl 0 rfl) ?_
            refine r_new (ci := 5) (C := RX5) (T := TX5) (N := 8) (h := h + 2 + 20 * 4) (fs := [.null, .null, .null, .null, .int 0, .int 0, .int 0, .int 0]) hx hb hT inX5 tyX5 tyX5_ok hown ml_X0_11 mn_X5 mz_X5 hK rfl dfX5 (by omega) (Nat.le_of_ble_eq_true rfl) (Nat.le_of_ble_eq_true rfl) hS dX0_init_29 (fun H hL4 g hS => ?_)
            replace ho := ho.kept (g.2 _ ho.lt)
            replace hL0 := hL0.kept (fun q h8 h9 => g.2 q (by have h7 := hL0.top; omega))
            replace hL1 := hL1.kept (fun q h8 h9 => g.2 q (by have h7 := hL1.top; omega))
            replace hL2 := hL2.kept (fun q h8 h9 => g.2 q (by have h7 := hL2.top; omega))
            replace hL3 := hL3.kept (fun q h8 h9 => g.2 q (by have h7 := hL3.top; omega))
            replace hs := hs.kept (g.2 _ hs.lt)
            replace hz : H.size = h + 83 := by have h7 := g.1; omega
            clear g
            refine W_nrm (c2 := 82) (s2 := 419) rfl rfl ?_
            refine lv_dup hx hb dX0_init_32 rfl ?_
            refine got_V (va_runI (Ts := lw_good) ⟨hx, hb, hml, hown, hT⟩ (k_X5_init l G (h + 2 + 20 * 4) t) (cw_X0_17 hT ⟨Nat.le_of_ble_eq_true rfl, Nat.le_of_ble_eq_true rfl⟩) (pre_sx SB_SxC hK ⟨hL4, hz⟩ (fun U hU hW => hX.call hS (fun q (hq : _ ∧ _) => show _ ∧ _ from ⟨by omega, by omega⟩) hU hW)) rfl rfl hl.1 rfl (Nat.le_of_ble_eq_true rfl) dX0_init_33 ⟨Nat.le_of_ble_eq_true rfl, Nat.le_of_ble_eq_true rfl⟩) hS (fun q (hq : _ ∧ _) => show _ ∧ _ from ⟨by omega, by omega⟩) (fun q (hq : _ ∧ _) => show _ ∧ _ from ⟨by omega, by omega⟩) (fun H locs h1 hzz hk hS => ?_)
            replace ho := ho.kept (hk _ ho.lt (fun (w : _ ∧ _) => by omega))
            replace hL0 := hL0.kept (fun q h8 h9 => hk q (by have h7 := hL0.top; omega) (fun (w : _ ∧ _) => by omega))
            replace hL1 := hL1.kept (fun q h8 h9 => hk q (by have h7 := hL1.top; omega) (fun (w : _ ∧ _) => by omega))
            replace hL2 := hL2.kept (fun q h8 h9 => hk q (by have h7 := hL2.top; omega) (fun (w : _ ∧ _) => by omega))
            replace hL3 := hL3.kept (fun q h8 h9 => hk q (by have h7 := hL3.top; omega) (fun (w : _ ∧ _) => by omega))
            replace hs := hs.kept (hk _ hs.lt (fun (w : _ ∧ _) => by omega))
            replace hz : H.size = h + 102 := by have h7 := h1.2; omega
            replace hL4 := h1.1
            clear hk hzz h1
            refine W_nrm (c2 := 101) (s2 := 512) rfl rfl ?_
            refine r_aast (ci := 5) (C := RX5) (T := TX5) (N := 8) hx hb hK hs rfl hL4.1 rfl 4 rfl (by decide) (Nat.le_of_ble_eq_true rfl) hS (show _ ∧ _ from ⟨by omega, by omega⟩) dX0_init_36 (fun H locs h1 o hS => ?_)
            replace ho := ho.kept (o.2 _ (by omega))
            replace hL0 := hL0.kept (fun q h8 h9 => o.2 q (by omega))
            replace hL1 := hL1.kept (fun q h8 h9 => o.2 q (by omega))
            replace hL2 := hL2.kept (fun q h8 h9 => o.2 q (by omega))
            replace hL3 := hL3.kept (fun q h8 h9 => o.2 q (by omega))
            replace hL4 := hL4.kept (fun q h8 h9 => o.2 q (by omega))
            replace hz : H.size = h + 102 := o.1.trans hz
            replace hs := h1
            clear o h1
            refine lv_iinc (v := ((((0 + 1) + 1) + 1) + 1) + 1) (lv' := [(1, .int (((((0 + 1) + 1) + 1) + 1) + 1)), (0, .ref h)]) hx hb dX0_init_37 hl (k := 0) rfl (rfl) (by decide) rfl (fun ls hl => ?_)
            refine lv_goto (tgt := 15) hx hb dX0_init_40 (by decide) ?_
            refine lv_iload_n hx hb dX0_init_15 rfl (lv_at hl 0 rfl) ?_
            refine lv_aload_n hx hb dX0_init_16 rfl (lv_at hl 1 rfl) ?_
            refine rg (C := RX0) (T := TX0) (N := 3) (v := .ref (h + 1)) hx hb hT inX0 hown hK ho rfl 0 (by decide) mf_X0_13 rfl dX0_init_17 ?_
            refine r_alen hx hb hK hs rfl (v := 7) rfl dX0_init_20 ?_
            refine lv_icmp_ge (tgt := 43) hx hb dX0_init_21 (by decide) (fun cd5 => ?_) (fun cd5 => ?_)
            · exact absurd cd5 (by decide)
            · refine lv_aload_n hx hb dX0_init_24 rfl (lv_at hl 1 rfl) ?_
              refine rg (C := RX0) (T := TX0) (N := 3) (v := .ref (h + 1)) hx hb hT inX0 hown hK ho rfl 0 (by decide) mf_X0_13 rfl dX0_init_25 ?_
              refine lv_iload_n hx hb dX0_init_28 rfl (lv_at hl 0 rfl) ?_
              refine r_new (ci := 5) (C := RX5) (T := TX5) (N := 8) (h := h + 2 + 20 * 5) (fs := [.null, .null, .null, .null, .int 0, .int 0, .int 0, .int 0]) hx hb hT inX5 tyX5 tyX5_ok hown ml_X0_11 mn_X5 mz_X5 hK rfl dfX5 (by omega) (Nat.le_of_ble_eq_true rfl) (Nat.le_of_ble_eq_true rfl) hS dX0_init_29 (fun H hL5 g hS => ?_)
              replace ho := ho.kept (g.2 _ ho.lt)
              replace hL0 := hL0.kept (fun q h8 h9 => g.2 q (by have h7 := hL0.top; omega))
              replace hL1 := hL1.kept (fun q h8 h9 => g.2 q (by have h7 := hL1.top; omega))
              replace hL2 := hL2.kept (fun q h8 h9 => g.2 q (by have h7 := hL2.top; omega))
              replace hL3 := hL3.kept (fun q h8 h9 => g.2 q (by have h7 := hL3.top; omega))
              replace hL4 := hL4.kept (fun q h8 h9 => g.2 q (by have h7 := hL4.top; omega))
              replace hs := hs.kept (g.2 _ hs.lt)
              replace hz : H.size = h + 103 := by have h7 := g.1; omega
              clear g
              refine W_nrm (c2 := 102) (s2 := 520) rfl rfl ?_
              refine lv_dup hx hb dX0_init_32 rfl ?_
              refine got_V (va_runI (Ts := lw_good) ⟨hx, hb, hml, hown, hT⟩ (k_X5_init l G (h + 2 + 20 * 5) t) (cw_X0_17 hT ⟨Nat.le_of_ble_eq_true rfl, Nat.le_of_ble_eq_true rfl⟩) (pre_sx SB_SxC hK ⟨hL5, hz⟩ (fun U hU hW => hX.call hS (fun q (hq : _ ∧ _) => show _ ∧ _ from ⟨by omega, by omega⟩) hU hW)) rfl rfl hl.1 rfl (Nat.le_of_ble_eq_true rfl) dX0_init_33 ⟨Nat.le_of_ble_eq_true rfl, Nat.le_of_ble_eq_true rfl⟩) hS (fun q (hq : _ ∧ _) => show _ ∧ _ from ⟨by omega, by omega⟩) (fun q (hq : _ ∧ _) => show _ ∧ _ from ⟨by omega, by omega⟩) (fun H locs h1 hzz hk hS => ?_)
              replace ho := ho.kept (hk _ ho.lt (fun (w : _ ∧ _) => by omega))
              replace hL0 := hL0.kept (fun q h8 h9 => hk q (by have h7 := hL0.top; omega) (fun (w : _ ∧ _) => by omega))
              replace hL1 := hL1.kept (fun q h8 h9 => hk q (by have h7 := hL1.top; omega) (fun (w : _ ∧ _) => by omega))
              replace hL2 := hL2.kept (fun q h8 h9 => hk q (by have h7 := hL2.top; omega) (fun (w : _ ∧ _) => by omega))
              replace hL3 := hL3.kept (fun q h8 h9 => hk q (by have h7 := hL3.top; omega) (fun (w : _ ∧ _) => by omega))
              replace hL4 := hL4.kept (fun q h8 h9 => hk q (by have h7 := hL4.top; omega) (fun (w : _ ∧ _) => by omega))
              replace hs := hs.kept (hk _ hs.lt (fun (w : _ ∧ _) => by omega))
              replace hz : H.size = h + 122 := by have h7 := h1.2; omega
              replace hL5 := h1.1
              clear hk hzz h1
              refine W_nrm (c2 := 121) (s2 := 613) rfl rfl ?_
              refine r_aast (ci := 5) (C := RX5) (T := TX5) (N := 8) hx hb hK hs rfl hL5.1 rfl 5 rfl (by decide) (Nat.le_of_ble_eq_true rfl) hS (show _ ∧ _ from ⟨by omega, by omega⟩) dX0_init_36 (fun H locs h1 o hS => ?_)
              replace ho := ho.kept (o.2 _ (by omega))
              replace hL0 := hL0.kept (fun q h8 h9 => o.2 q (by omega))
              replace hL1 := hL1.kept (fun q h8 h9 => o.2 q (by omega))
              replace hL2 := hL2.kept (fun q h8 h9 => o.2 q (by omega))
              replace hL3 := hL3.kept (fun q h8 h9 => o.2 q (by omega))
              replace hL4 := hL4.kept (fun q h8 h9 => o.2 q (by omega))
              replace hL5 := hL5.kept (fun q h8 h9 => o.2 q (by omega))
              replace hz : H.size = h + 122 := o.1.trans hz
              replace hs := h1
              clear o h1
              refine lv_iinc (v := (((((0 + 1) + 1) + 1) + 1) + 1) + 1) (lv' := [(1, .int ((((((0 + 1) + 1) + 1) + 1) + 1) + 1)), (0, .ref h)]) hx hb dX0_init_37 hl (k := 0) rfl (rfl) (by decide) rfl (fun ls hl => ?_)
              refine lv_goto (tgt := 15) hx hb dX0_init_40 (by decide) ?_
              refine lv_iload_n hx hb dX0_init_15 rfl (lv_at hl 0 rfl) ?_
              refine lv_aload_n hx hb dX0_init_16 rfl (lv_at hl 1 rfl) ?_
              refine rg (C := RX0) (T := TX0) (N := 3) (v := .ref (h + 1)) hx hb hT inX0 hown hK ho rfl 0 (by decide) mf_X0_13 rfl dX0_init_17 ?_
              refine r_alen hx hb hK hs rfl (v := 7) rfl dX0_init_20 ?_
              refine lv_icmp_ge (tgt := 43) hx hb dX0_init_21 (by decide) (fun cd6 => ?_) (fun cd6 => ?_)
              · exact absurd cd6 (by decide)
              · refine lv_aload_n hx hb dX0_init_24 rfl (lv_at hl 1 rfl) ?_
                refine rg (C := RX0) (T := TX0) (N := 3) (v := .ref (h + 1)) hx hb hT inX0 hown hK ho rfl 0 (by decide) mf_X0_13 rfl dX0_init_25 ?_
                refine lv_iload_n hx hb dX0_init_28 rfl (lv_at hl 0 rfl) ?_
                refine r_new (ci := 5) (C := RX5) (T := TX5) (N := 8) (h := h + 2 + 20 * 6) (fs := [.null, .null, .null, .null, .int 0, .int 0, .int 0, .int 0]) hx hb hT inX5 tyX5 tyX5_ok hown ml_X0_11 mn_X5 mz_X5 hK rfl dfX5 (by omega) (Nat.le_of_ble_eq_true rfl) (Nat.le_of_ble_eq_true rfl) hS dX0_init_29 (fun H hL6 g hS => ?_)
                replace ho := ho.kept (g.2 _ ho.lt)
                replace hL0 := hL0.kept (fun q h8 h9 => g.2 q (by have h7 := hL0.top; omega))
                replace hL1 := hL1.kept (fun q h8 h9 => g.2 q (by have h7 := hL1.top; omega))
                replace hL2 := hL2.kept (fun q h8 h9 => g.2 q (by have h7 := hL2.top; omega))
                replace hL3 := hL3.kept (fun q h8 h9 => g.2 q (by have h7 := hL3.top; omega))
                replace hL4 := hL4.kept (fun q h8 h9 => g.2 q (by have h7 := hL4.top; omega))
                replace hL5 := hL5.kept (fun q h8 h9 => g.2 q (by have h7 := hL5.top; omega))
                replace hs := hs.kept (g.2 _ hs.lt)
                replace hz : H.size = h + 123 := by have h7 := g.1; omega
                clear g
                refine W_nrm (c2 := 122) (s2 := 621) rfl rfl ?_
                refine lv_dup hx hb dX0_init_32 rfl ?_
                refine got_V (va_runI (Ts := lw_good) ⟨hx, hb, hml, hown, hT⟩ (k_X5_init l G (h + 2 + 20 * 6) t) (cw_X0_17 hT ⟨Nat.le_of_ble_eq_true rfl, Nat.le_of_ble_eq_true rfl⟩) (pre_sx SB_SxC hK ⟨hL6, hz⟩ (fun U hU hW => hX.call hS (fun q (hq : _ ∧ _) => show _ ∧ _ from ⟨by omega, by omega⟩) hU hW)) rfl rfl hl.1 rfl (Nat.le_of_ble_eq_true rfl) dX0_init_33 ⟨Nat.le_of_ble_eq_true rfl, Nat.le_of_ble_eq_true rfl⟩) hS (fun q (hq : _ ∧ _) => show _ ∧ _ from ⟨by omega, by omega⟩) (fun q (hq : _ ∧ _) => show _ ∧ _ from ⟨by omega, by omega⟩) (fun H locs h1 hzz hk hS => ?_)
                replace ho := ho.kept (hk _ ho.lt (fun (w : _ ∧ _) => by omega))
                replace hL0 := hL0.kept (fun q h8 h9 => hk q (by have h7 := hL0.top; omega) (fun (w : _ ∧ _) => by omega))
                replace hL1 := hL1.kept (fun q h8 h9 => hk q (by have h7 := hL1.top; omega) (fun (w : _ ∧ _) => by omega))
                replace hL2 := hL2.kept (fun q h8 h9 => hk q (by have h7 := hL2.top; omega) (fun (w : _ ∧ _) => by omega))
                replace hL3 := hL3.kept (fun q h8 h9 => hk q (by have h7 := hL3.top; omega) (fun (w : _ ∧ _) => by omega))
                replace hL4 := hL4.kept (fun q h8 h9 => hk q (by have h7 := hL4.top; omega) (fun (w : _ ∧ _) => by omega))
                replace hL5 := hL5.kept (fun q h8 h9 => hk q (by have h7 := hL5.top; omega) (fun (w : _ ∧ _) => by omega))
                replace hs := hs.kept (hk _ hs.lt (fun (w : _ ∧ _) => by omega))
                replace hz : H.size = h + 142 := by have h7 := h1.2; omega
                replace hL6 := h1.1
                clear hk hzz h1
                refine W_nrm (c2 := 141) (s2 := 714) rfl rfl ?_
                refine r_aast (ci := 5) (C := RX5) (T := TX5) (N := 8) hx hb hK hs rfl hL6.1 rfl 6 rfl (by decide) (Nat.le_of_ble_eq_true rfl) hS (show _ ∧ _ from ⟨by omega, by omega⟩) dX0_init_36 (fun H locs h1 o hS => ?_)
                replace ho := ho.kept (o.2 _ (by omega))
                replace hL0 := hL0.kept (fun q h8 h9 => o.2 q (by omega))
                replace hL1 := hL1.kept (fun q h8 h9 => o.2 q (by omega))
                replace hL2 := hL2.kept (fun q h8 h9 => o.2 q (by omega))
                replace hL3 := hL3.kept (fun q h8 h9 => o.2 q (by omega))
                replace hL4 := hL4.kept (fun q h8 h9 => o.2 q (by omega))
                replace hL5 := hL5.kept (fun q h8 h9 => o.2 q (by omega))
                replace hL6 := hL6.kept (fun q h8 h9 => o.2 q (by omega))
                replace hz : H.size = h + 142 := o.1.trans hz
                replace hs := h1
                clear o h1
                refine lv_iinc (v := ((((((0 + 1) + 1) + 1) + 1) + 1) + 1) + 1) (lv' := [(1, .int (((((((0 + 1) + 1) + 1) + 1) + 1) + 1) + 1)), (0, .ref h)]) hx hb dX0_init_37 hl (k := 0) rfl (rfl) (by decide) rfl (fun ls hl => ?_)
                refine lv_goto (tgt := 15) hx hb dX0_init_40 (by decide) ?_
                refine lv_iload_n hx hb dX0_init_15 rfl (lv_at hl 0 rfl) ?_
                refine lv_aload_n hx hb dX0_init_16 rfl (lv_at hl 1 rfl) ?_
                refine rg (C := RX0) (T := TX0) (N := 3) (v := .ref (h + 1)) hx hb hT inX0 hown hK ho rfl 0 (by decide) mf_X0_13 rfl dX0_init_17 ?_
                refine r_alen hx hb hK hs rfl (v := 7) rfl dX0_init_20 ?_
                refine lv_icmp_ge (tgt := 43) hx hb dX0_init_21 (by decide) (fun cd7 => ?_) (fun cd7 => ?_)
                · have hls := qA_ext hs (fun j hj => sl7 (h := h) hj)
                  exact nd_V hQ hx hb hr hlocks dX0_init_43 hS (⟨HistAt.of ho hls hL0 hL1 hL2 hL3 hL4 hL5 hL6, hz⟩)
                · exact absurd (show (7 : Int32) ≤ 7 by decide) cd7

/-- the face with all its parts -/
def TeF (G : GG) (z : Nat) (r : Nat → Int32) (T : Nat → Nat → Int32) (nx kp : Nat) (sl : Nat → Option Nat) (Tp : Nat → Int32) (n : Nat) (N : Nat → Int32) (u0 j : Nat) (kd : Int32) (S : Nat → Nat → Int32) (H : Heap) : Prop :=
  T3 G z r T nx kp H ∧ ar G 4 (z + 163) (qA 2 sl) H ∧ RdC G (z + 166) (z + 164) Tp n N u0 j kd H ∧ SrAt G (z + 168) S H
set_option maxHeartbeats 4000000 in
set_option maxRecDepth 100000 in
theorem k_X6_init (l : Launch) (G : GG) (z : Nat) (t : Nat)   : Met l yX6_init (ws_ yX6_init cX6_init 1 (none : Option Jvm.ClassFile.FieldType)) (rmM 4 196 1038) (PCX G (SxC t (In z 197)) [.ref z] (fun H => ob G 6 z [.null, .null, .null, .null, .null, .null] H ∧ H.size = z + 1)) (QV (fun H => TeF G z rI (fun _ => rI) 0 0 (fun _ => none) (fun _ => 0) 0 (fun _ => 0) 0 0 0 (fun _ _ => 0) H ∧ H.size = z + 197) (In z 197)) 196 1038 (In z 197) := by
  refine met_qx (by decide +kernel) (Nat.le_of_ble_eq_true rfl) ?_
  intro p e s m args below meth c Q hQ hx hb hr hT hown hml hlocks hnm hK hX ⟨ho, hz⟩ ls hl
  have hl : lv_has ls 1 [(0, .ref z)] := hl
  have hS : va_S (In z 197) s.heap s.heap [] := va_S.rf
  have hlt0 : z < s.heap.size := ho.lt
  refine lv_aload_n hx hb dX6_init_0 rfl (lv_at hl 0 rfl) ?_
  refine r_oi hx hb (hml.trans hl.1.symm) hown hT mm_X6_1 (Nat.le_of_ble_eq_true rfl) (Nat.le_of_ble_eq_true rfl) dX6_init_1 ?_
  refine lv_aload_n hx hb dX6_init_4 rfl (lv_at hl 0 rfl) ?_
  refine r_new (ci := 5) (C := RX5) (T := TX5) (N := 8) (h := z + 1) (fs := [.null, .null, .null, .null, .int 0, .int 0, .int 0, .int 0]) hx hb hT inX5 tyX5 tyX5_ok hown ml_X6_7 mn_X5 mz_X5 hK rfl dfX5 (by omega) (Nat.le_of_ble_eq_true rfl) (Nat.le_of_ble_eq_true rfl) hS dX6_init_5 (fun H hSh g hS => ?_)
  replace ho := ho.kept (g.2 _ ho.lt)
  replace hz : H.size = z + 2 := by have h7 := g.1; omega
  clear g
  refine W_nrm (c2 := 1) (s2 := 8) rfl rfl ?_
  refine lv_dup hx hb dX6_init_8 rfl ?_
  refine got_V (va_runI (Ts := lw_good) ⟨hx, hb, hml, hown, hT⟩ (k_X5_init l G (z + 1) t) (cw_X6_9 hT ⟨Nat.le_of_ble_eq_true rfl, Nat.le_of_ble_eq_true rfl⟩) (pre_sx SB_SxC hK ⟨hSh, hz⟩ (fun U hU hW => hX.call hS (fun q (hq : _ ∧ _) => show _ ∧ _ from ⟨by omega, by omega⟩) hU hW)) rfl rfl hl.1 rfl (Nat.le_of_ble_eq_true rfl) dX6_init_9 ⟨Nat.le_of_ble_eq_true rfl, Nat.le_of_ble_eq_true rfl⟩) hS (fun q (hq : _ ∧ _) => show _ ∧ _ from ⟨by omega, by omega⟩) (fun q (hq : _ ∧ _) => show _ ∧ _ from ⟨by omega, by omega⟩) (fun H locs h1 hzz hk hS => ?_)
  replace ho := ho.kept (hk _ ho.lt (fun (w : _ ∧ _) => by omega))
  replace hz : H.size = z + 21 := by have h7 := h1.2; omega
  replace hSh := h1.1
  clear hk hzz h1
  refine W_nrm (c2 := 20) (s2 := 101) rfl rfl ?_
  refine rpF (C := RX6) (T := TX6) (N := 6) (v := .ref (z + 1)) (ty := .object "TeaBlends$Shop") hx hb hT inX6 tyX6 tyX6_ok nmX6 hown hK ho rfl 0 (by decide) mf_X6_10 rfl hnm rfl (by decide +kernel) rfl rfl (Nat.le_of_ble_eq_true rfl) hS (show _ ∧ _ from ⟨by omega, by omega⟩) dX6_init_12 (fun H locs h1 o hS => ?_)
  replace ho : ob G 6 z [.ref (z + 1), .null, .null, .null, .null, .null] H := h1
  replace hSh := hSh.kept (fun q h8 h9 => o.2 q (by omega))
  replace hz : H.size = z + 21 := o.1.trans hz
  clear o
  refine lv_aload_n hx hb dX6_init_15 rfl (lv_at hl 0 rfl) ?_
  refine r_new (ci := 0) (C := RX0) (T := TX0) (N := 3) (h := z + 21) (fs := [.null, .int 0, .int 0]) hx hb hT inX0 tyX0 tyX0_ok hown ml_X6_16 mn_X0 mz_X0 hK rfl dfX0 (by omega) (Nat.le_of_ble_eq_true rfl) (Nat.le_of_ble_eq_true rfl) hS dX6_init_16 (fun H hHi g hS => ?_)
  replace ho := ho.kept (g.2 _ ho.lt)
  replace hSh := hSh.kept (fun q h8 h9 => g.2 q (by have h7 := hSh.top; omega))
  replace hz : H.size = z + 22 := by have h7 := g.1; omega
  clear g
  refine W_nrm (c2 := 21) (s2 := 104) rfl rfl ?_
  refine lv_dup hx hb dX6_init_19 rfl ?_
  refine got_V (va_runI (Ts := lw_good) ⟨hx, hb, hml, hown, hT⟩ (k_X0_init l G (z + 21) t) (cw_X6_18 hT ⟨Nat.le_of_ble_eq_true rfl, Nat.le_of_ble_eq_true rfl⟩) (pre_sx SB_SxC hK ⟨hHi, hz⟩ (fun U hU hW => hX.call hS (fun q (hq : _ ∧ _) => show _ ∧ _ from ⟨by omega, by omega⟩) hU hW)) rfl rfl hl.1 rfl (Nat.le_of_ble_eq_true rfl) dX6_init_20 ⟨Nat.le_of_ble_eq_true rfl, Nat.le_of_ble_eq_true rfl⟩) hS (fun q (hq : _ ∧ _) => show _ ∧ _ from ⟨by omega, by omega⟩) (fun q (hq : _ ∧ _) => show _ ∧ _ from ⟨by omega, by omega⟩) (fun H locs h1 hzz hk hS => ?_)
  replace ho := ho.kept (hk _ ho.lt (fun (w : _ ∧ _) => by omega))
  replace hSh := hSh.kept (fun q h8 h9 => hk q (by have h7 := hSh.top; omega) (fun (w : _ ∧ _) => by omega))
  replace hz : H.size = z + 163 := by have h7 := h1.2; omega
  replace hHi := h1.1
  clear hk hzz h1
  refine W_nrm (c2 := 162) (s2 := 818) rfl rfl ?_
  refine rpF (C := RX6) (T := TX6) (N := 6) (v := .ref (z + 21)) (ty := .object "TeaBlends$History") hx hb hT inX6 tyX6 tyX6_ok nmX6 hown hK ho rfl 1 (by decide) mf_X6_19 rfl hnm rfl (by decide +kernel) rfl rfl (Nat.le_of_ble_eq_true rfl) hS (show _ ∧ _ from ⟨by omega, by omega⟩) dX6_init_23 (fun H locs h1 o hS => ?_)
  replace ho : ob G 6 z [.ref (z + 1), .ref (z + 21), .null, .null, .null, .null] H := h1
  replace hSh := hSh.kept (fun q h8 h9 => o.2 q (by omega))
  replace hHi := hHi.kept (fun q h8 h9 => o.2 q (by omega))
  replace hz : H.size = z + 163 := o.1.trans hz
  clear o
  refine lv_aload_n hx hb dX6_init_26 rfl (lv_at hl 0 rfl) ?_
  refine lv_iconst (v := 2) hx hb dX6_init_27 (by decide) ?_
  refine r_newq (n := 2) (h := z + 163) (k := 4) hx hb hT hown ml_X6_7 hX.1.2.1 hK rfl rfl (by decide) hz (Nat.le_of_ble_eq_true rfl) (Nat.le_of_ble_eq_true rfl) hS dX6_init_28 (fun H hsl g hS => ?_)
  replace ho := ho.kept (g.2 _ ho.lt)
  replace hSh := hSh.kept (fun q h8 h9 => g.2 q (by have h7 := hSh.top; omega))
  replace hHi := hHi.kept (fun q h8 h9 => g.2 q (by have h7 := hHi.top; omega))
  replace hz : H.size = z + 164 := by have h7 := g.1; omega
  clear g
  refine W_nrm (c2 := 163) (s2 := 820) rfl rfl ?_
  refine rpF (C := RX6) (T := TX6) (N := 6) (v := .ref (z + 163)) (ty := .array (.object "TeaBlends$Shop")) hx hb hT inX6 tyX6 tyX6_ok nmX6 hown hK ho rfl 2 (by decide) mf_X6_23 rfl hnm rfl (by decide +kernel) rfl rfl (Nat.le_of_ble_eq_true rfl) hS (show _ ∧ _ from ⟨by omega, by omega⟩) dX6_init_31 (fun H locs h1 o hS => ?_)
  replace ho : ob G 6 z [.ref (z + 1), .ref (z + 21), .ref (z + 163), .null, .null, .null] H := h1
  replace hSh := hSh.kept (fun q h8 h9 => o.2 q (by omega))
  replace hHi := hHi.kept (fun q h8 h9 => o.2 q (by omega))
  replace hsl := hsl.kept (o.2 _ (by omega))
  replace hz : H.size = z + 164 := o.1.trans hz
  clear o
  refine lv_aload_n hx hb dX6_init_34 rfl (lv_at hl 0 rfl) ?_
  refine r_new (ci := 3) (C := RX3) (T := TX3) (N := 2) (h := z + 164) (fs := [.null, .int 0]) hx hb hT inX3 tyX3 tyX3_ok hown ml_X6_27 mn_X3 mz_X3 hK rfl dfX3 (by omega) (Nat.le_of_ble_eq_true rfl) (Nat.le_of_ble_eq_true rfl) hS dX6_init_35 (fun H hPd g hS => ?_)
  replace ho := ho.kept (g.2 _ ho.lt)
  replace hSh := hSh.kept (fun q h8 h9 => g.2 q (by have h7 := hSh.top; omega))
  replace hHi := hHi.kept (fun q h8 h9 => g.2 q (by have h7 := hHi.top; omega))
  replace hsl := hsl.kept (g.2 _ hsl.lt)
  replace hz : H.size = z + 165 := by have h7 := g.1; omega
  clear g
  refine W_nrm (c2 := 164) (s2 := 822) rfl rfl ?_
  refine lv_dup hx hb dX6_init_38 rfl ?_
  refine got_V (va_runIN (Ts := lw_good) ⟨hx, hb, hml, hown, hT⟩ (k_X3_init l G (z + 164)) ⟨va_cnB 0 hT (gI mc_X3_init) rfl rfl rfl hX.2.1.2.2.1 (hT _ mz_X3) (by decide +kernel) ⟨Nat.le_of_ble_eq_true rfl, Nat.le_of_ble_eq_true rfl⟩, rfl, hT _ mi_X3_init⟩ (pre_s hK ⟨hPd, hz⟩) rfl rfl hl.1 rfl (Nat.le_of_ble_eq_true rfl) dX6_init_39 ⟨Nat.le_of_ble_eq_true rfl, Nat.le_of_ble_eq_true rfl⟩) hS (fun q (hq : _ ∧ _) => show _ ∧ _ from ⟨by omega, by omega⟩) (fun q (hq : _ ∧ _) => show _ ∧ _ from ⟨by omega, by omega⟩) (fun H locs h1 hzz hk hS => ?_)
  replace ho := ho.kept (hk _ ho.lt (fun (w : _ ∧ _) => by omega))
  replace hSh := hSh.kept (fun q h8 h9 => hk q (by have h7 := hSh.top; omega) (fun (w : _ ∧ _) => by omega))
  replace hHi := hHi.kept (fun q h8 h9 => hk q (by have h7 := hHi.top; omega) (fun (w : _ ∧ _) => by omega))
  replace hsl := hsl.kept (hk _ hsl.lt (fun (w : _ ∧ _) => by omega))
  replace hz : H.size = z + 166 := by have h7 := h1.2; omega
  replace hPd := h1.1
  clear hk hzz h1
  refine W_nrm (c2 := 165) (s2 := 902) rfl rfl ?_
  refine rpF (C := RX6) (T := TX6) (N := 6) (v := .ref (z + 164)) (ty := .object "TeaBlends$Pad") hx hb hT inX6 tyX6 tyX6_ok nmX6 hown hK ho rfl 3 (by decide) mf_X6_30 rfl hnm rfl (by decide +kernel) rfl rfl (Nat.le_of_ble_eq_true rfl) hS (show _ ∧ _ from ⟨by omega, by omega⟩) dX6_init_42 (fun H locs h1 o hS => ?_)
  replace ho : ob G 6 z [.ref (z + 1), .ref (z + 21), .ref (z + 163), .ref (z + 164), .null, .null] H := h1
  replace hSh := hSh.kept (fun q h8 h9 => o.2 q (by omega))
  replace hHi := hHi.kept (fun q h8 h9 => o.2 q (by omega))
  replace hsl := hsl.kept (o.2 _ (by omega))
  replace hPd := hPd.kept (fun q h8 h9 => o.2 q (by omega))
  replace hz : H.size = z + 166 := o.1.trans hz
  clear o
  refine lv_aload_n hx hb dX6_init_45 rfl (lv_at hl 0 rfl) ?_
  refine r_new (ci := 2) (C := RX2) (T := TX2) (N := 5) (h := z + 166) (fs := [.null, .int 0, .int 0, .int 0, .null]) hx hb hT inX2 tyX2 tyX2_ok hown ml_X6_34 mn_X2 mz_X2 hK rfl dfX2 (by omega) (Nat.le_of_ble_eq_true rfl) (Nat.le_of_ble_eq_true rfl) hS dX6_init_46 (fun H hOr g hS => ?_)
  replace ho := ho.kept (g.2 _ ho.lt)
  replace hSh := hSh.kept (fun q h8 h9 => g.2 q (by have h7 := hSh.top; omega))
  replace hHi := hHi.kept (fun q h8 h9 => g.2 q (by have h7 := hHi.top; omega))
  replace hsl := hsl.kept (g.2 _ hsl.lt)
  replace hPd := hPd.kept (fun q h8 h9 => g.2 q (by have h7 := hPd.top; omega))
  replace hz : H.size = z + 167 := by have h7 := g.1; omega
  clear g
  refine W_nrm (c2 := 166) (s2 := 907) rfl rfl ?_
  refine lv_dup hx hb dX6_init_49 rfl ?_
  refine lv_aload_n hx hb dX6_init_50 rfl (lv_at hl 0 rfl) ?_
  refine rg (C := RX6) (T := TX6) (N := 6) (v := .ref (z + 164)) hx hb hT inX6 hown hK ho rfl 3 (by decide) mf_X6_30 rfl dX6_init_51 ?_
  refine got_V (va_runI (Ts := lw_good) ⟨hx, hb, hml, hown, hT⟩ (k_X2_init l G (z + 166) (z + 164)) (cw_X6_36 hT ⟨Nat.le_of_ble_eq_true rfl, Nat.le_of_ble_eq_true rfl⟩) (pre_s hK ⟨hOr, hz⟩) rfl rfl hl.1 rfl (Nat.le_of_ble_eq_true rfl) dX6_init_54 ⟨Nat.le_of_ble_eq_true rfl, Nat.le_of_ble_eq_true rfl⟩) hS (fun q (hq : _ ∧ _) => show _ ∧ _ from ⟨by omega, by omega⟩) (fun q (hq : _ ∧ _) => show _ ∧ _ from ⟨by omega, by omega⟩) (fun H locs h1 hzz hk hS => ?_)
  replace ho := ho.kept (hk _ ho.lt (fun (w : _ ∧ _) => by omega))
  replace hSh := hSh.kept (fun q h8 h9 => hk q (by have h7 := hSh.top; omega) (fun (w : _ ∧ _) => by omega))
  replace hHi := hHi.kept (fun q h8 h9 => hk q (by have h7 := hHi.top; omega) (fun (w : _ ∧ _) => by omega))
  replace hsl := hsl.kept (hk _ hsl.lt (fun (w : _ ∧ _) => by omega))
  replace hPd := hPd.kept (fun q h8 h9 => hk q (by have h7 := hPd.top; omega) (fun (w : _ ∧ _) => by omega))
  replace hz : H.size = z + 168 := by have h7 := h1.2; omega
  replace hOr := h1.1
  clear hk hzz h1
  refine W_nrm (c2 := 167) (s2 := 912) rfl rfl ?_
  refine rpF (C := RX6) (T := TX6) (N := 6) (v := .ref (z + 166)) (ty := .object "TeaBlends$OrderReader") hx hb hT inX6 tyX6 tyX6_ok nmX6 hown hK ho rfl 4 (by decide) mf_X6_39 rfl hnm rfl (by decide +kernel) rfl rfl (Nat.le_of_ble_eq_true rfl) hS (show _ ∧ _ from ⟨by omega, by omega⟩) dX6_init_57 (fun H locs h1 o hS => ?_)
  replace ho : ob G 6 z [.ref (z + 1), .ref (z + 21), .ref (z + 163), .ref (z + 164), .ref (z + 166), .null] H := h1
  replace hSh := hSh.kept (fun q h8 h9 => o.2 q (by omega))
  replace hHi := hHi.kept (fun q h8 h9 => o.2 q (by omega))
  replace hsl := hsl.kept (o.2 _ (by omega))
  replace hPd := hPd.kept (fun q h8 h9 => o.2 q (by omega))
  replace hOr := hOr.kept (fun q h8 h9 => o.2 q (by omega))
  replace hz : H.size = z + 168 := o.1.trans hz
  clear o
  refine lv_aload_n hx hb dX6_init_60 rfl (lv_at hl 0 rfl) ?_
  refine r_new (ci := 4) (C := RX4) (T := TX4) (N := 10) (h := z + 168) (fs := [.null, .int 0, .int 0, .null, .null, .null, .null, .null, .null, .null]) hx hb hT inX4 tyX4 tyX4_ok hown ml_X6_43 mn_X4 mz_X4 hK rfl dfX4 (by omega) (Nat.le_of_ble_eq_true rfl) (Nat.le_of_ble_eq_true rfl) hS dX6_init_61 (fun H hSr g hS => ?_)
  replace ho := ho.kept (g.2 _ ho.lt)
  replace hSh := hSh.kept (fun q h8 h9 => g.2 q (by have h7 := hSh.top; omega))
  replace hHi := hHi.kept (fun q h8 h9 => g.2 q (by have h7 := hHi.top; omega))
  replace hsl := hsl.kept (g.2 _ hsl.lt)
  replace hPd := hPd.kept (fun q h8 h9 => g.2 q (by have h7 := hPd.top; omega))
  replace hOr := hOr.kept (fun q h8 h9 => g.2 q (by have h7 := hOr.top; omega))
  replace hz : H.size = z + 169 := by have h7 := g.1; omega
  clear g
  refine W_nrm (c2 := 168) (s2 := 922) rfl rfl ?_
  refine lv_dup hx hb dX6_init_64 rfl ?_
  refine got_V (va_runIN (Ts := lw_good) ⟨hx, hb, hml, hown, hT⟩ (k_X4_init l G (z + 168) t) ⟨va_cnB 0 hT (gI mc_X4_init) rfl rfl rfl hX.2.1.2.2.2.1 (hT _ mz_X4) (by decide +kernel) ⟨Nat.le_of_ble_eq_true rfl, Nat.le_of_ble_eq_true rfl⟩, rfl, hT _ mi_X4_init⟩ (pre_sx SB_SxC hK ⟨hSr, hz⟩ (fun U hU hW => hX.call hS (fun q (hq : _ ∧ _) => show _ ∧ _ from ⟨by omega, by omega⟩) hU hW)) rfl rfl hl.1 rfl (Nat.le_of_ble_eq_true rfl) dX6_init_65 ⟨Nat.le_of_ble_eq_true rfl, Nat.le_of_ble_eq_true rfl⟩) hS (fun q (hq : _ ∧ _) => show _ ∧ _ from ⟨by omega, by omega⟩) (fun q (hq : _ ∧ _) => show _ ∧ _ from ⟨by omega, by omega⟩) (fun H locs h1 hzz hk hS => ?_)
  replace ho := ho.kept (hk _ ho.lt (fun (w : _ ∧ _) => by omega))
  replace hSh := hSh.kept (fun q h8 h9 => hk q (by have h7 := hSh.top; omega) (fun (w : _ ∧ _) => by omega))
  replace hHi := hHi.kept (fun q h8 h9 => hk q (by have h7 := hHi.top; omega) (fun (w : _ ∧ _) => by omega))
  replace hsl := hsl.kept (hk _ hsl.lt (fun (w : _ ∧ _) => by omega))
  replace hPd := hPd.kept (fun q h8 h9 => hk q (by have h7 := hPd.top; omega) (fun (w : _ ∧ _) => by omega))
  replace hOr := hOr.kept (fun q h8 h9 => hk q (by have h7 := hOr.top; omega) (fun (w : _ ∧ _) => by omega))
  replace hz : H.size = z + 197 := by have h7 := h1.2; omega
  replace hSr := h1.1
  clear hk hzz h1
  refine W_nrm (c2 := 196) (s2 := 1038) rfl rfl ?_
  refine rpF (C := RX6) (T := TX6) (N := 6) (v := .ref (z + 168)) (ty := .object "TeaBlends$Search") hx hb hT inX6 tyX6 tyX6_ok nmX6 hown hK ho rfl 5 (by decide) mf_X6_46 rfl hnm rfl (by decide +kernel) rfl rfl (Nat.le_of_ble_eq_true rfl) hS (show _ ∧ _ from ⟨by omega, by omega⟩) dX6_init_68 (fun H locs h1 o hS => ?_)
  replace ho : ob G 6 z [.ref (z + 1), .ref (z + 21), .ref (z + 163), .ref (z + 164), .ref (z + 166), .ref (z + 168)] H := h1
  replace hSh := hSh.kept (fun q h8 h9 => o.2 q (by omega))
  replace hHi := hHi.kept (fun q h8 h9 => o.2 q (by omega))
  replace hsl := hsl.kept (o.2 _ (by omega))
  replace hPd := hPd.kept (fun q h8 h9 => o.2 q (by omega))
  replace hOr := hOr.kept (fun q h8 h9 => o.2 q (by omega))
  replace hSr := hSr.kept (fun q h8 h9 => o.2 q (by omega))
  replace hz : H.size = z + 197 := o.1.trans hz
  clear o
  exact nd_V hQ hx hb hr hlocks dX6_init_71 hS (⟨⟨⟨ho, hSh, hHi⟩, hsl, ⟨hOr, hPd⟩, hSr⟩, hz⟩)
