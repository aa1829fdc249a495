set_option maxHeartbeats 4000000 in
set_option maxRecDepth 100000 in
theorem k_X6_carryOutOne (l : Launch) (G : GG) (z : Nat) (r T : Nat → Int32) (n : Nat) (N : Nat → Int32) (u0 j : Nat) (kd : Int32) (hw : WF r) (hkd : kd = 43 ∨ kd = 115 ∨ kd = 100 ∨ kd = 109) : Met l yX6_carryOutOne (ws_ yX6_carryOutOne cX6_carryOutOne 2 (some .int)) (rm_ 6) (PC G [.ref z] (fun H => Te G z H ∧ ShopAt G (z + 1) r H ∧ RdC G (z + 166) (z + 164) T n N u0 j kd H)) (QI (fun v H => v = (opO r kd N).1 ∧ Te G z H ∧ ShopAt G (z + 1) (opO r kd N).2 H ∧ RdC G (z + 166) (z + 164) T n N u0 j kd H) (In (z + 1) 20)) 0 0 (In (z + 1) 20) := by
  refine met_q (by decide +kernel) (Nat.le_of_ble_eq_true rfl) ?_
  intro p e s m args below meth c Q hQ hx hb hr hT hown hml hlocks hnm hK hZ ls hl
  have hl : lv_has ls 2 [(0, .ref z)] := hl
  have hS : va_S (In (z + 1) 20) s.heap s.heap [] := va_S.rf
  refine lv_aload_n hx hb dX6_carryOutOne_0 rfl (lv_at hl 0 rfl) ?_
  refine rg (C := RX6) (T := TX6) (N := 6) (v := .ref (z + 166)) hx hb hT inX6 hown hK hZ.1 rfl 4 (by decide) mf_X6_39 rfl dX6_carryOutOne_1 ?_
  refine rg (C := RX2) (T := TX2) (N := 5) (v := .ref ((z + 166) + 1)) hx hb hT inX2 hown hK hZ.2.2.1.1 rfl 4 (by decide) mf_X6_212 rfl dX6_carryOutOne_4 ?_
  refine lv_astore_n (lv' := [(1, .ref ((z + 166) + 1)), (0, .ref z)]) hx hb dX6_carryOutOne_7 rfl hl (by decide) rfl (fun ls hl => ?_)
  refine lv_aload_n hx hb dX6_carryOutOne_8 rfl (lv_at hl 1 rfl) ?_
  refine rg (C := RX6) (T := TX6) (N := 6) (v := .ref (z + 166)) hx hb hT inX6 hown hK hZ.1 rfl 4 (by decide) mf_X6_39 rfl dX6_carryOutOne_9 ?_
  refine rg (C := RX2) (T := TX2) (N := 5) (v := .int kd) hx hb hT inX2 hown hK hZ.2.2.1.1 rfl 3 (by decide) mf_X6_215 rfl dX6_carryOutOne_12 ?_
  rcases hkd with hk2 | hk2 | hk2 | hk2
  · refine lv_lookup hx hb dX6_carryOutOne_15 (by decide) (off := 41) (tgt := 56) (by rw [hk2]; rfl) (by decide) ?_
    refine lv_aload_n hx hb dX6_carryOutOne_56 rfl (lv_at hl 1 rfl) ?_
    refine rg (C := RX6) (T := TX6) (N := 6) (v := .ref (z + 1)) hx hb hT inX6 hown hK hZ.1 rfl 0 (by decide) mf_X6_10 rfl dX6_carryOutOne_57 ?_
    refine lv_aload_n hx hb dX6_carryOutOne_60 rfl (lv_at hl 0 rfl) ?_
    refine lv_iconst (v := 0) hx hb dX6_carryOutOne_61 (by decide) ?_
    refine r_ialdS (y := N 0) hx hb hK hZ.2.2.1.2 0 (by decide) (by omega) (Nat.le_of_ble_eq_true rfl) rfl dX6_carryOutOne_62 ?_
    refine lv_aload_n hx hb dX6_carryOutOne_63 rfl (lv_at hl 0 rfl) ?_
    refine lv_iconst (v := 1) hx hb dX6_carryOutOne_64 (by decide) ?_
    refine r_ialdS (y := N 1) hx hb hK hZ.2.2.1.2 1 (by decide) (by omega) (Nat.le_of_ble_eq_true rfl) rfl dX6_carryOutOne_65 ?_
    refine lv_aload_n hx hb dX6_carryOutOne_66 rfl (lv_at hl 0 rfl) ?_
    refine lv_iconst (v := 2) hx hb dX6_carryOutOne_67 (by decide) ?_
    refine r_ialdS (y := N 2) hx hb hK hZ.2.2.1.2 2 (by decide) (by omega) (Nat.le_of_ble_eq_true rfl) rfl dX6_carryOutOne_68 ?_
    refine lv_aload_n hx hb dX6_carryOutOne_69 rfl (lv_at hl 0 rfl) ?_
    refine lv_iconst (v := 3) hx hb dX6_carryOutOne_70 (by decide) ?_
    refine r_ialdS (y := N 3) hx hb hK hZ.2.2.1.2 3 (by decide) (by omega) (Nat.le_of_ble_eq_true rfl) rfl dX6_carryOutOne_71 ?_
    refine lv_aload_n hx hb dX6_carryOutOne_72 rfl (lv_at hl 0 rfl) ?_
    refine lv_iconst (v := 4) hx hb dX6_carryOutOne_73 (by decide) ?_
    refine r_ialdS (y := N 4) hx hb hK hZ.2.2.1.2 4 (by decide) (by omega) (Nat.le_of_ble_eq_true rfl) rfl dX6_carryOutOne_74 ?_
    refine got_I (run_i hx hb hml hown hT hK hl.1 (k_X5_addLeaf l G (z + 1) r (N 0) (N 1) (N 2) (N 3) (N 4) hw) (cw_X6_62 hT ⟨Nat.le_of_ble_eq_true rfl, Nat.le_of_ble_eq_true rfl⟩) hZ.2.1.1 rfl hZ.2.1 rfl rfl (Nat.le_of_ble_eq_true rfl) dX6_carryOutOne_75 ⟨Nat.zero_le _, Nat.zero_le _⟩) hS (fun q (hq : _ ∧ _) => show _ ∧ _ from ⟨by omega, by omega⟩) (fun q (hq : _ ∧ _) => show _ ∧ _ from ⟨by omega, by omega⟩) (fun v_1 H locs h1 hz hk hS => ?_)
    obtain ⟨hv, hSn⟩ := h1
    have ht1 := hZ.2.1.top
    have ht2 := hZ.2.2.1.top
    have ht3 := hZ.2.2.2.top
    have hZ1 := hZ.1.kept (hk z (by omega) (fun (q : _ ∧ _) => by omega))
    have hZ3 : RdC G (z + 166) (z + 164) T n N u0 j kd H := ⟨hZ.2.2.1.kept (fun q _ _ => hk q (by omega) (fun (w : _ ∧ _) => by omega)), hZ.2.2.2.kept (fun q _ _ => hk q (by omega) (fun (w : _ ∧ _) => by omega))⟩
    have ho : opO r kd N = _ := if_pos hk2
    exact nd_I hQ hx hb hr hlocks dX6_carryOutOne_78 hS (by rw [ho]; exact ⟨hv, hZ1, hSn, hZ3⟩)
  · refine lv_lookup hx hb dX6_carryOutOne_15 (by decide) (off := 64) (tgt := 79) (by rw [hk2]; rfl) (by decide) ?_
    refine lv_aload_n hx hb dX6_carryOutOne_79 rfl (lv_at hl 1 rfl) ?_
    refine rg (C := RX6) (T := TX6) (N := 6) (v := .ref (z + 1)) hx hb hT inX6 hown hK hZ.1 rfl 0 (by decide) mf_X6_10 rfl dX6_carryOutOne_80 ?_
    refine lv_aload_n hx hb dX6_carryOutOne_83 rfl (lv_at hl 0 rfl) ?_
    refine lv_iconst (v := 0) hx hb dX6_carryOutOne_84 (by decide) ?_
    refine r_ialdS (y := N 0) hx hb hK hZ.2.2.1.2 0 (by decide) (by omega) (Nat.le_of_ble_eq_true rfl) rfl dX6_carryOutOne_85 ?_
    refine lv_aload_n hx hb dX6_carryOutOne_86 rfl (lv_at hl 0 rfl) ?_
    refine lv_iconst (v := 1) hx hb dX6_carryOutOne_87 (by decide) ?_
    refine r_ialdS (y := N 1) hx hb hK hZ.2.2.1.2 1 (by decide) (by omega) (Nat.le_of_ble_eq_true rfl) rfl dX6_carryOutOne_88 ?_
    refine got_I (run_i hx hb hml hown hT hK hl.1 (k_X5_changeShare l G (z + 1) r (N 0) (N 1) hw) (cw_X6_77 hT ⟨Nat.le_of_ble_eq_true rfl, Nat.le_of_ble_eq_true rfl⟩) hZ.2.1.1 rfl hZ.2.1 rfl rfl (Nat.le_of_ble_eq_true rfl) dX6_carryOutOne_89 ⟨Nat.zero_le _, Nat.zero_le _⟩) hS (fun q (hq : _ ∧ _) => show _ ∧ _ from ⟨by omega, by omega⟩) (fun q (hq : _ ∧ _) => show _ ∧ _ from ⟨by omega, by omega⟩) (fun v_2 H locs h1 hz hk hS => ?_)
    obtain ⟨hv, hSn⟩ := h1
    have ht1 := hZ.2.1.top
    have ht2 := hZ.2.2.1.top
    have ht3 := hZ.2.2.2.top
    have hZ1 := hZ.1.kept (hk z (by omega) (fun (q : _ ∧ _) => by omega))
    have hZ3 : RdC G (z + 166) (z + 164) T n N u0 j kd H := ⟨hZ.2.2.1.kept (fun q _ _ => hk q (by omega) (fun (w : _ ∧ _) => by omega)), hZ.2.2.2.kept (fun q _ _ => hk q (by omega) (fun (w : _ ∧ _) => by omega))⟩
    have ho : opO r kd N = _ := (if_neg (by rw [hk2]; decide)).trans (if_pos hk2)
    exact nd_I hQ hx hb hr hlocks dX6_carryOutOne_92 hS (by rw [ho]; exact ⟨hv, hZ1, hSn, hZ3⟩)
  · refine lv_lookup hx hb dX6_carryOutOne_15 (by decide) (off := 78) (tgt := 93) (by rw [hk2]; rfl) (by decide) ?_
    refine lv_aload_n hx hb dX6_carryOutOne_93 rfl (lv_at hl 1 rfl) ?_
    refine rg (C := RX6) (T := TX6) (N := 6) (v := .ref (z + 1)) hx hb hT inX6 hown hK hZ.1 rfl 0 (by decide) mf_X6_10 rfl dX6_carryOutOne_94 ?_
    refine lv_aload_n hx hb dX6_carryOutOne_97 rfl (lv_at hl 0 rfl) ?_
    refine lv_iconst (v := 0) hx hb dX6_carryOutOne_98 (by decide) ?_
    refine r_ialdS (y := N 0) hx hb hK hZ.2.2.1.2 0 (by decide) (by omega) (Nat.le_of_ble_eq_true rfl) rfl dX6_carryOutOne_99 ?_
    refine got_I (run_i hx hb hml hown hT hK hl.1 (k_X5_passDays l G (z + 1) r (N 0) hw) (cw_X6_99 hT ⟨Nat.le_of_ble_eq_true rfl, Nat.le_of_ble_eq_true rfl⟩) hZ.2.1.1 rfl hZ.2.1 rfl rfl (Nat.le_of_ble_eq_true rfl) dX6_carryOutOne_100 ⟨Nat.zero_le _, Nat.zero_le _⟩) hS (fun q (hq : _ ∧ _) => show _ ∧ _ from ⟨by omega, by omega⟩) (fun q (hq : _ ∧ _) => show _ ∧ _ from ⟨by omega, by omega⟩) (fun v_3 H locs h1 hz hk hS => ?_)
    obtain ⟨hv, hSn⟩ := h1
    have ht1 := hZ.2.1.top
    have ht2 := hZ.2.2.1.top
    have ht3 := hZ.2.2.2.top
    have hZ1 := hZ.1.kept (hk z (by omega) (fun (q : _ ∧ _) => by omega))
    have hZ3 : RdC G (z + 166) (z + 164) T n N u0 j kd H := ⟨hZ.2.2.1.kept (fun q _ _ => hk q (by omega) (fun (w : _ ∧ _) => by omega)), hZ.2.2.2.kept (fun q _ _ => hk q (by omega) (fun (w : _ ∧ _) => by omega))⟩
    have ho : opO r kd N = _ := (if_neg (by rw [hk2]; decide)).trans ((if_neg (by rw [hk2]; decide)).trans (if_pos hk2))
    exact nd_I hQ hx hb hr hlocks dX6_carryOutOne_103 hS (by rw [ho]; exact ⟨hv, hZ1, hSn, hZ3⟩)
  · refine lv_lookup hx hb dX6_carryOutOne_15 (by decide) (off := 89) (tgt := 104) (by rw [hk2]; rfl) (by decide) ?_
    refine lv_aload_n hx hb dX6_carryOutOne_104 rfl (lv_at hl 1 rfl) ?_
    refine rg (C := RX6) (T := TX6) (N := 6) (v := .ref (z + 1)) hx hb hT inX6 hown hK hZ.1 rfl 0 (by decide) mf_X6_10 rfl dX6_carryOutOne_105 ?_
    refine lv_aload_n hx hb dX6_carryOutOne_108 rfl (lv_at hl 0 rfl) ?_
    refine lv_iconst (v := 0) hx hb dX6_carryOutOne_109 (by decide) ?_
    refine r_ialdS (y := N 0) hx hb hK hZ.2.2.1.2 0 (by decide) (by omega) (Nat.le_of_ble_eq_true rfl) rfl dX6_carryOutOne_110 ?_
    refine got_I (run_i hx hb hml hown hT hK hl.1 (k_X5_mixGrams l G (z + 1) r (N 0) hw) (cw_X6_96 hT ⟨Nat.le_of_ble_eq_true rfl, Nat.le_of_ble_eq_true rfl⟩) hZ.2.1.1 rfl hZ.2.1 rfl rfl (Nat.le_of_ble_eq_true rfl) dX6_carryOutOne_111 ⟨Nat.zero_le _, Nat.zero_le _⟩) hS (fun q (hq : _ ∧ _) => show _ ∧ _ from ⟨by omega, by omega⟩) (fun q (hq : _ ∧ _) => show _ ∧ _ from ⟨by omega, by omega⟩) (fun v_4 H locs h1 hz hk hS => ?_)
    obtain ⟨hv, hSn⟩ := h1
    have ht1 := hZ.2.1.top
    have ht2 := hZ.2.2.1.top
    have ht3 := hZ.2.2.2.top
    have hZ1 := hZ.1.kept (hk z (by omega) (fun (q : _ ∧ _) => by omega))
    have hZ3 : RdC G (z + 166) (z + 164) T n N u0 j kd H := ⟨hZ.2.2.1.kept (fun q _ _ => hk q (by omega) (fun (w : _ ∧ _) => by omega)), hZ.2.2.2.kept (fun q _ _ => hk q (by omega) (fun (w : _ ∧ _) => by omega))⟩
    have ho : opO r kd N = _ := (if_neg (by rw [hk2]; decide)).trans ((if_neg (by rw [hk2]; decide)).trans (if_neg (by rw [hk2]; decide)))
    exact nd_I hQ hx hb hr hlocks dX6_carryOutOne_114 hS (by rw [ho]; exact ⟨hv, hZ1, hSn, hZ3⟩)
