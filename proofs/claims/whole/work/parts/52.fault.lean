set_option maxHeartbeats 4000000 in
set_option maxRecDepth 100000 in
theorem k_X6_fault (l : Launch) (G : GG) (z : Nat) (T : Nat → Int32) (n : Nat) (N : Nat → Int32) (u0 j : Nat) (kd : Int32) (ad tv : Nat → Nat) (hn : n ≤ 80) : Met l yX6_fault (ws_ yX6_fault cX6_fault 1 (some .int)) (rm_ 8) (PCX G (SxR ad tv (In (z + 166) 2)) [.ref z] (fun H => Te G z H ∧ RdC G (z + 166) (z + 164) T n N u0 j kd H)) (QI (fun v H => v = (if (wlA T n N).1 then -6 else nI (wlA T n N).2.1) ∧ Te G z H ∧ ∃ j2 k2, RdC G (z + 166) (z + 164) T n (wlA T n N).2.2 (wlA T n N).2.1 j2 k2 H) (In (z + 166) 2)) 0 0 (In (z + 166) 2) := by
  refine met_qx (by decide +kernel) (Nat.le_of_ble_eq_true rfl) ?_
  intro p e s m args below meth c Q hQ hx hb hr hT hown hml hlocks hnm hK hX hZ ls hl
  have hl : lv_has ls 1 [(0, .ref z)] := hl
  have hS : va_S (In (z + 166) 2) s.heap s.heap [] := va_S.rf
  refine lv_aload_n hx hb dX6_fault_0 rfl (lv_at hl 0 rfl) ?_
  refine rg (C := RX6) (T := TX6) (N := 6) (v := .ref (z + 166)) hx hb hT inX6 hown hK hZ.1 rfl 4 (by decide) mf_X6_39 rfl dX6_fault_1 ?_
  refine got_I (run_ix SB_SxR (fun U hU hW => hX.call hS (fun _ h => h) hU hW) hx hb hml hown hT hK hl.1 (k_X2_findFault l G (z + 166) (z + 164) T n N u0 j kd ad tv hn (by omega)) (cw_X6_192 hT ⟨Nat.le_of_ble_eq_true rfl, Nat.le_of_ble_eq_true rfl⟩) hZ.2.1.1 rfl hZ.2 rfl rfl (Nat.le_of_ble_eq_true rfl) dX6_fault_4 ⟨Nat.zero_le _, Nat.zero_le _⟩) hS (fun q hq => hq) (fun q hq => hq) (fun v1 H locs h1 hz hk hS => ?_)
  obtain ⟨hv, j2, k2, hR⟩ := h1
  have ht1 := hZ.2.1.top
  have hZ1 := hZ.1.kept (hk z (by omega) (fun (q : _ ∧ _) => by omega))
  exact nd_I hQ hx hb hr hlocks dX6_fault_7 hS (⟨hv, hZ1, j2, k2, hR⟩)
