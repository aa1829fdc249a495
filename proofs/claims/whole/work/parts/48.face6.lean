set_option maxHeartbeats 4000000 in
set_option maxRecDepth 100000 in
theorem k_X6_undo (l : Launch) (G : GG) (z nx kp : Nat) (r : Nat → Int32) (T : Nat → Nat → Int32) (hnx : nx < 7) (hkp : kp ≤ 6) : Met l yX6_undo (ws_ yX6_undo cX6_undo 1 (some .int)) (rm_ 5) (PC G [.ref z] (T3 G z r T nx kp)) (QI (fun v H => (kp = 0 ∧ v = -5 ∧ T3 G z r T nx kp H) ∨ (0 < kp ∧ v = nI (kp - 1) ∧ T3 G z (T ((nx + 6) % 7)) T ((nx + 6) % 7) (kp - 1) H)) (In z 163)) 0 0 (In z 163) := by
  refine met_q (by decide +kernel) (Nat.le_of_ble_eq_true rfl) ?_
  intro p e s m args below meth c Q hQ hx hb hr hT hown hml hlocks hnm hK hZ ls hl
  have hl : lv_has ls 1 [(0, .ref z)] := hl
  have hS : va_S (In z 163) s.heap s.heap [] := va_S.rf
  refine lv_aload_n hx hb dX6_undo_0 rfl (lv_at hl 0 rfl) ?_
  refine rg (C := RX6) (T := TX6) (N := 6) (v := .ref (z + 21)) hx hb hT inX6 hown hK hZ.1 rfl 1 (by decide) mf_X6_19 rfl dX6_undo_1 ?_
  refine lv_aload_n hx hb dX6_undo_4 rfl (lv_at hl 0 rfl) ?_
  refine rg (C := RX6) (T := TX6) (N := 6) (v := .ref (z + 1)) hx hb hT inX6 hown hK hZ.1 rfl 0 (by decide) mf_X6_10 rfl dX6_undo_5 ?_
  refine got_I (run_i hx hb hml hown hT hK hl.1 (k_X0_takeBack l G (z + 21) (z + 1) nx kp T r hnx hkp (by omega)) (cw_X6_205 hT ⟨Nat.le_of_ble_eq_true rfl, Nat.le_of_ble_eq_true rfl⟩) hZ.2.2.1 rfl ⟨hZ.2.2, hZ.2.1⟩ rfl rfl (Nat.le_of_ble_eq_true rfl) dX6_undo_8 ⟨Nat.zero_le _, Nat.zero_le _⟩) hS (fun q (hq : (_ ∧ _) ∨ (_ ∧ _)) => show _ ∧ _ from ⟨by omega, by omega⟩) (fun q (hq : (_ ∧ _) ∨ (_ ∧ _)) => show _ ∧ _ from ⟨by omega, by omega⟩) (fun v_1 H locs h1 hz hk hS => ?_)
  have ht1 := hZ.2.1.top
  have hT1 := hZ.1.kept (hk z (by omega) (fun (q : (_ ∧ _) ∨ (_ ∧ _)) => by omega))
  rcases h1 with ⟨k0, hv, hHi, hSh⟩ | ⟨k0, hv, hHi, hSh⟩
  · subst hv
    refine lv_if_eq (tgt := 24) hx hb dX6_undo_11 (by decide) (fun c1 => ?_) (fun c1 => ?_)
    · refine lv_bipush (v := (-5)) hx hb dX6_undo_24 (by decide) ?_
      exact nd_I hQ hx hb hr hlocks dX6_undo_26 hS (Or.inl ⟨k0, rfl, hT1, hSh, hHi⟩)
    · exact absurd rfl c1
  · subst hv
    have hZ : T3 G z (T ((nx + 6) % 7)) T ((nx + 6) % 7) (kp - 1) H := ⟨hT1, hSh, hHi⟩
    refine lv_if_eq (tgt := 24) hx hb dX6_undo_11 (by decide) (fun c1 => ?_) (fun c1 => ?_)
    · exact absurd c1 (by decide)
    · refine lv_aload_n hx hb dX6_undo_14 rfl (lv_at hl 0 rfl) ?_
      refine rg (C := RX6) (T := TX6) (N := 6) (v := .ref (z + 21)) hx hb hT inX6 hown hK hZ.1 rfl 1 (by decide) mf_X6_19 rfl dX6_undo_15 ?_
      refine rg (C := RX0) (T := TX0) (N := 3) (v := .int (nI (kp - 1))) hx hb hT inX0 hown hK hZ.2.2.1 rfl 2 (by decide) mf_X6_167 rfl dX6_undo_18 ?_
      refine lv_goto (tgt := 26) hx hb dX6_undo_21 (by decide) ?_
      exact nd_I hQ hx hb hr hlocks dX6_undo_26 hS (Or.inr ⟨k0, rfl, hZ⟩)
