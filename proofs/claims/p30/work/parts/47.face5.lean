/-- the face with its shop and its search -/
def TS (G : GG) (z : Nat) (r : Nat → Int32) (S : Nat → Nat → Int32) (H : Heap) : Prop := Te G z H ∧ ShopAt G (z + 1) r H ∧ SrAt G (z + 168) S H

set_option maxHeartbeats 4000000 in
set_option maxRecDepth 100000 in
theorem k_X6_cheapest (l : Launch) (G : GG) (z : Nat) (r : Nat → Int32) (S : Nat → Nat → Int32) (x : Int32) (hv : Iv r) (h90 : ∀ c, c < 4 → S 9 c = 0)  : Met l yX6_cheapest (ws_ yX6_cheapest cX6_cheapest 2 (some .int)) (rm_ 9) (PC G [.ref z, .int x] (TS G z r S)) (QI (fun v H => v = cpO r x ∧ ∃ S2, (∀ c, c < 4 → S2 9 c = 0) ∧ TS G z r S2 H) (In (z + 168) 29)) 0 0 (In (z + 168) 29) := by
  refine met_q (by decide +kernel) (Nat.le_of_ble_eq_true rfl) ?_
  intro p e s m args below meth c Q hQ hx hb hr hT hown hml hlocks hnm hK hZ ls hl
  have hl : lv_has ls 2 [(0, .ref z), (1, .int x)] := hl
  have hS : va_S (In (z + 168) 29) s.heap s.heap [] := va_S.rf
  refine lv_iload_n hx hb dX6_cheapest_0 rfl (lv_at hl 1 rfl) ?_
  refine lv_if_lt (tgt := 9) hx hb dX6_cheapest_1 (by decide) (fun c1 => ?_) (fun c1 => ?_)
  · refine lv_bipush (v := (-2)) hx hb dX6_cheapest_9 (by decide) ?_
    exact nd_I hQ hx hb hr hlocks dX6_cheapest_11 hS (⟨cpO_1 (fun q => i32_lt_nle c1 q.1), S, h90, hZ⟩)
  · refine lv_iload_n hx hb dX6_cheapest_4 rfl (lv_at hl 1 rfl) ?_
    refine lv_iconst (v := 5) hx hb dX6_cheapest_5 (by decide) ?_
    refine lv_icmp_le (tgt := 12) hx hb dX6_cheapest_6 (by decide) (fun c2 => ?_) (fun c2 => ?_)
    · have hx6 : 0 ≤ x ∧ x ≤ 5 := ⟨i32_nlt c1, c2⟩
      refine lv_aload_n hx hb dX6_cheapest_12 rfl (lv_at hl 0 rfl) ?_
      refine rg (C := RX6) (T := TX6) (N := 6) (v := .ref (z + 168)) hx hb hT inX6 hown hK hZ.1 rfl 5 (by decide) mf_X6_46 rfl dX6_cheapest_13 ?_
      refine lv_aload_n hx hb dX6_cheapest_16 rfl (lv_at hl 0 rfl) ?_
      refine rg (C := RX6) (T := TX6) (N := 6) (v := .ref (z + 1)) hx hb hT inX6 hown hK hZ.1 rfl 0 (by decide) mf_X6_10 rfl dX6_cheapest_17 ?_
      refine lv_iconst (v := (-1)) hx hb dX6_cheapest_20 (by decide) ?_
      refine got_I (run_i hx hb hml hown hT hK hl.1 (k_X4_find l G (z + 168) S (z + 1) r none (by omega) hv (fun k hk => by cases hk) h90) (cw_X6_80 hT ⟨Nat.le_of_ble_eq_true rfl, Nat.le_of_ble_eq_true rfl⟩) hZ.2.2.1 rfl ⟨hZ.2.2, hZ.2.1⟩ rfl rfl (Nat.le_of_ble_eq_true rfl) dX6_cheapest_21 ⟨Nat.zero_le _, Nat.zero_le _⟩) hS (fun q hq => hq) (fun q hq => hq) (fun v_1 H locs h1 hz hk hS => ?_)
      obtain ⟨hv1, S2, hFdS2, hSr⟩ := h1
      have ht1 := hZ.2.1.top
      have ht2 := hZ.2.2.top
      have hZ : TS G z r S2 H := ⟨hZ.1.kept (hk z (by omega) (fun (q : _ ∧ _) => by omega)), hZ.2.1.kept (fun q _ _ => hk q (by omega) (fun (w : _ ∧ _) => by omega)), hSr⟩
      have hv1 : v_1 = bc (¬ (skR r).1 = -1) := hv1
      have hFdS2 : FdS S2 (skR r) := hFdS2
      rw [hv1]
      refine lv_if_ne (tgt := 30) hx hb dX6_cheapest_24 (by decide) (fun c3 => ?_) (fun c3 => ?_)
      · have hf := bc_n0 c3
        refine lv_iload_n hx hb dX6_cheapest_30 rfl (lv_at hl 1 rfl) ?_
        refine lv_if_ne (tgt := 47) hx hb dX6_cheapest_31 (by decide) (fun c4 => ?_) (fun c4 => ?_)
        · obtain ⟨k, hk6, rfl⟩ := x_ix (n := 5) hx6 (by omega)
          have hk0 : 0 < k := Nat.pos_of_ne_zero (fun q => c4 (by rw [q]; rfl))
          refine lv_aload_n hx hb dX6_cheapest_47 rfl (lv_at hl 0 rfl) ?_
          refine rg (C := RX6) (T := TX6) (N := 6) (v := .ref (z + 168)) hx hb hT inX6 hown hK hZ.1 rfl 5 (by decide) mf_X6_46 rfl dX6_cheapest_48 ?_
          refine rg (C := RX4) (T := TX4) (N := 10) (v := .ref ((z + 168) + 1)) hx hb hT inX4 hown hK hZ.2.2.1 rfl 0 (by decide) mf_X6_84 rfl dX6_cheapest_51 ?_
          refine lv_iload_n hx hb dX6_cheapest_54 rfl (lv_at hl 1 rfl) ?_
          refine lv_iconst (v := 1) hx hb dX6_cheapest_55 (by decide) ?_
          refine lv_isub hx hb dX6_cheapest_56 ?_
          refine r_ialdS (y := S2 0 (k - 1)) hx hb hK hZ.2.2.2.1 (k - 1) (pk_sub (b := 1) hk0) (by omega) (Nat.le_of_ble_eq_true rfl) rfl dX6_cheapest_57 ?_
          rw [hFdS2.2.2 (k - 1) (by omega)]
          exact nd_I hQ hx hb hr hlocks dX6_cheapest_58 hS (⟨cpO_4 hk6 hx6 hf c4, S2, hFdS2.1, hZ⟩)
        · refine lv_aload_n hx hb dX6_cheapest_34 rfl (lv_at hl 0 rfl) ?_
          refine rg (C := RX6) (T := TX6) (N := 6) (v := .ref (z + 168)) hx hb hT inX6 hown hK hZ.1 rfl 5 (by decide) mf_X6_46 rfl dX6_cheapest_35 ?_
          refine rg (C := RX4) (T := TX4) (N := 10) (v := .int (S2 1 0)) hx hb hT inX4 hown hK hZ.2.2.1 rfl 1 (by decide) mf_X6_92 rfl dX6_cheapest_38 ?_
          rw [hFdS2.2.1 hf]
          refine lv_bipush (v := 20) hx hb dX6_cheapest_41 (by decide) ?_
          refine lv_idiv hx hb dX6_cheapest_43 (by decide) ?_
          refine lv_goto (tgt := 58) hx hb dX6_cheapest_44 (by decide) ?_
          exact nd_I hQ hx hb hr hlocks dX6_cheapest_58 hS (⟨cpO_3 hx6 hf c4, S2, hFdS2.1, hZ⟩)
      · have hf : (skR r).1 = -1 := Decidable.byContradiction (fun q => bc_e0 c3 q)
        refine lv_bipush (v := (-6)) hx hb dX6_cheapest_27 (by decide) ?_
        exact nd_I hQ hx hb hr hlocks dX6_cheapest_29 hS (⟨cpO_2 hx6 hf, S2, hFdS2.1, hZ⟩)
    · refine lv_bipush (v := (-2)) hx hb dX6_cheapest_9 (by decide) ?_
      exact nd_I hQ hx hb hr hlocks dX6_cheapest_11 hS (⟨cpO_1 (fun q => c2 q.2), S, h90, hZ⟩)
