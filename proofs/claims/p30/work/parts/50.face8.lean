/-! choosing -/
def CH (z : Nat) : Nat → Prop := fun q => (z ≤ q ∧ q < z + 197) ∧ (q < z + 163 ∨ z + 168 ≤ q)
theorem shR_ext {r s1 s2 : Nat → Int32} {n : Nat} (h : ∀ i, i < n → s1 i = s2 i) : shR r s1 n = shR r s2 n := by
  funext k
  unfold shR
  by_cases q : 25 ≤ k ∧ (k - 25) % 14 = 0 ∧ (k - 25) / 14 < n
  · rw [if_pos q, if_pos q, h _ q.2.2]
  · rw [if_neg q, if_neg q]

set_option maxHeartbeats 4000000 in
set_option maxRecDepth 100000 in
theorem k_X6_choose (l : Launch) (G : GG) (z nx kp : Nat) (r : Nat → Int32) (T S : Nat → Nat → Int32) (hnx : nx < 7) (hkp : kp ≤ 6) (hv : Iv r) (h90 : ∀ c, c < 4 → S 9 c = 0) : Met l yX6_choose (ws_ yX6_choose cX6_choose 1 (some .int)) (rm_ 9) (PC G [.ref z] (fun H => T3 G z r T nx kp H ∧ SrAt G (z + 168) S H)) (QI (fun v H => ∃ S2, (∀ c, c < 4 → S2 9 c = 0) ∧ SrAt G (z + 168) S2 H ∧ (((skR r).1 = -1 ∧ v = -5 ∧ T3 G z r T nx kp H) ∨ (¬ (skR r).1 = -1 ∧ v = (coO r).1 ∧ T3c G z r T nx kp (coO r) H))) (CH z)) 0 0 (CH z) := by
  refine met_q (by decide +kernel) (Nat.le_of_ble_eq_true rfl) ?_
  intro p e s m args below meth c Q hQ hx hb hr hT hown hml hlocks hnm hK ⟨hZ, hR⟩ ls hl
  have hl : lv_has ls 1 [(0, .ref z)] := hl
  have hS : va_S (CH z) s.heap s.heap [] := va_S.rf
  have hw := hv.1
  have hn5 := hw.nl5
  refine lv_aload_n hx hb dX6_choose_0 rfl (lv_at hl 0 rfl) ?_
  refine rg (C := RX6) (T := TX6) (N := 6) (v := .ref (z + 168)) hx hb hT inX6 hown hK hZ.1 rfl 5 (by decide) mf_X6_46 rfl dX6_choose_1 ?_
  refine lv_aload_n hx hb dX6_choose_4 rfl (lv_at hl 0 rfl) ?_
  refine rg (C := RX6) (T := TX6) (N := 6) (v := .ref (z + 1)) hx hb hT inX6 hown hK hZ.1 rfl 0 (by decide) mf_X6_10 rfl dX6_choose_5 ?_
  refine lv_iconst (v := (-1)) hx hb dX6_choose_8 (by decide) ?_
  refine got_I (run_i hx hb hml hown hT hK hl.1 (k_X4_find l G (z + 168) S (z + 1) r none (by omega) hv (fun k hk => by cases hk) h90) (cw_X6_80 hT ⟨Nat.le_of_ble_eq_true rfl, Nat.le_of_ble_eq_true rfl⟩) hR.1 rfl ⟨hR, hZ.2.1⟩ rfl rfl (Nat.le_of_ble_eq_true rfl) dX6_choose_9 ⟨Nat.zero_le _, Nat.zero_le _⟩) hS (fun q (hq : _ ∧ _) => show (_ ∧ _) ∧ _ from ⟨⟨by omega, by omega⟩, by omega⟩) (fun q (hq : _ ∧ _) => show (_ ∧ _) ∧ _ from ⟨⟨by omega, by omega⟩, by omega⟩) (fun v_1 H locs h1 hz hk hS => ?_)
  obtain ⟨hv1, S2, hFd, hSr⟩ := h1
  have ht1 := hZ.2.1.top
  have ht2 := hZ.2.2.top
  have hZ : T3 G z r T nx kp H := ⟨hZ.1.kept (hk z (by omega) (fun (q : _ ∧ _) => by omega)), hZ.2.1.kept (fun q _ _ => hk q (by omega) (fun (w : _ ∧ _) => by omega)), hZ.2.2.kept (fun q _ _ => hk q (by omega) (fun (w : _ ∧ _) => by omega))⟩
  have hR := hSr
  have hFd : FdS S2 (skR r) := hFd
  have hv1 : v_1 = bc (¬ (skR r).1 = -1) := hv1
  rw [hv1]
  refine lv_if_ne (tgt := 18) hx hb dX6_choose_12 (by decide) (fun c1 => ?_) (fun c1 => ?_)
  · have hf := bc_n0 c1
    refine lv_aload_n hx hb dX6_choose_18 rfl (lv_at hl 0 rfl) ?_
    refine rg (C := RX6) (T := TX6) (N := 6) (v := .ref (z + 21)) hx hb hT inX6 hown hK hZ.1 rfl 1 (by decide) mf_X6_19 rfl dX6_choose_19 ?_
    refine lv_aload_n hx hb dX6_choose_22 rfl (lv_at hl 0 rfl) ?_
    refine rg (C := RX6) (T := TX6) (N := 6) (v := .ref (z + 1)) hx hb hT inX6 hown hK hZ.1 rfl 0 (by decide) mf_X6_10 rfl dX6_choose_23 ?_
    refine got_V (run_i hx hb hml hown hT hK hl.1 (k_X0_draft l G (z + 21) (z + 1) nx kp T r hnx (by omega)) (cw_X6_50 hT ⟨Nat.le_of_ble_eq_true rfl, Nat.le_of_ble_eq_true rfl⟩) hZ.2.2.1 rfl ⟨hZ.2.2, hZ.2.1⟩ rfl rfl (Nat.le_of_ble_eq_true rfl) dX6_choose_26 ⟨Nat.zero_le _, Nat.zero_le _⟩) hS (fun q (hq : _ ∧ _) => show (_ ∧ _) ∧ _ from ⟨⟨by omega, by omega⟩, by omega⟩) (fun q (hq : _ ∧ _) => show (_ ∧ _) ∧ _ from ⟨⟨by omega, by omega⟩, by omega⟩) (fun  H locs h1 hz hk hS => ?_)
    have ht1 := hZ.2.1.top
    have ht2 := hZ.2.2.top
    have ht3 := hR.top
    have hZ : T3 G z r (updT T nx r) nx kp H := ⟨hZ.1.kept (hk z (by omega) (fun (q : _ ∧ _) => by omega)), hZ.2.1.kept (fun q _ _ => hk q (by omega) (fun (w : _ ∧ _) => by omega)), h1⟩
    have hR := hR.kept (fun q _ _ => hk q (by omega) (fun (w : _ ∧ _) => by omega))
    refine lv_aload_n hx hb dX6_choose_29 rfl (lv_at hl 0 rfl) ?_
    refine rg (C := RX6) (T := TX6) (N := 6) (v := .ref (z + 1)) hx hb hT inX6 hown hK hZ.1 rfl 0 (by decide) mf_X6_10 rfl dX6_choose_30 ?_
    refine lv_aload_n hx hb dX6_choose_33 rfl (lv_at hl 0 rfl) ?_
    refine rg (C := RX6) (T := TX6) (N := 6) (v := .ref (z + 168)) hx hb hT inX6 hown hK hZ.1 rfl 5 (by decide) mf_X6_46 rfl dX6_choose_34 ?_
    refine rg (C := RX4) (T := TX4) (N := 10) (v := .ref ((z + 168) + 1)) hx hb hT inX4 hown hK hR.1 rfl 0 (by decide) mf_X6_84 rfl dX6_choose_37 ?_
    refine got_V (run_i hx hb hml hown hT hK hl.1 (k_X5_takeShares l G (z + 1) (z + 168 + 1) r (S2 0) hw (by omega)) (cw_X6_88 hT ⟨Nat.le_of_ble_eq_true rfl, Nat.le_of_ble_eq_true rfl⟩) hZ.2.1.1 rfl ⟨hZ.2.1, hR.2.1⟩ rfl rfl (Nat.le_of_ble_eq_true rfl) dX6_choose_40 ⟨Nat.zero_le _, Nat.zero_le _⟩) hS (fun q (hq : _ ∧ _) => show (_ ∧ _) ∧ _ from ⟨⟨by omega, by omega⟩, by omega⟩) (fun q (hq : _ ∧ _) => show (_ ∧ _) ∧ _ from ⟨⟨by omega, by omega⟩, by omega⟩) (fun  H locs h1 hz hk hS => ?_)
    have ht1 := hZ.2.1.top
    have ht2 := hZ.2.2.top
    have ht3 := hR.top
    rw [shR_ext (s2 := fun k => nI ((skR r).2 k)) (fun i hi => hFd.2.2 i (by omega))] at h1
    have hco := coO_2 hf
    have hZ : T3 G z (coO r).2 (updT T nx r) nx kp H := ⟨hZ.1.kept (hk z (by omega) (fun (q : _ ∧ _) => by omega)), by rw [hco]; exact h1, hZ.2.2.kept (fun q _ _ => hk q (by omega) (fun (w : _ ∧ _) => by omega))⟩
    have hR := hR.kept (fun q _ _ => hk q (by omega) (fun (w : _ ∧ _) => by omega))
    refine lv_aload_n hx hb dX6_choose_43 rfl (lv_at hl 0 rfl) ?_
    refine rg (C := RX6) (T := TX6) (N := 6) (v := .ref (z + 21)) hx hb hT inX6 hown hK hZ.1 rfl 1 (by decide) mf_X6_19 rfl dX6_choose_44 ?_
    refine lv_aload_n hx hb dX6_choose_47 rfl (lv_at hl 0 rfl) ?_
    refine rg (C := RX6) (T := TX6) (N := 6) (v := .ref (z + 168)) hx hb hT inX6 hown hK hZ.1 rfl 5 (by decide) mf_X6_46 rfl dX6_choose_48 ?_
    refine rg (C := RX4) (T := TX4) (N := 10) (v := .int (S2 1 0)) hx hb hT inX4 hown hK hR.1 rfl 1 (by decide) mf_X6_92 rfl dX6_choose_51 ?_
    rw [hFd.2.1 hf]
    refine lv_bipush (v := 20) hx hb dX6_choose_54 (by decide) ?_
    refine lv_idiv hx hb dX6_choose_56 (by decide) ?_
    rw [show (skR r).1 / 20 = (coO r).1 from by rw [hco]]
    refine got_I (run_i hx hb hml hown hT hK hl.1 (k_X0_settle l G (z + 21) nx kp (updT T nx r) (coO r).1 hnx hkp) (cw_X6_58 hT ⟨Nat.le_of_ble_eq_true rfl, Nat.le_of_ble_eq_true rfl⟩) hZ.2.2.1 rfl hZ.2.2 rfl rfl (Nat.le_of_ble_eq_true rfl) dX6_choose_57 ⟨Nat.zero_le _, Nat.zero_le _⟩) hS (fun q (hq : _ ∧ _) => show (_ ∧ _) ∧ _ from ⟨⟨by omega, by omega⟩, by omega⟩) (fun q (hq : _ ∧ _) => show (_ ∧ _) ∧ _ from ⟨⟨by omega, by omega⟩, by omega⟩) (fun v_2 H locs h1 hz hk hS => ?_)
    obtain ⟨hv2, hHn⟩ := h1
    have ht1 := hZ.2.1.top
    have ht2 := hZ.2.2.top
    have ht3 := hR.top
    have hR := hR.kept (fun q _ _ => hk q (by omega) (fun (w : _ ∧ _) => by omega))
    have hZ : T3c G z r T nx kp (coO r) H := ⟨hZ.1.kept (hk z (by omega) (fun (q : _ ∧ _) => by omega)), hZ.2.1.kept (fun q _ _ => hk q (by omega) (fun (w : _ ∧ _) => by omega)), hHn⟩
    exact nd_I hQ hx hb hr hlocks dX6_choose_60 hS (⟨S2, hFd.1, hR, Or.inr ⟨hf, hv2, hZ⟩⟩)
  · have hf : (skR r).1 = -1 := Decidable.byContradiction (fun q => bc_e0 c1 q)
    refine lv_bipush (v := (-5)) hx hb dX6_choose_15 (by decide) ?_
    exact nd_I hQ hx hb hr hlocks dX6_choose_17 hS (⟨S2, hFd.1, hR, Or.inl ⟨hf, rfl, hZ⟩⟩)
