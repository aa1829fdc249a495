/-! the face: its object; changes -/
abbrev o6 (z : Nat) : List Value := [.ref (z + 1), .ref (z + 21), .ref (z + 163), .ref (z + 164), .ref (z + 166), .ref (z + 168)]
def Te (G : GG) (z : Nat) (H : Heap) : Prop := ob G 6 z (o6 z) H
theorem Te.kept {G : GG} {z : Nat} {H H1 : Heap} (h : Te G z H) (e : H1[z]? = H[z]?) : Te G z H1 := ob.kept h e
theorem HistAt.top {G : GG} {h nx kp : Nat} {T : Nat → Nat → Int32} {H : Heap} (x : HistAt G h T nx kp H) : h + 141 < H.size := by
  have h9 := (x.2.2 6 (by omega)).top
  omega
/-- the face with its shop and its history -/
def T3 (G : GG) (z : Nat) (r : Nat → Int32) (T : Nat → Nat → Int32) (nx kp : Nat) (H : Heap) : Prop := Te G z H ∧ ShopAt G (z + 1) r H ∧ HistAt G (z + 21) T nx kp H
/-- what a change leaves -/
def T3c (G : GG) (z : Nat) (r : Nat → Int32) (T : Nat → Nat → Int32) (nx kp : Nat) (op : Op) (H : Heap) : Prop := T3 G z op.2 (updT T nx r) (if 0 ≤ op.1 then (nx + 1) % 7 else nx) (if 0 ≤ op.1 then min (kp + 1) 6 else kp) H

set_option maxHeartbeats 4000000 in
set_option maxRecDepth 100000 in
theorem k_X6_share (l : Launch) (G : GG) (z nx kp : Nat) (r : Nat → Int32) (T : Nat → Nat → Int32) (x g : Int32) (hnx : nx < 7) (hkp : kp ≤ 6) (hw : WF r) : Met l yX6_share (ws_ yX6_share cX6_share 3 (some .int)) (rm_ 8) (PC G [.ref z, .int x, .int g] (T3 G z r T nx kp)) (QI (fun v H => v = (shO r x g).1 ∧ T3c G z r T nx kp (shO r x g) H) (In z 163)) 0 0 (In z 163) := by
  refine met_q (by decide +kernel) (Nat.le_of_ble_eq_true rfl) ?_
  intro p e s m args below meth c Q hQ hx hb hr hT hown hml hlocks hnm hK hZ ls hl
  have hl : lv_has ls 3 [(0, .ref z), (1, .int x), (2, .int g)] := hl
  have hS : va_S (In z 163) s.heap s.heap [] := va_S.rf
  refine lv_aload_n hx hb dX6_share_0 rfl (lv_at hl 0 rfl) ?_
  refine rg (C := RX6) (T := TX6) (N := 6) (v := .ref (z + 21)) hx hb hT inX6 hown hK hZ.1 rfl 1 (by decide) mf_X6_19 rfl dX6_share_1 ?_
  refine lv_aload_n hx hb dX6_share_4 rfl (lv_at hl 0 rfl) ?_
  refine rg (C := RX6) (T := TX6) (N := 6) (v := .ref (z + 1)) hx hb hT inX6 hown hK hZ.1 rfl 0 (by decide) mf_X6_10 rfl dX6_share_5 ?_
  refine got_V (run_i hx hb hml hown hT hK hl.1 (k_X0_draft l G (z + 21) (z + 1) nx kp T r hnx (by omega)) (cw_X6_50 hT ⟨Nat.le_of_ble_eq_true rfl, Nat.le_of_ble_eq_true rfl⟩) hZ.2.2.1 rfl ⟨hZ.2.2, hZ.2.1⟩ rfl rfl (Nat.le_of_ble_eq_true rfl) dX6_share_8 ⟨Nat.zero_le _, Nat.zero_le _⟩) hS (fun q (hq : _ ∧ _) => show _ ∧ _ from ⟨by omega, by omega⟩) (fun q (hq : _ ∧ _) => show _ ∧ _ from ⟨by omega, by omega⟩) (fun  H locs h1 hz hk hS => ?_)
  have ht1 := hZ.2.1.top
  have ht2 := hZ.2.2.top
  have hZ : T3 G z r (updT T nx r) nx kp H := ⟨hZ.1.kept (hk z (by omega) (fun (q : _ ∧ _) => by omega)), hZ.2.1.kept (fun q _ _ => hk q (by omega) (fun (w : _ ∧ _) => by omega)), h1⟩
  refine lv_aload_n hx hb dX6_share_11 rfl (lv_at hl 0 rfl) ?_
  refine rg (C := RX6) (T := TX6) (N := 6) (v := .ref (z + 21)) hx hb hT inX6 hown hK hZ.1 rfl 1 (by decide) mf_X6_19 rfl dX6_share_12 ?_
  refine lv_aload_n hx hb dX6_share_15 rfl (lv_at hl 0 rfl) ?_
  refine rg (C := RX6) (T := TX6) (N := 6) (v := .ref (z + 1)) hx hb hT inX6 hown hK hZ.1 rfl 0 (by decide) mf_X6_10 rfl dX6_share_16 ?_
  refine lv_iload_n hx hb dX6_share_19 rfl (lv_at hl 1 rfl) ?_
  refine lv_iload_n hx hb dX6_share_20 rfl (lv_at hl 2 rfl) ?_
  refine got_I (run_i hx hb hml hown hT hK hl.1 (k_X5_changeShare l G (z + 1) r x g hw) (cw_X6_77 hT ⟨Nat.le_of_ble_eq_true rfl, Nat.le_of_ble_eq_true rfl⟩) hZ.2.1.1 rfl hZ.2.1 rfl rfl (Nat.le_of_ble_eq_true rfl) dX6_share_21 ⟨Nat.zero_le _, Nat.zero_le _⟩) hS (fun q (hq : _ ∧ _) => show _ ∧ _ from ⟨by omega, by omega⟩) (fun q (hq : _ ∧ _) => show _ ∧ _ from ⟨by omega, by omega⟩) (fun v_1 H locs h1 hz hk hS => ?_)
  obtain ⟨hv, hSn⟩ := h1
  have ht1 := hZ.2.1.top
  have ht2 := hZ.2.2.top
  have hZ : T3 G z (shO r x g).2 (updT T nx r) nx kp H := ⟨hZ.1.kept (hk z (by omega) (fun (q : _ ∧ _) => by omega)), hSn, hZ.2.2.kept (fun q _ _ => hk q (by omega) (fun (w : _ ∧ _) => by omega))⟩
  subst hv
  refine got_I (run_i hx hb hml hown hT hK hl.1 (k_X0_settle l G (z + 21) nx kp (updT T nx r) (shO r x g).1 hnx hkp) (cw_X6_58 hT ⟨Nat.le_of_ble_eq_true rfl, Nat.le_of_ble_eq_true rfl⟩) hZ.2.2.1 rfl hZ.2.2 rfl rfl (Nat.le_of_ble_eq_true rfl) dX6_share_24 ⟨Nat.zero_le _, Nat.zero_le _⟩) hS (fun q (hq : _ ∧ _) => show _ ∧ _ from ⟨by omega, by omega⟩) (fun q (hq : _ ∧ _) => show _ ∧ _ from ⟨by omega, by omega⟩) (fun v_2 H locs h1 hz hk hS => ?_)
  obtain ⟨hv2, hHn⟩ := h1
  have ht1 := hZ.2.1.top
  have ht2 := hZ.2.2.top
  have hZ : T3c G z r T nx kp (shO r x g) H := ⟨hZ.1.kept (hk z (by omega) (fun (q : _ ∧ _) => by omega)), hZ.2.1.kept (fun q _ _ => hk q (by omega) (fun (w : _ ∧ _) => by omega)), hHn⟩
  exact nd_I hQ hx hb hr hlocks dX6_share_27 hS (⟨hv2, hZ⟩)

set_option maxHeartbeats 4000000 in
set_option maxRecDepth 100000 in
theorem k_X6_buy (l : Launch) (G : GG) (z nx kp : Nat) (r : Nat → Int32) (T : Nat → Nat → Int32) (x g : Int32) (hnx : nx < 7) (hkp : kp ≤ 6) (hw : WF r) : Met l yX6_buy (ws_ yX6_buy cX6_buy 3 (some .int)) (rm_ 8) (PC G [.ref z, .int x, .int g] (T3 G z r T nx kp)) (QI (fun v H => v = (bgO r x g).1 ∧ T3c G z r T nx kp (bgO r x g) H) (In z 163)) 0 0 (In z 163) := by
  refine met_q (by decide +kernel) (Nat.le_of_ble_eq_true rfl) ?_
  intro p e s m args below meth c Q hQ hx hb hr hT hown hml hlocks hnm hK hZ ls hl
  have hl : lv_has ls 3 [(0, .ref z), (1, .int x), (2, .int g)] := hl
  have hS : va_S (In z 163) s.heap s.heap [] := va_S.rf
  refine lv_aload_n hx hb dX6_buy_0 rfl (lv_at hl 0 rfl) ?_
  refine rg (C := RX6) (T := TX6) (N := 6) (v := .ref (z + 21)) hx hb hT inX6 hown hK hZ.1 rfl 1 (by decide) mf_X6_19 rfl dX6_buy_1 ?_
  refine lv_aload_n hx hb dX6_buy_4 rfl (lv_at hl 0 rfl) ?_
  refine rg (C := RX6) (T := TX6) (N := 6) (v := .ref (z + 1)) hx hb hT inX6 hown hK hZ.1 rfl 0 (by decide) mf_X6_10 rfl dX6_buy_5 ?_
  refine got_V (run_i hx hb hml hown hT hK hl.1 (k_X0_draft l G (z + 21) (z + 1) nx kp T r hnx (by omega)) (cw_X6_50 hT ⟨Nat.le_of_ble_eq_true rfl, Nat.le_of_ble_eq_true rfl⟩) hZ.2.2.1 rfl ⟨hZ.2.2, hZ.2.1⟩ rfl rfl (Nat.le_of_ble_eq_true rfl) dX6_buy_8 ⟨Nat.zero_le _, Nat.zero_le _⟩) hS (fun q (hq : _ ∧ _) => show _ ∧ _ from ⟨by omega, by omega⟩) (fun q (hq : _ ∧ _) => show _ ∧ _ from ⟨by omega, by omega⟩) (fun  H locs h1 hz hk hS => ?_)
  have ht1 := hZ.2.1.top
  have ht2 := hZ.2.2.top
  have hZ : T3 G z r (updT T nx r) nx kp H := ⟨hZ.1.kept (hk z (by omega) (fun (q : _ ∧ _) => by omega)), hZ.2.1.kept (fun q _ _ => hk q (by omega) (fun (w : _ ∧ _) => by omega)), h1⟩
  refine lv_aload_n hx hb dX6_buy_11 rfl (lv_at hl 0 rfl) ?_
  refine rg (C := RX6) (T := TX6) (N := 6) (v := .ref (z + 21)) hx hb hT inX6 hown hK hZ.1 rfl 1 (by decide) mf_X6_19 rfl dX6_buy_12 ?_
  refine lv_aload_n hx hb dX6_buy_15 rfl (lv_at hl 0 rfl) ?_
  refine rg (C := RX6) (T := TX6) (N := 6) (v := .ref (z + 1)) hx hb hT inX6 hown hK hZ.1 rfl 0 (by decide) mf_X6_10 rfl dX6_buy_16 ?_
  refine lv_iload_n hx hb dX6_buy_19 rfl (lv_at hl 1 rfl) ?_
  refine lv_iload_n hx hb dX6_buy_20 rfl (lv_at hl 2 rfl) ?_
  refine got_I (run_i hx hb hml hown hT hK hl.1 (k_X5_addGrams l G (z + 1) r x g hw) (cw_X6_70 hT ⟨Nat.le_of_ble_eq_true rfl, Nat.le_of_ble_eq_true rfl⟩) hZ.2.1.1 rfl hZ.2.1 rfl rfl (Nat.le_of_ble_eq_true rfl) dX6_buy_21 ⟨Nat.zero_le _, Nat.zero_le _⟩) hS (fun q (hq : _ ∧ _) => show _ ∧ _ from ⟨by omega, by omega⟩) (fun q (hq : _ ∧ _) => show _ ∧ _ from ⟨by omega, by omega⟩) (fun v_1 H locs h1 hz hk hS => ?_)
  obtain ⟨hv, hSn⟩ := h1
  have ht1 := hZ.2.1.top
  have ht2 := hZ.2.2.top
  have hZ : T3 G z (bgO r x g).2 (updT T nx r) nx kp H := ⟨hZ.1.kept (hk z (by omega) (fun (q : _ ∧ _) => by omega)), hSn, hZ.2.2.kept (fun q _ _ => hk q (by omega) (fun (w : _ ∧ _) => by omega))⟩
  subst hv
  refine got_I (run_i hx hb hml hown hT hK hl.1 (k_X0_settle l G (z + 21) nx kp (updT T nx r) (bgO r x g).1 hnx hkp) (cw_X6_58 hT ⟨Nat.le_of_ble_eq_true rfl, Nat.le_of_ble_eq_true rfl⟩) hZ.2.2.1 rfl hZ.2.2 rfl rfl (Nat.le_of_ble_eq_true rfl) dX6_buy_24 ⟨Nat.zero_le _, Nat.zero_le _⟩) hS (fun q (hq : _ ∧ _) => show _ ∧ _ from ⟨by omega, by omega⟩) (fun q (hq : _ ∧ _) => show _ ∧ _ from ⟨by omega, by omega⟩) (fun v_2 H locs h1 hz hk hS => ?_)
  obtain ⟨hv2, hHn⟩ := h1
  have ht1 := hZ.2.1.top
  have ht2 := hZ.2.2.top
  have hZ : T3c G z r T nx kp (bgO r x g) H := ⟨hZ.1.kept (hk z (by omega) (fun (q : _ ∧ _) => by omega)), hZ.2.1.kept (fun q _ _ => hk q (by omega) (fun (w : _ ∧ _) => by omega)), hHn⟩
  exact nd_I hQ hx hb hr hlocks dX6_buy_27 hS (⟨hv2, hZ⟩)

set_option maxHeartbeats 4000000 in
set_option maxRecDepth 100000 in
theorem k_X6_bound (l : Launch) (G : GG) (z nx kp : Nat) (r : Nat → Int32) (T : Nat → Nat → Int32) (x lo hi : Int32) (hnx : nx < 7) (hkp : kp ≤ 6) (hw : WF r) : Met l yX6_bound (ws_ yX6_bound cX6_bound 4 (some .int)) (rm_ 8) (PC G [.ref z, .int x, .int lo, .int hi] (T3 G z r T nx kp)) (QI (fun v H => v = (bnO r x lo hi).1 ∧ T3c G z r T nx kp (bnO r x lo hi) H) (In z 163)) 0 0 (In z 163) := by
  refine met_q (by decide +kernel) (Nat.le_of_ble_eq_true rfl) ?_
  intro p e s m args below meth c Q hQ hx hb hr hT hown hml hlocks hnm hK hZ ls hl
  have hl : lv_has ls 4 [(0, .ref z), (1, .int x), (2, .int lo), (3, .int hi)] := hl
  have hS : va_S (In z 163) s.heap s.heap [] := va_S.rf
  refine lv_aload_n hx hb dX6_bound_0 rfl (lv_at hl 0 rfl) ?_
  refine rg (C := RX6) (T := TX6) (N := 6) (v := .ref (z + 21)) hx hb hT inX6 hown hK hZ.1 rfl 1 (by decide) mf_X6_19 rfl dX6_bound_1 ?_
  refine lv_aload_n hx hb dX6_bound_4 rfl (lv_at hl 0 rfl) ?_
  refine rg (C := RX6) (T := TX6) (N := 6) (v := .ref (z + 1)) hx hb hT inX6 hown hK hZ.1 rfl 0 (by decide) mf_X6_10 rfl dX6_bound_5 ?_
  refine got_V (run_i hx hb hml hown hT hK hl.1 (k_X0_draft l G (z + 21) (z + 1) nx kp T r hnx (by omega)) (cw_X6_50 hT ⟨Nat.le_of_ble_eq_true rfl, Nat.le_of_ble_eq_true rfl⟩) hZ.2.2.1 rfl ⟨hZ.2.2, hZ.2.1⟩ rfl rfl (Nat.le_of_ble_eq_true rfl) dX6_bound_8 ⟨Nat.zero_le _, Nat.zero_le _⟩) hS (fun q (hq : _ ∧ _) => show _ ∧ _ from ⟨by omega, by omega⟩) (fun q (hq : _ ∧ _) => show _ ∧ _ from ⟨by omega, by omega⟩) (fun  H locs h1 hz hk hS => ?_)
  have ht1 := hZ.2.1.top
  have ht2 := hZ.2.2.top
  have hZ : T3 G z r (updT T nx r) nx kp H := ⟨hZ.1.kept (hk z (by omega) (fun (q : _ ∧ _) => by omega)), hZ.2.1.kept (fun q _ _ => hk q (by omega) (fun (w : _ ∧ _) => by omega)), h1⟩
  refine lv_aload_n hx hb dX6_bound_11 rfl (lv_at hl 0 rfl) ?_
  refine rg (C := RX6) (T := TX6) (N := 6) (v := .ref (z + 21)) hx hb hT inX6 hown hK hZ.1 rfl 1 (by decide) mf_X6_19 rfl dX6_bound_12 ?_
  refine lv_aload_n hx hb dX6_bound_15 rfl (lv_at hl 0 rfl) ?_
  refine rg (C := RX6) (T := TX6) (N := 6) (v := .ref (z + 1)) hx hb hT inX6 hown hK hZ.1 rfl 0 (by decide) mf_X6_10 rfl dX6_bound_16 ?_
  refine lv_iload_n hx hb dX6_bound_19 rfl (lv_at hl 1 rfl) ?_
  refine lv_iload_n hx hb dX6_bound_20 rfl (lv_at hl 2 rfl) ?_
  refine lv_iload_n hx hb dX6_bound_21 rfl (lv_at hl 3 rfl) ?_
  refine got_I (run_i hx hb hml hown hT hK hl.1 (k_X5_changeBounds l G (z + 1) r x lo hi) (cw_X6_73 hT ⟨Nat.le_of_ble_eq_true rfl, Nat.le_of_ble_eq_true rfl⟩) hZ.2.1.1 rfl hZ.2.1 rfl rfl (Nat.le_of_ble_eq_true rfl) dX6_bound_22 ⟨Nat.zero_le _, Nat.zero_le _⟩) hS (fun q (hq : _ ∧ _) => show _ ∧ _ from ⟨by omega, by omega⟩) (fun q (hq : _ ∧ _) => show _ ∧ _ from ⟨by omega, by omega⟩) (fun v_1 H locs h1 hz hk hS => ?_)
  obtain ⟨hv, hSn⟩ := h1
  have ht1 := hZ.2.1.top
  have ht2 := hZ.2.2.top
  have hZ : T3 G z (bnO r x lo hi).2 (updT T nx r) nx kp H := ⟨hZ.1.kept (hk z (by omega) (fun (q : _ ∧ _) => by omega)), hSn, hZ.2.2.kept (fun q _ _ => hk q (by omega) (fun (w : _ ∧ _) => by omega))⟩
  subst hv
  refine got_I (run_i hx hb hml hown hT hK hl.1 (k_X0_settle l G (z + 21) nx kp (updT T nx r) (bnO r x lo hi).1 hnx hkp) (cw_X6_58 hT ⟨Nat.le_of_ble_eq_true rfl, Nat.le_of_ble_eq_true rfl⟩) hZ.2.2.1 rfl hZ.2.2 rfl rfl (Nat.le_of_ble_eq_true rfl) dX6_bound_25 ⟨Nat.zero_le _, Nat.zero_le _⟩) hS (fun q (hq : _ ∧ _) => show _ ∧ _ from ⟨by omega, by omega⟩) (fun q (hq : _ ∧ _) => show _ ∧ _ from ⟨by omega, by omega⟩) (fun v_2 H locs h1 hz hk hS => ?_)
  obtain ⟨hv2, hHn⟩ := h1
  have ht1 := hZ.2.1.top
  have ht2 := hZ.2.2.top
  have hZ : T3c G z r T nx kp (bnO r x lo hi) H := ⟨hZ.1.kept (hk z (by omega) (fun (q : _ ∧ _) => by omega)), hZ.2.1.kept (fun q _ _ => hk q (by omega) (fun (w : _ ∧ _) => by omega)), hHn⟩
  exact nd_I hQ hx hb hr hlocks dX6_bound_28 hS (⟨hv2, hZ⟩)

set_option maxHeartbeats 4000000 in
set_option maxRecDepth 100000 in
theorem k_X6_mix (l : Launch) (G : GG) (z nx kp : Nat) (r : Nat → Int32) (T : Nat → Nat → Int32) (g : Int32) (hnx : nx < 7) (hkp : kp ≤ 6) (hw : WF r) : Met l yX6_mix (ws_ yX6_mix cX6_mix 2 (some .int)) (rm_ 8) (PC G [.ref z, .int g] (T3 G z r T nx kp)) (QI (fun v H => v = (mxO r g).1 ∧ T3c G z r T nx kp (mxO r g) H) (In z 163)) 0 0 (In z 163) := by
  refine met_q (by decide +kernel) (Nat.le_of_ble_eq_true rfl) ?_
  intro p e s m args below meth c Q hQ hx hb hr hT hown hml hlocks hnm hK hZ ls hl
  have hl : lv_has ls 2 [(0, .ref z), (1, .int g)] := hl
  have hS : va_S (In z 163) s.heap s.heap [] := va_S.rf
  refine lv_aload_n hx hb dX6_mix_0 rfl (lv_at hl 0 rfl) ?_
  refine rg (C := RX6) (T := TX6) (N := 6) (v := .ref (z + 21)) hx hb hT inX6 hown hK hZ.1 rfl 1 (by decide) mf_X6_19 rfl dX6_mix_1 ?_
  refine lv_aload_n hx hb dX6_mix_4 rfl (lv_at hl 0 rfl) ?_
  refine rg (C := RX6) (T := TX6) (N := 6) (v := .ref (z + 1)) hx hb hT inX6 hown hK hZ.1 rfl 0 (by decide) mf_X6_10 rfl dX6_mix_5 ?_
  refine got_V (run_i hx hb hml hown hT hK hl.1 (k_X0_draft l G (z + 21) (z + 1) nx kp T r hnx (by omega)) (cw_X6_50 hT ⟨Nat.le_of_ble_eq_true rfl, Nat.le_of_ble_eq_true rfl⟩) hZ.2.2.1 rfl ⟨hZ.2.2, hZ.2.1⟩ rfl rfl (Nat.le_of_ble_eq_true rfl) dX6_mix_8 ⟨Nat.zero_le _, Nat.zero_le _⟩) hS (fun q (hq : _ ∧ _) => show _ ∧ _ from ⟨by omega, by omega⟩) (fun q (hq : _ ∧ _) => show _ ∧ _ from ⟨by omega, by omega⟩) (fun  H locs h1 hz hk hS => ?_)
  have ht1 := hZ.2.1.top
  have ht2 := hZ.2.2.top
  have hZ : T3 G z r (updT T nx r) nx kp H := ⟨hZ.1.kept (hk z (by omega) (fun (q : _ ∧ _) => by omega)), hZ.2.1.kept (fun q _ _ => hk q (by omega) (fun (w : _ ∧ _) => by omega)), h1⟩
  refine lv_aload_n hx hb dX6_mix_11 rfl (lv_at hl 0 rfl) ?_
  refine rg (C := RX6) (T := TX6) (N := 6) (v := .ref (z + 21)) hx hb hT inX6 hown hK hZ.1 rfl 1 (by decide) mf_X6_19 rfl dX6_mix_12 ?_
  refine lv_aload_n hx hb dX6_mix_15 rfl (lv_at hl 0 rfl) ?_
  refine rg (C := RX6) (T := TX6) (N := 6) (v := .ref (z + 1)) hx hb hT inX6 hown hK hZ.1 rfl 0 (by decide) mf_X6_10 rfl dX6_mix_16 ?_
  refine lv_iload_n hx hb dX6_mix_19 rfl (lv_at hl 1 rfl) ?_
  refine got_I (run_i hx hb hml hown hT hK hl.1 (k_X5_mixGrams l G (z + 1) r g hw) (cw_X6_96 hT ⟨Nat.le_of_ble_eq_true rfl, Nat.le_of_ble_eq_true rfl⟩) hZ.2.1.1 rfl hZ.2.1 rfl rfl (Nat.le_of_ble_eq_true rfl) dX6_mix_20 ⟨Nat.zero_le _, Nat.zero_le _⟩) hS (fun q (hq : _ ∧ _) => show _ ∧ _ from ⟨by omega, by omega⟩) (fun q (hq : _ ∧ _) => show _ ∧ _ from ⟨by omega, by omega⟩) (fun v_1 H locs h1 hz hk hS => ?_)
  obtain ⟨hv, hSn⟩ := h1
  have ht1 := hZ.2.1.top
  have ht2 := hZ.2.2.top
  have hZ : T3 G z (mxO r g).2 (updT T nx r) nx kp H := ⟨hZ.1.kept (hk z (by omega) (fun (q : _ ∧ _) => by omega)), hSn, hZ.2.2.kept (fun q _ _ => hk q (by omega) (fun (w : _ ∧ _) => by omega))⟩
  subst hv
  refine got_I (run_i hx hb hml hown hT hK hl.1 (k_X0_settle l G (z + 21) nx kp (updT T nx r) (mxO r g).1 hnx hkp) (cw_X6_58 hT ⟨Nat.le_of_ble_eq_true rfl, Nat.le_of_ble_eq_true rfl⟩) hZ.2.2.1 rfl hZ.2.2 rfl rfl (Nat.le_of_ble_eq_true rfl) dX6_mix_23 ⟨Nat.zero_le _, Nat.zero_le _⟩) hS (fun q (hq : _ ∧ _) => show _ ∧ _ from ⟨by omega, by omega⟩) (fun q (hq : _ ∧ _) => show _ ∧ _ from ⟨by omega, by omega⟩) (fun v_2 H locs h1 hz hk hS => ?_)
  obtain ⟨hv2, hHn⟩ := h1
  have ht1 := hZ.2.1.top
  have ht2 := hZ.2.2.top
  have hZ : T3c G z r T nx kp (mxO r g) H := ⟨hZ.1.kept (hk z (by omega) (fun (q : _ ∧ _) => by omega)), hZ.2.1.kept (fun q _ _ => hk q (by omega) (fun (w : _ ∧ _) => by omega)), hHn⟩
  exact nd_I hQ hx hb hr hlocks dX6_mix_26 hS (⟨hv2, hZ⟩)

set_option maxHeartbeats 4000000 in
set_option maxRecDepth 100000 in
theorem k_X6_pass (l : Launch) (G : GG) (z nx kp : Nat) (r : Nat → Int32) (T : Nat → Nat → Int32) (d : Int32) (hnx : nx < 7) (hkp : kp ≤ 6) (hw : WF r) : Met l yX6_pass (ws_ yX6_pass cX6_pass 2 (some .int)) (rm_ 8) (PC G [.ref z, .int d] (T3 G z r T nx kp)) (QI (fun v H => v = (pdO r d).1 ∧ T3c G z r T nx kp (pdO r d) H) (In z 163)) 0 0 (In z 163) := by
  refine met_q (by decide +kernel) (Nat.le_of_ble_eq_true rfl) ?_
  intro p e s m args below meth c Q hQ hx hb hr hT hown hml hlocks hnm hK hZ ls hl
  have hl : lv_has ls 2 [(0, .ref z), (1, .int d)] := hl
  have hS : va_S (In z 163) s.heap s.heap [] := va_S.rf
  refine lv_aload_n hx hb dX6_pass_0 rfl (lv_at hl 0 rfl) ?_
  refine rg (C := RX6) (T := TX6) (N := 6) (v := .ref (z + 21)) hx hb hT inX6 hown hK hZ.1 rfl 1 (by decide) mf_X6_19 rfl dX6_pass_1 ?_
  refine lv_aload_n hx hb dX6_pass_4 rfl (lv_at hl 0 rfl) ?_
  refine rg (C := RX6) (T := TX6) (N := 6) (v := .ref (z + 1)) hx hb hT inX6 hown hK hZ.1 rfl 0 (by decide) mf_X6_10 rfl dX6_pass_5 ?_
  refine got_V (run_i hx hb hml hown hT hK hl.1 (k_X0_draft l G (z + 21) (z + 1) nx kp T r hnx (by omega)) (cw_X6_50 hT ⟨Nat.le_of_ble_eq_true rfl, Nat.le_of_ble_eq_true rfl⟩) hZ.2.2.1 rfl ⟨hZ.2.2, hZ.2.1⟩ rfl rfl (Nat.le_of_ble_eq_true rfl) dX6_pass_8 ⟨Nat.zero_le _, Nat.zero_le _⟩) hS (fun q (hq : _ ∧ _) => show _ ∧ _ from ⟨by omega, by omega⟩) (fun q (hq : _ ∧ _) => show _ ∧ _ from ⟨by omega, by omega⟩) (fun  H locs h1 hz hk hS => ?_)
  have ht1 := hZ.2.1.top
  have ht2 := hZ.2.2.top
  have hZ : T3 G z r (updT T nx r) nx kp H := ⟨hZ.1.kept (hk z (by omega) (fun (q : _ ∧ _) => by omega)), hZ.2.1.kept (fun q _ _ => hk q (by omega) (fun (w : _ ∧ _) => by omega)), h1⟩
  refine lv_aload_n hx hb dX6_pass_11 rfl (lv_at hl 0 rfl) ?_
  refine rg (C := RX6) (T := TX6) (N := 6) (v := .ref (z + 21)) hx hb hT inX6 hown hK hZ.1 rfl 1 (by decide) mf_X6_19 rfl dX6_pass_12 ?_
  refine lv_aload_n hx hb dX6_pass_15 rfl (lv_at hl 0 rfl) ?_
  refine rg (C := RX6) (T := TX6) (N := 6) (v := .ref (z + 1)) hx hb hT inX6 hown hK hZ.1 rfl 0 (by decide) mf_X6_10 rfl dX6_pass_16 ?_
  refine lv_iload_n hx hb dX6_pass_19 rfl (lv_at hl 1 rfl) ?_
  refine got_I (run_i hx hb hml hown hT hK hl.1 (k_X5_passDays l G (z + 1) r d hw) (cw_X6_99 hT ⟨Nat.le_of_ble_eq_true rfl, Nat.le_of_ble_eq_true rfl⟩) hZ.2.1.1 rfl hZ.2.1 rfl rfl (Nat.le_of_ble_eq_true rfl) dX6_pass_20 ⟨Nat.zero_le _, Nat.zero_le _⟩) hS (fun q (hq : _ ∧ _) => show _ ∧ _ from ⟨by omega, by omega⟩) (fun q (hq : _ ∧ _) => show _ ∧ _ from ⟨by omega, by omega⟩) (fun v_1 H locs h1 hz hk hS => ?_)
  obtain ⟨hv, hSn⟩ := h1
  have ht1 := hZ.2.1.top
  have ht2 := hZ.2.2.top
  have hZ : T3 G z (pdO r d).2 (updT T nx r) nx kp H := ⟨hZ.1.kept (hk z (by omega) (fun (q : _ ∧ _) => by omega)), hSn, hZ.2.2.kept (fun q _ _ => hk q (by omega) (fun (w : _ ∧ _) => by omega))⟩
  subst hv
  refine got_I (run_i hx hb hml hown hT hK hl.1 (k_X0_settle l G (z + 21) nx kp (updT T nx r) (pdO r d).1 hnx hkp) (cw_X6_58 hT ⟨Nat.le_of_ble_eq_true rfl, Nat.le_of_ble_eq_true rfl⟩) hZ.2.2.1 rfl hZ.2.2 rfl rfl (Nat.le_of_ble_eq_true rfl) dX6_pass_23 ⟨Nat.zero_le _, Nat.zero_le _⟩) hS (fun q (hq : _ ∧ _) => show _ ∧ _ from ⟨by omega, by omega⟩) (fun q (hq : _ ∧ _) => show _ ∧ _ from ⟨by omega, by omega⟩) (fun v_2 H locs h1 hz hk hS => ?_)
  obtain ⟨hv2, hHn⟩ := h1
  have ht1 := hZ.2.1.top
  have ht2 := hZ.2.2.top
  have hZ : T3c G z r T nx kp (pdO r d) H := ⟨hZ.1.kept (hk z (by omega) (fun (q : _ ∧ _) => by omega)), hZ.2.1.kept (fun q _ _ => hk q (by omega) (fun (w : _ ∧ _) => by omega)), hHn⟩
  exact nd_I hQ hx hb hr hlocks dX6_pass_26 hS (⟨hv2, hZ⟩)

set_option maxHeartbeats 4000000 in
set_option maxRecDepth 100000 in
theorem k_X6_row (l : Launch) (G : GG) (z nx kp : Nat) (r : Nat → Int32) (T : Nat → Nat → Int32) (x : Int32) (y : Int64) (hnx : nx < 7) (hkp : kp ≤ 6) (hw : WF r) : Met l yX6_row (ws_ yX6_row cX6_row 4 (some .int)) (rm_ 8) (PC G [.ref z, .int x, .long y] (T3 G z r T nx kp)) (QI (fun v H => v = (rwO r x y).1 ∧ T3c G z r T nx kp (rwO r x y) H) (In z 163)) 0 0 (In z 163) := by
  refine met_q (by decide +kernel) (Nat.le_of_ble_eq_true rfl) ?_
  intro p e s m args below meth c Q hQ hx hb hr hT hown hml hlocks hnm hK hZ ls hl
  have hl : lv_has ls 4 [(0, .ref z), (1, .int x), (2, .long y)] := hl
  have hS : va_S (In z 163) s.heap s.heap [] := va_S.rf
  refine lv_aload_n hx hb dX6_row_0 rfl (lv_at hl 0 rfl) ?_
  refine rg (C := RX6) (T := TX6) (N := 6) (v := .ref (z + 21)) hx hb hT inX6 hown hK hZ.1 rfl 1 (by decide) mf_X6_19 rfl dX6_row_1 ?_
  refine lv_aload_n hx hb dX6_row_4 rfl (lv_at hl 0 rfl) ?_
  refine rg (C := RX6) (T := TX6) (N := 6) (v := .ref (z + 1)) hx hb hT inX6 hown hK hZ.1 rfl 0 (by decide) mf_X6_10 rfl dX6_row_5 ?_
  refine got_V (run_i hx hb hml hown hT hK hl.1 (k_X0_draft l G (z + 21) (z + 1) nx kp T r hnx (by omega)) (cw_X6_50 hT ⟨Nat.le_of_ble_eq_true rfl, Nat.le_of_ble_eq_true rfl⟩) hZ.2.2.1 rfl ⟨hZ.2.2, hZ.2.1⟩ rfl rfl (Nat.le_of_ble_eq_true rfl) dX6_row_8 ⟨Nat.zero_le _, Nat.zero_le _⟩) hS (fun q (hq : _ ∧ _) => show _ ∧ _ from ⟨by omega, by omega⟩) (fun q (hq : _ ∧ _) => show _ ∧ _ from ⟨by omega, by omega⟩) (fun  H locs h1 hz hk hS => ?_)
  have ht1 := hZ.2.1.top
  have ht2 := hZ.2.2.top
  have hZ : T3 G z r (updT T nx r) nx kp H := ⟨hZ.1.kept (hk z (by omega) (fun (q : _ ∧ _) => by omega)), hZ.2.1.kept (fun q _ _ => hk q (by omega) (fun (w : _ ∧ _) => by omega)), h1⟩
  refine lv_aload_n hx hb dX6_row_11 rfl (lv_at hl 0 rfl) ?_
  refine rg (C := RX6) (T := TX6) (N := 6) (v := .ref (z + 21)) hx hb hT inX6 hown hK hZ.1 rfl 1 (by decide) mf_X6_19 rfl dX6_row_12 ?_
  refine lv_aload_n hx hb dX6_row_15 rfl (lv_at hl 0 rfl) ?_
  refine rg (C := RX6) (T := TX6) (N := 6) (v := .ref (z + 1)) hx hb hT inX6 hown hK hZ.1 rfl 0 (by decide) mf_X6_10 rfl dX6_row_16 ?_
  refine lv_iload_n hx hb dX6_row_19 rfl (lv_at hl 1 rfl) ?_
  refine lv_lload_n hx hb dX6_row_20 rfl (lv_at hl 2 rfl) ?_
  refine got_I (run_i hx hb hml hown hT hK hl.1 (k_X5_changeRow l G (z + 1) r x y hw) (cw_X6_66 hT ⟨Nat.le_of_ble_eq_true rfl, Nat.le_of_ble_eq_true rfl⟩) hZ.2.1.1 rfl hZ.2.1 rfl rfl (Nat.le_of_ble_eq_true rfl) dX6_row_21 ⟨Nat.zero_le _, Nat.zero_le _⟩) hS (fun q (hq : _ ∧ _) => show _ ∧ _ from ⟨by omega, by omega⟩) (fun q (hq : _ ∧ _) => show _ ∧ _ from ⟨by omega, by omega⟩) (fun v_1 H locs h1 hz hk hS => ?_)
  obtain ⟨hv, hSn⟩ := h1
  have ht1 := hZ.2.1.top
  have ht2 := hZ.2.2.top
  have hZ : T3 G z (rwO r x y).2 (updT T nx r) nx kp H := ⟨hZ.1.kept (hk z (by omega) (fun (q : _ ∧ _) => by omega)), hSn, hZ.2.2.kept (fun q _ _ => hk q (by omega) (fun (w : _ ∧ _) => by omega))⟩
  subst hv
  refine got_I (run_i hx hb hml hown hT hK hl.1 (k_X0_settle l G (z + 21) nx kp (updT T nx r) (rwO r x y).1 hnx hkp) (cw_X6_58 hT ⟨Nat.le_of_ble_eq_true rfl, Nat.le_of_ble_eq_true rfl⟩) hZ.2.2.1 rfl hZ.2.2 rfl rfl (Nat.le_of_ble_eq_true rfl) dX6_row_24 ⟨Nat.zero_le _, Nat.zero_le _⟩) hS (fun q (hq : _ ∧ _) => show _ ∧ _ from ⟨by omega, by omega⟩) (fun q (hq : _ ∧ _) => show _ ∧ _ from ⟨by omega, by omega⟩) (fun v_2 H locs h1 hz hk hS => ?_)
  obtain ⟨hv2, hHn⟩ := h1
  have ht1 := hZ.2.1.top
  have ht2 := hZ.2.2.top
  have hZ : T3c G z r T nx kp (rwO r x y) H := ⟨hZ.1.kept (hk z (by omega) (fun (q : _ ∧ _) => by omega)), hZ.2.1.kept (fun q _ _ => hk q (by omega) (fun (w : _ ∧ _) => by omega)), hHn⟩
  exact nd_I hQ hx hb hr hlocks dX6_row_27 hS (⟨hv2, hZ⟩)
