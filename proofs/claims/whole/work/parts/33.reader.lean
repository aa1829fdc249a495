/-! the class's reader: its object and its numbers -/
def OrAt (G : GG) (z pz : Nat) (N : Nat → Int32) (u0 j : Nat) (kd : Int32) (H : Heap) : Prop := ob G 2 z [.ref pz, .int (nI u0), .int (nI j), .int kd, .ref (z + 1)] H ∧ ar G 0 (z + 1) (iA 5 N) H
theorem OrAt.kept {G : GG} {z pz : Nat} {N : Nat → Int32} {u0 j : Nat} {kd : Int32} {H H1 : Heap} (h : OrAt G z pz N u0 j kd H) (e : ∀ q, z ≤ q → q < z + 2 → H1[q]? = H[q]?) : OrAt G z pz N u0 j kd H1 := ⟨h.1.kept (e _ (by omega) (by omega)), h.2.kept (e _ (by omega) (by omega))⟩
theorem OrAt.top {G : GG} {z pz : Nat} {N : Nat → Int32} {u0 j : Nat} {kd : Int32} {H : Heap} (h : OrAt G z pz N u0 j kd H) : z + 1 < H.size := h.2.lt
theorem OrAt.f {G : GG} {z pz : Nat} {N : Nat → Int32} {u0 j u1 j1 : Nat} {kd k1 : Int32} {H H1 : Heap} (h : OrAt G z pz N u0 j kd H) (h1 : ob G 2 z [.ref pz, .int (nI u1), .int (nI j1), .int k1, .ref (z + 1)] H1) (o : Oq z H H1) : OrAt G z pz N u1 j1 k1 H1 := ⟨h1, h.2.kept (o.2 _ (by omega))⟩
theorem OrAt.n {G : GG} {z pz : Nat} {N N2 : Nat → Int32} {u0 j : Nat} {kd : Int32} {H H1 : Heap} (h : OrAt G z pz N u0 j kd H) (h1 : ar G 0 (z + 1) (iA 5 N2) H1) (o : Oq (z + 1) H H1) : OrAt G z pz N2 u0 j kd H1 := ⟨h.1.kept (o.2 _ (by omega)), h1⟩
/-- the reader and its pad -/
def RdC (G : GG) (z pz : Nat) (T : Nat → Int32) (n : Nat) (N : Nat → Int32) (u0 j : Nat) (kd : Int32) (H : Heap) : Prop := OrAt G z pz N u0 j kd H ∧ PadAt G pz T (nI n) H
theorem isD_sgn {T : Nat → Int32} {n u0 : Nat} : (48 ≤ sgn T n u0 ∧ sgn T n u0 ≤ 57) ↔ isD T n u0 := by
  unfold isD
  by_cases q : u0 < n
  · rw [sgn_in q]; exact ⟨fun h => ⟨q, h⟩, fun h => h.2⟩
  · rw [sgn_out q]; exact ⟨fun h => absurd h.1 (by decide), fun h => absurd h.1 q⟩
theorem sgn_eq {T : Nat → Int32} {n u0 : Nat} {y : Int32} (hy : ¬ y = 0) : sgn T n u0 = y ↔ (u0 < n ∧ T u0 = y) := by
  by_cases q : u0 < n
  · rw [sgn_in q]; exact ⟨fun h => ⟨q, h⟩, fun h => h.2⟩
  · rw [sgn_out q]; exact ⟨fun h => absurd h.symm hy, fun h => absurd h.1 q⟩

set_option maxHeartbeats 4000000 in
set_option maxRecDepth 100000 in
theorem k_X2_start (l : Launch) (G : GG) (z pz : Nat) (T : Nat → Int32) (n : Nat) (N : Nat → Int32) (u0 j : Nat) (kd : Int32)   (hne : pz + 2 ≤ z ∨ z + 2 ≤ pz)  : Met l yX2_start (ws_ yX2_start cX2_start 1 (none : Option Jvm.ClassFile.FieldType)) (rm_ 0) (PC G [.ref z] (RdC G z pz T n N u0 j kd)) (QV (RdC G z pz T n N 0 j kd) (In z 2)) 0 0 (In z 2) := by
  refine met_q (by decide +kernel) (Nat.le_of_ble_eq_true rfl) ?_
  intro p e s m args below meth c Q hQ hx hb hr hT hown hml hlocks hnm hK hR ls hl
  have hl : lv_has ls 1 [(0, .ref z)] := hl
  have hS : va_S (In z 2) s.heap s.heap [] := va_S.rf
  refine lv_aload_n hx hb dX2_start_0 rfl (lv_at hl 0 rfl) ?_
  refine lv_iconst (v := 0) hx hb dX2_start_1 (by decide) ?_
  rw [show (0 : Int32) = nI 0 from rfl]
  refine rp (C := RX2) (T := TX2) (N := 5) (v := .int (nI 0)) (ty := .int) hx hb hT inX2 tyX2 tyX2_ok nmX2 hown hK hR.1.1 rfl 1 (by decide) mf_X2_19 rfl (by decide +kernel) rfl rfl (Nat.le_of_ble_eq_true rfl) hS (show _ ∧ _ from ⟨by omega, by omega⟩) dX2_start_2 (fun H locs h1 o hS => ?_)
  have hR : RdC G z pz T n N 0 j kd H := ⟨hR.1.f h1 o, hR.2.kept (fun q _ _ => o.2 q (by omega))⟩
  exact nd_V hQ hx hb hr hlocks dX2_start_5 hS (hR)

set_option maxHeartbeats 4000000 in
set_option maxRecDepth 100000 in
theorem k_X2_sign (l : Launch) (G : GG) (z pz : Nat) (T : Nat → Int32) (n : Nat) (N : Nat → Int32) (u0 j : Nat) (kd : Int32)  (hn : n ≤ 80) (hp : u0 ≤ n)  : Met l yX2_sign (ws_ yX2_sign cX2_sign 1 (some .int)) (rm_ 0) (PC G [.ref z] (RdC G z pz T n N u0 j kd)) (vp_Si (fun v => v = sgn T n u0)) 0 0 NoA := by
  refine met_q (by decide +kernel) (Nat.le_of_ble_eq_true rfl) ?_
  intro p e s m args below meth c Q hQ hx hb hr hT hown hml hlocks hnm hK hR ls hl
  have hl : lv_has ls 1 [(0, .ref z)] := hl
  refine lv_aload_n hx hb dX2_sign_0 rfl (lv_at hl 0 rfl) ?_
  refine rg (C := RX2) (T := TX2) (N := 5) (v := .int (nI u0)) hx hb hT inX2 hown hK hR.1.1 rfl 1 (by decide) mf_X2_19 rfl dX2_sign_1 ?_
  refine lv_aload_n hx hb dX2_sign_4 rfl (lv_at hl 0 rfl) ?_
  refine rg (C := RX2) (T := TX2) (N := 5) (v := .ref pz) hx hb hT inX2 hown hK hR.1.1 rfl 0 (by decide) mf_X2_15 rfl dX2_sign_5 ?_
  refine rg (C := RX3) (T := TX3) (N := 2) (v := .int (nI n)) hx hb hT inX3 hown hK hR.2.1 rfl 1 (by decide) mf_X2_30 rfl dX2_sign_8 ?_
  refine lv_icmp_ge (tgt := 29) hx hb dX2_sign_11 (by decide) (fun c1 => ?_) (fun c1 => ?_)
  · have h1 : ¬ u0 < n := by have := (nI_leI (by omega) (by omega)).mp c1; omega
    refine lv_iconst (v := 0) hx hb dX2_sign_29 (by decide) ?_
    exact nd_i hQ hx hb hr hlocks dX2_sign_30 ((sgn_out h1).symm)
  · have h1 : u0 < n := by have q : ¬ n ≤ u0 := fun q => c1 ((nI_leI (by omega) (by omega)).mpr q); omega
    refine lv_aload_n hx hb dX2_sign_14 rfl (lv_at hl 0 rfl) ?_
    refine rg (C := RX2) (T := TX2) (N := 5) (v := .ref pz) hx hb hT inX2 hown hK hR.1.1 rfl 0 (by decide) mf_X2_15 rfl dX2_sign_15 ?_
    refine rg (C := RX3) (T := TX3) (N := 2) (v := .ref (pz + 1)) hx hb hT inX3 hown hK hR.2.1 rfl 0 (by decide) mf_X2_82 rfl dX2_sign_18 ?_
    refine lv_aload_n hx hb dX2_sign_21 rfl (lv_at hl 0 rfl) ?_
    refine rg (C := RX2) (T := TX2) (N := 5) (v := .int (nI u0)) hx hb hT inX2 hown hK hR.1.1 rfl 1 (by decide) mf_X2_19 rfl dX2_sign_22 ?_
    refine r_caldS (y := T u0) hx hb hK hR.2.2 u0 (rfl) (by omega) (Nat.le_of_ble_eq_true rfl) rfl dX2_sign_25 ?_
    refine lv_goto (tgt := 30) hx hb dX2_sign_26 (by decide) ?_
    exact nd_i hQ hx hb hr hlocks dX2_sign_30 ((sgn_in h1).symm)

set_option maxHeartbeats 4000000 in
set_option maxRecDepth 100000 in
theorem k_X2_isAtDigit (l : Launch) (G : GG) (z pz : Nat) (T : Nat → Int32) (n : Nat) (N : Nat → Int32) (u0 j : Nat) (kd : Int32)  (hn : n ≤ 80) (hp : u0 ≤ n)  : Met l yX2_isAtDigit (ws_ yX2_isAtDigit cX2_isAtDigit 1 (some .boolean)) (rm_ 1) (PC G [.ref z] (RdC G z pz T n N u0 j kd)) (vp_Si (fun v => v = bc (isD T n u0))) 0 0 NoA := by
  refine met_q (by decide +kernel) (Nat.le_of_ble_eq_true rfl) ?_
  intro p e s m args below meth c Q hQ hx hb hr hT hown hml hlocks hnm hK hR ls hl
  have hl : lv_has ls 1 [(0, .ref z)] := hl
  refine lv_aload_n hx hb dX2_isAtDigit_0 rfl (lv_at hl 0 rfl) ?_
  refine got_i (run_i hx hb hml hown hT hK hl.1 (k_X2_sign l G z pz T n N u0 j kd hn hp) (cw_X2_39 hT ⟨Nat.le_of_ble_eq_true rfl, Nat.le_of_ble_eq_true rfl⟩) hR.1.1 rfl hR rfl rfl (Nat.le_of_ble_eq_true rfl) dX2_isAtDigit_1 ⟨Nat.zero_le _, Nat.zero_le _⟩) (fun v_1 hv_1 => ?_)
  subst hv_1
  refine lv_bipush (v := 48) hx hb dX2_isAtDigit_4 (by decide) ?_
  refine lv_icmp_lt (tgt := 22) hx hb dX2_isAtDigit_6 (by decide) (fun c1 => ?_) (fun c1 => ?_)
  · refine lv_iconst (v := 0) hx hb dX2_isAtDigit_22 (by decide) ?_
    exact nd_z hQ hx hb hr hlocks dX2_isAtDigit_23 (by first | exact Or.inl rfl | exact Or.inr rfl) (bc_f (fun q => i32_lt_nle c1 (isD_sgn.mpr q).1))
  · refine lv_aload_n hx hb dX2_isAtDigit_9 rfl (lv_at hl 0 rfl) ?_
    refine got_i (run_i hx hb hml hown hT hK hl.1 (k_X2_sign l G z pz T n N u0 j kd hn hp) (cw_X2_39 hT ⟨Nat.le_of_ble_eq_true rfl, Nat.le_of_ble_eq_true rfl⟩) hR.1.1 rfl hR rfl rfl (Nat.le_of_ble_eq_true rfl) dX2_isAtDigit_10 ⟨Nat.zero_le _, Nat.zero_le _⟩) (fun v_2 hv_2 => ?_)
    subst hv_2
    refine lv_bipush (v := 57) hx hb dX2_isAtDigit_13 (by decide) ?_
    refine lv_icmp_gt (tgt := 22) hx hb dX2_isAtDigit_15 (by decide) (fun c2 => ?_) (fun c2 => ?_)
    · refine lv_iconst (v := 0) hx hb dX2_isAtDigit_22 (by decide) ?_
      exact nd_z hQ hx hb hr hlocks dX2_isAtDigit_23 (by first | exact Or.inl rfl | exact Or.inr rfl) (bc_f (fun q => i32_lt_nle c2 (isD_sgn.mpr q).2))
    · refine lv_iconst (v := 1) hx hb dX2_isAtDigit_18 (by decide) ?_
      refine lv_goto (tgt := 23) hx hb dX2_isAtDigit_19 (by decide) ?_
      exact nd_z hQ hx hb hr hlocks dX2_isAtDigit_23 (by first | exact Or.inl rfl | exact Or.inr rfl) (bc_t (isD_sgn.mp ⟨i32_nlt c1, i32_nlt c2⟩))

set_option maxHeartbeats 4000000 in
set_option maxRecDepth 100000 in
theorem k_X2_readSign (l : Launch) (G : GG) (z pz : Nat) (T : Nat → Int32) (n : Nat) (N : Nat → Int32) (u0 j : Nat) (kd : Int32) (y : Int32) (hn : n ≤ 80) (hp : u0 ≤ n) (hne : pz + 2 ≤ z ∨ z + 2 ≤ pz)  : Met l yX2_readSign (ws_ yX2_readSign cX2_readSign 2 (some .boolean)) (rm_ 1) (PC G [.ref z, .int y] (RdC G z pz T n N u0 j kd)) (QI (fun v H => (v = 1 ∧ sgn T n u0 = y ∧ RdC G z pz T n N (u0 + 1) j kd H) ∨ (v = 0 ∧ ¬ sgn T n u0 = y ∧ RdC G z pz T n N u0 j kd H)) (In z 2)) 0 0 (In z 2) := by
  refine met_q (by decide +kernel) (Nat.le_of_ble_eq_true rfl) ?_
  intro p e s m args below meth c Q hQ hx hb hr hT hown hml hlocks hnm hK hR ls hl
  have hl : lv_has ls 2 [(0, .ref z), (1, .int y)] := hl
  have hS : va_S (In z 2) s.heap s.heap [] := va_S.rf
  refine lv_aload_n hx hb dX2_readSign_0 rfl (lv_at hl 0 rfl) ?_
  refine got_i (run_i hx hb hml hown hT hK hl.1 (k_X2_sign l G z pz T n N u0 j kd hn hp) (cw_X2_39 hT ⟨Nat.le_of_ble_eq_true rfl, Nat.le_of_ble_eq_true rfl⟩) hR.1.1 rfl hR rfl rfl (Nat.le_of_ble_eq_true rfl) dX2_readSign_1 ⟨Nat.zero_le _, Nat.zero_le _⟩) (fun v_1 hv_1 => ?_)
  subst hv_1
  refine lv_iload_n hx hb dX2_readSign_4 rfl (lv_at hl 1 rfl) ?_
  refine lv_icmp_eq (tgt := 10) hx hb dX2_readSign_5 (by decide) (fun c1 => ?_) (fun c1 => ?_)
  · refine lv_aload_n hx hb dX2_readSign_10 rfl (lv_at hl 0 rfl) ?_
    refine lv_dup hx hb dX2_readSign_11 rfl ?_
    refine rg (C := RX2) (T := TX2) (N := 5) (v := .int (nI u0)) hx hb hT inX2 hown hK hR.1.1 rfl 1 (by decide) mf_X2_19 rfl dX2_readSign_12 ?_
    refine lv_iconst (v := 1) hx hb dX2_readSign_15 (by decide) ?_
    refine lv_iadd hx hb dX2_readSign_16 ?_
    rw [nI_1]
    refine rp (C := RX2) (T := TX2) (N := 5) (v := .int (nI (u0 + 1))) (ty := .int) hx hb hT inX2 tyX2 tyX2_ok nmX2 hown hK hR.1.1 rfl 1 (by decide) mf_X2_19 rfl (by decide +kernel) rfl rfl (Nat.le_of_ble_eq_true rfl) hS (show _ ∧ _ from ⟨by omega, by omega⟩) dX2_readSign_17 (fun H locs h1 o hS => ?_)
    have hR : RdC G z pz T n N (u0 + 1) j kd H := ⟨hR.1.f h1 o, hR.2.kept (fun q _ _ => o.2 q (by omega))⟩
    refine lv_iconst (v := 1) hx hb dX2_readSign_20 (by decide) ?_
    exact nd_Z hQ hx hb hr hlocks dX2_readSign_21 hS (by first | exact Or.inl rfl | exact Or.inr rfl | exact bi01) (Or.inl ⟨rfl, c1, hR⟩)
  · refine lv_iconst (v := 0) hx hb dX2_readSign_8 (by decide) ?_
    exact nd_Z hQ hx hb hr hlocks dX2_readSign_9 hS (by first | exact Or.inl rfl | exact Or.inr rfl | exact bi01) (Or.inr ⟨rfl, c1, hR⟩)

set_option maxHeartbeats 4000000 in
set_option maxRecDepth 100000 in
theorem k_X2_readNumber (l : Launch) (G : GG) (z pz : Nat) (T : Nat → Int32) (n : Nat) (N : Nat → Int32) (u0 j : Nat) (kd : Int32) (e0 : Nat) (hn : n ≤ 80) (hp : u0 ≤ n) (hne : pz + 2 ≤ z ∨ z + 2 ≤ pz) (hj : j < 5) (he : e0 ≤ 3) : Met l yX2_readNumber (ws_ yX2_readNumber cX2_readNumber 4 (some .boolean)) (rm_ 2) (PC G [.ref z, .int (nI (e0 + 1))] (RdC G z pz T n N u0 j kd)) (QI (fun v H => (v = 1 ∧ isD T n u0 ∧ RdC G z pz T n (upd N j (nI (nmF T n e0 (dg T u0) (u0 + 1)).1)) (nmF T n e0 (dg T u0) (u0 + 1)).2 (j + 1) kd H) ∨ (v = 0 ∧ ¬ isD T n u0 ∧ RdC G z pz T n N u0 j kd H)) (In z 2)) 0 0 (In z 2) := by
  refine met_q (by decide +kernel) (Nat.le_of_ble_eq_true rfl) ?_
  intro p e s m args below meth c Q hQ hx hb hr hT hown hml hlocks hnm hK hR ls hl
  have hl : lv_has ls 4 [(0, .ref z), (1, .int (nI (e0 + 1)))] := hl
  have hS : va_S (In z 2) s.heap s.heap [] := va_S.rf
  refine lv_aload_n hx hb dX2_readNumber_0 rfl (lv_at hl 0 rfl) ?_
  refine got_i (run_i hx hb hml hown hT hK hl.1 (k_X2_isAtDigit l G z pz T n N u0 j kd hn hp) (cw_X2_79 hT ⟨Nat.le_of_ble_eq_true rfl, Nat.le_of_ble_eq_true rfl⟩) hR.1.1 rfl hR rfl rfl (Nat.le_of_ble_eq_true rfl) dX2_readNumber_1 ⟨Nat.zero_le _, Nat.zero_le _⟩) (fun v_1 hv_1 => ?_)
  subst hv_1
  refine lv_if_eq (tgt := 19) hx hb dX2_readNumber_4 (by decide) (fun c1 => ?_) (fun c1 => ?_)
  · have hD : ¬ isD T n u0 := bc_e0 c1
    refine lv_iconst (v := 0) hx hb dX2_readNumber_19 (by decide) ?_
    exact nd_Z hQ hx hb hr hlocks dX2_readNumber_20 hS (by first | exact Or.inl rfl | exact Or.inr rfl | exact bi01) (Or.inr ⟨rfl, hD, hR⟩)
  · have hD : isD T n u0 := bc_n0 c1
    have hlt := hD.1
    refine lv_aload_n hx hb dX2_readNumber_7 rfl (lv_at hl 0 rfl) ?_
    refine rg (C := RX2) (T := TX2) (N := 5) (v := .int (nI j)) hx hb hT inX2 hown hK hR.1.1 rfl 2 (by decide) mf_X2_55 rfl dX2_readNumber_8 ?_
    refine lv_aload_n hx hb dX2_readNumber_11 rfl (lv_at hl 0 rfl) ?_
    refine rg (C := RX2) (T := TX2) (N := 5) (v := .ref (z + 1)) hx hb hT inX2 hown hK hR.1.1 rfl 4 (by decide) mf_X2_9 rfl dX2_readNumber_12 ?_
    refine r_alen hx hb hK hR.1.2 rfl (v := 5) rfl dX2_readNumber_15 ?_
    refine lv_icmp_lt (tgt := 21) hx hb dX2_readNumber_16 (by decide) (fun c2 => ?_) (fun c2 => ?_)
    · refine lv_aload_n hx hb dX2_readNumber_21 rfl (lv_at hl 0 rfl) ?_
      refine got_i (run_i hx hb hml hown hT hK hl.1 (k_X2_sign l G z pz T n N u0 j kd hn hp) (cw_X2_39 hT ⟨Nat.le_of_ble_eq_true rfl, Nat.le_of_ble_eq_true rfl⟩) hR.1.1 rfl hR rfl rfl (Nat.le_of_ble_eq_true rfl) dX2_readNumber_22 ⟨Nat.zero_le _, Nat.zero_le _⟩) (fun v_2 hv_2 => ?_)
      subst hv_2
      refine lv_bipush (v := 48) hx hb dX2_readNumber_25 (by decide) ?_
      refine lv_isub hx hb dX2_readNumber_27 ?_
      rw [show sgn T n u0 - 48 = nI (dg T u0) from by rw [sgn_in hlt, (dg_nI hD).1, show (48 : Int32) = nI 48 from rfl, pk_sub (by omega), show 48 + dg T u0 - 48 = dg T u0 by omega]]
      refine lv_istore_n (lv' := [(2, .int (nI (dg T u0))), (0, .ref z), (1, .int (nI (e0 + 1)))]) hx hb dX2_readNumber_28 rfl hl (by decide) rfl (fun ls hl => ?_)
      refine lv_aload_n hx hb dX2_readNumber_29 rfl (lv_at hl 1 rfl) ?_
      refine lv_dup hx hb dX2_readNumber_30 rfl ?_
      refine rg (C := RX2) (T := TX2) (N := 5) (v := .int (nI u0)) hx hb hT inX2 hown hK hR.1.1 rfl 1 (by decide) mf_X2_19 rfl dX2_readNumber_31 ?_
      refine lv_iconst (v := 1) hx hb dX2_readNumber_34 (by decide) ?_
      refine lv_iadd hx hb dX2_readNumber_35 ?_
      rw [nI_1]
      refine rp (C := RX2) (T := TX2) (N := 5) (v := .int (nI (u0 + 1))) (ty := .int) hx hb hT inX2 tyX2 tyX2_ok nmX2 hown hK hR.1.1 rfl 1 (by decide) mf_X2_19 rfl (by decide +kernel) rfl rfl (Nat.le_of_ble_eq_true rfl) hS (show _ ∧ _ from ⟨by omega, by omega⟩) dX2_readNumber_36 (fun H locs h1 o hS => ?_)
      have hR : RdC G z pz T n N (u0 + 1) j kd H := ⟨hR.1.f h1 o, hR.2.kept (fun q _ _ => o.2 q (by omega))⟩
      have hd9 := (dg_nI hD).2
      refine lv_iconst (v := 1) hx hb dX2_readNumber_39 (by decide) ?_
      rw [show (1 : Int32) = nI 1 from rfl]
      refine lv_istore_n (lv' := [(3, .int (nI 1)), (2, .int (nI (dg T u0))), (0, .ref z), (1, .int (nI (e0 + 1)))]) hx hb dX2_readNumber_40 rfl hl (by decide) rfl (fun ls hl => ?_)
      have loop : ∀ (k : Nat) (g0 : Nat) (v0 : Nat) (u1 : Nat) (H : Heap) (locs : List Loc), va_S (In z 2) s.heap H locs → g0 ≤ e0 + 1 ∧ 1 ≤ g0 → u1 ≤ n → v0 < 10 ^ g0 → nmF T n (e0 + 1 - g0) v0 u1 = nmF T n e0 (dg T u0) (u0 + 1) → RdC G z pz T n N u1 j kd H → e0 + 1 - g0 < k → ∀ ls : Array Slot, lv_has ls 4 [(3, .int (nI g0)), (2, .int (nI v0)), (0, .ref z), (1, .int (nI (e0 + 1)))] → W p l e (rm_ 2) s m args below meth c H locs 0 0 Q (F0 m 41 ls []) := by
        intro k
        induction k with
        | zero => intro g0 v0 u1 H locs hS hg hu1 hv0 hr9 hR hm; exact absurd hm (Nat.not_lt_zero _)
        | succ k ih =>
          intro g0 v0 u1 H locs hS hg hu1 hv0 hr9 hR hm ls hl
          have hvb : v0 < 10000 := Nat.lt_of_lt_of_le hv0 (Nat.pow_le_pow_right (n := 10) (i := g0) (j := 4) (by omega) (by omega))
          refine lv_iload_n hx hb dX2_readNumber_41 rfl (lv_at hl 0 rfl) ?_
          refine lv_iload_n hx hb dX2_readNumber_42 rfl (lv_at hl 3 rfl) ?_
          refine lv_icmp_ge (tgt := 86) hx hb dX2_readNumber_43 (by decide) (fun c3 => ?_) (fun c3 => ?_)
          · have hge : e0 + 1 ≤ g0 := (nI_leI (by omega) (by omega)).mp c3
            have he9 : nmF T n e0 (dg T u0) (u0 + 1) = (v0, u1) := by rw [← hr9]; rw [show e0 + 1 - g0 = 0 by omega]; rfl
            rw [he9] at hQ
            refine lv_aload_n hx hb dX2_readNumber_86 rfl (lv_at hl 2 rfl) ?_
            refine rg (C := RX2) (T := TX2) (N := 5) (v := .ref (z + 1)) hx hb hT inX2 hown hK hR.1.1 rfl 4 (by decide) mf_X2_9 rfl dX2_readNumber_87 ?_
            refine lv_aload_n hx hb dX2_readNumber_90 rfl (lv_at hl 2 rfl) ?_
            refine rg (C := RX2) (T := TX2) (N := 5) (v := .int (nI j)) hx hb hT inX2 hown hK hR.1.1 rfl 2 (by decide) mf_X2_55 rfl dX2_readNumber_91 ?_
            refine lv_iload_n hx hb dX2_readNumber_94 rfl (lv_at hl 1 rfl) ?_
            refine r_iast hx hb hK hR.1.2 j (rfl) (by omega) (Nat.le_of_ble_eq_true rfl) hS (show _ ∧ _ from ⟨by omega, by omega⟩) dX2_readNumber_95 (fun H locs h1 o hS => ?_)
            have hR : RdC G z pz T n (upd N j (nI v0)) u1 j kd H := ⟨hR.1.n h1 o, hR.2.kept (fun q _ _ => o.2 q (by omega))⟩
            refine lv_aload_n hx hb dX2_readNumber_96 rfl (lv_at hl 2 rfl) ?_
            refine lv_dup hx hb dX2_readNumber_97 rfl ?_
            refine rg (C := RX2) (T := TX2) (N := 5) (v := .int (nI j)) hx hb hT inX2 hown hK hR.1.1 rfl 2 (by decide) mf_X2_55 rfl dX2_readNumber_98 ?_
            refine lv_iconst (v := 1) hx hb dX2_readNumber_101 (by decide) ?_
            refine lv_iadd hx hb dX2_readNumber_102 ?_
            rw [nI_1]
            refine rp (C := RX2) (T := TX2) (N := 5) (v := .int (nI (j + 1))) (ty := .int) hx hb hT inX2 tyX2 tyX2_ok nmX2 hown hK hR.1.1 rfl 2 (by decide) mf_X2_55 rfl (by decide +kernel) rfl rfl (Nat.le_of_ble_eq_true rfl) hS (show _ ∧ _ from ⟨by omega, by omega⟩) dX2_readNumber_103 (fun H locs h1 o hS => ?_)
            have hR : RdC G z pz T n (upd N j (nI v0)) u1 (j + 1) kd H := ⟨hR.1.f h1 o, hR.2.kept (fun q _ _ => o.2 q (by omega))⟩
            refine lv_iconst (v := 1) hx hb dX2_readNumber_106 (by decide) ?_
            exact nd_Z hQ hx hb hr hlocks dX2_readNumber_107 hS (by first | exact Or.inl rfl | exact Or.inr rfl | exact bi01) (Or.inl ⟨rfl, hD, hR⟩)
          · have hgl : ¬ e0 + 1 ≤ g0 := fun q => c3 ((nI_leI (by omega) (by omega)).mpr q)
            refine lv_iload_n hx hb dX2_readNumber_46 rfl (lv_at hl 1 rfl) ?_
            refine lv_if_le (tgt := 86) hx hb dX2_readNumber_47 (by decide) (fun c4 => ?_) (fun c4 => ?_)
            · have hv00 : v0 = 0 := by
                have h9 := (nI_leI (b := 0) (by omega) (by omega)).mp c4
                omega
              have he9 : nmF T n e0 (dg T u0) (u0 + 1) = (v0, u1) := by rw [← hr9]; exact nmF_n (by omega)
              rw [he9] at hQ
              refine lv_aload_n hx hb dX2_readNumber_86 rfl (lv_at hl 2 rfl) ?_
              refine rg (C := RX2) (T := TX2) (N := 5) (v := .ref (z + 1)) hx hb hT inX2 hown hK hR.1.1 rfl 4 (by decide) mf_X2_9 rfl dX2_readNumber_87 ?_
              refine lv_aload_n hx hb dX2_readNumber_90 rfl (lv_at hl 2 rfl) ?_
              refine rg (C := RX2) (T := TX2) (N := 5) (v := .int (nI j)) hx hb hT inX2 hown hK hR.1.1 rfl 2 (by decide) mf_X2_55 rfl dX2_readNumber_91 ?_
              refine lv_iload_n hx hb dX2_readNumber_94 rfl (lv_at hl 1 rfl) ?_
              refine r_iast hx hb hK hR.1.2 j (rfl) (by omega) (Nat.le_of_ble_eq_true rfl) hS (show _ ∧ _ from ⟨by omega, by omega⟩) dX2_readNumber_95 (fun H locs h1 o hS => ?_)
              have hR : RdC G z pz T n (upd N j (nI v0)) u1 j kd H := ⟨hR.1.n h1 o, hR.2.kept (fun q _ _ => o.2 q (by omega))⟩
              refine lv_aload_n hx hb dX2_readNumber_96 rfl (lv_at hl 2 rfl) ?_
              refine lv_dup hx hb dX2_readNumber_97 rfl ?_
              refine rg (C := RX2) (T := TX2) (N := 5) (v := .int (nI j)) hx hb hT inX2 hown hK hR.1.1 rfl 2 (by decide) mf_X2_55 rfl dX2_readNumber_98 ?_
              refine lv_iconst (v := 1) hx hb dX2_readNumber_101 (by decide) ?_
              refine lv_iadd hx hb dX2_readNumber_102 ?_
              rw [nI_1]
              refine rp (C := RX2) (T := TX2) (N := 5) (v := .int (nI (j + 1))) (ty := .int) hx hb hT inX2 tyX2 tyX2_ok nmX2 hown hK hR.1.1 rfl 2 (by decide) mf_X2_55 rfl (by decide +kernel) rfl rfl (Nat.le_of_ble_eq_true rfl) hS (show _ ∧ _ from ⟨by omega, by omega⟩) dX2_readNumber_103 (fun H locs h1 o hS => ?_)
              have hR : RdC G z pz T n (upd N j (nI v0)) u1 (j + 1) kd H := ⟨hR.1.f h1 o, hR.2.kept (fun q _ _ => o.2 q (by omega))⟩
              refine lv_iconst (v := 1) hx hb dX2_readNumber_106 (by decide) ?_
              exact nd_Z hQ hx hb hr hlocks dX2_readNumber_107 hS (by first | exact Or.inl rfl | exact Or.inr rfl | exact bi01) (Or.inl ⟨rfl, hD, hR⟩)
            · have hvp : 0 < v0 := Nat.pos_of_ne_zero (fun q => c4 (by rw [q]; decide))
              refine lv_aload_n hx hb dX2_readNumber_50 rfl (lv_at hl 2 rfl) ?_
              refine got_i (run_i hx hb hml hown hT hK hl.1 (k_X2_isAtDigit l G z pz T n N u1 j kd hn hu1) (cw_X2_79 hT ⟨Nat.le_of_ble_eq_true rfl, Nat.le_of_ble_eq_true rfl⟩) hR.1.1 rfl hR rfl rfl (Nat.le_of_ble_eq_true rfl) dX2_readNumber_51 ⟨Nat.zero_le _, Nat.zero_le _⟩) (fun v_3 hv_3 => ?_)
              subst hv_3
              refine lv_if_eq (tgt := 86) hx hb dX2_readNumber_54 (by decide) (fun c5 => ?_) (fun c5 => ?_)
              · have hD1 : ¬ isD T n u1 := bc_e0 c5
                have he9 : nmF T n e0 (dg T u0) (u0 + 1) = (v0, u1) := by rw [← hr9]; exact nmF_n (fun q => hD1 q.2)
                rw [he9] at hQ
                refine lv_aload_n hx hb dX2_readNumber_86 rfl (lv_at hl 2 rfl) ?_
                refine rg (C := RX2) (T := TX2) (N := 5) (v := .ref (z + 1)) hx hb hT inX2 hown hK hR.1.1 rfl 4 (by decide) mf_X2_9 rfl dX2_readNumber_87 ?_
                refine lv_aload_n hx hb dX2_readNumber_90 rfl (lv_at hl 2 rfl) ?_
                refine rg (C := RX2) (T := TX2) (N := 5) (v := .int (nI j)) hx hb hT inX2 hown hK hR.1.1 rfl 2 (by decide) mf_X2_55 rfl dX2_readNumber_91 ?_
                refine lv_iload_n hx hb dX2_readNumber_94 rfl (lv_at hl 1 rfl) ?_
                refine r_iast hx hb hK hR.1.2 j (rfl) (by omega) (Nat.le_of_ble_eq_true rfl) hS (show _ ∧ _ from ⟨by omega, by omega⟩) dX2_readNumber_95 (fun H locs h1 o hS => ?_)
                have hR : RdC G z pz T n (upd N j (nI v0)) u1 j kd H := ⟨hR.1.n h1 o, hR.2.kept (fun q _ _ => o.2 q (by omega))⟩
                refine lv_aload_n hx hb dX2_readNumber_96 rfl (lv_at hl 2 rfl) ?_
                refine lv_dup hx hb dX2_readNumber_97 rfl ?_
                refine rg (C := RX2) (T := TX2) (N := 5) (v := .int (nI j)) hx hb hT inX2 hown hK hR.1.1 rfl 2 (by decide) mf_X2_55 rfl dX2_readNumber_98 ?_
                refine lv_iconst (v := 1) hx hb dX2_readNumber_101 (by decide) ?_
                refine lv_iadd hx hb dX2_readNumber_102 ?_
                rw [nI_1]
                refine rp (C := RX2) (T := TX2) (N := 5) (v := .int (nI (j + 1))) (ty := .int) hx hb hT inX2 tyX2 tyX2_ok nmX2 hown hK hR.1.1 rfl 2 (by decide) mf_X2_55 rfl (by decide +kernel) rfl rfl (Nat.le_of_ble_eq_true rfl) hS (show _ ∧ _ from ⟨by omega, by omega⟩) dX2_readNumber_103 (fun H locs h1 o hS => ?_)
                have hR : RdC G z pz T n (upd N j (nI v0)) u1 (j + 1) kd H := ⟨hR.1.f h1 o, hR.2.kept (fun q _ _ => o.2 q (by omega))⟩
                refine lv_iconst (v := 1) hx hb dX2_readNumber_106 (by decide) ?_
                exact nd_Z hQ hx hb hr hlocks dX2_readNumber_107 hS (by first | exact Or.inl rfl | exact Or.inr rfl | exact bi01) (Or.inl ⟨rfl, hD, hR⟩)
              · have hD1 : isD T n u1 := bc_n0 c5
                have hlt1 := hD1.1
                obtain ⟨ed, hd1⟩ := dg_nI hD1
                have eT : nI 10 * nI v0 + sgn T n u1 - nI 48 = nI (10 * v0 + dg T u1) := by
                  rw [sgn_in hlt1, ed, pk_mul, nI_add, pk_sub (by omega), show 10 * v0 + (48 + dg T u1) - 48 = 10 * v0 + dg T u1 by omega]
                have hq1 : 10 * v0 + dg T u1 < 10 ^ (g0 + 1) := by rw [Nat.pow_succ]; omega
                rw [show e0 + 1 - g0 = (e0 + 1 - (g0 + 1)) + 1 by omega, nmF_y ⟨hvp, hD1⟩] at hr9
                refine lv_bipush (v := 10) hx hb dX2_readNumber_57 (by decide) ?_
                refine lv_iload_n hx hb dX2_readNumber_59 rfl (lv_at hl 1 rfl) ?_
                refine lv_imul hx hb dX2_readNumber_60 ?_
                refine lv_aload_n hx hb dX2_readNumber_61 rfl (lv_at hl 2 rfl) ?_
                refine got_i (run_i hx hb hml hown hT hK hl.1 (k_X2_sign l G z pz T n N u1 j kd hn hu1) (cw_X2_39 hT ⟨Nat.le_of_ble_eq_true rfl, Nat.le_of_ble_eq_true rfl⟩) hR.1.1 rfl hR rfl rfl (Nat.le_of_ble_eq_true rfl) dX2_readNumber_62 ⟨Nat.zero_le _, Nat.zero_le _⟩) (fun v_4 hv_4 => ?_)
                subst hv_4
                refine lv_iadd hx hb dX2_readNumber_65 ?_
                refine lv_bipush (v := 48) hx hb dX2_readNumber_66 (by decide) ?_
                refine lv_isub hx hb dX2_readNumber_68 ?_
                rw [show (10 : Int32) * nI v0 + sgn T n u1 - 48 = nI (10 * v0 + dg T u1) from eT]
                refine lv_istore_n (lv' := [(2, .int (nI (10 * v0 + dg T u1))), (3, .int (nI g0)), (0, .ref z), (1, .int (nI (e0 + 1)))]) hx hb dX2_readNumber_69 rfl hl (by decide) rfl (fun ls hl => ?_)
                refine lv_aload_n hx hb dX2_readNumber_70 rfl (lv_at hl 2 rfl) ?_
                refine lv_dup hx hb dX2_readNumber_71 rfl ?_
                refine rg (C := RX2) (T := TX2) (N := 5) (v := .int (nI u1)) hx hb hT inX2 hown hK hR.1.1 rfl 1 (by decide) mf_X2_19 rfl dX2_readNumber_72 ?_
                refine lv_iconst (v := 1) hx hb dX2_readNumber_75 (by decide) ?_
                refine lv_iadd hx hb dX2_readNumber_76 ?_
                rw [nI_1]
                refine rp (C := RX2) (T := TX2) (N := 5) (v := .int (nI (u1 + 1))) (ty := .int) hx hb hT inX2 tyX2 tyX2_ok nmX2 hown hK hR.1.1 rfl 1 (by decide) mf_X2_19 rfl (by decide +kernel) rfl rfl (Nat.le_of_ble_eq_true rfl) hS (show _ ∧ _ from ⟨by omega, by omega⟩) dX2_readNumber_77 (fun H locs h1 o hS => ?_)
                have hR : RdC G z pz T n N (u1 + 1) j kd H := ⟨hR.1.f h1 o, hR.2.kept (fun q _ _ => o.2 q (by omega))⟩
                refine lv_iinc (v := nI (g0 + 1)) (lv' := [(3, .int (nI (g0 + 1))), (2, .int (nI (10 * v0 + dg T u1))), (0, .ref z), (1, .int (nI (e0 + 1)))]) hx hb dX2_readNumber_80 hl (k := 1) rfl (nI_1 g0) (by decide) rfl (fun ls hl => ?_)
                refine lv_goto (tgt := 41) hx hb dX2_readNumber_83 (by decide) ?_
                exact ih (g0 + 1) (10 * v0 + dg T u1) (u1 + 1) _ _ hS (by omega) hlt1 hq1 hr9 hR (by omega) ls (lv_sub hl [0, 1, 2, 3] rfl)
      exact loop (e0 + 1) 1 (dg T u0) (u0 + 1) _ _ hS (by omega) hlt (by omega) rfl hR (by omega) ls (lv_sub hl [0, 1, 2, 3] rfl)
    · exact absurd ((nI_ltI (b := 5) (by omega) (by omega)).mpr hj) c2
