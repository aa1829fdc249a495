/-! String's methods on a constant -/
theorem va_S_nil {H0 H : Heap} {locs : List Loc} (h : va_S NoA H0 H locs) : locs = [] := List.eq_nil_iff_forall_not_mem.mpr (fun q hq => h.2.2 q hq)
def chS (f : Nat → Int32) (i : Nat) : Int32 := ((f i &&& 255).toUInt32 % 65536).toInt32
abbrev SxS (q t N : Nat) (f : Nat → Int32) : State → Prop := fun U => StA q t N f NoA U ∧ SzA NoA U
theorem SB_SxS {q t N : Nat} {f : Nat → Int32} : SB (SxS q t N f) := SB_and SB_StA SB_SzA

set_option maxHeartbeats 4000000 in
set_option maxRecDepth 100000 in
theorem k_J0_coder_7d493 (l : Launch) (G : GG) (q t N : Nat) (f : Nat → Int32)  : Met l yJ0_coder_7d493 (ws_ yJ0_coder_7d493 cJ0_coder_7d493 1 (some .byte)) (rm_ 0) (PCX G (SxS q t N f) [.ref q] (fun _ => True)) (vp_Si (fun v => v = 0)) 0 0 NoA := by
  refine met_qx (by decide +kernel) (Nat.le_of_ble_eq_true rfl) ?_
  intro p e s m args below meth c Q hQ hx hb hr hT hown hml hlocks hnm hK hX hP ls hl
  have hl : lv_has ls 1 [(0, .ref q)] := hl
  refine va_gets hx hb hX.2 va_S.rf hown (hT _ mf_J0_38) (fun _ q => q) dJ0_coder_7d493_0 ?_
  refine lv_if_eq (tgt := 13) hx hb dJ0_coder_7d493_3 (by decide) (fun c1 => ?_) (fun c1 => ?_)
  · exact absurd c1 (by decide)
  · refine lv_aload_n hx hb dJ0_coder_7d493_6 rfl (lv_at hl 0 rfl) ?_
    refine vk_getf hx hb hX.1.2.1 va_S.rf hown (hT _ mf_J0_15) (fun _ q => q) dJ0_coder_7d493_7 ?_
    refine lv_goto (tgt := 14) hx hb dJ0_coder_7d493_10 (by decide) ?_
    subst hQ
    exact end_z (ty := .byte) hx hb hr (rfl) hlocks (rfl) dJ0_coder_7d493_14

set_option maxHeartbeats 4000000 in
set_option maxRecDepth 100000 in
theorem k_J0_isLatin1_aae02 (l : Launch) (G : GG) (q t N : Nat) (f : Nat → Int32)  : Met l yJ0_isLatin1_aae02 (ws_ yJ0_isLatin1_aae02 cJ0_isLatin1_aae02 1 (some .boolean)) (rm_ 0) (PCX G (SxS q t N f) [.ref q] (fun _ => True)) (vp_Si (fun v => v = 1)) 0 0 NoA := by
  refine met_qx (by decide +kernel) (Nat.le_of_ble_eq_true rfl) ?_
  intro p e s m args below meth c Q hQ hx hb hr hT hown hml hlocks hnm hK hX hP ls hl
  have hl : lv_has ls 1 [(0, .ref q)] := hl
  refine va_gets hx hb hX.2 va_S.rf hown (hT _ mf_J0_38) (fun _ q => q) dJ0_isLatin1_aae02_0 ?_
  refine lv_if_eq (tgt := 17) hx hb dJ0_isLatin1_aae02_3 (by decide) (fun c1 => ?_) (fun c1 => ?_)
  · exact absurd c1 (by decide)
  · refine lv_aload_n hx hb dJ0_isLatin1_aae02_6 rfl (lv_at hl 0 rfl) ?_
    refine vk_getf hx hb hX.1.2.1 va_S.rf hown (hT _ mf_J0_15) (fun _ q => q) dJ0_isLatin1_aae02_7 ?_
    refine lv_if_ne (tgt := 17) hx hb dJ0_isLatin1_aae02_10 (by decide) (fun c2 => ?_) (fun c2 => ?_)
    · exact absurd rfl c2
    · refine lv_iconst (v := 1) hx hb dJ0_isLatin1_aae02_13 (by decide) ?_
      refine lv_goto (tgt := 18) hx hb dJ0_isLatin1_aae02_14 (by decide) ?_
      exact nd_z hQ hx hb hr hlocks dJ0_isLatin1_aae02_18 (Or.inr rfl) (rfl)

set_option maxHeartbeats 4000000 in
set_option maxRecDepth 100000 in
theorem k_J0_isEmpty_aae02 (l : Launch) (G : GG) (q t N : Nat) (f : Nat → Int32) (hN : N < 2 ^ 31) : Met l yJ0_isEmpty_aae02 (ws_ yJ0_isEmpty_aae02 cJ0_isEmpty_aae02 1 (some .boolean)) (rm_ 0) (PCX G (SxS q t N f) [.ref q] (fun _ => True)) (vp_Si (fun v => v = (if N = 0 then 1 else 0))) 0 0 NoA := by
  refine met_qx (by decide +kernel) (Nat.le_of_ble_eq_true rfl) ?_
  intro p e s m args below meth c Q hQ hx hb hr hT hown hml hlocks hnm hK hX hP ls hl
  have hl : lv_has ls 1 [(0, .ref q)] := hl
  refine lv_aload_n hx hb dJ0_isEmpty_aae02_0 rfl (lv_at hl 0 rfl) ?_
  refine vk_getf hx hb hX.1.2.2.1 va_S.rf hown (hT _ mf_J0_9) (fun _ q => q) dJ0_isEmpty_aae02_1 ?_
  refine va_tlen hx hb hX.1.2.2.2 va_S.rf (v := nI N) rfl dJ0_isEmpty_aae02_4 ?_
  refine lv_if_ne (tgt := 12) hx hb dJ0_isEmpty_aae02_5 (by decide) (fun c1 => ?_) (fun c1 => ?_)
  · have h0 : ¬ N = 0 := fun z => c1 (by rw [z]; rfl)
    refine lv_iconst (v := 0) hx hb dJ0_isEmpty_aae02_12 (by decide) ?_
    exact nd_z hQ hx hb hr hlocks dJ0_isEmpty_aae02_13 (by first | exact Or.inl rfl | exact Or.inr rfl) ((if_neg h0).symm)
  · have h0 : N = 0 := (nI_e0 hN).mp c1
    refine lv_iconst (v := 1) hx hb dJ0_isEmpty_aae02_8 (by decide) ?_
    refine lv_goto (tgt := 13) hx hb dJ0_isEmpty_aae02_9 (by decide) ?_
    exact nd_z hQ hx hb hr hlocks dJ0_isEmpty_aae02_13 (by first | exact Or.inl rfl | exact Or.inr rfl) ((if_pos h0).symm)

set_option maxHeartbeats 4000000 in
set_option maxRecDepth 100000 in
theorem k_J0_length_8abf5 (l : Launch) (G : GG) (q t N : Nat) (f : Nat → Int32)  : Met l yJ0_length_8abf5 (ws_ yJ0_length_8abf5 cJ0_length_8abf5 1 (some .int)) (rm_ 1) (PCX G (SxS q t N f) [.ref q] (fun _ => True)) (vp_Si (fun v => v = nI N)) 0 0 NoA := by
  refine met_qx (by decide +kernel) (Nat.le_of_ble_eq_true rfl) ?_
  intro p e s m args below meth c Q hQ hx hb hr hT hown hml hlocks hnm hK hX hP ls hl
  have hl : lv_has ls 1 [(0, .ref q)] := hl
  refine lv_aload_n hx hb dJ0_length_8abf5_0 rfl (lv_at hl 0 rfl) ?_
  refine vk_getf hx hb hX.1.2.2.1 va_S.rf hown (hT _ mf_J0_9) (fun _ q => q) dJ0_length_8abf5_1 ?_
  refine va_tlen hx hb hX.1.2.2.2 va_S.rf (v := nI N) rfl dJ0_length_8abf5_4 ?_
  refine lv_aload_n hx hb dJ0_length_8abf5_5 rfl (lv_at hl 0 rfl) ?_
  refine got_i (run_ox (SB_SxS) (fun U hU hW => ⟨hX.1.call va_S.rf (fun _ z => z) hU hW, hX.2.call va_S.rf (fun _ z => z) hU hW⟩) hx hb hml hown hT hK hl.1 (k_J0_coder_7d493 l G q t N f) (cw_J0_335 hT ⟨Nat.le_of_ble_eq_true rfl, Nat.le_of_ble_eq_true rfl⟩) (hX.1.recv va_S.rf) trivial rfl rfl (Nat.le_of_ble_eq_true rfl) dJ0_length_8abf5_6 ⟨Nat.zero_le _, Nat.zero_le _⟩) (fun v_1 hv_1 => ?_)
  subst hv_1
  refine lv_ishr hx hb dJ0_length_8abf5_9 ?_
  rw [show nI N >>> ((0 : Int32) &&& 31) = nI N from by rw [show ((0 : Int32) &&& 31) = 0 from rfl]; exact Int32.shiftRight_zero]
  exact nd_i hQ hx hb hr hlocks dJ0_length_8abf5_10 (rfl)

set_option maxHeartbeats 4000000 in
set_option maxRecDepth 100000 in
theorem k_J3_ci_n (l : Launch) (G : GG) (i N w0 : Nat) (hi : i < N) (hN : N < 2 ^ 31) : Met l yJ3_checkIndex_8e157 (ws_ yJ3_checkIndex_8e157 cJ3_checkIndex_8e157 3 (some .int)) (rm_ 0) (PC G [.int (nI i), .int (nI N), .null] (fun _ => True)) (vp_Si (fun v => v = nI i)) 0 0 NoA := by
  refine met_q (by decide +kernel) (Nat.le_of_ble_eq_true rfl) ?_
  intro p e s m args below meth c Q hQ hx hb hr hT hown hml hlocks hnm hK hP ls hl
  have hl : lv_has ls 3 [(0, .int (nI i)), (1, .int (nI N)), (2, .null)] := hl
  refine lv_iload_n hx hb dJ3_checkIndex_8e157_0 rfl (lv_at hl 0 rfl) ?_
  refine lv_if_lt (tgt := 9) hx hb dJ3_checkIndex_8e157_1 (by decide) (fun c1 => ?_) (fun c1 => ?_)
  · exact absurd c1 (nI_pos (by omega))
  · refine lv_iload_n hx hb dJ3_checkIndex_8e157_4 rfl (lv_at hl 0 rfl) ?_
    refine lv_iload_n hx hb dJ3_checkIndex_8e157_5 rfl (lv_at hl 1 rfl) ?_
    refine lv_icmp_lt (tgt := 16) hx hb dJ3_checkIndex_8e157_6 (by decide) (fun c2 => ?_) (fun c2 => ?_)
    · refine lv_iload_n hx hb dJ3_checkIndex_8e157_16 rfl (lv_at hl 0 rfl) ?_
      exact nd_i hQ hx hb hr hlocks dJ3_checkIndex_8e157_17 (rfl)
    · exact absurd ((nI_ltI (by omega) hN).mpr hi) c2

set_option maxHeartbeats 4000000 in
set_option maxRecDepth 100000 in
theorem k_J3_ci_r (l : Launch) (G : GG) (i N w0 : Nat) (hi : i < N) (hN : N < 2 ^ 31) : Met l yJ3_checkIndex_8e157 (ws_ yJ3_checkIndex_8e157 cJ3_checkIndex_8e157 3 (some .int)) (rm_ 0) (PC G [.int (nI i), .int (nI N), .ref w0] (fun _ => True)) (vp_Si (fun v => v = nI i)) 0 0 NoA := by
  refine met_q (by decide +kernel) (Nat.le_of_ble_eq_true rfl) ?_
  intro p e s m args below meth c Q hQ hx hb hr hT hown hml hlocks hnm hK hP ls hl
  have hl : lv_has ls 3 [(0, .int (nI i)), (1, .int (nI N)), (2, .ref w0)] := hl
  refine lv_iload_n hx hb dJ3_checkIndex_8e157_0 rfl (lv_at hl 0 rfl) ?_
  refine lv_if_lt (tgt := 9) hx hb dJ3_checkIndex_8e157_1 (by decide) (fun c1 => ?_) (fun c1 => ?_)
  · exact absurd c1 (nI_pos (by omega))
  · refine lv_iload_n hx hb dJ3_checkIndex_8e157_4 rfl (lv_at hl 0 rfl) ?_
    refine lv_iload_n hx hb dJ3_checkIndex_8e157_5 rfl (lv_at hl 1 rfl) ?_
    refine lv_icmp_lt (tgt := 16) hx hb dJ3_checkIndex_8e157_6 (by decide) (fun c2 => ?_) (fun c2 => ?_)
    · refine lv_iload_n hx hb dJ3_checkIndex_8e157_16 rfl (lv_at hl 0 rfl) ?_
      exact nd_i hQ hx hb hr hlocks dJ3_checkIndex_8e157_17 (rfl)
    · exact absurd ((nI_ltI (by omega) hN).mpr hi) c2


abbrev SxF (q t N : Nat) (f : Nat → Int32) : State → Prop := fun U => StA q t N f NoA U ∧ SzA NoA U ∧ SfA NoA U
theorem SB_SxF {q t N : Nat} {f : Nat → Int32} : SB (SxF q t N f) := SB_and SB_StA (SB_and SB_SzA SB_SfA)

set_option maxHeartbeats 4000000 in
set_option maxRecDepth 100000 in
theorem k_J0_checkIndex_df160 (l : Launch) (G : GG) (i N : Nat) (H0 : Heap) (hi : i < N) (hN : N < 2 ^ 31) : Met l yJ0_checkIndex_df160 (ws_ yJ0_checkIndex_df160 cJ0_checkIndex_df160 2 (none : Option Jvm.ClassFile.FieldType)) (rm_ 1) (PCX G (SfA NoA) [.int (nI i), .int (nI N)] (fun H => H = H0)) (QV (fun H => H = H0) NoA) 0 0 NoA := by
  refine met_qx (by decide +kernel) (Nat.le_of_ble_eq_true rfl) ?_
  intro p e s m args below meth c Q hQ hx hb hr hT hown hml hlocks hnm hK hX hH ls hl
  have hl : lv_has ls 2 [(0, .int (nI i)), (1, .int (nI N))] := hl
  refine lv_iload_n hx hb dJ0_checkIndex_df160_0 rfl (lv_at hl 0 rfl) ?_
  refine lv_iload_n hx hb dJ0_checkIndex_df160_1 rfl (lv_at hl 1 rfl) ?_
  rcases hX with hX | ⟨w0, hX⟩
  · refine va_gets hx hb hX va_S.rf hown (hT _ mf_J0_1053) (fun _ q => q) dJ0_checkIndex_df160_2 ?_
    refine got_i (run_s hx hb hml hown hT hK hl.1 (k_J3_ci_n l G i N 0 hi hN) (cw_J0_1059 hT ⟨Nat.le_of_ble_eq_true rfl, Nat.le_of_ble_eq_true rfl⟩) trivial rfl rfl (Nat.le_of_ble_eq_true rfl) dJ0_checkIndex_df160_5 ⟨Nat.zero_le _, Nat.zero_le _⟩) (fun v_1 hv_1 => ?_)
    subst hv_1
    refine lv_pop hx hb dJ0_checkIndex_df160_8 rfl ?_
    exact nd_V hQ hx hb hr hlocks dJ0_checkIndex_df160_9 va_S.rf hH
  · refine va_gets hx hb hX va_S.rf hown (hT _ mf_J0_1053) (fun _ q => q) dJ0_checkIndex_df160_2 ?_
    refine got_i (run_s hx hb hml hown hT hK hl.1 (k_J3_ci_r l G i N w0 hi hN) (cw_J0_1059 hT ⟨Nat.le_of_ble_eq_true rfl, Nat.le_of_ble_eq_true rfl⟩) trivial rfl rfl (Nat.le_of_ble_eq_true rfl) dJ0_checkIndex_df160_5 ⟨Nat.zero_le _, Nat.zero_le _⟩) (fun v_2 hv_2 => ?_)
    subst hv_2
    refine lv_pop hx hb dJ0_checkIndex_df160_8 rfl ?_
    exact nd_V hQ hx hb hr hlocks dJ0_checkIndex_df160_9 va_S.rf hH

set_option maxHeartbeats 4000000 in
set_option maxRecDepth 100000 in
theorem k_J1_charAt_3b067 (l : Launch) (G : GG) (q t N : Nat) (f : Nat → Int32) (i : Nat) (hi : i < N) (hN : N < 2 ^ 31) (hc : narrow .char (.int (chS f i)) = .int (chS f i)) : Met l yJ1_charAt_3b067 (ws_ yJ1_charAt_3b067 cJ1_charAt_3b067 2 (some .char)) (rm_ 2) (PCX G (SxF q t N f) [.ref t, .int (nI i)] (fun _ => True)) (vp_Si (fun v => v = chS f i)) 0 0 NoA := by
  refine met_qx (by decide +kernel) (Nat.le_of_ble_eq_true rfl) ?_
  intro p e s m args below meth c Q hQ hx hb hr hT hown hml hlocks hnm hK hX hP ls hl
  have hl : lv_has ls 2 [(0, .ref t), (1, .int (nI i))] := hl
  refine lv_iload_n hx hb dJ1_charAt_3b067_0 rfl (lv_at hl 1 rfl) ?_
  refine lv_aload_n hx hb dJ1_charAt_3b067_1 rfl (lv_at hl 0 rfl) ?_
  refine va_tlen hx hb hX.1.2.2.2 va_S.rf (v := nI N) rfl dJ1_charAt_3b067_2 ?_
  refine got_V (run_sx SB_SfA (fun U hU hW => hX.2.2.call va_S.rf (fun _ z => z) hU hW) hx hb hml hown hT hK hl.1 (k_J0_checkIndex_df160 l G i N s.heap hi hN) (cw_J1_9 hT ⟨Nat.le_of_ble_eq_true rfl, Nat.le_of_ble_eq_true rfl⟩) rfl rfl rfl (Nat.le_of_ble_eq_true rfl) dJ1_charAt_3b067_3 ⟨Nat.zero_le _, Nat.zero_le _⟩) (va_S.rf (A := NoA)) (fun z h => h) (fun z h => h) (fun H locs h1 hz hk hS => ?_)
  have hl0 := va_S_nil hS
  subst hl0
  subst h1
  refine lv_aload_n hx hb dJ1_charAt_3b067_6 rfl (lv_at hl 0 rfl) ?_
  refine lv_iload_n hx hb dJ1_charAt_3b067_7 rfl (lv_at hl 1 rfl) ?_
  refine va_tb hx hb hX.1.2.2.2 va_S.rf (vp_in_nI hi hN) (v := .int (f i)) (by rw [nI_clamp (by omega)]) dJ1_charAt_3b067_8 ?_
  refine lv_sipush (v := 255) hx hb dJ1_charAt_3b067_9 (by decide) ?_
  refine lv_iand hx hb dJ1_charAt_3b067_12 ?_
  refine lv_i2c hx hb dJ1_charAt_3b067_13 rfl ?_
  subst hQ
  exact end_z (ty := .char) hx hb hr (hc) hlocks (rfl) dJ1_charAt_3b067_14

set_option maxHeartbeats 4000000 in
set_option maxRecDepth 100000 in
theorem k_J0_charAt_5068e (l : Launch) (G : GG) (q t N : Nat) (f : Nat → Int32) (i : Nat) (hi : i < N) (hN : N < 2 ^ 31) (hc : narrow .char (.int (chS f i)) = .int (chS f i)) : Met l yJ0_charAt_5068e (ws_ yJ0_charAt_5068e cJ0_charAt_5068e 2 (some .char)) (rm_ 3) (PCX G (SxF q t N f) [.ref q, .int (nI i)] (fun _ => True)) (vp_Si (fun v => v = chS f i)) 0 0 NoA := by
  refine met_qx (by decide +kernel) (Nat.le_of_ble_eq_true rfl) ?_
  intro p e s m args below meth c Q hQ hx hb hr hT hown hml hlocks hnm hK hX hP ls hl
  have hl : lv_has ls 2 [(0, .ref q), (1, .int (nI i))] := hl
  refine lv_aload_n hx hb dJ0_charAt_5068e_0 rfl (lv_at hl 0 rfl) ?_
  refine got_i (run_ox (SB_SxS) (fun U hU hW => ⟨hX.1.call va_S.rf (fun _ z => z) hU hW, hX.2.1.call va_S.rf (fun _ z => z) hU hW⟩) hx hb hml hown hT hK hl.1 (k_J0_isLatin1_aae02 l G q t N f) (cw_J0_492 hT ⟨Nat.le_of_ble_eq_true rfl, Nat.le_of_ble_eq_true rfl⟩) (hX.1.recv va_S.rf) trivial rfl rfl (Nat.le_of_ble_eq_true rfl) dJ0_charAt_5068e_1 ⟨Nat.zero_le _, Nat.zero_le _⟩) (fun v_1 hv_1 => ?_)
  subst hv_1
  refine lv_if_eq (tgt := 16) hx hb dJ0_charAt_5068e_4 (by decide) (fun c1 => ?_) (fun c1 => ?_)
  · exact absurd c1 (by decide)
  · refine lv_aload_n hx hb dJ0_charAt_5068e_7 rfl (lv_at hl 0 rfl) ?_
    refine vk_getf hx hb hX.1.2.2.1 va_S.rf hown (hT _ mf_J0_9) (fun _ q => q) dJ0_charAt_5068e_8 ?_
    refine lv_iload_n hx hb dJ0_charAt_5068e_11 rfl (lv_at hl 1 rfl) ?_
    refine got_i (run_sx (SB_SxF) (fun U hU hW => ⟨hX.1.call va_S.rf (fun _ z => z) hU hW, hX.2.1.call va_S.rf (fun _ z => z) hU hW, hX.2.2.call va_S.rf (fun _ z => z) hU hW⟩) hx hb hml hown hT hK hl.1 (k_J1_charAt_3b067 l G q t N f i hi hN hc) (cw_J0_495 hT ⟨Nat.le_of_ble_eq_true rfl, Nat.le_of_ble_eq_true rfl⟩) trivial rfl rfl (Nat.le_of_ble_eq_true rfl) dJ0_charAt_5068e_12 ⟨Nat.zero_le _, Nat.zero_le _⟩) (fun v_2 hv_2 => ?_)
    subst hv_2
    subst hQ
    exact end_z (ty := .char) hx hb hr (hc) hlocks (rfl) dJ0_charAt_5068e_15
