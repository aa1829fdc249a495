/-! an act of the law -/
theorem cnN_7 {r : Nat → Int32} {j : Nat} (hj : j < 3) : cnN r 0 0 (7 + j) = r (9 + j) := by
  have e : j = 0 ∨ j = 1 ∨ j = 2 := by omega
  rcases e with rfl | rfl | rfl <;> rfl
theorem y7t {t : Nat} (ht : t < 10) : (7 + nI t : Int32).toInt = ((7 + t : Nat) : Int) := by
  rw [show (7 : Int32) + nI t = nI (7 + t) from nI_add 7 t]
  exact nI_toInt (by omega)
def AP (r : Nat → Int32) (u : Int32) (r2 mk2 : Nat → Int32) : Prop := (Iv r2 ∧ RM r2 mk2) ∧ (nlv r ≤ nlv r2 ∧ (u = 0 → 1 ≤ nlv r2)) ∧ (r2 2).toInt ≤ (r 2).toInt + 20
theorem AP.same {r r2 mk : Nat → Int32} {u : Int32} (hv : Iv r) (hR : RM r mk) (h0 : 1 ≤ nlv r) (hv2 : Iv r2) (h : Sm r r2) : AP r u r2 mk := by
  have hn := nlv_same h.1.1
  exact ⟨⟨hv2, hR.same hv.1.nl5 h.1.1 h.2⟩, ⟨by omega, fun _ => by omega⟩, by rw [h.1.2]; omega⟩
theorem ne_sh {r : Nat → Int32} (hv : Iv r) {i : Nat} {S0 : Nat} (h : 20 < shS r - r (12 + 14 * i + 13) + nI S0) : ¬ shF r i = nI S0 := by
  intro q
  have q2 : r (12 + 14 * i + 13) = nI S0 := q
  rw [q2, Int32.sub_add_cancel, shS_nI hv] at h
  exact nI_nlt (a := 20) (b := sn (sv r) (nlv r)) hv.2.2.2.2.2 (by omega) h

set_option maxHeartbeats 4000000 in
set_option maxRecDepth 100000 in
theorem k_L_act (l : Launch) (G : GG) (z a h0 : Nat) (r mk : Nat → Int32) (u w : Int32) (t9 : Nat → Nat) (hv : Iv r) (hRM : RM r mk) (hza : z + 197 ≤ a) (hd : (r 2).toInt ≤ 1000) : Met l yL_act (ws_ yL_act cL_act 13 (some .boolean)) (rmM 10 1 5) (PCX G (SxL t9 (fun q => In z 197 q ∨ q = a ∨ h0 ≤ q)) [.ref z, .ref a, .int u, .int w] (fun H => (LO G z r H ∧ ar G 0 a (iA 60 mk) H) ∧ H.size = h0)) (QI (fun v H => v = 1 ∧ ∃ r2 mk2, AP r u r2 mk2 ∧ LO G z r2 H ∧ ar G 0 a (iA 60 mk2) H) (fun q => In z 197 q ∨ q = a ∨ h0 ≤ q)) 1 5 (fun q => In z 197 q ∨ q = a ∨ h0 ≤ q) := by
  refine met_qx (by decide +kernel) (Nat.le_of_ble_eq_true rfl) ?_
  intro p e s m args below meth c Q hQ hx hb hr hT hown hml hlocks hnm hK hX hP ls hl
  have hl : lv_has ls 13 [(0, .ref z), (1, .ref a), (2, .int u), (3, .int w)] := hl
  have hS : va_S (fun q => In z 197 q ∨ q = a ∨ h0 ≤ q) s.heap s.heap [] := va_S.rf
  have hO := hP.1.1
  have hA := hP.1.2
  have hs0 : s.heap.size = h0 := hP.2
  have hw := hv.1
  have h5 := hw.nl5
  have hal : a < h0 := by have := hA.lt; omega
  refine lv_aload_n hx hb dL_act_0 rfl (lv_at hl 0 rfl) ?_
  refine lv_iconst (v := 1) hx hb dL_act_1 (by decide) ?_
  refine got_i (run_i hx hb hml hown hT hK hl.1 (q_count l G z r 1 1 (by omega) (by decide)) (cw_L_9 hT ⟨Nat.le_of_ble_eq_true rfl, Nat.le_of_ble_eq_true rfl⟩) hO.te rfl hO rfl rfl (Nat.le_of_ble_eq_true rfl) dL_act_2 ⟨Nat.le_of_ble_eq_true rfl, Nat.le_of_ble_eq_true rfl⟩) (fun v_1 hv_1 => ?_)
  obtain rfl : v_1 = nI (nlv r) := hv_1.trans hw.nl
  refine lv_istore (lv' := [(4, .int (nI (nlv r))), (0, .ref z), (1, .ref a), (2, .int u), (3, .int w)]) hx hb dL_act_5 hl (by decide) rfl (fun ls hl => ?_)
  refine lv_iload hx hb dL_act_7 (lv_at hl 0 rfl) ?_
  have r44 : ∀ (ls : Array Slot), lv_has ls 13 [(0, .ref z), (1, .ref a), (3, .int w), (4, .int (nI (nlv r)))] → W p l e (rmM 10 1 5) s m args below meth c s.heap [] 0 0 Q (F0 m 44 ls []) := by
    intro ls hl
    refine lv_iload_n hx hb dL_act_44 rfl (lv_at hl 2 rfl) ?_
    refine lv_sipush (v := 300) hx hb dL_act_45 (by decide) ?_
    refine got_i (run_s hx hb hml hown hT hK hl.1 (k_L_low l G w 300 (by omega) (by omega)) (cw_L_41 hT ⟨Nat.le_of_ble_eq_true rfl, Nat.le_of_ble_eq_true rfl⟩) trivial rfl rfl (Nat.le_of_ble_eq_true rfl) dL_act_48 ⟨Nat.le_of_ble_eq_true rfl, Nat.le_of_ble_eq_true rfl⟩) (fun v_2 hv_2 => ?_)
    obtain ⟨p0, hp0⟩ : ∃ q, q = lw w 300 := ⟨_, rfl⟩
    have bp0 : p0 < 300 := by rw [hp0]; exact lw_lt _ (by omega)
    obtain rfl : v_2 = nI p0 := hv_2.trans (congrArg nI hp0.symm)
    refine lv_istore (lv' := [(7, .int (nI p0)), (0, .ref z), (1, .ref a), (3, .int w), (4, .int (nI (nlv r)))]) hx hb dL_act_51 hl (by decide) rfl (fun ls hl => ?_)
    refine lv_iload_n hx hb dL_act_53 rfl (lv_at hl 3 rfl) ?_
    refine lv_iconst (v := 3) hx hb dL_act_54 (by decide) ?_
    refine lv_ishr hx hb dL_act_55 ?_
    refine lv_bipush (v := 101) hx hb dL_act_56 (by decide) ?_
    refine got_i (run_s hx hb hml hown hT hK hl.1 (k_L_low l G (w >>> (3 &&& 31)) 101 (by omega) (by omega)) (cw_L_41 hT ⟨Nat.le_of_ble_eq_true rfl, Nat.le_of_ble_eq_true rfl⟩) trivial rfl rfl (Nat.le_of_ble_eq_true rfl) dL_act_58 ⟨Nat.le_of_ble_eq_true rfl, Nat.le_of_ble_eq_true rfl⟩) (fun v_3 hv_3 => ?_)
    obtain ⟨A0, hA0⟩ : ∃ q, q = lw (w >>> (3 &&& 31)) 101 := ⟨_, rfl⟩
    have bA0 : A0 < 101 := by rw [hA0]; exact lw_lt _ (by omega)
    obtain rfl : v_3 = nI A0 := hv_3.trans (congrArg nI hA0.symm)
    refine lv_istore (lv' := [(8, .int (nI A0)), (7, .int (nI p0)), (0, .ref z), (1, .ref a), (3, .int w), (4, .int (nI (nlv r)))]) hx hb dL_act_61 hl (by decide) rfl (fun ls hl => ?_)
    refine lv_iload_n hx hb dL_act_63 rfl (lv_at hl 4 rfl) ?_
    refine lv_bipush (v := 8) hx hb dL_act_64 (by decide) ?_
    refine lv_ishr hx hb dL_act_66 ?_
    refine lv_bipush (v := 101) hx hb dL_act_67 (by decide) ?_
    refine got_i (run_s hx hb hml hown hT hK hl.1 (k_L_low l G (w >>> (8 &&& 31)) 101 (by omega) (by omega)) (cw_L_41 hT ⟨Nat.le_of_ble_eq_true rfl, Nat.le_of_ble_eq_true rfl⟩) trivial rfl rfl (Nat.le_of_ble_eq_true rfl) dL_act_69 ⟨Nat.le_of_ble_eq_true rfl, Nat.le_of_ble_eq_true rfl⟩) (fun v_4 hv_4 => ?_)
    obtain ⟨B0, hB0⟩ : ∃ q, q = lw (w >>> (8 &&& 31)) 101 := ⟨_, rfl⟩
    have bB0 : B0 < 101 := by rw [hB0]; exact lw_lt _ (by omega)
    obtain rfl : v_4 = nI B0 := hv_4.trans (congrArg nI hB0.symm)
    refine lv_istore (lv' := [(9, .int (nI B0)), (8, .int (nI A0)), (7, .int (nI p0)), (0, .ref z), (1, .ref a), (3, .int w), (4, .int (nI (nlv r)))]) hx hb dL_act_72 hl (by decide) rfl (fun ls hl => ?_)
    refine lv_iload_n hx hb dL_act_74 rfl (lv_at hl 5 rfl) ?_
    refine lv_bipush (v := 13) hx hb dL_act_75 (by decide) ?_
    refine lv_ishr hx hb dL_act_77 ?_
    refine lv_bipush (v := 101) hx hb dL_act_78 (by decide) ?_
    refine got_i (run_s hx hb hml hown hT hK hl.1 (k_L_low l G (w >>> (13 &&& 31)) 101 (by omega) (by omega)) (cw_L_41 hT ⟨Nat.le_of_ble_eq_true rfl, Nat.le_of_ble_eq_true rfl⟩) trivial rfl rfl (Nat.le_of_ble_eq_true rfl) dL_act_80 ⟨Nat.le_of_ble_eq_true rfl, Nat.le_of_ble_eq_true rfl⟩) (fun v_5 hv_5 => ?_)
    obtain ⟨C0, hC0⟩ : ∃ q, q = lw (w >>> (13 &&& 31)) 101 := ⟨_, rfl⟩
    have bC0 : C0 < 101 := by rw [hC0]; exact lw_lt _ (by omega)
    obtain rfl : v_5 = nI C0 := hv_5.trans (congrArg nI hC0.symm)
    refine lv_istore (lv' := [(10, .int (nI C0)), (9, .int (nI B0)), (8, .int (nI A0)), (7, .int (nI p0)), (0, .ref z), (1, .ref a), (3, .int w), (4, .int (nI (nlv r)))]) hx hb dL_act_83 hl (by decide) rfl (fun ls hl => ?_)
    refine lv_aload_n hx hb dL_act_85 rfl (lv_at hl 4 rfl) ?_
    refine lv_iload hx hb dL_act_86 (lv_at hl 3 rfl) ?_
    refine lv_iload hx hb dL_act_88 (lv_at hl 2 rfl) ?_
    refine lv_iload hx hb dL_act_90 (lv_at hl 1 rfl) ?_
    refine lv_bipush (v := 7) hx hb dL_act_92 (by decide) ?_
    refine lv_ishl hx hb dL_act_94 ?_
    refine lv_ior hx hb dL_act_95 ?_
    refine lv_iload hx hb dL_act_96 (lv_at hl 0 rfl) ?_
    refine lv_bipush (v := 14) hx hb dL_act_98 (by decide) ?_
    refine lv_ishl hx hb dL_act_100 ?_
    refine lv_ior hx hb dL_act_101 ?_
    refine lv_iload_n hx hb dL_act_102 rfl (lv_at hl 6 rfl) ?_
    refine lv_bipush (v := 9) hx hb dL_act_103 (by decide) ?_
    refine lv_ishr hx hb dL_act_105 ?_
    refine lv_sipush (v := 3000) hx hb dL_act_106 (by decide) ?_
    refine got_i (run_s hx hb hml hown hT hK hl.1 (k_L_low l G (w >>> (9 &&& 31)) 3000 (by omega) (by omega)) (cw_L_41 hT ⟨Nat.le_of_ble_eq_true rfl, Nat.le_of_ble_eq_true rfl⟩) trivial rfl rfl (Nat.le_of_ble_eq_true rfl) dL_act_109 ⟨Nat.le_of_ble_eq_true rfl, Nat.le_of_ble_eq_true rfl⟩) (fun v_6 hv_6 => ?_)
    obtain ⟨S0, hS0⟩ : ∃ q, q = lw (w >>> (9 &&& 31)) 3000 := ⟨_, rfl⟩
    have bS0 : S0 < 3000 := by rw [hS0]; exact lw_lt _ (by omega)
    obtain rfl : v_6 = nI S0 := hv_6.trans (congrArg nI hS0.symm)
    have e_7 : ((nI A0) ||| ((nI B0) <<< (7 &&& 31))) ||| ((nI C0) <<< (14 &&& 31)) = nI (A0 + B0 * 128 + C0 * 16384) := tst_w (by omega) (by omega) (by omega)
    rw [e_7]
    have hlo := lf_ok (p := p0) (a := A0) (b := B0) (c := C0) (st := S0) (by omega) (by omega) (by omega) (by omega) (by omega)
    obtain ⟨t0, t1, t2⟩ := tst_n (a := A0) (b := B0) (c := C0) (by omega) (by omega) (by omega) rfl
    by_cases hn5 : nlv r = 5
    · have hSz := hS.1
      refine got_I (run_i hx hb hml hown hT hK hl.1 (q_leaf l G z r (nI p0) (nI (A0 + B0 * 128 + C0 * 16384)) (nI S0) hw) (cw_L_44 hT ⟨Nat.le_of_ble_eq_true rfl, Nat.le_of_ble_eq_true rfl⟩) hO.te rfl hO rfl rfl (Nat.le_of_ble_eq_true rfl) dL_act_112 ⟨Nat.le_of_ble_eq_true rfl, Nat.le_of_ble_eq_true rfl⟩) hS (fun q hq => Or.inl hq) (fun q hq => Or.inl hq) (fun v_8 H locs h1 hz hk hS => ?_)
      rw [t0, t1, t2, adO_2 hlo (by omega)] at h1
      obtain ⟨hv1, hO⟩ := h1
      have hv1 : v_8 = -4 := hv1
      subst hv1
      have hA := hA.kept (hk a (Nat.lt_of_lt_of_le hal (by have := hSz; omega)) (fun (q : _ ∧ _) => by omega))
      refine lv_istore (lv' := [(11, .int (-4)), (10, .int (nI C0)), (9, .int (nI B0)), (8, .int (nI A0)), (7, .int (nI p0)), (0, .ref z), (1, .ref a), (3, .int w), (4, .int (nI (nlv r)))]) hx hb dL_act_115 hl (by decide) rfl (fun ls hl => ?_)
      refine lv_iload hx hb dL_act_117 (lv_at hl 8 rfl) ?_
      refine lv_iconst (v := 5) hx hb dL_act_119 (by decide) ?_
      refine lv_icmp_ne (tgt := 136) hx hb dL_act_120 (by decide) (fun c_9 => absurd (by rw [hn5]; rfl) c_9) (fun _ => ?_)
      refine lv_iload hx hb dL_act_123 (lv_at hl 0 rfl) ?_
      refine lv_bipush (v := (-4)) hx hb dL_act_125 (by decide) ?_
      refine lv_icmp_ne (tgt := 134) hx hb dL_act_127 (by decide) (fun c_10 => absurd (rfl) c_10) (fun _ => ?_)
      refine lv_iconst (v := 1) hx hb dL_act_130 (by decide) ?_
      refine lv_goto (tgt := 135) hx hb dL_act_131 (by decide) ?_
      refine W.widen (k := 1) (n := 5) (by omega) (by omega) ?_
      exact nd_Z hQ hx hb hr hlocks dL_act_135 hS (Or.inr rfl) (⟨rfl, r, mk, AP.same hv hRM (by omega) hv Sm.rf, hO, hA⟩)
    · have hop := adO_3 (r := r) hlo (show ¬ 5 ≤ nlv r by omega)
      have hv2 := Iv_ad hv (nI p0) (nI A0) (nI B0) (nI C0) (nI S0)
      rw [hop] at hv2
      have hSz := hS.1
      refine got_I (run_i hx hb hml hown hT hK hl.1 (q_leaf l G z r (nI p0) (nI (A0 + B0 * 128 + C0 * 16384)) (nI S0) hw) (cw_L_44 hT ⟨Nat.le_of_ble_eq_true rfl, Nat.le_of_ble_eq_true rfl⟩) hO.te rfl hO rfl rfl (Nat.le_of_ble_eq_true rfl) dL_act_112 ⟨Nat.le_of_ble_eq_true rfl, Nat.le_of_ble_eq_true rfl⟩) hS (fun q hq => Or.inl hq) (fun q hq => Or.inl hq) (fun v_11 H locs h1 hz hk hS => ?_)
      rw [t0, t1, t2, hop] at h1
      obtain ⟨hv1, hO⟩ := h1
      have hv1 : v_11 = nI (nlv r) := hv1
      subst hv1
      have hA := hA.kept (hk a (Nat.lt_of_lt_of_le hal (by have := hSz; omega)) (fun (q : _ ∧ _) => by omega))
      refine lv_istore (lv' := [(11, .int (nI (nlv r))), (10, .int (nI C0)), (9, .int (nI B0)), (8, .int (nI A0)), (7, .int (nI p0)), (0, .ref z), (1, .ref a), (3, .int w), (4, .int (nI (nlv r)))]) hx hb dL_act_115 hl (by decide) rfl (fun ls hl => ?_)
      refine lv_iload hx hb dL_act_117 (lv_at hl 8 rfl) ?_
      refine lv_iconst (v := 5) hx hb dL_act_119 (by decide) ?_
      refine lv_icmp_ne (tgt := 136) hx hb dL_act_120 (by decide) (fun _ => ?_) (fun c_12 => absurd c_12 (fun q => by have := (nI_eq (by omega) (b := 5) (by omega)).mp q; omega))
      refine lv_aload_n hx hb dL_act_136 rfl (lv_at hl 6 rfl) ?_
      refine lv_bipush (v := 12) hx hb dL_act_137 (by decide) ?_
      refine lv_iload hx hb dL_act_139 (lv_at hl 8 rfl) ?_
      refine lv_imul hx hb dL_act_141 ?_
      refine lv_iload hx hb dL_act_142 (lv_at hl 4 rfl) ?_
      refine r_iast hx hb hK hA (12 * nlv r) (ix_m (a := 12) rfl rfl) (by omega) (Nat.le_of_ble_eq_true rfl) hS (Or.inr (Or.inl rfl)) dL_act_144 (fun H locs h1 o hS => ?_)
      have hA := h1
      have hO := hO.kept (fun q _ _ => o.2 q (by omega))
      refine lv_aload_n hx hb dL_act_145 rfl (lv_at hl 6 rfl) ?_
      refine lv_bipush (v := 12) hx hb dL_act_146 (by decide) ?_
      refine lv_iload hx hb dL_act_148 (lv_at hl 8 rfl) ?_
      refine lv_imul hx hb dL_act_150 ?_
      refine lv_iconst (v := 1) hx hb dL_act_151 (by decide) ?_
      refine lv_iadd hx hb dL_act_152 ?_
      refine lv_iload hx hb dL_act_153 (lv_at hl 3 rfl) ?_
      refine r_iast hx hb hK hA (12 * nlv r + 1) (ix_a (ix_m (a := 12) rfl rfl) (b := 1) rfl) (by omega) (Nat.le_of_ble_eq_true rfl) hS (Or.inr (Or.inl rfl)) dL_act_155 (fun H locs h1 o hS => ?_)
      have hA := h1
      have hO := hO.kept (fun q _ _ => o.2 q (by omega))
      refine lv_aload_n hx hb dL_act_156 rfl (lv_at hl 6 rfl) ?_
      refine lv_bipush (v := 12) hx hb dL_act_157 (by decide) ?_
      refine lv_iload hx hb dL_act_159 (lv_at hl 8 rfl) ?_
      refine lv_imul hx hb dL_act_161 ?_
      refine lv_iconst (v := 2) hx hb dL_act_162 (by decide) ?_
      refine lv_iadd hx hb dL_act_163 ?_
      refine lv_iload hx hb dL_act_164 (lv_at hl 2 rfl) ?_
      refine r_iast hx hb hK hA (12 * nlv r + 2) (ix_a (ix_m (a := 12) rfl rfl) (b := 2) rfl) (by omega) (Nat.le_of_ble_eq_true rfl) hS (Or.inr (Or.inl rfl)) dL_act_166 (fun H locs h1 o hS => ?_)
      have hA := h1
      have hO := hO.kept (fun q _ _ => o.2 q (by omega))
      refine lv_aload_n hx hb dL_act_167 rfl (lv_at hl 6 rfl) ?_
      refine lv_bipush (v := 12) hx hb dL_act_168 (by decide) ?_
      refine lv_iload hx hb dL_act_170 (lv_at hl 8 rfl) ?_
      refine lv_imul hx hb dL_act_172 ?_
      refine lv_iconst (v := 3) hx hb dL_act_173 (by decide) ?_
      refine lv_iadd hx hb dL_act_174 ?_
      refine lv_iload hx hb dL_act_175 (lv_at hl 1 rfl) ?_
      refine r_iast hx hb hK hA (12 * nlv r + 3) (ix_a (ix_m (a := 12) rfl rfl) (b := 3) rfl) (by omega) (Nat.le_of_ble_eq_true rfl) hS (Or.inr (Or.inl rfl)) dL_act_177 (fun H locs h1 o hS => ?_)
      have hA := h1
      have hO := hO.kept (fun q _ _ => o.2 q (by omega))
      have hA : ar G 0 a (iA 60 (mkZ mk (nlv r) (nI p0) (nI A0) (nI B0) (nI C0) 0)) H := iA_ext hA (fun j _ => mkZ_0)
      refine lv_iconst (v := 0) hx hb dL_act_178 (by decide) ?_
      refine lv_istore (lv' := [(12, .int 0), (11, .int (nI (nlv r))), (10, .int (nI C0)), (9, .int (nI B0)), (8, .int (nI A0)), (7, .int (nI p0)), (0, .ref z), (1, .ref a), (3, .int w), (4, .int (nI (nlv r)))]) hx hb dL_act_179 hl (by decide) rfl (fun ls hl => ?_)
      have loop : ∀ (k : Nat) (j : Nat) (H : Heap) (locs : List Loc), va_S (fun q => In z 197 q ∨ q = a ∨ h0 ≤ q) s.heap H locs → j ≤ 7 → LO G z (adR r (nlv r) (nI p0) (nI A0) (nI B0) (nI C0) (nI S0)) H → ar G 0 a (iA 60 (mkZ mk (nlv r) (nI p0) (nI A0) (nI B0) (nI C0) j)) H → 7 - j < k → ∀ ls : Array Slot, lv_has ls 13 [(0, .ref z), (1, .ref a), (3, .int w), (4, .int (nI (nlv r))), (11, .int (nI (nlv r))), (12, .int (nI j))] → W p l e (rmM 10 1 5) s m args below meth c H locs 0 0 Q (F0 m 181 ls []) := by
        intro k
        induction k with
        | zero => intro j H locs hS hj hO hA hm; exact absurd hm (Nat.not_lt_zero _)
        | succ k ih =>
          intro j H locs hS hj hO hA hm ls hl
          refine lv_iload hx hb dL_act_181 (lv_at hl 5 rfl) ?_
          refine lv_bipush (v := 7) hx hb dL_act_183 (by decide) ?_
          refine lv_icmp_ge (tgt := 207) hx hb dL_act_185 (by decide) (fun c1 => ?_) (fun c1 => ?_)
          · obtain rfl : j = 7 := by
              have := (nI_leI (a := 7) (by omega) (by omega)).mp c1
              omega
            have hRM2 := ad_RM hRM (show nlv r < 5 by omega) (p := nI p0) (a := nI A0) (b := nI B0) (c := nI C0) (st := nI S0)
            have hnl := ad_nl (r := r) (p := nI p0) (a := nI A0) (b := nI B0) (c := nI C0) (st := nI S0) (show nlv r < 5 by omega)
            have hv2 : Iv (adR r (nlv r) (nI p0) (nI A0) (nI B0) (nI C0) (nI S0)) := hv2
            have f4 : stF (adR r (nlv r) (nI p0) (nI A0) (nI B0) (nI C0) (nI S0)) (nlv r) = nI S0 := (ad_lf (k := 11) (by omega)).trans rfl
            have f5 : (adR r (nlv r) (nI p0) (nI A0) (nI B0) (nI C0) (nI S0)) (12 + 14 * nlv r + 12) = 0 := (ad_lf (k := 12) (by omega)).trans rfl
            have f6 : shF (adR r (nlv r) (nI p0) (nI A0) (nI B0) (nI C0) (nI S0)) (nlv r) = 0 := (ad_lf (k := 13) (by omega)).trans rfl
            have f2 : (adR r (nlv r) (nI p0) (nI A0) (nI B0) (nI C0) (nI S0)) 2 = r 2 := ad_lo (by omega) (by omega)
            try dsimp only at hO
            generalize adR r (nlv r) (nI p0) (nI A0) (nI B0) (nI C0) (nI S0) = r2 at hO hRM2 hnl hv2 f4 f5 f6 f2
            have hw2 := hv2.1
            have hi2 : nlv r < nlv r2 := by omega
            refine lv_iload hx hb dL_act_207 (lv_at hl 4 rfl) ?_
            refine lv_iload hx hb dL_act_209 (lv_at hl 3 rfl) ?_
            refine lv_icmp_ne (tgt := 259) hx hb dL_act_211 (by decide) (fun c_13 => absurd (rfl) c_13) (fun _ => ?_)
            refine lv_aload_n hx hb dL_act_214 rfl (lv_at hl 0 rfl) ?_
            refine lv_iload hx hb dL_act_215 (lv_at hl 3 rfl) ?_
            refine lv_iconst (v := 4) hx hb dL_act_217 (by decide) ?_
            refine got_i (run_i hx hb hml hown hT hK hl.1 (q_of l G z r2 (nlv r) 4 4 hw2 hi2 (by omega) (by decide)) (cw_L_15 hT ⟨Nat.le_of_ble_eq_true rfl, Nat.le_of_ble_eq_true rfl⟩) hO.te rfl hO rfl rfl (Nat.le_of_ble_eq_true rfl) dL_act_218 ⟨Nat.le_of_ble_eq_true rfl, Nat.le_of_ble_eq_true rfl⟩) (fun v_14 hv_14 => ?_)
            obtain rfl : v_14 = stF r2 (nlv r) := hv_14
            refine lv_iload_n hx hb dL_act_221 rfl (lv_at hl 2 rfl) ?_
            refine lv_bipush (v := 9) hx hb dL_act_222 (by decide) ?_
            refine lv_ishr hx hb dL_act_224 ?_
            refine lv_sipush (v := 3000) hx hb dL_act_225 (by decide) ?_
            refine got_i (run_s hx hb hml hown hT hK hl.1 (k_L_low l G (w >>> (9 &&& 31)) 3000 (by omega) (by omega)) (cw_L_41 hT ⟨Nat.le_of_ble_eq_true rfl, Nat.le_of_ble_eq_true rfl⟩) trivial rfl rfl (Nat.le_of_ble_eq_true rfl) dL_act_228 ⟨Nat.le_of_ble_eq_true rfl, Nat.le_of_ble_eq_true rfl⟩) (fun v_15 hv_15 => ?_)
            obtain rfl : v_15 = nI S0 := hv_15.trans (congrArg nI hS0.symm)
            refine lv_icmp_ne (tgt := 259) hx hb dL_act_231 (by decide) (fun c_16 => absurd (f4) c_16) (fun _ => ?_)
            refine lv_aload_n hx hb dL_act_234 rfl (lv_at hl 0 rfl) ?_
            refine lv_iload hx hb dL_act_235 (lv_at hl 3 rfl) ?_
            refine lv_iconst (v := 5) hx hb dL_act_237 (by decide) ?_
            refine got_i (run_i hx hb hml hown hT hK hl.1 (q_of l G z r2 (nlv r) 5 5 hw2 hi2 (by omega) (by decide)) (cw_L_15 hT ⟨Nat.le_of_ble_eq_true rfl, Nat.le_of_ble_eq_true rfl⟩) hO.te rfl hO rfl rfl (Nat.le_of_ble_eq_true rfl) dL_act_238 ⟨Nat.le_of_ble_eq_true rfl, Nat.le_of_ble_eq_true rfl⟩) (fun v_17 hv_17 => ?_)
            obtain rfl : v_17 = r2 (12 + 14 * (nlv r) + 12) := hv_17
            refine lv_if_ne (tgt := 259) hx hb dL_act_241 (by decide) (fun c_18 => absurd (f5) c_18) (fun _ => ?_)
            refine lv_aload_n hx hb dL_act_244 rfl (lv_at hl 0 rfl) ?_
            refine lv_iload hx hb dL_act_245 (lv_at hl 3 rfl) ?_
            refine lv_bipush (v := 6) hx hb dL_act_247 (by decide) ?_
            refine got_i (run_i hx hb hml hown hT hK hl.1 (q_of l G z r2 (nlv r) 6 6 hw2 hi2 (by omega) (by decide)) (cw_L_15 hT ⟨Nat.le_of_ble_eq_true rfl, Nat.le_of_ble_eq_true rfl⟩) hO.te rfl hO rfl rfl (Nat.le_of_ble_eq_true rfl) dL_act_249 ⟨Nat.le_of_ble_eq_true rfl, Nat.le_of_ble_eq_true rfl⟩) (fun v_19 hv_19 => ?_)
            obtain rfl : v_19 = shF r2 (nlv r) := hv_19
            refine lv_if_ne (tgt := 259) hx hb dL_act_252 (by decide) (fun c_20 => absurd (f6) c_20) (fun _ => ?_)
            refine lv_iconst (v := 1) hx hb dL_act_255 (by decide) ?_
            refine lv_goto (tgt := 260) hx hb dL_act_256 (by decide) ?_
            refine W.widen (k := 1) (n := 5) (by omega) (by omega) ?_
            exact nd_Z hQ hx hb hr hlocks dL_act_260 hS (Or.inr rfl) (⟨rfl, r2, _, ⟨⟨hv2, hRM2⟩, ⟨by omega, fun _ => by omega⟩, by rw [f2]; omega⟩, hO, hA⟩)
          · have hj7 : j < 7 := by
              have : ¬ 7 ≤ j := fun q => c1 (nI_le (a := 7) q (by omega))
              omega
            refine lv_aload_n hx hb dL_act_188 rfl (lv_at hl 1 rfl) ?_
            refine lv_bipush (v := 12) hx hb dL_act_189 (by decide) ?_
            refine lv_iload hx hb dL_act_191 (lv_at hl 3 rfl) ?_
            refine lv_imul hx hb dL_act_193 ?_
            refine lv_iconst (v := 4) hx hb dL_act_194 (by decide) ?_
            refine lv_iadd hx hb dL_act_195 ?_
            refine lv_iload hx hb dL_act_196 (lv_at hl 5 rfl) ?_
            refine lv_iadd hx hb dL_act_198 ?_
            refine lv_iconst (v := 0) hx hb dL_act_199 (by decide) ?_
            refine r_iast hx hb hK hA (12 * nlv r + 4 + j) (ix_a (ix_a (ix_m (a := 12) rfl rfl) (b := 4) rfl) rfl) (by omega) (Nat.le_of_ble_eq_true rfl) hS (Or.inr (Or.inl rfl)) dL_act_200 (fun H locs h1 o hS => ?_)
            have hA : ar G 0 a (iA 60 (mkZ mk (nlv r) (nI p0) (nI A0) (nI B0) (nI C0) (j + 1))) H := iA_ext h1 (fun q _ => mkZ_s)
            have hO := hO.kept (fun q _ _ => o.2 q (by omega))
            refine lv_iinc (v := nI (j + 1)) (lv' := [(12, .int (nI (j + 1))), (0, .ref z), (1, .ref a), (3, .int w), (4, .int (nI (nlv r))), (11, .int (nI (nlv r)))]) hx hb dL_act_201 hl (k := 5) rfl (nI_1 j) (by decide) rfl (fun ls hl => ?_)
            refine lv_goto (tgt := 181) hx hb dL_act_204 (by decide) ?_
            exact ih (j + 1) _ _ hS (by omega) hO hA (by omega) ls (lv_sub hl [1, 2, 3, 4, 5, 0] rfl)
      exact loop 8 0 _ _ hS (by omega) hO hA (by omega) ls (lv_sub hl [6, 7, 8, 9, 1, 0] rfl)
  have r261 : ∀ (i k9 : Nat), i < nlv r → ∀ ls : Array Slot, lv_has ls 13 [(0, .ref z), (1, .ref a), (2, .int u), (3, .int w), (5, .int (nI i)), (6, .int (nI k9))] → W p l e (rmM 10 1 5) s m args below meth c s.heap [] 0 0 Q (F0 m 261 ls []) := by
    intro i k9 hi ls hl
    have hlf := lfP_n hw hi
    refine lv_iload hx hb dL_act_261 (lv_at hl 5 rfl) ?_
    refine lv_iconst (v := 1) hx hb dL_act_263 (by decide) ?_
    refine lv_icmp_ne (tgt := 367) hx hb dL_act_264 (by decide) (fun k1 => ?_) (fun k1 => ?_)
    · refine lv_iload hx hb dL_act_367 (lv_at hl 5 rfl) ?_
      refine lv_iconst (v := 2) hx hb dL_act_369 (by decide) ?_
      refine lv_icmp_ne (tgt := 496) hx hb dL_act_370 (by decide) (fun k8 => ?_) (fun k8 => ?_)
      · refine lv_iload hx hb dL_act_496 (lv_at hl 5 rfl) ?_
        refine lv_iconst (v := 3) hx hb dL_act_498 (by decide) ?_
        refine lv_icmp_ne (tgt := 621) hx hb dL_act_499 (by decide) (fun k7 => ?_) (fun k7 => ?_)
        · refine lv_iload hx hb dL_act_621 (lv_at hl 5 rfl) ?_
          refine lv_bipush (v := 7) hx hb dL_act_623 (by decide) ?_
          refine lv_icmp_ge (tgt := 726) hx hb dL_act_625 (by decide) (fun k6 => ?_) (fun k6 => ?_)
          · refine lv_iload hx hb dL_act_726 (lv_at hl 5 rfl) ?_
            refine lv_bipush (v := 7) hx hb dL_act_728 (by decide) ?_
            refine lv_icmp_ne (tgt := 813) hx hb dL_act_730 (by decide) (fun k5 => ?_) (fun k5 => ?_)
            · refine lv_iload hx hb dL_act_813 (lv_at hl 5 rfl) ?_
              refine lv_bipush (v := 8) hx hb dL_act_815 (by decide) ?_
              refine lv_icmp_ne (tgt := 834) hx hb dL_act_817 (by decide) (fun k4 => ?_) (fun k4 => ?_)
              · refine lv_iload hx hb dL_act_834 (lv_at hl 5 rfl) ?_
                refine lv_bipush (v := 9) hx hb dL_act_836 (by decide) ?_
                refine lv_icmp_ne (tgt := 910) hx hb dL_act_838 (by decide) (fun k3 => ?_) (fun k3 => ?_)
                · refine lv_iload_n hx hb dL_act_910 rfl (lv_at hl 2 rfl) ?_
                  refine lv_bipush (v := 7) hx hb dL_act_911 (by decide) ?_
                  refine lv_ishr hx hb dL_act_913 ?_
                  refine lv_iconst (v := 2) hx hb dL_act_914 (by decide) ?_
                  refine got_i (run_s hx hb hml hown hT hK hl.1 (k_L_low l G (u >>> (7 &&& 31)) 2 (by omega) (by omega)) (cw_L_41 hT ⟨Nat.le_of_ble_eq_true rfl, Nat.le_of_ble_eq_true rfl⟩) trivial rfl rfl (Nat.le_of_ble_eq_true rfl) dL_act_915 ⟨Nat.le_of_ble_eq_true rfl, Nat.le_of_ble_eq_true rfl⟩) (fun v_21 hv_21 => ?_)
                  obtain ⟨F0, hF0⟩ : ∃ q, q = lw (u >>> (7 &&& 31)) 2 := ⟨_, rfl⟩
                  have bF0 : F0 < 2 := by rw [hF0]; exact lw_lt _ (by omega)
                  obtain rfl : v_21 = nI F0 := hv_21.trans (congrArg nI hF0.symm)
                  refine lv_if_ne (tgt := 925) hx hb dL_act_918 (by decide) (fun c1 => ?_) (fun c1 => ?_)
                  · refine lv_iconst (v := 0) hx hb dL_act_925 (by decide) ?_
                    refine lv_istore (lv' := [(7, .int 0), (0, .ref z), (1, .ref a), (2, .int u), (3, .int w), (5, .int (nI i)), (6, .int (nI k9))]) hx hb dL_act_926 hl (by decide) rfl (fun ls hl => ?_)
                    refine lv_aload_n hx hb dL_act_928 rfl (lv_at hl 1 rfl) ?_
                    refine lv_iload hx hb dL_act_929 (lv_at hl 0 rfl) ?_
                    refine lv_if_eq (tgt := 939) hx hb dL_act_931 (by decide) (fun _ => ?_) (fun c_22 => absurd (rfl) c_22)
                    refine lv_bipush (v := 11) hx hb dL_act_939 (by decide) ?_
                    refine got_i (run_i hx hb hml hown hT hK hl.1 (q_count l G z r 11 11 (by omega) (by decide)) (cw_L_9 hT ⟨Nat.le_of_ble_eq_true rfl, Nat.le_of_ble_eq_true rfl⟩) hO.te rfl hO rfl rfl (Nat.le_of_ble_eq_true rfl) dL_act_941 ⟨Nat.le_of_ble_eq_true rfl, Nat.le_of_ble_eq_true rfl⟩) (fun v_23 hv_23 => ?_)
                    obtain rfl : v_23 = r 1 := hv_23
                    refine lv_istore (lv' := [(8, .int (r 1)), (7, .int 0), (0, .ref z), (1, .ref a), (2, .int u), (3, .int w), (5, .int (nI i)), (6, .int (nI k9))]) hx hb dL_act_944 hl (by decide) rfl (fun ls hl => ?_)
                    refine lv_aload_n hx hb dL_act_946 rfl (lv_at hl 2 rfl) ?_
                    refine lv_iload hx hb dL_act_947 (lv_at hl 1 rfl) ?_
                    refine lv_if_eq (tgt := 956) hx hb dL_act_949 (by decide) (fun _ => ?_) (fun c_24 => absurd (rfl) c_24)
                    refine lv_iconst (v := 1) hx hb dL_act_956 (by decide) ?_
                    refine lv_iload hx hb dL_act_957 (lv_at hl 1 rfl) ?_
                    refine lv_if_eq (tgt := 971) hx hb dL_act_959 (by decide) (fun _ => ?_) (fun c_25 => absurd (rfl) c_25)
                    refine lv_iconst (v := 1) hx hb dL_act_971 (by decide) ?_
                    refine lv_iload_n hx hb dL_act_972 rfl (lv_at hl 5 rfl) ?_
                    refine lv_bipush (v := 7) hx hb dL_act_973 (by decide) ?_
                    refine got_i (run_s hx hb hml hown hT hK hl.1 (k_L_low l G w 7 (by omega) (by omega)) (cw_L_41 hT ⟨Nat.le_of_ble_eq_true rfl, Nat.le_of_ble_eq_true rfl⟩) trivial rfl rfl (Nat.le_of_ble_eq_true rfl) dL_act_975 ⟨Nat.le_of_ble_eq_true rfl, Nat.le_of_ble_eq_true rfl⟩) (fun v_26 hv_26 => ?_)
                    obtain ⟨L0, hL0⟩ : ∃ q, q = lw w 7 := ⟨_, rfl⟩
                    have bL0 : L0 < 7 := by rw [hL0]; exact lw_lt _ (by omega)
                    obtain rfl : v_26 = nI L0 := hv_26.trans (congrArg nI hL0.symm)
                    refine lv_iadd hx hb dL_act_978 ?_
                    have e_27 : 1 + (nI L0) = nI (1 + L0) := nI_add 1 L0
                    rw [e_27]
                    have hop := setO_1 (r := r) (y := nI (1 + L0)) ⟨nI_le (a := 1) (by omega) (by omega), nI_le (b := 7) (by omega) (by omega)⟩
                    have hv2 := Iv_set hv 1 (nI (1 + L0))
                    rw [hop] at hv2
                    have hSz := hS.1
                    refine got_I (run_ix SB_SxL (fun U hU hW => hX.call hS (fun q hq => Or.inl hq) hU hW) hx hb hml hown hT hK hl.1 (q_set l G z r 1 (nI (1 + L0)) t9) (cw_L_76 hT ⟨Nat.le_of_ble_eq_true rfl, Nat.le_of_ble_eq_true rfl⟩) hO.te rfl hO rfl rfl (Nat.le_of_ble_eq_true rfl) dL_act_979 ⟨Nat.le_of_ble_eq_true rfl, Nat.le_of_ble_eq_true rfl⟩) hS (fun q hq => Or.inl hq) (fun q hq => Or.inl hq) (fun v_28 H locs h1 hz hk hS => ?_)
                    rw [hop] at h1
                    obtain ⟨hv1, hO⟩ := h1
                    have hv1 : v_28 = r 1 := hv1
                    subst hv1
                    have hA := hA.kept (hk a (Nat.lt_of_lt_of_le hal (by have := hSz; omega)) (fun (q : _ ∧ _) => by omega))
                    have hsm : Sm r (upd r 1 (nI (1 + L0))) := ⟨⟨upd_ne (by omega), upd_ne (by omega)⟩, fun i2 k _ hk2 => upd_ne (by omega)⟩
                    refine lv_iload hx hb dL_act_982 (lv_at hl 0 rfl) ?_
                    refine lv_icmp_ne (tgt := 991) hx hb dL_act_984 (by decide) (fun c_29 => absurd (rfl) c_29) (fun _ => ?_)
                    refine lv_iconst (v := 1) hx hb dL_act_987 (by decide) ?_
                    refine lv_goto (tgt := 992) hx hb dL_act_988 (by decide) ?_
                    refine W.widen (k := 1) (n := 5) (by omega) (by omega) ?_
                    exact nd_Z hQ hx hb hr hlocks dL_act_992 hS (Or.inr rfl) (⟨rfl, _, mk, AP.same hv hRM (by omega) hv2 hsm, hO, hA⟩)
                  · refine lv_iconst (v := 1) hx hb dL_act_921 (by decide) ?_
                    refine lv_goto (tgt := 926) hx hb dL_act_922 (by decide) ?_
                    refine lv_istore (lv' := [(7, .int 1), (0, .ref z), (1, .ref a), (2, .int u), (3, .int w), (5, .int (nI i)), (6, .int (nI k9))]) hx hb dL_act_926 hl (by decide) rfl (fun ls hl => ?_)
                    refine lv_aload_n hx hb dL_act_928 rfl (lv_at hl 1 rfl) ?_
                    refine lv_iload hx hb dL_act_929 (lv_at hl 0 rfl) ?_
                    refine lv_if_eq (tgt := 939) hx hb dL_act_931 (by decide) (fun c_30 => absurd c_30 (by decide)) (fun _ => ?_)
                    refine lv_bipush (v := 10) hx hb dL_act_934 (by decide) ?_
                    refine lv_goto (tgt := 941) hx hb dL_act_936 (by decide) ?_
                    refine got_i (run_i hx hb hml hown hT hK hl.1 (q_count l G z r 10 10 (by omega) (by decide)) (cw_L_9 hT ⟨Nat.le_of_ble_eq_true rfl, Nat.le_of_ble_eq_true rfl⟩) hO.te rfl hO rfl rfl (Nat.le_of_ble_eq_true rfl) dL_act_941 ⟨Nat.le_of_ble_eq_true rfl, Nat.le_of_ble_eq_true rfl⟩) (fun v_31 hv_31 => ?_)
                    obtain rfl : v_31 = r 0 := hv_31
                    refine lv_istore (lv' := [(8, .int (r 0)), (7, .int 1), (0, .ref z), (1, .ref a), (2, .int u), (3, .int w), (5, .int (nI i)), (6, .int (nI k9))]) hx hb dL_act_944 hl (by decide) rfl (fun ls hl => ?_)
                    refine lv_aload_n hx hb dL_act_946 rfl (lv_at hl 2 rfl) ?_
                    refine lv_iload hx hb dL_act_947 (lv_at hl 1 rfl) ?_
                    refine lv_if_eq (tgt := 956) hx hb dL_act_949 (by decide) (fun c_32 => absurd c_32 (by decide)) (fun _ => ?_)
                    refine lv_iconst (v := 0) hx hb dL_act_952 (by decide) ?_
                    refine lv_goto (tgt := 957) hx hb dL_act_953 (by decide) ?_
                    refine lv_iload hx hb dL_act_957 (lv_at hl 1 rfl) ?_
                    refine lv_if_eq (tgt := 971) hx hb dL_act_959 (by decide) (fun c_33 => absurd c_33 (by decide)) (fun _ => ?_)
                    refine lv_iload_n hx hb dL_act_962 rfl (lv_at hl 5 rfl) ?_
                    refine lv_bipush (v := 40) hx hb dL_act_963 (by decide) ?_
                    refine got_i (run_s hx hb hml hown hT hK hl.1 (k_L_low l G w 40 (by omega) (by omega)) (cw_L_41 hT ⟨Nat.le_of_ble_eq_true rfl, Nat.le_of_ble_eq_true rfl⟩) trivial rfl rfl (Nat.le_of_ble_eq_true rfl) dL_act_965 ⟨Nat.le_of_ble_eq_true rfl, Nat.le_of_ble_eq_true rfl⟩) (fun v_34 hv_34 => ?_)
                    obtain ⟨L0, hL0⟩ : ∃ q, q = lw w 40 := ⟨_, rfl⟩
                    have bL0 : L0 < 40 := by rw [hL0]; exact lw_lt _ (by omega)
                    obtain rfl : v_34 = nI L0 := hv_34.trans (congrArg nI hL0.symm)
                    refine lv_goto (tgt := 979) hx hb dL_act_968 (by decide) ?_
                    have hop := setO_0 (r := r) (y := nI L0) ⟨nI_pos' (by omega), nI_le (b := 99) (by omega) (by omega)⟩
                    have hv2 := Iv_set hv 0 (nI L0)
                    rw [hop] at hv2
                    have hSz := hS.1
                    refine got_I (run_ix SB_SxL (fun U hU hW => hX.call hS (fun q hq => Or.inl hq) hU hW) hx hb hml hown hT hK hl.1 (q_set l G z r 0 (nI L0) t9) (cw_L_76 hT ⟨Nat.le_of_ble_eq_true rfl, Nat.le_of_ble_eq_true rfl⟩) hO.te rfl hO rfl rfl (Nat.le_of_ble_eq_true rfl) dL_act_979 ⟨Nat.le_of_ble_eq_true rfl, Nat.le_of_ble_eq_true rfl⟩) hS (fun q hq => Or.inl hq) (fun q hq => Or.inl hq) (fun v_35 H locs h1 hz hk hS => ?_)
                    rw [hop] at h1
                    obtain ⟨hv1, hO⟩ := h1
                    have hv1 : v_35 = r 0 := hv1
                    subst hv1
                    have hA := hA.kept (hk a (Nat.lt_of_lt_of_le hal (by have := hSz; omega)) (fun (q : _ ∧ _) => by omega))
                    have hsm : Sm r (upd r 0 (nI L0)) := ⟨⟨upd_ne (by omega), upd_ne (by omega)⟩, fun i2 k _ hk2 => upd_ne (by omega)⟩
                    refine lv_iload hx hb dL_act_982 (lv_at hl 0 rfl) ?_
                    refine lv_icmp_ne (tgt := 991) hx hb dL_act_984 (by decide) (fun c_36 => absurd (rfl) c_36) (fun _ => ?_)
                    refine lv_iconst (v := 1) hx hb dL_act_987 (by decide) ?_
                    refine lv_goto (tgt := 992) hx hb dL_act_988 (by decide) ?_
                    refine W.widen (k := 1) (n := 5) (by omega) (by omega) ?_
                    exact nd_Z hQ hx hb hr hlocks dL_act_992 hS (Or.inr rfl) (⟨rfl, _, mk, AP.same hv hRM (by omega) hv2 hsm, hO, hA⟩)
                · refine lv_aload_n hx hb dL_act_841 rfl (lv_at hl 0 rfl) ?_
                  refine lv_iconst (v := 0) hx hb dL_act_842 (by decide) ?_
                  refine got_i (run_i hx hb hml hown hT hK hl.1 (q_count l G z r 0 0 (by omega) (by decide)) (cw_L_9 hT ⟨Nat.le_of_ble_eq_true rfl, Nat.le_of_ble_eq_true rfl⟩) hO.te rfl hO rfl rfl (Nat.le_of_ble_eq_true rfl) dL_act_843 ⟨Nat.le_of_ble_eq_true rfl, Nat.le_of_ble_eq_true rfl⟩) (fun v_37 hv_37 => ?_)
                  obtain rfl : v_37 = r 2 := hv_37
                  refine lv_istore (lv' := [(7, .int (r 2)), (0, .ref z), (1, .ref a), (2, .int u), (3, .int w), (5, .int (nI i)), (6, .int (nI k9))]) hx hb dL_act_846 hl (by decide) rfl (fun ls hl => ?_)
                  refine lv_aload_n hx hb dL_act_848 rfl (lv_at hl 1 rfl) ?_
                  refine lv_iload hx hb dL_act_849 (lv_at hl 5 rfl) ?_
                  refine lv_iconst (v := 5) hx hb dL_act_851 (by decide) ?_
                  refine got_i (run_i hx hb hml hown hT hK hl.1 (q_of l G z r i 5 5 hw hi (by omega) (by decide)) (cw_L_15 hT ⟨Nat.le_of_ble_eq_true rfl, Nat.le_of_ble_eq_true rfl⟩) hO.te rfl hO rfl rfl (Nat.le_of_ble_eq_true rfl) dL_act_852 ⟨Nat.le_of_ble_eq_true rfl, Nat.le_of_ble_eq_true rfl⟩) (fun v_38 hv_38 => ?_)
                  obtain rfl : v_38 = r (12 + 14 * i + 12) := hv_38
                  refine lv_istore (lv' := [(8, .int (r (12 + 14 * i + 12))), (7, .int (r 2)), (0, .ref z), (1, .ref a), (2, .int u), (3, .int w), (5, .int (nI i)), (6, .int (nI k9))]) hx hb dL_act_855 hl (by decide) rfl (fun ls hl => ?_)
                  refine lv_aload_n hx hb dL_act_857 rfl (lv_at hl 2 rfl) ?_
                  refine lv_iconst (v := 1) hx hb dL_act_858 (by decide) ?_
                  refine lv_iload_n hx hb dL_act_859 rfl (lv_at hl 5 rfl) ?_
                  refine lv_bipush (v := 20) hx hb dL_act_860 (by decide) ?_
                  refine got_i (run_s hx hb hml hown hT hK hl.1 (k_L_low l G w 20 (by omega) (by omega)) (cw_L_41 hT ⟨Nat.le_of_ble_eq_true rfl, Nat.le_of_ble_eq_true rfl⟩) trivial rfl rfl (Nat.le_of_ble_eq_true rfl) dL_act_862 ⟨Nat.le_of_ble_eq_true rfl, Nat.le_of_ble_eq_true rfl⟩) (fun v_39 hv_39 => ?_)
                  obtain ⟨L0, hL0⟩ : ∃ q, q = lw w 20 := ⟨_, rfl⟩
                  have bL0 : L0 < 20 := by rw [hL0]; exact lw_lt _ (by omega)
                  obtain rfl : v_39 = nI L0 := hv_39.trans (congrArg nI hL0.symm)
                  refine lv_iadd hx hb dL_act_865 ?_
                  have e_40 : 1 + (nI L0) = nI (1 + L0) := nI_add 1 L0
                  rw [e_40]
                  obtain ⟨d1, d2⟩ := day_lt hv (by omega) (n := 1 + L0) (by omega)
                  have hop := pdO_3 (r := r) (d := nI (1 + L0)) ⟨nI_le (a := 1) (by omega) (by omega), nI_le (b := 99) (by omega) (by omega)⟩ d1
                  have hv2 := Iv_pd hv (nI (1 + L0))
                  rw [hop] at hv2
                  have hadd : ∀ x : Int32, x + nI (1 + L0) = x + 1 + nI L0 := fun x => by rw [← nI_add, ← Int32.add_assoc]; rfl
                  have hSz := hS.1
                  refine got_I (run_i hx hb hml hown hT hK hl.1 (q_pass l G z r (nI (1 + L0)) hw) (cw_L_73 hT ⟨Nat.le_of_ble_eq_true rfl, Nat.le_of_ble_eq_true rfl⟩) hO.te rfl hO rfl rfl (Nat.le_of_ble_eq_true rfl) dL_act_866 ⟨Nat.le_of_ble_eq_true rfl, Nat.le_of_ble_eq_true rfl⟩) hS (fun q hq => Or.inl hq) (fun q hq => Or.inl hq) (fun v_41 H locs h1 hz hk hS => ?_)
                  rw [hop] at h1
                  obtain ⟨hv1, hO⟩ := h1
                  have hv1 : v_41 = r 2 + nI (1 + L0) := hv1
                  subst hv1
                  have hA := hA.kept (hk a (Nat.lt_of_lt_of_le hal (by have := hSz; omega)) (fun (q : _ ∧ _) => by omega))
                  have g5 : (upd (agF r (nI (1 + L0)) (nlv r)) 2 (r 2 + nI (1 + L0))) 5 = r 5 := pd_o (by omega) (by omega)
                  have gk : ∀ i2 k, i2 < 5 → k < 11 → (upd (agF r (nI (1 + L0)) (nlv r)) 2 (r 2 + nI (1 + L0))) (12 + 14 * i2 + k) = r (12 + 14 * i2 + k) := fun i2 k _ hk2 => pd_o (by omega) (by omega)
                  have f5 : (upd (agF r (nI (1 + L0)) (nlv r)) 2 (r 2 + nI (1 + L0))) (12 + 14 * i + 12) = r (12 + 14 * i + 12) + nI (1 + L0) := pd_row hi
                  have f2 : (upd (agF r (nI (1 + L0)) (nlv r)) 2 (r 2 + nI (1 + L0))) 2 = r 2 + nI (1 + L0) := upd_eq
                  have hv2 : Iv (upd (agF r (nI (1 + L0)) (nlv r)) 2 (r 2 + nI (1 + L0))) := hv2
                  try dsimp only at hO
                  generalize upd (agF r (nI (1 + L0)) (nlv r)) 2 (r 2 + nI (1 + L0)) = r2 at hO g5 gk f5 f2 hv2
                  have hw2 := hv2.1
                  have hnl := nlv_same g5
                  have hi2 : i < nlv r2 := by omega
                  refine lv_iload hx hb dL_act_869 (lv_at hl 1 rfl) ?_
                  refine lv_iconst (v := 1) hx hb dL_act_871 (by decide) ?_
                  refine lv_iadd hx hb dL_act_872 ?_
                  refine lv_iload_n hx hb dL_act_873 rfl (lv_at hl 5 rfl) ?_
                  refine lv_bipush (v := 20) hx hb dL_act_874 (by decide) ?_
                  refine got_i (run_s hx hb hml hown hT hK hl.1 (k_L_low l G w 20 (by omega) (by omega)) (cw_L_41 hT ⟨Nat.le_of_ble_eq_true rfl, Nat.le_of_ble_eq_true rfl⟩) trivial rfl rfl (Nat.le_of_ble_eq_true rfl) dL_act_876 ⟨Nat.le_of_ble_eq_true rfl, Nat.le_of_ble_eq_true rfl⟩) (fun v_42 hv_42 => ?_)
                  obtain rfl : v_42 = nI L0 := hv_42.trans (congrArg nI hL0.symm)
                  refine lv_iadd hx hb dL_act_879 ?_
                  refine lv_icmp_ne (tgt := 908) hx hb dL_act_880 (by decide) (fun c_43 => absurd (hadd _) c_43) (fun _ => ?_)
                  refine lv_aload_n hx hb dL_act_883 rfl (lv_at hl 2 rfl) ?_
                  refine lv_iload hx hb dL_act_884 (lv_at hl 6 rfl) ?_
                  refine lv_iconst (v := 5) hx hb dL_act_886 (by decide) ?_
                  refine got_i (run_i hx hb hml hown hT hK hl.1 (q_of l G z r2 i 5 5 hw2 hi2 (by omega) (by decide)) (cw_L_15 hT ⟨Nat.le_of_ble_eq_true rfl, Nat.le_of_ble_eq_true rfl⟩) hO.te rfl hO rfl rfl (Nat.le_of_ble_eq_true rfl) dL_act_887 ⟨Nat.le_of_ble_eq_true rfl, Nat.le_of_ble_eq_true rfl⟩) (fun v_44 hv_44 => ?_)
                  obtain rfl : v_44 = r2 (12 + 14 * i + 12) := hv_44
                  refine lv_iload hx hb dL_act_890 (lv_at hl 0 rfl) ?_
                  refine lv_iconst (v := 1) hx hb dL_act_892 (by decide) ?_
                  refine lv_iadd hx hb dL_act_893 ?_
                  refine lv_iload_n hx hb dL_act_894 rfl (lv_at hl 5 rfl) ?_
                  refine lv_bipush (v := 20) hx hb dL_act_895 (by decide) ?_
                  refine got_i (run_s hx hb hml hown hT hK hl.1 (k_L_low l G w 20 (by omega) (by omega)) (cw_L_41 hT ⟨Nat.le_of_ble_eq_true rfl, Nat.le_of_ble_eq_true rfl⟩) trivial rfl rfl (Nat.le_of_ble_eq_true rfl) dL_act_897 ⟨Nat.le_of_ble_eq_true rfl, Nat.le_of_ble_eq_true rfl⟩) (fun v_45 hv_45 => ?_)
                  obtain rfl : v_45 = nI L0 := hv_45.trans (congrArg nI hL0.symm)
                  refine lv_iadd hx hb dL_act_900 ?_
                  refine lv_icmp_ne (tgt := 908) hx hb dL_act_901 (by decide) (fun c_46 => absurd (f5.trans (hadd _)) c_46) (fun _ => ?_)
                  refine lv_iconst (v := 1) hx hb dL_act_904 (by decide) ?_
                  refine lv_goto (tgt := 909) hx hb dL_act_905 (by decide) ?_
                  refine W.widen (k := 1) (n := 5) (by omega) (by omega) ?_
                  exact nd_Z hQ hx hb hr hlocks dL_act_909 hS (Or.inr rfl) (⟨rfl, r2, mk, ⟨⟨hv2, hRM.same h5 g5 gk⟩, ⟨by omega, fun _ => by omega⟩, by rw [f2, d2]; omega⟩, hO, hA⟩)
              · refine lv_aload_n hx hb dL_act_820 rfl (lv_at hl 0 rfl) ?_
                refine lv_iconst (v := 1) hx hb dL_act_821 (by decide) ?_
                refine lv_iload_n hx hb dL_act_822 rfl (lv_at hl 3 rfl) ?_
                refine lv_sipush (v := 2000) hx hb dL_act_823 (by decide) ?_
                refine got_i (run_s hx hb hml hown hT hK hl.1 (k_L_low l G w 2000 (by omega) (by omega)) (cw_L_41 hT ⟨Nat.le_of_ble_eq_true rfl, Nat.le_of_ble_eq_true rfl⟩) trivial rfl rfl (Nat.le_of_ble_eq_true rfl) dL_act_826 ⟨Nat.le_of_ble_eq_true rfl, Nat.le_of_ble_eq_true rfl⟩) (fun v_47 hv_47 => ?_)
                obtain ⟨L0, hL0⟩ : ∃ q, q = lw w 2000 := ⟨_, rfl⟩
                have bL0 : L0 < 2000 := by rw [hL0]; exact lw_lt _ (by omega)
                obtain rfl : v_47 = nI L0 := hv_47.trans (congrArg nI hL0.symm)
                refine lv_iadd hx hb dL_act_829 ?_
                have e_48 : 1 + (nI L0) = nI (1 + L0) := nI_add 1 L0
                rw [e_48]
                have hSz := hS.1
                refine got_I (run_s hx hb hml hown hT hK hl.1 (k_L_mixes l G z (1 + L0) h0 r hv (by omega)) (cw_L_69 hT ⟨Nat.le_of_ble_eq_true rfl, Nat.le_of_ble_eq_true rfl⟩) ⟨hO, hs0⟩ rfl rfl (Nat.le_of_ble_eq_true rfl) dL_act_830 ⟨Nat.le_of_ble_eq_true rfl, Nat.le_of_ble_eq_true rfl⟩) hS (fun q hq => hq.elim Or.inl (fun x => Or.inr (Or.inr x))) (fun q hq => hq.elim Or.inl (fun x => Or.inr (Or.inr x))) (fun v_49 H locs h1 hz hk hS => ?_)
                obtain ⟨hv1, r2, hv2, hsm, hO⟩ := h1
                have hA := hA.kept (hk a (by omega) (fun q => q.elim (fun (x : _ ∧ _) => by omega) (fun x => by omega)))
                subst hv1
                exact nd_Z hQ hx hb hr hlocks dL_act_833 hS (Or.inr rfl) (⟨rfl, r2, mk, AP.same hv hRM (by omega) hv2 hsm, hO, hA⟩)
            · refine lv_aload_n hx hb dL_act_733 rfl (lv_at hl 0 rfl) ?_
              refine lv_iconst (v := 0) hx hb dL_act_734 (by decide) ?_
              by_cases h2 : (skR r).1 = -1
              · have hSz := hS.1
                refine got_I (run_i hx hb hml hown hT hK hl.1 (q_cheapest l G z r 0 hv) (cw_L_63 hT ⟨Nat.le_of_ble_eq_true rfl, Nat.le_of_ble_eq_true rfl⟩) hO.te rfl hO rfl rfl (Nat.le_of_ble_eq_true rfl) dL_act_735 ⟨Nat.le_of_ble_eq_true rfl, Nat.le_of_ble_eq_true rfl⟩) hS (fun q hq => Or.inl hq) (fun q hq => Or.inl hq) (fun v_50 H locs h1 hz hk hS => ?_)
                obtain ⟨hv1, hO⟩ := h1
                obtain rfl : v_50 = -6 := hv1.trans ((cpO_2 (by decide) h2).symm)
                have hA := hA.kept (hk a (Nat.lt_of_lt_of_le hal (by have := hSz; omega)) (fun (q : _ ∧ _) => by omega))
                refine lv_istore (lv' := [(7, .int (-6)), (0, .ref z), (1, .ref a), (2, .int u), (3, .int w), (5, .int (nI i)), (6, .int (nI k9))]) hx hb dL_act_738 hl (by decide) rfl (fun ls hl => ?_)
                refine lv_aload_n hx hb dL_act_740 rfl (lv_at hl 1 rfl) ?_
                refine lv_iconst (v := 1) hx hb dL_act_741 (by decide) ?_
                have hSz := hS.1
                refine got_I (run_i hx hb hml hown hT hK hl.1 (q_cheapest l G z r 1 hv) (cw_L_63 hT ⟨Nat.le_of_ble_eq_true rfl, Nat.le_of_ble_eq_true rfl⟩) hO.te rfl hO rfl rfl (Nat.le_of_ble_eq_true rfl) dL_act_742 ⟨Nat.le_of_ble_eq_true rfl, Nat.le_of_ble_eq_true rfl⟩) hS (fun q hq => Or.inl hq) (fun q hq => Or.inl hq) (fun v_51 H locs h1 hz hk hS => ?_)
                obtain ⟨hv1, hO⟩ := h1
                obtain rfl : v_51 = -6 := hv1.trans ((cpO_2 (by decide) h2).symm)
                have hA := hA.kept (hk a (Nat.lt_of_lt_of_le hal (by have := hSz; omega)) (fun (q : _ ∧ _) => by omega))
                refine lv_istore (lv' := [(8, .int (-6)), (7, .int (-6)), (0, .ref z), (1, .ref a), (2, .int u), (3, .int w), (5, .int (nI i)), (6, .int (nI k9))]) hx hb dL_act_745 hl (by decide) rfl (fun ls hl => ?_)
                refine lv_iload hx hb dL_act_747 (lv_at hl 1 rfl) ?_
                refine lv_if_ge (tgt := 769) hx hb dL_act_749 (by decide) (fun c_52 => absurd c_52 (by decide)) (fun _ => ?_)
                refine lv_aload_n hx hb dL_act_752 rfl (lv_at hl 2 rfl) ?_
                have hSz := hS.1
                refine got_I (run_i hx hb hml hown hT hK hl.1 (q_choose l G z r hv) (cw_L_66 hT ⟨Nat.le_of_ble_eq_true rfl, Nat.le_of_ble_eq_true rfl⟩) hO.te rfl hO rfl rfl (Nat.le_of_ble_eq_true rfl) dL_act_753 ⟨Nat.le_of_ble_eq_true rfl, Nat.le_of_ble_eq_true rfl⟩) hS (fun q hq => Or.inl hq) (fun q hq => Or.inl hq) (fun v_53 H locs h1 hz hk hS => ?_)
                rw [coO_1 h2] at h1
                obtain ⟨hv1, hO⟩ := h1
                have hv1 : v_53 = -5 := hv1
                subst hv1
                have hA := hA.kept (hk a (Nat.lt_of_lt_of_le hal (by have := hSz; omega)) (fun (q : _ ∧ _) => by omega))
                refine lv_bipush (v := (-5)) hx hb dL_act_756 (by decide) ?_
                refine lv_icmp_ne (tgt := 765) hx hb dL_act_758 (by decide) (fun c_54 => absurd (rfl) c_54) (fun _ => ?_)
                refine lv_iconst (v := 1) hx hb dL_act_761 (by decide) ?_
                refine lv_goto (tgt := 812) hx hb dL_act_762 (by decide) ?_
                refine W.widen (k := 1) (n := 5) (by omega) (by omega) ?_
                exact nd_Z hQ hx hb hr hlocks dL_act_812 hS (Or.inr rfl) (⟨rfl, r, mk, AP.same hv hRM (by omega) hv Sm.rf, hO, hA⟩)
              · have hSz := hS.1
                refine got_I (run_i hx hb hml hown hT hK hl.1 (q_cheapest l G z r 0 hv) (cw_L_63 hT ⟨Nat.le_of_ble_eq_true rfl, Nat.le_of_ble_eq_true rfl⟩) hO.te rfl hO rfl rfl (Nat.le_of_ble_eq_true rfl) dL_act_735 ⟨Nat.le_of_ble_eq_true rfl, Nat.le_of_ble_eq_true rfl⟩) hS (fun q hq => Or.inl hq) (fun q hq => Or.inl hq) (fun v_55 H locs h1 hz hk hS => ?_)
                obtain ⟨hv1, hO⟩ := h1
                obtain rfl : v_55 = (skR r).1 / 20 := hv1.trans ((cpO_3 (by decide) h2 rfl).symm)
                have hA := hA.kept (hk a (Nat.lt_of_lt_of_le hal (by have := hSz; omega)) (fun (q : _ ∧ _) => by omega))
                refine lv_istore (lv' := [(7, .int ((skR r).1 / 20)), (0, .ref z), (1, .ref a), (2, .int u), (3, .int w), (5, .int (nI i)), (6, .int (nI k9))]) hx hb dL_act_738 hl (by decide) rfl (fun ls hl => ?_)
                refine lv_aload_n hx hb dL_act_740 rfl (lv_at hl 1 rfl) ?_
                refine lv_iconst (v := 1) hx hb dL_act_741 (by decide) ?_
                have hSz := hS.1
                refine got_I (run_i hx hb hml hown hT hK hl.1 (q_cheapest l G z r 1 hv) (cw_L_63 hT ⟨Nat.le_of_ble_eq_true rfl, Nat.le_of_ble_eq_true rfl⟩) hO.te rfl hO rfl rfl (Nat.le_of_ble_eq_true rfl) dL_act_742 ⟨Nat.le_of_ble_eq_true rfl, Nat.le_of_ble_eq_true rfl⟩) hS (fun q hq => Or.inl hq) (fun q hq => Or.inl hq) (fun v_56 H locs h1 hz hk hS => ?_)
                obtain ⟨hv1, hO⟩ := h1
                obtain rfl : v_56 = nI ((skR r).2 0) := hv1.trans ((cpO_4 (k := 1) (by omega) (by decide) h2 (by decide)).symm)
                have hA := hA.kept (hk a (Nat.lt_of_lt_of_le hal (by have := hSz; omega)) (fun (q : _ ∧ _) => by omega))
                refine lv_istore (lv' := [(8, .int (nI ((skR r).2 0))), (7, .int ((skR r).1 / 20)), (0, .ref z), (1, .ref a), (2, .int u), (3, .int w), (5, .int (nI i)), (6, .int (nI k9))]) hx hb dL_act_745 hl (by decide) rfl (fun ls hl => ?_)
                refine lv_iload hx hb dL_act_747 (lv_at hl 1 rfl) ?_
                refine lv_if_ge (tgt := 769) hx hb dL_act_749 (by decide) (fun _ => ?_) (fun c_57 => absurd (sk_nn hv h2) c_57)
                refine lv_aload_n hx hb dL_act_769 rfl (lv_at hl 2 rfl) ?_
                obtain ⟨g1, g2, g3, hsm⟩ := co_all hv h2
                have hv2 := Iv_co hv
                have hc1 : (coO r).1 = (skR r).1 / 20 := by rw [coO_2 h2]
                have hSz := hS.1
                refine got_I (run_i hx hb hml hown hT hK hl.1 (q_choose l G z r hv) (cw_L_66 hT ⟨Nat.le_of_ble_eq_true rfl, Nat.le_of_ble_eq_true rfl⟩) hO.te rfl hO rfl rfl (Nat.le_of_ble_eq_true rfl) dL_act_770 ⟨Nat.le_of_ble_eq_true rfl, Nat.le_of_ble_eq_true rfl⟩) hS (fun q hq => Or.inl hq) (fun q hq => Or.inl hq) (fun v_58 H locs h1 hz hk hS => ?_)
                obtain ⟨hv1, hO⟩ := h1
                obtain rfl : v_58 = (skR r).1 / 20 := hv1.trans hc1
                have hA := hA.kept (hk a (Nat.lt_of_lt_of_le hal (by have := hSz; omega)) (fun (q : _ ∧ _) => by omega))
                generalize (coO r).2 = r2 at hO g1 g2 g3 hsm hv2
                have hw2 := hv2.1
                have hnl := nlv_same hsm.1.1
                have hi2 : 0 < nlv r2 := by omega
                refine lv_iload hx hb dL_act_773 (lv_at hl 1 rfl) ?_
                refine lv_icmp_ne (tgt := 811) hx hb dL_act_775 (by decide) (fun c_59 => absurd (rfl) c_59) (fun _ => ?_)
                refine lv_aload_n hx hb dL_act_778 rfl (lv_at hl 2 rfl) ?_
                refine lv_iconst (v := 0) hx hb dL_act_779 (by decide) ?_
                refine got_i (run_i hx hb hml hown hT hK hl.1 (q_blend l G z r2 0 0 hw2 (by omega) (by decide)) (cw_L_25 hT ⟨Nat.le_of_ble_eq_true rfl, Nat.le_of_ble_eq_true rfl⟩) hO.te rfl hO rfl rfl (Nat.le_of_ble_eq_true rfl) dL_act_780 ⟨Nat.le_of_ble_eq_true rfl, Nat.le_of_ble_eq_true rfl⟩) (fun v_60 hv_60 => ?_)
                obtain rfl : v_60 = prS r2 / 20 := hv_60
                refine lv_iload hx hb dL_act_783 (lv_at hl 1 rfl) ?_
                refine lv_icmp_ne (tgt := 811) hx hb dL_act_785 (by decide) (fun c_61 => absurd (by rw [g1]) c_61) (fun _ => ?_)
                refine lv_aload_n hx hb dL_act_788 rfl (lv_at hl 2 rfl) ?_
                refine got_i (run_i hx hb hml hown hT hK hl.1 (q_why l G z r2 hw2) (cw_L_28 hT ⟨Nat.le_of_ble_eq_true rfl, Nat.le_of_ble_eq_true rfl⟩) hO.te rfl hO rfl rfl (Nat.le_of_ble_eq_true rfl) dL_act_789 ⟨Nat.le_of_ble_eq_true rfl, Nat.le_of_ble_eq_true rfl⟩) (fun v_62 hv_62 => ?_)
                obtain rfl : v_62 = whyF r2 0 := hv_62
                refine lv_if_ne (tgt := 811) hx hb dL_act_792 (by decide) (fun c_63 => absurd (g2) c_63) (fun _ => ?_)
                refine lv_aload_n hx hb dL_act_795 rfl (lv_at hl 2 rfl) ?_
                refine lv_iconst (v := 0) hx hb dL_act_796 (by decide) ?_
                refine lv_bipush (v := 6) hx hb dL_act_797 (by decide) ?_
                have e_64 : 0 = nI 0 := nI_0.symm
                rw [e_64]
                refine got_i (run_i hx hb hml hown hT hK hl.1 (q_of l G z r2 0 6 6 hw2 hi2 (by omega) (by decide)) (cw_L_15 hT ⟨Nat.le_of_ble_eq_true rfl, Nat.le_of_ble_eq_true rfl⟩) hO.te rfl hO rfl rfl (Nat.le_of_ble_eq_true rfl) dL_act_799 ⟨Nat.le_of_ble_eq_true rfl, Nat.le_of_ble_eq_true rfl⟩) (fun v_65 hv_65 => ?_)
                obtain rfl : v_65 = shF r2 0 := hv_65
                refine lv_iload hx hb dL_act_802 (lv_at hl 0 rfl) ?_
                refine lv_icmp_ne (tgt := 811) hx hb dL_act_804 (by decide) (fun c_66 => absurd (g3) c_66) (fun _ => ?_)
                refine lv_iconst (v := 1) hx hb dL_act_807 (by decide) ?_
                refine lv_goto (tgt := 812) hx hb dL_act_808 (by decide) ?_
                refine W.widen (k := 1) (n := 5) (by omega) (by omega) ?_
                exact nd_Z hQ hx hb hr hlocks dL_act_812 hS (Or.inr rfl) (⟨rfl, r2, mk, AP.same hv hRM (by omega) hv2 hsm, hO, hA⟩)
          · refine lv_iload_n hx hb dL_act_628 rfl (lv_at hl 3 rfl) ?_
            refine lv_bipush (v := 21) hx hb dL_act_629 (by decide) ?_
            refine got_i (run_s hx hb hml hown hT hK hl.1 (k_L_low l G w 21 (by omega) (by omega)) (cw_L_41 hT ⟨Nat.le_of_ble_eq_true rfl, Nat.le_of_ble_eq_true rfl⟩) trivial rfl rfl (Nat.le_of_ble_eq_true rfl) dL_act_631 ⟨Nat.le_of_ble_eq_true rfl, Nat.le_of_ble_eq_true rfl⟩) (fun v_67 hv_67 => ?_)
            obtain ⟨S0, hS0⟩ : ∃ q, q = lw w 21 := ⟨_, rfl⟩
            have bS0 : S0 < 21 := by rw [hS0]; exact lw_lt _ (by omega)
            obtain rfl : v_67 = nI S0 := hv_67.trans (congrArg nI hS0.symm)
            refine lv_istore (lv' := [(7, .int (nI S0)), (0, .ref z), (1, .ref a), (2, .int u), (3, .int w), (5, .int (nI i)), (6, .int (nI k9))]) hx hb dL_act_634 hl (by decide) rfl (fun ls hl => ?_)
            refine lv_aload_n hx hb dL_act_636 rfl (lv_at hl 1 rfl) ?_
            refine lv_iconst (v := 4) hx hb dL_act_637 (by decide) ?_
            refine got_i (run_i hx hb hml hown hT hK hl.1 (q_blend l G z r 4 4 hw (by omega) (by decide)) (cw_L_25 hT ⟨Nat.le_of_ble_eq_true rfl, Nat.le_of_ble_eq_true rfl⟩) hO.te rfl hO rfl rfl (Nat.le_of_ble_eq_true rfl) dL_act_638 ⟨Nat.le_of_ble_eq_true rfl, Nat.le_of_ble_eq_true rfl⟩) (fun v_68 hv_68 => ?_)
            obtain rfl : v_68 = shS r := hv_68
            refine lv_aload_n hx hb dL_act_641 rfl (lv_at hl 1 rfl) ?_
            refine lv_iload hx hb dL_act_642 (lv_at hl 5 rfl) ?_
            refine lv_bipush (v := 6) hx hb dL_act_644 (by decide) ?_
            refine got_i (run_i hx hb hml hown hT hK hl.1 (q_of l G z r i 6 6 hw hi (by omega) (by decide)) (cw_L_15 hT ⟨Nat.le_of_ble_eq_true rfl, Nat.le_of_ble_eq_true rfl⟩) hO.te rfl hO rfl rfl (Nat.le_of_ble_eq_true rfl) dL_act_646 ⟨Nat.le_of_ble_eq_true rfl, Nat.le_of_ble_eq_true rfl⟩) (fun v_69 hv_69 => ?_)
            obtain rfl : v_69 = shF r i := hv_69
            refine lv_isub hx hb dL_act_649 ?_
            refine lv_iload hx hb dL_act_650 (lv_at hl 0 rfl) ?_
            refine lv_iadd hx hb dL_act_652 ?_
            refine lv_istore (lv' := [(8, .int (((shS r) - (shF r i)) + (nI S0))), (7, .int (nI S0)), (0, .ref z), (1, .ref a), (2, .int u), (3, .int w), (5, .int (nI i)), (6, .int (nI k9))]) hx hb dL_act_653 hl (by decide) rfl (fun ls hl => ?_)
            refine lv_aload_n hx hb dL_act_655 rfl (lv_at hl 2 rfl) ?_
            refine lv_iload hx hb dL_act_656 (lv_at hl 6 rfl) ?_
            refine lv_iload hx hb dL_act_658 (lv_at hl 1 rfl) ?_
            have hg : 0 ≤ nI S0 ∧ nI S0 ≤ 20 := ⟨nI_pos' (by omega), nI_le (b := 20) (by omega) (by omega)⟩
            have hv2 := Iv_sh hv (nI i) (nI S0)
            by_cases h3 : 20 < shS r - r (12 + 14 * i + 13) + nI S0
            · have hSz := hS.1
              refine got_I (run_i hx hb hml hown hT hK hl.1 (q_share l G z r (nI i) (nI S0) hw) (cw_L_60 hT ⟨Nat.le_of_ble_eq_true rfl, Nat.le_of_ble_eq_true rfl⟩) hO.te rfl hO rfl rfl (Nat.le_of_ble_eq_true rfl) dL_act_660 ⟨Nat.le_of_ble_eq_true rfl, Nat.le_of_ble_eq_true rfl⟩) hS (fun q hq => Or.inl hq) (fun q hq => Or.inl hq) (fun v_70 H locs h1 hz hk hS => ?_)
              rw [shO_3 (by omega) hlf hg h3] at h1
              obtain ⟨hv1, hO⟩ := h1
              have hv1 : v_70 = -5 := hv1
              subst hv1
              have hA := hA.kept (hk a (Nat.lt_of_lt_of_le hal (by have := hSz; omega)) (fun (q : _ ∧ _) => by omega))
              refine lv_istore (lv' := [(9, .int (-5)), (8, .int (((shS r) - (shF r i)) + (nI S0))), (7, .int (nI S0)), (0, .ref z), (1, .ref a), (2, .int u), (3, .int w), (5, .int (nI i)), (6, .int (nI k9))]) hx hb dL_act_663 hl (by decide) rfl (fun ls hl => ?_)
              refine lv_iload hx hb dL_act_665 (lv_at hl 1 rfl) ?_
              refine lv_bipush (v := 20) hx hb dL_act_667 (by decide) ?_
              refine lv_icmp_le (tgt := 700) hx hb dL_act_669 (by decide) (fun c_71 => absurd c_71 (i32_lt_nle h3)) (fun _ => ?_)
              refine lv_iload hx hb dL_act_672 (lv_at hl 0 rfl) ?_
              refine lv_bipush (v := (-5)) hx hb dL_act_674 (by decide) ?_
              refine lv_icmp_ne (tgt := 696) hx hb dL_act_676 (by decide) (fun c_72 => absurd (rfl) c_72) (fun _ => ?_)
              refine lv_aload_n hx hb dL_act_679 rfl (lv_at hl 3 rfl) ?_
              refine lv_iload hx hb dL_act_680 (lv_at hl 7 rfl) ?_
              refine lv_bipush (v := 6) hx hb dL_act_682 (by decide) ?_
              refine got_i (run_i hx hb hml hown hT hK hl.1 (q_of l G z r i 6 6 hw hi (by omega) (by decide)) (cw_L_15 hT ⟨Nat.le_of_ble_eq_true rfl, Nat.le_of_ble_eq_true rfl⟩) hO.te rfl hO rfl rfl (Nat.le_of_ble_eq_true rfl) dL_act_684 ⟨Nat.le_of_ble_eq_true rfl, Nat.le_of_ble_eq_true rfl⟩) (fun v_73 hv_73 => ?_)
              obtain rfl : v_73 = shF r i := hv_73
              refine lv_iload hx hb dL_act_687 (lv_at hl 2 rfl) ?_
              refine lv_icmp_eq (tgt := 696) hx hb dL_act_689 (by decide) (fun c_74 => absurd c_74 (ne_sh hv h3)) (fun _ => ?_)
              refine lv_iconst (v := 1) hx hb dL_act_692 (by decide) ?_
              refine lv_goto (tgt := 725) hx hb dL_act_693 (by decide) ?_
              refine W.widen (k := 1) (n := 5) (by omega) (by omega) ?_
              exact nd_Z hQ hx hb hr hlocks dL_act_725 hS (Or.inr rfl) (⟨rfl, r, mk, AP.same hv hRM (by omega) hv Sm.rf, hO, hA⟩)
            · have hop := shO_4 (r := r) (i := i) (by omega) hlf hg h3
              rw [hop] at hv2
              have hSz := hS.1
              refine got_I (run_i hx hb hml hown hT hK hl.1 (q_share l G z r (nI i) (nI S0) hw) (cw_L_60 hT ⟨Nat.le_of_ble_eq_true rfl, Nat.le_of_ble_eq_true rfl⟩) hO.te rfl hO rfl rfl (Nat.le_of_ble_eq_true rfl) dL_act_660 ⟨Nat.le_of_ble_eq_true rfl, Nat.le_of_ble_eq_true rfl⟩) hS (fun q hq => Or.inl hq) (fun q hq => Or.inl hq) (fun v_75 H locs h1 hz hk hS => ?_)
              rw [hop] at h1
              obtain ⟨hv1, hO⟩ := h1
              have hv1 : v_75 = shS r - shF r i + nI S0 := hv1
              subst hv1
              have hA := hA.kept (hk a (Nat.lt_of_lt_of_le hal (by have := hSz; omega)) (fun (q : _ ∧ _) => by omega))
              have hsm : Sm r (upd r (12 + 14 * i + 13) (nI S0)) := ⟨⟨upd_ne (by omega), upd_ne (by omega)⟩, fun i2 k _ hk2 => upd_ne (by omega)⟩
              have f6 : shF (upd r (12 + 14 * i + 13) (nI S0)) i = nI S0 := upd_eq
              have hv2 : Iv (upd r (12 + 14 * i + 13) (nI S0)) := hv2
              try dsimp only at hO
              generalize upd r (12 + 14 * i + 13) (nI S0) = r2 at hO hsm f6 hv2
              have hw2 := hv2.1
              have hnl := nlv_same hsm.1.1
              have hi2 : i < nlv r2 := by omega
              refine lv_istore (lv' := [(9, .int (shS r - shF r i + nI S0)), (8, .int (((shS r) - (shF r i)) + (nI S0))), (7, .int (nI S0)), (0, .ref z), (1, .ref a), (2, .int u), (3, .int w), (5, .int (nI i)), (6, .int (nI k9))]) hx hb dL_act_663 hl (by decide) rfl (fun ls hl => ?_)
              refine lv_iload hx hb dL_act_665 (lv_at hl 1 rfl) ?_
              refine lv_bipush (v := 20) hx hb dL_act_667 (by decide) ?_
              refine lv_icmp_le (tgt := 700) hx hb dL_act_669 (by decide) (fun _ => ?_) (fun c_76 => absurd (i32_nlt h3) c_76)
              refine lv_iload hx hb dL_act_700 (lv_at hl 0 rfl) ?_
              refine lv_iload hx hb dL_act_702 (lv_at hl 1 rfl) ?_
              refine lv_icmp_ne (tgt := 724) hx hb dL_act_704 (by decide) (fun c_77 => absurd (rfl) c_77) (fun _ => ?_)
              refine lv_aload_n hx hb dL_act_707 rfl (lv_at hl 3 rfl) ?_
              refine lv_iload hx hb dL_act_708 (lv_at hl 7 rfl) ?_
              refine lv_bipush (v := 6) hx hb dL_act_710 (by decide) ?_
              refine got_i (run_i hx hb hml hown hT hK hl.1 (q_of l G z r2 i 6 6 hw2 hi2 (by omega) (by decide)) (cw_L_15 hT ⟨Nat.le_of_ble_eq_true rfl, Nat.le_of_ble_eq_true rfl⟩) hO.te rfl hO rfl rfl (Nat.le_of_ble_eq_true rfl) dL_act_712 ⟨Nat.le_of_ble_eq_true rfl, Nat.le_of_ble_eq_true rfl⟩) (fun v_78 hv_78 => ?_)
              obtain rfl : v_78 = shF r2 i := hv_78
              refine lv_iload hx hb dL_act_715 (lv_at hl 2 rfl) ?_
              refine lv_icmp_ne (tgt := 724) hx hb dL_act_717 (by decide) (fun c_79 => absurd (f6) c_79) (fun _ => ?_)
              refine lv_iconst (v := 1) hx hb dL_act_720 (by decide) ?_
              refine lv_goto (tgt := 725) hx hb dL_act_721 (by decide) ?_
              refine W.widen (k := 1) (n := 5) (by omega) (by omega) ?_
              exact nd_Z hQ hx hb hr hlocks dL_act_725 hS (Or.inr rfl) (⟨rfl, r2, mk, AP.same hv hRM (by omega) hv2 hsm, hO, hA⟩)
        · refine lv_iload_n hx hb dL_act_502 rfl (lv_at hl 2 rfl) ?_
          refine lv_bipush (v := 7) hx hb dL_act_503 (by decide) ?_
          refine lv_ishr hx hb dL_act_505 ?_
          refine lv_iconst (v := 3) hx hb dL_act_506 (by decide) ?_
          refine got_i (run_s hx hb hml hown hT hK hl.1 (k_L_low l G (u >>> (7 &&& 31)) 3 (by omega) (by omega)) (cw_L_41 hT ⟨Nat.le_of_ble_eq_true rfl, Nat.le_of_ble_eq_true rfl⟩) trivial rfl rfl (Nat.le_of_ble_eq_true rfl) dL_act_507 ⟨Nat.le_of_ble_eq_true rfl, Nat.le_of_ble_eq_true rfl⟩) (fun v_80 hv_80 => ?_)
          obtain ⟨T0, hT0⟩ : ∃ q, q = lw (u >>> (7 &&& 31)) 3 := ⟨_, rfl⟩
          have bT0 : T0 < 3 := by rw [hT0]; exact lw_lt _ (by omega)
          obtain rfl : v_80 = nI T0 := hv_80.trans (congrArg nI hT0.symm)
          refine lv_istore (lv' := [(7, .int (nI T0)), (0, .ref z), (1, .ref a), (2, .int u), (3, .int w), (5, .int (nI i)), (6, .int (nI k9))]) hx hb dL_act_510 hl (by decide) rfl (fun ls hl => ?_)
          refine lv_iload_n hx hb dL_act_512 rfl (lv_at hl 4 rfl) ?_
          refine lv_bipush (v := 40) hx hb dL_act_513 (by decide) ?_
          refine got_i (run_s hx hb hml hown hT hK hl.1 (k_L_low l G w 40 (by omega) (by omega)) (cw_L_41 hT ⟨Nat.le_of_ble_eq_true rfl, Nat.le_of_ble_eq_true rfl⟩) trivial rfl rfl (Nat.le_of_ble_eq_true rfl) dL_act_515 ⟨Nat.le_of_ble_eq_true rfl, Nat.le_of_ble_eq_true rfl⟩) (fun v_81 hv_81 => ?_)
          obtain ⟨L0, hL0⟩ : ∃ q, q = lw w 40 := ⟨_, rfl⟩
          have bL0 : L0 < 40 := by rw [hL0]; exact lw_lt _ (by omega)
          obtain rfl : v_81 = nI L0 := hv_81.trans (congrArg nI hL0.symm)
          refine lv_istore (lv' := [(8, .int (nI L0)), (7, .int (nI T0)), (0, .ref z), (1, .ref a), (2, .int u), (3, .int w), (5, .int (nI i)), (6, .int (nI k9))]) hx hb dL_act_518 hl (by decide) rfl (fun ls hl => ?_)
          refine lv_iload hx hb dL_act_520 (lv_at hl 0 rfl) ?_
          refine lv_iload_n hx hb dL_act_522 rfl (lv_at hl 5 rfl) ?_
          refine lv_bipush (v := 6) hx hb dL_act_523 (by decide) ?_
          refine lv_ishr hx hb dL_act_525 ?_
          refine lv_bipush (v := 101) hx hb dL_act_526 (by decide) ?_
          refine lv_iload hx hb dL_act_528 (lv_at hl 0 rfl) ?_
          refine lv_isub hx hb dL_act_530 ?_
          have e_82 : 101 - (nI L0) = nI (101 - L0) := pk_sub (a := 101) (by omega)
          rw [e_82]
          refine got_i (run_s hx hb hml hown hT hK hl.1 (k_L_low l G (w >>> (6 &&& 31)) (101 - L0) (by omega) (by omega)) (cw_L_41 hT ⟨Nat.le_of_ble_eq_true rfl, Nat.le_of_ble_eq_true rfl⟩) trivial rfl rfl (Nat.le_of_ble_eq_true rfl) dL_act_531 ⟨Nat.le_of_ble_eq_true rfl, Nat.le_of_ble_eq_true rfl⟩) (fun v_83 hv_83 => ?_)
          obtain ⟨H0, hH0⟩ : ∃ q, q = lw (w >>> (6 &&& 31)) (101 - L0) := ⟨_, rfl⟩
          have bH0 : H0 < 101 - L0 := by rw [hH0]; exact lw_lt _ (by omega)
          obtain rfl : v_83 = nI H0 := hv_83.trans (congrArg nI hH0.symm)
          refine lv_iadd hx hb dL_act_534 ?_
          have e_84 : (nI L0) + (nI H0) = nI (L0 + H0) := nI_add L0 H0
          rw [e_84]
          refine lv_istore (lv' := [(9, .int (nI (L0 + H0))), (8, .int (nI L0)), (7, .int (nI T0)), (0, .ref z), (1, .ref a), (2, .int u), (3, .int w), (5, .int (nI i)), (6, .int (nI k9))]) hx hb dL_act_535 hl (by decide) rfl (fun ls hl => ?_)
          refine lv_bipush (v := 100) hx hb dL_act_537 (by decide) ?_
          refine lv_aload_n hx hb dL_act_539 rfl (lv_at hl 3 rfl) ?_
          refine lv_iconst (v := 4) hx hb dL_act_540 (by decide) ?_
          refine lv_iload hx hb dL_act_541 (lv_at hl 2 rfl) ?_
          refine lv_iadd hx hb dL_act_543 ?_
          refine got_i (run_i hx hb hml hown hT hK hl.1 (q_count l G z r (4 + T0) (4 + (nI T0)) (by omega) (y4t (by omega))) (cw_L_9 hT ⟨Nat.le_of_ble_eq_true rfl, Nat.le_of_ble_eq_true rfl⟩) hO.te rfl hO rfl rfl (Nat.le_of_ble_eq_true rfl) dL_act_544 ⟨Nat.le_of_ble_eq_true rfl, Nat.le_of_ble_eq_true rfl⟩) (fun v_85 hv_85 => ?_)
          obtain rfl : v_85 = r (6 + T0) := hv_85.trans (cnN_4 (by omega))
          refine lv_imul hx hb dL_act_547 ?_
          refine lv_aload_n hx hb dL_act_548 rfl (lv_at hl 3 rfl) ?_
          refine lv_bipush (v := 7) hx hb dL_act_549 (by decide) ?_
          refine lv_iload hx hb dL_act_551 (lv_at hl 2 rfl) ?_
          refine lv_iadd hx hb dL_act_553 ?_
          refine got_i (run_i hx hb hml hown hT hK hl.1 (q_count l G z r (7 + T0) (7 + (nI T0)) (by omega) (y7t (by omega))) (cw_L_9 hT ⟨Nat.le_of_ble_eq_true rfl, Nat.le_of_ble_eq_true rfl⟩) hO.te rfl hO rfl rfl (Nat.le_of_ble_eq_true rfl) dL_act_554 ⟨Nat.le_of_ble_eq_true rfl, Nat.le_of_ble_eq_true rfl⟩) (fun v_86 hv_86 => ?_)
          obtain rfl : v_86 = r (9 + T0) := hv_86.trans (cnN_7 bT0)
          refine lv_iadd hx hb dL_act_557 ?_
          refine lv_istore (lv' := [(10, .int ((100 * (r (6 + T0))) + (r (9 + T0)))), (9, .int (nI (L0 + H0))), (8, .int (nI L0)), (7, .int (nI T0)), (0, .ref z), (1, .ref a), (2, .int u), (3, .int w), (5, .int (nI i)), (6, .int (nI k9))]) hx hb dL_act_558 hl (by decide) rfl (fun ls hl => ?_)
          refine lv_aload_n hx hb dL_act_560 rfl (lv_at hl 4 rfl) ?_
          refine lv_iload hx hb dL_act_561 (lv_at hl 3 rfl) ?_
          refine lv_iload hx hb dL_act_563 (lv_at hl 2 rfl) ?_
          refine lv_iload hx hb dL_act_565 (lv_at hl 1 rfl) ?_
          have ht3 : 0 ≤ nI T0 ∧ nI T0 < 3 := ⟨nI_pos' (by omega), nI_lt (b := 3) bT0 (by omega)⟩
          have hop := bnO_3 (r := r) (lo := nI L0) (hi := nI (L0 + H0)) bT0 ht3 ⟨⟨nI_pos' (by omega), nI_le (b := 100) (by omega) (by omega)⟩, nI_le (by omega) (by omega), nI_le (b := 100) (by omega) (by omega)⟩
          have hv2 := Iv_bn hv (nI T0) (nI L0) (nI (L0 + H0))
          rw [hop] at hv2
          have hSz := hS.1
          refine got_I (run_i hx hb hml hown hT hK hl.1 (q_bound l G z r (nI T0) (nI L0) (nI (L0 + H0)) hw) (cw_L_57 hT ⟨Nat.le_of_ble_eq_true rfl, Nat.le_of_ble_eq_true rfl⟩) hO.te rfl hO rfl rfl (Nat.le_of_ble_eq_true rfl) dL_act_567 ⟨Nat.le_of_ble_eq_true rfl, Nat.le_of_ble_eq_true rfl⟩) hS (fun q hq => Or.inl hq) (fun q hq => Or.inl hq) (fun v_87 H locs h1 hz hk hS => ?_)
          rw [hop] at h1
          obtain ⟨hv1, hO⟩ := h1
          have hv1 : v_87 = 100 * r (6 + T0) + r (9 + T0) := hv1
          subst hv1
          have hA := hA.kept (hk a (Nat.lt_of_lt_of_le hal (by have := hSz; omega)) (fun (q : _ ∧ _) => by omega))
          have hsm : Sm r (upd (upd r (6 + T0) (nI L0)) (9 + T0) (nI (L0 + H0))) := ⟨⟨(upd_ne (by omega)).trans (upd_ne (by omega)), (upd_ne (by omega)).trans (upd_ne (by omega))⟩, fun i2 k _ hk2 => (upd_ne (by omega)).trans (upd_ne (by omega))⟩
          have f6 : (upd (upd r (6 + T0) (nI L0)) (9 + T0) (nI (L0 + H0))) (6 + T0) = nI L0 := (upd_ne (by omega)).trans upd_eq
          have f9 : (upd (upd r (6 + T0) (nI L0)) (9 + T0) (nI (L0 + H0))) (9 + T0) = nI (L0 + H0) := upd_eq
          have hv2 : Iv (upd (upd r (6 + T0) (nI L0)) (9 + T0) (nI (L0 + H0))) := hv2
          try dsimp only at hO
          generalize upd (upd r (6 + T0) (nI L0)) (9 + T0) (nI (L0 + H0)) = r2 at hO hsm f6 f9 hv2
          have hw2 := hv2.1
          refine lv_iload hx hb dL_act_570 (lv_at hl 0 rfl) ?_
          refine lv_icmp_ne (tgt := 619) hx hb dL_act_572 (by decide) (fun c_88 => absurd (rfl) c_88) (fun _ => ?_)
          refine lv_aload_n hx hb dL_act_575 rfl (lv_at hl 4 rfl) ?_
          refine lv_iconst (v := 4) hx hb dL_act_576 (by decide) ?_
          refine lv_iload hx hb dL_act_577 (lv_at hl 3 rfl) ?_
          refine lv_iadd hx hb dL_act_579 ?_
          refine got_i (run_i hx hb hml hown hT hK hl.1 (q_count l G z r2 (4 + T0) (4 + (nI T0)) (by omega) (y4t (by omega))) (cw_L_9 hT ⟨Nat.le_of_ble_eq_true rfl, Nat.le_of_ble_eq_true rfl⟩) hO.te rfl hO rfl rfl (Nat.le_of_ble_eq_true rfl) dL_act_580 ⟨Nat.le_of_ble_eq_true rfl, Nat.le_of_ble_eq_true rfl⟩) (fun v_89 hv_89 => ?_)
          obtain rfl : v_89 = r2 (6 + T0) := hv_89.trans (cnN_4 (by omega))
          refine lv_iload hx hb dL_act_583 (lv_at hl 2 rfl) ?_
          refine lv_icmp_ne (tgt := 619) hx hb dL_act_585 (by decide) (fun c_90 => absurd (f6) c_90) (fun _ => ?_)
          refine lv_aload_n hx hb dL_act_588 rfl (lv_at hl 4 rfl) ?_
          refine lv_bipush (v := 7) hx hb dL_act_589 (by decide) ?_
          refine lv_iload hx hb dL_act_591 (lv_at hl 3 rfl) ?_
          refine lv_iadd hx hb dL_act_593 ?_
          refine got_i (run_i hx hb hml hown hT hK hl.1 (q_count l G z r2 (7 + T0) (7 + (nI T0)) (by omega) (y7t (by omega))) (cw_L_9 hT ⟨Nat.le_of_ble_eq_true rfl, Nat.le_of_ble_eq_true rfl⟩) hO.te rfl hO rfl rfl (Nat.le_of_ble_eq_true rfl) dL_act_594 ⟨Nat.le_of_ble_eq_true rfl, Nat.le_of_ble_eq_true rfl⟩) (fun v_91 hv_91 => ?_)
          obtain rfl : v_91 = r2 (9 + T0) := hv_91.trans (cnN_7 bT0)
          refine lv_iload hx hb dL_act_597 (lv_at hl 1 rfl) ?_
          refine lv_icmp_ne (tgt := 619) hx hb dL_act_599 (by decide) (fun c_92 => absurd (f9) c_92) (fun _ => ?_)
          refine lv_aload_n hx hb dL_act_602 rfl (lv_at hl 4 rfl) ?_
          refine lv_iload hx hb dL_act_603 (lv_at hl 3 rfl) ?_
          refine lv_iconst (v := 5) hx hb dL_act_605 (by decide) ?_
          refine lv_iconst (v := 4) hx hb dL_act_606 (by decide) ?_
          have hSz := hS.1
          refine got_I (run_i hx hb hml hown hT hK hl.1 (q_bound l G z r2 (nI T0) 5 4 hw2) (cw_L_57 hT ⟨Nat.le_of_ble_eq_true rfl, Nat.le_of_ble_eq_true rfl⟩) hO.te rfl hO rfl rfl (Nat.le_of_ble_eq_true rfl) dL_act_607 ⟨Nat.le_of_ble_eq_true rfl, Nat.le_of_ble_eq_true rfl⟩) hS (fun q hq => Or.inl hq) (fun q hq => Or.inl hq) (fun v_93 H locs h1 hz hk hS => ?_)
          rw [bnO_2 ht3 (by decide)] at h1
          obtain ⟨hv1, hO⟩ := h1
          have hv1 : v_93 = -2 := hv1
          subst hv1
          have hA := hA.kept (hk a (Nat.lt_of_lt_of_le hal (by have := hSz; omega)) (fun (q : _ ∧ _) => by omega))
          refine lv_bipush (v := (-2)) hx hb dL_act_610 (by decide) ?_
          refine lv_icmp_ne (tgt := 619) hx hb dL_act_612 (by decide) (fun c_94 => absurd (rfl) c_94) (fun _ => ?_)
          refine lv_iconst (v := 1) hx hb dL_act_615 (by decide) ?_
          refine lv_goto (tgt := 620) hx hb dL_act_616 (by decide) ?_
          refine W.widen (k := 1) (n := 5) (by omega) (by omega) ?_
          exact nd_Z hQ hx hb hr hlocks dL_act_620 hS (Or.inr rfl) (⟨rfl, r2, mk, AP.same hv hRM (by omega) hv2 hsm, hO, hA⟩)
      · refine lv_aload_n hx hb dL_act_373 rfl (lv_at hl 0 rfl) ?_
        refine lv_iload hx hb dL_act_374 (lv_at hl 4 rfl) ?_
        refine lv_iconst (v := 4) hx hb dL_act_376 (by decide) ?_
        refine got_i (run_i hx hb hml hown hT hK hl.1 (q_of l G z r i 4 4 hw hi (by omega) (by decide)) (cw_L_15 hT ⟨Nat.le_of_ble_eq_true rfl, Nat.le_of_ble_eq_true rfl⟩) hO.te rfl hO rfl rfl (Nat.le_of_ble_eq_true rfl) dL_act_377 ⟨Nat.le_of_ble_eq_true rfl, Nat.le_of_ble_eq_true rfl⟩) (fun v_95 hv_95 => ?_)
        obtain rfl : v_95 = stF r i := hv_95
        refine lv_istore (lv' := [(7, .int (stF r i)), (0, .ref z), (1, .ref a), (2, .int u), (3, .int w), (5, .int (nI i)), (6, .int (nI k9))]) hx hb dL_act_380 hl (by decide) rfl (fun ls hl => ?_)
        refine lv_aload_n hx hb dL_act_382 rfl (lv_at hl 1 rfl) ?_
        refine lv_iload hx hb dL_act_383 (lv_at hl 5 rfl) ?_
        refine lv_iconst (v := 5) hx hb dL_act_385 (by decide) ?_
        refine got_i (run_i hx hb hml hown hT hK hl.1 (q_of l G z r i 5 5 hw hi (by omega) (by decide)) (cw_L_15 hT ⟨Nat.le_of_ble_eq_true rfl, Nat.le_of_ble_eq_true rfl⟩) hO.te rfl hO rfl rfl (Nat.le_of_ble_eq_true rfl) dL_act_386 ⟨Nat.le_of_ble_eq_true rfl, Nat.le_of_ble_eq_true rfl⟩) (fun v_96 hv_96 => ?_)
        obtain rfl : v_96 = r (12 + 14 * i + 12) := hv_96
        refine lv_istore (lv' := [(8, .int (r (12 + 14 * i + 12))), (7, .int (stF r i)), (0, .ref z), (1, .ref a), (2, .int u), (3, .int w), (5, .int (nI i)), (6, .int (nI k9))]) hx hb dL_act_389 hl (by decide) rfl (fun ls hl => ?_)
        refine lv_iconst (v := 1) hx hb dL_act_391 (by decide) ?_
        refine lv_iload_n hx hb dL_act_392 rfl (lv_at hl 5 rfl) ?_
        refine lv_sipush (v := 4000) hx hb dL_act_393 (by decide) ?_
        refine got_i (run_s hx hb hml hown hT hK hl.1 (k_L_low l G w 4000 (by omega) (by omega)) (cw_L_41 hT ⟨Nat.le_of_ble_eq_true rfl, Nat.le_of_ble_eq_true rfl⟩) trivial rfl rfl (Nat.le_of_ble_eq_true rfl) dL_act_396 ⟨Nat.le_of_ble_eq_true rfl, Nat.le_of_ble_eq_true rfl⟩) (fun v_97 hv_97 => ?_)
        obtain ⟨L0, hL0⟩ : ∃ q, q = lw w 4000 := ⟨_, rfl⟩
        have bL0 : L0 < 4000 := by rw [hL0]; exact lw_lt _ (by omega)
        obtain rfl : v_97 = nI L0 := hv_97.trans (congrArg nI hL0.symm)
        refine lv_iadd hx hb dL_act_399 ?_
        have e_98 : 1 + (nI L0) = nI (1 + L0) := nI_add 1 L0
        rw [e_98]
        obtain ⟨e1, e2⟩ := sk_s hv (show i < 5 by omega)
        have hpos : 0 < stF r i + nI (1 + L0) := by rw [e1, nI_add]; exact nI_lt (a := 0) (by omega) (by omega)
        have hne : ¬ stF r i + nI (1 + L0) = 0 := fun q => by rw [q] at hpos; exact absurd hpos (by decide)
        have hg9 : 1 ≤ nI (1 + L0) ∧ nI (1 + L0) ≤ 9999 := ⟨nI_le (a := 1) (by omega) (by omega), nI_le (b := 9999) (by omega) (by omega)⟩
        have hv2 := Iv_bg hv (nI i) (nI (1 + L0))
        refine lv_istore (lv' := [(9, .int (nI (1 + L0))), (8, .int (r (12 + 14 * i + 12))), (7, .int (stF r i)), (0, .ref z), (1, .ref a), (2, .int u), (3, .int w), (5, .int (nI i)), (6, .int (nI k9))]) hx hb dL_act_400 hl (by decide) rfl (fun ls hl => ?_)
        refine lv_aload_n hx hb dL_act_402 rfl (lv_at hl 3 rfl) ?_
        refine lv_iload hx hb dL_act_403 (lv_at hl 7 rfl) ?_
        refine lv_iload hx hb dL_act_405 (lv_at hl 0 rfl) ?_
        by_cases h3 : 9999 < r (12 + 14 * i + 11) + nI (1 + L0)
        · have hSz := hS.1
          refine got_I (run_i hx hb hml hown hT hK hl.1 (q_buy l G z r (nI i) (nI (1 + L0)) hw) (cw_L_54 hT ⟨Nat.le_of_ble_eq_true rfl, Nat.le_of_ble_eq_true rfl⟩) hO.te rfl hO rfl rfl (Nat.le_of_ble_eq_true rfl) dL_act_407 ⟨Nat.le_of_ble_eq_true rfl, Nat.le_of_ble_eq_true rfl⟩) hS (fun q hq => Or.inl hq) (fun q hq => Or.inl hq) (fun v_99 H locs h1 hz hk hS => ?_)
          rw [bgO_3 (by omega) hlf hg9 h3] at h1
          obtain ⟨hv1, hO⟩ := h1
          have hv1 : v_99 = -5 := hv1
          subst hv1
          have hA := hA.kept (hk a (Nat.lt_of_lt_of_le hal (by have := hSz; omega)) (fun (q : _ ∧ _) => by omega))
          refine lv_istore (lv' := [(10, .int (-5)), (9, .int (nI (1 + L0))), (8, .int (r (12 + 14 * i + 12))), (7, .int (stF r i)), (0, .ref z), (1, .ref a), (2, .int u), (3, .int w), (5, .int (nI i)), (6, .int (nI k9))]) hx hb dL_act_410 hl (by decide) rfl (fun ls hl => ?_)
          refine lv_iload hx hb dL_act_412 (lv_at hl 3 rfl) ?_
          refine lv_iload hx hb dL_act_414 (lv_at hl 1 rfl) ?_
          refine lv_iadd hx hb dL_act_416 ?_
          refine lv_sipush (v := 9999) hx hb dL_act_417 (by decide) ?_
          refine lv_icmp_le (tgt := 450) hx hb dL_act_420 (by decide) (fun c_100 => absurd c_100 (i32_lt_nle h3)) (fun _ => ?_)
          refine lv_iload hx hb dL_act_423 (lv_at hl 0 rfl) ?_
          refine lv_bipush (v := (-5)) hx hb dL_act_425 (by decide) ?_
          refine lv_icmp_ne (tgt := 446) hx hb dL_act_427 (by decide) (fun c_101 => absurd (rfl) c_101) (fun _ => ?_)
          refine lv_aload_n hx hb dL_act_430 rfl (lv_at hl 4 rfl) ?_
          refine lv_iload hx hb dL_act_431 (lv_at hl 8 rfl) ?_
          refine lv_iconst (v := 5) hx hb dL_act_433 (by decide) ?_
          refine got_i (run_i hx hb hml hown hT hK hl.1 (q_of l G z r i 5 5 hw hi (by omega) (by decide)) (cw_L_15 hT ⟨Nat.le_of_ble_eq_true rfl, Nat.le_of_ble_eq_true rfl⟩) hO.te rfl hO rfl rfl (Nat.le_of_ble_eq_true rfl) dL_act_434 ⟨Nat.le_of_ble_eq_true rfl, Nat.le_of_ble_eq_true rfl⟩) (fun v_102 hv_102 => ?_)
          obtain rfl : v_102 = r (12 + 14 * i + 12) := hv_102
          refine lv_iload hx hb dL_act_437 (lv_at hl 2 rfl) ?_
          refine lv_icmp_ne (tgt := 446) hx hb dL_act_439 (by decide) (fun c_103 => absurd (rfl) c_103) (fun _ => ?_)
          refine lv_iconst (v := 1) hx hb dL_act_442 (by decide) ?_
          refine lv_goto (tgt := 495) hx hb dL_act_443 (by decide) ?_
          refine W.widen (k := 1) (n := 5) (by omega) (by omega) ?_
          exact nd_Z hQ hx hb hr hlocks dL_act_495 hS (Or.inr rfl) (⟨rfl, r, mk, AP.same hv hRM (by omega) hv Sm.rf, hO, hA⟩)
        · have hop := bgO_4 (r := r) (i := i) (by omega) hlf hg9 h3
          rw [hop] at hv2
          have hSz := hS.1
          refine got_I (run_i hx hb hml hown hT hK hl.1 (q_buy l G z r (nI i) (nI (1 + L0)) hw) (cw_L_54 hT ⟨Nat.le_of_ble_eq_true rfl, Nat.le_of_ble_eq_true rfl⟩) hO.te rfl hO rfl rfl (Nat.le_of_ble_eq_true rfl) dL_act_407 ⟨Nat.le_of_ble_eq_true rfl, Nat.le_of_ble_eq_true rfl⟩) hS (fun q hq => Or.inl hq) (fun q hq => Or.inl hq) (fun v_104 H locs h1 hz hk hS => ?_)
          rw [hop] at h1
          obtain ⟨hv1, hO⟩ := h1
          have hv1 : v_104 = stF r i + nI (1 + L0) := hv1
          subst hv1
          have hA := hA.kept (hk a (Nat.lt_of_lt_of_le hal (by have := hSz; omega)) (fun (q : _ ∧ _) => by omega))
          have hsm : Sm r (upd (upd r (12 + 14 * i + 12) (if 0 < r (12 + 14 * i + 11) + nI (1 + L0) then r (12 + 14 * i + 11) * r (12 + 14 * i + 12) / (r (12 + 14 * i + 11) + nI (1 + L0)) else 0)) (12 + 14 * i + 11) (r (12 + 14 * i + 11) + nI (1 + L0))) := ⟨⟨(upd_ne (by omega)).trans (upd_ne (by omega)), (upd_ne (by omega)).trans (upd_ne (by omega))⟩, fun i2 k _ hk2 => (upd_ne (by omega)).trans (upd_ne (by omega))⟩
          have f4 : stF (upd (upd r (12 + 14 * i + 12) (if 0 < r (12 + 14 * i + 11) + nI (1 + L0) then r (12 + 14 * i + 11) * r (12 + 14 * i + 12) / (r (12 + 14 * i + 11) + nI (1 + L0)) else 0)) (12 + 14 * i + 11) (r (12 + 14 * i + 11) + nI (1 + L0))) i = stF r i + nI (1 + L0) := upd_eq
          have f5 : (upd (upd r (12 + 14 * i + 12) (if 0 < r (12 + 14 * i + 11) + nI (1 + L0) then r (12 + 14 * i + 11) * r (12 + 14 * i + 12) / (r (12 + 14 * i + 11) + nI (1 + L0)) else 0)) (12 + 14 * i + 11) (r (12 + 14 * i + 11) + nI (1 + L0))) (12 + 14 * i + 12) = stF r i * r (12 + 14 * i + 12) / (stF r i + nI (1 + L0)) := (upd_ne (by omega)).trans (upd_eq.trans (if_pos hpos))
          have hv2 : Iv (upd (upd r (12 + 14 * i + 12) (if 0 < r (12 + 14 * i + 11) + nI (1 + L0) then r (12 + 14 * i + 11) * r (12 + 14 * i + 12) / (r (12 + 14 * i + 11) + nI (1 + L0)) else 0)) (12 + 14 * i + 11) (r (12 + 14 * i + 11) + nI (1 + L0))) := hv2
          try dsimp only at hO
          generalize upd (upd r (12 + 14 * i + 12) (if 0 < r (12 + 14 * i + 11) + nI (1 + L0) then r (12 + 14 * i + 11) * r (12 + 14 * i + 12) / (r (12 + 14 * i + 11) + nI (1 + L0)) else 0)) (12 + 14 * i + 11) (r (12 + 14 * i + 11) + nI (1 + L0)) = r2 at hO hsm f4 f5 hv2
          have hw2 := hv2.1
          have hnl := nlv_same hsm.1.1
          have hi2 : i < nlv r2 := by omega
          refine lv_istore (lv' := [(10, .int (stF r i + nI (1 + L0))), (9, .int (nI (1 + L0))), (8, .int (r (12 + 14 * i + 12))), (7, .int (stF r i)), (0, .ref z), (1, .ref a), (2, .int u), (3, .int w), (5, .int (nI i)), (6, .int (nI k9))]) hx hb dL_act_410 hl (by decide) rfl (fun ls hl => ?_)
          refine lv_iload hx hb dL_act_412 (lv_at hl 3 rfl) ?_
          refine lv_iload hx hb dL_act_414 (lv_at hl 1 rfl) ?_
          refine lv_iadd hx hb dL_act_416 ?_
          refine lv_sipush (v := 9999) hx hb dL_act_417 (by decide) ?_
          refine lv_icmp_le (tgt := 450) hx hb dL_act_420 (by decide) (fun _ => ?_) (fun c_105 => absurd (i32_nlt h3) c_105)
          refine lv_iload hx hb dL_act_450 (lv_at hl 0 rfl) ?_
          refine lv_iload hx hb dL_act_452 (lv_at hl 3 rfl) ?_
          refine lv_iload hx hb dL_act_454 (lv_at hl 1 rfl) ?_
          refine lv_iadd hx hb dL_act_456 ?_
          refine lv_icmp_ne (tgt := 494) hx hb dL_act_457 (by decide) (fun c_106 => absurd (rfl) c_106) (fun _ => ?_)
          refine lv_aload_n hx hb dL_act_460 rfl (lv_at hl 4 rfl) ?_
          refine lv_iload hx hb dL_act_461 (lv_at hl 8 rfl) ?_
          refine lv_iconst (v := 4) hx hb dL_act_463 (by decide) ?_
          refine got_i (run_i hx hb hml hown hT hK hl.1 (q_of l G z r2 i 4 4 hw2 hi2 (by omega) (by decide)) (cw_L_15 hT ⟨Nat.le_of_ble_eq_true rfl, Nat.le_of_ble_eq_true rfl⟩) hO.te rfl hO rfl rfl (Nat.le_of_ble_eq_true rfl) dL_act_464 ⟨Nat.le_of_ble_eq_true rfl, Nat.le_of_ble_eq_true rfl⟩) (fun v_107 hv_107 => ?_)
          obtain rfl : v_107 = stF r2 i := hv_107
          refine lv_iload hx hb dL_act_467 (lv_at hl 0 rfl) ?_
          refine lv_icmp_ne (tgt := 494) hx hb dL_act_469 (by decide) (fun c_108 => absurd (f4) c_108) (fun _ => ?_)
          refine lv_aload_n hx hb dL_act_472 rfl (lv_at hl 4 rfl) ?_
          refine lv_iload hx hb dL_act_473 (lv_at hl 8 rfl) ?_
          refine lv_iconst (v := 5) hx hb dL_act_475 (by decide) ?_
          refine got_i (run_i hx hb hml hown hT hK hl.1 (q_of l G z r2 i 5 5 hw2 hi2 (by omega) (by decide)) (cw_L_15 hT ⟨Nat.le_of_ble_eq_true rfl, Nat.le_of_ble_eq_true rfl⟩) hO.te rfl hO rfl rfl (Nat.le_of_ble_eq_true rfl) dL_act_476 ⟨Nat.le_of_ble_eq_true rfl, Nat.le_of_ble_eq_true rfl⟩) (fun v_109 hv_109 => ?_)
          obtain rfl : v_109 = r2 (12 + 14 * i + 12) := hv_109
          refine lv_iload hx hb dL_act_479 (lv_at hl 3 rfl) ?_
          refine lv_iload hx hb dL_act_481 (lv_at hl 2 rfl) ?_
          refine lv_imul hx hb dL_act_483 ?_
          refine lv_iload hx hb dL_act_484 (lv_at hl 0 rfl) ?_
          refine lv_idiv hx hb dL_act_486 (hne) ?_
          refine lv_icmp_ne (tgt := 494) hx hb dL_act_487 (by decide) (fun c_110 => absurd (f5) c_110) (fun _ => ?_)
          refine lv_iconst (v := 1) hx hb dL_act_490 (by decide) ?_
          refine lv_goto (tgt := 495) hx hb dL_act_491 (by decide) ?_
          refine W.widen (k := 1) (n := 5) (by omega) (by omega) ?_
          exact nd_Z hQ hx hb hr hlocks dL_act_495 hS (Or.inr rfl) (⟨rfl, r2, mk, AP.same hv hRM (by omega) hv2 hsm, hO, hA⟩)
    · refine lv_lconst (v := 0) hx hb dL_act_267 (by decide) ?_
      obtain ⟨cc, hcc⟩ : ∃ cc : Nat → Nat, cc = fun j => lw (w >>> ((2 * nI j) &&& 31)) 19 := ⟨_, rfl⟩
      have hc : ∀ k, cc k < 19 := fun k => by rw [hcc]; exact lw_lt _ (by omega)
      have e_111 : 0 = lL (rwN cc 0) := rfl
      rw [e_111]
      refine lv_lstore (lv' := [(7, .long (lL (rwN cc 0))), (0, .ref z), (1, .ref a), (2, .int u), (3, .int w), (5, .int (nI i)), (6, .int (nI k9))]) hx hb dL_act_268 hl (by decide) rfl (fun ls hl => ?_)
      refine lv_iconst (v := 0) hx hb dL_act_270 (by decide) ?_
      refine lv_istore (lv' := [(9, .int 0), (7, .long (lL (rwN cc 0))), (0, .ref z), (1, .ref a), (2, .int u), (3, .int w), (5, .int (nI i)), (6, .int (nI k9))]) hx hb dL_act_271 hl (by decide) rfl (fun ls hl => ?_)
      have hA : ar G 0 a (iA 60 (mkR mk i cc 0)) s.heap := iA_ext hA (fun j _ => mkR_0)
      have loop : ∀ (k : Nat) (j : Nat) (H : Heap) (locs : List Loc), va_S (fun q => In z 197 q ∨ q = a ∨ h0 ≤ q) s.heap H locs → j ≤ 7 → LO G z r H → ar G 0 a (iA 60 (mkR mk i cc j)) H → 7 - j < k → ∀ ls : Array Slot, lv_has ls 13 [(0, .ref z), (1, .ref a), (3, .int w), (5, .int (nI i)), (7, .long (lL (rwN cc j))), (9, .int (nI j))] → W p l e (rmM 10 1 5) s m args below meth c H locs 0 0 Q (F0 m 273 ls []) := by
        intro k
        induction k with
        | zero => intro j H locs hS hj hO hA hm; exact absurd hm (Nat.not_lt_zero _)
        | succ k ih =>
          intro j H locs hS hj hO hA hm ls hl
          refine lv_iload hx hb dL_act_273 (lv_at hl 5 rfl) ?_
          refine lv_bipush (v := 7) hx hb dL_act_275 (by decide) ?_
          refine lv_icmp_ge (tgt := 329) hx hb dL_act_277 (by decide) (fun c1 => ?_) (fun c1 => ?_)
          · obtain rfl : j = 7 := by
              have := (nI_leI (a := 7) (by omega) (by omega)).mp c1
              omega
            have hop := rwO_3 (r := r) (by omega : i < 5) hlf (rw_ok hc)
            have hv2 := Iv_rw hv (nI i) (lL (rwN cc 7))
            rw [hop] at hv2
            refine lv_aload_n hx hb dL_act_329 rfl (lv_at hl 0 rfl) ?_
            refine lv_iload hx hb dL_act_330 (lv_at hl 3 rfl) ?_
            refine lv_lload hx hb dL_act_332 (lv_at hl 4 rfl) ?_
            have hSz := hS.1
            refine got_I (run_i hx hb hml hown hT hK hl.1 (q_row l G z r (nI i) (lL (rwN cc 7)) hw) (cw_L_48 hT ⟨Nat.le_of_ble_eq_true rfl, Nat.le_of_ble_eq_true rfl⟩) hO.te rfl hO rfl rfl (Nat.le_of_ble_eq_true rfl) dL_act_334 ⟨Nat.le_of_ble_eq_true rfl, Nat.le_of_ble_eq_true rfl⟩) hS (fun q hq => Or.inl hq) (fun q hq => Or.inl hq) (fun v_112 H locs h1 hz hk hS => ?_)
            rw [hop] at h1
            obtain ⟨hv1, hO⟩ := h1
            have hv1 : v_112 = prF (chR r i (lL (rwN cc 7)) 7) i := hv1
            subst hv1
            have hA := hA.kept (hk a (Nat.lt_of_lt_of_le hal (by have := hSz; omega)) (fun (q : _ ∧ _) => by omega))
            have hRM2 := rw_RM hRM (i := i) hc
            have f5 : (chR r i (lL (rwN cc 7)) 7) 5 = r 5 := ch_o (by omega)
            have f2 : (chR r i (lL (rwN cc 7)) 7) 2 = r 2 := ch_o (by omega)
            have hv2 : Iv (chR r i (lL (rwN cc 7)) 7) := hv2
            try dsimp only at hO
            generalize chR r i (lL (rwN cc 7)) 7 = r2 at hO hRM2 f5 f2 hv2 ⊢
            have hw2 := hv2.1
            have hnl := nlv_same f5
            have hi2 : i < nlv r2 := by omega
            refine lv_aload_n hx hb dL_act_337 rfl (lv_at hl 0 rfl) ?_
            refine lv_iload hx hb dL_act_338 (lv_at hl 3 rfl) ?_
            refine lv_iconst (v := 0) hx hb dL_act_340 (by decide) ?_
            refine got_i (run_i hx hb hml hown hT hK hl.1 (q_of l G z r2 i 0 0 hw2 hi2 (by omega) (by decide)) (cw_L_15 hT ⟨Nat.le_of_ble_eq_true rfl, Nat.le_of_ble_eq_true rfl⟩) hO.te rfl hO rfl rfl (Nat.le_of_ble_eq_true rfl) dL_act_341 ⟨Nat.le_of_ble_eq_true rfl, Nat.le_of_ble_eq_true rfl⟩) (fun v_113 hv_113 => ?_)
            obtain rfl : v_113 = prF r2 i := hv_113
            refine lv_icmp_ne (tgt := 365) hx hb dL_act_344 (by decide) (fun c_114 => absurd (rfl) c_114) (fun _ => ?_)
            refine lv_aload_n hx hb dL_act_347 rfl (lv_at hl 0 rfl) ?_
            refine lv_iload hx hb dL_act_348 (lv_at hl 3 rfl) ?_
            refine lv_ldc2 hx hb hown (hT _ mk_L_52) dL_act_350 ?_
            have hSz := hS.1
            refine got_I (run_i hx hb hml hown hT hK hl.1 (q_row l G z r2 (nI i) 31 hw2) (cw_L_48 hT ⟨Nat.le_of_ble_eq_true rfl, Nat.le_of_ble_eq_true rfl⟩) hO.te rfl hO rfl rfl (Nat.le_of_ble_eq_true rfl) dL_act_353 ⟨Nat.le_of_ble_eq_true rfl, Nat.le_of_ble_eq_true rfl⟩) hS (fun q hq => Or.inl hq) (fun q hq => Or.inl hq) (fun v_115 H locs h1 hz hk hS => ?_)
            rw [rwO_2 (lfP_n hw2 hi2) ch_31] at h1
            obtain ⟨hv1, hO⟩ := h1
            have hv1 : v_115 = -2 := hv1
            subst hv1
            have hA := hA.kept (hk a (Nat.lt_of_lt_of_le hal (by have := hSz; omega)) (fun (q : _ ∧ _) => by omega))
            refine lv_bipush (v := (-2)) hx hb dL_act_356 (by decide) ?_
            refine lv_icmp_ne (tgt := 365) hx hb dL_act_358 (by decide) (fun c_116 => absurd (rfl) c_116) (fun _ => ?_)
            refine lv_iconst (v := 1) hx hb dL_act_361 (by decide) ?_
            refine lv_goto (tgt := 366) hx hb dL_act_362 (by decide) ?_
            refine W.widen (k := 1) (n := 5) (by omega) (by omega) ?_
            exact nd_Z hQ hx hb hr hlocks dL_act_366 hS (Or.inr rfl) (⟨rfl, r2, _, ⟨⟨hv2, hRM2⟩, ⟨by omega, fun _ => by omega⟩, by rw [f2]; omega⟩, hO, hA⟩)
          · have hj7 : j < 7 := by
              have : ¬ 7 ≤ j := fun q => c1 (nI_le (a := 7) q (by omega))
              omega
            refine lv_iload_n hx hb dL_act_280 rfl (lv_at hl 2 rfl) ?_
            refine lv_iconst (v := 2) hx hb dL_act_281 (by decide) ?_
            refine lv_iload hx hb dL_act_282 (lv_at hl 5 rfl) ?_
            refine lv_imul hx hb dL_act_284 ?_
            refine lv_ishr hx hb dL_act_285 ?_
            refine lv_bipush (v := 19) hx hb dL_act_286 (by decide) ?_
            refine got_i (run_s hx hb hml hown hT hK hl.1 (k_L_low l G (w >>> ((2 * (nI j)) &&& 31)) 19 (by omega) (by omega)) (cw_L_41 hT ⟨Nat.le_of_ble_eq_true rfl, Nat.le_of_ble_eq_true rfl⟩) trivial rfl rfl (Nat.le_of_ble_eq_true rfl) dL_act_288 ⟨Nat.le_of_ble_eq_true rfl, Nat.le_of_ble_eq_true rfl⟩) (fun v_117 hv_117 => ?_)
            obtain rfl : v_117 = nI (cc j) := hv_117.trans (by rw [hcc])
            refine lv_istore (lv' := [(10, .int (nI (cc j))), (0, .ref z), (1, .ref a), (3, .int w), (5, .int (nI i)), (7, .long (lL (rwN cc j))), (9, .int (nI j))]) hx hb dL_act_291 hl (by decide) rfl (fun ls hl => ?_)
            refine lv_lload hx hb dL_act_293 (lv_at hl 5 rfl) ?_
            refine lv_iload hx hb dL_act_295 (lv_at hl 0 rfl) ?_
            refine lv_i2l hx hb dL_act_297 rfl ?_
            refine lv_iconst (v := 5) hx hb dL_act_298 (by decide) ?_
            refine lv_iload hx hb dL_act_299 (lv_at hl 6 rfl) ?_
            refine lv_imul hx hb dL_act_301 ?_
            refine lv_lshl hx hb dL_act_302 rfl ?_
            refine lv_lor hx hb dL_act_303 ?_
            have e_118 : (lL (rwN cc j)) ||| (((nI (cc j)).toInt64) <<< ((5 * (nI j)).toInt64 &&& 63)) = lL (rwN cc (j + 1)) := rw_step hc hj7
            rw [e_118]
            refine lv_lstore (lv' := [(7, .long (lL (rwN cc (j + 1)))), (10, .int (nI (cc j))), (0, .ref z), (1, .ref a), (3, .int w), (5, .int (nI i)), (9, .int (nI j))]) hx hb dL_act_304 hl (by decide) rfl (fun ls hl => ?_)
            refine lv_aload_n hx hb dL_act_306 rfl (lv_at hl 3 rfl) ?_
            refine lv_bipush (v := 12) hx hb dL_act_307 (by decide) ?_
            refine lv_iload hx hb dL_act_309 (lv_at hl 5 rfl) ?_
            refine lv_imul hx hb dL_act_311 ?_
            refine lv_iconst (v := 4) hx hb dL_act_312 (by decide) ?_
            refine lv_iadd hx hb dL_act_313 ?_
            refine lv_iload hx hb dL_act_314 (lv_at hl 6 rfl) ?_
            refine lv_iadd hx hb dL_act_316 ?_
            refine lv_iload hx hb dL_act_317 (lv_at hl 1 rfl) ?_
            refine lv_bipush (v := 9) hx hb dL_act_319 (by decide) ?_
            refine lv_isub hx hb dL_act_321 ?_
            refine r_iast hx hb hK hA (12 * i + 4 + j) (ix_a (ix_a (ix_m (a := 12) rfl rfl) (b := 4) rfl) rfl) (by omega) (Nat.le_of_ble_eq_true rfl) hS (Or.inr (Or.inl rfl)) dL_act_322 (fun H locs h1 o hS => ?_)
            have hA : ar G 0 a (iA 60 (mkR mk i cc (j + 1))) H := iA_ext h1 (fun q _ => mkR_s)
            have hO := hO.kept (fun q _ _ => o.2 q (by omega))
            refine lv_iinc (v := nI (j + 1)) (lv' := [(9, .int (nI (j + 1))), (7, .long (lL (rwN cc (j + 1)))), (10, .int (nI (cc j))), (0, .ref z), (1, .ref a), (3, .int w), (5, .int (nI i))]) hx hb dL_act_323 hl (k := 6) rfl (nI_1 j) (by decide) rfl (fun ls hl => ?_)
            refine lv_goto (tgt := 273) hx hb dL_act_326 (by decide) ?_
            exact ih (j + 1) _ _ hS (by omega) hO hA (by omega) ls (lv_sub hl [3, 4, 5, 6, 1, 0] rfl)
      exact loop 8 0 _ _ hS (by omega) hO hA (by omega) ls (lv_sub hl [2, 3, 5, 6, 1, 0] rfl)
  refine lv_if_ne (tgt := 16) hx hb dL_act_9 (by decide) (fun c1 => ?_) (fun c1 => ?_)
  · have hn0 : 0 < nlv r := Nat.pos_of_ne_zero (fun q => c1 (by rw [q]; exact nI_0))
    refine lv_iload_n hx hb dL_act_16 rfl (lv_at hl 3 rfl) ?_
    refine lv_iconst (v := 4) hx hb dL_act_17 (by decide) ?_
    refine lv_ishr hx hb dL_act_18 ?_
    refine lv_iload hx hb dL_act_19 (lv_at hl 0 rfl) ?_
    refine got_i (run_s hx hb hml hown hT hK hl.1 (k_L_low l G (u >>> (4 &&& 31)) (nlv r) (hn0) (by omega)) (cw_L_41 hT ⟨Nat.le_of_ble_eq_true rfl, Nat.le_of_ble_eq_true rfl⟩) trivial rfl rfl (Nat.le_of_ble_eq_true rfl) dL_act_21 ⟨Nat.le_of_ble_eq_true rfl, Nat.le_of_ble_eq_true rfl⟩) (fun v_119 hv_119 => ?_)
    obtain ⟨i0, hi0⟩ : ∃ q, q = lw (u >>> (4 &&& 31)) (nlv r) := ⟨_, rfl⟩
    have bi0 : i0 < nlv r := by rw [hi0]; exact lw_lt _ (hn0)
    obtain rfl : v_119 = nI i0 := hv_119.trans (congrArg nI hi0.symm)
    refine lv_istore (lv' := [(5, .int (nI i0)), (4, .int (nI (nlv r))), (0, .ref z), (1, .ref a), (2, .int u), (3, .int w)]) hx hb dL_act_24 hl (by decide) rfl (fun ls hl => ?_)
    refine lv_iload_n hx hb dL_act_26 rfl (lv_at hl 4 rfl) ?_
    refine lv_bipush (v := 11) hx hb dL_act_27 (by decide) ?_
    refine got_i (run_s hx hb hml hown hT hK hl.1 (k_L_low l G u 11 (by omega) (by omega)) (cw_L_41 hT ⟨Nat.le_of_ble_eq_true rfl, Nat.le_of_ble_eq_true rfl⟩) trivial rfl rfl (Nat.le_of_ble_eq_true rfl) dL_act_29 ⟨Nat.le_of_ble_eq_true rfl, Nat.le_of_ble_eq_true rfl⟩) (fun v_120 hv_120 => ?_)
    obtain ⟨k0, hk0⟩ : ∃ q, q = lw u 11 := ⟨_, rfl⟩
    have bk0 : k0 < 11 := by rw [hk0]; exact lw_lt _ (by omega)
    obtain rfl : v_120 = nI k0 := hv_120.trans (congrArg nI hk0.symm)
    refine lv_istore (lv' := [(6, .int (nI k0)), (5, .int (nI i0)), (4, .int (nI (nlv r))), (0, .ref z), (1, .ref a), (2, .int u), (3, .int w)]) hx hb dL_act_32 hl (by decide) rfl (fun ls hl => ?_)
    refine lv_iload hx hb dL_act_34 (lv_at hl 0 rfl) ?_
    refine lv_if_eq (tgt := 44) hx hb dL_act_36 (by decide) (fun c2 => ?_) (fun c2 => ?_)
    · exact r44 ls (lv_sub hl [3, 4, 6, 2] rfl)
    · refine lv_iload hx hb dL_act_39 (lv_at hl 2 rfl) ?_
      refine lv_if_ne (tgt := 261) hx hb dL_act_41 (by decide) (fun _ => ?_) (fun c_121 => absurd c_121 (c1))
      exact r261 i0 k0 bi0 ls (lv_sub hl [3, 4, 5, 6, 1, 0] rfl)
  · refine lv_iconst (v := 0) hx hb dL_act_12 (by decide) ?_
    refine lv_goto (tgt := 24) hx hb dL_act_13 (by decide) ?_
    refine lv_istore (lv' := [(5, .int 0), (4, .int (nI (nlv r))), (0, .ref z), (1, .ref a), (2, .int u), (3, .int w)]) hx hb dL_act_24 hl (by decide) rfl (fun ls hl => ?_)
    refine lv_iload_n hx hb dL_act_26 rfl (lv_at hl 4 rfl) ?_
    refine lv_bipush (v := 11) hx hb dL_act_27 (by decide) ?_
    refine got_i (run_s hx hb hml hown hT hK hl.1 (k_L_low l G u 11 (by omega) (by omega)) (cw_L_41 hT ⟨Nat.le_of_ble_eq_true rfl, Nat.le_of_ble_eq_true rfl⟩) trivial rfl rfl (Nat.le_of_ble_eq_true rfl) dL_act_29 ⟨Nat.le_of_ble_eq_true rfl, Nat.le_of_ble_eq_true rfl⟩) (fun v_122 hv_122 => ?_)
    obtain ⟨k0, hk0⟩ : ∃ q, q = lw u 11 := ⟨_, rfl⟩
    have bk0 : k0 < 11 := by rw [hk0]; exact lw_lt _ (by omega)
    obtain rfl : v_122 = nI k0 := hv_122.trans (congrArg nI hk0.symm)
    refine lv_istore (lv' := [(6, .int (nI k0)), (5, .int 0), (4, .int (nI (nlv r))), (0, .ref z), (1, .ref a), (2, .int u), (3, .int w)]) hx hb dL_act_32 hl (by decide) rfl (fun ls hl => ?_)
    refine lv_iload hx hb dL_act_34 (lv_at hl 0 rfl) ?_
    refine lv_if_eq (tgt := 44) hx hb dL_act_36 (by decide) (fun c2 => ?_) (fun c2 => ?_)
    · exact r44 ls (lv_sub hl [3, 4, 6, 2] rfl)
    · refine lv_iload hx hb dL_act_39 (lv_at hl 2 rfl) ?_
      refine lv_if_ne (tgt := 261) hx hb dL_act_41 (by decide) (fun c_123 => absurd (c1) c_123) (fun _ => ?_)
      exact r44 ls (lv_sub hl [3, 4, 6, 2] rfl)
