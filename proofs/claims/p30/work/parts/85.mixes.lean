theorem nI_20 {q : Nat} : (20 : Int32) * nI q = nI (20 * q) := pk_mul 20 q

set_option maxHeartbeats 4000000 in
set_option maxRecDepth 100000 in
theorem k_L_mixes (l : Launch) (G : GG) (z g0 h0 : Nat) (r : Nat → Int32) (hv : Iv r) (hg0 : g0 ≤ 2000) : Met l yL_mixes (ws_ yL_mixes cL_mixes 10 (some .boolean)) (rmM 9 1 5) (PC G [.ref z, .int (nI g0)] (fun H => LO G z r H ∧ H.size = h0)) (QI (fun v H => v = 1 ∧ ∃ r2, Iv r2 ∧ Sm r r2 ∧ LO G z r2 H) (fun q => In z 197 q ∨ h0 ≤ q)) 1 5 (fun q => In z 197 q ∨ h0 ≤ q) := by
  refine met_q (by decide +kernel) (Nat.le_of_ble_eq_true rfl) ?_
  intro p e s m args below meth c Q hQ hx hb hr hT hown hml hlocks hnm hK hP ls hl
  have hl : lv_has ls 10 [(0, .ref z), (1, .int (nI g0))] := hl
  have hS : va_S (fun q => In z 197 q ∨ h0 ≤ q) s.heap s.heap [] := va_S.rf
  have hO := hP.1
  have hs0 : s.heap.size = h0 := hP.2
  have hw := hv.1
  have h5 := hw.nl5
  obtain ⟨g, hg, hmg, hall, hmore⟩ := mg_all hv
  refine lv_aload_n hx hb dL_mixes_0 rfl (lv_at hl 0 rfl) ?_
  refine got_i (run_i hx hb hml hown hT hK hl.1 (q_mostGrams l G z r hw) (cw_L_35 hT ⟨Nat.le_of_ble_eq_true rfl, Nat.le_of_ble_eq_true rfl⟩) hO.te rfl hO rfl rfl (Nat.le_of_ble_eq_true rfl) dL_mixes_1 ⟨Nat.le_of_ble_eq_true rfl, Nat.le_of_ble_eq_true rfl⟩) (fun v_1 hv_1 => ?_)
  obtain rfl : v_1 = mgO r := hv_1
  have e_2 : mgO r = nI g := hmg
  rw [e_2]
  refine lv_istore_n (lv' := [(2, .int (nI g)), (0, .ref z), (1, .int (nI g0))]) hx hb dL_mixes_4 rfl hl (by decide) rfl (fun ls hl => ?_)
  refine lv_aload_n hx hb dL_mixes_5 rfl (lv_at hl 1 rfl) ?_
  refine lv_iconst (v := 0) hx hb dL_mixes_6 (by decide) ?_
  refine got_i (run_i hx hb hml hown hT hK hl.1 (q_blend l G z r 0 0 hw (by omega) (by decide)) (cw_L_25 hT ⟨Nat.le_of_ble_eq_true rfl, Nat.le_of_ble_eq_true rfl⟩) hO.te rfl hO rfl rfl (Nat.le_of_ble_eq_true rfl) dL_mixes_7 ⟨Nat.le_of_ble_eq_true rfl, Nat.le_of_ble_eq_true rfl⟩) (fun v_3 hv_3 => ?_)
  obtain rfl : v_3 = prS r / 20 := hv_3
  refine lv_istore_n (lv' := [(3, .int (prS r / 20)), (2, .int (nI g)), (0, .ref z), (1, .int (nI g0))]) hx hb dL_mixes_10 rfl hl (by decide) rfl (fun ls hl => ?_)
  refine lv_iload_n hx hb dL_mixes_11 rfl (lv_at hl 3 rfl) ?_
  refine lv_iload_n hx hb dL_mixes_12 rfl (lv_at hl 1 rfl) ?_
  have r44 : ∀ (mm : Nat) (H : Heap) (locs : List Loc), va_S (fun q => In z 197 q ∨ h0 ≤ q) s.heap H locs → mm ≤ g → LO G z r H → ∀ ls : Array Slot, lv_has ls 10 [(0, .ref z), (2, .int (nI g)), (3, .int (prS r / 20)), (4, .int (nI mm))] → W p l e (rmM 9 1 5) s m args below meth c H locs 0 0 Q (F0 m 44 ls []) := by
    intro mm H locs hS hmm hO ls hl
    have hzs : s.heap.size ≤ H.size := hS.1
    refine lv_iload hx hb dL_mixes_44 (lv_at hl 3 rfl) ?_
    refine lv_if_ne (tgt := 65) hx hb dL_mixes_46 (by decide) (fun c1 => ?_) (fun c1 => ?_)
    · have h1m : 1 ≤ mm := Nat.one_le_iff_ne_zero.mpr (fun q => c1 (by rw [q]; exact nI_0))
      have hmg9 : mm ≤ 9999 := Nat.le_trans hmm hg
      obtain ⟨hy, hsf⟩ := hall mm h1m hmm
      refine lv_aload_n hx hb dL_mixes_65 rfl (lv_at hl 0 rfl) ?_
      refine lv_iconst (v := 2) hx hb dL_mixes_66 (by decide) ?_
      refine got_i (run_i hx hb hml hown hT hK hl.1 (q_count l G z r 2 2 (by omega) (by decide)) (cw_L_9 hT ⟨Nat.le_of_ble_eq_true rfl, Nat.le_of_ble_eq_true rfl⟩) hO.te rfl hO rfl rfl (Nat.le_of_ble_eq_true rfl) dL_mixes_67 ⟨Nat.le_of_ble_eq_true rfl, Nat.le_of_ble_eq_true rfl⟩) (fun v_4 hv_4 => ?_)
      obtain rfl : v_4 = r 3 := hv_4
      refine lv_istore (lv' := [(5, .int (r 3)), (0, .ref z), (2, .int (nI g)), (3, .int (prS r / 20)), (4, .int (nI mm))]) hx hb dL_mixes_70 hl (by decide) rfl (fun ls hl => ?_)
      refine lv_aload_n hx hb dL_mixes_72 rfl (lv_at hl 1 rfl) ?_
      refine lv_iconst (v := 3) hx hb dL_mixes_73 (by decide) ?_
      refine got_i (run_i hx hb hml hown hT hK hl.1 (q_count l G z r 3 3 (by omega) (by decide)) (cw_L_9 hT ⟨Nat.le_of_ble_eq_true rfl, Nat.le_of_ble_eq_true rfl⟩) hO.te rfl hO rfl rfl (Nat.le_of_ble_eq_true rfl) dL_mixes_74 ⟨Nat.le_of_ble_eq_true rfl, Nat.le_of_ble_eq_true rfl⟩) (fun v_5 hv_5 => ?_)
      obtain rfl : v_5 = r 4 := hv_5
      refine lv_istore (lv' := [(6, .int (r 4)), (5, .int (r 3)), (0, .ref z), (2, .int (nI g)), (3, .int (prS r / 20)), (4, .int (nI mm))]) hx hb dL_mixes_77 hl (by decide) rfl (fun ls hl => ?_)
      refine lv_iconst (v := 5) hx hb dL_mixes_79 (by decide) ?_
      have htop := hO.top
      obtain ⟨b1, hb1⟩ : ∃ b1, H.size = b1 := ⟨_, rfl⟩
      refine r_newI (h := b1) (n := 5) hx hb hT hK rfl (by decide) hb1 (Nat.le_of_ble_eq_true rfl) (Nat.le_of_ble_eq_true rfl) hS dL_mixes_80 (fun H hA gq hS => ?_)
      have hO : LO G z r H := hO.kept (fun q _ _ => gq.2 q (by omega))
      have hbz : z + 197 ≤ b1 := by omega
      have hbh : h0 ≤ b1 := by omega
      clear gq
      refine lv_astore (lv' := [(7, .ref b1), (6, .int (r 4)), (5, .int (r 3)), (0, .ref z), (2, .int (nI g)), (3, .int (prS r / 20)), (4, .int (nI mm))]) hx hb dL_mixes_82 hl (by decide) rfl (fun ls hl => ?_)
      refine lv_iconst (v := 0) hx hb dL_mixes_84 (by decide) ?_
      refine lv_istore (lv' := [(8, .int 0), (7, .ref b1), (6, .int (r 4)), (5, .int (r 3)), (0, .ref z), (2, .int (nI g)), (3, .int (prS r / 20)), (4, .int (nI mm))]) hx hb dL_mixes_85 hl (by decide) rfl (fun ls hl => ?_)
      have loop : ∀ (k : Nat) (i : Nat) (f : Nat → Int32) (H : Heap) (locs : List Loc), va_S (fun q => In z 197 q ∨ h0 ≤ q) s.heap H locs → i ≤ nlv r → LO G z r H → ar G 0 b1 (iA 5 f) H → (∀ j, j < i → f j = stF r j) → nlv r - i < k → ∀ ls : Array Slot, lv_has ls 10 [(0, .ref z), (3, .int (prS r / 20)), (4, .int (nI mm)), (5, .int (r 3)), (6, .int (r 4)), (7, .ref b1), (8, .int (nI i))] → W p l e (rmM 9 1 5) s m args below meth c H locs 1 5 Q (F0 m 87 ls []) := by
        intro k
        induction k with
        | zero => intro i f H locs hS hin hO hA hf hm; exact absurd hm (Nat.not_lt_zero _)
        | succ k ih =>
          intro i f H locs hS hin hO hA hf hm ls hl
          refine lv_iload hx hb dL_mixes_87 (lv_at hl 6 rfl) ?_
          refine lv_aload_n hx hb dL_mixes_89 rfl (lv_at hl 0 rfl) ?_
          refine lv_iconst (v := 1) hx hb dL_mixes_90 (by decide) ?_
          refine got_i (run_i hx hb hml hown hT hK hl.1 (q_count l G z r 1 1 (by omega) (by decide)) (cw_L_9 hT ⟨Nat.le_of_ble_eq_true rfl, Nat.le_of_ble_eq_true rfl⟩) hO.te rfl hO rfl rfl (Nat.le_of_ble_eq_true rfl) dL_mixes_91 ⟨Nat.le_of_ble_eq_true rfl, Nat.le_of_ble_eq_true rfl⟩) (fun v_6 hv_6 => ?_)
          obtain rfl : v_6 = nI (nlv r) := hv_6.trans hw.nl
          refine lv_icmp_ge (tgt := 115) hx hb dL_mixes_94 (by decide) (fun c2 => ?_) (fun c2 => ?_)
          · obtain rfl : i = nlv r := by
              have := (nI_leI (by omega) (by omega)).mp c2
              omega
            refine lv_aload_n hx hb dL_mixes_115 rfl (lv_at hl 0 rfl) ?_
            refine lv_iload hx hb dL_mixes_116 (lv_at hl 2 rfl) ?_
            have hmx := mxO_3 (r := r) (g := nI mm) ⟨nI_le (a := 1) h1m (by omega), nI_le (b := 9999) hmg9 (by omega)⟩ ⟨hy, hsf⟩
            have hv2 := Iv_mx hv (nI mm)
            have hbl := hA.lt
            refine got_I (run_i hx hb hml hown hT hK hl.1 (q_mix l G z r (nI mm) hw) (cw_L_38 hT ⟨Nat.le_of_ble_eq_true rfl, Nat.le_of_ble_eq_true rfl⟩) hO.te rfl hO rfl rfl (Nat.le_of_ble_eq_true rfl) dL_mixes_118 ⟨Nat.le_of_ble_eq_true rfl, Nat.le_of_ble_eq_true rfl⟩) hS (fun q hq => Or.inl hq) (fun q hq => Or.inl hq) (fun v_7 H locs h1 hz hk hS => ?_)
            rw [hmx] at h1 hv2
            obtain ⟨hv1, hO2⟩ := h1
            have hv1 : v_7 = prS r / 20 := hv1
            subst hv1
            have hA : ar G 0 b1 (iA 5 f) H := hA.kept (hk b1 hbl (fun (q : _ ∧ _) => by omega))
            have hsm := mx_sm (r := r) (g := nI mm)
            have hst : ∀ i, i < nlv r → stF (upd (upd (mgR r (nI mm) (nlv r)) 3 (r 3 + nI mm)) 4 (r 4 + nI mm * (prS r / 20) / 100)) i = stF r i - ndF r i (nI mm) := fun i hi => mx_row hi h5
            have e3 : (upd (upd (mgR r (nI mm) (nlv r)) 3 (r 3 + nI mm)) 4 (r 4 + nI mm * (prS r / 20) / 100)) 3 = r 3 + nI mm := (upd_ne (by omega)).trans upd_eq
            have e4 : (upd (upd (mgR r (nI mm) (nlv r)) 3 (r 3 + nI mm)) 4 (r 4 + nI mm * (prS r / 20) / 100)) 4 = r 4 + nI mm * (prS r / 20) / 100 := upd_eq
            dsimp only at hO2 hv2
            generalize upd (upd (mgR r (nI mm) (nlv r)) 3 (r 3 + nI mm)) 4 (r 4 + nI mm * (prS r / 20) / 100) = r2 at hO2 hv2 hsm hst e3 e4
            have hw2 := hv2.1
            have hn2 : nlv r2 = nlv r := nlv_same hsm.1.1.1
            refine lv_iload_n hx hb dL_mixes_121 rfl (lv_at hl 1 rfl) ?_
            refine lv_icmp_ne (tgt := 156) hx hb dL_mixes_122 (by decide) (fun c_8 => absurd (rfl) c_8) (fun _ => ?_)
            refine lv_aload_n hx hb dL_mixes_125 rfl (lv_at hl 0 rfl) ?_
            refine lv_iconst (v := 2) hx hb dL_mixes_126 (by decide) ?_
            refine got_i (run_i hx hb hml hown hT hK hl.1 (q_count l G z r2 2 2 (by omega) (by decide)) (cw_L_9 hT ⟨Nat.le_of_ble_eq_true rfl, Nat.le_of_ble_eq_true rfl⟩) hO2.te rfl hO2 rfl rfl (Nat.le_of_ble_eq_true rfl) dL_mixes_127 ⟨Nat.le_of_ble_eq_true rfl, Nat.le_of_ble_eq_true rfl⟩) (fun v_9 hv_9 => ?_)
            obtain rfl : v_9 = r2 3 := hv_9
            refine lv_iload hx hb dL_mixes_130 (lv_at hl 3 rfl) ?_
            refine lv_iload hx hb dL_mixes_132 (lv_at hl 2 rfl) ?_
            refine lv_iadd hx hb dL_mixes_134 ?_
            refine lv_icmp_ne (tgt := 156) hx hb dL_mixes_135 (by decide) (fun c_10 => absurd (e3) c_10) (fun _ => ?_)
            refine lv_aload_n hx hb dL_mixes_138 rfl (lv_at hl 0 rfl) ?_
            refine lv_iconst (v := 3) hx hb dL_mixes_139 (by decide) ?_
            refine got_i (run_i hx hb hml hown hT hK hl.1 (q_count l G z r2 3 3 (by omega) (by decide)) (cw_L_9 hT ⟨Nat.le_of_ble_eq_true rfl, Nat.le_of_ble_eq_true rfl⟩) hO2.te rfl hO2 rfl rfl (Nat.le_of_ble_eq_true rfl) dL_mixes_140 ⟨Nat.le_of_ble_eq_true rfl, Nat.le_of_ble_eq_true rfl⟩) (fun v_11 hv_11 => ?_)
            obtain rfl : v_11 = r2 4 := hv_11
            refine lv_iload hx hb dL_mixes_143 (lv_at hl 4 rfl) ?_
            refine lv_iload hx hb dL_mixes_145 (lv_at hl 2 rfl) ?_
            refine lv_iload_n hx hb dL_mixes_147 rfl (lv_at hl 1 rfl) ?_
            refine lv_imul hx hb dL_mixes_148 ?_
            refine lv_bipush (v := 100) hx hb dL_mixes_149 (by decide) ?_
            refine lv_idiv hx hb dL_mixes_151 (by decide) ?_
            refine lv_iadd hx hb dL_mixes_152 ?_
            refine lv_icmp_eq (tgt := 158) hx hb dL_mixes_153 (by decide) (fun _ => ?_) (fun c_12 => absurd (e4) c_12)
            refine lv_iconst (v := 0) hx hb dL_mixes_158 (by decide) ?_
            refine lv_istore (lv' := [(8, .int 0), (0, .ref z), (3, .int (prS r / 20)), (4, .int (nI mm)), (5, .int (r 3)), (6, .int (r 4)), (7, .ref b1)]) hx hb dL_mixes_159 hl (by decide) rfl (fun ls hl => ?_)
            have loop2 : ∀ (k : Nat) (i : Nat), i ≤ nlv r → nlv r - i < k → ∀ ls : Array Slot, lv_has ls 10 [(0, .ref z), (4, .int (nI mm)), (7, .ref b1), (8, .int (nI i))] → W p l e (rmM 9 1 5) s m args below meth c H locs 1 5 Q (F0 m 161 ls []) := by
              intro k
              induction k with
              | zero => intro i hin2 hm; exact absurd hm (Nat.not_lt_zero _)
              | succ k ih =>
                intro i hin2 hm ls hl
                refine lv_iload hx hb dL_mixes_161 (lv_at hl 3 rfl) ?_
                refine lv_aload_n hx hb dL_mixes_163 rfl (lv_at hl 0 rfl) ?_
                refine lv_iconst (v := 1) hx hb dL_mixes_164 (by decide) ?_
                refine got_i (run_i hx hb hml hown hT hK hl.1 (q_count l G z r2 1 1 (by omega) (by decide)) (cw_L_9 hT ⟨Nat.le_of_ble_eq_true rfl, Nat.le_of_ble_eq_true rfl⟩) hO2.te rfl hO2 rfl rfl (Nat.le_of_ble_eq_true rfl) dL_mixes_165 ⟨Nat.le_of_ble_eq_true rfl, Nat.le_of_ble_eq_true rfl⟩) (fun v_13 hv_13 => ?_)
                obtain rfl : v_13 = nI (nlv r2) := hv_13.trans hw2.nl
                have e_14 : nI (nlv r2) = nI (nlv r) := congrArg nI hn2
                rw [e_14]
                refine lv_icmp_ge (tgt := 249) hx hb dL_mixes_168 (by decide) (fun c3 => ?_) (fun c3 => ?_)
                · refine lv_iconst (v := 1) hx hb dL_mixes_249 (by decide) ?_
                  exact nd_Z hQ hx hb hr hlocks dL_mixes_250 hS (Or.inr rfl) (⟨rfl, r2, hv2, hsm.1, hO2⟩)
                · have hi : i < nlv r := by
                    have : ¬ nlv r ≤ i := fun q => c3 (nI_le q (by omega))
                    omega
                  have hi2 : i < nlv r2 := by omega
                  obtain ⟨q, s9, st, f1, f2, f3, f4, f5, f6, f7, f8⟩ := mx_chk hv hi hmg9 hsf
                  have g1 : stF r2 i = nI (st - q) := by rw [hst i hi, f1, f2]; exact pk_sub f4
                  have g2 : shF r2 i = nI s9 := (hsm.2 i).trans f3
                  refine lv_aload hx hb dL_mixes_171 (lv_at hl 2 rfl) ?_
                  refine lv_iload hx hb dL_mixes_173 (lv_at hl 3 rfl) ?_
                  refine r_iald hx hb hK hA i (rfl) (by omega) (Nat.le_of_ble_eq_true rfl) dL_mixes_175 ?_
                  refine lv_aload_n hx hb dL_mixes_176 rfl (lv_at hl 0 rfl) ?_
                  refine lv_iload hx hb dL_mixes_177 (lv_at hl 3 rfl) ?_
                  refine lv_iconst (v := 4) hx hb dL_mixes_179 (by decide) ?_
                  refine got_i (run_i hx hb hml hown hT hK hl.1 (q_of l G z r2 i 4 4 hw2 hi2 (by omega) (by decide)) (cw_L_15 hT ⟨Nat.le_of_ble_eq_true rfl, Nat.le_of_ble_eq_true rfl⟩) hO2.te rfl hO2 rfl rfl (Nat.le_of_ble_eq_true rfl) dL_mixes_180 ⟨Nat.le_of_ble_eq_true rfl, Nat.le_of_ble_eq_true rfl⟩) (fun v_15 hv_15 => ?_)
                  obtain rfl : v_15 = nI (st - q) := hv_15.trans g1
                  refine lv_isub hx hb dL_mixes_183 ?_
                  have e_16 : (f i) - (nI (st - q)) = nI q := by rw [hf i hi, f1, pk_sub (by omega)]; congr 1; omega
                  rw [e_16]
                  refine lv_istore (lv' := [(9, .int (nI q)), (0, .ref z), (4, .int (nI mm)), (7, .ref b1), (8, .int (nI i))]) hx hb dL_mixes_184 hl (by decide) rfl (fun ls hl => ?_)
                  refine lv_aload_n hx hb dL_mixes_186 rfl (lv_at hl 1 rfl) ?_
                  refine lv_iload hx hb dL_mixes_187 (lv_at hl 4 rfl) ?_
                  refine lv_iconst (v := 4) hx hb dL_mixes_189 (by decide) ?_
                  refine got_i (run_i hx hb hml hown hT hK hl.1 (q_of l G z r2 i 4 4 hw2 hi2 (by omega) (by decide)) (cw_L_15 hT ⟨Nat.le_of_ble_eq_true rfl, Nat.le_of_ble_eq_true rfl⟩) hO2.te rfl hO2 rfl rfl (Nat.le_of_ble_eq_true rfl) dL_mixes_190 ⟨Nat.le_of_ble_eq_true rfl, Nat.le_of_ble_eq_true rfl⟩) (fun v_17 hv_17 => ?_)
                  obtain rfl : v_17 = nI (st - q) := hv_17.trans g1
                  refine lv_if_lt (tgt := 241) hx hb dL_mixes_193 (by decide) (fun c_18 => absurd c_18 (nI_pos (by omega))) (fun _ => ?_)
                  refine lv_bipush (v := 20) hx hb dL_mixes_196 (by decide) ?_
                  refine lv_iload hx hb dL_mixes_198 (lv_at hl 0 rfl) ?_
                  refine lv_imul hx hb dL_mixes_200 ?_
                  refine lv_iload hx hb dL_mixes_201 (lv_at hl 2 rfl) ?_
                  refine lv_aload_n hx hb dL_mixes_203 rfl (lv_at hl 1 rfl) ?_
                  refine lv_iload hx hb dL_mixes_204 (lv_at hl 4 rfl) ?_
                  refine lv_bipush (v := 6) hx hb dL_mixes_206 (by decide) ?_
                  refine got_i (run_i hx hb hml hown hT hK hl.1 (q_of l G z r2 i 6 6 hw2 hi2 (by omega) (by decide)) (cw_L_15 hT ⟨Nat.le_of_ble_eq_true rfl, Nat.le_of_ble_eq_true rfl⟩) hO2.te rfl hO2 rfl rfl (Nat.le_of_ble_eq_true rfl) dL_mixes_208 ⟨Nat.le_of_ble_eq_true rfl, Nat.le_of_ble_eq_true rfl⟩) (fun v_19 hv_19 => ?_)
                  obtain rfl : v_19 = nI s9 := hv_19.trans g2
                  refine lv_imul hx hb dL_mixes_211 ?_
                  refine lv_icmp_lt (tgt := 241) hx hb dL_mixes_212 (by decide) (fun c_20 => absurd c_20 (by rw [nI_20, pk_mul]; exact nI_nlt f7 (by omega))) (fun _ => ?_)
                  refine lv_bipush (v := 20) hx hb dL_mixes_215 (by decide) ?_
                  refine lv_iload hx hb dL_mixes_217 (lv_at hl 0 rfl) ?_
                  refine lv_iconst (v := 1) hx hb dL_mixes_219 (by decide) ?_
                  refine lv_isub hx hb dL_mixes_220 ?_
                  refine lv_imul hx hb dL_mixes_221 ?_
                  refine lv_iload hx hb dL_mixes_222 (lv_at hl 2 rfl) ?_
                  refine lv_aload_n hx hb dL_mixes_224 rfl (lv_at hl 1 rfl) ?_
                  refine lv_iload hx hb dL_mixes_225 (lv_at hl 4 rfl) ?_
                  refine lv_bipush (v := 6) hx hb dL_mixes_227 (by decide) ?_
                  refine got_i (run_i hx hb hml hown hT hK hl.1 (q_of l G z r2 i 6 6 hw2 hi2 (by omega) (by decide)) (cw_L_15 hT ⟨Nat.le_of_ble_eq_true rfl, Nat.le_of_ble_eq_true rfl⟩) hO2.te rfl hO2 rfl rfl (Nat.le_of_ble_eq_true rfl) dL_mixes_229 ⟨Nat.le_of_ble_eq_true rfl, Nat.le_of_ble_eq_true rfl⟩) (fun v_21 hv_21 => ?_)
                  obtain rfl : v_21 = nI s9 := hv_21.trans g2
                  refine lv_imul hx hb dL_mixes_232 ?_
                  refine lv_icmp_lt (tgt := 243) hx hb dL_mixes_233 (by decide) (fun c4 => ?_) (fun c4 => ?_)
                  · refine lv_iinc (v := nI (i + 1)) (lv' := [(8, .int (nI (i + 1))), (9, .int (nI q)), (0, .ref z), (4, .int (nI mm)), (7, .ref b1)]) hx hb dL_mixes_243 hl (k := 4) rfl (nI_1 i) (by decide) rfl (fun ls hl => ?_)
                    refine lv_goto (tgt := 161) hx hb dL_mixes_246 (by decide) ?_
                    exact ih (i + 1) (by omega) (by omega) ls (lv_sub hl [2, 3, 4, 0] rfl)
                  · have q0 : q = 0 := by
                      rcases Nat.eq_zero_or_pos q with e0 | e0
                      · exact e0
                      · exfalso
                        apply c4
                        rw [show nI q - 1 = nI (q - 1) from pk_sub (b := 1) e0, nI_20, pk_mul]
                        exact nI_lt (f8 e0) (by omega)
                    refine lv_iload hx hb dL_mixes_236 (lv_at hl 0 rfl) ?_
                    refine lv_if_le (tgt := 243) hx hb dL_mixes_238 (by decide) (fun _ => ?_) (fun c_22 => absurd (by rw [q0]; decide) c_22)
                    refine lv_iinc (v := nI (i + 1)) (lv' := [(8, .int (nI (i + 1))), (9, .int (nI q)), (0, .ref z), (4, .int (nI mm)), (7, .ref b1)]) hx hb dL_mixes_243 hl (k := 4) rfl (nI_1 i) (by decide) rfl (fun ls hl => ?_)
                    refine lv_goto (tgt := 161) hx hb dL_mixes_246 (by decide) ?_
                    exact ih (i + 1) (by omega) (by omega) ls (lv_sub hl [2, 3, 4, 0] rfl)
            exact loop2 6 0 (by omega) (by omega) ls (lv_sub hl [1, 3, 6, 0] rfl)
          · have hi : i < nlv r := by
              have : ¬ nlv r ≤ i := fun q => c2 (nI_le q (by omega))
              omega
            refine lv_aload hx hb dL_mixes_97 (lv_at hl 5 rfl) ?_
            refine lv_iload hx hb dL_mixes_99 (lv_at hl 6 rfl) ?_
            refine lv_aload_n hx hb dL_mixes_101 rfl (lv_at hl 0 rfl) ?_
            refine lv_iload hx hb dL_mixes_102 (lv_at hl 6 rfl) ?_
            refine lv_iconst (v := 4) hx hb dL_mixes_104 (by decide) ?_
            refine got_i (run_i hx hb hml hown hT hK hl.1 (q_of l G z r i 4 4 hw hi (by omega) (by decide)) (cw_L_15 hT ⟨Nat.le_of_ble_eq_true rfl, Nat.le_of_ble_eq_true rfl⟩) hO.te rfl hO rfl rfl (Nat.le_of_ble_eq_true rfl) dL_mixes_105 ⟨Nat.le_of_ble_eq_true rfl, Nat.le_of_ble_eq_true rfl⟩) (fun v_23 hv_23 => ?_)
            obtain rfl : v_23 = stF r i := hv_23
            refine r_iast hx hb hK hA i (rfl) (by omega) (Nat.le_of_ble_eq_true rfl) hS (Or.inr hbh) dL_mixes_108 (fun H locs h1 o hS => ?_)
            have hO : LO G z r H := hO.kept (fun q _ _ => o.2 q (by omega))
            have hf : ∀ j, j < i + 1 → upd f i (stF r i) j = stF r j := fun j hj => by
              by_cases q : j = i
              · rw [q]; exact upd_eq
              · rw [upd_ne q]; exact hf j (by omega)
            refine lv_iinc (v := nI (i + 1)) (lv' := [(8, .int (nI (i + 1))), (0, .ref z), (3, .int (prS r / 20)), (4, .int (nI mm)), (5, .int (r 3)), (6, .int (r 4)), (7, .ref b1)]) hx hb dL_mixes_109 hl (k := 6) rfl (nI_1 i) (by decide) rfl (fun ls hl => ?_)
            refine lv_goto (tgt := 87) hx hb dL_mixes_112 (by decide) ?_
            exact ih (i + 1) _ _ _ hS (by omega) hO h1 hf (by omega) ls (lv_sub hl [1, 2, 3, 4, 5, 6, 0] rfl)
      exact loop 6 0 _ _ _ hS (by omega) hO hA (fun j hj => absurd hj (Nat.not_lt_zero _)) (by omega) ls (lv_sub hl [4, 6, 7, 3, 2, 1, 0] rfl)
    · refine lv_aload_n hx hb dL_mixes_49 rfl (lv_at hl 0 rfl) ?_
      refine lv_iconst (v := 0) hx hb dL_mixes_50 (by decide) ?_
      refine got_I (run_i hx hb hml hown hT hK hl.1 (q_mix l G z r 0 hw) (cw_L_38 hT ⟨Nat.le_of_ble_eq_true rfl, Nat.le_of_ble_eq_true rfl⟩) hO.te rfl hO rfl rfl (Nat.le_of_ble_eq_true rfl) dL_mixes_51 ⟨Nat.le_of_ble_eq_true rfl, Nat.le_of_ble_eq_true rfl⟩) hS (fun q hq => Or.inl hq) (fun q hq => Or.inl hq) (fun v_24 H locs h1 hz hk hS => ?_)
      rw [mx_0] at h1
      obtain ⟨hv1, hO⟩ := h1
      have hv1 : v_24 = -2 := hv1
      subst hv1
      refine lv_bipush (v := (-2)) hx hb dL_mixes_54 (by decide) ?_
      refine lv_icmp_ne (tgt := 63) hx hb dL_mixes_56 (by decide) (fun c_25 => absurd (rfl) c_25) (fun _ => ?_)
      refine lv_iconst (v := 1) hx hb dL_mixes_59 (by decide) ?_
      refine lv_goto (tgt := 64) hx hb dL_mixes_60 (by decide) ?_
      refine W.widen (k := 1) (n := 5) (by omega) (by omega) ?_
      exact nd_Z hQ hx hb hr hlocks dL_mixes_64 hS (Or.inr rfl) (⟨rfl, r, hv, Sm.rf, hO⟩)
  have r21 : ∀ mm : Nat, mm ≤ g → ∀ ls : Array Slot, lv_has ls 10 [(0, .ref z), (1, .int (nI g0)), (2, .int (nI g)), (3, .int (prS r / 20))] → W p l e (rmM 9 1 5) s m args below meth c s.heap [] 0 0 Q (F0 m 21 ls [.int (nI mm)]) := by
    intro mm hmm ls hl
    refine lv_istore (lv' := [(4, .int (nI mm)), (0, .ref z), (1, .int (nI g0)), (2, .int (nI g)), (3, .int (prS r / 20))]) hx hb dL_mixes_21 hl (by decide) rfl (fun ls hl => ?_)
    refine lv_iload_n hx hb dL_mixes_23 rfl (lv_at hl 3 rfl) ?_
    refine lv_sipush (v := 9999) hx hb dL_mixes_24 (by decide) ?_
    refine lv_icmp_ge (tgt := 44) hx hb dL_mixes_27 (by decide) (fun c5 => ?_) (fun c5 => ?_)
    · exact r44 mm _ _ hS hmm hO ls (lv_sub hl [1, 3, 4, 0] rfl)
    · have hg9 : g < 9999 := by
        have : ¬ 9999 ≤ g := fun q => c5 (nI_le (a := 9999) q (by omega))
        omega
      refine lv_aload_n hx hb dL_mixes_30 rfl (lv_at hl 1 rfl) ?_
      refine lv_iload_n hx hb dL_mixes_31 rfl (lv_at hl 3 rfl) ?_
      refine lv_iconst (v := 1) hx hb dL_mixes_32 (by decide) ?_
      refine lv_iadd hx hb dL_mixes_33 ?_
      have e_26 : (nI g) + 1 = nI (g + 1) := nI_1 g
      rw [e_26]
      refine got_I (run_i hx hb hml hown hT hK hl.1 (q_mix l G z r (nI (g + 1)) hw) (cw_L_38 hT ⟨Nat.le_of_ble_eq_true rfl, Nat.le_of_ble_eq_true rfl⟩) hO.te rfl hO rfl rfl (Nat.le_of_ble_eq_true rfl) dL_mixes_34 ⟨Nat.le_of_ble_eq_true rfl, Nat.le_of_ble_eq_true rfl⟩) hS (fun q hq => Or.inl hq) (fun q hq => Or.inl hq) (fun v_27 H locs h1 hz hk hS => ?_)
      rw [hmore hg9] at h1
      obtain ⟨hv1, hO⟩ := h1
      have hv1 : v_27 = -5 := hv1
      subst hv1
      refine lv_bipush (v := (-5)) hx hb dL_mixes_37 (by decide) ?_
      refine lv_icmp_eq (tgt := 44) hx hb dL_mixes_39 (by decide) (fun _ => ?_) (fun c_28 => absurd (rfl) c_28)
      exact r44 mm _ _ hS hmm hO ls (lv_sub hl [1, 3, 4, 0] rfl)
  refine lv_icmp_le (tgt := 20) hx hb dL_mixes_13 (by decide) (fun c6 => ?_) (fun c6 => ?_)
  · have hle := (nI_leI (by omega) (by omega)).mp c6
    refine lv_iload_n hx hb dL_mixes_20 rfl (lv_at hl 3 rfl) ?_
    exact r21 g0 hle ls (lv_sub hl [2, 3, 1, 0] rfl)
  · refine lv_iload_n hx hb dL_mixes_16 rfl (lv_at hl 1 rfl) ?_
    refine lv_goto (tgt := 21) hx hb dL_mixes_17 (by decide) ?_
    exact r21 g (Nat.le_refl _) ls (lv_sub hl [2, 3, 1, 0] rfl)
