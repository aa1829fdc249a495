/-! the model's inner writers -/
theorem i14 (i k : Nat) : 12 + 14 * i + k < 82 ↔ 14 * i + k < 70 := by omega
theorem updM_2 {M : Nat → Nat → Int32} {k : Nat} {f g : Nat → Int32} : updM (updM M k f) k g = updM M k g := by
  funext j
  unfold updM
  by_cases q : j = k
  · rw [if_pos q, if_pos q]
  · rw [if_neg q, if_neg q, if_neg q]
theorem updM_self {M : Nat → Nat → Int32} {k : Nat} {f : Nat → Int32} (h : M k = f) : updM M k f = M := by
  funext j
  unfold updM
  by_cases q : j = k
  · rw [if_pos q, q, h]
  · rw [if_neg q]
theorem MdAt.row {G : GG} {w : Nat} {M : Nat → Nat → Int32} {f g : Nat → Int32} {H : Heap} (h : MdAt G w (updM M 0 f) H) (e : ∀ k, k < 82 → f k = g k) : MdAt G w (updM M 0 g) H :=
  ⟨h.1, iA_ext h.2.1 e, h.2.2⟩
theorem MdAt.self {G : GG} {w : Nat} {M : Nat → Nat → Int32} {H : Heap} (h : MdAt G w M H) : MdAt G w (updM M 0 (M 0)) H := by
  rw [updM_self rfl]
  exact h
theorem agF_u {r : Nat → Int32} {d v : Int32} {n : Nat} : agF (upd r 2 v) d n = upd (agF r d n) 2 v := by
  funext k
  unfold agF
  simp only [upd]
  by_cases q : k = 2
  · rw [if_pos q, if_pos q, if_neg (by omega)]
  · rw [if_neg q, if_neg q]

set_option maxHeartbeats 4000000 in
set_option maxRecDepth 100000 in
theorem k_X7_gets (l : Launch) (G : GG) (w : Nat) (M : Nat → Nat → Int32) (x g : Int32) (hw : WF (M 0)) : Met l yX7_gets (ws_ yX7_gets cX7_gets 4 (some .int)) (rm_ 2) (PC G [.ref w, .int x, .int g] (MdAt G w M)) (QI (fun v H => v = (shO (M 0) x g).1 ∧ MdAt G w (updM M 0 (shO (M 0) x g).2) H) (In w 13)) 0 0 (In w 13) := by
  refine met_q (by decide +kernel) (Nat.le_of_ble_eq_true rfl) ?_
  intro p e s m args below meth c Q hQ hx hb hr hT hown hml hlocks hnm hK hM ls hl
  have hl : lv_has ls 4 [(0, .ref w), (1, .int x), (2, .int g)] := hl
  have hS : va_S (In w 13) s.heap s.heap [] := va_S.rf
  have hn5 := hw.nl5
  refine lv_aload_n hx hb dX7_gets_0 rfl (lv_at hl 0 rfl) ?_
  refine lv_iload_n hx hb dX7_gets_1 rfl (lv_at hl 1 rfl) ?_
  refine got_i (run_i hx hb hml hown hT hK hl.1 (k_X7_isLeaf l G w M x hw) (cw_X7_101 hT ⟨Nat.le_of_ble_eq_true rfl, Nat.le_of_ble_eq_true rfl⟩) hM.1 rfl hM rfl rfl (Nat.le_of_ble_eq_true rfl) dX7_gets_2 ⟨Nat.zero_le _, Nat.zero_le _⟩) (fun v_1 hv_1 => ?_)
  subst hv_1
  refine lv_if_ne (tgt := 10) hx hb dX7_gets_5 (by decide) (fun c1 => ?_) (fun c1 => ?_)
  · have hl1 : lfP (M 0) x := bi_n0 c1
    refine lv_iload_n hx hb dX7_gets_10 rfl (lv_at hl 2 rfl) ?_
    refine lv_i2l hx hb dX7_gets_11 rfl ?_
    refine lv_iconst (v := 0) hx hb dX7_gets_12 (by decide) ?_
    refine lv_bipush (v := 20) hx hb dX7_gets_13 (by decide) ?_
    refine got_i (run_s hx hb hml hown hT hK hl.1 (k_X7_in l G g 0 20) (cw_X7_47 hT ⟨Nat.le_of_ble_eq_true rfl, Nat.le_of_ble_eq_true rfl⟩) trivial rfl rfl (Nat.le_of_ble_eq_true rfl) dX7_gets_15 ⟨Nat.zero_le _, Nat.zero_le _⟩) (fun v_2 hv_2 => ?_)
    subst hv_2
    refine lv_if_ne (tgt := 24) hx hb dX7_gets_18 (by decide) (fun c2 => ?_) (fun c2 => ?_)
    · have hg := bi_n0 c2
      obtain ⟨i, hi, rfl⟩ := lf_ix hw hl1
      refine lv_aload_n hx hb dX7_gets_24 rfl (lv_at hl 0 rfl) ?_
      refine got_i (run_i hx hb hml hown hT hK hl.1 (k_X7_shares l G w M hw) (cw_X7_73 hT ⟨Nat.le_of_ble_eq_true rfl, Nat.le_of_ble_eq_true rfl⟩) hM.1 rfl hM rfl rfl (Nat.le_of_ble_eq_true rfl) dX7_gets_25 ⟨Nat.zero_le _, Nat.zero_le _⟩) (fun v_3 hv_3 => ?_)
      subst hv_3
      refine lv_aload_n hx hb dX7_gets_28 rfl (lv_at hl 0 rfl) ?_
      refine lv_iload_n hx hb dX7_gets_29 rfl (lv_at hl 1 rfl) ?_
      refine lv_bipush (v := 13) hx hb dX7_gets_30 (by decide) ?_
      refine got_i (run_i hx hb hml hown hT hK hl.1 (k_X7_its l G w M i 13 (by omega)) (cw_X7_62 hT ⟨Nat.le_of_ble_eq_true rfl, Nat.le_of_ble_eq_true rfl⟩) hM.1 rfl hM rfl rfl (Nat.le_of_ble_eq_true rfl) dX7_gets_32 ⟨Nat.zero_le _, Nat.zero_le _⟩) (fun v_4 hv_4 => ?_)
      subst hv_4
      refine lv_isub hx hb dX7_gets_35 ?_
      refine lv_iload_n hx hb dX7_gets_36 rfl (lv_at hl 2 rfl) ?_
      refine lv_iadd hx hb dX7_gets_37 ?_
      refine lv_istore_n (lv' := [(3, .int (((shS (M 0)) - (M 0 (12 + 14 * i + 13))) + g)), (0, .ref w), (1, .int (nI i)), (2, .int g)]) hx hb dX7_gets_38 rfl hl (by decide) rfl (fun ls hl => ?_)
      refine lv_iload_n hx hb dX7_gets_39 rfl (lv_at hl 0 rfl) ?_
      refine lv_bipush (v := 20) hx hb dX7_gets_40 (by decide) ?_
      refine lv_icmp_le (tgt := 48) hx hb dX7_gets_42 (by decide) (fun c3 => ?_) (fun c3 => ?_)
      · refine lv_aload_n hx hb dX7_gets_48 rfl (lv_at hl 1 rfl) ?_
        refine lv_iload_n hx hb dX7_gets_49 rfl (lv_at hl 2 rfl) ?_
        refine lv_bipush (v := 13) hx hb dX7_gets_50 (by decide) ?_
        refine lv_iload_n hx hb dX7_gets_52 rfl (lv_at hl 3 rfl) ?_
        refine got_V (run_i hx hb hml hown hT hK hl.1 (k_X7_lay l G w M i 13 g (by omega)) (cw_X7_97 hT ⟨Nat.le_of_ble_eq_true rfl, Nat.le_of_ble_eq_true rfl⟩) hM.1 rfl hM rfl rfl (Nat.le_of_ble_eq_true rfl) dX7_gets_53 ⟨Nat.zero_le _, Nat.zero_le _⟩) hS (fun q hq => hq) (fun q hq => hq) (fun  H locs h1 hz hk hS => ?_)
        have hM := h1
        refine lv_iload_n hx hb dX7_gets_56 rfl (lv_at hl 0 rfl) ?_
        exact nd_I hQ hx hb hr hlocks dX7_gets_57 hS (by rw [shO_4 (by omega) hl1 hg (i32_le_nlt c3)]; exact ⟨rfl, hM⟩)
      · refine lv_bipush (v := (-5)) hx hb dX7_gets_45 (by decide) ?_
        exact nd_I hQ hx hb hr hlocks dX7_gets_47 hS (by rw [shO_3 (by omega) hl1 hg (i32_nle c3)]; exact ⟨rfl, hM.self⟩)
    · refine lv_bipush (v := (-2)) hx hb dX7_gets_21 (by decide) ?_
      exact nd_I hQ hx hb hr hlocks dX7_gets_23 hS (by rw [shO_2 hl1 (bi_e0 c2)]; exact ⟨rfl, hM.self⟩)
  · refine lv_iconst (v := (-1)) hx hb dX7_gets_8 (by decide) ?_
    exact nd_I hQ hx hb hr hlocks dX7_gets_9 hS (by rw [shO_1 (bi_e0 c1)]; exact ⟨rfl, hM.self⟩)

set_option maxHeartbeats 4000000 in
set_option maxRecDepth 100000 in
theorem k_X7_waits (l : Launch) (G : GG) (w : Nat) (M : Nat → Nat → Int32) (d : Int32) (hw : WF (M 0)) : Met l yX7_waits (ws_ yX7_waits cX7_waits 3 (some .int)) (rm_ 2) (PC G [.ref w, .int d] (MdAt G w M)) (QI (fun v H => v = (pdO (M 0) d).1 ∧ MdAt G w (updM M 0 (pdO (M 0) d).2) H) (In w 13)) 0 0 (In w 13) := by
  refine met_q (by decide +kernel) (Nat.le_of_ble_eq_true rfl) ?_
  intro p e s m args below meth c Q hQ hx hb hr hT hown hml hlocks hnm hK hM ls hl
  have hl : lv_has ls 3 [(0, .ref w), (1, .int d)] := hl
  have hS : va_S (In w 13) s.heap s.heap [] := va_S.rf
  have hn5 := hw.nl5
  have hnl := hw.nl
  refine lv_iload_n hx hb dX7_waits_0 rfl (lv_at hl 1 rfl) ?_
  refine lv_i2l hx hb dX7_waits_1 rfl ?_
  refine lv_iconst (v := 1) hx hb dX7_waits_2 (by decide) ?_
  refine lv_bipush (v := 99) hx hb dX7_waits_3 (by decide) ?_
  refine got_i (run_s hx hb hml hown hT hK hl.1 (k_X7_in l G d 1 99) (cw_X7_47 hT ⟨Nat.le_of_ble_eq_true rfl, Nat.le_of_ble_eq_true rfl⟩) trivial rfl rfl (Nat.le_of_ble_eq_true rfl) dX7_waits_5 ⟨Nat.zero_le _, Nat.zero_le _⟩) (fun v_1 hv_1 => ?_)
  subst hv_1
  refine lv_if_ne (tgt := 14) hx hb dX7_waits_8 (by decide) (fun c2 => ?_) (fun c2 => ?_)
  · have hg := bi_n0 c2
    refine lv_aload_n hx hb dX7_waits_14 rfl (lv_at hl 0 rfl) ?_
    refine rg (C := RX7) (T := TX7) (N := 16) (v := .ref (w + 1)) hx hb hT inX7 hown hK hM.1 rfl 0 (by decide) mf_X7_7 rfl dX7_waits_15 ?_
    refine lv_iconst (v := 2) hx hb dX7_waits_18 (by decide) ?_
    refine r_ialdS (y := M 0 2) hx hb hK hM.2.1 2 (by decide) (by omega) (Nat.le_of_ble_eq_true rfl) rfl dX7_waits_19 ?_
    refine lv_iload_n hx hb dX7_waits_20 rfl (lv_at hl 1 rfl) ?_
    refine lv_iadd hx hb dX7_waits_21 ?_
    refine lv_sipush (v := 9999) hx hb dX7_waits_22 (by decide) ?_
    refine lv_icmp_le (tgt := 31) hx hb dX7_waits_25 (by decide) (fun c3 => ?_) (fun c3 => ?_)
    · refine lv_aload_n hx hb dX7_waits_31 rfl (lv_at hl 0 rfl) ?_
      refine rg (C := RX7) (T := TX7) (N := 16) (v := .ref (w + 1)) hx hb hT inX7 hown hK hM.1 rfl 0 (by decide) mf_X7_7 rfl dX7_waits_32 ?_
      refine lv_iconst (v := 2) hx hb dX7_waits_35 (by decide) ?_
      refine lv_dup2_11 hx hb dX7_waits_36 rfl rfl ?_
      refine r_ialdS (y := M 0 2) hx hb hK hM.2.1 2 (by decide) (by omega) (Nat.le_of_ble_eq_true rfl) rfl dX7_waits_37 ?_
      refine lv_iload_n hx hb dX7_waits_38 rfl (lv_at hl 1 rfl) ?_
      refine lv_iadd hx hb dX7_waits_39 ?_
      refine r_iast hx hb hK hM.2.1 2 (by decide) (by omega) (Nat.le_of_ble_eq_true rfl) hS (show _ ∧ _ from ⟨by omega, by omega⟩) dX7_waits_40 (fun H locs h1 o hS => ?_)
      have hM := hM.a0 h1 o
      refine lv_iconst (v := 0) hx hb dX7_waits_41 (by decide) ?_
      refine lv_istore_n (lv' := [(2, .int 0), (0, .ref w), (1, .int d)]) hx hb dX7_waits_42 rfl hl (by decide) rfl (fun ls hl => ?_)
      have loop : ∀ (k : Nat) (i : Nat) (H : Heap) (locs : List Loc), va_S (In w 13) s.heap H locs → i ≤ nlv (M 0) → MdAt G w (updM M 0 (agF (upd (M 0) 2 (M 0 2 + d)) d i)) H → nlv (M 0) - i < k → ∀ ls : Array Slot, lv_has ls 3 [(2, .int (nI i)), (0, .ref w), (1, .int d)] → W p l e (rm_ 2) s m args below meth c H locs 0 0 Q (F0 m 43 ls []) := by
        intro k
        induction k with
        | zero => intro i H locs hS hi hM hm; exact absurd hm (Nat.not_lt_zero _)
        | succ k ih =>
          intro i H locs hS hi hM hm ls hl
          refine lv_iload_n hx hb dX7_waits_43 rfl (lv_at hl 0 rfl) ?_
          refine lv_aload_n hx hb dX7_waits_44 rfl (lv_at hl 1 rfl) ?_
          refine rg (C := RX7) (T := TX7) (N := 16) (v := .ref (w + 1)) hx hb hT inX7 hown hK hM.1 rfl 0 (by decide) mf_X7_7 rfl dX7_waits_45 ?_
          refine lv_iconst (v := 5) hx hb dX7_waits_48 (by decide) ?_
          refine r_ialdS (y := (agF (upd (M 0) 2 (M 0 2 + d)) d i) 5) hx hb hK hM.2.1 5 (by decide) (by omega) (Nat.le_of_ble_eq_true rfl) rfl dX7_waits_49 ?_
          refine lv_icmp_ge (tgt := 75) hx hb dX7_waits_50 (by decide) (fun cd => ?_) (fun cd => ?_)
          · have e5 : agF (upd (M 0) 2 (M 0 2 + d)) d i 5 = nI (nlv (M 0)) := agF_5.trans ((upd_ne (by omega)).trans hnl)
            have hge : nlv (M 0) ≤ i := by
              rw [e5, nI_leI (by omega) (by omega)] at cd
              exact cd
            have he : i = nlv (M 0) := by omega
            subst he
            refine lv_aload_n hx hb dX7_waits_75 rfl (lv_at hl 1 rfl) ?_
            refine rg (C := RX7) (T := TX7) (N := 16) (v := .ref (w + 1)) hx hb hT inX7 hown hK hM.1 rfl 0 (by decide) mf_X7_7 rfl dX7_waits_76 ?_
            refine lv_iconst (v := 2) hx hb dX7_waits_79 (by decide) ?_
            refine r_ialdS (y := (agF (upd (M 0) 2 (M 0 2 + d)) d (nlv (M 0))) 2) hx hb hK hM.2.1 2 (by decide) (by omega) (Nat.le_of_ble_eq_true rfl) rfl dX7_waits_80 ?_
            exact nd_I hQ hx hb hr hlocks dX7_waits_81 hS (by rw [pdO_3 hg (i32_le_nlt c3)]; refine ⟨(agF_2 (r := upd (M 0) 2 (M 0 2 + d))).trans upd_eq, ?_⟩; rw [agF_u] at hM; exact hM)
          · have e5 : agF (upd (M 0) 2 (M 0 2 + d)) d i 5 = nI (nlv (M 0)) := agF_5.trans ((upd_ne (by omega)).trans hnl)
            have hlt : i < nlv (M 0) := by
              rw [e5, nI_leI (by omega) (by omega)] at cd
              omega
            refine lv_aload_n hx hb dX7_waits_53 rfl (lv_at hl 1 rfl) ?_
            refine lv_iload_n hx hb dX7_waits_54 rfl (lv_at hl 0 rfl) ?_
            refine lv_bipush (v := 12) hx hb dX7_waits_55 (by decide) ?_
            refine lv_aload_n hx hb dX7_waits_57 rfl (lv_at hl 1 rfl) ?_
            refine lv_iload_n hx hb dX7_waits_58 rfl (lv_at hl 0 rfl) ?_
            refine lv_bipush (v := 12) hx hb dX7_waits_59 (by decide) ?_
            refine got_i (run_i hx hb hml hown hT hK hl.1 (k_X7_its l G w (updM M 0 (agF (upd (M 0) 2 (M 0 2 + d)) d i)) i 12 (by omega)) (cw_X7_62 hT ⟨Nat.le_of_ble_eq_true rfl, Nat.le_of_ble_eq_true rfl⟩) hM.1 rfl hM rfl rfl (Nat.le_of_ble_eq_true rfl) dX7_waits_61 ⟨Nat.zero_le _, Nat.zero_le _⟩) (fun v_2 hv_2 => ?_)
            subst hv_2
            refine lv_iload_n hx hb dX7_waits_64 rfl (lv_at hl 2 rfl) ?_
            refine lv_iadd hx hb dX7_waits_65 ?_
            refine got_V (run_i hx hb hml hown hT hK hl.1 (k_X7_lay l G w (updM M 0 (agF (upd (M 0) 2 (M 0 2 + d)) d i)) i 12 ((agF (upd (M 0) 2 (M 0 2 + d)) d i) (12 + 14 * i + 12) + d) (by omega)) (cw_X7_97 hT ⟨Nat.le_of_ble_eq_true rfl, Nat.le_of_ble_eq_true rfl⟩) hM.1 rfl hM rfl rfl (Nat.le_of_ble_eq_true rfl) dX7_waits_66 ⟨Nat.zero_le _, Nat.zero_le _⟩) hS (fun q hq => hq) (fun q hq => hq) (fun  H locs h1 hz hk hS => ?_)
            have hM := h1
            rw [updM_2, updM_eq, agF_s] at hM
            refine lv_iinc (v := nI (i + 1)) (lv' := [(2, .int (nI (i + 1))), (0, .ref w), (1, .int d)]) hx hb dX7_waits_69 hl (k := 0) rfl (nI_1 i) (by decide) rfl (fun ls hl => ?_)
            refine lv_goto (tgt := 43) hx hb dX7_waits_72 (by decide) ?_
            exact ih (i + 1) _ _ hS (by omega) hM (by omega) ls (lv_sub hl [0, 1, 2] rfl)
      exact loop (nlv (M 0) + 1) 0 _ _ hS (Nat.zero_le _) (by rw [agF_0]; exact hM) (by omega) ls (lv_sub hl [0, 1, 2] rfl)
    · refine lv_bipush (v := (-5)) hx hb dX7_waits_28 (by decide) ?_
      exact nd_I hQ hx hb hr hlocks dX7_waits_30 hS (by rw [pdO_2 hg (i32_nle c3)]; exact ⟨rfl, hM.self⟩)
  · refine lv_bipush (v := (-2)) hx hb dX7_waits_11 (by decide) ?_
    exact nd_I hQ hx hb hr hlocks dX7_waits_13 hS (by rw [pdO_1 (bi_e0 c2)]; exact ⟨rfl, hM.self⟩)

set_option maxHeartbeats 4000000 in
set_option maxRecDepth 100000 in
theorem k_X7_mixes (l : Launch) (G : GG) (w : Nat) (M : Nat → Nat → Int32) (g : Int32) (hw : WF (M 0)) : Met l yX7_mixes (ws_ yX7_mixes cX7_mixes 4 (some .int)) (rm_ 4) (PC G [.ref w, .int g] (MdAt G w M)) (QI (fun v H => v = (mxO (M 0) g).1 ∧ MdAt G w (updM M 0 (mxO (M 0) g).2) H) (In w 13)) 0 0 (In w 13) := by
  refine met_q (by decide +kernel) (Nat.le_of_ble_eq_true rfl) ?_
  intro p e s m args below meth c Q hQ hx hb hr hT hown hml hlocks hnm hK hM ls hl
  have hl : lv_has ls 4 [(0, .ref w), (1, .int g)] := hl
  have hS : va_S (In w 13) s.heap s.heap [] := va_S.rf
  have hn5 := hw.nl5
  have hnl := hw.nl
  refine lv_iload_n hx hb dX7_mixes_0 rfl (lv_at hl 1 rfl) ?_
  refine lv_i2l hx hb dX7_mixes_1 rfl ?_
  refine lv_iconst (v := 1) hx hb dX7_mixes_2 (by decide) ?_
  refine lv_sipush (v := 9999) hx hb dX7_mixes_3 (by decide) ?_
  refine got_i (run_s hx hb hml hown hT hK hl.1 (k_X7_in l G g 1 9999) (cw_X7_47 hT ⟨Nat.le_of_ble_eq_true rfl, Nat.le_of_ble_eq_true rfl⟩) trivial rfl rfl (Nat.le_of_ble_eq_true rfl) dX7_mixes_6 ⟨Nat.zero_le _, Nat.zero_le _⟩) (fun v_1 hv_1 => ?_)
  subst hv_1
  refine lv_if_ne (tgt := 15) hx hb dX7_mixes_9 (by decide) (fun c2 => ?_) (fun c2 => ?_)
  · have hg := bi_n0 c2
    refine lv_aload_n hx hb dX7_mixes_15 rfl (lv_at hl 0 rfl) ?_
    refine lv_iconst (v := 0) hx hb dX7_mixes_16 (by decide) ?_
    refine got_i (run_i hx hb hml hown hT hK hl.1 (k_X7_reason l G w M 0 hw) (cw_X7_107 hT ⟨Nat.le_of_ble_eq_true rfl, Nat.le_of_ble_eq_true rfl⟩) hM.1 rfl hM rfl rfl (Nat.le_of_ble_eq_true rfl) dX7_mixes_17 ⟨Nat.zero_le _, Nat.zero_le _⟩) (fun v_2 hv_2 => ?_)
    subst hv_2
    refine lv_if_ne (tgt := 31) hx hb dX7_mixes_20 (by decide) (fun c3 => ?_) (fun c3 => ?_)
    · refine lv_bipush (v := (-5)) hx hb dX7_mixes_31 (by decide) ?_
      exact nd_I hQ hx hb hr hlocks dX7_mixes_33 hS (by rw [mxO_2 hg (fun q => c3 q.1)]; exact ⟨rfl, hM.self⟩)
    · refine lv_aload_n hx hb dX7_mixes_23 rfl (lv_at hl 0 rfl) ?_
      refine lv_iload_n hx hb dX7_mixes_24 rfl (lv_at hl 1 rfl) ?_
      refine got_i (run_i hx hb hml hown hT hK hl.1 (k_X7_suffices l G w M g hw) (cw_X7_110 hT ⟨Nat.le_of_ble_eq_true rfl, Nat.le_of_ble_eq_true rfl⟩) hM.1 rfl hM rfl rfl (Nat.le_of_ble_eq_true rfl) dX7_mixes_25 ⟨Nat.zero_le _, Nat.zero_le _⟩) (fun v_3 hv_3 => ?_)
      subst hv_3
      refine lv_if_ne (tgt := 34) hx hb dX7_mixes_28 (by decide) (fun c4 => ?_) (fun c4 => ?_)
      · have h2 : whyF (M 0) 0 = 0 ∧ sfP (M 0) g := ⟨c3, bc_n0 c4⟩
        refine lv_aload_n hx hb dX7_mixes_34 rfl (lv_at hl 0 rfl) ?_
        refine got_i (run_i hx hb hml hown hT hK hl.1 (k_X7_sumOfPrices l G w M hw) (cw_X7_113 hT ⟨Nat.le_of_ble_eq_true rfl, Nat.le_of_ble_eq_true rfl⟩) hM.1 rfl hM rfl rfl (Nat.le_of_ble_eq_true rfl) dX7_mixes_35 ⟨Nat.zero_le _, Nat.zero_le _⟩) (fun v_4 hv_4 => ?_)
        subst hv_4
        refine lv_bipush (v := 20) hx hb dX7_mixes_38 (by decide) ?_
        refine lv_idiv hx hb dX7_mixes_40 (by decide) ?_
        refine lv_istore_n (lv' := [(2, .int ((prS (M 0)) / 20)), (0, .ref w), (1, .int g)]) hx hb dX7_mixes_41 rfl hl (by decide) rfl (fun ls hl => ?_)
        refine lv_iconst (v := 0) hx hb dX7_mixes_42 (by decide) ?_
        refine lv_istore_n (lv' := [(3, .int 0), (2, .int ((prS (M 0)) / 20)), (0, .ref w), (1, .int g)]) hx hb dX7_mixes_43 rfl hl (by decide) rfl (fun ls hl => ?_)
        have loop : ∀ (k : Nat) (i : Nat) (H : Heap) (locs : List Loc), va_S (In w 13) s.heap H locs → i ≤ nlv (M 0) → MdAt G w (updM M 0 (mgR (M 0) g i)) H → nlv (M 0) - i < k → ∀ ls : Array Slot, lv_has ls 4 [(3, .int (nI i)), (2, .int ((prS (M 0)) / 20)), (0, .ref w), (1, .int g)] → W p l e (rm_ 4) s m args below meth c H locs 0 0 Q (F0 m 44 ls []) := by
          intro k
          induction k with
          | zero => intro i H locs hS hi hM hm; exact absurd hm (Nat.not_lt_zero _)
          | succ k ih =>
            intro i H locs hS hi hM hm ls hl
            refine lv_iload_n hx hb dX7_mixes_44 rfl (lv_at hl 0 rfl) ?_
            refine lv_aload_n hx hb dX7_mixes_45 rfl (lv_at hl 2 rfl) ?_
            refine rg (C := RX7) (T := TX7) (N := 16) (v := .ref (w + 1)) hx hb hT inX7 hown hK hM.1 rfl 0 (by decide) mf_X7_7 rfl dX7_mixes_46 ?_
            refine lv_iconst (v := 5) hx hb dX7_mixes_49 (by decide) ?_
            refine r_ialdS (y := (mgR (M 0) g i) 5) hx hb hK hM.2.1 5 (by decide) (by omega) (Nat.le_of_ble_eq_true rfl) rfl dX7_mixes_50 ?_
            refine lv_icmp_ge (tgt := 81) hx hb dX7_mixes_51 (by decide) (fun cd => ?_) (fun cd => ?_)
            · have hge : nlv (M 0) ≤ i := by
                rw [mgR_5, hnl, nI_leI (by omega) (by omega)] at cd
                exact cd
              have he : i = nlv (M 0) := by omega
              subst he
              refine lv_aload_n hx hb dX7_mixes_81 rfl (lv_at hl 2 rfl) ?_
              refine rg (C := RX7) (T := TX7) (N := 16) (v := .ref (w + 1)) hx hb hT inX7 hown hK hM.1 rfl 0 (by decide) mf_X7_7 rfl dX7_mixes_82 ?_
              refine lv_iconst (v := 3) hx hb dX7_mixes_85 (by decide) ?_
              refine lv_dup2_11 hx hb dX7_mixes_86 rfl rfl ?_
              refine r_ialdS (y := (mgR (M 0) g (nlv (M 0))) 3) hx hb hK hM.2.1 3 (by decide) (by omega) (Nat.le_of_ble_eq_true rfl) rfl dX7_mixes_87 ?_
              refine lv_iload_n hx hb dX7_mixes_88 rfl (lv_at hl 3 rfl) ?_
              refine lv_iadd hx hb dX7_mixes_89 ?_
              refine r_iast hx hb hK hM.2.1 3 (by decide) (by omega) (Nat.le_of_ble_eq_true rfl) hS (show _ ∧ _ from ⟨by omega, by omega⟩) dX7_mixes_90 (fun H locs h1 o hS => ?_)
              have hM := hM.a0 h1 o
              rw [updM_2, updM_eq, show mgR (M 0) g (nlv (M 0)) 3 = M 0 3 from mgR_k (by omega)] at hM
              refine lv_aload_n hx hb dX7_mixes_91 rfl (lv_at hl 2 rfl) ?_
              refine rg (C := RX7) (T := TX7) (N := 16) (v := .ref (w + 1)) hx hb hT inX7 hown hK hM.1 rfl 0 (by decide) mf_X7_7 rfl dX7_mixes_92 ?_
              refine lv_iconst (v := 4) hx hb dX7_mixes_95 (by decide) ?_
              refine lv_dup2_11 hx hb dX7_mixes_96 rfl rfl ?_
              refine r_ialdS (y := (upd (mgR (M 0) g (nlv (M 0))) 3 (M 0 3 + g)) 4) hx hb hK hM.2.1 4 (by decide) (by omega) (Nat.le_of_ble_eq_true rfl) rfl dX7_mixes_97 ?_
              refine lv_iload_n hx hb dX7_mixes_98 rfl (lv_at hl 3 rfl) ?_
              refine lv_iload_n hx hb dX7_mixes_99 rfl (lv_at hl 1 rfl) ?_
              refine lv_imul hx hb dX7_mixes_100 ?_
              refine lv_bipush (v := 100) hx hb dX7_mixes_101 (by decide) ?_
              refine lv_idiv hx hb dX7_mixes_103 (by decide) ?_
              refine lv_iadd hx hb dX7_mixes_104 ?_
              refine r_iast hx hb hK hM.2.1 4 (by decide) (by omega) (Nat.le_of_ble_eq_true rfl) hS (show _ ∧ _ from ⟨by omega, by omega⟩) dX7_mixes_105 (fun H locs h1 o hS => ?_)
              have hM := hM.a0 h1 o
              rw [updM_2, updM_eq, show upd (mgR (M 0) g (nlv (M 0))) 3 (M 0 3 + g) 4 = M 0 4 from (upd_ne (by omega)).trans (mgR_k (by omega))] at hM
              refine lv_iload_n hx hb dX7_mixes_106 rfl (lv_at hl 1 rfl) ?_
              exact nd_I hQ hx hb hr hlocks dX7_mixes_107 hS (by rw [mxO_3 hg h2]; exact ⟨rfl, hM⟩)
            · have hlt : i < nlv (M 0) := by
                rw [mgR_5, hnl, nI_leI (by omega) (by omega)] at cd
                omega
              refine lv_aload_n hx hb dX7_mixes_54 rfl (lv_at hl 2 rfl) ?_
              refine lv_iload_n hx hb dX7_mixes_55 rfl (lv_at hl 0 rfl) ?_
              refine lv_bipush (v := 11) hx hb dX7_mixes_56 (by decide) ?_
              refine lv_aload_n hx hb dX7_mixes_58 rfl (lv_at hl 2 rfl) ?_
              refine lv_iload_n hx hb dX7_mixes_59 rfl (lv_at hl 0 rfl) ?_
              refine lv_bipush (v := 11) hx hb dX7_mixes_60 (by decide) ?_
              refine got_i (run_i hx hb hml hown hT hK hl.1 (k_X7_its l G w (updM M 0 (mgR (M 0) g i)) i 11 (by omega)) (cw_X7_62 hT ⟨Nat.le_of_ble_eq_true rfl, Nat.le_of_ble_eq_true rfl⟩) hM.1 rfl hM rfl rfl (Nat.le_of_ble_eq_true rfl) dX7_mixes_62 ⟨Nat.zero_le _, Nat.zero_le _⟩) (fun v_5 hv_5 => ?_)
              subst hv_5
              refine lv_aload_n hx hb dX7_mixes_65 rfl (lv_at hl 2 rfl) ?_
              refine lv_iload_n hx hb dX7_mixes_66 rfl (lv_at hl 0 rfl) ?_
              refine lv_iload_n hx hb dX7_mixes_67 rfl (lv_at hl 3 rfl) ?_
              refine got_i (run_i hx hb hml hown hT hK hl.1 (k_X7_needs l G w (updM M 0 (mgR (M 0) g i)) i g (by omega)) (cw_X7_104 hT ⟨Nat.le_of_ble_eq_true rfl, Nat.le_of_ble_eq_true rfl⟩) hM.1 rfl hM rfl rfl (Nat.le_of_ble_eq_true rfl) dX7_mixes_68 ⟨Nat.zero_le _, Nat.zero_le _⟩) (fun v_6 hv_6 => ?_)
              subst hv_6
              refine lv_isub hx hb dX7_mixes_71 ?_
              refine got_V (run_i hx hb hml hown hT hK hl.1 (k_X7_lay l G w (updM M 0 (mgR (M 0) g i)) i 11 ((mgR (M 0) g i) (12 + 14 * i + 11) - ndF (mgR (M 0) g i) i g) (by omega)) (cw_X7_97 hT ⟨Nat.le_of_ble_eq_true rfl, Nat.le_of_ble_eq_true rfl⟩) hM.1 rfl hM rfl rfl (Nat.le_of_ble_eq_true rfl) dX7_mixes_72 ⟨Nat.zero_le _, Nat.zero_le _⟩) hS (fun q hq => hq) (fun q hq => hq) (fun  H locs h1 hz hk hS => ?_)
              have hM := h1
              rw [updM_2, updM_eq, mgR_st, show ndF (mgR (M 0) g i) i g = ndF (M 0) i g by unfold ndF shF; rw [mgR_k (by omega)], mgR_s] at hM
              refine lv_iinc (v := nI (i + 1)) (lv' := [(3, .int (nI (i + 1))), (2, .int ((prS (M 0)) / 20)), (0, .ref w), (1, .int g)]) hx hb dX7_mixes_75 hl (k := 0) rfl (nI_1 i) (by decide) rfl (fun ls hl => ?_)
              refine lv_goto (tgt := 44) hx hb dX7_mixes_78 (by decide) ?_
              exact ih (i + 1) _ _ hS (by omega) hM (by omega) ls (lv_sub hl [0, 1, 2, 3] rfl)
        exact loop (nlv (M 0) + 1) 0 _ _ hS (Nat.zero_le _) (by rw [mgR_0]; exact hM.self) (by omega) ls (lv_sub hl [0, 1, 2, 3] rfl)
      · refine lv_bipush (v := (-5)) hx hb dX7_mixes_31 (by decide) ?_
        exact nd_I hQ hx hb hr hlocks dX7_mixes_33 hS (by rw [mxO_2 hg (fun q => bc_e0 c4 q.2)]; exact ⟨rfl, hM.self⟩)
  · refine lv_bipush (v := (-2)) hx hb dX7_mixes_12 (by decide) ?_
    exact nd_I hQ hx hb hr hlocks dX7_mixes_14 hS (by rw [mxO_1 (bi_e0 c2)]; exact ⟨rfl, hM.self⟩)


def zrR (r : Nat → Int32) (n t : Nat) : Nat → Int32 := fun k => if 12 + 14 * n ≤ k ∧ k < 12 + 14 * n + t then 0 else r k
theorem zrR_0 {r : Nat → Int32} {n : Nat} : zrR r n 0 = r := funext fun k => if_neg (by omega)
theorem zrR_s {r : Nat → Int32} {n t : Nat} : upd (zrR r n t) (12 + 14 * n + t) 0 = zrR r n (t + 1) := by
  funext k
  simp only [upd]
  unfold zrR
  by_cases q : k = 12 + 14 * n + t
  · rw [if_pos q, if_pos (by omega)]
  · rw [if_neg q]
    by_cases h : 12 + 14 * n ≤ k ∧ k < 12 + 14 * n + t
    · rw [if_pos h, if_pos (by omega)]
    · rw [if_neg h, if_neg (by omega)]
theorem zr_ad {r : Nat → Int32} {n : Nat} {p a b c st : Int32} (hr : r 5 = nI n) : upd (upd (upd (upd (upd (upd (zrR r n 14) (12 + 14 * n + 0) p) (12 + 14 * n + 8) a) (12 + 14 * n + 9) b) (12 + 14 * n + 10) c) (12 + 14 * n + 11) st) 5 (nI (n + 1)) = adR r n p a b c st := by
  funext k
  simp only [upd]
  unfold adR
  by_cases q5 : k = 5
  · rw [if_pos q5, if_pos q5]
  · rw [if_neg q5, if_neg q5]
    by_cases q : 12 + 14 * n ≤ k ∧ k < 26 + 14 * n
    · rw [if_pos q]
      obtain ⟨j, hj⟩ : ∃ j, j = k - (12 + 14 * n) := ⟨_, rfl⟩
      have ek : k = 12 + 14 * n + j := by omega
      rw [← hj]
      subst ek
      unfold lfN
      by_cases z11 : j = 11
      · subst z11; rw [if_pos rfl]; rfl
      rw [if_neg (by omega)]
      by_cases z10 : j = 10
      · subst z10; rw [if_pos rfl]; rfl
      rw [if_neg (by omega)]
      by_cases z9 : j = 9
      · subst z9; rw [if_pos rfl]; rfl
      rw [if_neg (by omega)]
      by_cases z8 : j = 8
      · subst z8; rw [if_pos rfl]; rfl
      rw [if_neg (by omega)]
      by_cases z0 : j = 0
      · subst z0; rw [if_pos rfl]; rfl
      rw [if_neg (by omega)]
      rw [if_neg z0, if_neg z8, if_neg z9, if_neg z10, if_neg z11]
      exact if_pos (by omega)
    · rw [if_neg q, if_neg (by omega), if_neg (by omega), if_neg (by omega), if_neg (by omega), if_neg (by omega)]
      exact if_neg (by omega)

set_option maxHeartbeats 4000000 in
set_option maxRecDepth 100000 in
theorem k_X7_comes (l : Launch) (G : GG) (w : Nat) (M : Nat → Nat → Int32) (x t0 t1 t2 st : Int32) (hw : WF (M 0)) : Met l yX7_comes (ws_ yX7_comes cX7_comes 8 (some .int)) (rm_ 1) (PC G [.ref w, .int x, .int t0, .int t1, .int t2, .int st] (MdAt G w M)) (QI (fun v H => v = (adO (M 0) x t0 t1 t2 st).1 ∧ MdAt G w (updM M 0 (adO (M 0) x t0 t1 t2 st).2) H) (In w 13)) 0 0 (In w 13) := by
  refine met_q (by decide +kernel) (Nat.le_of_ble_eq_true rfl) ?_
  intro p e s m args below meth c Q hQ hx hb hr hT hown hml hlocks hnm hK hM ls hl
  have hl : lv_has ls 8 [(0, .ref w), (1, .int x), (2, .int t0), (3, .int t1), (4, .int t2), (5, .int st)] := hl
  have hS : va_S (In w 13) s.heap s.heap [] := va_S.rf
  have hn5 := hw.nl5
  have hnl := hw.nl
  refine lv_iload_n hx hb dX7_comes_0 rfl (lv_at hl 1 rfl) ?_
  refine lv_i2l hx hb dX7_comes_1 rfl ?_
  refine lv_iconst (v := 0) hx hb dX7_comes_2 (by decide) ?_
  refine lv_sipush (v := 999) hx hb dX7_comes_3 (by decide) ?_
  refine got_i (run_s hx hb hml hown hT hK hl.1 (k_X7_in l G x 0 999) (cw_X7_47 hT ⟨Nat.le_of_ble_eq_true rfl, Nat.le_of_ble_eq_true rfl⟩) trivial rfl rfl (Nat.le_of_ble_eq_true rfl) dX7_comes_6 ⟨Nat.zero_le _, Nat.zero_le _⟩) (fun v_1 hv_1 => ?_)
  subst hv_1
  refine lv_if_eq (tgt := 59) hx hb dX7_comes_9 (by decide) (fun d4 => ?_) (fun d4 => ?_)
  · refine lv_bipush (v := (-2)) hx hb dX7_comes_59 (by decide) ?_
    exact nd_I hQ hx hb hr hlocks dX7_comes_61 hS (by rw [adO_1 (fun q => bi_e0 d4 q.2.1)]; exact ⟨rfl, hM.self⟩)
  · refine lv_iload_n hx hb dX7_comes_12 rfl (lv_at hl 2 rfl) ?_
    refine lv_i2l hx hb dX7_comes_13 rfl ?_
    refine lv_iconst (v := 0) hx hb dX7_comes_14 (by decide) ?_
    refine lv_bipush (v := 100) hx hb dX7_comes_15 (by decide) ?_
    refine got_i (run_s hx hb hml hown hT hK hl.1 (k_X7_in l G t0 0 100) (cw_X7_47 hT ⟨Nat.le_of_ble_eq_true rfl, Nat.le_of_ble_eq_true rfl⟩) trivial rfl rfl (Nat.le_of_ble_eq_true rfl) dX7_comes_17 ⟨Nat.zero_le _, Nat.zero_le _⟩) (fun v_2 hv_2 => ?_)
    subst hv_2
    refine lv_if_eq (tgt := 59) hx hb dX7_comes_20 (by decide) (fun d1 => ?_) (fun d1 => ?_)
    · refine lv_bipush (v := (-2)) hx hb dX7_comes_59 (by decide) ?_
      exact nd_I hQ hx hb hr hlocks dX7_comes_61 hS (by rw [adO_1 (fun q => bi_e0 d1 q.1.1)]; exact ⟨rfl, hM.self⟩)
    · refine lv_iload_n hx hb dX7_comes_23 rfl (lv_at hl 3 rfl) ?_
      refine lv_i2l hx hb dX7_comes_24 rfl ?_
      refine lv_iconst (v := 0) hx hb dX7_comes_25 (by decide) ?_
      refine lv_bipush (v := 100) hx hb dX7_comes_26 (by decide) ?_
      refine got_i (run_s hx hb hml hown hT hK hl.1 (k_X7_in l G t1 0 100) (cw_X7_47 hT ⟨Nat.le_of_ble_eq_true rfl, Nat.le_of_ble_eq_true rfl⟩) trivial rfl rfl (Nat.le_of_ble_eq_true rfl) dX7_comes_28 ⟨Nat.zero_le _, Nat.zero_le _⟩) (fun v_3 hv_3 => ?_)
      subst hv_3
      refine lv_if_eq (tgt := 59) hx hb dX7_comes_31 (by decide) (fun d2 => ?_) (fun d2 => ?_)
      · refine lv_bipush (v := (-2)) hx hb dX7_comes_59 (by decide) ?_
        exact nd_I hQ hx hb hr hlocks dX7_comes_61 hS (by rw [adO_1 (fun q => bi_e0 d2 q.1.2.1)]; exact ⟨rfl, hM.self⟩)
      · refine lv_iload hx hb dX7_comes_34 (lv_at hl 4 rfl) ?_
        refine lv_i2l hx hb dX7_comes_36 rfl ?_
        refine lv_iconst (v := 0) hx hb dX7_comes_37 (by decide) ?_
        refine lv_bipush (v := 100) hx hb dX7_comes_38 (by decide) ?_
        refine got_i (run_s hx hb hml hown hT hK hl.1 (k_X7_in l G t2 0 100) (cw_X7_47 hT ⟨Nat.le_of_ble_eq_true rfl, Nat.le_of_ble_eq_true rfl⟩) trivial rfl rfl (Nat.le_of_ble_eq_true rfl) dX7_comes_40 ⟨Nat.zero_le _, Nat.zero_le _⟩) (fun v_4 hv_4 => ?_)
        subst hv_4
        refine lv_if_eq (tgt := 59) hx hb dX7_comes_43 (by decide) (fun d3 => ?_) (fun d3 => ?_)
        · refine lv_bipush (v := (-2)) hx hb dX7_comes_59 (by decide) ?_
          exact nd_I hQ hx hb hr hlocks dX7_comes_61 hS (by rw [adO_1 (fun q => bi_e0 d3 q.1.2.2)]; exact ⟨rfl, hM.self⟩)
        · refine lv_iload hx hb dX7_comes_46 (lv_at hl 5 rfl) ?_
          refine lv_i2l hx hb dX7_comes_48 rfl ?_
          refine lv_iconst (v := 0) hx hb dX7_comes_49 (by decide) ?_
          refine lv_sipush (v := 9999) hx hb dX7_comes_50 (by decide) ?_
          refine got_i (run_s hx hb hml hown hT hK hl.1 (k_X7_in l G st 0 9999) (cw_X7_47 hT ⟨Nat.le_of_ble_eq_true rfl, Nat.le_of_ble_eq_true rfl⟩) trivial rfl rfl (Nat.le_of_ble_eq_true rfl) dX7_comes_53 ⟨Nat.zero_le _, Nat.zero_le _⟩) (fun v_5 hv_5 => ?_)
          subst hv_5
          refine lv_if_ne (tgt := 62) hx hb dX7_comes_56 (by decide) (fun d5 => ?_) (fun d5 => ?_)
          · have hok : lfOk x t0 t1 t2 st := ⟨⟨bi_n0 d1, bi_n0 d2, bi_n0 d3⟩, bi_n0 d4, bi_n0 d5⟩
            refine lv_aload_n hx hb dX7_comes_62 rfl (lv_at hl 0 rfl) ?_
            refine rg (C := RX7) (T := TX7) (N := 16) (v := .ref (w + 1)) hx hb hT inX7 hown hK hM.1 rfl 0 (by decide) mf_X7_7 rfl dX7_comes_63 ?_
            refine lv_iconst (v := 5) hx hb dX7_comes_66 (by decide) ?_
            refine r_ialdS (y := M 0 5) hx hb hK hM.2.1 5 (by decide) (by omega) (Nat.le_of_ble_eq_true rfl) rfl dX7_comes_67 ?_
            refine lv_istore (lv' := [(6, .int (M 0 5)), (0, .ref w), (1, .int x), (2, .int t0), (3, .int t1), (4, .int t2), (5, .int st)]) hx hb dX7_comes_68 hl (by decide) rfl (fun ls hl => ?_)
            refine lv_iload hx hb dX7_comes_70 (lv_at hl 0 rfl) ?_
            refine lv_iconst (v := 5) hx hb dX7_comes_72 (by decide) ?_
            refine lv_icmp_ne (tgt := 79) hx hb dX7_comes_73 (by decide) (fun d6 => ?_) (fun d6 => ?_)
            · have h5 : nlv (M 0) < 5 := by
                have h9 : ¬ nI (nlv (M 0)) = nI 5 := fun q => d6 (by rw [hnl, q]; rfl)
                rw [nI_eq (by omega) (by omega)] at h9
                omega
              obtain ⟨n, hn⟩ : ∃ n, n = nlv (M 0) := ⟨_, rfl⟩
              rw [← hn] at hn5 h5 hnl
              rw [hnl] at hl
              refine lv_iconst (v := 0) hx hb dX7_comes_79 (by decide) ?_
              refine lv_istore (lv' := [(7, .int 0), (6, .int (nI n)), (0, .ref w), (1, .int x), (2, .int t0), (3, .int t1), (4, .int t2), (5, .int st)]) hx hb dX7_comes_80 hl (by decide) rfl (fun ls hl => ?_)
              have loop : ∀ (k : Nat) (t : Nat) (H : Heap) (locs : List Loc), va_S (In w 13) s.heap H locs → t ≤ 14 → MdAt G w (updM M 0 (zrR (M 0) n t)) H → 14 - t < k → ∀ ls : Array Slot, lv_has ls 8 [(7, .int (nI t)), (6, .int (nI n)), (0, .ref w), (1, .int x), (2, .int t0), (3, .int t1), (4, .int t2), (5, .int st)] → W p l e (rm_ 1) s m args below meth c H locs 0 0 Q (F0 m 82 ls []) := by
                intro k
                induction k with
                | zero => intro t H locs hS ht hM hm; exact absurd hm (Nat.not_lt_zero _)
                | succ k ih =>
                  intro t H locs hS ht hM hm ls hl
                  refine lv_iload hx hb dX7_comes_82 (lv_at hl 0 rfl) ?_
                  refine lv_bipush (v := 14) hx hb dX7_comes_84 (by decide) ?_
                  refine lv_icmp_ge (tgt := 104) hx hb dX7_comes_86 (by decide) (fun cd => ?_) (fun cd => ?_)
                  · have e_t : t = 14 := by
                      have h9 : nI 14 ≤ nI t := cd
                      rw [nI_leI (by omega) (by omega)] at h9
                      omega
                    subst e_t
                    refine lv_aload_n hx hb dX7_comes_104 rfl (lv_at hl 2 rfl) ?_
                    refine lv_iload hx hb dX7_comes_105 (lv_at hl 1 rfl) ?_
                    refine lv_iconst (v := 0) hx hb dX7_comes_107 (by decide) ?_
                    refine lv_iload_n hx hb dX7_comes_108 rfl (lv_at hl 3 rfl) ?_
                    refine got_V (run_i hx hb hml hown hT hK hl.1 (k_X7_lay l G w (updM M 0 (zrR (M 0) n 14)) n 0 x (by omega)) (cw_X7_97 hT ⟨Nat.le_of_ble_eq_true rfl, Nat.le_of_ble_eq_true rfl⟩) hM.1 rfl hM rfl rfl (Nat.le_of_ble_eq_true rfl) dX7_comes_109 ⟨Nat.zero_le _, Nat.zero_le _⟩) hS (fun q hq => hq) (fun q hq => hq) (fun  H locs h1 hz hk hS => ?_)
                    have hM := h1
                    rw [updM_2, updM_eq] at hM
                    refine lv_aload_n hx hb dX7_comes_112 rfl (lv_at hl 2 rfl) ?_
                    refine lv_iload hx hb dX7_comes_113 (lv_at hl 1 rfl) ?_
                    refine lv_bipush (v := 8) hx hb dX7_comes_115 (by decide) ?_
                    refine lv_iload_n hx hb dX7_comes_117 rfl (lv_at hl 4 rfl) ?_
                    refine got_V (run_i hx hb hml hown hT hK hl.1 (k_X7_lay l G w (updM M 0 (upd (zrR (M 0) n 14) (12 + 14 * n + 0) x)) n 8 t0 (by omega)) (cw_X7_97 hT ⟨Nat.le_of_ble_eq_true rfl, Nat.le_of_ble_eq_true rfl⟩) hM.1 rfl hM rfl rfl (Nat.le_of_ble_eq_true rfl) dX7_comes_118 ⟨Nat.zero_le _, Nat.zero_le _⟩) hS (fun q hq => hq) (fun q hq => hq) (fun  H locs h1 hz hk hS => ?_)
                    have hM := h1
                    rw [updM_2, updM_eq] at hM
                    refine lv_aload_n hx hb dX7_comes_121 rfl (lv_at hl 2 rfl) ?_
                    refine lv_iload hx hb dX7_comes_122 (lv_at hl 1 rfl) ?_
                    refine lv_bipush (v := 9) hx hb dX7_comes_124 (by decide) ?_
                    refine lv_iload_n hx hb dX7_comes_126 rfl (lv_at hl 5 rfl) ?_
                    refine got_V (run_i hx hb hml hown hT hK hl.1 (k_X7_lay l G w (updM M 0 (upd (upd (zrR (M 0) n 14) (12 + 14 * n + 0) x) (12 + 14 * n + 8) t0)) n 9 t1 (by omega)) (cw_X7_97 hT ⟨Nat.le_of_ble_eq_true rfl, Nat.le_of_ble_eq_true rfl⟩) hM.1 rfl hM rfl rfl (Nat.le_of_ble_eq_true rfl) dX7_comes_127 ⟨Nat.zero_le _, Nat.zero_le _⟩) hS (fun q hq => hq) (fun q hq => hq) (fun  H locs h1 hz hk hS => ?_)
                    have hM := h1
                    rw [updM_2, updM_eq] at hM
                    refine lv_aload_n hx hb dX7_comes_130 rfl (lv_at hl 2 rfl) ?_
                    refine lv_iload hx hb dX7_comes_131 (lv_at hl 1 rfl) ?_
                    refine lv_bipush (v := 10) hx hb dX7_comes_133 (by decide) ?_
                    refine lv_iload hx hb dX7_comes_135 (lv_at hl 6 rfl) ?_
                    refine got_V (run_i hx hb hml hown hT hK hl.1 (k_X7_lay l G w (updM M 0 (upd (upd (upd (zrR (M 0) n 14) (12 + 14 * n + 0) x) (12 + 14 * n + 8) t0) (12 + 14 * n + 9) t1)) n 10 t2 (by omega)) (cw_X7_97 hT ⟨Nat.le_of_ble_eq_true rfl, Nat.le_of_ble_eq_true rfl⟩) hM.1 rfl hM rfl rfl (Nat.le_of_ble_eq_true rfl) dX7_comes_137 ⟨Nat.zero_le _, Nat.zero_le _⟩) hS (fun q hq => hq) (fun q hq => hq) (fun  H locs h1 hz hk hS => ?_)
                    have hM := h1
                    rw [updM_2, updM_eq] at hM
                    refine lv_aload_n hx hb dX7_comes_140 rfl (lv_at hl 2 rfl) ?_
                    refine lv_iload hx hb dX7_comes_141 (lv_at hl 1 rfl) ?_
                    refine lv_bipush (v := 11) hx hb dX7_comes_143 (by decide) ?_
                    refine lv_iload hx hb dX7_comes_145 (lv_at hl 7 rfl) ?_
                    refine got_V (run_i hx hb hml hown hT hK hl.1 (k_X7_lay l G w (updM M 0 (upd (upd (upd (upd (zrR (M 0) n 14) (12 + 14 * n + 0) x) (12 + 14 * n + 8) t0) (12 + 14 * n + 9) t1) (12 + 14 * n + 10) t2)) n 11 st (by omega)) (cw_X7_97 hT ⟨Nat.le_of_ble_eq_true rfl, Nat.le_of_ble_eq_true rfl⟩) hM.1 rfl hM rfl rfl (Nat.le_of_ble_eq_true rfl) dX7_comes_147 ⟨Nat.zero_le _, Nat.zero_le _⟩) hS (fun q hq => hq) (fun q hq => hq) (fun  H locs h1 hz hk hS => ?_)
                    have hM := h1
                    rw [updM_2, updM_eq] at hM
                    refine lv_aload_n hx hb dX7_comes_150 rfl (lv_at hl 2 rfl) ?_
                    refine rg (C := RX7) (T := TX7) (N := 16) (v := .ref (w + 1)) hx hb hT inX7 hown hK hM.1 rfl 0 (by decide) mf_X7_7 rfl dX7_comes_151 ?_
                    refine lv_iconst (v := 5) hx hb dX7_comes_154 (by decide) ?_
                    refine lv_dup2_11 hx hb dX7_comes_155 rfl rfl ?_
                    refine r_ialdS (y := (upd (upd (upd (upd (upd (zrR (M 0) n 14) (12 + 14 * n + 0) x) (12 + 14 * n + 8) t0) (12 + 14 * n + 9) t1) (12 + 14 * n + 10) t2) (12 + 14 * n + 11) st) 5) hx hb hK hM.2.1 5 (by decide) (by omega) (Nat.le_of_ble_eq_true rfl) rfl dX7_comes_156 ?_
                    refine lv_iconst (v := 1) hx hb dX7_comes_157 (by decide) ?_
                    refine lv_iadd hx hb dX7_comes_158 ?_
                    refine r_iast hx hb hK hM.2.1 5 (by decide) (by omega) (Nat.le_of_ble_eq_true rfl) hS (show _ ∧ _ from ⟨by omega, by omega⟩) dX7_comes_159 (fun H locs h1 o hS => ?_)
                    have hM := hM.a0 h1 o
                    rw [updM_2, updM_eq, show (upd (upd (upd (upd (upd (zrR (M 0) n 14) (12 + 14 * n + 0) x) (12 + 14 * n + 8) t0) (12 + 14 * n + 9) t1) (12 + 14 * n + 10) t2) (12 + 14 * n + 11) st) 5 = nI n from by rw [upd_ne (by omega), upd_ne (by omega), upd_ne (by omega), upd_ne (by omega), upd_ne (by omega), ← hnl]; exact if_neg (by omega), nI_1, zr_ad hnl] at hM
                    refine lv_iload hx hb dX7_comes_160 (lv_at hl 1 rfl) ?_
                    exact nd_I hQ hx hb hr hlocks dX7_comes_162 hS (by rw [adO_3 hok (by omega), ← hn]; exact ⟨rfl, hM⟩)
                  · have h_t : t < 14 := by
                      have h9 : ¬ nI 14 ≤ nI t := cd
                      rw [nI_leI (by omega) (by omega)] at h9
                      omega
                    refine lv_aload_n hx hb dX7_comes_89 rfl (lv_at hl 2 rfl) ?_
                    refine lv_iload hx hb dX7_comes_90 (lv_at hl 1 rfl) ?_
                    refine lv_iload hx hb dX7_comes_92 (lv_at hl 0 rfl) ?_
                    refine lv_iconst (v := 0) hx hb dX7_comes_94 (by decide) ?_
                    refine got_V (run_i hx hb hml hown hT hK hl.1 (k_X7_lay l G w (updM M 0 (zrR (M 0) n t)) n t 0 (by omega)) (cw_X7_97 hT ⟨Nat.le_of_ble_eq_true rfl, Nat.le_of_ble_eq_true rfl⟩) hM.1 rfl hM rfl rfl (Nat.le_of_ble_eq_true rfl) dX7_comes_95 ⟨Nat.zero_le _, Nat.zero_le _⟩) hS (fun q hq => hq) (fun q hq => hq) (fun  H locs h1 hz hk hS => ?_)
                    have hM := h1
                    rw [updM_2, updM_eq, zrR_s] at hM
                    refine lv_iinc (v := nI (t + 1)) (lv' := [(7, .int (nI (t + 1))), (6, .int (nI n)), (0, .ref w), (1, .int x), (2, .int t0), (3, .int t1), (4, .int t2), (5, .int st)]) hx hb dX7_comes_98 hl (k := 0) rfl (nI_1 t) (by decide) rfl (fun ls hl => ?_)
                    refine lv_goto (tgt := 82) hx hb dX7_comes_101 (by decide) ?_
                    exact ih (t + 1) _ _ hS (by omega) hM (by omega) ls (lv_sub hl [0, 1, 2, 3, 4, 5, 6, 7] rfl)
              exact loop 15 0 _ _ hS (by omega) (by rw [zrR_0]; exact hM.self) (by omega) ls (lv_sub hl [0, 1, 2, 3, 4, 5, 6, 7] rfl)
            · have h5 : 5 ≤ nlv (M 0) := by
                have h9 : nI (nlv (M 0)) = nI 5 := by rw [← hnl]; exact d6
                rw [nI_eq (by omega) (by omega)] at h9
                omega
              refine lv_bipush (v := (-4)) hx hb dX7_comes_76 (by decide) ?_
              exact nd_I hQ hx hb hr hlocks dX7_comes_78 hS (by rw [adO_2 hok h5]; exact ⟨rfl, hM.self⟩)
          · refine lv_bipush (v := (-2)) hx hb dX7_comes_59 (by decide) ?_
            exact nd_I hQ hx hb hr hlocks dX7_comes_61 hS (by rw [adO_1 (fun q => bi_e0 d5 q.2.2)]; exact ⟨rfl, hM.self⟩)
