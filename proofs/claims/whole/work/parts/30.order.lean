/-! one order: its parts, read one after the other; then what it does -/
noncomputable def rdP (T : Nat → Int32) (n : Nat) : List Int32 → Nat → Nat → (Nat → Int32) → Bool × Nat × (Nat → Int32)
  | [], u0, _, N => (true, u0, N)
  | y :: ys, u0, j, N => @ite _ (y = 35) (Classical.propDecidable _) (@ite _ (isD T n u0) (Classical.propDecidable _) (rdP T n ys (nmF T n 3 (dg T u0) (u0 + 1)).2 (j + 1) (upd N j (nI (nmF T n 3 (dg T u0) (u0 + 1)).1))) (false, u0, N))
      (@ite _ (y = 37) (Classical.propDecidable _) (@ite _ (isD T n u0) (Classical.propDecidable _) (rdP T n ys (u0 + 1) (j + 1) (upd N j (nI (dg T u0)))) (false, u0, N))
      (@ite _ (u0 < n ∧ T u0 = y) (Classical.propDecidable _) (rdP T n ys (u0 + 1) j N) (false, u0, N)))
section RDP
variable {T N : Nat → Int32} {n u0 j : Nat} {ys : List Int32} {y : Int32}
theorem rdP_ny (h : isD T n u0) : rdP T n (35 :: ys) u0 j N = rdP T n ys (nmF T n 3 (dg T u0) (u0 + 1)).2 (j + 1) (upd N j (nI (nmF T n 3 (dg T u0) (u0 + 1)).1)) := (if_pos rfl).trans (if_pos h)
theorem rdP_nn (h : ¬ isD T n u0) : rdP T n (35 :: ys) u0 j N = (false, u0, N) := (if_pos rfl).trans (if_neg h)
theorem rdP_dy (h : isD T n u0) : rdP T n (37 :: ys) u0 j N = rdP T n ys (u0 + 1) (j + 1) (upd N j (nI (dg T u0))) := (if_neg (show ¬ (37 : Int32) = 35 by decide)).trans ((if_pos rfl).trans (if_pos h))
theorem rdP_dn (h : ¬ isD T n u0) : rdP T n (37 :: ys) u0 j N = (false, u0, N) := (if_neg (show ¬ (37 : Int32) = 35 by decide)).trans ((if_pos rfl).trans (if_neg h))
theorem rdP_sy (h1 : ¬ y = 35) (h2 : ¬ y = 37) (h : u0 < n ∧ T u0 = y) : rdP T n (y :: ys) u0 j N = rdP T n ys (u0 + 1) j N := (if_neg h1).trans ((if_neg h2).trans (if_pos h))
theorem rdP_sn (h1 : ¬ y = 35) (h2 : ¬ y = 37) (h : ¬ (u0 < n ∧ T u0 = y)) : rdP T n (y :: ys) u0 j N = (false, u0, N) := (if_neg h1).trans ((if_neg h2).trans (if_neg h))
end RDP
noncomputable def rdO (T : Nat → Int32) (n u0 : Nat) (N : Nat → Int32) : Bool × Nat × (Nat → Int32) :=
  if sgn T n u0 = 43 then rdP T n [35, 58, 35, 44, 35, 44, 35, 42, 35] (u0 + 1) 0 N else if sgn T n u0 = 115 then rdP T n [37, 61, 35] (u0 + 1) 0 N else if sgn T n u0 = 100 ∨ sgn T n u0 = 109 then rdP T n [35] (u0 + 1) 0 N else (false, u0, N)
noncomputable def opO (r : Nat → Int32) (y : Int32) (N : Nat → Int32) : Op := if y = 43 then adO r (N 0) (N 1) (N 2) (N 3) (N 4) else if y = 115 then shO r (N 0) (N 1) else if y = 100 then pdO r (N 0) else mxO r (N 0)
theorem RdM_0 {M : Nat → Nat → Int32} {u0 : Nat} {N r : Nat → Int32} : updM (RdM M u0 N) 0 r = RdM (updM M 0 r) u0 N := by
  unfold RdM updM
  funext j
  by_cases h0 : j = 0
  · rw [if_pos h0, if_neg (by omega), if_neg (by omega), if_pos h0]
  · rw [if_neg h0]
    by_cases h10 : j = 10
    · rw [if_pos h10, if_pos h10]
    · rw [if_neg h10, if_neg h10]
      by_cases h8 : j = 8
      · rw [if_pos h8, if_pos h8]
      · rw [if_neg h8, if_neg h8, if_neg h0]
theorem sgn_in {T : Nat → Int32} {n u0 : Nat} (h : u0 < n) : sgn T n u0 = T u0 := if_pos h
theorem sgn_out {T : Nat → Int32} {n u0 : Nat} (h : ¬ u0 < n) : sgn T n u0 = 0 := if_neg h
theorem sgn_y {T : Nat → Int32} {n u0 : Nat} {y : Int32} (hy : ¬ y = 0) (h : sgn T n u0 = y) : u0 < n := by
  by_cases q : u0 < n
  · exact q
  · rw [sgn_out q] at h; exact absurd h.symm hy

set_option maxHeartbeats 4000000 in
set_option maxRecDepth 100000 in
theorem k_X7_order0 (l : Launch) (G : GG) (w : Nat) (M : Nat → Nat → Int32) (n u0 : Nat) (N : Nat → Int32) (hn : n ≤ 80) (hp : u0 ≤ n) (h7 : M 7 0 = nI n) : Met l yX7_order (ws_ yX7_order cX7_order 4 (some .int)) (rm_ 5) (PC G [.ref w, .int 0] (MdAt G w (RdM M u0 N))) (QI (fun v H => v = (if (rdO (M 6) n u0 N).1 then 0 else -3) ∧ MdAt G w (RdM M (rdO (M 6) n u0 N).2.1 (rdO (M 6) n u0 N).2.2) H) (In w 13)) 0 0 (In w 13) := by
  refine met_q (by decide +kernel) (Nat.le_of_ble_eq_true rfl) ?_
  intro p e s m args below meth c Q hQ hx hb hr hT hown hml hlocks hnm hK hM ls hl
  have hl : lv_has ls 4 [(0, .ref w), (1, .int 0)] := hl
  have hS : va_S (In w 13) s.heap s.heap [] := va_S.rf
  refine lv_aload_n hx hb dX7_order_0 rfl (lv_at hl 0 rfl) ?_
  refine rg (C := RX7) (T := TX7) (N := 16) (v := .int (nI u0)) hx hb hT inX7 hown hK hM.1 rfl 8 (by decide) mf_X7_158 rfl dX7_order_1 ?_
  refine lv_aload_n hx hb dX7_order_4 rfl (lv_at hl 0 rfl) ?_
  refine rg (C := RX7) (T := TX7) (N := 16) (v := .int (M 7 0)) hx hb hT inX7 hown hK hM.1 rfl 7 (by decide) mf_X7_139 rfl dX7_order_5 ?_
  rw [h7]
  refine lv_icmp_ge (tgt := 23) hx hb dX7_order_8 (by decide) (fun c1 => ?_) (fun c1 => ?_)
  · have hlt : ¬ u0 < n := by have := (nI_leI (by omega) (by omega)).mp c1; omega
    refine lv_iconst (v := 0) hx hb dX7_order_23 (by decide) ?_
    rw [show (0 : Int32) = sgn (M 6) n u0 from (sgn_out hlt).symm]
    refine lv_istore_n (lv' := [(2, .int (sgn (M 6) n u0)), (0, .ref w), (1, .int 0)]) hx hb dX7_order_24 rfl hl (by decide) rfl (fun ls hl => ?_)
    refine lv_iload_n hx hb dX7_order_25 rfl (lv_at hl 0 rfl) ?_
    refine lv_bipush (v := 43) hx hb dX7_order_26 (by decide) ?_
    refine lv_icmp_eq (tgt := 52) hx hb dX7_order_28 (by decide) (fun e1 => ?_) (fun e1 => ?_)
    · have hkd : sgn (M 6) n u0 = 43 := e1
      have hlt0 : u0 < n := sgn_y (by decide) hkd
      refine lv_aload_n hx hb dX7_order_52 rfl (lv_at hl 1 rfl) ?_
      refine lv_dup hx hb dX7_order_53 rfl ?_
      refine rg (C := RX7) (T := TX7) (N := 16) (v := .int (nI u0)) hx hb hT inX7 hown hK hM.1 rfl 8 (by decide) mf_X7_158 rfl dX7_order_54 ?_
      refine lv_iconst (v := 1) hx hb dX7_order_57 (by decide) ?_
      refine lv_iadd hx hb dX7_order_58 ?_
      rw [nI_1]
      refine rp (C := RX7) (T := TX7) (N := 16) (v := .int (nI (u0 + 1))) (ty := .int) hx hb hT inX7 tyX7 tyX7_ok nmX7 hown hK hM.1 rfl 8 (by decide) mf_X7_158 rfl (by decide +kernel) rfl rfl (Nat.le_of_ble_eq_true rfl) hS (show _ ∧ _ from ⟨by omega, by omega⟩) dX7_order_59 (fun H locs h1 o hS => ?_)
      have hM := hM.s8 h1 o
      rw [RdM_p] at hM
      have hs : rdO (M 6) n u0 N = rdP (M 6) n [35, 58, 35, 44, 35, 44, 35, 42, 35] (u0 + 1) 0 N := if_pos hkd
      refine lv_iload_n hx hb dX7_order_62 rfl (lv_at hl 0 rfl) ?_
      refine lv_bipush (v := 43) hx hb dX7_order_63 (by decide) ?_
      refine lv_icmp_ne (tgt := 153) hx hb dX7_order_65 (by decide) (fun ea => ?_) (fun ea => ?_)
      · exact absurd hkd ea
      · refine lv_aload_n hx hb dX7_order_68 rfl (lv_at hl 1 rfl) ?_
        refine lv_iconst (v := 0) hx hb dX7_order_69 (by decide) ?_
        refine got_I (run_i hx hb hml hown hT hK hl.1 (k_X7_number l G w M n (u0 + 1) N 0 hn (by omega) h7 (by omega)) (cw_X7_165 hT ⟨Nat.le_of_ble_eq_true rfl, Nat.le_of_ble_eq_true rfl⟩) hM.1 rfl hM rfl rfl (Nat.le_of_ble_eq_true rfl) dX7_order_70 ⟨Nat.zero_le _, Nat.zero_le _⟩) hS (fun q hq => hq) (fun q hq => hq) (fun v_2 H locs h1 hz hk hS => ?_)
        rcases h1 with ⟨hv, hD, hM⟩ | ⟨hv, hD, hM⟩
        · subst hv
          have hDn := hD.1
          have hle9 := nmF_le (T := M 6) 3 (dg (M 6) (u0 + 1)) ((u0 + 1) + 1) hDn
          obtain ⟨Uq_1, eUq_1⟩ : ∃ z1, z1 = (nmF (M 6) n 3 (dg (M 6) (u0 + 1)) ((u0 + 1) + 1)).2 := ⟨_, rfl⟩
          obtain ⟨Wq_1, eWq_1⟩ : ∃ z1, z1 = (nmF (M 6) n 3 (dg (M 6) (u0 + 1)) ((u0 + 1) + 1)).1 := ⟨_, rfl⟩
          rw [rdP_ny hD, ← eUq_1, ← eWq_1] at hs
          rw [← eUq_1, ← eWq_1] at hM
          rw [← eUq_1] at hle9
          refine lv_if_eq (tgt := 148) hx hb dX7_order_73 (by decide) (fun cf => ?_) (fun cf => ?_)
          · exact absurd cf (by decide)
          · refine lv_aload_n hx hb dX7_order_76 rfl (lv_at hl 1 rfl) ?_
            refine lv_bipush (v := 58) hx hb dX7_order_77 (by decide) ?_
            refine got_I (run_i hx hb hml hown hT hK hl.1 (k_X7_sign l G w M n Uq_1 (upd N 0 (nI Wq_1)) 58 hn (by omega) h7) (cw_X7_168 hT ⟨Nat.le_of_ble_eq_true rfl, Nat.le_of_ble_eq_true rfl⟩) hM.1 rfl hM rfl rfl (Nat.le_of_ble_eq_true rfl) dX7_order_79 ⟨Nat.zero_le _, Nat.zero_le _⟩) hS (fun q hq => hq) (fun q hq => hq) (fun v_4 H locs h1 hz hk hS => ?_)
            rcases h1 with ⟨hv, hD, hM⟩ | ⟨hv, hD, hM⟩
            · subst hv
              have hDn := hD.1
              rw [rdP_sy (by decide) (by decide) hD] at hs
              refine lv_if_eq (tgt := 148) hx hb dX7_order_82 (by decide) (fun cf => ?_) (fun cf => ?_)
              · exact absurd cf (by decide)
              · refine lv_aload_n hx hb dX7_order_85 rfl (lv_at hl 1 rfl) ?_
                refine lv_iconst (v := 1) hx hb dX7_order_86 (by decide) ?_
                refine got_I (run_i hx hb hml hown hT hK hl.1 (k_X7_number l G w M n (Uq_1 + 1) (upd N 0 (nI Wq_1)) 1 hn (by omega) h7 (by omega)) (cw_X7_165 hT ⟨Nat.le_of_ble_eq_true rfl, Nat.le_of_ble_eq_true rfl⟩) hM.1 rfl hM rfl rfl (Nat.le_of_ble_eq_true rfl) dX7_order_87 ⟨Nat.zero_le _, Nat.zero_le _⟩) hS (fun q hq => hq) (fun q hq => hq) (fun v_6 H locs h1 hz hk hS => ?_)
                rcases h1 with ⟨hv, hD, hM⟩ | ⟨hv, hD, hM⟩
                · subst hv
                  have hDn := hD.1
                  have hle9 := nmF_le (T := M 6) 3 (dg (M 6) (Uq_1 + 1)) ((Uq_1 + 1) + 1) hDn
                  obtain ⟨Uq_5, eUq_5⟩ : ∃ z1, z1 = (nmF (M 6) n 3 (dg (M 6) (Uq_1 + 1)) ((Uq_1 + 1) + 1)).2 := ⟨_, rfl⟩
                  obtain ⟨Wq_5, eWq_5⟩ : ∃ z1, z1 = (nmF (M 6) n 3 (dg (M 6) (Uq_1 + 1)) ((Uq_1 + 1) + 1)).1 := ⟨_, rfl⟩
                  rw [rdP_ny hD, ← eUq_5, ← eWq_5] at hs
                  rw [← eUq_5, ← eWq_5] at hM
                  rw [← eUq_5] at hle9
                  refine lv_if_eq (tgt := 148) hx hb dX7_order_90 (by decide) (fun cf => ?_) (fun cf => ?_)
                  · exact absurd cf (by decide)
                  · refine lv_aload_n hx hb dX7_order_93 rfl (lv_at hl 1 rfl) ?_
                    refine lv_bipush (v := 44) hx hb dX7_order_94 (by decide) ?_
                    refine got_I (run_i hx hb hml hown hT hK hl.1 (k_X7_sign l G w M n Uq_5 (upd (upd N 0 (nI Wq_1)) 1 (nI Wq_5)) 44 hn (by omega) h7) (cw_X7_168 hT ⟨Nat.le_of_ble_eq_true rfl, Nat.le_of_ble_eq_true rfl⟩) hM.1 rfl hM rfl rfl (Nat.le_of_ble_eq_true rfl) dX7_order_96 ⟨Nat.zero_le _, Nat.zero_le _⟩) hS (fun q hq => hq) (fun q hq => hq) (fun v_8 H locs h1 hz hk hS => ?_)
                    rcases h1 with ⟨hv, hD, hM⟩ | ⟨hv, hD, hM⟩
                    · subst hv
                      have hDn := hD.1
                      rw [rdP_sy (by decide) (by decide) hD] at hs
                      refine lv_if_eq (tgt := 148) hx hb dX7_order_99 (by decide) (fun cf => ?_) (fun cf => ?_)
                      · exact absurd cf (by decide)
                      · refine lv_aload_n hx hb dX7_order_102 rfl (lv_at hl 1 rfl) ?_
                        refine lv_iconst (v := 2) hx hb dX7_order_103 (by decide) ?_
                        refine got_I (run_i hx hb hml hown hT hK hl.1 (k_X7_number l G w M n (Uq_5 + 1) (upd (upd N 0 (nI Wq_1)) 1 (nI Wq_5)) 2 hn (by omega) h7 (by omega)) (cw_X7_165 hT ⟨Nat.le_of_ble_eq_true rfl, Nat.le_of_ble_eq_true rfl⟩) hM.1 rfl hM rfl rfl (Nat.le_of_ble_eq_true rfl) dX7_order_104 ⟨Nat.zero_le _, Nat.zero_le _⟩) hS (fun q hq => hq) (fun q hq => hq) (fun v_10 H locs h1 hz hk hS => ?_)
                        rcases h1 with ⟨hv, hD, hM⟩ | ⟨hv, hD, hM⟩
                        · subst hv
                          have hDn := hD.1
                          have hle9 := nmF_le (T := M 6) 3 (dg (M 6) (Uq_5 + 1)) ((Uq_5 + 1) + 1) hDn
                          obtain ⟨Uq_9, eUq_9⟩ : ∃ z1, z1 = (nmF (M 6) n 3 (dg (M 6) (Uq_5 + 1)) ((Uq_5 + 1) + 1)).2 := ⟨_, rfl⟩
                          obtain ⟨Wq_9, eWq_9⟩ : ∃ z1, z1 = (nmF (M 6) n 3 (dg (M 6) (Uq_5 + 1)) ((Uq_5 + 1) + 1)).1 := ⟨_, rfl⟩
                          rw [rdP_ny hD, ← eUq_9, ← eWq_9] at hs
                          rw [← eUq_9, ← eWq_9] at hM
                          rw [← eUq_9] at hle9
                          refine lv_if_eq (tgt := 148) hx hb dX7_order_107 (by decide) (fun cf => ?_) (fun cf => ?_)
                          · exact absurd cf (by decide)
                          · refine lv_aload_n hx hb dX7_order_110 rfl (lv_at hl 1 rfl) ?_
                            refine lv_bipush (v := 44) hx hb dX7_order_111 (by decide) ?_
                            refine got_I (run_i hx hb hml hown hT hK hl.1 (k_X7_sign l G w M n Uq_9 (upd (upd (upd N 0 (nI Wq_1)) 1 (nI Wq_5)) 2 (nI Wq_9)) 44 hn (by omega) h7) (cw_X7_168 hT ⟨Nat.le_of_ble_eq_true rfl, Nat.le_of_ble_eq_true rfl⟩) hM.1 rfl hM rfl rfl (Nat.le_of_ble_eq_true rfl) dX7_order_113 ⟨Nat.zero_le _, Nat.zero_le _⟩) hS (fun q hq => hq) (fun q hq => hq) (fun v_12 H locs h1 hz hk hS => ?_)
                            rcases h1 with ⟨hv, hD, hM⟩ | ⟨hv, hD, hM⟩
                            · subst hv
                              have hDn := hD.1
                              rw [rdP_sy (by decide) (by decide) hD] at hs
                              refine lv_if_eq (tgt := 148) hx hb dX7_order_116 (by decide) (fun cf => ?_) (fun cf => ?_)
                              · exact absurd cf (by decide)
                              · refine lv_aload_n hx hb dX7_order_119 rfl (lv_at hl 1 rfl) ?_
                                refine lv_iconst (v := 3) hx hb dX7_order_120 (by decide) ?_
                                refine got_I (run_i hx hb hml hown hT hK hl.1 (k_X7_number l G w M n (Uq_9 + 1) (upd (upd (upd N 0 (nI Wq_1)) 1 (nI Wq_5)) 2 (nI Wq_9)) 3 hn (by omega) h7 (by omega)) (cw_X7_165 hT ⟨Nat.le_of_ble_eq_true rfl, Nat.le_of_ble_eq_true rfl⟩) hM.1 rfl hM rfl rfl (Nat.le_of_ble_eq_true rfl) dX7_order_121 ⟨Nat.zero_le _, Nat.zero_le _⟩) hS (fun q hq => hq) (fun q hq => hq) (fun v_14 H locs h1 hz hk hS => ?_)
                                rcases h1 with ⟨hv, hD, hM⟩ | ⟨hv, hD, hM⟩
                                · subst hv
                                  have hDn := hD.1
                                  have hle9 := nmF_le (T := M 6) 3 (dg (M 6) (Uq_9 + 1)) ((Uq_9 + 1) + 1) hDn
                                  obtain ⟨Uq_13, eUq_13⟩ : ∃ z1, z1 = (nmF (M 6) n 3 (dg (M 6) (Uq_9 + 1)) ((Uq_9 + 1) + 1)).2 := ⟨_, rfl⟩
                                  obtain ⟨Wq_13, eWq_13⟩ : ∃ z1, z1 = (nmF (M 6) n 3 (dg (M 6) (Uq_9 + 1)) ((Uq_9 + 1) + 1)).1 := ⟨_, rfl⟩
                                  rw [rdP_ny hD, ← eUq_13, ← eWq_13] at hs
                                  rw [← eUq_13, ← eWq_13] at hM
                                  rw [← eUq_13] at hle9
                                  refine lv_if_eq (tgt := 148) hx hb dX7_order_124 (by decide) (fun cf => ?_) (fun cf => ?_)
                                  · exact absurd cf (by decide)
                                  · refine lv_aload_n hx hb dX7_order_127 rfl (lv_at hl 1 rfl) ?_
                                    refine lv_bipush (v := 42) hx hb dX7_order_128 (by decide) ?_
                                    refine got_I (run_i hx hb hml hown hT hK hl.1 (k_X7_sign l G w M n Uq_13 (upd (upd (upd (upd N 0 (nI Wq_1)) 1 (nI Wq_5)) 2 (nI Wq_9)) 3 (nI Wq_13)) 42 hn (by omega) h7) (cw_X7_168 hT ⟨Nat.le_of_ble_eq_true rfl, Nat.le_of_ble_eq_true rfl⟩) hM.1 rfl hM rfl rfl (Nat.le_of_ble_eq_true rfl) dX7_order_130 ⟨Nat.zero_le _, Nat.zero_le _⟩) hS (fun q hq => hq) (fun q hq => hq) (fun v_16 H locs h1 hz hk hS => ?_)
                                    rcases h1 with ⟨hv, hD, hM⟩ | ⟨hv, hD, hM⟩
                                    · subst hv
                                      have hDn := hD.1
                                      rw [rdP_sy (by decide) (by decide) hD] at hs
                                      refine lv_if_eq (tgt := 148) hx hb dX7_order_133 (by decide) (fun cf => ?_) (fun cf => ?_)
                                      · exact absurd cf (by decide)
                                      · refine lv_aload_n hx hb dX7_order_136 rfl (lv_at hl 1 rfl) ?_
                                        refine lv_iconst (v := 4) hx hb dX7_order_137 (by decide) ?_
                                        refine got_I (run_i hx hb hml hown hT hK hl.1 (k_X7_number l G w M n (Uq_13 + 1) (upd (upd (upd (upd N 0 (nI Wq_1)) 1 (nI Wq_5)) 2 (nI Wq_9)) 3 (nI Wq_13)) 4 hn (by omega) h7 (by omega)) (cw_X7_165 hT ⟨Nat.le_of_ble_eq_true rfl, Nat.le_of_ble_eq_true rfl⟩) hM.1 rfl hM rfl rfl (Nat.le_of_ble_eq_true rfl) dX7_order_138 ⟨Nat.zero_le _, Nat.zero_le _⟩) hS (fun q hq => hq) (fun q hq => hq) (fun v_18 H locs h1 hz hk hS => ?_)
                                        rcases h1 with ⟨hv, hD, hM⟩ | ⟨hv, hD, hM⟩
                                        · subst hv
                                          have hDn := hD.1
                                          have hle9 := nmF_le (T := M 6) 3 (dg (M 6) (Uq_13 + 1)) ((Uq_13 + 1) + 1) hDn
                                          obtain ⟨Uq_17, eUq_17⟩ : ∃ z1, z1 = (nmF (M 6) n 3 (dg (M 6) (Uq_13 + 1)) ((Uq_13 + 1) + 1)).2 := ⟨_, rfl⟩
                                          obtain ⟨Wq_17, eWq_17⟩ : ∃ z1, z1 = (nmF (M 6) n 3 (dg (M 6) (Uq_13 + 1)) ((Uq_13 + 1) + 1)).1 := ⟨_, rfl⟩
                                          rw [rdP_ny hD, ← eUq_17, ← eWq_17] at hs
                                          rw [← eUq_17, ← eWq_17] at hM
                                          rw [← eUq_17] at hle9
                                          refine lv_if_eq (tgt := 148) hx hb dX7_order_141 (by decide) (fun cf => ?_) (fun cf => ?_)
                                          · exact absurd cf (by decide)
                                          · have hs : rdO (M 6) n u0 N = (true, Uq_17, upd (upd (upd (upd (upd N 0 (nI Wq_1)) 1 (nI Wq_5)) 2 (nI Wq_9)) 3 (nI Wq_13)) 4 (nI Wq_17)) := hs
                                            refine lv_iconst (v := 1) hx hb dX7_order_144 (by decide) ?_
                                            refine lv_goto (tgt := 149) hx hb dX7_order_145 (by decide) ?_
                                            refine lv_istore_n (lv' := [(3, .int 1), (2, .int (sgn (M 6) n u0)), (0, .ref w), (1, .int 0)]) hx hb dX7_order_149 rfl hl (by decide) rfl (fun ls hl => ?_)
                                            refine lv_goto (tgt := 198) hx hb dX7_order_150 (by decide) ?_
                                            refine lv_iload_n hx hb dX7_order_198 rfl (lv_at hl 0 rfl) ?_
                                            refine lv_if_ne (tgt := 205) hx hb dX7_order_199 (by decide) (fun cg => ?_) (fun cg => ?_)
                                            · refine lv_iload_n hx hb dX7_order_205 rfl (lv_at hl 3 rfl) ?_
                                              refine lv_if_ne (tgt := 211) hx hb dX7_order_206 (by decide) (fun ch => ?_) (fun ch => ?_)
                                              · exact absurd rfl ch
                                              · refine lv_iconst (v := 0) hx hb dX7_order_209 (by decide) ?_
                                                exact nd_I hQ hx hb hr hlocks dX7_order_210 hS (⟨by rw [hs]; rfl, by rw [hs]; exact hM⟩)
                                            · exact absurd cg (by decide)
                                        · subst hv
                                          rw [rdP_nn hD] at hs
                                          refine lv_if_eq (tgt := 148) hx hb dX7_order_141 (by decide) (fun cf => ?_) (fun cf => ?_)
                                          · refine lv_iconst (v := 0) hx hb dX7_order_148 (by decide) ?_
                                            refine lv_istore_n (lv' := [(3, .int 0), (2, .int (sgn (M 6) n u0)), (0, .ref w), (1, .int 0)]) hx hb dX7_order_149 rfl hl (by decide) rfl (fun ls hl => ?_)
                                            refine lv_goto (tgt := 198) hx hb dX7_order_150 (by decide) ?_
                                            refine lv_iload_n hx hb dX7_order_198 rfl (lv_at hl 0 rfl) ?_
                                            refine lv_if_ne (tgt := 205) hx hb dX7_order_199 (by decide) (fun cz => ?_) (fun cz => ?_)
                                            · exact absurd rfl cz
                                            · refine lv_bipush (v := (-3)) hx hb dX7_order_202 (by decide) ?_
                                              exact nd_I hQ hx hb hr hlocks dX7_order_204 hS (⟨by rw [hs]; rfl, by rw [hs]; exact hM⟩)
                                          · exact absurd rfl cf
                                    · subst hv
                                      rw [rdP_sn (by decide) (by decide) hD] at hs
                                      refine lv_if_eq (tgt := 148) hx hb dX7_order_133 (by decide) (fun cf => ?_) (fun cf => ?_)
                                      · refine lv_iconst (v := 0) hx hb dX7_order_148 (by decide) ?_
                                        refine lv_istore_n (lv' := [(3, .int 0), (2, .int (sgn (M 6) n u0)), (0, .ref w), (1, .int 0)]) hx hb dX7_order_149 rfl hl (by decide) rfl (fun ls hl => ?_)
                                        refine lv_goto (tgt := 198) hx hb dX7_order_150 (by decide) ?_
                                        refine lv_iload_n hx hb dX7_order_198 rfl (lv_at hl 0 rfl) ?_
                                        refine lv_if_ne (tgt := 205) hx hb dX7_order_199 (by decide) (fun cz => ?_) (fun cz => ?_)
                                        · exact absurd rfl cz
                                        · refine lv_bipush (v := (-3)) hx hb dX7_order_202 (by decide) ?_
                                          exact nd_I hQ hx hb hr hlocks dX7_order_204 hS (⟨by rw [hs]; rfl, by rw [hs]; exact hM⟩)
                                      · exact absurd rfl cf
                                · subst hv
                                  rw [rdP_nn hD] at hs
                                  refine lv_if_eq (tgt := 148) hx hb dX7_order_124 (by decide) (fun cf => ?_) (fun cf => ?_)
                                  · refine lv_iconst (v := 0) hx hb dX7_order_148 (by decide) ?_
                                    refine lv_istore_n (lv' := [(3, .int 0), (2, .int (sgn (M 6) n u0)), (0, .ref w), (1, .int 0)]) hx hb dX7_order_149 rfl hl (by decide) rfl (fun ls hl => ?_)
                                    refine lv_goto (tgt := 198) hx hb dX7_order_150 (by decide) ?_
                                    refine lv_iload_n hx hb dX7_order_198 rfl (lv_at hl 0 rfl) ?_
                                    refine lv_if_ne (tgt := 205) hx hb dX7_order_199 (by decide) (fun cz => ?_) (fun cz => ?_)
                                    · exact absurd rfl cz
                                    · refine lv_bipush (v := (-3)) hx hb dX7_order_202 (by decide) ?_
                                      exact nd_I hQ hx hb hr hlocks dX7_order_204 hS (⟨by rw [hs]; rfl, by rw [hs]; exact hM⟩)
                                  · exact absurd rfl cf
                            · subst hv
                              rw [rdP_sn (by decide) (by decide) hD] at hs
                              refine lv_if_eq (tgt := 148) hx hb dX7_order_116 (by decide) (fun cf => ?_) (fun cf => ?_)
                              · refine lv_iconst (v := 0) hx hb dX7_order_148 (by decide) ?_
                                refine lv_istore_n (lv' := [(3, .int 0), (2, .int (sgn (M 6) n u0)), (0, .ref w), (1, .int 0)]) hx hb dX7_order_149 rfl hl (by decide) rfl (fun ls hl => ?_)
                                refine lv_goto (tgt := 198) hx hb dX7_order_150 (by decide) ?_
                                refine lv_iload_n hx hb dX7_order_198 rfl (lv_at hl 0 rfl) ?_
                                refine lv_if_ne (tgt := 205) hx hb dX7_order_199 (by decide) (fun cz => ?_) (fun cz => ?_)
                                · exact absurd rfl cz
                                · refine lv_bipush (v := (-3)) hx hb dX7_order_202 (by decide) ?_
                                  exact nd_I hQ hx hb hr hlocks dX7_order_204 hS (⟨by rw [hs]; rfl, by rw [hs]; exact hM⟩)
                              · exact absurd rfl cf
                        · subst hv
                          rw [rdP_nn hD] at hs
                          refine lv_if_eq (tgt := 148) hx hb dX7_order_107 (by decide) (fun cf => ?_) (fun cf => ?_)
                          · refine lv_iconst (v := 0) hx hb dX7_order_148 (by decide) ?_
                            refine lv_istore_n (lv' := [(3, .int 0), (2, .int (sgn (M 6) n u0)), (0, .ref w), (1, .int 0)]) hx hb dX7_order_149 rfl hl (by decide) rfl (fun ls hl => ?_)
                            refine lv_goto (tgt := 198) hx hb dX7_order_150 (by decide) ?_
                            refine lv_iload_n hx hb dX7_order_198 rfl (lv_at hl 0 rfl) ?_
                            refine lv_if_ne (tgt := 205) hx hb dX7_order_199 (by decide) (fun cz => ?_) (fun cz => ?_)
                            · exact absurd rfl cz
                            · refine lv_bipush (v := (-3)) hx hb dX7_order_202 (by decide) ?_
                              exact nd_I hQ hx hb hr hlocks dX7_order_204 hS (⟨by rw [hs]; rfl, by rw [hs]; exact hM⟩)
                          · exact absurd rfl cf
                    · subst hv
                      rw [rdP_sn (by decide) (by decide) hD] at hs
                      refine lv_if_eq (tgt := 148) hx hb dX7_order_99 (by decide) (fun cf => ?_) (fun cf => ?_)
                      · refine lv_iconst (v := 0) hx hb dX7_order_148 (by decide) ?_
                        refine lv_istore_n (lv' := [(3, .int 0), (2, .int (sgn (M 6) n u0)), (0, .ref w), (1, .int 0)]) hx hb dX7_order_149 rfl hl (by decide) rfl (fun ls hl => ?_)
                        refine lv_goto (tgt := 198) hx hb dX7_order_150 (by decide) ?_
                        refine lv_iload_n hx hb dX7_order_198 rfl (lv_at hl 0 rfl) ?_
                        refine lv_if_ne (tgt := 205) hx hb dX7_order_199 (by decide) (fun cz => ?_) (fun cz => ?_)
                        · exact absurd rfl cz
                        · refine lv_bipush (v := (-3)) hx hb dX7_order_202 (by decide) ?_
                          exact nd_I hQ hx hb hr hlocks dX7_order_204 hS (⟨by rw [hs]; rfl, by rw [hs]; exact hM⟩)
                      · exact absurd rfl cf
                · subst hv
                  rw [rdP_nn hD] at hs
                  refine lv_if_eq (tgt := 148) hx hb dX7_order_90 (by decide) (fun cf => ?_) (fun cf => ?_)
                  · refine lv_iconst (v := 0) hx hb dX7_order_148 (by decide) ?_
                    refine lv_istore_n (lv' := [(3, .int 0), (2, .int (sgn (M 6) n u0)), (0, .ref w), (1, .int 0)]) hx hb dX7_order_149 rfl hl (by decide) rfl (fun ls hl => ?_)
                    refine lv_goto (tgt := 198) hx hb dX7_order_150 (by decide) ?_
                    refine lv_iload_n hx hb dX7_order_198 rfl (lv_at hl 0 rfl) ?_
                    refine lv_if_ne (tgt := 205) hx hb dX7_order_199 (by decide) (fun cz => ?_) (fun cz => ?_)
                    · exact absurd rfl cz
                    · refine lv_bipush (v := (-3)) hx hb dX7_order_202 (by decide) ?_
                      exact nd_I hQ hx hb hr hlocks dX7_order_204 hS (⟨by rw [hs]; rfl, by rw [hs]; exact hM⟩)
                  · exact absurd rfl cf
            · subst hv
              rw [rdP_sn (by decide) (by decide) hD] at hs
              refine lv_if_eq (tgt := 148) hx hb dX7_order_82 (by decide) (fun cf => ?_) (fun cf => ?_)
              · refine lv_iconst (v := 0) hx hb dX7_order_148 (by decide) ?_
                refine lv_istore_n (lv' := [(3, .int 0), (2, .int (sgn (M 6) n u0)), (0, .ref w), (1, .int 0)]) hx hb dX7_order_149 rfl hl (by decide) rfl (fun ls hl => ?_)
                refine lv_goto (tgt := 198) hx hb dX7_order_150 (by decide) ?_
                refine lv_iload_n hx hb dX7_order_198 rfl (lv_at hl 0 rfl) ?_
                refine lv_if_ne (tgt := 205) hx hb dX7_order_199 (by decide) (fun cz => ?_) (fun cz => ?_)
                · exact absurd rfl cz
                · refine lv_bipush (v := (-3)) hx hb dX7_order_202 (by decide) ?_
                  exact nd_I hQ hx hb hr hlocks dX7_order_204 hS (⟨by rw [hs]; rfl, by rw [hs]; exact hM⟩)
              · exact absurd rfl cf
        · subst hv
          rw [rdP_nn hD] at hs
          refine lv_if_eq (tgt := 148) hx hb dX7_order_73 (by decide) (fun cf => ?_) (fun cf => ?_)
          · refine lv_iconst (v := 0) hx hb dX7_order_148 (by decide) ?_
            refine lv_istore_n (lv' := [(3, .int 0), (2, .int (sgn (M 6) n u0)), (0, .ref w), (1, .int 0)]) hx hb dX7_order_149 rfl hl (by decide) rfl (fun ls hl => ?_)
            refine lv_goto (tgt := 198) hx hb dX7_order_150 (by decide) ?_
            refine lv_iload_n hx hb dX7_order_198 rfl (lv_at hl 0 rfl) ?_
            refine lv_if_ne (tgt := 205) hx hb dX7_order_199 (by decide) (fun cz => ?_) (fun cz => ?_)
            · exact absurd rfl cz
            · refine lv_bipush (v := (-3)) hx hb dX7_order_202 (by decide) ?_
              exact nd_I hQ hx hb hr hlocks dX7_order_204 hS (⟨by rw [hs]; rfl, by rw [hs]; exact hM⟩)
          · exact absurd rfl cf
    · refine lv_iload_n hx hb dX7_order_31 rfl (lv_at hl 0 rfl) ?_
      refine lv_bipush (v := 115) hx hb dX7_order_32 (by decide) ?_
      refine lv_icmp_eq (tgt := 52) hx hb dX7_order_34 (by decide) (fun e2 => ?_) (fun e2 => ?_)
      · have hkd : sgn (M 6) n u0 = 115 := e2
        have hlt0 : u0 < n := sgn_y (by decide) hkd
        refine lv_aload_n hx hb dX7_order_52 rfl (lv_at hl 1 rfl) ?_
        refine lv_dup hx hb dX7_order_53 rfl ?_
        refine rg (C := RX7) (T := TX7) (N := 16) (v := .int (nI u0)) hx hb hT inX7 hown hK hM.1 rfl 8 (by decide) mf_X7_158 rfl dX7_order_54 ?_
        refine lv_iconst (v := 1) hx hb dX7_order_57 (by decide) ?_
        refine lv_iadd hx hb dX7_order_58 ?_
        rw [nI_1]
        refine rp (C := RX7) (T := TX7) (N := 16) (v := .int (nI (u0 + 1))) (ty := .int) hx hb hT inX7 tyX7 tyX7_ok nmX7 hown hK hM.1 rfl 8 (by decide) mf_X7_158 rfl (by decide +kernel) rfl rfl (Nat.le_of_ble_eq_true rfl) hS (show _ ∧ _ from ⟨by omega, by omega⟩) dX7_order_59 (fun H locs h1 o hS => ?_)
        have hM := hM.s8 h1 o
        rw [RdM_p] at hM
        have hs : rdO (M 6) n u0 N = rdP (M 6) n [37, 61, 35] (u0 + 1) 0 N := (if_neg (by rw [hkd]; decide)).trans (if_pos hkd)
        refine lv_iload_n hx hb dX7_order_62 rfl (lv_at hl 0 rfl) ?_
        refine lv_bipush (v := 43) hx hb dX7_order_63 (by decide) ?_
        refine lv_icmp_ne (tgt := 153) hx hb dX7_order_65 (by decide) (fun ea => ?_) (fun ea => ?_)
        · refine lv_iload_n hx hb dX7_order_153 rfl (lv_at hl 0 rfl) ?_
          refine lv_bipush (v := 115) hx hb dX7_order_154 (by decide) ?_
          refine lv_icmp_ne (tgt := 192) hx hb dX7_order_156 (by decide) (fun eb => ?_) (fun eb => ?_)
          · exact absurd hkd eb
          · refine lv_aload_n hx hb dX7_order_159 rfl (lv_at hl 1 rfl) ?_
            refine got_I (run_i hx hb hml hown hT hK hl.1 (k_X7_digit l G w M n (u0 + 1) N hn (by omega) h7) (cw_X7_171 hT ⟨Nat.le_of_ble_eq_true rfl, Nat.le_of_ble_eq_true rfl⟩) hM.1 rfl hM rfl rfl (Nat.le_of_ble_eq_true rfl) dX7_order_160 ⟨Nat.zero_le _, Nat.zero_le _⟩) hS (fun q hq => hq) (fun q hq => hq) (fun v_20 H locs h1 hz hk hS => ?_)
            rcases h1 with ⟨hv, hD, hM⟩ | ⟨hv, hD, hM⟩
            · subst hv
              have hDn := hD.1
              rw [rdP_dy hD] at hs
              refine lv_if_eq (tgt := 187) hx hb dX7_order_163 (by decide) (fun cf => ?_) (fun cf => ?_)
              · exact absurd cf (by decide)
              · refine lv_aload_n hx hb dX7_order_166 rfl (lv_at hl 1 rfl) ?_
                refine lv_bipush (v := 61) hx hb dX7_order_167 (by decide) ?_
                refine got_I (run_i hx hb hml hown hT hK hl.1 (k_X7_sign l G w M n (u0 + 1 + 1) (upd N 0 (nI (dg (M 6) (u0 + 1)))) 61 hn (by omega) h7) (cw_X7_168 hT ⟨Nat.le_of_ble_eq_true rfl, Nat.le_of_ble_eq_true rfl⟩) hM.1 rfl hM rfl rfl (Nat.le_of_ble_eq_true rfl) dX7_order_169 ⟨Nat.zero_le _, Nat.zero_le _⟩) hS (fun q hq => hq) (fun q hq => hq) (fun v_22 H locs h1 hz hk hS => ?_)
                rcases h1 with ⟨hv, hD, hM⟩ | ⟨hv, hD, hM⟩
                · subst hv
                  have hDn := hD.1
                  rw [rdP_sy (by decide) (by decide) hD] at hs
                  refine lv_if_eq (tgt := 187) hx hb dX7_order_172 (by decide) (fun cf => ?_) (fun cf => ?_)
                  · exact absurd cf (by decide)
                  · refine lv_aload_n hx hb dX7_order_175 rfl (lv_at hl 1 rfl) ?_
                    refine lv_iconst (v := 1) hx hb dX7_order_176 (by decide) ?_
                    refine got_I (run_i hx hb hml hown hT hK hl.1 (k_X7_number l G w M n (u0 + 1 + 1 + 1) (upd N 0 (nI (dg (M 6) (u0 + 1)))) 1 hn (by omega) h7 (by omega)) (cw_X7_165 hT ⟨Nat.le_of_ble_eq_true rfl, Nat.le_of_ble_eq_true rfl⟩) hM.1 rfl hM rfl rfl (Nat.le_of_ble_eq_true rfl) dX7_order_177 ⟨Nat.zero_le _, Nat.zero_le _⟩) hS (fun q hq => hq) (fun q hq => hq) (fun v_24 H locs h1 hz hk hS => ?_)
                    rcases h1 with ⟨hv, hD, hM⟩ | ⟨hv, hD, hM⟩
                    · subst hv
                      have hDn := hD.1
                      have hle9 := nmF_le (T := M 6) 3 (dg (M 6) (u0 + 1 + 1 + 1)) ((u0 + 1 + 1 + 1) + 1) hDn
                      obtain ⟨Uq_23, eUq_23⟩ : ∃ z1, z1 = (nmF (M 6) n 3 (dg (M 6) (u0 + 1 + 1 + 1)) ((u0 + 1 + 1 + 1) + 1)).2 := ⟨_, rfl⟩
                      obtain ⟨Wq_23, eWq_23⟩ : ∃ z1, z1 = (nmF (M 6) n 3 (dg (M 6) (u0 + 1 + 1 + 1)) ((u0 + 1 + 1 + 1) + 1)).1 := ⟨_, rfl⟩
                      rw [rdP_ny hD, ← eUq_23, ← eWq_23] at hs
                      rw [← eUq_23, ← eWq_23] at hM
                      rw [← eUq_23] at hle9
                      refine lv_if_eq (tgt := 187) hx hb dX7_order_180 (by decide) (fun cf => ?_) (fun cf => ?_)
                      · exact absurd cf (by decide)
                      · have hs : rdO (M 6) n u0 N = (true, Uq_23, upd (upd N 0 (nI (dg (M 6) (u0 + 1)))) 1 (nI Wq_23)) := hs
                        refine lv_iconst (v := 1) hx hb dX7_order_183 (by decide) ?_
                        refine lv_goto (tgt := 188) hx hb dX7_order_184 (by decide) ?_
                        refine lv_istore_n (lv' := [(3, .int 1), (2, .int (sgn (M 6) n u0)), (0, .ref w), (1, .int 0)]) hx hb dX7_order_188 rfl hl (by decide) rfl (fun ls hl => ?_)
                        refine lv_goto (tgt := 198) hx hb dX7_order_189 (by decide) ?_
                        refine lv_iload_n hx hb dX7_order_198 rfl (lv_at hl 0 rfl) ?_
                        refine lv_if_ne (tgt := 205) hx hb dX7_order_199 (by decide) (fun cg => ?_) (fun cg => ?_)
                        · refine lv_iload_n hx hb dX7_order_205 rfl (lv_at hl 3 rfl) ?_
                          refine lv_if_ne (tgt := 211) hx hb dX7_order_206 (by decide) (fun ch => ?_) (fun ch => ?_)
                          · exact absurd rfl ch
                          · refine lv_iconst (v := 0) hx hb dX7_order_209 (by decide) ?_
                            exact nd_I hQ hx hb hr hlocks dX7_order_210 hS (⟨by rw [hs]; rfl, by rw [hs]; exact hM⟩)
                        · exact absurd cg (by decide)
                    · subst hv
                      rw [rdP_nn hD] at hs
                      refine lv_if_eq (tgt := 187) hx hb dX7_order_180 (by decide) (fun cf => ?_) (fun cf => ?_)
                      · refine lv_iconst (v := 0) hx hb dX7_order_187 (by decide) ?_
                        refine lv_istore_n (lv' := [(3, .int 0), (2, .int (sgn (M 6) n u0)), (0, .ref w), (1, .int 0)]) hx hb dX7_order_188 rfl hl (by decide) rfl (fun ls hl => ?_)
                        refine lv_goto (tgt := 198) hx hb dX7_order_189 (by decide) ?_
                        refine lv_iload_n hx hb dX7_order_198 rfl (lv_at hl 0 rfl) ?_
                        refine lv_if_ne (tgt := 205) hx hb dX7_order_199 (by decide) (fun cz => ?_) (fun cz => ?_)
                        · exact absurd rfl cz
                        · refine lv_bipush (v := (-3)) hx hb dX7_order_202 (by decide) ?_
                          exact nd_I hQ hx hb hr hlocks dX7_order_204 hS (⟨by rw [hs]; rfl, by rw [hs]; exact hM⟩)
                      · exact absurd rfl cf
                · subst hv
                  rw [rdP_sn (by decide) (by decide) hD] at hs
                  refine lv_if_eq (tgt := 187) hx hb dX7_order_172 (by decide) (fun cf => ?_) (fun cf => ?_)
                  · refine lv_iconst (v := 0) hx hb dX7_order_187 (by decide) ?_
                    refine lv_istore_n (lv' := [(3, .int 0), (2, .int (sgn (M 6) n u0)), (0, .ref w), (1, .int 0)]) hx hb dX7_order_188 rfl hl (by decide) rfl (fun ls hl => ?_)
                    refine lv_goto (tgt := 198) hx hb dX7_order_189 (by decide) ?_
                    refine lv_iload_n hx hb dX7_order_198 rfl (lv_at hl 0 rfl) ?_
                    refine lv_if_ne (tgt := 205) hx hb dX7_order_199 (by decide) (fun cz => ?_) (fun cz => ?_)
                    · exact absurd rfl cz
                    · refine lv_bipush (v := (-3)) hx hb dX7_order_202 (by decide) ?_
                      exact nd_I hQ hx hb hr hlocks dX7_order_204 hS (⟨by rw [hs]; rfl, by rw [hs]; exact hM⟩)
                  · exact absurd rfl cf
            · subst hv
              rw [rdP_dn hD] at hs
              refine lv_if_eq (tgt := 187) hx hb dX7_order_163 (by decide) (fun cf => ?_) (fun cf => ?_)
              · refine lv_iconst (v := 0) hx hb dX7_order_187 (by decide) ?_
                refine lv_istore_n (lv' := [(3, .int 0), (2, .int (sgn (M 6) n u0)), (0, .ref w), (1, .int 0)]) hx hb dX7_order_188 rfl hl (by decide) rfl (fun ls hl => ?_)
                refine lv_goto (tgt := 198) hx hb dX7_order_189 (by decide) ?_
                refine lv_iload_n hx hb dX7_order_198 rfl (lv_at hl 0 rfl) ?_
                refine lv_if_ne (tgt := 205) hx hb dX7_order_199 (by decide) (fun cz => ?_) (fun cz => ?_)
                · exact absurd rfl cz
                · refine lv_bipush (v := (-3)) hx hb dX7_order_202 (by decide) ?_
                  exact nd_I hQ hx hb hr hlocks dX7_order_204 hS (⟨by rw [hs]; rfl, by rw [hs]; exact hM⟩)
              · exact absurd rfl cf
        · rw [hkd] at ea
          exact absurd ea (by decide)
      · refine lv_iload_n hx hb dX7_order_37 rfl (lv_at hl 0 rfl) ?_
        refine lv_bipush (v := 100) hx hb dX7_order_38 (by decide) ?_
        refine lv_icmp_eq (tgt := 52) hx hb dX7_order_40 (by decide) (fun e3 => ?_) (fun e3 => ?_)
        · have hkd : sgn (M 6) n u0 = 100 := e3
          have hlt0 : u0 < n := sgn_y (by decide) hkd
          refine lv_aload_n hx hb dX7_order_52 rfl (lv_at hl 1 rfl) ?_
          refine lv_dup hx hb dX7_order_53 rfl ?_
          refine rg (C := RX7) (T := TX7) (N := 16) (v := .int (nI u0)) hx hb hT inX7 hown hK hM.1 rfl 8 (by decide) mf_X7_158 rfl dX7_order_54 ?_
          refine lv_iconst (v := 1) hx hb dX7_order_57 (by decide) ?_
          refine lv_iadd hx hb dX7_order_58 ?_
          rw [nI_1]
          refine rp (C := RX7) (T := TX7) (N := 16) (v := .int (nI (u0 + 1))) (ty := .int) hx hb hT inX7 tyX7 tyX7_ok nmX7 hown hK hM.1 rfl 8 (by decide) mf_X7_158 rfl (by decide +kernel) rfl rfl (Nat.le_of_ble_eq_true rfl) hS (show _ ∧ _ from ⟨by omega, by omega⟩) dX7_order_59 (fun H locs h1 o hS => ?_)
          have hM := hM.s8 h1 o
          rw [RdM_p] at hM
          have hs : rdO (M 6) n u0 N = rdP (M 6) n [35] (u0 + 1) 0 N := (if_neg (by rw [hkd]; decide)).trans ((if_neg (by rw [hkd]; decide)).trans (if_pos (Or.inl hkd)))
          refine lv_iload_n hx hb dX7_order_62 rfl (lv_at hl 0 rfl) ?_
          refine lv_bipush (v := 43) hx hb dX7_order_63 (by decide) ?_
          refine lv_icmp_ne (tgt := 153) hx hb dX7_order_65 (by decide) (fun ea => ?_) (fun ea => ?_)
          · refine lv_iload_n hx hb dX7_order_153 rfl (lv_at hl 0 rfl) ?_
            refine lv_bipush (v := 115) hx hb dX7_order_154 (by decide) ?_
            refine lv_icmp_ne (tgt := 192) hx hb dX7_order_156 (by decide) (fun eb => ?_) (fun eb => ?_)
            · refine lv_aload_n hx hb dX7_order_192 rfl (lv_at hl 1 rfl) ?_
              refine lv_iconst (v := 0) hx hb dX7_order_193 (by decide) ?_
              refine got_I (run_i hx hb hml hown hT hK hl.1 (k_X7_number l G w M n (u0 + 1) N 0 hn (by omega) h7 (by omega)) (cw_X7_165 hT ⟨Nat.le_of_ble_eq_true rfl, Nat.le_of_ble_eq_true rfl⟩) hM.1 rfl hM rfl rfl (Nat.le_of_ble_eq_true rfl) dX7_order_194 ⟨Nat.zero_le _, Nat.zero_le _⟩) hS (fun q hq => hq) (fun q hq => hq) (fun v_26 H locs h1 hz hk hS => ?_)
              rcases h1 with ⟨hv, hD, hM⟩ | ⟨hv, hD, hM⟩
              · subst hv
                have hDn := hD.1
                have hle9 := nmF_le (T := M 6) 3 (dg (M 6) (u0 + 1)) ((u0 + 1) + 1) hDn
                obtain ⟨Uq_25, eUq_25⟩ : ∃ z1, z1 = (nmF (M 6) n 3 (dg (M 6) (u0 + 1)) ((u0 + 1) + 1)).2 := ⟨_, rfl⟩
                obtain ⟨Wq_25, eWq_25⟩ : ∃ z1, z1 = (nmF (M 6) n 3 (dg (M 6) (u0 + 1)) ((u0 + 1) + 1)).1 := ⟨_, rfl⟩
                rw [rdP_ny hD, ← eUq_25, ← eWq_25] at hs
                rw [← eUq_25, ← eWq_25] at hM
                rw [← eUq_25] at hle9
                have hs : rdO (M 6) n u0 N = (true, Uq_25, upd N 0 (nI Wq_25)) := hs
                refine lv_istore_n (lv' := [(3, .int 1), (2, .int (sgn (M 6) n u0)), (0, .ref w), (1, .int 0)]) hx hb dX7_order_197 rfl hl (by decide) rfl (fun ls hl => ?_)
                refine lv_iload_n hx hb dX7_order_198 rfl (lv_at hl 0 rfl) ?_
                refine lv_if_ne (tgt := 205) hx hb dX7_order_199 (by decide) (fun cg => ?_) (fun cg => ?_)
                · refine lv_iload_n hx hb dX7_order_205 rfl (lv_at hl 3 rfl) ?_
                  refine lv_if_ne (tgt := 211) hx hb dX7_order_206 (by decide) (fun ch => ?_) (fun ch => ?_)
                  · exact absurd rfl ch
                  · refine lv_iconst (v := 0) hx hb dX7_order_209 (by decide) ?_
                    exact nd_I hQ hx hb hr hlocks dX7_order_210 hS (⟨by rw [hs]; rfl, by rw [hs]; exact hM⟩)
                · exact absurd cg (by decide)
              · subst hv
                rw [rdP_nn hD] at hs
                refine lv_istore_n (lv' := [(3, .int 0), (2, .int (sgn (M 6) n u0)), (0, .ref w), (1, .int 0)]) hx hb dX7_order_197 rfl hl (by decide) rfl (fun ls hl => ?_)
                refine lv_iload_n hx hb dX7_order_198 rfl (lv_at hl 0 rfl) ?_
                refine lv_if_ne (tgt := 205) hx hb dX7_order_199 (by decide) (fun cz => ?_) (fun cz => ?_)
                · exact absurd rfl cz
                · refine lv_bipush (v := (-3)) hx hb dX7_order_202 (by decide) ?_
                  exact nd_I hQ hx hb hr hlocks dX7_order_204 hS (⟨by rw [hs]; rfl, by rw [hs]; exact hM⟩)
            · rw [hkd] at eb
              exact absurd eb (by decide)
          · rw [hkd] at ea
            exact absurd ea (by decide)
        · refine lv_iload_n hx hb dX7_order_43 rfl (lv_at hl 0 rfl) ?_
          refine lv_bipush (v := 109) hx hb dX7_order_44 (by decide) ?_
          refine lv_icmp_eq (tgt := 52) hx hb dX7_order_46 (by decide) (fun e4 => ?_) (fun e4 => ?_)
          · have hkd : sgn (M 6) n u0 = 109 := e4
            have hlt0 : u0 < n := sgn_y (by decide) hkd
            refine lv_aload_n hx hb dX7_order_52 rfl (lv_at hl 1 rfl) ?_
            refine lv_dup hx hb dX7_order_53 rfl ?_
            refine rg (C := RX7) (T := TX7) (N := 16) (v := .int (nI u0)) hx hb hT inX7 hown hK hM.1 rfl 8 (by decide) mf_X7_158 rfl dX7_order_54 ?_
            refine lv_iconst (v := 1) hx hb dX7_order_57 (by decide) ?_
            refine lv_iadd hx hb dX7_order_58 ?_
            rw [nI_1]
            refine rp (C := RX7) (T := TX7) (N := 16) (v := .int (nI (u0 + 1))) (ty := .int) hx hb hT inX7 tyX7 tyX7_ok nmX7 hown hK hM.1 rfl 8 (by decide) mf_X7_158 rfl (by decide +kernel) rfl rfl (Nat.le_of_ble_eq_true rfl) hS (show _ ∧ _ from ⟨by omega, by omega⟩) dX7_order_59 (fun H locs h1 o hS => ?_)
            have hM := hM.s8 h1 o
            rw [RdM_p] at hM
            have hs : rdO (M 6) n u0 N = rdP (M 6) n [35] (u0 + 1) 0 N := (if_neg (by rw [hkd]; decide)).trans ((if_neg (by rw [hkd]; decide)).trans (if_pos (Or.inr hkd)))
            refine lv_iload_n hx hb dX7_order_62 rfl (lv_at hl 0 rfl) ?_
            refine lv_bipush (v := 43) hx hb dX7_order_63 (by decide) ?_
            refine lv_icmp_ne (tgt := 153) hx hb dX7_order_65 (by decide) (fun ea => ?_) (fun ea => ?_)
            · refine lv_iload_n hx hb dX7_order_153 rfl (lv_at hl 0 rfl) ?_
              refine lv_bipush (v := 115) hx hb dX7_order_154 (by decide) ?_
              refine lv_icmp_ne (tgt := 192) hx hb dX7_order_156 (by decide) (fun eb => ?_) (fun eb => ?_)
              · refine lv_aload_n hx hb dX7_order_192 rfl (lv_at hl 1 rfl) ?_
                refine lv_iconst (v := 0) hx hb dX7_order_193 (by decide) ?_
                refine got_I (run_i hx hb hml hown hT hK hl.1 (k_X7_number l G w M n (u0 + 1) N 0 hn (by omega) h7 (by omega)) (cw_X7_165 hT ⟨Nat.le_of_ble_eq_true rfl, Nat.le_of_ble_eq_true rfl⟩) hM.1 rfl hM rfl rfl (Nat.le_of_ble_eq_true rfl) dX7_order_194 ⟨Nat.zero_le _, Nat.zero_le _⟩) hS (fun q hq => hq) (fun q hq => hq) (fun v_28 H locs h1 hz hk hS => ?_)
                rcases h1 with ⟨hv, hD, hM⟩ | ⟨hv, hD, hM⟩
                · subst hv
                  have hDn := hD.1
                  have hle9 := nmF_le (T := M 6) 3 (dg (M 6) (u0 + 1)) ((u0 + 1) + 1) hDn
                  obtain ⟨Uq_27, eUq_27⟩ : ∃ z1, z1 = (nmF (M 6) n 3 (dg (M 6) (u0 + 1)) ((u0 + 1) + 1)).2 := ⟨_, rfl⟩
                  obtain ⟨Wq_27, eWq_27⟩ : ∃ z1, z1 = (nmF (M 6) n 3 (dg (M 6) (u0 + 1)) ((u0 + 1) + 1)).1 := ⟨_, rfl⟩
                  rw [rdP_ny hD, ← eUq_27, ← eWq_27] at hs
                  rw [← eUq_27, ← eWq_27] at hM
                  rw [← eUq_27] at hle9
                  have hs : rdO (M 6) n u0 N = (true, Uq_27, upd N 0 (nI Wq_27)) := hs
                  refine lv_istore_n (lv' := [(3, .int 1), (2, .int (sgn (M 6) n u0)), (0, .ref w), (1, .int 0)]) hx hb dX7_order_197 rfl hl (by decide) rfl (fun ls hl => ?_)
                  refine lv_iload_n hx hb dX7_order_198 rfl (lv_at hl 0 rfl) ?_
                  refine lv_if_ne (tgt := 205) hx hb dX7_order_199 (by decide) (fun cg => ?_) (fun cg => ?_)
                  · refine lv_iload_n hx hb dX7_order_205 rfl (lv_at hl 3 rfl) ?_
                    refine lv_if_ne (tgt := 211) hx hb dX7_order_206 (by decide) (fun ch => ?_) (fun ch => ?_)
                    · exact absurd rfl ch
                    · refine lv_iconst (v := 0) hx hb dX7_order_209 (by decide) ?_
                      exact nd_I hQ hx hb hr hlocks dX7_order_210 hS (⟨by rw [hs]; rfl, by rw [hs]; exact hM⟩)
                  · exact absurd cg (by decide)
                · subst hv
                  rw [rdP_nn hD] at hs
                  refine lv_istore_n (lv' := [(3, .int 0), (2, .int (sgn (M 6) n u0)), (0, .ref w), (1, .int 0)]) hx hb dX7_order_197 rfl hl (by decide) rfl (fun ls hl => ?_)
                  refine lv_iload_n hx hb dX7_order_198 rfl (lv_at hl 0 rfl) ?_
                  refine lv_if_ne (tgt := 205) hx hb dX7_order_199 (by decide) (fun cz => ?_) (fun cz => ?_)
                  · exact absurd rfl cz
                  · refine lv_bipush (v := (-3)) hx hb dX7_order_202 (by decide) ?_
                    exact nd_I hQ hx hb hr hlocks dX7_order_204 hS (⟨by rw [hs]; rfl, by rw [hs]; exact hM⟩)
              · rw [hkd] at eb
                exact absurd eb (by decide)
            · rw [hkd] at ea
              exact absurd ea (by decide)
          · have hs : rdO (M 6) n u0 N = (false, u0, N) := (if_neg e1).trans ((if_neg e2).trans (if_neg (fun q => q.elim e3 e4)))
            refine lv_bipush (v := (-3)) hx hb dX7_order_49 (by decide) ?_
            exact nd_I hQ hx hb hr hlocks dX7_order_51 hS (⟨by rw [hs]; rfl, by rw [hs]; exact hM⟩)
  · have hlt : u0 < n := by have q : ¬ n ≤ u0 := fun q => c1 ((nI_leI (by omega) (by omega)).mpr q); omega
    refine lv_aload_n hx hb dX7_order_11 rfl (lv_at hl 0 rfl) ?_
    refine rg (C := RX7) (T := TX7) (N := 16) (v := .ref (w + 6)) hx hb hT inX7 hown hK hM.1 rfl 6 (by decide) mf_X7_26 rfl dX7_order_12 ?_
    refine lv_aload_n hx hb dX7_order_15 rfl (lv_at hl 0 rfl) ?_
    refine rg (C := RX7) (T := TX7) (N := 16) (v := .int (nI u0)) hx hb hT inX7 hown hK hM.1 rfl 8 (by decide) mf_X7_158 rfl dX7_order_16 ?_
    refine r_ialdS (y := M 6 u0) hx hb hK hM.2.2.2.2.2.2.1 u0 (rfl) (by omega) (Nat.le_of_ble_eq_true rfl) rfl dX7_order_19 ?_
    refine lv_goto (tgt := 24) hx hb dX7_order_20 (by decide) ?_
    rw [show M 6 u0 = sgn (M 6) n u0 from (sgn_in hlt).symm]
    refine lv_istore_n (lv' := [(2, .int (sgn (M 6) n u0)), (0, .ref w), (1, .int 0)]) hx hb dX7_order_24 rfl hl (by decide) rfl (fun ls hl => ?_)
    refine lv_iload_n hx hb dX7_order_25 rfl (lv_at hl 0 rfl) ?_
    refine lv_bipush (v := 43) hx hb dX7_order_26 (by decide) ?_
    refine lv_icmp_eq (tgt := 52) hx hb dX7_order_28 (by decide) (fun e1 => ?_) (fun e1 => ?_)
    · have hkd : sgn (M 6) n u0 = 43 := e1
      have hlt0 : u0 < n := sgn_y (by decide) hkd
      refine lv_aload_n hx hb dX7_order_52 rfl (lv_at hl 1 rfl) ?_
      refine lv_dup hx hb dX7_order_53 rfl ?_
      refine rg (C := RX7) (T := TX7) (N := 16) (v := .int (nI u0)) hx hb hT inX7 hown hK hM.1 rfl 8 (by decide) mf_X7_158 rfl dX7_order_54 ?_
      refine lv_iconst (v := 1) hx hb dX7_order_57 (by decide) ?_
      refine lv_iadd hx hb dX7_order_58 ?_
      rw [nI_1]
      refine rp (C := RX7) (T := TX7) (N := 16) (v := .int (nI (u0 + 1))) (ty := .int) hx hb hT inX7 tyX7 tyX7_ok nmX7 hown hK hM.1 rfl 8 (by decide) mf_X7_158 rfl (by decide +kernel) rfl rfl (Nat.le_of_ble_eq_true rfl) hS (show _ ∧ _ from ⟨by omega, by omega⟩) dX7_order_59 (fun H locs h1 o hS => ?_)
      have hM := hM.s8 h1 o
      rw [RdM_p] at hM
      have hs : rdO (M 6) n u0 N = rdP (M 6) n [35, 58, 35, 44, 35, 44, 35, 42, 35] (u0 + 1) 0 N := if_pos hkd
      refine lv_iload_n hx hb dX7_order_62 rfl (lv_at hl 0 rfl) ?_
      refine lv_bipush (v := 43) hx hb dX7_order_63 (by decide) ?_
      refine lv_icmp_ne (tgt := 153) hx hb dX7_order_65 (by decide) (fun ea => ?_) (fun ea => ?_)
      · exact absurd hkd ea
      · refine lv_aload_n hx hb dX7_order_68 rfl (lv_at hl 1 rfl) ?_
        refine lv_iconst (v := 0) hx hb dX7_order_69 (by decide) ?_
        refine got_I (run_i hx hb hml hown hT hK hl.1 (k_X7_number l G w M n (u0 + 1) N 0 hn (by omega) h7 (by omega)) (cw_X7_165 hT ⟨Nat.le_of_ble_eq_true rfl, Nat.le_of_ble_eq_true rfl⟩) hM.1 rfl hM rfl rfl (Nat.le_of_ble_eq_true rfl) dX7_order_70 ⟨Nat.zero_le _, Nat.zero_le _⟩) hS (fun q hq => hq) (fun q hq => hq) (fun v_30 H locs h1 hz hk hS => ?_)
        rcases h1 with ⟨hv, hD, hM⟩ | ⟨hv, hD, hM⟩
        · subst hv
          have hDn := hD.1
          have hle9 := nmF_le (T := M 6) 3 (dg (M 6) (u0 + 1)) ((u0 + 1) + 1) hDn
          obtain ⟨Uq_29, eUq_29⟩ : ∃ z1, z1 = (nmF (M 6) n 3 (dg (M 6) (u0 + 1)) ((u0 + 1) + 1)).2 := ⟨_, rfl⟩
          obtain ⟨Wq_29, eWq_29⟩ : ∃ z1, z1 = (nmF (M 6) n 3 (dg (M 6) (u0 + 1)) ((u0 + 1) + 1)).1 := ⟨_, rfl⟩
          rw [rdP_ny hD, ← eUq_29, ← eWq_29] at hs
          rw [← eUq_29, ← eWq_29] at hM
          rw [← eUq_29] at hle9
          refine lv_if_eq (tgt := 148) hx hb dX7_order_73 (by decide) (fun cf => ?_) (fun cf => ?_)
          · exact absurd cf (by decide)
          · refine lv_aload_n hx hb dX7_order_76 rfl (lv_at hl 1 rfl) ?_
            refine lv_bipush (v := 58) hx hb dX7_order_77 (by decide) ?_
            refine got_I (run_i hx hb hml hown hT hK hl.1 (k_X7_sign l G w M n Uq_29 (upd N 0 (nI Wq_29)) 58 hn (by omega) h7) (cw_X7_168 hT ⟨Nat.le_of_ble_eq_true rfl, Nat.le_of_ble_eq_true rfl⟩) hM.1 rfl hM rfl rfl (Nat.le_of_ble_eq_true rfl) dX7_order_79 ⟨Nat.zero_le _, Nat.zero_le _⟩) hS (fun q hq => hq) (fun q hq => hq) (fun v_32 H locs h1 hz hk hS => ?_)
            rcases h1 with ⟨hv, hD, hM⟩ | ⟨hv, hD, hM⟩
            · subst hv
              have hDn := hD.1
              rw [rdP_sy (by decide) (by decide) hD] at hs
              refine lv_if_eq (tgt := 148) hx hb dX7_order_82 (by decide) (fun cf => ?_) (fun cf => ?_)
              · exact absurd cf (by decide)
              · refine lv_aload_n hx hb dX7_order_85 rfl (lv_at hl 1 rfl) ?_
                refine lv_iconst (v := 1) hx hb dX7_order_86 (by decide) ?_
                refine got_I (run_i hx hb hml hown hT hK hl.1 (k_X7_number l G w M n (Uq_29 + 1) (upd N 0 (nI Wq_29)) 1 hn (by omega) h7 (by omega)) (cw_X7_165 hT ⟨Nat.le_of_ble_eq_true rfl, Nat.le_of_ble_eq_true rfl⟩) hM.1 rfl hM rfl rfl (Nat.le_of_ble_eq_true rfl) dX7_order_87 ⟨Nat.zero_le _, Nat.zero_le _⟩) hS (fun q hq => hq) (fun q hq => hq) (fun v_34 H locs h1 hz hk hS => ?_)
                rcases h1 with ⟨hv, hD, hM⟩ | ⟨hv, hD, hM⟩
                · subst hv
                  have hDn := hD.1
                  have hle9 := nmF_le (T := M 6) 3 (dg (M 6) (Uq_29 + 1)) ((Uq_29 + 1) + 1) hDn
                  obtain ⟨Uq_33, eUq_33⟩ : ∃ z1, z1 = (nmF (M 6) n 3 (dg (M 6) (Uq_29 + 1)) ((Uq_29 + 1) + 1)).2 := ⟨_, rfl⟩
                  obtain ⟨Wq_33, eWq_33⟩ : ∃ z1, z1 = (nmF (M 6) n 3 (dg (M 6) (Uq_29 + 1)) ((Uq_29 + 1) + 1)).1 := ⟨_, rfl⟩
                  rw [rdP_ny hD, ← eUq_33, ← eWq_33] at hs
                  rw [← eUq_33, ← eWq_33] at hM
                  rw [← eUq_33] at hle9
                  refine lv_if_eq (tgt := 148) hx hb dX7_order_90 (by decide) (fun cf => ?_) (fun cf => ?_)
                  · exact absurd cf (by decide)
                  · refine lv_aload_n hx hb dX7_order_93 rfl (lv_at hl 1 rfl) ?_
                    refine lv_bipush (v := 44) hx hb dX7_order_94 (by decide) ?_
                    refine got_I (run_i hx hb hml hown hT hK hl.1 (k_X7_sign l G w M n Uq_33 (upd (upd N 0 (nI Wq_29)) 1 (nI Wq_33)) 44 hn (by omega) h7) (cw_X7_168 hT ⟨Nat.le_of_ble_eq_true rfl, Nat.le_of_ble_eq_true rfl⟩) hM.1 rfl hM rfl rfl (Nat.le_of_ble_eq_true rfl) dX7_order_96 ⟨Nat.zero_le _, Nat.zero_le _⟩) hS (fun q hq => hq) (fun q hq => hq) (fun v_36 H locs h1 hz hk hS => ?_)
                    rcases h1 with ⟨hv, hD, hM⟩ | ⟨hv, hD, hM⟩
                    · subst hv
                      have hDn := hD.1
                      rw [rdP_sy (by decide) (by decide) hD] at hs
                      refine lv_if_eq (tgt := 148) hx hb dX7_order_99 (by decide) (fun cf => ?_) (fun cf => ?_)
                      · exact absurd cf (by decide)
                      · refine lv_aload_n hx hb dX7_order_102 rfl (lv_at hl 1 rfl) ?_
                        refine lv_iconst (v := 2) hx hb dX7_order_103 (by decide) ?_
                        refine got_I (run_i hx hb hml hown hT hK hl.1 (k_X7_number l G w M n (Uq_33 + 1) (upd (upd N 0 (nI Wq_29)) 1 (nI Wq_33)) 2 hn (by omega) h7 (by omega)) (cw_X7_165 hT ⟨Nat.le_of_ble_eq_true rfl, Nat.le_of_ble_eq_true rfl⟩) hM.1 rfl hM rfl rfl (Nat.le_of_ble_eq_true rfl) dX7_order_104 ⟨Nat.zero_le _, Nat.zero_le _⟩) hS (fun q hq => hq) (fun q hq => hq) (fun v_38 H locs h1 hz hk hS => ?_)
                        rcases h1 with ⟨hv, hD, hM⟩ | ⟨hv, hD, hM⟩
                        · subst hv
                          have hDn := hD.1
                          have hle9 := nmF_le (T := M 6) 3 (dg (M 6) (Uq_33 + 1)) ((Uq_33 + 1) + 1) hDn
                          obtain ⟨Uq_37, eUq_37⟩ : ∃ z1, z1 = (nmF (M 6) n 3 (dg (M 6) (Uq_33 + 1)) ((Uq_33 + 1) + 1)).2 := ⟨_, rfl⟩
                          obtain ⟨Wq_37, eWq_37⟩ : ∃ z1, z1 = (nmF (M 6) n 3 (dg (M 6) (Uq_33 + 1)) ((Uq_33 + 1) + 1)).1 := ⟨_, rfl⟩
                          rw [rdP_ny hD, ← eUq_37, ← eWq_37] at hs
                          rw [← eUq_37, ← eWq_37] at hM
                          rw [← eUq_37] at hle9
                          refine lv_if_eq (tgt := 148) hx hb dX7_order_107 (by decide) (fun cf => ?_) (fun cf => ?_)
                          · exact absurd cf (by decide)
                          · refine lv_aload_n hx hb dX7_order_110 rfl (lv_at hl 1 rfl) ?_
                            refine lv_bipush (v := 44) hx hb dX7_order_111 (by decide) ?_
                            refine got_I (run_i hx hb hml hown hT hK hl.1 (k_X7_sign l G w M n Uq_37 (upd (upd (upd N 0 (nI Wq_29)) 1 (nI Wq_33)) 2 (nI Wq_37)) 44 hn (by omega) h7) (cw_X7_168 hT ⟨Nat.le_of_ble_eq_true rfl, Nat.le_of_ble_eq_true rfl⟩) hM.1 rfl hM rfl rfl (Nat.le_of_ble_eq_true rfl) dX7_order_113 ⟨Nat.zero_le _, Nat.zero_le _⟩) hS (fun q hq => hq) (fun q hq => hq) (fun v_40 H locs h1 hz hk hS => ?_)
                            rcases h1 with ⟨hv, hD, hM⟩ | ⟨hv, hD, hM⟩
                            · subst hv
                              have hDn := hD.1
                              rw [rdP_sy (by decide) (by decide) hD] at hs
                              refine lv_if_eq (tgt := 148) hx hb dX7_order_116 (by decide) (fun cf => ?_) (fun cf => ?_)
                              · exact absurd cf (by decide)
                              · refine lv_aload_n hx hb dX7_order_119 rfl (lv_at hl 1 rfl) ?_
                                refine lv_iconst (v := 3) hx hb dX7_order_120 (by decide) ?_
                                refine got_I (run_i hx hb hml hown hT hK hl.1 (k_X7_number l G w M n (Uq_37 + 1) (upd (upd (upd N 0 (nI Wq_29)) 1 (nI Wq_33)) 2 (nI Wq_37)) 3 hn (by omega) h7 (by omega)) (cw_X7_165 hT ⟨Nat.le_of_ble_eq_true rfl, Nat.le_of_ble_eq_true rfl⟩) hM.1 rfl hM rfl rfl (Nat.le_of_ble_eq_true rfl) dX7_order_121 ⟨Nat.zero_le _, Nat.zero_le _⟩) hS (fun q hq => hq) (fun q hq => hq) (fun v_42 H locs h1 hz hk hS => ?_)
                                rcases h1 with ⟨hv, hD, hM⟩ | ⟨hv, hD, hM⟩
                                · subst hv
                                  have hDn := hD.1
                                  have hle9 := nmF_le (T := M 6) 3 (dg (M 6) (Uq_37 + 1)) ((Uq_37 + 1) + 1) hDn
                                  obtain ⟨Uq_41, eUq_41⟩ : ∃ z1, z1 = (nmF (M 6) n 3 (dg (M 6) (Uq_37 + 1)) ((Uq_37 + 1) + 1)).2 := ⟨_, rfl⟩
                                  obtain ⟨Wq_41, eWq_41⟩ : ∃ z1, z1 = (nmF (M 6) n 3 (dg (M 6) (Uq_37 + 1)) ((Uq_37 + 1) + 1)).1 := ⟨_, rfl⟩
                                  rw [rdP_ny hD, ← eUq_41, ← eWq_41] at hs
                                  rw [← eUq_41, ← eWq_41] at hM
                                  rw [← eUq_41] at hle9
                                  refine lv_if_eq (tgt := 148) hx hb dX7_order_124 (by decide) (fun cf => ?_) (fun cf => ?_)
                                  · exact absurd cf (by decide)
                                  · refine lv_aload_n hx hb dX7_order_127 rfl (lv_at hl 1 rfl) ?_
                                    refine lv_bipush (v := 42) hx hb dX7_order_128 (by decide) ?_
                                    refine got_I (run_i hx hb hml hown hT hK hl.1 (k_X7_sign l G w M n Uq_41 (upd (upd (upd (upd N 0 (nI Wq_29)) 1 (nI Wq_33)) 2 (nI Wq_37)) 3 (nI Wq_41)) 42 hn (by omega) h7) (cw_X7_168 hT ⟨Nat.le_of_ble_eq_true rfl, Nat.le_of_ble_eq_true rfl⟩) hM.1 rfl hM rfl rfl (Nat.le_of_ble_eq_true rfl) dX7_order_130 ⟨Nat.zero_le _, Nat.zero_le _⟩) hS (fun q hq => hq) (fun q hq => hq) (fun v_44 H locs h1 hz hk hS => ?_)
                                    rcases h1 with ⟨hv, hD, hM⟩ | ⟨hv, hD, hM⟩
                                    · subst hv
                                      have hDn := hD.1
                                      rw [rdP_sy (by decide) (by decide) hD] at hs
                                      refine lv_if_eq (tgt := 148) hx hb dX7_order_133 (by decide) (fun cf => ?_) (fun cf => ?_)
                                      · exact absurd cf (by decide)
                                      · refine lv_aload_n hx hb dX7_order_136 rfl (lv_at hl 1 rfl) ?_
                                        refine lv_iconst (v := 4) hx hb dX7_order_137 (by decide) ?_
                                        refine got_I (run_i hx hb hml hown hT hK hl.1 (k_X7_number l G w M n (Uq_41 + 1) (upd (upd (upd (upd N 0 (nI Wq_29)) 1 (nI Wq_33)) 2 (nI Wq_37)) 3 (nI Wq_41)) 4 hn (by omega) h7 (by omega)) (cw_X7_165 hT ⟨Nat.le_of_ble_eq_true rfl, Nat.le_of_ble_eq_true rfl⟩) hM.1 rfl hM rfl rfl (Nat.le_of_ble_eq_true rfl) dX7_order_138 ⟨Nat.zero_le _, Nat.zero_le _⟩) hS (fun q hq => hq) (fun q hq => hq) (fun v_46 H locs h1 hz hk hS => ?_)
                                        rcases h1 with ⟨hv, hD, hM⟩ | ⟨hv, hD, hM⟩
                                        · subst hv
                                          have hDn := hD.1
                                          have hle9 := nmF_le (T := M 6) 3 (dg (M 6) (Uq_41 + 1)) ((Uq_41 + 1) + 1) hDn
                                          obtain ⟨Uq_45, eUq_45⟩ : ∃ z1, z1 = (nmF (M 6) n 3 (dg (M 6) (Uq_41 + 1)) ((Uq_41 + 1) + 1)).2 := ⟨_, rfl⟩
                                          obtain ⟨Wq_45, eWq_45⟩ : ∃ z1, z1 = (nmF (M 6) n 3 (dg (M 6) (Uq_41 + 1)) ((Uq_41 + 1) + 1)).1 := ⟨_, rfl⟩
                                          rw [rdP_ny hD, ← eUq_45, ← eWq_45] at hs
                                          rw [← eUq_45, ← eWq_45] at hM
                                          rw [← eUq_45] at hle9
                                          refine lv_if_eq (tgt := 148) hx hb dX7_order_141 (by decide) (fun cf => ?_) (fun cf => ?_)
                                          · exact absurd cf (by decide)
                                          · have hs : rdO (M 6) n u0 N = (true, Uq_45, upd (upd (upd (upd (upd N 0 (nI Wq_29)) 1 (nI Wq_33)) 2 (nI Wq_37)) 3 (nI Wq_41)) 4 (nI Wq_45)) := hs
                                            refine lv_iconst (v := 1) hx hb dX7_order_144 (by decide) ?_
                                            refine lv_goto (tgt := 149) hx hb dX7_order_145 (by decide) ?_
                                            refine lv_istore_n (lv' := [(3, .int 1), (2, .int (sgn (M 6) n u0)), (0, .ref w), (1, .int 0)]) hx hb dX7_order_149 rfl hl (by decide) rfl (fun ls hl => ?_)
                                            refine lv_goto (tgt := 198) hx hb dX7_order_150 (by decide) ?_
                                            refine lv_iload_n hx hb dX7_order_198 rfl (lv_at hl 0 rfl) ?_
                                            refine lv_if_ne (tgt := 205) hx hb dX7_order_199 (by decide) (fun cg => ?_) (fun cg => ?_)
                                            · refine lv_iload_n hx hb dX7_order_205 rfl (lv_at hl 3 rfl) ?_
                                              refine lv_if_ne (tgt := 211) hx hb dX7_order_206 (by decide) (fun ch => ?_) (fun ch => ?_)
                                              · exact absurd rfl ch
                                              · refine lv_iconst (v := 0) hx hb dX7_order_209 (by decide) ?_
                                                exact nd_I hQ hx hb hr hlocks dX7_order_210 hS (⟨by rw [hs]; rfl, by rw [hs]; exact hM⟩)
                                            · exact absurd cg (by decide)
                                        · subst hv
                                          rw [rdP_nn hD] at hs
                                          refine lv_if_eq (tgt := 148) hx hb dX7_order_141 (by decide) (fun cf => ?_) (fun cf => ?_)
                                          · refine lv_iconst (v := 0) hx hb dX7_order_148 (by decide) ?_
                                            refine lv_istore_n (lv' := [(3, .int 0), (2, .int (sgn (M 6) n u0)), (0, .ref w), (1, .int 0)]) hx hb dX7_order_149 rfl hl (by decide) rfl (fun ls hl => ?_)
                                            refine lv_goto (tgt := 198) hx hb dX7_order_150 (by decide) ?_
                                            refine lv_iload_n hx hb dX7_order_198 rfl (lv_at hl 0 rfl) ?_
                                            refine lv_if_ne (tgt := 205) hx hb dX7_order_199 (by decide) (fun cz => ?_) (fun cz => ?_)
                                            · exact absurd rfl cz
                                            · refine lv_bipush (v := (-3)) hx hb dX7_order_202 (by decide) ?_
                                              exact nd_I hQ hx hb hr hlocks dX7_order_204 hS (⟨by rw [hs]; rfl, by rw [hs]; exact hM⟩)
                                          · exact absurd rfl cf
                                    · subst hv
                                      rw [rdP_sn (by decide) (by decide) hD] at hs
                                      refine lv_if_eq (tgt := 148) hx hb dX7_order_133 (by decide) (fun cf => ?_) (fun cf => ?_)
                                      · refine lv_iconst (v := 0) hx hb dX7_order_148 (by decide) ?_
                                        refine lv_istore_n (lv' := [(3, .int 0), (2, .int (sgn (M 6) n u0)), (0, .ref w), (1, .int 0)]) hx hb dX7_order_149 rfl hl (by decide) rfl (fun ls hl => ?_)
                                        refine lv_goto (tgt := 198) hx hb dX7_order_150 (by decide) ?_
                                        refine lv_iload_n hx hb dX7_order_198 rfl (lv_at hl 0 rfl) ?_
                                        refine lv_if_ne (tgt := 205) hx hb dX7_order_199 (by decide) (fun cz => ?_) (fun cz => ?_)
                                        · exact absurd rfl cz
                                        · refine lv_bipush (v := (-3)) hx hb dX7_order_202 (by decide) ?_
                                          exact nd_I hQ hx hb hr hlocks dX7_order_204 hS (⟨by rw [hs]; rfl, by rw [hs]; exact hM⟩)
                                      · exact absurd rfl cf
                                · subst hv
                                  rw [rdP_nn hD] at hs
                                  refine lv_if_eq (tgt := 148) hx hb dX7_order_124 (by decide) (fun cf => ?_) (fun cf => ?_)
                                  · refine lv_iconst (v := 0) hx hb dX7_order_148 (by decide) ?_
                                    refine lv_istore_n (lv' := [(3, .int 0), (2, .int (sgn (M 6) n u0)), (0, .ref w), (1, .int 0)]) hx hb dX7_order_149 rfl hl (by decide) rfl (fun ls hl => ?_)
                                    refine lv_goto (tgt := 198) hx hb dX7_order_150 (by decide) ?_
                                    refine lv_iload_n hx hb dX7_order_198 rfl (lv_at hl 0 rfl) ?_
                                    refine lv_if_ne (tgt := 205) hx hb dX7_order_199 (by decide) (fun cz => ?_) (fun cz => ?_)
                                    · exact absurd rfl cz
                                    · refine lv_bipush (v := (-3)) hx hb dX7_order_202 (by decide) ?_
                                      exact nd_I hQ hx hb hr hlocks dX7_order_204 hS (⟨by rw [hs]; rfl, by rw [hs]; exact hM⟩)
                                  · exact absurd rfl cf
                            · subst hv
                              rw [rdP_sn (by decide) (by decide) hD] at hs
                              refine lv_if_eq (tgt := 148) hx hb dX7_order_116 (by decide) (fun cf => ?_) (fun cf => ?_)
                              · refine lv_iconst (v := 0) hx hb dX7_order_148 (by decide) ?_
                                refine lv_istore_n (lv' := [(3, .int 0), (2, .int (sgn (M 6) n u0)), (0, .ref w), (1, .int 0)]) hx hb dX7_order_149 rfl hl (by decide) rfl (fun ls hl => ?_)
                                refine lv_goto (tgt := 198) hx hb dX7_order_150 (by decide) ?_
                                refine lv_iload_n hx hb dX7_order_198 rfl (lv_at hl 0 rfl) ?_
                                refine lv_if_ne (tgt := 205) hx hb dX7_order_199 (by decide) (fun cz => ?_) (fun cz => ?_)
                                · exact absurd rfl cz
                                · refine lv_bipush (v := (-3)) hx hb dX7_order_202 (by decide) ?_
                                  exact nd_I hQ hx hb hr hlocks dX7_order_204 hS (⟨by rw [hs]; rfl, by rw [hs]; exact hM⟩)
                              · exact absurd rfl cf
                        · subst hv
                          rw [rdP_nn hD] at hs
                          refine lv_if_eq (tgt := 148) hx hb dX7_order_107 (by decide) (fun cf => ?_) (fun cf => ?_)
                          · refine lv_iconst (v := 0) hx hb dX7_order_148 (by decide) ?_
                            refine lv_istore_n (lv' := [(3, .int 0), (2, .int (sgn (M 6) n u0)), (0, .ref w), (1, .int 0)]) hx hb dX7_order_149 rfl hl (by decide) rfl (fun ls hl => ?_)
                            refine lv_goto (tgt := 198) hx hb dX7_order_150 (by decide) ?_
                            refine lv_iload_n hx hb dX7_order_198 rfl (lv_at hl 0 rfl) ?_
                            refine lv_if_ne (tgt := 205) hx hb dX7_order_199 (by decide) (fun cz => ?_) (fun cz => ?_)
                            · exact absurd rfl cz
                            · refine lv_bipush (v := (-3)) hx hb dX7_order_202 (by decide) ?_
                              exact nd_I hQ hx hb hr hlocks dX7_order_204 hS (⟨by rw [hs]; rfl, by rw [hs]; exact hM⟩)
                          · exact absurd rfl cf
                    · subst hv
                      rw [rdP_sn (by decide) (by decide) hD] at hs
                      refine lv_if_eq (tgt := 148) hx hb dX7_order_99 (by decide) (fun cf => ?_) (fun cf => ?_)
                      · refine lv_iconst (v := 0) hx hb dX7_order_148 (by decide) ?_
                        refine lv_istore_n (lv' := [(3, .int 0), (2, .int (sgn (M 6) n u0)), (0, .ref w), (1, .int 0)]) hx hb dX7_order_149 rfl hl (by decide) rfl (fun ls hl => ?_)
                        refine lv_goto (tgt := 198) hx hb dX7_order_150 (by decide) ?_
                        refine lv_iload_n hx hb dX7_order_198 rfl (lv_at hl 0 rfl) ?_
                        refine lv_if_ne (tgt := 205) hx hb dX7_order_199 (by decide) (fun cz => ?_) (fun cz => ?_)
                        · exact absurd rfl cz
                        · refine lv_bipush (v := (-3)) hx hb dX7_order_202 (by decide) ?_
                          exact nd_I hQ hx hb hr hlocks dX7_order_204 hS (⟨by rw [hs]; rfl, by rw [hs]; exact hM⟩)
                      · exact absurd rfl cf
                · subst hv
                  rw [rdP_nn hD] at hs
                  refine lv_if_eq (tgt := 148) hx hb dX7_order_90 (by decide) (fun cf => ?_) (fun cf => ?_)
                  · refine lv_iconst (v := 0) hx hb dX7_order_148 (by decide) ?_
                    refine lv_istore_n (lv' := [(3, .int 0), (2, .int (sgn (M 6) n u0)), (0, .ref w), (1, .int 0)]) hx hb dX7_order_149 rfl hl (by decide) rfl (fun ls hl => ?_)
                    refine lv_goto (tgt := 198) hx hb dX7_order_150 (by decide) ?_
                    refine lv_iload_n hx hb dX7_order_198 rfl (lv_at hl 0 rfl) ?_
                    refine lv_if_ne (tgt := 205) hx hb dX7_order_199 (by decide) (fun cz => ?_) (fun cz => ?_)
                    · exact absurd rfl cz
                    · refine lv_bipush (v := (-3)) hx hb dX7_order_202 (by decide) ?_
                      exact nd_I hQ hx hb hr hlocks dX7_order_204 hS (⟨by rw [hs]; rfl, by rw [hs]; exact hM⟩)
                  · exact absurd rfl cf
            · subst hv
              rw [rdP_sn (by decide) (by decide) hD] at hs
              refine lv_if_eq (tgt := 148) hx hb dX7_order_82 (by decide) (fun cf => ?_) (fun cf => ?_)
              · refine lv_iconst (v := 0) hx hb dX7_order_148 (by decide) ?_
                refine lv_istore_n (lv' := [(3, .int 0), (2, .int (sgn (M 6) n u0)), (0, .ref w), (1, .int 0)]) hx hb dX7_order_149 rfl hl (by decide) rfl (fun ls hl => ?_)
                refine lv_goto (tgt := 198) hx hb dX7_order_150 (by decide) ?_
                refine lv_iload_n hx hb dX7_order_198 rfl (lv_at hl 0 rfl) ?_
                refine lv_if_ne (tgt := 205) hx hb dX7_order_199 (by decide) (fun cz => ?_) (fun cz => ?_)
                · exact absurd rfl cz
                · refine lv_bipush (v := (-3)) hx hb dX7_order_202 (by decide) ?_
                  exact nd_I hQ hx hb hr hlocks dX7_order_204 hS (⟨by rw [hs]; rfl, by rw [hs]; exact hM⟩)
              · exact absurd rfl cf
        · subst hv
          rw [rdP_nn hD] at hs
          refine lv_if_eq (tgt := 148) hx hb dX7_order_73 (by decide) (fun cf => ?_) (fun cf => ?_)
          · refine lv_iconst (v := 0) hx hb dX7_order_148 (by decide) ?_
            refine lv_istore_n (lv' := [(3, .int 0), (2, .int (sgn (M 6) n u0)), (0, .ref w), (1, .int 0)]) hx hb dX7_order_149 rfl hl (by decide) rfl (fun ls hl => ?_)
            refine lv_goto (tgt := 198) hx hb dX7_order_150 (by decide) ?_
            refine lv_iload_n hx hb dX7_order_198 rfl (lv_at hl 0 rfl) ?_
            refine lv_if_ne (tgt := 205) hx hb dX7_order_199 (by decide) (fun cz => ?_) (fun cz => ?_)
            · exact absurd rfl cz
            · refine lv_bipush (v := (-3)) hx hb dX7_order_202 (by decide) ?_
              exact nd_I hQ hx hb hr hlocks dX7_order_204 hS (⟨by rw [hs]; rfl, by rw [hs]; exact hM⟩)
          · exact absurd rfl cf
    · refine lv_iload_n hx hb dX7_order_31 rfl (lv_at hl 0 rfl) ?_
      refine lv_bipush (v := 115) hx hb dX7_order_32 (by decide) ?_
      refine lv_icmp_eq (tgt := 52) hx hb dX7_order_34 (by decide) (fun e2 => ?_) (fun e2 => ?_)
      · have hkd : sgn (M 6) n u0 = 115 := e2
        have hlt0 : u0 < n := sgn_y (by decide) hkd
        refine lv_aload_n hx hb dX7_order_52 rfl (lv_at hl 1 rfl) ?_
        refine lv_dup hx hb dX7_order_53 rfl ?_
        refine rg (C := RX7) (T := TX7) (N := 16) (v := .int (nI u0)) hx hb hT inX7 hown hK hM.1 rfl 8 (by decide) mf_X7_158 rfl dX7_order_54 ?_
        refine lv_iconst (v := 1) hx hb dX7_order_57 (by decide) ?_
        refine lv_iadd hx hb dX7_order_58 ?_
        rw [nI_1]
        refine rp (C := RX7) (T := TX7) (N := 16) (v := .int (nI (u0 + 1))) (ty := .int) hx hb hT inX7 tyX7 tyX7_ok nmX7 hown hK hM.1 rfl 8 (by decide) mf_X7_158 rfl (by decide +kernel) rfl rfl (Nat.le_of_ble_eq_true rfl) hS (show _ ∧ _ from ⟨by omega, by omega⟩) dX7_order_59 (fun H locs h1 o hS => ?_)
        have hM := hM.s8 h1 o
        rw [RdM_p] at hM
        have hs : rdO (M 6) n u0 N = rdP (M 6) n [37, 61, 35] (u0 + 1) 0 N := (if_neg (by rw [hkd]; decide)).trans (if_pos hkd)
        refine lv_iload_n hx hb dX7_order_62 rfl (lv_at hl 0 rfl) ?_
        refine lv_bipush (v := 43) hx hb dX7_order_63 (by decide) ?_
        refine lv_icmp_ne (tgt := 153) hx hb dX7_order_65 (by decide) (fun ea => ?_) (fun ea => ?_)
        · refine lv_iload_n hx hb dX7_order_153 rfl (lv_at hl 0 rfl) ?_
          refine lv_bipush (v := 115) hx hb dX7_order_154 (by decide) ?_
          refine lv_icmp_ne (tgt := 192) hx hb dX7_order_156 (by decide) (fun eb => ?_) (fun eb => ?_)
          · exact absurd hkd eb
          · refine lv_aload_n hx hb dX7_order_159 rfl (lv_at hl 1 rfl) ?_
            refine got_I (run_i hx hb hml hown hT hK hl.1 (k_X7_digit l G w M n (u0 + 1) N hn (by omega) h7) (cw_X7_171 hT ⟨Nat.le_of_ble_eq_true rfl, Nat.le_of_ble_eq_true rfl⟩) hM.1 rfl hM rfl rfl (Nat.le_of_ble_eq_true rfl) dX7_order_160 ⟨Nat.zero_le _, Nat.zero_le _⟩) hS (fun q hq => hq) (fun q hq => hq) (fun v_48 H locs h1 hz hk hS => ?_)
            rcases h1 with ⟨hv, hD, hM⟩ | ⟨hv, hD, hM⟩
            · subst hv
              have hDn := hD.1
              rw [rdP_dy hD] at hs
              refine lv_if_eq (tgt := 187) hx hb dX7_order_163 (by decide) (fun cf => ?_) (fun cf => ?_)
              · exact absurd cf (by decide)
              · refine lv_aload_n hx hb dX7_order_166 rfl (lv_at hl 1 rfl) ?_
                refine lv_bipush (v := 61) hx hb dX7_order_167 (by decide) ?_
                refine got_I (run_i hx hb hml hown hT hK hl.1 (k_X7_sign l G w M n (u0 + 1 + 1) (upd N 0 (nI (dg (M 6) (u0 + 1)))) 61 hn (by omega) h7) (cw_X7_168 hT ⟨Nat.le_of_ble_eq_true rfl, Nat.le_of_ble_eq_true rfl⟩) hM.1 rfl hM rfl rfl (Nat.le_of_ble_eq_true rfl) dX7_order_169 ⟨Nat.zero_le _, Nat.zero_le _⟩) hS (fun q hq => hq) (fun q hq => hq) (fun v_50 H locs h1 hz hk hS => ?_)
                rcases h1 with ⟨hv, hD, hM⟩ | ⟨hv, hD, hM⟩
                · subst hv
                  have hDn := hD.1
                  rw [rdP_sy (by decide) (by decide) hD] at hs
                  refine lv_if_eq (tgt := 187) hx hb dX7_order_172 (by decide) (fun cf => ?_) (fun cf => ?_)
                  · exact absurd cf (by decide)
                  · refine lv_aload_n hx hb dX7_order_175 rfl (lv_at hl 1 rfl) ?_
                    refine lv_iconst (v := 1) hx hb dX7_order_176 (by decide) ?_
                    refine got_I (run_i hx hb hml hown hT hK hl.1 (k_X7_number l G w M n (u0 + 1 + 1 + 1) (upd N 0 (nI (dg (M 6) (u0 + 1)))) 1 hn (by omega) h7 (by omega)) (cw_X7_165 hT ⟨Nat.le_of_ble_eq_true rfl, Nat.le_of_ble_eq_true rfl⟩) hM.1 rfl hM rfl rfl (Nat.le_of_ble_eq_true rfl) dX7_order_177 ⟨Nat.zero_le _, Nat.zero_le _⟩) hS (fun q hq => hq) (fun q hq => hq) (fun v_52 H locs h1 hz hk hS => ?_)
                    rcases h1 with ⟨hv, hD, hM⟩ | ⟨hv, hD, hM⟩
                    · subst hv
                      have hDn := hD.1
                      have hle9 := nmF_le (T := M 6) 3 (dg (M 6) (u0 + 1 + 1 + 1)) ((u0 + 1 + 1 + 1) + 1) hDn
                      obtain ⟨Uq_51, eUq_51⟩ : ∃ z1, z1 = (nmF (M 6) n 3 (dg (M 6) (u0 + 1 + 1 + 1)) ((u0 + 1 + 1 + 1) + 1)).2 := ⟨_, rfl⟩
                      obtain ⟨Wq_51, eWq_51⟩ : ∃ z1, z1 = (nmF (M 6) n 3 (dg (M 6) (u0 + 1 + 1 + 1)) ((u0 + 1 + 1 + 1) + 1)).1 := ⟨_, rfl⟩
                      rw [rdP_ny hD, ← eUq_51, ← eWq_51] at hs
                      rw [← eUq_51, ← eWq_51] at hM
                      rw [← eUq_51] at hle9
                      refine lv_if_eq (tgt := 187) hx hb dX7_order_180 (by decide) (fun cf => ?_) (fun cf => ?_)
                      · exact absurd cf (by decide)
                      · have hs : rdO (M 6) n u0 N = (true, Uq_51, upd (upd N 0 (nI (dg (M 6) (u0 + 1)))) 1 (nI Wq_51)) := hs
                        refine lv_iconst (v := 1) hx hb dX7_order_183 (by decide) ?_
                        refine lv_goto (tgt := 188) hx hb dX7_order_184 (by decide) ?_
                        refine lv_istore_n (lv' := [(3, .int 1), (2, .int (sgn (M 6) n u0)), (0, .ref w), (1, .int 0)]) hx hb dX7_order_188 rfl hl (by decide) rfl (fun ls hl => ?_)
                        refine lv_goto (tgt := 198) hx hb dX7_order_189 (by decide) ?_
                        refine lv_iload_n hx hb dX7_order_198 rfl (lv_at hl 0 rfl) ?_
                        refine lv_if_ne (tgt := 205) hx hb dX7_order_199 (by decide) (fun cg => ?_) (fun cg => ?_)
                        · refine lv_iload_n hx hb dX7_order_205 rfl (lv_at hl 3 rfl) ?_
                          refine lv_if_ne (tgt := 211) hx hb dX7_order_206 (by decide) (fun ch => ?_) (fun ch => ?_)
                          · exact absurd rfl ch
                          · refine lv_iconst (v := 0) hx hb dX7_order_209 (by decide) ?_
                            exact nd_I hQ hx hb hr hlocks dX7_order_210 hS (⟨by rw [hs]; rfl, by rw [hs]; exact hM⟩)
                        · exact absurd cg (by decide)
                    · subst hv
                      rw [rdP_nn hD] at hs
                      refine lv_if_eq (tgt := 187) hx hb dX7_order_180 (by decide) (fun cf => ?_) (fun cf => ?_)
                      · refine lv_iconst (v := 0) hx hb dX7_order_187 (by decide) ?_
                        refine lv_istore_n (lv' := [(3, .int 0), (2, .int (sgn (M 6) n u0)), (0, .ref w), (1, .int 0)]) hx hb dX7_order_188 rfl hl (by decide) rfl (fun ls hl => ?_)
                        refine lv_goto (tgt := 198) hx hb dX7_order_189 (by decide) ?_
                        refine lv_iload_n hx hb dX7_order_198 rfl (lv_at hl 0 rfl) ?_
                        refine lv_if_ne (tgt := 205) hx hb dX7_order_199 (by decide) (fun cz => ?_) (fun cz => ?_)
                        · exact absurd rfl cz
                        · refine lv_bipush (v := (-3)) hx hb dX7_order_202 (by decide) ?_
                          exact nd_I hQ hx hb hr hlocks dX7_order_204 hS (⟨by rw [hs]; rfl, by rw [hs]; exact hM⟩)
                      · exact absurd rfl cf
                · subst hv
                  rw [rdP_sn (by decide) (by decide) hD] at hs
                  refine lv_if_eq (tgt := 187) hx hb dX7_order_172 (by decide) (fun cf => ?_) (fun cf => ?_)
                  · refine lv_iconst (v := 0) hx hb dX7_order_187 (by decide) ?_
                    refine lv_istore_n (lv' := [(3, .int 0), (2, .int (sgn (M 6) n u0)), (0, .ref w), (1, .int 0)]) hx hb dX7_order_188 rfl hl (by decide) rfl (fun ls hl => ?_)
                    refine lv_goto (tgt := 198) hx hb dX7_order_189 (by decide) ?_
                    refine lv_iload_n hx hb dX7_order_198 rfl (lv_at hl 0 rfl) ?_
                    refine lv_if_ne (tgt := 205) hx hb dX7_order_199 (by decide) (fun cz => ?_) (fun cz => ?_)
                    · exact absurd rfl cz
                    · refine lv_bipush (v := (-3)) hx hb dX7_order_202 (by decide) ?_
                      exact nd_I hQ hx hb hr hlocks dX7_order_204 hS (⟨by rw [hs]; rfl, by rw [hs]; exact hM⟩)
                  · exact absurd rfl cf
            · subst hv
              rw [rdP_dn hD] at hs
              refine lv_if_eq (tgt := 187) hx hb dX7_order_163 (by decide) (fun cf => ?_) (fun cf => ?_)
              · refine lv_iconst (v := 0) hx hb dX7_order_187 (by decide) ?_
                refine lv_istore_n (lv' := [(3, .int 0), (2, .int (sgn (M 6) n u0)), (0, .ref w), (1, .int 0)]) hx hb dX7_order_188 rfl hl (by decide) rfl (fun ls hl => ?_)
                refine lv_goto (tgt := 198) hx hb dX7_order_189 (by decide) ?_
                refine lv_iload_n hx hb dX7_order_198 rfl (lv_at hl 0 rfl) ?_
                refine lv_if_ne (tgt := 205) hx hb dX7_order_199 (by decide) (fun cz => ?_) (fun cz => ?_)
                · exact absurd rfl cz
                · refine lv_bipush (v := (-3)) hx hb dX7_order_202 (by decide) ?_
                  exact nd_I hQ hx hb hr hlocks dX7_order_204 hS (⟨by rw [hs]; rfl, by rw [hs]; exact hM⟩)
              · exact absurd rfl cf
        · rw [hkd] at ea
          exact absurd ea (by decide)
      · refine lv_iload_n hx hb dX7_order_37 rfl (lv_at hl 0 rfl) ?_
        refine lv_bipush (v := 100) hx hb dX7_order_38 (by decide) ?_
        refine lv_icmp_eq (tgt := 52) hx hb dX7_order_40 (by decide) (fun e3 => ?_) (fun e3 => ?_)
        · have hkd : sgn (M 6) n u0 = 100 := e3
          have hlt0 : u0 < n := sgn_y (by decide) hkd
          refine lv_aload_n hx hb dX7_order_52 rfl (lv_at hl 1 rfl) ?_
          refine lv_dup hx hb dX7_order_53 rfl ?_
          refine rg (C := RX7) (T := TX7) (N := 16) (v := .int (nI u0)) hx hb hT inX7 hown hK hM.1 rfl 8 (by decide) mf_X7_158 rfl dX7_order_54 ?_
          refine lv_iconst (v := 1) hx hb dX7_order_57 (by decide) ?_
          refine lv_iadd hx hb dX7_order_58 ?_
          rw [nI_1]
          refine rp (C := RX7) (T := TX7) (N := 16) (v := .int (nI (u0 + 1))) (ty := .int) hx hb hT inX7 tyX7 tyX7_ok nmX7 hown hK hM.1 rfl 8 (by decide) mf_X7_158 rfl (by decide +kernel) rfl rfl (Nat.le_of_ble_eq_true rfl) hS (show _ ∧ _ from ⟨by omega, by omega⟩) dX7_order_59 (fun H locs h1 o hS => ?_)
          have hM := hM.s8 h1 o
          rw [RdM_p] at hM
          have hs : rdO (M 6) n u0 N = rdP (M 6) n [35] (u0 + 1) 0 N := (if_neg (by rw [hkd]; decide)).trans ((if_neg (by rw [hkd]; decide)).trans (if_pos (Or.inl hkd)))
          refine lv_iload_n hx hb dX7_order_62 rfl (lv_at hl 0 rfl) ?_
          refine lv_bipush (v := 43) hx hb dX7_order_63 (by decide) ?_
          refine lv_icmp_ne (tgt := 153) hx hb dX7_order_65 (by decide) (fun ea => ?_) (fun ea => ?_)
          · refine lv_iload_n hx hb dX7_order_153 rfl (lv_at hl 0 rfl) ?_
            refine lv_bipush (v := 115) hx hb dX7_order_154 (by decide) ?_
            refine lv_icmp_ne (tgt := 192) hx hb dX7_order_156 (by decide) (fun eb => ?_) (fun eb => ?_)
            · refine lv_aload_n hx hb dX7_order_192 rfl (lv_at hl 1 rfl) ?_
              refine lv_iconst (v := 0) hx hb dX7_order_193 (by decide) ?_
              refine got_I (run_i hx hb hml hown hT hK hl.1 (k_X7_number l G w M n (u0 + 1) N 0 hn (by omega) h7 (by omega)) (cw_X7_165 hT ⟨Nat.le_of_ble_eq_true rfl, Nat.le_of_ble_eq_true rfl⟩) hM.1 rfl hM rfl rfl (Nat.le_of_ble_eq_true rfl) dX7_order_194 ⟨Nat.zero_le _, Nat.zero_le _⟩) hS (fun q hq => hq) (fun q hq => hq) (fun v_54 H locs h1 hz hk hS => ?_)
              rcases h1 with ⟨hv, hD, hM⟩ | ⟨hv, hD, hM⟩
              · subst hv
                have hDn := hD.1
                have hle9 := nmF_le (T := M 6) 3 (dg (M 6) (u0 + 1)) ((u0 + 1) + 1) hDn
                obtain ⟨Uq_53, eUq_53⟩ : ∃ z1, z1 = (nmF (M 6) n 3 (dg (M 6) (u0 + 1)) ((u0 + 1) + 1)).2 := ⟨_, rfl⟩
                obtain ⟨Wq_53, eWq_53⟩ : ∃ z1, z1 = (nmF (M 6) n 3 (dg (M 6) (u0 + 1)) ((u0 + 1) + 1)).1 := ⟨_, rfl⟩
                rw [rdP_ny hD, ← eUq_53, ← eWq_53] at hs
                rw [← eUq_53, ← eWq_53] at hM
                rw [← eUq_53] at hle9
                have hs : rdO (M 6) n u0 N = (true, Uq_53, upd N 0 (nI Wq_53)) := hs
                refine lv_istore_n (lv' := [(3, .int 1), (2, .int (sgn (M 6) n u0)), (0, .ref w), (1, .int 0)]) hx hb dX7_order_197 rfl hl (by decide) rfl (fun ls hl => ?_)
                refine lv_iload_n hx hb dX7_order_198 rfl (lv_at hl 0 rfl) ?_
                refine lv_if_ne (tgt := 205) hx hb dX7_order_199 (by decide) (fun cg => ?_) (fun cg => ?_)
                · refine lv_iload_n hx hb dX7_order_205 rfl (lv_at hl 3 rfl) ?_
                  refine lv_if_ne (tgt := 211) hx hb dX7_order_206 (by decide) (fun ch => ?_) (fun ch => ?_)
                  · exact absurd rfl ch
                  · refine lv_iconst (v := 0) hx hb dX7_order_209 (by decide) ?_
                    exact nd_I hQ hx hb hr hlocks dX7_order_210 hS (⟨by rw [hs]; rfl, by rw [hs]; exact hM⟩)
                · exact absurd cg (by decide)
              · subst hv
                rw [rdP_nn hD] at hs
                refine lv_istore_n (lv' := [(3, .int 0), (2, .int (sgn (M 6) n u0)), (0, .ref w), (1, .int 0)]) hx hb dX7_order_197 rfl hl (by decide) rfl (fun ls hl => ?_)
                refine lv_iload_n hx hb dX7_order_198 rfl (lv_at hl 0 rfl) ?_
                refine lv_if_ne (tgt := 205) hx hb dX7_order_199 (by decide) (fun cz => ?_) (fun cz => ?_)
                · exact absurd rfl cz
                · refine lv_bipush (v := (-3)) hx hb dX7_order_202 (by decide) ?_
                  exact nd_I hQ hx hb hr hlocks dX7_order_204 hS (⟨by rw [hs]; rfl, by rw [hs]; exact hM⟩)
            · rw [hkd] at eb
              exact absurd eb (by decide)
          · rw [hkd] at ea
            exact absurd ea (by decide)
        · refine lv_iload_n hx hb dX7_order_43 rfl (lv_at hl 0 rfl) ?_
          refine lv_bipush (v := 109) hx hb dX7_order_44 (by decide) ?_
          refine lv_icmp_eq (tgt := 52) hx hb dX7_order_46 (by decide) (fun e4 => ?_) (fun e4 => ?_)
          · have hkd : sgn (M 6) n u0 = 109 := e4
            have hlt0 : u0 < n := sgn_y (by decide) hkd
            refine lv_aload_n hx hb dX7_order_52 rfl (lv_at hl 1 rfl) ?_
            refine lv_dup hx hb dX7_order_53 rfl ?_
            refine rg (C := RX7) (T := TX7) (N := 16) (v := .int (nI u0)) hx hb hT inX7 hown hK hM.1 rfl 8 (by decide) mf_X7_158 rfl dX7_order_54 ?_
            refine lv_iconst (v := 1) hx hb dX7_order_57 (by decide) ?_
            refine lv_iadd hx hb dX7_order_58 ?_
            rw [nI_1]
            refine rp (C := RX7) (T := TX7) (N := 16) (v := .int (nI (u0 + 1))) (ty := .int) hx hb hT inX7 tyX7 tyX7_ok nmX7 hown hK hM.1 rfl 8 (by decide) mf_X7_158 rfl (by decide +kernel) rfl rfl (Nat.le_of_ble_eq_true rfl) hS (show _ ∧ _ from ⟨by omega, by omega⟩) dX7_order_59 (fun H locs h1 o hS => ?_)
            have hM := hM.s8 h1 o
            rw [RdM_p] at hM
            have hs : rdO (M 6) n u0 N = rdP (M 6) n [35] (u0 + 1) 0 N := (if_neg (by rw [hkd]; decide)).trans ((if_neg (by rw [hkd]; decide)).trans (if_pos (Or.inr hkd)))
            refine lv_iload_n hx hb dX7_order_62 rfl (lv_at hl 0 rfl) ?_
            refine lv_bipush (v := 43) hx hb dX7_order_63 (by decide) ?_
            refine lv_icmp_ne (tgt := 153) hx hb dX7_order_65 (by decide) (fun ea => ?_) (fun ea => ?_)
            · refine lv_iload_n hx hb dX7_order_153 rfl (lv_at hl 0 rfl) ?_
              refine lv_bipush (v := 115) hx hb dX7_order_154 (by decide) ?_
              refine lv_icmp_ne (tgt := 192) hx hb dX7_order_156 (by decide) (fun eb => ?_) (fun eb => ?_)
              · refine lv_aload_n hx hb dX7_order_192 rfl (lv_at hl 1 rfl) ?_
                refine lv_iconst (v := 0) hx hb dX7_order_193 (by decide) ?_
                refine got_I (run_i hx hb hml hown hT hK hl.1 (k_X7_number l G w M n (u0 + 1) N 0 hn (by omega) h7 (by omega)) (cw_X7_165 hT ⟨Nat.le_of_ble_eq_true rfl, Nat.le_of_ble_eq_true rfl⟩) hM.1 rfl hM rfl rfl (Nat.le_of_ble_eq_true rfl) dX7_order_194 ⟨Nat.zero_le _, Nat.zero_le _⟩) hS (fun q hq => hq) (fun q hq => hq) (fun v_56 H locs h1 hz hk hS => ?_)
                rcases h1 with ⟨hv, hD, hM⟩ | ⟨hv, hD, hM⟩
                · subst hv
                  have hDn := hD.1
                  have hle9 := nmF_le (T := M 6) 3 (dg (M 6) (u0 + 1)) ((u0 + 1) + 1) hDn
                  obtain ⟨Uq_55, eUq_55⟩ : ∃ z1, z1 = (nmF (M 6) n 3 (dg (M 6) (u0 + 1)) ((u0 + 1) + 1)).2 := ⟨_, rfl⟩
                  obtain ⟨Wq_55, eWq_55⟩ : ∃ z1, z1 = (nmF (M 6) n 3 (dg (M 6) (u0 + 1)) ((u0 + 1) + 1)).1 := ⟨_, rfl⟩
                  rw [rdP_ny hD, ← eUq_55, ← eWq_55] at hs
                  rw [← eUq_55, ← eWq_55] at hM
                  rw [← eUq_55] at hle9
                  have hs : rdO (M 6) n u0 N = (true, Uq_55, upd N 0 (nI Wq_55)) := hs
                  refine lv_istore_n (lv' := [(3, .int 1), (2, .int (sgn (M 6) n u0)), (0, .ref w), (1, .int 0)]) hx hb dX7_order_197 rfl hl (by decide) rfl (fun ls hl => ?_)
                  refine lv_iload_n hx hb dX7_order_198 rfl (lv_at hl 0 rfl) ?_
                  refine lv_if_ne (tgt := 205) hx hb dX7_order_199 (by decide) (fun cg => ?_) (fun cg => ?_)
                  · refine lv_iload_n hx hb dX7_order_205 rfl (lv_at hl 3 rfl) ?_
                    refine lv_if_ne (tgt := 211) hx hb dX7_order_206 (by decide) (fun ch => ?_) (fun ch => ?_)
                    · exact absurd rfl ch
                    · refine lv_iconst (v := 0) hx hb dX7_order_209 (by decide) ?_
                      exact nd_I hQ hx hb hr hlocks dX7_order_210 hS (⟨by rw [hs]; rfl, by rw [hs]; exact hM⟩)
                  · exact absurd cg (by decide)
                · subst hv
                  rw [rdP_nn hD] at hs
                  refine lv_istore_n (lv' := [(3, .int 0), (2, .int (sgn (M 6) n u0)), (0, .ref w), (1, .int 0)]) hx hb dX7_order_197 rfl hl (by decide) rfl (fun ls hl => ?_)
                  refine lv_iload_n hx hb dX7_order_198 rfl (lv_at hl 0 rfl) ?_
                  refine lv_if_ne (tgt := 205) hx hb dX7_order_199 (by decide) (fun cz => ?_) (fun cz => ?_)
                  · exact absurd rfl cz
                  · refine lv_bipush (v := (-3)) hx hb dX7_order_202 (by decide) ?_
                    exact nd_I hQ hx hb hr hlocks dX7_order_204 hS (⟨by rw [hs]; rfl, by rw [hs]; exact hM⟩)
              · rw [hkd] at eb
                exact absurd eb (by decide)
            · rw [hkd] at ea
              exact absurd ea (by decide)
          · have hs : rdO (M 6) n u0 N = (false, u0, N) := (if_neg e1).trans ((if_neg e2).trans (if_neg (fun q => q.elim e3 e4)))
            refine lv_bipush (v := (-3)) hx hb dX7_order_49 (by decide) ?_
            exact nd_I hQ hx hb hr hlocks dX7_order_51 hS (⟨by rw [hs]; rfl, by rw [hs]; exact hM⟩)

set_option maxHeartbeats 4000000 in
set_option maxRecDepth 100000 in
theorem k_X7_order1 (l : Launch) (G : GG) (w : Nat) (M : Nat → Nat → Int32) (n u0 : Nat) (N : Nat → Int32) (hn : n ≤ 80) (hp : u0 ≤ n) (h7 : M 7 0 = nI n) (hw : WF (M 0)) : Met l yX7_order (ws_ yX7_order cX7_order 4 (some .int)) (rm_ 5) (PC G [.ref w, .int 1] (MdAt G w (RdM M u0 N))) (QI (fun v H => v = (if (rdO (M 6) n u0 N).1 then (opO (M 0) (sgn (M 6) n u0) (rdO (M 6) n u0 N).2.2).1 else -3) ∧ MdAt G w (RdM (if (rdO (M 6) n u0 N).1 then updM M 0 (opO (M 0) (sgn (M 6) n u0) (rdO (M 6) n u0 N).2.2).2 else M) (rdO (M 6) n u0 N).2.1 (rdO (M 6) n u0 N).2.2) H) (In w 13)) 0 0 (In w 13) := by
  refine met_q (by decide +kernel) (Nat.le_of_ble_eq_true rfl) ?_
  intro p e s m args below meth c Q hQ hx hb hr hT hown hml hlocks hnm hK hM ls hl
  have hl : lv_has ls 4 [(0, .ref w), (1, .int 1)] := hl
  have hS : va_S (In w 13) s.heap s.heap [] := va_S.rf
  refine lv_aload_n hx hb dX7_order_0 rfl (lv_at hl 0 rfl) ?_
  refine rg (C := RX7) (T := TX7) (N := 16) (v := .int (nI u0)) hx hb hT inX7 hown hK hM.1 rfl 8 (by decide) mf_X7_158 rfl dX7_order_1 ?_
  refine lv_aload_n hx hb dX7_order_4 rfl (lv_at hl 0 rfl) ?_
  refine rg (C := RX7) (T := TX7) (N := 16) (v := .int (M 7 0)) hx hb hT inX7 hown hK hM.1 rfl 7 (by decide) mf_X7_139 rfl dX7_order_5 ?_
  rw [h7]
  refine lv_icmp_ge (tgt := 23) hx hb dX7_order_8 (by decide) (fun c1 => ?_) (fun c1 => ?_)
  · have hlt : ¬ u0 < n := by have := (nI_leI (by omega) (by omega)).mp c1; omega
    refine lv_iconst (v := 0) hx hb dX7_order_23 (by decide) ?_
    rw [show (0 : Int32) = sgn (M 6) n u0 from (sgn_out hlt).symm]
    refine lv_istore_n (lv' := [(2, .int (sgn (M 6) n u0)), (0, .ref w), (1, .int 1)]) hx hb dX7_order_24 rfl hl (by decide) rfl (fun ls hl => ?_)
    refine lv_iload_n hx hb dX7_order_25 rfl (lv_at hl 0 rfl) ?_
    refine lv_bipush (v := 43) hx hb dX7_order_26 (by decide) ?_
    refine lv_icmp_eq (tgt := 52) hx hb dX7_order_28 (by decide) (fun e1 => ?_) (fun e1 => ?_)
    · have hkd : sgn (M 6) n u0 = 43 := e1
      have hlt0 : u0 < n := sgn_y (by decide) hkd
      refine lv_aload_n hx hb dX7_order_52 rfl (lv_at hl 1 rfl) ?_
      refine lv_dup hx hb dX7_order_53 rfl ?_
      refine rg (C := RX7) (T := TX7) (N := 16) (v := .int (nI u0)) hx hb hT inX7 hown hK hM.1 rfl 8 (by decide) mf_X7_158 rfl dX7_order_54 ?_
      refine lv_iconst (v := 1) hx hb dX7_order_57 (by decide) ?_
      refine lv_iadd hx hb dX7_order_58 ?_
      rw [nI_1]
      refine rp (C := RX7) (T := TX7) (N := 16) (v := .int (nI (u0 + 1))) (ty := .int) hx hb hT inX7 tyX7 tyX7_ok nmX7 hown hK hM.1 rfl 8 (by decide) mf_X7_158 rfl (by decide +kernel) rfl rfl (Nat.le_of_ble_eq_true rfl) hS (show _ ∧ _ from ⟨by omega, by omega⟩) dX7_order_59 (fun H locs h1 o hS => ?_)
      have hM := hM.s8 h1 o
      rw [RdM_p] at hM
      have hs : rdO (M 6) n u0 N = rdP (M 6) n [35, 58, 35, 44, 35, 44, 35, 42, 35] (u0 + 1) 0 N := if_pos hkd
      refine lv_iload_n hx hb dX7_order_62 rfl (lv_at hl 0 rfl) ?_
      refine lv_bipush (v := 43) hx hb dX7_order_63 (by decide) ?_
      refine lv_icmp_ne (tgt := 153) hx hb dX7_order_65 (by decide) (fun ea => ?_) (fun ea => ?_)
      · exact absurd hkd ea
      · refine lv_aload_n hx hb dX7_order_68 rfl (lv_at hl 1 rfl) ?_
        refine lv_iconst (v := 0) hx hb dX7_order_69 (by decide) ?_
        refine got_I (run_i hx hb hml hown hT hK hl.1 (k_X7_number l G w M n (u0 + 1) N 0 hn (by omega) h7 (by omega)) (cw_X7_165 hT ⟨Nat.le_of_ble_eq_true rfl, Nat.le_of_ble_eq_true rfl⟩) hM.1 rfl hM rfl rfl (Nat.le_of_ble_eq_true rfl) dX7_order_70 ⟨Nat.zero_le _, Nat.zero_le _⟩) hS (fun q hq => hq) (fun q hq => hq) (fun v_2 H locs h1 hz hk hS => ?_)
        rcases h1 with ⟨hv, hD, hM⟩ | ⟨hv, hD, hM⟩
        · subst hv
          have hDn := hD.1
          have hle9 := nmF_le (T := M 6) 3 (dg (M 6) (u0 + 1)) ((u0 + 1) + 1) hDn
          obtain ⟨Uq_1, eUq_1⟩ : ∃ z1, z1 = (nmF (M 6) n 3 (dg (M 6) (u0 + 1)) ((u0 + 1) + 1)).2 := ⟨_, rfl⟩
          obtain ⟨Wq_1, eWq_1⟩ : ∃ z1, z1 = (nmF (M 6) n 3 (dg (M 6) (u0 + 1)) ((u0 + 1) + 1)).1 := ⟨_, rfl⟩
          rw [rdP_ny hD, ← eUq_1, ← eWq_1] at hs
          rw [← eUq_1, ← eWq_1] at hM
          rw [← eUq_1] at hle9
          refine lv_if_eq (tgt := 148) hx hb dX7_order_73 (by decide) (fun cf => ?_) (fun cf => ?_)
          · exact absurd cf (by decide)
          · refine lv_aload_n hx hb dX7_order_76 rfl (lv_at hl 1 rfl) ?_
            refine lv_bipush (v := 58) hx hb dX7_order_77 (by decide) ?_
            refine got_I (run_i hx hb hml hown hT hK hl.1 (k_X7_sign l G w M n Uq_1 (upd N 0 (nI Wq_1)) 58 hn (by omega) h7) (cw_X7_168 hT ⟨Nat.le_of_ble_eq_true rfl, Nat.le_of_ble_eq_true rfl⟩) hM.1 rfl hM rfl rfl (Nat.le_of_ble_eq_true rfl) dX7_order_79 ⟨Nat.zero_le _, Nat.zero_le _⟩) hS (fun q hq => hq) (fun q hq => hq) (fun v_4 H locs h1 hz hk hS => ?_)
            rcases h1 with ⟨hv, hD, hM⟩ | ⟨hv, hD, hM⟩
            · subst hv
              have hDn := hD.1
              rw [rdP_sy (by decide) (by decide) hD] at hs
              refine lv_if_eq (tgt := 148) hx hb dX7_order_82 (by decide) (fun cf => ?_) (fun cf => ?_)
              · exact absurd cf (by decide)
              · refine lv_aload_n hx hb dX7_order_85 rfl (lv_at hl 1 rfl) ?_
                refine lv_iconst (v := 1) hx hb dX7_order_86 (by decide) ?_
                refine got_I (run_i hx hb hml hown hT hK hl.1 (k_X7_number l G w M n (Uq_1 + 1) (upd N 0 (nI Wq_1)) 1 hn (by omega) h7 (by omega)) (cw_X7_165 hT ⟨Nat.le_of_ble_eq_true rfl, Nat.le_of_ble_eq_true rfl⟩) hM.1 rfl hM rfl rfl (Nat.le_of_ble_eq_true rfl) dX7_order_87 ⟨Nat.zero_le _, Nat.zero_le _⟩) hS (fun q hq => hq) (fun q hq => hq) (fun v_6 H locs h1 hz hk hS => ?_)
                rcases h1 with ⟨hv, hD, hM⟩ | ⟨hv, hD, hM⟩
                · subst hv
                  have hDn := hD.1
                  have hle9 := nmF_le (T := M 6) 3 (dg (M 6) (Uq_1 + 1)) ((Uq_1 + 1) + 1) hDn
                  obtain ⟨Uq_5, eUq_5⟩ : ∃ z1, z1 = (nmF (M 6) n 3 (dg (M 6) (Uq_1 + 1)) ((Uq_1 + 1) + 1)).2 := ⟨_, rfl⟩
                  obtain ⟨Wq_5, eWq_5⟩ : ∃ z1, z1 = (nmF (M 6) n 3 (dg (M 6) (Uq_1 + 1)) ((Uq_1 + 1) + 1)).1 := ⟨_, rfl⟩
                  rw [rdP_ny hD, ← eUq_5, ← eWq_5] at hs
                  rw [← eUq_5, ← eWq_5] at hM
                  rw [← eUq_5] at hle9
                  refine lv_if_eq (tgt := 148) hx hb dX7_order_90 (by decide) (fun cf => ?_) (fun cf => ?_)
                  · exact absurd cf (by decide)
                  · refine lv_aload_n hx hb dX7_order_93 rfl (lv_at hl 1 rfl) ?_
                    refine lv_bipush (v := 44) hx hb dX7_order_94 (by decide) ?_
                    refine got_I (run_i hx hb hml hown hT hK hl.1 (k_X7_sign l G w M n Uq_5 (upd (upd N 0 (nI Wq_1)) 1 (nI Wq_5)) 44 hn (by omega) h7) (cw_X7_168 hT ⟨Nat.le_of_ble_eq_true rfl, Nat.le_of_ble_eq_true rfl⟩) hM.1 rfl hM rfl rfl (Nat.le_of_ble_eq_true rfl) dX7_order_96 ⟨Nat.zero_le _, Nat.zero_le _⟩) hS (fun q hq => hq) (fun q hq => hq) (fun v_8 H locs h1 hz hk hS => ?_)
                    rcases h1 with ⟨hv, hD, hM⟩ | ⟨hv, hD, hM⟩
                    · subst hv
                      have hDn := hD.1
                      rw [rdP_sy (by decide) (by decide) hD] at hs
                      refine lv_if_eq (tgt := 148) hx hb dX7_order_99 (by decide) (fun cf => ?_) (fun cf => ?_)
                      · exact absurd cf (by decide)
                      · refine lv_aload_n hx hb dX7_order_102 rfl (lv_at hl 1 rfl) ?_
                        refine lv_iconst (v := 2) hx hb dX7_order_103 (by decide) ?_
                        refine got_I (run_i hx hb hml hown hT hK hl.1 (k_X7_number l G w M n (Uq_5 + 1) (upd (upd N 0 (nI Wq_1)) 1 (nI Wq_5)) 2 hn (by omega) h7 (by omega)) (cw_X7_165 hT ⟨Nat.le_of_ble_eq_true rfl, Nat.le_of_ble_eq_true rfl⟩) hM.1 rfl hM rfl rfl (Nat.le_of_ble_eq_true rfl) dX7_order_104 ⟨Nat.zero_le _, Nat.zero_le _⟩) hS (fun q hq => hq) (fun q hq => hq) (fun v_10 H locs h1 hz hk hS => ?_)
                        rcases h1 with ⟨hv, hD, hM⟩ | ⟨hv, hD, hM⟩
                        · subst hv
                          have hDn := hD.1
                          have hle9 := nmF_le (T := M 6) 3 (dg (M 6) (Uq_5 + 1)) ((Uq_5 + 1) + 1) hDn
                          obtain ⟨Uq_9, eUq_9⟩ : ∃ z1, z1 = (nmF (M 6) n 3 (dg (M 6) (Uq_5 + 1)) ((Uq_5 + 1) + 1)).2 := ⟨_, rfl⟩
                          obtain ⟨Wq_9, eWq_9⟩ : ∃ z1, z1 = (nmF (M 6) n 3 (dg (M 6) (Uq_5 + 1)) ((Uq_5 + 1) + 1)).1 := ⟨_, rfl⟩
                          rw [rdP_ny hD, ← eUq_9, ← eWq_9] at hs
                          rw [← eUq_9, ← eWq_9] at hM
                          rw [← eUq_9] at hle9
                          refine lv_if_eq (tgt := 148) hx hb dX7_order_107 (by decide) (fun cf => ?_) (fun cf => ?_)
                          · exact absurd cf (by decide)
                          · refine lv_aload_n hx hb dX7_order_110 rfl (lv_at hl 1 rfl) ?_
                            refine lv_bipush (v := 44) hx hb dX7_order_111 (by decide) ?_
                            refine got_I (run_i hx hb hml hown hT hK hl.1 (k_X7_sign l G w M n Uq_9 (upd (upd (upd N 0 (nI Wq_1)) 1 (nI Wq_5)) 2 (nI Wq_9)) 44 hn (by omega) h7) (cw_X7_168 hT ⟨Nat.le_of_ble_eq_true rfl, Nat.le_of_ble_eq_true rfl⟩) hM.1 rfl hM rfl rfl (Nat.le_of_ble_eq_true rfl) dX7_order_113 ⟨Nat.zero_le _, Nat.zero_le _⟩) hS (fun q hq => hq) (fun q hq => hq) (fun v_12 H locs h1 hz hk hS => ?_)
                            rcases h1 with ⟨hv, hD, hM⟩ | ⟨hv, hD, hM⟩
                            · subst hv
                              have hDn := hD.1
                              rw [rdP_sy (by decide) (by decide) hD] at hs
                              refine lv_if_eq (tgt := 148) hx hb dX7_order_116 (by decide) (fun cf => ?_) (fun cf => ?_)
                              · exact absurd cf (by decide)
                              · refine lv_aload_n hx hb dX7_order_119 rfl (lv_at hl 1 rfl) ?_
                                refine lv_iconst (v := 3) hx hb dX7_order_120 (by decide) ?_
                                refine got_I (run_i hx hb hml hown hT hK hl.1 (k_X7_number l G w M n (Uq_9 + 1) (upd (upd (upd N 0 (nI Wq_1)) 1 (nI Wq_5)) 2 (nI Wq_9)) 3 hn (by omega) h7 (by omega)) (cw_X7_165 hT ⟨Nat.le_of_ble_eq_true rfl, Nat.le_of_ble_eq_true rfl⟩) hM.1 rfl hM rfl rfl (Nat.le_of_ble_eq_true rfl) dX7_order_121 ⟨Nat.zero_le _, Nat.zero_le _⟩) hS (fun q hq => hq) (fun q hq => hq) (fun v_14 H locs h1 hz hk hS => ?_)
                                rcases h1 with ⟨hv, hD, hM⟩ | ⟨hv, hD, hM⟩
                                · subst hv
                                  have hDn := hD.1
                                  have hle9 := nmF_le (T := M 6) 3 (dg (M 6) (Uq_9 + 1)) ((Uq_9 + 1) + 1) hDn
                                  obtain ⟨Uq_13, eUq_13⟩ : ∃ z1, z1 = (nmF (M 6) n 3 (dg (M 6) (Uq_9 + 1)) ((Uq_9 + 1) + 1)).2 := ⟨_, rfl⟩
                                  obtain ⟨Wq_13, eWq_13⟩ : ∃ z1, z1 = (nmF (M 6) n 3 (dg (M 6) (Uq_9 + 1)) ((Uq_9 + 1) + 1)).1 := ⟨_, rfl⟩
                                  rw [rdP_ny hD, ← eUq_13, ← eWq_13] at hs
                                  rw [← eUq_13, ← eWq_13] at hM
                                  rw [← eUq_13] at hle9
                                  refine lv_if_eq (tgt := 148) hx hb dX7_order_124 (by decide) (fun cf => ?_) (fun cf => ?_)
                                  · exact absurd cf (by decide)
                                  · refine lv_aload_n hx hb dX7_order_127 rfl (lv_at hl 1 rfl) ?_
                                    refine lv_bipush (v := 42) hx hb dX7_order_128 (by decide) ?_
                                    refine got_I (run_i hx hb hml hown hT hK hl.1 (k_X7_sign l G w M n Uq_13 (upd (upd (upd (upd N 0 (nI Wq_1)) 1 (nI Wq_5)) 2 (nI Wq_9)) 3 (nI Wq_13)) 42 hn (by omega) h7) (cw_X7_168 hT ⟨Nat.le_of_ble_eq_true rfl, Nat.le_of_ble_eq_true rfl⟩) hM.1 rfl hM rfl rfl (Nat.le_of_ble_eq_true rfl) dX7_order_130 ⟨Nat.zero_le _, Nat.zero_le _⟩) hS (fun q hq => hq) (fun q hq => hq) (fun v_16 H locs h1 hz hk hS => ?_)
                                    rcases h1 with ⟨hv, hD, hM⟩ | ⟨hv, hD, hM⟩
                                    · subst hv
                                      have hDn := hD.1
                                      rw [rdP_sy (by decide) (by decide) hD] at hs
                                      refine lv_if_eq (tgt := 148) hx hb dX7_order_133 (by decide) (fun cf => ?_) (fun cf => ?_)
                                      · exact absurd cf (by decide)
                                      · refine lv_aload_n hx hb dX7_order_136 rfl (lv_at hl 1 rfl) ?_
                                        refine lv_iconst (v := 4) hx hb dX7_order_137 (by decide) ?_
                                        refine got_I (run_i hx hb hml hown hT hK hl.1 (k_X7_number l G w M n (Uq_13 + 1) (upd (upd (upd (upd N 0 (nI Wq_1)) 1 (nI Wq_5)) 2 (nI Wq_9)) 3 (nI Wq_13)) 4 hn (by omega) h7 (by omega)) (cw_X7_165 hT ⟨Nat.le_of_ble_eq_true rfl, Nat.le_of_ble_eq_true rfl⟩) hM.1 rfl hM rfl rfl (Nat.le_of_ble_eq_true rfl) dX7_order_138 ⟨Nat.zero_le _, Nat.zero_le _⟩) hS (fun q hq => hq) (fun q hq => hq) (fun v_18 H locs h1 hz hk hS => ?_)
                                        rcases h1 with ⟨hv, hD, hM⟩ | ⟨hv, hD, hM⟩
                                        · subst hv
                                          have hDn := hD.1
                                          have hle9 := nmF_le (T := M 6) 3 (dg (M 6) (Uq_13 + 1)) ((Uq_13 + 1) + 1) hDn
                                          obtain ⟨Uq_17, eUq_17⟩ : ∃ z1, z1 = (nmF (M 6) n 3 (dg (M 6) (Uq_13 + 1)) ((Uq_13 + 1) + 1)).2 := ⟨_, rfl⟩
                                          obtain ⟨Wq_17, eWq_17⟩ : ∃ z1, z1 = (nmF (M 6) n 3 (dg (M 6) (Uq_13 + 1)) ((Uq_13 + 1) + 1)).1 := ⟨_, rfl⟩
                                          rw [rdP_ny hD, ← eUq_17, ← eWq_17] at hs
                                          rw [← eUq_17, ← eWq_17] at hM
                                          rw [← eUq_17] at hle9
                                          refine lv_if_eq (tgt := 148) hx hb dX7_order_141 (by decide) (fun cf => ?_) (fun cf => ?_)
                                          · exact absurd cf (by decide)
                                          · have hs : rdO (M 6) n u0 N = (true, Uq_17, upd (upd (upd (upd (upd N 0 (nI Wq_1)) 1 (nI Wq_5)) 2 (nI Wq_9)) 3 (nI Wq_13)) 4 (nI Wq_17)) := hs
                                            refine lv_iconst (v := 1) hx hb dX7_order_144 (by decide) ?_
                                            refine lv_goto (tgt := 149) hx hb dX7_order_145 (by decide) ?_
                                            refine lv_istore_n (lv' := [(3, .int 1), (2, .int (sgn (M 6) n u0)), (0, .ref w), (1, .int 1)]) hx hb dX7_order_149 rfl hl (by decide) rfl (fun ls hl => ?_)
                                            refine lv_goto (tgt := 198) hx hb dX7_order_150 (by decide) ?_
                                            refine lv_iload_n hx hb dX7_order_198 rfl (lv_at hl 0 rfl) ?_
                                            refine lv_if_ne (tgt := 205) hx hb dX7_order_199 (by decide) (fun cg => ?_) (fun cg => ?_)
                                            · refine lv_iload_n hx hb dX7_order_205 rfl (lv_at hl 3 rfl) ?_
                                              refine lv_if_ne (tgt := 211) hx hb dX7_order_206 (by decide) (fun ch => ?_) (fun ch => ?_)
                                              · refine lv_iload_n hx hb dX7_order_211 rfl (lv_at hl 1 rfl) ?_
                                                refine lv_bipush (v := 43) hx hb dX7_order_212 (by decide) ?_
                                                refine lv_icmp_ne (tgt := 254) hx hb dX7_order_214 (by decide) (fun ci => ?_) (fun ci => ?_)
                                                · exact absurd hkd ci
                                                · refine lv_aload_n hx hb dX7_order_217 rfl (lv_at hl 2 rfl) ?_
                                                  refine lv_aload_n hx hb dX7_order_218 rfl (lv_at hl 2 rfl) ?_
                                                  refine rg (C := RX7) (T := TX7) (N := 16) (v := .ref (w + 8)) hx hb hT inX7 hown hK hM.1 rfl 10 (by decide) mf_X7_32 rfl dX7_order_219 ?_
                                                  refine lv_iconst (v := 0) hx hb dX7_order_222 (by decide) ?_
                                                  refine r_ialdS (y := (upd (upd (upd (upd (upd N 0 (nI Wq_1)) 1 (nI Wq_5)) 2 (nI Wq_9)) 3 (nI Wq_13)) 4 (nI Wq_17)) 0) hx hb hK hM.2.2.2.2.2.2.2.2.1 0 (by decide) (by omega) (Nat.le_of_ble_eq_true rfl) rfl dX7_order_223 ?_
                                                  refine lv_aload_n hx hb dX7_order_224 rfl (lv_at hl 2 rfl) ?_
                                                  refine rg (C := RX7) (T := TX7) (N := 16) (v := .ref (w + 8)) hx hb hT inX7 hown hK hM.1 rfl 10 (by decide) mf_X7_32 rfl dX7_order_225 ?_
                                                  refine lv_iconst (v := 1) hx hb dX7_order_228 (by decide) ?_
                                                  refine r_ialdS (y := (upd (upd (upd (upd (upd N 0 (nI Wq_1)) 1 (nI Wq_5)) 2 (nI Wq_9)) 3 (nI Wq_13)) 4 (nI Wq_17)) 1) hx hb hK hM.2.2.2.2.2.2.2.2.1 1 (by decide) (by omega) (Nat.le_of_ble_eq_true rfl) rfl dX7_order_229 ?_
                                                  refine lv_aload_n hx hb dX7_order_230 rfl (lv_at hl 2 rfl) ?_
                                                  refine rg (C := RX7) (T := TX7) (N := 16) (v := .ref (w + 8)) hx hb hT inX7 hown hK hM.1 rfl 10 (by decide) mf_X7_32 rfl dX7_order_231 ?_
                                                  refine lv_iconst (v := 2) hx hb dX7_order_234 (by decide) ?_
                                                  refine r_ialdS (y := (upd (upd (upd (upd (upd N 0 (nI Wq_1)) 1 (nI Wq_5)) 2 (nI Wq_9)) 3 (nI Wq_13)) 4 (nI Wq_17)) 2) hx hb hK hM.2.2.2.2.2.2.2.2.1 2 (by decide) (by omega) (Nat.le_of_ble_eq_true rfl) rfl dX7_order_235 ?_
                                                  refine lv_aload_n hx hb dX7_order_236 rfl (lv_at hl 2 rfl) ?_
                                                  refine rg (C := RX7) (T := TX7) (N := 16) (v := .ref (w + 8)) hx hb hT inX7 hown hK hM.1 rfl 10 (by decide) mf_X7_32 rfl dX7_order_237 ?_
                                                  refine lv_iconst (v := 3) hx hb dX7_order_240 (by decide) ?_
                                                  refine r_ialdS (y := (upd (upd (upd (upd (upd N 0 (nI Wq_1)) 1 (nI Wq_5)) 2 (nI Wq_9)) 3 (nI Wq_13)) 4 (nI Wq_17)) 3) hx hb hK hM.2.2.2.2.2.2.2.2.1 3 (by decide) (by omega) (Nat.le_of_ble_eq_true rfl) rfl dX7_order_241 ?_
                                                  refine lv_aload_n hx hb dX7_order_242 rfl (lv_at hl 2 rfl) ?_
                                                  refine rg (C := RX7) (T := TX7) (N := 16) (v := .ref (w + 8)) hx hb hT inX7 hown hK hM.1 rfl 10 (by decide) mf_X7_32 rfl dX7_order_243 ?_
                                                  refine lv_iconst (v := 4) hx hb dX7_order_246 (by decide) ?_
                                                  refine r_ialdS (y := (upd (upd (upd (upd (upd N 0 (nI Wq_1)) 1 (nI Wq_5)) 2 (nI Wq_9)) 3 (nI Wq_13)) 4 (nI Wq_17)) 4) hx hb hK hM.2.2.2.2.2.2.2.2.1 4 (by decide) (by omega) (Nat.le_of_ble_eq_true rfl) rfl dX7_order_247 ?_
                                                  refine got_I (run_i hx hb hml hown hT hK hl.1 (k_X7_comes l G w (RdM M Uq_17 (upd (upd (upd (upd (upd N 0 (nI Wq_1)) 1 (nI Wq_5)) 2 (nI Wq_9)) 3 (nI Wq_13)) 4 (nI Wq_17))) ((upd (upd (upd (upd (upd N 0 (nI Wq_1)) 1 (nI Wq_5)) 2 (nI Wq_9)) 3 (nI Wq_13)) 4 (nI Wq_17)) 0) ((upd (upd (upd (upd (upd N 0 (nI Wq_1)) 1 (nI Wq_5)) 2 (nI Wq_9)) 3 (nI Wq_13)) 4 (nI Wq_17)) 1) ((upd (upd (upd (upd (upd N 0 (nI Wq_1)) 1 (nI Wq_5)) 2 (nI Wq_9)) 3 (nI Wq_13)) 4 (nI Wq_17)) 2) ((upd (upd (upd (upd (upd N 0 (nI Wq_1)) 1 (nI Wq_5)) 2 (nI Wq_9)) 3 (nI Wq_13)) 4 (nI Wq_17)) 3) ((upd (upd (upd (upd (upd N 0 (nI Wq_1)) 1 (nI Wq_5)) 2 (nI Wq_9)) 3 (nI Wq_13)) 4 (nI Wq_17)) 4) hw) (cw_X7_116 hT ⟨Nat.le_of_ble_eq_true rfl, Nat.le_of_ble_eq_true rfl⟩) hM.1 rfl hM rfl rfl (Nat.le_of_ble_eq_true rfl) dX7_order_248 ⟨Nat.zero_le _, Nat.zero_le _⟩) hS (fun q hq => hq) (fun q hq => hq) (fun v_19 H locs h1 hz hk hS => ?_)
                                                  obtain ⟨hv, hM⟩ := h1
                                                  rw [RdM_0] at hM
                                                  have ho : opO (M 0) (sgn (M 6) n u0) (upd (upd (upd (upd (upd N 0 (nI Wq_1)) 1 (nI Wq_5)) 2 (nI Wq_9)) 3 (nI Wq_13)) 4 (nI Wq_17)) = adO (M 0) ((upd (upd (upd (upd (upd N 0 (nI Wq_1)) 1 (nI Wq_5)) 2 (nI Wq_9)) 3 (nI Wq_13)) 4 (nI Wq_17)) 0) ((upd (upd (upd (upd (upd N 0 (nI Wq_1)) 1 (nI Wq_5)) 2 (nI Wq_9)) 3 (nI Wq_13)) 4 (nI Wq_17)) 1) ((upd (upd (upd (upd (upd N 0 (nI Wq_1)) 1 (nI Wq_5)) 2 (nI Wq_9)) 3 (nI Wq_13)) 4 (nI Wq_17)) 2) ((upd (upd (upd (upd (upd N 0 (nI Wq_1)) 1 (nI Wq_5)) 2 (nI Wq_9)) 3 (nI Wq_13)) 4 (nI Wq_17)) 3) ((upd (upd (upd (upd (upd N 0 (nI Wq_1)) 1 (nI Wq_5)) 2 (nI Wq_9)) 3 (nI Wq_13)) 4 (nI Wq_17)) 4) := if_pos hkd
                                                  refine lv_goto (tgt := 308) hx hb dX7_order_251 (by decide) ?_
                                                  exact nd_I hQ hx hb hr hlocks dX7_order_308 hS (⟨by rw [hs]; show _ = (opO (M 0) (sgn (M 6) n u0) (upd (upd (upd (upd (upd N 0 (nI Wq_1)) 1 (nI Wq_5)) 2 (nI Wq_9)) 3 (nI Wq_13)) 4 (nI Wq_17))).1; rw [ho]; exact hv, by rw [hs]; show MdAt G w (RdM (updM M 0 (opO (M 0) (sgn (M 6) n u0) (upd (upd (upd (upd (upd N 0 (nI Wq_1)) 1 (nI Wq_5)) 2 (nI Wq_9)) 3 (nI Wq_13)) 4 (nI Wq_17))).2) (Uq_17) (upd (upd (upd (upd (upd N 0 (nI Wq_1)) 1 (nI Wq_5)) 2 (nI Wq_9)) 3 (nI Wq_13)) 4 (nI Wq_17))) H; rw [ho]; exact hM⟩)
                                              · exact absurd ch (by decide)
                                            · exact absurd cg (by decide)
                                        · subst hv
                                          rw [rdP_nn hD] at hs
                                          refine lv_if_eq (tgt := 148) hx hb dX7_order_141 (by decide) (fun cf => ?_) (fun cf => ?_)
                                          · refine lv_iconst (v := 0) hx hb dX7_order_148 (by decide) ?_
                                            refine lv_istore_n (lv' := [(3, .int 0), (2, .int (sgn (M 6) n u0)), (0, .ref w), (1, .int 1)]) hx hb dX7_order_149 rfl hl (by decide) rfl (fun ls hl => ?_)
                                            refine lv_goto (tgt := 198) hx hb dX7_order_150 (by decide) ?_
                                            refine lv_iload_n hx hb dX7_order_198 rfl (lv_at hl 0 rfl) ?_
                                            refine lv_if_ne (tgt := 205) hx hb dX7_order_199 (by decide) (fun cz => ?_) (fun cz => ?_)
                                            · exact absurd rfl cz
                                            · refine lv_bipush (v := (-3)) hx hb dX7_order_202 (by decide) ?_
                                              exact nd_I hQ hx hb hr hlocks dX7_order_204 hS (⟨by rw [hs]; rfl, by rw [hs]; exact hM⟩)
                                          · exact absurd rfl cf
                                    · subst hv
                                      rw [rdP_sn (by decide) (by decide) hD] at hs
                                      refine lv_if_eq (tgt := 148) hx hb dX7_order_133 (by decide) (fun cf => ?_) (fun cf => ?_)
                                      · refine lv_iconst (v := 0) hx hb dX7_order_148 (by decide) ?_
                                        refine lv_istore_n (lv' := [(3, .int 0), (2, .int (sgn (M 6) n u0)), (0, .ref w), (1, .int 1)]) hx hb dX7_order_149 rfl hl (by decide) rfl (fun ls hl => ?_)
                                        refine lv_goto (tgt := 198) hx hb dX7_order_150 (by decide) ?_
                                        refine lv_iload_n hx hb dX7_order_198 rfl (lv_at hl 0 rfl) ?_
                                        refine lv_if_ne (tgt := 205) hx hb dX7_order_199 (by decide) (fun cz => ?_) (fun cz => ?_)
                                        · exact absurd rfl cz
                                        · refine lv_bipush (v := (-3)) hx hb dX7_order_202 (by decide) ?_
                                          exact nd_I hQ hx hb hr hlocks dX7_order_204 hS (⟨by rw [hs]; rfl, by rw [hs]; exact hM⟩)
                                      · exact absurd rfl cf
                                · subst hv
                                  rw [rdP_nn hD] at hs
                                  refine lv_if_eq (tgt := 148) hx hb dX7_order_124 (by decide) (fun cf => ?_) (fun cf => ?_)
                                  · refine lv_iconst (v := 0) hx hb dX7_order_148 (by decide) ?_
                                    refine lv_istore_n (lv' := [(3, .int 0), (2, .int (sgn (M 6) n u0)), (0, .ref w), (1, .int 1)]) hx hb dX7_order_149 rfl hl (by decide) rfl (fun ls hl => ?_)
                                    refine lv_goto (tgt := 198) hx hb dX7_order_150 (by decide) ?_
                                    refine lv_iload_n hx hb dX7_order_198 rfl (lv_at hl 0 rfl) ?_
                                    refine lv_if_ne (tgt := 205) hx hb dX7_order_199 (by decide) (fun cz => ?_) (fun cz => ?_)
                                    · exact absurd rfl cz
                                    · refine lv_bipush (v := (-3)) hx hb dX7_order_202 (by decide) ?_
                                      exact nd_I hQ hx hb hr hlocks dX7_order_204 hS (⟨by rw [hs]; rfl, by rw [hs]; exact hM⟩)
                                  · exact absurd rfl cf
                            · subst hv
                              rw [rdP_sn (by decide) (by decide) hD] at hs
                              refine lv_if_eq (tgt := 148) hx hb dX7_order_116 (by decide) (fun cf => ?_) (fun cf => ?_)
                              · refine lv_iconst (v := 0) hx hb dX7_order_148 (by decide) ?_
                                refine lv_istore_n (lv' := [(3, .int 0), (2, .int (sgn (M 6) n u0)), (0, .ref w), (1, .int 1)]) hx hb dX7_order_149 rfl hl (by decide) rfl (fun ls hl => ?_)
                                refine lv_goto (tgt := 198) hx hb dX7_order_150 (by decide) ?_
                                refine lv_iload_n hx hb dX7_order_198 rfl (lv_at hl 0 rfl) ?_
                                refine lv_if_ne (tgt := 205) hx hb dX7_order_199 (by decide) (fun cz => ?_) (fun cz => ?_)
                                · exact absurd rfl cz
                                · refine lv_bipush (v := (-3)) hx hb dX7_order_202 (by decide) ?_
                                  exact nd_I hQ hx hb hr hlocks dX7_order_204 hS (⟨by rw [hs]; rfl, by rw [hs]; exact hM⟩)
                              · exact absurd rfl cf
                        · subst hv
                          rw [rdP_nn hD] at hs
                          refine lv_if_eq (tgt := 148) hx hb dX7_order_107 (by decide) (fun cf => ?_) (fun cf => ?_)
                          · refine lv_iconst (v := 0) hx hb dX7_order_148 (by decide) ?_
                            refine lv_istore_n (lv' := [(3, .int 0), (2, .int (sgn (M 6) n u0)), (0, .ref w), (1, .int 1)]) hx hb dX7_order_149 rfl hl (by decide) rfl (fun ls hl => ?_)
                            refine lv_goto (tgt := 198) hx hb dX7_order_150 (by decide) ?_
                            refine lv_iload_n hx hb dX7_order_198 rfl (lv_at hl 0 rfl) ?_
                            refine lv_if_ne (tgt := 205) hx hb dX7_order_199 (by decide) (fun cz => ?_) (fun cz => ?_)
                            · exact absurd rfl cz
                            · refine lv_bipush (v := (-3)) hx hb dX7_order_202 (by decide) ?_
                              exact nd_I hQ hx hb hr hlocks dX7_order_204 hS (⟨by rw [hs]; rfl, by rw [hs]; exact hM⟩)
                          · exact absurd rfl cf
                    · subst hv
                      rw [rdP_sn (by decide) (by decide) hD] at hs
                      refine lv_if_eq (tgt := 148) hx hb dX7_order_99 (by decide) (fun cf => ?_) (fun cf => ?_)
                      · refine lv_iconst (v := 0) hx hb dX7_order_148 (by decide) ?_
                        refine lv_istore_n (lv' := [(3, .int 0), (2, .int (sgn (M 6) n u0)), (0, .ref w), (1, .int 1)]) hx hb dX7_order_149 rfl hl (by decide) rfl (fun ls hl => ?_)
                        refine lv_goto (tgt := 198) hx hb dX7_order_150 (by decide) ?_
                        refine lv_iload_n hx hb dX7_order_198 rfl (lv_at hl 0 rfl) ?_
                        refine lv_if_ne (tgt := 205) hx hb dX7_order_199 (by decide) (fun cz => ?_) (fun cz => ?_)
                        · exact absurd rfl cz
                        · refine lv_bipush (v := (-3)) hx hb dX7_order_202 (by decide) ?_
                          exact nd_I hQ hx hb hr hlocks dX7_order_204 hS (⟨by rw [hs]; rfl, by rw [hs]; exact hM⟩)
                      · exact absurd rfl cf
                · subst hv
                  rw [rdP_nn hD] at hs
                  refine lv_if_eq (tgt := 148) hx hb dX7_order_90 (by decide) (fun cf => ?_) (fun cf => ?_)
                  · refine lv_iconst (v := 0) hx hb dX7_order_148 (by decide) ?_
                    refine lv_istore_n (lv' := [(3, .int 0), (2, .int (sgn (M 6) n u0)), (0, .ref w), (1, .int 1)]) hx hb dX7_order_149 rfl hl (by decide) rfl (fun ls hl => ?_)
                    refine lv_goto (tgt := 198) hx hb dX7_order_150 (by decide) ?_
                    refine lv_iload_n hx hb dX7_order_198 rfl (lv_at hl 0 rfl) ?_
                    refine lv_if_ne (tgt := 205) hx hb dX7_order_199 (by decide) (fun cz => ?_) (fun cz => ?_)
                    · exact absurd rfl cz
                    · refine lv_bipush (v := (-3)) hx hb dX7_order_202 (by decide) ?_
                      exact nd_I hQ hx hb hr hlocks dX7_order_204 hS (⟨by rw [hs]; rfl, by rw [hs]; exact hM⟩)
                  · exact absurd rfl cf
            · subst hv
              rw [rdP_sn (by decide) (by decide) hD] at hs
              refine lv_if_eq (tgt := 148) hx hb dX7_order_82 (by decide) (fun cf => ?_) (fun cf => ?_)
              · refine lv_iconst (v := 0) hx hb dX7_order_148 (by decide) ?_
                refine lv_istore_n (lv' := [(3, .int 0), (2, .int (sgn (M 6) n u0)), (0, .ref w), (1, .int 1)]) hx hb dX7_order_149 rfl hl (by decide) rfl (fun ls hl => ?_)
                refine lv_goto (tgt := 198) hx hb dX7_order_150 (by decide) ?_
                refine lv_iload_n hx hb dX7_order_198 rfl (lv_at hl 0 rfl) ?_
                refine lv_if_ne (tgt := 205) hx hb dX7_order_199 (by decide) (fun cz => ?_) (fun cz => ?_)
                · exact absurd rfl cz
                · refine lv_bipush (v := (-3)) hx hb dX7_order_202 (by decide) ?_
                  exact nd_I hQ hx hb hr hlocks dX7_order_204 hS (⟨by rw [hs]; rfl, by rw [hs]; exact hM⟩)
              · exact absurd rfl cf
        · subst hv
          rw [rdP_nn hD] at hs
          refine lv_if_eq (tgt := 148) hx hb dX7_order_73 (by decide) (fun cf => ?_) (fun cf => ?_)
          · refine lv_iconst (v := 0) hx hb dX7_order_148 (by decide) ?_
            refine lv_istore_n (lv' := [(3, .int 0), (2, .int (sgn (M 6) n u0)), (0, .ref w), (1, .int 1)]) hx hb dX7_order_149 rfl hl (by decide) rfl (fun ls hl => ?_)
            refine lv_goto (tgt := 198) hx hb dX7_order_150 (by decide) ?_
            refine lv_iload_n hx hb dX7_order_198 rfl (lv_at hl 0 rfl) ?_
            refine lv_if_ne (tgt := 205) hx hb dX7_order_199 (by decide) (fun cz => ?_) (fun cz => ?_)
            · exact absurd rfl cz
            · refine lv_bipush (v := (-3)) hx hb dX7_order_202 (by decide) ?_
              exact nd_I hQ hx hb hr hlocks dX7_order_204 hS (⟨by rw [hs]; rfl, by rw [hs]; exact hM⟩)
          · exact absurd rfl cf
    · refine lv_iload_n hx hb dX7_order_31 rfl (lv_at hl 0 rfl) ?_
      refine lv_bipush (v := 115) hx hb dX7_order_32 (by decide) ?_
      refine lv_icmp_eq (tgt := 52) hx hb dX7_order_34 (by decide) (fun e2 => ?_) (fun e2 => ?_)
      · have hkd : sgn (M 6) n u0 = 115 := e2
        have hlt0 : u0 < n := sgn_y (by decide) hkd
        refine lv_aload_n hx hb dX7_order_52 rfl (lv_at hl 1 rfl) ?_
        refine lv_dup hx hb dX7_order_53 rfl ?_
        refine rg (C := RX7) (T := TX7) (N := 16) (v := .int (nI u0)) hx hb hT inX7 hown hK hM.1 rfl 8 (by decide) mf_X7_158 rfl dX7_order_54 ?_
        refine lv_iconst (v := 1) hx hb dX7_order_57 (by decide) ?_
        refine lv_iadd hx hb dX7_order_58 ?_
        rw [nI_1]
        refine rp (C := RX7) (T := TX7) (N := 16) (v := .int (nI (u0 + 1))) (ty := .int) hx hb hT inX7 tyX7 tyX7_ok nmX7 hown hK hM.1 rfl 8 (by decide) mf_X7_158 rfl (by decide +kernel) rfl rfl (Nat.le_of_ble_eq_true rfl) hS (show _ ∧ _ from ⟨by omega, by omega⟩) dX7_order_59 (fun H locs h1 o hS => ?_)
        have hM := hM.s8 h1 o
        rw [RdM_p] at hM
        have hs : rdO (M 6) n u0 N = rdP (M 6) n [37, 61, 35] (u0 + 1) 0 N := (if_neg (by rw [hkd]; decide)).trans (if_pos hkd)
        refine lv_iload_n hx hb dX7_order_62 rfl (lv_at hl 0 rfl) ?_
        refine lv_bipush (v := 43) hx hb dX7_order_63 (by decide) ?_
        refine lv_icmp_ne (tgt := 153) hx hb dX7_order_65 (by decide) (fun ea => ?_) (fun ea => ?_)
        · refine lv_iload_n hx hb dX7_order_153 rfl (lv_at hl 0 rfl) ?_
          refine lv_bipush (v := 115) hx hb dX7_order_154 (by decide) ?_
          refine lv_icmp_ne (tgt := 192) hx hb dX7_order_156 (by decide) (fun eb => ?_) (fun eb => ?_)
          · exact absurd hkd eb
          · refine lv_aload_n hx hb dX7_order_159 rfl (lv_at hl 1 rfl) ?_
            refine got_I (run_i hx hb hml hown hT hK hl.1 (k_X7_digit l G w M n (u0 + 1) N hn (by omega) h7) (cw_X7_171 hT ⟨Nat.le_of_ble_eq_true rfl, Nat.le_of_ble_eq_true rfl⟩) hM.1 rfl hM rfl rfl (Nat.le_of_ble_eq_true rfl) dX7_order_160 ⟨Nat.zero_le _, Nat.zero_le _⟩) hS (fun q hq => hq) (fun q hq => hq) (fun v_21 H locs h1 hz hk hS => ?_)
            rcases h1 with ⟨hv, hD, hM⟩ | ⟨hv, hD, hM⟩
            · subst hv
              have hDn := hD.1
              rw [rdP_dy hD] at hs
              refine lv_if_eq (tgt := 187) hx hb dX7_order_163 (by decide) (fun cf => ?_) (fun cf => ?_)
              · exact absurd cf (by decide)
              · refine lv_aload_n hx hb dX7_order_166 rfl (lv_at hl 1 rfl) ?_
                refine lv_bipush (v := 61) hx hb dX7_order_167 (by decide) ?_
                refine got_I (run_i hx hb hml hown hT hK hl.1 (k_X7_sign l G w M n (u0 + 1 + 1) (upd N 0 (nI (dg (M 6) (u0 + 1)))) 61 hn (by omega) h7) (cw_X7_168 hT ⟨Nat.le_of_ble_eq_true rfl, Nat.le_of_ble_eq_true rfl⟩) hM.1 rfl hM rfl rfl (Nat.le_of_ble_eq_true rfl) dX7_order_169 ⟨Nat.zero_le _, Nat.zero_le _⟩) hS (fun q hq => hq) (fun q hq => hq) (fun v_23 H locs h1 hz hk hS => ?_)
                rcases h1 with ⟨hv, hD, hM⟩ | ⟨hv, hD, hM⟩
                · subst hv
                  have hDn := hD.1
                  rw [rdP_sy (by decide) (by decide) hD] at hs
                  refine lv_if_eq (tgt := 187) hx hb dX7_order_172 (by decide) (fun cf => ?_) (fun cf => ?_)
                  · exact absurd cf (by decide)
                  · refine lv_aload_n hx hb dX7_order_175 rfl (lv_at hl 1 rfl) ?_
                    refine lv_iconst (v := 1) hx hb dX7_order_176 (by decide) ?_
                    refine got_I (run_i hx hb hml hown hT hK hl.1 (k_X7_number l G w M n (u0 + 1 + 1 + 1) (upd N 0 (nI (dg (M 6) (u0 + 1)))) 1 hn (by omega) h7 (by omega)) (cw_X7_165 hT ⟨Nat.le_of_ble_eq_true rfl, Nat.le_of_ble_eq_true rfl⟩) hM.1 rfl hM rfl rfl (Nat.le_of_ble_eq_true rfl) dX7_order_177 ⟨Nat.zero_le _, Nat.zero_le _⟩) hS (fun q hq => hq) (fun q hq => hq) (fun v_25 H locs h1 hz hk hS => ?_)
                    rcases h1 with ⟨hv, hD, hM⟩ | ⟨hv, hD, hM⟩
                    · subst hv
                      have hDn := hD.1
                      have hle9 := nmF_le (T := M 6) 3 (dg (M 6) (u0 + 1 + 1 + 1)) ((u0 + 1 + 1 + 1) + 1) hDn
                      obtain ⟨Uq_24, eUq_24⟩ : ∃ z1, z1 = (nmF (M 6) n 3 (dg (M 6) (u0 + 1 + 1 + 1)) ((u0 + 1 + 1 + 1) + 1)).2 := ⟨_, rfl⟩
                      obtain ⟨Wq_24, eWq_24⟩ : ∃ z1, z1 = (nmF (M 6) n 3 (dg (M 6) (u0 + 1 + 1 + 1)) ((u0 + 1 + 1 + 1) + 1)).1 := ⟨_, rfl⟩
                      rw [rdP_ny hD, ← eUq_24, ← eWq_24] at hs
                      rw [← eUq_24, ← eWq_24] at hM
                      rw [← eUq_24] at hle9
                      refine lv_if_eq (tgt := 187) hx hb dX7_order_180 (by decide) (fun cf => ?_) (fun cf => ?_)
                      · exact absurd cf (by decide)
                      · have hs : rdO (M 6) n u0 N = (true, Uq_24, upd (upd N 0 (nI (dg (M 6) (u0 + 1)))) 1 (nI Wq_24)) := hs
                        refine lv_iconst (v := 1) hx hb dX7_order_183 (by decide) ?_
                        refine lv_goto (tgt := 188) hx hb dX7_order_184 (by decide) ?_
                        refine lv_istore_n (lv' := [(3, .int 1), (2, .int (sgn (M 6) n u0)), (0, .ref w), (1, .int 1)]) hx hb dX7_order_188 rfl hl (by decide) rfl (fun ls hl => ?_)
                        refine lv_goto (tgt := 198) hx hb dX7_order_189 (by decide) ?_
                        refine lv_iload_n hx hb dX7_order_198 rfl (lv_at hl 0 rfl) ?_
                        refine lv_if_ne (tgt := 205) hx hb dX7_order_199 (by decide) (fun cg => ?_) (fun cg => ?_)
                        · refine lv_iload_n hx hb dX7_order_205 rfl (lv_at hl 3 rfl) ?_
                          refine lv_if_ne (tgt := 211) hx hb dX7_order_206 (by decide) (fun ch => ?_) (fun ch => ?_)
                          · refine lv_iload_n hx hb dX7_order_211 rfl (lv_at hl 1 rfl) ?_
                            refine lv_bipush (v := 43) hx hb dX7_order_212 (by decide) ?_
                            refine lv_icmp_ne (tgt := 254) hx hb dX7_order_214 (by decide) (fun ci => ?_) (fun ci => ?_)
                            · refine lv_iload_n hx hb dX7_order_254 rfl (lv_at hl 1 rfl) ?_
                              refine lv_bipush (v := 115) hx hb dX7_order_255 (by decide) ?_
                              refine lv_icmp_ne (tgt := 279) hx hb dX7_order_257 (by decide) (fun ci => ?_) (fun ci => ?_)
                              · exact absurd hkd ci
                              · refine lv_aload_n hx hb dX7_order_260 rfl (lv_at hl 2 rfl) ?_
                                refine lv_aload_n hx hb dX7_order_261 rfl (lv_at hl 2 rfl) ?_
                                refine rg (C := RX7) (T := TX7) (N := 16) (v := .ref (w + 8)) hx hb hT inX7 hown hK hM.1 rfl 10 (by decide) mf_X7_32 rfl dX7_order_262 ?_
                                refine lv_iconst (v := 0) hx hb dX7_order_265 (by decide) ?_
                                refine r_ialdS (y := (upd (upd N 0 (nI (dg (M 6) (u0 + 1)))) 1 (nI Wq_24)) 0) hx hb hK hM.2.2.2.2.2.2.2.2.1 0 (by decide) (by omega) (Nat.le_of_ble_eq_true rfl) rfl dX7_order_266 ?_
                                refine lv_aload_n hx hb dX7_order_267 rfl (lv_at hl 2 rfl) ?_
                                refine rg (C := RX7) (T := TX7) (N := 16) (v := .ref (w + 8)) hx hb hT inX7 hown hK hM.1 rfl 10 (by decide) mf_X7_32 rfl dX7_order_268 ?_
                                refine lv_iconst (v := 1) hx hb dX7_order_271 (by decide) ?_
                                refine r_ialdS (y := (upd (upd N 0 (nI (dg (M 6) (u0 + 1)))) 1 (nI Wq_24)) 1) hx hb hK hM.2.2.2.2.2.2.2.2.1 1 (by decide) (by omega) (Nat.le_of_ble_eq_true rfl) rfl dX7_order_272 ?_
                                refine got_I (run_i hx hb hml hown hT hK hl.1 (k_X7_gets l G w (RdM M Uq_24 (upd (upd N 0 (nI (dg (M 6) (u0 + 1)))) 1 (nI Wq_24))) ((upd (upd N 0 (nI (dg (M 6) (u0 + 1)))) 1 (nI Wq_24)) 0) ((upd (upd N 0 (nI (dg (M 6) (u0 + 1)))) 1 (nI Wq_24)) 1) hw) (cw_X7_124 hT ⟨Nat.le_of_ble_eq_true rfl, Nat.le_of_ble_eq_true rfl⟩) hM.1 rfl hM rfl rfl (Nat.le_of_ble_eq_true rfl) dX7_order_273 ⟨Nat.zero_le _, Nat.zero_le _⟩) hS (fun q hq => hq) (fun q hq => hq) (fun v_26 H locs h1 hz hk hS => ?_)
                                obtain ⟨hv, hM⟩ := h1
                                rw [RdM_0] at hM
                                have ho : opO (M 0) (sgn (M 6) n u0) (upd (upd N 0 (nI (dg (M 6) (u0 + 1)))) 1 (nI Wq_24)) = shO (M 0) ((upd (upd N 0 (nI (dg (M 6) (u0 + 1)))) 1 (nI Wq_24)) 0) ((upd (upd N 0 (nI (dg (M 6) (u0 + 1)))) 1 (nI Wq_24)) 1) := (if_neg (by rw [hkd]; decide)).trans (if_pos hkd)
                                refine lv_goto (tgt := 308) hx hb dX7_order_276 (by decide) ?_
                                exact nd_I hQ hx hb hr hlocks dX7_order_308 hS (⟨by rw [hs]; show _ = (opO (M 0) (sgn (M 6) n u0) (upd (upd N 0 (nI (dg (M 6) (u0 + 1)))) 1 (nI Wq_24))).1; rw [ho]; exact hv, by rw [hs]; show MdAt G w (RdM (updM M 0 (opO (M 0) (sgn (M 6) n u0) (upd (upd N 0 (nI (dg (M 6) (u0 + 1)))) 1 (nI Wq_24))).2) (Uq_24) (upd (upd N 0 (nI (dg (M 6) (u0 + 1)))) 1 (nI Wq_24))) H; rw [ho]; exact hM⟩)
                            · rw [hkd] at ci
                              exact absurd ci (by decide)
                          · exact absurd ch (by decide)
                        · exact absurd cg (by decide)
                    · subst hv
                      rw [rdP_nn hD] at hs
                      refine lv_if_eq (tgt := 187) hx hb dX7_order_180 (by decide) (fun cf => ?_) (fun cf => ?_)
                      · refine lv_iconst (v := 0) hx hb dX7_order_187 (by decide) ?_
                        refine lv_istore_n (lv' := [(3, .int 0), (2, .int (sgn (M 6) n u0)), (0, .ref w), (1, .int 1)]) hx hb dX7_order_188 rfl hl (by decide) rfl (fun ls hl => ?_)
                        refine lv_goto (tgt := 198) hx hb dX7_order_189 (by decide) ?_
                        refine lv_iload_n hx hb dX7_order_198 rfl (lv_at hl 0 rfl) ?_
                        refine lv_if_ne (tgt := 205) hx hb dX7_order_199 (by decide) (fun cz => ?_) (fun cz => ?_)
                        · exact absurd rfl cz
                        · refine lv_bipush (v := (-3)) hx hb dX7_order_202 (by decide) ?_
                          exact nd_I hQ hx hb hr hlocks dX7_order_204 hS (⟨by rw [hs]; rfl, by rw [hs]; exact hM⟩)
                      · exact absurd rfl cf
                · subst hv
                  rw [rdP_sn (by decide) (by decide) hD] at hs
                  refine lv_if_eq (tgt := 187) hx hb dX7_order_172 (by decide) (fun cf => ?_) (fun cf => ?_)
                  · refine lv_iconst (v := 0) hx hb dX7_order_187 (by decide) ?_
                    refine lv_istore_n (lv' := [(3, .int 0), (2, .int (sgn (M 6) n u0)), (0, .ref w), (1, .int 1)]) hx hb dX7_order_188 rfl hl (by decide) rfl (fun ls hl => ?_)
                    refine lv_goto (tgt := 198) hx hb dX7_order_189 (by decide) ?_
                    refine lv_iload_n hx hb dX7_order_198 rfl (lv_at hl 0 rfl) ?_
                    refine lv_if_ne (tgt := 205) hx hb dX7_order_199 (by decide) (fun cz => ?_) (fun cz => ?_)
                    · exact absurd rfl cz
                    · refine lv_bipush (v := (-3)) hx hb dX7_order_202 (by decide) ?_
                      exact nd_I hQ hx hb hr hlocks dX7_order_204 hS (⟨by rw [hs]; rfl, by rw [hs]; exact hM⟩)
                  · exact absurd rfl cf
            · subst hv
              rw [rdP_dn hD] at hs
              refine lv_if_eq (tgt := 187) hx hb dX7_order_163 (by decide) (fun cf => ?_) (fun cf => ?_)
              · refine lv_iconst (v := 0) hx hb dX7_order_187 (by decide) ?_
                refine lv_istore_n (lv' := [(3, .int 0), (2, .int (sgn (M 6) n u0)), (0, .ref w), (1, .int 1)]) hx hb dX7_order_188 rfl hl (by decide) rfl (fun ls hl => ?_)
                refine lv_goto (tgt := 198) hx hb dX7_order_189 (by decide) ?_
                refine lv_iload_n hx hb dX7_order_198 rfl (lv_at hl 0 rfl) ?_
                refine lv_if_ne (tgt := 205) hx hb dX7_order_199 (by decide) (fun cz => ?_) (fun cz => ?_)
                · exact absurd rfl cz
                · refine lv_bipush (v := (-3)) hx hb dX7_order_202 (by decide) ?_
                  exact nd_I hQ hx hb hr hlocks dX7_order_204 hS (⟨by rw [hs]; rfl, by rw [hs]; exact hM⟩)
              · exact absurd rfl cf
        · rw [hkd] at ea
          exact absurd ea (by decide)
      · refine lv_iload_n hx hb dX7_order_37 rfl (lv_at hl 0 rfl) ?_
        refine lv_bipush (v := 100) hx hb dX7_order_38 (by decide) ?_
        refine lv_icmp_eq (tgt := 52) hx hb dX7_order_40 (by decide) (fun e3 => ?_) (fun e3 => ?_)
        · have hkd : sgn (M 6) n u0 = 100 := e3
          have hlt0 : u0 < n := sgn_y (by decide) hkd
          refine lv_aload_n hx hb dX7_order_52 rfl (lv_at hl 1 rfl) ?_
          refine lv_dup hx hb dX7_order_53 rfl ?_
          refine rg (C := RX7) (T := TX7) (N := 16) (v := .int (nI u0)) hx hb hT inX7 hown hK hM.1 rfl 8 (by decide) mf_X7_158 rfl dX7_order_54 ?_
          refine lv_iconst (v := 1) hx hb dX7_order_57 (by decide) ?_
          refine lv_iadd hx hb dX7_order_58 ?_
          rw [nI_1]
          refine rp (C := RX7) (T := TX7) (N := 16) (v := .int (nI (u0 + 1))) (ty := .int) hx hb hT inX7 tyX7 tyX7_ok nmX7 hown hK hM.1 rfl 8 (by decide) mf_X7_158 rfl (by decide +kernel) rfl rfl (Nat.le_of_ble_eq_true rfl) hS (show _ ∧ _ from ⟨by omega, by omega⟩) dX7_order_59 (fun H locs h1 o hS => ?_)
          have hM := hM.s8 h1 o
          rw [RdM_p] at hM
          have hs : rdO (M 6) n u0 N = rdP (M 6) n [35] (u0 + 1) 0 N := (if_neg (by rw [hkd]; decide)).trans ((if_neg (by rw [hkd]; decide)).trans (if_pos (Or.inl hkd)))
          refine lv_iload_n hx hb dX7_order_62 rfl (lv_at hl 0 rfl) ?_
          refine lv_bipush (v := 43) hx hb dX7_order_63 (by decide) ?_
          refine lv_icmp_ne (tgt := 153) hx hb dX7_order_65 (by decide) (fun ea => ?_) (fun ea => ?_)
          · refine lv_iload_n hx hb dX7_order_153 rfl (lv_at hl 0 rfl) ?_
            refine lv_bipush (v := 115) hx hb dX7_order_154 (by decide) ?_
            refine lv_icmp_ne (tgt := 192) hx hb dX7_order_156 (by decide) (fun eb => ?_) (fun eb => ?_)
            · refine lv_aload_n hx hb dX7_order_192 rfl (lv_at hl 1 rfl) ?_
              refine lv_iconst (v := 0) hx hb dX7_order_193 (by decide) ?_
              refine got_I (run_i hx hb hml hown hT hK hl.1 (k_X7_number l G w M n (u0 + 1) N 0 hn (by omega) h7 (by omega)) (cw_X7_165 hT ⟨Nat.le_of_ble_eq_true rfl, Nat.le_of_ble_eq_true rfl⟩) hM.1 rfl hM rfl rfl (Nat.le_of_ble_eq_true rfl) dX7_order_194 ⟨Nat.zero_le _, Nat.zero_le _⟩) hS (fun q hq => hq) (fun q hq => hq) (fun v_28 H locs h1 hz hk hS => ?_)
              rcases h1 with ⟨hv, hD, hM⟩ | ⟨hv, hD, hM⟩
              · subst hv
                have hDn := hD.1
                have hle9 := nmF_le (T := M 6) 3 (dg (M 6) (u0 + 1)) ((u0 + 1) + 1) hDn
                obtain ⟨Uq_27, eUq_27⟩ : ∃ z1, z1 = (nmF (M 6) n 3 (dg (M 6) (u0 + 1)) ((u0 + 1) + 1)).2 := ⟨_, rfl⟩
                obtain ⟨Wq_27, eWq_27⟩ : ∃ z1, z1 = (nmF (M 6) n 3 (dg (M 6) (u0 + 1)) ((u0 + 1) + 1)).1 := ⟨_, rfl⟩
                rw [rdP_ny hD, ← eUq_27, ← eWq_27] at hs
                rw [← eUq_27, ← eWq_27] at hM
                rw [← eUq_27] at hle9
                have hs : rdO (M 6) n u0 N = (true, Uq_27, upd N 0 (nI Wq_27)) := hs
                refine lv_istore_n (lv' := [(3, .int 1), (2, .int (sgn (M 6) n u0)), (0, .ref w), (1, .int 1)]) hx hb dX7_order_197 rfl hl (by decide) rfl (fun ls hl => ?_)
                refine lv_iload_n hx hb dX7_order_198 rfl (lv_at hl 0 rfl) ?_
                refine lv_if_ne (tgt := 205) hx hb dX7_order_199 (by decide) (fun cg => ?_) (fun cg => ?_)
                · refine lv_iload_n hx hb dX7_order_205 rfl (lv_at hl 3 rfl) ?_
                  refine lv_if_ne (tgt := 211) hx hb dX7_order_206 (by decide) (fun ch => ?_) (fun ch => ?_)
                  · refine lv_iload_n hx hb dX7_order_211 rfl (lv_at hl 1 rfl) ?_
                    refine lv_bipush (v := 43) hx hb dX7_order_212 (by decide) ?_
                    refine lv_icmp_ne (tgt := 254) hx hb dX7_order_214 (by decide) (fun ci => ?_) (fun ci => ?_)
                    · refine lv_iload_n hx hb dX7_order_254 rfl (lv_at hl 1 rfl) ?_
                      refine lv_bipush (v := 115) hx hb dX7_order_255 (by decide) ?_
                      refine lv_icmp_ne (tgt := 279) hx hb dX7_order_257 (by decide) (fun ci => ?_) (fun ci => ?_)
                      · refine lv_iload_n hx hb dX7_order_279 rfl (lv_at hl 1 rfl) ?_
                        refine lv_bipush (v := 100) hx hb dX7_order_280 (by decide) ?_
                        refine lv_icmp_ne (tgt := 298) hx hb dX7_order_282 (by decide) (fun ci => ?_) (fun ci => ?_)
                        · exact absurd hkd ci
                        · refine lv_aload_n hx hb dX7_order_285 rfl (lv_at hl 2 rfl) ?_
                          refine lv_aload_n hx hb dX7_order_286 rfl (lv_at hl 2 rfl) ?_
                          refine rg (C := RX7) (T := TX7) (N := 16) (v := .ref (w + 8)) hx hb hT inX7 hown hK hM.1 rfl 10 (by decide) mf_X7_32 rfl dX7_order_287 ?_
                          refine lv_iconst (v := 0) hx hb dX7_order_290 (by decide) ?_
                          refine r_ialdS (y := (upd N 0 (nI Wq_27)) 0) hx hb hK hM.2.2.2.2.2.2.2.2.1 0 (by decide) (by omega) (Nat.le_of_ble_eq_true rfl) rfl dX7_order_291 ?_
                          refine got_I (run_i hx hb hml hown hT hK hl.1 (k_X7_waits l G w (RdM M Uq_27 (upd N 0 (nI Wq_27))) ((upd N 0 (nI Wq_27)) 0) hw) (cw_X7_133 hT ⟨Nat.le_of_ble_eq_true rfl, Nat.le_of_ble_eq_true rfl⟩) hM.1 rfl hM rfl rfl (Nat.le_of_ble_eq_true rfl) dX7_order_292 ⟨Nat.zero_le _, Nat.zero_le _⟩) hS (fun q hq => hq) (fun q hq => hq) (fun v_29 H locs h1 hz hk hS => ?_)
                          obtain ⟨hv, hM⟩ := h1
                          rw [RdM_0] at hM
                          have ho : opO (M 0) (sgn (M 6) n u0) (upd N 0 (nI Wq_27)) = pdO (M 0) ((upd N 0 (nI Wq_27)) 0) := (if_neg (by rw [hkd]; decide)).trans ((if_neg (by rw [hkd]; decide)).trans (if_pos hkd))
                          refine lv_goto (tgt := 308) hx hb dX7_order_295 (by decide) ?_
                          exact nd_I hQ hx hb hr hlocks dX7_order_308 hS (⟨by rw [hs]; show _ = (opO (M 0) (sgn (M 6) n u0) (upd N 0 (nI Wq_27))).1; rw [ho]; exact hv, by rw [hs]; show MdAt G w (RdM (updM M 0 (opO (M 0) (sgn (M 6) n u0) (upd N 0 (nI Wq_27))).2) (Uq_27) (upd N 0 (nI Wq_27))) H; rw [ho]; exact hM⟩)
                      · rw [hkd] at ci
                        exact absurd ci (by decide)
                    · rw [hkd] at ci
                      exact absurd ci (by decide)
                  · exact absurd ch (by decide)
                · exact absurd cg (by decide)
              · subst hv
                rw [rdP_nn hD] at hs
                refine lv_istore_n (lv' := [(3, .int 0), (2, .int (sgn (M 6) n u0)), (0, .ref w), (1, .int 1)]) hx hb dX7_order_197 rfl hl (by decide) rfl (fun ls hl => ?_)
                refine lv_iload_n hx hb dX7_order_198 rfl (lv_at hl 0 rfl) ?_
                refine lv_if_ne (tgt := 205) hx hb dX7_order_199 (by decide) (fun cz => ?_) (fun cz => ?_)
                · exact absurd rfl cz
                · refine lv_bipush (v := (-3)) hx hb dX7_order_202 (by decide) ?_
                  exact nd_I hQ hx hb hr hlocks dX7_order_204 hS (⟨by rw [hs]; rfl, by rw [hs]; exact hM⟩)
            · rw [hkd] at eb
              exact absurd eb (by decide)
          · rw [hkd] at ea
            exact absurd ea (by decide)
        · refine lv_iload_n hx hb dX7_order_43 rfl (lv_at hl 0 rfl) ?_
          refine lv_bipush (v := 109) hx hb dX7_order_44 (by decide) ?_
          refine lv_icmp_eq (tgt := 52) hx hb dX7_order_46 (by decide) (fun e4 => ?_) (fun e4 => ?_)
          · have hkd : sgn (M 6) n u0 = 109 := e4
            have hlt0 : u0 < n := sgn_y (by decide) hkd
            refine lv_aload_n hx hb dX7_order_52 rfl (lv_at hl 1 rfl) ?_
            refine lv_dup hx hb dX7_order_53 rfl ?_
            refine rg (C := RX7) (T := TX7) (N := 16) (v := .int (nI u0)) hx hb hT inX7 hown hK hM.1 rfl 8 (by decide) mf_X7_158 rfl dX7_order_54 ?_
            refine lv_iconst (v := 1) hx hb dX7_order_57 (by decide) ?_
            refine lv_iadd hx hb dX7_order_58 ?_
            rw [nI_1]
            refine rp (C := RX7) (T := TX7) (N := 16) (v := .int (nI (u0 + 1))) (ty := .int) hx hb hT inX7 tyX7 tyX7_ok nmX7 hown hK hM.1 rfl 8 (by decide) mf_X7_158 rfl (by decide +kernel) rfl rfl (Nat.le_of_ble_eq_true rfl) hS (show _ ∧ _ from ⟨by omega, by omega⟩) dX7_order_59 (fun H locs h1 o hS => ?_)
            have hM := hM.s8 h1 o
            rw [RdM_p] at hM
            have hs : rdO (M 6) n u0 N = rdP (M 6) n [35] (u0 + 1) 0 N := (if_neg (by rw [hkd]; decide)).trans ((if_neg (by rw [hkd]; decide)).trans (if_pos (Or.inr hkd)))
            refine lv_iload_n hx hb dX7_order_62 rfl (lv_at hl 0 rfl) ?_
            refine lv_bipush (v := 43) hx hb dX7_order_63 (by decide) ?_
            refine lv_icmp_ne (tgt := 153) hx hb dX7_order_65 (by decide) (fun ea => ?_) (fun ea => ?_)
            · refine lv_iload_n hx hb dX7_order_153 rfl (lv_at hl 0 rfl) ?_
              refine lv_bipush (v := 115) hx hb dX7_order_154 (by decide) ?_
              refine lv_icmp_ne (tgt := 192) hx hb dX7_order_156 (by decide) (fun eb => ?_) (fun eb => ?_)
              · refine lv_aload_n hx hb dX7_order_192 rfl (lv_at hl 1 rfl) ?_
                refine lv_iconst (v := 0) hx hb dX7_order_193 (by decide) ?_
                refine got_I (run_i hx hb hml hown hT hK hl.1 (k_X7_number l G w M n (u0 + 1) N 0 hn (by omega) h7 (by omega)) (cw_X7_165 hT ⟨Nat.le_of_ble_eq_true rfl, Nat.le_of_ble_eq_true rfl⟩) hM.1 rfl hM rfl rfl (Nat.le_of_ble_eq_true rfl) dX7_order_194 ⟨Nat.zero_le _, Nat.zero_le _⟩) hS (fun q hq => hq) (fun q hq => hq) (fun v_31 H locs h1 hz hk hS => ?_)
                rcases h1 with ⟨hv, hD, hM⟩ | ⟨hv, hD, hM⟩
                · subst hv
                  have hDn := hD.1
                  have hle9 := nmF_le (T := M 6) 3 (dg (M 6) (u0 + 1)) ((u0 + 1) + 1) hDn
                  obtain ⟨Uq_30, eUq_30⟩ : ∃ z1, z1 = (nmF (M 6) n 3 (dg (M 6) (u0 + 1)) ((u0 + 1) + 1)).2 := ⟨_, rfl⟩
                  obtain ⟨Wq_30, eWq_30⟩ : ∃ z1, z1 = (nmF (M 6) n 3 (dg (M 6) (u0 + 1)) ((u0 + 1) + 1)).1 := ⟨_, rfl⟩
                  rw [rdP_ny hD, ← eUq_30, ← eWq_30] at hs
                  rw [← eUq_30, ← eWq_30] at hM
                  rw [← eUq_30] at hle9
                  have hs : rdO (M 6) n u0 N = (true, Uq_30, upd N 0 (nI Wq_30)) := hs
                  refine lv_istore_n (lv' := [(3, .int 1), (2, .int (sgn (M 6) n u0)), (0, .ref w), (1, .int 1)]) hx hb dX7_order_197 rfl hl (by decide) rfl (fun ls hl => ?_)
                  refine lv_iload_n hx hb dX7_order_198 rfl (lv_at hl 0 rfl) ?_
                  refine lv_if_ne (tgt := 205) hx hb dX7_order_199 (by decide) (fun cg => ?_) (fun cg => ?_)
                  · refine lv_iload_n hx hb dX7_order_205 rfl (lv_at hl 3 rfl) ?_
                    refine lv_if_ne (tgt := 211) hx hb dX7_order_206 (by decide) (fun ch => ?_) (fun ch => ?_)
                    · refine lv_iload_n hx hb dX7_order_211 rfl (lv_at hl 1 rfl) ?_
                      refine lv_bipush (v := 43) hx hb dX7_order_212 (by decide) ?_
                      refine lv_icmp_ne (tgt := 254) hx hb dX7_order_214 (by decide) (fun ci => ?_) (fun ci => ?_)
                      · refine lv_iload_n hx hb dX7_order_254 rfl (lv_at hl 1 rfl) ?_
                        refine lv_bipush (v := 115) hx hb dX7_order_255 (by decide) ?_
                        refine lv_icmp_ne (tgt := 279) hx hb dX7_order_257 (by decide) (fun ci => ?_) (fun ci => ?_)
                        · refine lv_iload_n hx hb dX7_order_279 rfl (lv_at hl 1 rfl) ?_
                          refine lv_bipush (v := 100) hx hb dX7_order_280 (by decide) ?_
                          refine lv_icmp_ne (tgt := 298) hx hb dX7_order_282 (by decide) (fun ci => ?_) (fun ci => ?_)
                          · refine lv_aload_n hx hb dX7_order_298 rfl (lv_at hl 2 rfl) ?_
                            refine lv_aload_n hx hb dX7_order_299 rfl (lv_at hl 2 rfl) ?_
                            refine rg (C := RX7) (T := TX7) (N := 16) (v := .ref (w + 8)) hx hb hT inX7 hown hK hM.1 rfl 10 (by decide) mf_X7_32 rfl dX7_order_300 ?_
                            refine lv_iconst (v := 0) hx hb dX7_order_303 (by decide) ?_
                            refine r_ialdS (y := (upd N 0 (nI Wq_30)) 0) hx hb hK hM.2.2.2.2.2.2.2.2.1 0 (by decide) (by omega) (Nat.le_of_ble_eq_true rfl) rfl dX7_order_304 ?_
                            refine got_I (run_i hx hb hml hown hT hK hl.1 (k_X7_mixes l G w (RdM M Uq_30 (upd N 0 (nI Wq_30))) ((upd N 0 (nI Wq_30)) 0) hw) (cw_X7_130 hT ⟨Nat.le_of_ble_eq_true rfl, Nat.le_of_ble_eq_true rfl⟩) hM.1 rfl hM rfl rfl (Nat.le_of_ble_eq_true rfl) dX7_order_305 ⟨Nat.zero_le _, Nat.zero_le _⟩) hS (fun q hq => hq) (fun q hq => hq) (fun v_32 H locs h1 hz hk hS => ?_)
                            obtain ⟨hv, hM⟩ := h1
                            rw [RdM_0] at hM
                            have ho : opO (M 0) (sgn (M 6) n u0) (upd N 0 (nI Wq_30)) = mxO (M 0) ((upd N 0 (nI Wq_30)) 0) := (if_neg (by rw [hkd]; decide)).trans ((if_neg (by rw [hkd]; decide)).trans (if_neg (by rw [hkd]; decide)))
                            exact nd_I hQ hx hb hr hlocks dX7_order_308 hS (⟨by rw [hs]; show _ = (opO (M 0) (sgn (M 6) n u0) (upd N 0 (nI Wq_30))).1; rw [ho]; exact hv, by rw [hs]; show MdAt G w (RdM (updM M 0 (opO (M 0) (sgn (M 6) n u0) (upd N 0 (nI Wq_30))).2) (Uq_30) (upd N 0 (nI Wq_30))) H; rw [ho]; exact hM⟩)
                          · rw [hkd] at ci
                            exact absurd ci (by decide)
                        · rw [hkd] at ci
                          exact absurd ci (by decide)
                      · rw [hkd] at ci
                        exact absurd ci (by decide)
                    · exact absurd ch (by decide)
                  · exact absurd cg (by decide)
                · subst hv
                  rw [rdP_nn hD] at hs
                  refine lv_istore_n (lv' := [(3, .int 0), (2, .int (sgn (M 6) n u0)), (0, .ref w), (1, .int 1)]) hx hb dX7_order_197 rfl hl (by decide) rfl (fun ls hl => ?_)
                  refine lv_iload_n hx hb dX7_order_198 rfl (lv_at hl 0 rfl) ?_
                  refine lv_if_ne (tgt := 205) hx hb dX7_order_199 (by decide) (fun cz => ?_) (fun cz => ?_)
                  · exact absurd rfl cz
                  · refine lv_bipush (v := (-3)) hx hb dX7_order_202 (by decide) ?_
                    exact nd_I hQ hx hb hr hlocks dX7_order_204 hS (⟨by rw [hs]; rfl, by rw [hs]; exact hM⟩)
              · rw [hkd] at eb
                exact absurd eb (by decide)
            · rw [hkd] at ea
              exact absurd ea (by decide)
          · have hs : rdO (M 6) n u0 N = (false, u0, N) := (if_neg e1).trans ((if_neg e2).trans (if_neg (fun q => q.elim e3 e4)))
            refine lv_bipush (v := (-3)) hx hb dX7_order_49 (by decide) ?_
            exact nd_I hQ hx hb hr hlocks dX7_order_51 hS (⟨by rw [hs]; rfl, by rw [hs]; exact hM⟩)
  · have hlt : u0 < n := by have q : ¬ n ≤ u0 := fun q => c1 ((nI_leI (by omega) (by omega)).mpr q); omega
    refine lv_aload_n hx hb dX7_order_11 rfl (lv_at hl 0 rfl) ?_
    refine rg (C := RX7) (T := TX7) (N := 16) (v := .ref (w + 6)) hx hb hT inX7 hown hK hM.1 rfl 6 (by decide) mf_X7_26 rfl dX7_order_12 ?_
    refine lv_aload_n hx hb dX7_order_15 rfl (lv_at hl 0 rfl) ?_
    refine rg (C := RX7) (T := TX7) (N := 16) (v := .int (nI u0)) hx hb hT inX7 hown hK hM.1 rfl 8 (by decide) mf_X7_158 rfl dX7_order_16 ?_
    refine r_ialdS (y := M 6 u0) hx hb hK hM.2.2.2.2.2.2.1 u0 (rfl) (by omega) (Nat.le_of_ble_eq_true rfl) rfl dX7_order_19 ?_
    refine lv_goto (tgt := 24) hx hb dX7_order_20 (by decide) ?_
    rw [show M 6 u0 = sgn (M 6) n u0 from (sgn_in hlt).symm]
    refine lv_istore_n (lv' := [(2, .int (sgn (M 6) n u0)), (0, .ref w), (1, .int 1)]) hx hb dX7_order_24 rfl hl (by decide) rfl (fun ls hl => ?_)
    refine lv_iload_n hx hb dX7_order_25 rfl (lv_at hl 0 rfl) ?_
    refine lv_bipush (v := 43) hx hb dX7_order_26 (by decide) ?_
    refine lv_icmp_eq (tgt := 52) hx hb dX7_order_28 (by decide) (fun e1 => ?_) (fun e1 => ?_)
    · have hkd : sgn (M 6) n u0 = 43 := e1
      have hlt0 : u0 < n := sgn_y (by decide) hkd
      refine lv_aload_n hx hb dX7_order_52 rfl (lv_at hl 1 rfl) ?_
      refine lv_dup hx hb dX7_order_53 rfl ?_
      refine rg (C := RX7) (T := TX7) (N := 16) (v := .int (nI u0)) hx hb hT inX7 hown hK hM.1 rfl 8 (by decide) mf_X7_158 rfl dX7_order_54 ?_
      refine lv_iconst (v := 1) hx hb dX7_order_57 (by decide) ?_
      refine lv_iadd hx hb dX7_order_58 ?_
      rw [nI_1]
      refine rp (C := RX7) (T := TX7) (N := 16) (v := .int (nI (u0 + 1))) (ty := .int) hx hb hT inX7 tyX7 tyX7_ok nmX7 hown hK hM.1 rfl 8 (by decide) mf_X7_158 rfl (by decide +kernel) rfl rfl (Nat.le_of_ble_eq_true rfl) hS (show _ ∧ _ from ⟨by omega, by omega⟩) dX7_order_59 (fun H locs h1 o hS => ?_)
      have hM := hM.s8 h1 o
      rw [RdM_p] at hM
      have hs : rdO (M 6) n u0 N = rdP (M 6) n [35, 58, 35, 44, 35, 44, 35, 42, 35] (u0 + 1) 0 N := if_pos hkd
      refine lv_iload_n hx hb dX7_order_62 rfl (lv_at hl 0 rfl) ?_
      refine lv_bipush (v := 43) hx hb dX7_order_63 (by decide) ?_
      refine lv_icmp_ne (tgt := 153) hx hb dX7_order_65 (by decide) (fun ea => ?_) (fun ea => ?_)
      · exact absurd hkd ea
      · refine lv_aload_n hx hb dX7_order_68 rfl (lv_at hl 1 rfl) ?_
        refine lv_iconst (v := 0) hx hb dX7_order_69 (by decide) ?_
        refine got_I (run_i hx hb hml hown hT hK hl.1 (k_X7_number l G w M n (u0 + 1) N 0 hn (by omega) h7 (by omega)) (cw_X7_165 hT ⟨Nat.le_of_ble_eq_true rfl, Nat.le_of_ble_eq_true rfl⟩) hM.1 rfl hM rfl rfl (Nat.le_of_ble_eq_true rfl) dX7_order_70 ⟨Nat.zero_le _, Nat.zero_le _⟩) hS (fun q hq => hq) (fun q hq => hq) (fun v_34 H locs h1 hz hk hS => ?_)
        rcases h1 with ⟨hv, hD, hM⟩ | ⟨hv, hD, hM⟩
        · subst hv
          have hDn := hD.1
          have hle9 := nmF_le (T := M 6) 3 (dg (M 6) (u0 + 1)) ((u0 + 1) + 1) hDn
          obtain ⟨Uq_33, eUq_33⟩ : ∃ z1, z1 = (nmF (M 6) n 3 (dg (M 6) (u0 + 1)) ((u0 + 1) + 1)).2 := ⟨_, rfl⟩
          obtain ⟨Wq_33, eWq_33⟩ : ∃ z1, z1 = (nmF (M 6) n 3 (dg (M 6) (u0 + 1)) ((u0 + 1) + 1)).1 := ⟨_, rfl⟩
          rw [rdP_ny hD, ← eUq_33, ← eWq_33] at hs
          rw [← eUq_33, ← eWq_33] at hM
          rw [← eUq_33] at hle9
          refine lv_if_eq (tgt := 148) hx hb dX7_order_73 (by decide) (fun cf => ?_) (fun cf => ?_)
          · exact absurd cf (by decide)
          · refine lv_aload_n hx hb dX7_order_76 rfl (lv_at hl 1 rfl) ?_
            refine lv_bipush (v := 58) hx hb dX7_order_77 (by decide) ?_
            refine got_I (run_i hx hb hml hown hT hK hl.1 (k_X7_sign l G w M n Uq_33 (upd N 0 (nI Wq_33)) 58 hn (by omega) h7) (cw_X7_168 hT ⟨Nat.le_of_ble_eq_true rfl, Nat.le_of_ble_eq_true rfl⟩) hM.1 rfl hM rfl rfl (Nat.le_of_ble_eq_true rfl) dX7_order_79 ⟨Nat.zero_le _, Nat.zero_le _⟩) hS (fun q hq => hq) (fun q hq => hq) (fun v_36 H locs h1 hz hk hS => ?_)
            rcases h1 with ⟨hv, hD, hM⟩ | ⟨hv, hD, hM⟩
            · subst hv
              have hDn := hD.1
              rw [rdP_sy (by decide) (by decide) hD] at hs
              refine lv_if_eq (tgt := 148) hx hb dX7_order_82 (by decide) (fun cf => ?_) (fun cf => ?_)
              · exact absurd cf (by decide)
              · refine lv_aload_n hx hb dX7_order_85 rfl (lv_at hl 1 rfl) ?_
                refine lv_iconst (v := 1) hx hb dX7_order_86 (by decide) ?_
                refine got_I (run_i hx hb hml hown hT hK hl.1 (k_X7_number l G w M n (Uq_33 + 1) (upd N 0 (nI Wq_33)) 1 hn (by omega) h7 (by omega)) (cw_X7_165 hT ⟨Nat.le_of_ble_eq_true rfl, Nat.le_of_ble_eq_true rfl⟩) hM.1 rfl hM rfl rfl (Nat.le_of_ble_eq_true rfl) dX7_order_87 ⟨Nat.zero_le _, Nat.zero_le _⟩) hS (fun q hq => hq) (fun q hq => hq) (fun v_38 H locs h1 hz hk hS => ?_)
                rcases h1 with ⟨hv, hD, hM⟩ | ⟨hv, hD, hM⟩
                · subst hv
                  have hDn := hD.1
                  have hle9 := nmF_le (T := M 6) 3 (dg (M 6) (Uq_33 + 1)) ((Uq_33 + 1) + 1) hDn
                  obtain ⟨Uq_37, eUq_37⟩ : ∃ z1, z1 = (nmF (M 6) n 3 (dg (M 6) (Uq_33 + 1)) ((Uq_33 + 1) + 1)).2 := ⟨_, rfl⟩
                  obtain ⟨Wq_37, eWq_37⟩ : ∃ z1, z1 = (nmF (M 6) n 3 (dg (M 6) (Uq_33 + 1)) ((Uq_33 + 1) + 1)).1 := ⟨_, rfl⟩
                  rw [rdP_ny hD, ← eUq_37, ← eWq_37] at hs
                  rw [← eUq_37, ← eWq_37] at hM
                  rw [← eUq_37] at hle9
                  refine lv_if_eq (tgt := 148) hx hb dX7_order_90 (by decide) (fun cf => ?_) (fun cf => ?_)
                  · exact absurd cf (by decide)
                  · refine lv_aload_n hx hb dX7_order_93 rfl (lv_at hl 1 rfl) ?_
                    refine lv_bipush (v := 44) hx hb dX7_order_94 (by decide) ?_
                    refine got_I (run_i hx hb hml hown hT hK hl.1 (k_X7_sign l G w M n Uq_37 (upd (upd N 0 (nI Wq_33)) 1 (nI Wq_37)) 44 hn (by omega) h7) (cw_X7_168 hT ⟨Nat.le_of_ble_eq_true rfl, Nat.le_of_ble_eq_true rfl⟩) hM.1 rfl hM rfl rfl (Nat.le_of_ble_eq_true rfl) dX7_order_96 ⟨Nat.zero_le _, Nat.zero_le _⟩) hS (fun q hq => hq) (fun q hq => hq) (fun v_40 H locs h1 hz hk hS => ?_)
                    rcases h1 with ⟨hv, hD, hM⟩ | ⟨hv, hD, hM⟩
                    · subst hv
                      have hDn := hD.1
                      rw [rdP_sy (by decide) (by decide) hD] at hs
                      refine lv_if_eq (tgt := 148) hx hb dX7_order_99 (by decide) (fun cf => ?_) (fun cf => ?_)
                      · exact absurd cf (by decide)
                      · refine lv_aload_n hx hb dX7_order_102 rfl (lv_at hl 1 rfl) ?_
                        refine lv_iconst (v := 2) hx hb dX7_order_103 (by decide) ?_
                        refine got_I (run_i hx hb hml hown hT hK hl.1 (k_X7_number l G w M n (Uq_37 + 1) (upd (upd N 0 (nI Wq_33)) 1 (nI Wq_37)) 2 hn (by omega) h7 (by omega)) (cw_X7_165 hT ⟨Nat.le_of_ble_eq_true rfl, Nat.le_of_ble_eq_true rfl⟩) hM.1 rfl hM rfl rfl (Nat.le_of_ble_eq_true rfl) dX7_order_104 ⟨Nat.zero_le _, Nat.zero_le _⟩) hS (fun q hq => hq) (fun q hq => hq) (fun v_42 H locs h1 hz hk hS => ?_)
                        rcases h1 with ⟨hv, hD, hM⟩ | ⟨hv, hD, hM⟩
                        · subst hv
                          have hDn := hD.1
                          have hle9 := nmF_le (T := M 6) 3 (dg (M 6) (Uq_37 + 1)) ((Uq_37 + 1) + 1) hDn
                          obtain ⟨Uq_41, eUq_41⟩ : ∃ z1, z1 = (nmF (M 6) n 3 (dg (M 6) (Uq_37 + 1)) ((Uq_37 + 1) + 1)).2 := ⟨_, rfl⟩
                          obtain ⟨Wq_41, eWq_41⟩ : ∃ z1, z1 = (nmF (M 6) n 3 (dg (M 6) (Uq_37 + 1)) ((Uq_37 + 1) + 1)).1 := ⟨_, rfl⟩
                          rw [rdP_ny hD, ← eUq_41, ← eWq_41] at hs
                          rw [← eUq_41, ← eWq_41] at hM
                          rw [← eUq_41] at hle9
                          refine lv_if_eq (tgt := 148) hx hb dX7_order_107 (by decide) (fun cf => ?_) (fun cf => ?_)
                          · exact absurd cf (by decide)
                          · refine lv_aload_n hx hb dX7_order_110 rfl (lv_at hl 1 rfl) ?_
                            refine lv_bipush (v := 44) hx hb dX7_order_111 (by decide) ?_
                            refine got_I (run_i hx hb hml hown hT hK hl.1 (k_X7_sign l G w M n Uq_41 (upd (upd (upd N 0 (nI Wq_33)) 1 (nI Wq_37)) 2 (nI Wq_41)) 44 hn (by omega) h7) (cw_X7_168 hT ⟨Nat.le_of_ble_eq_true rfl, Nat.le_of_ble_eq_true rfl⟩) hM.1 rfl hM rfl rfl (Nat.le_of_ble_eq_true rfl) dX7_order_113 ⟨Nat.zero_le _, Nat.zero_le _⟩) hS (fun q hq => hq) (fun q hq => hq) (fun v_44 H locs h1 hz hk hS => ?_)
                            rcases h1 with ⟨hv, hD, hM⟩ | ⟨hv, hD, hM⟩
                            · subst hv
                              have hDn := hD.1
                              rw [rdP_sy (by decide) (by decide) hD] at hs
                              refine lv_if_eq (tgt := 148) hx hb dX7_order_116 (by decide) (fun cf => ?_) (fun cf => ?_)
                              · exact absurd cf (by decide)
                              · refine lv_aload_n hx hb dX7_order_119 rfl (lv_at hl 1 rfl) ?_
                                refine lv_iconst (v := 3) hx hb dX7_order_120 (by decide) ?_
                                refine got_I (run_i hx hb hml hown hT hK hl.1 (k_X7_number l G w M n (Uq_41 + 1) (upd (upd (upd N 0 (nI Wq_33)) 1 (nI Wq_37)) 2 (nI Wq_41)) 3 hn (by omega) h7 (by omega)) (cw_X7_165 hT ⟨Nat.le_of_ble_eq_true rfl, Nat.le_of_ble_eq_true rfl⟩) hM.1 rfl hM rfl rfl (Nat.le_of_ble_eq_true rfl) dX7_order_121 ⟨Nat.zero_le _, Nat.zero_le _⟩) hS (fun q hq => hq) (fun q hq => hq) (fun v_46 H locs h1 hz hk hS => ?_)
                                rcases h1 with ⟨hv, hD, hM⟩ | ⟨hv, hD, hM⟩
                                · subst hv
                                  have hDn := hD.1
                                  have hle9 := nmF_le (T := M 6) 3 (dg (M 6) (Uq_41 + 1)) ((Uq_41 + 1) + 1) hDn
                                  obtain ⟨Uq_45, eUq_45⟩ : ∃ z1, z1 = (nmF (M 6) n 3 (dg (M 6) (Uq_41 + 1)) ((Uq_41 + 1) + 1)).2 := ⟨_, rfl⟩
                                  obtain ⟨Wq_45, eWq_45⟩ : ∃ z1, z1 = (nmF (M 6) n 3 (dg (M 6) (Uq_41 + 1)) ((Uq_41 + 1) + 1)).1 := ⟨_, rfl⟩
                                  rw [rdP_ny hD, ← eUq_45, ← eWq_45] at hs
                                  rw [← eUq_45, ← eWq_45] at hM
                                  rw [← eUq_45] at hle9
                                  refine lv_if_eq (tgt := 148) hx hb dX7_order_124 (by decide) (fun cf => ?_) (fun cf => ?_)
                                  · exact absurd cf (by decide)
                                  · refine lv_aload_n hx hb dX7_order_127 rfl (lv_at hl 1 rfl) ?_
                                    refine lv_bipush (v := 42) hx hb dX7_order_128 (by decide) ?_
                                    refine got_I (run_i hx hb hml hown hT hK hl.1 (k_X7_sign l G w M n Uq_45 (upd (upd (upd (upd N 0 (nI Wq_33)) 1 (nI Wq_37)) 2 (nI Wq_41)) 3 (nI Wq_45)) 42 hn (by omega) h7) (cw_X7_168 hT ⟨Nat.le_of_ble_eq_true rfl, Nat.le_of_ble_eq_true rfl⟩) hM.1 rfl hM rfl rfl (Nat.le_of_ble_eq_true rfl) dX7_order_130 ⟨Nat.zero_le _, Nat.zero_le _⟩) hS (fun q hq => hq) (fun q hq => hq) (fun v_48 H locs h1 hz hk hS => ?_)
                                    rcases h1 with ⟨hv, hD, hM⟩ | ⟨hv, hD, hM⟩
                                    · subst hv
                                      have hDn := hD.1
                                      rw [rdP_sy (by decide) (by decide) hD] at hs
                                      refine lv_if_eq (tgt := 148) hx hb dX7_order_133 (by decide) (fun cf => ?_) (fun cf => ?_)
                                      · exact absurd cf (by decide)
                                      · refine lv_aload_n hx hb dX7_order_136 rfl (lv_at hl 1 rfl) ?_
                                        refine lv_iconst (v := 4) hx hb dX7_order_137 (by decide) ?_
                                        refine got_I (run_i hx hb hml hown hT hK hl.1 (k_X7_number l G w M n (Uq_45 + 1) (upd (upd (upd (upd N 0 (nI Wq_33)) 1 (nI Wq_37)) 2 (nI Wq_41)) 3 (nI Wq_45)) 4 hn (by omega) h7 (by omega)) (cw_X7_165 hT ⟨Nat.le_of_ble_eq_true rfl, Nat.le_of_ble_eq_true rfl⟩) hM.1 rfl hM rfl rfl (Nat.le_of_ble_eq_true rfl) dX7_order_138 ⟨Nat.zero_le _, Nat.zero_le _⟩) hS (fun q hq => hq) (fun q hq => hq) (fun v_50 H locs h1 hz hk hS => ?_)
                                        rcases h1 with ⟨hv, hD, hM⟩ | ⟨hv, hD, hM⟩
                                        · subst hv
                                          have hDn := hD.1
                                          have hle9 := nmF_le (T := M 6) 3 (dg (M 6) (Uq_45 + 1)) ((Uq_45 + 1) + 1) hDn
                                          obtain ⟨Uq_49, eUq_49⟩ : ∃ z1, z1 = (nmF (M 6) n 3 (dg (M 6) (Uq_45 + 1)) ((Uq_45 + 1) + 1)).2 := ⟨_, rfl⟩
                                          obtain ⟨Wq_49, eWq_49⟩ : ∃ z1, z1 = (nmF (M 6) n 3 (dg (M 6) (Uq_45 + 1)) ((Uq_45 + 1) + 1)).1 := ⟨_, rfl⟩
                                          rw [rdP_ny hD, ← eUq_49, ← eWq_49] at hs
                                          rw [← eUq_49, ← eWq_49] at hM
                                          rw [← eUq_49] at hle9
                                          refine lv_if_eq (tgt := 148) hx hb dX7_order_141 (by decide) (fun cf => ?_) (fun cf => ?_)
                                          · exact absurd cf (by decide)
                                          · have hs : rdO (M 6) n u0 N = (true, Uq_49, upd (upd (upd (upd (upd N 0 (nI Wq_33)) 1 (nI Wq_37)) 2 (nI Wq_41)) 3 (nI Wq_45)) 4 (nI Wq_49)) := hs
                                            refine lv_iconst (v := 1) hx hb dX7_order_144 (by decide) ?_
                                            refine lv_goto (tgt := 149) hx hb dX7_order_145 (by decide) ?_
                                            refine lv_istore_n (lv' := [(3, .int 1), (2, .int (sgn (M 6) n u0)), (0, .ref w), (1, .int 1)]) hx hb dX7_order_149 rfl hl (by decide) rfl (fun ls hl => ?_)
                                            refine lv_goto (tgt := 198) hx hb dX7_order_150 (by decide) ?_
                                            refine lv_iload_n hx hb dX7_order_198 rfl (lv_at hl 0 rfl) ?_
                                            refine lv_if_ne (tgt := 205) hx hb dX7_order_199 (by decide) (fun cg => ?_) (fun cg => ?_)
                                            · refine lv_iload_n hx hb dX7_order_205 rfl (lv_at hl 3 rfl) ?_
                                              refine lv_if_ne (tgt := 211) hx hb dX7_order_206 (by decide) (fun ch => ?_) (fun ch => ?_)
                                              · refine lv_iload_n hx hb dX7_order_211 rfl (lv_at hl 1 rfl) ?_
                                                refine lv_bipush (v := 43) hx hb dX7_order_212 (by decide) ?_
                                                refine lv_icmp_ne (tgt := 254) hx hb dX7_order_214 (by decide) (fun ci => ?_) (fun ci => ?_)
                                                · exact absurd hkd ci
                                                · refine lv_aload_n hx hb dX7_order_217 rfl (lv_at hl 2 rfl) ?_
                                                  refine lv_aload_n hx hb dX7_order_218 rfl (lv_at hl 2 rfl) ?_
                                                  refine rg (C := RX7) (T := TX7) (N := 16) (v := .ref (w + 8)) hx hb hT inX7 hown hK hM.1 rfl 10 (by decide) mf_X7_32 rfl dX7_order_219 ?_
                                                  refine lv_iconst (v := 0) hx hb dX7_order_222 (by decide) ?_
                                                  refine r_ialdS (y := (upd (upd (upd (upd (upd N 0 (nI Wq_33)) 1 (nI Wq_37)) 2 (nI Wq_41)) 3 (nI Wq_45)) 4 (nI Wq_49)) 0) hx hb hK hM.2.2.2.2.2.2.2.2.1 0 (by decide) (by omega) (Nat.le_of_ble_eq_true rfl) rfl dX7_order_223 ?_
                                                  refine lv_aload_n hx hb dX7_order_224 rfl (lv_at hl 2 rfl) ?_
                                                  refine rg (C := RX7) (T := TX7) (N := 16) (v := .ref (w + 8)) hx hb hT inX7 hown hK hM.1 rfl 10 (by decide) mf_X7_32 rfl dX7_order_225 ?_
                                                  refine lv_iconst (v := 1) hx hb dX7_order_228 (by decide) ?_
                                                  refine r_ialdS (y := (upd (upd (upd (upd (upd N 0 (nI Wq_33)) 1 (nI Wq_37)) 2 (nI Wq_41)) 3 (nI Wq_45)) 4 (nI Wq_49)) 1) hx hb hK hM.2.2.2.2.2.2.2.2.1 1 (by decide) (by omega) (Nat.le_of_ble_eq_true rfl) rfl dX7_order_229 ?_
                                                  refine lv_aload_n hx hb dX7_order_230 rfl (lv_at hl 2 rfl) ?_
                                                  refine rg (C := RX7) (T := TX7) (N := 16) (v := .ref (w + 8)) hx hb hT inX7 hown hK hM.1 rfl 10 (by decide) mf_X7_32 rfl dX7_order_231 ?_
                                                  refine lv_iconst (v := 2) hx hb dX7_order_234 (by decide) ?_
                                                  refine r_ialdS (y := (upd (upd (upd (upd (upd N 0 (nI Wq_33)) 1 (nI Wq_37)) 2 (nI Wq_41)) 3 (nI Wq_45)) 4 (nI Wq_49)) 2) hx hb hK hM.2.2.2.2.2.2.2.2.1 2 (by decide) (by omega) (Nat.le_of_ble_eq_true rfl) rfl dX7_order_235 ?_
                                                  refine lv_aload_n hx hb dX7_order_236 rfl (lv_at hl 2 rfl) ?_
                                                  refine rg (C := RX7) (T := TX7) (N := 16) (v := .ref (w + 8)) hx hb hT inX7 hown hK hM.1 rfl 10 (by decide) mf_X7_32 rfl dX7_order_237 ?_
                                                  refine lv_iconst (v := 3) hx hb dX7_order_240 (by decide) ?_
                                                  refine r_ialdS (y := (upd (upd (upd (upd (upd N 0 (nI Wq_33)) 1 (nI Wq_37)) 2 (nI Wq_41)) 3 (nI Wq_45)) 4 (nI Wq_49)) 3) hx hb hK hM.2.2.2.2.2.2.2.2.1 3 (by decide) (by omega) (Nat.le_of_ble_eq_true rfl) rfl dX7_order_241 ?_
                                                  refine lv_aload_n hx hb dX7_order_242 rfl (lv_at hl 2 rfl) ?_
                                                  refine rg (C := RX7) (T := TX7) (N := 16) (v := .ref (w + 8)) hx hb hT inX7 hown hK hM.1 rfl 10 (by decide) mf_X7_32 rfl dX7_order_243 ?_
                                                  refine lv_iconst (v := 4) hx hb dX7_order_246 (by decide) ?_
                                                  refine r_ialdS (y := (upd (upd (upd (upd (upd N 0 (nI Wq_33)) 1 (nI Wq_37)) 2 (nI Wq_41)) 3 (nI Wq_45)) 4 (nI Wq_49)) 4) hx hb hK hM.2.2.2.2.2.2.2.2.1 4 (by decide) (by omega) (Nat.le_of_ble_eq_true rfl) rfl dX7_order_247 ?_
                                                  refine got_I (run_i hx hb hml hown hT hK hl.1 (k_X7_comes l G w (RdM M Uq_49 (upd (upd (upd (upd (upd N 0 (nI Wq_33)) 1 (nI Wq_37)) 2 (nI Wq_41)) 3 (nI Wq_45)) 4 (nI Wq_49))) ((upd (upd (upd (upd (upd N 0 (nI Wq_33)) 1 (nI Wq_37)) 2 (nI Wq_41)) 3 (nI Wq_45)) 4 (nI Wq_49)) 0) ((upd (upd (upd (upd (upd N 0 (nI Wq_33)) 1 (nI Wq_37)) 2 (nI Wq_41)) 3 (nI Wq_45)) 4 (nI Wq_49)) 1) ((upd (upd (upd (upd (upd N 0 (nI Wq_33)) 1 (nI Wq_37)) 2 (nI Wq_41)) 3 (nI Wq_45)) 4 (nI Wq_49)) 2) ((upd (upd (upd (upd (upd N 0 (nI Wq_33)) 1 (nI Wq_37)) 2 (nI Wq_41)) 3 (nI Wq_45)) 4 (nI Wq_49)) 3) ((upd (upd (upd (upd (upd N 0 (nI Wq_33)) 1 (nI Wq_37)) 2 (nI Wq_41)) 3 (nI Wq_45)) 4 (nI Wq_49)) 4) hw) (cw_X7_116 hT ⟨Nat.le_of_ble_eq_true rfl, Nat.le_of_ble_eq_true rfl⟩) hM.1 rfl hM rfl rfl (Nat.le_of_ble_eq_true rfl) dX7_order_248 ⟨Nat.zero_le _, Nat.zero_le _⟩) hS (fun q hq => hq) (fun q hq => hq) (fun v_51 H locs h1 hz hk hS => ?_)
                                                  obtain ⟨hv, hM⟩ := h1
                                                  rw [RdM_0] at hM
                                                  have ho : opO (M 0) (sgn (M 6) n u0) (upd (upd (upd (upd (upd N 0 (nI Wq_33)) 1 (nI Wq_37)) 2 (nI Wq_41)) 3 (nI Wq_45)) 4 (nI Wq_49)) = adO (M 0) ((upd (upd (upd (upd (upd N 0 (nI Wq_33)) 1 (nI Wq_37)) 2 (nI Wq_41)) 3 (nI Wq_45)) 4 (nI Wq_49)) 0) ((upd (upd (upd (upd (upd N 0 (nI Wq_33)) 1 (nI Wq_37)) 2 (nI Wq_41)) 3 (nI Wq_45)) 4 (nI Wq_49)) 1) ((upd (upd (upd (upd (upd N 0 (nI Wq_33)) 1 (nI Wq_37)) 2 (nI Wq_41)) 3 (nI Wq_45)) 4 (nI Wq_49)) 2) ((upd (upd (upd (upd (upd N 0 (nI Wq_33)) 1 (nI Wq_37)) 2 (nI Wq_41)) 3 (nI Wq_45)) 4 (nI Wq_49)) 3) ((upd (upd (upd (upd (upd N 0 (nI Wq_33)) 1 (nI Wq_37)) 2 (nI Wq_41)) 3 (nI Wq_45)) 4 (nI Wq_49)) 4) := if_pos hkd
                                                  refine lv_goto (tgt := 308) hx hb dX7_order_251 (by decide) ?_
                                                  exact nd_I hQ hx hb hr hlocks dX7_order_308 hS (⟨by rw [hs]; show _ = (opO (M 0) (sgn (M 6) n u0) (upd (upd (upd (upd (upd N 0 (nI Wq_33)) 1 (nI Wq_37)) 2 (nI Wq_41)) 3 (nI Wq_45)) 4 (nI Wq_49))).1; rw [ho]; exact hv, by rw [hs]; show MdAt G w (RdM (updM M 0 (opO (M 0) (sgn (M 6) n u0) (upd (upd (upd (upd (upd N 0 (nI Wq_33)) 1 (nI Wq_37)) 2 (nI Wq_41)) 3 (nI Wq_45)) 4 (nI Wq_49))).2) (Uq_49) (upd (upd (upd (upd (upd N 0 (nI Wq_33)) 1 (nI Wq_37)) 2 (nI Wq_41)) 3 (nI Wq_45)) 4 (nI Wq_49))) H; rw [ho]; exact hM⟩)
                                              · exact absurd ch (by decide)
                                            · exact absurd cg (by decide)
                                        · subst hv
                                          rw [rdP_nn hD] at hs
                                          refine lv_if_eq (tgt := 148) hx hb dX7_order_141 (by decide) (fun cf => ?_) (fun cf => ?_)
                                          · refine lv_iconst (v := 0) hx hb dX7_order_148 (by decide) ?_
                                            refine lv_istore_n (lv' := [(3, .int 0), (2, .int (sgn (M 6) n u0)), (0, .ref w), (1, .int 1)]) hx hb dX7_order_149 rfl hl (by decide) rfl (fun ls hl => ?_)
                                            refine lv_goto (tgt := 198) hx hb dX7_order_150 (by decide) ?_
                                            refine lv_iload_n hx hb dX7_order_198 rfl (lv_at hl 0 rfl) ?_
                                            refine lv_if_ne (tgt := 205) hx hb dX7_order_199 (by decide) (fun cz => ?_) (fun cz => ?_)
                                            · exact absurd rfl cz
                                            · refine lv_bipush (v := (-3)) hx hb dX7_order_202 (by decide) ?_
                                              exact nd_I hQ hx hb hr hlocks dX7_order_204 hS (⟨by rw [hs]; rfl, by rw [hs]; exact hM⟩)
                                          · exact absurd rfl cf
                                    · subst hv
                                      rw [rdP_sn (by decide) (by decide) hD] at hs
                                      refine lv_if_eq (tgt := 148) hx hb dX7_order_133 (by decide) (fun cf => ?_) (fun cf => ?_)
                                      · refine lv_iconst (v := 0) hx hb dX7_order_148 (by decide) ?_
                                        refine lv_istore_n (lv' := [(3, .int 0), (2, .int (sgn (M 6) n u0)), (0, .ref w), (1, .int 1)]) hx hb dX7_order_149 rfl hl (by decide) rfl (fun ls hl => ?_)
                                        refine lv_goto (tgt := 198) hx hb dX7_order_150 (by decide) ?_
                                        refine lv_iload_n hx hb dX7_order_198 rfl (lv_at hl 0 rfl) ?_
                                        refine lv_if_ne (tgt := 205) hx hb dX7_order_199 (by decide) (fun cz => ?_) (fun cz => ?_)
                                        · exact absurd rfl cz
                                        · refine lv_bipush (v := (-3)) hx hb dX7_order_202 (by decide) ?_
                                          exact nd_I hQ hx hb hr hlocks dX7_order_204 hS (⟨by rw [hs]; rfl, by rw [hs]; exact hM⟩)
                                      · exact absurd rfl cf
                                · subst hv
                                  rw [rdP_nn hD] at hs
                                  refine lv_if_eq (tgt := 148) hx hb dX7_order_124 (by decide) (fun cf => ?_) (fun cf => ?_)
                                  · refine lv_iconst (v := 0) hx hb dX7_order_148 (by decide) ?_
                                    refine lv_istore_n (lv' := [(3, .int 0), (2, .int (sgn (M 6) n u0)), (0, .ref w), (1, .int 1)]) hx hb dX7_order_149 rfl hl (by decide) rfl (fun ls hl => ?_)
                                    refine lv_goto (tgt := 198) hx hb dX7_order_150 (by decide) ?_
                                    refine lv_iload_n hx hb dX7_order_198 rfl (lv_at hl 0 rfl) ?_
                                    refine lv_if_ne (tgt := 205) hx hb dX7_order_199 (by decide) (fun cz => ?_) (fun cz => ?_)
                                    · exact absurd rfl cz
                                    · refine lv_bipush (v := (-3)) hx hb dX7_order_202 (by decide) ?_
                                      exact nd_I hQ hx hb hr hlocks dX7_order_204 hS (⟨by rw [hs]; rfl, by rw [hs]; exact hM⟩)
                                  · exact absurd rfl cf
                            · subst hv
                              rw [rdP_sn (by decide) (by decide) hD] at hs
                              refine lv_if_eq (tgt := 148) hx hb dX7_order_116 (by decide) (fun cf => ?_) (fun cf => ?_)
                              · refine lv_iconst (v := 0) hx hb dX7_order_148 (by decide) ?_
                                refine lv_istore_n (lv' := [(3, .int 0), (2, .int (sgn (M 6) n u0)), (0, .ref w), (1, .int 1)]) hx hb dX7_order_149 rfl hl (by decide) rfl (fun ls hl => ?_)
                                refine lv_goto (tgt := 198) hx hb dX7_order_150 (by decide) ?_
                                refine lv_iload_n hx hb dX7_order_198 rfl (lv_at hl 0 rfl) ?_
                                refine lv_if_ne (tgt := 205) hx hb dX7_order_199 (by decide) (fun cz => ?_) (fun cz => ?_)
                                · exact absurd rfl cz
                                · refine lv_bipush (v := (-3)) hx hb dX7_order_202 (by decide) ?_
                                  exact nd_I hQ hx hb hr hlocks dX7_order_204 hS (⟨by rw [hs]; rfl, by rw [hs]; exact hM⟩)
                              · exact absurd rfl cf
                        · subst hv
                          rw [rdP_nn hD] at hs
                          refine lv_if_eq (tgt := 148) hx hb dX7_order_107 (by decide) (fun cf => ?_) (fun cf => ?_)
                          · refine lv_iconst (v := 0) hx hb dX7_order_148 (by decide) ?_
                            refine lv_istore_n (lv' := [(3, .int 0), (2, .int (sgn (M 6) n u0)), (0, .ref w), (1, .int 1)]) hx hb dX7_order_149 rfl hl (by decide) rfl (fun ls hl => ?_)
                            refine lv_goto (tgt := 198) hx hb dX7_order_150 (by decide) ?_
                            refine lv_iload_n hx hb dX7_order_198 rfl (lv_at hl 0 rfl) ?_
                            refine lv_if_ne (tgt := 205) hx hb dX7_order_199 (by decide) (fun cz => ?_) (fun cz => ?_)
                            · exact absurd rfl cz
                            · refine lv_bipush (v := (-3)) hx hb dX7_order_202 (by decide) ?_
                              exact nd_I hQ hx hb hr hlocks dX7_order_204 hS (⟨by rw [hs]; rfl, by rw [hs]; exact hM⟩)
                          · exact absurd rfl cf
                    · subst hv
                      rw [rdP_sn (by decide) (by decide) hD] at hs
                      refine lv_if_eq (tgt := 148) hx hb dX7_order_99 (by decide) (fun cf => ?_) (fun cf => ?_)
                      · refine lv_iconst (v := 0) hx hb dX7_order_148 (by decide) ?_
                        refine lv_istore_n (lv' := [(3, .int 0), (2, .int (sgn (M 6) n u0)), (0, .ref w), (1, .int 1)]) hx hb dX7_order_149 rfl hl (by decide) rfl (fun ls hl => ?_)
                        refine lv_goto (tgt := 198) hx hb dX7_order_150 (by decide) ?_
                        refine lv_iload_n hx hb dX7_order_198 rfl (lv_at hl 0 rfl) ?_
                        refine lv_if_ne (tgt := 205) hx hb dX7_order_199 (by decide) (fun cz => ?_) (fun cz => ?_)
                        · exact absurd rfl cz
                        · refine lv_bipush (v := (-3)) hx hb dX7_order_202 (by decide) ?_
                          exact nd_I hQ hx hb hr hlocks dX7_order_204 hS (⟨by rw [hs]; rfl, by rw [hs]; exact hM⟩)
                      · exact absurd rfl cf
                · subst hv
                  rw [rdP_nn hD] at hs
                  refine lv_if_eq (tgt := 148) hx hb dX7_order_90 (by decide) (fun cf => ?_) (fun cf => ?_)
                  · refine lv_iconst (v := 0) hx hb dX7_order_148 (by decide) ?_
                    refine lv_istore_n (lv' := [(3, .int 0), (2, .int (sgn (M 6) n u0)), (0, .ref w), (1, .int 1)]) hx hb dX7_order_149 rfl hl (by decide) rfl (fun ls hl => ?_)
                    refine lv_goto (tgt := 198) hx hb dX7_order_150 (by decide) ?_
                    refine lv_iload_n hx hb dX7_order_198 rfl (lv_at hl 0 rfl) ?_
                    refine lv_if_ne (tgt := 205) hx hb dX7_order_199 (by decide) (fun cz => ?_) (fun cz => ?_)
                    · exact absurd rfl cz
                    · refine lv_bipush (v := (-3)) hx hb dX7_order_202 (by decide) ?_
                      exact nd_I hQ hx hb hr hlocks dX7_order_204 hS (⟨by rw [hs]; rfl, by rw [hs]; exact hM⟩)
                  · exact absurd rfl cf
            · subst hv
              rw [rdP_sn (by decide) (by decide) hD] at hs
              refine lv_if_eq (tgt := 148) hx hb dX7_order_82 (by decide) (fun cf => ?_) (fun cf => ?_)
              · refine lv_iconst (v := 0) hx hb dX7_order_148 (by decide) ?_
                refine lv_istore_n (lv' := [(3, .int 0), (2, .int (sgn (M 6) n u0)), (0, .ref w), (1, .int 1)]) hx hb dX7_order_149 rfl hl (by decide) rfl (fun ls hl => ?_)
                refine lv_goto (tgt := 198) hx hb dX7_order_150 (by decide) ?_
                refine lv_iload_n hx hb dX7_order_198 rfl (lv_at hl 0 rfl) ?_
                refine lv_if_ne (tgt := 205) hx hb dX7_order_199 (by decide) (fun cz => ?_) (fun cz => ?_)
                · exact absurd rfl cz
                · refine lv_bipush (v := (-3)) hx hb dX7_order_202 (by decide) ?_
                  exact nd_I hQ hx hb hr hlocks dX7_order_204 hS (⟨by rw [hs]; rfl, by rw [hs]; exact hM⟩)
              · exact absurd rfl cf
        · subst hv
          rw [rdP_nn hD] at hs
          refine lv_if_eq (tgt := 148) hx hb dX7_order_73 (by decide) (fun cf => ?_) (fun cf => ?_)
          · refine lv_iconst (v := 0) hx hb dX7_order_148 (by decide) ?_
            refine lv_istore_n (lv' := [(3, .int 0), (2, .int (sgn (M 6) n u0)), (0, .ref w), (1, .int 1)]) hx hb dX7_order_149 rfl hl (by decide) rfl (fun ls hl => ?_)
            refine lv_goto (tgt := 198) hx hb dX7_order_150 (by decide) ?_
            refine lv_iload_n hx hb dX7_order_198 rfl (lv_at hl 0 rfl) ?_
            refine lv_if_ne (tgt := 205) hx hb dX7_order_199 (by decide) (fun cz => ?_) (fun cz => ?_)
            · exact absurd rfl cz
            · refine lv_bipush (v := (-3)) hx hb dX7_order_202 (by decide) ?_
              exact nd_I hQ hx hb hr hlocks dX7_order_204 hS (⟨by rw [hs]; rfl, by rw [hs]; exact hM⟩)
          · exact absurd rfl cf
    · refine lv_iload_n hx hb dX7_order_31 rfl (lv_at hl 0 rfl) ?_
      refine lv_bipush (v := 115) hx hb dX7_order_32 (by decide) ?_
      refine lv_icmp_eq (tgt := 52) hx hb dX7_order_34 (by decide) (fun e2 => ?_) (fun e2 => ?_)
      · have hkd : sgn (M 6) n u0 = 115 := e2
        have hlt0 : u0 < n := sgn_y (by decide) hkd
        refine lv_aload_n hx hb dX7_order_52 rfl (lv_at hl 1 rfl) ?_
        refine lv_dup hx hb dX7_order_53 rfl ?_
        refine rg (C := RX7) (T := TX7) (N := 16) (v := .int (nI u0)) hx hb hT inX7 hown hK hM.1 rfl 8 (by decide) mf_X7_158 rfl dX7_order_54 ?_
        refine lv_iconst (v := 1) hx hb dX7_order_57 (by decide) ?_
        refine lv_iadd hx hb dX7_order_58 ?_
        rw [nI_1]
        refine rp (C := RX7) (T := TX7) (N := 16) (v := .int (nI (u0 + 1))) (ty := .int) hx hb hT inX7 tyX7 tyX7_ok nmX7 hown hK hM.1 rfl 8 (by decide) mf_X7_158 rfl (by decide +kernel) rfl rfl (Nat.le_of_ble_eq_true rfl) hS (show _ ∧ _ from ⟨by omega, by omega⟩) dX7_order_59 (fun H locs h1 o hS => ?_)
        have hM := hM.s8 h1 o
        rw [RdM_p] at hM
        have hs : rdO (M 6) n u0 N = rdP (M 6) n [37, 61, 35] (u0 + 1) 0 N := (if_neg (by rw [hkd]; decide)).trans (if_pos hkd)
        refine lv_iload_n hx hb dX7_order_62 rfl (lv_at hl 0 rfl) ?_
        refine lv_bipush (v := 43) hx hb dX7_order_63 (by decide) ?_
        refine lv_icmp_ne (tgt := 153) hx hb dX7_order_65 (by decide) (fun ea => ?_) (fun ea => ?_)
        · refine lv_iload_n hx hb dX7_order_153 rfl (lv_at hl 0 rfl) ?_
          refine lv_bipush (v := 115) hx hb dX7_order_154 (by decide) ?_
          refine lv_icmp_ne (tgt := 192) hx hb dX7_order_156 (by decide) (fun eb => ?_) (fun eb => ?_)
          · exact absurd hkd eb
          · refine lv_aload_n hx hb dX7_order_159 rfl (lv_at hl 1 rfl) ?_
            refine got_I (run_i hx hb hml hown hT hK hl.1 (k_X7_digit l G w M n (u0 + 1) N hn (by omega) h7) (cw_X7_171 hT ⟨Nat.le_of_ble_eq_true rfl, Nat.le_of_ble_eq_true rfl⟩) hM.1 rfl hM rfl rfl (Nat.le_of_ble_eq_true rfl) dX7_order_160 ⟨Nat.zero_le _, Nat.zero_le _⟩) hS (fun q hq => hq) (fun q hq => hq) (fun v_53 H locs h1 hz hk hS => ?_)
            rcases h1 with ⟨hv, hD, hM⟩ | ⟨hv, hD, hM⟩
            · subst hv
              have hDn := hD.1
              rw [rdP_dy hD] at hs
              refine lv_if_eq (tgt := 187) hx hb dX7_order_163 (by decide) (fun cf => ?_) (fun cf => ?_)
              · exact absurd cf (by decide)
              · refine lv_aload_n hx hb dX7_order_166 rfl (lv_at hl 1 rfl) ?_
                refine lv_bipush (v := 61) hx hb dX7_order_167 (by decide) ?_
                refine got_I (run_i hx hb hml hown hT hK hl.1 (k_X7_sign l G w M n (u0 + 1 + 1) (upd N 0 (nI (dg (M 6) (u0 + 1)))) 61 hn (by omega) h7) (cw_X7_168 hT ⟨Nat.le_of_ble_eq_true rfl, Nat.le_of_ble_eq_true rfl⟩) hM.1 rfl hM rfl rfl (Nat.le_of_ble_eq_true rfl) dX7_order_169 ⟨Nat.zero_le _, Nat.zero_le _⟩) hS (fun q hq => hq) (fun q hq => hq) (fun v_55 H locs h1 hz hk hS => ?_)
                rcases h1 with ⟨hv, hD, hM⟩ | ⟨hv, hD, hM⟩
                · subst hv
                  have hDn := hD.1
                  rw [rdP_sy (by decide) (by decide) hD] at hs
                  refine lv_if_eq (tgt := 187) hx hb dX7_order_172 (by decide) (fun cf => ?_) (fun cf => ?_)
                  · exact absurd cf (by decide)
                  · refine lv_aload_n hx hb dX7_order_175 rfl (lv_at hl 1 rfl) ?_
                    refine lv_iconst (v := 1) hx hb dX7_order_176 (by decide) ?_
                    refine got_I (run_i hx hb hml hown hT hK hl.1 (k_X7_number l G w M n (u0 + 1 + 1 + 1) (upd N 0 (nI (dg (M 6) (u0 + 1)))) 1 hn (by omega) h7 (by omega)) (cw_X7_165 hT ⟨Nat.le_of_ble_eq_true rfl, Nat.le_of_ble_eq_true rfl⟩) hM.1 rfl hM rfl rfl (Nat.le_of_ble_eq_true rfl) dX7_order_177 ⟨Nat.zero_le _, Nat.zero_le _⟩) hS (fun q hq => hq) (fun q hq => hq) (fun v_57 H locs h1 hz hk hS => ?_)
                    rcases h1 with ⟨hv, hD, hM⟩ | ⟨hv, hD, hM⟩
                    · subst hv
                      have hDn := hD.1
                      have hle9 := nmF_le (T := M 6) 3 (dg (M 6) (u0 + 1 + 1 + 1)) ((u0 + 1 + 1 + 1) + 1) hDn
                      obtain ⟨Uq_56, eUq_56⟩ : ∃ z1, z1 = (nmF (M 6) n 3 (dg (M 6) (u0 + 1 + 1 + 1)) ((u0 + 1 + 1 + 1) + 1)).2 := ⟨_, rfl⟩
                      obtain ⟨Wq_56, eWq_56⟩ : ∃ z1, z1 = (nmF (M 6) n 3 (dg (M 6) (u0 + 1 + 1 + 1)) ((u0 + 1 + 1 + 1) + 1)).1 := ⟨_, rfl⟩
                      rw [rdP_ny hD, ← eUq_56, ← eWq_56] at hs
                      rw [← eUq_56, ← eWq_56] at hM
                      rw [← eUq_56] at hle9
                      refine lv_if_eq (tgt := 187) hx hb dX7_order_180 (by decide) (fun cf => ?_) (fun cf => ?_)
                      · exact absurd cf (by decide)
                      · have hs : rdO (M 6) n u0 N = (true, Uq_56, upd (upd N 0 (nI (dg (M 6) (u0 + 1)))) 1 (nI Wq_56)) := hs
                        refine lv_iconst (v := 1) hx hb dX7_order_183 (by decide) ?_
                        refine lv_goto (tgt := 188) hx hb dX7_order_184 (by decide) ?_
                        refine lv_istore_n (lv' := [(3, .int 1), (2, .int (sgn (M 6) n u0)), (0, .ref w), (1, .int 1)]) hx hb dX7_order_188 rfl hl (by decide) rfl (fun ls hl => ?_)
                        refine lv_goto (tgt := 198) hx hb dX7_order_189 (by decide) ?_
                        refine lv_iload_n hx hb dX7_order_198 rfl (lv_at hl 0 rfl) ?_
                        refine lv_if_ne (tgt := 205) hx hb dX7_order_199 (by decide) (fun cg => ?_) (fun cg => ?_)
                        · refine lv_iload_n hx hb dX7_order_205 rfl (lv_at hl 3 rfl) ?_
                          refine lv_if_ne (tgt := 211) hx hb dX7_order_206 (by decide) (fun ch => ?_) (fun ch => ?_)
                          · refine lv_iload_n hx hb dX7_order_211 rfl (lv_at hl 1 rfl) ?_
                            refine lv_bipush (v := 43) hx hb dX7_order_212 (by decide) ?_
                            refine lv_icmp_ne (tgt := 254) hx hb dX7_order_214 (by decide) (fun ci => ?_) (fun ci => ?_)
                            · refine lv_iload_n hx hb dX7_order_254 rfl (lv_at hl 1 rfl) ?_
                              refine lv_bipush (v := 115) hx hb dX7_order_255 (by decide) ?_
                              refine lv_icmp_ne (tgt := 279) hx hb dX7_order_257 (by decide) (fun ci => ?_) (fun ci => ?_)
                              · exact absurd hkd ci
                              · refine lv_aload_n hx hb dX7_order_260 rfl (lv_at hl 2 rfl) ?_
                                refine lv_aload_n hx hb dX7_order_261 rfl (lv_at hl 2 rfl) ?_
                                refine rg (C := RX7) (T := TX7) (N := 16) (v := .ref (w + 8)) hx hb hT inX7 hown hK hM.1 rfl 10 (by decide) mf_X7_32 rfl dX7_order_262 ?_
                                refine lv_iconst (v := 0) hx hb dX7_order_265 (by decide) ?_
                                refine r_ialdS (y := (upd (upd N 0 (nI (dg (M 6) (u0 + 1)))) 1 (nI Wq_56)) 0) hx hb hK hM.2.2.2.2.2.2.2.2.1 0 (by decide) (by omega) (Nat.le_of_ble_eq_true rfl) rfl dX7_order_266 ?_
                                refine lv_aload_n hx hb dX7_order_267 rfl (lv_at hl 2 rfl) ?_
                                refine rg (C := RX7) (T := TX7) (N := 16) (v := .ref (w + 8)) hx hb hT inX7 hown hK hM.1 rfl 10 (by decide) mf_X7_32 rfl dX7_order_268 ?_
                                refine lv_iconst (v := 1) hx hb dX7_order_271 (by decide) ?_
                                refine r_ialdS (y := (upd (upd N 0 (nI (dg (M 6) (u0 + 1)))) 1 (nI Wq_56)) 1) hx hb hK hM.2.2.2.2.2.2.2.2.1 1 (by decide) (by omega) (Nat.le_of_ble_eq_true rfl) rfl dX7_order_272 ?_
                                refine got_I (run_i hx hb hml hown hT hK hl.1 (k_X7_gets l G w (RdM M Uq_56 (upd (upd N 0 (nI (dg (M 6) (u0 + 1)))) 1 (nI Wq_56))) ((upd (upd N 0 (nI (dg (M 6) (u0 + 1)))) 1 (nI Wq_56)) 0) ((upd (upd N 0 (nI (dg (M 6) (u0 + 1)))) 1 (nI Wq_56)) 1) hw) (cw_X7_124 hT ⟨Nat.le_of_ble_eq_true rfl, Nat.le_of_ble_eq_true rfl⟩) hM.1 rfl hM rfl rfl (Nat.le_of_ble_eq_true rfl) dX7_order_273 ⟨Nat.zero_le _, Nat.zero_le _⟩) hS (fun q hq => hq) (fun q hq => hq) (fun v_58 H locs h1 hz hk hS => ?_)
                                obtain ⟨hv, hM⟩ := h1
                                rw [RdM_0] at hM
                                have ho : opO (M 0) (sgn (M 6) n u0) (upd (upd N 0 (nI (dg (M 6) (u0 + 1)))) 1 (nI Wq_56)) = shO (M 0) ((upd (upd N 0 (nI (dg (M 6) (u0 + 1)))) 1 (nI Wq_56)) 0) ((upd (upd N 0 (nI (dg (M 6) (u0 + 1)))) 1 (nI Wq_56)) 1) := (if_neg (by rw [hkd]; decide)).trans (if_pos hkd)
                                refine lv_goto (tgt := 308) hx hb dX7_order_276 (by decide) ?_
                                exact nd_I hQ hx hb hr hlocks dX7_order_308 hS (⟨by rw [hs]; show _ = (opO (M 0) (sgn (M 6) n u0) (upd (upd N 0 (nI (dg (M 6) (u0 + 1)))) 1 (nI Wq_56))).1; rw [ho]; exact hv, by rw [hs]; show MdAt G w (RdM (updM M 0 (opO (M 0) (sgn (M 6) n u0) (upd (upd N 0 (nI (dg (M 6) (u0 + 1)))) 1 (nI Wq_56))).2) (Uq_56) (upd (upd N 0 (nI (dg (M 6) (u0 + 1)))) 1 (nI Wq_56))) H; rw [ho]; exact hM⟩)
                            · rw [hkd] at ci
                              exact absurd ci (by decide)
                          · exact absurd ch (by decide)
                        · exact absurd cg (by decide)
                    · subst hv
                      rw [rdP_nn hD] at hs
                      refine lv_if_eq (tgt := 187) hx hb dX7_order_180 (by decide) (fun cf => ?_) (fun cf => ?_)
                      · refine lv_iconst (v := 0) hx hb dX7_order_187 (by decide) ?_
                        refine lv_istore_n (lv' := [(3, .int 0), (2, .int (sgn (M 6) n u0)), (0, .ref w), (1, .int 1)]) hx hb dX7_order_188 rfl hl (by decide) rfl (fun ls hl => ?_)
                        refine lv_goto (tgt := 198) hx hb dX7_order_189 (by decide) ?_
                        refine lv_iload_n hx hb dX7_order_198 rfl (lv_at hl 0 rfl) ?_
                        refine lv_if_ne (tgt := 205) hx hb dX7_order_199 (by decide) (fun cz => ?_) (fun cz => ?_)
                        · exact absurd rfl cz
                        · refine lv_bipush (v := (-3)) hx hb dX7_order_202 (by decide) ?_
                          exact nd_I hQ hx hb hr hlocks dX7_order_204 hS (⟨by rw [hs]; rfl, by rw [hs]; exact hM⟩)
                      · exact absurd rfl cf
                · subst hv
                  rw [rdP_sn (by decide) (by decide) hD] at hs
                  refine lv_if_eq (tgt := 187) hx hb dX7_order_172 (by decide) (fun cf => ?_) (fun cf => ?_)
                  · refine lv_iconst (v := 0) hx hb dX7_order_187 (by decide) ?_
                    refine lv_istore_n (lv' := [(3, .int 0), (2, .int (sgn (M 6) n u0)), (0, .ref w), (1, .int 1)]) hx hb dX7_order_188 rfl hl (by decide) rfl (fun ls hl => ?_)
                    refine lv_goto (tgt := 198) hx hb dX7_order_189 (by decide) ?_
                    refine lv_iload_n hx hb dX7_order_198 rfl (lv_at hl 0 rfl) ?_
                    refine lv_if_ne (tgt := 205) hx hb dX7_order_199 (by decide) (fun cz => ?_) (fun cz => ?_)
                    · exact absurd rfl cz
                    · refine lv_bipush (v := (-3)) hx hb dX7_order_202 (by decide) ?_
                      exact nd_I hQ hx hb hr hlocks dX7_order_204 hS (⟨by rw [hs]; rfl, by rw [hs]; exact hM⟩)
                  · exact absurd rfl cf
            · subst hv
              rw [rdP_dn hD] at hs
              refine lv_if_eq (tgt := 187) hx hb dX7_order_163 (by decide) (fun cf => ?_) (fun cf => ?_)
              · refine lv_iconst (v := 0) hx hb dX7_order_187 (by decide) ?_
                refine lv_istore_n (lv' := [(3, .int 0), (2, .int (sgn (M 6) n u0)), (0, .ref w), (1, .int 1)]) hx hb dX7_order_188 rfl hl (by decide) rfl (fun ls hl => ?_)
                refine lv_goto (tgt := 198) hx hb dX7_order_189 (by decide) ?_
                refine lv_iload_n hx hb dX7_order_198 rfl (lv_at hl 0 rfl) ?_
                refine lv_if_ne (tgt := 205) hx hb dX7_order_199 (by decide) (fun cz => ?_) (fun cz => ?_)
                · exact absurd rfl cz
                · refine lv_bipush (v := (-3)) hx hb dX7_order_202 (by decide) ?_
                  exact nd_I hQ hx hb hr hlocks dX7_order_204 hS (⟨by rw [hs]; rfl, by rw [hs]; exact hM⟩)
              · exact absurd rfl cf
        · rw [hkd] at ea
          exact absurd ea (by decide)
      · refine lv_iload_n hx hb dX7_order_37 rfl (lv_at hl 0 rfl) ?_
        refine lv_bipush (v := 100) hx hb dX7_order_38 (by decide) ?_
        refine lv_icmp_eq (tgt := 52) hx hb dX7_order_40 (by decide) (fun e3 => ?_) (fun e3 => ?_)
        · have hkd : sgn (M 6) n u0 = 100 := e3
          have hlt0 : u0 < n := sgn_y (by decide) hkd
          refine lv_aload_n hx hb dX7_order_52 rfl (lv_at hl 1 rfl) ?_
          refine lv_dup hx hb dX7_order_53 rfl ?_
          refine rg (C := RX7) (T := TX7) (N := 16) (v := .int (nI u0)) hx hb hT inX7 hown hK hM.1 rfl 8 (by decide) mf_X7_158 rfl dX7_order_54 ?_
          refine lv_iconst (v := 1) hx hb dX7_order_57 (by decide) ?_
          refine lv_iadd hx hb dX7_order_58 ?_
          rw [nI_1]
          refine rp (C := RX7) (T := TX7) (N := 16) (v := .int (nI (u0 + 1))) (ty := .int) hx hb hT inX7 tyX7 tyX7_ok nmX7 hown hK hM.1 rfl 8 (by decide) mf_X7_158 rfl (by decide +kernel) rfl rfl (Nat.le_of_ble_eq_true rfl) hS (show _ ∧ _ from ⟨by omega, by omega⟩) dX7_order_59 (fun H locs h1 o hS => ?_)
          have hM := hM.s8 h1 o
          rw [RdM_p] at hM
          have hs : rdO (M 6) n u0 N = rdP (M 6) n [35] (u0 + 1) 0 N := (if_neg (by rw [hkd]; decide)).trans ((if_neg (by rw [hkd]; decide)).trans (if_pos (Or.inl hkd)))
          refine lv_iload_n hx hb dX7_order_62 rfl (lv_at hl 0 rfl) ?_
          refine lv_bipush (v := 43) hx hb dX7_order_63 (by decide) ?_
          refine lv_icmp_ne (tgt := 153) hx hb dX7_order_65 (by decide) (fun ea => ?_) (fun ea => ?_)
          · refine lv_iload_n hx hb dX7_order_153 rfl (lv_at hl 0 rfl) ?_
            refine lv_bipush (v := 115) hx hb dX7_order_154 (by decide) ?_
            refine lv_icmp_ne (tgt := 192) hx hb dX7_order_156 (by decide) (fun eb => ?_) (fun eb => ?_)
            · refine lv_aload_n hx hb dX7_order_192 rfl (lv_at hl 1 rfl) ?_
              refine lv_iconst (v := 0) hx hb dX7_order_193 (by decide) ?_
              refine got_I (run_i hx hb hml hown hT hK hl.1 (k_X7_number l G w M n (u0 + 1) N 0 hn (by omega) h7 (by omega)) (cw_X7_165 hT ⟨Nat.le_of_ble_eq_true rfl, Nat.le_of_ble_eq_true rfl⟩) hM.1 rfl hM rfl rfl (Nat.le_of_ble_eq_true rfl) dX7_order_194 ⟨Nat.zero_le _, Nat.zero_le _⟩) hS (fun q hq => hq) (fun q hq => hq) (fun v_60 H locs h1 hz hk hS => ?_)
              rcases h1 with ⟨hv, hD, hM⟩ | ⟨hv, hD, hM⟩
              · subst hv
                have hDn := hD.1
                have hle9 := nmF_le (T := M 6) 3 (dg (M 6) (u0 + 1)) ((u0 + 1) + 1) hDn
                obtain ⟨Uq_59, eUq_59⟩ : ∃ z1, z1 = (nmF (M 6) n 3 (dg (M 6) (u0 + 1)) ((u0 + 1) + 1)).2 := ⟨_, rfl⟩
                obtain ⟨Wq_59, eWq_59⟩ : ∃ z1, z1 = (nmF (M 6) n 3 (dg (M 6) (u0 + 1)) ((u0 + 1) + 1)).1 := ⟨_, rfl⟩
                rw [rdP_ny hD, ← eUq_59, ← eWq_59] at hs
                rw [← eUq_59, ← eWq_59] at hM
                rw [← eUq_59] at hle9
                have hs : rdO (M 6) n u0 N = (true, Uq_59, upd N 0 (nI Wq_59)) := hs
                refine lv_istore_n (lv' := [(3, .int 1), (2, .int (sgn (M 6) n u0)), (0, .ref w), (1, .int 1)]) hx hb dX7_order_197 rfl hl (by decide) rfl (fun ls hl => ?_)
                refine lv_iload_n hx hb dX7_order_198 rfl (lv_at hl 0 rfl) ?_
                refine lv_if_ne (tgt := 205) hx hb dX7_order_199 (by decide) (fun cg => ?_) (fun cg => ?_)
                · refine lv_iload_n hx hb dX7_order_205 rfl (lv_at hl 3 rfl) ?_
                  refine lv_if_ne (tgt := 211) hx hb dX7_order_206 (by decide) (fun ch => ?_) (fun ch => ?_)
                  · refine lv_iload_n hx hb dX7_order_211 rfl (lv_at hl 1 rfl) ?_
                    refine lv_bipush (v := 43) hx hb dX7_order_212 (by decide) ?_
                    refine lv_icmp_ne (tgt := 254) hx hb dX7_order_214 (by decide) (fun ci => ?_) (fun ci => ?_)
                    · refine lv_iload_n hx hb dX7_order_254 rfl (lv_at hl 1 rfl) ?_
                      refine lv_bipush (v := 115) hx hb dX7_order_255 (by decide) ?_
                      refine lv_icmp_ne (tgt := 279) hx hb dX7_order_257 (by decide) (fun ci => ?_) (fun ci => ?_)
                      · refine lv_iload_n hx hb dX7_order_279 rfl (lv_at hl 1 rfl) ?_
                        refine lv_bipush (v := 100) hx hb dX7_order_280 (by decide) ?_
                        refine lv_icmp_ne (tgt := 298) hx hb dX7_order_282 (by decide) (fun ci => ?_) (fun ci => ?_)
                        · exact absurd hkd ci
                        · refine lv_aload_n hx hb dX7_order_285 rfl (lv_at hl 2 rfl) ?_
                          refine lv_aload_n hx hb dX7_order_286 rfl (lv_at hl 2 rfl) ?_
                          refine rg (C := RX7) (T := TX7) (N := 16) (v := .ref (w + 8)) hx hb hT inX7 hown hK hM.1 rfl 10 (by decide) mf_X7_32 rfl dX7_order_287 ?_
                          refine lv_iconst (v := 0) hx hb dX7_order_290 (by decide) ?_
                          refine r_ialdS (y := (upd N 0 (nI Wq_59)) 0) hx hb hK hM.2.2.2.2.2.2.2.2.1 0 (by decide) (by omega) (Nat.le_of_ble_eq_true rfl) rfl dX7_order_291 ?_
                          refine got_I (run_i hx hb hml hown hT hK hl.1 (k_X7_waits l G w (RdM M Uq_59 (upd N 0 (nI Wq_59))) ((upd N 0 (nI Wq_59)) 0) hw) (cw_X7_133 hT ⟨Nat.le_of_ble_eq_true rfl, Nat.le_of_ble_eq_true rfl⟩) hM.1 rfl hM rfl rfl (Nat.le_of_ble_eq_true rfl) dX7_order_292 ⟨Nat.zero_le _, Nat.zero_le _⟩) hS (fun q hq => hq) (fun q hq => hq) (fun v_61 H locs h1 hz hk hS => ?_)
                          obtain ⟨hv, hM⟩ := h1
                          rw [RdM_0] at hM
                          have ho : opO (M 0) (sgn (M 6) n u0) (upd N 0 (nI Wq_59)) = pdO (M 0) ((upd N 0 (nI Wq_59)) 0) := (if_neg (by rw [hkd]; decide)).trans ((if_neg (by rw [hkd]; decide)).trans (if_pos hkd))
                          refine lv_goto (tgt := 308) hx hb dX7_order_295 (by decide) ?_
                          exact nd_I hQ hx hb hr hlocks dX7_order_308 hS (⟨by rw [hs]; show _ = (opO (M 0) (sgn (M 6) n u0) (upd N 0 (nI Wq_59))).1; rw [ho]; exact hv, by rw [hs]; show MdAt G w (RdM (updM M 0 (opO (M 0) (sgn (M 6) n u0) (upd N 0 (nI Wq_59))).2) (Uq_59) (upd N 0 (nI Wq_59))) H; rw [ho]; exact hM⟩)
                      · rw [hkd] at ci
                        exact absurd ci (by decide)
                    · rw [hkd] at ci
                      exact absurd ci (by decide)
                  · exact absurd ch (by decide)
                · exact absurd cg (by decide)
              · subst hv
                rw [rdP_nn hD] at hs
                refine lv_istore_n (lv' := [(3, .int 0), (2, .int (sgn (M 6) n u0)), (0, .ref w), (1, .int 1)]) hx hb dX7_order_197 rfl hl (by decide) rfl (fun ls hl => ?_)
                refine lv_iload_n hx hb dX7_order_198 rfl (lv_at hl 0 rfl) ?_
                refine lv_if_ne (tgt := 205) hx hb dX7_order_199 (by decide) (fun cz => ?_) (fun cz => ?_)
                · exact absurd rfl cz
                · refine lv_bipush (v := (-3)) hx hb dX7_order_202 (by decide) ?_
                  exact nd_I hQ hx hb hr hlocks dX7_order_204 hS (⟨by rw [hs]; rfl, by rw [hs]; exact hM⟩)
            · rw [hkd] at eb
              exact absurd eb (by decide)
          · rw [hkd] at ea
            exact absurd ea (by decide)
        · refine lv_iload_n hx hb dX7_order_43 rfl (lv_at hl 0 rfl) ?_
          refine lv_bipush (v := 109) hx hb dX7_order_44 (by decide) ?_
          refine lv_icmp_eq (tgt := 52) hx hb dX7_order_46 (by decide) (fun e4 => ?_) (fun e4 => ?_)
          · have hkd : sgn (M 6) n u0 = 109 := e4
            have hlt0 : u0 < n := sgn_y (by decide) hkd
            refine lv_aload_n hx hb dX7_order_52 rfl (lv_at hl 1 rfl) ?_
            refine lv_dup hx hb dX7_order_53 rfl ?_
            refine rg (C := RX7) (T := TX7) (N := 16) (v := .int (nI u0)) hx hb hT inX7 hown hK hM.1 rfl 8 (by decide) mf_X7_158 rfl dX7_order_54 ?_
            refine lv_iconst (v := 1) hx hb dX7_order_57 (by decide) ?_
            refine lv_iadd hx hb dX7_order_58 ?_
            rw [nI_1]
            refine rp (C := RX7) (T := TX7) (N := 16) (v := .int (nI (u0 + 1))) (ty := .int) hx hb hT inX7 tyX7 tyX7_ok nmX7 hown hK hM.1 rfl 8 (by decide) mf_X7_158 rfl (by decide +kernel) rfl rfl (Nat.le_of_ble_eq_true rfl) hS (show _ ∧ _ from ⟨by omega, by omega⟩) dX7_order_59 (fun H locs h1 o hS => ?_)
            have hM := hM.s8 h1 o
            rw [RdM_p] at hM
            have hs : rdO (M 6) n u0 N = rdP (M 6) n [35] (u0 + 1) 0 N := (if_neg (by rw [hkd]; decide)).trans ((if_neg (by rw [hkd]; decide)).trans (if_pos (Or.inr hkd)))
            refine lv_iload_n hx hb dX7_order_62 rfl (lv_at hl 0 rfl) ?_
            refine lv_bipush (v := 43) hx hb dX7_order_63 (by decide) ?_
            refine lv_icmp_ne (tgt := 153) hx hb dX7_order_65 (by decide) (fun ea => ?_) (fun ea => ?_)
            · refine lv_iload_n hx hb dX7_order_153 rfl (lv_at hl 0 rfl) ?_
              refine lv_bipush (v := 115) hx hb dX7_order_154 (by decide) ?_
              refine lv_icmp_ne (tgt := 192) hx hb dX7_order_156 (by decide) (fun eb => ?_) (fun eb => ?_)
              · refine lv_aload_n hx hb dX7_order_192 rfl (lv_at hl 1 rfl) ?_
                refine lv_iconst (v := 0) hx hb dX7_order_193 (by decide) ?_
                refine got_I (run_i hx hb hml hown hT hK hl.1 (k_X7_number l G w M n (u0 + 1) N 0 hn (by omega) h7 (by omega)) (cw_X7_165 hT ⟨Nat.le_of_ble_eq_true rfl, Nat.le_of_ble_eq_true rfl⟩) hM.1 rfl hM rfl rfl (Nat.le_of_ble_eq_true rfl) dX7_order_194 ⟨Nat.zero_le _, Nat.zero_le _⟩) hS (fun q hq => hq) (fun q hq => hq) (fun v_63 H locs h1 hz hk hS => ?_)
                rcases h1 with ⟨hv, hD, hM⟩ | ⟨hv, hD, hM⟩
                · subst hv
                  have hDn := hD.1
                  have hle9 := nmF_le (T := M 6) 3 (dg (M 6) (u0 + 1)) ((u0 + 1) + 1) hDn
                  obtain ⟨Uq_62, eUq_62⟩ : ∃ z1, z1 = (nmF (M 6) n 3 (dg (M 6) (u0 + 1)) ((u0 + 1) + 1)).2 := ⟨_, rfl⟩
                  obtain ⟨Wq_62, eWq_62⟩ : ∃ z1, z1 = (nmF (M 6) n 3 (dg (M 6) (u0 + 1)) ((u0 + 1) + 1)).1 := ⟨_, rfl⟩
                  rw [rdP_ny hD, ← eUq_62, ← eWq_62] at hs
                  rw [← eUq_62, ← eWq_62] at hM
                  rw [← eUq_62] at hle9
                  have hs : rdO (M 6) n u0 N = (true, Uq_62, upd N 0 (nI Wq_62)) := hs
                  refine lv_istore_n (lv' := [(3, .int 1), (2, .int (sgn (M 6) n u0)), (0, .ref w), (1, .int 1)]) hx hb dX7_order_197 rfl hl (by decide) rfl (fun ls hl => ?_)
                  refine lv_iload_n hx hb dX7_order_198 rfl (lv_at hl 0 rfl) ?_
                  refine lv_if_ne (tgt := 205) hx hb dX7_order_199 (by decide) (fun cg => ?_) (fun cg => ?_)
                  · refine lv_iload_n hx hb dX7_order_205 rfl (lv_at hl 3 rfl) ?_
                    refine lv_if_ne (tgt := 211) hx hb dX7_order_206 (by decide) (fun ch => ?_) (fun ch => ?_)
                    · refine lv_iload_n hx hb dX7_order_211 rfl (lv_at hl 1 rfl) ?_
                      refine lv_bipush (v := 43) hx hb dX7_order_212 (by decide) ?_
                      refine lv_icmp_ne (tgt := 254) hx hb dX7_order_214 (by decide) (fun ci => ?_) (fun ci => ?_)
                      · refine lv_iload_n hx hb dX7_order_254 rfl (lv_at hl 1 rfl) ?_
                        refine lv_bipush (v := 115) hx hb dX7_order_255 (by decide) ?_
                        refine lv_icmp_ne (tgt := 279) hx hb dX7_order_257 (by decide) (fun ci => ?_) (fun ci => ?_)
                        · refine lv_iload_n hx hb dX7_order_279 rfl (lv_at hl 1 rfl) ?_
                          refine lv_bipush (v := 100) hx hb dX7_order_280 (by decide) ?_
                          refine lv_icmp_ne (tgt := 298) hx hb dX7_order_282 (by decide) (fun ci => ?_) (fun ci => ?_)
                          · refine lv_aload_n hx hb dX7_order_298 rfl (lv_at hl 2 rfl) ?_
                            refine lv_aload_n hx hb dX7_order_299 rfl (lv_at hl 2 rfl) ?_
                            refine rg (C := RX7) (T := TX7) (N := 16) (v := .ref (w + 8)) hx hb hT inX7 hown hK hM.1 rfl 10 (by decide) mf_X7_32 rfl dX7_order_300 ?_
                            refine lv_iconst (v := 0) hx hb dX7_order_303 (by decide) ?_
                            refine r_ialdS (y := (upd N 0 (nI Wq_62)) 0) hx hb hK hM.2.2.2.2.2.2.2.2.1 0 (by decide) (by omega) (Nat.le_of_ble_eq_true rfl) rfl dX7_order_304 ?_
                            refine got_I (run_i hx hb hml hown hT hK hl.1 (k_X7_mixes l G w (RdM M Uq_62 (upd N 0 (nI Wq_62))) ((upd N 0 (nI Wq_62)) 0) hw) (cw_X7_130 hT ⟨Nat.le_of_ble_eq_true rfl, Nat.le_of_ble_eq_true rfl⟩) hM.1 rfl hM rfl rfl (Nat.le_of_ble_eq_true rfl) dX7_order_305 ⟨Nat.zero_le _, Nat.zero_le _⟩) hS (fun q hq => hq) (fun q hq => hq) (fun v_64 H locs h1 hz hk hS => ?_)
                            obtain ⟨hv, hM⟩ := h1
                            rw [RdM_0] at hM
                            have ho : opO (M 0) (sgn (M 6) n u0) (upd N 0 (nI Wq_62)) = mxO (M 0) ((upd N 0 (nI Wq_62)) 0) := (if_neg (by rw [hkd]; decide)).trans ((if_neg (by rw [hkd]; decide)).trans (if_neg (by rw [hkd]; decide)))
                            exact nd_I hQ hx hb hr hlocks dX7_order_308 hS (⟨by rw [hs]; show _ = (opO (M 0) (sgn (M 6) n u0) (upd N 0 (nI Wq_62))).1; rw [ho]; exact hv, by rw [hs]; show MdAt G w (RdM (updM M 0 (opO (M 0) (sgn (M 6) n u0) (upd N 0 (nI Wq_62))).2) (Uq_62) (upd N 0 (nI Wq_62))) H; rw [ho]; exact hM⟩)
                          · rw [hkd] at ci
                            exact absurd ci (by decide)
                        · rw [hkd] at ci
                          exact absurd ci (by decide)
                      · rw [hkd] at ci
                        exact absurd ci (by decide)
                    · exact absurd ch (by decide)
                  · exact absurd cg (by decide)
                · subst hv
                  rw [rdP_nn hD] at hs
                  refine lv_istore_n (lv' := [(3, .int 0), (2, .int (sgn (M 6) n u0)), (0, .ref w), (1, .int 1)]) hx hb dX7_order_197 rfl hl (by decide) rfl (fun ls hl => ?_)
                  refine lv_iload_n hx hb dX7_order_198 rfl (lv_at hl 0 rfl) ?_
                  refine lv_if_ne (tgt := 205) hx hb dX7_order_199 (by decide) (fun cz => ?_) (fun cz => ?_)
                  · exact absurd rfl cz
                  · refine lv_bipush (v := (-3)) hx hb dX7_order_202 (by decide) ?_
                    exact nd_I hQ hx hb hr hlocks dX7_order_204 hS (⟨by rw [hs]; rfl, by rw [hs]; exact hM⟩)
              · rw [hkd] at eb
                exact absurd eb (by decide)
            · rw [hkd] at ea
              exact absurd ea (by decide)
          · have hs : rdO (M 6) n u0 N = (false, u0, N) := (if_neg e1).trans ((if_neg e2).trans (if_neg (fun q => q.elim e3 e4)))
            refine lv_bipush (v := (-3)) hx hb dX7_order_49 (by decide) ?_
            exact nd_I hQ hx hb hr hlocks dX7_order_51 hS (⟨by rw [hs]; rfl, by rw [hs]; exact hM⟩)
