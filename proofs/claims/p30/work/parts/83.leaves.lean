set_option maxHeartbeats 4000000 in
set_option maxRecDepth 100000 in
theorem k_L_low (l : Launch) (G : GG) (x : Int32) (N : Nat) (h0 : 0 < N) (hN : N < 2 ^ 31) : Met l yL_low (ws_ yL_low cL_low 2 (some .int)) (rm_ 0) (PC G [.int x, .int (nI N)] (fun _ => True)) (vp_Si (fun v => v = nI (lw x N))) 0 0 NoA := by
  refine met_q (by decide +kernel) (Nat.le_of_ble_eq_true rfl) ?_
  intro p e s m args below meth c Q hQ hx hb hr hT hown hml hlocks hnm hK _ ls hl
  have hl : lv_has ls 2 [(0, .int x), (1, .int (nI N))] := hl
  refine lv_iload_n hx hb dL_low_0 rfl (lv_at hl 0 rfl) ?_
  refine lv_ldc hx hb hown (hT _ mk_L_8) dL_low_1 ?_
  refine lv_iand hx hb dL_low_3 ?_
  refine lv_iload_n hx hb dL_low_4 rfl (lv_at hl 1 rfl) ?_
  refine lv_irem hx hb dL_low_5 (nI_ne0 h0 hN) ?_
  exact nd_i hQ hx hb hr hlocks dL_low_6 (lw_e x h0 hN)

set_option maxHeartbeats 4000000 in
set_option maxRecDepth 100000 in
theorem k_L_freshTaste (l : Launch) (G : GG) (a : Nat) (mk : Nat → Int32) (i t : Nat) (hi : i < 5) (ht : t < 3) : Met l yL_freshTaste (ws_ yL_freshTaste cL_freshTaste 3 (some .int)) (rm_ 0) (PC G [.ref a, .int (nI i), .int (nI t)] (ar G 0 a (iA 60 mk))) (vp_Si (fun v => v = mk (12 * i + 1 + t))) 0 0 NoA := by
  refine met_q (by decide +kernel) (Nat.le_of_ble_eq_true rfl) ?_
  intro p e s m args below meth c Q hQ hx hb hr hT hown hml hlocks hnm hK hP ls hl
  have hl : lv_has ls 3 [(0, .ref a), (1, .int (nI i)), (2, .int (nI t))] := hl
  refine lv_aload_n hx hb dL_freshTaste_0 rfl (lv_at hl 0 rfl) ?_
  refine lv_bipush (v := 12) hx hb dL_freshTaste_1 (by decide) ?_
  refine lv_iload_n hx hb dL_freshTaste_3 rfl (lv_at hl 1 rfl) ?_
  refine lv_imul hx hb dL_freshTaste_4 ?_
  refine lv_iconst (v := 1) hx hb dL_freshTaste_5 (by decide) ?_
  refine lv_iadd hx hb dL_freshTaste_6 ?_
  refine lv_iload_n hx hb dL_freshTaste_7 rfl (lv_at hl 2 rfl) ?_
  refine lv_iadd hx hb dL_freshTaste_8 ?_
  refine r_iald hx hb hK hP (12 * i + 1 + t) (ix_a (ix_a (ix_m (a := 12) rfl rfl) (b := 1) rfl) rfl) (by omega) (Nat.le_of_ble_eq_true rfl) dL_freshTaste_9 ?_
  exact nd_i hQ hx hb hr hlocks dL_freshTaste_10 (rfl)

theorem ofN_t {r : Nat → Int32} {i t : Nat} (ht : t < 3) : ofN r i (1 + t) = tsF r i t 0 := by
  have e : t = 0 ∨ t = 1 ∨ t = 2 := by omega
  rcases e with rfl | rfl | rfl <;> rfl
theorem y1t {t : Nat} (ht : t < 10) : (1 + nI t : Int32).toInt = ((1 + t : Nat) : Int) := by
  rw [show (1 : Int32) + nI t = nI (1 + t) from nI_add 1 t]
  exact nI_toInt (by omega)
theorem no_end {r : Nat → Int32} (hw : WF r) : ¬ lfP r (nI (nlv r)) := fun (h : 0 ≤ _ ∧ _ < r 5) => by
  have h5 := hw.nl5
  rw [hw.nl] at h
  exact nI_nlt (Nat.le_refl _) (by omega) h.2
theorem no_m1 {r : Nat → Int32} : ¬ lfP r (-1) := fun (h : 0 ≤ _ ∧ _ < r 5) => absurd h.1 (by decide)

set_option maxHeartbeats 4000000 in
set_option maxRecDepth 100000 in
theorem k_L_leaves (l : Launch) (G : GG) (z a : Nat) (r mk : Nat → Int32) (hv : Iv r) (hRM : RM r mk) : Met l yL_leaves (ws_ yL_leaves cL_leaves 7 (some .boolean)) (rm_ 5) (PC G [.ref z, .ref a] (fun H => LO G z r H ∧ ar G 0 a (iA 60 mk) H)) (vp_Si (fun v => v = 1)) 0 0 NoA := by
  refine met_q (by decide +kernel) (Nat.le_of_ble_eq_true rfl) ?_
  intro p e s m args below meth c Q hQ hx hb hr hT hown hml hlocks hnm hK hP ls hl
  have hl : lv_has ls 7 [(0, .ref z), (1, .ref a)] := hl
  have hO := hP.1
  have hA := hP.2
  have hw := hv.1
  have h5 := hw.nl5
  have h7 := hw.pl.2
  refine lv_aload_n hx hb dL_leaves_0 rfl (lv_at hl 0 rfl) ?_
  refine lv_iconst (v := 0) hx hb dL_leaves_1 (by decide) ?_
  refine got_i (run_i hx hb hml hown hT hK hl.1 (q_count l G z r 0 0 (by omega) (by decide)) (cw_L_9 hT ⟨Nat.le_of_ble_eq_true rfl, Nat.le_of_ble_eq_true rfl⟩) hO.te rfl hO rfl rfl (Nat.le_of_ble_eq_true rfl) dL_leaves_2 ⟨Nat.zero_le _, Nat.zero_le _⟩) (fun v_1 hv_1 => ?_)
  obtain rfl : v_1 = r 2 := hv_1
  refine lv_aload_n hx hb dL_leaves_5 rfl (lv_at hl 0 rfl) ?_
  refine lv_bipush (v := 11) hx hb dL_leaves_6 (by decide) ?_
  refine got_i (run_i hx hb hml hown hT hK hl.1 (q_count l G z r 11 11 (by omega) (by decide)) (cw_L_9 hT ⟨Nat.le_of_ble_eq_true rfl, Nat.le_of_ble_eq_true rfl⟩) hO.te rfl hO rfl rfl (Nat.le_of_ble_eq_true rfl) dL_leaves_8 ⟨Nat.zero_le _, Nat.zero_le _⟩) (fun v_2 hv_2 => ?_)
  obtain rfl : v_2 = r 1 := hv_2
  refine lv_irem hx hb dL_leaves_11 (hw.wk) ?_
  have hday : r 2 - r 2 / r 1 * r 1 = nI (plv r) := hw.pl.1
  rw [hday]
  refine lv_istore_n (lv' := [(2, .int (nI (plv r))), (0, .ref z), (1, .ref a)]) hx hb dL_leaves_12 rfl hl (by decide) rfl (fun ls hl => ?_)
  refine lv_iconst (v := 0) hx hb dL_leaves_13 (by decide) ?_
  refine lv_istore_n (lv' := [(3, .int 0), (2, .int (nI (plv r))), (0, .ref z), (1, .ref a)]) hx hb dL_leaves_14 rfl hl (by decide) rfl (fun ls hl => ?_)
  have loop : ∀ (k : Nat) (i : Nat), i ≤ nlv r → nlv r - i < k → ∀ ls : Array Slot, lv_has ls 7 [(0, .ref z), (1, .ref a), (2, .int (nI (plv r))), (3, .int (nI i))] → W p l e (rm_ 5) s m args below meth c s.heap [] 0 0 Q (F0 m 15 ls []) := by
    intro k
    induction k with
    | zero => intro i hin hm; exact absurd hm (Nat.not_lt_zero _)
    | succ k ih =>
      intro i hin hm ls hl
      refine lv_iload_n hx hb dL_leaves_15 rfl (lv_at hl 3 rfl) ?_
      refine lv_aload_n hx hb dL_leaves_16 rfl (lv_at hl 0 rfl) ?_
      refine lv_iconst (v := 1) hx hb dL_leaves_17 (by decide) ?_
      refine got_i (run_i hx hb hml hown hT hK hl.1 (q_count l G z r 1 1 (by omega) (by decide)) (cw_L_9 hT ⟨Nat.le_of_ble_eq_true rfl, Nat.le_of_ble_eq_true rfl⟩) hO.te rfl hO rfl rfl (Nat.le_of_ble_eq_true rfl) dL_leaves_18 ⟨Nat.zero_le _, Nat.zero_le _⟩) (fun v_3 hv_3 => ?_)
      obtain rfl : v_3 = nI (nlv r) := hv_3.trans hw.nl
      refine lv_icmp_ge (tgt := 142) hx hb dL_leaves_21 (by decide) (fun c1 => ?_) (fun c1 => ?_)
      · have hie : i = nlv r := by
          have := (nI_leI (by omega) (by omega)).mp c1
          omega
        refine lv_aload_n hx hb dL_leaves_142 rfl (lv_at hl 0 rfl) ?_
        refine lv_aload_n hx hb dL_leaves_143 rfl (lv_at hl 0 rfl) ?_
        refine lv_iconst (v := 1) hx hb dL_leaves_144 (by decide) ?_
        refine got_i (run_i hx hb hml hown hT hK hl.1 (q_count l G z r 1 1 (by omega) (by decide)) (cw_L_9 hT ⟨Nat.le_of_ble_eq_true rfl, Nat.le_of_ble_eq_true rfl⟩) hO.te rfl hO rfl rfl (Nat.le_of_ble_eq_true rfl) dL_leaves_145 ⟨Nat.zero_le _, Nat.zero_le _⟩) (fun v_4 hv_4 => ?_)
        obtain rfl : v_4 = nI (nlv r) := hv_4.trans hw.nl
        refine lv_iconst (v := 0) hx hb dL_leaves_148 (by decide) ?_
        refine got_i (run_i hx hb hml hown hT hK hl.1 (q_of_no l G z r (nI (nlv r)) 0 hw (no_end hw)) (cw_L_15 hT ⟨Nat.le_of_ble_eq_true rfl, Nat.le_of_ble_eq_true rfl⟩) hO.te rfl hO rfl rfl (Nat.le_of_ble_eq_true rfl) dL_leaves_149 ⟨Nat.zero_le _, Nat.zero_le _⟩) (fun v_5 hv_5 => ?_)
        obtain rfl : v_5 = -1 := hv_5
        refine lv_iconst (v := (-1)) hx hb dL_leaves_152 (by decide) ?_
        refine lv_icmp_ne (tgt := 170) hx hb dL_leaves_153 (by decide) (fun c_6 => absurd (rfl) c_6) (fun _ => ?_)
        refine lv_aload_n hx hb dL_leaves_156 rfl (lv_at hl 0 rfl) ?_
        refine lv_iconst (v := (-1)) hx hb dL_leaves_157 (by decide) ?_
        refine lv_iconst (v := 0) hx hb dL_leaves_158 (by decide) ?_
        refine got_i (run_i hx hb hml hown hT hK hl.1 (q_of_no l G z r (-1) 0 hw no_m1) (cw_L_15 hT ⟨Nat.le_of_ble_eq_true rfl, Nat.le_of_ble_eq_true rfl⟩) hO.te rfl hO rfl rfl (Nat.le_of_ble_eq_true rfl) dL_leaves_159 ⟨Nat.zero_le _, Nat.zero_le _⟩) (fun v_7 hv_7 => ?_)
        obtain rfl : v_7 = -1 := hv_7
        refine lv_iconst (v := (-1)) hx hb dL_leaves_162 (by decide) ?_
        refine lv_icmp_ne (tgt := 170) hx hb dL_leaves_163 (by decide) (fun c_8 => absurd (rfl) c_8) (fun _ => ?_)
        refine lv_iconst (v := 1) hx hb dL_leaves_166 (by decide) ?_
        refine lv_goto (tgt := 171) hx hb dL_leaves_167 (by decide) ?_
        exact nd_z hQ hx hb hr hlocks dL_leaves_171 (Or.inr rfl) (rfl)
      · have hi : i < nlv r := by
          have : ¬ nlv r ≤ i := fun q => c1 (nI_le q (by omega))
          omega
        obtain ⟨q1, q2, q3⟩ := hRM i hi
        have hpr : prF r i = mxI 0 (mk (12 * i) + mk (12 * i + 4 + plv r)) := by unfold prF; rw [q1, q3 _ h7]
        refine lv_aload_n hx hb dL_leaves_24 rfl (lv_at hl 1 rfl) ?_
        refine lv_bipush (v := 12) hx hb dL_leaves_25 (by decide) ?_
        refine lv_iload_n hx hb dL_leaves_27 rfl (lv_at hl 3 rfl) ?_
        refine lv_imul hx hb dL_leaves_28 ?_
        refine r_iald hx hb hK hA (12 * i) (ix_m (a := 12) rfl rfl) (by omega) (Nat.le_of_ble_eq_true rfl) dL_leaves_29 ?_
        refine lv_aload_n hx hb dL_leaves_30 rfl (lv_at hl 1 rfl) ?_
        refine lv_bipush (v := 12) hx hb dL_leaves_31 (by decide) ?_
        refine lv_iload_n hx hb dL_leaves_33 rfl (lv_at hl 3 rfl) ?_
        refine lv_imul hx hb dL_leaves_34 ?_
        refine lv_iconst (v := 4) hx hb dL_leaves_35 (by decide) ?_
        refine lv_iadd hx hb dL_leaves_36 ?_
        refine lv_iload_n hx hb dL_leaves_37 rfl (lv_at hl 2 rfl) ?_
        refine lv_iadd hx hb dL_leaves_38 ?_
        refine r_iald hx hb hK hA (12 * i + 4 + plv r) (ix_a (ix_a (ix_m (a := 12) rfl rfl) (b := 4) rfl) rfl) (by omega) (Nat.le_of_ble_eq_true rfl) dL_leaves_39 ?_
        refine lv_iadd hx hb dL_leaves_40 ?_
        refine lv_istore (lv' := [(4, .int ((mk (12 * i)) + (mk (12 * i + 4 + plv r)))), (0, .ref z), (1, .ref a), (2, .int (nI (plv r))), (3, .int (nI i))]) hx hb dL_leaves_41 hl (by decide) rfl (fun ls hl => ?_)
        refine lv_sipush (v := 1000) hx hb dL_leaves_43 (by decide) ?_
        refine lv_aload_n hx hb dL_leaves_46 rfl (lv_at hl 1 rfl) ?_
        refine lv_bipush (v := 10) hx hb dL_leaves_47 (by decide) ?_
        refine got_i (run_i hx hb hml hown hT hK hl.1 (q_count l G z r 10 10 (by omega) (by decide)) (cw_L_9 hT ⟨Nat.le_of_ble_eq_true rfl, Nat.le_of_ble_eq_true rfl⟩) hO.te rfl hO rfl rfl (Nat.le_of_ble_eq_true rfl) dL_leaves_49 ⟨Nat.zero_le _, Nat.zero_le _⟩) (fun v_9 hv_9 => ?_)
        obtain rfl : v_9 = r 0 := hv_9
        refine lv_aload_n hx hb dL_leaves_52 rfl (lv_at hl 1 rfl) ?_
        refine lv_iload_n hx hb dL_leaves_53 rfl (lv_at hl 4 rfl) ?_
        refine lv_iconst (v := 5) hx hb dL_leaves_54 (by decide) ?_
        refine got_i (run_i hx hb hml hown hT hK hl.1 (q_of l G z r i 5 5 hw hi (by omega) (by decide)) (cw_L_15 hT ⟨Nat.le_of_ble_eq_true rfl, Nat.le_of_ble_eq_true rfl⟩) hO.te rfl hO rfl rfl (Nat.le_of_ble_eq_true rfl) dL_leaves_55 ⟨Nat.zero_le _, Nat.zero_le _⟩) (fun v_10 hv_10 => ?_)
        obtain rfl : v_10 = r (12 + 14 * i + 12) := hv_10
        refine lv_imul hx hb dL_leaves_58 ?_
        refine lv_isub hx hb dL_leaves_59 ?_
        refine lv_istore (lv' := [(5, .int (1000 - ((r 0) * (r (12 + 14 * i + 12))))), (4, .int ((mk (12 * i)) + (mk (12 * i + 4 + plv r)))), (0, .ref z), (1, .ref a), (2, .int (nI (plv r))), (3, .int (nI i))]) hx hb dL_leaves_60 hl (by decide) rfl (fun ls hl => ?_)
        generalize mk (12 * i) + mk (12 * i + 4 + plv r) = pr at hpr hl
        obtain ⟨lf, hlf⟩ : ∃ lf, lf = 1000 - r 0 * r (12 + 14 * i + 12) := ⟨_, rfl⟩
        rw [← hlf] at hl
        have ihO := ih
        have rest : ∀ (ls : Array Slot), lv_has ls 7 [(5, .int lf), (4, .int pr), (0, .ref z), (1, .ref a), (2, .int (nI (plv r))), (3, .int (nI i))] → W p l e (rm_ 5) s m args below meth c s.heap [] 0 0 Q (F0 m 84 ls []) := by
          intro ls hl
          refine lv_iconst (v := 0) hx hb dL_leaves_84 (by decide) ?_
          refine lv_istore (lv' := [(6, .int 0), (5, .int lf), (4, .int pr), (0, .ref z), (1, .ref a), (2, .int (nI (plv r))), (3, .int (nI i))]) hx hb dL_leaves_85 hl (by decide) rfl (fun ls hl => ?_)
          have loop2 : ∀ (k : Nat) (t : Nat), t ≤ 3 → 3 - t < k → ∀ ls : Array Slot, lv_has ls 7 [(6, .int (nI t)), (5, .int lf), (4, .int pr), (0, .ref z), (1, .ref a), (2, .int (nI (plv r))), (3, .int (nI i))] → W p l e (rm_ 5) s m args below meth c s.heap [] 0 0 Q (F0 m 87 ls []) := by
            intro k
            induction k with
            | zero => intro t ht hm; exact absurd hm (Nat.not_lt_zero _)
            | succ k ih =>
              intro t ht hm ls hl
              refine lv_iload hx hb dL_leaves_87 (lv_at hl 0 rfl) ?_
              refine lv_iconst (v := 3) hx hb dL_leaves_89 (by decide) ?_
              refine lv_icmp_ge (tgt := 136) hx hb dL_leaves_90 (by decide) (fun c2 => ?_) (fun c2 => ?_)
              · refine lv_iinc (v := nI (i + 1)) (lv' := [(3, .int (nI (i + 1))), (6, .int (nI t)), (5, .int lf), (4, .int pr), (0, .ref z), (1, .ref a), (2, .int (nI (plv r)))]) hx hb dL_leaves_136 hl (k := 6) rfl (nI_1 i) (by decide) rfl (fun ls hl => ?_)
                refine lv_goto (tgt := 15) hx hb dL_leaves_139 (by decide) ?_
                exact ihO (i + 1) (by omega) (by omega) ls (lv_sub hl [4, 5, 6, 0] rfl)
              · have ht3 : t < 3 := by
                  have : ¬ 3 ≤ t := fun q => c2 (nI_le (a := 3) q (by omega))
                  omega
                refine lv_aload_n hx hb dL_leaves_93 rfl (lv_at hl 3 rfl) ?_
                refine lv_iload_n hx hb dL_leaves_94 rfl (lv_at hl 6 rfl) ?_
                refine lv_iconst (v := 1) hx hb dL_leaves_95 (by decide) ?_
                refine lv_iload hx hb dL_leaves_96 (lv_at hl 0 rfl) ?_
                refine lv_iadd hx hb dL_leaves_98 ?_
                refine got_i (run_i hx hb hml hown hT hK hl.1 (q_of l G z r i (1 + t) (1 + (nI t)) hw hi (by omega) (y1t (by omega))) (cw_L_15 hT ⟨Nat.le_of_ble_eq_true rfl, Nat.le_of_ble_eq_true rfl⟩) hO.te rfl hO rfl rfl (Nat.le_of_ble_eq_true rfl) dL_leaves_99 ⟨Nat.zero_le _, Nat.zero_le _⟩) (fun v_11 hv_11 => ?_)
                obtain rfl : v_11 = tsF r i t 0 := hv_11.trans (ofN_t ht3)
                refine lv_iload hx hb dL_leaves_102 (lv_at hl 1 rfl) ?_
                refine lv_if_ge (tgt := 111) hx hb dL_leaves_104 (by decide) (fun c3 => ?_) (fun c3 => ?_)
                · refine lv_aload_n hx hb dL_leaves_111 rfl (lv_at hl 4 rfl) ?_
                  refine lv_iload_n hx hb dL_leaves_112 rfl (lv_at hl 6 rfl) ?_
                  refine lv_iload hx hb dL_leaves_113 (lv_at hl 0 rfl) ?_
                  refine got_i (run_s hx hb hml hown hT hK hl.1 (k_L_freshTaste l G a mk i t (by omega) ht3) (cw_L_19 hT ⟨Nat.le_of_ble_eq_true rfl, Nat.le_of_ble_eq_true rfl⟩) hA rfl rfl (Nat.le_of_ble_eq_true rfl) dL_leaves_115 ⟨Nat.zero_le _, Nat.zero_le _⟩) (fun v_12 hv_12 => ?_)
                  obtain rfl : v_12 = mk (12 * i + 1 + t) := hv_12
                  refine lv_iload hx hb dL_leaves_118 (lv_at hl 1 rfl) ?_
                  refine lv_imul hx hb dL_leaves_120 ?_
                  refine lv_sipush (v := 1000) hx hb dL_leaves_121 (by decide) ?_
                  refine lv_idiv hx hb dL_leaves_124 (by decide) ?_
                  refine lv_icmp_eq (tgt := 130) hx hb dL_leaves_125 (by decide) (fun _ => ?_) (fun c_13 => absurd (by rw [hlf] at c3 ⊢; rw [ts_p c3, q2 t ht3]) c_13)
                  refine lv_iinc (v := nI (t + 1)) (lv' := [(6, .int (nI (t + 1))), (5, .int lf), (4, .int pr), (0, .ref z), (1, .ref a), (2, .int (nI (plv r))), (3, .int (nI i))]) hx hb dL_leaves_130 hl (k := 0) rfl (nI_1 t) (by decide) rfl (fun ls hl => ?_)
                  refine lv_goto (tgt := 87) hx hb dL_leaves_133 (by decide) ?_
                  exact ih (t + 1) (by omega) (by omega) ls (lv_sub hl [0, 1, 2, 3, 4, 5, 6] rfl)
                · refine lv_iconst (v := 0) hx hb dL_leaves_107 (by decide) ?_
                  refine lv_goto (tgt := 125) hx hb dL_leaves_108 (by decide) ?_
                  refine lv_icmp_eq (tgt := 130) hx hb dL_leaves_125 (by decide) (fun _ => ?_) (fun c_14 => absurd (by rw [hlf] at c3; exact ts_n c3) c_14)
                  refine lv_iinc (v := nI (t + 1)) (lv' := [(6, .int (nI (t + 1))), (5, .int lf), (4, .int pr), (0, .ref z), (1, .ref a), (2, .int (nI (plv r))), (3, .int (nI i))]) hx hb dL_leaves_130 hl (k := 0) rfl (nI_1 t) (by decide) rfl (fun ls hl => ?_)
                  refine lv_goto (tgt := 87) hx hb dL_leaves_133 (by decide) ?_
                  exact ih (t + 1) (by omega) (by omega) ls (lv_sub hl [0, 1, 2, 3, 4, 5, 6] rfl)
          exact loop2 4 0 (by omega) (by omega) ls (lv_sub hl [0, 1, 2, 3, 4, 5, 6] rfl)
        refine lv_aload_n hx hb dL_leaves_62 rfl (lv_at hl 2 rfl) ?_
        refine lv_iload_n hx hb dL_leaves_63 rfl (lv_at hl 5 rfl) ?_
        refine lv_iconst (v := 0) hx hb dL_leaves_64 (by decide) ?_
        refine got_i (run_i hx hb hml hown hT hK hl.1 (q_of l G z r i 0 0 hw hi (by omega) (by decide)) (cw_L_15 hT ⟨Nat.le_of_ble_eq_true rfl, Nat.le_of_ble_eq_true rfl⟩) hO.te rfl hO rfl rfl (Nat.le_of_ble_eq_true rfl) dL_leaves_65 ⟨Nat.zero_le _, Nat.zero_le _⟩) (fun v_15 hv_15 => ?_)
        obtain rfl : v_15 = prF r i := hv_15
        refine lv_iload hx hb dL_leaves_68 (lv_at hl 1 rfl) ?_
        refine lv_if_ge (tgt := 77) hx hb dL_leaves_70 (by decide) (fun c4 => ?_) (fun c4 => ?_)
        · refine lv_iload hx hb dL_leaves_77 (lv_at hl 1 rfl) ?_
          refine lv_icmp_eq (tgt := 84) hx hb dL_leaves_79 (by decide) (fun _ => ?_) (fun c_16 => absurd (by rw [hpr, mx0_p c4]) c_16)
          exact rest ls (lv_sub hl [0, 1, 2, 3, 4, 5] rfl)
        · refine lv_iconst (v := 0) hx hb dL_leaves_73 (by decide) ?_
          refine lv_goto (tgt := 79) hx hb dL_leaves_74 (by decide) ?_
          refine lv_icmp_eq (tgt := 84) hx hb dL_leaves_79 (by decide) (fun _ => ?_) (fun c_17 => absurd (by rw [hpr, mx0_n c4]) c_17)
          exact rest ls (lv_sub hl [0, 1, 2, 3, 4, 5] rfl)
  exact loop 6 0 (by omega) (by omega) ls (lv_sub hl [2, 3, 1, 0] rfl)
