set_option maxHeartbeats 4000000 in
set_option maxRecDepth 100000 in
theorem k_X2_findFault (l : Launch) (G : GG) (z pz : Nat) (T : Nat → Int32) (n : Nat) (N : Nat → Int32) (u0 j : Nat) (kd : Int32) (ad tv : Nat → Nat) (hn : n ≤ 80) (hne : pz + 2 ≤ z ∨ z + 2 ≤ pz) : Met l yX2_findFault (ws_ yX2_findFault cX2_findFault 2 (some .int)) (rm_ 7) (PCX G (SxR ad tv (In z 2)) [.ref z] (RdC G z pz T n N u0 j kd)) (QI (fun v H => v = (if (wlA T n N).1 then -6 else nI (wlA T n N).2.1) ∧ ∃ j2 k2, RdC G z pz T n (wlA T n N).2.2 (wlA T n N).2.1 j2 k2 H) (In z 2)) 0 0 (In z 2) := by
  refine met_qx (by decide +kernel) (Nat.le_of_ble_eq_true rfl) ?_
  intro p e s m args below meth c Q hQ hx hb hr hT hown hml hlocks hnm hK hX hR ls hl
  have hl : lv_has ls 2 [(0, .ref z)] := hl
  have hS : va_S (In z 2) s.heap s.heap [] := va_S.rf
  refine lv_aload_n hx hb dX2_findFault_0 rfl (lv_at hl 0 rfl) ?_
  refine got_V (run_i hx hb hml hown hT hK hl.1 (k_X2_start l G z pz T n N u0 j kd hne) (cw_X2_23 hT ⟨Nat.le_of_ble_eq_true rfl, Nat.le_of_ble_eq_true rfl⟩) hR.1.1 rfl hR rfl rfl (Nat.le_of_ble_eq_true rfl) dX2_findFault_1 ⟨Nat.zero_le _, Nat.zero_le _⟩) hS (fun q hq => hq) (fun q hq => hq) (fun  H locs h1 hz hk hS => ?_)
  have hR := h1
  obtain ⟨R0, hR0⟩ : ∃ z1, z1 = wlA T n N := ⟨_, rfl⟩
  rw [← hR0] at hQ
  refine lv_iconst (v := 0) hx hb dX2_findFault_4 (by decide) ?_
  refine lv_istore_n (lv' := [(1, .int 0), (0, .ref z)]) hx hb dX2_findFault_5 rfl hl (by decide) rfl (fun ls hl => ?_)
  have loop : ∀ (k : Nat) (i : Nat) (u1 : Nat) (j1 : Nat) (k1 : Int32) (N1 : Nat → Int32) (H : Heap) (locs : List Loc), va_S (In z 2) s.heap H locs → i ≤ u1 ∧ u1 ≤ n → (i = 0 ∧ u1 = 0 ∧ N1 = N) ∨ (1 ≤ i ∧ u1 < n ∧ wl T n (82 - i) true u1 N1 = R0) → RdC G z pz T n N1 u1 j1 k1 H → 81 - i < k → ∀ ls : Array Slot, lv_has ls 2 [(1, .int (nI i)), (0, .ref z)] → W p l e (rm_ 7) s m args below meth c H locs 0 0 Q (F0 m 6 ls []) := by
    intro k
    induction k with
    | zero => intro i u1 j1 k1 N1 H locs hS hiu hor hR hm; exact absurd hm (Nat.not_lt_zero _)
    | succ k ih =>
      intro i u1 j1 k1 N1 H locs hS hiu hor hR hm ls hl
      refine lv_iload_n hx hb dX2_findFault_6 rfl (lv_at hl 0 rfl) ?_
      refine lv_bipush (v := 80) hx hb dX2_findFault_7 (by decide) ?_
      refine lv_icmp_ge (tgt := 47) hx hb dX2_findFault_9 (by decide) (fun c1 => ?_) (fun c1 => ?_)
      · have h80 : 80 ≤ i := (nI_leI (a := 80) (by omega) (by omega)).mp c1
        exfalso
        rcases hor with ⟨h0, -, -⟩ | ⟨-, h0, -⟩ <;> omega
      · have h80 : ¬ 80 ≤ i := fun q => c1 ((nI_leI (a := 80) (by omega) (by omega)).mpr q)
        refine lv_aload_n hx hb dX2_findFault_12 rfl (lv_at hl 1 rfl) ?_
        refine got_I (run_ix SB_SxR (fun U hU hW => hX.call hS (fun _ h => h) hU hW) hx hb hml hown hT hK hl.1 (k_X2_readOrder l G z pz T n N1 u1 j1 k1 ad tv hn hiu.2 hne) (cw_X2_26 hT ⟨Nat.le_of_ble_eq_true rfl, Nat.le_of_ble_eq_true rfl⟩) hR.1.1 rfl hR rfl rfl (Nat.le_of_ble_eq_true rfl) dX2_findFault_13 ⟨Nat.zero_le _, Nat.zero_le _⟩) hS (fun q hq => hq) (fun q hq => hq) (fun v1 H locs h1 hz hk hS => ?_)
        have hfull : (v1 = 0 ∧ (∃ j2 k2, RdC G z pz T n R0.2.2 R0.2.1 j2 k2 H) ∧ R0.1 = false) ∨ (v1 = 1 ∧ ∃ u2 N2 j2 k2, RdC G z pz T n N2 u2 j2 k2 H ∧ i + 1 ≤ u2 ∧ u2 ≤ n ∧ wl T n (81 - i) true u2 N2 = R0) := by
          rcases h1 with ⟨a1, a2, a3, a4⟩ | ⟨a1, a3, j2, k2, -, a4⟩
          · left
            rcases hor with ⟨b1, b2, b3⟩ | ⟨b1, b2, b3⟩
            · omega
            · have e9 : R0 = (false, u1, N1) := by
                rw [← b3, show 82 - i = (81 - i) + 1 by omega]
                exact wl_n b2 (fun q => a2 ((sgn_in b2).trans q))
              rw [e9]
              exact ⟨a3, ⟨_, _, a4⟩, rfl⟩
          · have hst : stP u1 ≤ n := by
              unfold stP
              rcases hor with ⟨b1, b2, b3⟩ | ⟨b1, b2, b3⟩
              · rw [if_pos b2]; omega
              · rw [if_neg (by omega)]; omega
            have hge : u1 ≤ stP u1 := by unfold stP; split <;> omega
            have hle := rdO_le (T := T) (N := N1) hst
            have hw : wl T n (81 - i) (rdO T n (stP u1) N1).1 (rdO T n (stP u1) N1).2.1 (rdO T n (stP u1) N1).2.2 = R0 := by
              rcases hor with ⟨b1, b2, b3⟩ | ⟨b1, b2, b3⟩
              · rw [hR0, b1, b2, b3]
                rfl
              · rw [← b3, show 82 - i = (81 - i) + 1 by omega, wl_y b2 ?_]
                · unfold stP
                  rw [if_neg (by omega)]
                · rcases a1 with a1 | a1
                  · omega
                  · exact (sgn_in b2).symm.trans a1
            obtain ⟨R1, hR1⟩ : ∃ z1, z1 = rdO T n (stP u1) N1 := ⟨_, rfl⟩
            rw [← hR1] at a3 a4 hle hw
            obtain ⟨b1, u2, N2⟩ := R1
            cases b1 with
            | false =>
              left
              have e9 : R0 = (false, u2, N2) := hw.symm.trans (wl_end (fun q => by cases q.1))
              rw [e9]
              exact ⟨a3, ⟨_, _, a4⟩, rfl⟩
            | true =>
              right
              have hlt : stP u1 < u2 := hle.2.2 rfl
              exact ⟨a3, u2, N2, j2, k2, a4, by omega, hle.2.1, hw⟩
        rcases hfull with ⟨hv, ⟨j2, k2, hR⟩, hbf⟩ | ⟨hv, u2, N2, j2, k2, hR, hu2, hun2, hw⟩
        · subst hv
          refine lv_if_ne (tgt := 24) hx hb dX2_findFault_16 (by decide) (fun c2 => ?_) (fun c2 => ?_)
          · exact absurd rfl c2
          · refine lv_aload_n hx hb dX2_findFault_19 rfl (lv_at hl 1 rfl) ?_
            refine rg (C := RX2) (T := TX2) (N := 5) (v := .int (nI R0.2.1)) hx hb hT inX2 hown hK hR.1.1 rfl 1 (by decide) mf_X2_19 rfl dX2_findFault_20 ?_
            exact nd_I hQ hx hb hr hlocks dX2_findFault_23 hS (⟨by rw [if_neg (by rw [hbf]; decide)], j2, k2, hR⟩)
        · subst hv
          refine lv_if_ne (tgt := 24) hx hb dX2_findFault_16 (by decide) (fun c2 => ?_) (fun c2 => ?_)
          · refine lv_aload_n hx hb dX2_findFault_24 rfl (lv_at hl 1 rfl) ?_
            refine rg (C := RX2) (T := TX2) (N := 5) (v := .int (nI u2)) hx hb hT inX2 hown hK hR.1.1 rfl 1 (by decide) mf_X2_19 rfl dX2_findFault_25 ?_
            refine lv_aload_n hx hb dX2_findFault_28 rfl (lv_at hl 1 rfl) ?_
            refine rg (C := RX2) (T := TX2) (N := 5) (v := .ref pz) hx hb hT inX2 hown hK hR.1.1 rfl 0 (by decide) mf_X2_15 rfl dX2_findFault_29 ?_
            refine rg (C := RX3) (T := TX3) (N := 2) (v := .int (nI n)) hx hb hT inX3 hown hK hR.2.1 rfl 1 (by decide) mf_X2_30 rfl dX2_findFault_32 ?_
            refine lv_icmp_ne (tgt := 41) hx hb dX2_findFault_35 (by decide) (fun c3 => ?_) (fun c3 => ?_)
            · have hne2 : u2 ≠ n := fun q => c3 (by rw [q])
              refine lv_iinc (v := nI (i + 1)) (lv' := [(1, .int (nI (i + 1))), (0, .ref z)]) hx hb dX2_findFault_41 hl (k := 0) rfl (nI_1 i) (by decide) rfl (fun ls hl => ?_)
              refine lv_goto (tgt := 6) hx hb dX2_findFault_44 (by decide) ?_
              exact ih (i + 1) u2 j2 k2 N2 _ _ hS ⟨hu2, hun2⟩ (Or.inr ⟨by omega, by omega, by rw [show 82 - (i + 1) = 81 - i by omega]; exact hw⟩) hR (by omega) ls (lv_sub hl [0, 1] rfl)
            · have heq : u2 = n := (nI_eq (by omega) (by omega)).mp c3
              have e9 : R0 = (true, u2, N2) := hw.symm.trans (wl_end (fun q => by omega))
              refine lv_bipush (v := (-6)) hx hb dX2_findFault_38 (by decide) ?_
              exact nd_I hQ hx hb hr hlocks dX2_findFault_40 hS (by rw [e9]; exact ⟨rfl, j2, k2, hR⟩)
          · exact absurd c2 (by decide)
  exact loop 82 0 0 j kd N _ _ hS ⟨Nat.le_refl _, Nat.zero_le _⟩ (Or.inl ⟨rfl, rfl, rfl⟩) hR (by omega) ls (lv_sub hl [0, 1] rfl)
