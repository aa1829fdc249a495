/-! undo, saving, reads of the model -/
def rowU (M : Nat → Nat → Int32) (s : Nat) : Nat → Int32 := fun k => if k < 82 then M 1 (82 * (s - 1) + k) else M 0 k
def UndS (M M' : Nat → Nat → Int32) (s : Nat) : Prop := (∀ k, k < 82 → M' 0 k = M 1 (82 * (s - 1) + k)) ∧ M' 1 = M 1 ∧ M' 5 0 = nI (s - 1) ∧ M' 3 = M 3 ∧ M' 4 = M 4 ∧ M' 6 = M 6 ∧ M' 7 0 = M 7 0

set_option maxHeartbeats 4000000 in
set_option maxRecDepth 100000 in
theorem k_X7_undo (l : Launch) (G : GG) (w : Nat) (M : Nat → Nat → Int32) (s0 : Nat) (hs : M 5 0 = nI s0) (hs6 : s0 ≤ 6) : Met l yX7_undo (ws_ yX7_undo cX7_undo 2 (some .int)) (rm_ 0) (PC G [.ref w] (MdAt G w M)) (QI (fun v H => (s0 = 0 ∧ v = -5 ∧ MdAt G w M H) ∨ (0 < s0 ∧ v = nI (s0 - 1) ∧ ∃ M2, UndS M M2 s0 ∧ MdAt G w M2 H)) (In w 13)) 0 0 (In w 13) := by
  refine met_q (by decide +kernel) (Nat.le_of_ble_eq_true rfl) ?_
  intro p e s m args below meth c Q hQ hx hb hr hT hown hml hlocks hnm hK hM ls hl
  have hl : lv_has ls 2 [(0, .ref w)] := hl
  have hS : va_S (In w 13) s.heap s.heap [] := va_S.rf
  refine lv_aload_n hx hb dX7_undo_0 rfl (lv_at hl 0 rfl) ?_
  refine rg (C := RX7) (T := TX7) (N := 16) (v := .int (M 5 0)) hx hb hT inX7 hown hK hM.1 rfl 5 (by decide) mf_X7_51 rfl dX7_undo_1 ?_
  rw [hs]
  refine lv_if_ne (tgt := 10) hx hb dX7_undo_4 (by decide) (fun c1 => ?_) (fun c1 => ?_)
  · have hpos : 0 < s0 := Nat.pos_of_ne_zero (fun q => c1 (by rw [q]; rfl))
    refine lv_aload_n hx hb dX7_undo_10 rfl (lv_at hl 0 rfl) ?_
    refine lv_dup hx hb dX7_undo_11 rfl ?_
    refine rg (C := RX7) (T := TX7) (N := 16) (v := .int (M 5 0)) hx hb hT inX7 hown hK hM.1 rfl 5 (by decide) mf_X7_51 rfl dX7_undo_12 ?_
    refine lv_iconst (v := 1) hx hb dX7_undo_15 (by decide) ?_
    refine lv_isub hx hb dX7_undo_16 ?_
    rw [hs, show nI s0 - 1 = nI (s0 - 1) from pk_sub (b := 1) hpos]
    refine rp (C := RX7) (T := TX7) (N := 16) (v := .int (nI (s0 - 1))) (ty := .int) hx hb hT inX7 tyX7 tyX7_ok nmX7 hown hK hM.1 rfl 5 (by decide) mf_X7_51 rfl (by decide +kernel) rfl rfl (Nat.le_of_ble_eq_true rfl) hS (show _ ∧ _ from ⟨by omega, by omega⟩) dX7_undo_17 (fun H locs h1 o hS => ?_)
    have hM := hM.s5 h1 o
    refine lv_iconst (v := 0) hx hb dX7_undo_20 (by decide) ?_
    refine lv_istore_n (lv' := [(1, .int 0), (0, .ref w)]) hx hb dX7_undo_21 rfl hl (by decide) rfl (fun ls hl => ?_)
    have loop : ∀ (k : Nat) (i : Nat) (H : Heap) (locs : List Loc), va_S (In w 13) s.heap H locs → i ≤ 82 → MdAt G w (updM (updM M 5 (fun _ => nI (s0 - 1))) 0 (cpN (M 0) (fun k => M 1 (82 * (s0 - 1) + k)) 0 i)) H → 82 - i < k → ∀ ls : Array Slot, lv_has ls 2 [(1, .int (nI i)), (0, .ref w)] → W p l e (rm_ 0) s m args below meth c H locs 0 0 Q (F0 m 22 ls []) := by
      intro k
      induction k with
      | zero => intro i H locs hS hi hM hm; exact absurd hm (Nat.not_lt_zero _)
      | succ k ih =>
        intro i H locs hS hi hM hm ls hl
        refine lv_iload_n hx hb dX7_undo_22 rfl (lv_at hl 0 rfl) ?_
        refine lv_bipush (v := 82) hx hb dX7_undo_23 (by decide) ?_
        refine lv_icmp_ge (tgt := 54) hx hb dX7_undo_25 (by decide) (fun cd => ?_) (fun cd => ?_)
        · have e_i : i = 82 := by
            have h9 : nI 82 ≤ nI i := cd
            rw [nI_leI (by omega) (by omega)] at h9
            omega
          subst e_i
          refine lv_aload_n hx hb dX7_undo_54 rfl (lv_at hl 1 rfl) ?_
          refine rg (C := RX7) (T := TX7) (N := 16) (v := .int (nI (s0 - 1))) hx hb hT inX7 hown hK hM.1 rfl 5 (by decide) mf_X7_51 rfl dX7_undo_55 ?_
          exact nd_I hQ hx hb hr hlocks dX7_undo_58 hS (Or.inr ⟨hpos, rfl, updM (updM M 5 (fun _ => nI (s0 - 1))) 0 (cpN (M 0) (fun k => M 1 (82 * (s0 - 1) + k)) 0 82), ⟨fun k hk => cpN_in0 (r := M 0) (g := fun k => M 1 (82 * (s0 - 1) + k)) hk, rfl, rfl, rfl, rfl, rfl, rfl⟩, hM⟩)
        · have h_i : i < 82 := by
            have h9 : ¬ nI 82 ≤ nI i := cd
            rw [nI_leI (by omega) (by omega)] at h9
            omega
          refine lv_aload_n hx hb dX7_undo_28 rfl (lv_at hl 1 rfl) ?_
          refine rg (C := RX7) (T := TX7) (N := 16) (v := .ref (w + 1)) hx hb hT inX7 hown hK hM.1 rfl 0 (by decide) mf_X7_7 rfl dX7_undo_29 ?_
          refine lv_iload_n hx hb dX7_undo_32 rfl (lv_at hl 0 rfl) ?_
          refine lv_aload_n hx hb dX7_undo_33 rfl (lv_at hl 1 rfl) ?_
          refine rg (C := RX7) (T := TX7) (N := 16) (v := .ref (w + 2)) hx hb hT inX7 hown hK hM.1 rfl 1 (by decide) mf_X7_13 rfl dX7_undo_34 ?_
          refine lv_bipush (v := 82) hx hb dX7_undo_37 (by decide) ?_
          refine lv_aload_n hx hb dX7_undo_39 rfl (lv_at hl 1 rfl) ?_
          refine rg (C := RX7) (T := TX7) (N := 16) (v := .int (nI (s0 - 1))) hx hb hT inX7 hown hK hM.1 rfl 5 (by decide) mf_X7_51 rfl dX7_undo_40 ?_
          refine lv_imul hx hb dX7_undo_43 ?_
          refine lv_iload_n hx hb dX7_undo_44 rfl (lv_at hl 0 rfl) ?_
          refine lv_iadd hx hb dX7_undo_45 ?_
          refine r_ialdS (y := M 1 (82 * (s0 - 1) + i)) hx hb hK hM.2.2.1 (82 * (s0 - 1) + i) (by rw [show (82 : Int32) = nI 82 from rfl, pk_mul, nI_add]) (by omega) (Nat.le_of_ble_eq_true rfl) rfl dX7_undo_46 ?_
          refine r_iast hx hb hK hM.2.1 i (rfl) (h_i) (Nat.le_of_ble_eq_true rfl) hS (show _ ∧ _ from ⟨by omega, by omega⟩) dX7_undo_47 (fun H locs h1 o hS => ?_)
          have hM := hM.a0 h1 o
          have es : upd (cpN (M 0) (fun k => M 1 (82 * (s0 - 1) + k)) 0 i) i (M 1 (82 * (s0 - 1) + i)) = cpN (M 0) (fun k => M 1 (82 * (s0 - 1) + k)) 0 (i + 1) := by have h9 := cpN_s (r := M 0) (g := fun k => M 1 (82 * (s0 - 1) + k)) (lo := 0) (n := i); rw [Nat.zero_add] at h9; exact h9
          rw [updM_2, updM_eq, es] at hM
          refine lv_iinc (v := nI (i + 1)) (lv' := [(1, .int (nI (i + 1))), (0, .ref w)]) hx hb dX7_undo_48 hl (k := 0) rfl (nI_1 i) (by decide) rfl (fun ls hl => ?_)
          refine lv_goto (tgt := 22) hx hb dX7_undo_51 (by decide) ?_
          exact ih (i + 1) _ _ hS (by omega) hM (by omega) ls (lv_sub hl [0, 1] rfl)
    exact loop 83 0 _ _ hS (by omega) (by rw [cpN_0]; exact (by rw [updM_self (by rfl)]; exact hM)) (by omega) ls (lv_sub hl [0, 1] rfl)
  · have hz : s0 = 0 := by
      have h9 : nI s0 = nI 0 := c1
      rw [nI_eq (by omega) (by omega)] at h9
      exact h9
    refine lv_bipush (v := (-5)) hx hb dX7_undo_7 (by decide) ?_
    exact nd_I hQ hx hb hr hlocks dX7_undo_9 hS (Or.inl ⟨hz, rfl, hM⟩)


def slP (x : Int32) : Prop := 0 ≤ x ∧ x ≤ 1
def SavS (M M' : Nat → Nat → Int32) (j : Nat) : Prop := M' 0 = M 0 ∧ M' 1 = M 1 ∧ M' 5 0 = M 5 0 ∧ M' 3 = cpN (M 3) (M 0) (82 * j) 82 ∧ M' 4 = upd (M 4) j 1 ∧ M' 6 = M 6 ∧ M' 7 0 = M 7 0
theorem sl_ix {x : Int32} (h : 0 ≤ x ∧ x ≤ 1) : ∃ j, j < 2 ∧ x = nI j := by
  refine ix_of h.1 (n := 2) ?_ (by omega)
  have h8 := h.2
  rw [i32_le_iff] at h8
  rw [i32_lt_iff]
  have e2 : (1 : Int32).toInt = 1 := rfl
  have e3 : (nI 2).toInt = 2 := rfl
  omega

set_option maxHeartbeats 4000000 in
set_option maxRecDepth 100000 in
theorem k_X7_save (l : Launch) (G : GG) (w : Nat) (M : Nat → Nat → Int32) (x : Int32)  : Met l yX7_save (ws_ yX7_save cX7_save 3 (some .int)) (rm_ 1) (PC G [.ref w, .int x] (MdAt G w M)) (QI (fun v H => (¬ (0 ≤ x ∧ x ≤ 1) ∧ v = -2 ∧ MdAt G w M H) ∨ (∃ j, j < 2 ∧ x = nI j ∧ v = M 0 5 ∧ ∃ M2, SavS M M2 j ∧ MdAt G w M2 H)) (In w 13)) 0 0 (In w 13) := by
  refine met_q (by decide +kernel) (Nat.le_of_ble_eq_true rfl) ?_
  intro p e s m args below meth c Q hQ hx hb hr hT hown hml hlocks hnm hK hM ls hl
  have hl : lv_has ls 3 [(0, .ref w), (1, .int x)] := hl
  have hS : va_S (In w 13) s.heap s.heap [] := va_S.rf
  refine lv_iload_n hx hb dX7_save_0 rfl (lv_at hl 1 rfl) ?_
  refine lv_i2l hx hb dX7_save_1 rfl ?_
  refine lv_iconst (v := 0) hx hb dX7_save_2 (by decide) ?_
  refine lv_iconst (v := 1) hx hb dX7_save_3 (by decide) ?_
  refine got_i (run_s hx hb hml hown hT hK hl.1 (k_X7_in l G x 0 1) (cw_X7_47 hT ⟨Nat.le_of_ble_eq_true rfl, Nat.le_of_ble_eq_true rfl⟩) trivial rfl rfl (Nat.le_of_ble_eq_true rfl) dX7_save_4 ⟨Nat.zero_le _, Nat.zero_le _⟩) (fun v_1 hv_1 => ?_)
  subst hv_1
  refine lv_if_ne (tgt := 13) hx hb dX7_save_7 (by decide) (fun c1 => ?_) (fun c1 => ?_)
  · obtain ⟨j, hj, rfl⟩ := sl_ix (bi_n0 c1)
    refine lv_iconst (v := 0) hx hb dX7_save_13 (by decide) ?_
    refine lv_istore_n (lv' := [(2, .int 0), (0, .ref w), (1, .int (nI j))]) hx hb dX7_save_14 rfl hl (by decide) rfl (fun ls hl => ?_)
    have loop : ∀ (k : Nat) (i : Nat) (H : Heap) (locs : List Loc), va_S (In w 13) s.heap H locs → i ≤ 82 → MdAt G w (updM M 3 (cpN (M 3) (M 0) (82 * j) i)) H → 82 - i < k → ∀ ls : Array Slot, lv_has ls 3 [(2, .int (nI i)), (0, .ref w), (1, .int (nI j))] → W p l e (rm_ 1) s m args below meth c H locs 0 0 Q (F0 m 15 ls []) := by
      intro k
      induction k with
      | zero => intro i H locs hS hi hM hm; exact absurd hm (Nat.not_lt_zero _)
      | succ k ih =>
        intro i H locs hS hi hM hm ls hl
        refine lv_iload_n hx hb dX7_save_15 rfl (lv_at hl 0 rfl) ?_
        refine lv_bipush (v := 82) hx hb dX7_save_16 (by decide) ?_
        refine lv_icmp_ge (tgt := 44) hx hb dX7_save_18 (by decide) (fun cd => ?_) (fun cd => ?_)
        · have e_i : i = 82 := by
            have h9 : nI 82 ≤ nI i := cd
            rw [nI_leI (by omega) (by omega)] at h9
            omega
          subst e_i
          refine lv_aload_n hx hb dX7_save_44 rfl (lv_at hl 1 rfl) ?_
          refine rg (C := RX7) (T := TX7) (N := 16) (v := .ref (w + 5)) hx hb hT inX7 hown hK hM.1 rfl 4 (by decide) mf_X7_22 rfl dX7_save_45 ?_
          refine lv_iload_n hx hb dX7_save_48 rfl (lv_at hl 2 rfl) ?_
          refine lv_iconst (v := 1) hx hb dX7_save_49 (by decide) ?_
          refine r_zast hx hb hK hM.2.2.2.2.2.1 j (rfl) (hj) (Nat.le_of_ble_eq_true rfl) (by rfl) hS (show _ ∧ _ from ⟨by omega, by omega⟩) dX7_save_50 (fun H locs h1 o hS => ?_)
          have hM := hM.a4 h1 o
          refine lv_aload_n hx hb dX7_save_51 rfl (lv_at hl 1 rfl) ?_
          refine rg (C := RX7) (T := TX7) (N := 16) (v := .ref (w + 1)) hx hb hT inX7 hown hK hM.1 rfl 0 (by decide) mf_X7_7 rfl dX7_save_52 ?_
          refine lv_iconst (v := 5) hx hb dX7_save_55 (by decide) ?_
          refine r_ialdS (y := M 0 5) hx hb hK hM.2.1 5 (by decide) (by omega) (Nat.le_of_ble_eq_true rfl) rfl dX7_save_56 ?_
          exact nd_I hQ hx hb hr hlocks dX7_save_57 hS (Or.inr ⟨j, hj, rfl, rfl, updM (updM M 3 (cpN (M 3) (M 0) (82 * j) 82)) 4 (upd (M 4) j 1), ⟨rfl, rfl, rfl, rfl, rfl, rfl, rfl⟩, hM⟩)
        · have h_i : i < 82 := by
            have h9 : ¬ nI 82 ≤ nI i := cd
            rw [nI_leI (by omega) (by omega)] at h9
            omega
          refine lv_aload_n hx hb dX7_save_21 rfl (lv_at hl 1 rfl) ?_
          refine rg (C := RX7) (T := TX7) (N := 16) (v := .ref (w + 4)) hx hb hT inX7 hown hK hM.1 rfl 3 (by decide) mf_X7_19 rfl dX7_save_22 ?_
          refine lv_bipush (v := 82) hx hb dX7_save_25 (by decide) ?_
          refine lv_iload_n hx hb dX7_save_27 rfl (lv_at hl 2 rfl) ?_
          refine lv_imul hx hb dX7_save_28 ?_
          refine lv_iload_n hx hb dX7_save_29 rfl (lv_at hl 0 rfl) ?_
          refine lv_iadd hx hb dX7_save_30 ?_
          refine lv_aload_n hx hb dX7_save_31 rfl (lv_at hl 1 rfl) ?_
          refine rg (C := RX7) (T := TX7) (N := 16) (v := .ref (w + 1)) hx hb hT inX7 hown hK hM.1 rfl 0 (by decide) mf_X7_7 rfl dX7_save_32 ?_
          refine lv_iload_n hx hb dX7_save_35 rfl (lv_at hl 0 rfl) ?_
          refine r_ialdS (y := M 0 i) hx hb hK hM.2.1 i (rfl) (by omega) (Nat.le_of_ble_eq_true rfl) rfl dX7_save_36 ?_
          refine r_iast hx hb hK hM.2.2.2.2.1 (82 * j + i) (by rw [show (82 : Int32) = nI 82 from rfl, pk_mul, nI_add]) (by omega) (Nat.le_of_ble_eq_true rfl) hS (show _ ∧ _ from ⟨by omega, by omega⟩) dX7_save_37 (fun H locs h1 o hS => ?_)
          have hM := hM.a3 h1 o
          rw [updM_2, updM_eq, cpN_s] at hM
          refine lv_iinc (v := nI (i + 1)) (lv' := [(2, .int (nI (i + 1))), (0, .ref w), (1, .int (nI j))]) hx hb dX7_save_38 hl (k := 0) rfl (nI_1 i) (by decide) rfl (fun ls hl => ?_)
          refine lv_goto (tgt := 15) hx hb dX7_save_41 (by decide) ?_
          exact ih (i + 1) _ _ hS (by omega) hM (by omega) ls (lv_sub hl [0, 1, 2] rfl)
    exact loop 83 0 _ _ hS (by omega) (by rw [cpN_0]; exact (by rw [updM_self (by rfl)]; exact hM)) (by omega) ls (lv_sub hl [0, 1, 2] rfl)
  · refine lv_bipush (v := (-2)) hx hb dX7_save_10 (by decide) ?_
    exact nd_I hQ hx hb hr hlocks dX7_save_12 hS (Or.inl ⟨bi_e0 c1, rfl, hM⟩)


def rsR (M : Nat → Nat → Int32) (j : Nat) : Nat → Int32 := cpN (M 0) (fun k => M 3 (82 * j + k)) 0 82

set_option maxHeartbeats 4000000 in
set_option maxRecDepth 100000 in
theorem k_X7_restore (l : Launch) (G : GG) (w : Nat) (M : Nat → Nat → Int32) (s0 : Nat) (x : Int32) (hs : M 5 0 = nI s0) (hs6 : s0 ≤ 6) : Met l yX7_restore (ws_ yX7_restore cX7_restore 3 (some .int)) (rm_ 1) (PC G [.ref w, .int x] (MdAt G w M)) (QI (fun v H => (¬ (0 ≤ x ∧ x ≤ 1) ∧ v = -2 ∧ MdAt G w M H) ∨ (∃ j, j < 2 ∧ x = nI j ∧ ((M 4 j = 0 ∧ v = -5 ∧ MdAt G w M H) ∨ (¬ M 4 j = 0 ∧ v = rsR M j 5 ∧ ∃ M2, PubS M M2 (rsR M j 5, rsR M j) s0 ∧ MdAt G w M2 H)))) (In w 13)) 0 0 (In w 13) := by
  refine met_q (by decide +kernel) (Nat.le_of_ble_eq_true rfl) ?_
  intro p e s m args below meth c Q hQ hx hb hr hT hown hml hlocks hnm hK hM ls hl
  have hl : lv_has ls 3 [(0, .ref w), (1, .int x)] := hl
  have hS : va_S (In w 13) s.heap s.heap [] := va_S.rf
  refine lv_iload_n hx hb dX7_restore_0 rfl (lv_at hl 1 rfl) ?_
  refine lv_i2l hx hb dX7_restore_1 rfl ?_
  refine lv_iconst (v := 0) hx hb dX7_restore_2 (by decide) ?_
  refine lv_iconst (v := 1) hx hb dX7_restore_3 (by decide) ?_
  refine got_i (run_s hx hb hml hown hT hK hl.1 (k_X7_in l G x 0 1) (cw_X7_47 hT ⟨Nat.le_of_ble_eq_true rfl, Nat.le_of_ble_eq_true rfl⟩) trivial rfl rfl (Nat.le_of_ble_eq_true rfl) dX7_restore_4 ⟨Nat.zero_le _, Nat.zero_le _⟩) (fun v_1 hv_1 => ?_)
  subst hv_1
  refine lv_if_ne (tgt := 13) hx hb dX7_restore_7 (by decide) (fun c1 => ?_) (fun c1 => ?_)
  · obtain ⟨j, hj, rfl⟩ := sl_ix (bi_n0 c1)
    refine lv_aload_n hx hb dX7_restore_13 rfl (lv_at hl 0 rfl) ?_
    refine rg (C := RX7) (T := TX7) (N := 16) (v := .ref (w + 5)) hx hb hT inX7 hown hK hM.1 rfl 4 (by decide) mf_X7_22 rfl dX7_restore_14 ?_
    refine lv_iload_n hx hb dX7_restore_17 rfl (lv_at hl 1 rfl) ?_
    refine r_zaldS (y := M 4 j) hx hb hK hM.2.2.2.2.2.1 j (rfl) (hj) (Nat.le_of_ble_eq_true rfl) rfl dX7_restore_18 ?_
    refine lv_if_ne (tgt := 25) hx hb dX7_restore_19 (by decide) (fun c2 => ?_) (fun c2 => ?_)
    · refine lv_aload_n hx hb dX7_restore_25 rfl (lv_at hl 0 rfl) ?_
      refine got_V (run_i hx hb hml hown hT hK hl.1 (k_X7_remember l G w M) (cw_X7_55 hT ⟨Nat.le_of_ble_eq_true rfl, Nat.le_of_ble_eq_true rfl⟩) hM.1 rfl hM rfl rfl (Nat.le_of_ble_eq_true rfl) dX7_restore_26 ⟨Nat.zero_le _, Nat.zero_le _⟩) hS (fun q hq => hq) (fun q hq => hq) (fun  H locs h1 hz hk hS => ?_)
      have hM := h1
      obtain ⟨M1, eM1⟩ : ∃ z, z = updM M 2 (M 0) := ⟨_, rfl⟩
      rw [← eM1] at hM
      have e0 : M1 0 = M 0 := by rw [eM1]; rfl
      have e1 : M1 1 = M 1 := by rw [eM1]; rfl
      have e2 : M1 2 = M 0 := by rw [eM1]; rfl
      have e3 : M1 3 = M 3 := by rw [eM1]; rfl
      have e4 : M1 4 = M 4 := by rw [eM1]; rfl
      have e5 : M1 5 0 = nI s0 := by rw [eM1]; exact hs
      have e6 : M1 6 = M 6 := by rw [eM1]; rfl
      have e7 : M1 7 0 = M 7 0 := by rw [eM1]; rfl
      refine lv_iconst (v := 0) hx hb dX7_restore_29 (by decide) ?_
      refine lv_istore_n (lv' := [(2, .int 0), (0, .ref w), (1, .int (nI j))]) hx hb dX7_restore_30 rfl hl (by decide) rfl (fun ls hl => ?_)
      have loop : ∀ (k : Nat) (i : Nat) (H : Heap) (locs : List Loc), va_S (In w 13) s.heap H locs → i ≤ 82 → MdAt G w (updM M1 0 (cpN (M 0) (fun k => M 3 (82 * j + k)) 0 i)) H → 82 - i < k → ∀ ls : Array Slot, lv_has ls 3 [(2, .int (nI i)), (0, .ref w), (1, .int (nI j))] → W p l e (rm_ 1) s m args below meth c H locs 0 0 Q (F0 m 31 ls []) := by
        intro k
        induction k with
        | zero => intro i H locs hS hi hM hm; exact absurd hm (Nat.not_lt_zero _)
        | succ k ih =>
          intro i H locs hS hi hM hm ls hl
          refine lv_iload_n hx hb dX7_restore_31 rfl (lv_at hl 0 rfl) ?_
          refine lv_bipush (v := 82) hx hb dX7_restore_32 (by decide) ?_
          refine lv_icmp_ge (tgt := 60) hx hb dX7_restore_34 (by decide) (fun cd => ?_) (fun cd => ?_)
          · have e_i : i = 82 := by
              have h9 : nI 82 ≤ nI i := cd
              rw [nI_leI (by omega) (by omega)] at h9
              omega
            subst e_i
            refine lv_aload_n hx hb dX7_restore_60 rfl (lv_at hl 1 rfl) ?_
            refine lv_aload_n hx hb dX7_restore_61 rfl (lv_at hl 1 rfl) ?_
            refine rg (C := RX7) (T := TX7) (N := 16) (v := .ref (w + 1)) hx hb hT inX7 hown hK hM.1 rfl 0 (by decide) mf_X7_7 rfl dX7_restore_62 ?_
            refine lv_iconst (v := 5) hx hb dX7_restore_65 (by decide) ?_
            refine r_ialdS (y := rsR M j 5) hx hb hK hM.2.1 5 (by decide) (by omega) (Nat.le_of_ble_eq_true rfl) rfl dX7_restore_66 ?_
            refine got_I (run_i hx hb hml hown hT hK hl.1 (k_X7_record l G w (updM M1 0 (rsR M j)) s0 (rsR M j 5) e5 hs6) (cw_X7_58 hT ⟨Nat.le_of_ble_eq_true rfl, Nat.le_of_ble_eq_true rfl⟩) hM.1 rfl hM rfl rfl (Nat.le_of_ble_eq_true rfl) dX7_restore_67 ⟨Nat.zero_le _, Nat.zero_le _⟩) hS (fun q hq => hq) (fun q hq => hq) (fun v_2 H locs h1 hz hk hS => ?_)
            obtain ⟨hv9, hM⟩ := h1
            rw [hv9]
            exact nd_I hQ hx hb hr hlocks dX7_restore_70 hS (Or.inr ⟨j, hj, rfl, Or.inr ⟨c2, rfl, _, pub_rec (M := M) (M2 := updM M1 0 (rsR M j)) (op := (rsR M j 5, rsR M j)) rfl e1 e2 e3 e4 e5 e6 e7, hM⟩⟩)
          · have h_i : i < 82 := by
              have h9 : ¬ nI 82 ≤ nI i := cd
              rw [nI_leI (by omega) (by omega)] at h9
              omega
            refine lv_aload_n hx hb dX7_restore_37 rfl (lv_at hl 1 rfl) ?_
            refine rg (C := RX7) (T := TX7) (N := 16) (v := .ref (w + 1)) hx hb hT inX7 hown hK hM.1 rfl 0 (by decide) mf_X7_7 rfl dX7_restore_38 ?_
            refine lv_iload_n hx hb dX7_restore_41 rfl (lv_at hl 0 rfl) ?_
            refine lv_aload_n hx hb dX7_restore_42 rfl (lv_at hl 1 rfl) ?_
            refine rg (C := RX7) (T := TX7) (N := 16) (v := .ref (w + 4)) hx hb hT inX7 hown hK hM.1 rfl 3 (by decide) mf_X7_19 rfl dX7_restore_43 ?_
            refine lv_bipush (v := 82) hx hb dX7_restore_46 (by decide) ?_
            refine lv_iload_n hx hb dX7_restore_48 rfl (lv_at hl 2 rfl) ?_
            refine lv_imul hx hb dX7_restore_49 ?_
            refine lv_iload_n hx hb dX7_restore_50 rfl (lv_at hl 0 rfl) ?_
            refine lv_iadd hx hb dX7_restore_51 ?_
            refine r_ialdS (y := M 3 (82 * j + i)) hx hb hK hM.2.2.2.2.1 (82 * j + i) (by rw [show (82 : Int32) = nI 82 from rfl, pk_mul, nI_add]) (by omega) (Nat.le_of_ble_eq_true rfl) (by rw [← e3]; rfl) dX7_restore_52 ?_
            refine r_iast hx hb hK hM.2.1 i (rfl) (h_i) (Nat.le_of_ble_eq_true rfl) hS (show _ ∧ _ from ⟨by omega, by omega⟩) dX7_restore_53 (fun H locs h1 o hS => ?_)
            have hM := hM.a0 h1 o
            have es : upd (cpN (M 0) (fun k => M 3 (82 * j + k)) 0 i) i (M 3 (82 * j + i)) = cpN (M 0) (fun k => M 3 (82 * j + k)) 0 (i + 1) := by have h9 := cpN_s (r := M 0) (g := fun k => M 3 (82 * j + k)) (lo := 0) (n := i); rw [Nat.zero_add] at h9; exact h9
            rw [updM_2, updM_eq, es] at hM
            refine lv_iinc (v := nI (i + 1)) (lv' := [(2, .int (nI (i + 1))), (0, .ref w), (1, .int (nI j))]) hx hb dX7_restore_54 hl (k := 0) rfl (nI_1 i) (by decide) rfl (fun ls hl => ?_)
            refine lv_goto (tgt := 31) hx hb dX7_restore_57 (by decide) ?_
            exact ih (i + 1) _ _ hS (by omega) hM (by omega) ls (lv_sub hl [0, 1, 2] rfl)
      exact loop 83 0 _ _ hS (by omega) (by rw [cpN_0]; exact (by rw [updM_self (by exact e0)]; exact hM)) (by omega) ls (lv_sub hl [0, 1, 2] rfl)
    · refine lv_bipush (v := (-5)) hx hb dX7_restore_22 (by decide) ?_
      exact nd_I hQ hx hb hr hlocks dX7_restore_24 hS (Or.inr ⟨j, hj, rfl, Or.inl ⟨c2, rfl, hM⟩⟩)
  · refine lv_bipush (v := (-2)) hx hb dX7_restore_10 (by decide) ?_
    exact nd_I hQ hx hb hr hlocks dX7_restore_12 hS (Or.inl ⟨bi_e0 c1, rfl, hM⟩)


def ofN (r : Nat → Int32) (i : Nat) : Nat → Int32
  | 0 => prF r i
  | 1 => tsF r i 0 0
  | 2 => tsF r i 1 0
  | 3 => tsF r i 2 0
  | 4 => r (12 + 14 * i + 11)
  | 5 => r (12 + 14 * i + 12)
  | 6 => r (12 + 14 * i + 13)
  | _ => -2
/-- y as a case: out of 0 .. n, or one of them -/
theorem cs6 (y : Int32) : (y.toInt < 0 ∨ 6 < y.toInt) ∨ y = 0 ∨ y = 1 ∨ y = 2 ∨ y = 3 ∨ y = 4 ∨ y = 5 ∨ y = 6 := by
  by_cases h : y.toInt < 0 ∨ 6 < y.toInt
  · exact Or.inl h
  · refine Or.inr ?_
    have e : ∀ z : Int32, y.toInt = z.toInt → y = z := fun z q => Int32.toInt_inj.mp q
    have h6 : y.toInt = 0 ∨ y.toInt = 1 ∨ y.toInt = 2 ∨ y.toInt = 3 ∨ y.toInt = 4 ∨ y.toInt = 5 ∨ y.toInt = 6 := by omega
    rcases h6 with q | q | q | q | q | q | q
    · exact Or.inl (e 0 q)
    · exact Or.inr (Or.inl (e 1 q))
    · exact Or.inr (Or.inr (Or.inl (e 2 q)))
    · exact Or.inr (Or.inr (Or.inr (Or.inl (e 3 q))))
    · exact Or.inr (Or.inr (Or.inr (Or.inr (Or.inl (e 4 q)))))
    · exact Or.inr (Or.inr (Or.inr (Or.inr (Or.inr (Or.inl (e 5 q))))))
    · exact Or.inr (Or.inr (Or.inr (Or.inr (Or.inr (Or.inr (e 6 q))))))
theorem cs13 (y : Int32) : (y.toInt < 0 ∨ 13 < y.toInt) ∨ ((y = 0 ∨ y = 1 ∨ y = 2 ∨ y = 3) ∨ (y = 4 ∨ y = 5 ∨ y = 6) ∨ (y = 7 ∨ y = 8 ∨ y = 9) ∨ (y = 10 ∨ y = 11 ∨ y = 12 ∨ y = 13)) := by
  by_cases h : y.toInt < 0 ∨ 13 < y.toInt
  · exact Or.inl h
  · refine Or.inr ?_
    have e : ∀ z : Int32, y.toInt = z.toInt → y = z := fun z q => Int32.toInt_inj.mp q
    have e0 : y.toInt = 0 → y = 0 := e 0
    have e1 : y.toInt = 1 → y = 1 := e 1
    have e2 : y.toInt = 2 → y = 2 := e 2
    have e3 : y.toInt = 3 → y = 3 := e 3
    have e4 : y.toInt = 4 → y = 4 := e 4
    have e5 : y.toInt = 5 → y = 5 := e 5
    have e6 : y.toInt = 6 → y = 6 := e 6
    have e7 : y.toInt = 7 → y = 7 := e 7
    have e8 : y.toInt = 8 → y = 8 := e 8
    have e9 : y.toInt = 9 → y = 9 := e 9
    have e10 : y.toInt = 10 → y = 10 := e 10
    have e11 : y.toInt = 11 → y = 11 := e 11
    have e12 : y.toInt = 12 → y = 12 := e 12
    have e13 : y.toInt = 13 → y = 13 := e 13
    have h6 : ((y.toInt = 0 ∨ y.toInt = 1 ∨ y.toInt = 2 ∨ y.toInt = 3) ∨ (y.toInt = 4 ∨ y.toInt = 5 ∨ y.toInt = 6) ∨ (y.toInt = 7 ∨ y.toInt = 8 ∨ y.toInt = 9) ∨ (y.toInt = 10 ∨ y.toInt = 11 ∨ y.toInt = 12 ∨ y.toInt = 13)) := by omega
    rcases h6 with (q | q | q | q) | (q | q | q) | (q | q | q) | (q | q | q | q) <;> simp [e0, e1, e2, e3, e4, e5, e6, e7, e8, e9, e10, e11, e12, e13, q]
def selN (n : Nat) (y : Int32) (f : Nat → Int32) : Int32 := if y.toInt < 0 ∨ (n : Int) < y.toInt then -2 else f y.toInt.toNat
theorem selN_out {n : Nat} {y : Int32} {f : Nat → Int32} (h : y.toInt < 0 ∨ (n : Int) < y.toInt) : -2 = selN n y f := (if_pos h).symm
theorem selN_in {n : Nat} {y : Int32} {f : Nat → Int32} (k : Nat) (hk : k ≤ n) (h : y.toInt = (k : Int)) : f k = selN n y f := by
  unfold selN
  rw [if_neg (by omega), h]
  rfl
def ofO (r : Nat → Int32) (x y : Int32) : Int32 := if lfP r x then selN 6 y (ofN r x.toInt.toNat) else -1
theorem ofO_1 {r : Nat → Int32} {x y : Int32} (h : ¬ lfP r x) : -1 = ofO r x y := (if_neg h).symm
theorem ofO_2 {r : Nat → Int32} {i : Nat} {y v : Int32} (hi : i < 5) (h : lfP r (nI i)) (hv : v = selN 6 y (ofN r i)) : v = ofO r (nI i) y := by
  unfold ofO
  rw [if_pos h, nIt (by omega)]
  exact hv
def blN (r : Nat → Int32) : Nat → Int32
  | 0 => prS r / 20
  | 1 => tsS r 0 0 / 20
  | 2 => tsS r 1 0 / 20
  | 3 => tsS r 2 0 / 20
  | 4 => shS r
  | 5 => mkF r (nlv r)
  | _ => -2
theorem cs5 (y : Int32) : (y.toInt < 0 ∨ 5 < y.toInt) ∨ y = 0 ∨ y = 1 ∨ y = 2 ∨ y = 3 ∨ y = 4 ∨ y = 5 := by
  by_cases h : y.toInt < 0 ∨ 5 < y.toInt
  · exact Or.inl h
  · refine Or.inr ?_
    rcases cs6 y with q | q | q | q | q | q | q | q
    · omega
    · exact Or.inl q
    · exact Or.inr (Or.inl q)
    · exact Or.inr (Or.inr (Or.inl q))
    · exact Or.inr (Or.inr (Or.inr (Or.inl q)))
    · exact Or.inr (Or.inr (Or.inr (Or.inr (Or.inl q))))
    · exact Or.inr (Or.inr (Or.inr (Or.inr (Or.inr q))))
    · rw [q] at h
      exact absurd (Or.inr (by decide)) h
def cnN (r : Nat → Int32) (a b : Int32) : Nat → Int32
  | 0 => r 2
  | 1 => r 5
  | 2 => r 3
  | 3 => r 4
  | 4 => r 6
  | 5 => r 7
  | 6 => r 8
  | 7 => r 9
  | 8 => r 10
  | 9 => r 11
  | 10 => r 0
  | 11 => r 1
  | 12 => a
  | 13 => b
  | _ => -2

set_option maxHeartbeats 4000000 in
set_option maxRecDepth 100000 in
theorem k_X7_of (l : Launch) (G : GG) (w : Nat) (M : Nat → Nat → Int32) (x y : Int32) (hw : WF (M 0)) : Met l yX7_of (ws_ yX7_of cX7_of 3 (some .int)) (rm_ 2) (PC G [.ref w, .int x, .int y] (MdAt G w M)) (vp_Si (fun z => z = ofO (M 0) x y)) 0 0 NoA := by
  refine met_q (by decide +kernel) (Nat.le_of_ble_eq_true rfl) ?_
  intro p e s m args below meth c Q hQ hx hb hr hT hown hml hlocks hnm hK hM ls hl
  have hl : lv_has ls 3 [(0, .ref w), (1, .int x), (2, .int y)] := hl
  have hn5 := hw.nl5
  refine lv_aload_n hx hb dX7_of_0 rfl (lv_at hl 0 rfl) ?_
  refine lv_iload_n hx hb dX7_of_1 rfl (lv_at hl 1 rfl) ?_
  refine got_i (run_i hx hb hml hown hT hK hl.1 (k_X7_isLeaf l G w M x hw) (cw_X7_101 hT ⟨Nat.le_of_ble_eq_true rfl, Nat.le_of_ble_eq_true rfl⟩) hM.1 rfl hM rfl rfl (Nat.le_of_ble_eq_true rfl) dX7_of_2 ⟨Nat.zero_le _, Nat.zero_le _⟩) (fun v_1 hv_1 => ?_)
  subst hv_1
  refine lv_if_ne (tgt := 10) hx hb dX7_of_5 (by decide) (fun c1 => ?_) (fun c1 => ?_)
  · have hl1 : lfP (M 0) x := bi_n0 c1
    obtain ⟨i, hi, rfl⟩ := lf_ix hw hl1
    refine lv_iload_n hx hb dX7_of_10 rfl (lv_at hl 2 rfl) ?_
    rcases cs6 y with qc | qc | qc | qc | qc | qc | qc | qc
    · refine lv_tableOut (tgt := 92) hx hb dX7_of_11 qc (by decide) ?_
      refine lv_bipush (v := (-2)) hx hb dX7_of_92 (by decide) ?_
      exact nd_i hQ hx hb hr hlocks dX7_of_94 (ofO_2 (by omega) hl1 (selN_out qc))
    · subst qc
      refine lv_tableIn (off := 41) (tgt := 52) hx hb dX7_of_11 (by decide) (by decide) (by decide) (by decide) ?_
      refine lv_aload_n hx hb dX7_of_52 rfl (lv_at hl 0 rfl) ?_
      refine lv_iload_n hx hb dX7_of_53 rfl (lv_at hl 1 rfl) ?_
      refine got_i (run_i hx hb hml hown hT hK hl.1 (k_X7_priceOf l G w M i hw (by omega)) (cw_X7_66 hT ⟨Nat.le_of_ble_eq_true rfl, Nat.le_of_ble_eq_true rfl⟩) hM.1 rfl hM rfl rfl (Nat.le_of_ble_eq_true rfl) dX7_of_54 ⟨Nat.zero_le _, Nat.zero_le _⟩) (fun v_2 hv_2 => ?_)
      subst hv_2
      exact nd_i hQ hx hb hr hlocks dX7_of_57 (ofO_2 (by omega) hl1 (selN_in (f := ofN (M 0) i) 0 (by omega) rfl))
    · subst qc
      refine lv_tableIn (off := 47) (tgt := 58) hx hb dX7_of_11 (by decide) (by decide) (by decide) (by decide) ?_
      refine lv_aload_n hx hb dX7_of_58 rfl (lv_at hl 0 rfl) ?_
      refine lv_iload_n hx hb dX7_of_59 rfl (lv_at hl 1 rfl) ?_
      refine lv_iload_n hx hb dX7_of_60 rfl (lv_at hl 2 rfl) ?_
      refine lv_iconst (v := 1) hx hb dX7_of_61 (by decide) ?_
      refine lv_isub hx hb dX7_of_62 ?_
      refine lv_iconst (v := 0) hx hb dX7_of_63 (by decide) ?_
      rw [show (1 : Int32) - 1 = nI 0 by decide]
      refine got_i (run_i hx hb hml hown hT hK hl.1 (k_X7_tasteOf l G w M i 0 0 (by omega) (by omega)) (cw_X7_69 hT ⟨Nat.le_of_ble_eq_true rfl, Nat.le_of_ble_eq_true rfl⟩) hM.1 rfl hM rfl rfl (Nat.le_of_ble_eq_true rfl) dX7_of_64 ⟨Nat.zero_le _, Nat.zero_le _⟩) (fun v_3 hv_3 => ?_)
      subst hv_3
      exact nd_i hQ hx hb hr hlocks dX7_of_67 (ofO_2 (by omega) hl1 (selN_in (f := ofN (M 0) i) 1 (by omega) rfl))
    · subst qc
      refine lv_tableIn (off := 47) (tgt := 58) hx hb dX7_of_11 (by decide) (by decide) (by decide) (by decide) ?_
      refine lv_aload_n hx hb dX7_of_58 rfl (lv_at hl 0 rfl) ?_
      refine lv_iload_n hx hb dX7_of_59 rfl (lv_at hl 1 rfl) ?_
      refine lv_iload_n hx hb dX7_of_60 rfl (lv_at hl 2 rfl) ?_
      refine lv_iconst (v := 1) hx hb dX7_of_61 (by decide) ?_
      refine lv_isub hx hb dX7_of_62 ?_
      refine lv_iconst (v := 0) hx hb dX7_of_63 (by decide) ?_
      rw [show (2 : Int32) - 1 = nI 1 by decide]
      refine got_i (run_i hx hb hml hown hT hK hl.1 (k_X7_tasteOf l G w M i 1 0 (by omega) (by omega)) (cw_X7_69 hT ⟨Nat.le_of_ble_eq_true rfl, Nat.le_of_ble_eq_true rfl⟩) hM.1 rfl hM rfl rfl (Nat.le_of_ble_eq_true rfl) dX7_of_64 ⟨Nat.zero_le _, Nat.zero_le _⟩) (fun v_4 hv_4 => ?_)
      subst hv_4
      exact nd_i hQ hx hb hr hlocks dX7_of_67 (ofO_2 (by omega) hl1 (selN_in (f := ofN (M 0) i) 2 (by omega) rfl))
    · subst qc
      refine lv_tableIn (off := 47) (tgt := 58) hx hb dX7_of_11 (by decide) (by decide) (by decide) (by decide) ?_
      refine lv_aload_n hx hb dX7_of_58 rfl (lv_at hl 0 rfl) ?_
      refine lv_iload_n hx hb dX7_of_59 rfl (lv_at hl 1 rfl) ?_
      refine lv_iload_n hx hb dX7_of_60 rfl (lv_at hl 2 rfl) ?_
      refine lv_iconst (v := 1) hx hb dX7_of_61 (by decide) ?_
      refine lv_isub hx hb dX7_of_62 ?_
      refine lv_iconst (v := 0) hx hb dX7_of_63 (by decide) ?_
      rw [show (3 : Int32) - 1 = nI 2 by decide]
      refine got_i (run_i hx hb hml hown hT hK hl.1 (k_X7_tasteOf l G w M i 2 0 (by omega) (by omega)) (cw_X7_69 hT ⟨Nat.le_of_ble_eq_true rfl, Nat.le_of_ble_eq_true rfl⟩) hM.1 rfl hM rfl rfl (Nat.le_of_ble_eq_true rfl) dX7_of_64 ⟨Nat.zero_le _, Nat.zero_le _⟩) (fun v_5 hv_5 => ?_)
      subst hv_5
      exact nd_i hQ hx hb hr hlocks dX7_of_67 (ofO_2 (by omega) hl1 (selN_in (f := ofN (M 0) i) 3 (by omega) rfl))
    · subst qc
      refine lv_tableIn (off := 57) (tgt := 68) hx hb dX7_of_11 (by decide) (by decide) (by decide) (by decide) ?_
      refine lv_aload_n hx hb dX7_of_68 rfl (lv_at hl 0 rfl) ?_
      refine lv_iload_n hx hb dX7_of_69 rfl (lv_at hl 1 rfl) ?_
      refine lv_bipush (v := 11) hx hb dX7_of_70 (by decide) ?_
      refine got_i (run_i hx hb hml hown hT hK hl.1 (k_X7_its l G w M i 11 (by omega)) (cw_X7_62 hT ⟨Nat.le_of_ble_eq_true rfl, Nat.le_of_ble_eq_true rfl⟩) hM.1 rfl hM rfl rfl (Nat.le_of_ble_eq_true rfl) dX7_of_72 ⟨Nat.zero_le _, Nat.zero_le _⟩) (fun v_6 hv_6 => ?_)
      subst hv_6
      exact nd_i hQ hx hb hr hlocks dX7_of_75 (ofO_2 (by omega) hl1 (selN_in (f := ofN (M 0) i) 4 (by omega) rfl))
    · subst qc
      refine lv_tableIn (off := 65) (tgt := 76) hx hb dX7_of_11 (by decide) (by decide) (by decide) (by decide) ?_
      refine lv_aload_n hx hb dX7_of_76 rfl (lv_at hl 0 rfl) ?_
      refine lv_iload_n hx hb dX7_of_77 rfl (lv_at hl 1 rfl) ?_
      refine lv_bipush (v := 12) hx hb dX7_of_78 (by decide) ?_
      refine got_i (run_i hx hb hml hown hT hK hl.1 (k_X7_its l G w M i 12 (by omega)) (cw_X7_62 hT ⟨Nat.le_of_ble_eq_true rfl, Nat.le_of_ble_eq_true rfl⟩) hM.1 rfl hM rfl rfl (Nat.le_of_ble_eq_true rfl) dX7_of_80 ⟨Nat.zero_le _, Nat.zero_le _⟩) (fun v_7 hv_7 => ?_)
      subst hv_7
      exact nd_i hQ hx hb hr hlocks dX7_of_83 (ofO_2 (by omega) hl1 (selN_in (f := ofN (M 0) i) 5 (by omega) rfl))
    · subst qc
      refine lv_tableIn (off := 73) (tgt := 84) hx hb dX7_of_11 (by decide) (by decide) (by decide) (by decide) ?_
      refine lv_aload_n hx hb dX7_of_84 rfl (lv_at hl 0 rfl) ?_
      refine lv_iload_n hx hb dX7_of_85 rfl (lv_at hl 1 rfl) ?_
      refine lv_bipush (v := 13) hx hb dX7_of_86 (by decide) ?_
      refine got_i (run_i hx hb hml hown hT hK hl.1 (k_X7_its l G w M i 13 (by omega)) (cw_X7_62 hT ⟨Nat.le_of_ble_eq_true rfl, Nat.le_of_ble_eq_true rfl⟩) hM.1 rfl hM rfl rfl (Nat.le_of_ble_eq_true rfl) dX7_of_88 ⟨Nat.zero_le _, Nat.zero_le _⟩) (fun v_8 hv_8 => ?_)
      subst hv_8
      exact nd_i hQ hx hb hr hlocks dX7_of_91 (ofO_2 (by omega) hl1 (selN_in (f := ofN (M 0) i) 6 (by omega) rfl))
  · refine lv_iconst (v := (-1)) hx hb dX7_of_8 (by decide) ?_
    exact nd_i hQ hx hb hr hlocks dX7_of_9 (ofO_1 (bi_e0 c1))

set_option maxHeartbeats 4000000 in
set_option maxRecDepth 100000 in
theorem k_X7_blend (l : Launch) (G : GG) (w : Nat) (M : Nat → Nat → Int32) (y : Int32) (hw : WF (M 0)) : Met l yX7_blend (ws_ yX7_blend cX7_blend 2 (some .int)) (rm_ 4) (PC G [.ref w, .int y] (MdAt G w M)) (vp_Si (fun z => z = selN 5 y (blN (M 0)))) 0 0 NoA := by
  refine met_q (by decide +kernel) (Nat.le_of_ble_eq_true rfl) ?_
  intro p e s m args below meth c Q hQ hx hb hr hT hown hml hlocks hnm hK hM ls hl
  have hl : lv_has ls 2 [(0, .ref w), (1, .int y)] := hl
  refine lv_iload_n hx hb dX7_blend_0 rfl (lv_at hl 1 rfl) ?_
  rcases cs5 y with qc | qc | qc | qc | qc | qc | qc
  · refine lv_tableOut (tgt := 70) hx hb dX7_blend_1 qc (by decide) ?_
    refine lv_bipush (v := (-2)) hx hb dX7_blend_70 (by decide) ?_
    exact nd_i hQ hx hb hr hlocks dX7_blend_72 (selN_out qc)
  · subst qc
    refine lv_tableIn (off := 39) (tgt := 40) hx hb dX7_blend_1 (by decide) (by decide) (by decide) (by decide) ?_
    refine lv_aload_n hx hb dX7_blend_40 rfl (lv_at hl 0 rfl) ?_
    refine got_i (run_i hx hb hml hown hT hK hl.1 (k_X7_sumOfPrices l G w M hw) (cw_X7_113 hT ⟨Nat.le_of_ble_eq_true rfl, Nat.le_of_ble_eq_true rfl⟩) hM.1 rfl hM rfl rfl (Nat.le_of_ble_eq_true rfl) dX7_blend_41 ⟨Nat.zero_le _, Nat.zero_le _⟩) (fun v_1 hv_1 => ?_)
    subst hv_1
    refine lv_bipush (v := 20) hx hb dX7_blend_44 (by decide) ?_
    refine lv_idiv hx hb dX7_blend_46 (by decide) ?_
    exact nd_i hQ hx hb hr hlocks dX7_blend_47 (selN_in (f := blN (M 0)) 0 (by omega) rfl)
  · subst qc
    refine lv_tableIn (off := 47) (tgt := 48) hx hb dX7_blend_1 (by decide) (by decide) (by decide) (by decide) ?_
    refine lv_aload_n hx hb dX7_blend_48 rfl (lv_at hl 0 rfl) ?_
    refine lv_iload_n hx hb dX7_blend_49 rfl (lv_at hl 1 rfl) ?_
    refine lv_iconst (v := 1) hx hb dX7_blend_50 (by decide) ?_
    refine lv_isub hx hb dX7_blend_51 ?_
    refine lv_iconst (v := 0) hx hb dX7_blend_52 (by decide) ?_
    rw [show (1 : Int32) - 1 = nI 0 by decide]
    refine got_i (run_i hx hb hml hown hT hK hl.1 (k_X7_sumOfTastes l G w M 0 0 hw (by omega)) (cw_X7_77 hT ⟨Nat.le_of_ble_eq_true rfl, Nat.le_of_ble_eq_true rfl⟩) hM.1 rfl hM rfl rfl (Nat.le_of_ble_eq_true rfl) dX7_blend_53 ⟨Nat.zero_le _, Nat.zero_le _⟩) (fun v_2 hv_2 => ?_)
    subst hv_2
    refine lv_bipush (v := 20) hx hb dX7_blend_56 (by decide) ?_
    refine lv_idiv hx hb dX7_blend_58 (by decide) ?_
    exact nd_i hQ hx hb hr hlocks dX7_blend_59 (selN_in (f := blN (M 0)) 1 (by omega) rfl)
  · subst qc
    refine lv_tableIn (off := 47) (tgt := 48) hx hb dX7_blend_1 (by decide) (by decide) (by decide) (by decide) ?_
    refine lv_aload_n hx hb dX7_blend_48 rfl (lv_at hl 0 rfl) ?_
    refine lv_iload_n hx hb dX7_blend_49 rfl (lv_at hl 1 rfl) ?_
    refine lv_iconst (v := 1) hx hb dX7_blend_50 (by decide) ?_
    refine lv_isub hx hb dX7_blend_51 ?_
    refine lv_iconst (v := 0) hx hb dX7_blend_52 (by decide) ?_
    rw [show (2 : Int32) - 1 = nI 1 by decide]
    refine got_i (run_i hx hb hml hown hT hK hl.1 (k_X7_sumOfTastes l G w M 1 0 hw (by omega)) (cw_X7_77 hT ⟨Nat.le_of_ble_eq_true rfl, Nat.le_of_ble_eq_true rfl⟩) hM.1 rfl hM rfl rfl (Nat.le_of_ble_eq_true rfl) dX7_blend_53 ⟨Nat.zero_le _, Nat.zero_le _⟩) (fun v_3 hv_3 => ?_)
    subst hv_3
    refine lv_bipush (v := 20) hx hb dX7_blend_56 (by decide) ?_
    refine lv_idiv hx hb dX7_blend_58 (by decide) ?_
    exact nd_i hQ hx hb hr hlocks dX7_blend_59 (selN_in (f := blN (M 0)) 2 (by omega) rfl)
  · subst qc
    refine lv_tableIn (off := 47) (tgt := 48) hx hb dX7_blend_1 (by decide) (by decide) (by decide) (by decide) ?_
    refine lv_aload_n hx hb dX7_blend_48 rfl (lv_at hl 0 rfl) ?_
    refine lv_iload_n hx hb dX7_blend_49 rfl (lv_at hl 1 rfl) ?_
    refine lv_iconst (v := 1) hx hb dX7_blend_50 (by decide) ?_
    refine lv_isub hx hb dX7_blend_51 ?_
    refine lv_iconst (v := 0) hx hb dX7_blend_52 (by decide) ?_
    rw [show (3 : Int32) - 1 = nI 2 by decide]
    refine got_i (run_i hx hb hml hown hT hK hl.1 (k_X7_sumOfTastes l G w M 2 0 hw (by omega)) (cw_X7_77 hT ⟨Nat.le_of_ble_eq_true rfl, Nat.le_of_ble_eq_true rfl⟩) hM.1 rfl hM rfl rfl (Nat.le_of_ble_eq_true rfl) dX7_blend_53 ⟨Nat.zero_le _, Nat.zero_le _⟩) (fun v_4 hv_4 => ?_)
    subst hv_4
    refine lv_bipush (v := 20) hx hb dX7_blend_56 (by decide) ?_
    refine lv_idiv hx hb dX7_blend_58 (by decide) ?_
    exact nd_i hQ hx hb hr hlocks dX7_blend_59 (selN_in (f := blN (M 0)) 3 (by omega) rfl)
  · subst qc
    refine lv_tableIn (off := 59) (tgt := 60) hx hb dX7_blend_1 (by decide) (by decide) (by decide) (by decide) ?_
    refine lv_aload_n hx hb dX7_blend_60 rfl (lv_at hl 0 rfl) ?_
    refine got_i (run_i hx hb hml hown hT hK hl.1 (k_X7_shares l G w M hw) (cw_X7_73 hT ⟨Nat.le_of_ble_eq_true rfl, Nat.le_of_ble_eq_true rfl⟩) hM.1 rfl hM rfl rfl (Nat.le_of_ble_eq_true rfl) dX7_blend_61 ⟨Nat.zero_le _, Nat.zero_le _⟩) (fun v_5 hv_5 => ?_)
    subst hv_5
    exact nd_i hQ hx hb hr hlocks dX7_blend_64 (selN_in (f := blN (M 0)) 4 (by omega) rfl)
  · subst qc
    refine lv_tableIn (off := 64) (tgt := 65) hx hb dX7_blend_1 (by decide) (by decide) (by decide) (by decide) ?_
    refine lv_aload_n hx hb dX7_blend_65 rfl (lv_at hl 0 rfl) ?_
    refine got_i (run_i hx hb hml hown hT hK hl.1 (k_X7_mask l G w M hw) (cw_X7_136 hT ⟨Nat.le_of_ble_eq_true rfl, Nat.le_of_ble_eq_true rfl⟩) hM.1 rfl hM rfl rfl (Nat.le_of_ble_eq_true rfl) dX7_blend_66 ⟨Nat.zero_le _, Nat.zero_le _⟩) (fun v_6 hv_6 => ?_)
    subst hv_6
    exact nd_i hQ hx hb hr hlocks dX7_blend_69 (selN_in (f := blN (M 0)) 5 (by omega) rfl)

set_option maxHeartbeats 4000000 in
set_option maxRecDepth 100000 in
theorem k_X7_why (l : Launch) (G : GG) (w : Nat) (M : Nat → Nat → Int32)  (hw : WF (M 0)) : Met l yX7_why (ws_ yX7_why cX7_why 1 (some .int)) (rm_ 4) (PC G [.ref w] (MdAt G w M)) (vp_Si (fun z => z = whyF (M 0) 0)) 0 0 NoA := by
  refine met_q (by decide +kernel) (Nat.le_of_ble_eq_true rfl) ?_
  intro p e s m args below meth c Q hQ hx hb hr hT hown hml hlocks hnm hK hM ls hl
  have hl : lv_has ls 1 [(0, .ref w)] := hl
  refine lv_aload_n hx hb dX7_why_0 rfl (lv_at hl 0 rfl) ?_
  refine lv_iconst (v := 0) hx hb dX7_why_1 (by decide) ?_
  refine got_i (run_i hx hb hml hown hT hK hl.1 (k_X7_reason l G w M 0 hw) (cw_X7_107 hT ⟨Nat.le_of_ble_eq_true rfl, Nat.le_of_ble_eq_true rfl⟩) hM.1 rfl hM rfl rfl (Nat.le_of_ble_eq_true rfl) dX7_why_2 ⟨Nat.zero_le _, Nat.zero_le _⟩) (fun v_1 hv_1 => ?_)
  subst hv_1
  exact nd_i hQ hx hb hr hlocks dX7_why_5 (rfl)

set_option maxHeartbeats 4000000 in
set_option maxRecDepth 100000 in
theorem k_X7_count (l : Launch) (G : GG) (w : Nat) (M : Nat → Nat → Int32) (y : Int32)  : Met l yX7_count (ws_ yX7_count cX7_count 2 (some .int)) (rm_ 0) (PC G [.ref w, .int y] (MdAt G w M)) (vp_Si (fun z => z = selN 13 y (cnN (M 0) (M 7 0) (M 5 0)))) 0 0 NoA := by
  refine met_q (by decide +kernel) (Nat.le_of_ble_eq_true rfl) ?_
  intro p e s m args below meth c Q hQ hx hb hr hT hown hml hlocks hnm hK hM ls hl
  have hl : lv_has ls 2 [(0, .ref w), (1, .int y)] := hl
  refine lv_iload_n hx hb dX7_count_0 rfl (lv_at hl 1 rfl) ?_
  rcases cs13 y with qc | (qc | qc | qc | qc) | (qc | qc | qc) | (qc | qc | qc) | (qc | qc | qc | qc)
  · refine lv_tableOut (tgt := 145) hx hb dX7_count_1 qc (by decide) ?_
    refine lv_bipush (v := (-2)) hx hb dX7_count_145 (by decide) ?_
    exact nd_i hQ hx hb hr hlocks dX7_count_147 (selN_out qc)
  · subst qc
    refine lv_tableIn (off := 71) (tgt := 72) hx hb dX7_count_1 (by decide) (by decide) (by decide) (by decide) ?_
    refine lv_aload_n hx hb dX7_count_72 rfl (lv_at hl 0 rfl) ?_
    refine rg (C := RX7) (T := TX7) (N := 16) (v := .ref (w + 1)) hx hb hT inX7 hown hK hM.1 rfl 0 (by decide) mf_X7_7 rfl dX7_count_73 ?_
    refine lv_iconst (v := 2) hx hb dX7_count_76 (by decide) ?_
    refine r_ialdS (y := M 0 2) hx hb hK hM.2.1 2 (by decide) (by omega) (Nat.le_of_ble_eq_true rfl) rfl dX7_count_77 ?_
    exact nd_i hQ hx hb hr hlocks dX7_count_78 (selN_in (f := cnN (M 0) (M 7 0) (M 5 0)) 0 (by omega) rfl)
  · subst qc
    refine lv_tableIn (off := 78) (tgt := 79) hx hb dX7_count_1 (by decide) (by decide) (by decide) (by decide) ?_
    refine lv_aload_n hx hb dX7_count_79 rfl (lv_at hl 0 rfl) ?_
    refine rg (C := RX7) (T := TX7) (N := 16) (v := .ref (w + 1)) hx hb hT inX7 hown hK hM.1 rfl 0 (by decide) mf_X7_7 rfl dX7_count_80 ?_
    refine lv_iconst (v := 5) hx hb dX7_count_83 (by decide) ?_
    refine r_ialdS (y := M 0 5) hx hb hK hM.2.1 5 (by decide) (by omega) (Nat.le_of_ble_eq_true rfl) rfl dX7_count_84 ?_
    exact nd_i hQ hx hb hr hlocks dX7_count_85 (selN_in (f := cnN (M 0) (M 7 0) (M 5 0)) 1 (by omega) rfl)
  · subst qc
    refine lv_tableIn (off := 85) (tgt := 86) hx hb dX7_count_1 (by decide) (by decide) (by decide) (by decide) ?_
    refine lv_aload_n hx hb dX7_count_86 rfl (lv_at hl 0 rfl) ?_
    refine rg (C := RX7) (T := TX7) (N := 16) (v := .ref (w + 1)) hx hb hT inX7 hown hK hM.1 rfl 0 (by decide) mf_X7_7 rfl dX7_count_87 ?_
    refine lv_iconst (v := 3) hx hb dX7_count_90 (by decide) ?_
    refine r_ialdS (y := M 0 3) hx hb hK hM.2.1 3 (by decide) (by omega) (Nat.le_of_ble_eq_true rfl) rfl dX7_count_91 ?_
    exact nd_i hQ hx hb hr hlocks dX7_count_92 (selN_in (f := cnN (M 0) (M 7 0) (M 5 0)) 2 (by omega) rfl)
  · subst qc
    refine lv_tableIn (off := 92) (tgt := 93) hx hb dX7_count_1 (by decide) (by decide) (by decide) (by decide) ?_
    refine lv_aload_n hx hb dX7_count_93 rfl (lv_at hl 0 rfl) ?_
    refine rg (C := RX7) (T := TX7) (N := 16) (v := .ref (w + 1)) hx hb hT inX7 hown hK hM.1 rfl 0 (by decide) mf_X7_7 rfl dX7_count_94 ?_
    refine lv_iconst (v := 4) hx hb dX7_count_97 (by decide) ?_
    refine r_ialdS (y := M 0 4) hx hb hK hM.2.1 4 (by decide) (by omega) (Nat.le_of_ble_eq_true rfl) rfl dX7_count_98 ?_
    exact nd_i hQ hx hb hr hlocks dX7_count_99 (selN_in (f := cnN (M 0) (M 7 0) (M 5 0)) 3 (by omega) rfl)
  · subst qc
    refine lv_tableIn (off := 99) (tgt := 100) hx hb dX7_count_1 (by decide) (by decide) (by decide) (by decide) ?_
    refine lv_aload_n hx hb dX7_count_100 rfl (lv_at hl 0 rfl) ?_
    refine rg (C := RX7) (T := TX7) (N := 16) (v := .ref (w + 1)) hx hb hT inX7 hown hK hM.1 rfl 0 (by decide) mf_X7_7 rfl dX7_count_101 ?_
    refine lv_bipush (v := 6) hx hb dX7_count_104 (by decide) ?_
    refine lv_iload_n hx hb dX7_count_106 rfl (lv_at hl 1 rfl) ?_
    refine lv_iadd hx hb dX7_count_107 ?_
    refine lv_iconst (v := 4) hx hb dX7_count_108 (by decide) ?_
    refine lv_isub hx hb dX7_count_109 ?_
    refine r_ialdS (y := M 0 6) hx hb hK hM.2.1 6 (by decide) (by omega) (Nat.le_of_ble_eq_true rfl) rfl dX7_count_110 ?_
    exact nd_i hQ hx hb hr hlocks dX7_count_111 (selN_in (f := cnN (M 0) (M 7 0) (M 5 0)) 4 (by omega) rfl)
  · subst qc
    refine lv_tableIn (off := 99) (tgt := 100) hx hb dX7_count_1 (by decide) (by decide) (by decide) (by decide) ?_
    refine lv_aload_n hx hb dX7_count_100 rfl (lv_at hl 0 rfl) ?_
    refine rg (C := RX7) (T := TX7) (N := 16) (v := .ref (w + 1)) hx hb hT inX7 hown hK hM.1 rfl 0 (by decide) mf_X7_7 rfl dX7_count_101 ?_
    refine lv_bipush (v := 6) hx hb dX7_count_104 (by decide) ?_
    refine lv_iload_n hx hb dX7_count_106 rfl (lv_at hl 1 rfl) ?_
    refine lv_iadd hx hb dX7_count_107 ?_
    refine lv_iconst (v := 4) hx hb dX7_count_108 (by decide) ?_
    refine lv_isub hx hb dX7_count_109 ?_
    refine r_ialdS (y := M 0 7) hx hb hK hM.2.1 7 (by decide) (by omega) (Nat.le_of_ble_eq_true rfl) rfl dX7_count_110 ?_
    exact nd_i hQ hx hb hr hlocks dX7_count_111 (selN_in (f := cnN (M 0) (M 7 0) (M 5 0)) 5 (by omega) rfl)
  · subst qc
    refine lv_tableIn (off := 99) (tgt := 100) hx hb dX7_count_1 (by decide) (by decide) (by decide) (by decide) ?_
    refine lv_aload_n hx hb dX7_count_100 rfl (lv_at hl 0 rfl) ?_
    refine rg (C := RX7) (T := TX7) (N := 16) (v := .ref (w + 1)) hx hb hT inX7 hown hK hM.1 rfl 0 (by decide) mf_X7_7 rfl dX7_count_101 ?_
    refine lv_bipush (v := 6) hx hb dX7_count_104 (by decide) ?_
    refine lv_iload_n hx hb dX7_count_106 rfl (lv_at hl 1 rfl) ?_
    refine lv_iadd hx hb dX7_count_107 ?_
    refine lv_iconst (v := 4) hx hb dX7_count_108 (by decide) ?_
    refine lv_isub hx hb dX7_count_109 ?_
    refine r_ialdS (y := M 0 8) hx hb hK hM.2.1 8 (by decide) (by omega) (Nat.le_of_ble_eq_true rfl) rfl dX7_count_110 ?_
    exact nd_i hQ hx hb hr hlocks dX7_count_111 (selN_in (f := cnN (M 0) (M 7 0) (M 5 0)) 6 (by omega) rfl)
  · subst qc
    refine lv_tableIn (off := 111) (tgt := 112) hx hb dX7_count_1 (by decide) (by decide) (by decide) (by decide) ?_
    refine lv_aload_n hx hb dX7_count_112 rfl (lv_at hl 0 rfl) ?_
    refine rg (C := RX7) (T := TX7) (N := 16) (v := .ref (w + 1)) hx hb hT inX7 hown hK hM.1 rfl 0 (by decide) mf_X7_7 rfl dX7_count_113 ?_
    refine lv_bipush (v := 9) hx hb dX7_count_116 (by decide) ?_
    refine lv_iload_n hx hb dX7_count_118 rfl (lv_at hl 1 rfl) ?_
    refine lv_iadd hx hb dX7_count_119 ?_
    refine lv_bipush (v := 7) hx hb dX7_count_120 (by decide) ?_
    refine lv_isub hx hb dX7_count_122 ?_
    refine r_ialdS (y := M 0 9) hx hb hK hM.2.1 9 (by decide) (by omega) (Nat.le_of_ble_eq_true rfl) rfl dX7_count_123 ?_
    exact nd_i hQ hx hb hr hlocks dX7_count_124 (selN_in (f := cnN (M 0) (M 7 0) (M 5 0)) 7 (by omega) rfl)
  · subst qc
    refine lv_tableIn (off := 111) (tgt := 112) hx hb dX7_count_1 (by decide) (by decide) (by decide) (by decide) ?_
    refine lv_aload_n hx hb dX7_count_112 rfl (lv_at hl 0 rfl) ?_
    refine rg (C := RX7) (T := TX7) (N := 16) (v := .ref (w + 1)) hx hb hT inX7 hown hK hM.1 rfl 0 (by decide) mf_X7_7 rfl dX7_count_113 ?_
    refine lv_bipush (v := 9) hx hb dX7_count_116 (by decide) ?_
    refine lv_iload_n hx hb dX7_count_118 rfl (lv_at hl 1 rfl) ?_
    refine lv_iadd hx hb dX7_count_119 ?_
    refine lv_bipush (v := 7) hx hb dX7_count_120 (by decide) ?_
    refine lv_isub hx hb dX7_count_122 ?_
    refine r_ialdS (y := M 0 10) hx hb hK hM.2.1 10 (by decide) (by omega) (Nat.le_of_ble_eq_true rfl) rfl dX7_count_123 ?_
    exact nd_i hQ hx hb hr hlocks dX7_count_124 (selN_in (f := cnN (M 0) (M 7 0) (M 5 0)) 8 (by omega) rfl)
  · subst qc
    refine lv_tableIn (off := 111) (tgt := 112) hx hb dX7_count_1 (by decide) (by decide) (by decide) (by decide) ?_
    refine lv_aload_n hx hb dX7_count_112 rfl (lv_at hl 0 rfl) ?_
    refine rg (C := RX7) (T := TX7) (N := 16) (v := .ref (w + 1)) hx hb hT inX7 hown hK hM.1 rfl 0 (by decide) mf_X7_7 rfl dX7_count_113 ?_
    refine lv_bipush (v := 9) hx hb dX7_count_116 (by decide) ?_
    refine lv_iload_n hx hb dX7_count_118 rfl (lv_at hl 1 rfl) ?_
    refine lv_iadd hx hb dX7_count_119 ?_
    refine lv_bipush (v := 7) hx hb dX7_count_120 (by decide) ?_
    refine lv_isub hx hb dX7_count_122 ?_
    refine r_ialdS (y := M 0 11) hx hb hK hM.2.1 11 (by decide) (by omega) (Nat.le_of_ble_eq_true rfl) rfl dX7_count_123 ?_
    exact nd_i hQ hx hb hr hlocks dX7_count_124 (selN_in (f := cnN (M 0) (M 7 0) (M 5 0)) 9 (by omega) rfl)
  · subst qc
    refine lv_tableIn (off := 124) (tgt := 125) hx hb dX7_count_1 (by decide) (by decide) (by decide) (by decide) ?_
    refine lv_aload_n hx hb dX7_count_125 rfl (lv_at hl 0 rfl) ?_
    refine rg (C := RX7) (T := TX7) (N := 16) (v := .ref (w + 1)) hx hb hT inX7 hown hK hM.1 rfl 0 (by decide) mf_X7_7 rfl dX7_count_126 ?_
    refine lv_iload_n hx hb dX7_count_129 rfl (lv_at hl 1 rfl) ?_
    refine lv_bipush (v := 10) hx hb dX7_count_130 (by decide) ?_
    refine lv_isub hx hb dX7_count_132 ?_
    refine r_ialdS (y := M 0 0) hx hb hK hM.2.1 0 (by decide) (by omega) (Nat.le_of_ble_eq_true rfl) rfl dX7_count_133 ?_
    exact nd_i hQ hx hb hr hlocks dX7_count_134 (selN_in (f := cnN (M 0) (M 7 0) (M 5 0)) 10 (by omega) rfl)
  · subst qc
    refine lv_tableIn (off := 124) (tgt := 125) hx hb dX7_count_1 (by decide) (by decide) (by decide) (by decide) ?_
    refine lv_aload_n hx hb dX7_count_125 rfl (lv_at hl 0 rfl) ?_
    refine rg (C := RX7) (T := TX7) (N := 16) (v := .ref (w + 1)) hx hb hT inX7 hown hK hM.1 rfl 0 (by decide) mf_X7_7 rfl dX7_count_126 ?_
    refine lv_iload_n hx hb dX7_count_129 rfl (lv_at hl 1 rfl) ?_
    refine lv_bipush (v := 10) hx hb dX7_count_130 (by decide) ?_
    refine lv_isub hx hb dX7_count_132 ?_
    refine r_ialdS (y := M 0 1) hx hb hK hM.2.1 1 (by decide) (by omega) (Nat.le_of_ble_eq_true rfl) rfl dX7_count_133 ?_
    exact nd_i hQ hx hb hr hlocks dX7_count_134 (selN_in (f := cnN (M 0) (M 7 0) (M 5 0)) 11 (by omega) rfl)
  · subst qc
    refine lv_tableIn (off := 134) (tgt := 135) hx hb dX7_count_1 (by decide) (by decide) (by decide) (by decide) ?_
    refine lv_aload_n hx hb dX7_count_135 rfl (lv_at hl 0 rfl) ?_
    refine rg (C := RX7) (T := TX7) (N := 16) (v := .int (M 7 0)) hx hb hT inX7 hown hK hM.1 rfl 7 (by decide) mf_X7_139 rfl dX7_count_136 ?_
    exact nd_i hQ hx hb hr hlocks dX7_count_139 (selN_in (f := cnN (M 0) (M 7 0) (M 5 0)) 12 (by omega) rfl)
  · subst qc
    refine lv_tableIn (off := 139) (tgt := 140) hx hb dX7_count_1 (by decide) (by decide) (by decide) (by decide) ?_
    refine lv_aload_n hx hb dX7_count_140 rfl (lv_at hl 0 rfl) ?_
    refine rg (C := RX7) (T := TX7) (N := 16) (v := .int (M 5 0)) hx hb hT inX7 hown hK hM.1 rfl 5 (by decide) mf_X7_51 rfl dX7_count_141 ?_
    exact nd_i hQ hx hb hr hlocks dX7_count_144 (selN_in (f := cnN (M 0) (M 7 0) (M 5 0)) 13 (by omega) rfl)


def kfG (r : Nat → Int32) : Nat → Nat → Int32
  | 0, _ => -6
  | n + 1, d => if whyF r (nI d) = 0 then kfG r n (d + 1) else nI d
theorem kfG_y {r : Nat → Int32} {n d : Nat} (h : whyF r (nI d) = 0) : kfG r (n + 1) d = kfG r n (d + 1) := if_pos h
theorem kfG_n {r : Nat → Int32} {n d : Nat} (h : ¬ whyF r (nI d) = 0) : kfG r (n + 1) d = nI d := if_neg h

set_option maxHeartbeats 4000000 in
set_option maxRecDepth 100000 in
theorem k_X7_keepsFor (l : Launch) (G : GG) (w : Nat) (M : Nat → Nat → Int32)  (hw : WF (M 0)) : Met l yX7_keepsFor (ws_ yX7_keepsFor cX7_keepsFor 2 (some .int)) (rm_ 4) (PC G [.ref w] (MdAt G w M)) (vp_Si (fun z => z = kfG (M 0) 401 0)) 0 0 NoA := by
  refine met_q (by decide +kernel) (Nat.le_of_ble_eq_true rfl) ?_
  intro p e s m args below meth c Q hQ hx hb hr hT hown hml hlocks hnm hK hM ls hl
  have hl : lv_has ls 2 [(0, .ref w)] := hl
  refine lv_aload_n hx hb dX7_keepsFor_0 rfl (lv_at hl 0 rfl) ?_
  refine lv_iconst (v := 0) hx hb dX7_keepsFor_1 (by decide) ?_
  refine got_i (run_i hx hb hml hown hT hK hl.1 (k_X7_reason l G w M 0 hw) (cw_X7_107 hT ⟨Nat.le_of_ble_eq_true rfl, Nat.le_of_ble_eq_true rfl⟩) hM.1 rfl hM rfl rfl (Nat.le_of_ble_eq_true rfl) dX7_keepsFor_2 ⟨Nat.zero_le _, Nat.zero_le _⟩) (fun v_1 hv_1 => ?_)
  subst hv_1
  refine lv_if_eq (tgt := 10) hx hb dX7_keepsFor_5 (by decide) (fun c1 => ?_) (fun c1 => ?_)
  · have e0 : kfG (M 0) 401 0 = kfG (M 0) 400 1 := kfG_y c1
    refine lv_iconst (v := 1) hx hb dX7_keepsFor_10 (by decide) ?_
    refine lv_istore_n (lv' := [(1, .int 1), (0, .ref w)]) hx hb dX7_keepsFor_11 rfl hl (by decide) rfl (fun ls hl => ?_)
    have loop : ∀ (k : Nat) (d : Nat), d ≤ 401 → kfG (M 0) 401 0 = kfG (M 0) (401 - d) d → 401 - d < k → ∀ ls : Array Slot, lv_has ls 2 [(1, .int (nI d)), (0, .ref w)] → W p l e (rm_ 4) s m args below meth c s.heap [] 0 0 Q (F0 m 12 ls []) := by
      intro k
      induction k with
      | zero => intro d hd he hm; exact absurd hm (Nat.not_lt_zero _)
      | succ k ih =>
        intro d hd he hm ls hl
        refine lv_iload_n hx hb dX7_keepsFor_12 rfl (lv_at hl 0 rfl) ?_
        refine lv_sipush (v := 400) hx hb dX7_keepsFor_13 (by decide) ?_
        refine lv_icmp_gt (tgt := 35) hx hb dX7_keepsFor_16 (by decide) (fun cd => ?_) (fun cd => ?_)
        · have e4 : d = 401 := by
            have h9 : nI 400 < nI d := cd
            rw [nI_ltI (by omega) (by omega)] at h9
            omega
          subst e4
          refine lv_bipush (v := (-6)) hx hb dX7_keepsFor_35 (by decide) ?_
          exact nd_i hQ hx hb hr hlocks dX7_keepsFor_37 (he.symm)
        · have h4 : d < 401 := by
            have h9 : ¬ nI 400 < nI d := cd
            rw [nI_ltI (by omega) (by omega)] at h9
            omega
          rw [show 401 - d = (400 - d) + 1 by omega] at he
          refine lv_aload_n hx hb dX7_keepsFor_19 rfl (lv_at hl 1 rfl) ?_
          refine lv_iload_n hx hb dX7_keepsFor_20 rfl (lv_at hl 0 rfl) ?_
          refine got_i (run_i hx hb hml hown hT hK hl.1 (k_X7_reason l G w M (nI d) hw) (cw_X7_107 hT ⟨Nat.le_of_ble_eq_true rfl, Nat.le_of_ble_eq_true rfl⟩) hM.1 rfl hM rfl rfl (Nat.le_of_ble_eq_true rfl) dX7_keepsFor_21 ⟨Nat.zero_le _, Nat.zero_le _⟩) (fun v_2 hv_2 => ?_)
          subst hv_2
          refine lv_if_eq (tgt := 29) hx hb dX7_keepsFor_24 (by decide) (fun c3 => ?_) (fun c3 => ?_)
          · refine lv_iinc (v := nI (d + 1)) (lv' := [(1, .int (nI (d + 1))), (0, .ref w)]) hx hb dX7_keepsFor_29 hl (k := 0) rfl (nI_1 d) (by decide) rfl (fun ls hl => ?_)
            refine lv_goto (tgt := 12) hx hb dX7_keepsFor_32 (by decide) ?_
            exact ih (d + 1) (by omega) (by rw [he, kfG_y c3]; congr 1; omega) (by omega) ls (lv_sub hl [0, 1] rfl)
          · refine lv_iload_n hx hb dX7_keepsFor_27 rfl (lv_at hl 0 rfl) ?_
            exact nd_i hQ hx hb hr hlocks dX7_keepsFor_28 (by rw [he, kfG_n c3])
    exact loop 401 1 (by omega) e0 (by omega) ls (lv_sub hl [0, 1] rfl)
  · refine lv_iconst (v := 0) hx hb dX7_keepsFor_8 (by decide) ?_
    exact nd_i hQ hx hb hr hlocks dX7_keepsFor_9 ((kfG_n c1).symm)

set_option maxHeartbeats 4000000 in
set_option maxRecDepth 100000 in
theorem k_X7_wipe (l : Launch) (G : GG) (w : Nat) (M : Nat → Nat → Int32)   : Met l yX7_wipe (ws_ yX7_wipe cX7_wipe 2 (some .int)) (rm_ 0) (PC G [.ref w] (MdAt G w M)) (QI (fun v H => v = M 7 0 ∧ MdAt G w (updM M 7 (fun _ => 0)) H) (In w 13)) 0 0 (In w 13) := by
  refine met_q (by decide +kernel) (Nat.le_of_ble_eq_true rfl) ?_
  intro p e s m args below meth c Q hQ hx hb hr hT hown hml hlocks hnm hK hM ls hl
  have hl : lv_has ls 2 [(0, .ref w)] := hl
  have hS : va_S (In w 13) s.heap s.heap [] := va_S.rf
  refine lv_aload_n hx hb dX7_wipe_0 rfl (lv_at hl 0 rfl) ?_
  refine rg (C := RX7) (T := TX7) (N := 16) (v := .int (M 7 0)) hx hb hT inX7 hown hK hM.1 rfl 7 (by decide) mf_X7_139 rfl dX7_wipe_1 ?_
  refine lv_istore_n (lv' := [(1, .int (M 7 0)), (0, .ref w)]) hx hb dX7_wipe_4 rfl hl (by decide) rfl (fun ls hl => ?_)
  refine lv_aload_n hx hb dX7_wipe_5 rfl (lv_at hl 1 rfl) ?_
  refine lv_iconst (v := 0) hx hb dX7_wipe_6 (by decide) ?_
  refine rp (C := RX7) (T := TX7) (N := 16) (v := .int 0) (ty := .int) hx hb hT inX7 tyX7 tyX7_ok nmX7 hown hK hM.1 rfl 7 (by decide) mf_X7_139 rfl (by decide +kernel) rfl rfl (Nat.le_of_ble_eq_true rfl) hS (show _ ∧ _ from ⟨by omega, by omega⟩) dX7_wipe_7 (fun H locs h1 o hS => ?_)
  have hM := hM.s7 h1 o
  refine lv_iload_n hx hb dX7_wipe_10 rfl (lv_at hl 0 rfl) ?_
  exact nd_I hQ hx hb hr hlocks dX7_wipe_11 hS (⟨rfl, hM⟩)
