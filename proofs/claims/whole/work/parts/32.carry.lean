/-! carrying a text out -/
noncomputable def orO (T : Nat → Int32) (n u0 : Nat) (N r : Nat → Int32) : Op := if (rdO T n u0 N).1 then opO r (sgn T n u0) (rdO T n u0 N).2.2 else (-3, r)
noncomputable def caF (T : Nat → Int32) (n : Nat) : Nat → Bool → Nat → (Nat → Int32) → (Nat → Int32) → Nat → (Nat → Int32) × (Nat → Int32) × Nat
  | 0, _, _, N, r, done => (r, N, done)
  | f + 1, b, u0, N, r, done => if b = true ∧ u0 < n then caF T n f (decide (0 ≤ (orO T n u0 N r).1)) ((rdO T n u0 N).2.1 + 1) (rdO T n u0 N).2.2 (orO T n u0 N r).2 (done + (if 0 ≤ (orO T n u0 N r).1 then 1 else 0)) else (r, N, done)
theorem caF_y {T : Nat → Int32} {n f u0 done : Nat} {N r : Nat → Int32} (h : u0 < n) : caF T n (f + 1) true u0 N r done = caF T n f (decide (0 ≤ (orO T n u0 N r).1)) ((rdO T n u0 N).2.1 + 1) (rdO T n u0 N).2.2 (orO T n u0 N r).2 (done + (if 0 ≤ (orO T n u0 N r).1 then 1 else 0)) := if_pos ⟨rfl, h⟩
theorem caF_n {T : Nat → Int32} {n f u0 done : Nat} {b : Bool} {N r : Nat → Int32} (h : ¬ (b = true ∧ u0 < n)) : caF T n f b u0 N r done = (r, N, done) := by
  cases f with
  | zero => rfl
  | succ f => exact if_neg h
/-- what carrying out leaves of the model -/
def CaS (M M2 : Nat → Nat → Int32) (r N : Nat → Int32) (done s0 : Nat) : Prop := M2 0 = r ∧ M2 1 = recP (M 1) (M 0) s0 ∧ M2 5 0 = nI (min (s0 + 1) 6) ∧ M2 3 = M 3 ∧ M2 4 = M 4 ∧ M2 6 = M 6 ∧ M2 7 0 = 0 ∧ M2 10 = N

set_option maxHeartbeats 4000000 in
set_option maxRecDepth 100000 in
theorem k_X7_carryOut (l : Launch) (G : GG) (w : Nat) (M : Nat → Nat → Int32) (n s0 : Nat) (J : (Nat → Int32) → Prop) (hn : n ≤ 80) (h7 : M 7 0 = nI n) (hs0 : M 5 0 = nI s0) (hs6 : s0 ≤ 6) (hJ : J (M 0)) (hJw : ∀ r, J r → WF r) (hJo : ∀ r y N, J r → J (opO r y N).2) : Met l yX7_carryOut (ws_ yX7_carryOut cX7_carryOut 3 (some .int)) (rm_ 7) (PC G [.ref w] (MdAt G w M)) (QI (fun v H => ((wlA (M 6) n (M 10)).1 = false ∧ v = -3 ∧ MdAt G w (RdM M (wlA (M 6) n (M 10)).2.1 (wlA (M 6) n (M 10)).2.2) H) ∨ ((wlA (M 6) n (M 10)).1 = true ∧ v = nI (caF (M 6) n 81 true 0 (wlA (M 6) n (M 10)).2.2 (M 0) 0).2.2 ∧ ∃ M2, CaS M M2 (caF (M 6) n 81 true 0 (wlA (M 6) n (M 10)).2.2 (M 0) 0).1 (caF (M 6) n 81 true 0 (wlA (M 6) n (M 10)).2.2 (M 0) 0).2.1 (caF (M 6) n 81 true 0 (wlA (M 6) n (M 10)).2.2 (M 0) 0).2.2 s0 ∧ MdAt G w M2 H)) (In w 13)) 0 0 (In w 13) := by
  refine met_q (by decide +kernel) (Nat.le_of_ble_eq_true rfl) ?_
  intro p e s m args below meth c Q hQ hx hb hr hT hown hml hlocks hnm hK hM ls hl
  have hl : lv_has ls 3 [(0, .ref w)] := hl
  have hS : va_S (In w 13) s.heap s.heap [] := va_S.rf
  refine lv_aload_n hx hb dX7_carryOut_0 rfl (lv_at hl 0 rfl) ?_
  refine got_I (run_i hx hb hml hown hT hK hl.1 (k_X7_isWell l G w M n hn h7) (cw_X7_178 hT ⟨Nat.le_of_ble_eq_true rfl, Nat.le_of_ble_eq_true rfl⟩) hM.1 rfl hM rfl rfl (Nat.le_of_ble_eq_true rfl) dX7_carryOut_1 ⟨Nat.zero_le _, Nat.zero_le _⟩) hS (fun q hq => hq) (fun q hq => hq) (fun v_1 H locs h1 hz hk hS => ?_)
  obtain ⟨hv, hM⟩ := h1
  obtain ⟨R0, hR0⟩ : ∃ z1, z1 = wlA (M 6) n (M 10) := ⟨_, rfl⟩
  rw [← hR0] at hv hM hQ
  obtain ⟨b0, q0, N0⟩ := R0
  have hM : MdAt G w (RdM M q0 N0) H := hM
  refine lv_if_ne (tgt := 10) hx hb dX7_carryOut_4 (by decide) (fun c1 => ?_) (fun c1 => ?_)
  · have hb : b0 = true := by
      cases b0 with
      | true => rfl
      | false => rw [hv] at c1; exact absurd rfl c1
    subst hb
    refine lv_aload_n hx hb dX7_carryOut_10 rfl (lv_at hl 0 rfl) ?_
    refine got_V (run_i hx hb hml hown hT hK hl.1 (k_X7_remember l G w (RdM M q0 N0)) (cw_X7_55 hT ⟨Nat.le_of_ble_eq_true rfl, Nat.le_of_ble_eq_true rfl⟩) hM.1 rfl hM rfl rfl (Nat.le_of_ble_eq_true rfl) dX7_carryOut_11 ⟨Nat.zero_le _, Nat.zero_le _⟩) hS (fun q hq => hq) (fun q hq => hq) (fun  H locs h1 hz hk hS => ?_)
    have hM := h1
    rw [RdM_2] at hM
    obtain ⟨Mx, hMx⟩ : ∃ z1, z1 = updM M 2 (RdM M q0 N0 0) := ⟨_, rfl⟩
    rw [← hMx] at hM
    have ex : ∀ k, k ≠ 2 → Mx k = M k := fun k h2 => by rw [hMx, updM_ne h2]
    have ex2 : Mx 2 = M 0 := by rw [hMx, updM_eq]; exact RdM_ne (by omega) (by omega)
    have ex7 : Mx 7 0 = nI n := by rw [ex 7 (by omega)]; exact h7
    refine lv_aload_n hx hb dX7_carryOut_14 rfl (lv_at hl 0 rfl) ?_
    refine lv_iconst (v := 0) hx hb dX7_carryOut_15 (by decide) ?_
    refine rp (C := RX7) (T := TX7) (N := 16) (v := .int 0) (ty := .int) hx hb hT inX7 tyX7 tyX7_ok nmX7 hown hK hM.1 rfl 8 (by decide) mf_X7_158 rfl (by decide +kernel) rfl rfl (Nat.le_of_ble_eq_true rfl) hS (show _ ∧ _ from ⟨by omega, by omega⟩) dX7_carryOut_16 (fun H locs h1 o hS => ?_)
    have hM := hM.s8 h1 o
    rw [show updM (RdM Mx q0 N0) 8 (fun _ => 0) = RdM Mx 0 N0 from RdM_p] at hM
    obtain ⟨CR, hCR⟩ : ∃ z1, z1 = caF (M 6) n 81 true 0 N0 (M 0) 0 := ⟨_, rfl⟩
    have hQ2 : (caF (M 6) n 81 true 0 (true, q0, N0).2.2 (M 0) 0) = CR := hCR.symm
    rw [hQ2] at hQ
    have hM : MdAt G w (RdM (updM Mx 0 (M 0)) 0 N0) H := by
      rw [updM_self (ex 0 (by omega))]
      exact hM
    refine lv_iconst (v := 0) hx hb dX7_carryOut_19 (by decide) ?_
    refine lv_istore_n (lv' := [(1, .int 0), (0, .ref w)]) hx hb dX7_carryOut_20 rfl hl (by decide) rfl (fun ls hl => ?_)
    refine lv_iconst (v := 1) hx hb dX7_carryOut_21 (by decide) ?_
    refine lv_istore_n (lv' := [(2, .int 1), (1, .int 0), (0, .ref w)]) hx hb dX7_carryOut_22 rfl hl (by decide) rfl (fun ls hl => ?_)
    have loop : ∀ (k : Nat) (bo : Bool) (u0 : Nat) (N : Nat → Int32) (r : Nat → Int32) (done : Nat) (H : Heap) (locs : List Loc), va_S (In w 13) s.heap H locs → (bo = true → n - u0 < k) ∧ 0 < k → J r → done ≤ u0 → u0 ≤ n + 1 → caF (M 6) n k bo u0 N r done = CR → MdAt G w (RdM (updM Mx 0 r) u0 N) H → ∀ ls : Array Slot, lv_has ls 3 [(2, .int (zb bo)), (1, .int (nI done)), (0, .ref w)] → W p l e (rm_ 7) s m args below meth c H locs 0 0 Q (F0 m 23 ls []) := by
      intro k
      induction k with
      | zero => intro bo u0 N r done H locs hS hfu; exact absurd hfu.2 (Nat.not_lt_zero _)
      | succ k ih =>
        intro bo u0 N r done H locs hS hfu hJr hdn hun hres hM ls hl
        refine lv_iload_n hx hb dX7_carryOut_23 rfl (lv_at hl 0 rfl) ?_
        refine lv_if_eq (tgt := 77) hx hb dX7_carryOut_24 (by decide) (fun c2 => ?_) (fun c2 => ?_)
        · have hb : bo = false := by
            cases bo with
            | false => rfl
            | true => exact absurd c2 (by decide)
          subst hb
          have hwe : (r, N, done) = CR := by rw [← hres]; exact (caF_n (fun q => absurd q.1 (by decide))).symm
          refine lv_aload_n hx hb dX7_carryOut_77 rfl (lv_at hl 2 rfl) ?_
          refine lv_iconst (v := 0) hx hb dX7_carryOut_78 (by decide) ?_
          refine rp (C := RX7) (T := TX7) (N := 16) (v := .int 0) (ty := .int) hx hb hT inX7 tyX7 tyX7_ok nmX7 hown hK hM.1 rfl 7 (by decide) mf_X7_139 rfl (by decide +kernel) rfl rfl (Nat.le_of_ble_eq_true rfl) hS (show _ ∧ _ from ⟨by omega, by omega⟩) dX7_carryOut_79 (fun H locs h1 o hS => ?_)
          have hM := hM.s7 h1 o
          obtain ⟨Mz, hMz⟩ : ∃ z1, z1 = updM (RdM (updM Mx 0 r) u0 N) 7 (fun _ => 0) := ⟨_, rfl⟩
          rw [← hMz] at hM
          have ez : ∀ k, k ≠ 7 → k ≠ 8 → k ≠ 10 → k ≠ 0 → Mz k = Mx k := fun k a1 a2 a3 a4 => by rw [hMz, updM_ne a1, RdM_ne a2 a3, updM_ne a4]
          have ez0 : Mz 0 = r := by rw [hMz, updM_ne (by omega), RdM_ne (by omega) (by omega), updM_eq]
          have ez7 : Mz 7 0 = 0 := by rw [hMz, updM_eq]
          have ez10 : Mz 10 = N := by rw [hMz, updM_ne (by omega), RdM_10]
          refine lv_aload_n hx hb dX7_carryOut_82 rfl (lv_at hl 2 rfl) ?_
          refine lv_iload_n hx hb dX7_carryOut_83 rfl (lv_at hl 1 rfl) ?_
          refine got_I (run_i hx hb hml hown hT hK hl.1 (k_X7_record l G w Mz s0 (nI done) (by rw [ez 5 (by omega) (by omega) (by omega) (by omega), ex 5 (by omega)]; exact hs0) hs6) (cw_X7_58 hT ⟨Nat.le_of_ble_eq_true rfl, Nat.le_of_ble_eq_true rfl⟩) hM.1 rfl hM rfl rfl (Nat.le_of_ble_eq_true rfl) dX7_carryOut_84 ⟨Nat.zero_le _, Nat.zero_le _⟩) hS (fun q hq => hq) (fun q hq => hq) (fun v_2 H locs h1 hz hk hS => ?_)
          obtain ⟨hv2, hM⟩ := h1
          rw [if_neg (nI_pos (by omega))] at hM
          exact nd_I hQ hx hb hr hlocks dX7_carryOut_87 hS (Or.inr ⟨rfl, by rw [← hwe]; exact hv2, _, (by
          rw [← hwe]
          refine ⟨?_, ?_, ?_, ?_, ?_, ?_, ?_, ?_⟩
          · rw [updM_ne (by omega), updM_ne (by omega)]; exact ez0
          · rw [updM_ne (by omega), updM_eq, ez 1 (by omega) (by omega) (by omega) (by omega), ez 2 (by omega) (by omega) (by omega) (by omega), ex 1 (by omega), ex2]
          · rw [updM_eq]
          · rw [updM_ne (by omega), updM_ne (by omega), ez 3 (by omega) (by omega) (by omega) (by omega), ex 3 (by omega)]
          · rw [updM_ne (by omega), updM_ne (by omega), ez 4 (by omega) (by omega) (by omega) (by omega), ex 4 (by omega)]
          · rw [updM_ne (by omega), updM_ne (by omega), ez 6 (by omega) (by omega) (by omega) (by omega), ex 6 (by omega)]
          · rw [updM_ne (by omega), updM_ne (by omega)]; exact ez7
          · rw [updM_ne (by omega), updM_ne (by omega)]; exact ez10), hM⟩)
        · have hb : bo = true := by
            cases bo with
            | false => exact absurd rfl c2
            | true => rfl
          subst hb
          refine lv_aload_n hx hb dX7_carryOut_27 rfl (lv_at hl 2 rfl) ?_
          refine rg (C := RX7) (T := TX7) (N := 16) (v := .int (nI u0)) hx hb hT inX7 hown hK hM.1 rfl 8 (by decide) mf_X7_158 rfl dX7_carryOut_28 ?_
          refine lv_aload_n hx hb dX7_carryOut_31 rfl (lv_at hl 2 rfl) ?_
          refine rg (C := RX7) (T := TX7) (N := 16) (v := .int (Mx 7 0)) hx hb hT inX7 hown hK hM.1 rfl 7 (by decide) mf_X7_139 rfl dX7_carryOut_32 ?_
          rw [ex7]
          refine lv_icmp_ge (tgt := 77) hx hb dX7_carryOut_35 (by decide) (fun c3 => ?_) (fun c3 => ?_)
          · have hge : ¬ u0 < n := by have := (nI_leI (by omega) (by omega)).mp c3; omega
            have hwe : (r, N, done) = CR := by rw [← hres]; exact (caF_n (fun q => hge q.2)).symm
            refine lv_aload_n hx hb dX7_carryOut_77 rfl (lv_at hl 2 rfl) ?_
            refine lv_iconst (v := 0) hx hb dX7_carryOut_78 (by decide) ?_
            refine rp (C := RX7) (T := TX7) (N := 16) (v := .int 0) (ty := .int) hx hb hT inX7 tyX7 tyX7_ok nmX7 hown hK hM.1 rfl 7 (by decide) mf_X7_139 rfl (by decide +kernel) rfl rfl (Nat.le_of_ble_eq_true rfl) hS (show _ ∧ _ from ⟨by omega, by omega⟩) dX7_carryOut_79 (fun H locs h1 o hS => ?_)
            have hM := hM.s7 h1 o
            obtain ⟨Mz, hMz⟩ : ∃ z1, z1 = updM (RdM (updM Mx 0 r) u0 N) 7 (fun _ => 0) := ⟨_, rfl⟩
            rw [← hMz] at hM
            have ez : ∀ k, k ≠ 7 → k ≠ 8 → k ≠ 10 → k ≠ 0 → Mz k = Mx k := fun k a1 a2 a3 a4 => by rw [hMz, updM_ne a1, RdM_ne a2 a3, updM_ne a4]
            have ez0 : Mz 0 = r := by rw [hMz, updM_ne (by omega), RdM_ne (by omega) (by omega), updM_eq]
            have ez7 : Mz 7 0 = 0 := by rw [hMz, updM_eq]
            have ez10 : Mz 10 = N := by rw [hMz, updM_ne (by omega), RdM_10]
            refine lv_aload_n hx hb dX7_carryOut_82 rfl (lv_at hl 2 rfl) ?_
            refine lv_iload_n hx hb dX7_carryOut_83 rfl (lv_at hl 1 rfl) ?_
            refine got_I (run_i hx hb hml hown hT hK hl.1 (k_X7_record l G w Mz s0 (nI done) (by rw [ez 5 (by omega) (by omega) (by omega) (by omega), ex 5 (by omega)]; exact hs0) hs6) (cw_X7_58 hT ⟨Nat.le_of_ble_eq_true rfl, Nat.le_of_ble_eq_true rfl⟩) hM.1 rfl hM rfl rfl (Nat.le_of_ble_eq_true rfl) dX7_carryOut_84 ⟨Nat.zero_le _, Nat.zero_le _⟩) hS (fun q hq => hq) (fun q hq => hq) (fun v_3 H locs h1 hz hk hS => ?_)
            obtain ⟨hv2, hM⟩ := h1
            rw [if_neg (nI_pos (by omega))] at hM
            exact nd_I hQ hx hb hr hlocks dX7_carryOut_87 hS (Or.inr ⟨rfl, by rw [← hwe]; exact hv2, _, (by
          rw [← hwe]
          refine ⟨?_, ?_, ?_, ?_, ?_, ?_, ?_, ?_⟩
          · rw [updM_ne (by omega), updM_ne (by omega)]; exact ez0
          · rw [updM_ne (by omega), updM_eq, ez 1 (by omega) (by omega) (by omega) (by omega), ez 2 (by omega) (by omega) (by omega) (by omega), ex 1 (by omega), ex2]
          · rw [updM_eq]
          · rw [updM_ne (by omega), updM_ne (by omega), ez 3 (by omega) (by omega) (by omega) (by omega), ex 3 (by omega)]
          · rw [updM_ne (by omega), updM_ne (by omega), ez 4 (by omega) (by omega) (by omega) (by omega), ex 4 (by omega)]
          · rw [updM_ne (by omega), updM_ne (by omega), ez 6 (by omega) (by omega) (by omega) (by omega), ex 6 (by omega)]
          · rw [updM_ne (by omega), updM_ne (by omega)]; exact ez7
          · rw [updM_ne (by omega), updM_ne (by omega)]; exact ez10), hM⟩)
          · have hlt : u0 < n := by have q : ¬ n ≤ u0 := fun q => c3 ((nI_leI (by omega) (by omega)).mpr q); omega
            rw [caF_y hlt] at hres
            have e60 : updM Mx 0 r 6 = M 6 := by rw [updM_ne (by omega), ex 6 (by omega)]
            have e70 : updM Mx 0 r 7 0 = nI n := by rw [updM_ne (by omega)]; exact ex7
            refine lv_aload_n hx hb dX7_carryOut_38 rfl (lv_at hl 2 rfl) ?_
            refine lv_iconst (v := 1) hx hb dX7_carryOut_39 (by decide) ?_
            refine got_I (run_i hx hb hml hown hT hK hl.1 (k_X7_order1 l G w (updM Mx 0 r) n u0 N hn (Nat.le_of_lt hlt) e70 (by rw [updM_eq]; exact hJw r hJr)) (cw_X7_174 hT ⟨Nat.le_of_ble_eq_true rfl, Nat.le_of_ble_eq_true rfl⟩) hM.1 rfl hM rfl rfl (Nat.le_of_ble_eq_true rfl) dX7_carryOut_40 ⟨Nat.zero_le _, Nat.zero_le _⟩) hS (fun q hq => hq) (fun q hq => hq) (fun v_4 H locs h1 hz hk hS => ?_)
            obtain ⟨hv1, hM⟩ := h1
            rw [e60, updM_eq] at hv1 hM
            have hle := (rdO_le (T := M 6) (N := N) (Nat.le_of_lt hlt)).2.1
            have hle1 := (rdO_le (T := M 6) (N := N) (Nat.le_of_lt hlt)).1
            obtain ⟨o2, ho2⟩ : ∃ z1, z1 = orO (M 6) n u0 N r := ⟨_, rfl⟩
            rw [← ho2] at hres
            have hvo : v_4 = o2.1 := by
              rw [hv1, ho2]
              unfold orO
              cases (rdO (M 6) n u0 N).1 <;> rfl
            have hMo : MdAt G w (RdM (updM Mx 0 o2.2) (rdO (M 6) n u0 N).2.1 (rdO (M 6) n u0 N).2.2) H := by
              rw [ho2]
              unfold orO
              cases hb9 : (rdO (M 6) n u0 N).1 with
              | true => rw [hb9, if_pos rfl, updM_2] at hM; rw [if_pos rfl]; exact hM
              | false => rw [hb9, if_neg (by decide)] at hM; rw [if_neg (by decide)]; exact hM
            have hJ2 : J o2.2 := by
              rw [ho2]
              unfold orO
              cases (rdO (M 6) n u0 N).1 with
              | true => exact hJo r _ _ hJr
              | false => exact hJr
            have hM := hMo
            obtain ⟨p9, hp9⟩ : ∃ z1, z1 = (rdO (M 6) n u0 N).2.1 := ⟨_, rfl⟩
            obtain ⟨N9, hN9⟩ : ∃ z1, z1 = (rdO (M 6) n u0 N).2.2 := ⟨_, rfl⟩
            rw [← hp9, ← hN9] at hM hres
            rw [← hp9] at hle hle1
            rw [hvo]
            refine lv_if_lt (tgt := 50) hx hb dX7_carryOut_43 (by decide) (fun c4 => ?_) (fun c4 => ?_)
            · have h4 : ¬ 0 ≤ o2.1 := i32_lt_nle c4
              rw [decide_eq_false h4, if_neg h4] at hres
              refine lv_iconst (v := 0) hx hb dX7_carryOut_50 (by decide) ?_
              refine lv_istore_n (lv' := [(2, .int 0), (1, .int (nI done)), (0, .ref w)]) hx hb dX7_carryOut_51 rfl hl (by decide) rfl (fun ls hl => ?_)
              refine lv_iload_n hx hb dX7_carryOut_52 rfl (lv_at hl 1 rfl) ?_
              refine lv_iload_n hx hb dX7_carryOut_53 rfl (lv_at hl 0 rfl) ?_
              refine lv_if_eq (tgt := 61) hx hb dX7_carryOut_54 (by decide) (fun c5 => ?_) (fun c5 => ?_)
              · refine lv_iconst (v := 0) hx hb dX7_carryOut_61 (by decide) ?_
                refine lv_iadd hx hb dX7_carryOut_62 ?_
                rw [show nI done + 0 = nI done from Int32.add_zero _]
                refine lv_istore_n (lv' := [(1, .int (nI done)), (2, .int 0), (0, .ref w)]) hx hb dX7_carryOut_63 rfl hl (by decide) rfl (fun ls hl => ?_)
                refine lv_aload_n hx hb dX7_carryOut_64 rfl (lv_at hl 2 rfl) ?_
                refine lv_dup hx hb dX7_carryOut_65 rfl ?_
                refine rg (C := RX7) (T := TX7) (N := 16) (v := .int (nI p9)) hx hb hT inX7 hown hK hM.1 rfl 8 (by decide) mf_X7_158 rfl dX7_carryOut_66 ?_
                refine lv_iconst (v := 1) hx hb dX7_carryOut_69 (by decide) ?_
                refine lv_iadd hx hb dX7_carryOut_70 ?_
                rw [nI_1]
                refine rp (C := RX7) (T := TX7) (N := 16) (v := .int (nI (p9 + 1))) (ty := .int) hx hb hT inX7 tyX7 tyX7_ok nmX7 hown hK hM.1 rfl 8 (by decide) mf_X7_158 rfl (by decide +kernel) rfl rfl (Nat.le_of_ble_eq_true rfl) hS (show _ ∧ _ from ⟨by omega, by omega⟩) dX7_carryOut_71 (fun H locs h1 o hS => ?_)
                have hM := hM.s8 h1 o
                rw [RdM_p] at hM
                refine lv_goto (tgt := 23) hx hb dX7_carryOut_74 (by decide) ?_
                exact ih false (p9 + 1) N9 o2.2 done _ _ hS ⟨fun z => (by cases z), by have := hfu.1 rfl; omega⟩ hJ2 (by omega) (by omega) hres hM ls (lv_sub hl [1, 0, 2] rfl)
              · exact absurd rfl c5
            · have h4 : 0 ≤ o2.1 := i32_nlt c4
              rw [decide_eq_true h4, if_pos h4] at hres
              refine lv_iconst (v := 1) hx hb dX7_carryOut_46 (by decide) ?_
              refine lv_goto (tgt := 51) hx hb dX7_carryOut_47 (by decide) ?_
              refine lv_istore_n (lv' := [(2, .int 1), (1, .int (nI done)), (0, .ref w)]) hx hb dX7_carryOut_51 rfl hl (by decide) rfl (fun ls hl => ?_)
              refine lv_iload_n hx hb dX7_carryOut_52 rfl (lv_at hl 1 rfl) ?_
              refine lv_iload_n hx hb dX7_carryOut_53 rfl (lv_at hl 0 rfl) ?_
              refine lv_if_eq (tgt := 61) hx hb dX7_carryOut_54 (by decide) (fun c5 => ?_) (fun c5 => ?_)
              · exact absurd c5 (by decide)
              · refine lv_iconst (v := 1) hx hb dX7_carryOut_57 (by decide) ?_
                refine lv_goto (tgt := 62) hx hb dX7_carryOut_58 (by decide) ?_
                refine lv_iadd hx hb dX7_carryOut_62 ?_
                rw [nI_1]
                refine lv_istore_n (lv' := [(1, .int (nI (done + 1))), (2, .int 1), (0, .ref w)]) hx hb dX7_carryOut_63 rfl hl (by decide) rfl (fun ls hl => ?_)
                refine lv_aload_n hx hb dX7_carryOut_64 rfl (lv_at hl 2 rfl) ?_
                refine lv_dup hx hb dX7_carryOut_65 rfl ?_
                refine rg (C := RX7) (T := TX7) (N := 16) (v := .int (nI p9)) hx hb hT inX7 hown hK hM.1 rfl 8 (by decide) mf_X7_158 rfl dX7_carryOut_66 ?_
                refine lv_iconst (v := 1) hx hb dX7_carryOut_69 (by decide) ?_
                refine lv_iadd hx hb dX7_carryOut_70 ?_
                rw [nI_1]
                refine rp (C := RX7) (T := TX7) (N := 16) (v := .int (nI (p9 + 1))) (ty := .int) hx hb hT inX7 tyX7 tyX7_ok nmX7 hown hK hM.1 rfl 8 (by decide) mf_X7_158 rfl (by decide +kernel) rfl rfl (Nat.le_of_ble_eq_true rfl) hS (show _ ∧ _ from ⟨by omega, by omega⟩) dX7_carryOut_71 (fun H locs h1 o hS => ?_)
                have hM := hM.s8 h1 o
                rw [RdM_p] at hM
                refine lv_goto (tgt := 23) hx hb dX7_carryOut_74 (by decide) ?_
                exact ih true (p9 + 1) N9 o2.2 (done + 1) _ _ hS ⟨fun _ => by have := hfu.1 rfl; omega, by have := hfu.1 rfl; omega⟩ hJ2 (by omega) (by omega) hres hM ls (lv_sub hl [1, 0, 2] rfl)
    exact loop 81 true 0 N0 (M 0) 0 _ _ hS ⟨fun _ => by omega, by omega⟩ hJ (Nat.le_refl _) (by omega) hCR.symm hM ls (lv_sub hl [0, 1, 2] rfl)
  · have hb : b0 = false := by
      cases b0 with
      | false => rfl
      | true => rw [hv] at c1; exact absurd (show zb true = 0 from c1) (by decide)
    subst hb
    refine lv_bipush (v := (-3)) hx hb dX7_carryOut_7 (by decide) ?_
    exact nd_I hQ hx hb hr hlocks dX7_carryOut_9 hS (Or.inl ⟨rfl, rfl, hM⟩)
