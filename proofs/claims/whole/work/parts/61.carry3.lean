/-! carrying out, of the face -/
noncomputable def cR (T : Nat → Int32) (n f u0 : Nat) (r : Nat → Int32) (d : Nat) : (Nat → Int32) × Nat := ((caF T n f true u0 (fun _ => 0) r d).1, (caF T n f true u0 (fun _ => 0) r d).2.2)
theorem cR_of {T : Nat → Int32} {n f u0 : Nat} {N r : Nat → Int32} {d : Nat} : (caF T n f true u0 N r d).1 = (cR T n f u0 r d).1 ∧ (caF T n f true u0 N r d).2.2 = (cR T n f u0 r d).2 := caF_ind f true u0 N (fun _ => 0) r d
theorem cR_end {T : Nat → Int32} {n f u0 : Nat} {r : Nat → Int32} {d : Nat} (h : ¬ u0 < n) : cR T n f u0 r d = (r, d) := by
  unfold cR
  rw [caF_n (fun q => h q.2)]
theorem orO_y {T : Nat → Int32} {n u0 : Nat} {N N2 r : Nat → Int32} (h : (rdO T n u0 N).1 = true) : orO T n u0 N2 r = opO r (sgn T n u0) (rdO T n u0 N).2.2 := by
  rw [orO_ind (N2 := N)]
  unfold orO
  rw [if_pos h]
theorem cR_neg {T : Nat → Int32} {n f u0 : Nat} {N r : Nat → Int32} {d : Nat} (h : (rdO T n u0 N).1 = true) (hn : (opO r (sgn T n u0) (rdO T n u0 N).2.2).1 < 0) : cR T n (f + 1) u0 r d = ((opO r (sgn T n u0) (rdO T n u0 N).2.2).2, d) := by
  have h0 : ¬ 0 ≤ (opO r (sgn T n u0) (rdO T n u0 N).2.2).1 := i32_lt_nle hn
  unfold cR
  rw [caF_y (rdO_lt h), orO_y h, decide_eq_false h0, if_neg h0, caF_n (fun q => by cases q.1)]
  rfl
theorem cR_pos {T : Nat → Int32} {n f u0 : Nat} {N r : Nat → Int32} {d : Nat} (h : (rdO T n u0 N).1 = true) (hn : ¬ (opO r (sgn T n u0) (rdO T n u0 N).2.2).1 < 0) : cR T n (f + 1) u0 r d = cR T n f ((rdO T n u0 N).2.1 + 1) (opO r (sgn T n u0) (rdO T n u0 N).2.2).2 (d + 1) := by
  have h0 : 0 ≤ (opO r (sgn T n u0) (rdO T n u0 N).2.2).1 := by
    rw [i32_lt_iff] at hn
    rw [i32_le_iff]
    have e0 : (0 : Int32).toInt = 0 := rfl
    omega
  have e1 : cR T n (f + 1) u0 r d = ((caF T n f true ((rdO T n u0 (fun _ => 0)).2.1 + 1) (rdO T n u0 (fun _ => 0)).2.2 (opO r (sgn T n u0) (rdO T n u0 N).2.2).2 (d + 1)).1, (caF T n f true ((rdO T n u0 (fun _ => 0)).2.1 + 1) (rdO T n u0 (fun _ => 0)).2.2 (opO r (sgn T n u0) (rdO T n u0 N).2.2).2 (d + 1)).2.2) := by
    unfold cR
    rw [caF_y (rdO_lt h), orO_y h, decide_eq_true h0, if_pos h0]
  rw [e1, cR_of.1, cR_of.2, (rdO_ind (T := T) (n := n) (u0 := u0) (N := fun _ => 0) (N2 := N)).2]
theorem nI_n6 {k : Nat} (h : k ≤ 80) : ¬ nI k = -6 := fun q => by
  have h9 := congrArg Int32.toInt q
  rw [nI_toInt (by omega)] at h9
  have e : (-6 : Int32).toInt = -6 := rfl
  omega

theorem T3.kept {G : GG} {z nx kp : Nat} {r : Nat → Int32} {T : Nat → Nat → Int32} {H H1 : Heap} (h : T3 G z r T nx kp H) (e : ∀ q, z ≤ q → q < z + 163 → H1[q]? = H[q]?) : T3 G z r T nx kp H1 :=
  ⟨h.1.kept (e _ (by omega) (by omega)), h.2.1.kept (fun q _ _ => e q (by omega) (by omega)), h.2.2.kept (fun q _ _ => e q (by omega) (by omega))⟩
theorem RdC.kept {G : GG} {z pz : Nat} {T : Nat → Int32} {n : Nat} {N : Nat → Int32} {u0 j : Nat} {kd : Int32} {H H1 : Heap} (h : RdC G z pz T n N u0 j kd H) (e : ∀ q, (z ≤ q ∧ q < z + 2) ∨ (pz ≤ q ∧ q < pz + 2) → H1[q]? = H[q]?) : RdC G z pz T n N u0 j kd H1 :=
  ⟨h.1.kept (fun q _ _ => e q (Or.inl ⟨by omega, by omega⟩)), h.2.kept (fun q _ _ => e q (Or.inr ⟨by omega, by omega⟩))⟩

theorem wl_le {T : Nat → Int32} {n : Nat} : ∀ (f : Nat) (b : Bool) (u0 : Nat) (N : Nat → Int32), u0 ≤ n → (wl T n f b u0 N).2.1 ≤ n
  | 0, _, _, _, h => h
  | f + 1, b, u0, N, h => by
    by_cases q : b = true ∧ u0 < n
    · obtain ⟨rfl, hlt⟩ := q
      by_cases q2 : T u0 = 59
      · rw [wl_y hlt q2]
        exact wl_le f _ _ _ (rdO_le (by omega)).2.1
      · rw [wl_n hlt q2]; exact h
    · rw [wl_end q]; exact h
theorem wlA_le {T : Nat → Int32} {n : Nat} {N : Nat → Int32} : (wlA T n N).2.1 ≤ n := wl_le 81 _ _ _ (rdO_le (Nat.zero_le _)).2.1

set_option maxHeartbeats 4000000 in
set_option maxRecDepth 100000 in
theorem k_X6_carryOut (l : Launch) (G : GG) (z nx kp : Nat) (r : Nat → Int32) (T : Nat → Nat → Int32) (Tp : Nat → Int32) (n : Nat) (N : Nat → Int32) (u0 j : Nat) (kd : Int32) (ad tv : Nat → Nat) (hnx : nx < 7) (hkp : kp ≤ 6) (hn : n ≤ 80) (hv : Iv r) : Met l yX6_carryOut (ws_ yX6_carryOut cX6_carryOut 2 (some .int)) (rm_ 8) (PCX G (SxR ad tv (CA z)) [.ref z] (fun H => T3 G z r T nx kp H ∧ RdC G (z + 166) (z + 164) Tp n N u0 j kd H)) (QI (fun v H => ((wlA Tp n N).1 = false ∧ v = -3 ∧ T3 G z r T nx kp H ∧ ∃ N2 u2 j2 k2, RdC G (z + 166) (z + 164) Tp n N2 u2 j2 k2 H) ∨ ((wlA Tp n N).1 = true ∧ v = nI (cR Tp n 81 0 r 0).2 ∧ T3c G z r T nx kp (nI (cR Tp n 81 0 r 0).2, (cR Tp n 81 0 r 0).1) H ∧ ∃ N2 u2 j2 k2, RdC G (z + 166) (z + 164) Tp 0 N2 u2 j2 k2 H)) (CA z)) 0 0 (CA z) := by
  refine met_qx (by decide +kernel) (Nat.le_of_ble_eq_true rfl) ?_
  intro p e s m args below meth c Q hQ hx hb hr hT hown hml hlocks hnm hK hX ⟨hZ, hR⟩ ls hl
  have hl : lv_has ls 2 [(0, .ref z)] := hl
  have hS : va_S (CA z) s.heap s.heap [] := va_S.rf
  refine lv_aload_n hx hb dX6_carryOut_0 rfl (lv_at hl 0 rfl) ?_
  refine rg (C := RX6) (T := TX6) (N := 6) (v := .ref (z + 166)) hx hb hT inX6 hown hK hZ.1 rfl 4 (by decide) mf_X6_39 rfl dX6_carryOut_1 ?_
  refine got_I (run_ix SB_SxR (fun U hU hW => hX.call hS (fun q (hq : _ ∧ _) => show (_ ∧ _) ∧ _ from ⟨⟨by omega, by omega⟩, by omega⟩) hU hW) hx hb hml hown hT hK hl.1 (k_X2_findFault l G (z + 166) (z + 164) Tp n N u0 j kd ad tv hn (by omega)) (cw_X6_192 hT ⟨Nat.le_of_ble_eq_true rfl, Nat.le_of_ble_eq_true rfl⟩) hR.1.1 rfl hR rfl rfl (Nat.le_of_ble_eq_true rfl) dX6_carryOut_4 ⟨Nat.zero_le _, Nat.zero_le _⟩) hS (fun q (hq : _ ∧ _) => show (_ ∧ _) ∧ _ from ⟨⟨by omega, by omega⟩, by omega⟩) (fun q (hq : _ ∧ _) => show (_ ∧ _) ∧ _ from ⟨⟨by omega, by omega⟩, by omega⟩) (fun v_1 H locs h1 hz hk hS => ?_)
  have ht1 := hZ.2.1.top
  have ht2 := hZ.2.2.top
  obtain ⟨hv1, j2, k2, hR⟩ := h1
  have hZ := hZ.kept (fun q _ _ => hk q (by omega) (fun (w : _ ∧ _) => by omega))
  refine lv_bipush (v := (-6)) hx hb dX6_carryOut_7 (by decide) ?_
  refine lv_icmp_eq (tgt := 15) hx hb dX6_carryOut_9 (by decide) (fun c1 => ?_) (fun c1 => ?_)
  · have hwl : (wlA Tp n N).1 = true := by
      have hle : (wlA Tp n N).2.1 ≤ 80 := by
        have h9 := hR.1.1
        have := wlA_le (T := Tp) (n := n) (N := N)
        omega
      by_cases q : (wlA Tp n N).1 = true
      · exact q
      · rw [if_neg q] at hv1
        exact absurd (hv1.symm.trans c1) (nI_n6 hle)
    refine lv_aload_n hx hb dX6_carryOut_15 rfl (lv_at hl 0 rfl) ?_
    refine rg (C := RX6) (T := TX6) (N := 6) (v := .ref (z + 21)) hx hb hT inX6 hown hK hZ.1 rfl 1 (by decide) mf_X6_19 rfl dX6_carryOut_16 ?_
    refine lv_aload_n hx hb dX6_carryOut_19 rfl (lv_at hl 0 rfl) ?_
    refine rg (C := RX6) (T := TX6) (N := 6) (v := .ref (z + 1)) hx hb hT inX6 hown hK hZ.1 rfl 0 (by decide) mf_X6_10 rfl dX6_carryOut_20 ?_
    refine got_V (run_i hx hb hml hown hT hK hl.1 (k_X0_draft l G (z + 21) (z + 1) nx kp T r hnx (by omega)) (cw_X6_50 hT ⟨Nat.le_of_ble_eq_true rfl, Nat.le_of_ble_eq_true rfl⟩) hZ.2.2.1 rfl ⟨hZ.2.2, hZ.2.1⟩ rfl rfl (Nat.le_of_ble_eq_true rfl) dX6_carryOut_23 ⟨Nat.zero_le _, Nat.zero_le _⟩) hS (fun q (hq : _ ∧ _) => show (_ ∧ _) ∧ _ from ⟨⟨by omega, by omega⟩, by omega⟩) (fun q (hq : _ ∧ _) => show (_ ∧ _) ∧ _ from ⟨⟨by omega, by omega⟩, by omega⟩) (fun  H locs h1 hz hk hS => ?_)
    have ht1 := hZ.2.1.top
    have ht2 := hZ.2.2.top
    have ht3 := hR.1.top
    have ht4 := hR.2.top
    have hR := hR.kept (fun q hq => hk q (by omega) (fun (w : _ ∧ _) => by omega))
    have hZ : T3 G z r (updT T nx r) nx kp H := ⟨hZ.1.kept (hk z (by omega) (fun (q : _ ∧ _) => by omega)), hZ.2.1.kept (fun q _ _ => hk q (by omega) (fun (w : _ ∧ _) => by omega)), h1⟩
    refine lv_aload_n hx hb dX6_carryOut_26 rfl (lv_at hl 0 rfl) ?_
    refine rg (C := RX6) (T := TX6) (N := 6) (v := .ref (z + 166)) hx hb hT inX6 hown hK hZ.1 rfl 4 (by decide) mf_X6_39 rfl dX6_carryOut_27 ?_
    refine got_V (run_i hx hb hml hown hT hK hl.1 (k_X2_start l G (z + 166) (z + 164) Tp n (wlA Tp n N).2.2 (wlA Tp n N).2.1 j2 k2 (by omega)) (cw_X6_195 hT ⟨Nat.le_of_ble_eq_true rfl, Nat.le_of_ble_eq_true rfl⟩) hR.1.1 rfl hR rfl rfl (Nat.le_of_ble_eq_true rfl) dX6_carryOut_30 ⟨Nat.zero_le _, Nat.zero_le _⟩) hS (fun q (hq : _ ∧ _) => show (_ ∧ _) ∧ _ from ⟨⟨by omega, by omega⟩, by omega⟩) (fun q (hq : _ ∧ _) => show (_ ∧ _) ∧ _ from ⟨⟨by omega, by omega⟩, by omega⟩) (fun  H locs h1 hz hk hS => ?_)
    have ht1 := hZ.2.1.top
    have ht2 := hZ.2.2.top
    have hZ := hZ.kept (fun q _ _ => hk q (by omega) (fun (w : _ ∧ _) => by omega))
    have hR := h1
    obtain ⟨R0, hR0⟩ : ∃ z1, z1 = cR Tp n 81 0 r 0 := ⟨_, rfl⟩
    rw [← hR0] at hQ
    refine lv_iconst (v := 0) hx hb dX6_carryOut_33 (by decide) ?_
    refine lv_istore_n (lv' := [(1, .int 0), (0, .ref z)]) hx hb dX6_carryOut_34 rfl hl (by decide) rfl (fun ls hl => ?_)
    have hend : ∀ (d0 u1 j1 : Nat) (k1 : Int32) (r1 N1 : Nat → Int32) (H : Heap) (locs : List Loc), va_S (CA z) s.heap H locs → R0 = (r1, d0) → T3 G z r1 (updT T nx r) nx kp H → RdC G (z + 166) (z + 164) Tp n N1 u1 j1 k1 H → ∀ ls : Array Slot, lv_has ls 2 [(1, .int (nI d0)), (0, .ref z)] → W p l e (rm_ 8) s m args below meth c H locs 0 0 Q (F0 m 64 ls []) := by
      intro d0 u1 j1 k1 r1 N1 H locs hS hRe hZ hR ls hl
      refine lv_aload_n hx hb dX6_carryOut_64 rfl (lv_at hl 1 rfl) ?_
      refine rg (C := RX6) (T := TX6) (N := 6) (v := .ref (z + 164)) hx hb hT inX6 hown hK hZ.1 rfl 3 (by decide) mf_X6_30 rfl dX6_carryOut_65 ?_
      refine got_I (run_i hx hb hml hown hT hK hl.1 (k_X3_empty l G (z + 164) Tp n) (cw_X6_189 hT ⟨Nat.le_of_ble_eq_true rfl, Nat.le_of_ble_eq_true rfl⟩) hR.2.1 rfl hR.2 rfl rfl (Nat.le_of_ble_eq_true rfl) dX6_carryOut_68 ⟨Nat.zero_le _, Nat.zero_le _⟩) hS (fun q (hq : _ ∧ _) => show (_ ∧ _) ∧ _ from ⟨⟨by omega, by omega⟩, by omega⟩) (fun q (hq : _ ∧ _) => show (_ ∧ _) ∧ _ from ⟨⟨by omega, by omega⟩, by omega⟩) (fun v_2 H locs h1 hz hk hS => ?_)
      have hPd : PadAt G (z + 164) Tp (nI 0) H := h1.2
      have ht3 := hR.1.top
      have hOr := hR.1.kept (fun q _ _ => hk q (by omega) (fun (w : _ ∧ _) => by omega))
      have ht1 := hZ.2.1.top
      have ht2 := hZ.2.2.top
      have hZ := hZ.kept (fun q _ _ => hk q (by omega) (fun (w : _ ∧ _) => by omega))
      refine lv_pop hx hb dX6_carryOut_71 rfl ?_
      refine lv_aload_n hx hb dX6_carryOut_72 rfl (lv_at hl 1 rfl) ?_
      refine rg (C := RX6) (T := TX6) (N := 6) (v := .ref (z + 21)) hx hb hT inX6 hown hK hZ.1 rfl 1 (by decide) mf_X6_19 rfl dX6_carryOut_73 ?_
      refine lv_iload_n hx hb dX6_carryOut_76 rfl (lv_at hl 0 rfl) ?_
      refine got_I (run_i hx hb hml hown hT hK hl.1 (k_X0_settle l G (z + 21) nx kp (updT T nx r) (nI d0) hnx hkp) (cw_X6_58 hT ⟨Nat.le_of_ble_eq_true rfl, Nat.le_of_ble_eq_true rfl⟩) hZ.2.2.1 rfl hZ.2.2 rfl rfl (Nat.le_of_ble_eq_true rfl) dX6_carryOut_77 ⟨Nat.zero_le _, Nat.zero_le _⟩) hS (fun q (hq : _ ∧ _) => show (_ ∧ _) ∧ _ from ⟨⟨by omega, by omega⟩, by omega⟩) (fun q (hq : _ ∧ _) => show (_ ∧ _) ∧ _ from ⟨⟨by omega, by omega⟩, by omega⟩) (fun v_3 H locs h1 hz hk hS => ?_)
      obtain ⟨hv2, hHn⟩ := h1
      have ht1 := hZ.2.1.top
      have ht2 := hZ.2.2.top
      have hR2 : RdC G (z + 166) (z + 164) Tp 0 N1 u1 j1 k1 H := RdC.kept (H := _) ⟨hOr, hPd⟩ (fun q hq => hk q (by have h5 := hOr.top; have h6 := hPd.top; omega) (fun (w : _ ∧ _) => by omega))
      have hZ : T3c G z r T nx kp (nI d0, r1) H := ⟨hZ.1.kept (hk z (by omega) (fun (q : _ ∧ _) => by omega)), hZ.2.1.kept (fun q _ _ => hk q (by omega) (fun (w : _ ∧ _) => by omega)), hHn⟩
      exact nd_I hQ hx hb hr hlocks dX6_carryOut_80 hS (Or.inr ⟨hwl, by rw [hRe]; exact hv2, by rw [hRe]; exact hZ, _, _, _, _, hR2⟩)
    have loop : ∀ (k : Nat) (d0 : Nat) (u1 : Nat) (j1 : Nat) (k1 : Int32) (r1 : Nat → Int32) (N1 : Nat → Int32) (H : Heap) (locs : List Loc), va_S (CA z) s.heap H locs → d0 ≤ 80 → wlP Tp n d0 u1 → Iv r1 → cR Tp n (81 - d0) (stP u1) r1 d0 = R0 → T3 G z r1 (updT T nx r) nx kp H → RdC G (z + 166) (z + 164) Tp n N1 u1 j1 k1 H → 81 - d0 < k → ∀ ls : Array Slot, lv_has ls 2 [(1, .int (nI d0)), (0, .ref z)] → W p l e (rm_ 8) s m args below meth c H locs 0 0 Q (F0 m 35 ls []) := by
      intro k
      induction k with
      | zero => intro d0 u1 j1 k1 r1 N1 H locs hS hd hwp hv1 he hZ hR hm; exact absurd hm (Nat.not_lt_zero _)
      | succ k ih =>
        intro d0 u1 j1 k1 r1 N1 H locs hS hd hwp hv1 he hZ hR hm ls hl
        have hu1 : u1 ≤ n := by rcases hwp with ⟨-, q, -⟩ | ⟨-, -, q, -⟩ <;> omega
        have hdu : d0 ≤ u1 := by rcases hwp with ⟨q, -, -⟩ | ⟨-, q, -, -⟩ <;> omega
        refine lv_iload_n hx hb dX6_carryOut_35 rfl (lv_at hl 0 rfl) ?_
        refine lv_bipush (v := 80) hx hb dX6_carryOut_36 (by decide) ?_
        refine lv_icmp_ge (tgt := 64) hx hb dX6_carryOut_38 (by decide) (fun c2 => ?_) (fun c2 => ?_)
        · have h80 : 80 ≤ d0 := (nI_leI (a := 80) (by omega) (by omega)).mp c2
          rw [cR_end (by unfold stP; split <;> omega)] at he
          exact hend d0 u1 j1 k1 r1 N1 _ _ hS he.symm hZ hR ls (lv_sub hl [0, 1] rfl)
        · have h80 : ¬ 80 ≤ d0 := fun q => c2 ((nI_leI (a := 80) (by omega) (by omega)).mpr q)
          refine lv_aload_n hx hb dX6_carryOut_41 rfl (lv_at hl 1 rfl) ?_
          refine rg (C := RX6) (T := TX6) (N := 6) (v := .ref (z + 166)) hx hb hT inX6 hown hK hZ.1 rfl 4 (by decide) mf_X6_39 rfl dX6_carryOut_42 ?_
          refine got_I (run_ix SB_SxR (fun U hU hW => hX.call hS (fun q (hq : _ ∧ _) => show (_ ∧ _) ∧ _ from ⟨⟨by omega, by omega⟩, by omega⟩) hU hW) hx hb hml hown hT hK hl.1 (k_X2_readOrder l G (z + 166) (z + 164) Tp n N1 u1 j1 k1 ad tv hn hu1 (by omega)) (cw_X6_198 hT ⟨Nat.le_of_ble_eq_true rfl, Nat.le_of_ble_eq_true rfl⟩) hR.1.1 rfl hR rfl rfl (Nat.le_of_ble_eq_true rfl) dX6_carryOut_45 ⟨Nat.zero_le _, Nat.zero_le _⟩) hS (fun q (hq : _ ∧ _) => show (_ ∧ _) ∧ _ from ⟨⟨by omega, by omega⟩, by omega⟩) (fun q (hq : _ ∧ _) => show (_ ∧ _) ∧ _ from ⟨⟨by omega, by omega⟩, by omega⟩) (fun v_4 H locs h1 hz hk hS => ?_)
          have ht1 := hZ.2.1.top
          have ht2 := hZ.2.2.top
          have hZ := hZ.kept (fun q _ _ => hk q (by omega) (fun (w : _ ∧ _) => by omega))
          rcases h1 with ⟨p1, p2, p3, hR⟩ | ⟨p1, p3, j3, k3, p4, hR⟩
          · have hun := wlP_end hwp hd p1 p2
            subst p3
            refine lv_if_eq (tgt := 64) hx hb dX6_carryOut_48 (by decide) (fun c3 => ?_) (fun c3 => ?_)
            · rw [cR_end (by unfold stP; rw [if_neg (by omega)]; omega)] at he
              exact hend d0 u1 j1 k1 r1 N1 _ _ hS he.symm hZ hR ls (lv_sub hl [0, 1] rfl)
            · exact absurd rfl c3
          · obtain ⟨hrd, hwp2⟩ := wlP_rd hwp hd (p1.imp id id) N1
            have hk3 := p4 hrd
            rw [hrd] at p3
            have p3 : v_4 = 1 := p3
            subst hk3
            subst p3
            refine lv_if_eq (tgt := 64) hx hb dX6_carryOut_48 (by decide) (fun c3 => ?_) (fun c3 => ?_)
            · exact absurd c3 (by decide)
            · refine lv_aload_n hx hb dX6_carryOut_51 rfl (lv_at hl 1 rfl) ?_
              refine got_I (run_i hx hb hml hown hT hK hl.1 (k_X6_carryOutOne l G z r1 Tp n (rdO Tp n (stP u1) N1).2.2 (rdO Tp n (stP u1) N1).2.1 j3 (sgn Tp n (stP u1)) hv1.1 (rdO_kd hrd)) (cw_X6_202 hT ⟨Nat.le_of_ble_eq_true rfl, Nat.le_of_ble_eq_true rfl⟩) hZ.1 rfl ⟨hZ.1, hZ.2.1, hR⟩ rfl rfl (Nat.le_of_ble_eq_true rfl) dX6_carryOut_52 ⟨Nat.zero_le _, Nat.zero_le _⟩) hS (fun q (hq : _ ∧ _) => show (_ ∧ _) ∧ _ from ⟨⟨by omega, by omega⟩, by omega⟩) (fun q (hq : _ ∧ _) => show (_ ∧ _) ∧ _ from ⟨⟨by omega, by omega⟩, by omega⟩) (fun v_5 H locs h1 hz hk hS => ?_)
              obtain ⟨hv5, hTe, hSh5, hR⟩ := h1
              have ht1 := hZ.2.1.top
              have ht2 := hZ.2.2.top
              have hZ : T3 G z (opO r1 (sgn Tp n (stP u1)) (rdO Tp n (stP u1) N1).2.2).2 (updT T nx r) nx kp H := ⟨hTe, hSh5, hZ.2.2.kept (fun q _ _ => hk q (by omega) (fun (w : _ ∧ _) => by omega))⟩
              subst hv5
              rw [show 81 - d0 = (81 - (d0 + 1)) + 1 by omega] at he
              refine lv_if_lt (tgt := 64) hx hb dX6_carryOut_55 (by decide) (fun c4 => ?_) (fun c4 => ?_)
              · rw [cR_neg hrd c4] at he
                exact hend d0 _ _ _ _ _ _ _ hS he.symm hZ hR ls (lv_sub hl [0, 1] rfl)
              · rw [cR_pos hrd c4] at he
                have hst : stP (rdO Tp n (stP u1) N1).2.1 = (rdO Tp n (stP u1) N1).2.1 + 1 := by
                  have h9 : 1 ≤ (rdO Tp n (stP u1) N1).2.1 := by rcases hwp2 with ⟨q, -, -⟩ | ⟨-, q, -, -⟩ <;> omega
                  exact if_neg (by omega)
                rw [← hst] at he
                refine lv_iinc (v := nI (d0 + 1)) (lv' := [(1, .int (nI (d0 + 1))), (0, .ref z)]) hx hb dX6_carryOut_58 hl (k := 0) rfl (nI_1 d0) (by decide) rfl (fun ls hl => ?_)
                refine lv_goto (tgt := 35) hx hb dX6_carryOut_61 (by decide) ?_
                exact ih (d0 + 1) _ _ _ _ _ _ _ hS (by omega) hwp2 (Iv_op hv1 _ _) he hZ hR (by omega) ls (lv_sub hl [0, 1] rfl)
    exact loop 82 0 0 j2 k2 r (wlA Tp n N).2.2 _ _ hS (by omega) (Or.inl ⟨rfl, rfl, fun N9 => wlA_ind.1.trans hwl⟩) hv hR0.symm hZ hR (by omega) ls (lv_sub hl [0, 1] rfl)
  · have hwl : (wlA Tp n N).1 = false := by
      cases q : (wlA Tp n N).1 with
      | false => rfl
      | true => rw [q] at hv1; exact absurd hv1 c1
    refine lv_bipush (v := (-3)) hx hb dX6_carryOut_12 (by decide) ?_
    exact nd_I hQ hx hb hr hlocks dX6_carryOut_14 hS (Or.inl ⟨hwl, rfl, hZ, _, _, _, _, hR⟩)
