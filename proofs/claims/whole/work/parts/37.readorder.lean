/-! an order, read by its form -/
def frL (i : Nat) : List Int32 := if i = 0 then [35, 58, 35, 44, 35, 44, 35, 42, 35] else if i = 1 then [37, 61, 35] else if i = 2 then [35] else []
def btF (i j : Nat) : Int32 := (frL i).getD j 0
def lnF (i : Nat) : Nat := (frL i).length
theorem frL_all : ∀ i, i < 4 → (∀ j, j < lnF i → chS (btF i) j = (frL i).getD j 0 ∧ ¬ (frL i).getD j 0 = 0 ∧ 1 ≤ ((frL i).drop j).countP (fun y => y == 35 || y == 37)) ∧ lnF i ≤ 9 ∧ (frL i).countP (fun y => y == 35 || y == 37) ≤ 5 := by decide +kernel
theorem frL_nar : ∀ i, i < 4 → ∀ j, j < lnF i → vp_nar .char (chS (btF i) j) = chS (btF i) j := by decide +kernel
theorem frS_lt (x : Int32) : frS x < 4 := by
  unfold frS
  split
  · omega
  · split
    · omega
    · split <;> omega
theorem rdO_fr {T : Nat → Int32} {n u0 : Nat} {N : Nat → Int32} : rdO T n u0 N = if frS (sgn T n u0) = 3 then (false, u0, N) else rdP T n (frL (frS (sgn T n u0))) (u0 + 1) 0 N := by
  unfold rdO frS
  by_cases q1 : sgn T n u0 = 43
  · rw [if_pos q1, if_pos q1, if_neg (by omega)]; rfl
  · rw [if_neg q1, if_neg q1]
    by_cases q2 : sgn T n u0 = 115
    · rw [if_pos q2, if_pos q2, if_neg (by omega)]; rfl
    · rw [if_neg q2, if_neg q2]
      by_cases q3 : sgn T n u0 = 100 ∨ sgn T n u0 = 109
      · rw [if_pos q3, if_pos q3, if_neg (by omega)]; rfl
      · rw [if_neg q3, if_neg q3, if_pos rfl]
theorem rdP_cons {T : Nat → Int32} {n u0 j : Nat} {N : Nat → Int32} {y : Int32} {ys : List Int32} : rdP T n (y :: ys) u0 j N = if (rdP T n [y] u0 j N).1 = true then rdP T n ys (rdP T n [y] u0 j N).2.1 (if y = 35 ∨ y = 37 then j + 1 else j) (rdP T n [y] u0 j N).2.2 else rdP T n [y] u0 j N := by
  by_cases q1 : y = 35
  · subst q1
    by_cases q : isD T n u0
    · rw [rdP_ny q, rdP_ny q]; rfl
    · rw [rdP_nn q, rdP_nn q]; rfl
  · by_cases q2 : y = 37
    · subst q2
      by_cases q : isD T n u0
      · rw [rdP_dy q, rdP_dy q]; rfl
      · rw [rdP_dn q, rdP_dn q]; rfl
    · rw [if_neg (show ¬ (y = 35 ∨ y = 37) from fun q => q.elim q1 q2)]
      by_cases q : u0 < n ∧ T u0 = y
      · rw [rdP_sy q1 q2 q, rdP_sy q1 q2 q]; rfl
      · rw [rdP_sn q1 q2 q, rdP_sn q1 q2 q]; rfl
def SxR (ad tv : Nat → Nat) (A : Nat → Prop) (U : State) : Prop := SfX ad U ∧ (∀ i, i < 4 → StA (ad i) (tv i) (lnF i) (btF i) A U) ∧ SzA A U ∧ SfA A U
theorem SB_SxR {ad tv : Nat → Nat} {A : Nat → Prop} : SB (SxR ad tv A) := fun u U hv hh h => ⟨SB_SfX u U hv hh h.1, fun i hi => SB_StA u U hv hh (h.2.1 i hi), SB_SzA u U hv hh h.2.2.1, SB_SfA u U hv hh h.2.2.2⟩
theorem SxR.call {ad tv : Nat → Nat} {A B : Nat → Prop} {s U : State} {H : Heap} {locs : List Loc} (h : SxR ad tv A s) (hS : va_S A s.heap H locs) (hAB : ∀ z, B z → A z) (hU : U.heap = H) (hW : s.WarmedH U.vm) : SxR ad tv B U := ⟨h.1.call hW, fun i hi => (h.2.1 i hi).call hS hAB hU hW, h.2.2.1.call hS hAB hU hW, h.2.2.2.call hS hAB hU hW⟩
/-- where an order begins, seen from a reader at u0 -/
def stP (u0 : Nat) : Nat := if u0 = 0 then 0 else u0 + 1

set_option maxHeartbeats 4000000 in
set_option maxRecDepth 100000 in
theorem k_X2_readOrder (l : Launch) (G : GG) (z pz : Nat) (T : Nat → Int32) (n : Nat) (N : Nat → Int32) (u0 j : Nat) (kd : Int32) (ad tv : Nat → Nat) (hn : n ≤ 80) (hp : u0 ≤ n) (hne : pz + 2 ≤ z ∨ z + 2 ≤ pz) : Met l yX2_readOrder (ws_ yX2_readOrder cX2_readOrder 3 (some .boolean)) (rm_ 6) (PCX G (SxR ad tv (In z 2)) [.ref z] (RdC G z pz T n N u0 j kd)) (QI (fun v H => (0 < u0 ∧ ¬ sgn T n u0 = 59 ∧ v = 0 ∧ RdC G z pz T n N u0 j kd H) ∨ ((u0 = 0 ∨ sgn T n u0 = 59) ∧ v = zb (rdO T n (stP u0) N).1 ∧ ∃ j2 k2, ((rdO T n (stP u0) N).1 = true → k2 = sgn T n (stP u0)) ∧ RdC G z pz T n (rdO T n (stP u0) N).2.2 (rdO T n (stP u0) N).2.1 j2 k2 H)) (In z 2)) 0 0 (In z 2) := by
  refine met_qx (by decide +kernel) (Nat.le_of_ble_eq_true rfl) ?_
  intro p e s m args below meth c Q hQ hx hb hr hT hown hml hlocks hnm hK hX hR ls hl
  have hl : lv_has ls 3 [(0, .ref z)] := hl
  have hS : va_S (In z 2) s.heap s.heap [] := va_S.rf
  have h18 : ∀ (u1 : Nat) (H : Heap) (locs : List Loc), va_S (In z 2) s.heap H locs → u1 ≤ n → u1 = stP u0 → (u0 = 0 ∨ sgn T n u0 = 59) → RdC G z pz T n N u1 j kd H → ∀ ls : Array Slot, lv_has ls 3 [(0, .ref z)] → W p l e (rm_ 6) s m args below meth c H locs 0 0 Q (F0 m 18 ls []) := by
    intro u1 H locs hS hp1 hst hor hR ls hl
    rw [← hst] at hQ
    refine lv_aload_n hx hb dX2_readOrder_18 rfl (lv_at hl 0 rfl) ?_
    refine lv_aload_n hx hb dX2_readOrder_19 rfl (lv_at hl 0 rfl) ?_
    refine got_i (run_i hx hb hml hown hT hK hl.1 (k_X2_sign l G z pz T n N u1 j kd hn hp1) (cw_X2_39 hT ⟨Nat.le_of_ble_eq_true rfl, Nat.le_of_ble_eq_true rfl⟩) hR.1.1 rfl hR rfl rfl (Nat.le_of_ble_eq_true rfl) dX2_readOrder_20 ⟨Nat.zero_le _, Nat.zero_le _⟩) (fun v_1 hv_1 => ?_)
    subst hv_1
    refine rp (C := RX2) (T := TX2) (N := 5) (v := .int (sgn T n u1)) (ty := .int) hx hb hT inX2 tyX2 tyX2_ok nmX2 hown hK hR.1.1 rfl 3 (by decide) mf_X2_43 rfl (by decide +kernel) rfl rfl (Nat.le_of_ble_eq_true rfl) hS (show _ ∧ _ from ⟨by omega, by omega⟩) dX2_readOrder_23 (fun H locs h1 o hS => ?_)
    have hR : RdC G z pz T n N u1 j (sgn T n u1) H := ⟨hR.1.f h1 o, hR.2.kept (fun q _ _ => o.2 q (by omega))⟩
    refine lv_aload_n hx hb dX2_readOrder_26 rfl (lv_at hl 0 rfl) ?_
    refine rg (C := RX2) (T := TX2) (N := 5) (v := .int (sgn T n u1)) hx hb hT inX2 hown hK hR.1.1 rfl 3 (by decide) mf_X2_43 rfl dX2_readOrder_27 ?_
    refine got_r (run_sx SB_SfX (fun U hU hW => hX.1.call hW) hx hb hml hown hT hK hl.1 (k_X2_formOf l G ad (sgn T n u1)) (cw_X2_46 hT ⟨Nat.le_of_ble_eq_true rfl, Nat.le_of_ble_eq_true rfl⟩) trivial rfl rfl (Nat.le_of_ble_eq_true rfl) dX2_readOrder_30 ⟨Nat.zero_le _, Nat.zero_le _⟩) (fun q0 hq0 => ?_)
    obtain ⟨k0, hk0⟩ : ∃ z1, z1 = frS (sgn T n u1) := ⟨_, rfl⟩
    have hk4 : k0 < 4 := by rw [hk0]; exact frS_lt _
    rw [← hk0] at hq0
    subst hq0
    obtain ⟨hfa, hln9, hcn5⟩ := frL_all k0 hk4
    refine lv_astore_n (lv' := [(1, .ref (ad k0)), (0, .ref z)]) hx hb dX2_readOrder_33 rfl hl (by decide) rfl (fun ls hl => ?_)
    refine lv_aload_n hx hb dX2_readOrder_34 rfl (lv_at hl 0 rfl) ?_
    refine got_i (run_ox (SB_SxS) (fun U hU hW => ⟨(hX.2.1 k0 hk4).call hS (fun _ h => h.elim) hU hW, hX.2.2.1.call hS (fun _ h => h.elim) hU hW⟩) hx hb hml hown hT hK hl.1 (k_J0_isEmpty_aae02 l G (ad k0) (tv k0) (lnF k0) (btF k0) (by omega)) (cw_X2_50 hT ⟨Nat.le_of_ble_eq_true rfl, Nat.le_of_ble_eq_true rfl⟩) ((hX.2.1 k0 hk4).recv hS) trivial rfl rfl (Nat.le_of_ble_eq_true rfl) dX2_readOrder_35 ⟨Nat.zero_le _, Nat.zero_le _⟩) (fun v_2 hv_2 => ?_)
    subst hv_2
    refine lv_if_eq (tgt := 43) hx hb dX2_readOrder_38 (by decide) (fun c1 => ?_) (fun c1 => ?_)
    · have hk3 : ¬ k0 = 3 := fun w => by
        subst w
        exact absurd c1 (by decide)
      have hs : rdO T n u1 N = rdP T n (frL k0) (u1 + 1) 0 N := by rw [rdO_fr, ← hk0, if_neg hk3]
      have hlt1 : u1 < n := by
        by_cases w : u1 < n
        · exact w
        · rw [sgn_out w] at hk0
          exact absurd hk0 hk3
      refine lv_aload_n hx hb dX2_readOrder_43 rfl (lv_at hl 1 rfl) ?_
      refine lv_dup hx hb dX2_readOrder_44 rfl ?_
      refine rg (C := RX2) (T := TX2) (N := 5) (v := .int (nI u1)) hx hb hT inX2 hown hK hR.1.1 rfl 1 (by decide) mf_X2_19 rfl dX2_readOrder_45 ?_
      refine lv_iconst (v := 1) hx hb dX2_readOrder_48 (by decide) ?_
      refine lv_iadd hx hb dX2_readOrder_49 ?_
      rw [nI_1]
      refine rp (C := RX2) (T := TX2) (N := 5) (v := .int (nI (u1 + 1))) (ty := .int) hx hb hT inX2 tyX2 tyX2_ok nmX2 hown hK hR.1.1 rfl 1 (by decide) mf_X2_19 rfl (by decide +kernel) rfl rfl (Nat.le_of_ble_eq_true rfl) hS (show _ ∧ _ from ⟨by omega, by omega⟩) dX2_readOrder_50 (fun H locs h1 o hS => ?_)
      have hR : RdC G z pz T n N (u1 + 1) j (sgn T n u1) H := ⟨hR.1.f h1 o, hR.2.kept (fun q _ _ => o.2 q (by omega))⟩
      refine lv_aload_n hx hb dX2_readOrder_53 rfl (lv_at hl 1 rfl) ?_
      refine lv_iconst (v := 0) hx hb dX2_readOrder_54 (by decide) ?_
      rw [show (0 : Int32) = nI 0 from rfl]
      refine rp (C := RX2) (T := TX2) (N := 5) (v := .int (nI 0)) (ty := .int) hx hb hT inX2 tyX2 tyX2_ok nmX2 hown hK hR.1.1 rfl 2 (by decide) mf_X2_55 rfl (by decide +kernel) rfl rfl (Nat.le_of_ble_eq_true rfl) hS (show _ ∧ _ from ⟨by omega, by omega⟩) dX2_readOrder_55 (fun H locs h1 o hS => ?_)
      have hR : RdC G z pz T n N (u1 + 1) 0 (sgn T n u1) H := ⟨hR.1.f h1 o, hR.2.kept (fun q _ _ => o.2 q (by omega))⟩
      refine lv_iconst (v := 0) hx hb dX2_readOrder_58 (by decide) ?_
      refine lv_istore_n (lv' := [(2, .int 0), (1, .ref (ad k0)), (0, .ref z)]) hx hb dX2_readOrder_59 rfl hl (by decide) rfl (fun ls hl => ?_)
      have loop : ∀ (k : Nat) (i : Nat) (u2 : Nat) (j2 : Nat) (N2 : Nat → Int32) (H : Heap) (locs : List Loc), va_S (In z 2) s.heap H locs → i ≤ lnF k0 → u2 ≤ n → j2 + ((frL k0).drop i).countP (fun y => y == 35 || y == 37) ≤ 5 → rdP T n ((frL k0).drop i) u2 j2 N2 = rdO T n u1 N → RdC G z pz T n N2 u2 j2 (sgn T n u1) H → lnF k0 - i < k → ∀ ls : Array Slot, lv_has ls 3 [(2, .int (nI i)), (1, .ref (ad k0)), (0, .ref z)] → W p l e (rm_ 6) s m args below meth c H locs 0 0 Q (F0 m 60 ls []) := by
        intro k
        induction k with
        | zero => intro i u2 j2 N2 H locs hS hi hu2 hj2 hr9 hR hm; exact absurd hm (Nat.not_lt_zero _)
        | succ k ih =>
          intro i u2 j2 N2 H locs hS hi hu2 hj2 hr9 hR hm ls hl
          refine lv_iload_n hx hb dX2_readOrder_60 rfl (lv_at hl 0 rfl) ?_
          refine lv_aload_n hx hb dX2_readOrder_61 rfl (lv_at hl 1 rfl) ?_
          refine got_i (run_ox (SB_SxS) (fun U hU hW => ⟨(hX.2.1 k0 hk4).call hS (fun _ h => h.elim) hU hW, hX.2.2.1.call hS (fun _ h => h.elim) hU hW⟩) hx hb hml hown hT hK hl.1 (k_J0_length_8abf5 l G (ad k0) (tv k0) (lnF k0) (btF k0)) (cw_X2_58 hT ⟨Nat.le_of_ble_eq_true rfl, Nat.le_of_ble_eq_true rfl⟩) ((hX.2.1 k0 hk4).recv hS) trivial rfl rfl (Nat.le_of_ble_eq_true rfl) dX2_readOrder_62 ⟨Nat.zero_le _, Nat.zero_le _⟩) (fun v_3 hv_3 => ?_)
          subst hv_3
          refine lv_icmp_ge (tgt := 88) hx hb dX2_readOrder_65 (by decide) (fun c2 => ?_) (fun c2 => ?_)
          · have hge : lnF k0 ≤ i := (nI_leI (by omega) (by omega)).mp c2
            have hs2 : rdO T n u1 N = (true, u2, N2) := by
              rw [← hr9, List.drop_eq_nil_of_le hge]
              rfl
            refine lv_iconst (v := 1) hx hb dX2_readOrder_88 (by decide) ?_
            exact nd_Z hQ hx hb hr hlocks dX2_readOrder_89 hS (by first | exact Or.inl rfl | exact Or.inr rfl) (Or.inr ⟨hor, by rw [hs2]; rfl, j2, sgn T n u1, fun _ => rfl, by rw [hs2]; exact hR⟩)
          · have hlt : i < lnF k0 := by have q : ¬ lnF k0 ≤ i := fun q => c2 ((nI_leI (by omega) (by omega)).mpr q); omega
            obtain ⟨hch, hy0, hcn⟩ := hfa i hlt
            have hdr : (frL k0).drop i = (frL k0).getD i 0 :: (frL k0).drop (i + 1) := by
              have hlt2 : i < (frL k0).length := hlt
              rw [List.drop_eq_getElem_cons hlt2]
              congr 1
              simp [hlt2]
            obtain ⟨y0, hy1⟩ : ∃ z1, z1 = (frL k0).getD i 0 := ⟨_, rfl⟩
            rw [← hy1] at hch hy0 hdr
            rw [hdr] at hcn hj2 hr9
            have hnar : narrow .char (.int (chS (btF k0) i)) = .int (chS (btF k0) i) := congrArg Value.int (frL_nar k0 hk4 i hlt)
            refine lv_aload_n hx hb dX2_readOrder_68 rfl (lv_at hl 2 rfl) ?_
            refine lv_aload_n hx hb dX2_readOrder_69 rfl (lv_at hl 1 rfl) ?_
            refine lv_iload_n hx hb dX2_readOrder_70 rfl (lv_at hl 0 rfl) ?_
            refine got_i (run_ox (SB_SxF) (fun U hU hW => ⟨(hX.2.1 k0 hk4).call hS (fun _ h => h.elim) hU hW, hX.2.2.1.call hS (fun _ h => h.elim) hU hW, hX.2.2.2.call hS (fun _ h => h.elim) hU hW⟩) hx hb hml hown hT hK hl.1 (k_J0_charAt_5068e l G (ad k0) (tv k0) (lnF k0) (btF k0) i hlt (by omega) hnar) (cw_X2_60 hT ⟨Nat.le_of_ble_eq_true rfl, Nat.le_of_ble_eq_true rfl⟩) ((hX.2.1 k0 hk4).recv hS) trivial rfl rfl (Nat.le_of_ble_eq_true rfl) dX2_readOrder_71 ⟨Nat.zero_le _, Nat.zero_le _⟩) (fun v_4 hv_4 => ?_)
            subst hv_4
            rw [hch]
            refine got_I (run_i hx hb hml hown hT hK hl.1 (k_X2_readPart l G z pz T n N2 u2 j2 (sgn T n u1) y0 hn hu2 hne (by omega) hy0) (cw_X2_64 hT ⟨Nat.le_of_ble_eq_true rfl, Nat.le_of_ble_eq_true rfl⟩) hR.1.1 rfl hR rfl rfl (Nat.le_of_ble_eq_true rfl) dX2_readOrder_74 ⟨Nat.zero_le _, Nat.zero_le _⟩) hS (fun q hq => hq) (fun q hq => hq) (fun v_5 H locs h1 hz hk hS => ?_)
            obtain ⟨hv, hR⟩ := h1
            have hle := rdP_le (T := T) [y0] u2 j2 N2 hu2
            rw [rdP_cons] at hr9
            rw [List.countP_cons] at hj2
            obtain ⟨R1, hR1⟩ : ∃ z1, z1 = rdP T n [y0] u2 j2 N2 := ⟨_, rfl⟩
            rw [← hR1] at hv hR hle hr9
            obtain ⟨b1, u3, N3⟩ := R1
            have hle3 : u3 ≤ n := hle.2
            refine lv_if_ne (tgt := 82) hx hb dX2_readOrder_77 (by decide) (fun c3 => ?_) (fun c3 => ?_)
            · have hb : b1 = true := by
                cases b1 with
                | true => rfl
                | false => rw [hv] at c3; exact absurd rfl c3
              subst hb
              have hr9 : rdP T n ((frL k0).drop (i + 1)) u3 (if y0 = 35 ∨ y0 = 37 then j2 + 1 else j2) N3 = rdO T n u1 N := hr9
              have hR : RdC G z pz T n N3 u3 (if y0 = 35 ∨ y0 = 37 then j2 + 1 else j2) (sgn T n u1) H := by
                by_cases w : y0 = 35 ∨ y0 = 37
                · rw [if_pos w]
                  rw [if_pos ⟨rfl, w⟩] at hR
                  exact hR
                · rw [if_neg w]
                  rw [if_neg (fun q => w q.2)] at hR
                  exact hR
              have hj3 : (if y0 = 35 ∨ y0 = 37 then j2 + 1 else j2) + ((frL k0).drop (i + 1)).countP (fun y => y == 35 || y == 37) ≤ 5 := by
                by_cases w : y0 = 35 ∨ y0 = 37
                · rw [if_pos w]
                  rw [if_pos (by rcases w with w | w <;> subst w <;> rfl)] at hj2
                  omega
                · rw [if_neg w]
                  omega
              refine lv_iinc (v := nI (i + 1)) (lv' := [(2, .int (nI (i + 1))), (1, .ref (ad k0)), (0, .ref z)]) hx hb dX2_readOrder_82 hl (k := 0) rfl (nI_1 i) (by decide) rfl (fun ls hl => ?_)
              refine lv_goto (tgt := 60) hx hb dX2_readOrder_85 (by decide) ?_
              exact ih (i + 1) u3 _ N3 _ _ hS hlt hle3 hj3 hr9 hR (by omega) ls (lv_sub hl [0, 1, 2] rfl)
            · have hb : b1 = false := by
                cases b1 with
                | false => rfl
                | true => rw [hv] at c3; exact absurd (show zb true = 0 from c3) (by decide)
              subst hb
              have hs2 : rdO T n u1 N = (false, u3, N3) := by rw [← hr9]; rfl
              refine lv_iconst (v := 0) hx hb dX2_readOrder_80 (by decide) ?_
              exact nd_Z hQ hx hb hr hlocks dX2_readOrder_81 hS (by first | exact Or.inl rfl | exact Or.inr rfl) (Or.inr ⟨hor, by rw [hs2]; rfl, _, sgn T n u1, fun _ => rfl, by rw [hs2]; exact hR⟩)
      exact loop (lnF k0 + 1) 0 (u1 + 1) 0 N _ _ hS (Nat.zero_le _) hlt1 (by rw [List.drop_zero]; omega) hs.symm hR (by omega) ls (lv_sub hl [0, 1, 2] rfl)
    · have hk3 : k0 = 3 := by
        have h9 : ∀ k, k < 4 → ¬ k = 3 → ¬ lnF k = 0 := by decide +kernel
        by_cases w : k0 = 3
        · exact w
        · exact absurd (if_neg (h9 k0 hk4 w)) c1
      have hs : rdO T n u1 N = (false, u1, N) := by rw [rdO_fr, ← hk0, if_pos hk3]
      refine lv_iconst (v := 0) hx hb dX2_readOrder_41 (by decide) ?_
      exact nd_Z hQ hx hb hr hlocks dX2_readOrder_42 hS (by first | exact Or.inl rfl | exact Or.inr rfl) (Or.inr ⟨hor, by rw [hs]; rfl, j, sgn T n u1, fun _ => rfl, by rw [hs]; exact hR⟩)
  refine lv_aload_n hx hb dX2_readOrder_0 rfl (lv_at hl 0 rfl) ?_
  refine rg (C := RX2) (T := TX2) (N := 5) (v := .int (nI u0)) hx hb hT inX2 hown hK hR.1.1 rfl 1 (by decide) mf_X2_19 rfl dX2_readOrder_1 ?_
  refine lv_if_le (tgt := 18) hx hb dX2_readOrder_4 (by decide) (fun c1 => ?_) (fun c1 => ?_)
  · have h0 : u0 = 0 := by
      have h9 : u0 ≤ 0 := (nI_leI (b := 0) (by omega) (by omega)).mp c1
      omega
    exact h18 u0 _ _ hS hp (by rw [h0]; rfl) (Or.inl h0) hR ls hl
  · have h0 : 0 < u0 := Nat.pos_of_ne_zero (fun q => c1 (by rw [q]; decide))
    refine lv_aload_n hx hb dX2_readOrder_7 rfl (lv_at hl 0 rfl) ?_
    refine lv_bipush (v := 59) hx hb dX2_readOrder_8 (by decide) ?_
    refine got_I (run_i hx hb hml hown hT hK hl.1 (k_X2_readSign l G z pz T n N u0 j kd 59 hn hp hne) (cw_X2_35 hT ⟨Nat.le_of_ble_eq_true rfl, Nat.le_of_ble_eq_true rfl⟩) hR.1.1 rfl hR rfl rfl (Nat.le_of_ble_eq_true rfl) dX2_readOrder_10 ⟨Nat.zero_le _, Nat.zero_le _⟩) hS (fun q hq => hq) (fun q hq => hq) (fun v_6 H locs h1 hz hk hS => ?_)
    rcases h1 with ⟨hv, hD, hR⟩ | ⟨hv, hD, hR⟩
    · subst hv
      refine lv_if_ne (tgt := 18) hx hb dX2_readOrder_13 (by decide) (fun c2 => ?_) (fun c2 => ?_)
      · exact h18 (u0 + 1) _ _ hS ((sgn_eq (by decide)).mp hD).1 (by unfold stP; rw [if_neg (by omega)]) (Or.inr hD) hR ls hl
      · exact absurd c2 (by decide)
    · subst hv
      refine lv_if_ne (tgt := 18) hx hb dX2_readOrder_13 (by decide) (fun c2 => ?_) (fun c2 => ?_)
      · exact absurd rfl c2
      · refine lv_iconst (v := 0) hx hb dX2_readOrder_16 (by decide) ?_
        exact nd_Z hQ hx hb hr hlocks dX2_readOrder_17 hS (by first | exact Or.inl rfl | exact Or.inr rfl) (Or.inl ⟨h0, hD, rfl, hR⟩)
