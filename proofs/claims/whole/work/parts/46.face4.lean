set_option maxHeartbeats 4000000 in
set_option maxRecDepth 100000 in
theorem k_X6_swap (l : Launch) (G : GG) (z : Nat) (r : Nat → Int32) (x : Int32) (hw : WF r) (hv : Iv r) : Met l yX6_swap (ws_ yX6_swap cX6_swap 5 (some .int)) (rm_ 5) (PC G [.ref z, .int x] (fun H => Te G z H ∧ ShopAt G (z + 1) r H)) (vp_Si (fun v => v = swR r x)) 0 0 NoA := by
  refine met_q (by decide +kernel) (Nat.le_of_ble_eq_true rfl) ?_
  intro p e s m args below meth c Q hQ hx hb hr hT hown hml hlocks hnm hK hZ ls hl
  have hl : lv_has ls 5 [(0, .ref z), (1, .int x)] := hl
  have hn5 := hw.nl5
  refine lv_iload_n hx hb dX6_swap_0 rfl (lv_at hl 1 rfl) ?_
  refine lv_if_lt (tgt := 9) hx hb dX6_swap_1 (by decide) (fun c1 => ?_) (fun c1 => ?_)
  · refine lv_bipush (v := (-2)) hx hb dX6_swap_9 (by decide) ?_
    exact nd_i hQ hx hb hr hlocks dX6_swap_11 (swR_1 (fun q => i32_lt_nle c1 q.1))
  · refine lv_iload_n hx hb dX6_swap_4 rfl (lv_at hl 1 rfl) ?_
    refine lv_iconst (v := 2) hx hb dX6_swap_5 (by decide) ?_
    refine lv_icmp_le (tgt := 12) hx hb dX6_swap_6 (by decide) (fun c2 => ?_) (fun c2 => ?_)
    · have hx6 : 0 ≤ x ∧ x ≤ 2 := ⟨i32_nlt c1, c2⟩
      refine lv_aload_n hx hb dX6_swap_12 rfl (lv_at hl 0 rfl) ?_
      refine rg (C := RX6) (T := TX6) (N := 6) (v := .ref (z + 1)) hx hb hT inX6 hown hK hZ.1 rfl 0 (by decide) mf_X6_10 rfl dX6_swap_13 ?_
      refine got_i (run_i hx hb hml hown hT hK hl.1 (k_X5_bestSwap l G (z + 1) r hw) (cw_X6_176 hT ⟨Nat.le_of_ble_eq_true rfl, Nat.le_of_ble_eq_true rfl⟩) hZ.2.1 rfl hZ.2 rfl rfl (Nat.le_of_ble_eq_true rfl) dX6_swap_16 ⟨Nat.zero_le _, Nat.zero_le _⟩) (fun v_1 hv_1 => ?_)
      subst hv_1
      by_cases hs20 : shS r = 20
      · have h9 := sw_all hv hs20 5 (Nat.le_refl _)
        rw [show min 5 (nlv r) = nlv r by omega] at h9
        obtain ⟨i1, i2, i3⟩ := h9
        rcases i3 with ⟨j1, j2, j3⟩ | ⟨fa, fb, hfa, hfb, j1, j2, j3, j4⟩
        · rw [j1]
          refine lv_istore_n (lv' := [(2, .int (-6)), (0, .ref z), (1, .int x)]) hx hb dX6_swap_19 rfl hl (by decide) rfl (fun ls hl => ?_)
          refine lv_iload_n hx hb dX6_swap_20 rfl (lv_at hl 0 rfl) ?_
          refine lv_if_ge (tgt := 27) hx hb dX6_swap_21 (by decide) (fun c3 => ?_) (fun c3 => ?_)
          · exact absurd c3 (by decide)
          · refine lv_bipush (v := (-6)) hx hb dX6_swap_24 (by decide) ?_
            exact nd_i hQ hx hb hr hlocks dX6_swap_26 (swR_3 hx6 hs20 j2)
        · have hne6 : ¬ (swM r 25).2.1 = -6 := fun q => by
            have q1 : (nI fa).toInt = (-6 : Int32).toInt := by rw [← q]; exact congrArg Int32.toInt j2.symm
            rw [nI_toInt (by omega), show (-6 : Int32).toInt = -6 from rfl] at q1
            omega
          have ep : (5 : Int32) * nI fa + nI fb = nI (5 * fa + fb) := by rw [show (5 : Int32) = nI 5 from rfl, pk_mul, nI_add]
          have eq1 : nI (5 * fa + fb) / 5 = nI fa := by rw [show (5 : Int32) = nI 5 from rfl, pk_div (by omega) (by omega) (by omega), show (5 * fa + fb) / 5 = fa by omega]
          rw [j1, ep]
          refine lv_istore_n (lv' := [(2, .int (nI (5 * fa + fb))), (0, .ref z), (1, .int x)]) hx hb dX6_swap_19 rfl hl (by decide) rfl (fun ls hl => ?_)
          refine lv_iload_n hx hb dX6_swap_20 rfl (lv_at hl 0 rfl) ?_
          refine lv_if_ge (tgt := 27) hx hb dX6_swap_21 (by decide) (fun c3 => ?_) (fun c3 => ?_)
          · refine lv_iload_n hx hb dX6_swap_27 rfl (lv_at hl 0 rfl) ?_
            refine lv_iconst (v := 5) hx hb dX6_swap_28 (by decide) ?_
            refine lv_idiv hx hb dX6_swap_29 (by decide) ?_
            rw [eq1]
            refine lv_istore_n (lv' := [(3, .int (nI fa)), (2, .int (nI (5 * fa + fb))), (0, .ref z), (1, .int x)]) hx hb dX6_swap_30 rfl hl (by decide) rfl (fun ls hl => ?_)
            refine lv_iload_n hx hb dX6_swap_31 rfl (lv_at hl 1 rfl) ?_
            refine lv_iconst (v := 5) hx hb dX6_swap_32 (by decide) ?_
            refine lv_irem hx hb dX6_swap_33 (by decide) ?_
            rw [eq1, show nI (5 * fa + fb) - nI fa * 5 = nI fb from by rw [show (5 : Int32) = nI 5 from rfl, pk_mul, pk_sub (by omega), show 5 * fa + fb - fa * 5 = fb by omega]]
            refine lv_istore (lv' := [(4, .int (nI fb)), (3, .int (nI fa)), (2, .int (nI (5 * fa + fb))), (0, .ref z), (1, .int x)]) hx hb dX6_swap_34 hl (by decide) rfl (fun ls hl => ?_)
            refine lv_iload_n hx hb dX6_swap_36 rfl (lv_at hl 4 rfl) ?_
            refine lv_iconst (v := 2) hx hb dX6_swap_37 (by decide) ?_
            refine lv_icmp_ne (tgt := 60) hx hb dX6_swap_38 (by decide) (fun c4 => ?_) (fun c4 => ?_)
            · refine lv_iload_n hx hb dX6_swap_60 rfl (lv_at hl 4 rfl) ?_
              refine lv_if_ne (tgt := 68) hx hb dX6_swap_61 (by decide) (fun c5 => ?_) (fun c5 => ?_)
              · have hx1 : x = 1 := by
                  have a1 := i32_le_iff.mp hx6.1
                  have a2 := i32_le_iff.mp hx6.2
                  have a3 : x.toInt ≠ 0 := fun q => c5 (Int32.toInt_inj.mp q)
                  have a4 : x.toInt ≠ 2 := fun q => c4 (Int32.toInt_inj.mp q)
                  have a1 : 0 ≤ x.toInt := a1
                  have a2 : x.toInt ≤ 2 := a2
                  exact Int32.toInt_inj.mp (by show x.toInt = 1; omega)
                refine lv_iload hx hb dX6_swap_68 (lv_at hl 0 rfl) ?_
                exact nd_i hQ hx hb hr hlocks dX6_swap_70 (j3.symm.trans (swR_5 hx6 hs20 hne6 c5 hx1))
              · refine lv_iload_n hx hb dX6_swap_64 rfl (lv_at hl 1 rfl) ?_
                refine lv_goto (tgt := 70) hx hb dX6_swap_65 (by decide) ?_
                exact nd_i hQ hx hb hr hlocks dX6_swap_70 (j2.symm.trans (swR_4 hx6 hs20 hne6 c5))
            · refine lv_aload_n hx hb dX6_swap_41 rfl (lv_at hl 3 rfl) ?_
              refine rg (C := RX6) (T := TX6) (N := 6) (v := .ref (z + 1)) hx hb hT inX6 hown hK hZ.1 rfl 0 (by decide) mf_X6_10 rfl dX6_swap_42 ?_
              refine lv_iload_n hx hb dX6_swap_45 rfl (lv_at hl 1 rfl) ?_
              refine got_i (run_i hx hb hml hown hT hK hl.1 (k_X5_priceOf l G (z + 1) r fa hw hfa) (cw_X6_106 hT ⟨Nat.le_of_ble_eq_true rfl, Nat.le_of_ble_eq_true rfl⟩) hZ.2.1 rfl hZ.2 rfl rfl (Nat.le_of_ble_eq_true rfl) dX6_swap_46 ⟨Nat.zero_le _, Nat.zero_le _⟩) (fun v_2 hv_2 => ?_)
              subst hv_2
              refine lv_aload_n hx hb dX6_swap_49 rfl (lv_at hl 3 rfl) ?_
              refine rg (C := RX6) (T := TX6) (N := 6) (v := .ref (z + 1)) hx hb hT inX6 hown hK hZ.1 rfl 0 (by decide) mf_X6_10 rfl dX6_swap_50 ?_
              refine lv_iload hx hb dX6_swap_53 (lv_at hl 0 rfl) ?_
              refine got_i (run_i hx hb hml hown hT hK hl.1 (k_X5_priceOf l G (z + 1) r fb hw hfb) (cw_X6_106 hT ⟨Nat.le_of_ble_eq_true rfl, Nat.le_of_ble_eq_true rfl⟩) hZ.2.1 rfl hZ.2 rfl rfl (Nat.le_of_ble_eq_true rfl) dX6_swap_55 ⟨Nat.zero_le _, Nat.zero_le _⟩) (fun v_3 hv_3 => ?_)
              subst hv_3
              refine lv_isub hx hb dX6_swap_58 ?_
              exact nd_i hQ hx hb hr hlocks dX6_swap_59 (j4.symm.trans (swR_6 hx6 hs20 hne6 (by rw [c4]; decide) (by rw [c4]; decide)))
          · exact absurd (i32_nle c3) (nI_pos (by omega))
      · rw [sw_none hs20]
        refine lv_istore_n (lv' := [(2, .int (-6)), (0, .ref z), (1, .int x)]) hx hb dX6_swap_19 rfl hl (by decide) rfl (fun ls hl => ?_)
        refine lv_iload_n hx hb dX6_swap_20 rfl (lv_at hl 0 rfl) ?_
        refine lv_if_ge (tgt := 27) hx hb dX6_swap_21 (by decide) (fun c3 => ?_) (fun c3 => ?_)
        · exact absurd c3 (by decide)
        · refine lv_bipush (v := (-6)) hx hb dX6_swap_24 (by decide) ?_
          exact nd_i hQ hx hb hr hlocks dX6_swap_26 (swR_2 hx6 hs20)
    · refine lv_bipush (v := (-2)) hx hb dX6_swap_9 (by decide) ?_
      exact nd_i hQ hx hb hr hlocks dX6_swap_11 (swR_1 (fun q => c2 q.2))
