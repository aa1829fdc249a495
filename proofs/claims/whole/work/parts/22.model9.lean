/-! the model's swap, and how much can be mixed -/
def xab (r : Nat → Int32) (a b k : Nat) : Nat := if k < nlv r then (if k = a then sv r k - 1 else if k = b then sv r k + 1 else sv r k) else 0
def swC (r : Nat → Int32) (a b : Nat) (most : Int32) : Prop := a ≠ b ∧ a < nlv r ∧ b < nlv r ∧ ¬ shF r a = 0 ∧ most < prF r a - prF r b ∧ kpP r (xab r a b) (Vn r)
noncomputable def swM (r : Nat → Int32) : Nat → Int32 × Int32 × Int32
  | 0 => (0, -6, -6)
  | p + 1 => @ite _ (swC r (p / 5) (p % 5) (swM r p).1) (Classical.propDecidable _) (prF r (p / 5) - prF r (p % 5), nI (p / 5), nI (p % 5)) (swM r p)
theorem swM_n {r : Nat → Int32} {p : Nat} (h : ¬ swC r (p / 5) (p % 5) (swM r p).1) : swM r (p + 1) = swM r p := if_neg h
theorem swM_y {r : Nat → Int32} {p : Nat} (h : swC r (p / 5) (p % 5) (swM r p).1) : swM r (p + 1) = (prF r (p / 5) - prF r (p % 5), nI (p / 5), nI (p % 5)) := if_pos h
noncomputable def swR (r : Nat → Int32) (x : Int32) : Int32 :=
  if 0 ≤ x ∧ x ≤ 2 then (if shS r = 20 then (if (swM r 25).2.1 = -6 then -6 else if x = 0 then (swM r 25).2.1 else if x = 1 then (swM r 25).2.2 else (swM r 25).1) else -6) else -2
theorem swR_1 {r : Nat → Int32} {x : Int32} (h : ¬ (0 ≤ x ∧ x ≤ 2)) : -2 = swR r x := (if_neg h).symm
theorem swR_2 {r : Nat → Int32} {x : Int32} (h : 0 ≤ x ∧ x ≤ 2) (h2 : ¬ shS r = 20) : -6 = swR r x := ((if_pos h).trans (if_neg h2)).symm
theorem swR_3 {r : Nat → Int32} {x : Int32} (h : 0 ≤ x ∧ x ≤ 2) (h2 : shS r = 20) (h3 : (swM r 25).2.1 = -6) : -6 = swR r x := (((if_pos h).trans (if_pos h2)).trans (if_pos h3)).symm
theorem swR_4 {r : Nat → Int32} {x : Int32} (h : 0 ≤ x ∧ x ≤ 2) (h2 : shS r = 20) (h3 : ¬ (swM r 25).2.1 = -6) (h4 : x = 0) : (swM r 25).2.1 = swR r x := ((((if_pos h).trans (if_pos h2)).trans (if_neg h3)).trans (if_pos h4)).symm
theorem swR_5 {r : Nat → Int32} {x : Int32} (h : 0 ≤ x ∧ x ≤ 2) (h2 : shS r = 20) (h3 : ¬ (swM r 25).2.1 = -6) (h4 : ¬ x = 0) (h5 : x = 1) : (swM r 25).2.2 = swR r x := (((((if_pos h).trans (if_pos h2)).trans (if_neg h3)).trans (if_neg h4)).trans (if_pos h5)).symm
theorem swR_6 {r : Nat → Int32} {x : Int32} (h : 0 ≤ x ∧ x ≤ 2) (h2 : shS r = 20) (h3 : ¬ (swM r 25).2.1 = -6) (h4 : ¬ x = 0) (h5 : ¬ x = 1) : (swM r 25).1 = swR r x := (((((if_pos h).trans (if_pos h2)).trans (if_neg h3)).trans (if_neg h4)).trans (if_neg h5)).symm
theorem i_p1 (x : Int32) : x + -1 = x - 1 := (Int32.sub_eq_add_neg x 1).symm
theorem nI_dv {a : Nat} (ha : a < 2 ^ 31) : nI a / 5 = nI (a / 5) := pk_div (d := 5) ha (by omega) (by omega)
theorem nI_md {a : Nat} (ha : a < 2 ^ 31) : nI a - nI a / 5 * 5 = nI (a % 5) := pk_rem (d := 5) ha (by omega) (by omega)

set_option maxHeartbeats 4000000 in
set_option maxRecDepth 100000 in
theorem k_X7_swap (l : Launch) (G : GG) (w : Nat) (M : Nat → Nat → Int32) (x : Int32) (hv : Iv (M 0)) : Met l yX7_swap (ws_ yX7_swap cX7_swap 9 (some .int)) (rm_ 4) (PC G [.ref w, .int x] (MdAt G w M)) (QI (fun v H => v = swR (M 0) x ∧ ∃ M2, (∀ k, k < 11 → M2 k = M k) ∧ MdAt G w M2 H) (In w 13)) 0 0 (In w 13) := by
  refine met_q (by decide +kernel) (Nat.le_of_ble_eq_true rfl) ?_
  intro p e s m args below meth c Q hQ hx hb hr hT hown hml hlocks hnm hK hM ls hl
  have hl : lv_has ls 9 [(0, .ref w), (1, .int x)] := hl
  have hS : va_S (In w 13) s.heap s.heap [] := va_S.rf
  have hw := hv.1
  have hn5 := hw.nl5
  have hnl := hw.nl
  refine lv_iload_n hx hb dX7_swap_0 rfl (lv_at hl 1 rfl) ?_
  refine lv_i2l hx hb dX7_swap_1 rfl ?_
  refine lv_iconst (v := 0) hx hb dX7_swap_2 (by decide) ?_
  refine lv_iconst (v := 2) hx hb dX7_swap_3 (by decide) ?_
  refine got_i (run_s hx hb hml hown hT hK hl.1 (k_X7_in l G x 0 2) (cw_X7_47 hT ⟨Nat.le_of_ble_eq_true rfl, Nat.le_of_ble_eq_true rfl⟩) trivial rfl rfl (Nat.le_of_ble_eq_true rfl) dX7_swap_4 ⟨Nat.zero_le _, Nat.zero_le _⟩) (fun v_1 hv_1 => ?_)
  subst hv_1
  refine lv_if_ne (tgt := 13) hx hb dX7_swap_7 (by decide) (fun c1 => ?_) (fun c1 => ?_)
  · have hx2 := bi_n0 c1
    refine lv_aload_n hx hb dX7_swap_13 rfl (lv_at hl 0 rfl) ?_
    refine got_i (run_i hx hb hml hown hT hK hl.1 (k_X7_shares l G w M hw) (cw_X7_73 hT ⟨Nat.le_of_ble_eq_true rfl, Nat.le_of_ble_eq_true rfl⟩) hM.1 rfl hM rfl rfl (Nat.le_of_ble_eq_true rfl) dX7_swap_14 ⟨Nat.zero_le _, Nat.zero_le _⟩) (fun v_2 hv_2 => ?_)
    subst hv_2
    refine lv_bipush (v := 20) hx hb dX7_swap_17 (by decide) ?_
    refine lv_icmp_eq (tgt := 25) hx hb dX7_swap_19 (by decide) (fun c2 => ?_) (fun c2 => ?_)
    · refine lv_aload_n hx hb dX7_swap_25 rfl (lv_at hl 0 rfl) ?_
      refine got_V (run_i hx hb hml hown hT hK hl.1 (k_X7_layDay l G w M hv) (cw_X7_83 hT ⟨Nat.le_of_ble_eq_true rfl, Nat.le_of_ble_eq_true rfl⟩) hM.1 rfl hM rfl rfl (Nat.le_of_ble_eq_true rfl) dX7_swap_26 ⟨Nat.zero_le _, Nat.zero_le _⟩) hS (fun q hq => hq) (fun q hq => hq) (fun  H locs h1 hz hk hS => ?_)
      have hM := h1
      obtain ⟨MD, eMD⟩ : ∃ z, z = updM (updM M 12 (prq (M 0))) 13 (tsq (M 0)) := ⟨_, rfl⟩
      rw [← eMD] at hM
      have d0 : MD 0 = M 0 := by rw [eMD]; rfl
      have d12 : MD 12 = prq (M 0) := by rw [eMD, updM_ne (by omega)]; exact updM_eq
      have d13 : MD 13 = tsq (M 0) := by rw [eMD]; exact updM_eq
      have dlow : ∀ k, k < 11 → MD k = M k := fun k hk => by rw [eMD, updM_ne (by omega), updM_ne (by omega)]
      refine lv_iconst (v := 0) hx hb dX7_swap_29 (by decide) ?_
      refine lv_istore_n (lv' := [(2, .int 0), (0, .ref w), (1, .int x)]) hx hb dX7_swap_30 rfl hl (by decide) rfl (fun ls hl => ?_)
      refine lv_bipush (v := (-6)) hx hb dX7_swap_31 (by decide) ?_
      refine lv_istore_n (lv' := [(3, .int (-6)), (2, .int 0), (0, .ref w), (1, .int x)]) hx hb dX7_swap_33 rfl hl (by decide) rfl (fun ls hl => ?_)
      refine lv_bipush (v := (-6)) hx hb dX7_swap_34 (by decide) ?_
      refine lv_istore (lv' := [(4, .int (-6)), (3, .int (-6)), (2, .int 0), (0, .ref w), (1, .int x)]) hx hb dX7_swap_36 hl (by decide) rfl (fun ls hl => ?_)
      refine lv_iconst (v := 0) hx hb dX7_swap_38 (by decide) ?_
      refine lv_istore (lv' := [(5, .int 0), (4, .int (-6)), (3, .int (-6)), (2, .int 0), (0, .ref w), (1, .int x)]) hx hb dX7_swap_39 hl (by decide) rfl (fun ls hl => ?_)
      have loop : ∀ (k : Nat) (p1 : Nat) (T : Nat → Int32) (H : Heap) (locs : List Loc), va_S (In w 13) s.heap H locs → p1 ≤ 25 → MdAt G w (updM MD 11 T) H → 25 - p1 < k → ∀ ls : Array Slot, lv_has ls 9 [(5, .int (nI p1)), (4, .int ((swM (M 0) p1).2.2)), (3, .int ((swM (M 0) p1).2.1)), (2, .int ((swM (M 0) p1).1)), (0, .ref w), (1, .int x)] → W p l e (rm_ 4) s m args below meth c H locs 0 0 Q (F0 m 41 ls []) := by
        intro k
        induction k with
        | zero => intro p1 T H locs hS hp hM hm; exact absurd hm (Nat.not_lt_zero _)
        | succ k ih =>
          intro p1 T H locs hS hp hM hm ls hl
          refine lv_iload hx hb dX7_swap_41 (lv_at hl 0 rfl) ?_
          refine lv_bipush (v := 25) hx hb dX7_swap_43 (by decide) ?_
          refine lv_icmp_ge (tgt := 218) hx hb dX7_swap_45 (by decide) (fun cd => ?_) (fun cd => ?_)
          · have e_p1 : p1 = 25 := by
              have h9 : nI 25 ≤ nI p1 := cd
              rw [nI_leI (by omega) (by omega)] at h9
              omega
            subst e_p1
            refine lv_iload_n hx hb dX7_swap_218 rfl (lv_at hl 2 rfl) ?_
            refine lv_bipush (v := (-6)) hx hb dX7_swap_219 (by decide) ?_
            refine lv_icmp_ne (tgt := 229) hx hb dX7_swap_221 (by decide) (fun c9 => ?_) (fun c9 => ?_)
            · refine lv_iload_n hx hb dX7_swap_229 rfl (lv_at hl 5 rfl) ?_
              refine lv_if_ne (tgt := 237) hx hb dX7_swap_230 (by decide) (fun c8 => ?_) (fun c8 => ?_)
              · refine lv_iload_n hx hb dX7_swap_237 rfl (lv_at hl 5 rfl) ?_
                refine lv_iconst (v := 1) hx hb dX7_swap_238 (by decide) ?_
                refine lv_icmp_ne (tgt := 247) hx hb dX7_swap_239 (by decide) (fun c7 => ?_) (fun c7 => ?_)
                · refine lv_iload_n hx hb dX7_swap_247 rfl (lv_at hl 3 rfl) ?_
                  exact nd_I hQ hx hb hr hlocks dX7_swap_248 hS (⟨swR_6 hx2 c2 c9 c8 c7, updM MD 11 T, fun k hk => (updM_ne (by omega)).trans (dlow k hk), hM⟩)
                · refine lv_iload hx hb dX7_swap_242 (lv_at hl 1 rfl) ?_
                  refine lv_goto (tgt := 248) hx hb dX7_swap_244 (by decide) ?_
                  exact nd_I hQ hx hb hr hlocks dX7_swap_248 hS (⟨swR_5 hx2 c2 c9 c8 c7, updM MD 11 T, fun k hk => (updM_ne (by omega)).trans (dlow k hk), hM⟩)
              · refine lv_iload_n hx hb dX7_swap_233 rfl (lv_at hl 2 rfl) ?_
                refine lv_goto (tgt := 248) hx hb dX7_swap_234 (by decide) ?_
                exact nd_I hQ hx hb hr hlocks dX7_swap_248 hS (⟨swR_4 hx2 c2 c9 c8, updM MD 11 T, fun k hk => (updM_ne (by omega)).trans (dlow k hk), hM⟩)
            · refine lv_bipush (v := (-6)) hx hb dX7_swap_224 (by decide) ?_
              refine lv_goto (tgt := 248) hx hb dX7_swap_226 (by decide) ?_
              exact nd_I hQ hx hb hr hlocks dX7_swap_248 hS (⟨swR_3 hx2 c2 c9, updM MD 11 T, fun k hk => (updM_ne (by omega)).trans (dlow k hk), hM⟩)
          · have h_p1 : p1 < 25 := by
              have h9 : ¬ nI 25 ≤ nI p1 := cd
              rw [nI_leI (by omega) (by omega)] at h9
              omega
            refine lv_iload hx hb dX7_swap_48 (lv_at hl 0 rfl) ?_
            refine lv_iconst (v := 5) hx hb dX7_swap_50 (by decide) ?_
            refine lv_idiv hx hb dX7_swap_51 (by decide) ?_
            rw [nI_dv (by omega)]
            refine lv_istore (lv' := [(6, .int (nI (p1 / 5))), (5, .int (nI p1)), (4, .int ((swM (M 0) p1).2.2)), (3, .int ((swM (M 0) p1).2.1)), (2, .int ((swM (M 0) p1).1)), (0, .ref w), (1, .int x)]) hx hb dX7_swap_52 hl (by decide) rfl (fun ls hl => ?_)
            refine lv_iload hx hb dX7_swap_54 (lv_at hl 1 rfl) ?_
            refine lv_iconst (v := 5) hx hb dX7_swap_56 (by decide) ?_
            refine lv_irem hx hb dX7_swap_57 (by decide) ?_
            rw [nI_md (by omega)]
            refine lv_istore (lv' := [(7, .int (nI (p1 % 5))), (6, .int (nI (p1 / 5))), (5, .int (nI p1)), (4, .int ((swM (M 0) p1).2.2)), (3, .int ((swM (M 0) p1).2.1)), (2, .int ((swM (M 0) p1).1)), (0, .ref w), (1, .int x)]) hx hb dX7_swap_58 hl (by decide) rfl (fun ls hl => ?_)
            refine lv_iload hx hb dX7_swap_60 (lv_at hl 1 rfl) ?_
            refine lv_iload hx hb dX7_swap_62 (lv_at hl 0 rfl) ?_
            refine lv_icmp_eq (tgt := 212) hx hb dX7_swap_64 (by decide) (fun e1 => ?_) (fun e1 => ?_)
            · have e1 : p1 / 5 = p1 % 5 := (nI_eq (by omega) (by omega)).mp e1
              have es : swM (M 0) (p1 + 1) = swM (M 0) p1 := swM_n (fun q => q.1 e1)
              refine lv_iinc (v := nI (p1 + 1)) (lv' := [(5, .int (nI (p1 + 1))), (7, .int (nI (p1 % 5))), (6, .int (nI (p1 / 5))), (4, .int ((swM (M 0) p1).2.2)), (3, .int ((swM (M 0) p1).2.1)), (2, .int ((swM (M 0) p1).1)), (0, .ref w), (1, .int x)]) hx hb dX7_swap_212 hl (k := 2) rfl (nI_1 p1) (by decide) rfl (fun ls hl => ?_)
              refine lv_goto (tgt := 41) hx hb dX7_swap_215 (by decide) ?_
              have hl : lv_has ls 9 [(5, .int (nI (p1 + 1))), (7, .int (nI (p1 % 5))), (6, .int (nI (p1 / 5))), (4, .int ((swM (M 0) (p1 + 1)).2.2)), (3, .int ((swM (M 0) (p1 + 1)).2.1)), (2, .int ((swM (M 0) (p1 + 1)).1)), (0, .ref w), (1, .int x)] := by rw [es]; exact hl
              exact ih (p1 + 1) T _ _ hS (by omega) hM (by omega) ls (lv_sub hl [0, 3, 4, 5, 6, 7] rfl)
            · have e1 : ¬ p1 / 5 = p1 % 5 := fun q => e1 (by rw [q])
              refine lv_iload hx hb dX7_swap_67 (lv_at hl 1 rfl) ?_
              refine lv_aload_n hx hb dX7_swap_69 rfl (lv_at hl 6 rfl) ?_
              refine rg (C := RX7) (T := TX7) (N := 16) (v := .ref (w + 1)) hx hb hT inX7 hown hK hM.1 rfl 0 (by decide) mf_X7_7 rfl dX7_swap_70 ?_
              refine lv_iconst (v := 5) hx hb dX7_swap_73 (by decide) ?_
              refine r_ialdS (y := MD 0 5) hx hb hK hM.2.1 5 (by decide) (by omega) (Nat.le_of_ble_eq_true rfl) rfl dX7_swap_74 ?_
              rw [d0]
              refine lv_icmp_ge (tgt := 212) hx hb dX7_swap_75 (by decide) (fun e2 => ?_) (fun e2 => ?_)
              · have e2 : ¬ p1 / 5 < nlv (M 0) := by rw [hnl, nI_leI (by omega) (by omega)] at e2; omega
                have es : swM (M 0) (p1 + 1) = swM (M 0) p1 := swM_n (fun q => e2 q.2.1)
                refine lv_iinc (v := nI (p1 + 1)) (lv' := [(5, .int (nI (p1 + 1))), (7, .int (nI (p1 % 5))), (6, .int (nI (p1 / 5))), (4, .int ((swM (M 0) p1).2.2)), (3, .int ((swM (M 0) p1).2.1)), (2, .int ((swM (M 0) p1).1)), (0, .ref w), (1, .int x)]) hx hb dX7_swap_212 hl (k := 2) rfl (nI_1 p1) (by decide) rfl (fun ls hl => ?_)
                refine lv_goto (tgt := 41) hx hb dX7_swap_215 (by decide) ?_
                have hl : lv_has ls 9 [(5, .int (nI (p1 + 1))), (7, .int (nI (p1 % 5))), (6, .int (nI (p1 / 5))), (4, .int ((swM (M 0) (p1 + 1)).2.2)), (3, .int ((swM (M 0) (p1 + 1)).2.1)), (2, .int ((swM (M 0) (p1 + 1)).1)), (0, .ref w), (1, .int x)] := by rw [es]; exact hl
                exact ih (p1 + 1) T _ _ hS (by omega) hM (by omega) ls (lv_sub hl [0, 3, 4, 5, 6, 7] rfl)
              · have e2 : p1 / 5 < nlv (M 0) := by rw [hnl, nI_leI (by omega) (by omega)] at e2; omega
                refine lv_iload hx hb dX7_swap_78 (lv_at hl 0 rfl) ?_
                refine lv_aload_n hx hb dX7_swap_80 rfl (lv_at hl 6 rfl) ?_
                refine rg (C := RX7) (T := TX7) (N := 16) (v := .ref (w + 1)) hx hb hT inX7 hown hK hM.1 rfl 0 (by decide) mf_X7_7 rfl dX7_swap_81 ?_
                refine lv_iconst (v := 5) hx hb dX7_swap_84 (by decide) ?_
                refine r_ialdS (y := MD 0 5) hx hb hK hM.2.1 5 (by decide) (by omega) (Nat.le_of_ble_eq_true rfl) rfl dX7_swap_85 ?_
                rw [d0]
                refine lv_icmp_ge (tgt := 212) hx hb dX7_swap_86 (by decide) (fun e3 => ?_) (fun e3 => ?_)
                · have e3 : ¬ p1 % 5 < nlv (M 0) := by rw [hnl, nI_leI (by omega) (by omega)] at e3; omega
                  have es : swM (M 0) (p1 + 1) = swM (M 0) p1 := swM_n (fun q => e3 q.2.2.1)
                  refine lv_iinc (v := nI (p1 + 1)) (lv' := [(5, .int (nI (p1 + 1))), (7, .int (nI (p1 % 5))), (6, .int (nI (p1 / 5))), (4, .int ((swM (M 0) p1).2.2)), (3, .int ((swM (M 0) p1).2.1)), (2, .int ((swM (M 0) p1).1)), (0, .ref w), (1, .int x)]) hx hb dX7_swap_212 hl (k := 2) rfl (nI_1 p1) (by decide) rfl (fun ls hl => ?_)
                  refine lv_goto (tgt := 41) hx hb dX7_swap_215 (by decide) ?_
                  have hl : lv_has ls 9 [(5, .int (nI (p1 + 1))), (7, .int (nI (p1 % 5))), (6, .int (nI (p1 / 5))), (4, .int ((swM (M 0) (p1 + 1)).2.2)), (3, .int ((swM (M 0) (p1 + 1)).2.1)), (2, .int ((swM (M 0) (p1 + 1)).1)), (0, .ref w), (1, .int x)] := by rw [es]; exact hl
                  exact ih (p1 + 1) T _ _ hS (by omega) hM (by omega) ls (lv_sub hl [0, 3, 4, 5, 6, 7] rfl)
                · have e3 : p1 % 5 < nlv (M 0) := by rw [hnl, nI_leI (by omega) (by omega)] at e3; omega
                  refine lv_aload_n hx hb dX7_swap_89 rfl (lv_at hl 6 rfl) ?_
                  refine lv_iload hx hb dX7_swap_90 (lv_at hl 1 rfl) ?_
                  refine lv_bipush (v := 13) hx hb dX7_swap_92 (by decide) ?_
                  refine got_i (run_i hx hb hml hown hT hK hl.1 (k_X7_its l G w (updM MD 11 T) (p1 / 5) 13 (by omega)) (cw_X7_62 hT ⟨Nat.le_of_ble_eq_true rfl, Nat.le_of_ble_eq_true rfl⟩) hM.1 rfl hM rfl rfl (Nat.le_of_ble_eq_true rfl) dX7_swap_94 ⟨Nat.zero_le _, Nat.zero_le _⟩) (fun v_3 hv_3 => ?_)
                  subst hv_3
                  rw [show updM MD 11 T 0 (12 + 14 * (p1 / 5) + 13) = shF (M 0) (p1 / 5) from by rw [updM_ne (by omega), d0]; rfl]
                  refine lv_if_ne (tgt := 103) hx hb dX7_swap_97 (by decide) (fun e4 => ?_) (fun e4 => ?_)
                  · have hsa := (sv_s hv (i := p1 / 5) (by omega))
                    have hs1 : 1 ≤ sv (M 0) (p1 / 5) := Nat.pos_of_ne_zero (fun q => e4 (by rw [hsa.1, q]; rfl))
                    refine lv_iconst (v := 0) hx hb dX7_swap_103 (by decide) ?_
                    refine lv_istore (lv' := [(8, .int 0), (7, .int (nI (p1 % 5))), (6, .int (nI (p1 / 5))), (5, .int (nI p1)), (4, .int ((swM (M 0) p1).2.2)), (3, .int ((swM (M 0) p1).2.1)), (2, .int ((swM (M 0) p1).1)), (0, .ref w), (1, .int x)]) hx hb dX7_swap_104 hl (by decide) rfl (fun ls hl => ?_)
                    have loop4 : ∀ (k : Nat) (i : Nat) (H : Heap) (locs : List Loc), va_S (In w 13) s.heap H locs → i ≤ 5 → MdAt G w (updM MD 11 (cpN T (fun k => nI (xab (M 0) (p1 / 5) (p1 % 5) k)) 0 i)) H → 5 - i < k → ∀ ls : Array Slot, lv_has ls 9 [(8, .int (nI i)), (7, .int (nI (p1 % 5))), (6, .int (nI (p1 / 5))), (5, .int (nI p1)), (4, .int ((swM (M 0) p1).2.2)), (3, .int ((swM (M 0) p1).2.1)), (2, .int ((swM (M 0) p1).1)), (0, .ref w), (1, .int x)] → W p l e (rm_ 4) s m args below meth c H locs 0 0 Q (F0 m 106 ls []) := by
                      intro k4
                      induction k4 with
                      | zero => intro i H locs hS hi hM hm; exact absurd hm (Nat.not_lt_zero _)
                      | succ k4 ih4 =>
                        intro i H locs hS hi hM hm ls hl
                        refine lv_iload hx hb dX7_swap_106 (lv_at hl 0 rfl) ?_
                        refine lv_iconst (v := 5) hx hb dX7_swap_108 (by decide) ?_
                        refine lv_icmp_ge (tgt := 172) hx hb dX7_swap_109 (by decide) (fun cd => ?_) (fun cd => ?_)
                        · have e_i : i = 5 := by
                            have h9 : nI 5 ≤ nI i := cd
                            rw [nI_leI (by omega) (by omega)] at h9
                            omega
                          subst e_i
                          obtain ⟨T5, eT5⟩ : ∃ z, z = cpN T (fun k => nI (xab (M 0) (p1 / 5) (p1 % 5) k)) 0 5 := ⟨_, rfl⟩
                          rw [← eT5] at hM
                          have hx5 : ∀ k, k < 5 → updM MD 11 T5 11 k = nI (xab (M 0) (p1 / 5) (p1 % 5) k) := fun k hk => by rw [updM_eq, eT5, cpN_in0 hk]
                          have hT5 : ∀ k, k < 5 → ∀ t, t < 3 → updM MD 11 T5 13 (3 * k + t) = nI (Vn (M 0) k t) := fun k hk t ht => by rw [updM_ne (by omega), d13]; unfold tsq; rw [show (3 * k + t) / 3 = k by omega, show (3 * k + t) % 3 = t by omega]
                          have hp12 : ∀ k, k < nlv (M 0) → updM MD 11 T5 12 k = prF (M 0) k := fun k hk => by rw [updM_ne (by omega), d12]; unfold prq Vn; rw [if_pos hk]; exact (Vv_p hv (by omega)).1.symm
                          refine lv_aload_n hx hb dX7_swap_172 rfl (lv_at hl 7 rfl) ?_
                          refine rg (C := RX7) (T := TX7) (N := 16) (v := .ref (w + 10)) hx hb hT inX7 hown hK hM.1 rfl 12 (by decide) mf_X7_38 rfl dX7_swap_173 ?_
                          refine lv_iload hx hb dX7_swap_176 (lv_at hl 2 rfl) ?_
                          refine r_ialdS (y := (updM MD 11 T5) 12 (p1 / 5)) hx hb hK hM.2.2.2.2.2.2.2.2.2.2.1 (p1 / 5) (rfl) (by omega) (Nat.le_of_ble_eq_true rfl) rfl dX7_swap_178 ?_
                          rw [hp12 _ e2]
                          refine lv_aload_n hx hb dX7_swap_179 rfl (lv_at hl 7 rfl) ?_
                          refine rg (C := RX7) (T := TX7) (N := 16) (v := .ref (w + 10)) hx hb hT inX7 hown hK hM.1 rfl 12 (by decide) mf_X7_38 rfl dX7_swap_180 ?_
                          refine lv_iload hx hb dX7_swap_183 (lv_at hl 1 rfl) ?_
                          refine r_ialdS (y := (updM MD 11 T5) 12 (p1 % 5)) hx hb hK hM.2.2.2.2.2.2.2.2.2.2.1 (p1 % 5) (rfl) (by omega) (Nat.le_of_ble_eq_true rfl) rfl dX7_swap_185 ?_
                          rw [hp12 _ e3]
                          refine lv_isub hx hb dX7_swap_186 ?_
                          refine lv_istore (lv' := [(8, .int ((prF (M 0) (p1 / 5)) - (prF (M 0) (p1 % 5)))), (7, .int (nI (p1 % 5))), (6, .int (nI (p1 / 5))), (5, .int (nI p1)), (4, .int ((swM (M 0) p1).2.2)), (3, .int ((swM (M 0) p1).2.1)), (2, .int ((swM (M 0) p1).1)), (0, .ref w), (1, .int x)]) hx hb dX7_swap_187 hl (by decide) rfl (fun ls hl => ?_)
                          refine lv_iload hx hb dX7_swap_189 (lv_at hl 0 rfl) ?_
                          refine lv_iload_n hx hb dX7_swap_191 rfl (lv_at hl 6 rfl) ?_
                          refine lv_icmp_le (tgt := 212) hx hb dX7_swap_192 (by decide) (fun e5 => ?_) (fun e5 => ?_)
                          · have es : swM (M 0) (p1 + 1) = swM (M 0) p1 := swM_n (fun q => i32_le_nlt e5 q.2.2.2.2.1)
                            refine lv_iinc (v := nI (p1 + 1)) (lv' := [(5, .int (nI (p1 + 1))), (8, .int ((prF (M 0) (p1 / 5)) - (prF (M 0) (p1 % 5)))), (7, .int (nI (p1 % 5))), (6, .int (nI (p1 / 5))), (4, .int ((swM (M 0) p1).2.2)), (3, .int ((swM (M 0) p1).2.1)), (2, .int ((swM (M 0) p1).1)), (0, .ref w), (1, .int x)]) hx hb dX7_swap_212 hl (k := 3) rfl (nI_1 p1) (by decide) rfl (fun ls hl => ?_)
                            refine lv_goto (tgt := 41) hx hb dX7_swap_215 (by decide) ?_
                            have hl : lv_has ls 9 [(5, .int (nI (p1 + 1))), (8, .int ((prF (M 0) (p1 / 5)) - (prF (M 0) (p1 % 5)))), (7, .int (nI (p1 % 5))), (6, .int (nI (p1 / 5))), (4, .int ((swM (M 0) (p1 + 1)).2.2)), (3, .int ((swM (M 0) (p1 + 1)).2.1)), (2, .int ((swM (M 0) (p1 + 1)).1)), (0, .ref w), (1, .int x)] := by rw [es]; exact hl
                            exact ih (p1 + 1) T5 _ _ hS (by omega) hM (by omega) ls (lv_sub hl [0, 4, 5, 6, 7, 8] rfl)
                          · refine lv_aload_n hx hb dX7_swap_195 rfl (lv_at hl 7 rfl) ?_
                            refine got_i (run_i hx hb hml hown hT hK hl.1 (k_X7_keeps l G w (updM MD 11 T5) (xab (M 0) (p1 / 5) (p1 % 5)) (Vn (M 0)) hx5 hT5) (cw_X7_89 hT ⟨Nat.le_of_ble_eq_true rfl, Nat.le_of_ble_eq_true rfl⟩) hM.1 rfl hM rfl rfl (Nat.le_of_ble_eq_true rfl) dX7_swap_196 ⟨Nat.zero_le _, Nat.zero_le _⟩) (fun v_4 hv_4 => ?_)
                            subst hv_4
                            rw [show updM MD 11 T5 0 = M 0 from (updM_ne (by omega)).trans d0]
                            refine lv_if_eq (tgt := 212) hx hb dX7_swap_199 (by decide) (fun e6 => ?_) (fun e6 => ?_)
                            · have es : swM (M 0) (p1 + 1) = swM (M 0) p1 := swM_n (fun q => bc_e0 e6 q.2.2.2.2.2)
                              refine lv_iinc (v := nI (p1 + 1)) (lv' := [(5, .int (nI (p1 + 1))), (8, .int ((prF (M 0) (p1 / 5)) - (prF (M 0) (p1 % 5)))), (7, .int (nI (p1 % 5))), (6, .int (nI (p1 / 5))), (4, .int ((swM (M 0) p1).2.2)), (3, .int ((swM (M 0) p1).2.1)), (2, .int ((swM (M 0) p1).1)), (0, .ref w), (1, .int x)]) hx hb dX7_swap_212 hl (k := 3) rfl (nI_1 p1) (by decide) rfl (fun ls hl => ?_)
                              refine lv_goto (tgt := 41) hx hb dX7_swap_215 (by decide) ?_
                              have hl : lv_has ls 9 [(5, .int (nI (p1 + 1))), (8, .int ((prF (M 0) (p1 / 5)) - (prF (M 0) (p1 % 5)))), (7, .int (nI (p1 % 5))), (6, .int (nI (p1 / 5))), (4, .int ((swM (M 0) (p1 + 1)).2.2)), (3, .int ((swM (M 0) (p1 + 1)).2.1)), (2, .int ((swM (M 0) (p1 + 1)).1)), (0, .ref w), (1, .int x)] := by rw [es]; exact hl
                              exact ih (p1 + 1) T5 _ _ hS (by omega) hM (by omega) ls (lv_sub hl [0, 4, 5, 6, 7, 8] rfl)
                            · have es : swM (M 0) (p1 + 1) = (prF (M 0) (p1 / 5) - prF (M 0) (p1 % 5), nI (p1 / 5), nI (p1 % 5)) := swM_y ⟨e1, e2, e3, e4, i32_nle e5, bc_n0 e6⟩
                              refine lv_iload hx hb dX7_swap_202 (lv_at hl 0 rfl) ?_
                              refine lv_istore_n (lv' := [(2, .int ((prF (M 0) (p1 / 5)) - (prF (M 0) (p1 % 5)))), (8, .int ((prF (M 0) (p1 / 5)) - (prF (M 0) (p1 % 5)))), (7, .int (nI (p1 % 5))), (6, .int (nI (p1 / 5))), (5, .int (nI p1)), (4, .int ((swM (M 0) p1).2.2)), (3, .int ((swM (M 0) p1).2.1)), (0, .ref w), (1, .int x)]) hx hb dX7_swap_204 rfl hl (by decide) rfl (fun ls hl => ?_)
                              refine lv_iload hx hb dX7_swap_205 (lv_at hl 3 rfl) ?_
                              refine lv_istore_n (lv' := [(3, .int (nI (p1 / 5))), (2, .int ((prF (M 0) (p1 / 5)) - (prF (M 0) (p1 % 5)))), (8, .int ((prF (M 0) (p1 / 5)) - (prF (M 0) (p1 % 5)))), (7, .int (nI (p1 % 5))), (6, .int (nI (p1 / 5))), (5, .int (nI p1)), (4, .int ((swM (M 0) p1).2.2)), (0, .ref w), (1, .int x)]) hx hb dX7_swap_207 rfl hl (by decide) rfl (fun ls hl => ?_)
                              refine lv_iload hx hb dX7_swap_208 (lv_at hl 3 rfl) ?_
                              refine lv_istore (lv' := [(4, .int (nI (p1 % 5))), (3, .int (nI (p1 / 5))), (2, .int ((prF (M 0) (p1 / 5)) - (prF (M 0) (p1 % 5)))), (8, .int ((prF (M 0) (p1 / 5)) - (prF (M 0) (p1 % 5)))), (7, .int (nI (p1 % 5))), (6, .int (nI (p1 / 5))), (5, .int (nI p1)), (0, .ref w), (1, .int x)]) hx hb dX7_swap_210 hl (by decide) rfl (fun ls hl => ?_)
                              refine lv_iinc (v := nI (p1 + 1)) (lv' := [(5, .int (nI (p1 + 1))), (4, .int (nI (p1 % 5))), (3, .int (nI (p1 / 5))), (2, .int ((prF (M 0) (p1 / 5)) - (prF (M 0) (p1 % 5)))), (8, .int ((prF (M 0) (p1 / 5)) - (prF (M 0) (p1 % 5)))), (7, .int (nI (p1 % 5))), (6, .int (nI (p1 / 5))), (0, .ref w), (1, .int x)]) hx hb dX7_swap_212 hl (k := 6) rfl (nI_1 p1) (by decide) rfl (fun ls hl => ?_)
                              refine lv_goto (tgt := 41) hx hb dX7_swap_215 (by decide) ?_
                              have hl : lv_has ls 9 [(5, .int (nI (p1 + 1))), (4, .int ((swM (M 0) (p1 + 1)).2.2)), (3, .int ((swM (M 0) (p1 + 1)).2.1)), (2, .int ((swM (M 0) (p1 + 1)).1)), (8, .int ((prF (M 0) (p1 / 5)) - (prF (M 0) (p1 % 5)))), (7, .int (nI (p1 % 5))), (6, .int (nI (p1 / 5))), (0, .ref w), (1, .int x)] := by rw [es]; exact hl
                              exact ih (p1 + 1) T5 _ _ hS (by omega) hM (by omega) ls (lv_sub hl [0, 1, 2, 3, 7, 8] rfl)
                        · have h_i : i < 5 := by
                            have h9 : ¬ nI 5 ≤ nI i := cd
                            rw [nI_leI (by omega) (by omega)] at h9
                            omega
                          refine lv_aload_n hx hb dX7_swap_112 rfl (lv_at hl 7 rfl) ?_
                          refine rg (C := RX7) (T := TX7) (N := 16) (v := .ref (w + 9)) hx hb hT inX7 hown hK hM.1 rfl 11 (by decide) mf_X7_35 rfl dX7_swap_113 ?_
                          refine lv_iload hx hb dX7_swap_116 (lv_at hl 0 rfl) ?_
                          refine lv_iload hx hb dX7_swap_118 (lv_at hl 0 rfl) ?_
                          refine lv_aload_n hx hb dX7_swap_120 rfl (lv_at hl 7 rfl) ?_
                          refine rg (C := RX7) (T := TX7) (N := 16) (v := .ref (w + 1)) hx hb hT inX7 hown hK hM.1 rfl 0 (by decide) mf_X7_7 rfl dX7_swap_121 ?_
                          refine lv_iconst (v := 5) hx hb dX7_swap_124 (by decide) ?_
                          refine r_ialdS (y := MD 0 5) hx hb hK hM.2.1 5 (by decide) (by omega) (Nat.le_of_ble_eq_true rfl) rfl dX7_swap_125 ?_
                          rw [d0]
                          refine lv_icmp_ge (tgt := 164) hx hb dX7_swap_126 (by decide) (fun e7 => ?_) (fun e7 => ?_)
                          · have e7 : ¬ i < nlv (M 0) := by rw [hnl, nI_leI (by omega) (by omega)] at e7; omega
                            refine lv_iconst (v := 0) hx hb dX7_swap_164 (by decide) ?_
                            rw [show (0 : Int32) = nI (xab (M 0) (p1 / 5) (p1 % 5) i) from by unfold xab; rw [if_neg e7]; exact nI_0.symm]
                            refine r_iast hx hb hK hM.2.2.2.2.2.2.2.2.2.1 i (rfl) (h_i) (Nat.le_of_ble_eq_true rfl) hS (show _ ∧ _ from ⟨by omega, by omega⟩) dX7_swap_165 (fun H locs h1 o hS => ?_)
                            have hM := hM.a11 h1 o
                            have es : upd (cpN T (fun k => nI (xab (M 0) (p1 / 5) (p1 % 5) k)) 0 i) i (nI (xab (M 0) (p1 / 5) (p1 % 5) i)) = cpN T (fun k => nI (xab (M 0) (p1 / 5) (p1 % 5) k)) 0 (i + 1) := by have h9 := cpN_s (r := T) (g := (fun k => nI (xab (M 0) (p1 / 5) (p1 % 5) k))) (lo := 0) (n := i); rw [Nat.zero_add] at h9; exact h9
                            rw [updM_2, updM_eq, es] at hM
                            refine lv_iinc (v := nI (i + 1)) (lv' := [(8, .int (nI (i + 1))), (7, .int (nI (p1 % 5))), (6, .int (nI (p1 / 5))), (5, .int (nI p1)), (4, .int ((swM (M 0) p1).2.2)), (3, .int ((swM (M 0) p1).2.1)), (2, .int ((swM (M 0) p1).1)), (0, .ref w), (1, .int x)]) hx hb dX7_swap_166 hl (k := 0) rfl (nI_1 i) (by decide) rfl (fun ls hl => ?_)
                            refine lv_goto (tgt := 106) hx hb dX7_swap_169 (by decide) ?_
                            exact ih4 (i + 1) _ _ hS (by omega) hM (by omega) ls (lv_sub hl [0, 1, 2, 3, 4, 5, 6, 7, 8] rfl)
                          · have e7 : i < nlv (M 0) := by rw [hnl, nI_leI (by omega) (by omega)] at e7; omega
                            refine lv_aload_n hx hb dX7_swap_129 rfl (lv_at hl 7 rfl) ?_
                            refine lv_iload hx hb dX7_swap_130 (lv_at hl 0 rfl) ?_
                            refine lv_bipush (v := 13) hx hb dX7_swap_132 (by decide) ?_
                            refine got_i (run_i hx hb hml hown hT hK hl.1 (k_X7_its l G w (updM MD 11 (cpN T (fun k => nI (xab (M 0) (p1 / 5) (p1 % 5) k)) 0 i)) i 13 (by omega)) (cw_X7_62 hT ⟨Nat.le_of_ble_eq_true rfl, Nat.le_of_ble_eq_true rfl⟩) hM.1 rfl hM rfl rfl (Nat.le_of_ble_eq_true rfl) dX7_swap_134 ⟨Nat.zero_le _, Nat.zero_le _⟩) (fun v_5 hv_5 => ?_)
                            subst hv_5
                            rw [show (updM MD 11 (cpN T (fun k => nI (xab (M 0) (p1 / 5) (p1 % 5) k)) 0 i)) 0 (12 + 14 * i + 13) = nI (sv (M 0) i) from by rw [updM_ne (by omega), d0]; exact (sv_s hv (by omega)).1]
                            refine lv_iload hx hb dX7_swap_137 (lv_at hl 0 rfl) ?_
                            refine lv_iload hx hb dX7_swap_139 (lv_at hl 2 rfl) ?_
                            refine lv_icmp_ne (tgt := 148) hx hb dX7_swap_141 (by decide) (fun e8 => ?_) (fun e8 => ?_)
                            · have e8 : ¬ i = p1 / 5 := fun q => e8 (by rw [q])
                              refine lv_iload hx hb dX7_swap_148 (lv_at hl 0 rfl) ?_
                              refine lv_iload hx hb dX7_swap_150 (lv_at hl 1 rfl) ?_
                              refine lv_icmp_ne (tgt := 159) hx hb dX7_swap_152 (by decide) (fun e9 => ?_) (fun e9 => ?_)
                              · have e9 : ¬ i = p1 % 5 := fun q => e9 (by rw [← q])
                                refine lv_iconst (v := 0) hx hb dX7_swap_159 (by decide) ?_
                                refine lv_iadd hx hb dX7_swap_160 ?_
                                refine lv_goto (tgt := 165) hx hb dX7_swap_161 (by decide) ?_
                                rw [show nI (sv (M 0) i) + 0 = nI (xab (M 0) (p1 / 5) (p1 % 5) i) from by unfold xab; rw [if_pos e7, if_neg e8, if_neg e9]; exact Int32.add_zero _]
                                refine r_iast hx hb hK hM.2.2.2.2.2.2.2.2.2.1 i (rfl) (h_i) (Nat.le_of_ble_eq_true rfl) hS (show _ ∧ _ from ⟨by omega, by omega⟩) dX7_swap_165 (fun H locs h1 o hS => ?_)
                                have hM := hM.a11 h1 o
                                have es : upd (cpN T (fun k => nI (xab (M 0) (p1 / 5) (p1 % 5) k)) 0 i) i (nI (xab (M 0) (p1 / 5) (p1 % 5) i)) = cpN T (fun k => nI (xab (M 0) (p1 / 5) (p1 % 5) k)) 0 (i + 1) := by have h9 := cpN_s (r := T) (g := (fun k => nI (xab (M 0) (p1 / 5) (p1 % 5) k))) (lo := 0) (n := i); rw [Nat.zero_add] at h9; exact h9
                                rw [updM_2, updM_eq, es] at hM
                                refine lv_iinc (v := nI (i + 1)) (lv' := [(8, .int (nI (i + 1))), (7, .int (nI (p1 % 5))), (6, .int (nI (p1 / 5))), (5, .int (nI p1)), (4, .int ((swM (M 0) p1).2.2)), (3, .int ((swM (M 0) p1).2.1)), (2, .int ((swM (M 0) p1).1)), (0, .ref w), (1, .int x)]) hx hb dX7_swap_166 hl (k := 0) rfl (nI_1 i) (by decide) rfl (fun ls hl => ?_)
                                refine lv_goto (tgt := 106) hx hb dX7_swap_169 (by decide) ?_
                                exact ih4 (i + 1) _ _ hS (by omega) hM (by omega) ls (lv_sub hl [0, 1, 2, 3, 4, 5, 6, 7, 8] rfl)
                              · have e9 : i = p1 % 5 := (nI_eq (by omega) (by omega)).mp e9
                                refine lv_iconst (v := 1) hx hb dX7_swap_155 (by decide) ?_
                                refine lv_goto (tgt := 160) hx hb dX7_swap_156 (by decide) ?_
                                refine lv_iadd hx hb dX7_swap_160 ?_
                                refine lv_goto (tgt := 165) hx hb dX7_swap_161 (by decide) ?_
                                rw [show nI (sv (M 0) i) + 1 = nI (xab (M 0) (p1 / 5) (p1 % 5) i) from by unfold xab; rw [if_pos e7, if_neg e8, if_pos e9]; exact nI_1 _]
                                refine r_iast hx hb hK hM.2.2.2.2.2.2.2.2.2.1 i (rfl) (h_i) (Nat.le_of_ble_eq_true rfl) hS (show _ ∧ _ from ⟨by omega, by omega⟩) dX7_swap_165 (fun H locs h1 o hS => ?_)
                                have hM := hM.a11 h1 o
                                have es : upd (cpN T (fun k => nI (xab (M 0) (p1 / 5) (p1 % 5) k)) 0 i) i (nI (xab (M 0) (p1 / 5) (p1 % 5) i)) = cpN T (fun k => nI (xab (M 0) (p1 / 5) (p1 % 5) k)) 0 (i + 1) := by have h9 := cpN_s (r := T) (g := (fun k => nI (xab (M 0) (p1 / 5) (p1 % 5) k))) (lo := 0) (n := i); rw [Nat.zero_add] at h9; exact h9
                                rw [updM_2, updM_eq, es] at hM
                                refine lv_iinc (v := nI (i + 1)) (lv' := [(8, .int (nI (i + 1))), (7, .int (nI (p1 % 5))), (6, .int (nI (p1 / 5))), (5, .int (nI p1)), (4, .int ((swM (M 0) p1).2.2)), (3, .int ((swM (M 0) p1).2.1)), (2, .int ((swM (M 0) p1).1)), (0, .ref w), (1, .int x)]) hx hb dX7_swap_166 hl (k := 0) rfl (nI_1 i) (by decide) rfl (fun ls hl => ?_)
                                refine lv_goto (tgt := 106) hx hb dX7_swap_169 (by decide) ?_
                                exact ih4 (i + 1) _ _ hS (by omega) hM (by omega) ls (lv_sub hl [0, 1, 2, 3, 4, 5, 6, 7, 8] rfl)
                            · have e8 : i = p1 / 5 := (nI_eq (by omega) (by omega)).mp e8
                              refine lv_iconst (v := (-1)) hx hb dX7_swap_144 (by decide) ?_
                              refine lv_goto (tgt := 160) hx hb dX7_swap_145 (by decide) ?_
                              refine lv_iadd hx hb dX7_swap_160 ?_
                              refine lv_goto (tgt := 165) hx hb dX7_swap_161 (by decide) ?_
                              rw [show nI (sv (M 0) i) + -1 = nI (xab (M 0) (p1 / 5) (p1 % 5) i) from by unfold xab; rw [if_pos e7, if_pos e8, i_p1]; exact pk_sub (b := 1) (by rw [e8]; exact hs1)]
                              refine r_iast hx hb hK hM.2.2.2.2.2.2.2.2.2.1 i (rfl) (h_i) (Nat.le_of_ble_eq_true rfl) hS (show _ ∧ _ from ⟨by omega, by omega⟩) dX7_swap_165 (fun H locs h1 o hS => ?_)
                              have hM := hM.a11 h1 o
                              have es : upd (cpN T (fun k => nI (xab (M 0) (p1 / 5) (p1 % 5) k)) 0 i) i (nI (xab (M 0) (p1 / 5) (p1 % 5) i)) = cpN T (fun k => nI (xab (M 0) (p1 / 5) (p1 % 5) k)) 0 (i + 1) := by have h9 := cpN_s (r := T) (g := (fun k => nI (xab (M 0) (p1 / 5) (p1 % 5) k))) (lo := 0) (n := i); rw [Nat.zero_add] at h9; exact h9
                              rw [updM_2, updM_eq, es] at hM
                              refine lv_iinc (v := nI (i + 1)) (lv' := [(8, .int (nI (i + 1))), (7, .int (nI (p1 % 5))), (6, .int (nI (p1 / 5))), (5, .int (nI p1)), (4, .int ((swM (M 0) p1).2.2)), (3, .int ((swM (M 0) p1).2.1)), (2, .int ((swM (M 0) p1).1)), (0, .ref w), (1, .int x)]) hx hb dX7_swap_166 hl (k := 0) rfl (nI_1 i) (by decide) rfl (fun ls hl => ?_)
                              refine lv_goto (tgt := 106) hx hb dX7_swap_169 (by decide) ?_
                              exact ih4 (i + 1) _ _ hS (by omega) hM (by omega) ls (lv_sub hl [0, 1, 2, 3, 4, 5, 6, 7, 8] rfl)
                    exact loop4 6 0 _ _ hS (by omega) (by rw [cpN_0]; exact hM) (by omega) ls (lv_sub hl [0, 1, 2, 3, 4, 5, 6, 7, 8] rfl)
                  · have es : swM (M 0) (p1 + 1) = swM (M 0) p1 := swM_n (fun q => q.2.2.2.1 e4)
                    refine lv_goto (tgt := 212) hx hb dX7_swap_100 (by decide) ?_
                    refine lv_iinc (v := nI (p1 + 1)) (lv' := [(5, .int (nI (p1 + 1))), (7, .int (nI (p1 % 5))), (6, .int (nI (p1 / 5))), (4, .int ((swM (M 0) p1).2.2)), (3, .int ((swM (M 0) p1).2.1)), (2, .int ((swM (M 0) p1).1)), (0, .ref w), (1, .int x)]) hx hb dX7_swap_212 hl (k := 2) rfl (nI_1 p1) (by decide) rfl (fun ls hl => ?_)
                    refine lv_goto (tgt := 41) hx hb dX7_swap_215 (by decide) ?_
                    have hl : lv_has ls 9 [(5, .int (nI (p1 + 1))), (7, .int (nI (p1 % 5))), (6, .int (nI (p1 / 5))), (4, .int ((swM (M 0) (p1 + 1)).2.2)), (3, .int ((swM (M 0) (p1 + 1)).2.1)), (2, .int ((swM (M 0) (p1 + 1)).1)), (0, .ref w), (1, .int x)] := by rw [es]; exact hl
                    exact ih (p1 + 1) T _ _ hS (by omega) hM (by omega) ls (lv_sub hl [0, 3, 4, 5, 6, 7] rfl)
      exact loop 26 0 (MD 11) _ _ hS (by omega) (by rw [updM_self rfl]; exact hM) (by omega) ls (lv_sub hl [0, 1, 2, 3, 4, 5] rfl)
    · refine lv_bipush (v := (-6)) hx hb dX7_swap_22 (by decide) ?_
      exact nd_I hQ hx hb hr hlocks dX7_swap_24 hS (⟨swR_2 hx2 c2, M, fun _ _ => rfl, hM⟩)
  · refine lv_bipush (v := (-2)) hx hb dX7_swap_10 (by decide) ?_
    exact nd_I hQ hx hb hr hlocks dX7_swap_12 hS (⟨swR_1 (bi_e0 c1), M, fun _ _ => rfl, hM⟩)


theorem nd_nI {r : Nat → Int32} (h : Iv r) {i g : Nat} (hi : i < 5) (hg : g ≤ 9999) : ndF r i (nI g) = nI ((g * sv r i + 19) / 20) := by
  obtain ⟨e, hs⟩ := sv_s h hi
  have hgs : g * sv r i ≤ 9999 * 20 := Nat.mul_le_mul hg hs
  unfold ndF
  rw [e, ad19, pk_mul, show (19 : Int32) = nI 19 from rfl, nI_add]
  exact pk_div (d := 20) (by omega) (by omega) (by omega)
theorem st_nI {r : Nat → Int32} (h : Iv r) {i : Nat} (hi : i < 5) : stF r i = nI (stF r i).toInt.toNat ∧ (stF r i).toInt.toNat ≤ 9999 := by
  obtain ⟨-, -, -, ⟨h1, h2⟩, -⟩ := h.2.2.2.2.1 i hi
  exact ⟨nI_of_toInt h1, by unfold stF; omega⟩
theorem gb_spec {r : Nat → Int32} (h : Iv r) : ∀ n : Nat, n ≤ 5 → ∃ gb, gbF r n = nI gb ∧ gb ≤ 9999 ∧ ∀ g, g ≤ 9999 → ((∀ i, i < n → ndF r i (nI g) ≤ stF r i) ↔ g ≤ gb)
  | 0, _ => ⟨9999, rfl, Nat.le_refl _, fun g hg => ⟨fun _ => hg, fun _ i hi => absurd hi (Nat.not_lt_zero _)⟩⟩
  | n + 1, hn => by
    obtain ⟨gb, e, hle, hiff⟩ := gb_spec h n (by omega)
    obtain ⟨es, hs⟩ := sv_s h (i := n) (by omega)
    obtain ⟨et, hst⟩ := st_nI h (i := n) (by omega)
    obtain ⟨st, hst'⟩ : ∃ st, st = (stF r n).toInt.toNat := ⟨_, rfl⟩
    rw [← hst'] at et hst
    have step : ∀ g, g ≤ 9999 → (ndF r n (nI g) ≤ stF r n ↔ g * sv r n ≤ 20 * st) := by
      intro g hg
      have hgs : g * sv r n ≤ 9999 * 20 := Nat.mul_le_mul hg hs
      rw [nd_nI h (by omega) hg, et, nI_leI (by omega) (by omega)]
      omega
    have both : ∀ g, (∀ i, i < n + 1 → ndF r i (nI g) ≤ stF r i) ↔ (∀ i, i < n → ndF r i (nI g) ≤ stF r i) ∧ ndF r n (nI g) ≤ stF r n :=
      fun g => ⟨fun q => ⟨fun i hi => q i (by omega), q n (by omega)⟩, fun q i hi => by
        by_cases z : i = n
        · rw [z]; exact q.2
        · exact q.1 i (by omega)⟩
    by_cases z : sv r n = 0
    · refine ⟨gb, ?_, hle, fun g hg => ?_⟩
      · show (if 0 < shF r n then mnI (gbF r n) (stF r n * 20 / shF r n) else gbF r n) = nI gb
        rw [if_neg (by rw [es, z]; decide), e]
      · rw [both, hiff g hg, step g hg, z]
        constructor
        · exact fun q => q.1
        · exact fun q => ⟨q, by omega⟩
    · refine ⟨min gb (20 * st / sv r n), ?_, by omega, fun g hg => ?_⟩
      · show (if 0 < shF r n then mnI (gbF r n) (stF r n * 20 / shF r n) else gbF r n) = _
        have hp : 0 < shF r n := by
          rw [es]
          have h9 := nI_lt (a := 0) (b := sv r n) (by omega) (by omega)
          exact h9
        have hq : 20 * st / sv r n ≤ 20 * st := Nat.div_le_self _ _
        rw [if_pos hp, e, et, es, show (20 : Int32) = nI 20 from rfl, pk_mul, pk_div (by omega) (by omega) (by omega), Nat.mul_comm st 20]
        unfold mnI
        by_cases y : nI (20 * st / sv r n) < nI gb
        · rw [if_pos y]
          rw [nI_ltI (by omega) (by omega)] at y
          congr 1
          omega
        · rw [if_neg y]
          rw [nI_ltI (by omega) (by omega)] at y
          congr 1
          omega
      · rw [both, hiff g hg, step g hg, ← Nat.le_div_iff_mul_le (by omega)]
        omega
def mgO (r : Nat → Int32) : Int32 := if whyF r 0 = 0 then gbF r (nlv r) else 0
theorem mgO_y {r : Nat → Int32} (h : whyF r 0 = 0) : mgO r = gbF r (nlv r) := if_pos h
theorem mgO_n {r : Nat → Int32} (h : ¬ whyF r 0 = 0) : 0 = mgO r := (if_neg h).symm

set_option maxHeartbeats 4000000 in
set_option maxRecDepth 100000 in
theorem k_X7_mostGrams (l : Launch) (G : GG) (w : Nat) (M : Nat → Nat → Int32)  (hv : Iv (M 0)) : Met l yX7_mostGrams (ws_ yX7_mostGrams cX7_mostGrams 2 (some .int)) (rm_ 4) (PC G [.ref w] (MdAt G w M)) (vp_Si (fun z => z = mgO (M 0))) 0 0 NoA := by
  refine met_q (by decide +kernel) (Nat.le_of_ble_eq_true rfl) ?_
  intro p e s m args below meth c Q hQ hx hb hr hT hown hml hlocks hnm hK hM ls hl
  have hl : lv_has ls 2 [(0, .ref w)] := hl
  have hw := hv.1
  have hn5 := hw.nl5
  obtain ⟨gb, egb, hgb, hiff⟩ := gb_spec hv (nlv (M 0)) hn5
  refine lv_aload_n hx hb dX7_mostGrams_0 rfl (lv_at hl 0 rfl) ?_
  refine lv_iconst (v := 0) hx hb dX7_mostGrams_1 (by decide) ?_
  refine got_i (run_i hx hb hml hown hT hK hl.1 (k_X7_reason l G w M 0 hw) (cw_X7_107 hT ⟨Nat.le_of_ble_eq_true rfl, Nat.le_of_ble_eq_true rfl⟩) hM.1 rfl hM rfl rfl (Nat.le_of_ble_eq_true rfl) dX7_mostGrams_2 ⟨Nat.zero_le _, Nat.zero_le _⟩) (fun v_1 hv_1 => ?_)
  subst hv_1
  refine lv_if_ne (tgt := 14) hx hb dX7_mostGrams_5 (by decide) (fun c1 => ?_) (fun c1 => ?_)
  · refine lv_iconst (v := 0) hx hb dX7_mostGrams_14 (by decide) ?_
    refine lv_istore_n (lv' := [(1, .int 0), (0, .ref w)]) hx hb dX7_mostGrams_15 rfl hl (by decide) rfl (fun ls hl => ?_)
    refine lv_iload_n hx hb dX7_mostGrams_16 rfl (lv_at hl 0 rfl) ?_
    refine lv_if_le (tgt := 34) hx hb dX7_mostGrams_17 (by decide) (fun cd => ?_) (fun cd => ?_)
    · refine lv_iload_n hx hb dX7_mostGrams_34 rfl (lv_at hl 0 rfl) ?_
      exact nd_i hQ hx hb hr hlocks dX7_mostGrams_35 (mgO_n c1)
    · exact absurd (by decide) cd
  · refine lv_sipush (v := 9999) hx hb dX7_mostGrams_8 (by decide) ?_
    refine lv_goto (tgt := 15) hx hb dX7_mostGrams_11 (by decide) ?_
    refine lv_istore_n (lv' := [(1, .int 9999), (0, .ref w)]) hx hb dX7_mostGrams_15 rfl hl (by decide) rfl (fun ls hl => ?_)
    have loop : ∀ (k : Nat) (g : Nat), gb ≤ g → g ≤ 9999 → g < k → ∀ ls : Array Slot, lv_has ls 2 [(1, .int (nI g)), (0, .ref w)] → W p l e (rm_ 4) s m args below meth c s.heap [] 0 0 Q (F0 m 16 ls []) := by
      intro k
      induction k with
      | zero => intro g hg hg9 hm; exact absurd hm (Nat.not_lt_zero _)
      | succ k ih =>
        intro g hg hg9 hm ls hl
        refine lv_iload_n hx hb dX7_mostGrams_16 rfl (lv_at hl 0 rfl) ?_
        refine lv_if_le (tgt := 34) hx hb dX7_mostGrams_17 (by decide) (fun cd => ?_) (fun cd => ?_)
        · have h9 : nI g ≤ nI 0 := cd
          rw [nI_leI (by omega) (by omega)] at h9
          have e0 : g = gb := by omega
          refine lv_iload_n hx hb dX7_mostGrams_34 rfl (lv_at hl 0 rfl) ?_
          exact nd_i hQ hx hb hr hlocks dX7_mostGrams_35 (by rw [mgO_y c1, egb, e0])
        · have hgp : 0 < g := by
            have h9 : ¬ nI g ≤ nI 0 := cd
            rw [nI_leI (by omega) (by omega)] at h9
            omega
          refine lv_aload_n hx hb dX7_mostGrams_20 rfl (lv_at hl 1 rfl) ?_
          refine lv_iload_n hx hb dX7_mostGrams_21 rfl (lv_at hl 0 rfl) ?_
          refine got_i (run_i hx hb hml hown hT hK hl.1 (k_X7_suffices l G w M (nI g) hw) (cw_X7_110 hT ⟨Nat.le_of_ble_eq_true rfl, Nat.le_of_ble_eq_true rfl⟩) hM.1 rfl hM rfl rfl (Nat.le_of_ble_eq_true rfl) dX7_mostGrams_22 ⟨Nat.zero_le _, Nat.zero_le _⟩) (fun v_2 hv_2 => ?_)
          subst hv_2
          refine lv_if_ne (tgt := 34) hx hb dX7_mostGrams_25 (by decide) (fun c3 => ?_) (fun c3 => ?_)
          · have e0 : g = gb := by have := (hiff g hg9).mp (bc_n0 c3); omega
            refine lv_iload_n hx hb dX7_mostGrams_34 rfl (lv_at hl 0 rfl) ?_
            exact nd_i hQ hx hb hr hlocks dX7_mostGrams_35 (by rw [mgO_y c1, egb, e0])
          · have hlt : ¬ g ≤ gb := fun q => bc_e0 c3 ((hiff g hg9).mpr q)
            refine lv_iinc (v := nI (g - 1)) (lv' := [(1, .int (nI (g - 1))), (0, .ref w)]) hx hb dX7_mostGrams_28 hl (k := 0) rfl ((show nI g + Int32.ofInt (-1) = nI (g - 1) from by rw [i_m1]; exact pk_sub (b := 1) hgp)) (by decide) rfl (fun ls hl => ?_)
            refine lv_goto (tgt := 16) hx hb dX7_mostGrams_31 (by decide) ?_
            exact ih (g - 1) (by omega) (by omega) (by omega) ls (lv_sub hl [0, 1] rfl)
    exact loop 10000 9999 hgb (Nat.le_refl _) (by omega) ls (lv_sub hl [0, 1] rfl)
