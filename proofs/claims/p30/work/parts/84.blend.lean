theorem blN_t {r : Nat → Int32} {t : Nat} (ht : t < 3) : blN r (1 + t) = tsS r t 0 / 20 := by
  have e : t = 0 ∨ t = 1 ∨ t = 2 := by omega
  rcases e with rfl | rfl | rfl <;> rfl
theorem cnN_4 {r : Nat → Int32} {j : Nat} (hj : j < 6) : cnN r 0 0 (4 + j) = r (6 + j) := by
  have e : j = 0 ∨ j = 1 ∨ j = 2 ∨ j = 3 ∨ j = 4 ∨ j = 5 := by omega
  rcases e with rfl | rfl | rfl | rfl | rfl | rfl <;> rfl
theorem y4t {t : Nat} (ht : t < 10) : (4 + nI t : Int32).toInt = ((4 + t : Nat) : Int) := by
  rw [show (4 : Int32) + nI t = nI (4 + t) from nI_add 4 t]
  exact nI_toInt (by omega)
theorem wyN_0y {r : Nat → Int32} (h : shS r = 20) : wyN r 0 = 0 := if_pos (decide_eq_true h)
theorem wyN_0n {r : Nat → Int32} (h : ¬ shS r = 20) : wyN r 0 = 1 := if_neg (fun q => h (of_decide_eq_true q))
theorem wyN_1 {r : Nat → Int32} {j : Nat} (h : wyN r j = 0) (h2 : brk r j = true) : 2 + nI j = wyN r (j + 1) := (nI_add 2 j).trans (wyf_y h h2).symm
theorem wyN_2 {r : Nat → Int32} {j : Nat} (h : ¬ wyN r j = 0) : wyN r j = wyN r (j + 1) := (wyf_n h).symm
theorem wyN_3 {r : Nat → Int32} {j : Nat} (h : brk r j = false) : wyN r j = wyN r (j + 1) := (wyf_m h).symm
theorem mkF_1 {r : Nat → Int32} {i : Nat} (h : ¬ shF r i ≤ 0) : mkF r i ||| 1 <<< (nI i &&& 31) = mkF r (i + 1) := (if_pos (i32_nle h)).symm
theorem mkF_0 {r : Nat → Int32} {i : Nat} (h : shF r i ≤ 0) : mkF r i ||| 0 = mkF r (i + 1) := (Int32.or_zero).trans (if_neg (i32_le_nlt h)).symm

set_option maxHeartbeats 4000000 in
set_option maxRecDepth 100000 in
theorem k_L_blend (l : Launch) (G : GG) (z : Nat) (r : Nat → Int32) (hv : Iv r) : Met l yL_blend (ws_ yL_blend cL_blend 8 (some .boolean)) (rm_ 5) (PC G [.ref z] (LO G z r)) (vp_Si (fun v => v = 1)) 0 0 NoA := by
  refine met_q (by decide +kernel) (Nat.le_of_ble_eq_true rfl) ?_
  intro p e s m args below meth c Q hQ hx hb hr hT hown hml hlocks hnm hK hO ls hl
  have hl : lv_has ls 8 [(0, .ref z)] := hl
  have hw := hv.1
  have h5 := hw.nl5
  refine lv_iconst (v := 0) hx hb dL_blend_0 (by decide) ?_
  refine lv_istore_n (lv' := [(1, .int 0), (0, .ref z)]) hx hb dL_blend_1 rfl hl (by decide) rfl (fun ls hl => ?_)
  refine lv_iconst (v := 0) hx hb dL_blend_2 (by decide) ?_
  refine lv_istore_n (lv' := [(2, .int 0), (1, .int 0), (0, .ref z)]) hx hb dL_blend_3 rfl hl (by decide) rfl (fun ls hl => ?_)
  refine lv_iconst (v := 0) hx hb dL_blend_4 (by decide) ?_
  refine lv_istore_n (lv' := [(3, .int 0), (2, .int 0), (1, .int 0), (0, .ref z)]) hx hb dL_blend_5 rfl hl (by decide) rfl (fun ls hl => ?_)
  refine lv_iconst (v := 0) hx hb dL_blend_6 (by decide) ?_
  refine lv_istore (lv' := [(4, .int 0), (3, .int 0), (2, .int 0), (1, .int 0), (0, .ref z)]) hx hb dL_blend_7 hl (by decide) rfl (fun ls hl => ?_)
  have loop : ∀ (k : Nat) (i : Nat), i ≤ nlv r → nlv r - i < k → ∀ ls : Array Slot, lv_has ls 8 [(0, .ref z), (1, .int (sm (shF r) i)), (2, .int (sm (fun i => shF r i * prF r i) i)), (3, .int (mkF r i)), (4, .int (nI i))] → W p l e (rm_ 5) s m args below meth c s.heap [] 0 0 Q (F0 m 9 ls []) := by
    intro k
    induction k with
    | zero => intro i hin hm; exact absurd hm (Nat.not_lt_zero _)
    | succ k ih =>
      intro i hin hm ls hl
      refine lv_iload hx hb dL_blend_9 (lv_at hl 4 rfl) ?_
      refine lv_aload_n hx hb dL_blend_11 rfl (lv_at hl 0 rfl) ?_
      refine lv_iconst (v := 1) hx hb dL_blend_12 (by decide) ?_
      refine got_i (run_i hx hb hml hown hT hK hl.1 (q_count l G z r 1 1 (by omega) (by decide)) (cw_L_9 hT ⟨Nat.le_of_ble_eq_true rfl, Nat.le_of_ble_eq_true rfl⟩) hO.te rfl hO rfl rfl (Nat.le_of_ble_eq_true rfl) dL_blend_13 ⟨Nat.zero_le _, Nat.zero_le _⟩) (fun v_1 hv_1 => ?_)
      obtain rfl : v_1 = nI (nlv r) := hv_1.trans hw.nl
      refine lv_icmp_ge (tgt := 77) hx hb dL_blend_16 (by decide) (fun c1 => ?_) (fun c1 => ?_)
      · obtain rfl : i = nlv r := by
          have := (nI_leI (by omega) (by omega)).mp c1
          omega
        have hl : lv_has ls 8 [(0, .ref z), (1, .int (shS r)), (2, .int (prS r)), (3, .int (mkF r (nlv r))), (4, .int (nI (nlv r)))] := hl
        have rest : ∀ (ls : Array Slot), lv_has ls 8 [(0, .ref z), (1, .int (shS r)), (2, .int (prS r)), (3, .int (mkF r (nlv r))), (4, .int (wyN r 0))] → W p l e (rm_ 5) s m args below meth c s.heap [] 0 0 Q (F0 m 90 ls []) := by
          intro ls hl
          refine lv_iconst (v := 0) hx hb dL_blend_90 (by decide) ?_
          refine lv_istore (lv' := [(5, .int 0), (0, .ref z), (1, .int (shS r)), (2, .int (prS r)), (3, .int (mkF r (nlv r))), (4, .int (wyN r 0))]) hx hb dL_blend_91 hl (by decide) rfl (fun ls hl => ?_)
          have loop2 : ∀ (k : Nat) (j : Nat), j ≤ 6 → 6 - j < k → ∀ ls : Array Slot, lv_has ls 8 [(0, .ref z), (1, .int (shS r)), (2, .int (prS r)), (3, .int (mkF r (nlv r))), (4, .int (wyN r j)), (5, .int (nI j))] → W p l e (rm_ 5) s m args below meth c s.heap [] 0 0 Q (F0 m 93 ls []) := by
            intro k
            induction k with
            | zero => intro j hj hm; exact absurd hm (Nat.not_lt_zero _)
            | succ k ih =>
              intro j hj hm ls hl
              refine lv_iload hx hb dL_blend_93 (lv_at hl 5 rfl) ?_
              refine lv_bipush (v := 6) hx hb dL_blend_95 (by decide) ?_
              refine lv_icmp_ge (tgt := 248) hx hb dL_blend_97 (by decide) (fun c2 => ?_) (fun c2 => ?_)
              · obtain rfl : j = 6 := by
                  have := (nI_leI (a := 6) (by omega) (by omega)).mp c2
                  omega
                rw [wyN_6] at hl
                refine lv_aload_n hx hb dL_blend_248 rfl (lv_at hl 0 rfl) ?_
                refine lv_iconst (v := 0) hx hb dL_blend_249 (by decide) ?_
                refine got_i (run_i hx hb hml hown hT hK hl.1 (q_blend l G z r 0 0 hw (by omega) (by decide)) (cw_L_25 hT ⟨Nat.le_of_ble_eq_true rfl, Nat.le_of_ble_eq_true rfl⟩) hO.te rfl hO rfl rfl (Nat.le_of_ble_eq_true rfl) dL_blend_250 ⟨Nat.zero_le _, Nat.zero_le _⟩) (fun v_2 hv_2 => ?_)
                obtain rfl : v_2 = prS r / 20 := hv_2
                refine lv_iload_n hx hb dL_blend_253 rfl (lv_at hl 2 rfl) ?_
                refine lv_bipush (v := 20) hx hb dL_blend_254 (by decide) ?_
                refine lv_idiv hx hb dL_blend_256 (by decide) ?_
                refine lv_icmp_ne (tgt := 328) hx hb dL_blend_257 (by decide) (fun c_3 => absurd (rfl) c_3) (fun _ => ?_)
                refine lv_aload_n hx hb dL_blend_260 rfl (lv_at hl 0 rfl) ?_
                refine lv_iconst (v := 4) hx hb dL_blend_261 (by decide) ?_
                refine got_i (run_i hx hb hml hown hT hK hl.1 (q_blend l G z r 4 4 hw (by omega) (by decide)) (cw_L_25 hT ⟨Nat.le_of_ble_eq_true rfl, Nat.le_of_ble_eq_true rfl⟩) hO.te rfl hO rfl rfl (Nat.le_of_ble_eq_true rfl) dL_blend_262 ⟨Nat.zero_le _, Nat.zero_le _⟩) (fun v_4 hv_4 => ?_)
                obtain rfl : v_4 = shS r := hv_4
                refine lv_iload_n hx hb dL_blend_265 rfl (lv_at hl 1 rfl) ?_
                refine lv_icmp_ne (tgt := 328) hx hb dL_blend_266 (by decide) (fun c_5 => absurd (rfl) c_5) (fun _ => ?_)
                refine lv_aload_n hx hb dL_blend_269 rfl (lv_at hl 0 rfl) ?_
                refine lv_iconst (v := 5) hx hb dL_blend_270 (by decide) ?_
                refine got_i (run_i hx hb hml hown hT hK hl.1 (q_blend l G z r 5 5 hw (by omega) (by decide)) (cw_L_25 hT ⟨Nat.le_of_ble_eq_true rfl, Nat.le_of_ble_eq_true rfl⟩) hO.te rfl hO rfl rfl (Nat.le_of_ble_eq_true rfl) dL_blend_271 ⟨Nat.zero_le _, Nat.zero_le _⟩) (fun v_6 hv_6 => ?_)
                obtain rfl : v_6 = mkF r (nlv r) := hv_6
                refine lv_iload_n hx hb dL_blend_274 rfl (lv_at hl 3 rfl) ?_
                refine lv_icmp_ne (tgt := 328) hx hb dL_blend_275 (by decide) (fun c_7 => absurd (rfl) c_7) (fun _ => ?_)
                refine lv_aload_n hx hb dL_blend_278 rfl (lv_at hl 0 rfl) ?_
                refine got_i (run_i hx hb hml hown hT hK hl.1 (q_why l G z r hw) (cw_L_28 hT ⟨Nat.le_of_ble_eq_true rfl, Nat.le_of_ble_eq_true rfl⟩) hO.te rfl hO rfl rfl (Nat.le_of_ble_eq_true rfl) dL_blend_279 ⟨Nat.zero_le _, Nat.zero_le _⟩) (fun v_8 hv_8 => ?_)
                obtain rfl : v_8 = whyF r 0 := hv_8
                refine lv_iload hx hb dL_blend_282 (lv_at hl 4 rfl) ?_
                refine lv_icmp_ne (tgt := 328) hx hb dL_blend_284 (by decide) (fun c_9 => absurd (rfl) c_9) (fun _ => ?_)
                refine lv_aload_n hx hb dL_blend_287 rfl (lv_at hl 0 rfl) ?_
                refine got_i (run_i hx hb hml hown hT hK hl.1 (q_keepsFor l G z r hw) (cw_L_32 hT ⟨Nat.le_of_ble_eq_true rfl, Nat.le_of_ble_eq_true rfl⟩) hO.te rfl hO rfl rfl (Nat.le_of_ble_eq_true rfl) dL_blend_288 ⟨Nat.zero_le _, Nat.zero_le _⟩) (fun v_10 hv_10 => ?_)
                obtain rfl : v_10 = kfG r 401 0 := hv_10
                by_cases hy : whyF r 0 = 0
                · refine lv_if_ne (tgt := 298) hx hb dL_blend_291 (by decide) (fun _ => ?_) (fun c_11 => absurd c_11 (kf_y hy))
                  refine lv_iconst (v := 0) hx hb dL_blend_298 (by decide) ?_
                  refine lv_iload hx hb dL_blend_299 (lv_at hl 4 rfl) ?_
                  refine lv_if_eq (tgt := 308) hx hb dL_blend_301 (by decide) (fun _ => ?_) (fun c_12 => absurd (hy) c_12)
                  refine lv_iconst (v := 0) hx hb dL_blend_308 (by decide) ?_
                  refine lv_icmp_ne (tgt := 328) hx hb dL_blend_309 (by decide) (fun c_13 => absurd (rfl) c_13) (fun _ => ?_)
                  refine lv_iload hx hb dL_blend_312 (lv_at hl 4 rfl) ?_
                  refine lv_if_eq (tgt := 324) hx hb dL_blend_314 (by decide) (fun _ => ?_) (fun c_14 => absurd (hy) c_14)
                  refine lv_iconst (v := 1) hx hb dL_blend_324 (by decide) ?_
                  refine lv_goto (tgt := 329) hx hb dL_blend_325 (by decide) ?_
                  exact nd_z hQ hx hb hr hlocks dL_blend_329 (Or.inr rfl) (rfl)
                · refine lv_if_ne (tgt := 298) hx hb dL_blend_291 (by decide) (fun c_15 => absurd (kf_n hy) c_15) (fun _ => ?_)
                  refine lv_iconst (v := 1) hx hb dL_blend_294 (by decide) ?_
                  refine lv_goto (tgt := 299) hx hb dL_blend_295 (by decide) ?_
                  refine lv_iload hx hb dL_blend_299 (lv_at hl 4 rfl) ?_
                  refine lv_if_eq (tgt := 308) hx hb dL_blend_301 (by decide) (fun c_16 => absurd c_16 (hy)) (fun _ => ?_)
                  refine lv_iconst (v := 1) hx hb dL_blend_304 (by decide) ?_
                  refine lv_goto (tgt := 309) hx hb dL_blend_305 (by decide) ?_
                  refine lv_icmp_ne (tgt := 328) hx hb dL_blend_309 (by decide) (fun c_17 => absurd (rfl) c_17) (fun _ => ?_)
                  refine lv_iload hx hb dL_blend_312 (lv_at hl 4 rfl) ?_
                  refine lv_if_eq (tgt := 324) hx hb dL_blend_314 (by decide) (fun c_18 => absurd c_18 (hy)) (fun _ => ?_)
                  refine lv_aload_n hx hb dL_blend_317 rfl (lv_at hl 0 rfl) ?_
                  refine got_i (run_i hx hb hml hown hT hK hl.1 (q_mostGrams l G z r hw) (cw_L_35 hT ⟨Nat.le_of_ble_eq_true rfl, Nat.le_of_ble_eq_true rfl⟩) hO.te rfl hO rfl rfl (Nat.le_of_ble_eq_true rfl) dL_blend_318 ⟨Nat.zero_le _, Nat.zero_le _⟩) (fun v_19 hv_19 => ?_)
                  obtain rfl : v_19 = mgO r := hv_19
                  refine lv_if_ne (tgt := 328) hx hb dL_blend_321 (by decide) (fun c_20 => absurd (mgO_n hy) c_20) (fun _ => ?_)
                  refine lv_iconst (v := 1) hx hb dL_blend_324 (by decide) ?_
                  refine lv_goto (tgt := 329) hx hb dL_blend_325 (by decide) ?_
                  exact nd_z hQ hx hb hr hlocks dL_blend_329 (Or.inr rfl) (rfl)
              · have hj6 : j < 6 := by
                  have : ¬ 6 ≤ j := fun q => c2 (nI_le (a := 6) q (by omega))
                  omega
                have h3 : j % 3 < 3 := by
                  omega
                have ihO := ih
                refine lv_iconst (v := 0) hx hb dL_blend_100 (by decide) ?_
                refine lv_istore (lv' := [(6, .int 0), (0, .ref z), (1, .int (shS r)), (2, .int (prS r)), (3, .int (mkF r (nlv r))), (4, .int (wyN r j)), (5, .int (nI j))]) hx hb dL_blend_101 hl (by decide) rfl (fun ls hl => ?_)
                refine lv_iconst (v := 0) hx hb dL_blend_103 (by decide) ?_
                refine lv_istore (lv' := [(7, .int 0), (6, .int 0), (0, .ref z), (1, .int (shS r)), (2, .int (prS r)), (3, .int (mkF r (nlv r))), (4, .int (wyN r j)), (5, .int (nI j))]) hx hb dL_blend_104 hl (by decide) rfl (fun ls hl => ?_)
                have loop3 : ∀ (k : Nat) (i : Nat), i ≤ nlv r → nlv r - i < k → ∀ ls : Array Slot, lv_has ls 8 [(0, .ref z), (1, .int (shS r)), (2, .int (prS r)), (3, .int (mkF r (nlv r))), (4, .int (wyN r j)), (5, .int (nI j)), (6, .int (sm (fun i => shF r i * tsF r i (j % 3) 0) i)), (7, .int (nI i))] → W p l e (rm_ 5) s m args below meth c s.heap [] 0 0 Q (F0 m 106 ls []) := by
                  intro k
                  induction k with
                  | zero => intro i hin2 hm; exact absurd hm (Nat.not_lt_zero _)
                  | succ k ih =>
                    intro i hin2 hm ls hl
                    refine lv_iload hx hb dL_blend_106 (lv_at hl 7 rfl) ?_
                    refine lv_aload_n hx hb dL_blend_108 rfl (lv_at hl 0 rfl) ?_
                    refine lv_iconst (v := 1) hx hb dL_blend_109 (by decide) ?_
                    refine got_i (run_i hx hb hml hown hT hK hl.1 (q_count l G z r 1 1 (by omega) (by decide)) (cw_L_9 hT ⟨Nat.le_of_ble_eq_true rfl, Nat.le_of_ble_eq_true rfl⟩) hO.te rfl hO rfl rfl (Nat.le_of_ble_eq_true rfl) dL_blend_110 ⟨Nat.zero_le _, Nat.zero_le _⟩) (fun v_21 hv_21 => ?_)
                    obtain rfl : v_21 = nI (nlv r) := hv_21.trans hw.nl
                    refine lv_icmp_ge (tgt := 148) hx hb dL_blend_113 (by decide) (fun c3 => ?_) (fun c3 => ?_)
                    · obtain rfl : i = nlv r := by
                        have := (nI_leI (by omega) (by omega)).mp c3
                        omega
                      have hl : lv_has ls 8 [(0, .ref z), (1, .int (shS r)), (2, .int (prS r)), (3, .int (mkF r (nlv r))), (4, .int (wyN r j)), (5, .int (nI j)), (6, .int (tsS r (j % 3) 0)), (7, .int (nI (nlv r)))] := hl
                      refine lv_aload_n hx hb dL_blend_148 rfl (lv_at hl 0 rfl) ?_
                      refine lv_iconst (v := 1) hx hb dL_blend_149 (by decide) ?_
                      refine lv_iload hx hb dL_blend_150 (lv_at hl 5 rfl) ?_
                      refine lv_iconst (v := 3) hx hb dL_blend_152 (by decide) ?_
                      refine lv_irem hx hb dL_blend_153 (by decide) ?_
                      have e_22 : (nI j) - (nI j) / 3 * 3 = nI (j % 3) := pk_rem (d := 3) (by omega) (by omega) (by omega)
                      rw [e_22]
                      refine lv_iadd hx hb dL_blend_154 ?_
                      refine got_i (run_i hx hb hml hown hT hK hl.1 (q_blend l G z r (1 + j % 3) (1 + (nI (j % 3))) hw (by omega) (y1t (by omega))) (cw_L_25 hT ⟨Nat.le_of_ble_eq_true rfl, Nat.le_of_ble_eq_true rfl⟩) hO.te rfl hO rfl rfl (Nat.le_of_ble_eq_true rfl) dL_blend_155 ⟨Nat.zero_le _, Nat.zero_le _⟩) (fun v_23 hv_23 => ?_)
                      obtain rfl : v_23 = tsS r (j % 3) 0 / 20 := hv_23.trans (blN_t h3)
                      refine lv_iload hx hb dL_blend_158 (lv_at hl 6 rfl) ?_
                      refine lv_bipush (v := 20) hx hb dL_blend_160 (by decide) ?_
                      refine lv_idiv hx hb dL_blend_162 (by decide) ?_
                      refine lv_icmp_eq (tgt := 168) hx hb dL_blend_163 (by decide) (fun _ => ?_) (fun c_24 => absurd (rfl) c_24)
                      have fin1 : brk r j = true → ∀ ls : Array Slot, lv_has ls 8 [(0, .ref z), (1, .int (shS r)), (2, .int (prS r)), (3, .int (mkF r (nlv r))), (4, .int (wyN r j)), (5, .int (nI j)), (6, .int (tsS r (j % 3) 0)), (7, .int 1)] → W p l e (rm_ 5) s m args below meth c s.heap [] 0 0 Q (F0 m 221 ls []) := by
                        intro hbr ls hl
                        refine lv_iload hx hb dL_blend_221 (lv_at hl 4 rfl) ?_
                        refine lv_if_ne (tgt := 238) hx hb dL_blend_223 (by decide) (fun c4 => ?_) (fun c4 => ?_)
                        · refine lv_iload hx hb dL_blend_238 (lv_at hl 4 rfl) ?_
                          have e_25 : wyN r j = wyN r (j + 1) := wyN_2 c4
                          rw [e_25]
                          refine lv_istore (lv' := [(4, .int (wyN r (j + 1))), (0, .ref z), (1, .int (shS r)), (2, .int (prS r)), (3, .int (mkF r (nlv r))), (5, .int (nI j)), (6, .int (tsS r (j % 3) 0)), (7, .int 1)]) hx hb dL_blend_240 hl (by decide) rfl (fun ls hl => ?_)
                          refine lv_iinc (v := nI (j + 1)) (lv' := [(5, .int (nI (j + 1))), (4, .int (wyN r (j + 1))), (0, .ref z), (1, .int (shS r)), (2, .int (prS r)), (3, .int (mkF r (nlv r))), (6, .int (tsS r (j % 3) 0)), (7, .int 1)]) hx hb dL_blend_242 hl (k := 5) rfl (nI_1 j) (by decide) rfl (fun ls hl => ?_)
                          refine lv_goto (tgt := 93) hx hb dL_blend_245 (by decide) ?_
                          exact ihO (j + 1) (by omega) (by omega) ls (lv_sub hl [2, 3, 4, 5, 1, 0] rfl)
                        · refine lv_iload hx hb dL_blend_226 (lv_at hl 7 rfl) ?_
                          refine lv_if_eq (tgt := 238) hx hb dL_blend_228 (by decide) (fun c_26 => absurd c_26 (by decide)) (fun _ => ?_)
                          refine lv_iconst (v := 2) hx hb dL_blend_231 (by decide) ?_
                          refine lv_iload hx hb dL_blend_232 (lv_at hl 5 rfl) ?_
                          refine lv_iadd hx hb dL_blend_234 ?_
                          refine lv_goto (tgt := 240) hx hb dL_blend_235 (by decide) ?_
                          have e_27 : 2 + (nI j) = wyN r (j + 1) := wyN_1 c4 hbr
                          rw [e_27]
                          refine lv_istore (lv' := [(4, .int (wyN r (j + 1))), (0, .ref z), (1, .int (shS r)), (2, .int (prS r)), (3, .int (mkF r (nlv r))), (5, .int (nI j)), (6, .int (tsS r (j % 3) 0)), (7, .int 1)]) hx hb dL_blend_240 hl (by decide) rfl (fun ls hl => ?_)
                          refine lv_iinc (v := nI (j + 1)) (lv' := [(5, .int (nI (j + 1))), (4, .int (wyN r (j + 1))), (0, .ref z), (1, .int (shS r)), (2, .int (prS r)), (3, .int (mkF r (nlv r))), (6, .int (tsS r (j % 3) 0)), (7, .int 1)]) hx hb dL_blend_242 hl (k := 5) rfl (nI_1 j) (by decide) rfl (fun ls hl => ?_)
                          refine lv_goto (tgt := 93) hx hb dL_blend_245 (by decide) ?_
                          exact ihO (j + 1) (by omega) (by omega) ls (lv_sub hl [2, 3, 4, 5, 1, 0] rfl)
                      have fin0 : brk r j = false → ∀ ls : Array Slot, lv_has ls 8 [(0, .ref z), (1, .int (shS r)), (2, .int (prS r)), (3, .int (mkF r (nlv r))), (4, .int (wyN r j)), (5, .int (nI j)), (6, .int (tsS r (j % 3) 0)), (7, .int 0)] → W p l e (rm_ 5) s m args below meth c s.heap [] 0 0 Q (F0 m 221 ls []) := by
                        intro hbr ls hl
                        refine lv_iload hx hb dL_blend_221 (lv_at hl 4 rfl) ?_
                        refine lv_if_ne (tgt := 238) hx hb dL_blend_223 (by decide) (fun c4 => ?_) (fun c4 => ?_)
                        · refine lv_iload hx hb dL_blend_238 (lv_at hl 4 rfl) ?_
                          have e_28 : wyN r j = wyN r (j + 1) := wyN_3 hbr
                          rw [e_28]
                          refine lv_istore (lv' := [(4, .int (wyN r (j + 1))), (0, .ref z), (1, .int (shS r)), (2, .int (prS r)), (3, .int (mkF r (nlv r))), (5, .int (nI j)), (6, .int (tsS r (j % 3) 0)), (7, .int 0)]) hx hb dL_blend_240 hl (by decide) rfl (fun ls hl => ?_)
                          refine lv_iinc (v := nI (j + 1)) (lv' := [(5, .int (nI (j + 1))), (4, .int (wyN r (j + 1))), (0, .ref z), (1, .int (shS r)), (2, .int (prS r)), (3, .int (mkF r (nlv r))), (6, .int (tsS r (j % 3) 0)), (7, .int 0)]) hx hb dL_blend_242 hl (k := 5) rfl (nI_1 j) (by decide) rfl (fun ls hl => ?_)
                          refine lv_goto (tgt := 93) hx hb dL_blend_245 (by decide) ?_
                          exact ihO (j + 1) (by omega) (by omega) ls (lv_sub hl [2, 3, 4, 5, 1, 0] rfl)
                        · refine lv_iload hx hb dL_blend_226 (lv_at hl 7 rfl) ?_
                          refine lv_if_eq (tgt := 238) hx hb dL_blend_228 (by decide) (fun _ => ?_) (fun c_29 => absurd (rfl) c_29)
                          refine lv_iload hx hb dL_blend_238 (lv_at hl 4 rfl) ?_
                          have e_30 : wyN r j = wyN r (j + 1) := wyN_3 hbr
                          rw [e_30]
                          refine lv_istore (lv' := [(4, .int (wyN r (j + 1))), (0, .ref z), (1, .int (shS r)), (2, .int (prS r)), (3, .int (mkF r (nlv r))), (5, .int (nI j)), (6, .int (tsS r (j % 3) 0)), (7, .int 0)]) hx hb dL_blend_240 hl (by decide) rfl (fun ls hl => ?_)
                          refine lv_iinc (v := nI (j + 1)) (lv' := [(5, .int (nI (j + 1))), (4, .int (wyN r (j + 1))), (0, .ref z), (1, .int (shS r)), (2, .int (prS r)), (3, .int (mkF r (nlv r))), (6, .int (tsS r (j % 3) 0)), (7, .int 0)]) hx hb dL_blend_242 hl (k := 5) rfl (nI_1 j) (by decide) rfl (fun ls hl => ?_)
                          refine lv_goto (tgt := 93) hx hb dL_blend_245 (by decide) ?_
                          exact ihO (j + 1) (by omega) (by omega) ls (lv_sub hl [2, 3, 4, 5, 1, 0] rfl)
                      refine lv_iload hx hb dL_blend_168 (lv_at hl 5 rfl) ?_
                      refine lv_iconst (v := 3) hx hb dL_blend_170 (by decide) ?_
                      refine lv_icmp_ge (tgt := 198) hx hb dL_blend_171 (by decide) (fun c5 => ?_) (fun c5 => ?_)
                      · have hj3 : ¬ j < 3 := by
                          have := (nI_leI (a := 3) (by omega) (by omega)).mp c5
                          omega
                        refine lv_iload hx hb dL_blend_198 (lv_at hl 6 rfl) ?_
                        refine lv_bipush (v := 20) hx hb dL_blend_200 (by decide) ?_
                        refine lv_idiv hx hb dL_blend_202 (by decide) ?_
                        refine lv_aload_n hx hb dL_blend_203 rfl (lv_at hl 0 rfl) ?_
                        refine lv_iconst (v := 4) hx hb dL_blend_204 (by decide) ?_
                        refine lv_iload hx hb dL_blend_205 (lv_at hl 5 rfl) ?_
                        refine lv_iadd hx hb dL_blend_207 ?_
                        refine got_i (run_i hx hb hml hown hT hK hl.1 (q_count l G z r (4 + j) (4 + (nI j)) (by omega) (y4t (by omega))) (cw_L_9 hT ⟨Nat.le_of_ble_eq_true rfl, Nat.le_of_ble_eq_true rfl⟩) hO.te rfl hO rfl rfl (Nat.le_of_ble_eq_true rfl) dL_blend_208 ⟨Nat.zero_le _, Nat.zero_le _⟩) (fun v_31 hv_31 => ?_)
                        obtain rfl : v_31 = r (6 + j) := hv_31.trans (cnN_4 hj6)
                        refine lv_icmp_le (tgt := 218) hx hb dL_blend_211 (by decide) (fun c6 => ?_) (fun c6 => ?_)
                        · refine lv_iconst (v := 0) hx hb dL_blend_218 (by decide) ?_
                          refine lv_istore (lv' := [(7, .int 0), (0, .ref z), (1, .int (shS r)), (2, .int (prS r)), (3, .int (mkF r (nlv r))), (4, .int (wyN r j)), (5, .int (nI j)), (6, .int (tsS r (j % 3) 0))]) hx hb dL_blend_219 hl (by decide) rfl (fun ls hl => ?_)
                          exact fin0 (brk_4 hj3 rfl c6) ls (lv_sub hl [1, 2, 3, 4, 5, 6, 7, 0] rfl)
                        · refine lv_iconst (v := 1) hx hb dL_blend_214 (by decide) ?_
                          refine lv_goto (tgt := 219) hx hb dL_blend_215 (by decide) ?_
                          refine lv_istore (lv' := [(7, .int 1), (0, .ref z), (1, .int (shS r)), (2, .int (prS r)), (3, .int (mkF r (nlv r))), (4, .int (wyN r j)), (5, .int (nI j)), (6, .int (tsS r (j % 3) 0))]) hx hb dL_blend_219 hl (by decide) rfl (fun ls hl => ?_)
                          exact fin1 (brk_3 hj3 rfl c6) ls (lv_sub hl [1, 2, 3, 4, 5, 6, 7, 0] rfl)
                      · have hj3 : j < 3 := by
                          have : ¬ 3 ≤ j := fun q => c5 (nI_le (a := 3) q (by omega))
                          omega
                        refine lv_iload hx hb dL_blend_174 (lv_at hl 6 rfl) ?_
                        refine lv_bipush (v := 20) hx hb dL_blend_176 (by decide) ?_
                        refine lv_idiv hx hb dL_blend_178 (by decide) ?_
                        refine lv_aload_n hx hb dL_blend_179 rfl (lv_at hl 0 rfl) ?_
                        refine lv_iconst (v := 4) hx hb dL_blend_180 (by decide) ?_
                        refine lv_iload hx hb dL_blend_181 (lv_at hl 5 rfl) ?_
                        refine lv_iadd hx hb dL_blend_183 ?_
                        refine got_i (run_i hx hb hml hown hT hK hl.1 (q_count l G z r (4 + j) (4 + (nI j)) (by omega) (y4t (by omega))) (cw_L_9 hT ⟨Nat.le_of_ble_eq_true rfl, Nat.le_of_ble_eq_true rfl⟩) hO.te rfl hO rfl rfl (Nat.le_of_ble_eq_true rfl) dL_blend_184 ⟨Nat.zero_le _, Nat.zero_le _⟩) (fun v_32 hv_32 => ?_)
                        obtain rfl : v_32 = r (6 + j) := hv_32.trans (cnN_4 hj6)
                        refine lv_icmp_ge (tgt := 194) hx hb dL_blend_187 (by decide) (fun c6 => ?_) (fun c6 => ?_)
                        · refine lv_iconst (v := 0) hx hb dL_blend_194 (by decide) ?_
                          refine lv_goto (tgt := 219) hx hb dL_blend_195 (by decide) ?_
                          refine lv_istore (lv' := [(7, .int 0), (0, .ref z), (1, .int (shS r)), (2, .int (prS r)), (3, .int (mkF r (nlv r))), (4, .int (wyN r j)), (5, .int (nI j)), (6, .int (tsS r (j % 3) 0))]) hx hb dL_blend_219 hl (by decide) rfl (fun ls hl => ?_)
                          exact fin0 (brk_2 hj3 rfl c6) ls (lv_sub hl [1, 2, 3, 4, 5, 6, 7, 0] rfl)
                        · refine lv_iconst (v := 1) hx hb dL_blend_190 (by decide) ?_
                          refine lv_goto (tgt := 219) hx hb dL_blend_191 (by decide) ?_
                          refine lv_istore (lv' := [(7, .int 1), (0, .ref z), (1, .int (shS r)), (2, .int (prS r)), (3, .int (mkF r (nlv r))), (4, .int (wyN r j)), (5, .int (nI j)), (6, .int (tsS r (j % 3) 0))]) hx hb dL_blend_219 hl (by decide) rfl (fun ls hl => ?_)
                          exact fin1 (brk_1 hj3 rfl c6) ls (lv_sub hl [1, 2, 3, 4, 5, 6, 7, 0] rfl)
                    · have hi : i < nlv r := by
                        have : ¬ nlv r ≤ i := fun q => c3 (nI_le q (by omega))
                        omega
                      refine lv_iload hx hb dL_blend_116 (lv_at hl 6 rfl) ?_
                      refine lv_aload_n hx hb dL_blend_118 rfl (lv_at hl 0 rfl) ?_
                      refine lv_iload hx hb dL_blend_119 (lv_at hl 7 rfl) ?_
                      refine lv_bipush (v := 6) hx hb dL_blend_121 (by decide) ?_
                      refine got_i (run_i hx hb hml hown hT hK hl.1 (q_of l G z r i 6 6 hw hi (by omega) (by decide)) (cw_L_15 hT ⟨Nat.le_of_ble_eq_true rfl, Nat.le_of_ble_eq_true rfl⟩) hO.te rfl hO rfl rfl (Nat.le_of_ble_eq_true rfl) dL_blend_123 ⟨Nat.zero_le _, Nat.zero_le _⟩) (fun v_33 hv_33 => ?_)
                      obtain rfl : v_33 = shF r i := hv_33
                      refine lv_aload_n hx hb dL_blend_126 rfl (lv_at hl 0 rfl) ?_
                      refine lv_iload hx hb dL_blend_127 (lv_at hl 7 rfl) ?_
                      refine lv_iconst (v := 1) hx hb dL_blend_129 (by decide) ?_
                      refine lv_iload hx hb dL_blend_130 (lv_at hl 5 rfl) ?_
                      refine lv_iconst (v := 3) hx hb dL_blend_132 (by decide) ?_
                      refine lv_irem hx hb dL_blend_133 (by decide) ?_
                      have e_34 : (nI j) - (nI j) / 3 * 3 = nI (j % 3) := pk_rem (d := 3) (by omega) (by omega) (by omega)
                      rw [e_34]
                      refine lv_iadd hx hb dL_blend_134 ?_
                      refine got_i (run_i hx hb hml hown hT hK hl.1 (q_of l G z r i (1 + j % 3) (1 + (nI (j % 3))) hw hi (by omega) (y1t (by omega))) (cw_L_15 hT ⟨Nat.le_of_ble_eq_true rfl, Nat.le_of_ble_eq_true rfl⟩) hO.te rfl hO rfl rfl (Nat.le_of_ble_eq_true rfl) dL_blend_135 ⟨Nat.zero_le _, Nat.zero_le _⟩) (fun v_35 hv_35 => ?_)
                      obtain rfl : v_35 = tsF r i (j % 3) 0 := hv_35.trans (ofN_t h3)
                      refine lv_imul hx hb dL_blend_138 ?_
                      refine lv_iadd hx hb dL_blend_139 ?_
                      refine lv_istore (lv' := [(6, .int ((sm (fun i => shF r i * tsF r i (j % 3) 0) i) + ((shF r i) * (tsF r i (j % 3) 0)))), (0, .ref z), (1, .int (shS r)), (2, .int (prS r)), (3, .int (mkF r (nlv r))), (4, .int (wyN r j)), (5, .int (nI j)), (7, .int (nI i))]) hx hb dL_blend_140 hl (by decide) rfl (fun ls hl => ?_)
                      refine lv_iinc (v := nI (i + 1)) (lv' := [(7, .int (nI (i + 1))), (6, .int ((sm (fun i => shF r i * tsF r i (j % 3) 0) i) + ((shF r i) * (tsF r i (j % 3) 0)))), (0, .ref z), (1, .int (shS r)), (2, .int (prS r)), (3, .int (mkF r (nlv r))), (4, .int (wyN r j)), (5, .int (nI j))]) hx hb dL_blend_142 hl (k := 7) rfl (nI_1 i) (by decide) rfl (fun ls hl => ?_)
                      refine lv_goto (tgt := 106) hx hb dL_blend_145 (by decide) ?_
                      exact ih (i + 1) (by omega) (by omega) ls (lv_sub hl [2, 3, 4, 5, 6, 7, 1, 0] rfl)
                exact loop3 6 0 (by omega) (by omega) ls (lv_sub hl [2, 3, 4, 5, 6, 7, 1, 0] rfl)
          exact loop2 7 0 (by omega) (by omega) ls (lv_sub hl [1, 2, 3, 4, 5, 0] rfl)
        refine lv_iload_n hx hb dL_blend_77 rfl (lv_at hl 1 rfl) ?_
        refine lv_bipush (v := 20) hx hb dL_blend_78 (by decide) ?_
        refine lv_icmp_ne (tgt := 87) hx hb dL_blend_80 (by decide) (fun c7 => ?_) (fun c7 => ?_)
        · refine lv_iconst (v := 1) hx hb dL_blend_87 (by decide) ?_
          have e_36 : 1 = wyN r 0 := (wyN_0n c7).symm
          rw [e_36]
          refine lv_istore (lv' := [(4, .int (wyN r 0)), (0, .ref z), (1, .int (shS r)), (2, .int (prS r)), (3, .int (mkF r (nlv r)))]) hx hb dL_blend_88 hl (by decide) rfl (fun ls hl => ?_)
          exact rest ls (lv_sub hl [1, 2, 3, 4, 0] rfl)
        · refine lv_iconst (v := 0) hx hb dL_blend_83 (by decide) ?_
          refine lv_goto (tgt := 88) hx hb dL_blend_84 (by decide) ?_
          have e_37 : 0 = wyN r 0 := (wyN_0y c7).symm
          rw [e_37]
          refine lv_istore (lv' := [(4, .int (wyN r 0)), (0, .ref z), (1, .int (shS r)), (2, .int (prS r)), (3, .int (mkF r (nlv r)))]) hx hb dL_blend_88 hl (by decide) rfl (fun ls hl => ?_)
          exact rest ls (lv_sub hl [1, 2, 3, 4, 0] rfl)
      · have hi : i < nlv r := by
          have : ¬ nlv r ≤ i := fun q => c1 (nI_le q (by omega))
          omega
        refine lv_iload_n hx hb dL_blend_19 rfl (lv_at hl 1 rfl) ?_
        refine lv_aload_n hx hb dL_blend_20 rfl (lv_at hl 0 rfl) ?_
        refine lv_iload hx hb dL_blend_21 (lv_at hl 4 rfl) ?_
        refine lv_bipush (v := 6) hx hb dL_blend_23 (by decide) ?_
        refine got_i (run_i hx hb hml hown hT hK hl.1 (q_of l G z r i 6 6 hw hi (by omega) (by decide)) (cw_L_15 hT ⟨Nat.le_of_ble_eq_true rfl, Nat.le_of_ble_eq_true rfl⟩) hO.te rfl hO rfl rfl (Nat.le_of_ble_eq_true rfl) dL_blend_25 ⟨Nat.zero_le _, Nat.zero_le _⟩) (fun v_38 hv_38 => ?_)
        obtain rfl : v_38 = shF r i := hv_38
        refine lv_iadd hx hb dL_blend_28 ?_
        refine lv_istore_n (lv' := [(1, .int ((sm (shF r) i) + (shF r i))), (0, .ref z), (2, .int (sm (fun i => shF r i * prF r i) i)), (3, .int (mkF r i)), (4, .int (nI i))]) hx hb dL_blend_29 rfl hl (by decide) rfl (fun ls hl => ?_)
        refine lv_iload_n hx hb dL_blend_30 rfl (lv_at hl 2 rfl) ?_
        refine lv_aload_n hx hb dL_blend_31 rfl (lv_at hl 1 rfl) ?_
        refine lv_iload hx hb dL_blend_32 (lv_at hl 4 rfl) ?_
        refine lv_bipush (v := 6) hx hb dL_blend_34 (by decide) ?_
        refine got_i (run_i hx hb hml hown hT hK hl.1 (q_of l G z r i 6 6 hw hi (by omega) (by decide)) (cw_L_15 hT ⟨Nat.le_of_ble_eq_true rfl, Nat.le_of_ble_eq_true rfl⟩) hO.te rfl hO rfl rfl (Nat.le_of_ble_eq_true rfl) dL_blend_36 ⟨Nat.zero_le _, Nat.zero_le _⟩) (fun v_39 hv_39 => ?_)
        obtain rfl : v_39 = shF r i := hv_39
        refine lv_aload_n hx hb dL_blend_39 rfl (lv_at hl 1 rfl) ?_
        refine lv_iload hx hb dL_blend_40 (lv_at hl 4 rfl) ?_
        refine lv_iconst (v := 0) hx hb dL_blend_42 (by decide) ?_
        refine got_i (run_i hx hb hml hown hT hK hl.1 (q_of l G z r i 0 0 hw hi (by omega) (by decide)) (cw_L_15 hT ⟨Nat.le_of_ble_eq_true rfl, Nat.le_of_ble_eq_true rfl⟩) hO.te rfl hO rfl rfl (Nat.le_of_ble_eq_true rfl) dL_blend_43 ⟨Nat.zero_le _, Nat.zero_le _⟩) (fun v_40 hv_40 => ?_)
        obtain rfl : v_40 = prF r i := hv_40
        refine lv_imul hx hb dL_blend_46 ?_
        refine lv_iadd hx hb dL_blend_47 ?_
        refine lv_istore_n (lv' := [(2, .int ((sm (fun i => shF r i * prF r i) i) + ((shF r i) * (prF r i)))), (1, .int ((sm (shF r) i) + (shF r i))), (0, .ref z), (3, .int (mkF r i)), (4, .int (nI i))]) hx hb dL_blend_48 rfl hl (by decide) rfl (fun ls hl => ?_)
        refine lv_iload_n hx hb dL_blend_49 rfl (lv_at hl 3 rfl) ?_
        refine lv_aload_n hx hb dL_blend_50 rfl (lv_at hl 2 rfl) ?_
        refine lv_iload hx hb dL_blend_51 (lv_at hl 4 rfl) ?_
        refine lv_bipush (v := 6) hx hb dL_blend_53 (by decide) ?_
        refine got_i (run_i hx hb hml hown hT hK hl.1 (q_of l G z r i 6 6 hw hi (by omega) (by decide)) (cw_L_15 hT ⟨Nat.le_of_ble_eq_true rfl, Nat.le_of_ble_eq_true rfl⟩) hO.te rfl hO rfl rfl (Nat.le_of_ble_eq_true rfl) dL_blend_55 ⟨Nat.zero_le _, Nat.zero_le _⟩) (fun v_41 hv_41 => ?_)
        obtain rfl : v_41 = shF r i := hv_41
        refine lv_if_le (tgt := 68) hx hb dL_blend_58 (by decide) (fun c8 => ?_) (fun c8 => ?_)
        · refine lv_iconst (v := 0) hx hb dL_blend_68 (by decide) ?_
          refine lv_ior hx hb dL_blend_69 ?_
          have e_42 : (mkF r i) ||| 0 = mkF r (i + 1) := mkF_0 c8
          rw [e_42]
          refine lv_istore_n (lv' := [(3, .int (mkF r (i + 1))), (2, .int ((sm (fun i => shF r i * prF r i) i) + ((shF r i) * (prF r i)))), (1, .int ((sm (shF r) i) + (shF r i))), (0, .ref z), (4, .int (nI i))]) hx hb dL_blend_70 rfl hl (by decide) rfl (fun ls hl => ?_)
          refine lv_iinc (v := nI (i + 1)) (lv' := [(4, .int (nI (i + 1))), (3, .int (mkF r (i + 1))), (2, .int ((sm (fun i => shF r i * prF r i) i) + ((shF r i) * (prF r i)))), (1, .int ((sm (shF r) i) + (shF r i))), (0, .ref z)]) hx hb dL_blend_71 hl (k := 4) rfl (nI_1 i) (by decide) rfl (fun ls hl => ?_)
          refine lv_goto (tgt := 9) hx hb dL_blend_74 (by decide) ?_
          exact ih (i + 1) (by omega) (by omega) ls (lv_sub hl [4, 3, 2, 1, 0] rfl)
        · refine lv_iconst (v := 1) hx hb dL_blend_61 (by decide) ?_
          refine lv_iload hx hb dL_blend_62 (lv_at hl 4 rfl) ?_
          refine lv_ishl hx hb dL_blend_64 ?_
          refine lv_goto (tgt := 69) hx hb dL_blend_65 (by decide) ?_
          refine lv_ior hx hb dL_blend_69 ?_
          have e_43 : (mkF r i) ||| (1 <<< ((nI i) &&& 31)) = mkF r (i + 1) := mkF_1 c8
          rw [e_43]
          refine lv_istore_n (lv' := [(3, .int (mkF r (i + 1))), (2, .int ((sm (fun i => shF r i * prF r i) i) + ((shF r i) * (prF r i)))), (1, .int ((sm (shF r) i) + (shF r i))), (0, .ref z), (4, .int (nI i))]) hx hb dL_blend_70 rfl hl (by decide) rfl (fun ls hl => ?_)
          refine lv_iinc (v := nI (i + 1)) (lv' := [(4, .int (nI (i + 1))), (3, .int (mkF r (i + 1))), (2, .int ((sm (fun i => shF r i * prF r i) i) + ((shF r i) * (prF r i)))), (1, .int ((sm (shF r) i) + (shF r i))), (0, .ref z)]) hx hb dL_blend_71 hl (k := 4) rfl (nI_1 i) (by decide) rfl (fun ls hl => ?_)
          refine lv_goto (tgt := 9) hx hb dL_blend_74 (by decide) ?_
          exact ih (i + 1) (by omega) (by omega) ls (lv_sub hl [4, 3, 2, 1, 0] rfl)
  exact loop 6 0 (by omega) (by omega) ls (lv_sub hl [4, 3, 2, 1, 0] rfl)
