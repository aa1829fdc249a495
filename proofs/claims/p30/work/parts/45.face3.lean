set_option maxHeartbeats 4000000 in
set_option maxRecDepth 100000 in
theorem k_X6_keepsFor (l : Launch) (G : GG) (z : Nat) (r : Nat → Int32)  (hw : WF r) : Met l yX6_keepsFor (ws_ yX6_keepsFor cX6_keepsFor 2 (some .int)) (rm_ 4) (PC G [.ref z] (fun H => Te G z H ∧ ShopAt G (z + 1) r H)) (vp_Si (fun v => v = kfG r 401 0)) 0 0 NoA := by
  refine met_q (by decide +kernel) (Nat.le_of_ble_eq_true rfl) ?_
  intro p e s m args below meth c Q hQ hx hb hr hT hown hml hlocks hnm hK hZ ls hl
  have hl : lv_has ls 2 [(0, .ref z)] := hl
  refine lv_iconst (v := 0) hx hb dX6_keepsFor_0 (by decide) ?_
  refine lv_istore_n (lv' := [(1, .int 0), (0, .ref z)]) hx hb dX6_keepsFor_1 rfl hl (by decide) rfl (fun ls hl => ?_)
  have loop : ∀ (k : Nat) (d0 : Nat), d0 ≤ 401 → kfG r (401 - d0) d0 = kfG r 401 0 → 401 - d0 < k → ∀ ls : Array Slot, lv_has ls 2 [(1, .int (nI d0)), (0, .ref z)] → W p l e (rm_ 4) s m args below meth c s.heap [] 0 0 Q (F0 m 2 ls []) := by
    intro k
    induction k with
    | zero => intro d0 hd hf hm; exact absurd hm (Nat.not_lt_zero _)
    | succ k ih =>
      intro d0 hd hf hm ls hl
      refine lv_iload_n hx hb dX6_keepsFor_2 rfl (lv_at hl 0 rfl) ?_
      refine lv_sipush (v := 400) hx hb dX6_keepsFor_3 (by decide) ?_
      refine lv_icmp_gt (tgt := 28) hx hb dX6_keepsFor_6 (by decide) (fun cd => ?_) (fun cd => ?_)
      · have he : d0 = 401 := by
          have h9 : 400 < d0 := (nI_ltI (a := 400) (by omega) (by omega)).mp cd
          omega
        subst he
        refine lv_bipush (v := (-6)) hx hb dX6_keepsFor_28 (by decide) ?_
        exact nd_i hQ hx hb hr hlocks dX6_keepsFor_30 (hf)
      · have hlt : d0 < 401 := by
          have h9 : ¬ 400 < d0 := fun q => cd ((nI_ltI (a := 400) (by omega) (by omega)).mpr q)
          omega
        rw [show 401 - d0 = (401 - (d0 + 1)) + 1 by omega] at hf
        refine lv_aload_n hx hb dX6_keepsFor_9 rfl (lv_at hl 1 rfl) ?_
        refine rg (C := RX6) (T := TX6) (N := 6) (v := .ref (z + 1)) hx hb hT inX6 hown hK hZ.1 rfl 0 (by decide) mf_X6_10 rfl dX6_keepsFor_10 ?_
        refine lv_iload_n hx hb dX6_keepsFor_13 rfl (lv_at hl 0 rfl) ?_
        refine got_i (run_i hx hb hml hown hT hK hl.1 (k_X5_whyBroken l G (z + 1) r (nI d0) hw) (cw_X6_140 hT ⟨Nat.le_of_ble_eq_true rfl, Nat.le_of_ble_eq_true rfl⟩) hZ.2.1 rfl hZ.2 rfl rfl (Nat.le_of_ble_eq_true rfl) dX6_keepsFor_14 ⟨Nat.zero_le _, Nat.zero_le _⟩) (fun v_1 hv_1 => ?_)
        subst hv_1
        refine lv_if_eq (tgt := 22) hx hb dX6_keepsFor_17 (by decide) (fun c2 => ?_) (fun c2 => ?_)
        · rw [kfG_y c2] at hf
          refine lv_iinc (v := nI (d0 + 1)) (lv' := [(1, .int (nI (d0 + 1))), (0, .ref z)]) hx hb dX6_keepsFor_22 hl (k := 0) rfl (nI_1 d0) (by decide) rfl (fun ls hl => ?_)
          refine lv_goto (tgt := 2) hx hb dX6_keepsFor_25 (by decide) ?_
          exact ih (d0 + 1) hlt hf (by omega) ls (lv_sub hl [0, 1] rfl)
        · rw [kfG_n c2] at hf
          refine lv_iload_n hx hb dX6_keepsFor_20 rfl (lv_at hl 0 rfl) ?_
          exact nd_i hQ hx hb hr hlocks dX6_keepsFor_21 (hf)
  exact loop 402 0 (by omega) rfl (by omega) ls (lv_sub hl [0, 1] rfl)
