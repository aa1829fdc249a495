/-! mixing, rows of prices, a new leaf, a copy -/
theorem mgR_5 {r : Nat → Int32} {g : Int32} {n : Nat} : mgR r g n 5 = r 5 := if_neg (by omega)
theorem mgR_0 {r : Nat → Int32} {g : Int32} : mgR r g 0 = r := funext fun k => if_neg (by omega)
theorem mgR_k {r : Nat → Int32} {g : Int32} {n k : Nat} (h : ¬ (23 ≤ k ∧ (k - 23) % 14 = 0)) : mgR r g n k = r k := if_neg (fun q => h ⟨q.1, q.2.1⟩)
theorem mgR_st {r : Nat → Int32} {g : Int32} {n : Nat} : mgR r g n (12 + 14 * n + 11) = r (12 + 14 * n + 11) := if_neg (by omega)
theorem mgR_s {r : Nat → Int32} {g : Int32} {n : Nat} : upd (mgR r g n) (12 + 14 * n + 11) (r (12 + 14 * n + 11) - ndF r n g) = mgR r g (n + 1) := by
  funext k
  simp only [upd]
  by_cases q : k = 12 + 14 * n + 11
  · rw [if_pos q]
    subst q
    unfold mgR
    rw [if_pos (by omega), show (12 + 14 * n + 11 - 23) / 14 = n by omega]
  · rw [if_neg q]
    unfold mgR
    by_cases h : 23 ≤ k ∧ (k - 23) % 14 = 0 ∧ (k - 23) / 14 < n
    · rw [if_pos h, if_pos (by omega)]
    · rw [if_neg h, if_neg (by omega)]
theorem mgR_pr {r : Nat → Int32} {g : Int32} {n : Nat} (hp7 : plv r < 7) : prS (mgR r g n) = prS r := by
  unfold prS
  have e5 : nlv (mgR r g n) = nlv r := by unfold nlv; rw [mgR_5]
  have ep : plv (mgR r g n) = plv r := by unfold plv; rw [mgR_k (by omega), mgR_k (by omega)]
  rw [e5]
  refine sm_ext _ (fun i _ => ?_)
  unfold shF prF
  rw [ep, mgR_k (by omega), mgR_k (k := 12 + 14 * i + 0) (by omega), mgR_k (k := 12 + 14 * i + (1 + plv r)) (by omega)]
theorem mgR_wf {r : Nat → Int32} {g : Int32} {n : Nat} (h : WF r) : WF (mgR r g n) := by
  unfold WF
  rw [mgR_5, mgR_k (by omega), mgR_k (by omega)]
  exact h
theorem mxO_1 {r : Nat → Int32} {g : Int32} (h : ¬ (1 ≤ g ∧ g ≤ 9999)) : mxO r g = (-2, r) := if_pos h
theorem mxO_2 {r : Nat → Int32} {g : Int32} (h : 1 ≤ g ∧ g ≤ 9999) (h2 : ¬ (whyF r 0 = 0 ∧ sfP r g)) : mxO r g = (-5, r) := (if_neg (fun q => q h)).trans (if_pos h2)
theorem mxO_3 {r : Nat → Int32} {g : Int32} (h : 1 ≤ g ∧ g ≤ 9999) (h2 : whyF r 0 = 0 ∧ sfP r g) : mxO r g = (prS r / 20, upd (upd (mgR r g (nlv r)) 3 (r 3 + g)) 4 (r 4 + g * (prS r / 20) / 100)) := (if_neg (fun q => q h)).trans (if_neg (fun q => q h2))

set_option maxHeartbeats 4000000 in
set_option maxRecDepth 100000 in
theorem k_X5_mixGrams (l : Launch) (G : GG) (b : Nat) (r : Nat → Int32) (g : Int32) (hw : WF r) : Met l yX5_mixGrams (ws_ yX5_mixGrams cX5_mixGrams 3 (some .int)) (rm_ 4) (PC G [.ref b, .int g] (ShopAt G b r)) (QI (fun v H => v = (mxO r g).1 ∧ ShopAt G b (mxO r g).2 H) (In b 20)) 0 0 (In b 20) := by
  refine met_q (by decide +kernel) (Nat.le_of_ble_eq_true rfl) ?_
  intro p e s m args below meth c Q hQ hx hb hr hT hown hml hlocks hnm hK hSh ls hl
  have hl : lv_has ls 3 [(0, .ref b), (1, .int g)] := hl
  have hS : va_S (In b 20) s.heap s.heap [] := va_S.rf
  have hn5 := hw.nl5
  have hnl := hw.nl
  have hp7 := hw.pl.2
  refine lv_iload_n hx hb dX5_mixGrams_0 rfl (lv_at hl 1 rfl) ?_
  refine lv_iconst (v := 1) hx hb dX5_mixGrams_1 (by decide) ?_
  refine lv_sipush (v := 9999) hx hb dX5_mixGrams_2 (by decide) ?_
  refine got_i (run_s hx hb hml hown hT hK hl.1 (k_X5_isWithin l G g 1 9999) (cw_X5_71 hT ⟨Nat.le_of_ble_eq_true rfl, Nat.le_of_ble_eq_true rfl⟩) trivial rfl rfl (Nat.le_of_ble_eq_true rfl) dX5_mixGrams_5 ⟨Nat.zero_le _, Nat.zero_le _⟩) (fun v_1 hv_1 => ?_)
  subst hv_1
  refine lv_if_ne (tgt := 14) hx hb dX5_mixGrams_8 (by decide) (fun c2 => ?_) (fun c2 => ?_)
  · have hg := bi_n0 c2
    refine lv_aload_n hx hb dX5_mixGrams_14 rfl (lv_at hl 0 rfl) ?_
    refine lv_iconst (v := 0) hx hb dX5_mixGrams_15 (by decide) ?_
    refine got_i (run_i hx hb hml hown hT hK hl.1 (k_X5_whyBroken l G b r 0 hw) (cw_X5_112 hT ⟨Nat.le_of_ble_eq_true rfl, Nat.le_of_ble_eq_true rfl⟩) hSh.1 rfl hSh rfl rfl (Nat.le_of_ble_eq_true rfl) dX5_mixGrams_16 ⟨Nat.zero_le _, Nat.zero_le _⟩) (fun v_2 hv_2 => ?_)
    subst hv_2
    refine lv_if_ne (tgt := 30) hx hb dX5_mixGrams_19 (by decide) (fun c3 => ?_) (fun c3 => ?_)
    · refine lv_bipush (v := (-5)) hx hb dX5_mixGrams_30 (by decide) ?_
      exact nd_I hQ hx hb hr hlocks dX5_mixGrams_32 hS (by rw [mxO_2 hg (fun q => c3 q.1)]; exact ⟨rfl, hSh⟩)
    · refine lv_aload_n hx hb dX5_mixGrams_22 rfl (lv_at hl 0 rfl) ?_
      refine lv_iload_n hx hb dX5_mixGrams_23 rfl (lv_at hl 1 rfl) ?_
      refine got_i (run_i hx hb hml hown hT hK hl.1 (k_X5_stocksSuffice l G b r g hw) (cw_X5_115 hT ⟨Nat.le_of_ble_eq_true rfl, Nat.le_of_ble_eq_true rfl⟩) hSh.1 rfl hSh rfl rfl (Nat.le_of_ble_eq_true rfl) dX5_mixGrams_24 ⟨Nat.zero_le _, Nat.zero_le _⟩) (fun v_3 hv_3 => ?_)
      subst hv_3
      refine lv_if_ne (tgt := 33) hx hb dX5_mixGrams_27 (by decide) (fun c4 => ?_) (fun c4 => ?_)
      · have h2 : whyF r 0 = 0 ∧ sfP r g := ⟨c3, bc_n0 c4⟩
        refine lv_iconst (v := 0) hx hb dX5_mixGrams_33 (by decide) ?_
        refine lv_istore_n (lv' := [(2, .int 0), (0, .ref b), (1, .int g)]) hx hb dX5_mixGrams_34 rfl hl (by decide) rfl (fun ls hl => ?_)
        have loop : ∀ (k : Nat) (i : Nat) (H : Heap) (locs : List Loc), va_S (In b 20) s.heap H locs → i ≤ nlv r → ShopAt G b (mgR r g i) H → nlv r - i < k → ∀ ls : Array Slot, lv_has ls 3 [(2, .int (nI i)), (0, .ref b), (1, .int g)] → W p l e (rm_ 4) s m args below meth c H locs 0 0 Q (F0 m 35 ls []) := by
          intro k
          induction k with
          | zero => intro i H locs hS hi hSh hm; exact absurd hm (Nat.not_lt_zero _)
          | succ k ih =>
            intro i H locs hS hi hSh hm ls hl
            refine lv_iload_n hx hb dX5_mixGrams_35 rfl (lv_at hl 0 rfl) ?_
            refine lv_aload_n hx hb dX5_mixGrams_36 rfl (lv_at hl 1 rfl) ?_
            refine rg (C := RX5) (T := TX5) (N := 8) (v := .int ((mgR r g i) 5)) hx hb hT inX5 hown hK hSh.1 rfl 4 (by decide) mf_X5_52 rfl dX5_mixGrams_37 ?_
            refine lv_icmp_ge (tgt := 73) hx hb dX5_mixGrams_40 (by decide) (fun cd => ?_) (fun cd => ?_)
            · have hge : nlv r ≤ i := by
                rw [mgR_5, hnl, nI_leI (by omega) (by omega)] at cd
                exact cd
              have he : i = nlv r := by omega
              subst he
              refine lv_aload_n hx hb dX5_mixGrams_73 rfl (lv_at hl 1 rfl) ?_
              refine got_i (run_i hx hb hml hown hT hK hl.1 (k_X5_blendPrice l G b (mgR r g (nlv r)) (mgR_wf hw)) (cw_X5_121 hT ⟨Nat.le_of_ble_eq_true rfl, Nat.le_of_ble_eq_true rfl⟩) hSh.1 rfl hSh rfl rfl (Nat.le_of_ble_eq_true rfl) dX5_mixGrams_74 ⟨Nat.zero_le _, Nat.zero_le _⟩) (fun v_4 hv_4 => ?_)
              subst hv_4
              refine lv_istore_n (lv' := [(2, .int (prS (mgR r g (nlv r)) / 20)), (0, .ref b), (1, .int g)]) hx hb dX5_mixGrams_77 rfl hl (by decide) rfl (fun ls hl => ?_)
              refine lv_aload_n hx hb dX5_mixGrams_78 rfl (lv_at hl 1 rfl) ?_
              refine lv_dup hx hb dX5_mixGrams_79 rfl ?_
              refine rg (C := RX5) (T := TX5) (N := 8) (v := .int ((mgR r g (nlv r)) 3)) hx hb hT inX5 hown hK hSh.1 rfl 6 (by decide) mf_X5_59 rfl dX5_mixGrams_80 ?_
              refine lv_iload_n hx hb dX5_mixGrams_83 rfl (lv_at hl 2 rfl) ?_
              refine lv_iadd hx hb dX5_mixGrams_84 ?_
              refine rp (C := RX5) (T := TX5) (N := 8) (v := .int (((mgR r g (nlv r)) 3) + g)) (ty := .int) hx hb hT inX5 tyX5 tyX5_ok nmX5 hown hK hSh.1 rfl 6 (by decide) mf_X5_59 rfl (by decide +kernel) rfl rfl (Nat.le_of_ble_eq_true rfl) hS (show _ ∧ _ from ⟨by omega, by omega⟩) dX5_mixGrams_85 (fun H locs h1 o hS => ?_)
              have hSh := hSh.pGrams h1 o
              have e3 : mgR r g (nlv r) 3 = r 3 := mgR_k (by omega)
              rw [e3] at hSh
              refine lv_aload_n hx hb dX5_mixGrams_88 rfl (lv_at hl 1 rfl) ?_
              refine lv_dup hx hb dX5_mixGrams_89 rfl ?_
              refine rg (C := RX5) (T := TX5) (N := 8) (v := .int ((upd (mgR r g (nlv r)) 3 (r 3 + g)) 4)) hx hb hT inX5 hown hK hSh.1 rfl 7 (by decide) mf_X5_62 rfl dX5_mixGrams_90 ?_
              refine lv_iload_n hx hb dX5_mixGrams_93 rfl (lv_at hl 2 rfl) ?_
              refine lv_iload_n hx hb dX5_mixGrams_94 rfl (lv_at hl 0 rfl) ?_
              refine lv_imul hx hb dX5_mixGrams_95 ?_
              refine lv_bipush (v := 100) hx hb dX5_mixGrams_96 (by decide) ?_
              refine lv_idiv hx hb dX5_mixGrams_98 (by decide) ?_
              refine lv_iadd hx hb dX5_mixGrams_99 ?_
              refine rp (C := RX5) (T := TX5) (N := 8) (v := .int (((upd (mgR r g (nlv r)) 3 (r 3 + g)) 4) + ((g * (prS (mgR r g (nlv r)) / 20)) / 100))) (ty := .int) hx hb hT inX5 tyX5 tyX5_ok nmX5 hown hK hSh.1 rfl 7 (by decide) mf_X5_62 rfl (by decide +kernel) rfl rfl (Nat.le_of_ble_eq_true rfl) hS (show _ ∧ _ from ⟨by omega, by omega⟩) dX5_mixGrams_100 (fun H locs h1 o hS => ?_)
              have hSh := hSh.pCoins h1 o
              have e4 : upd (mgR r g (nlv r)) 3 (r 3 + g) 4 = r 4 := (upd_ne (by omega)).trans (mgR_k (by omega))
              rw [e4, mgR_pr hp7] at hSh
              refine lv_iload_n hx hb dX5_mixGrams_103 rfl (lv_at hl 0 rfl) ?_
              exact nd_I hQ hx hb hr hlocks dX5_mixGrams_104 hS (by rw [mxO_3 hg h2, mgR_pr hp7]; exact ⟨rfl, hSh⟩)
            · have hlt : i < nlv r := by
                rw [mgR_5, hnl, nI_leI (by omega) (by omega)] at cd
                omega
              refine lv_aload_n hx hb dX5_mixGrams_43 rfl (lv_at hl 1 rfl) ?_
              refine rg (C := RX5) (T := TX5) (N := 8) (v := .ref (b + 1)) hx hb hT inX5 hown hK hSh.1 rfl 0 (by decide) mf_X5_11 rfl dX5_mixGrams_44 ?_
              refine lv_iload_n hx hb dX5_mixGrams_47 rfl (lv_at hl 0 rfl) ?_
              refine r_aaldS (y := b + 5 + 3 * i) hx hb hK hSh.2.1 rfl rfl i (rfl) (by omega) (Nat.le_of_ble_eq_true rfl) rfl dX5_mixGrams_48 ?_
              refine lv_dup hx hb dX5_mixGrams_49 rfl ?_
              refine rg (C := RX1) (T := TX1) (N := 6) (v := .int ((mgR r g i) (12 + 14 * i + 11))) hx hb hT inX1 hown hK (hSh.leaf (i := i) (by omega)).1 rfl 1 (by decide) mf_X5_99 rfl dX5_mixGrams_50 ?_
              refine lv_aload_n hx hb dX5_mixGrams_53 rfl (lv_at hl 1 rfl) ?_
              refine rg (C := RX5) (T := TX5) (N := 8) (v := .ref (b + 1)) hx hb hT inX5 hown hK hSh.1 rfl 0 (by decide) mf_X5_11 rfl dX5_mixGrams_54 ?_
              refine lv_iload_n hx hb dX5_mixGrams_57 rfl (lv_at hl 0 rfl) ?_
              refine r_aaldS (y := b + 5 + 3 * i) hx hb hK hSh.2.1 rfl rfl i (rfl) (by omega) (Nat.le_of_ble_eq_true rfl) rfl dX5_mixGrams_58 ?_
              refine lv_iload_n hx hb dX5_mixGrams_59 rfl (lv_at hl 2 rfl) ?_
              refine got_i (run_i hx hb hml hown hT hK hl.1 (k_X1_gramsFor l G (b + 5 + 3 * i) (fun k => mgR r g i (12 + 14 * i + k)) g) (cw_X5_118 hT ⟨Nat.le_of_ble_eq_true rfl, Nat.le_of_ble_eq_true rfl⟩) (hSh.leaf (i := i) (by omega)).1 rfl (hSh.leaf (i := i) (by omega)) rfl rfl (Nat.le_of_ble_eq_true rfl) dX5_mixGrams_60 ⟨Nat.zero_le _, Nat.zero_le _⟩) (fun v_5 hv_5 => ?_)
              subst hv_5
              refine lv_isub hx hb dX5_mixGrams_63 ?_
              refine rp (C := RX1) (T := TX1) (N := 6) (v := .int (((mgR r g i) (12 + 14 * i + 11)) - ((g * mgR r g i (12 + 14 * i + 13) + 20 - 1) / 20))) (ty := .int) hx hb hT inX1 tyX1 tyX1_ok nmX1 hown hK (hSh.leaf (i := i) (by omega)).1 rfl 1 (by decide) mf_X5_99 rfl (by decide +kernel) rfl rfl (Nat.le_of_ble_eq_true rfl) hS (show _ ∧ _ from ⟨by omega, by omega⟩) dX5_mixGrams_64 (fun H locs h1 o hS => ?_)
              have hSh := hSh.pStock (by omega) h1 o
              have es : mgR r g i (12 + 14 * i + 13) = shF r i := mgR_k (by omega)
              rw [mgR_st, es] at hSh
              have hSh : ShopAt G b (upd (mgR r g i) (12 + 14 * i + 11) (r (12 + 14 * i + 11) - ndF r i g)) H := hSh
              rw [mgR_s] at hSh
              refine lv_iinc (v := nI (i + 1)) (lv' := [(2, .int (nI (i + 1))), (0, .ref b), (1, .int g)]) hx hb dX5_mixGrams_67 hl (k := 0) rfl (nI_1 i) (by decide) rfl (fun ls hl => ?_)
              refine lv_goto (tgt := 35) hx hb dX5_mixGrams_70 (by decide) ?_
              exact ih (i + 1) _ _ hS (by omega) hSh (by omega) ls (lv_sub hl [0, 1, 2] rfl)
        exact loop (nlv r + 1) 0 _ _ hS (Nat.zero_le _) (by rw [mgR_0]; exact hSh) (by omega) ls (lv_sub hl [0, 1, 2] rfl)
      · refine lv_bipush (v := (-5)) hx hb dX5_mixGrams_30 (by decide) ?_
        exact nd_I hQ hx hb hr hlocks dX5_mixGrams_32 hS (by rw [mxO_2 hg (fun q => bc_e0 c4 q.2)]; exact ⟨rfl, hSh⟩)
  · refine lv_bipush (v := (-2)) hx hb dX5_mixGrams_11 (by decide) ?_
    exact nd_I hQ hx hb hr hlocks dX5_mixGrams_13 hS (by rw [mxO_1 (bi_e0 c2)]; exact ⟨rfl, hSh⟩)


theorem chR_0 {r : Nat → Int32} {i : Nat} {x : Int64} : chR r i x 0 = r := funext fun k => if_neg (by omega)
theorem chR_k {r : Nat → Int32} {i n k : Nat} {x : Int64} (h : ¬ (12 + 14 * i + 1 ≤ k ∧ k < 12 + 14 * i + 1 + n)) : chR r i x n k = r k := if_neg h
theorem chR_s {r : Nat → Int32} {i n : Nat} {x : Int64} : upd (chR r i x n) (12 + 14 * i + (1 + n)) (chF x n) = chR r i x (n + 1) := by
  funext k
  simp only [upd]
  by_cases q : k = 12 + 14 * i + (1 + n)
  · rw [if_pos q]
    subst q
    unfold chR
    rw [if_pos (by omega)]
    congr 1
    omega
  · rw [if_neg q]
    unfold chR
    by_cases h : 12 + 14 * i + 1 ≤ k ∧ k < 12 + 14 * i + 1 + n
    · rw [if_pos h, if_pos (by omega)]
    · rw [if_neg h, if_neg (by omega)]
theorem chR_wf {r : Nat → Int32} {i n : Nat} {x : Int64} (h : WF r) : WF (chR r i x n) := by
  unfold WF
  rw [chR_k (by omega), chR_k (by omega), chR_k (by omega)]
  exact h
theorem rwO_1 {r : Nat → Int32} {x : Int32} {y : Int64} (h : ¬ lfP r x) : rwO r x y = (-1, r) := if_pos h
theorem rwO_2 {r : Nat → Int32} {x : Int32} {y : Int64} (h : lfP r x) (h2 : ¬ chP y) : rwO r x y = (-2, r) := (if_neg (fun q => q h)).trans (if_pos h2)
theorem rwO_3 {r : Nat → Int32} {i : Nat} {y : Int64} (hi : i < 5) (h : lfP r (nI i)) (h2 : chP y) : rwO r (nI i) y = (prF (chR r i y 7) i, chR r i y 7) := by
  refine ((if_neg (fun q => q h)).trans (if_neg (fun q => q h2))).trans ?_
  rw [nIt (by omega)]

set_option maxHeartbeats 4000000 in
set_option maxRecDepth 100000 in
theorem k_X5_changeRow (l : Launch) (G : GG) (b : Nat) (r : Nat → Int32) (x : Int32) (y : Int64) (hw : WF r) : Met l yX5_changeRow (ws_ yX5_changeRow cX5_changeRow 6 (some .int)) (rm_ 2) (PC G [.ref b, .int x, .long y] (ShopAt G b r)) (QI (fun v H => v = (rwO r x y).1 ∧ ShopAt G b (rwO r x y).2 H) (In b 20)) 0 0 (In b 20) := by
  refine met_q (by decide +kernel) (Nat.le_of_ble_eq_true rfl) ?_
  intro p e s m args below meth c Q hQ hx hb hr hT hown hml hlocks hnm hK hSh ls hl
  have hl : lv_has ls 6 [(0, .ref b), (1, .int x), (2, .long y)] := hl
  have hS : va_S (In b 20) s.heap s.heap [] := va_S.rf
  have hn5 := hw.nl5
  refine lv_aload_n hx hb dX5_changeRow_0 rfl (lv_at hl 0 rfl) ?_
  refine lv_iload_n hx hb dX5_changeRow_1 rfl (lv_at hl 1 rfl) ?_
  refine got_i (run_i hx hb hml hown hT hK hl.1 (k_X5_hasLeaf l G b r x) (cw_X5_82 hT ⟨Nat.le_of_ble_eq_true rfl, Nat.le_of_ble_eq_true rfl⟩) hSh.1 rfl hSh rfl rfl (Nat.le_of_ble_eq_true rfl) dX5_changeRow_2 ⟨Nat.zero_le _, Nat.zero_le _⟩) (fun v_1 hv_1 => ?_)
  subst hv_1
  refine lv_if_ne (tgt := 10) hx hb dX5_changeRow_5 (by decide) (fun c1 => ?_) (fun c1 => ?_)
  · have hl1 : lfP r x := bi_n0 c1
    obtain ⟨i, hi, rfl⟩ := lf_ix hw hl1
    refine lv_iconst (v := 0) hx hb dX5_changeRow_10 (by decide) ?_
    refine lv_istore (lv' := [(4, .int 0), (0, .ref b), (1, .int (nI i)), (2, .long y)]) hx hb dX5_changeRow_11 hl (by decide) rfl (fun ls hl => ?_)
    have loop : ∀ (k : Nat) (t : Nat), t ≤ 7 → (∀ j, j < t → -9 ≤ chF y j ∧ chF y j ≤ 9) → 7 - t < k → ∀ ls : Array Slot, lv_has ls 6 [(4, .int (nI t)), (0, .ref b), (1, .int (nI i)), (2, .long y)] → W p l e (rm_ 2) s m args below meth c s.heap [] 0 0 Q (F0 m 13 ls []) := by
      intro k
      induction k with
      | zero => intro t ht hb4 hm; exact absurd hm (Nat.not_lt_zero _)
      | succ k ih =>
        intro t ht hb4 hm ls hl
        refine lv_iload hx hb dX5_changeRow_13 (lv_at hl 0 rfl) ?_
        refine lv_bipush (v := 7) hx hb dX5_changeRow_15 (by decide) ?_
        refine lv_icmp_ge (tgt := 45) hx hb dX5_changeRow_17 (by decide) (fun cd => ?_) (fun cd => ?_)
        · have e7 : t = 7 := by
            have h9 : nI 7 ≤ nI t := cd
            rw [nI_leI (by omega) (by omega)] at h9
            omega
          subst e7
          refine lv_aload_n hx hb dX5_changeRow_45 rfl (lv_at hl 1 rfl) ?_
          refine rg (C := RX5) (T := TX5) (N := 8) (v := .ref (b + 1)) hx hb hT inX5 hown hK hSh.1 rfl 0 (by decide) mf_X5_11 rfl dX5_changeRow_46 ?_
          refine lv_iload_n hx hb dX5_changeRow_49 rfl (lv_at hl 2 rfl) ?_
          refine r_aaldS (y := b + 5 + 3 * i) hx hb hK hSh.2.1 rfl rfl i (rfl) (by omega) (Nat.le_of_ble_eq_true rfl) rfl dX5_changeRow_50 ?_
          refine rg (C := RX1) (T := TX1) (N := 6) (v := .ref (b + 5 + 3 * i + 1)) hx hb hT inX1 hown hK (hSh.leaf (i := i) (by omega)).1 rfl 4 (by decide) mf_X5_90 rfl dX5_changeRow_51 ?_
          refine lv_astore (lv' := [(4, .ref (b + 5 + 3 * i + 1)), (0, .ref b), (1, .int (nI i)), (2, .long y)]) hx hb dX5_changeRow_54 hl (by decide) rfl (fun ls hl => ?_)
          refine lv_iconst (v := 0) hx hb dX5_changeRow_56 (by decide) ?_
          refine lv_istore (lv' := [(5, .int 0), (4, .ref (b + 5 + 3 * i + 1)), (0, .ref b), (1, .int (nI i)), (2, .long y)]) hx hb dX5_changeRow_57 hl (by decide) rfl (fun ls hl => ?_)
          have loop2 : ∀ (k : Nat) (u : Nat) (H : Heap) (locs : List Loc), va_S (In b 20) s.heap H locs → u ≤ 7 → ShopAt G b (chR r i y u) H → 7 - u < k → ∀ ls : Array Slot, lv_has ls 6 [(5, .int (nI u)), (4, .ref (b + 5 + 3 * i + 1)), (0, .ref b), (1, .int (nI i)), (2, .long y)] → W p l e (rm_ 2) s m args below meth c H locs 0 0 Q (F0 m 59 ls []) := by
            intro k
            induction k with
            | zero => intro u H locs hS hu hSh hm; exact absurd hm (Nat.not_lt_zero _)
            | succ k ih =>
              intro u H locs hS hu hSh hm ls hl
              refine lv_iload hx hb dX5_changeRow_59 (lv_at hl 0 rfl) ?_
              refine lv_bipush (v := 7) hx hb dX5_changeRow_61 (by decide) ?_
              refine lv_icmp_ge (tgt := 83) hx hb dX5_changeRow_63 (by decide) (fun cu => ?_) (fun cu => ?_)
              · have e7 : u = 7 := by
                  have h9 : nI 7 ≤ nI u := cu
                  rw [nI_leI (by omega) (by omega)] at h9
                  omega
                subst e7
                refine lv_aload_n hx hb dX5_changeRow_83 rfl (lv_at hl 2 rfl) ?_
                refine lv_iload_n hx hb dX5_changeRow_84 rfl (lv_at hl 3 rfl) ?_
                refine got_i (run_i hx hb hml hown hT hK hl.1 (k_X5_priceOf l G b (chR r i y 7) i (chR_wf hw) (by omega)) (cw_X5_93 hT ⟨Nat.le_of_ble_eq_true rfl, Nat.le_of_ble_eq_true rfl⟩) hSh.1 rfl hSh rfl rfl (Nat.le_of_ble_eq_true rfl) dX5_changeRow_85 ⟨Nat.zero_le _, Nat.zero_le _⟩) (fun v_2 hv_2 => ?_)
                subst hv_2
                exact nd_I hQ hx hb hr hlocks dX5_changeRow_88 hS (by rw [rwO_3 (by omega) hl1 hb4]; exact ⟨rfl, hSh⟩)
              · have h7 : u < 7 := by
                  have h9 : ¬ nI 7 ≤ nI u := cu
                  rw [nI_leI (by omega) (by omega)] at h9
                  omega
                refine lv_aload hx hb dX5_changeRow_66 (lv_at hl 1 rfl) ?_
                refine lv_iload hx hb dX5_changeRow_68 (lv_at hl 0 rfl) ?_
                refine lv_lload_n hx hb dX5_changeRow_70 rfl (lv_at hl 4 rfl) ?_
                refine lv_iload hx hb dX5_changeRow_71 (lv_at hl 0 rfl) ?_
                refine got_i (run_s hx hb hml hown hT hK hl.1 (k_X5_changeIn l G y u) (cw_X5_86 hT ⟨Nat.le_of_ble_eq_true rfl, Nat.le_of_ble_eq_true rfl⟩) trivial rfl rfl (Nat.le_of_ble_eq_true rfl) dX5_changeRow_73 ⟨Nat.zero_le _, Nat.zero_le _⟩) (fun v_3 hv_3 => ?_)
                subst hv_3
                refine r_iast hx hb hK (hSh.leaf (i := i) (by omega)).2.1 u (rfl) (h7) (Nat.le_of_ble_eq_true rfl) hS (show _ ∧ _ from ⟨by omega, by omega⟩) dX5_changeRow_76 (fun H locs h1 o hS => ?_)
                have hSh := hSh.pChange (by omega) h7 h1 o
                rw [chR_s] at hSh
                refine lv_iinc (v := nI (u + 1)) (lv' := [(5, .int (nI (u + 1))), (4, .ref (b + 5 + 3 * i + 1)), (0, .ref b), (1, .int (nI i)), (2, .long y)]) hx hb dX5_changeRow_77 hl (k := 0) rfl (nI_1 u) (by decide) rfl (fun ls hl => ?_)
                refine lv_goto (tgt := 59) hx hb dX5_changeRow_80 (by decide) ?_
                exact ih (u + 1) _ _ hS (by omega) hSh (by omega) ls (lv_sub hl [0, 1, 2, 3, 4] rfl)
          exact loop2 8 0 _ _ hS (by omega) (by rw [chR_0]; exact hSh) (by omega) ls (lv_sub hl [0, 1, 2, 3, 4] rfl)
        · have h7 : t < 7 := by
            have h9 : ¬ nI 7 ≤ nI t := cd
            rw [nI_leI (by omega) (by omega)] at h9
            omega
          refine lv_lload_n hx hb dX5_changeRow_20 rfl (lv_at hl 3 rfl) ?_
          refine lv_iload hx hb dX5_changeRow_21 (lv_at hl 0 rfl) ?_
          refine got_i (run_s hx hb hml hown hT hK hl.1 (k_X5_changeIn l G y t) (cw_X5_86 hT ⟨Nat.le_of_ble_eq_true rfl, Nat.le_of_ble_eq_true rfl⟩) trivial rfl rfl (Nat.le_of_ble_eq_true rfl) dX5_changeRow_23 ⟨Nat.zero_le _, Nat.zero_le _⟩) (fun v_4 hv_4 => ?_)
          subst hv_4
          refine lv_bipush (v := (-9)) hx hb dX5_changeRow_26 (by decide) ?_
          refine lv_bipush (v := 9) hx hb dX5_changeRow_28 (by decide) ?_
          refine got_i (run_s hx hb hml hown hT hK hl.1 (k_X5_isWithin l G (chF y t) (-9) 9) (cw_X5_71 hT ⟨Nat.le_of_ble_eq_true rfl, Nat.le_of_ble_eq_true rfl⟩) trivial rfl rfl (Nat.le_of_ble_eq_true rfl) dX5_changeRow_30 ⟨Nat.zero_le _, Nat.zero_le _⟩) (fun v_5 hv_5 => ?_)
          subst hv_5
          refine lv_if_ne (tgt := 39) hx hb dX5_changeRow_33 (by decide) (fun cw => ?_) (fun cw => ?_)
          · refine lv_iinc (v := nI (t + 1)) (lv' := [(4, .int (nI (t + 1))), (0, .ref b), (1, .int (nI i)), (2, .long y)]) hx hb dX5_changeRow_39 hl (k := 0) rfl (nI_1 t) (by decide) rfl (fun ls hl => ?_)
            refine lv_goto (tgt := 13) hx hb dX5_changeRow_42 (by decide) ?_
            exact ih (t + 1) (by omega) (lt_s hb4 (bi_n0 cw)) (by omega) ls (lv_sub hl [0, 1, 2, 3] rfl)
          · refine lv_bipush (v := (-2)) hx hb dX5_changeRow_36 (by decide) ?_
            exact nd_I hQ hx hb hr hlocks dX5_changeRow_38 hS (by rw [rwO_2 hl1 (fun q => bi_e0 cw (q t h7))]; exact ⟨rfl, hSh⟩)
    exact loop 8 0 (by omega) (fun j hj => absurd hj (Nat.not_lt_zero _)) (by omega) ls (lv_sub hl [0, 1, 2, 3] rfl)
  · refine lv_iconst (v := (-1)) hx hb dX5_changeRow_8 (by decide) ?_
    exact nd_I hQ hx hb hr hlocks dX5_changeRow_9 hS (by rw [rwO_1 (bi_e0 c1)]; exact ⟨rfl, hSh⟩)


theorem adO_1 {r : Nat → Int32} {p a b c st : Int32} (h : ¬ lfOk p a b c st) : adO r p a b c st = (-2, r) := if_pos h
theorem adO_2 {r : Nat → Int32} {p a b c st : Int32} (h : lfOk p a b c st) (h2 : 5 ≤ nlv r) : adO r p a b c st = (-4, r) := (if_neg (fun q => q h)).trans (if_pos h2)
theorem adO_3 {r : Nat → Int32} {p a b c st : Int32} (h : lfOk p a b c st) (h2 : ¬ 5 ≤ nlv r) : adO r p a b c st = (nI (nlv r), adR r (nlv r) p a b c st) := (if_neg (fun q => q h)).trans (if_neg h2)

set_option maxHeartbeats 4000000 in
set_option maxRecDepth 100000 in
theorem k_X5_addLeaf (l : Launch) (G : GG) (b : Nat) (r : Nat → Int32) (x t0 t1 t2 st : Int32) (hw : WF r) : Met l yX5_addLeaf (ws_ yX5_addLeaf cX5_addLeaf 8 (some .int)) (rm_ 2) (PC G [.ref b, .int x, .int t0, .int t1, .int t2, .int st] (ShopAt G b r)) (QI (fun v H => v = (adO r x t0 t1 t2 st).1 ∧ ShopAt G b (adO r x t0 t1 t2 st).2 H) (In b 20)) 0 0 (In b 20) := by
  refine met_q (by decide +kernel) (Nat.le_of_ble_eq_true rfl) ?_
  intro p e s m args below meth c Q hQ hx hb hr hT hown hml hlocks hnm hK hSh ls hl
  have hl : lv_has ls 8 [(0, .ref b), (1, .int x), (2, .int t0), (3, .int t1), (4, .int t2), (5, .int st)] := hl
  have hS : va_S (In b 20) s.heap s.heap [] := va_S.rf
  have hn5 := hw.nl5
  have hnl := hw.nl
  refine lv_iload_n hx hb dX5_addLeaf_0 rfl (lv_at hl 2 rfl) ?_
  refine lv_iconst (v := 0) hx hb dX5_addLeaf_1 (by decide) ?_
  refine lv_bipush (v := 100) hx hb dX5_addLeaf_2 (by decide) ?_
  refine got_i (run_s hx hb hml hown hT hK hl.1 (k_X5_isWithin l G t0 0 100) (cw_X5_71 hT ⟨Nat.le_of_ble_eq_true rfl, Nat.le_of_ble_eq_true rfl⟩) trivial rfl rfl (Nat.le_of_ble_eq_true rfl) dX5_addLeaf_4 ⟨Nat.zero_le _, Nat.zero_le _⟩) (fun v_1 hv_1 => ?_)
  subst hv_1
  refine lv_if_eq (tgt := 35) hx hb dX5_addLeaf_7 (by decide) (fun d1 => ?_) (fun d1 => ?_)
  · refine lv_iconst (v := 0) hx hb dX5_addLeaf_35 (by decide) ?_
    refine lv_istore (lv' := [(6, .int 0), (0, .ref b), (1, .int x), (2, .int t0), (3, .int t1), (4, .int t2), (5, .int st)]) hx hb dX5_addLeaf_36 hl (by decide) rfl (fun ls hl => ?_)
    refine lv_iload hx hb dX5_addLeaf_38 (lv_at hl 0 rfl) ?_
    refine lv_if_eq (tgt := 66) hx hb dX5_addLeaf_40 (by decide) (fun cz => ?_) (fun cz => ?_)
    · refine lv_bipush (v := (-2)) hx hb dX5_addLeaf_66 (by decide) ?_
      exact nd_I hQ hx hb hr hlocks dX5_addLeaf_68 hS (by rw [adO_1 (fun q => bi_e0 d1 q.1.1)]; exact ⟨rfl, hSh⟩)
    · exact absurd rfl cz
  · refine lv_iload_n hx hb dX5_addLeaf_10 rfl (lv_at hl 3 rfl) ?_
    refine lv_iconst (v := 0) hx hb dX5_addLeaf_11 (by decide) ?_
    refine lv_bipush (v := 100) hx hb dX5_addLeaf_12 (by decide) ?_
    refine got_i (run_s hx hb hml hown hT hK hl.1 (k_X5_isWithin l G t1 0 100) (cw_X5_71 hT ⟨Nat.le_of_ble_eq_true rfl, Nat.le_of_ble_eq_true rfl⟩) trivial rfl rfl (Nat.le_of_ble_eq_true rfl) dX5_addLeaf_14 ⟨Nat.zero_le _, Nat.zero_le _⟩) (fun v_2 hv_2 => ?_)
    subst hv_2
    refine lv_if_eq (tgt := 35) hx hb dX5_addLeaf_17 (by decide) (fun d2 => ?_) (fun d2 => ?_)
    · refine lv_iconst (v := 0) hx hb dX5_addLeaf_35 (by decide) ?_
      refine lv_istore (lv' := [(6, .int 0), (0, .ref b), (1, .int x), (2, .int t0), (3, .int t1), (4, .int t2), (5, .int st)]) hx hb dX5_addLeaf_36 hl (by decide) rfl (fun ls hl => ?_)
      refine lv_iload hx hb dX5_addLeaf_38 (lv_at hl 0 rfl) ?_
      refine lv_if_eq (tgt := 66) hx hb dX5_addLeaf_40 (by decide) (fun cz => ?_) (fun cz => ?_)
      · refine lv_bipush (v := (-2)) hx hb dX5_addLeaf_66 (by decide) ?_
        exact nd_I hQ hx hb hr hlocks dX5_addLeaf_68 hS (by rw [adO_1 (fun q => bi_e0 d2 q.1.2.1)]; exact ⟨rfl, hSh⟩)
      · exact absurd rfl cz
    · refine lv_iload hx hb dX5_addLeaf_20 (lv_at hl 4 rfl) ?_
      refine lv_iconst (v := 0) hx hb dX5_addLeaf_22 (by decide) ?_
      refine lv_bipush (v := 100) hx hb dX5_addLeaf_23 (by decide) ?_
      refine got_i (run_s hx hb hml hown hT hK hl.1 (k_X5_isWithin l G t2 0 100) (cw_X5_71 hT ⟨Nat.le_of_ble_eq_true rfl, Nat.le_of_ble_eq_true rfl⟩) trivial rfl rfl (Nat.le_of_ble_eq_true rfl) dX5_addLeaf_25 ⟨Nat.zero_le _, Nat.zero_le _⟩) (fun v_3 hv_3 => ?_)
      subst hv_3
      refine lv_if_eq (tgt := 35) hx hb dX5_addLeaf_28 (by decide) (fun d3 => ?_) (fun d3 => ?_)
      · refine lv_iconst (v := 0) hx hb dX5_addLeaf_35 (by decide) ?_
        refine lv_istore (lv' := [(6, .int 0), (0, .ref b), (1, .int x), (2, .int t0), (3, .int t1), (4, .int t2), (5, .int st)]) hx hb dX5_addLeaf_36 hl (by decide) rfl (fun ls hl => ?_)
        refine lv_iload hx hb dX5_addLeaf_38 (lv_at hl 0 rfl) ?_
        refine lv_if_eq (tgt := 66) hx hb dX5_addLeaf_40 (by decide) (fun cz => ?_) (fun cz => ?_)
        · refine lv_bipush (v := (-2)) hx hb dX5_addLeaf_66 (by decide) ?_
          exact nd_I hQ hx hb hr hlocks dX5_addLeaf_68 hS (by rw [adO_1 (fun q => bi_e0 d3 q.1.2.2)]; exact ⟨rfl, hSh⟩)
        · exact absurd rfl cz
      · refine lv_iconst (v := 1) hx hb dX5_addLeaf_31 (by decide) ?_
        refine lv_goto (tgt := 36) hx hb dX5_addLeaf_32 (by decide) ?_
        refine lv_istore (lv' := [(6, .int 1), (0, .ref b), (1, .int x), (2, .int t0), (3, .int t1), (4, .int t2), (5, .int st)]) hx hb dX5_addLeaf_36 hl (by decide) rfl (fun ls hl => ?_)
        refine lv_iload hx hb dX5_addLeaf_38 (lv_at hl 0 rfl) ?_
        refine lv_if_eq (tgt := 66) hx hb dX5_addLeaf_40 (by decide) (fun cz => ?_) (fun cz => ?_)
        · exact absurd cz (by decide)
        · refine lv_iload_n hx hb dX5_addLeaf_43 rfl (lv_at hl 2 rfl) ?_
          refine lv_iconst (v := 0) hx hb dX5_addLeaf_44 (by decide) ?_
          refine lv_sipush (v := 999) hx hb dX5_addLeaf_45 (by decide) ?_
          refine got_i (run_s hx hb hml hown hT hK hl.1 (k_X5_isWithin l G x 0 999) (cw_X5_71 hT ⟨Nat.le_of_ble_eq_true rfl, Nat.le_of_ble_eq_true rfl⟩) trivial rfl rfl (Nat.le_of_ble_eq_true rfl) dX5_addLeaf_48 ⟨Nat.zero_le _, Nat.zero_le _⟩) (fun v_4 hv_4 => ?_)
          subst hv_4
          refine lv_if_eq (tgt := 66) hx hb dX5_addLeaf_51 (by decide) (fun d4 => ?_) (fun d4 => ?_)
          · refine lv_bipush (v := (-2)) hx hb dX5_addLeaf_66 (by decide) ?_
            exact nd_I hQ hx hb hr hlocks dX5_addLeaf_68 hS (by rw [adO_1 (fun q => bi_e0 d4 q.2.1)]; exact ⟨rfl, hSh⟩)
          · refine lv_iload hx hb dX5_addLeaf_54 (lv_at hl 6 rfl) ?_
            refine lv_iconst (v := 0) hx hb dX5_addLeaf_56 (by decide) ?_
            refine lv_sipush (v := 9999) hx hb dX5_addLeaf_57 (by decide) ?_
            refine got_i (run_s hx hb hml hown hT hK hl.1 (k_X5_isWithin l G st 0 9999) (cw_X5_71 hT ⟨Nat.le_of_ble_eq_true rfl, Nat.le_of_ble_eq_true rfl⟩) trivial rfl rfl (Nat.le_of_ble_eq_true rfl) dX5_addLeaf_60 ⟨Nat.zero_le _, Nat.zero_le _⟩) (fun v_5 hv_5 => ?_)
            subst hv_5
            refine lv_if_ne (tgt := 69) hx hb dX5_addLeaf_63 (by decide) (fun d5 => ?_) (fun d5 => ?_)
            · have hok : lfOk x t0 t1 t2 st := ⟨⟨bi_n0 d1, bi_n0 d2, bi_n0 d3⟩, bi_n0 d4, bi_n0 d5⟩
              refine lv_aload_n hx hb dX5_addLeaf_69 rfl (lv_at hl 1 rfl) ?_
              refine rg (C := RX5) (T := TX5) (N := 8) (v := .int (r 5)) hx hb hT inX5 hown hK hSh.1 rfl 4 (by decide) mf_X5_52 rfl dX5_addLeaf_70 ?_
              refine lv_iconst (v := 5) hx hb dX5_addLeaf_73 (by decide) ?_
              refine lv_icmp_lt (tgt := 80) hx hb dX5_addLeaf_74 (by decide) (fun d6 => ?_) (fun d6 => ?_)
              · have h5 : nlv r < 5 := by
                  have h9 : r 5 < nI 5 := d6
                  rw [hnl, nI_ltI (by omega) (by omega)] at h9
                  exact h9
                obtain ⟨n, hn⟩ : ∃ n, n = nlv r := ⟨_, rfl⟩
                rw [← hn] at hn5 h5 hnl
                refine lv_aload_n hx hb dX5_addLeaf_80 rfl (lv_at hl 1 rfl) ?_
                refine rg (C := RX5) (T := TX5) (N := 8) (v := .ref (b + 1)) hx hb hT inX5 hown hK hSh.1 rfl 0 (by decide) mf_X5_11 rfl dX5_addLeaf_81 ?_
                refine lv_aload_n hx hb dX5_addLeaf_84 rfl (lv_at hl 1 rfl) ?_
                refine rg (C := RX5) (T := TX5) (N := 8) (v := .int (r 5)) hx hb hT inX5 hown hK hSh.1 rfl 4 (by decide) mf_X5_52 rfl dX5_addLeaf_85 ?_
                refine r_aaldS (y := b + 5 + 3 * n) hx hb hK hSh.2.1 rfl rfl n (hnl) (h5) (Nat.le_of_ble_eq_true rfl) rfl dX5_addLeaf_88 ?_
                refine lv_astore (lv' := [(7, .ref (b + 5 + 3 * n)), (6, .int 1), (0, .ref b), (1, .int x), (2, .int t0), (3, .int t1), (4, .int t2), (5, .int st)]) hx hb dX5_addLeaf_89 hl (by decide) rfl (fun ls hl => ?_)
                refine lv_aload hx hb dX5_addLeaf_91 (lv_at hl 0 rfl) ?_
                refine lv_iload_n hx hb dX5_addLeaf_93 rfl (lv_at hl 3 rfl) ?_
                refine lv_iload hx hb dX5_addLeaf_94 (lv_at hl 7 rfl) ?_
                refine got_V (run_i hx hb hml hown hT hK hl.1 (k_X1_comeFresh l G (b + 5 + 3 * n) (fun k => r (12 + 14 * n + k)) x st) (cw_X5_75 hT ⟨Nat.le_of_ble_eq_true rfl, Nat.le_of_ble_eq_true rfl⟩) (hSh.leaf (i := n) h5).1 rfl (hSh.leaf (i := n) h5) rfl rfl (Nat.le_of_ble_eq_true rfl) dX5_addLeaf_96 ⟨Nat.zero_le _, Nat.zero_le _⟩) hS (fun q (hq : _ ∧ _) => show _ ∧ _ from ⟨by omega, by omega⟩) (fun q (hq : _ ∧ _) => show _ ∧ _ from ⟨by omega, by omega⟩) (fun  H locs h1 hz hk hS => ?_)
                obtain ⟨r1, er1⟩ : ∃ r1, r1 = (fun k => if 12 + 14 * n ≤ k ∧ k < 26 + 14 * n then cfF (fun k => r (12 + 14 * n + k)) x st (k - (12 + 14 * n)) else r k) := ⟨_, rfl⟩
                have hSh : ShopAt G b r1 H := by
                  rw [er1]
                  refine hSh.putLeaf h5 (h1.ext (fun k hk => ?_)) (fun q hq hlt => hk q hlt (fun w => by have w : b + 5 + 3 * n ≤ q ∧ q < b + 5 + 3 * n + 3 := w; omega)) (fun k _ hk => if_neg (by omega))
                  rw [if_pos (by omega)]
                  congr 1
                  omega
                have e15 : r1 5 = nI n := by rw [er1, ← hnl]; exact if_neg (by omega)
                refine lv_aload hx hb dX5_addLeaf_99 (lv_at hl 0 rfl) ?_
                refine rg (C := RX1) (T := TX1) (N := 6) (v := .ref (b + 5 + 3 * n + 2)) hx hb hT inX1 hown hK (hSh.leaf (i := n) (by omega)).1 rfl 5 (by decide) mf_X5_79 rfl dX5_addLeaf_101 ?_
                refine lv_iconst (v := 0) hx hb dX5_addLeaf_104 (by decide) ?_
                refine lv_iload_n hx hb dX5_addLeaf_105 rfl (lv_at hl 4 rfl) ?_
                refine r_iast hx hb hK (hSh.leaf (i := n) (by omega)).2.2 0 (by decide) (by omega) (Nat.le_of_ble_eq_true rfl) hS (show _ ∧ _ from ⟨by omega, by omega⟩) dX5_addLeaf_106 (fun H locs h1 o hS => ?_)
                have hSh := hSh.pFresh h5 (k := 0) (by omega) h1 o
                refine lv_aload hx hb dX5_addLeaf_107 (lv_at hl 0 rfl) ?_
                refine rg (C := RX1) (T := TX1) (N := 6) (v := .ref (b + 5 + 3 * n + 2)) hx hb hT inX1 hown hK (hSh.leaf (i := n) (by omega)).1 rfl 5 (by decide) mf_X5_79 rfl dX5_addLeaf_109 ?_
                refine lv_iconst (v := 1) hx hb dX5_addLeaf_112 (by decide) ?_
                refine lv_iload_n hx hb dX5_addLeaf_113 rfl (lv_at hl 5 rfl) ?_
                refine r_iast hx hb hK (hSh.leaf (i := n) (by omega)).2.2 1 (by decide) (by omega) (Nat.le_of_ble_eq_true rfl) hS (show _ ∧ _ from ⟨by omega, by omega⟩) dX5_addLeaf_114 (fun H locs h1 o hS => ?_)
                have hSh := hSh.pFresh h5 (k := 1) (by omega) h1 o
                refine lv_aload hx hb dX5_addLeaf_115 (lv_at hl 0 rfl) ?_
                refine rg (C := RX1) (T := TX1) (N := 6) (v := .ref (b + 5 + 3 * n + 2)) hx hb hT inX1 hown hK (hSh.leaf (i := n) (by omega)).1 rfl 5 (by decide) mf_X5_79 rfl dX5_addLeaf_117 ?_
                refine lv_iconst (v := 2) hx hb dX5_addLeaf_120 (by decide) ?_
                refine lv_iload hx hb dX5_addLeaf_121 (lv_at hl 6 rfl) ?_
                refine r_iast hx hb hK (hSh.leaf (i := n) (by omega)).2.2 2 (by decide) (by omega) (Nat.le_of_ble_eq_true rfl) hS (show _ ∧ _ from ⟨by omega, by omega⟩) dX5_addLeaf_123 (fun H locs h1 o hS => ?_)
                have hSh := hSh.pFresh h5 (k := 2) (by omega) h1 o
                obtain ⟨r2, er2⟩ : ∃ r2, r2 = upd (upd (upd r1 (12 + 14 * n + (8 + 0)) t0) (12 + 14 * n + (8 + 1)) t1) (12 + 14 * n + (8 + 2)) t2 := ⟨_, rfl⟩
                rw [← er2] at hSh
                have e25 : r2 5 = nI n := by rw [er2, upd_ne (by omega), upd_ne (by omega), upd_ne (by omega)]; exact e15
                refine lv_aload_n hx hb dX5_addLeaf_124 rfl (lv_at hl 2 rfl) ?_
                refine lv_dup hx hb dX5_addLeaf_125 rfl ?_
                refine rg (C := RX5) (T := TX5) (N := 8) (v := .int (r2 5)) hx hb hT inX5 hown hK hSh.1 rfl 4 (by decide) mf_X5_52 rfl dX5_addLeaf_126 ?_
                refine lv_iconst (v := 1) hx hb dX5_addLeaf_129 (by decide) ?_
                refine lv_iadd hx hb dX5_addLeaf_130 ?_
                refine rp (C := RX5) (T := TX5) (N := 8) (v := .int ((r2 5) + 1)) (ty := .int) hx hb hT inX5 tyX5 tyX5_ok nmX5 hown hK hSh.1 rfl 4 (by decide) mf_X5_52 rfl (by decide +kernel) rfl rfl (Nat.le_of_ble_eq_true rfl) hS (show _ ∧ _ from ⟨by omega, by omega⟩) dX5_addLeaf_131 (fun H locs h1 o hS => ?_)
                have hSh := hSh.pLeaves h1 o
                refine lv_aload_n hx hb dX5_addLeaf_134 rfl (lv_at hl 2 rfl) ?_
                refine rg (C := RX5) (T := TX5) (N := 8) (v := .int ((upd r2 5 (r2 5 + 1)) 5)) hx hb hT inX5 hown hK hSh.1 rfl 4 (by decide) mf_X5_52 rfl dX5_addLeaf_135 ?_
                refine lv_iconst (v := 1) hx hb dX5_addLeaf_138 (by decide) ?_
                refine lv_isub hx hb dX5_addLeaf_139 ?_
                have ev : upd r2 5 (r2 5 + 1) 5 - 1 = nI n := by
                  rw [upd_eq, e25, nI_1]
                  exact nI_pred n
                exact nd_I hQ hx hb hr hlocks dX5_addLeaf_140 hS (by
        rw [adO_3 hok (by omega), ← hn]
        refine ⟨ev, hSh.ext (fun k hk => ?_)⟩
        show upd r2 5 (r2 5 + 1) k = adR r n x t0 t1 t2 st k
        unfold adR
        by_cases q5 : k = 5
        · rw [if_pos q5, q5, upd_eq, e25, nI_1]
        · rw [if_neg q5, upd_ne q5, er2]
          by_cases q : 12 + 14 * n ≤ k ∧ k < 26 + 14 * n
          · rw [if_pos q]
            obtain ⟨j, hj⟩ : ∃ j, j = k - (12 + 14 * n) := ⟨_, rfl⟩
            have ek : k = 12 + 14 * n + j := by omega
            rw [← hj]
            subst ek
            unfold lfN
            simp only [upd, er1]
            rw [if_pos q, ← hj]
            unfold cfF
            have hj14 : j < 14 := by omega
            have hcases : j = 0 ∨ j = 8 ∨ j = 9 ∨ j = 10 ∨ j = 11 ∨ (j ≠ 0 ∧ j < 8) ∨ 12 ≤ j := by omega
            rcases hcases with z | z | z | z | z | z | z
            all_goals (first | (subst z; simp <;> omega) | (simp only [show ¬ j = 0 by omega, show ¬ j = 8 by omega, show ¬ j = 9 by omega, show ¬ j = 10 by omega, show ¬ j = 11 by omega, if_false, if_true, show ¬ 12 + 14 * n + j = 12 + 14 * n + (8 + 0) by omega, show ¬ 12 + 14 * n + j = 12 + 14 * n + (8 + 1) by omega, show ¬ 12 + 14 * n + j = 12 + 14 * n + (8 + 2) by omega]; first | rw [if_pos z.2] | rw [if_neg (by omega), if_pos z]))
          · rw [if_neg q, upd_ne (by omega), upd_ne (by omega), upd_ne (by omega), er1]
            exact if_neg q)
              · refine lv_bipush (v := (-4)) hx hb dX5_addLeaf_77 (by decide) ?_
                have h5 : 5 ≤ nlv r := by
                  have h9 : ¬ r 5 < nI 5 := d6
                  rw [hnl, nI_ltI (by omega) (by omega)] at h9
                  omega
                exact nd_I hQ hx hb hr hlocks dX5_addLeaf_79 hS (by rw [adO_2 hok h5]; exact ⟨rfl, hSh⟩)
            · refine lv_bipush (v := (-2)) hx hb dX5_addLeaf_66 (by decide) ?_
              exact nd_I hQ hx hb hr hlocks dX5_addLeaf_68 hS (by rw [adO_1 (fun q => bi_e0 d5 q.2.2)]; exact ⟨rfl, hSh⟩)
