/-! saving -/
def SvA (z h0 : Nat) (sl : Nat → Option Nat) : Nat → Prop := fun a => a = z + 163 ∨ (∃ j q, j < 2 ∧ sl j = some q ∧ In q 20 a) ∨ h0 ≤ a
theorem up_self {sl : Nat → Option Nat} {j q : Nat} (h : sl j = some q) : va_up sl j (some q) = sl := by
  funext i
  unfold va_up
  by_cases e : i = j
  · rw [if_pos e, e, h]
  · rw [if_neg e]
theorem up_eq {sl : Nat → Option Nat} {j q : Nat} : va_up sl j (some q) j = some q := if_pos rfl
theorem up_ne {sl : Nat → Option Nat} {j i q : Nat} (h : i ≠ j) : va_up sl j (some q) i = sl i := if_neg h

set_option maxHeartbeats 4000000 in
set_option maxRecDepth 100000 in
theorem k_X6_save (l : Launch) (G : GG) (z h0 : Nat) (r : Nat → Int32) (sl : Nat → Option Nat) (Rs : Nat → Nat → Int32) (x : Int32) (t : Nat) (hzt : z + 197 ≤ h0) (hq1 : ∀ j q, j < 2 → sl j = some q → z + 197 ≤ q) (hdis : ∀ q q2, sl 0 = some q → sl 1 = some q2 → q + 20 ≤ q2 ∨ q2 + 20 ≤ q) : Met l yX6_save (ws_ yX6_save cX6_save 2 (some .int)) (rmM 4 20 101) (PCX G (SxC t (SvA z h0 sl)) [.ref z, .int x] (fun H => (Te G z H ∧ ShopAt G (z + 1) r H) ∧ SlAt G z sl Rs H ∧ H.size = h0)) (QI (fun v H => (¬ (0 ≤ x ∧ x ≤ 1) ∧ v = -2 ∧ SlAt G z sl Rs H) ∨ (∃ j, j < 2 ∧ x = nI j ∧ v = r 5 ∧ ∃ q, (sl j = some q ∨ (sl j = none ∧ q = h0)) ∧ SlAt G z (va_up sl j (some q)) (updT Rs j r) H)) (SvA z h0 sl)) 20 101 (SvA z h0 sl) := by
  refine met_qx (by decide +kernel) (Nat.le_of_ble_eq_true rfl) ?_
  intro p e s m args below meth c Q hQ hx hb hr hT hown hml hlocks hnm hK hX ⟨⟨hTe, hSh⟩, hSl, hz⟩ ls hl
  have hl : lv_has ls 2 [(0, .ref z), (1, .int x)] := hl
  have hS : va_S (SvA z h0 sl) s.heap s.heap [] := va_S.rf
  have hshT := hSh.top
  have hslT : z + 163 < s.heap.size := hSl.1.lt
  refine lv_iload_n hx hb dX6_save_0 rfl (lv_at hl 1 rfl) ?_
  refine lv_if_lt (tgt := 9) hx hb dX6_save_1 (by decide) (fun c1 => ?_) (fun c1 => ?_)
  · refine W.widen (k := 20) (n := 101) (Nat.le_of_ble_eq_true rfl) (Nat.le_of_ble_eq_true rfl) ?_
    refine lv_bipush (v := (-2)) hx hb dX6_save_9 (by decide) ?_
    exact nd_I hQ hx hb hr hlocks dX6_save_11 hS (Or.inl ⟨sl_out1 c1, rfl, hSl⟩)
  · refine lv_iload_n hx hb dX6_save_4 rfl (lv_at hl 1 rfl) ?_
    refine lv_iconst (v := 2) hx hb dX6_save_5 (by decide) ?_
    refine lv_icmp_lt (tgt := 12) hx hb dX6_save_6 (by decide) (fun c2 => ?_) (fun c2 => ?_)
    · obtain ⟨j, hj, rfl⟩ := sl_ix2 c1 c2
      have h34 : ∀ (q : Nat) (ro : Nat → Int32) (H : Heap) (locs : List Loc), va_S (SvA z h0 sl) s.heap H locs → (sl j = some q ∨ (sl j = none ∧ q = h0)) → z + 197 ≤ q → Te G z H → ShopAt G (z + 1) r H → ar G 4 (z + 163) (qA 2 (va_up sl j (some q))) H → ShopAt G q ro H → (∀ i q2, i < 2 → i ≠ j → sl i = some q2 → ShopAt G q2 (Rs i) H ∧ (q2 + 20 ≤ q ∨ q + 20 ≤ q2)) → ∀ ls : Array Slot, lv_has ls 2 [(0, .ref z), (1, .int (nI j))] → W p l e (rmM 4 20 101) s m args below meth c H locs 20 101 Q (F0 m 34 ls []) := by
        intro q ro H locs hS hqj hqz hTe hSh hAr hSq hoth ls hl
        have hsub : ∀ a, In q 20 a → SvA z h0 sl a := fun a (ha : _ ∧ _) => by
          rcases hqj with e | ⟨-, e⟩
          · exact Or.inr (Or.inl ⟨j, q, hj, e, ha⟩)
          · exact Or.inr (Or.inr (by omega))
        refine lv_aload_n hx hb dX6_save_34 rfl (lv_at hl 0 rfl) ?_
        refine rg (C := RX6) (T := TX6) (N := 6) (v := .ref (z + 163)) hx hb hT inX6 hown hK hTe rfl 2 (by decide) mf_X6_23 rfl dX6_save_35 ?_
        refine lv_iload_n hx hb dX6_save_38 rfl (lv_at hl 1 rfl) ?_
        refine r_aaldS (y := q) hx hb hK hAr rfl rfl j rfl hj (Nat.le_of_ble_eq_true rfl) up_eq dX6_save_39 ?_
        refine lv_aload_n hx hb dX6_save_40 rfl (lv_at hl 0 rfl) ?_
        refine rg (C := RX6) (T := TX6) (N := 6) (v := .ref (z + 1)) hx hb hT inX6 hown hK hTe rfl 0 (by decide) mf_X6_10 rfl dX6_save_41 ?_
        refine got_V (run_i hx hb hml hown hT hK hl.1 (k_X5_copyFrom l G q (z + 1) ro r (by omega)) (cw_X6_209 hT ⟨Nat.le_of_ble_eq_true rfl, Nat.le_of_ble_eq_true rfl⟩) hSq.1 rfl ⟨hSq, hSh⟩ rfl rfl (Nat.le_of_ble_eq_true rfl) dX6_save_44 ⟨Nat.le_of_ble_eq_true rfl, Nat.le_of_ble_eq_true rfl⟩) hS hsub hsub (fun H locs h1 hzz hk hS => ?_)
        have ht1 := hSh.top
        have htA : z + 163 < _ := hAr.lt
        have hTe := hTe.kept (hk z (by omega) (fun (w : _ ∧ _) => by omega))
        have hSh := hSh.kept (fun q' _ _ => hk q' (by omega) (fun (w : _ ∧ _) => by omega))
        have hAr := hAr.kept (hk _ htA (fun (w : _ ∧ _) => by omega))
        refine W_nrm (c2 := 20) (s2 := 101) rfl rfl ?_
        refine lv_aload_n hx hb dX6_save_47 rfl (lv_at hl 0 rfl) ?_
        refine rg (C := RX6) (T := TX6) (N := 6) (v := .ref (z + 1)) hx hb hT inX6 hown hK hTe rfl 0 (by decide) mf_X6_10 rfl dX6_save_48 ?_
        refine rg (C := RX5) (T := TX5) (N := 8) (v := .int (r 5)) hx hb hT inX5 hown hK hSh.1 rfl 4 (by decide) mf_X6_152 rfl dX6_save_51 ?_
        have hSl2 : SlAt G z (va_up sl j (some q)) (updT Rs j r) H := ⟨hAr, fun i q2 hi he => by
          by_cases e : i = j
          · subst e
            rw [up_eq] at he
            cases he
            unfold updT
            rw [if_pos rfl]
            exact h1
          · rw [up_ne e] at he
            obtain ⟨o1, o2⟩ := hoth i q2 hi e he
            have ho1 := o1.top
            unfold updT
            rw [if_neg e]
            exact o1.kept (fun q' _ _ => hk q' (by omega) (fun (w : _ ∧ _) => by omega))⟩
        exact nd_I hQ hx hb hr hlocks dX6_save_54 hS (Or.inr ⟨j, hj, rfl, rfl, q, hqj, hSl2⟩)
      have hdj : ∀ i q q2, i < 2 → i ≠ j → sl j = some q → sl i = some q2 → q2 + 20 ≤ q ∨ q + 20 ≤ q2 := by
        intro i q q2 hi hne e1 e2
        have hc : (j = 0 ∧ i = 1) ∨ (j = 1 ∧ i = 0) := by omega
        rcases hc with ⟨rfl, rfl⟩ | ⟨rfl, rfl⟩
        · have h9 := hdis q q2 e1 e2
          omega
        · have h9 := hdis q2 q e2 e1
          omega
      refine lv_aload_n hx hb dX6_save_12 rfl (lv_at hl 0 rfl) ?_
      refine rg (C := RX6) (T := TX6) (N := 6) (v := .ref (z + 163)) hx hb hT inX6 hown hK hTe rfl 2 (by decide) mf_X6_23 rfl dX6_save_13 ?_
      refine lv_iload_n hx hb dX6_save_16 rfl (lv_at hl 1 rfl) ?_
      rcases hsj : sl j with _ | q
      · refine r_aaldN hx hb hK hSl.1 rfl rfl j rfl hj (Nat.le_of_ble_eq_true rfl) hsj dX6_save_17 ?_
        refine lv_ifnonnullN hx hb dX6_save_18 ?_
        refine lv_aload_n hx hb dX6_save_21 rfl (lv_at hl 0 rfl) ?_
        refine rg (C := RX6) (T := TX6) (N := 6) (v := .ref (z + 163)) hx hb hT inX6 hown hK hTe rfl 2 (by decide) mf_X6_23 rfl dX6_save_22 ?_
        refine lv_iload_n hx hb dX6_save_25 rfl (lv_at hl 1 rfl) ?_
        refine r_new (ci := 5) (C := RX5) (T := TX5) (N := 8) (h := h0) (fs := [.null, .null, .null, .null, .int 0, .int 0, .int 0, .int 0]) hx hb hT inX5 tyX5 tyX5_ok hown ml_X6_7 mn_X5 mz_X5 hK rfl dfX5 hz (Nat.le_of_ble_eq_true rfl) (Nat.le_of_ble_eq_true rfl) hS dX6_save_26 (fun H hn g hS => ?_)
        have hTe := hTe.kept (g.2 _ (by omega))
        have hSh := hSh.kept (fun q' _ _ => g.2 q' (by omega))
        have hSl1 := hSl.1.kept (g.2 _ hslT)
        have hz1 : H.size = h0 + 1 := by have h7 := g.1; omega
        have hoth : ∀ i q2, i < 2 → i ≠ j → sl i = some q2 → ShopAt G q2 (Rs i) H := fun i q2 hi _ e => by
          have o1 := hSl.2 i q2 hi e
          have ho1 := o1.top
          exact o1.kept (fun q' _ _ => g.2 q' (by omega))
        have hot2 : ∀ i q2, i < 2 → i ≠ j → sl i = some q2 → q2 + 20 ≤ h0 := fun i q2 hi _ e => by
          have ho1 := (hSl.2 i q2 hi e).top
          omega
        clear g
        refine lv_dup hx hb dX6_save_29 rfl ?_
        refine got_V (va_runI (Ts := lw_good) ⟨hx, hb, hml, hown, hT⟩ (k_X5_init l G h0 t) (cw_X6_9 hT ⟨Nat.le_of_ble_eq_true rfl, Nat.le_of_ble_eq_true rfl⟩) (pre_sx SB_SxC hK ⟨hn, hz1⟩ (fun U hU hW => hX.call hS (fun a (ha : _ ∧ _) => Or.inr (Or.inr (by omega))) hU hW)) rfl rfl hl.1 rfl (Nat.le_of_ble_eq_true rfl) dX6_save_30 ⟨Nat.le_of_ble_eq_true rfl, Nat.le_of_ble_eq_true rfl⟩) hS (fun a (ha : _ ∧ _) => Or.inr (Or.inr (by omega))) (fun a (ha : _ ∧ _) => Or.inr (Or.inr (by omega))) (fun H locs h1 hzz hk hS => ?_)
        have hTe := hTe.kept (hk _ (by omega) (fun (w : _ ∧ _) => by omega))
        have hSh := hSh.kept (fun q' _ _ => hk q' (by omega) (fun (w : _ ∧ _) => by omega))
        have hSl1 := hSl1.kept (hk _ (by omega) (fun (w : _ ∧ _) => by omega))
        have hoth : ∀ i q2, i < 2 → i ≠ j → sl i = some q2 → ShopAt G q2 (Rs i) H := fun i q2 hi hne e => by
          have h9 := hot2 i q2 hi hne e
          exact (hoth i q2 hi hne e).kept (fun q' _ _ => hk q' (by omega) (fun (w : _ ∧ _) => by omega))
        obtain ⟨hSq, hz2⟩ := h1
        clear hk hzz
        refine r_aast (ci := 5) (C := RX5) (T := TX5) (N := 8) hx hb hK hSl1 rfl hSq.1 rfl j rfl hj (Nat.le_of_ble_eq_true rfl) hS (Or.inl rfl) dX6_save_33 (fun H locs h1 o hS => ?_)
        have hTe := hTe.kept (o.2 _ (by omega))
        have hSh := hSh.kept (fun q' _ _ => o.2 q' (by omega))
        have hSq := hSq.kept (fun q' _ _ => o.2 q' (by omega))
        refine W.widen (k := 20) (n := 101) (Nat.le_of_ble_eq_true rfl) (Nat.le_of_ble_eq_true rfl) ?_
        exact h34 h0 rI H locs hS (Or.inr ⟨hsj, rfl⟩) (by omega) hTe hSh h1 hSq (fun i q2 hi hne e => ⟨(hoth i q2 hi hne e).kept (fun q' _ _ => o.2 q' (by have h9 := hq1 i q2 hi e; omega)), by have h9 := hot2 i q2 hi hne e; omega⟩) ls (lv_sub hl [0, 1] rfl)
      · have hSq := hSl.2 j q hj hsj
        refine r_aaldS (y := q) hx hb hK hSl.1 rfl rfl j rfl hj (Nat.le_of_ble_eq_true rfl) hsj dX6_save_17 ?_
        refine lv_ifnonnull (tgt := 34) hx hb dX6_save_18 (by decide) ?_
        refine W.widen (k := 20) (n := 101) (Nat.le_of_ble_eq_true rfl) (Nat.le_of_ble_eq_true rfl) ?_
        exact h34 q (Rs j) s.heap [] hS (Or.inl hsj) (hq1 j q hj hsj) hTe hSh (by rw [up_self hsj]; exact hSl.1) hSq (fun i q2 hi hne e => ⟨hSl.2 i q2 hi e, hdj i q q2 hi hne hsj e⟩) ls (lv_sub hl [0, 1] rfl)
    · refine W.widen (k := 20) (n := 101) (Nat.le_of_ble_eq_true rfl) (Nat.le_of_ble_eq_true rfl) ?_
      refine lv_bipush (v := (-2)) hx hb dX6_save_9 (by decide) ?_
      exact nd_I hQ hx hb hr hlocks dX6_save_11 hS (Or.inl ⟨sl_out2 c2, rfl, hSl⟩)
