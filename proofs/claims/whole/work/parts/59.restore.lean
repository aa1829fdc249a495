/-! the slots: an array of two, each empty or a shop elsewhere -/
section MYN
variable {p : Program} {l : Launch} {e : Env} {R : Room} {s : State} {m : MethodId} {args : Array Value} {below : List Frame} {meth : Method} {c : Code} {H : Heap} {locs : List Loc} {cells slots : Nat} {Q : State → Prop}
variable {cc : ByteArray} {pc : Nat} {ls : Array Slot} {rest : List Value} {a : Nat} {G : GG} {A : Nat → Prop} {H0 : Heap}
theorem r_aaldN {n k : Nat} {f : Nat → Option Nat} {ty : FieldType} (hx : p.tables.exec = Jvm.exec) (hb : c.code = cc) (hK : Kn G s) (h : ar G k a (qA n f) H) (ht : (tysG G)[k]? = some (G.2 k, ty)) (hty : ty.isReference = true) {x : Int32} (i : Nat) (he : x = nI i) (hi : i < n) (hn : n < 2 ^ 31) (hy : f i = none) (hdg : decode cc pc = .ok (.aaload, 1))
    (kk : W p l e R s m args below meth c H locs cells slots Q (F0 m (pc + 1) ls (.null :: rest))) : W p l e R s m args below meth c H locs cells slots Q (F0 m pc ls (.int x :: .ref a :: rest)) := by
  refine r_aald hx hb hK h ht hty i he hi hn hdg ?_
  rw [hy]
  exact kk
end MYN
def SlAt (G : GG) (z : Nat) (sl : Nat → Option Nat) (R : Nat → Nat → Int32) (H : Heap) : Prop := ar G 4 (z + 163) (qA 2 sl) H ∧ ∀ j q, j < 2 → sl j = some q → ShopAt G q (R j) H
theorem sl_ix2 {x : Int32} (h0 : ¬ x < 0) (h2 : x < 2) : ∃ j, j < 2 ∧ x = nI j := by
  refine sl_ix ⟨?_, ?_⟩
  · rw [i32_lt_iff] at h0
    rw [i32_le_iff]
    omega
  · rw [i32_lt_iff] at h2
    rw [i32_le_iff]
    have e1 : (1 : Int32).toInt = 1 := rfl
    have e2 : (2 : Int32).toInt = 2 := rfl
    omega
theorem sl_out1 {x : Int32} (h : x < 0) : ¬ (0 ≤ x ∧ x ≤ 1) := fun q => by
  rw [i32_lt_iff] at h
  have h9 := q.1
  rw [i32_le_iff] at h9
  omega
theorem sl_out2 {x : Int32} (h : ¬ x < 2) : ¬ (0 ≤ x ∧ x ≤ 1) := fun q => by
  rw [i32_lt_iff] at h
  have h9 := q.2
  rw [i32_le_iff] at h9
  have e1 : (1 : Int32).toInt = 1 := rfl
  have e2 : (2 : Int32).toInt = 2 := rfl
  omega

set_option maxHeartbeats 4000000 in
set_option maxRecDepth 100000 in
theorem k_X6_restore (l : Launch) (G : GG) (z nx kp : Nat) (r : Nat → Int32) (T : Nat → Nat → Int32) (sl : Nat → Option Nat) (Rs : Nat → Nat → Int32) (x : Int32) (hnx : nx < 7) (hkp : kp ≤ 6) (hq1 : ∀ j q, j < 2 → sl j = some q → z + 164 ≤ q) : Met l yX6_restore (ws_ yX6_restore cX6_restore 2 (some .int)) (rm_ 8) (PC G [.ref z, .int x] (fun H => T3 G z r T nx kp H ∧ SlAt G z sl Rs H)) (QI (fun v H => (¬ (0 ≤ x ∧ x ≤ 1) ∧ v = -2 ∧ T3 G z r T nx kp H) ∨ (∃ j, j < 2 ∧ x = nI j ∧ ((sl j = none ∧ v = -5 ∧ T3 G z r T nx kp H) ∨ (∃ q, sl j = some q ∧ v = Rs j 5 ∧ T3c G z r T nx kp (Rs j 5, Rs j) H)))) (In z 163)) 0 0 (In z 163) := by
  refine met_q (by decide +kernel) (Nat.le_of_ble_eq_true rfl) ?_
  intro p e s m args below meth c Q hQ hx hb hr hT hown hml hlocks hnm hK ⟨hZ, hSl⟩ ls hl
  have hl : lv_has ls 2 [(0, .ref z), (1, .int x)] := hl
  have hS : va_S (In z 163) s.heap s.heap [] := va_S.rf
  refine lv_iload_n hx hb dX6_restore_0 rfl (lv_at hl 1 rfl) ?_
  refine lv_if_lt (tgt := 9) hx hb dX6_restore_1 (by decide) (fun c1 => ?_) (fun c1 => ?_)
  · refine lv_bipush (v := (-2)) hx hb dX6_restore_9 (by decide) ?_
    exact nd_I hQ hx hb hr hlocks dX6_restore_11 hS (Or.inl ⟨sl_out1 c1, rfl, hZ⟩)
  · refine lv_iload_n hx hb dX6_restore_4 rfl (lv_at hl 1 rfl) ?_
    refine lv_iconst (v := 2) hx hb dX6_restore_5 (by decide) ?_
    refine lv_icmp_lt (tgt := 12) hx hb dX6_restore_6 (by decide) (fun c2 => ?_) (fun c2 => ?_)
    · obtain ⟨j, hj, rfl⟩ := sl_ix2 c1 c2
      refine lv_aload_n hx hb dX6_restore_12 rfl (lv_at hl 0 rfl) ?_
      refine rg (C := RX6) (T := TX6) (N := 6) (v := .ref (z + 163)) hx hb hT inX6 hown hK hZ.1 rfl 2 (by decide) mf_X6_23 rfl dX6_restore_13 ?_
      refine lv_iload_n hx hb dX6_restore_16 rfl (lv_at hl 1 rfl) ?_
      rcases hsj : sl j with _ | q
      · refine r_aaldN hx hb hK hSl.1 rfl rfl j rfl hj (Nat.le_of_ble_eq_true rfl) hsj dX6_restore_17 ?_
        refine lv_ifnonnullN hx hb dX6_restore_18 ?_
        refine lv_bipush (v := (-5)) hx hb dX6_restore_21 (by decide) ?_
        exact nd_I hQ hx hb hr hlocks dX6_restore_23 hS (Or.inr ⟨j, hj, rfl, Or.inl ⟨hsj, rfl, hZ⟩⟩)
      · have hsh := hSl.2 j q hj hsj
        have hqz := hq1 j q hj hsj
        have hqt := hsh.top
        refine r_aaldS (y := q) hx hb hK hSl.1 rfl rfl j rfl hj (Nat.le_of_ble_eq_true rfl) hsj dX6_restore_17 ?_
        refine lv_ifnonnull (tgt := 24) hx hb dX6_restore_18 (by decide) ?_
        refine lv_aload_n hx hb dX6_restore_24 rfl (lv_at hl 0 rfl) ?_
        refine rg (C := RX6) (T := TX6) (N := 6) (v := .ref (z + 21)) hx hb hT inX6 hown hK hZ.1 rfl 1 (by decide) mf_X6_19 rfl dX6_restore_25 ?_
        refine lv_aload_n hx hb dX6_restore_28 rfl (lv_at hl 0 rfl) ?_
        refine rg (C := RX6) (T := TX6) (N := 6) (v := .ref (z + 1)) hx hb hT inX6 hown hK hZ.1 rfl 0 (by decide) mf_X6_10 rfl dX6_restore_29 ?_
        refine got_V (run_i hx hb hml hown hT hK hl.1 (k_X0_draft l G (z + 21) (z + 1) nx kp T r hnx (by omega)) (cw_X6_50 hT ⟨Nat.le_of_ble_eq_true rfl, Nat.le_of_ble_eq_true rfl⟩) hZ.2.2.1 rfl ⟨hZ.2.2, hZ.2.1⟩ rfl rfl (Nat.le_of_ble_eq_true rfl) dX6_restore_32 ⟨Nat.zero_le _, Nat.zero_le _⟩) hS (fun q (hq : _ ∧ _) => show _ ∧ _ from ⟨by omega, by omega⟩) (fun q (hq : _ ∧ _) => show _ ∧ _ from ⟨by omega, by omega⟩) (fun  H locs h1 hz hk hS => ?_)
        have ht1 := hZ.2.1.top
        have ht2 := hZ.2.2.top
        have hq0 : z + 163 < s.heap.size := hSl.1.lt
        have hSa : ar G 4 (z + 163) (qA 2 sl) H := hSl.1.kept (hk _ hq0 (fun (w : _ ∧ _) => by omega))
        have hsh := hsh.kept (fun q' _ _ => hk q' (by omega) (fun (w : _ ∧ _) => by omega))
        have hZ : T3 G z r (updT T nx r) nx kp H := ⟨hZ.1.kept (hk z (by omega) (fun (q : _ ∧ _) => by omega)), hZ.2.1.kept (fun q _ _ => hk q (by omega) (fun (w : _ ∧ _) => by omega)), h1⟩
        refine lv_aload_n hx hb dX6_restore_35 rfl (lv_at hl 0 rfl) ?_
        refine rg (C := RX6) (T := TX6) (N := 6) (v := .ref (z + 1)) hx hb hT inX6 hown hK hZ.1 rfl 0 (by decide) mf_X6_10 rfl dX6_restore_36 ?_
        refine lv_aload_n hx hb dX6_restore_39 rfl (lv_at hl 0 rfl) ?_
        refine rg (C := RX6) (T := TX6) (N := 6) (v := .ref (z + 163)) hx hb hT inX6 hown hK hZ.1 rfl 2 (by decide) mf_X6_23 rfl dX6_restore_40 ?_
        refine lv_iload_n hx hb dX6_restore_43 rfl (lv_at hl 1 rfl) ?_
        refine r_aaldS (y := q) hx hb hK hSa rfl rfl j rfl hj (Nat.le_of_ble_eq_true rfl) hsj dX6_restore_44 ?_
        refine got_V (run_i hx hb hml hown hT hK hl.1 (k_X5_copyFrom l G (z + 1) q r (Rs j) (by omega)) (cw_X6_209 hT ⟨Nat.le_of_ble_eq_true rfl, Nat.le_of_ble_eq_true rfl⟩) hZ.2.1.1 rfl ⟨hZ.2.1, hsh⟩ rfl rfl (Nat.le_of_ble_eq_true rfl) dX6_restore_45 ⟨Nat.zero_le _, Nat.zero_le _⟩) hS (fun q (hq : _ ∧ _) => show _ ∧ _ from ⟨by omega, by omega⟩) (fun q (hq : _ ∧ _) => show _ ∧ _ from ⟨by omega, by omega⟩) (fun  H locs h1 hz hk hS => ?_)
        have ht1 := hZ.2.1.top
        have ht2 := hZ.2.2.top
        have hZ : T3 G z (Rs j) (updT T nx r) nx kp H := ⟨hZ.1.kept (hk z (by omega) (fun (q : _ ∧ _) => by omega)), h1, hZ.2.2.kept (fun q _ _ => hk q (by omega) (fun (w : _ ∧ _) => by omega))⟩
        refine lv_aload_n hx hb dX6_restore_48 rfl (lv_at hl 0 rfl) ?_
        refine rg (C := RX6) (T := TX6) (N := 6) (v := .ref (z + 21)) hx hb hT inX6 hown hK hZ.1 rfl 1 (by decide) mf_X6_19 rfl dX6_restore_49 ?_
        refine lv_aload_n hx hb dX6_restore_52 rfl (lv_at hl 0 rfl) ?_
        refine rg (C := RX6) (T := TX6) (N := 6) (v := .ref (z + 1)) hx hb hT inX6 hown hK hZ.1 rfl 0 (by decide) mf_X6_10 rfl dX6_restore_53 ?_
        refine rg (C := RX5) (T := TX5) (N := 8) (v := .int ((Rs j) 5)) hx hb hT inX5 hown hK hZ.2.1.1 rfl 4 (by decide) mf_X6_152 rfl dX6_restore_56 ?_
        refine got_I (run_i hx hb hml hown hT hK hl.1 (k_X0_settle l G (z + 21) nx kp (updT T nx r) (Rs j 5) hnx hkp) (cw_X6_58 hT ⟨Nat.le_of_ble_eq_true rfl, Nat.le_of_ble_eq_true rfl⟩) hZ.2.2.1 rfl hZ.2.2 rfl rfl (Nat.le_of_ble_eq_true rfl) dX6_restore_59 ⟨Nat.zero_le _, Nat.zero_le _⟩) hS (fun q (hq : _ ∧ _) => show _ ∧ _ from ⟨by omega, by omega⟩) (fun q (hq : _ ∧ _) => show _ ∧ _ from ⟨by omega, by omega⟩) (fun v_1 H locs h1 hz hk hS => ?_)
        obtain ⟨hv2, hHn⟩ := h1
        have ht1 := hZ.2.1.top
        have ht2 := hZ.2.2.top
        have hZ : T3c G z r T nx kp (Rs j 5, Rs j) H := ⟨hZ.1.kept (hk z (by omega) (fun (q : _ ∧ _) => by omega)), hZ.2.1.kept (fun q _ _ => hk q (by omega) (fun (w : _ ∧ _) => by omega)), hHn⟩
        exact nd_I hQ hx hb hr hlocks dX6_restore_62 hS (Or.inr ⟨j, hj, rfl, Or.inr ⟨q, hsj, hv2, hZ⟩⟩)
    · refine lv_bipush (v := (-2)) hx hb dX6_restore_9 (by decide) ?_
      exact nd_I hQ hx hb hr hlocks dX6_restore_11 hS (Or.inl ⟨sl_out2 c2, rfl, hZ⟩)
