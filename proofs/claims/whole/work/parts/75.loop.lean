/-! the law's loop and its beginning -/
theorem cs26 (y : Int32) : (y.toInt < 0 ∨ 26 < y.toInt) ∨ ∃ j, j < 27 ∧ y = nI j := by
  by_cases h : y.toInt < 0 ∨ 26 < y.toInt
  · exact Or.inl h
  · exact Or.inr ⟨y.toInt.toNat, by omega, nI_of_toInt (by omega)⟩
section LAW
variable {p : Program} {l : Launch} {e : Env} {s : State} {m : MethodId} {args : Array Value} {below : List Frame} {meth : Method} {c : Code} {Q : State → Prop} {G : GG} {b L z : Nat} {xs : Nat → Int32} {ad tv t3 : Nat → Nat} {t4 : Nat}

set_option maxHeartbeats 8000000 in
set_option maxRecDepth 100000 in
theorem law_turn (hx : p.tables.exec = Jvm.exec) (hb : c.code = cL_law) (hml : c.maxLocals = 4) (hown : s.vm.findClass RL = some m.cls) (hT : ∀ w ∈ lw_good, w.before args s = true) (hK : Kn G s) (hz0 : s.heap.size ≤ z) (hbl : b < s.heap.size) (hXs : va_X b L xs s s.heap) (hXr : SxR ad tv (fun q => s.heap.size ≤ q) s) (hXl : SxL t3 (fun q => s.heap.size ≤ q) s) (hXc : SxC t4 (fun q => s.heap.size ≤ q) s) (hL2 : L ≤ 2048) {cc : Nat} {H : Heap} {locs : List Loc} {ls : Array Slot} {y : Int32} (hI : LI G z cc H) (hS : va_S (fun q => s.heap.size ≤ q) s.heap H locs) (hcc : cc < 512) (hL : 4 * cc + 4 ≤ L) (hl : lv_has ls 4 [(3, .int (nI (4 * cc))), (2, .ref (z + 197)), (1, .ref z), (0, .ref b)]) (kk : ∀ (H1 : Heap) (locs1 : List Loc) (cells slots : Nat), cells ≤ 210 + 20 * (cc + 1) → slots ≤ 2005 + 101 * (cc + 1) → va_S (fun q => s.heap.size ≤ q) s.heap H1 locs1 → LI G z (cc + 1) H1 → W p l e room_1 s m args below meth c H1 locs1 cells slots Q (F0 m 838 ls [])) : W p l e room_1 s m args below meth c H locs (210 + 20 * cc) (2005 + 101 * cc) Q (F0 m 32 ls [.int y]) := by
  have hr0 : 210 + 20 * cc + 0 ≤ room_1.cells ∧ 2005 + 101 * cc + 0 ≤ room_1.slots := ⟨show _ ≤ 600000 by omega, show _ ≤ 7302250 by omega⟩
  have hr1 : 210 + 20 * cc + 20 ≤ room_1.cells ∧ 2005 + 101 * cc + 101 ≤ room_1.slots := ⟨show _ ≤ 600000 by omega, show _ ≤ 7302250 by omega⟩
  have hI1 : LI G z (cc + 1) H := by
    obtain ⟨M, T, nx, kp, n, sl, hR, hZ⟩ := hI
    exact ⟨M, T, nx, kp, n, sl, hR.s, hZ⟩
  rcases cs26 y with qc | ⟨j, hj, rfl⟩
  · exact lv_tableOut (tgt := 838) hx hb dL_law_32 qc (by decide) (kk _ _ _ _ (by omega) (by omega) hS hI1)
  · have k0 : ∀ (H1 : Heap) (locs1 : List Loc), va_S (fun q => s.heap.size ≤ q) s.heap H1 locs1 → LI G z (cc + 1) H1 → W p l e room_1 s m args below meth c H1 locs1 (210 + 20 * cc) (2005 + 101 * cc) Q (F0 m 838 ls []) := fun H1 locs1 a b => kk H1 locs1 _ _ (by omega) (by omega) a b
    have k1 : ∀ (H1 : Heap) (locs1 : List Loc), va_S (fun q => s.heap.size ≤ q) s.heap H1 locs1 → LI G z (cc + 1) H1 → W p l e room_1 s m args below meth c H1 locs1 (210 + 20 * cc + 20) (2005 + 101 * cc + 101) Q (F0 m 838 ls []) := fun H1 locs1 a b => kk H1 locs1 _ _ (by omega) (by omega) a b
    match j, hj with
    | 0, _ => exact lv_tableIn (off := 124) (tgt := 156) hx hb dL_law_32 (by decide) (by decide) (by decide) (by decide) (law_0 hx hb hml hown hT hK hz0 hbl hXs hXr hXl hXc hL2 hI hS hcc hL hr0 hl k0)
    | 1, _ => exact lv_tableIn (off := 157) (tgt := 189) hx hb dL_law_32 (by decide) (by decide) (by decide) (by decide) (law_1 hx hb hml hown hT hK hz0 hbl hXs hXr hXl hXc hL2 hI hS hcc hL hr0 hl k0)
    | 2, _ => exact lv_tableIn (off := 200) (tgt := 232) hx hb dL_law_32 (by decide) (by decide) (by decide) (by decide) (law_2 hx hb hml hown hT hK hz0 hbl hXs hXr hXl hXc hL2 hI hS hcc hL hr0 hl k0)
    | 3, _ => exact lv_tableIn (off := 263) (tgt := 295) hx hb dL_law_32 (by decide) (by decide) (by decide) (by decide) (law_3 hx hb hml hown hT hK hz0 hbl hXs hXr hXl hXc hL2 hI hS hcc hL hr0 hl k0)
    | 4, _ => exact lv_tableIn (off := 296) (tgt := 328) hx hb dL_law_32 (by decide) (by decide) (by decide) (by decide) (law_4 hx hb hml hown hT hK hz0 hbl hXs hXr hXl hXc hL2 hI hS hcc hL hr0 hl k0)
    | 5, _ => exact lv_tableIn (off := 339) (tgt := 371) hx hb dL_law_32 (by decide) (by decide) (by decide) (by decide) (law_5 hx hb hml hown hT hK hz0 hbl hXs hXr hXl hXc hL2 hI hS hcc hL hr0 hl k0)
    | 6, _ => exact lv_tableIn (off := 372) (tgt := 404) hx hb dL_law_32 (by decide) (by decide) (by decide) (by decide) (law_6 hx hb hml hown hT hK hz0 hbl hXs hXr hXl hXc hL2 hI hS hcc hL hr0 hl k0)
    | 7, _ => exact lv_tableIn (off := 385) (tgt := 417) hx hb dL_law_32 (by decide) (by decide) (by decide) (by decide) (law_7 hx hb hml hown hT hK hz0 hbl hXs hXr hXl hXc hL2 hI hS hcc hL hr0 hl k0)
    | 8, _ => exact lv_tableIn (off := 408) (tgt := 440) hx hb dL_law_32 (by decide) (by decide) (by decide) (by decide) (law_8 hx hb hml hown hT hK hz0 hbl hXs hXr hXl hXc hL2 hI hS hcc hL hr0 hl k0)
    | 9, _ => exact lv_tableIn (off := 431) (tgt := 463) hx hb dL_law_32 (by decide) (by decide) (by decide) (by decide) (law_9 hx hb hml hown hT hK hz0 hbl hXs hXr hXl hXc hL2 hI hS hcc hL hr0 hl k0)
    | 10, _ => exact lv_tableIn (off := 464) (tgt := 496) hx hb dL_law_32 (by decide) (by decide) (by decide) (by decide) (law_10 hx hb hml hown hT hK hz0 hbl hXs hXr hXl hXc hL2 hI hS hcc hL hr0 hl k0)
    | 11, _ => exact lv_tableIn (off := 487) (tgt := 519) hx hb dL_law_32 (by decide) (by decide) (by decide) (by decide) (law_11 hx hb hml hown hT hK hz0 hbl hXs hXr hXl hXc hL2 hI hS hcc hL hr0 hl k0)
    | 12, _ => exact lv_tableIn (off := 500) (tgt := 532) hx hb dL_law_32 (by decide) (by decide) (by decide) (by decide) (law_12 hx hb hml hown hT hK hz0 hbl hXs hXr hXl hXc hL2 hI hS hcc hL hr0 hl k0)
    | 13, _ => exact lv_tableIn (off := 523) (tgt := 555) hx hb dL_law_32 (by decide) (by decide) (by decide) (by decide) (law_13 hx hb hml hown hT hK hz0 hbl hXs hXr hXl hXc hL2 hI hS hcc hL hr0 hl k0)
    | 14, _ => exact lv_tableIn (off := 547) (tgt := 579) hx hb dL_law_32 (by decide) (by decide) (by decide) (by decide) (law_14 hx hb hml hown hT hK hz0 hbl hXs hXr hXl hXc hL2 hI hS hcc hL hr0 hl k0)
    | 15, _ => exact lv_tableIn (off := 560) (tgt := 592) hx hb dL_law_32 (by decide) (by decide) (by decide) (by decide) (law_15 hx hb hml hown hT hK hz0 hbl hXs hXr hXl hXc hL2 hI hS hcc hL hr0 hl k0)
    | 16, _ => exact lv_tableIn (off := 583) (tgt := 615) hx hb dL_law_32 (by decide) (by decide) (by decide) (by decide) (law_16 hx hb hml hown hT hK hz0 hbl hXs hXr hXl hXc hL2 hI hS hcc hL hr0 hl k0)
    | 17, _ => exact lv_tableIn (off := 606) (tgt := 638) hx hb dL_law_32 (by decide) (by decide) (by decide) (by decide) (law_17 hx hb hml hown hT hK hz0 hbl hXs hXr hXl hXc hL2 hI hS hcc hL hr0 hl k0)
    | 18, _ => exact lv_tableIn (off := 629) (tgt := 661) hx hb dL_law_32 (by decide) (by decide) (by decide) (by decide) (law_18 hx hb hml hown hT hK hz0 hbl hXs hXr hXl hXc hL2 hI hS hcc hL hr0 hl k0)
    | 19, _ => exact lv_tableIn (off := 642) (tgt := 674) hx hb dL_law_32 (by decide) (by decide) (by decide) (by decide) (law_19 hx hb hml hown hT hK hz0 hbl hXs hXr hXl hXc hL2 hI hS hcc hL hr0 hl k0)
    | 20, _ => exact lv_tableIn (off := 655) (tgt := 687) hx hb dL_law_32 (by decide) (by decide) (by decide) (by decide) (law_20 hx hb hml hown hT hK hz0 hbl hXs hXr hXl hXc hL2 hI hS hcc hL hr0 hl k0)
    | 21, _ => exact lv_tableIn (off := 708) (tgt := 740) hx hb dL_law_32 (by decide) (by decide) (by decide) (by decide) (law_21 hx hb hml hown hT hK hz0 hbl hXs hXr hXl hXc hL2 hI hS hcc hL hr0 hl k0)
    | 22, _ => exact lv_tableIn (off := 721) (tgt := 753) hx hb dL_law_32 (by decide) (by decide) (by decide) (by decide) (law_22 hx hb hml hown hT hK hz0 hbl hXs hXr hXl hXc hL2 hI hS hcc hL hr0 hl k0)
    | 23, _ => exact lv_tableIn (off := 734) (tgt := 766) hx hb dL_law_32 (by decide) (by decide) (by decide) (by decide) (law_23 hx hb hml hown hT hK hz0 hbl hXs hXr hXl hXc hL2 hI hS hcc hL hr0 hl k0)
    | 24, _ => exact lv_tableIn (off := 747) (tgt := 779) hx hb dL_law_32 (by decide) (by decide) (by decide) (by decide) (law_24 hx hb hml hown hT hK hz0 hbl hXs hXr hXl hXc hL2 hI hS hcc hL hr0 hl k0)
    | 25, _ => exact lv_tableIn (off := 760) (tgt := 792) hx hb dL_law_32 (by decide) (by decide) (by decide) (by decide) (law_25 hx hb hml hown hT hK hz0 hbl hXs hXr hXl hXc hL2 hI hS hcc hL hr1 hl k1)
    | 26, _ => exact lv_tableIn (off := 783) (tgt := 815) hx hb dL_law_32 (by decide) (by decide) (by decide) (by decide) (law_26 hx hb hml hown hT hK hz0 hbl hXs hXr hXl hXc hL2 hI hS hcc hL hr0 hl k0)
    | j + 27, hj => exact absurd hj (by omega)

theorem lp_le {L n : Nat} (hL : L ≤ 2048) (hn : n ≤ 2048) (h : ¬ Int32.ofNat L - 4 < nI n) : n + 4 ≤ L := by
  rw [i32_lt_iff, Int32.toInt_sub, nI_toInt (by omega)] at h
  have e1 : (Int32.ofNat L).toInt = (L : Int) := nI_toInt (n := L) (by omega)
  have e4 : (4 : Int32).toInt = 4 := rfl
  rw [e1, e4, Int.bmod_eq_of_le (by omega) (by omega)] at h
  omega

set_option maxHeartbeats 4000000 in
set_option maxRecDepth 100000 in
theorem law_loop (hx : p.tables.exec = Jvm.exec) (hb : c.code = cL_law) (hml : c.maxLocals = 4) (hown : s.vm.findClass RL = some m.cls) (hT : ∀ w ∈ lw_good, w.before args s = true) (hK : Kn G s) (hz0 : s.heap.size ≤ z) (hbl : b < s.heap.size) (hXs : va_X b L xs s s.heap) (hXr : SxR ad tv (fun q => s.heap.size ≤ q) s) (hXl : SxL t3 (fun q => s.heap.size ≤ q) s) (hXc : SxC t4 (fun q => s.heap.size ≤ q) s) (hL2 : L ≤ 2048) (hend : ∀ (H : Heap) (locs : List Loc) (ls : Array Slot), va_S (fun q => s.heap.size ≤ q) s.heap H locs → W p l e room_1 s m args below meth c H locs 600000 7302250 Q (F0 m 845 ls [.int 1])) : ∀ (k cc : Nat) (H : Heap) (locs : List Loc), va_S (fun q => s.heap.size ≤ q) s.heap H locs → LI G z cc H → cc ≤ 512 → 512 - cc < k → ∀ ls : Array Slot, lv_has ls 4 [(3, .int (nI (4 * cc))), (2, .ref (z + 197)), (1, .ref z), (0, .ref b)] → W p l e room_1 s m args below meth c H locs (210 + 20 * cc) (2005 + 101 * cc) Q (F0 m 18 ls []) := by
  intro k
  induction k with
  | zero => intro cc H locs hS hI hc hm; exact absurd hm (by omega)
  | succ k ih =>
    intro cc H locs hS hI hc hm ls hl
    refine lv_iload_n hx hb dL_law_18 rfl (lv_at hl 0 rfl) ?_
    refine lv_aload_n hx hb dL_law_19 rfl (lv_at hl 3 rfl) ?_
    refine va_slen hx hb hXs hbl (Nat.not_le.mpr hbl) hS dL_law_20 ?_
    refine lv_iconst (v := 4) hx hb dL_law_21 (by decide) ?_
    refine lv_isub hx hb dL_law_22 ?_
    refine lv_icmp_gt (tgt := 844) hx hb dL_law_23 (by decide) (fun c1 => ?_) (fun c1 => ?_)
    · refine lv_iconst (v := 1) hx hb dL_law_844 (by decide) ?_
      exact W.widen (k := 600000) (n := 7302250) (by omega) (by omega) (hend _ _ _ hS)
    · have hL4 : 4 * cc + 4 ≤ L := lp_le hL2 (by omega) c1
      refine lv_aload_n hx hb dL_law_26 rfl (lv_at hl 3 rfl) ?_
      refine lv_iload_n hx hb dL_law_27 rfl (lv_at hl 0 rfl) ?_
      refine r_scr hx hb hXs hbl hS (4 * cc) rfl (by omega) hL2 dL_law_28 ?_
      refine lv_bipush (v := 31) hx hb dL_law_29 (by decide) ?_
      refine lv_iand hx hb dL_law_31 ?_
      refine law_turn hx hb hml hown hT hK hz0 hbl hXs hXr hXl hXc hL2 hI hS (by omega) hL4 hl (fun H1 locs1 cells slots hc1 hs1 hS1 hI1 => ?_)
      refine lv_iinc (v := nI (4 * (cc + 1))) (lv' := [(3, .int (nI (4 * (cc + 1)))), (2, .ref (z + 197)), (1, .ref z), (0, .ref b)]) hx hb dL_law_838 hl (k := 0) rfl (ix_add (a := 4 * cc) (b := 4)) (by decide) rfl (fun ls hl => ?_)
      refine lv_goto (tgt := 18) hx hb dL_law_841 (by decide) ?_
      exact W.widen hc1 hs1 (ih (cc + 1) _ _ hS1 hI1 (by omega) (by omega) _ (lv_sub hl [0, 1, 2, 3] rfl))

set_option maxHeartbeats 4000000 in
set_option maxRecDepth 100000 in
theorem law_go (hx : p.tables.exec = Jvm.exec) (hb : c.code = cL_law) (hml : c.maxLocals = 4) (hown : s.vm.findClass RL = some m.cls) (hT : ∀ w ∈ lw_good, w.before args s = true) (hK : Kn G s) (hbl : b < s.heap.size) (hXs : va_X b L xs s s.heap) (hXr : SxR ad tv (fun q => s.heap.size ≤ q) s) (hXl : SxL t3 (fun q => s.heap.size ≤ q) s) (hXc : SxC t4 (fun q => s.heap.size ≤ q) s) (hL2 : L ≤ 2048) (hend : ∀ (H : Heap) (locs : List Loc) (ls : Array Slot), va_S (fun q => s.heap.size ≤ q) s.heap H locs → W p l e room_1 s m args below meth c H locs 600000 7302250 Q (F0 m 845 ls [.int 1])) {ls : Array Slot} (hl : lv_has ls 4 [(0, .ref b)]) : W p l e room_1 s m args below meth c s.heap [] 0 0 Q (F0 m 0 ls []) := by
  obtain ⟨z, hzz⟩ : ∃ z, s.heap.size = z := ⟨_, rfl⟩
  have hz0 : s.heap.size ≤ z := by omega
  have hS : va_S (fun q => s.heap.size ≤ q) s.heap s.heap [] := va_S.rf
  refine r_new (ci := 6) (C := RX6) (T := TX6) (N := 6) (h := z) (fs := [.null, .null, .null, .null, .null, .null]) hx hb hT inX6 tyX6 tyX6_ok hown ml_L_7 mn_X6 mz_X6 hK rfl dfX6 hzz (Nat.le_of_ble_eq_true rfl) (Nat.le_of_ble_eq_true rfl) hS dL_law_0 (fun H ho g hS => ?_)
  have hs1 : H.size = z + 1 := by have := g.1; omega
  refine lv_dup hx hb dL_law_3 rfl ?_
  refine got_V (va_runI (Ts := lw_good) ⟨hx, hb, hml, hown, hT⟩ (k_X6_init l G z t4) (cw_L_9 hT ⟨Nat.le_of_ble_eq_true rfl, Nat.le_of_ble_eq_true rfl⟩) (pre_sx SB_SxC hK ⟨ho, hs1⟩ (fun U hU hW => hXc.call hS (fun q (hq : _ ∧ _) => show s.heap.size ≤ q from by omega) hU hW)) rfl rfl hl.1 rfl (Nat.le_of_ble_eq_true rfl) dL_law_4 ⟨Nat.le_of_ble_eq_true rfl, Nat.le_of_ble_eq_true rfl⟩) hS (fun q (hq : _ ∧ _) => show s.heap.size ≤ q from by omega) (fun q (hq : _ ∧ _) => show s.heap.size ≤ q from by omega) (fun H locs h1 hzq hk hS => ?_)
  obtain ⟨hTe, hs2⟩ := h1
  clear ho g hs1 hk hzq
  refine lv_astore_n (lv' := [(1, .ref z), (0, .ref b)]) hx hb dL_law_7 rfl hl (by decide) rfl (fun ls hl => ?_)
  refine r_new (ci := 7) (C := RX7) (T := TX7) (N := 16) (h := z + 197) (fs := [.null, .null, .null, .null, .null, .int 0, .null, .int 0, .int 0, .null, .null, .null, .null, .null, .null, .int 0]) hx hb hT inX7 tyX7 tyX7_ok hown ml_L_10 mn_X7 mz_X7 hK rfl dfX7 hs2 (Nat.le_of_ble_eq_true rfl) (Nat.le_of_ble_eq_true rfl) hS dL_law_8 (fun H2 ho g hS => ?_)
  have hs3 : H2.size = z + 197 + 1 := by have := g.1; omega
  refine lv_dup hx hb dL_law_11 rfl ?_
  refine got_V (va_runI (Ts := lw_good) ⟨hx, hb, hml, hown, hT⟩ (k_X7_init l G (z + 197)) (cw_L_12 hT ⟨Nat.le_of_ble_eq_true rfl, Nat.le_of_ble_eq_true rfl⟩) (pre_s hK ⟨ho, hs3⟩) rfl rfl hl.1 rfl (Nat.le_of_ble_eq_true rfl) dL_law_12 ⟨Nat.le_of_ble_eq_true rfl, Nat.le_of_ble_eq_true rfl⟩) hS (fun q (hq : _ ∧ _) => show s.heap.size ≤ q from by omega) (fun q (hq : _ ∧ _) => show s.heap.size ≤ q from by omega) (fun H3 locs h1 hzq hk hS => ?_)
  have w : ∀ q, q < z + 197 → H3[q]? = H[q]? := fun q hq => (hk q (by omega) (fun (v : _ ∧ _) => by omega)).trans (g.2 q (by omega))
  obtain ⟨a1, a2, a3, a4⟩ := hTe
  have hRP : RP 0 MI (fun _ => rI) 0 0 0 z (fun _ => none) := ⟨⟨by omega, by omega, by omega⟩, ⟨rfl, rfl⟩, Good_rI, fun i hi => absurd hi (Nat.not_lt_zero _), fun j hj => Or.inl ⟨rfl, rfl⟩, fun q q2 h => by cases h⟩
  have hBA : BA G z (MI 0) (fun _ => rI) 0 0 (fun j k => MI 3 (82 * j + k)) (fun _ => none) (MI 6) 0 MI H3 := ⟨a1.kept (fun q _ _ => w q (by omega)), ⟨a2.kept (w _ (by omega)), fun j q hj hq => by cases hq⟩, ⟨fun _ => 0, 0, 0, 0, a3.kept (fun q hq => w q (by omega))⟩, ⟨fun _ _ => 0, fun _ _ => rfl, a4.kept (fun q _ _ => w q (by omega))⟩, h1.1⟩
  have hI : LI G z 0 H3 := ⟨MI, _, 0, 0, 0, _, hRP, hBA⟩
  refine lv_astore_n (lv' := [(2, .ref (z + 197)), (1, .ref z), (0, .ref b)]) hx hb dL_law_15 rfl hl (by decide) rfl (fun ls hl => ?_)
  refine lv_iconst (v := 0) hx hb dL_law_16 (by decide) ?_
  refine lv_istore_n (lv' := [(3, .int 0), (2, .ref (z + 197)), (1, .ref z), (0, .ref b)]) hx hb dL_law_17 rfl hl (by decide) rfl (fun ls hl => ?_)
  exact law_loop hx hb hml hown hT hK hz0 hbl hXs hXr hXl hXc hL2 hend 513 0 _ _ hS hI (by omega) (by omega) _ (lv_sub hl [0, 1, 2, 3] rfl)

end LAW
