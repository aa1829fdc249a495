theorem dfX6 : ∀ j, j < 6 → defaultValue (tyX6 j) = vp_V [.null, .null, .null, .null, .null, .null] j := fun j hj => match j, hj with
  | 0, _ => rfl
  | 1, _ => rfl
  | 2, _ => rfl
  | 3, _ => rfl
  | 4, _ => rfl
  | 5, _ => rfl
/-! the law itself -/
theorem SB_X {b L : Nat} {xs : Nat → Int32} : SB (fun U => va_X b L xs U U.heap) := fun u U hv hh h => by
  have h2 : va_X b L xs u u.heap := h
  rw [hh] at h2
  exact va_X.moved (vmAl hv) h2
theorem X_lt {b L : Nat} {xs : Nat → Int32} {U : State} {H : Heap} (h : va_X b L xs U H) : b < H.size := by
  obtain ⟨scr, h1, -⟩ := h
  exact (Array.getElem?_eq_some_iff.mp h1).1

set_option maxHeartbeats 4000000 in
set_option maxRecDepth 100000 in
theorem k_L_cell (l : Launch) (G : GG) (b L k : Nat) (xs : Nat → Int32) (hk : k < 1000) (hL : L ≤ 260) : Met l yL_cell (ws_ yL_cell cL_cell 2 (some .int)) (rm_ 0) (PCX G (fun U => va_X b L xs U U.heap) [.ref b, .int (nI k)] (fun _ => True)) (vp_Si (fun _ => True)) 0 0 NoA := by
  refine met_qx (by decide +kernel) (Nat.le_of_ble_eq_true rfl) ?_
  intro p e s m args below meth c Q hQ hx hb hr hT hown hml hlocks hnm hK hX _ ls hl
  have hl : lv_has ls 2 [(0, .ref b), (1, .int (nI k))] := hl
  have hbl := X_lt hX
  have hS : va_S NoA s.heap s.heap [] := va_S.rf
  refine lv_iload_n hx hb dL_cell_0 rfl (lv_at hl 1 rfl) ?_
  refine lv_aload_n hx hb dL_cell_1 rfl (lv_at hl 0 rfl) ?_
  refine va_slen hx hb hX hbl (fun q => q) hS dL_cell_2 ?_
  refine lv_icmp_ge (tgt := 12) hx hb dL_cell_3 (by decide) (fun c1 => ?_) (fun c1 => ?_)
  · refine lv_ldc hx hb hown (hT _ mk_L_7) dL_cell_12 ?_
    refine lv_iload_n hx hb dL_cell_14 rfl (lv_at hl 1 rfl) ?_
    refine lv_imul hx hb dL_cell_15 ?_
    refine lv_sipush (v := 22613) hx hb dL_cell_16 (by decide) ?_
    refine lv_iadd hx hb dL_cell_19 ?_
    exact nd_i hQ hx hb hr hlocks dL_cell_20 (trivial)
  · have hkL : k < L := by
      have : ¬ L ≤ k := fun q => c1 (nI_le (a := L) (b := k) q (by omega))
      omega
    refine lv_aload_n hx hb dL_cell_6 rfl (lv_at hl 0 rfl) ?_
    refine lv_iload_n hx hb dL_cell_7 rfl (lv_at hl 1 rfl) ?_
    refine va_sld hx hb hX hbl (fun q => q) hS (vp_in_nI hkL (by omega)) dL_cell_8 ?_
    refine lv_goto (tgt := 20) hx hb dL_cell_9 (by decide) ?_
    exact nd_i hQ hx hb hr hlocks dL_cell_20 (trivial)

section LAW
variable {p : Program} {l : Launch} {e : Env} {s : State} {m : MethodId} {args : Array Value} {below : List Frame} {meth : Method} {c : Code} {Q : State → Prop} {G : GG} {b L z : Nat} {xs : Nat → Int32} {t3 : Nat → Nat} {t4 : Nat}

set_option maxHeartbeats 4000000 in
set_option maxRecDepth 100000 in
theorem law_end (hx : p.tables.exec = Jvm.exec) (hb : c.code = cL_law) (hml : c.maxLocals = 4) (hown : s.vm.findClass RL = some m.cls) (hT : ∀ w ∈ lw_good, w.before args s = true) (hK : Kn G s) (hz0 : s.heap.size ≤ z) (hbl : b < s.heap.size) (hXs : va_X b L xs s s.heap) (hXl : SxL t3 (fun q => s.heap.size ≤ q) s) (hL2 : L ≤ 260) (hend : ∀ (H : Heap) (locs : List Loc) (ls : Array Slot), va_S (fun q => s.heap.size ≤ q) s.heap H locs → W p l e room_1 s m args below meth c H locs 600000 7302250 Q (F0 m 222 ls [.int 1])) {r : Nat → Int32} {H : Heap} {locs : List Loc} {ls : Array Slot} {cells slots : Nat} (hv : Iv r) (hn : 1 ≤ nlv r) (hO : LO G z r H) (hS : va_S (fun q => s.heap.size ≤ q) s.heap H locs) (hr0 : cells + 0 ≤ room_1.cells ∧ slots + 0 ≤ room_1.slots) (hl : lv_has ls 4 [(1, .ref z)]) : W p l e room_1 s m args below meth c H locs cells slots Q (F0 m 77 ls []) := by
  have hw := hv.1
  have h5 := hw.nl5
  have hlf : lfP r 0 := by
    have := lfP_n hw (i := 0) (by omega)
    rw [nI_0] at this
    exact this
  have hn5 : ¬ lfP r 5 := fun (h : 0 ≤ _ ∧ _ < r 5) => by
    rw [hw.nl] at h
    exact nI_nlt (a := 5) (by omega) (by omega) h.2
  refine lv_aload_n hx hb dL_law_77 rfl (lv_at hl 0 rfl) ?_
  refine lv_sipush (v := 1000) hx hb dL_law_78 (by decide) ?_
  refine lv_iconst (v := 0) hx hb dL_law_81 (by decide) ?_
  refine lv_iconst (v := 0) hx hb dL_law_82 (by decide) ?_
  refine got_I (run_i hx hb hml hown hT hK hl.1 (q_leaf l G z r 1000 0 0 hw) (cw_L_44 hT ⟨Nat.le_of_ble_eq_true rfl, Nat.le_of_ble_eq_true rfl⟩) hO.te rfl hO rfl rfl (Nat.le_of_ble_eq_true rfl) dL_law_83 hr0) hS (fun q (hq : _ ∧ _) => show s.heap.size ≤ q from by omega) (fun q (hq : _ ∧ _) => show s.heap.size ≤ q from by omega) (fun v_1 H locs h1 hz hk hS => ?_)
  rw [adO_1 (fun h => absurd h.2.1.2 (by decide))] at h1
  obtain ⟨hv1, hO⟩ := h1
  have hv1 : v_1 = -2 := hv1
  subst hv1
  refine lv_bipush (v := (-2)) hx hb dL_law_86 (by decide) ?_
  refine lv_icmp_ne (tgt := 221) hx hb dL_law_88 (by decide) (fun c_2 => absurd (rfl) c_2) (fun _ => ?_)
  refine lv_aload_n hx hb dL_law_91 rfl (lv_at hl 0 rfl) ?_
  refine lv_iconst (v := 0) hx hb dL_law_92 (by decide) ?_
  refine lv_bipush (v := 101) hx hb dL_law_93 (by decide) ?_
  refine lv_iconst (v := 0) hx hb dL_law_95 (by decide) ?_
  refine got_I (run_i hx hb hml hown hT hK hl.1 (q_leaf l G z r 0 101 0 hw) (cw_L_44 hT ⟨Nat.le_of_ble_eq_true rfl, Nat.le_of_ble_eq_true rfl⟩) hO.te rfl hO rfl rfl (Nat.le_of_ble_eq_true rfl) dL_law_96 hr0) hS (fun q (hq : _ ∧ _) => show s.heap.size ≤ q from by omega) (fun q (hq : _ ∧ _) => show s.heap.size ≤ q from by omega) (fun v_3 H locs h1 hz hk hS => ?_)
  rw [adO_1 (fun h => absurd h.1.1.2 (by decide))] at h1
  obtain ⟨hv1, hO⟩ := h1
  have hv1 : v_3 = -2 := hv1
  subst hv1
  refine lv_bipush (v := (-2)) hx hb dL_law_99 (by decide) ?_
  refine lv_icmp_ne (tgt := 221) hx hb dL_law_101 (by decide) (fun c_4 => absurd (rfl) c_4) (fun _ => ?_)
  refine lv_aload_n hx hb dL_law_104 rfl (lv_at hl 0 rfl) ?_
  refine lv_iconst (v := 0) hx hb dL_law_105 (by decide) ?_
  refine lv_iconst (v := 0) hx hb dL_law_106 (by decide) ?_
  refine lv_sipush (v := 10000) hx hb dL_law_107 (by decide) ?_
  refine got_I (run_i hx hb hml hown hT hK hl.1 (q_leaf l G z r 0 0 10000 hw) (cw_L_44 hT ⟨Nat.le_of_ble_eq_true rfl, Nat.le_of_ble_eq_true rfl⟩) hO.te rfl hO rfl rfl (Nat.le_of_ble_eq_true rfl) dL_law_110 hr0) hS (fun q (hq : _ ∧ _) => show s.heap.size ≤ q from by omega) (fun q (hq : _ ∧ _) => show s.heap.size ≤ q from by omega) (fun v_5 H locs h1 hz hk hS => ?_)
  rw [adO_1 (fun h => absurd h.2.2.2 (by decide))] at h1
  obtain ⟨hv1, hO⟩ := h1
  have hv1 : v_5 = -2 := hv1
  subst hv1
  refine lv_bipush (v := (-2)) hx hb dL_law_113 (by decide) ?_
  refine lv_icmp_ne (tgt := 221) hx hb dL_law_115 (by decide) (fun c_6 => absurd (rfl) c_6) (fun _ => ?_)
  refine lv_aload_n hx hb dL_law_118 rfl (lv_at hl 0 rfl) ?_
  refine lv_iconst (v := 5) hx hb dL_law_119 (by decide) ?_
  refine lv_iconst (v := 0) hx hb dL_law_120 (by decide) ?_
  refine got_I (run_i hx hb hml hown hT hK hl.1 (q_share l G z r 5 0 hw) (cw_L_60 hT ⟨Nat.le_of_ble_eq_true rfl, Nat.le_of_ble_eq_true rfl⟩) hO.te rfl hO rfl rfl (Nat.le_of_ble_eq_true rfl) dL_law_121 hr0) hS (fun q (hq : _ ∧ _) => show s.heap.size ≤ q from by omega) (fun q (hq : _ ∧ _) => show s.heap.size ≤ q from by omega) (fun v_7 H locs h1 hz hk hS => ?_)
  rw [shO_1 hn5] at h1
  obtain ⟨hv1, hO⟩ := h1
  have hv1 : v_7 = -1 := hv1
  subst hv1
  refine lv_iconst (v := (-1)) hx hb dL_law_124 (by decide) ?_
  refine lv_icmp_ne (tgt := 221) hx hb dL_law_125 (by decide) (fun c_8 => absurd (rfl) c_8) (fun _ => ?_)
  refine lv_aload_n hx hb dL_law_128 rfl (lv_at hl 0 rfl) ?_
  refine lv_iconst (v := 0) hx hb dL_law_129 (by decide) ?_
  refine lv_bipush (v := 21) hx hb dL_law_130 (by decide) ?_
  refine got_I (run_i hx hb hml hown hT hK hl.1 (q_share l G z r 0 21 hw) (cw_L_60 hT ⟨Nat.le_of_ble_eq_true rfl, Nat.le_of_ble_eq_true rfl⟩) hO.te rfl hO rfl rfl (Nat.le_of_ble_eq_true rfl) dL_law_132 hr0) hS (fun q (hq : _ ∧ _) => show s.heap.size ≤ q from by omega) (fun q (hq : _ ∧ _) => show s.heap.size ≤ q from by omega) (fun v_9 H locs h1 hz hk hS => ?_)
  rw [shO_2 hlf (by decide)] at h1
  obtain ⟨hv1, hO⟩ := h1
  have hv1 : v_9 = -2 := hv1
  subst hv1
  refine lv_bipush (v := (-2)) hx hb dL_law_135 (by decide) ?_
  refine lv_icmp_ne (tgt := 221) hx hb dL_law_137 (by decide) (fun c_10 => absurd (rfl) c_10) (fun _ => ?_)
  refine lv_aload_n hx hb dL_law_140 rfl (lv_at hl 0 rfl) ?_
  refine lv_iconst (v := 3) hx hb dL_law_141 (by decide) ?_
  refine lv_iconst (v := 0) hx hb dL_law_142 (by decide) ?_
  refine lv_iconst (v := 0) hx hb dL_law_143 (by decide) ?_
  refine got_I (run_i hx hb hml hown hT hK hl.1 (q_bound l G z r 3 0 0 hw) (cw_L_57 hT ⟨Nat.le_of_ble_eq_true rfl, Nat.le_of_ble_eq_true rfl⟩) hO.te rfl hO rfl rfl (Nat.le_of_ble_eq_true rfl) dL_law_144 hr0) hS (fun q (hq : _ ∧ _) => show s.heap.size ≤ q from by omega) (fun q (hq : _ ∧ _) => show s.heap.size ≤ q from by omega) (fun v_11 H locs h1 hz hk hS => ?_)
  rw [bnO_1 (by decide)] at h1
  obtain ⟨hv1, hO⟩ := h1
  have hv1 : v_11 = -1 := hv1
  subst hv1
  refine lv_iconst (v := (-1)) hx hb dL_law_147 (by decide) ?_
  refine lv_icmp_ne (tgt := 221) hx hb dL_law_148 (by decide) (fun c_12 => absurd (rfl) c_12) (fun _ => ?_)
  refine lv_aload_n hx hb dL_law_151 rfl (lv_at hl 0 rfl) ?_
  refine lv_iconst (v := 0) hx hb dL_law_152 (by decide) ?_
  refine lv_iconst (v := 0) hx hb dL_law_153 (by decide) ?_
  refine got_I (run_i hx hb hml hown hT hK hl.1 (q_buy l G z r 0 0 hw) (cw_L_54 hT ⟨Nat.le_of_ble_eq_true rfl, Nat.le_of_ble_eq_true rfl⟩) hO.te rfl hO rfl rfl (Nat.le_of_ble_eq_true rfl) dL_law_154 hr0) hS (fun q (hq : _ ∧ _) => show s.heap.size ≤ q from by omega) (fun q (hq : _ ∧ _) => show s.heap.size ≤ q from by omega) (fun v_13 H locs h1 hz hk hS => ?_)
  rw [bgO_2 hlf (by decide)] at h1
  obtain ⟨hv1, hO⟩ := h1
  have hv1 : v_13 = -2 := hv1
  subst hv1
  refine lv_bipush (v := (-2)) hx hb dL_law_157 (by decide) ?_
  refine lv_icmp_ne (tgt := 221) hx hb dL_law_159 (by decide) (fun c_14 => absurd (rfl) c_14) (fun _ => ?_)
  refine lv_aload_n hx hb dL_law_162 rfl (lv_at hl 0 rfl) ?_
  refine lv_bipush (v := 100) hx hb dL_law_163 (by decide) ?_
  refine got_I (run_i hx hb hml hown hT hK hl.1 (q_pass l G z r 100 hw) (cw_L_73 hT ⟨Nat.le_of_ble_eq_true rfl, Nat.le_of_ble_eq_true rfl⟩) hO.te rfl hO rfl rfl (Nat.le_of_ble_eq_true rfl) dL_law_165 hr0) hS (fun q (hq : _ ∧ _) => show s.heap.size ≤ q from by omega) (fun q (hq : _ ∧ _) => show s.heap.size ≤ q from by omega) (fun v_15 H locs h1 hz hk hS => ?_)
  rw [pdO_1 (by decide)] at h1
  obtain ⟨hv1, hO⟩ := h1
  have hv1 : v_15 = -2 := hv1
  subst hv1
  refine lv_bipush (v := (-2)) hx hb dL_law_168 (by decide) ?_
  refine lv_icmp_ne (tgt := 221) hx hb dL_law_170 (by decide) (fun c_16 => absurd (rfl) c_16) (fun _ => ?_)
  refine lv_aload_n hx hb dL_law_173 rfl (lv_at hl 0 rfl) ?_
  refine lv_iconst (v := 2) hx hb dL_law_174 (by decide) ?_
  refine lv_iconst (v := 0) hx hb dL_law_175 (by decide) ?_
  refine got_I (run_ix SB_SxL (fun U hU hW => hXl.call hS (fun q (hq : _ ∧ _) => show s.heap.size ≤ q from by omega) hU hW) hx hb hml hown hT hK hl.1 (q_set l G z r 2 0 t3) (cw_L_76 hT ⟨Nat.le_of_ble_eq_true rfl, Nat.le_of_ble_eq_true rfl⟩) hO.te rfl hO rfl rfl (Nat.le_of_ble_eq_true rfl) dL_law_176 hr0) hS (fun q (hq : _ ∧ _) => show s.heap.size ≤ q from by omega) (fun q (hq : _ ∧ _) => show s.heap.size ≤ q from by omega) (fun v_17 H locs h1 hz hk hS => ?_)
  rw [setO_n (show ¬ _ by decide)] at h1
  obtain ⟨hv1, hO⟩ := h1
  have hv1 : v_17 = -2 := hv1
  subst hv1
  refine lv_bipush (v := (-2)) hx hb dL_law_179 (by decide) ?_
  refine lv_icmp_ne (tgt := 221) hx hb dL_law_181 (by decide) (fun c_18 => absurd (rfl) c_18) (fun _ => ?_)
  refine lv_aload_n hx hb dL_law_184 rfl (lv_at hl 0 rfl) ?_
  refine lv_iconst (v := 1) hx hb dL_law_185 (by decide) ?_
  refine lv_iconst (v := 0) hx hb dL_law_186 (by decide) ?_
  refine got_I (run_ix SB_SxL (fun U hU hW => hXl.call hS (fun q (hq : _ ∧ _) => show s.heap.size ≤ q from by omega) hU hW) hx hb hml hown hT hK hl.1 (q_set l G z r 1 0 t3) (cw_L_76 hT ⟨Nat.le_of_ble_eq_true rfl, Nat.le_of_ble_eq_true rfl⟩) hO.te rfl hO rfl rfl (Nat.le_of_ble_eq_true rfl) dL_law_187 hr0) hS (fun q (hq : _ ∧ _) => show s.heap.size ≤ q from by omega) (fun q (hq : _ ∧ _) => show s.heap.size ≤ q from by omega) (fun v_19 H locs h1 hz hk hS => ?_)
  rw [setO_n (show ¬ _ by decide)] at h1
  obtain ⟨hv1, hO⟩ := h1
  have hv1 : v_19 = -2 := hv1
  subst hv1
  refine lv_bipush (v := (-2)) hx hb dL_law_190 (by decide) ?_
  refine lv_icmp_ne (tgt := 221) hx hb dL_law_192 (by decide) (fun c_20 => absurd (rfl) c_20) (fun _ => ?_)
  refine lv_aload_n hx hb dL_law_195 rfl (lv_at hl 0 rfl) ?_
  refine lv_bipush (v := 6) hx hb dL_law_196 (by decide) ?_
  refine got_i (run_i hx hb hml hown hT hK hl.1 (q_blend_no l G z r 6 hw (by decide)) (cw_L_25 hT ⟨Nat.le_of_ble_eq_true rfl, Nat.le_of_ble_eq_true rfl⟩) hO.te rfl hO rfl rfl (Nat.le_of_ble_eq_true rfl) dL_law_198 hr0) (fun v_21 hv_21 => ?_)
  obtain rfl : v_21 = (-2) := hv_21
  refine lv_bipush (v := (-2)) hx hb dL_law_201 (by decide) ?_
  refine lv_icmp_ne (tgt := 221) hx hb dL_law_203 (by decide) (fun c_22 => absurd (rfl) c_22) (fun _ => ?_)
  refine lv_aload_n hx hb dL_law_206 rfl (lv_at hl 0 rfl) ?_
  refine lv_bipush (v := 14) hx hb dL_law_207 (by decide) ?_
  refine got_i (run_i hx hb hml hown hT hK hl.1 (q_count_no l G z r 14 (by decide)) (cw_L_9 hT ⟨Nat.le_of_ble_eq_true rfl, Nat.le_of_ble_eq_true rfl⟩) hO.te rfl hO rfl rfl (Nat.le_of_ble_eq_true rfl) dL_law_209 hr0) (fun v_23 hv_23 => ?_)
  obtain rfl : v_23 = (-2) := hv_23
  refine lv_bipush (v := (-2)) hx hb dL_law_212 (by decide) ?_
  refine lv_icmp_ne (tgt := 221) hx hb dL_law_214 (by decide) (fun c_24 => absurd (rfl) c_24) (fun _ => ?_)
  refine lv_iconst (v := 1) hx hb dL_law_217 (by decide) ?_
  refine lv_goto (tgt := 222) hx hb dL_law_218 (by decide) ?_
  exact W.widen (k := 600000) (n := 7302250) hr0.1 hr0.2 (hend _ _ _ hS)

def LJ (G : GG) (z j : Nat) (H : Heap) : Prop := ∃ r mk, (Iv r ∧ RM r mk) ∧ ((r 2).toInt ≤ 20 * (j : Int) ∧ (1 ≤ j → 1 ≤ nlv r)) ∧ LO G z r H ∧ ar G 0 (z + 197) (iA 60 mk) H
theorem LJ.ob {G : GG} {z j : Nat} {H : Heap} (h : LJ G z j H) : z + 197 < H.size := by
  obtain ⟨r, mk, h1, h2, h3, h4⟩ := h
  exact h4.lt

set_option maxHeartbeats 4000000 in
set_option maxRecDepth 100000 in
theorem law_act (hx : p.tables.exec = Jvm.exec) (hb : c.code = cL_law) (hml : c.maxLocals = 4) (hown : s.vm.findClass RL = some m.cls) (hT : ∀ w ∈ lw_good, w.before args s = true) (hK : Kn G s) (hz0 : s.heap.size ≤ z) (hbl : b < s.heap.size) (hXs : va_X b L xs s s.heap) (hXl : SxL t3 (fun q => s.heap.size ≤ q) s) (hL2 : L ≤ 260) {j : Nat} {u : Int32} {H : Heap} {locs : List Loc} {ls : Array Slot} (hj : j < 40) (hu : j = 0 → u = 0) (hI : LJ G z j H) (hS : va_S (fun q => s.heap.size ≤ q) s.heap H locs) (hl : lv_has ls 4 [(0, .ref b), (1, .ref z), (2, .ref (z + 197)), (3, .int (nI j))]) (kk : ∀ (H : Heap) (locs : List Loc), va_S (fun q => s.heap.size ≤ q) s.heap H locs → LJ G z (j + 1) H → ∀ ls : Array Slot, lv_has ls 4 [(0, .ref b), (1, .ref z), (2, .ref (z + 197)), (3, .int (nI (j + 1)))] → W p l e room_1 s m args below meth c H locs (198 + (j + 1)) (1104 + 5 * (j + 1)) Q (F0 m 15 ls [])) : W p l e room_1 s m args below meth c H locs (198 + j) (1104 + 5 * j) Q (F0 m 39 ls [.int u, .ref (z + 197), .ref z]) := by
  have hr0 : 198 + j + 0 ≤ room_1.cells ∧ 1104 + 5 * j + 0 ≤ room_1.slots := ⟨show _ ≤ 600000 by omega, show _ ≤ 7302250 by omega⟩
  have hr1 : 198 + j + 1 ≤ room_1.cells ∧ 1104 + 5 * j + 5 ≤ room_1.slots := ⟨show _ ≤ 600000 by omega, show _ ≤ 7302250 by omega⟩
  have hr2 : 198 + j + 1 + 0 ≤ room_1.cells ∧ 1104 + 5 * j + 5 + 0 ≤ room_1.slots := hr1
  obtain ⟨r, mk, ⟨hv, hRM⟩, ⟨hd, hn1⟩, hO, hA⟩ := hI
  have hzs : s.heap.size ≤ H.size := hS.1
  have hal := hA.lt
  refine lv_aload_n hx hb dL_law_39 rfl (lv_at hl 0 rfl) ?_
  refine lv_iconst (v := 2) hx hb dL_law_40 (by decide) ?_
  refine lv_iload_n hx hb dL_law_41 rfl (lv_at hl 3 rfl) ?_
  refine lv_imul hx hb dL_law_42 ?_
  refine lv_iconst (v := 1) hx hb dL_law_43 (by decide) ?_
  refine lv_iadd hx hb dL_law_44 ?_
  have e_1 : (2 * (nI j)) + 1 = nI (2 * j + 1) := ix_a (ix_m (a := 2) rfl rfl) (b := 1) rfl
  rw [e_1]
  refine got_i (run_sx SB_X (fun U hU hW => by subst hU; exact va_X.moved hW.alike (va_X.kept hXs (hS.2.1 b hbl (Nat.not_le.mpr hbl)))) hx hb hml hown hT hK hl.1 (k_L_cell l G b L (2 * j + 1) xs (by omega) hL2) (cw_L_80 hT ⟨Nat.le_of_ble_eq_true rfl, Nat.le_of_ble_eq_true rfl⟩) trivial rfl rfl (Nat.le_of_ble_eq_true rfl) dL_law_45 hr0) (fun v_2 _ => ?_)
  refine got_I (run_sx SB_SxL (fun U hU hW => hXl.call hS (fun q hq => show s.heap.size ≤ q from hq.elim (fun (x : _ ∧ _) => by omega) (fun x => x.elim (fun (y : q = z + 197) => by omega) (fun (y : H.size ≤ q) => by omega))) hU hW) hx hb hml hown hT hK hl.1 (k_L_act l G z (z + 197) H.size r mk u v_2 t3 hv hRM (by omega) (by omega)) (cw_L_84 hT ⟨Nat.le_of_ble_eq_true rfl, Nat.le_of_ble_eq_true rfl⟩) ⟨⟨hO, hA⟩, rfl⟩ rfl rfl (Nat.le_of_ble_eq_true rfl) dL_law_48 hr1) hS (fun q hq => show s.heap.size ≤ q from hq.elim (fun (x : _ ∧ _) => by omega) (fun x => x.elim (fun (y : q = z + 197) => by omega) (fun (y : H.size ≤ q) => by omega))) (fun q hq => show s.heap.size ≤ q from hq.elim (fun (x : _ ∧ _) => by omega) (fun x => x.elim (fun (y : q = z + 197) => by omega) (fun (y : H.size ≤ q) => by omega))) (fun v_3 H locs h1 hz hk hS => ?_)
  obtain ⟨hv1, r2, mk2, ⟨⟨hv2, hRM2⟩, ⟨hn2, hn3⟩, hd2⟩, hO, hA⟩ := h1
  subst hv1
  refine lv_if_eq (tgt := 69) hx hb dL_law_51 (by decide) (fun c_4 => absurd c_4 (by decide)) (fun _ => ?_)
  refine lv_aload_n hx hb dL_law_54 rfl (lv_at hl 1 rfl) ?_
  refine lv_aload_n hx hb dL_law_55 rfl (lv_at hl 2 rfl) ?_
  refine got_i (run_s hx hb hml hown hT hK hl.1 (k_L_leaves l G z (z + 197) r2 mk2 hv2 hRM2) (cw_L_88 hT ⟨Nat.le_of_ble_eq_true rfl, Nat.le_of_ble_eq_true rfl⟩) ⟨hO, hA⟩ rfl rfl (Nat.le_of_ble_eq_true rfl) dL_law_56 hr2) (fun v_5 hv_5 => ?_)
  obtain rfl : v_5 = 1 := hv_5
  refine lv_if_eq (tgt := 69) hx hb dL_law_59 (by decide) (fun c_6 => absurd c_6 (by decide)) (fun _ => ?_)
  refine lv_aload_n hx hb dL_law_62 rfl (lv_at hl 1 rfl) ?_
  refine got_i (run_s hx hb hml hown hT hK hl.1 (k_L_blend l G z r2 hv2) (cw_L_92 hT ⟨Nat.le_of_ble_eq_true rfl, Nat.le_of_ble_eq_true rfl⟩) hO rfl rfl (Nat.le_of_ble_eq_true rfl) dL_law_63 hr2) (fun v_7 hv_7 => ?_)
  obtain rfl : v_7 = 1 := hv_7
  refine lv_if_ne (tgt := 71) hx hb dL_law_66 (by decide) (fun _ => ?_) (fun c_8 => absurd c_8 (by decide))
  refine lv_iinc (v := nI (j + 1)) (lv' := [(3, .int (nI (j + 1))), (0, .ref b), (1, .ref z), (2, .ref (z + 197))]) hx hb dL_law_71 hl (k := 3) rfl (nI_1 j) (by decide) rfl (fun ls hl => ?_)
  refine lv_goto (tgt := 15) hx hb dL_law_74 (by decide) ?_
  refine W.widen (k := 198 + (j + 1)) (n := 1104 + 5 * (j + 1)) (by omega) (by omega) (kk _ _ hS ⟨r2, mk2, ⟨hv2, hRM2⟩, ⟨by omega, fun _ => ?_⟩, hO, hA⟩ ls (lv_sub hl [1, 2, 3, 0] rfl))
  rcases Nat.eq_zero_or_pos j with e0 | e0
  · exact hn3 (hu e0)
  · have := hn1 e0
    omega

set_option maxHeartbeats 4000000 in
set_option maxRecDepth 100000 in
theorem law_loop (hx : p.tables.exec = Jvm.exec) (hb : c.code = cL_law) (hml : c.maxLocals = 4) (hown : s.vm.findClass RL = some m.cls) (hT : ∀ w ∈ lw_good, w.before args s = true) (hK : Kn G s) (hz0 : s.heap.size ≤ z) (hbl : b < s.heap.size) (hXs : va_X b L xs s s.heap) (hXl : SxL t3 (fun q => s.heap.size ≤ q) s) (hL2 : L ≤ 260) (hend : ∀ (H : Heap) (locs : List Loc) (ls : Array Slot), va_S (fun q => s.heap.size ≤ q) s.heap H locs → W p l e room_1 s m args below meth c H locs 600000 7302250 Q (F0 m 222 ls [.int 1])) : ∀ (k j : Nat) (H : Heap) (locs : List Loc), va_S (fun q => s.heap.size ≤ q) s.heap H locs → LJ G z j H → j ≤ 40 → 40 - j < k → ∀ ls : Array Slot, lv_has ls 4 [(0, .ref b), (1, .ref z), (2, .ref (z + 197)), (3, .int (nI j))] → W p l e room_1 s m args below meth c H locs (198 + j) (1104 + 5 * j) Q (F0 m 15 ls []) := by
  intro k
  induction k with
  | zero => intro j H locs hS hI hj hm; exact absurd hm (Nat.not_lt_zero _)
  | succ k ih =>
    intro j H locs hS hI hj hm ls hl
    have hr0 : 198 + j + 0 ≤ room_1.cells ∧ 1104 + 5 * j + 0 ≤ room_1.slots := ⟨show _ ≤ 600000 by omega, show _ ≤ 7302250 by omega⟩
    refine lv_iload_n hx hb dL_law_15 rfl (lv_at hl 3 rfl) ?_
    refine lv_bipush (v := 40) hx hb dL_law_16 (by decide) ?_
    refine lv_icmp_ge (tgt := 77) hx hb dL_law_18 (by decide) (fun c1 => ?_) (fun c1 => ?_)
    · have hj40 : j = 40 := by
        have := (nI_leI (a := 40) (by omega) (by omega)).mp c1
        omega
      obtain ⟨r, mk, ⟨hv, hRM⟩, ⟨hd, hn1⟩, hO, hA⟩ := hI
      exact law_end hx hb hml hown hT hK hz0 hbl hXs hXl hL2 hend hv (hn1 (by omega)) hO hS hr0 (lv_sub hl [1] rfl)
    · have hj4 : j < 40 := by
        have : ¬ 40 ≤ j := fun q => c1 (nI_le (a := 40) q (by omega))
        omega
      refine lv_aload_n hx hb dL_law_21 rfl (lv_at hl 1 rfl) ?_
      refine lv_aload_n hx hb dL_law_22 rfl (lv_at hl 2 rfl) ?_
      refine lv_iload_n hx hb dL_law_23 rfl (lv_at hl 3 rfl) ?_
      refine lv_iconst (v := 3) hx hb dL_law_24 (by decide) ?_
      refine lv_icmp_ge (tgt := 32) hx hb dL_law_25 (by decide) (fun c2 => ?_) (fun c2 => ?_)
      · refine lv_aload_n hx hb dL_law_32 rfl (lv_at hl 0 rfl) ?_
        refine lv_iconst (v := 2) hx hb dL_law_33 (by decide) ?_
        refine lv_iload_n hx hb dL_law_34 rfl (lv_at hl 3 rfl) ?_
        refine lv_imul hx hb dL_law_35 ?_
        have e_1 : 2 * (nI j) = nI (2 * j) := ix_m (a := 2) rfl rfl
        rw [e_1]
        refine got_i (run_sx SB_X (fun U hU hW => by subst hU; exact va_X.moved hW.alike (va_X.kept hXs (hS.2.1 b hbl (Nat.not_le.mpr hbl)))) hx hb hml hown hT hK hl.1 (k_L_cell l G b L (2 * j) xs (by omega) hL2) (cw_L_80 hT ⟨Nat.le_of_ble_eq_true rfl, Nat.le_of_ble_eq_true rfl⟩) trivial rfl rfl (Nat.le_of_ble_eq_true rfl) dL_law_36 hr0) (fun v_2 _ => ?_)
        exact law_act hx hb hml hown hT hK hz0 hbl hXs hXl hL2 hj4 (fun q => absurd c2 (by rw [q]; decide)) hI hS (lv_sub hl [0, 1, 2, 3] rfl) (fun H1 locs1 hS1 hI1 ls1 hl1 => ih (j + 1) H1 locs1 hS1 hI1 (by omega) (by omega) ls1 hl1)
      · refine lv_iconst (v := 0) hx hb dL_law_28 (by decide) ?_
        refine lv_goto (tgt := 39) hx hb dL_law_29 (by decide) ?_
        exact law_act hx hb hml hown hT hK hz0 hbl hXs hXl hL2 hj4 (fun _ => rfl) hI hS (lv_sub hl [0, 1, 2, 3] rfl) (fun H1 locs1 hS1 hI1 ls1 hl1 => ih (j + 1) H1 locs1 hS1 hI1 (by omega) (by omega) ls1 hl1)

theorem Iv_rI : Iv rI := by
  refine ⟨by unfold WF; decide, by decide, by decide, fun t ht => ?_, fun i hi => ?_, by decide⟩
  · have h5 : t = 0 ∨ t = 1 ∨ t = 2 := by omega
    rcases h5 with rfl | rfl | rfl <;> (unfold BdR; decide)
  · unfold LfR
    have e : ∀ k, k < 14 → rI (12 + 14 * i + k) = 0 := fun k hk => rI_lf hk
    rw [e 0 (by omega), e 11 (by omega), e 12 (by omega), e 13 (by omega)]
    refine ⟨by decide, fun k hk => ?_, fun k hk => ?_, by decide, by decide, by decide⟩
    · rw [e (1 + k) (by omega)]; decide
    · rw [e (8 + k) (by omega)]; decide

set_option maxHeartbeats 4000000 in
set_option maxRecDepth 100000 in
theorem law_go (hx : p.tables.exec = Jvm.exec) (hb : c.code = cL_law) (hml : c.maxLocals = 4) (hown : s.vm.findClass RL = some m.cls) (hT : ∀ w ∈ lw_good, w.before args s = true) (hK : Kn G s) (hbl : b < s.heap.size) (hXs : va_X b L xs s s.heap) (hXl : SxL t3 (fun q => s.heap.size ≤ q) s) (hL2 : L ≤ 260) (hXc : SxC t4 (fun q => s.heap.size ≤ q) s) (hend : ∀ (H : Heap) (locs : List Loc) (ls : Array Slot), va_S (fun q => s.heap.size ≤ q) s.heap H locs → W p l e room_1 s m args below meth c H locs 600000 7302250 Q (F0 m 222 ls [.int 1])) {ls : Array Slot} (hl : lv_has ls 4 [(0, .ref b)]) : W p l e room_1 s m args below meth c s.heap [] 0 0 Q (F0 m 0 ls []) := by
  obtain ⟨z, hzz⟩ : ∃ z, s.heap.size = z := ⟨_, rfl⟩
  have hz0 : s.heap.size ≤ z := by omega
  have hS : va_S (fun q => s.heap.size ≤ q) s.heap s.heap [] := va_S.rf
  refine r_new (ci := 6) (C := RX6) (T := TX6) (N := 6) (h := z) (fs := [.null, .null, .null, .null, .null, .null]) hx hb hT inX6 tyX6 tyX6_ok hown ml_L_10 mn_X6 mz_X6 hK rfl dfX6 hzz (Nat.le_of_ble_eq_true rfl) (Nat.le_of_ble_eq_true rfl) hS dL_law_0 (fun H ho g hS => ?_)
  have hs1 : H.size = z + 1 := by have := g.1; omega
  refine lv_dup hx hb dL_law_3 rfl ?_
  refine got_V (va_runI (Ts := lw_good) ⟨hx, hb, hml, hown, hT⟩ (k_X6_init l G z t4) (cw_L_79 hT ⟨Nat.le_of_ble_eq_true rfl, Nat.le_of_ble_eq_true rfl⟩) (pre_sx SB_SxC hK ⟨ho, hs1⟩ (fun U hU hW => hXc.call hS (fun q (hq : _ ∧ _) => show s.heap.size ≤ q from by omega) hU hW)) rfl rfl hl.1 rfl (Nat.le_of_ble_eq_true rfl) dL_law_4 ⟨Nat.le_of_ble_eq_true rfl, Nat.le_of_ble_eq_true rfl⟩) hS (fun q (hq : _ ∧ _) => show s.heap.size ≤ q from by omega) (fun q (hq : _ ∧ _) => show s.heap.size ≤ q from by omega) (fun H locs h1 hzq hk hS => ?_)
  obtain ⟨hTe, hs2⟩ := h1
  have hO := LO.born hTe
  clear ho g hs1 hk hzq
  refine lv_astore_n (lv' := [(1, .ref z), (0, .ref b)]) hx hb dL_law_7 rfl hl (by decide) rfl (fun ls hl => ?_)
  refine lv_bipush (v := 60) hx hb dL_law_8 (by decide) ?_
  refine r_newI (h := z + 197) (n := 60) hx hb hT hK rfl (by decide) hs2 (Nat.le_of_ble_eq_true rfl) (Nat.le_of_ble_eq_true rfl) hS dL_law_10 (fun H hA g hS => ?_)
  have hO : LO G z rI H := hO.kept (fun q _ _ => g.2 q (by omega))
  have hI : LJ G z 0 H := ⟨rI, fun _ => 0, ⟨Iv_rI, fun i hi => absurd hi (Nat.not_lt_zero _)⟩, ⟨by decide, fun h => absurd h (by omega)⟩, hO, hA⟩
  refine lv_astore_n (lv' := [(2, .ref (z + 197)), (1, .ref z), (0, .ref b)]) hx hb dL_law_12 rfl hl (by decide) rfl (fun ls hl => ?_)
  refine lv_iconst (v := 0) hx hb dL_law_13 (by decide) ?_
  refine lv_istore_n (lv' := [(3, .int 0), (2, .ref (z + 197)), (1, .ref z), (0, .ref b)]) hx hb dL_law_14 rfl hl (by decide) rfl (fun ls hl => ?_)
  exact W.widen (k := 198 + 0) (n := 1104 + 5 * 0) (by decide) (by decide) (law_loop hx hb hml hown hT hK hz0 hbl hXs hXl hL2 hend 41 0 _ _ hS hI (by omega) (by omega) ls (lv_sub hl [3, 2, 1, 0] rfl))

end LAW
