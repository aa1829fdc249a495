theorem sv_in {x : Int32} {j : Nat} (hj : j < 2) (h : x = nI j) : 0 ≤ x ∧ x ≤ 1 := by
  have e : j = 0 ∨ j = 1 := by omega
  rcases e with rfl | rfl <;> (subst h; decide)
theorem sv_eq {i j : Nat} (hi : i < 2) (hj : j < 2) (h : nI i = nI j) : i = j := by
  have h9 := congrArg Int32.toInt h
  rw [nI_toInt (by omega), nI_toInt (by omega)] at h9
  omega
theorem svA_ge {z h0 q : Nat} {s0 : Nat} {sl : Nat → Option Nat} (h1 : s0 ≤ z) (h2 : s0 ≤ h0) (hsl : ∀ j q, j < 2 → sl j = some q → z + 210 ≤ q) (hq : SvA z h0 sl q) : s0 ≤ q := by
  rcases hq with hq | ⟨j, q2, hj, hq2, (hq : _ ∧ _)⟩ | hq
  · omega
  · have := hsl j q2 hj hq2; omega
  · omega
theorem sv_row {M : Nat → Nat → Int32} {i j k : Nat} (hj : j < 2) (hi : i < 2) (hk : k < 82) : updT (fun j k => M 3 (82 * j + k)) j (M 0) i k = cpN (M 3) (M 0) (82 * j) 82 (82 * i + k) := by
  unfold updT cpN
  by_cases e : i = j
  · subst e
    rw [if_pos rfl, if_pos (by omega), show 82 * i + k - 82 * i = k by omega]
  · rw [if_neg e, if_neg (by omega)]
theorem rs_row {M : Nat → Nat → Int32} {j k : Nat} (hk : k < 82) : rsR M j k = M 3 (82 * j + k) := by
  unfold rsR cpN
  rw [if_pos (by omega), show k - 0 = k by omega]

/-! the law's calls -/
theorem puN_le {n X : Nat} (hn : n ≤ 80) : puN n X ≤ 80 := by
  unfold puN
  split
  · exact hn
  · split
    · exact hn
    · omega
theorem cmp_self {x : Int64} : lg_cmp x x = 0 := by
  unfold lg_cmp
  rw [if_neg (by intro h; exact absurd h Int64.lt_irrefl), if_pos rfl]
theorem ix_add {a b : Nat} : nI a + nI b = nI (a + b) := by
  unfold nI
  exact (Int32.ofNat_add a b).symm
theorem LI.push {G : GG} {z c nx kp n : Nat} {M M2 T : Nat → Nat → Int32} {sl : Nat → Option Nat} {op : Op} {H : Heap} (hR : RP c M T nx kp n z sl) (hP : PubS M M2 op kp) (g : Good (c + 1) op.2) (hZ : BA G z op.2 (updT T nx (M 0)) (if 0 ≤ op.1 then (nx + 1) % 7 else nx) (if 0 ≤ op.1 then min (kp + 1) 6 else kp) (fun j k => M 3 (82 * j + k)) sl (M 6) n M2 H) : LI G z (c + 1) H := by
  obtain ⟨p0, p1, p5, p3, p4, p6, p7⟩ := hP
  refine ⟨M2, _, _, _, n, sl, hR.push g p0 p1 p5 p3 p4 (p7.trans hR.2.1.2) hR.1.2.2, ?_⟩
  rw [p0, p3, p6]
  exact hZ
theorem LI.same {G : GG} {z c nx kp n : Nat} {M M2 T : Nat → Nat → Int32} {sl : Nat → Option Nat} {H : Heap} (hR : RP c M T nx kp n z sl) (hP : ∀ k, k < 8 → M2 k = M k) (hZ : BA G z (M 0) T nx kp (fun j k => M 3 (82 * j + k)) sl (M 6) n M2 H) : LI G z (c + 1) H := by
  refine ⟨M2, T, nx, kp, n, sl, (hR.same (hP 0 (by omega)) (hP 1 (by omega)) (hP 3 (by omega)) (hP 4 (by omega)) (by rw [hP 5 (by omega)]) (by rw [hP 7 (by omega)]; exact hR.2.1.2) hR.1.2.2).s, ?_⟩
  rw [hP 0 (by omega), hP 3 (by omega), hP 6 (by omega)]
  exact hZ
section LAW
variable {p : Program} {l : Launch} {e : Env} {s : State} {m : MethodId} {args : Array Value} {below : List Frame} {meth : Method} {c : Code} {Q : State → Prop} {G : GG} {b L z : Nat} {xs : Nat → Int32} {ad tv t3 : Nat → Nat} {t4 : Nat}
theorem r_scr {R : Room} {H : Heap} {locs : List Loc} {cells slots pc : Nat} {cc : ByteArray} {ls : Array Slot} {rest : List Value} (hx : p.tables.exec = Jvm.exec) (hb : c.code = cc) (hXs : va_X b L xs s s.heap) (hbl : b < s.heap.size) (hS : va_S (fun q => s.heap.size ≤ q) s.heap H locs) {x : Int32} (k : Nat) (he : x = nI k) (hk : k < L) (hL2 : L ≤ 2048) (hdg : decode cc pc = .ok (.iaload, 1)) (kk : W p l e R s m args below meth c H locs cells slots Q (F0 m (pc + 1) ls (.int (xs k) :: rest))) : W p l e R s m args below meth c H locs cells slots Q (F0 m pc ls (.int x :: .ref b :: rest)) := by
  subst he
  have h9 : (nI k).toNatClampNeg = k := nI_clamp (by omega)
  refine va_sld hx hb hXs hbl (Nat.not_le.mpr hbl) hS (vp_in_nI hk (by omega)) hdg ?_
  rw [h9]
  exact kk

set_option maxHeartbeats 4000000 in
set_option maxRecDepth 100000 in
theorem law_0 (hx : p.tables.exec = Jvm.exec) (hb : c.code = cL_law) (hml : c.maxLocals = 4) (hown : s.vm.findClass RL = some m.cls) (hT : ∀ w ∈ lw_good, w.before args s = true) (hK : Kn G s) (hz0 : s.heap.size ≤ z) (hbl : b < s.heap.size) (hXs : va_X b L xs s s.heap) (hXr : SxR ad tv (fun q => s.heap.size ≤ q) s) (hXl : SxL t3 (fun q => s.heap.size ≤ q) s) (hXc : SxC t4 (fun q => s.heap.size ≤ q) s) (hL2 : L ≤ 2048) {cc : Nat} {H : Heap} {locs : List Loc} {cells slots : Nat} {ls : Array Slot} (hI : LI G z cc H) (hS : va_S (fun q => s.heap.size ≤ q) s.heap H locs) (hcc : cc < 512) (hL : 4 * cc + 4 ≤ L) (hr0 : cells + 0 ≤ room_1.cells ∧ slots + 0 ≤ room_1.slots) (hl : lv_has ls 4 [(3, .int (nI (4 * cc))), (2, .ref (z + 197)), (1, .ref z), (0, .ref b)]) (kk : ∀ (H1 : Heap) (locs1 : List Loc), va_S (fun q => s.heap.size ≤ q) s.heap H1 locs1 → LI G z (cc + 1) H1 → W p l e room_1 s m args below meth c H1 locs1 cells slots Q (F0 m 838 ls [])) : W p l e room_1 s m args below meth c H locs cells slots Q (F0 m 156 ls []) := by
  obtain ⟨M, T, nx, kp, n, sl, hR, hZ⟩ := hI
  have hsl := hR.sl
  have hnx := hR.1.1
  have hkp := hR.1.2.1
  have hn := hR.1.2.2
  have hg := hR.2.2.1
  have hv := hg.1
  have hw := hv.1
  have h5 := hR.2.1.1
  have h7 := hR.2.1.2
  refine lv_aload_n hx hb dL_law_156 rfl (lv_at hl 2 rfl) ?_
  refine lv_aload_n hx hb dL_law_157 rfl (lv_at hl 3 rfl) ?_
  refine lv_iload_n hx hb dL_law_158 rfl (lv_at hl 0 rfl) ?_
  refine lv_iconst (v := 1) hx hb dL_law_159 (by decide) ?_
  refine lv_iadd hx hb dL_law_160 ?_
  refine r_scr hx hb hXs hbl hS (4 * cc + 1) (by rw [show (1 : Int32) = nI 1 from by decide]; exact ix_add) (by omega) hL2 dL_law_161 ?_
  refine lv_aload_n hx hb dL_law_162 rfl (lv_at hl 3 rfl) ?_
  refine lv_iload_n hx hb dL_law_163 rfl (lv_at hl 0 rfl) ?_
  refine lv_iconst (v := 2) hx hb dL_law_164 (by decide) ?_
  refine lv_iadd hx hb dL_law_165 ?_
  refine r_scr hx hb hXs hbl hS (4 * cc + 2) (by rw [show (2 : Int32) = nI 2 from by decide]; exact ix_add) (by omega) hL2 dL_law_166 ?_
  refine got_I (run_ix SB_SxL (fun U hU hW => hXl.call hS (fun q (hq : _ ∧ _) => show s.heap.size ≤ q from by omega) hU hW) hx hb hml hown hT hK hl.1 (k_X6_set l G z nx kp (M 0) T (xs (4 * cc + 1)) (xs (4 * cc + 2)) t3 hnx hkp ) (cw_L_13 hT ⟨Nat.le_of_ble_eq_true rfl, Nat.le_of_ble_eq_true rfl⟩) hZ.1.1 rfl hZ.1 rfl rfl (Nat.le_of_ble_eq_true rfl) dL_law_167 hr0) hS (fun q (hq : _ ∧ _) => show s.heap.size ≤ q from by omega) (fun q (hq : _ ∧ _) => show s.heap.size ≤ q from by omega) (fun v_1 H locs h1 hz hk hS => ?_)
  obtain ⟨hv1, h3⟩ := h1
  have hZ := hZ.face hsl hk h3
  refine lv_aload_n hx hb dL_law_170 rfl (lv_at hl 1 rfl) ?_
  refine lv_aload_n hx hb dL_law_171 rfl (lv_at hl 3 rfl) ?_
  refine lv_iload_n hx hb dL_law_172 rfl (lv_at hl 0 rfl) ?_
  refine lv_iconst (v := 1) hx hb dL_law_173 (by decide) ?_
  refine lv_iadd hx hb dL_law_174 ?_
  refine r_scr hx hb hXs hbl hS (4 * cc + 1) (by rw [show (1 : Int32) = nI 1 from by decide]; exact ix_add) (by omega) hL2 dL_law_175 ?_
  refine lv_aload_n hx hb dL_law_176 rfl (lv_at hl 3 rfl) ?_
  refine lv_iload_n hx hb dL_law_177 rfl (lv_at hl 0 rfl) ?_
  refine lv_iconst (v := 2) hx hb dL_law_178 (by decide) ?_
  refine lv_iadd hx hb dL_law_179 ?_
  refine r_scr hx hb hXs hbl hS (4 * cc + 2) (by rw [show (2 : Int32) = nI 2 from by decide]; exact ix_add) (by omega) hL2 dL_law_180 ?_
  refine got_I (run_i hx hb hml hown hT hK hl.1 (k_X7_set l G (z + 197) M kp (xs (4 * cc + 1)) (xs (4 * cc + 2)) hw h5 hkp) (cw_L_17 hT ⟨Nat.le_of_ble_eq_true rfl, Nat.le_of_ble_eq_true rfl⟩) hZ.2.2.2.2.1 rfl hZ.2.2.2.2 rfl rfl (Nat.le_of_ble_eq_true rfl) dL_law_181 hr0) hS (fun q (hq : _ ∧ _) => show s.heap.size ≤ q from by omega) (fun q (hq : _ ∧ _) => show s.heap.size ≤ q from by omega) (fun v_2 H locs h1 hz hk hS => ?_)
  obtain ⟨hv2, M2, hP, hM⟩ := h1
  have hZ := hZ.md hsl hk hM
  have hvv : v_1 = v_2 := hv1.trans hv2.symm
  have hfin : LI G z (cc + 1) _ := LI.push hR hP (hg.op (Iv_set hv (xs (4 * cc + 1)) (xs (4 * cc + 2))) (e34_set ..)) hZ
  exact lv_icmp_eq (tgt := 838) hx hb dL_law_184 (by decide) (fun c1 => kk _ _ hS hfin) (fun c1 => absurd hvv c1)

set_option maxHeartbeats 4000000 in
set_option maxRecDepth 100000 in
theorem law_1 (hx : p.tables.exec = Jvm.exec) (hb : c.code = cL_law) (hml : c.maxLocals = 4) (hown : s.vm.findClass RL = some m.cls) (hT : ∀ w ∈ lw_good, w.before args s = true) (hK : Kn G s) (hz0 : s.heap.size ≤ z) (hbl : b < s.heap.size) (hXs : va_X b L xs s s.heap) (hXr : SxR ad tv (fun q => s.heap.size ≤ q) s) (hXl : SxL t3 (fun q => s.heap.size ≤ q) s) (hXc : SxC t4 (fun q => s.heap.size ≤ q) s) (hL2 : L ≤ 2048) {cc : Nat} {H : Heap} {locs : List Loc} {cells slots : Nat} {ls : Array Slot} (hI : LI G z cc H) (hS : va_S (fun q => s.heap.size ≤ q) s.heap H locs) (hcc : cc < 512) (hL : 4 * cc + 4 ≤ L) (hr0 : cells + 0 ≤ room_1.cells ∧ slots + 0 ≤ room_1.slots) (hl : lv_has ls 4 [(3, .int (nI (4 * cc))), (2, .ref (z + 197)), (1, .ref z), (0, .ref b)]) (kk : ∀ (H1 : Heap) (locs1 : List Loc), va_S (fun q => s.heap.size ≤ q) s.heap H1 locs1 → LI G z (cc + 1) H1 → W p l e room_1 s m args below meth c H1 locs1 cells slots Q (F0 m 838 ls [])) : W p l e room_1 s m args below meth c H locs cells slots Q (F0 m 189 ls []) := by
  obtain ⟨M, T, nx, kp, n, sl, hR, hZ⟩ := hI
  have hsl := hR.sl
  have hnx := hR.1.1
  have hkp := hR.1.2.1
  have hn := hR.1.2.2
  have hg := hR.2.2.1
  have hv := hg.1
  have hw := hv.1
  have h5 := hR.2.1.1
  have h7 := hR.2.1.2
  refine lv_aload_n hx hb dL_law_189 rfl (lv_at hl 2 rfl) ?_
  refine lv_aload_n hx hb dL_law_190 rfl (lv_at hl 3 rfl) ?_
  refine lv_iload_n hx hb dL_law_191 rfl (lv_at hl 0 rfl) ?_
  refine lv_iconst (v := 1) hx hb dL_law_192 (by decide) ?_
  refine lv_iadd hx hb dL_law_193 ?_
  refine r_scr hx hb hXs hbl hS (4 * cc + 1) (by rw [show (1 : Int32) = nI 1 from by decide]; exact ix_add) (by omega) hL2 dL_law_194 ?_
  refine lv_aload_n hx hb dL_law_195 rfl (lv_at hl 3 rfl) ?_
  refine lv_iload_n hx hb dL_law_196 rfl (lv_at hl 0 rfl) ?_
  refine lv_iconst (v := 2) hx hb dL_law_197 (by decide) ?_
  refine lv_iadd hx hb dL_law_198 ?_
  refine r_scr hx hb hXs hbl hS (4 * cc + 2) (by rw [show (2 : Int32) = nI 2 from by decide]; exact ix_add) (by omega) hL2 dL_law_199 ?_
  refine lv_aload_n hx hb dL_law_200 rfl (lv_at hl 3 rfl) ?_
  refine lv_iload_n hx hb dL_law_201 rfl (lv_at hl 0 rfl) ?_
  refine lv_iconst (v := 3) hx hb dL_law_202 (by decide) ?_
  refine lv_iadd hx hb dL_law_203 ?_
  refine r_scr hx hb hXs hbl hS (4 * cc + 3) (by rw [show (3 : Int32) = nI 3 from by decide]; exact ix_add) (by omega) hL2 dL_law_204 ?_
  refine got_I (run_i hx hb hml hown hT hK hl.1 (k_X6_leaf l G z nx kp (M 0) T (xs (4 * cc + 1)) (xs (4 * cc + 2)) (xs (4 * cc + 3)) hnx hkp hw) (cw_L_18 hT ⟨Nat.le_of_ble_eq_true rfl, Nat.le_of_ble_eq_true rfl⟩) hZ.1.1 rfl hZ.1 rfl rfl (Nat.le_of_ble_eq_true rfl) dL_law_205 hr0) hS (fun q (hq : _ ∧ _) => show s.heap.size ≤ q from by omega) (fun q (hq : _ ∧ _) => show s.heap.size ≤ q from by omega) (fun v_1 H locs h1 hz hk hS => ?_)
  obtain ⟨hv1, h3⟩ := h1
  have hZ := hZ.face hsl hk h3
  refine lv_aload_n hx hb dL_law_208 rfl (lv_at hl 1 rfl) ?_
  refine lv_aload_n hx hb dL_law_209 rfl (lv_at hl 3 rfl) ?_
  refine lv_iload_n hx hb dL_law_210 rfl (lv_at hl 0 rfl) ?_
  refine lv_iconst (v := 1) hx hb dL_law_211 (by decide) ?_
  refine lv_iadd hx hb dL_law_212 ?_
  refine r_scr hx hb hXs hbl hS (4 * cc + 1) (by rw [show (1 : Int32) = nI 1 from by decide]; exact ix_add) (by omega) hL2 dL_law_213 ?_
  refine lv_aload_n hx hb dL_law_214 rfl (lv_at hl 3 rfl) ?_
  refine lv_iload_n hx hb dL_law_215 rfl (lv_at hl 0 rfl) ?_
  refine lv_iconst (v := 2) hx hb dL_law_216 (by decide) ?_
  refine lv_iadd hx hb dL_law_217 ?_
  refine r_scr hx hb hXs hbl hS (4 * cc + 2) (by rw [show (2 : Int32) = nI 2 from by decide]; exact ix_add) (by omega) hL2 dL_law_218 ?_
  refine lv_aload_n hx hb dL_law_219 rfl (lv_at hl 3 rfl) ?_
  refine lv_iload_n hx hb dL_law_220 rfl (lv_at hl 0 rfl) ?_
  refine lv_iconst (v := 3) hx hb dL_law_221 (by decide) ?_
  refine lv_iadd hx hb dL_law_222 ?_
  refine r_scr hx hb hXs hbl hS (4 * cc + 3) (by rw [show (3 : Int32) = nI 3 from by decide]; exact ix_add) (by omega) hL2 dL_law_223 ?_
  refine got_I (run_i hx hb hml hown hT hK hl.1 (k_X7_leaf l G (z + 197) M kp (xs (4 * cc + 1)) (xs (4 * cc + 2)) (xs (4 * cc + 3)) hw h5 hkp) (cw_L_22 hT ⟨Nat.le_of_ble_eq_true rfl, Nat.le_of_ble_eq_true rfl⟩) hZ.2.2.2.2.1 rfl hZ.2.2.2.2 rfl rfl (Nat.le_of_ble_eq_true rfl) dL_law_224 hr0) hS (fun q (hq : _ ∧ _) => show s.heap.size ≤ q from by omega) (fun q (hq : _ ∧ _) => show s.heap.size ≤ q from by omega) (fun v_2 H locs h1 hz hk hS => ?_)
  obtain ⟨hv2, M2, hP, hM⟩ := h1
  have hZ := hZ.md hsl hk hM
  have hvv : v_1 = v_2 := hv1.trans hv2.symm
  have hfin : LI G z (cc + 1) _ := LI.push hR hP (hg.op (Iv_ad hv ..) (e34_ad ..)) hZ
  exact lv_icmp_eq (tgt := 838) hx hb dL_law_227 (by decide) (fun c1 => kk _ _ hS hfin) (fun c1 => absurd hvv c1)

set_option maxHeartbeats 4000000 in
set_option maxRecDepth 100000 in
theorem law_2 (hx : p.tables.exec = Jvm.exec) (hb : c.code = cL_law) (hml : c.maxLocals = 4) (hown : s.vm.findClass RL = some m.cls) (hT : ∀ w ∈ lw_good, w.before args s = true) (hK : Kn G s) (hz0 : s.heap.size ≤ z) (hbl : b < s.heap.size) (hXs : va_X b L xs s s.heap) (hXr : SxR ad tv (fun q => s.heap.size ≤ q) s) (hXl : SxL t3 (fun q => s.heap.size ≤ q) s) (hXc : SxC t4 (fun q => s.heap.size ≤ q) s) (hL2 : L ≤ 2048) {cc : Nat} {H : Heap} {locs : List Loc} {cells slots : Nat} {ls : Array Slot} (hI : LI G z cc H) (hS : va_S (fun q => s.heap.size ≤ q) s.heap H locs) (hcc : cc < 512) (hL : 4 * cc + 4 ≤ L) (hr0 : cells + 0 ≤ room_1.cells ∧ slots + 0 ≤ room_1.slots) (hl : lv_has ls 4 [(3, .int (nI (4 * cc))), (2, .ref (z + 197)), (1, .ref z), (0, .ref b)]) (kk : ∀ (H1 : Heap) (locs1 : List Loc), va_S (fun q => s.heap.size ≤ q) s.heap H1 locs1 → LI G z (cc + 1) H1 → W p l e room_1 s m args below meth c H1 locs1 cells slots Q (F0 m 838 ls [])) : W p l e room_1 s m args below meth c H locs cells slots Q (F0 m 232 ls []) := by
  obtain ⟨M, T, nx, kp, n, sl, hR, hZ⟩ := hI
  have hsl := hR.sl
  have hnx := hR.1.1
  have hkp := hR.1.2.1
  have hn := hR.1.2.2
  have hg := hR.2.2.1
  have hv := hg.1
  have hw := hv.1
  have h5 := hR.2.1.1
  have h7 := hR.2.1.2
  refine lv_aload_n hx hb dL_law_232 rfl (lv_at hl 2 rfl) ?_
  refine lv_aload_n hx hb dL_law_233 rfl (lv_at hl 3 rfl) ?_
  refine lv_iload_n hx hb dL_law_234 rfl (lv_at hl 0 rfl) ?_
  refine lv_iconst (v := 1) hx hb dL_law_235 (by decide) ?_
  refine lv_iadd hx hb dL_law_236 ?_
  refine r_scr hx hb hXs hbl hS (4 * cc + 1) (by rw [show (1 : Int32) = nI 1 from by decide]; exact ix_add) (by omega) hL2 dL_law_237 ?_
  refine lv_aload_n hx hb dL_law_238 rfl (lv_at hl 3 rfl) ?_
  refine lv_iload_n hx hb dL_law_239 rfl (lv_at hl 0 rfl) ?_
  refine lv_iconst (v := 2) hx hb dL_law_240 (by decide) ?_
  refine lv_iadd hx hb dL_law_241 ?_
  refine r_scr hx hb hXs hbl hS (4 * cc + 2) (by rw [show (2 : Int32) = nI 2 from by decide]; exact ix_add) (by omega) hL2 dL_law_242 ?_
  refine lv_i2l hx hb dL_law_243 rfl ?_
  refine lv_bipush (v := 32) hx hb dL_law_244 (by decide) ?_
  refine lv_lshl hx hb dL_law_246 rfl ?_
  refine lv_aload_n hx hb dL_law_247 rfl (lv_at hl 3 rfl) ?_
  refine lv_iload_n hx hb dL_law_248 rfl (lv_at hl 0 rfl) ?_
  refine lv_iconst (v := 3) hx hb dL_law_249 (by decide) ?_
  refine lv_iadd hx hb dL_law_250 ?_
  refine r_scr hx hb hXs hbl hS (4 * cc + 3) (by rw [show (3 : Int32) = nI 3 from by decide]; exact ix_add) (by omega) hL2 dL_law_251 ?_
  refine lv_i2l hx hb dL_law_252 rfl ?_
  refine lv_ldc2 hx hb hown (hT _ mk_L_23) dL_law_253 ?_
  refine lv_land hx hb dL_law_256 ?_
  refine lv_lor hx hb dL_law_257 ?_
  refine got_I (run_i hx hb hml hown hT hK hl.1 (k_X6_row l G z nx kp (M 0) T (xs (4 * cc + 1)) ((((xs (4 * cc + 2)).toInt64) <<< (Int32.toInt64 32 &&& 63)) ||| (((xs (4 * cc + 3)).toInt64) &&& 4294967295)) hnx hkp hw) (cw_L_25 hT ⟨Nat.le_of_ble_eq_true rfl, Nat.le_of_ble_eq_true rfl⟩) hZ.1.1 rfl hZ.1 rfl rfl (Nat.le_of_ble_eq_true rfl) dL_law_258 hr0) hS (fun q (hq : _ ∧ _) => show s.heap.size ≤ q from by omega) (fun q (hq : _ ∧ _) => show s.heap.size ≤ q from by omega) (fun v_1 H locs h1 hz hk hS => ?_)
  obtain ⟨hv1, h3⟩ := h1
  have hZ := hZ.face hsl hk h3
  refine lv_aload_n hx hb dL_law_261 rfl (lv_at hl 1 rfl) ?_
  refine lv_aload_n hx hb dL_law_262 rfl (lv_at hl 3 rfl) ?_
  refine lv_iload_n hx hb dL_law_263 rfl (lv_at hl 0 rfl) ?_
  refine lv_iconst (v := 1) hx hb dL_law_264 (by decide) ?_
  refine lv_iadd hx hb dL_law_265 ?_
  refine r_scr hx hb hXs hbl hS (4 * cc + 1) (by rw [show (1 : Int32) = nI 1 from by decide]; exact ix_add) (by omega) hL2 dL_law_266 ?_
  refine lv_aload_n hx hb dL_law_267 rfl (lv_at hl 3 rfl) ?_
  refine lv_iload_n hx hb dL_law_268 rfl (lv_at hl 0 rfl) ?_
  refine lv_iconst (v := 2) hx hb dL_law_269 (by decide) ?_
  refine lv_iadd hx hb dL_law_270 ?_
  refine r_scr hx hb hXs hbl hS (4 * cc + 2) (by rw [show (2 : Int32) = nI 2 from by decide]; exact ix_add) (by omega) hL2 dL_law_271 ?_
  refine lv_i2l hx hb dL_law_272 rfl ?_
  refine lv_bipush (v := 32) hx hb dL_law_273 (by decide) ?_
  refine lv_lshl hx hb dL_law_275 rfl ?_
  refine lv_aload_n hx hb dL_law_276 rfl (lv_at hl 3 rfl) ?_
  refine lv_iload_n hx hb dL_law_277 rfl (lv_at hl 0 rfl) ?_
  refine lv_iconst (v := 3) hx hb dL_law_278 (by decide) ?_
  refine lv_iadd hx hb dL_law_279 ?_
  refine r_scr hx hb hXs hbl hS (4 * cc + 3) (by rw [show (3 : Int32) = nI 3 from by decide]; exact ix_add) (by omega) hL2 dL_law_280 ?_
  refine lv_i2l hx hb dL_law_281 rfl ?_
  refine lv_ldc2 hx hb hown (hT _ mk_L_23) dL_law_282 ?_
  refine lv_land hx hb dL_law_285 ?_
  refine lv_lor hx hb dL_law_286 ?_
  refine got_I (run_i hx hb hml hown hT hK hl.1 (k_X7_row l G (z + 197) M kp (xs (4 * cc + 1)) ((((xs (4 * cc + 2)).toInt64) <<< (Int32.toInt64 32 &&& 63)) ||| (((xs (4 * cc + 3)).toInt64) &&& 4294967295)) hw h5 hkp) (cw_L_29 hT ⟨Nat.le_of_ble_eq_true rfl, Nat.le_of_ble_eq_true rfl⟩) hZ.2.2.2.2.1 rfl hZ.2.2.2.2 rfl rfl (Nat.le_of_ble_eq_true rfl) dL_law_287 hr0) hS (fun q (hq : _ ∧ _) => show s.heap.size ≤ q from by omega) (fun q (hq : _ ∧ _) => show s.heap.size ≤ q from by omega) (fun v_2 H locs h1 hz hk hS => ?_)
  obtain ⟨hv2, M2, hP, hM⟩ := h1
  have hZ := hZ.md hsl hk hM
  have hvv : v_1 = v_2 := hv1.trans hv2.symm
  have hfin : LI G z (cc + 1) _ := LI.push hR hP (hg.op (Iv_rw hv ..) (e34_rw ..)) hZ
  exact lv_icmp_eq (tgt := 838) hx hb dL_law_290 (by decide) (fun c1 => kk _ _ hS hfin) (fun c1 => absurd hvv c1)

set_option maxHeartbeats 4000000 in
set_option maxRecDepth 100000 in
theorem law_3 (hx : p.tables.exec = Jvm.exec) (hb : c.code = cL_law) (hml : c.maxLocals = 4) (hown : s.vm.findClass RL = some m.cls) (hT : ∀ w ∈ lw_good, w.before args s = true) (hK : Kn G s) (hz0 : s.heap.size ≤ z) (hbl : b < s.heap.size) (hXs : va_X b L xs s s.heap) (hXr : SxR ad tv (fun q => s.heap.size ≤ q) s) (hXl : SxL t3 (fun q => s.heap.size ≤ q) s) (hXc : SxC t4 (fun q => s.heap.size ≤ q) s) (hL2 : L ≤ 2048) {cc : Nat} {H : Heap} {locs : List Loc} {cells slots : Nat} {ls : Array Slot} (hI : LI G z cc H) (hS : va_S (fun q => s.heap.size ≤ q) s.heap H locs) (hcc : cc < 512) (hL : 4 * cc + 4 ≤ L) (hr0 : cells + 0 ≤ room_1.cells ∧ slots + 0 ≤ room_1.slots) (hl : lv_has ls 4 [(3, .int (nI (4 * cc))), (2, .ref (z + 197)), (1, .ref z), (0, .ref b)]) (kk : ∀ (H1 : Heap) (locs1 : List Loc), va_S (fun q => s.heap.size ≤ q) s.heap H1 locs1 → LI G z (cc + 1) H1 → W p l e room_1 s m args below meth c H1 locs1 cells slots Q (F0 m 838 ls [])) : W p l e room_1 s m args below meth c H locs cells slots Q (F0 m 295 ls []) := by
  obtain ⟨M, T, nx, kp, n, sl, hR, hZ⟩ := hI
  have hsl := hR.sl
  have hnx := hR.1.1
  have hkp := hR.1.2.1
  have hn := hR.1.2.2
  have hg := hR.2.2.1
  have hv := hg.1
  have hw := hv.1
  have h5 := hR.2.1.1
  have h7 := hR.2.1.2
  refine lv_aload_n hx hb dL_law_295 rfl (lv_at hl 2 rfl) ?_
  refine lv_aload_n hx hb dL_law_296 rfl (lv_at hl 3 rfl) ?_
  refine lv_iload_n hx hb dL_law_297 rfl (lv_at hl 0 rfl) ?_
  refine lv_iconst (v := 1) hx hb dL_law_298 (by decide) ?_
  refine lv_iadd hx hb dL_law_299 ?_
  refine r_scr hx hb hXs hbl hS (4 * cc + 1) (by rw [show (1 : Int32) = nI 1 from by decide]; exact ix_add) (by omega) hL2 dL_law_300 ?_
  refine lv_aload_n hx hb dL_law_301 rfl (lv_at hl 3 rfl) ?_
  refine lv_iload_n hx hb dL_law_302 rfl (lv_at hl 0 rfl) ?_
  refine lv_iconst (v := 2) hx hb dL_law_303 (by decide) ?_
  refine lv_iadd hx hb dL_law_304 ?_
  refine r_scr hx hb hXs hbl hS (4 * cc + 2) (by rw [show (2 : Int32) = nI 2 from by decide]; exact ix_add) (by omega) hL2 dL_law_305 ?_
  refine got_I (run_i hx hb hml hown hT hK hl.1 (k_X6_buy l G z nx kp (M 0) T (xs (4 * cc + 1)) (xs (4 * cc + 2)) hnx hkp hw) (cw_L_30 hT ⟨Nat.le_of_ble_eq_true rfl, Nat.le_of_ble_eq_true rfl⟩) hZ.1.1 rfl hZ.1 rfl rfl (Nat.le_of_ble_eq_true rfl) dL_law_306 hr0) hS (fun q (hq : _ ∧ _) => show s.heap.size ≤ q from by omega) (fun q (hq : _ ∧ _) => show s.heap.size ≤ q from by omega) (fun v_1 H locs h1 hz hk hS => ?_)
  obtain ⟨hv1, h3⟩ := h1
  have hZ := hZ.face hsl hk h3
  refine lv_aload_n hx hb dL_law_309 rfl (lv_at hl 1 rfl) ?_
  refine lv_aload_n hx hb dL_law_310 rfl (lv_at hl 3 rfl) ?_
  refine lv_iload_n hx hb dL_law_311 rfl (lv_at hl 0 rfl) ?_
  refine lv_iconst (v := 1) hx hb dL_law_312 (by decide) ?_
  refine lv_iadd hx hb dL_law_313 ?_
  refine r_scr hx hb hXs hbl hS (4 * cc + 1) (by rw [show (1 : Int32) = nI 1 from by decide]; exact ix_add) (by omega) hL2 dL_law_314 ?_
  refine lv_aload_n hx hb dL_law_315 rfl (lv_at hl 3 rfl) ?_
  refine lv_iload_n hx hb dL_law_316 rfl (lv_at hl 0 rfl) ?_
  refine lv_iconst (v := 2) hx hb dL_law_317 (by decide) ?_
  refine lv_iadd hx hb dL_law_318 ?_
  refine r_scr hx hb hXs hbl hS (4 * cc + 2) (by rw [show (2 : Int32) = nI 2 from by decide]; exact ix_add) (by omega) hL2 dL_law_319 ?_
  refine got_I (run_i hx hb hml hown hT hK hl.1 (k_X7_buy l G (z + 197) M kp (xs (4 * cc + 1)) (xs (4 * cc + 2)) hw h5 hkp (fun i hi => (hv.2.2.2.2.1 i hi).2.2.2.1)) (cw_L_33 hT ⟨Nat.le_of_ble_eq_true rfl, Nat.le_of_ble_eq_true rfl⟩) hZ.2.2.2.2.1 rfl hZ.2.2.2.2 rfl rfl (Nat.le_of_ble_eq_true rfl) dL_law_320 hr0) hS (fun q (hq : _ ∧ _) => show s.heap.size ≤ q from by omega) (fun q (hq : _ ∧ _) => show s.heap.size ≤ q from by omega) (fun v_2 H locs h1 hz hk hS => ?_)
  obtain ⟨hv2, M2, hP, hM⟩ := h1
  have hZ := hZ.md hsl hk hM
  have hvv : v_1 = v_2 := hv1.trans hv2.symm
  have hfin : LI G z (cc + 1) _ := LI.push hR hP (hg.op (Iv_bg hv ..) (e34_bg ..)) hZ
  exact lv_icmp_eq (tgt := 838) hx hb dL_law_323 (by decide) (fun c1 => kk _ _ hS hfin) (fun c1 => absurd hvv c1)

set_option maxHeartbeats 4000000 in
set_option maxRecDepth 100000 in
theorem law_4 (hx : p.tables.exec = Jvm.exec) (hb : c.code = cL_law) (hml : c.maxLocals = 4) (hown : s.vm.findClass RL = some m.cls) (hT : ∀ w ∈ lw_good, w.before args s = true) (hK : Kn G s) (hz0 : s.heap.size ≤ z) (hbl : b < s.heap.size) (hXs : va_X b L xs s s.heap) (hXr : SxR ad tv (fun q => s.heap.size ≤ q) s) (hXl : SxL t3 (fun q => s.heap.size ≤ q) s) (hXc : SxC t4 (fun q => s.heap.size ≤ q) s) (hL2 : L ≤ 2048) {cc : Nat} {H : Heap} {locs : List Loc} {cells slots : Nat} {ls : Array Slot} (hI : LI G z cc H) (hS : va_S (fun q => s.heap.size ≤ q) s.heap H locs) (hcc : cc < 512) (hL : 4 * cc + 4 ≤ L) (hr0 : cells + 0 ≤ room_1.cells ∧ slots + 0 ≤ room_1.slots) (hl : lv_has ls 4 [(3, .int (nI (4 * cc))), (2, .ref (z + 197)), (1, .ref z), (0, .ref b)]) (kk : ∀ (H1 : Heap) (locs1 : List Loc), va_S (fun q => s.heap.size ≤ q) s.heap H1 locs1 → LI G z (cc + 1) H1 → W p l e room_1 s m args below meth c H1 locs1 cells slots Q (F0 m 838 ls [])) : W p l e room_1 s m args below meth c H locs cells slots Q (F0 m 328 ls []) := by
  obtain ⟨M, T, nx, kp, n, sl, hR, hZ⟩ := hI
  have hsl := hR.sl
  have hnx := hR.1.1
  have hkp := hR.1.2.1
  have hn := hR.1.2.2
  have hg := hR.2.2.1
  have hv := hg.1
  have hw := hv.1
  have h5 := hR.2.1.1
  have h7 := hR.2.1.2
  refine lv_aload_n hx hb dL_law_328 rfl (lv_at hl 2 rfl) ?_
  refine lv_aload_n hx hb dL_law_329 rfl (lv_at hl 3 rfl) ?_
  refine lv_iload_n hx hb dL_law_330 rfl (lv_at hl 0 rfl) ?_
  refine lv_iconst (v := 1) hx hb dL_law_331 (by decide) ?_
  refine lv_iadd hx hb dL_law_332 ?_
  refine r_scr hx hb hXs hbl hS (4 * cc + 1) (by rw [show (1 : Int32) = nI 1 from by decide]; exact ix_add) (by omega) hL2 dL_law_333 ?_
  refine lv_aload_n hx hb dL_law_334 rfl (lv_at hl 3 rfl) ?_
  refine lv_iload_n hx hb dL_law_335 rfl (lv_at hl 0 rfl) ?_
  refine lv_iconst (v := 2) hx hb dL_law_336 (by decide) ?_
  refine lv_iadd hx hb dL_law_337 ?_
  refine r_scr hx hb hXs hbl hS (4 * cc + 2) (by rw [show (2 : Int32) = nI 2 from by decide]; exact ix_add) (by omega) hL2 dL_law_338 ?_
  refine lv_aload_n hx hb dL_law_339 rfl (lv_at hl 3 rfl) ?_
  refine lv_iload_n hx hb dL_law_340 rfl (lv_at hl 0 rfl) ?_
  refine lv_iconst (v := 3) hx hb dL_law_341 (by decide) ?_
  refine lv_iadd hx hb dL_law_342 ?_
  refine r_scr hx hb hXs hbl hS (4 * cc + 3) (by rw [show (3 : Int32) = nI 3 from by decide]; exact ix_add) (by omega) hL2 dL_law_343 ?_
  refine got_I (run_i hx hb hml hown hT hK hl.1 (k_X6_bound l G z nx kp (M 0) T (xs (4 * cc + 1)) (xs (4 * cc + 2)) (xs (4 * cc + 3)) hnx hkp hw) (cw_L_34 hT ⟨Nat.le_of_ble_eq_true rfl, Nat.le_of_ble_eq_true rfl⟩) hZ.1.1 rfl hZ.1 rfl rfl (Nat.le_of_ble_eq_true rfl) dL_law_344 hr0) hS (fun q (hq : _ ∧ _) => show s.heap.size ≤ q from by omega) (fun q (hq : _ ∧ _) => show s.heap.size ≤ q from by omega) (fun v_1 H locs h1 hz hk hS => ?_)
  obtain ⟨hv1, h3⟩ := h1
  have hZ := hZ.face hsl hk h3
  refine lv_aload_n hx hb dL_law_347 rfl (lv_at hl 1 rfl) ?_
  refine lv_aload_n hx hb dL_law_348 rfl (lv_at hl 3 rfl) ?_
  refine lv_iload_n hx hb dL_law_349 rfl (lv_at hl 0 rfl) ?_
  refine lv_iconst (v := 1) hx hb dL_law_350 (by decide) ?_
  refine lv_iadd hx hb dL_law_351 ?_
  refine r_scr hx hb hXs hbl hS (4 * cc + 1) (by rw [show (1 : Int32) = nI 1 from by decide]; exact ix_add) (by omega) hL2 dL_law_352 ?_
  refine lv_aload_n hx hb dL_law_353 rfl (lv_at hl 3 rfl) ?_
  refine lv_iload_n hx hb dL_law_354 rfl (lv_at hl 0 rfl) ?_
  refine lv_iconst (v := 2) hx hb dL_law_355 (by decide) ?_
  refine lv_iadd hx hb dL_law_356 ?_
  refine r_scr hx hb hXs hbl hS (4 * cc + 2) (by rw [show (2 : Int32) = nI 2 from by decide]; exact ix_add) (by omega) hL2 dL_law_357 ?_
  refine lv_aload_n hx hb dL_law_358 rfl (lv_at hl 3 rfl) ?_
  refine lv_iload_n hx hb dL_law_359 rfl (lv_at hl 0 rfl) ?_
  refine lv_iconst (v := 3) hx hb dL_law_360 (by decide) ?_
  refine lv_iadd hx hb dL_law_361 ?_
  refine r_scr hx hb hXs hbl hS (4 * cc + 3) (by rw [show (3 : Int32) = nI 3 from by decide]; exact ix_add) (by omega) hL2 dL_law_362 ?_
  refine got_I (run_i hx hb hml hown hT hK hl.1 (k_X7_bound l G (z + 197) M kp (xs (4 * cc + 1)) (xs (4 * cc + 2)) (xs (4 * cc + 3)) hw h5 hkp) (cw_L_37 hT ⟨Nat.le_of_ble_eq_true rfl, Nat.le_of_ble_eq_true rfl⟩) hZ.2.2.2.2.1 rfl hZ.2.2.2.2 rfl rfl (Nat.le_of_ble_eq_true rfl) dL_law_363 hr0) hS (fun q (hq : _ ∧ _) => show s.heap.size ≤ q from by omega) (fun q (hq : _ ∧ _) => show s.heap.size ≤ q from by omega) (fun v_2 H locs h1 hz hk hS => ?_)
  obtain ⟨hv2, M2, hP, hM⟩ := h1
  have hZ := hZ.md hsl hk hM
  have hvv : v_1 = v_2 := hv1.trans hv2.symm
  have hfin : LI G z (cc + 1) _ := LI.push hR hP (hg.op (Iv_bn hv ..) (e34_bn ..)) hZ
  exact lv_icmp_eq (tgt := 838) hx hb dL_law_366 (by decide) (fun c1 => kk _ _ hS hfin) (fun c1 => absurd hvv c1)

set_option maxHeartbeats 4000000 in
set_option maxRecDepth 100000 in
theorem law_5 (hx : p.tables.exec = Jvm.exec) (hb : c.code = cL_law) (hml : c.maxLocals = 4) (hown : s.vm.findClass RL = some m.cls) (hT : ∀ w ∈ lw_good, w.before args s = true) (hK : Kn G s) (hz0 : s.heap.size ≤ z) (hbl : b < s.heap.size) (hXs : va_X b L xs s s.heap) (hXr : SxR ad tv (fun q => s.heap.size ≤ q) s) (hXl : SxL t3 (fun q => s.heap.size ≤ q) s) (hXc : SxC t4 (fun q => s.heap.size ≤ q) s) (hL2 : L ≤ 2048) {cc : Nat} {H : Heap} {locs : List Loc} {cells slots : Nat} {ls : Array Slot} (hI : LI G z cc H) (hS : va_S (fun q => s.heap.size ≤ q) s.heap H locs) (hcc : cc < 512) (hL : 4 * cc + 4 ≤ L) (hr0 : cells + 0 ≤ room_1.cells ∧ slots + 0 ≤ room_1.slots) (hl : lv_has ls 4 [(3, .int (nI (4 * cc))), (2, .ref (z + 197)), (1, .ref z), (0, .ref b)]) (kk : ∀ (H1 : Heap) (locs1 : List Loc), va_S (fun q => s.heap.size ≤ q) s.heap H1 locs1 → LI G z (cc + 1) H1 → W p l e room_1 s m args below meth c H1 locs1 cells slots Q (F0 m 838 ls [])) : W p l e room_1 s m args below meth c H locs cells slots Q (F0 m 371 ls []) := by
  obtain ⟨M, T, nx, kp, n, sl, hR, hZ⟩ := hI
  have hsl := hR.sl
  have hnx := hR.1.1
  have hkp := hR.1.2.1
  have hn := hR.1.2.2
  have hg := hR.2.2.1
  have hv := hg.1
  have hw := hv.1
  have h5 := hR.2.1.1
  have h7 := hR.2.1.2
  refine lv_aload_n hx hb dL_law_371 rfl (lv_at hl 2 rfl) ?_
  refine lv_aload_n hx hb dL_law_372 rfl (lv_at hl 3 rfl) ?_
  refine lv_iload_n hx hb dL_law_373 rfl (lv_at hl 0 rfl) ?_
  refine lv_iconst (v := 1) hx hb dL_law_374 (by decide) ?_
  refine lv_iadd hx hb dL_law_375 ?_
  refine r_scr hx hb hXs hbl hS (4 * cc + 1) (by rw [show (1 : Int32) = nI 1 from by decide]; exact ix_add) (by omega) hL2 dL_law_376 ?_
  refine lv_aload_n hx hb dL_law_377 rfl (lv_at hl 3 rfl) ?_
  refine lv_iload_n hx hb dL_law_378 rfl (lv_at hl 0 rfl) ?_
  refine lv_iconst (v := 2) hx hb dL_law_379 (by decide) ?_
  refine lv_iadd hx hb dL_law_380 ?_
  refine r_scr hx hb hXs hbl hS (4 * cc + 2) (by rw [show (2 : Int32) = nI 2 from by decide]; exact ix_add) (by omega) hL2 dL_law_381 ?_
  refine got_I (run_i hx hb hml hown hT hK hl.1 (k_X6_share l G z nx kp (M 0) T (xs (4 * cc + 1)) (xs (4 * cc + 2)) hnx hkp hw) (cw_L_38 hT ⟨Nat.le_of_ble_eq_true rfl, Nat.le_of_ble_eq_true rfl⟩) hZ.1.1 rfl hZ.1 rfl rfl (Nat.le_of_ble_eq_true rfl) dL_law_382 hr0) hS (fun q (hq : _ ∧ _) => show s.heap.size ≤ q from by omega) (fun q (hq : _ ∧ _) => show s.heap.size ≤ q from by omega) (fun v_1 H locs h1 hz hk hS => ?_)
  obtain ⟨hv1, h3⟩ := h1
  have hZ := hZ.face hsl hk h3
  refine lv_aload_n hx hb dL_law_385 rfl (lv_at hl 1 rfl) ?_
  refine lv_aload_n hx hb dL_law_386 rfl (lv_at hl 3 rfl) ?_
  refine lv_iload_n hx hb dL_law_387 rfl (lv_at hl 0 rfl) ?_
  refine lv_iconst (v := 1) hx hb dL_law_388 (by decide) ?_
  refine lv_iadd hx hb dL_law_389 ?_
  refine r_scr hx hb hXs hbl hS (4 * cc + 1) (by rw [show (1 : Int32) = nI 1 from by decide]; exact ix_add) (by omega) hL2 dL_law_390 ?_
  refine lv_aload_n hx hb dL_law_391 rfl (lv_at hl 3 rfl) ?_
  refine lv_iload_n hx hb dL_law_392 rfl (lv_at hl 0 rfl) ?_
  refine lv_iconst (v := 2) hx hb dL_law_393 (by decide) ?_
  refine lv_iadd hx hb dL_law_394 ?_
  refine r_scr hx hb hXs hbl hS (4 * cc + 2) (by rw [show (2 : Int32) = nI 2 from by decide]; exact ix_add) (by omega) hL2 dL_law_395 ?_
  refine got_I (run_i hx hb hml hown hT hK hl.1 (k_X7_share l G (z + 197) M kp (xs (4 * cc + 1)) (xs (4 * cc + 2)) hw h5 hkp) (cw_L_41 hT ⟨Nat.le_of_ble_eq_true rfl, Nat.le_of_ble_eq_true rfl⟩) hZ.2.2.2.2.1 rfl hZ.2.2.2.2 rfl rfl (Nat.le_of_ble_eq_true rfl) dL_law_396 hr0) hS (fun q (hq : _ ∧ _) => show s.heap.size ≤ q from by omega) (fun q (hq : _ ∧ _) => show s.heap.size ≤ q from by omega) (fun v_2 H locs h1 hz hk hS => ?_)
  obtain ⟨hv2, M2, hP, hM⟩ := h1
  have hZ := hZ.md hsl hk hM
  have hvv : v_1 = v_2 := hv1.trans hv2.symm
  have hfin : LI G z (cc + 1) _ := LI.push hR hP (hg.op (Iv_sh hv ..) (e34_sh ..)) hZ
  exact lv_icmp_eq (tgt := 838) hx hb dL_law_399 (by decide) (fun c1 => kk _ _ hS hfin) (fun c1 => absurd hvv c1)

set_option maxHeartbeats 4000000 in
set_option maxRecDepth 100000 in
theorem law_6 (hx : p.tables.exec = Jvm.exec) (hb : c.code = cL_law) (hml : c.maxLocals = 4) (hown : s.vm.findClass RL = some m.cls) (hT : ∀ w ∈ lw_good, w.before args s = true) (hK : Kn G s) (hz0 : s.heap.size ≤ z) (hbl : b < s.heap.size) (hXs : va_X b L xs s s.heap) (hXr : SxR ad tv (fun q => s.heap.size ≤ q) s) (hXl : SxL t3 (fun q => s.heap.size ≤ q) s) (hXc : SxC t4 (fun q => s.heap.size ≤ q) s) (hL2 : L ≤ 2048) {cc : Nat} {H : Heap} {locs : List Loc} {cells slots : Nat} {ls : Array Slot} (hI : LI G z cc H) (hS : va_S (fun q => s.heap.size ≤ q) s.heap H locs) (hcc : cc < 512) (hL : 4 * cc + 4 ≤ L) (hr0 : cells + 0 ≤ room_1.cells ∧ slots + 0 ≤ room_1.slots) (hl : lv_has ls 4 [(3, .int (nI (4 * cc))), (2, .ref (z + 197)), (1, .ref z), (0, .ref b)]) (kk : ∀ (H1 : Heap) (locs1 : List Loc), va_S (fun q => s.heap.size ≤ q) s.heap H1 locs1 → LI G z (cc + 1) H1 → W p l e room_1 s m args below meth c H1 locs1 cells slots Q (F0 m 838 ls [])) : W p l e room_1 s m args below meth c H locs cells slots Q (F0 m 404 ls []) := by
  obtain ⟨M, T, nx, kp, n, sl, hR, hZ⟩ := hI
  have hsl := hR.sl
  have hnx := hR.1.1
  have hkp := hR.1.2.1
  have hn := hR.1.2.2
  have hg := hR.2.2.1
  have hv := hg.1
  have hw := hv.1
  have h5 := hR.2.1.1
  have h7 := hR.2.1.2
  obtain ⟨S, h90, hSr⟩ := hZ.2.2.2.1
  refine lv_aload_n hx hb dL_law_404 rfl (lv_at hl 2 rfl) ?_
  refine got_I (run_i hx hb hml hown hT hK hl.1 (k_X6_choose l G z nx kp (M 0) T S hnx hkp hv h90) (cw_L_42 hT ⟨Nat.le_of_ble_eq_true rfl, Nat.le_of_ble_eq_true rfl⟩) hZ.1.1 rfl ⟨hZ.1, hSr⟩ rfl rfl (Nat.le_of_ble_eq_true rfl) dL_law_405 hr0) hS (fun q (hq : (_ ∧ _) ∧ _) => show s.heap.size ≤ q from by omega) (fun q (hq : (_ ∧ _) ∧ _) => show s.heap.size ≤ q from by omega) (fun v_1 H locs h1 hz hk hS => ?_)
  obtain ⟨S2, g90, hSr2, h3⟩ := h1
  have hZo := hZ
  rcases h3 with ⟨hc1, hv1, h3⟩ | ⟨hc1, hv1, h3⟩
  · have hco := coO_1 hc1
    have hZ := hZ.ch hsl hk h3 ⟨S2, g90, hSr2⟩
    refine lv_aload_n hx hb dL_law_408 rfl (lv_at hl 1 rfl) ?_
    refine got_I (run_i hx hb hml hown hT hK hl.1 (k_X7_choose l G (z + 197) M kp hw h5 hkp hv) (cw_L_46 hT ⟨Nat.le_of_ble_eq_true rfl, Nat.le_of_ble_eq_true rfl⟩) hZ.2.2.2.2.1 rfl hZ.2.2.2.2 rfl rfl (Nat.le_of_ble_eq_true rfl) dL_law_409 hr0) hS (fun q (hq : _ ∧ _) => show s.heap.size ≤ q from by omega) (fun q (hq : _ ∧ _) => show s.heap.size ≤ q from by omega) (fun v_2 H locs h1 hz hk hS => ?_)
    obtain ⟨hv2, M2, hP, hM⟩ := h1
    have hZ := hZ.md hsl hk hM
    rw [hco] at hv2 hP
    obtain ⟨p0, p1, p5, p3, p4, p6, p7⟩ := hP
    have hvv : v_1 = v_2 := hv1.trans hv2.symm
    have hfin : LI G z (cc + 1) _ := ⟨M2, T, nx, kp, n, sl, (hR.same p0 p1 p3 p4 (p5.trans h5.symm) (p7.trans h7) hn).s, by rw [p0, p3, p6]; exact hZ⟩
    exact lv_icmp_eq (tgt := 838) hx hb dL_law_412 (by decide) (fun c1 => kk _ _ hS hfin) (fun c1 => absurd hvv c1)
  · have hZ := hZ.ch hsl hk h3 ⟨S2, g90, hSr2⟩
    refine lv_aload_n hx hb dL_law_408 rfl (lv_at hl 1 rfl) ?_
    refine got_I (run_i hx hb hml hown hT hK hl.1 (k_X7_choose l G (z + 197) M kp hw h5 hkp hv) (cw_L_46 hT ⟨Nat.le_of_ble_eq_true rfl, Nat.le_of_ble_eq_true rfl⟩) hZ.2.2.2.2.1 rfl hZ.2.2.2.2 rfl rfl (Nat.le_of_ble_eq_true rfl) dL_law_409 hr0) hS (fun q (hq : _ ∧ _) => show s.heap.size ≤ q from by omega) (fun q (hq : _ ∧ _) => show s.heap.size ≤ q from by omega) (fun v_3 H locs h1 hz hk hS => ?_)
    obtain ⟨hv2, M2, hP, hM⟩ := h1
    have hZ := hZ.md hsl hk hM
    have hvv : v_1 = v_3 := hv1.trans hv2.symm
    have hfin : LI G z (cc + 1) _ := LI.push hR hP (hg.op (Iv_co hv) e34_co) hZ
    exact lv_icmp_eq (tgt := 838) hx hb dL_law_412 (by decide) (fun c1 => kk _ _ hS hfin) (fun c1 => absurd hvv c1)

set_option maxHeartbeats 4000000 in
set_option maxRecDepth 100000 in
theorem law_7 (hx : p.tables.exec = Jvm.exec) (hb : c.code = cL_law) (hml : c.maxLocals = 4) (hown : s.vm.findClass RL = some m.cls) (hT : ∀ w ∈ lw_good, w.before args s = true) (hK : Kn G s) (hz0 : s.heap.size ≤ z) (hbl : b < s.heap.size) (hXs : va_X b L xs s s.heap) (hXr : SxR ad tv (fun q => s.heap.size ≤ q) s) (hXl : SxL t3 (fun q => s.heap.size ≤ q) s) (hXc : SxC t4 (fun q => s.heap.size ≤ q) s) (hL2 : L ≤ 2048) {cc : Nat} {H : Heap} {locs : List Loc} {cells slots : Nat} {ls : Array Slot} (hI : LI G z cc H) (hS : va_S (fun q => s.heap.size ≤ q) s.heap H locs) (hcc : cc < 512) (hL : 4 * cc + 4 ≤ L) (hr0 : cells + 0 ≤ room_1.cells ∧ slots + 0 ≤ room_1.slots) (hl : lv_has ls 4 [(3, .int (nI (4 * cc))), (2, .ref (z + 197)), (1, .ref z), (0, .ref b)]) (kk : ∀ (H1 : Heap) (locs1 : List Loc), va_S (fun q => s.heap.size ≤ q) s.heap H1 locs1 → LI G z (cc + 1) H1 → W p l e room_1 s m args below meth c H1 locs1 cells slots Q (F0 m 838 ls [])) : W p l e room_1 s m args below meth c H locs cells slots Q (F0 m 417 ls []) := by
  obtain ⟨M, T, nx, kp, n, sl, hR, hZ⟩ := hI
  have hsl := hR.sl
  have hnx := hR.1.1
  have hkp := hR.1.2.1
  have hn := hR.1.2.2
  have hg := hR.2.2.1
  have hv := hg.1
  have hw := hv.1
  have h5 := hR.2.1.1
  have h7 := hR.2.1.2
  refine lv_aload_n hx hb dL_law_417 rfl (lv_at hl 2 rfl) ?_
  refine lv_aload_n hx hb dL_law_418 rfl (lv_at hl 3 rfl) ?_
  refine lv_iload_n hx hb dL_law_419 rfl (lv_at hl 0 rfl) ?_
  refine lv_iconst (v := 1) hx hb dL_law_420 (by decide) ?_
  refine lv_iadd hx hb dL_law_421 ?_
  refine r_scr hx hb hXs hbl hS (4 * cc + 1) (by rw [show (1 : Int32) = nI 1 from by decide]; exact ix_add) (by omega) hL2 dL_law_422 ?_
  refine got_I (run_i hx hb hml hown hT hK hl.1 (k_X6_mix l G z nx kp (M 0) T (xs (4 * cc + 1)) hnx hkp hw) (cw_L_47 hT ⟨Nat.le_of_ble_eq_true rfl, Nat.le_of_ble_eq_true rfl⟩) hZ.1.1 rfl hZ.1 rfl rfl (Nat.le_of_ble_eq_true rfl) dL_law_423 hr0) hS (fun q (hq : _ ∧ _) => show s.heap.size ≤ q from by omega) (fun q (hq : _ ∧ _) => show s.heap.size ≤ q from by omega) (fun v_1 H locs h1 hz hk hS => ?_)
  obtain ⟨hv1, h3⟩ := h1
  have hZ := hZ.face hsl hk h3
  refine lv_aload_n hx hb dL_law_426 rfl (lv_at hl 1 rfl) ?_
  refine lv_aload_n hx hb dL_law_427 rfl (lv_at hl 3 rfl) ?_
  refine lv_iload_n hx hb dL_law_428 rfl (lv_at hl 0 rfl) ?_
  refine lv_iconst (v := 1) hx hb dL_law_429 (by decide) ?_
  refine lv_iadd hx hb dL_law_430 ?_
  refine r_scr hx hb hXs hbl hS (4 * cc + 1) (by rw [show (1 : Int32) = nI 1 from by decide]; exact ix_add) (by omega) hL2 dL_law_431 ?_
  refine got_I (run_i hx hb hml hown hT hK hl.1 (k_X7_mix l G (z + 197) M kp (xs (4 * cc + 1)) hw h5 hkp) (cw_L_51 hT ⟨Nat.le_of_ble_eq_true rfl, Nat.le_of_ble_eq_true rfl⟩) hZ.2.2.2.2.1 rfl hZ.2.2.2.2 rfl rfl (Nat.le_of_ble_eq_true rfl) dL_law_432 hr0) hS (fun q (hq : _ ∧ _) => show s.heap.size ≤ q from by omega) (fun q (hq : _ ∧ _) => show s.heap.size ≤ q from by omega) (fun v_2 H locs h1 hz hk hS => ?_)
  obtain ⟨hv2, M2, hP, hM⟩ := h1
  have hZ := hZ.md hsl hk hM
  have hvv : v_1 = v_2 := hv1.trans hv2.symm
  have hfin : LI G z (cc + 1) _ := LI.push hR hP (hg.mx hcc _) hZ
  exact lv_icmp_eq (tgt := 838) hx hb dL_law_435 (by decide) (fun c1 => kk _ _ hS hfin) (fun c1 => absurd hvv c1)

set_option maxHeartbeats 4000000 in
set_option maxRecDepth 100000 in
theorem law_8 (hx : p.tables.exec = Jvm.exec) (hb : c.code = cL_law) (hml : c.maxLocals = 4) (hown : s.vm.findClass RL = some m.cls) (hT : ∀ w ∈ lw_good, w.before args s = true) (hK : Kn G s) (hz0 : s.heap.size ≤ z) (hbl : b < s.heap.size) (hXs : va_X b L xs s s.heap) (hXr : SxR ad tv (fun q => s.heap.size ≤ q) s) (hXl : SxL t3 (fun q => s.heap.size ≤ q) s) (hXc : SxC t4 (fun q => s.heap.size ≤ q) s) (hL2 : L ≤ 2048) {cc : Nat} {H : Heap} {locs : List Loc} {cells slots : Nat} {ls : Array Slot} (hI : LI G z cc H) (hS : va_S (fun q => s.heap.size ≤ q) s.heap H locs) (hcc : cc < 512) (hL : 4 * cc + 4 ≤ L) (hr0 : cells + 0 ≤ room_1.cells ∧ slots + 0 ≤ room_1.slots) (hl : lv_has ls 4 [(3, .int (nI (4 * cc))), (2, .ref (z + 197)), (1, .ref z), (0, .ref b)]) (kk : ∀ (H1 : Heap) (locs1 : List Loc), va_S (fun q => s.heap.size ≤ q) s.heap H1 locs1 → LI G z (cc + 1) H1 → W p l e room_1 s m args below meth c H1 locs1 cells slots Q (F0 m 838 ls [])) : W p l e room_1 s m args below meth c H locs cells slots Q (F0 m 440 ls []) := by
  obtain ⟨M, T, nx, kp, n, sl, hR, hZ⟩ := hI
  have hsl := hR.sl
  have hnx := hR.1.1
  have hkp := hR.1.2.1
  have hn := hR.1.2.2
  have hg := hR.2.2.1
  have hv := hg.1
  have hw := hv.1
  have h5 := hR.2.1.1
  have h7 := hR.2.1.2
  refine lv_aload_n hx hb dL_law_440 rfl (lv_at hl 2 rfl) ?_
  refine lv_aload_n hx hb dL_law_441 rfl (lv_at hl 3 rfl) ?_
  refine lv_iload_n hx hb dL_law_442 rfl (lv_at hl 0 rfl) ?_
  refine lv_iconst (v := 1) hx hb dL_law_443 (by decide) ?_
  refine lv_iadd hx hb dL_law_444 ?_
  refine r_scr hx hb hXs hbl hS (4 * cc + 1) (by rw [show (1 : Int32) = nI 1 from by decide]; exact ix_add) (by omega) hL2 dL_law_445 ?_
  refine got_I (run_i hx hb hml hown hT hK hl.1 (k_X6_pass l G z nx kp (M 0) T (xs (4 * cc + 1)) hnx hkp hw) (cw_L_52 hT ⟨Nat.le_of_ble_eq_true rfl, Nat.le_of_ble_eq_true rfl⟩) hZ.1.1 rfl hZ.1 rfl rfl (Nat.le_of_ble_eq_true rfl) dL_law_446 hr0) hS (fun q (hq : _ ∧ _) => show s.heap.size ≤ q from by omega) (fun q (hq : _ ∧ _) => show s.heap.size ≤ q from by omega) (fun v_1 H locs h1 hz hk hS => ?_)
  obtain ⟨hv1, h3⟩ := h1
  have hZ := hZ.face hsl hk h3
  refine lv_aload_n hx hb dL_law_449 rfl (lv_at hl 1 rfl) ?_
  refine lv_aload_n hx hb dL_law_450 rfl (lv_at hl 3 rfl) ?_
  refine lv_iload_n hx hb dL_law_451 rfl (lv_at hl 0 rfl) ?_
  refine lv_iconst (v := 1) hx hb dL_law_452 (by decide) ?_
  refine lv_iadd hx hb dL_law_453 ?_
  refine r_scr hx hb hXs hbl hS (4 * cc + 1) (by rw [show (1 : Int32) = nI 1 from by decide]; exact ix_add) (by omega) hL2 dL_law_454 ?_
  refine got_I (run_i hx hb hml hown hT hK hl.1 (k_X7_pass l G (z + 197) M kp (xs (4 * cc + 1)) hw h5 hkp) (cw_L_55 hT ⟨Nat.le_of_ble_eq_true rfl, Nat.le_of_ble_eq_true rfl⟩) hZ.2.2.2.2.1 rfl hZ.2.2.2.2 rfl rfl (Nat.le_of_ble_eq_true rfl) dL_law_455 hr0) hS (fun q (hq : _ ∧ _) => show s.heap.size ≤ q from by omega) (fun q (hq : _ ∧ _) => show s.heap.size ≤ q from by omega) (fun v_2 H locs h1 hz hk hS => ?_)
  obtain ⟨hv2, M2, hP, hM⟩ := h1
  have hZ := hZ.md hsl hk hM
  have hvv : v_1 = v_2 := hv1.trans hv2.symm
  have hfin : LI G z (cc + 1) _ := LI.push hR hP (hg.op (Iv_pd hv ..) (e34_pd ..)) hZ
  exact lv_icmp_eq (tgt := 838) hx hb dL_law_458 (by decide) (fun c1 => kk _ _ hS hfin) (fun c1 => absurd hvv c1)

set_option maxHeartbeats 4000000 in
set_option maxRecDepth 100000 in
theorem law_9 (hx : p.tables.exec = Jvm.exec) (hb : c.code = cL_law) (hml : c.maxLocals = 4) (hown : s.vm.findClass RL = some m.cls) (hT : ∀ w ∈ lw_good, w.before args s = true) (hK : Kn G s) (hz0 : s.heap.size ≤ z) (hbl : b < s.heap.size) (hXs : va_X b L xs s s.heap) (hXr : SxR ad tv (fun q => s.heap.size ≤ q) s) (hXl : SxL t3 (fun q => s.heap.size ≤ q) s) (hXc : SxC t4 (fun q => s.heap.size ≤ q) s) (hL2 : L ≤ 2048) {cc : Nat} {H : Heap} {locs : List Loc} {cells slots : Nat} {ls : Array Slot} (hI : LI G z cc H) (hS : va_S (fun q => s.heap.size ≤ q) s.heap H locs) (hcc : cc < 512) (hL : 4 * cc + 4 ≤ L) (hr0 : cells + 0 ≤ room_1.cells ∧ slots + 0 ≤ room_1.slots) (hl : lv_has ls 4 [(3, .int (nI (4 * cc))), (2, .ref (z + 197)), (1, .ref z), (0, .ref b)]) (kk : ∀ (H1 : Heap) (locs1 : List Loc), va_S (fun q => s.heap.size ≤ q) s.heap H1 locs1 → LI G z (cc + 1) H1 → W p l e room_1 s m args below meth c H1 locs1 cells slots Q (F0 m 838 ls [])) : W p l e room_1 s m args below meth c H locs cells slots Q (F0 m 463 ls []) := by
  obtain ⟨M, T, nx, kp, n, sl, hR, hZ⟩ := hI
  have hsl := hR.sl
  have hnx := hR.1.1
  have hkp := hR.1.2.1
  have hn := hR.1.2.2
  have hg := hR.2.2.1
  have hv := hg.1
  have hw := hv.1
  have h5 := hR.2.1.1
  have h7 := hR.2.1.2
  refine lv_aload_n hx hb dL_law_463 rfl (lv_at hl 2 rfl) ?_
  refine lv_aload_n hx hb dL_law_464 rfl (lv_at hl 3 rfl) ?_
  refine lv_iload_n hx hb dL_law_465 rfl (lv_at hl 0 rfl) ?_
  refine lv_iconst (v := 1) hx hb dL_law_466 (by decide) ?_
  refine lv_iadd hx hb dL_law_467 ?_
  refine r_scr hx hb hXs hbl hS (4 * cc + 1) (by rw [show (1 : Int32) = nI 1 from by decide]; exact ix_add) (by omega) hL2 dL_law_468 ?_
  refine lv_aload_n hx hb dL_law_469 rfl (lv_at hl 3 rfl) ?_
  refine lv_iload_n hx hb dL_law_470 rfl (lv_at hl 0 rfl) ?_
  refine lv_iconst (v := 2) hx hb dL_law_471 (by decide) ?_
  refine lv_iadd hx hb dL_law_472 ?_
  refine r_scr hx hb hXs hbl hS (4 * cc + 2) (by rw [show (2 : Int32) = nI 2 from by decide]; exact ix_add) (by omega) hL2 dL_law_473 ?_
  refine got_i (run_i hx hb hml hown hT hK hl.1 (k_X6_of l G z (M 0) (xs (4 * cc + 1)) (xs (4 * cc + 2)) hw) (cw_L_56 hT ⟨Nat.le_of_ble_eq_true rfl, Nat.le_of_ble_eq_true rfl⟩) hZ.1.1 rfl ⟨hZ.1.1, hZ.1.2.1⟩ rfl rfl (Nat.le_of_ble_eq_true rfl) dL_law_474 hr0) (fun v_1 hv_1 => ?_)
  refine lv_aload_n hx hb dL_law_477 rfl (lv_at hl 1 rfl) ?_
  refine lv_aload_n hx hb dL_law_478 rfl (lv_at hl 3 rfl) ?_
  refine lv_iload_n hx hb dL_law_479 rfl (lv_at hl 0 rfl) ?_
  refine lv_iconst (v := 1) hx hb dL_law_480 (by decide) ?_
  refine lv_iadd hx hb dL_law_481 ?_
  refine r_scr hx hb hXs hbl hS (4 * cc + 1) (by rw [show (1 : Int32) = nI 1 from by decide]; exact ix_add) (by omega) hL2 dL_law_482 ?_
  refine lv_aload_n hx hb dL_law_483 rfl (lv_at hl 3 rfl) ?_
  refine lv_iload_n hx hb dL_law_484 rfl (lv_at hl 0 rfl) ?_
  refine lv_iconst (v := 2) hx hb dL_law_485 (by decide) ?_
  refine lv_iadd hx hb dL_law_486 ?_
  refine r_scr hx hb hXs hbl hS (4 * cc + 2) (by rw [show (2 : Int32) = nI 2 from by decide]; exact ix_add) (by omega) hL2 dL_law_487 ?_
  refine got_i (run_i hx hb hml hown hT hK hl.1 (k_X7_of l G (z + 197) M (xs (4 * cc + 1)) (xs (4 * cc + 2)) hw) (cw_L_59 hT ⟨Nat.le_of_ble_eq_true rfl, Nat.le_of_ble_eq_true rfl⟩) hZ.2.2.2.2.1 rfl hZ.2.2.2.2 rfl rfl (Nat.le_of_ble_eq_true rfl) dL_law_488 hr0) (fun v_2 hv_2 => ?_)
  have hvv : v_1 = v_2 := hv_1.trans hv_2.symm
  have hfin : LI G z (cc + 1) _ := ⟨M, T, nx, kp, n, sl, hR.s, hZ⟩
  exact lv_icmp_eq (tgt := 838) hx hb dL_law_491 (by decide) (fun c1 => kk _ _ hS hfin) (fun c1 => absurd hvv c1)

set_option maxHeartbeats 4000000 in
set_option maxRecDepth 100000 in
theorem law_10 (hx : p.tables.exec = Jvm.exec) (hb : c.code = cL_law) (hml : c.maxLocals = 4) (hown : s.vm.findClass RL = some m.cls) (hT : ∀ w ∈ lw_good, w.before args s = true) (hK : Kn G s) (hz0 : s.heap.size ≤ z) (hbl : b < s.heap.size) (hXs : va_X b L xs s s.heap) (hXr : SxR ad tv (fun q => s.heap.size ≤ q) s) (hXl : SxL t3 (fun q => s.heap.size ≤ q) s) (hXc : SxC t4 (fun q => s.heap.size ≤ q) s) (hL2 : L ≤ 2048) {cc : Nat} {H : Heap} {locs : List Loc} {cells slots : Nat} {ls : Array Slot} (hI : LI G z cc H) (hS : va_S (fun q => s.heap.size ≤ q) s.heap H locs) (hcc : cc < 512) (hL : 4 * cc + 4 ≤ L) (hr0 : cells + 0 ≤ room_1.cells ∧ slots + 0 ≤ room_1.slots) (hl : lv_has ls 4 [(3, .int (nI (4 * cc))), (2, .ref (z + 197)), (1, .ref z), (0, .ref b)]) (kk : ∀ (H1 : Heap) (locs1 : List Loc), va_S (fun q => s.heap.size ≤ q) s.heap H1 locs1 → LI G z (cc + 1) H1 → W p l e room_1 s m args below meth c H1 locs1 cells slots Q (F0 m 838 ls [])) : W p l e room_1 s m args below meth c H locs cells slots Q (F0 m 496 ls []) := by
  obtain ⟨M, T, nx, kp, n, sl, hR, hZ⟩ := hI
  have hsl := hR.sl
  have hnx := hR.1.1
  have hkp := hR.1.2.1
  have hn := hR.1.2.2
  have hg := hR.2.2.1
  have hv := hg.1
  have hw := hv.1
  have h5 := hR.2.1.1
  have h7 := hR.2.1.2
  refine lv_aload_n hx hb dL_law_496 rfl (lv_at hl 2 rfl) ?_
  refine lv_aload_n hx hb dL_law_497 rfl (lv_at hl 3 rfl) ?_
  refine lv_iload_n hx hb dL_law_498 rfl (lv_at hl 0 rfl) ?_
  refine lv_iconst (v := 1) hx hb dL_law_499 (by decide) ?_
  refine lv_iadd hx hb dL_law_500 ?_
  refine r_scr hx hb hXs hbl hS (4 * cc + 1) (by rw [show (1 : Int32) = nI 1 from by decide]; exact ix_add) (by omega) hL2 dL_law_501 ?_
  refine got_i (run_i hx hb hml hown hT hK hl.1 (k_X6_blend l G z (M 0) (xs (4 * cc + 1)) hw) (cw_L_60 hT ⟨Nat.le_of_ble_eq_true rfl, Nat.le_of_ble_eq_true rfl⟩) hZ.1.1 rfl ⟨hZ.1.1, hZ.1.2.1⟩ rfl rfl (Nat.le_of_ble_eq_true rfl) dL_law_502 hr0) (fun v_1 hv_1 => ?_)
  refine lv_aload_n hx hb dL_law_505 rfl (lv_at hl 1 rfl) ?_
  refine lv_aload_n hx hb dL_law_506 rfl (lv_at hl 3 rfl) ?_
  refine lv_iload_n hx hb dL_law_507 rfl (lv_at hl 0 rfl) ?_
  refine lv_iconst (v := 1) hx hb dL_law_508 (by decide) ?_
  refine lv_iadd hx hb dL_law_509 ?_
  refine r_scr hx hb hXs hbl hS (4 * cc + 1) (by rw [show (1 : Int32) = nI 1 from by decide]; exact ix_add) (by omega) hL2 dL_law_510 ?_
  refine got_i (run_i hx hb hml hown hT hK hl.1 (k_X7_blend l G (z + 197) M (xs (4 * cc + 1)) hw) (cw_L_63 hT ⟨Nat.le_of_ble_eq_true rfl, Nat.le_of_ble_eq_true rfl⟩) hZ.2.2.2.2.1 rfl hZ.2.2.2.2 rfl rfl (Nat.le_of_ble_eq_true rfl) dL_law_511 hr0) (fun v_2 hv_2 => ?_)
  have hvv : v_1 = v_2 := hv_1.trans hv_2.symm
  have hfin : LI G z (cc + 1) _ := ⟨M, T, nx, kp, n, sl, hR.s, hZ⟩
  exact lv_icmp_eq (tgt := 838) hx hb dL_law_514 (by decide) (fun c1 => kk _ _ hS hfin) (fun c1 => absurd hvv c1)

set_option maxHeartbeats 4000000 in
set_option maxRecDepth 100000 in
theorem law_11 (hx : p.tables.exec = Jvm.exec) (hb : c.code = cL_law) (hml : c.maxLocals = 4) (hown : s.vm.findClass RL = some m.cls) (hT : ∀ w ∈ lw_good, w.before args s = true) (hK : Kn G s) (hz0 : s.heap.size ≤ z) (hbl : b < s.heap.size) (hXs : va_X b L xs s s.heap) (hXr : SxR ad tv (fun q => s.heap.size ≤ q) s) (hXl : SxL t3 (fun q => s.heap.size ≤ q) s) (hXc : SxC t4 (fun q => s.heap.size ≤ q) s) (hL2 : L ≤ 2048) {cc : Nat} {H : Heap} {locs : List Loc} {cells slots : Nat} {ls : Array Slot} (hI : LI G z cc H) (hS : va_S (fun q => s.heap.size ≤ q) s.heap H locs) (hcc : cc < 512) (hL : 4 * cc + 4 ≤ L) (hr0 : cells + 0 ≤ room_1.cells ∧ slots + 0 ≤ room_1.slots) (hl : lv_has ls 4 [(3, .int (nI (4 * cc))), (2, .ref (z + 197)), (1, .ref z), (0, .ref b)]) (kk : ∀ (H1 : Heap) (locs1 : List Loc), va_S (fun q => s.heap.size ≤ q) s.heap H1 locs1 → LI G z (cc + 1) H1 → W p l e room_1 s m args below meth c H1 locs1 cells slots Q (F0 m 838 ls [])) : W p l e room_1 s m args below meth c H locs cells slots Q (F0 m 519 ls []) := by
  obtain ⟨M, T, nx, kp, n, sl, hR, hZ⟩ := hI
  have hsl := hR.sl
  have hnx := hR.1.1
  have hkp := hR.1.2.1
  have hn := hR.1.2.2
  have hg := hR.2.2.1
  have hv := hg.1
  have hw := hv.1
  have h5 := hR.2.1.1
  have h7 := hR.2.1.2
  refine lv_aload_n hx hb dL_law_519 rfl (lv_at hl 2 rfl) ?_
  refine got_i (run_i hx hb hml hown hT hK hl.1 (k_X6_why l G z (M 0) hw) (cw_L_64 hT ⟨Nat.le_of_ble_eq_true rfl, Nat.le_of_ble_eq_true rfl⟩) hZ.1.1 rfl ⟨hZ.1.1, hZ.1.2.1⟩ rfl rfl (Nat.le_of_ble_eq_true rfl) dL_law_520 hr0) (fun v_1 hv_1 => ?_)
  refine lv_aload_n hx hb dL_law_523 rfl (lv_at hl 1 rfl) ?_
  refine got_i (run_i hx hb hml hown hT hK hl.1 (k_X7_why l G (z + 197) M hw) (cw_L_67 hT ⟨Nat.le_of_ble_eq_true rfl, Nat.le_of_ble_eq_true rfl⟩) hZ.2.2.2.2.1 rfl hZ.2.2.2.2 rfl rfl (Nat.le_of_ble_eq_true rfl) dL_law_524 hr0) (fun v_2 hv_2 => ?_)
  have hvv : v_1 = v_2 := hv_1.trans hv_2.symm
  have hfin : LI G z (cc + 1) _ := ⟨M, T, nx, kp, n, sl, hR.s, hZ⟩
  exact lv_icmp_eq (tgt := 838) hx hb dL_law_527 (by decide) (fun c1 => kk _ _ hS hfin) (fun c1 => absurd hvv c1)

set_option maxHeartbeats 4000000 in
set_option maxRecDepth 100000 in
theorem law_12 (hx : p.tables.exec = Jvm.exec) (hb : c.code = cL_law) (hml : c.maxLocals = 4) (hown : s.vm.findClass RL = some m.cls) (hT : ∀ w ∈ lw_good, w.before args s = true) (hK : Kn G s) (hz0 : s.heap.size ≤ z) (hbl : b < s.heap.size) (hXs : va_X b L xs s s.heap) (hXr : SxR ad tv (fun q => s.heap.size ≤ q) s) (hXl : SxL t3 (fun q => s.heap.size ≤ q) s) (hXc : SxC t4 (fun q => s.heap.size ≤ q) s) (hL2 : L ≤ 2048) {cc : Nat} {H : Heap} {locs : List Loc} {cells slots : Nat} {ls : Array Slot} (hI : LI G z cc H) (hS : va_S (fun q => s.heap.size ≤ q) s.heap H locs) (hcc : cc < 512) (hL : 4 * cc + 4 ≤ L) (hr0 : cells + 0 ≤ room_1.cells ∧ slots + 0 ≤ room_1.slots) (hl : lv_has ls 4 [(3, .int (nI (4 * cc))), (2, .ref (z + 197)), (1, .ref z), (0, .ref b)]) (kk : ∀ (H1 : Heap) (locs1 : List Loc), va_S (fun q => s.heap.size ≤ q) s.heap H1 locs1 → LI G z (cc + 1) H1 → W p l e room_1 s m args below meth c H1 locs1 cells slots Q (F0 m 838 ls [])) : W p l e room_1 s m args below meth c H locs cells slots Q (F0 m 532 ls []) := by
  obtain ⟨M, T, nx, kp, n, sl, hR, hZ⟩ := hI
  have hsl := hR.sl
  have hnx := hR.1.1
  have hkp := hR.1.2.1
  have hn := hR.1.2.2
  have hg := hR.2.2.1
  have hv := hg.1
  have hw := hv.1
  have h5 := hR.2.1.1
  have h7 := hR.2.1.2
  obtain ⟨N1, u1, j1, kd1, hRd⟩ := hZ.2.2.1
  refine lv_aload_n hx hb dL_law_532 rfl (lv_at hl 2 rfl) ?_
  refine lv_aload_n hx hb dL_law_533 rfl (lv_at hl 3 rfl) ?_
  refine lv_iload_n hx hb dL_law_534 rfl (lv_at hl 0 rfl) ?_
  refine lv_iconst (v := 1) hx hb dL_law_535 (by decide) ?_
  refine lv_iadd hx hb dL_law_536 ?_
  refine r_scr hx hb hXs hbl hS (4 * cc + 1) (by rw [show (1 : Int32) = nI 1 from by decide]; exact ix_add) (by omega) hL2 dL_law_537 ?_
  refine got_i (run_i hx hb hml hown hT hK hl.1 (k_X6_count l G z nx kp n (M 0) T (M 6) (xs (4 * cc + 1))) (cw_L_68 hT ⟨Nat.le_of_ble_eq_true rfl, Nat.le_of_ble_eq_true rfl⟩) hZ.1.1 rfl ⟨hZ.1, hRd.2⟩ rfl rfl (Nat.le_of_ble_eq_true rfl) dL_law_538 hr0) (fun v_1 hv_1 => ?_)
  refine lv_aload_n hx hb dL_law_541 rfl (lv_at hl 1 rfl) ?_
  refine lv_aload_n hx hb dL_law_542 rfl (lv_at hl 3 rfl) ?_
  refine lv_iload_n hx hb dL_law_543 rfl (lv_at hl 0 rfl) ?_
  refine lv_iconst (v := 1) hx hb dL_law_544 (by decide) ?_
  refine lv_iadd hx hb dL_law_545 ?_
  refine r_scr hx hb hXs hbl hS (4 * cc + 1) (by rw [show (1 : Int32) = nI 1 from by decide]; exact ix_add) (by omega) hL2 dL_law_546 ?_
  refine got_i (run_i hx hb hml hown hT hK hl.1 (k_X7_count l G (z + 197) M (xs (4 * cc + 1))) (cw_L_71 hT ⟨Nat.le_of_ble_eq_true rfl, Nat.le_of_ble_eq_true rfl⟩) hZ.2.2.2.2.1 rfl hZ.2.2.2.2 rfl rfl (Nat.le_of_ble_eq_true rfl) dL_law_547 hr0) (fun v_2 hv_2 => ?_)
  have hvv : v_1 = v_2 := hv_1.trans (by rw [← h7, ← h5]; exact hv_2.symm)
  have hfin : LI G z (cc + 1) _ := ⟨M, T, nx, kp, n, sl, hR.s, hZ⟩
  exact lv_icmp_eq (tgt := 838) hx hb dL_law_550 (by decide) (fun c1 => kk _ _ hS hfin) (fun c1 => absurd hvv c1)

set_option maxHeartbeats 4000000 in
set_option maxRecDepth 100000 in
theorem law_13 (hx : p.tables.exec = Jvm.exec) (hb : c.code = cL_law) (hml : c.maxLocals = 4) (hown : s.vm.findClass RL = some m.cls) (hT : ∀ w ∈ lw_good, w.before args s = true) (hK : Kn G s) (hz0 : s.heap.size ≤ z) (hbl : b < s.heap.size) (hXs : va_X b L xs s s.heap) (hXr : SxR ad tv (fun q => s.heap.size ≤ q) s) (hXl : SxL t3 (fun q => s.heap.size ≤ q) s) (hXc : SxC t4 (fun q => s.heap.size ≤ q) s) (hL2 : L ≤ 2048) {cc : Nat} {H : Heap} {locs : List Loc} {cells slots : Nat} {ls : Array Slot} (hI : LI G z cc H) (hS : va_S (fun q => s.heap.size ≤ q) s.heap H locs) (hcc : cc < 512) (hL : 4 * cc + 4 ≤ L) (hr0 : cells + 0 ≤ room_1.cells ∧ slots + 0 ≤ room_1.slots) (hl : lv_has ls 4 [(3, .int (nI (4 * cc))), (2, .ref (z + 197)), (1, .ref z), (0, .ref b)]) (kk : ∀ (H1 : Heap) (locs1 : List Loc), va_S (fun q => s.heap.size ≤ q) s.heap H1 locs1 → LI G z (cc + 1) H1 → W p l e room_1 s m args below meth c H1 locs1 cells slots Q (F0 m 838 ls [])) : W p l e room_1 s m args below meth c H locs cells slots Q (F0 m 555 ls []) := by
  obtain ⟨M, T, nx, kp, n, sl, hR, hZ⟩ := hI
  have hsl := hR.sl
  have hnx := hR.1.1
  have hkp := hR.1.2.1
  have hn := hR.1.2.2
  have hg := hR.2.2.1
  have hv := hg.1
  have hw := hv.1
  have h5 := hR.2.1.1
  have h7 := hR.2.1.2
  refine lv_aload_n hx hb dL_law_555 rfl (lv_at hl 2 rfl) ?_
  refine lv_aload_n hx hb dL_law_556 rfl (lv_at hl 3 rfl) ?_
  refine lv_iload_n hx hb dL_law_557 rfl (lv_at hl 0 rfl) ?_
  refine lv_iconst (v := 1) hx hb dL_law_558 (by decide) ?_
  refine lv_iadd hx hb dL_law_559 ?_
  refine r_scr hx hb hXs hbl hS (4 * cc + 1) (by rw [show (1 : Int32) = nI 1 from by decide]; exact ix_add) (by omega) hL2 dL_law_560 ?_
  refine got_l (run_i hx hb hml hown hT hK hl.1 (k_X6_taste l G z (M 0) (xs (4 * cc + 1)) hv) (cw_L_72 hT ⟨Nat.le_of_ble_eq_true rfl, Nat.le_of_ble_eq_true rfl⟩) hZ.1.1 rfl ⟨hZ.1.1, hZ.1.2.1⟩ rfl rfl (Nat.le_of_ble_eq_true rfl) dL_law_561 hr0) (fun v_1 hv_1 => ?_)
  refine lv_aload_n hx hb dL_law_564 rfl (lv_at hl 1 rfl) ?_
  refine lv_aload_n hx hb dL_law_565 rfl (lv_at hl 3 rfl) ?_
  refine lv_iload_n hx hb dL_law_566 rfl (lv_at hl 0 rfl) ?_
  refine lv_iconst (v := 1) hx hb dL_law_567 (by decide) ?_
  refine lv_iadd hx hb dL_law_568 ?_
  refine r_scr hx hb hXs hbl hS (4 * cc + 1) (by rw [show (1 : Int32) = nI 1 from by decide]; exact ix_add) (by omega) hL2 dL_law_569 ?_
  refine got_l (run_i hx hb hml hown hT hK hl.1 (k_X7_taste l G (z + 197) M (xs (4 * cc + 1)) hv) (cw_L_76 hT ⟨Nat.le_of_ble_eq_true rfl, Nat.le_of_ble_eq_true rfl⟩) hZ.2.2.2.2.1 rfl hZ.2.2.2.2 rfl rfl (Nat.le_of_ble_eq_true rfl) dL_law_570 hr0) (fun v_2 hv_2 => ?_)
  have hvv : v_1 = v_2 := hv_1.trans hv_2.symm
  rw [hvv]
  have hfin : LI G z (cc + 1) _ := ⟨M, T, nx, kp, n, sl, hR.s, hZ⟩
  refine W.lcmp hx hb dL_law_573 ?_
  exact lv_if_eq (tgt := 838) hx hb dL_law_574 (by decide) (fun c1 => kk _ _ hS hfin) (fun c1 => absurd cmp_self c1)

set_option maxHeartbeats 4000000 in
set_option maxRecDepth 100000 in
theorem law_14 (hx : p.tables.exec = Jvm.exec) (hb : c.code = cL_law) (hml : c.maxLocals = 4) (hown : s.vm.findClass RL = some m.cls) (hT : ∀ w ∈ lw_good, w.before args s = true) (hK : Kn G s) (hz0 : s.heap.size ≤ z) (hbl : b < s.heap.size) (hXs : va_X b L xs s s.heap) (hXr : SxR ad tv (fun q => s.heap.size ≤ q) s) (hXl : SxL t3 (fun q => s.heap.size ≤ q) s) (hXc : SxC t4 (fun q => s.heap.size ≤ q) s) (hL2 : L ≤ 2048) {cc : Nat} {H : Heap} {locs : List Loc} {cells slots : Nat} {ls : Array Slot} (hI : LI G z cc H) (hS : va_S (fun q => s.heap.size ≤ q) s.heap H locs) (hcc : cc < 512) (hL : 4 * cc + 4 ≤ L) (hr0 : cells + 0 ≤ room_1.cells ∧ slots + 0 ≤ room_1.slots) (hl : lv_has ls 4 [(3, .int (nI (4 * cc))), (2, .ref (z + 197)), (1, .ref z), (0, .ref b)]) (kk : ∀ (H1 : Heap) (locs1 : List Loc), va_S (fun q => s.heap.size ≤ q) s.heap H1 locs1 → LI G z (cc + 1) H1 → W p l e room_1 s m args below meth c H1 locs1 cells slots Q (F0 m 838 ls [])) : W p l e room_1 s m args below meth c H locs cells slots Q (F0 m 579 ls []) := by
  obtain ⟨M, T, nx, kp, n, sl, hR, hZ⟩ := hI
  have hsl := hR.sl
  have hnx := hR.1.1
  have hkp := hR.1.2.1
  have hn := hR.1.2.2
  have hg := hR.2.2.1
  have hv := hg.1
  have hw := hv.1
  have h5 := hR.2.1.1
  have h7 := hR.2.1.2
  refine lv_aload_n hx hb dL_law_579 rfl (lv_at hl 2 rfl) ?_
  refine got_i (run_i hx hb hml hown hT hK hl.1 (k_X6_mean l G z (M 0) hg.2.2.1 hg.2.1.1) (cw_L_77 hT ⟨Nat.le_of_ble_eq_true rfl, Nat.le_of_ble_eq_true rfl⟩) hZ.1.1 rfl ⟨hZ.1.1, hZ.1.2.1⟩ rfl rfl (Nat.le_of_ble_eq_true rfl) dL_law_580 hr0) (fun v_1 hv_1 => ?_)
  refine lv_aload_n hx hb dL_law_583 rfl (lv_at hl 1 rfl) ?_
  refine got_i (run_i hx hb hml hown hT hK hl.1 (k_X7_mean l G (z + 197) M hg.2.2.1 hg.2.1.1) (cw_L_80 hT ⟨Nat.le_of_ble_eq_true rfl, Nat.le_of_ble_eq_true rfl⟩) hZ.2.2.2.2.1 rfl hZ.2.2.2.2 rfl rfl (Nat.le_of_ble_eq_true rfl) dL_law_584 hr0) (fun v_2 hv_2 => ?_)
  have hvv : v_1 = v_2 := hv_1.trans hv_2.symm
  have hfin : LI G z (cc + 1) _ := ⟨M, T, nx, kp, n, sl, hR.s, hZ⟩
  exact lv_icmp_eq (tgt := 838) hx hb dL_law_587 (by decide) (fun c1 => kk _ _ hS hfin) (fun c1 => absurd hvv c1)

set_option maxHeartbeats 4000000 in
set_option maxRecDepth 100000 in
theorem law_15 (hx : p.tables.exec = Jvm.exec) (hb : c.code = cL_law) (hml : c.maxLocals = 4) (hown : s.vm.findClass RL = some m.cls) (hT : ∀ w ∈ lw_good, w.before args s = true) (hK : Kn G s) (hz0 : s.heap.size ≤ z) (hbl : b < s.heap.size) (hXs : va_X b L xs s s.heap) (hXr : SxR ad tv (fun q => s.heap.size ≤ q) s) (hXl : SxL t3 (fun q => s.heap.size ≤ q) s) (hXc : SxC t4 (fun q => s.heap.size ≤ q) s) (hL2 : L ≤ 2048) {cc : Nat} {H : Heap} {locs : List Loc} {cells slots : Nat} {ls : Array Slot} (hI : LI G z cc H) (hS : va_S (fun q => s.heap.size ≤ q) s.heap H locs) (hcc : cc < 512) (hL : 4 * cc + 4 ≤ L) (hr0 : cells + 0 ≤ room_1.cells ∧ slots + 0 ≤ room_1.slots) (hl : lv_has ls 4 [(3, .int (nI (4 * cc))), (2, .ref (z + 197)), (1, .ref z), (0, .ref b)]) (kk : ∀ (H1 : Heap) (locs1 : List Loc), va_S (fun q => s.heap.size ≤ q) s.heap H1 locs1 → LI G z (cc + 1) H1 → W p l e room_1 s m args below meth c H1 locs1 cells slots Q (F0 m 838 ls [])) : W p l e room_1 s m args below meth c H locs cells slots Q (F0 m 592 ls []) := by
  obtain ⟨M, T, nx, kp, n, sl, hR, hZ⟩ := hI
  have hsl := hR.sl
  have hnx := hR.1.1
  have hkp := hR.1.2.1
  have hn := hR.1.2.2
  have hg := hR.2.2.1
  have hv := hg.1
  have hw := hv.1
  have h5 := hR.2.1.1
  have h7 := hR.2.1.2
  obtain ⟨S, h90, hSr⟩ := hZ.2.2.2.1
  refine lv_aload_n hx hb dL_law_592 rfl (lv_at hl 2 rfl) ?_
  refine lv_aload_n hx hb dL_law_593 rfl (lv_at hl 3 rfl) ?_
  refine lv_iload_n hx hb dL_law_594 rfl (lv_at hl 0 rfl) ?_
  refine lv_iconst (v := 1) hx hb dL_law_595 (by decide) ?_
  refine lv_iadd hx hb dL_law_596 ?_
  refine r_scr hx hb hXs hbl hS (4 * cc + 1) (by rw [show (1 : Int32) = nI 1 from by decide]; exact ix_add) (by omega) hL2 dL_law_597 ?_
  refine got_I (run_i hx hb hml hown hT hK hl.1 (k_X6_cheapest l G z (M 0) S (xs (4 * cc + 1)) hv h90) (cw_L_81 hT ⟨Nat.le_of_ble_eq_true rfl, Nat.le_of_ble_eq_true rfl⟩) hZ.1.1 rfl ⟨hZ.1.1, hZ.1.2.1, hSr⟩ rfl rfl (Nat.le_of_ble_eq_true rfl) dL_law_598 hr0) hS (fun q (hq : _ ∧ _) => show s.heap.size ≤ q from by omega) (fun q (hq : _ ∧ _) => show s.heap.size ≤ q from by omega) (fun v_1 H locs h1 hz hk hS => ?_)
  obtain ⟨hv1, S2, g90, h3⟩ := h1
  have hZ := hZ.sr hsl hk ⟨S2, g90, h3.2.2⟩
  refine lv_aload_n hx hb dL_law_601 rfl (lv_at hl 1 rfl) ?_
  refine lv_aload_n hx hb dL_law_602 rfl (lv_at hl 3 rfl) ?_
  refine lv_iload_n hx hb dL_law_603 rfl (lv_at hl 0 rfl) ?_
  refine lv_iconst (v := 1) hx hb dL_law_604 (by decide) ?_
  refine lv_iadd hx hb dL_law_605 ?_
  refine r_scr hx hb hXs hbl hS (4 * cc + 1) (by rw [show (1 : Int32) = nI 1 from by decide]; exact ix_add) (by omega) hL2 dL_law_606 ?_
  refine got_I (run_i hx hb hml hown hT hK hl.1 (k_X7_cheapest l G (z + 197) M (xs (4 * cc + 1)) hv) (cw_L_84 hT ⟨Nat.le_of_ble_eq_true rfl, Nat.le_of_ble_eq_true rfl⟩) hZ.2.2.2.2.1 rfl hZ.2.2.2.2 rfl rfl (Nat.le_of_ble_eq_true rfl) dL_law_607 hr0) hS (fun q (hq : _ ∧ _) => show s.heap.size ≤ q from by omega) (fun q (hq : _ ∧ _) => show s.heap.size ≤ q from by omega) (fun v_2 H locs h1 hz hk hS => ?_)
  obtain ⟨hv2, M2, hP, hM⟩ := h1
  have hZ := hZ.md hsl hk hM
  have hvv : v_1 = v_2 := hv1.trans hv2.symm
  have hfin : LI G z (cc + 1) _ := LI.same hR (fun k hk => hP k (by omega)) hZ
  exact lv_icmp_eq (tgt := 838) hx hb dL_law_610 (by decide) (fun c1 => kk _ _ hS hfin) (fun c1 => absurd hvv c1)

set_option maxHeartbeats 4000000 in
set_option maxRecDepth 100000 in
theorem law_16 (hx : p.tables.exec = Jvm.exec) (hb : c.code = cL_law) (hml : c.maxLocals = 4) (hown : s.vm.findClass RL = some m.cls) (hT : ∀ w ∈ lw_good, w.before args s = true) (hK : Kn G s) (hz0 : s.heap.size ≤ z) (hbl : b < s.heap.size) (hXs : va_X b L xs s s.heap) (hXr : SxR ad tv (fun q => s.heap.size ≤ q) s) (hXl : SxL t3 (fun q => s.heap.size ≤ q) s) (hXc : SxC t4 (fun q => s.heap.size ≤ q) s) (hL2 : L ≤ 2048) {cc : Nat} {H : Heap} {locs : List Loc} {cells slots : Nat} {ls : Array Slot} (hI : LI G z cc H) (hS : va_S (fun q => s.heap.size ≤ q) s.heap H locs) (hcc : cc < 512) (hL : 4 * cc + 4 ≤ L) (hr0 : cells + 0 ≤ room_1.cells ∧ slots + 0 ≤ room_1.slots) (hl : lv_has ls 4 [(3, .int (nI (4 * cc))), (2, .ref (z + 197)), (1, .ref z), (0, .ref b)]) (kk : ∀ (H1 : Heap) (locs1 : List Loc), va_S (fun q => s.heap.size ≤ q) s.heap H1 locs1 → LI G z (cc + 1) H1 → W p l e room_1 s m args below meth c H1 locs1 cells slots Q (F0 m 838 ls [])) : W p l e room_1 s m args below meth c H locs cells slots Q (F0 m 615 ls []) := by
  obtain ⟨M, T, nx, kp, n, sl, hR, hZ⟩ := hI
  have hsl := hR.sl
  have hnx := hR.1.1
  have hkp := hR.1.2.1
  have hn := hR.1.2.2
  have hg := hR.2.2.1
  have hv := hg.1
  have hw := hv.1
  have h5 := hR.2.1.1
  have h7 := hR.2.1.2
  refine lv_aload_n hx hb dL_law_615 rfl (lv_at hl 2 rfl) ?_
  refine lv_aload_n hx hb dL_law_616 rfl (lv_at hl 3 rfl) ?_
  refine lv_iload_n hx hb dL_law_617 rfl (lv_at hl 0 rfl) ?_
  refine lv_iconst (v := 1) hx hb dL_law_618 (by decide) ?_
  refine lv_iadd hx hb dL_law_619 ?_
  refine r_scr hx hb hXs hbl hS (4 * cc + 1) (by rw [show (1 : Int32) = nI 1 from by decide]; exact ix_add) (by omega) hL2 dL_law_620 ?_
  refine got_i (run_i hx hb hml hown hT hK hl.1 (k_X6_swap l G z (M 0) (xs (4 * cc + 1)) hw hv) (cw_L_85 hT ⟨Nat.le_of_ble_eq_true rfl, Nat.le_of_ble_eq_true rfl⟩) hZ.1.1 rfl ⟨hZ.1.1, hZ.1.2.1⟩ rfl rfl (Nat.le_of_ble_eq_true rfl) dL_law_621 hr0) (fun v_1 hv_1 => ?_)
  refine lv_aload_n hx hb dL_law_624 rfl (lv_at hl 1 rfl) ?_
  refine lv_aload_n hx hb dL_law_625 rfl (lv_at hl 3 rfl) ?_
  refine lv_iload_n hx hb dL_law_626 rfl (lv_at hl 0 rfl) ?_
  refine lv_iconst (v := 1) hx hb dL_law_627 (by decide) ?_
  refine lv_iadd hx hb dL_law_628 ?_
  refine r_scr hx hb hXs hbl hS (4 * cc + 1) (by rw [show (1 : Int32) = nI 1 from by decide]; exact ix_add) (by omega) hL2 dL_law_629 ?_
  refine got_I (run_i hx hb hml hown hT hK hl.1 (k_X7_swap l G (z + 197) M (xs (4 * cc + 1)) hv) (cw_L_88 hT ⟨Nat.le_of_ble_eq_true rfl, Nat.le_of_ble_eq_true rfl⟩) hZ.2.2.2.2.1 rfl hZ.2.2.2.2 rfl rfl (Nat.le_of_ble_eq_true rfl) dL_law_630 hr0) hS (fun q (hq : _ ∧ _) => show s.heap.size ≤ q from by omega) (fun q (hq : _ ∧ _) => show s.heap.size ≤ q from by omega) (fun v_2 H locs h1 hz hk hS => ?_)
  obtain ⟨hv2, M2, hP, hM⟩ := h1
  have hZ := hZ.md hsl hk hM
  have hvv : v_1 = v_2 := hv_1.trans hv2.symm
  have hfin : LI G z (cc + 1) _ := LI.same hR (fun k hk => hP k (by omega)) hZ
  exact lv_icmp_eq (tgt := 838) hx hb dL_law_633 (by decide) (fun c1 => kk _ _ hS hfin) (fun c1 => absurd hvv c1)

set_option maxHeartbeats 4000000 in
set_option maxRecDepth 100000 in
theorem law_17 (hx : p.tables.exec = Jvm.exec) (hb : c.code = cL_law) (hml : c.maxLocals = 4) (hown : s.vm.findClass RL = some m.cls) (hT : ∀ w ∈ lw_good, w.before args s = true) (hK : Kn G s) (hz0 : s.heap.size ≤ z) (hbl : b < s.heap.size) (hXs : va_X b L xs s s.heap) (hXr : SxR ad tv (fun q => s.heap.size ≤ q) s) (hXl : SxL t3 (fun q => s.heap.size ≤ q) s) (hXc : SxC t4 (fun q => s.heap.size ≤ q) s) (hL2 : L ≤ 2048) {cc : Nat} {H : Heap} {locs : List Loc} {cells slots : Nat} {ls : Array Slot} (hI : LI G z cc H) (hS : va_S (fun q => s.heap.size ≤ q) s.heap H locs) (hcc : cc < 512) (hL : 4 * cc + 4 ≤ L) (hr0 : cells + 0 ≤ room_1.cells ∧ slots + 0 ≤ room_1.slots) (hl : lv_has ls 4 [(3, .int (nI (4 * cc))), (2, .ref (z + 197)), (1, .ref z), (0, .ref b)]) (kk : ∀ (H1 : Heap) (locs1 : List Loc), va_S (fun q => s.heap.size ≤ q) s.heap H1 locs1 → LI G z (cc + 1) H1 → W p l e room_1 s m args below meth c H1 locs1 cells slots Q (F0 m 838 ls [])) : W p l e room_1 s m args below meth c H locs cells slots Q (F0 m 638 ls []) := by
  obtain ⟨M, T, nx, kp, n, sl, hR, hZ⟩ := hI
  have hsl := hR.sl
  have hnx := hR.1.1
  have hkp := hR.1.2.1
  have hn := hR.1.2.2
  have hg := hR.2.2.1
  have hv := hg.1
  have hw := hv.1
  have h5 := hR.2.1.1
  have h7 := hR.2.1.2
  obtain ⟨S, h90, hSr⟩ := hZ.2.2.2.1
  refine lv_aload_n hx hb dL_law_638 rfl (lv_at hl 2 rfl) ?_
  refine lv_aload_n hx hb dL_law_639 rfl (lv_at hl 3 rfl) ?_
  refine lv_iload_n hx hb dL_law_640 rfl (lv_at hl 0 rfl) ?_
  refine lv_iconst (v := 1) hx hb dL_law_641 (by decide) ?_
  refine lv_iadd hx hb dL_law_642 ?_
  refine r_scr hx hb hXs hbl hS (4 * cc + 1) (by rw [show (1 : Int32) = nI 1 from by decide]; exact ix_add) (by omega) hL2 dL_law_643 ?_
  refine got_I (run_i hx hb hml hown hT hK hl.1 (k_X6_looser l G z (M 0) S (xs (4 * cc + 1)) hv h90) (cw_L_89 hT ⟨Nat.le_of_ble_eq_true rfl, Nat.le_of_ble_eq_true rfl⟩) hZ.1.1 rfl ⟨hZ.1.1, hZ.1.2.1, hSr⟩ rfl rfl (Nat.le_of_ble_eq_true rfl) dL_law_644 hr0) hS (fun q (hq : _ ∧ _) => show s.heap.size ≤ q from by omega) (fun q (hq : _ ∧ _) => show s.heap.size ≤ q from by omega) (fun v_1 H locs h1 hz hk hS => ?_)
  obtain ⟨hv1, S2, g90, h3⟩ := h1
  have hZ := hZ.sr hsl hk ⟨S2, g90, h3.2.2⟩
  refine lv_aload_n hx hb dL_law_647 rfl (lv_at hl 1 rfl) ?_
  refine lv_aload_n hx hb dL_law_648 rfl (lv_at hl 3 rfl) ?_
  refine lv_iload_n hx hb dL_law_649 rfl (lv_at hl 0 rfl) ?_
  refine lv_iconst (v := 1) hx hb dL_law_650 (by decide) ?_
  refine lv_iadd hx hb dL_law_651 ?_
  refine r_scr hx hb hXs hbl hS (4 * cc + 1) (by rw [show (1 : Int32) = nI 1 from by decide]; exact ix_add) (by omega) hL2 dL_law_652 ?_
  refine got_I (run_i hx hb hml hown hT hK hl.1 (k_X7_looser l G (z + 197) M (xs (4 * cc + 1)) hv) (cw_L_92 hT ⟨Nat.le_of_ble_eq_true rfl, Nat.le_of_ble_eq_true rfl⟩) hZ.2.2.2.2.1 rfl hZ.2.2.2.2 rfl rfl (Nat.le_of_ble_eq_true rfl) dL_law_653 hr0) hS (fun q (hq : _ ∧ _) => show s.heap.size ≤ q from by omega) (fun q (hq : _ ∧ _) => show s.heap.size ≤ q from by omega) (fun v_2 H locs h1 hz hk hS => ?_)
  obtain ⟨hv2, M2, hP, hM⟩ := h1
  have hZ := hZ.md hsl hk hM
  have hvv : v_1 = v_2 := hv1.trans hv2.symm
  have hfin : LI G z (cc + 1) _ := LI.same hR (fun k hk => hP k (by omega)) hZ
  exact lv_icmp_eq (tgt := 838) hx hb dL_law_656 (by decide) (fun c1 => kk _ _ hS hfin) (fun c1 => absurd hvv c1)

set_option maxHeartbeats 4000000 in
set_option maxRecDepth 100000 in
theorem law_18 (hx : p.tables.exec = Jvm.exec) (hb : c.code = cL_law) (hml : c.maxLocals = 4) (hown : s.vm.findClass RL = some m.cls) (hT : ∀ w ∈ lw_good, w.before args s = true) (hK : Kn G s) (hz0 : s.heap.size ≤ z) (hbl : b < s.heap.size) (hXs : va_X b L xs s s.heap) (hXr : SxR ad tv (fun q => s.heap.size ≤ q) s) (hXl : SxL t3 (fun q => s.heap.size ≤ q) s) (hXc : SxC t4 (fun q => s.heap.size ≤ q) s) (hL2 : L ≤ 2048) {cc : Nat} {H : Heap} {locs : List Loc} {cells slots : Nat} {ls : Array Slot} (hI : LI G z cc H) (hS : va_S (fun q => s.heap.size ≤ q) s.heap H locs) (hcc : cc < 512) (hL : 4 * cc + 4 ≤ L) (hr0 : cells + 0 ≤ room_1.cells ∧ slots + 0 ≤ room_1.slots) (hl : lv_has ls 4 [(3, .int (nI (4 * cc))), (2, .ref (z + 197)), (1, .ref z), (0, .ref b)]) (kk : ∀ (H1 : Heap) (locs1 : List Loc), va_S (fun q => s.heap.size ≤ q) s.heap H1 locs1 → LI G z (cc + 1) H1 → W p l e room_1 s m args below meth c H1 locs1 cells slots Q (F0 m 838 ls [])) : W p l e room_1 s m args below meth c H locs cells slots Q (F0 m 661 ls []) := by
  obtain ⟨M, T, nx, kp, n, sl, hR, hZ⟩ := hI
  have hsl := hR.sl
  have hnx := hR.1.1
  have hkp := hR.1.2.1
  have hn := hR.1.2.2
  have hg := hR.2.2.1
  have hv := hg.1
  have hw := hv.1
  have h5 := hR.2.1.1
  have h7 := hR.2.1.2
  refine lv_aload_n hx hb dL_law_661 rfl (lv_at hl 2 rfl) ?_
  refine got_i (run_i hx hb hml hown hT hK hl.1 (k_X6_keepsFor l G z (M 0) hw) (cw_L_93 hT ⟨Nat.le_of_ble_eq_true rfl, Nat.le_of_ble_eq_true rfl⟩) hZ.1.1 rfl ⟨hZ.1.1, hZ.1.2.1⟩ rfl rfl (Nat.le_of_ble_eq_true rfl) dL_law_662 hr0) (fun v_1 hv_1 => ?_)
  refine lv_aload_n hx hb dL_law_665 rfl (lv_at hl 1 rfl) ?_
  refine got_i (run_i hx hb hml hown hT hK hl.1 (k_X7_keepsFor l G (z + 197) M hw) (cw_L_96 hT ⟨Nat.le_of_ble_eq_true rfl, Nat.le_of_ble_eq_true rfl⟩) hZ.2.2.2.2.1 rfl hZ.2.2.2.2 rfl rfl (Nat.le_of_ble_eq_true rfl) dL_law_666 hr0) (fun v_2 hv_2 => ?_)
  have hvv : v_1 = v_2 := hv_1.trans hv_2.symm
  have hfin : LI G z (cc + 1) _ := ⟨M, T, nx, kp, n, sl, hR.s, hZ⟩
  exact lv_icmp_eq (tgt := 838) hx hb dL_law_669 (by decide) (fun c1 => kk _ _ hS hfin) (fun c1 => absurd hvv c1)

set_option maxHeartbeats 4000000 in
set_option maxRecDepth 100000 in
theorem law_19 (hx : p.tables.exec = Jvm.exec) (hb : c.code = cL_law) (hml : c.maxLocals = 4) (hown : s.vm.findClass RL = some m.cls) (hT : ∀ w ∈ lw_good, w.before args s = true) (hK : Kn G s) (hz0 : s.heap.size ≤ z) (hbl : b < s.heap.size) (hXs : va_X b L xs s s.heap) (hXr : SxR ad tv (fun q => s.heap.size ≤ q) s) (hXl : SxL t3 (fun q => s.heap.size ≤ q) s) (hXc : SxC t4 (fun q => s.heap.size ≤ q) s) (hL2 : L ≤ 2048) {cc : Nat} {H : Heap} {locs : List Loc} {cells slots : Nat} {ls : Array Slot} (hI : LI G z cc H) (hS : va_S (fun q => s.heap.size ≤ q) s.heap H locs) (hcc : cc < 512) (hL : 4 * cc + 4 ≤ L) (hr0 : cells + 0 ≤ room_1.cells ∧ slots + 0 ≤ room_1.slots) (hl : lv_has ls 4 [(3, .int (nI (4 * cc))), (2, .ref (z + 197)), (1, .ref z), (0, .ref b)]) (kk : ∀ (H1 : Heap) (locs1 : List Loc), va_S (fun q => s.heap.size ≤ q) s.heap H1 locs1 → LI G z (cc + 1) H1 → W p l e room_1 s m args below meth c H1 locs1 cells slots Q (F0 m 838 ls [])) : W p l e room_1 s m args below meth c H locs cells slots Q (F0 m 674 ls []) := by
  obtain ⟨M, T, nx, kp, n, sl, hR, hZ⟩ := hI
  have hsl := hR.sl
  have hnx := hR.1.1
  have hkp := hR.1.2.1
  have hn := hR.1.2.2
  have hg := hR.2.2.1
  have hv := hg.1
  have hw := hv.1
  have h5 := hR.2.1.1
  have h7 := hR.2.1.2
  refine lv_aload_n hx hb dL_law_674 rfl (lv_at hl 2 rfl) ?_
  refine got_i (run_i hx hb hml hown hT hK hl.1 (k_X6_mostGrams l G z (M 0) hw) (cw_L_97 hT ⟨Nat.le_of_ble_eq_true rfl, Nat.le_of_ble_eq_true rfl⟩) hZ.1.1 rfl ⟨hZ.1.1, hZ.1.2.1⟩ rfl rfl (Nat.le_of_ble_eq_true rfl) dL_law_675 hr0) (fun v_1 hv_1 => ?_)
  refine lv_aload_n hx hb dL_law_678 rfl (lv_at hl 1 rfl) ?_
  refine got_i (run_i hx hb hml hown hT hK hl.1 (k_X7_mostGrams l G (z + 197) M hv) (cw_L_100 hT ⟨Nat.le_of_ble_eq_true rfl, Nat.le_of_ble_eq_true rfl⟩) hZ.2.2.2.2.1 rfl hZ.2.2.2.2 rfl rfl (Nat.le_of_ble_eq_true rfl) dL_law_679 hr0) (fun v_2 hv_2 => ?_)
  have hvv : v_1 = v_2 := hv_1.trans hv_2.symm
  have hfin : LI G z (cc + 1) _ := ⟨M, T, nx, kp, n, sl, hR.s, hZ⟩
  exact lv_icmp_eq (tgt := 838) hx hb dL_law_682 (by decide) (fun c1 => kk _ _ hS hfin) (fun c1 => absurd hvv c1)

set_option maxHeartbeats 4000000 in
set_option maxRecDepth 100000 in
theorem law_20 (hx : p.tables.exec = Jvm.exec) (hb : c.code = cL_law) (hml : c.maxLocals = 4) (hown : s.vm.findClass RL = some m.cls) (hT : ∀ w ∈ lw_good, w.before args s = true) (hK : Kn G s) (hz0 : s.heap.size ≤ z) (hbl : b < s.heap.size) (hXs : va_X b L xs s s.heap) (hXr : SxR ad tv (fun q => s.heap.size ≤ q) s) (hXl : SxL t3 (fun q => s.heap.size ≤ q) s) (hXc : SxC t4 (fun q => s.heap.size ≤ q) s) (hL2 : L ≤ 2048) {cc : Nat} {H : Heap} {locs : List Loc} {cells slots : Nat} {ls : Array Slot} (hI : LI G z cc H) (hS : va_S (fun q => s.heap.size ≤ q) s.heap H locs) (hcc : cc < 512) (hL : 4 * cc + 4 ≤ L) (hr0 : cells + 0 ≤ room_1.cells ∧ slots + 0 ≤ room_1.slots) (hl : lv_has ls 4 [(3, .int (nI (4 * cc))), (2, .ref (z + 197)), (1, .ref z), (0, .ref b)]) (kk : ∀ (H1 : Heap) (locs1 : List Loc), va_S (fun q => s.heap.size ≤ q) s.heap H1 locs1 → LI G z (cc + 1) H1 → W p l e room_1 s m args below meth c H1 locs1 cells slots Q (F0 m 838 ls [])) : W p l e room_1 s m args below meth c H locs cells slots Q (F0 m 687 ls []) := by
  obtain ⟨M, T, nx, kp, n, sl, hR, hZ⟩ := hI
  have hsl := hR.sl
  have hnx := hR.1.1
  have hkp := hR.1.2.1
  have hn := hR.1.2.2
  have hg := hR.2.2.1
  have hv := hg.1
  have hw := hv.1
  have h5 := hR.2.1.1
  have h7 := hR.2.1.2
  obtain ⟨N1, u1, j1, kd1, hRd⟩ := hZ.2.2.1
  refine lv_aload_n hx hb dL_law_687 rfl (lv_at hl 2 rfl) ?_
  refine lv_aload_n hx hb dL_law_688 rfl (lv_at hl 3 rfl) ?_
  refine lv_iload_n hx hb dL_law_689 rfl (lv_at hl 0 rfl) ?_
  refine lv_iconst (v := 1) hx hb dL_law_690 (by decide) ?_
  refine lv_iadd hx hb dL_law_691 ?_
  refine r_scr hx hb hXs hbl hS (4 * cc + 1) (by rw [show (1 : Int32) = nI 1 from by decide]; exact ix_add) (by omega) hL2 dL_law_692 ?_
  refine lv_i2l hx hb dL_law_693 rfl ?_
  refine lv_bipush (v := 32) hx hb dL_law_694 (by decide) ?_
  refine lv_lshl hx hb dL_law_696 rfl ?_
  refine lv_aload_n hx hb dL_law_697 rfl (lv_at hl 3 rfl) ?_
  refine lv_iload_n hx hb dL_law_698 rfl (lv_at hl 0 rfl) ?_
  refine lv_iconst (v := 2) hx hb dL_law_699 (by decide) ?_
  refine lv_iadd hx hb dL_law_700 ?_
  refine r_scr hx hb hXs hbl hS (4 * cc + 2) (by rw [show (2 : Int32) = nI 2 from by decide]; exact ix_add) (by omega) hL2 dL_law_701 ?_
  refine lv_i2l hx hb dL_law_702 rfl ?_
  refine lv_ldc2 hx hb hown (hT _ mk_L_23) dL_law_703 ?_
  refine lv_land hx hb dL_law_706 ?_
  refine lv_lor hx hb dL_law_707 ?_
  obtain ⟨X, hX, hy⟩ : ∃ X : Nat, X < 2 ^ 64 ∧ (((xs (4 * cc + 1)).toInt64) <<< (Int32.toInt64 32 &&& 63)) ||| (((xs (4 * cc + 2)).toInt64) &&& 4294967295) = lL X := ⟨_, UInt64.toNat_lt _, lL_of _⟩
  rw [hy]
  refine got_I (run_i hx hb hml hown hT hK hl.1 (k_X6_put l G z n (M 6) X hX hn) (cw_L_101 hT ⟨Nat.le_of_ble_eq_true rfl, Nat.le_of_ble_eq_true rfl⟩) hZ.1.1 rfl ⟨hZ.1.1, hRd.2⟩ rfl rfl (Nat.le_of_ble_eq_true rfl) dL_law_708 hr0) hS (fun q (hq : _ ∧ _) => show s.heap.size ≤ q from by omega) (fun q (hq : _ ∧ _) => show s.heap.size ≤ q from by omega) (fun v_1 H locs h1 hz hk hS => ?_)
  obtain ⟨hv1, hTe, hPd⟩ := h1
  have hot := hRd.1.top
  have hZ := hZ.rd hsl hk (fun q (hq : _ ∧ _) => by omega) ⟨N1, u1, j1, kd1, hRd.1.kept (fun q _ _ => hk q (by omega) (fun (w : _ ∧ _) => by omega)), hPd⟩
  refine lv_aload_n hx hb dL_law_711 rfl (lv_at hl 1 rfl) ?_
  refine lv_aload_n hx hb dL_law_712 rfl (lv_at hl 3 rfl) ?_
  refine lv_iload_n hx hb dL_law_713 rfl (lv_at hl 0 rfl) ?_
  refine lv_iconst (v := 1) hx hb dL_law_714 (by decide) ?_
  refine lv_iadd hx hb dL_law_715 ?_
  refine r_scr hx hb hXs hbl hS (4 * cc + 1) (by rw [show (1 : Int32) = nI 1 from by decide]; exact ix_add) (by omega) hL2 dL_law_716 ?_
  refine lv_i2l hx hb dL_law_717 rfl ?_
  refine lv_bipush (v := 32) hx hb dL_law_718 (by decide) ?_
  refine lv_lshl hx hb dL_law_720 rfl ?_
  refine lv_aload_n hx hb dL_law_721 rfl (lv_at hl 3 rfl) ?_
  refine lv_iload_n hx hb dL_law_722 rfl (lv_at hl 0 rfl) ?_
  refine lv_iconst (v := 2) hx hb dL_law_723 (by decide) ?_
  refine lv_iadd hx hb dL_law_724 ?_
  refine r_scr hx hb hXs hbl hS (4 * cc + 2) (by rw [show (2 : Int32) = nI 2 from by decide]; exact ix_add) (by omega) hL2 dL_law_725 ?_
  refine lv_i2l hx hb dL_law_726 rfl ?_
  refine lv_ldc2 hx hb hown (hT _ mk_L_23) dL_law_727 ?_
  refine lv_land hx hb dL_law_730 ?_
  refine lv_lor hx hb dL_law_731 ?_
  rw [hy]
  refine got_I (run_i hx hb hml hown hT hK hl.1 (k_X7_put l G (z + 197) M n X hX hn h7) (cw_L_105 hT ⟨Nat.le_of_ble_eq_true rfl, Nat.le_of_ble_eq_true rfl⟩) hZ.2.2.2.2.1 rfl hZ.2.2.2.2 rfl rfl (Nat.le_of_ble_eq_true rfl) dL_law_732 hr0) hS (fun q (hq : _ ∧ _) => show s.heap.size ≤ q from by omega) (fun q (hq : _ ∧ _) => show s.heap.size ≤ q from by omega) (fun v_2 H locs h1 hz hk hS => ?_)
  obtain ⟨hv2, M2, hP, hP6, hP7, hM⟩ := h1
  have hZ := hZ.md hsl hk hM
  have hvv : v_1 = v_2 := hv1.trans hv2.symm
  have hfin : LI G z (cc + 1) _ := ⟨M2, T, nx, kp, puN n X, sl, (hR.same (hP 0 (by omega) (by omega) (by omega)) (hP 1 (by omega) (by omega) (by omega)) (hP 3 (by omega) (by omega) (by omega)) (hP 4 (by omega) (by omega) (by omega)) (by rw [(hP 5 (by omega) (by omega) (by omega))]) hP7 (puN_le hn)).s, by rw [(hP 0 (by omega) (by omega) (by omega)), (hP 3 (by omega) (by omega) (by omega)), hP6]; exact hZ⟩
  exact lv_icmp_eq (tgt := 838) hx hb dL_law_735 (by decide) (fun c1 => kk _ _ hS hfin) (fun c1 => absurd hvv c1)

set_option maxHeartbeats 4000000 in
set_option maxRecDepth 100000 in
theorem law_21 (hx : p.tables.exec = Jvm.exec) (hb : c.code = cL_law) (hml : c.maxLocals = 4) (hown : s.vm.findClass RL = some m.cls) (hT : ∀ w ∈ lw_good, w.before args s = true) (hK : Kn G s) (hz0 : s.heap.size ≤ z) (hbl : b < s.heap.size) (hXs : va_X b L xs s s.heap) (hXr : SxR ad tv (fun q => s.heap.size ≤ q) s) (hXl : SxL t3 (fun q => s.heap.size ≤ q) s) (hXc : SxC t4 (fun q => s.heap.size ≤ q) s) (hL2 : L ≤ 2048) {cc : Nat} {H : Heap} {locs : List Loc} {cells slots : Nat} {ls : Array Slot} (hI : LI G z cc H) (hS : va_S (fun q => s.heap.size ≤ q) s.heap H locs) (hcc : cc < 512) (hL : 4 * cc + 4 ≤ L) (hr0 : cells + 0 ≤ room_1.cells ∧ slots + 0 ≤ room_1.slots) (hl : lv_has ls 4 [(3, .int (nI (4 * cc))), (2, .ref (z + 197)), (1, .ref z), (0, .ref b)]) (kk : ∀ (H1 : Heap) (locs1 : List Loc), va_S (fun q => s.heap.size ≤ q) s.heap H1 locs1 → LI G z (cc + 1) H1 → W p l e room_1 s m args below meth c H1 locs1 cells slots Q (F0 m 838 ls [])) : W p l e room_1 s m args below meth c H locs cells slots Q (F0 m 740 ls []) := by
  obtain ⟨M, T, nx, kp, n, sl, hR, hZ⟩ := hI
  have hsl := hR.sl
  have hnx := hR.1.1
  have hkp := hR.1.2.1
  have hn := hR.1.2.2
  have hg := hR.2.2.1
  have hv := hg.1
  have hw := hv.1
  have h5 := hR.2.1.1
  have h7 := hR.2.1.2
  obtain ⟨N1, u1, j1, kd1, hRd⟩ := hZ.2.2.1
  refine lv_aload_n hx hb dL_law_740 rfl (lv_at hl 2 rfl) ?_
  refine got_I (run_i hx hb hml hown hT hK hl.1 (k_X6_wipe l G z n (M 6)) (cw_L_106 hT ⟨Nat.le_of_ble_eq_true rfl, Nat.le_of_ble_eq_true rfl⟩) hZ.1.1 rfl ⟨hZ.1.1, hRd.2⟩ rfl rfl (Nat.le_of_ble_eq_true rfl) dL_law_741 hr0) hS (fun q (hq : _ ∧ _) => show s.heap.size ≤ q from by omega) (fun q (hq : _ ∧ _) => show s.heap.size ≤ q from by omega) (fun v_1 H locs h1 hz hk hS => ?_)
  obtain ⟨hv1, hTe, hPd⟩ := h1
  have hot := hRd.1.top
  have hPd : PadAt G (z + 164) (M 6) (nI 0) H := hPd
  have hZ := hZ.rd hsl hk (fun q (hq : _ ∧ _) => by omega) ⟨N1, u1, j1, kd1, hRd.1.kept (fun q _ _ => hk q (by omega) (fun (w : _ ∧ _) => by omega)), hPd⟩
  refine lv_aload_n hx hb dL_law_744 rfl (lv_at hl 1 rfl) ?_
  refine got_I (run_i hx hb hml hown hT hK hl.1 (k_X7_wipe l G (z + 197) M) (cw_L_109 hT ⟨Nat.le_of_ble_eq_true rfl, Nat.le_of_ble_eq_true rfl⟩) hZ.2.2.2.2.1 rfl hZ.2.2.2.2 rfl rfl (Nat.le_of_ble_eq_true rfl) dL_law_745 hr0) hS (fun q (hq : _ ∧ _) => show s.heap.size ≤ q from by omega) (fun q (hq : _ ∧ _) => show s.heap.size ≤ q from by omega) (fun v_2 H locs h1 hz hk hS => ?_)
  obtain ⟨hv2, hM⟩ := h1
  have hZ := hZ.md hsl hk hM
  have hvv : v_1 = v_2 := hv1.trans (h7.symm.trans hv2.symm)
  have hfin : LI G z (cc + 1) _ := ⟨updM M 7 (fun _ => 0), T, nx, kp, 0, sl, (hR.same (M2 := updM M 7 (fun _ => 0)) rfl rfl rfl rfl rfl rfl (Nat.zero_le _)).s, hZ⟩
  exact lv_icmp_eq (tgt := 838) hx hb dL_law_748 (by decide) (fun c1 => kk _ _ hS hfin) (fun c1 => absurd hvv c1)

set_option maxHeartbeats 4000000 in
set_option maxRecDepth 100000 in
theorem law_22 (hx : p.tables.exec = Jvm.exec) (hb : c.code = cL_law) (hml : c.maxLocals = 4) (hown : s.vm.findClass RL = some m.cls) (hT : ∀ w ∈ lw_good, w.before args s = true) (hK : Kn G s) (hz0 : s.heap.size ≤ z) (hbl : b < s.heap.size) (hXs : va_X b L xs s s.heap) (hXr : SxR ad tv (fun q => s.heap.size ≤ q) s) (hXl : SxL t3 (fun q => s.heap.size ≤ q) s) (hXc : SxC t4 (fun q => s.heap.size ≤ q) s) (hL2 : L ≤ 2048) {cc : Nat} {H : Heap} {locs : List Loc} {cells slots : Nat} {ls : Array Slot} (hI : LI G z cc H) (hS : va_S (fun q => s.heap.size ≤ q) s.heap H locs) (hcc : cc < 512) (hL : 4 * cc + 4 ≤ L) (hr0 : cells + 0 ≤ room_1.cells ∧ slots + 0 ≤ room_1.slots) (hl : lv_has ls 4 [(3, .int (nI (4 * cc))), (2, .ref (z + 197)), (1, .ref z), (0, .ref b)]) (kk : ∀ (H1 : Heap) (locs1 : List Loc), va_S (fun q => s.heap.size ≤ q) s.heap H1 locs1 → LI G z (cc + 1) H1 → W p l e room_1 s m args below meth c H1 locs1 cells slots Q (F0 m 838 ls [])) : W p l e room_1 s m args below meth c H locs cells slots Q (F0 m 753 ls []) := by
  obtain ⟨M, T, nx, kp, n, sl, hR, hZ⟩ := hI
  have hsl := hR.sl
  have hnx := hR.1.1
  have hkp := hR.1.2.1
  have hn := hR.1.2.2
  have hg := hR.2.2.1
  have hv := hg.1
  have hw := hv.1
  have h5 := hR.2.1.1
  have h7 := hR.2.1.2
  obtain ⟨N1, u1, j1, kd1, hRd⟩ := hZ.2.2.1
  refine lv_aload_n hx hb dL_law_753 rfl (lv_at hl 2 rfl) ?_
  refine got_I (run_ix SB_SxR (fun U hU hW => hXr.call hS (fun q (hq : _ ∧ _) => show s.heap.size ≤ q from by omega) hU hW) hx hb hml hown hT hK hl.1 (k_X6_fault l G z (M 6) n N1 u1 j1 kd1 ad tv hn) (cw_L_110 hT ⟨Nat.le_of_ble_eq_true rfl, Nat.le_of_ble_eq_true rfl⟩) hZ.1.1 rfl ⟨hZ.1.1, hRd⟩ rfl rfl (Nat.le_of_ble_eq_true rfl) dL_law_754 hr0) hS (fun q (hq : _ ∧ _) => show s.heap.size ≤ q from by omega) (fun q (hq : _ ∧ _) => show s.heap.size ≤ q from by omega) (fun v_1 H locs h1 hz hk hS => ?_)
  obtain ⟨hv1, hTe, j2, k2, hRd2⟩ := h1
  have hZ := hZ.rd hsl hk (fun q (hq : _ ∧ _) => by omega) ⟨_, _, j2, k2, hRd2⟩
  rw [(wlA_ind (N2 := M 10)).1, (wlA_ind (N2 := M 10)).2] at hv1
  refine lv_aload_n hx hb dL_law_757 rfl (lv_at hl 1 rfl) ?_
  refine got_I (run_i hx hb hml hown hT hK hl.1 (k_X7_fault l G (z + 197) M n hn h7) (cw_L_113 hT ⟨Nat.le_of_ble_eq_true rfl, Nat.le_of_ble_eq_true rfl⟩) hZ.2.2.2.2.1 rfl hZ.2.2.2.2 rfl rfl (Nat.le_of_ble_eq_true rfl) dL_law_758 hr0) hS (fun q (hq : _ ∧ _) => show s.heap.size ≤ q from by omega) (fun q (hq : _ ∧ _) => show s.heap.size ≤ q from by omega) (fun v_2 H locs h1 hz hk hS => ?_)
  obtain ⟨hv2, hM⟩ := h1
  have hZ := hZ.md hsl hk hM
  have hvv : v_1 = v_2 := hv1.trans hv2.symm
  have hfin : LI G z (cc + 1) _ := ⟨_, T, nx, kp, n, sl, (hR.same (M2 := RdM M (wlA (M 6) n (M 10)).2.1 (wlA (M 6) n (M 10)).2.2) rfl rfl rfl rfl rfl h7 hn).s, hZ⟩
  exact lv_icmp_eq (tgt := 838) hx hb dL_law_761 (by decide) (fun c1 => kk _ _ hS hfin) (fun c1 => absurd hvv c1)

set_option maxHeartbeats 4000000 in
set_option maxRecDepth 100000 in
theorem law_23 (hx : p.tables.exec = Jvm.exec) (hb : c.code = cL_law) (hml : c.maxLocals = 4) (hown : s.vm.findClass RL = some m.cls) (hT : ∀ w ∈ lw_good, w.before args s = true) (hK : Kn G s) (hz0 : s.heap.size ≤ z) (hbl : b < s.heap.size) (hXs : va_X b L xs s s.heap) (hXr : SxR ad tv (fun q => s.heap.size ≤ q) s) (hXl : SxL t3 (fun q => s.heap.size ≤ q) s) (hXc : SxC t4 (fun q => s.heap.size ≤ q) s) (hL2 : L ≤ 2048) {cc : Nat} {H : Heap} {locs : List Loc} {cells slots : Nat} {ls : Array Slot} (hI : LI G z cc H) (hS : va_S (fun q => s.heap.size ≤ q) s.heap H locs) (hcc : cc < 512) (hL : 4 * cc + 4 ≤ L) (hr0 : cells + 0 ≤ room_1.cells ∧ slots + 0 ≤ room_1.slots) (hl : lv_has ls 4 [(3, .int (nI (4 * cc))), (2, .ref (z + 197)), (1, .ref z), (0, .ref b)]) (kk : ∀ (H1 : Heap) (locs1 : List Loc), va_S (fun q => s.heap.size ≤ q) s.heap H1 locs1 → LI G z (cc + 1) H1 → W p l e room_1 s m args below meth c H1 locs1 cells slots Q (F0 m 838 ls [])) : W p l e room_1 s m args below meth c H locs cells slots Q (F0 m 766 ls []) := by
  obtain ⟨M, T, nx, kp, n, sl, hR, hZ⟩ := hI
  have hsl := hR.sl
  have hnx := hR.1.1
  have hkp := hR.1.2.1
  have hn := hR.1.2.2
  have hg := hR.2.2.1
  have hv := hg.1
  have hw := hv.1
  have h5 := hR.2.1.1
  have h7 := hR.2.1.2
  obtain ⟨N1, u1, j1, kd1, hRd⟩ := hZ.2.2.1
  refine lv_aload_n hx hb dL_law_766 rfl (lv_at hl 2 rfl) ?_
  refine got_I (run_ix SB_SxR (fun U hU hW => hXr.call hS (fun q (hq : (_ ∧ _) ∧ _) => show s.heap.size ≤ q from by omega) hU hW) hx hb hml hown hT hK hl.1 (k_X6_carryOut l G z nx kp (M 0) T (M 6) n N1 u1 j1 kd1 ad tv hnx hkp hn hv) (cw_L_114 hT ⟨Nat.le_of_ble_eq_true rfl, Nat.le_of_ble_eq_true rfl⟩) hZ.1.1 rfl ⟨hZ.1, hRd⟩ rfl rfl (Nat.le_of_ble_eq_true rfl) dL_law_767 hr0) hS (fun q (hq : (_ ∧ _) ∧ _) => show s.heap.size ≤ q from by omega) (fun q (hq : (_ ∧ _) ∧ _) => show s.heap.size ≤ q from by omega) (fun v_1 H locs h1 hz hk hS => ?_)
  rw [(wlA_ind (N2 := M 10)).1] at h1
  rcases h1 with ⟨hw1, hv1, h3, hRd2⟩ | ⟨hw1, hv1, h3, hRd2⟩
  · have hZ := hZ.ca hsl hk h3 hRd2
    refine lv_aload_n hx hb dL_law_770 rfl (lv_at hl 1 rfl) ?_
    refine got_I (run_i hx hb hml hown hT hK hl.1 (k_X7_carryOut l G (z + 197) M n kp Iv hn h7 h5 hkp hv (fun r h => h.1) (fun r y N h => Iv_op h y N)) (cw_L_117 hT ⟨Nat.le_of_ble_eq_true rfl, Nat.le_of_ble_eq_true rfl⟩) hZ.2.2.2.2.1 rfl hZ.2.2.2.2 rfl rfl (Nat.le_of_ble_eq_true rfl) dL_law_771 hr0) hS (fun q (hq : _ ∧ _) => show s.heap.size ≤ q from by omega) (fun q (hq : _ ∧ _) => show s.heap.size ≤ q from by omega) (fun v_2 H locs h1 hz hk hS => ?_)
    rcases h1 with ⟨hw2, hv2, hM⟩ | ⟨hw2, hv2, M2, hP, hM⟩
    · have hZ := hZ.md hsl hk hM
      have hvv : v_1 = v_2 := hv1.trans hv2.symm
      have hfin : LI G z (cc + 1) _ := ⟨_, T, nx, kp, n, sl, (hR.same (M2 := RdM M (wlA (M 6) n (M 10)).2.1 (wlA (M 6) n (M 10)).2.2) rfl rfl rfl rfl rfl h7 hn).s, hZ⟩
      exact lv_icmp_eq (tgt := 838) hx hb dL_law_774 (by decide) (fun c1 => kk _ _ hS hfin) (fun c1 => absurd hvv c1)
    · exact absurd (hw1.symm.trans hw2) (by decide)
  · have hZ := hZ.ca hsl hk h3 hRd2
    refine lv_aload_n hx hb dL_law_770 rfl (lv_at hl 1 rfl) ?_
    refine got_I (run_i hx hb hml hown hT hK hl.1 (k_X7_carryOut l G (z + 197) M n kp Iv hn h7 h5 hkp hv (fun r h => h.1) (fun r y N h => Iv_op h y N)) (cw_L_117 hT ⟨Nat.le_of_ble_eq_true rfl, Nat.le_of_ble_eq_true rfl⟩) hZ.2.2.2.2.1 rfl hZ.2.2.2.2 rfl rfl (Nat.le_of_ble_eq_true rfl) dL_law_771 hr0) hS (fun q (hq : _ ∧ _) => show s.heap.size ≤ q from by omega) (fun q (hq : _ ∧ _) => show s.heap.size ≤ q from by omega) (fun v_3 H locs h1 hz hk hS => ?_)
    rcases h1 with ⟨hw2, hv2, hM⟩ | ⟨hw2, hv2, M2, hP, hM⟩
    · exact absurd (hw1.symm.trans hw2) (by decide)
    · have hZ := hZ.md hsl hk hM
      rw [cR_of.1, cR_of.2] at hP
      rw [cR_of.2] at hv2
      have hcnt : (cR (M 6) n 81 0 (M 0) 0).2 ≤ 81 := by
        have := caF_cnt (T := M 6) (n := n) 81 true 0 (fun _ => 0) (M 0) 0
        exact this
      have hgc : Good (cc + 1) (cR (M 6) n 81 0 (M 0) 0).1 := hg.ca hcc hn
      generalize hcr : cR (M 6) n 81 0 (M 0) 0 = CR at hP hv1 hv2 hcnt hgc hZ
      obtain ⟨p0, p1, p5, p3, p4, p6, p7, -⟩ := hP
      have hnn : ¬ nI CR.2 < 0 := nI_pos (by omega)
      have hvv : v_1 = v_3 := hv1.trans hv2.symm
      have hfin : LI G z (cc + 1) _ := ⟨M2, _, _, _, 0, sl, hR.push (op := (nI CR.2, CR.1)) hgc p0 (p1.trans (if_neg hnn).symm) (p5.trans (congrArg nI (if_neg hnn).symm)) p3 p4 p7 (Nat.zero_le _), by rw [p0, p3, p6]; exact hZ⟩
      exact lv_icmp_eq (tgt := 838) hx hb dL_law_774 (by decide) (fun c1 => kk _ _ hS hfin) (fun c1 => absurd hvv c1)

set_option maxHeartbeats 4000000 in
set_option maxRecDepth 100000 in
theorem law_24 (hx : p.tables.exec = Jvm.exec) (hb : c.code = cL_law) (hml : c.maxLocals = 4) (hown : s.vm.findClass RL = some m.cls) (hT : ∀ w ∈ lw_good, w.before args s = true) (hK : Kn G s) (hz0 : s.heap.size ≤ z) (hbl : b < s.heap.size) (hXs : va_X b L xs s s.heap) (hXr : SxR ad tv (fun q => s.heap.size ≤ q) s) (hXl : SxL t3 (fun q => s.heap.size ≤ q) s) (hXc : SxC t4 (fun q => s.heap.size ≤ q) s) (hL2 : L ≤ 2048) {cc : Nat} {H : Heap} {locs : List Loc} {cells slots : Nat} {ls : Array Slot} (hI : LI G z cc H) (hS : va_S (fun q => s.heap.size ≤ q) s.heap H locs) (hcc : cc < 512) (hL : 4 * cc + 4 ≤ L) (hr0 : cells + 0 ≤ room_1.cells ∧ slots + 0 ≤ room_1.slots) (hl : lv_has ls 4 [(3, .int (nI (4 * cc))), (2, .ref (z + 197)), (1, .ref z), (0, .ref b)]) (kk : ∀ (H1 : Heap) (locs1 : List Loc), va_S (fun q => s.heap.size ≤ q) s.heap H1 locs1 → LI G z (cc + 1) H1 → W p l e room_1 s m args below meth c H1 locs1 cells slots Q (F0 m 838 ls [])) : W p l e room_1 s m args below meth c H locs cells slots Q (F0 m 779 ls []) := by
  obtain ⟨M, T, nx, kp, n, sl, hR, hZ⟩ := hI
  have hsl := hR.sl
  have hnx := hR.1.1
  have hkp := hR.1.2.1
  have hn := hR.1.2.2
  have hg := hR.2.2.1
  have hv := hg.1
  have hw := hv.1
  have h5 := hR.2.1.1
  have h7 := hR.2.1.2
  refine lv_aload_n hx hb dL_law_779 rfl (lv_at hl 2 rfl) ?_
  refine got_I (run_i hx hb hml hown hT hK hl.1 (k_X6_undo l G z nx kp (M 0) T hnx hkp) (cw_L_118 hT ⟨Nat.le_of_ble_eq_true rfl, Nat.le_of_ble_eq_true rfl⟩) hZ.1.1 rfl hZ.1 rfl rfl (Nat.le_of_ble_eq_true rfl) dL_law_780 hr0) hS (fun q (hq : _ ∧ _) => show s.heap.size ≤ q from by omega) (fun q (hq : _ ∧ _) => show s.heap.size ≤ q from by omega) (fun v_1 H locs h1 hz hk hS => ?_)
  rcases h1 with ⟨hw1, hv1, h3⟩ | ⟨hw1, hv1, h3⟩
  · have hZ := hZ.face hsl hk h3
    refine lv_aload_n hx hb dL_law_783 rfl (lv_at hl 1 rfl) ?_
    refine got_I (run_i hx hb hml hown hT hK hl.1 (k_X7_undo l G (z + 197) M kp h5 hkp) (cw_L_121 hT ⟨Nat.le_of_ble_eq_true rfl, Nat.le_of_ble_eq_true rfl⟩) hZ.2.2.2.2.1 rfl hZ.2.2.2.2 rfl rfl (Nat.le_of_ble_eq_true rfl) dL_law_784 hr0) hS (fun q (hq : _ ∧ _) => show s.heap.size ≤ q from by omega) (fun q (hq : _ ∧ _) => show s.heap.size ≤ q from by omega) (fun v_2 H locs h1 hz hk hS => ?_)
    rcases h1 with ⟨hw2, hv2, hM⟩ | ⟨hw2, hv2, M2, hP, hM⟩
    · have hZ := hZ.md hsl hk hM
      have hvv : v_1 = v_2 := hv1.trans hv2.symm
      have hfin : LI G z (cc + 1) _ := ⟨M, T, nx, kp, n, sl, hR.s, hZ⟩
      exact lv_icmp_eq (tgt := 838) hx hb dL_law_787 (by decide) (fun c1 => kk _ _ hS hfin) (fun c1 => absurd hvv c1)
    · omega
  · have hZ := hZ.face hsl hk h3
    refine lv_aload_n hx hb dL_law_783 rfl (lv_at hl 1 rfl) ?_
    refine got_I (run_i hx hb hml hown hT hK hl.1 (k_X7_undo l G (z + 197) M kp h5 hkp) (cw_L_121 hT ⟨Nat.le_of_ble_eq_true rfl, Nat.le_of_ble_eq_true rfl⟩) hZ.2.2.2.2.1 rfl hZ.2.2.2.2 rfl rfl (Nat.le_of_ble_eq_true rfl) dL_law_784 hr0) hS (fun q (hq : _ ∧ _) => show s.heap.size ≤ q from by omega) (fun q (hq : _ ∧ _) => show s.heap.size ≤ q from by omega) (fun v_3 H locs h1 hz hk hS => ?_)
    rcases h1 with ⟨hw2, hv2, hM⟩ | ⟨hw2, hv2, M2, hP, hM⟩
    · omega
    · have hZ := hZ.md hsl hk hM
      obtain ⟨hR2, hrow⟩ := hR.undo hw1 hP
      obtain ⟨u0, u1, u5, u3, u4, u6, u7⟩ := hP
      obtain ⟨z1, z2, z3, z4, z5⟩ := hZ
      have hvv : v_1 = v_3 := hv1.trans hv2.symm
      have hfin : LI G z (cc + 1) _ := ⟨M2, T, _, _, n, sl, hR2, z1.ext hrow, by rw [u3]; exact z2, by rw [u6]; exact z3, z4, z5⟩
      exact lv_icmp_eq (tgt := 838) hx hb dL_law_787 (by decide) (fun c1 => kk _ _ hS hfin) (fun c1 => absurd hvv c1)

set_option maxHeartbeats 4000000 in
set_option maxRecDepth 100000 in
theorem law_25 (hx : p.tables.exec = Jvm.exec) (hb : c.code = cL_law) (hml : c.maxLocals = 4) (hown : s.vm.findClass RL = some m.cls) (hT : ∀ w ∈ lw_good, w.before args s = true) (hK : Kn G s) (hz0 : s.heap.size ≤ z) (hbl : b < s.heap.size) (hXs : va_X b L xs s s.heap) (hXr : SxR ad tv (fun q => s.heap.size ≤ q) s) (hXl : SxL t3 (fun q => s.heap.size ≤ q) s) (hXc : SxC t4 (fun q => s.heap.size ≤ q) s) (hL2 : L ≤ 2048) {cc : Nat} {H : Heap} {locs : List Loc} {cells slots : Nat} {ls : Array Slot} (hI : LI G z cc H) (hS : va_S (fun q => s.heap.size ≤ q) s.heap H locs) (hcc : cc < 512) (hL : 4 * cc + 4 ≤ L) (hr0 : cells + 20 ≤ room_1.cells ∧ slots + 101 ≤ room_1.slots) (hl : lv_has ls 4 [(3, .int (nI (4 * cc))), (2, .ref (z + 197)), (1, .ref z), (0, .ref b)]) (kk : ∀ (H1 : Heap) (locs1 : List Loc), va_S (fun q => s.heap.size ≤ q) s.heap H1 locs1 → LI G z (cc + 1) H1 → W p l e room_1 s m args below meth c H1 locs1 (cells + 20) (slots + 101) Q (F0 m 838 ls [])) : W p l e room_1 s m args below meth c H locs cells slots Q (F0 m 792 ls []) := by
  obtain ⟨M, T, nx, kp, n, sl, hR, hZ⟩ := hI
  have hsl := hR.sl
  have hnx := hR.1.1
  have hkp := hR.1.2.1
  have hn := hR.1.2.2
  have hg := hR.2.2.1
  have hv := hg.1
  have hw := hv.1
  have h5 := hR.2.1.1
  have h7 := hR.2.1.2
  refine lv_aload_n hx hb dL_law_792 rfl (lv_at hl 2 rfl) ?_
  refine lv_aload_n hx hb dL_law_793 rfl (lv_at hl 3 rfl) ?_
  refine lv_iload_n hx hb dL_law_794 rfl (lv_at hl 0 rfl) ?_
  refine lv_iconst (v := 1) hx hb dL_law_795 (by decide) ?_
  refine lv_iadd hx hb dL_law_796 ?_
  refine r_scr hx hb hXs hbl hS (4 * cc + 1) (by rw [show (1 : Int32) = nI 1 from by decide]; exact ix_add) (by omega) hL2 dL_law_797 ?_
  have hmt := hZ.2.2.2.2.top
  refine got_I (run_ix SB_SxC (fun U hU hW => hXc.call hS (fun q hq => svA_ge (z := z) (by omega) (by omega) hsl hq) hU hW) hx hb hml hown hT hK hl.1 (k_X6_save l G z H.size (M 0) sl (fun j k => M 3 (82 * j + k)) (xs (4 * cc + 1)) t4 (by omega) (fun j q hj hq => by have := hsl j q hj hq; omega) hR.2.2.2.2.2) (cw_L_122 hT ⟨Nat.le_of_ble_eq_true rfl, Nat.le_of_ble_eq_true rfl⟩) hZ.1.1 rfl ⟨⟨hZ.1.1, hZ.1.2.1⟩, hZ.2.1, rfl⟩ rfl rfl (Nat.le_of_ble_eq_true rfl) dL_law_798 hr0) hS (fun q hq => svA_ge (z := z) (by omega) (by omega) hsl hq) (fun q hq => svA_ge (z := z) (by omega) (by omega) hsl hq) (fun v_1 H locs h1 hz hk hS => ?_)
  rcases h1 with ⟨hw1, hv1, h3⟩ | ⟨j, hj, hw1, hv1, q, hq, h3⟩
  · have hZs := hZ.2.1
    have hZ := hZ.sv hsl hk h3
    refine lv_aload_n hx hb dL_law_801 rfl (lv_at hl 1 rfl) ?_
    refine lv_aload_n hx hb dL_law_802 rfl (lv_at hl 3 rfl) ?_
    refine lv_iload_n hx hb dL_law_803 rfl (lv_at hl 0 rfl) ?_
    refine lv_iconst (v := 1) hx hb dL_law_804 (by decide) ?_
    refine lv_iadd hx hb dL_law_805 ?_
    refine r_scr hx hb hXs hbl hS (4 * cc + 1) (by rw [show (1 : Int32) = nI 1 from by decide]; exact ix_add) (by omega) hL2 dL_law_806 ?_
    refine got_I (run_i hx hb hml hown hT hK hl.1 (k_X7_save l G (z + 197) M (xs (4 * cc + 1))) (cw_L_125 hT ⟨Nat.le_of_ble_eq_true rfl, Nat.le_of_ble_eq_true rfl⟩) hZ.2.2.2.2.1 rfl hZ.2.2.2.2 rfl rfl (Nat.le_of_ble_eq_true rfl) dL_law_807 ⟨hr0.1, hr0.2⟩) hS (fun q (hq : _ ∧ _) => show s.heap.size ≤ q from by omega) (fun q (hq : _ ∧ _) => show s.heap.size ≤ q from by omega) (fun v_2 H locs h1 hz hk hS => ?_)
    rcases h1 with ⟨hw2, hv2, hM⟩ | ⟨j2, hj2, hw2, hv2, M2, hP, hM⟩
    · have hZ := hZ.md hsl hk hM
      have hvv : v_1 = v_2 := hv1.trans hv2.symm
      have hfin : LI G z (cc + 1) _ := ⟨M, T, nx, kp, n, sl, hR.s, hZ⟩
      exact lv_icmp_eq (tgt := 838) hx hb dL_law_810 (by decide) (fun c1 => kk _ _ hS hfin) (fun c1 => absurd hvv c1)
    · exact absurd (sv_in hj2 hw2) hw1
  · have hZs := hZ.2.1
    have hZ := hZ.sv hsl hk h3
    refine lv_aload_n hx hb dL_law_801 rfl (lv_at hl 1 rfl) ?_
    refine lv_aload_n hx hb dL_law_802 rfl (lv_at hl 3 rfl) ?_
    refine lv_iload_n hx hb dL_law_803 rfl (lv_at hl 0 rfl) ?_
    refine lv_iconst (v := 1) hx hb dL_law_804 (by decide) ?_
    refine lv_iadd hx hb dL_law_805 ?_
    refine r_scr hx hb hXs hbl hS (4 * cc + 1) (by rw [show (1 : Int32) = nI 1 from by decide]; exact ix_add) (by omega) hL2 dL_law_806 ?_
    refine got_I (run_i hx hb hml hown hT hK hl.1 (k_X7_save l G (z + 197) M (xs (4 * cc + 1))) (cw_L_125 hT ⟨Nat.le_of_ble_eq_true rfl, Nat.le_of_ble_eq_true rfl⟩) hZ.2.2.2.2.1 rfl hZ.2.2.2.2 rfl rfl (Nat.le_of_ble_eq_true rfl) dL_law_807 ⟨hr0.1, hr0.2⟩) hS (fun q (hq : _ ∧ _) => show s.heap.size ≤ q from by omega) (fun q (hq : _ ∧ _) => show s.heap.size ≤ q from by omega) (fun v_3 H locs h1 hz hk hS => ?_)
    rcases h1 with ⟨hw2, hv2, hM⟩ | ⟨j2, hj2, hw2, hv2, M2, hP, hM⟩
    · exact absurd (sv_in hj hw1) hw2
    · have hjj : j2 = j := sv_eq hj2 hj (hw2.symm.trans hw1)
      subst hjj
      have hqz : z + 210 ≤ q := by
        rcases hq with hq | ⟨-, hq⟩
        · exact hsl _ _ hj hq
        · omega
      have hdd : ∀ i q2, i < 2 → i ≠ j2 → sl i = some q2 → q + 20 ≤ q2 ∨ q2 + 20 ≤ q := fun i q2 hi hij hq2 => by
        rcases hq with hq | ⟨-, hq⟩
        · have e : (i = 0 ∧ j2 = 1) ∨ (i = 1 ∧ j2 = 0) := by omega
          rcases e with ⟨rfl, rfl⟩ | ⟨rfl, rfl⟩
          · have := hR.2.2.2.2.2 q2 q hq2 hq; omega
          · exact hR.2.2.2.2.2 q q2 hq hq2
        · have := (hZs.2 i q2 hi hq2).top
          omega
      have hR2 := hR.save hj hP hqz hdd
      have hZ := hZ.md hR2.sl hk hM
      obtain ⟨u0, u1, u5, u3, u4, u6, u7⟩ := hP
      obtain ⟨z1, z2, z3, z4, z5⟩ := hZ
      have hvv : v_1 = v_3 := hv1.trans hv2.symm
      have hfin : LI G z (cc + 1) _ := ⟨M2, T, nx, kp, n, _, hR2, by rw [u0]; exact z1, z2.ext (fun i hi k hk => by rw [u3]; exact sv_row hj hi hk), by rw [u6]; exact z3, z4, z5⟩
      exact lv_icmp_eq (tgt := 838) hx hb dL_law_810 (by decide) (fun c1 => kk _ _ hS hfin) (fun c1 => absurd hvv c1)

set_option maxHeartbeats 4000000 in
set_option maxRecDepth 100000 in
theorem law_26 (hx : p.tables.exec = Jvm.exec) (hb : c.code = cL_law) (hml : c.maxLocals = 4) (hown : s.vm.findClass RL = some m.cls) (hT : ∀ w ∈ lw_good, w.before args s = true) (hK : Kn G s) (hz0 : s.heap.size ≤ z) (hbl : b < s.heap.size) (hXs : va_X b L xs s s.heap) (hXr : SxR ad tv (fun q => s.heap.size ≤ q) s) (hXl : SxL t3 (fun q => s.heap.size ≤ q) s) (hXc : SxC t4 (fun q => s.heap.size ≤ q) s) (hL2 : L ≤ 2048) {cc : Nat} {H : Heap} {locs : List Loc} {cells slots : Nat} {ls : Array Slot} (hI : LI G z cc H) (hS : va_S (fun q => s.heap.size ≤ q) s.heap H locs) (hcc : cc < 512) (hL : 4 * cc + 4 ≤ L) (hr0 : cells + 0 ≤ room_1.cells ∧ slots + 0 ≤ room_1.slots) (hl : lv_has ls 4 [(3, .int (nI (4 * cc))), (2, .ref (z + 197)), (1, .ref z), (0, .ref b)]) (kk : ∀ (H1 : Heap) (locs1 : List Loc), va_S (fun q => s.heap.size ≤ q) s.heap H1 locs1 → LI G z (cc + 1) H1 → W p l e room_1 s m args below meth c H1 locs1 cells slots Q (F0 m 838 ls [])) : W p l e room_1 s m args below meth c H locs cells slots Q (F0 m 815 ls []) := by
  obtain ⟨M, T, nx, kp, n, sl, hR, hZ⟩ := hI
  have hsl := hR.sl
  have hnx := hR.1.1
  have hkp := hR.1.2.1
  have hn := hR.1.2.2
  have hg := hR.2.2.1
  have hv := hg.1
  have hw := hv.1
  have h5 := hR.2.1.1
  have h7 := hR.2.1.2
  refine lv_aload_n hx hb dL_law_815 rfl (lv_at hl 2 rfl) ?_
  refine lv_aload_n hx hb dL_law_816 rfl (lv_at hl 3 rfl) ?_
  refine lv_iload_n hx hb dL_law_817 rfl (lv_at hl 0 rfl) ?_
  refine lv_iconst (v := 1) hx hb dL_law_818 (by decide) ?_
  refine lv_iadd hx hb dL_law_819 ?_
  refine r_scr hx hb hXs hbl hS (4 * cc + 1) (by rw [show (1 : Int32) = nI 1 from by decide]; exact ix_add) (by omega) hL2 dL_law_820 ?_
  refine got_I (run_i hx hb hml hown hT hK hl.1 (k_X6_restore l G z nx kp (M 0) T sl (fun j k => M 3 (82 * j + k)) (xs (4 * cc + 1)) hnx hkp (fun j q hj hq => by have := hsl j q hj hq; omega)) (cw_L_126 hT ⟨Nat.le_of_ble_eq_true rfl, Nat.le_of_ble_eq_true rfl⟩) hZ.1.1 rfl ⟨hZ.1, hZ.2.1⟩ rfl rfl (Nat.le_of_ble_eq_true rfl) dL_law_821 hr0) hS (fun q (hq : _ ∧ _) => show s.heap.size ≤ q from by omega) (fun q (hq : _ ∧ _) => show s.heap.size ≤ q from by omega) (fun v_1 H locs h1 hz hk hS => ?_)
  rcases h1 with ⟨hw1, hv1, h3⟩ | ⟨j, hj, hw1, ⟨hs1, hv1, h3⟩ | ⟨q, hs1, hv1, h3⟩⟩
  · have hZ := hZ.face hsl hk h3
    refine lv_aload_n hx hb dL_law_824 rfl (lv_at hl 1 rfl) ?_
    refine lv_aload_n hx hb dL_law_825 rfl (lv_at hl 3 rfl) ?_
    refine lv_iload_n hx hb dL_law_826 rfl (lv_at hl 0 rfl) ?_
    refine lv_iconst (v := 1) hx hb dL_law_827 (by decide) ?_
    refine lv_iadd hx hb dL_law_828 ?_
    refine r_scr hx hb hXs hbl hS (4 * cc + 1) (by rw [show (1 : Int32) = nI 1 from by decide]; exact ix_add) (by omega) hL2 dL_law_829 ?_
    refine got_I (run_i hx hb hml hown hT hK hl.1 (k_X7_restore l G (z + 197) M kp (xs (4 * cc + 1)) h5 hkp) (cw_L_129 hT ⟨Nat.le_of_ble_eq_true rfl, Nat.le_of_ble_eq_true rfl⟩) hZ.2.2.2.2.1 rfl hZ.2.2.2.2 rfl rfl (Nat.le_of_ble_eq_true rfl) dL_law_830 hr0) hS (fun q (hq : _ ∧ _) => show s.heap.size ≤ q from by omega) (fun q (hq : _ ∧ _) => show s.heap.size ≤ q from by omega) (fun v_2 H locs h1 hz hk hS => ?_)
    rcases h1 with ⟨hw2, hv2, hM⟩ | ⟨j2, hj2, hw2, ⟨hs2, hv2, hM⟩ | ⟨hs2, hv2, M2, hP, hM⟩⟩
    · have hZ := hZ.md hsl hk hM
      have hvv : v_1 = v_2 := hv1.trans hv2.symm
      have hfin : LI G z (cc + 1) _ := ⟨M, T, nx, kp, n, sl, hR.s, hZ⟩
      exact lv_icmp_eq (tgt := 838) hx hb dL_law_833 (by decide) (fun c1 => kk _ _ hS hfin) (fun c1 => absurd hvv c1)
    · exact absurd (sv_in hj2 hw2) hw1
    · exact absurd (sv_in hj2 hw2) hw1
  · have hZ := hZ.face hsl hk h3
    refine lv_aload_n hx hb dL_law_824 rfl (lv_at hl 1 rfl) ?_
    refine lv_aload_n hx hb dL_law_825 rfl (lv_at hl 3 rfl) ?_
    refine lv_iload_n hx hb dL_law_826 rfl (lv_at hl 0 rfl) ?_
    refine lv_iconst (v := 1) hx hb dL_law_827 (by decide) ?_
    refine lv_iadd hx hb dL_law_828 ?_
    refine r_scr hx hb hXs hbl hS (4 * cc + 1) (by rw [show (1 : Int32) = nI 1 from by decide]; exact ix_add) (by omega) hL2 dL_law_829 ?_
    refine got_I (run_i hx hb hml hown hT hK hl.1 (k_X7_restore l G (z + 197) M kp (xs (4 * cc + 1)) h5 hkp) (cw_L_129 hT ⟨Nat.le_of_ble_eq_true rfl, Nat.le_of_ble_eq_true rfl⟩) hZ.2.2.2.2.1 rfl hZ.2.2.2.2 rfl rfl (Nat.le_of_ble_eq_true rfl) dL_law_830 hr0) hS (fun q (hq : _ ∧ _) => show s.heap.size ≤ q from by omega) (fun q (hq : _ ∧ _) => show s.heap.size ≤ q from by omega) (fun v_3 H locs h1 hz hk hS => ?_)
    rcases h1 with ⟨hw2, hv2, hM⟩ | ⟨j2, hj2, hw2, ⟨hs2, hv2, hM⟩ | ⟨hs2, hv2, M2, hP, hM⟩⟩
    · exact absurd (sv_in hj hw1) hw2
    · have hjj : j2 = j := sv_eq hj2 hj (hw2.symm.trans hw1)
      subst hjj
      have hZ := hZ.md hsl hk hM
      have hvv : v_1 = v_3 := hv1.trans hv2.symm
      have hfin : LI G z (cc + 1) _ := ⟨M, T, nx, kp, n, sl, hR.s, hZ⟩
      exact lv_icmp_eq (tgt := 838) hx hb dL_law_833 (by decide) (fun c1 => kk _ _ hS hfin) (fun c1 => absurd hvv c1)
    · have hjj : j2 = j := sv_eq hj2 hj (hw2.symm.trans hw1)
      subst hjj
      rcases hR.2.2.2.2.1 j2 hj with ⟨a1, a2⟩ | ⟨q, a1, a2, a3, a4⟩
      · exact absurd a2 hs2
      · rw [hs1] at a1; cases a1
  · have hZ := hZ.face hsl hk h3
    refine lv_aload_n hx hb dL_law_824 rfl (lv_at hl 1 rfl) ?_
    refine lv_aload_n hx hb dL_law_825 rfl (lv_at hl 3 rfl) ?_
    refine lv_iload_n hx hb dL_law_826 rfl (lv_at hl 0 rfl) ?_
    refine lv_iconst (v := 1) hx hb dL_law_827 (by decide) ?_
    refine lv_iadd hx hb dL_law_828 ?_
    refine r_scr hx hb hXs hbl hS (4 * cc + 1) (by rw [show (1 : Int32) = nI 1 from by decide]; exact ix_add) (by omega) hL2 dL_law_829 ?_
    refine got_I (run_i hx hb hml hown hT hK hl.1 (k_X7_restore l G (z + 197) M kp (xs (4 * cc + 1)) h5 hkp) (cw_L_129 hT ⟨Nat.le_of_ble_eq_true rfl, Nat.le_of_ble_eq_true rfl⟩) hZ.2.2.2.2.1 rfl hZ.2.2.2.2 rfl rfl (Nat.le_of_ble_eq_true rfl) dL_law_830 hr0) hS (fun q (hq : _ ∧ _) => show s.heap.size ≤ q from by omega) (fun q (hq : _ ∧ _) => show s.heap.size ≤ q from by omega) (fun v_4 H locs h1 hz hk hS => ?_)
    rcases h1 with ⟨hw2, hv2, hM⟩ | ⟨j2, hj2, hw2, ⟨hs2, hv2, hM⟩ | ⟨hs2, hv2, M2, hP, hM⟩⟩
    · exact absurd (sv_in hj hw1) hw2
    · have hjj : j2 = j := sv_eq hj2 hj (hw2.symm.trans hw1)
      subst hjj
      rcases hR.2.2.2.2.1 j2 hj with ⟨a1, a2⟩ | ⟨q, a1, a2, a3, a4⟩
      · rw [hs1] at a1; cases a1
      · exact absurd hs2 a2
    · have hjj : j2 = j := sv_eq hj2 hj (hw2.symm.trans hw1)
      subst hjj
      have hZ := hZ.md hsl hk hM
      have hgr : Good cc (fun k => M 3 (82 * j2 + k)) := by
        rcases hR.2.2.2.2.1 j2 hj with ⟨a1, a2⟩ | ⟨q, a1, a2, a3, a4⟩
        · exact absurd a2 hs2
        · exact a4
      have hrow : ∀ k, k < 82 → M 3 (82 * j2 + k) = rsR M j2 k := fun k hk => (rs_row hk).symm
      have he1 : rsR M j2 5 = M 3 (82 * j2 + 5) := rs_row (by omega)
      rw [he1] at hP hv2
      obtain ⟨p0, p1, p5, p3, p4, p6, p7⟩ := hP
      obtain ⟨z1, z2, z3, z4, z5⟩ := hZ
      have hvv : v_1 = v_4 := hv1.trans hv2.symm
      have hfin : LI G z (cc + 1) _ := ⟨M2, _, _, _, n, sl, hR.push (op := (M 3 (82 * j2 + 5), rsR M j2)) ((hgr.ext hrow).s) p0 p1 p5 p3 p4 (p7.trans h7) hn, by rw [p0]; exact z1.ext hrow, by rw [p3]; exact z2, by rw [p6]; exact z3, z4, z5⟩
      exact lv_icmp_eq (tgt := 838) hx hb dL_law_833 (by decide) (fun c1 => kk _ _ hS hfin) (fun c1 => absurd hvv c1)

end LAW
