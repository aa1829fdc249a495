/-! a shop, a history, the face, the model: their constructors -/
section MYK
variable {p : Program} {l : Launch} {e : Env} {R : Room} {s : State} {m : MethodId} {args : Array Value} {below : List Frame} {meth : Method} {c : Code} {H : Heap} {locs : List Loc} {cells slots : Nat} {Q : State → Prop}
variable {cc : ByteArray} {pc : Nat} {ls : Array Slot} {rest : List Value} {a : Nat} {G : GG} {A : Nat → Prop} {H0 : Heap}
theorem r_castI {own : String} {index n : Nat} {f : Nat → Int32} (hx : p.tables.exec = Jvm.exec) (hb : c.code = cc) (hown : s.vm.findClass own = some m.cls) (hT : ∀ w ∈ lw_good, w.before args s = true) (hlink : Cond.classLink own index "[I" ∈ lw_good) (hK : Kn G s) (h : ar G 0 a (iA n f) H) (hdg : decode cc pc = .ok (.checkcast index, 3))
    (kk : W p l e R s m args below meth c H locs cells slots Q (F0 m (pc + 3) ls (.ref a :: rest))) : W p l e R s m args below meth c H locs cells slots Q (F0 m pc ls (.ref a :: rest)) :=
  va_castA (D := G.1) hx hb hown (hT _ hlink) h.one 0 rfl (va_nm_int (hK.2 0 _ rfl).2) hdg kk
end MYK
theorem rI_lo {j : Nat} (hj : j < 3) : rI (6 + j) = 0 := by
  have h5 : j = 0 ∨ j = 1 ∨ j = 2 := by omega
  rcases h5 with rfl | rfl | rfl <;> rfl
theorem rI_hi {j : Nat} (hj : j < 3) : rI (9 + j) = 100 := by
  have h5 : j = 0 ∨ j = 1 ∨ j = 2 := by omega
  rcases h5 with rfl | rfl | rfl <;> rfl
theorem rI_st {j : Nat} (hj : j < 2) : f2I 10 7 j = rI j := by
  have h5 : j = 0 ∨ j = 1 := by omega
  rcases h5 with rfl | rfl <;> rfl
theorem rI_lf {i k : Nat} (_hk : k < 14) : rI (12 + 14 * i + k) = 0 := by
  unfold rI
  rw [if_neg (by omega), if_neg (by omega), if_neg (by omega)]
theorem HistAt.of {G : GG} {h : Nat} {T : Nat → Nat → Int32} {nx kp : Nat} {H : Heap} (h1 : ob G 0 h [.ref (h + 1), .int (nI nx), .int (nI kp)] H) (h2 : ar G 4 (h + 1) (qA 7 (fun i => some (h + 2 + 20 * i))) H) (s0 : ShopAt G (h + 2 + 20 * 0) (T 0) H) (s1 : ShopAt G (h + 2 + 20 * 1) (T 1) H) (s2 : ShopAt G (h + 2 + 20 * 2) (T 2) H) (s3 : ShopAt G (h + 2 + 20 * 3) (T 3) H) (s4 : ShopAt G (h + 2 + 20 * 4) (T 4) H) (s5 : ShopAt G (h + 2 + 20 * 5) (T 5) H) (s6 : ShopAt G (h + 2 + 20 * 6) (T 6) H) : HistAt G h T nx kp H := by
  refine ⟨h1, h2, fun i hi => ?_⟩
  have h5 : i = 0 ∨ i = 1 ∨ i = 2 ∨ i = 3 ∨ i = 4 ∨ i = 5 ∨ i = 6 := by omega
  rcases h5 with rfl | rfl | rfl | rfl | rfl | rfl | rfl <;> assumption
theorem ShopAt.of {G : GG} {b : Nat} {H : Heap} (h1 : ob G 5 b [.ref (b + 1), .ref (b + 2), .ref (b + 3), .ref (b + 4), .int 0, .int 0, .int 0, .int 0] H) (h2 : ar G 3 (b + 1) (qA 5 (fun i => some (b + 5 + 3 * i))) H) (h3 : ar G 0 (b + 2) (iA 3 (fun _ => 0)) H) (h4 : ar G 0 (b + 3) (iA 3 (fun _ => 100)) H) (h5 : ar G 0 (b + 4) (iA 2 (f2I 10 7)) H) (l0 : LeafAt G (b + 5 + 3 * 0) (fun _ => 0) H) (l1 : LeafAt G (b + 5 + 3 * 1) (fun _ => 0) H) (l2 : LeafAt G (b + 5 + 3 * 2) (fun _ => 0) H) (l3 : LeafAt G (b + 5 + 3 * 3) (fun _ => 0) H) (l4 : LeafAt G (b + 5 + 3 * 4) (fun _ => 0) H) : ShopAt G b rI H := by
  refine ⟨h1, h2, iA_ext h3 (fun j hj => (rI_lo hj).symm), iA_ext h4 (fun j hj => (rI_hi hj).symm), iA_ext h5 (fun j hj => rI_st hj), fun i hi => ?_⟩
  have hi5 : i = 0 ∨ i = 1 ∨ i = 2 ∨ i = 3 ∨ i = 4 := by omega
  have key : LeafAt G (b + 5 + 3 * i) (fun _ => 0) H := by rcases hi5 with rfl | rfl | rfl | rfl | rfl <;> assumption
  exact key.ext (fun k hk => (rI_lf hk).symm)

set_option maxHeartbeats 4000000 in
set_option maxRecDepth 100000 in
theorem k_J7_fill2 (l : Launch) (G : GG) (a n zz : Nat) (f : Nat → Int32) (v : Int32) (hn : n < 2 ^ 31) : Met l yJ7_fill_53178 (ws_ yJ7_fill_53178 cJ7_fill_53178 4 (none : Option Jvm.ClassFile.FieldType)) (rm_ 0) (PC G [.ref a, .int v] (fun H => ar G 0 a (iA n f) H ∧ H.size = zz)) (QV (fun H => ar G 0 a (iA n (fun _ => v)) H ∧ H.size = zz) (fun q => q = a)) 0 0 (fun q => q = a) := by
  refine met_q (by decide +kernel) (Nat.le_of_ble_eq_true rfl) ?_
  intro p e s m args below meth c Q hQ hx hb hr hT hown hml hlocks hnm hK ⟨hA0, hz0⟩ ls hl
  have hl : lv_has ls 4 [(0, .ref a), (1, .int v)] := hl
  have hS : va_S (fun q => q = a) s.heap s.heap [] := va_S.rf
  refine lv_iconst (v := 0) hx hb dJ7_fill_53178_0 (by decide) ?_
  refine lv_istore_n (lv' := [(2, .int 0), (0, .ref a), (1, .int v)]) hx hb dJ7_fill_53178_1 rfl hl (by decide) rfl (fun ls hl => ?_)
  refine lv_aload_n hx hb dJ7_fill_53178_2 rfl (lv_at hl 1 rfl) ?_
  refine r_alen hx hb hK hA0 rfl (v := nI n) rfl dJ7_fill_53178_3 ?_
  refine lv_istore_n (lv' := [(3, .int (nI n)), (2, .int 0), (0, .ref a), (1, .int v)]) hx hb dJ7_fill_53178_4 rfl hl (by decide) rfl (fun ls hl => ?_)
  have loop : ∀ (k : Nat) (i : Nat) (H : Heap) (locs : List Loc), va_S (fun q => q = a) s.heap H locs → i ≤ n → H.size = zz → ar G 0 a (iA n (fun j => if j < i then v else f j)) H → n - i < k → ∀ ls : Array Slot, lv_has ls 4 [(3, .int (nI n)), (2, .int (nI i)), (0, .ref a), (1, .int v)] → W p l e (rm_ 0) s m args below meth c H locs 0 0 Q (F0 m 5 ls []) := by
    intro k
    induction k with
    | zero => intro i H locs hS hi hz0 hA0 hm; exact absurd hm (Nat.not_lt_zero _)
    | succ k ih =>
      intro i H locs hS hi hz0 hA0 hm ls hl
      refine lv_iload_n hx hb dJ7_fill_53178_5 rfl (lv_at hl 1 rfl) ?_
      refine lv_iload_n hx hb dJ7_fill_53178_6 rfl (lv_at hl 0 rfl) ?_
      refine lv_icmp_ge (tgt := 20) hx hb dJ7_fill_53178_7 (by decide) (fun cd => ?_) (fun cd => ?_)
      · have hge : n ≤ i := by rw [nI_leI (by omega) (by omega)] at cd; exact cd
        exact nd_V hQ hx hb hr hlocks dJ7_fill_53178_20 hS (⟨iA_ext hA0 (fun j hj => if_pos (by omega)), hz0⟩)
      · have hlt : i < n := by rw [nI_leI (by omega) (by omega)] at cd; omega
        refine lv_aload_n hx hb dJ7_fill_53178_10 rfl (lv_at hl 2 rfl) ?_
        refine lv_iload_n hx hb dJ7_fill_53178_11 rfl (lv_at hl 1 rfl) ?_
        refine lv_iload_n hx hb dJ7_fill_53178_12 rfl (lv_at hl 3 rfl) ?_
        refine r_iast hx hb hK hA0 i rfl hlt hn hS rfl dJ7_fill_53178_13 (fun H locs h1 o hS => ?_)
        have hz0 := o.1.trans hz0
        have hA0 : ar G 0 a (iA n (fun j => if j < i + 1 then v else f j)) H := iA_ext h1 (fun j hj => by
          simp only [upd]
          by_cases q : j = i
          · rw [if_pos q, if_pos (by omega)]
          · rw [if_neg q]
            by_cases q2 : j < i
            · rw [if_pos q2, if_pos (by omega)]
            · rw [if_neg q2, if_neg (by omega)])
        refine lv_iinc (v := nI (i + 1)) (lv' := [(2, .int (nI (i + 1))), (3, .int (nI n)), (0, .ref a), (1, .int v)]) hx hb dJ7_fill_53178_14 hl (k := 1) rfl (nI_1 i) (by decide) rfl (fun ls hl => ?_)
        refine lv_goto (tgt := 5) hx hb dJ7_fill_53178_17 (by decide) ?_
        exact ih (i + 1) _ _ hS (by omega) hz0 hA0 (by omega) ls (lv_sub hl [1, 0, 2, 3] rfl)
  exact loop (n + 1) 0 _ _ hS (Nat.zero_le _) hz0 (iA_ext hA0 (fun j hj => (if_neg (Nat.not_lt_zero _)).symm)) (by omega) ls (lv_sub hl [0, 1, 2, 3] rfl)

set_option maxHeartbeats 4000000 in
set_option maxRecDepth 100000 in
theorem k_X5_init (l : Launch) (G : GG) (b : Nat) (t : Nat)   : Met l yX5_init (ws_ yX5_init cX5_init 2 (none : Option Jvm.ClassFile.FieldType)) (rmM 2 19 93) (PCX G (SxC t (In b 20)) [.ref b] (fun H => ob G 5 b [.null, .null, .null, .null, .int 0, .int 0, .int 0, .int 0] H ∧ H.size = b + 1)) (QV (fun H => ShopAt G b rI H ∧ H.size = b + 20) (In b 20)) 19 93 (In b 20) := by
  refine met_qx (by decide +kernel) (Nat.le_of_ble_eq_true rfl) ?_
  intro p e s m args below meth c Q hQ hx hb hr hT hown hml hlocks hnm hK hX ⟨ho, hz⟩ ls hl
  have hl : lv_has ls 2 [(0, .ref b)] := hl
  have hS : va_S (In b 20) s.heap s.heap [] := va_S.rf
  have hlt0 : b < s.heap.size := ho.lt
  refine lv_aload_n hx hb dX5_init_0 rfl (lv_at hl 0 rfl) ?_
  refine r_oi hx hb (hml.trans hl.1.symm) hown hT mm_X5_3 (Nat.le_of_ble_eq_true rfl) (Nat.le_of_ble_eq_true rfl) dX5_init_1 ?_
  refine lv_aload_n hx hb dX5_init_4 rfl (lv_at hl 0 rfl) ?_
  refine lv_iconst (v := 5) hx hb dX5_init_5 (by decide) ?_
  refine r_newq (n := 5) (h := b + 1) (k := 3) hx hb hT hown ml_X5_9 hX.1.1 hK rfl rfl (by decide) hz (Nat.le_of_ble_eq_true rfl) (Nat.le_of_ble_eq_true rfl) hS dX5_init_6 (fun H hl5 g hS => ?_)
  replace ho := ho.kept (g.2 _ ho.lt)
  replace hz : H.size = b + 2 := by have h7 := g.1; omega
  clear g
  refine W_nrm (c2 := 1) (s2 := 5) rfl rfl ?_
  refine rpF (C := RX5) (T := TX5) (N := 8) (v := .ref (b + 1)) (ty := .array (.object "TeaBlends$Leaf")) hx hb hT inX5 tyX5 tyX5_ok nmX5 hown hK ho rfl 0 (by decide) mf_X5_11 rfl hnm rfl (by decide +kernel) rfl rfl (Nat.le_of_ble_eq_true rfl) hS (show _ ∧ _ from ⟨by omega, by omega⟩) dX5_init_9 (fun H locs h1 o hS => ?_)
  replace ho : ob G 5 b [.ref (b + 1), .null, .null, .null, .int 0, .int 0, .int 0, .int 0] H := h1
  replace hl5 := hl5.kept (o.2 _ (by omega))
  replace hz : H.size = b + 2 := o.1.trans hz
  clear o
  refine lv_aload_n hx hb dX5_init_12 rfl (lv_at hl 0 rfl) ?_
  refine lv_iconst (v := 3) hx hb dX5_init_13 (by decide) ?_
  refine r_newI (n := 3) (h := b + 2) hx hb hT hK rfl (by decide) hz (Nat.le_of_ble_eq_true rfl) (Nat.le_of_ble_eq_true rfl) hS dX5_init_14 (fun H hlo g hS => ?_)
  replace ho := ho.kept (g.2 _ ho.lt)
  replace hl5 := hl5.kept (g.2 _ hl5.lt)
  replace hz : H.size = b + 3 := by have h7 := g.1; omega
  clear g
  refine W_nrm (c2 := 2) (s2 := 8) rfl rfl ?_
  refine rpF (C := RX5) (T := TX5) (N := 8) (v := .ref (b + 2)) (ty := .array .int) hx hb hT inX5 tyX5 tyX5_ok nmX5 hown hK ho rfl 1 (by decide) mf_X5_17 rfl hnm rfl (by decide +kernel) rfl rfl (Nat.le_of_ble_eq_true rfl) hS (show _ ∧ _ from ⟨by omega, by omega⟩) dX5_init_16 (fun H locs h1 o hS => ?_)
  replace ho : ob G 5 b [.ref (b + 1), .ref (b + 2), .null, .null, .int 0, .int 0, .int 0, .int 0] H := h1
  replace hl5 := hl5.kept (o.2 _ (by omega))
  replace hlo := hlo.kept (o.2 _ (by omega))
  replace hz : H.size = b + 3 := o.1.trans hz
  clear o
  refine lv_aload_n hx hb dX5_init_19 rfl (lv_at hl 0 rfl) ?_
  refine lv_iconst (v := 3) hx hb dX5_init_20 (by decide) ?_
  refine r_newI (n := 3) (h := b + 3) hx hb hT hK rfl (by decide) hz (Nat.le_of_ble_eq_true rfl) (Nat.le_of_ble_eq_true rfl) hS dX5_init_21 (fun H hhi g hS => ?_)
  replace ho := ho.kept (g.2 _ ho.lt)
  replace hl5 := hl5.kept (g.2 _ hl5.lt)
  replace hlo := hlo.kept (g.2 _ hlo.lt)
  replace hz : H.size = b + 4 := by have h7 := g.1; omega
  clear g
  refine W_nrm (c2 := 3) (s2 := 11) rfl rfl ?_
  refine rpF (C := RX5) (T := TX5) (N := 8) (v := .ref (b + 3)) (ty := .array .int) hx hb hT inX5 tyX5 tyX5_ok nmX5 hown hK ho rfl 2 (by decide) mf_X5_21 rfl hnm rfl (by decide +kernel) rfl rfl (Nat.le_of_ble_eq_true rfl) hS (show _ ∧ _ from ⟨by omega, by omega⟩) dX5_init_23 (fun H locs h1 o hS => ?_)
  replace ho : ob G 5 b [.ref (b + 1), .ref (b + 2), .ref (b + 3), .null, .int 0, .int 0, .int 0, .int 0] H := h1
  replace hl5 := hl5.kept (o.2 _ (by omega))
  replace hlo := hlo.kept (o.2 _ (by omega))
  replace hhi := hhi.kept (o.2 _ (by omega))
  replace hz : H.size = b + 4 := o.1.trans hz
  clear o
  refine lv_aload_n hx hb dX5_init_26 rfl (lv_at hl 0 rfl) ?_
  refine va_getsN hx hb hX.2.2.1 hS hown (va_Nw.use rfl hX.2.1.1) (fun _ q => q) dX5_init_27 ?_
  obtain ⟨cell, x1, x2, x3, x4, x5⟩ := hX.2.2.2.1
  have x6 : H[t]? = some cell := by rw [hS.2.1 t (Array.getElem?_eq_some_iff.mp x1).1 hX.2.2.2.2]; exact x1
  refine r_clone (h := b + 4) hx hb (hml.trans hl.1.symm) hT hown mm_X5_27 hX.2.1.2.2.2.2 hK x6 x2 x3 x4 x5 hz (Nat.le_of_ble_eq_true rfl) (Nat.le_of_ble_eq_true rfl) (Nat.le_of_ble_eq_true rfl) (Nat.le_of_ble_eq_true rfl) hS dX5_init_30 (fun H hst g hS => ?_)
  replace ho := ho.kept (g.2 _ ho.lt)
  replace hl5 := hl5.kept (g.2 _ hl5.lt)
  replace hlo := hlo.kept (g.2 _ hlo.lt)
  replace hhi := hhi.kept (g.2 _ hhi.lt)
  replace hz : H.size = b + 5 := by have h7 := g.1; omega
  clear g
  refine W_nrm (c2 := 4) (s2 := 13) rfl rfl ?_
  refine r_castI hx hb hown hT ml_X5_28 hK hst dX5_init_33 ?_
  refine rpF (C := RX5) (T := TX5) (N := 8) (v := .ref (b + 4)) (ty := .array .int) hx hb hT inX5 tyX5 tyX5_ok nmX5 hown hK ho rfl 3 (by decide) mf_X5_32 rfl hnm rfl (by decide +kernel) rfl rfl (Nat.le_of_ble_eq_true rfl) hS (show _ ∧ _ from ⟨by omega, by omega⟩) dX5_init_36 (fun H locs h1 o hS => ?_)
  replace ho : ob G 5 b [.ref (b + 1), .ref (b + 2), .ref (b + 3), .ref (b + 4), .int 0, .int 0, .int 0, .int 0] H := h1
  replace hl5 := hl5.kept (o.2 _ (by omega))
  replace hlo := hlo.kept (o.2 _ (by omega))
  replace hhi := hhi.kept (o.2 _ (by omega))
  replace hst := hst.kept (o.2 _ (by omega))
  replace hz : H.size = b + 5 := o.1.trans hz
  clear o
  refine lv_iconst (v := 0) hx hb dX5_init_39 (by decide) ?_
  refine lv_istore_n (lv' := [(1, .int 0), (0, .ref b)]) hx hb dX5_init_40 rfl hl (by decide) rfl (fun ls hl => ?_)
  refine lv_iload_n hx hb dX5_init_41 rfl (lv_at hl 0 rfl) ?_
  refine lv_aload_n hx hb dX5_init_42 rfl (lv_at hl 1 rfl) ?_
  refine rg (C := RX5) (T := TX5) (N := 8) (v := .ref (b + 1)) hx hb hT inX5 hown hK ho rfl 0 (by decide) mf_X5_11 rfl dX5_init_43 ?_
  refine r_alen hx hb hK hl5 rfl (v := 5) rfl dX5_init_46 ?_
  refine lv_icmp_ge (tgt := 69) hx hb dX5_init_47 (by decide) (fun cd0 => ?_) (fun cd0 => ?_)
  · exact absurd cd0 (by decide)
  · refine lv_aload_n hx hb dX5_init_50 rfl (lv_at hl 1 rfl) ?_
    refine rg (C := RX5) (T := TX5) (N := 8) (v := .ref (b + 1)) hx hb hT inX5 hown hK ho rfl 0 (by decide) mf_X5_11 rfl dX5_init_51 ?_
    refine lv_iload_n hx hb dX5_init_54 rfl (lv_at hl 0 rfl) ?_
    refine r_new (ci := 1) (C := RX1) (T := TX1) (N := 6) (h := b + 5 + 3 * 0) (fs := [.int 0, .int 0, .int 0, .int 0, .null, .null]) hx hb hT inX1 tyX1 tyX1_ok hown ml_X5_9 mn_X1 mz_X1 hK rfl dfX1 (by omega) (Nat.le_of_ble_eq_true rfl) (Nat.le_of_ble_eq_true rfl) hS dX5_init_55 (fun H hL0 g hS => ?_)
    replace ho := ho.kept (g.2 _ ho.lt)
    replace hl5 := hl5.kept (g.2 _ hl5.lt)
    replace hlo := hlo.kept (g.2 _ hlo.lt)
    replace hhi := hhi.kept (g.2 _ hhi.lt)
    replace hst := hst.kept (g.2 _ hst.lt)
    replace hz : H.size = b + 6 := by have h7 := g.1; omega
    clear g
    refine W_nrm (c2 := 5) (s2 := 19) rfl rfl ?_
    refine lv_dup hx hb dX5_init_58 rfl ?_
    refine got_V (va_runIN (Ts := lw_good) ⟨hx, hb, hml, hown, hT⟩ (k_X1_init l G (b + 5 + 3 * 0)) ⟨va_cnB 0 hT (gI mc_X1_init) rfl rfl rfl hX.2.1.2.1 (hT _ mz_X1) (by decide +kernel) ⟨Nat.le_of_ble_eq_true rfl, Nat.le_of_ble_eq_true rfl⟩, rfl, hT _ mi_X1_init⟩ (pre_s hK ⟨hL0, hz⟩) rfl rfl hl.1 rfl (Nat.le_of_ble_eq_true rfl) dX5_init_59 ⟨Nat.le_of_ble_eq_true rfl, Nat.le_of_ble_eq_true rfl⟩) hS (fun q (hq : _ ∧ _) => show _ ∧ _ from ⟨by omega, by omega⟩) (fun q (hq : _ ∧ _) => show _ ∧ _ from ⟨by omega, by omega⟩) (fun H locs h1 hzz hk hS => ?_)
    replace ho := ho.kept (hk _ ho.lt (fun (w : _ ∧ _) => by omega))
    replace hl5 := hl5.kept (hk _ hl5.lt (fun (w : _ ∧ _) => by omega))
    replace hlo := hlo.kept (hk _ hlo.lt (fun (w : _ ∧ _) => by omega))
    replace hhi := hhi.kept (hk _ hhi.lt (fun (w : _ ∧ _) => by omega))
    replace hst := hst.kept (hk _ hst.lt (fun (w : _ ∧ _) => by omega))
    replace hz : H.size = b + 8 := by have h7 := h1.2; omega
    replace hL0 := h1.1
    clear hk hzz h1
    refine W_nrm (c2 := 7) (s2 := 29) rfl rfl ?_
    refine r_aast (ci := 1) (C := RX1) (T := TX1) (N := 6) hx hb hK hl5 rfl hL0.1 rfl 0 rfl (by decide) (Nat.le_of_ble_eq_true rfl) hS (show _ ∧ _ from ⟨by omega, by omega⟩) dX5_init_62 (fun H locs h1 o hS => ?_)
    replace ho := ho.kept (o.2 _ (by omega))
    replace hlo := hlo.kept (o.2 _ (by omega))
    replace hhi := hhi.kept (o.2 _ (by omega))
    replace hst := hst.kept (o.2 _ (by omega))
    replace hL0 := hL0.kept (fun q h8 h9 => o.2 q (by omega))
    replace hz : H.size = b + 8 := o.1.trans hz
    replace hl5 := h1
    clear o h1
    refine lv_iinc (v := 0 + 1) (lv' := [(1, .int (0 + 1)), (0, .ref b)]) hx hb dX5_init_63 hl (k := 0) rfl (rfl) (by decide) rfl (fun ls hl => ?_)
    refine lv_goto (tgt := 41) hx hb dX5_init_66 (by decide) ?_
    refine lv_iload_n hx hb dX5_init_41 rfl (lv_at hl 0 rfl) ?_
    refine lv_aload_n hx hb dX5_init_42 rfl (lv_at hl 1 rfl) ?_
    refine rg (C := RX5) (T := TX5) (N := 8) (v := .ref (b + 1)) hx hb hT inX5 hown hK ho rfl 0 (by decide) mf_X5_11 rfl dX5_init_43 ?_
    refine r_alen hx hb hK hl5 rfl (v := 5) rfl dX5_init_46 ?_
    refine lv_icmp_ge (tgt := 69) hx hb dX5_init_47 (by decide) (fun cd1 => ?_) (fun cd1 => ?_)
    · exact absurd cd1 (by decide)
    · refine lv_aload_n hx hb dX5_init_50 rfl (lv_at hl 1 rfl) ?_
      refine rg (C := RX5) (T := TX5) (N := 8) (v := .ref (b + 1)) hx hb hT inX5 hown hK ho rfl 0 (by decide) mf_X5_11 rfl dX5_init_51 ?_
      refine lv_iload_n hx hb dX5_init_54 rfl (lv_at hl 0 rfl) ?_
      refine r_new (ci := 1) (C := RX1) (T := TX1) (N := 6) (h := b + 5 + 3 * 1) (fs := [.int 0, .int 0, .int 0, .int 0, .null, .null]) hx hb hT inX1 tyX1 tyX1_ok hown ml_X5_9 mn_X1 mz_X1 hK rfl dfX1 (by omega) (Nat.le_of_ble_eq_true rfl) (Nat.le_of_ble_eq_true rfl) hS dX5_init_55 (fun H hL1 g hS => ?_)
      replace ho := ho.kept (g.2 _ ho.lt)
      replace hlo := hlo.kept (g.2 _ hlo.lt)
      replace hhi := hhi.kept (g.2 _ hhi.lt)
      replace hst := hst.kept (g.2 _ hst.lt)
      replace hL0 := hL0.kept (fun q h8 h9 => g.2 q (by have h7 := hL0.2.2.lt; omega))
      replace hl5 := hl5.kept (g.2 _ hl5.lt)
      replace hz : H.size = b + 9 := by have h7 := g.1; omega
      clear g
      refine W_nrm (c2 := 8) (s2 := 35) rfl rfl ?_
      refine lv_dup hx hb dX5_init_58 rfl ?_
      refine got_V (va_runIN (Ts := lw_good) ⟨hx, hb, hml, hown, hT⟩ (k_X1_init l G (b + 5 + 3 * 1)) ⟨va_cnB 0 hT (gI mc_X1_init) rfl rfl rfl hX.2.1.2.1 (hT _ mz_X1) (by decide +kernel) ⟨Nat.le_of_ble_eq_true rfl, Nat.le_of_ble_eq_true rfl⟩, rfl, hT _ mi_X1_init⟩ (pre_s hK ⟨hL1, hz⟩) rfl rfl hl.1 rfl (Nat.le_of_ble_eq_true rfl) dX5_init_59 ⟨Nat.le_of_ble_eq_true rfl, Nat.le_of_ble_eq_true rfl⟩) hS (fun q (hq : _ ∧ _) => show _ ∧ _ from ⟨by omega, by omega⟩) (fun q (hq : _ ∧ _) => show _ ∧ _ from ⟨by omega, by omega⟩) (fun H locs h1 hzz hk hS => ?_)
      replace ho := ho.kept (hk _ ho.lt (fun (w : _ ∧ _) => by omega))
      replace hlo := hlo.kept (hk _ hlo.lt (fun (w : _ ∧ _) => by omega))
      replace hhi := hhi.kept (hk _ hhi.lt (fun (w : _ ∧ _) => by omega))
      replace hst := hst.kept (hk _ hst.lt (fun (w : _ ∧ _) => by omega))
      replace hL0 := hL0.kept (fun q h8 h9 => hk q (by have h7 := hL0.2.2.lt; omega) (fun (w : _ ∧ _) => by omega))
      replace hl5 := hl5.kept (hk _ hl5.lt (fun (w : _ ∧ _) => by omega))
      replace hz : H.size = b + 11 := by have h7 := h1.2; omega
      replace hL1 := h1.1
      clear hk hzz h1
      refine W_nrm (c2 := 10) (s2 := 45) rfl rfl ?_
      refine r_aast (ci := 1) (C := RX1) (T := TX1) (N := 6) hx hb hK hl5 rfl hL1.1 rfl 1 rfl (by decide) (Nat.le_of_ble_eq_true rfl) hS (show _ ∧ _ from ⟨by omega, by omega⟩) dX5_init_62 (fun H locs h1 o hS => ?_)
      replace ho := ho.kept (o.2 _ (by omega))
      replace hlo := hlo.kept (o.2 _ (by omega))
      replace hhi := hhi.kept (o.2 _ (by omega))
      replace hst := hst.kept (o.2 _ (by omega))
      replace hL0 := hL0.kept (fun q h8 h9 => o.2 q (by omega))
      replace hL1 := hL1.kept (fun q h8 h9 => o.2 q (by omega))
      replace hz : H.size = b + 11 := o.1.trans hz
      replace hl5 := h1
      clear o h1
      refine lv_iinc (v := (0 + 1) + 1) (lv' := [(1, .int ((0 + 1) + 1)), (0, .ref b)]) hx hb dX5_init_63 hl (k := 0) rfl (rfl) (by decide) rfl (fun ls hl => ?_)
      refine lv_goto (tgt := 41) hx hb dX5_init_66 (by decide) ?_
      refine lv_iload_n hx hb dX5_init_41 rfl (lv_at hl 0 rfl) ?_
      refine lv_aload_n hx hb dX5_init_42 rfl (lv_at hl 1 rfl) ?_
      refine rg (C := RX5) (T := TX5) (N := 8) (v := .ref (b + 1)) hx hb hT inX5 hown hK ho rfl 0 (by decide) mf_X5_11 rfl dX5_init_43 ?_
      refine r_alen hx hb hK hl5 rfl (v := 5) rfl dX5_init_46 ?_
      refine lv_icmp_ge (tgt := 69) hx hb dX5_init_47 (by decide) (fun cd2 => ?_) (fun cd2 => ?_)
      · exact absurd cd2 (by decide)
      · refine lv_aload_n hx hb dX5_init_50 rfl (lv_at hl 1 rfl) ?_
        refine rg (C := RX5) (T := TX5) (N := 8) (v := .ref (b + 1)) hx hb hT inX5 hown hK ho rfl 0 (by decide) mf_X5_11 rfl dX5_init_51 ?_
        refine lv_iload_n hx hb dX5_init_54 rfl (lv_at hl 0 rfl) ?_
        refine r_new (ci := 1) (C := RX1) (T := TX1) (N := 6) (h := b + 5 + 3 * 2) (fs := [.int 0, .int 0, .int 0, .int 0, .null, .null]) hx hb hT inX1 tyX1 tyX1_ok hown ml_X5_9 mn_X1 mz_X1 hK rfl dfX1 (by omega) (Nat.le_of_ble_eq_true rfl) (Nat.le_of_ble_eq_true rfl) hS dX5_init_55 (fun H hL2 g hS => ?_)
        replace ho := ho.kept (g.2 _ ho.lt)
        replace hlo := hlo.kept (g.2 _ hlo.lt)
        replace hhi := hhi.kept (g.2 _ hhi.lt)
        replace hst := hst.kept (g.2 _ hst.lt)
        replace hL0 := hL0.kept (fun q h8 h9 => g.2 q (by have h7 := hL0.2.2.lt; omega))
        replace hL1 := hL1.kept (fun q h8 h9 => g.2 q (by have h7 := hL1.2.2.lt; omega))
        replace hl5 := hl5.kept (g.2 _ hl5.lt)
        replace hz : H.size = b + 12 := by have h7 := g.1; omega
        clear g
        refine W_nrm (c2 := 11) (s2 := 51) rfl rfl ?_
        refine lv_dup hx hb dX5_init_58 rfl ?_
        refine got_V (va_runIN (Ts := lw_good) ⟨hx, hb, hml, hown, hT⟩ (k_X1_init l G (b + 5 + 3 * 2)) ⟨va_cnB 0 hT (gI mc_X1_init) rfl rfl rfl hX.2.1.2.1 (hT _ mz_X1) (by decide +kernel) ⟨Nat.le_of_ble_eq_true rfl, Nat.le_of_ble_eq_true rfl⟩, rfl, hT _ mi_X1_init⟩ (pre_s hK ⟨hL2, hz⟩) rfl rfl hl.1 rfl (Nat.le_of_ble_eq_true rfl) dX5_init_59 ⟨Nat.le_of_ble_eq_true rfl, Nat.le_of_ble_eq_true rfl⟩) hS (fun q (hq : _ ∧ _) => show _ ∧ _ from ⟨by omega, by omega⟩) (fun q (hq : _ ∧ _) => show _ ∧ _ from ⟨by omega, by omega⟩) (fun H locs h1 hzz hk hS => ?_)
        replace ho := ho.kept (hk _ ho.lt (fun (w : _ ∧ _) => by omega))
        replace hlo := hlo.kept (hk _ hlo.lt (fun (w : _ ∧ _) => by omega))
        replace hhi := hhi.kept (hk _ hhi.lt (fun (w : _ ∧ _) => by omega))
        replace hst := hst.kept (hk _ hst.lt (fun (w : _ ∧ _) => by omega))
        replace hL0 := hL0.kept (fun q h8 h9 => hk q (by have h7 := hL0.2.2.lt; omega) (fun (w : _ ∧ _) => by omega))
        replace hL1 := hL1.kept (fun q h8 h9 => hk q (by have h7 := hL1.2.2.lt; omega) (fun (w : _ ∧ _) => by omega))
        replace hl5 := hl5.kept (hk _ hl5.lt (fun (w : _ ∧ _) => by omega))
        replace hz : H.size = b + 14 := by have h7 := h1.2; omega
        replace hL2 := h1.1
        clear hk hzz h1
        refine W_nrm (c2 := 13) (s2 := 61) rfl rfl ?_
        refine r_aast (ci := 1) (C := RX1) (T := TX1) (N := 6) hx hb hK hl5 rfl hL2.1 rfl 2 rfl (by decide) (Nat.le_of_ble_eq_true rfl) hS (show _ ∧ _ from ⟨by omega, by omega⟩) dX5_init_62 (fun H locs h1 o hS => ?_)
        replace ho := ho.kept (o.2 _ (by omega))
        replace hlo := hlo.kept (o.2 _ (by omega))
        replace hhi := hhi.kept (o.2 _ (by omega))
        replace hst := hst.kept (o.2 _ (by omega))
        replace hL0 := hL0.kept (fun q h8 h9 => o.2 q (by omega))
        replace hL1 := hL1.kept (fun q h8 h9 => o.2 q (by omega))
        replace hL2 := hL2.kept (fun q h8 h9 => o.2 q (by omega))
        replace hz : H.size = b + 14 := o.1.trans hz
        replace hl5 := h1
        clear o h1
        refine lv_iinc (v := ((0 + 1) + 1) + 1) (lv' := [(1, .int (((0 + 1) + 1) + 1)), (0, .ref b)]) hx hb dX5_init_63 hl (k := 0) rfl (rfl) (by decide) rfl (fun ls hl => ?_)
        refine lv_goto (tgt := 41) hx hb dX5_init_66 (by decide) ?_
        refine lv_iload_n hx hb dX5_init_41 rfl (lv_at hl 0 rfl) ?_
        refine lv_aload_n hx hb dX5_init_42 rfl (lv_at hl 1 rfl) ?_
        refine rg (C := RX5) (T := TX5) (N := 8) (v := .ref (b + 1)) hx hb hT inX5 hown hK ho rfl 0 (by decide) mf_X5_11 rfl dX5_init_43 ?_
        refine r_alen hx hb hK hl5 rfl (v := 5) rfl dX5_init_46 ?_
        refine lv_icmp_ge (tgt := 69) hx hb dX5_init_47 (by decide) (fun cd3 => ?_) (fun cd3 => ?_)
        · exact absurd cd3 (by decide)
        · refine lv_aload_n hx hb dX5_init_50 rfl (lv_at hl 1 rfl) ?_
          refine rg (C := RX5) (T := TX5) (N := 8) (v := .ref (b + 1)) hx hb hT inX5 hown hK ho rfl 0 (by decide) mf_X5_11 rfl dX5_init_51 ?_
          refine lv_iload_n hx hb dX5_init_54 rfl (lv_at hl 0 rfl) ?_
          refine r_new (ci := 1) (C := RX1) (T := TX1) (N := 6) (h := b + 5 + 3 * 3) (fs := [.int 0, .int 0, .int 0, .int 0, .null, .null]) hx hb hT inX1 tyX1 tyX1_ok hown ml_X5_9 mn_X1 mz_X1 hK rfl dfX1 (by omega) (Nat.le_of_ble_eq_true rfl) (Nat.le_of_ble_eq_true rfl) hS dX5_init_55 (fun H hL3 g hS => ?_)
          replace ho := ho.kept (g.2 _ ho.lt)
          replace hlo := hlo.kept (g.2 _ hlo.lt)
          replace hhi := hhi.kept (g.2 _ hhi.lt)
          replace hst := hst.kept (g.2 _ hst.lt)
          replace hL0 := hL0.kept (fun q h8 h9 => g.2 q (by have h7 := hL0.2.2.lt; omega))
          replace hL1 := hL1.kept (fun q h8 h9 => g.2 q (by have h7 := hL1.2.2.lt; omega))
          replace hL2 := hL2.kept (fun q h8 h9 => g.2 q (by have h7 := hL2.2.2.lt; omega))
          replace hl5 := hl5.kept (g.2 _ hl5.lt)
          replace hz : H.size = b + 15 := by have h7 := g.1; omega
          clear g
          refine W_nrm (c2 := 14) (s2 := 67) rfl rfl ?_
          refine lv_dup hx hb dX5_init_58 rfl ?_
          refine got_V (va_runIN (Ts := lw_good) ⟨hx, hb, hml, hown, hT⟩ (k_X1_init l G (b + 5 + 3 * 3)) ⟨va_cnB 0 hT (gI mc_X1_init) rfl rfl rfl hX.2.1.2.1 (hT _ mz_X1) (by decide +kernel) ⟨Nat.le_of_ble_eq_true rfl, Nat.le_of_ble_eq_true rfl⟩, rfl, hT _ mi_X1_init⟩ (pre_s hK ⟨hL3, hz⟩) rfl rfl hl.1 rfl (Nat.le_of_ble_eq_true rfl) dX5_init_59 ⟨Nat.le_of_ble_eq_true rfl, Nat.le_of_ble_eq_true rfl⟩) hS (fun q (hq : _ ∧ _) => show _ ∧ _ from ⟨by omega, by omega⟩) (fun q (hq : _ ∧ _) => show _ ∧ _ from ⟨by omega, by omega⟩) (fun H locs h1 hzz hk hS => ?_)
          replace ho := ho.kept (hk _ ho.lt (fun (w : _ ∧ _) => by omega))
          replace hlo := hlo.kept (hk _ hlo.lt (fun (w : _ ∧ _) => by omega))
          replace hhi := hhi.kept (hk _ hhi.lt (fun (w : _ ∧ _) => by omega))
          replace hst := hst.kept (hk _ hst.lt (fun (w : _ ∧ _) => by omega))
          replace hL0 := hL0.kept (fun q h8 h9 => hk q (by have h7 := hL0.2.2.lt; omega) (fun (w : _ ∧ _) => by omega))
          replace hL1 := hL1.kept (fun q h8 h9 => hk q (by have h7 := hL1.2.2.lt; omega) (fun (w : _ ∧ _) => by omega))
          replace hL2 := hL2.kept (fun q h8 h9 => hk q (by have h7 := hL2.2.2.lt; omega) (fun (w : _ ∧ _) => by omega))
          replace hl5 := hl5.kept (hk _ hl5.lt (fun (w : _ ∧ _) => by omega))
          replace hz : H.size = b + 17 := by have h7 := h1.2; omega
          replace hL3 := h1.1
          clear hk hzz h1
          refine W_nrm (c2 := 16) (s2 := 77) rfl rfl ?_
          refine r_aast (ci := 1) (C := RX1) (T := TX1) (N := 6) hx hb hK hl5 rfl hL3.1 rfl 3 rfl (by decide) (Nat.le_of_ble_eq_true rfl) hS (show _ ∧ _ from ⟨by omega, by omega⟩) dX5_init_62 (fun H locs h1 o hS => ?_)
          replace ho := ho.kept (o.2 _ (by omega))
          replace hlo := hlo.kept (o.2 _ (by omega))
          replace hhi := hhi.kept (o.2 _ (by omega))
          replace hst := hst.kept (o.2 _ (by omega))
          replace hL0 := hL0.kept (fun q h8 h9 => o.2 q (by omega))
          replace hL1 := hL1.kept (fun q h8 h9 => o.2 q (by omega))
          replace hL2 := hL2.kept (fun q h8 h9 => o.2 q (by omega))
          replace hL3 := hL3.kept (fun q h8 h9 => o.2 q (by omega))
          replace hz : H.size = b + 17 := o.1.trans hz
          replace hl5 := h1
          clear o h1
          refine lv_iinc (v := (((0 + 1) + 1) + 1) + 1) (lv' := [(1, .int ((((0 + 1) + 1) + 1) + 1)), (0, .ref b)]) hx hb dX5_init_63 hl (k := 0) rfl (rfl) (by decide) rfl (fun ls hl => ?_)
          refine lv_goto (tgt := 41) hx hb dX5_init_66 (by decide) ?_
          refine lv_iload_n hx hb dX5_init_41 rfl (lv_at hl 0 rfl) ?_
          refine lv_aload_n hx hb dX5_init_42 rfl (lv_at hl 1 rfl) ?_
          refine rg (C := RX5) (T := TX5) (N := 8) (v := .ref (b + 1)) hx hb hT inX5 hown hK ho rfl 0 (by decide) mf_X5_11 rfl dX5_init_43 ?_
          refine r_alen hx hb hK hl5 rfl (v := 5) rfl dX5_init_46 ?_
          refine lv_icmp_ge (tgt := 69) hx hb dX5_init_47 (by decide) (fun cd4 => ?_) (fun cd4 => ?_)
          · exact absurd cd4 (by decide)
          · refine lv_aload_n hx hb dX5_init_50 rfl (lv_at hl 1 rfl) ?_
            refine rg (C := RX5) (T := TX5) (N := 8) (v := .ref (b + 1)) hx hb hT inX5 hown hK ho rfl 0 (by decide) mf_X5_11 rfl dX5_init_51 ?_
            refine lv_iload_n hx hb dX5_init_54 rfl (lv_at hl 0 rfl) ?_
            refine r_new (ci := 1) (C := RX1) (T := TX1) (N := 6) (h := b + 5 + 3 * 4) (fs := [.int 0, .int 0, .int 0, .int 0, .null, .null]) hx hb hT inX1 tyX1 tyX1_ok hown ml_X5_9 mn_X1 mz_X1 hK rfl dfX1 (by omega) (Nat.le_of_ble_eq_true rfl) (Nat.le_of_ble_eq_true rfl) hS dX5_init_55 (fun H hL4 g hS => ?_)
            replace ho := ho.kept (g.2 _ ho.lt)
            replace hlo := hlo.kept (g.2 _ hlo.lt)
            replace hhi := hhi.kept (g.2 _ hhi.lt)
            replace hst := hst.kept (g.2 _ hst.lt)
            replace hL0 := hL0.kept (fun q h8 h9 => g.2 q (by have h7 := hL0.2.2.lt; omega))
            replace hL1 := hL1.kept (fun q h8 h9 => g.2 q (by have h7 := hL1.2.2.lt; omega))
            replace hL2 := hL2.kept (fun q h8 h9 => g.2 q (by have h7 := hL2.2.2.lt; omega))
            replace hL3 := hL3.kept (fun q h8 h9 => g.2 q (by have h7 := hL3.2.2.lt; omega))
            replace hl5 := hl5.kept (g.2 _ hl5.lt)
            replace hz : H.size = b + 18 := by have h7 := g.1; omega
            clear g
            refine W_nrm (c2 := 17) (s2 := 83) rfl rfl ?_
            refine lv_dup hx hb dX5_init_58 rfl ?_
            refine got_V (va_runIN (Ts := lw_good) ⟨hx, hb, hml, hown, hT⟩ (k_X1_init l G (b + 5 + 3 * 4)) ⟨va_cnB 0 hT (gI mc_X1_init) rfl rfl rfl hX.2.1.2.1 (hT _ mz_X1) (by decide +kernel) ⟨Nat.le_of_ble_eq_true rfl, Nat.le_of_ble_eq_true rfl⟩, rfl, hT _ mi_X1_init⟩ (pre_s hK ⟨hL4, hz⟩) rfl rfl hl.1 rfl (Nat.le_of_ble_eq_true rfl) dX5_init_59 ⟨Nat.le_of_ble_eq_true rfl, Nat.le_of_ble_eq_true rfl⟩) hS (fun q (hq : _ ∧ _) => show _ ∧ _ from ⟨by omega, by omega⟩) (fun q (hq : _ ∧ _) => show _ ∧ _ from ⟨by omega, by omega⟩) (fun H locs h1 hzz hk hS => ?_)
            replace ho := ho.kept (hk _ ho.lt (fun (w : _ ∧ _) => by omega))
            replace hlo := hlo.kept (hk _ hlo.lt (fun (w : _ ∧ _) => by omega))
            replace hhi := hhi.kept (hk _ hhi.lt (fun (w : _ ∧ _) => by omega))
            replace hst := hst.kept (hk _ hst.lt (fun (w : _ ∧ _) => by omega))
            replace hL0 := hL0.kept (fun q h8 h9 => hk q (by have h7 := hL0.2.2.lt; omega) (fun (w : _ ∧ _) => by omega))
            replace hL1 := hL1.kept (fun q h8 h9 => hk q (by have h7 := hL1.2.2.lt; omega) (fun (w : _ ∧ _) => by omega))
            replace hL2 := hL2.kept (fun q h8 h9 => hk q (by have h7 := hL2.2.2.lt; omega) (fun (w : _ ∧ _) => by omega))
            replace hL3 := hL3.kept (fun q h8 h9 => hk q (by have h7 := hL3.2.2.lt; omega) (fun (w : _ ∧ _) => by omega))
            replace hl5 := hl5.kept (hk _ hl5.lt (fun (w : _ ∧ _) => by omega))
            replace hz : H.size = b + 20 := by have h7 := h1.2; omega
            replace hL4 := h1.1
            clear hk hzz h1
            refine W_nrm (c2 := 19) (s2 := 93) rfl rfl ?_
            refine r_aast (ci := 1) (C := RX1) (T := TX1) (N := 6) hx hb hK hl5 rfl hL4.1 rfl 4 rfl (by decide) (Nat.le_of_ble_eq_true rfl) hS (show _ ∧ _ from ⟨by omega, by omega⟩) dX5_init_62 (fun H locs h1 o hS => ?_)
            replace ho := ho.kept (o.2 _ (by omega))
            replace hlo := hlo.kept (o.2 _ (by omega))
            replace hhi := hhi.kept (o.2 _ (by omega))
            replace hst := hst.kept (o.2 _ (by omega))
            replace hL0 := hL0.kept (fun q h8 h9 => o.2 q (by omega))
            replace hL1 := hL1.kept (fun q h8 h9 => o.2 q (by omega))
            replace hL2 := hL2.kept (fun q h8 h9 => o.2 q (by omega))
            replace hL3 := hL3.kept (fun q h8 h9 => o.2 q (by omega))
            replace hL4 := hL4.kept (fun q h8 h9 => o.2 q (by omega))
            replace hz : H.size = b + 20 := o.1.trans hz
            replace hl5 := h1
            clear o h1
            refine lv_iinc (v := ((((0 + 1) + 1) + 1) + 1) + 1) (lv' := [(1, .int (((((0 + 1) + 1) + 1) + 1) + 1)), (0, .ref b)]) hx hb dX5_init_63 hl (k := 0) rfl (rfl) (by decide) rfl (fun ls hl => ?_)
            refine lv_goto (tgt := 41) hx hb dX5_init_66 (by decide) ?_
            refine lv_iload_n hx hb dX5_init_41 rfl (lv_at hl 0 rfl) ?_
            refine lv_aload_n hx hb dX5_init_42 rfl (lv_at hl 1 rfl) ?_
            refine rg (C := RX5) (T := TX5) (N := 8) (v := .ref (b + 1)) hx hb hT inX5 hown hK ho rfl 0 (by decide) mf_X5_11 rfl dX5_init_43 ?_
            refine r_alen hx hb hK hl5 rfl (v := 5) rfl dX5_init_46 ?_
            refine lv_icmp_ge (tgt := 69) hx hb dX5_init_47 (by decide) (fun cd5 => ?_) (fun cd5 => ?_)
            · refine lv_aload_n hx hb dX5_init_69 rfl (lv_at hl 1 rfl) ?_
              refine rg (C := RX5) (T := TX5) (N := 8) (v := .ref (b + 3)) hx hb hT inX5 hown hK ho rfl 2 (by decide) mf_X5_21 rfl dX5_init_70 ?_
              refine lv_bipush (v := 100) hx hb dX5_init_73 (by decide) ?_
              refine got_V (run_s hx hb hml hown hT hK hl.1 (k_J7_fill2 l G (b + 3) 3 (b + 20) _ 100 (by decide)) (cw_X5_36 hT ⟨Nat.le_of_ble_eq_true rfl, Nat.le_of_ble_eq_true rfl⟩) ⟨hhi, hz⟩ rfl rfl (Nat.le_of_ble_eq_true rfl) dX5_init_75 ⟨Nat.le_of_ble_eq_true rfl, Nat.le_of_ble_eq_true rfl⟩) hS (fun q (hq : q = b + 3) => show _ ∧ _ from ⟨by omega, by omega⟩) (fun q (hq : q = b + 3) => show _ ∧ _ from ⟨by omega, by omega⟩) (fun H locs h1 hzz hk hS => ?_)
              replace ho := ho.kept (hk _ ho.lt (fun (w : _ = _) => by omega))
              replace hlo := hlo.kept (hk _ hlo.lt (fun (w : _ = _) => by omega))
              replace hst := hst.kept (hk _ hst.lt (fun (w : _ = _) => by omega))
              replace hL0 := hL0.kept (fun q h8 h9 => hk q (by have h7 := hL0.2.2.lt; omega) (fun (w : _ = _) => by omega))
              replace hL1 := hL1.kept (fun q h8 h9 => hk q (by have h7 := hL1.2.2.lt; omega) (fun (w : _ = _) => by omega))
              replace hL2 := hL2.kept (fun q h8 h9 => hk q (by have h7 := hL2.2.2.lt; omega) (fun (w : _ = _) => by omega))
              replace hL3 := hL3.kept (fun q h8 h9 => hk q (by have h7 := hL3.2.2.lt; omega) (fun (w : _ = _) => by omega))
              replace hL4 := hL4.kept (fun q h8 h9 => hk q (by have h7 := hL4.2.2.lt; omega) (fun (w : _ = _) => by omega))
              replace hl5 := hl5.kept (hk _ hl5.lt (fun (w : _ = _) => by omega))
              refine W_nrm (c2 := 19) (s2 := 93) rfl rfl ?_
              have hls := qA_ext hl5 (fun j hj => sl5 (b := b) hj)
              exact nd_V hQ hx hb hr hlocks dX5_init_78 hS (⟨ShopAt.of ho hls hlo h1.1 hst hL0 hL1 hL2 hL3 hL4, h1.2⟩)
            · exact absurd (show (5 : Int32) ≤ 5 by decide) cd5
