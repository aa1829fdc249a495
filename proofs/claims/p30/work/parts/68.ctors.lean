/-! constructors: an object at the end of the heap, its parts behind it -/
theorem dfX0 : ∀ j, j < 3 → defaultValue (tyX0 j) = vp_V [.null, .int 0, .int 0] j := fun j hj => match j, hj with
  | 0, _ => rfl
  | 1, _ => rfl
  | 2, _ => rfl
theorem dfX1 : ∀ j, j < 6 → defaultValue (tyX1 j) = vp_V [.int 0, .int 0, .int 0, .int 0, .null, .null] j := fun j hj => match j, hj with
  | 0, _ => rfl
  | 1, _ => rfl
  | 2, _ => rfl
  | 3, _ => rfl
  | 4, _ => rfl
  | 5, _ => rfl
theorem dfX2 : ∀ j, j < 5 → defaultValue (tyX2 j) = vp_V [.null, .int 0, .int 0, .int 0, .null] j := fun j hj => match j, hj with
  | 0, _ => rfl
  | 1, _ => rfl
  | 2, _ => rfl
  | 3, _ => rfl
  | 4, _ => rfl
theorem dfX3 : ∀ j, j < 2 → defaultValue (tyX3 j) = vp_V [.null, .int 0] j := fun j hj => match j, hj with
  | 0, _ => rfl
  | 1, _ => rfl
theorem dfX4 : ∀ j, j < 10 → defaultValue (tyX4 j) = vp_V [.null, .int 0, .int 0, .null, .null, .null, .null, .null, .null, .null] j := fun j hj => match j, hj with
  | 0, _ => rfl
  | 1, _ => rfl
  | 2, _ => rfl
  | 3, _ => rfl
  | 4, _ => rfl
  | 5, _ => rfl
  | 6, _ => rfl
  | 7, _ => rfl
  | 8, _ => rfl
  | 9, _ => rfl
theorem dfX5 : ∀ j, j < 8 → defaultValue (tyX5 j) = vp_V [.null, .null, .null, .null, .int 0, .int 0, .int 0, .int 0] j := fun j hj => match j, hj with
  | 0, _ => rfl
  | 1, _ => rfl
  | 2, _ => rfl
  | 3, _ => rfl
  | 4, _ => rfl
  | 5, _ => rfl
  | 6, _ => rfl
  | 7, _ => rfl
theorem W_nrm {p : Program} {l : Launch} {e : Env} {R : Room} {s : State} {m : MethodId} {args : Array Value} {below : List Frame} {meth : Method} {c : Code} {H : Heap} {locs : List Loc} {c1 s1 c2 s2 : Nat} {Q : State → Prop} {g : JFrame} (h1 : c1 = c2) (h2 : s1 = s2) (kk : W p l e R s m args below meth c H locs c2 s2 Q g) : W p l e R s m args below meth c H locs c1 s1 Q g := by
  subst h1
  subst h2
  exact kk
theorem G2.top {G : GG} {b : Nat} {f : Nat → Int32} {H : Heap} (h : G2 G b f H) : b + 5 < H.size := by
  have h9 := (h.2 4 (by omega)).lt
  omega
/-- the first row -/
def rI : Nat → Int32 := fun k => if k = 0 then 10 else if k = 1 then 7 else if 9 ≤ k ∧ k < 12 then 100 else 0
theorem sl5 {b : Nat} {j : Nat} (hj : j < 5) : va_up (va_up (va_up (va_up (va_up (fun _ => none) 0 (some (b + 5 + 3 * 0))) 1 (some (b + 5 + 3 * 1))) 2 (some (b + 5 + 3 * 2))) 3 (some (b + 5 + 3 * 3))) 4 (some (b + 5 + 3 * 4)) j = some (b + 5 + 3 * j) := by
  have h5 : j = 0 ∨ j = 1 ∨ j = 2 ∨ j = 3 ∨ j = 4 := by omega
  rcases h5 with rfl | rfl | rfl | rfl | rfl <;> rfl
theorem sl7 {h : Nat} {j : Nat} (hj : j < 7) : va_up (va_up (va_up (va_up (va_up (va_up (va_up (fun _ => none) 0 (some (h + 2 + 20 * 0))) 1 (some (h + 2 + 20 * 1))) 2 (some (h + 2 + 20 * 2))) 3 (some (h + 2 + 20 * 3))) 4 (some (h + 2 + 20 * 4))) 5 (some (h + 2 + 20 * 5))) 6 (some (h + 2 + 20 * 6)) j = some (h + 2 + 20 * j) := by
  have h5 : j = 0 ∨ j = 1 ∨ j = 2 ∨ j = 3 ∨ j = 4 ∨ j = 5 ∨ j = 6 := by omega
  rcases h5 with rfl | rfl | rfl | rfl | rfl | rfl | rfl <;> rfl

set_option maxHeartbeats 4000000 in
set_option maxRecDepth 100000 in
theorem k_X1_init (l : Launch) (G : GG) (a : Nat)   : Met l yX1_init (ws_ yX1_init cX1_init 1 (none : Option Jvm.ClassFile.FieldType)) (rmM 1 2 10) (PC G [.ref a] (fun H => ob G 1 a [.int 0, .int 0, .int 0, .int 0, .null, .null] H ∧ H.size = a + 1)) (QV (fun H => LeafAt G a (fun _ => 0) H ∧ H.size = a + 3) (In a 3)) 2 10 (In a 3) := by
  refine met_q (by decide +kernel) (Nat.le_of_ble_eq_true rfl) ?_
  intro p e s m args below meth c Q hQ hx hb hr hT hown hml hlocks hnm hK ⟨ho, hz⟩ ls hl
  have hl : lv_has ls 1 [(0, .ref a)] := hl
  have hS : va_S (In a 3) s.heap s.heap [] := va_S.rf
  refine lv_aload_n hx hb dX1_init_0 rfl (lv_at hl 0 rfl) ?_
  refine r_oi hx hb (hml.trans hl.1.symm) hown hT mm_X1_3 (Nat.le_of_ble_eq_true rfl) (Nat.le_of_ble_eq_true rfl) dX1_init_1 ?_
  refine lv_aload_n hx hb dX1_init_4 rfl (lv_at hl 0 rfl) ?_
  refine lv_bipush (v := 7) hx hb dX1_init_5 (by decide) ?_
  refine r_newI (n := 7) (h := a + 1) hx hb hT hK rfl (by decide) hz (Nat.le_of_ble_eq_true rfl) (Nat.le_of_ble_eq_true rfl) hS dX1_init_7 (fun H hc g hS => ?_)
  replace ho := ho.kept (g.2 _ ho.lt)
  replace hz : H.size = a + 2 := by have h7 := g.1; omega
  clear g
  refine W_nrm (c2 := 1) (s2 := 7) rfl rfl ?_
  refine rpF (C := RX1) (T := TX1) (N := 6) (v := .ref (a + 1)) (ty := .array .int) hx hb hT inX1 tyX1 tyX1_ok nmX1 hown hK ho rfl 4 (by decide) mf_X1_9 rfl hnm rfl (by decide +kernel) rfl rfl (Nat.le_of_ble_eq_true rfl) hS (show _ ∧ _ from ⟨by omega, by omega⟩) dX1_init_9 (fun H locs h1 o hS => ?_)
  replace ho : ob G 1 a [.int 0, .int 0, .int 0, .int 0, .ref (a + 1), .null] H := h1
  replace hc := hc.kept (o.2 _ (by omega))
  replace hz : H.size = a + 2 := o.1.trans hz
  clear o
  refine lv_aload_n hx hb dX1_init_12 rfl (lv_at hl 0 rfl) ?_
  refine lv_iconst (v := 3) hx hb dX1_init_13 (by decide) ?_
  refine r_newI (n := 3) (h := a + 2) hx hb hT hK rfl (by decide) hz (Nat.le_of_ble_eq_true rfl) (Nat.le_of_ble_eq_true rfl) hS dX1_init_14 (fun H hf g hS => ?_)
  replace ho := ho.kept (g.2 _ ho.lt)
  replace hc := hc.kept (g.2 _ hc.lt)
  replace hz : H.size = a + 3 := by have h7 := g.1; omega
  clear g
  refine W_nrm (c2 := 2) (s2 := 10) rfl rfl ?_
  refine rpF (C := RX1) (T := TX1) (N := 6) (v := .ref (a + 2)) (ty := .array .int) hx hb hT inX1 tyX1 tyX1_ok nmX1 hown hK ho rfl 5 (by decide) mf_X1_15 rfl hnm rfl (by decide +kernel) rfl rfl (Nat.le_of_ble_eq_true rfl) hS (show _ ∧ _ from ⟨by omega, by omega⟩) dX1_init_16 (fun H locs h1 o hS => ?_)
  replace ho : ob G 1 a [.int 0, .int 0, .int 0, .int 0, .ref (a + 1), .ref (a + 2)] H := h1
  replace hc := hc.kept (o.2 _ (by omega))
  replace hf := hf.kept (o.2 _ (by omega))
  replace hz : H.size = a + 3 := o.1.trans hz
  clear o
  exact nd_V hQ hx hb hr hlocks dX1_init_19 hS (⟨⟨ho, hc, hf⟩, hz⟩)

set_option maxHeartbeats 4000000 in
set_option maxRecDepth 100000 in
theorem k_X3_init (l : Launch) (G : GG) (z : Nat)   : Met l yX3_init (ws_ yX3_init cX3_init 1 (none : Option Jvm.ClassFile.FieldType)) (rmM 1 1 80) (PC G [.ref z] (fun H => ob G 3 z [.null, .int 0] H ∧ H.size = z + 1)) (QV (fun H => PadAt G z (fun _ => 0) (nI 0) H ∧ H.size = z + 2) (In z 2)) 1 80 (In z 2) := by
  refine met_q (by decide +kernel) (Nat.le_of_ble_eq_true rfl) ?_
  intro p e s m args below meth c Q hQ hx hb hr hT hown hml hlocks hnm hK ⟨ho, hz⟩ ls hl
  have hl : lv_has ls 1 [(0, .ref z)] := hl
  have hS : va_S (In z 2) s.heap s.heap [] := va_S.rf
  refine lv_aload_n hx hb dX3_init_0 rfl (lv_at hl 0 rfl) ?_
  refine r_oi hx hb (hml.trans hl.1.symm) hown hT mm_X3_3 (Nat.le_of_ble_eq_true rfl) (Nat.le_of_ble_eq_true rfl) dX3_init_1 ?_
  refine lv_aload_n hx hb dX3_init_4 rfl (lv_at hl 0 rfl) ?_
  refine lv_bipush (v := 80) hx hb dX3_init_5 (by decide) ?_
  refine r_newC (n := 80) (h := z + 1) hx hb hT hK rfl (by decide) hz (Nat.le_of_ble_eq_true rfl) (Nat.le_of_ble_eq_true rfl) hS dX3_init_7 (fun H ht g hS => ?_)
  replace ho := ho.kept (g.2 _ ho.lt)
  replace hz : H.size = z + 2 := by have h7 := g.1; omega
  clear g
  refine W_nrm (c2 := 1) (s2 := 80) rfl rfl ?_
  refine rpF (C := RX3) (T := TX3) (N := 2) (v := .ref (z + 1)) (ty := .array .char) hx hb hT inX3 tyX3 tyX3_ok nmX3 hown hK ho rfl 0 (by decide) mf_X3_9 rfl hnm rfl (by decide +kernel) rfl rfl (Nat.le_of_ble_eq_true rfl) hS (show _ ∧ _ from ⟨by omega, by omega⟩) dX3_init_9 (fun H locs h1 o hS => ?_)
  replace ho : ob G 3 z [.ref (z + 1), .int 0] H := h1
  replace ht := ht.kept (o.2 _ (by omega))
  replace hz : H.size = z + 2 := o.1.trans hz
  clear o
  exact nd_V hQ hx hb hr hlocks dX3_init_12 hS (⟨⟨ho, ht⟩, hz⟩)

set_option maxHeartbeats 4000000 in
set_option maxRecDepth 100000 in
theorem k_X2_init (l : Launch) (G : GG) (z : Nat) (pz : Nat)   : Met l yX2_init (ws_ yX2_init cX2_init 2 (none : Option Jvm.ClassFile.FieldType)) (rmM 1 1 5) (PC G [.ref z, .ref pz] (fun H => ob G 2 z [.null, .int 0, .int 0, .int 0, .null] H ∧ H.size = z + 1)) (QV (fun H => OrAt G z pz (fun _ => 0) 0 0 0 H ∧ H.size = z + 2) (In z 2)) 1 5 (In z 2) := by
  refine met_q (by decide +kernel) (Nat.le_of_ble_eq_true rfl) ?_
  intro p e s m args below meth c Q hQ hx hb hr hT hown hml hlocks hnm hK ⟨ho, hz⟩ ls hl
  have hl : lv_has ls 2 [(0, .ref z), (1, .ref pz)] := hl
  have hS : va_S (In z 2) s.heap s.heap [] := va_S.rf
  refine lv_aload_n hx hb dX2_init_0 rfl (lv_at hl 0 rfl) ?_
  refine r_oi hx hb (hml.trans hl.1.symm) hown hT mm_X2_3 (Nat.le_of_ble_eq_true rfl) (Nat.le_of_ble_eq_true rfl) dX2_init_1 ?_
  refine lv_aload_n hx hb dX2_init_4 rfl (lv_at hl 0 rfl) ?_
  refine lv_iconst (v := 5) hx hb dX2_init_5 (by decide) ?_
  refine r_newI (n := 5) (h := z + 1) hx hb hT hK rfl (by decide) hz (Nat.le_of_ble_eq_true rfl) (Nat.le_of_ble_eq_true rfl) hS dX2_init_6 (fun H hn g hS => ?_)
  replace ho := ho.kept (g.2 _ ho.lt)
  replace hz : H.size = z + 2 := by have h7 := g.1; omega
  clear g
  refine W_nrm (c2 := 1) (s2 := 5) rfl rfl ?_
  refine rpF (C := RX2) (T := TX2) (N := 5) (v := .ref (z + 1)) (ty := .array .int) hx hb hT inX2 tyX2 tyX2_ok nmX2 hown hK ho rfl 4 (by decide) mf_X2_9 rfl hnm rfl (by decide +kernel) rfl rfl (Nat.le_of_ble_eq_true rfl) hS (show _ ∧ _ from ⟨by omega, by omega⟩) dX2_init_8 (fun H locs h1 o hS => ?_)
  replace ho : ob G 2 z [.null, .int 0, .int 0, .int 0, .ref (z + 1)] H := h1
  replace hn := hn.kept (o.2 _ (by omega))
  replace hz : H.size = z + 2 := o.1.trans hz
  clear o
  refine lv_aload_n hx hb dX2_init_11 rfl (lv_at hl 0 rfl) ?_
  refine lv_aload_n hx hb dX2_init_12 rfl (lv_at hl 1 rfl) ?_
  refine rpF (C := RX2) (T := TX2) (N := 5) (v := .ref pz) (ty := .object "TeaBlends$Pad") hx hb hT inX2 tyX2 tyX2_ok nmX2 hown hK ho rfl 0 (by decide) mf_X2_15 rfl hnm rfl (by decide +kernel) rfl rfl (Nat.le_of_ble_eq_true rfl) hS (show _ ∧ _ from ⟨by omega, by omega⟩) dX2_init_13 (fun H locs h1 o hS => ?_)
  replace ho : ob G 2 z [.ref pz, .int 0, .int 0, .int 0, .ref (z + 1)] H := h1
  replace hn := hn.kept (o.2 _ (by omega))
  replace hz : H.size = z + 2 := o.1.trans hz
  clear o
  exact nd_V hQ hx hb hr hlocks dX2_init_16 hS (⟨⟨ho, hn⟩, hz⟩)

set_option maxHeartbeats 4000000 in
set_option maxRecDepth 100000 in
theorem k_X4_init (l : Launch) (G : GG) (a : Nat) (t : Nat)   : Met l yX4_init (ws_ yX4_init cX4_init 1 (none : Option Jvm.ClassFile.FieldType)) (rmM 1 28 116) (PCX G (SxC t (In a 29)) [.ref a] (fun H => ob G 4 a [.null, .int 0, .int 0, .null, .null, .null, .null, .null, .null, .null] H ∧ H.size = a + 1)) (QV (fun H => SrAt G a (fun _ _ => 0) H ∧ H.size = a + 29) (In a 29)) 28 116 (In a 29) := by
  refine met_qx (by decide +kernel) (Nat.le_of_ble_eq_true rfl) ?_
  intro p e s m args below meth c Q hQ hx hb hr hT hown hml hlocks hnm hK hX ⟨ho, hz⟩ ls hl
  have hl : lv_has ls 1 [(0, .ref a)] := hl
  have hS : va_S (In a 29) s.heap s.heap [] := va_S.rf
  have hlt0 : a < s.heap.size := ho.lt
  refine lv_aload_n hx hb dX4_init_0 rfl (lv_at hl 0 rfl) ?_
  refine r_oi hx hb (hml.trans hl.1.symm) hown hT mm_X4_3 (Nat.le_of_ble_eq_true rfl) (Nat.le_of_ble_eq_true rfl) dX4_init_1 ?_
  refine lv_aload_n hx hb dX4_init_4 rfl (lv_at hl 0 rfl) ?_
  refine lv_iconst (v := 5) hx hb dX4_init_5 (by decide) ?_
  refine r_newI (n := 5) (h := a + 1) hx hb hT hK rfl (by decide) hz (Nat.le_of_ble_eq_true rfl) (Nat.le_of_ble_eq_true rfl) hS dX4_init_6 (fun H f0 g hS => ?_)
  replace ho := ho.kept (g.2 _ ho.lt)
  replace hz : H.size = a + 2 := by have h7 := g.1; omega
  clear g
  refine W_nrm (c2 := 1) (s2 := 5) rfl rfl ?_
  refine rpF (C := RX4) (T := TX4) (N := 10) (v := .ref (a + 1)) (ty := .array .int) hx hb hT inX4 tyX4 tyX4_ok nmX4 hown hK ho rfl 0 (by decide) mf_X4_9 rfl hnm rfl (by decide +kernel) rfl rfl (Nat.le_of_ble_eq_true rfl) hS (show _ ∧ _ from ⟨by omega, by omega⟩) dX4_init_8 (fun H locs h1 o hS => ?_)
  replace ho : ob G 4 a [.ref (a + 1), .int 0, .int 0, .null, .null, .null, .null, .null, .null, .null] H := h1
  replace f0 := f0.kept (o.2 _ (by omega))
  replace hz : H.size = a + 2 := o.1.trans hz
  clear o
  refine lv_aload_n hx hb dX4_init_11 rfl (lv_at hl 0 rfl) ?_
  refine lv_iconst (v := 5) hx hb dX4_init_12 (by decide) ?_
  refine r_newI (n := 5) (h := a + 2) hx hb hT hK rfl (by decide) hz (Nat.le_of_ble_eq_true rfl) (Nat.le_of_ble_eq_true rfl) hS dX4_init_13 (fun H f3 g hS => ?_)
  replace ho := ho.kept (g.2 _ ho.lt)
  replace f0 := f0.kept (g.2 _ f0.lt)
  replace hz : H.size = a + 3 := by have h7 := g.1; omega
  clear g
  refine W_nrm (c2 := 2) (s2 := 10) rfl rfl ?_
  refine rpF (C := RX4) (T := TX4) (N := 10) (v := .ref (a + 2)) (ty := .array .int) hx hb hT inX4 tyX4 tyX4_ok nmX4 hown hK ho rfl 3 (by decide) mf_X4_15 rfl hnm rfl (by decide +kernel) rfl rfl (Nat.le_of_ble_eq_true rfl) hS (show _ ∧ _ from ⟨by omega, by omega⟩) dX4_init_15 (fun H locs h1 o hS => ?_)
  replace ho : ob G 4 a [.ref (a + 1), .int 0, .int 0, .ref (a + 2), .null, .null, .null, .null, .null, .null] H := h1
  replace f0 := f0.kept (o.2 _ (by omega))
  replace f3 := f3.kept (o.2 _ (by omega))
  replace hz : H.size = a + 3 := o.1.trans hz
  clear o
  refine lv_aload_n hx hb dX4_init_18 rfl (lv_at hl 0 rfl) ?_
  refine lv_iconst (v := 3) hx hb dX4_init_19 (by decide) ?_
  refine r_newI (n := 3) (h := a + 3) hx hb hT hK rfl (by decide) hz (Nat.le_of_ble_eq_true rfl) (Nat.le_of_ble_eq_true rfl) hS dX4_init_20 (fun H f4 g hS => ?_)
  replace ho := ho.kept (g.2 _ ho.lt)
  replace f0 := f0.kept (g.2 _ f0.lt)
  replace f3 := f3.kept (g.2 _ f3.lt)
  replace hz : H.size = a + 4 := by have h7 := g.1; omega
  clear g
  refine W_nrm (c2 := 3) (s2 := 13) rfl rfl ?_
  refine rpF (C := RX4) (T := TX4) (N := 10) (v := .ref (a + 3)) (ty := .array .int) hx hb hT inX4 tyX4 tyX4_ok nmX4 hown hK ho rfl 4 (by decide) mf_X4_18 rfl hnm rfl (by decide +kernel) rfl rfl (Nat.le_of_ble_eq_true rfl) hS (show _ ∧ _ from ⟨by omega, by omega⟩) dX4_init_22 (fun H locs h1 o hS => ?_)
  replace ho : ob G 4 a [.ref (a + 1), .int 0, .int 0, .ref (a + 2), .ref (a + 3), .null, .null, .null, .null, .null] H := h1
  replace f0 := f0.kept (o.2 _ (by omega))
  replace f3 := f3.kept (o.2 _ (by omega))
  replace f4 := f4.kept (o.2 _ (by omega))
  replace hz : H.size = a + 4 := o.1.trans hz
  clear o
  refine lv_aload_n hx hb dX4_init_25 rfl (lv_at hl 0 rfl) ?_
  refine lv_iconst (v := 3) hx hb dX4_init_26 (by decide) ?_
  refine r_newI (n := 3) (h := a + 4) hx hb hT hK rfl (by decide) hz (Nat.le_of_ble_eq_true rfl) (Nat.le_of_ble_eq_true rfl) hS dX4_init_27 (fun H f5 g hS => ?_)
  replace ho := ho.kept (g.2 _ ho.lt)
  replace f0 := f0.kept (g.2 _ f0.lt)
  replace f3 := f3.kept (g.2 _ f3.lt)
  replace f4 := f4.kept (g.2 _ f4.lt)
  replace hz : H.size = a + 5 := by have h7 := g.1; omega
  clear g
  refine W_nrm (c2 := 4) (s2 := 16) rfl rfl ?_
  refine rpF (C := RX4) (T := TX4) (N := 10) (v := .ref (a + 4)) (ty := .array .int) hx hb hT inX4 tyX4 tyX4_ok nmX4 hown hK ho rfl 5 (by decide) mf_X4_21 rfl hnm rfl (by decide +kernel) rfl rfl (Nat.le_of_ble_eq_true rfl) hS (show _ ∧ _ from ⟨by omega, by omega⟩) dX4_init_29 (fun H locs h1 o hS => ?_)
  replace ho : ob G 4 a [.ref (a + 1), .int 0, .int 0, .ref (a + 2), .ref (a + 3), .ref (a + 4), .null, .null, .null, .null] H := h1
  replace f0 := f0.kept (o.2 _ (by omega))
  replace f3 := f3.kept (o.2 _ (by omega))
  replace f4 := f4.kept (o.2 _ (by omega))
  replace f5 := f5.kept (o.2 _ (by omega))
  replace hz : H.size = a + 5 := o.1.trans hz
  clear o
  refine lv_aload_n hx hb dX4_init_32 rfl (lv_at hl 0 rfl) ?_
  refine lv_iconst (v := 5) hx hb dX4_init_33 (by decide) ?_
  refine lv_iconst (v := 4) hx hb dX4_init_34 (by decide) ?_
  refine r_mna (n := 5) (k := 4) (h := a + 5) hx hb hT hown ml_X4_24 hX.1.2.2 hK rfl rfl (by decide) (by decide) hz (Nat.le_of_ble_eq_true rfl) (Nat.le_of_ble_eq_true rfl) hS dX4_init_35 (fun H ha hb2 g hS => ?_)
  replace ho := ho.kept (g.2 _ ho.lt)
  replace f0 := f0.kept (g.2 _ f0.lt)
  replace f3 := f3.kept (g.2 _ f3.lt)
  replace f4 := f4.kept (g.2 _ f4.lt)
  replace f5 := f5.kept (g.2 _ f5.lt)
  replace hz : H.size = a + 11 := by have h7 := g.1; omega
  clear g
  have f6 : G2 G (a + 5) (fun _ => 0) H := ⟨qA_ext ha (fun j hj => if_pos hj), fun i hi => hb2 i hi⟩
  refine W_nrm (c2 := 10) (s2 := 41) rfl rfl ?_
  refine rpF (C := RX4) (T := TX4) (N := 10) (v := .ref (a + 5)) (ty := .array (.array .int)) hx hb hT inX4 tyX4 tyX4_ok nmX4 hown hK ho rfl 6 (by decide) mf_X4_26 rfl hnm rfl (by decide +kernel) rfl rfl (Nat.le_of_ble_eq_true rfl) hS (show _ ∧ _ from ⟨by omega, by omega⟩) dX4_init_39 (fun H locs h1 o hS => ?_)
  replace ho : ob G 4 a [.ref (a + 1), .int 0, .int 0, .ref (a + 2), .ref (a + 3), .ref (a + 4), .ref (a + 5), .null, .null, .null] H := h1
  replace f0 := f0.kept (o.2 _ (by omega))
  replace f3 := f3.kept (o.2 _ (by omega))
  replace f4 := f4.kept (o.2 _ (by omega))
  replace f5 := f5.kept (o.2 _ (by omega))
  replace f6 := f6.kept (fun q h8 h9 => o.2 q (by omega))
  replace hz : H.size = a + 11 := o.1.trans hz
  clear o
  refine lv_aload_n hx hb dX4_init_42 rfl (lv_at hl 0 rfl) ?_
  refine lv_iconst (v := 5) hx hb dX4_init_43 (by decide) ?_
  refine lv_iconst (v := 4) hx hb dX4_init_44 (by decide) ?_
  refine r_mna (n := 5) (k := 4) (h := a + 11) hx hb hT hown ml_X4_24 hX.1.2.2 hK rfl rfl (by decide) (by decide) hz (Nat.le_of_ble_eq_true rfl) (Nat.le_of_ble_eq_true rfl) hS dX4_init_45 (fun H ha hb2 g hS => ?_)
  replace ho := ho.kept (g.2 _ ho.lt)
  replace f0 := f0.kept (g.2 _ f0.lt)
  replace f3 := f3.kept (g.2 _ f3.lt)
  replace f4 := f4.kept (g.2 _ f4.lt)
  replace f5 := f5.kept (g.2 _ f5.lt)
  replace f6 := f6.kept (fun q h8 h9 => g.2 q (by have h7 := f6.top; omega))
  replace hz : H.size = a + 17 := by have h7 := g.1; omega
  clear g
  have f7 : G2 G (a + 11) (fun _ => 0) H := ⟨qA_ext ha (fun j hj => if_pos hj), fun i hi => hb2 i hi⟩
  refine W_nrm (c2 := 16) (s2 := 66) rfl rfl ?_
  refine rpF (C := RX4) (T := TX4) (N := 10) (v := .ref (a + 11)) (ty := .array (.array .int)) hx hb hT inX4 tyX4 tyX4_ok nmX4 hown hK ho rfl 7 (by decide) mf_X4_29 rfl hnm rfl (by decide +kernel) rfl rfl (Nat.le_of_ble_eq_true rfl) hS (show _ ∧ _ from ⟨by omega, by omega⟩) dX4_init_49 (fun H locs h1 o hS => ?_)
  replace ho : ob G 4 a [.ref (a + 1), .int 0, .int 0, .ref (a + 2), .ref (a + 3), .ref (a + 4), .ref (a + 5), .ref (a + 11), .null, .null] H := h1
  replace f0 := f0.kept (o.2 _ (by omega))
  replace f3 := f3.kept (o.2 _ (by omega))
  replace f4 := f4.kept (o.2 _ (by omega))
  replace f5 := f5.kept (o.2 _ (by omega))
  replace f6 := f6.kept (fun q h8 h9 => o.2 q (by omega))
  replace f7 := f7.kept (fun q h8 h9 => o.2 q (by omega))
  replace hz : H.size = a + 17 := o.1.trans hz
  clear o
  refine lv_aload_n hx hb dX4_init_52 rfl (lv_at hl 0 rfl) ?_
  refine lv_iconst (v := 5) hx hb dX4_init_53 (by decide) ?_
  refine lv_iconst (v := 4) hx hb dX4_init_54 (by decide) ?_
  refine r_mna (n := 5) (k := 4) (h := a + 17) hx hb hT hown ml_X4_24 hX.1.2.2 hK rfl rfl (by decide) (by decide) hz (Nat.le_of_ble_eq_true rfl) (Nat.le_of_ble_eq_true rfl) hS dX4_init_55 (fun H ha hb2 g hS => ?_)
  replace ho := ho.kept (g.2 _ ho.lt)
  replace f0 := f0.kept (g.2 _ f0.lt)
  replace f3 := f3.kept (g.2 _ f3.lt)
  replace f4 := f4.kept (g.2 _ f4.lt)
  replace f5 := f5.kept (g.2 _ f5.lt)
  replace f6 := f6.kept (fun q h8 h9 => g.2 q (by have h7 := f6.top; omega))
  replace f7 := f7.kept (fun q h8 h9 => g.2 q (by have h7 := f7.top; omega))
  replace hz : H.size = a + 23 := by have h7 := g.1; omega
  clear g
  have f8 : G2 G (a + 17) (fun _ => 0) H := ⟨qA_ext ha (fun j hj => if_pos hj), fun i hi => hb2 i hi⟩
  refine W_nrm (c2 := 22) (s2 := 91) rfl rfl ?_
  refine rpF (C := RX4) (T := TX4) (N := 10) (v := .ref (a + 17)) (ty := .array (.array .int)) hx hb hT inX4 tyX4 tyX4_ok nmX4 hown hK ho rfl 8 (by decide) mf_X4_32 rfl hnm rfl (by decide +kernel) rfl rfl (Nat.le_of_ble_eq_true rfl) hS (show _ ∧ _ from ⟨by omega, by omega⟩) dX4_init_59 (fun H locs h1 o hS => ?_)
  replace ho : ob G 4 a [.ref (a + 1), .int 0, .int 0, .ref (a + 2), .ref (a + 3), .ref (a + 4), .ref (a + 5), .ref (a + 11), .ref (a + 17), .null] H := h1
  replace f0 := f0.kept (o.2 _ (by omega))
  replace f3 := f3.kept (o.2 _ (by omega))
  replace f4 := f4.kept (o.2 _ (by omega))
  replace f5 := f5.kept (o.2 _ (by omega))
  replace f6 := f6.kept (fun q h8 h9 => o.2 q (by omega))
  replace f7 := f7.kept (fun q h8 h9 => o.2 q (by omega))
  replace f8 := f8.kept (fun q h8 h9 => o.2 q (by omega))
  replace hz : H.size = a + 23 := o.1.trans hz
  clear o
  refine lv_aload_n hx hb dX4_init_62 rfl (lv_at hl 0 rfl) ?_
  refine lv_iconst (v := 5) hx hb dX4_init_63 (by decide) ?_
  refine lv_iconst (v := 4) hx hb dX4_init_64 (by decide) ?_
  refine r_mna (n := 5) (k := 4) (h := a + 23) hx hb hT hown ml_X4_24 hX.1.2.2 hK rfl rfl (by decide) (by decide) hz (Nat.le_of_ble_eq_true rfl) (Nat.le_of_ble_eq_true rfl) hS dX4_init_65 (fun H ha hb2 g hS => ?_)
  replace ho := ho.kept (g.2 _ ho.lt)
  replace f0 := f0.kept (g.2 _ f0.lt)
  replace f3 := f3.kept (g.2 _ f3.lt)
  replace f4 := f4.kept (g.2 _ f4.lt)
  replace f5 := f5.kept (g.2 _ f5.lt)
  replace f6 := f6.kept (fun q h8 h9 => g.2 q (by have h7 := f6.top; omega))
  replace f7 := f7.kept (fun q h8 h9 => g.2 q (by have h7 := f7.top; omega))
  replace f8 := f8.kept (fun q h8 h9 => g.2 q (by have h7 := f8.top; omega))
  replace hz : H.size = a + 29 := by have h7 := g.1; omega
  clear g
  have f9 : G2 G (a + 23) (fun _ => 0) H := ⟨qA_ext ha (fun j hj => if_pos hj), fun i hi => hb2 i hi⟩
  refine W_nrm (c2 := 28) (s2 := 116) rfl rfl ?_
  refine rpF (C := RX4) (T := TX4) (N := 10) (v := .ref (a + 23)) (ty := .array (.array .int)) hx hb hT inX4 tyX4 tyX4_ok nmX4 hown hK ho rfl 9 (by decide) mf_X4_35 rfl hnm rfl (by decide +kernel) rfl rfl (Nat.le_of_ble_eq_true rfl) hS (show _ ∧ _ from ⟨by omega, by omega⟩) dX4_init_69 (fun H locs h1 o hS => ?_)
  replace ho : ob G 4 a [.ref (a + 1), .int 0, .int 0, .ref (a + 2), .ref (a + 3), .ref (a + 4), .ref (a + 5), .ref (a + 11), .ref (a + 17), .ref (a + 23)] H := h1
  replace f0 := f0.kept (o.2 _ (by omega))
  replace f3 := f3.kept (o.2 _ (by omega))
  replace f4 := f4.kept (o.2 _ (by omega))
  replace f5 := f5.kept (o.2 _ (by omega))
  replace f6 := f6.kept (fun q h8 h9 => o.2 q (by omega))
  replace f7 := f7.kept (fun q h8 h9 => o.2 q (by omega))
  replace f8 := f8.kept (fun q h8 h9 => o.2 q (by omega))
  replace f9 := f9.kept (fun q h8 h9 => o.2 q (by omega))
  replace hz : H.size = a + 29 := o.1.trans hz
  clear o
  exact nd_V hQ hx hb hr hlocks dX4_init_72 hS (⟨⟨ho, f0, f3, f4, f5, f6, f7, f8, f9⟩, hz⟩)
