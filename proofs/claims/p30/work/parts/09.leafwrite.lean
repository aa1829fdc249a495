/-! arraycopy, fill; the leaf's writers -/
theorem mnat_copy : Cond.native arraycopyName ∈ lw_good := List.mem_filter.mpr ⟨by decide +kernel, by decide +kernel⟩
section MYX
variable {p : Program} {l : Launch} {e : Env} {R : Room} {s : State} {m : MethodId} {args : Array Value} {below : List Frame} {meth : Method} {c : Code} {H : Heap} {locs : List Loc} {cells slots : Nat} {Q : State → Prop}
variable {cc : ByteArray} {pc : Nat} {ls : Array Slot} {rest : List Value} {a : Nat} {G : GG} {A : Nat → Prop} {H0 : Heap}
theorem r_copy (hx : p.tables.exec = Jvm.exec) (hb : c.code = cc) (hml : c.maxLocals = ls.size) {own : String} {index : Nat} (hown : s.vm.findClass own = some m.cls) (hT : ∀ w ∈ lw_good, w.before args s = true) (hlink : Cond.methodLink own index arraycopyName ∈ lw_good) (hK : Kn G s)
    {a0 n0 n1 : Nat} {f g : Nat → Int32} (ha0 : ar G 0 a0 (iA n0 f) H) (ha1 : ar G 0 a (iA n1 g) H) {sp dp n : Int32} (s0 d0 k : Nat) (es : sp = nI s0) (ed : dp = nI d0) (en : n = nI k) (h4 : s0 + k ≤ n0) (h5 : d0 + k ≤ n1) (hn0 : n0 < 2 ^ 31) (hn1 : n1 < 2 ^ 31) (hS : va_S A H0 H locs) (hA : A a)
    (hframes : 1 ≤ R.frames) (hlocals : (rest.map fun v => v.category).sum + (nativeFrameWords "java/lang/System" "arraycopy" 5 + 11) ≤ R.locals) (hdg : decode cc pc = .ok (.invokestatic index, 3))
    (kk : ∀ (H1 : Heap) (locs1 : List Loc), ar G 0 a (iA n1 (va_cpy f g s0 d0 k)) H1 → Oq a H H1 → va_S A H0 H1 locs1 → W p l e R s m args below meth c H1 locs1 cells slots Q (F0 m (pc + 3) ls rest)) : W p l e R s m args below meth c H locs cells slots Q (F0 m pc ls (.int n :: .int dp :: .ref a :: .int sp :: .ref a0 :: rest)) := by
  subst es
  subst ed
  subst en
  have c1 : (nI s0).toNatClampNeg = s0 := nI_clamp (by omega)
  have c2 : (nI d0).toNatClampNeg = d0 := nI_clamp (by omega)
  have c3 : (nI k).toNatClampNeg = k := nI_clamp (by omega)
  have t1 : (nI s0).toInt = (s0 : Int) := nI_toInt (by omega)
  have t2 : (nI d0).toInt = (d0 : Int) := nI_toInt (by omega)
  have t3 : (nI k).toInt = (k : Int) := nI_toInt (by omega)
  intro T hTh X
  have hc0 : H[a0]? = some (vp_cell (G.2 0) (n0, .inl f)) := ha0
  have hc1 : H[a]? = some (vp_cell (G.2 0) (n1, .inl g)) := ha1
  obtain ⟨-, k0, hk0, cm0, hkk0⟩ := (hK.2 0 _ rfl).1 n0 (fun j => .int (f j))
  obtain ⟨-, k1, hk1, cm1, hkk1⟩ := (hK.2 0 _ rfl).1 n1 (fun j => .int (g j))
  obtain ⟨vm', X', step⟩ := X.arraycopy hx hown (hT _ hlink) (hT _ mnat_copy) (hT _ mst_System_arraycopy) (hT _ mz_J10) (src := a0) (dst := a) (cs := vp_cell (G.2 0) (n0, .inl f)) (cd := vp_cell (G.2 0) (n1, .inl g)) (srcPos := nI s0) (destPos := nI d0) (n := nI k) (by rw [hTh]; exact hc0) (by rw [hTh]; exact hc1)
    (fun _ h => by cases h) (fun _ h => by cases h) (fun h => by cases h) (fun h => by cases h) hk0 hk1 hkk0 hkk1 rfl (nI_pos (by omega)) (nI_pos (by omega)) (nI_pos (by omega))
    (by rw [t1, t3]; show ¬ _ > ((arrV _ n0 (fun j => .int (f j))).slots.size : Int); rw [arrV_size]; omega)
    (by rw [t2, t3]; show ¬ _ > ((arrV _ n1 (fun j => .int (g j))).slots.size : Int); rw [arrV_size]; omega)
    (fun vm₁ _ i hi => by
      rw [c3] at hi
      have e : (vp_cell (G.2 0) (n0, .inl f)).slots.getD ((nI s0).toNatClampNeg + i) .null = .int (f ((nI s0).toNatClampNeg + i)) := by
        show (arrV _ n0 (fun j => .int (f j))).slots.getD _ _ = _
        rw [Array.getD_eq_getD_getElem?, arrV_read _ _ (by omega)]
        rfl
      refine ⟨?_, ?_⟩
      · rw [e]
        rfl
      · rw [e]
        exact trivial)
    (g := F0 m pc ls (.int (nI k) :: .int (nI d0) :: .ref a :: .int (nI s0) :: .ref a0 :: rest)) rfl (by rw [hml]) (rest := rest) rfl (by rw [hb]; exact hdg) hframes (by show 2 * 0 + _ + _ ≤ _; omega)
  have e1 : copied (vp_cell (G.2 0) (n0, .inl f)) (vp_cell (G.2 0) (n1, .inl g)) (nI s0) (nI d0) (nI k) = vp_cell (G.2 0) (n1, .inl (va_cpy f g s0 d0 k)) := by
    have := va_copied (fun z : Int32 => Value.int z) (G.2 0) (G.2 0) (n0 := n0) (n1 := n1) (sp := (nI s0).toNatClampNeg) (dp := (nI d0).toNatClampNeg) (n := (nI k).toNatClampNeg) f g (by rw [c1, c3]; exact h4)
    refine Eq.trans this ?_
    rw [c1, c2, c3]
    rfl
  rw [e1] at X' step
  have hl : a < H.size := (Array.getElem?_eq_some_iff.mp hc1).1
  have hheap : ((T.setVm vm').setCell a (vp_cell (G.2 0) (n1, .inl (va_cpy f g s0 d0 k)))).heap = H.setIfInBounds a (vp_cell (G.2 0) (n1, .inl (va_cpy f g s0 d0 k))) := by rw [← hTh]; rfl
  have oq : ∀ q : Nat, q ≠ a → (H.setIfInBounds a (vp_cell (G.2 0) (n1, .inl (va_cpy f g s0 d0 k))))[q]? = H[q]? := fun q hq => by simp [Array.getElem?_setIfInBounds, Ne.symm hq]
  obtain ⟨t, a1, b1⟩ := kk _ _ (show (H.setIfInBounds a _)[a]? = some _ by simp [Array.getElem?_setIfInBounds, hl]) ⟨by simp, oq⟩ ⟨by simp; exact hS.1, fun q g1 g2 => by
      rw [oq q (fun e => g2 (by rw [e]; exact hA))]
      exact hS.2.1 q g1 g2, fun q hq => by
      rcases List.mem_append.mp hq with h | h
      · exact hS.2.2 q h
      · obtain ⟨z, -, hz⟩ := List.mem_map.mp h
        rw [← hz]
        exact hA⟩ _ hheap X'
  exact ⟨t, step t a1, b1⟩
end MYX
theorem cpy00 {f g : Nat → Int32} {k j : Nat} (h : j < k) : va_cpy f g 0 0 k j = f j := by
  unfold va_cpy
  rw [if_pos ⟨Nat.zero_le _, by omega⟩]
  congr 1
  omega

set_option maxHeartbeats 4000000 in
set_option maxRecDepth 100000 in
theorem k_J7_fill_53178 (l : Launch) (G : GG) (a n : Nat) (f : Nat → Int32) (v : Int32) (hn : n < 2 ^ 31) : Met l yJ7_fill_53178 (ws_ yJ7_fill_53178 cJ7_fill_53178 4 (none : Option Jvm.ClassFile.FieldType)) (rm_ 0) (PC G [.ref a, .int v] (ar G 0 a (iA n f))) (QV (ar G 0 a (iA n (fun _ => v))) (fun q => q = a)) 0 0 (fun q => q = a) := by
  refine met_q (by decide +kernel) (Nat.le_of_ble_eq_true rfl) ?_
  intro p e s m args below meth c Q hQ hx hb hr hT hown hml hlocks hnm hK hA0 ls hl
  have hl : lv_has ls 4 [(0, .ref a), (1, .int v)] := hl
  have hS : va_S (fun q => q = a) s.heap s.heap [] := va_S.rf
  refine lv_iconst (v := 0) hx hb dJ7_fill_53178_0 (by decide) ?_
  refine lv_istore_n (lv' := [(2, .int 0), (0, .ref a), (1, .int v)]) hx hb dJ7_fill_53178_1 rfl hl (by decide) rfl (fun ls hl => ?_)
  refine lv_aload_n hx hb dJ7_fill_53178_2 rfl (lv_at hl 1 rfl) ?_
  refine r_alen hx hb hK hA0 rfl (v := (nI n)) rfl dJ7_fill_53178_3 ?_
  refine lv_istore_n (lv' := [(3, .int (nI n)), (2, .int 0), (0, .ref a), (1, .int v)]) hx hb dJ7_fill_53178_4 rfl hl (by decide) rfl (fun ls hl => ?_)
  have loop : ∀ (k : Nat) (i : Nat) (H : Heap) (locs : List Loc), va_S (fun q => q = a) s.heap H locs → i ≤ n → ar G 0 a (iA n (fun j => if j < i then v else f j)) H → n - i < k → ∀ ls : Array Slot, lv_has ls 4 [(3, .int (nI n)), (2, .int (nI i)), (0, .ref a), (1, .int v)] → W p l e (rm_ 0) s m args below meth c H locs 0 0 Q (F0 m 5 ls []) := by
    intro k
    induction k with
    | zero => intro i H locs hS hi hA0 hm; exact absurd hm (Nat.not_lt_zero _)
    | succ k ih =>
      intro i H locs hS hi hA0 hm ls hl
      refine lv_iload_n hx hb dJ7_fill_53178_5 rfl (lv_at hl 1 rfl) ?_
      refine lv_iload_n hx hb dJ7_fill_53178_6 rfl (lv_at hl 0 rfl) ?_
      refine lv_icmp_ge (tgt := 20) hx hb dJ7_fill_53178_7 (by decide) (fun cd => ?_) (fun cd => ?_)
      · have hge : n ≤ i := by rw [nI_leI (by omega) (by omega)] at cd; exact cd
        exact nd_V hQ hx hb hr hlocks dJ7_fill_53178_20 hS (iA_ext hA0 (fun j hj => if_pos (by omega)))
      · have hlt : i < n := by rw [nI_leI (by omega) (by omega)] at cd; omega
        refine lv_aload_n hx hb dJ7_fill_53178_10 rfl (lv_at hl 2 rfl) ?_
        refine lv_iload_n hx hb dJ7_fill_53178_11 rfl (lv_at hl 1 rfl) ?_
        refine lv_iload_n hx hb dJ7_fill_53178_12 rfl (lv_at hl 3 rfl) ?_
        have hn9 := hn
        refine r_iast hx hb hK hA0 i rfl hlt hn hS rfl dJ7_fill_53178_13 (fun H locs h1 o hS => ?_)
        have hA0 : ar G 0 a (iA n (fun j => if j < i + 1 then v else f j)) H := iA_ext h1 (fun j hj => by
          simp only [upd]
          by_cases q : j = i
          · rw [if_pos q, if_pos (by omega)]
          · rw [if_neg q]
            by_cases q2 : j < i
            · rw [if_pos q2, if_pos (by omega)]
            · rw [if_neg q2, if_neg (by omega)])
        refine lv_iinc (v := nI (i + 1)) (lv' := [(2, .int (nI (i + 1))), (3, .int (nI n)), (0, .ref a), (1, .int v)]) hx hb dJ7_fill_53178_14 hl (k := 1) rfl (nI_1 i) (by decide) rfl (fun ls hl => ?_)
        refine lv_goto (tgt := 5) hx hb dJ7_fill_53178_17 (by decide) ?_
        exact ih (i + 1) _ _ hS (by omega) hA0 (by omega) ls (lv_sub hl [1, 0, 2, 3] rfl)
  exact loop (n + 1) 0 _ _ hS (Nat.zero_le _) (iA_ext hA0 (fun j hj => (if_neg (Nat.not_lt_zero _)).symm)) (by omega) ls (lv_sub hl [0, 1, 2, 3] rfl)

def cfF (f : Nat → Int32) (p st : Int32) : Nat → Int32 := fun k => if k = 0 then p else if k = 11 then st else if k < 8 then 0 else if 12 ≤ k then 0 else f k

set_option maxHeartbeats 4000000 in
set_option maxRecDepth 100000 in
theorem k_X1_comeFresh (l : Launch) (G : GG) (a : Nat) (f : Nat → Int32) (x y : Int32)  : Met l yX1_comeFresh (ws_ yX1_comeFresh cX1_comeFresh 3 (none : Option Jvm.ClassFile.FieldType)) (rm_ 1) (PC G [.ref a, .int x, .int y] (LeafAt G a f)) (QV (LeafAt G a (cfF f x y)) (In a 3)) 0 0 (In a 3) := by
  refine met_q (by decide +kernel) (Nat.le_of_ble_eq_true rfl) ?_
  intro p e s m args below meth c Q hQ hx hb hr hT hown hml hlocks hnm hK hL ls hl
  have hl : lv_has ls 3 [(0, .ref a), (1, .int x), (2, .int y)] := hl
  have hS : va_S (In a 3) s.heap s.heap [] := va_S.rf
  refine lv_aload_n hx hb dX1_comeFresh_0 rfl (lv_at hl 0 rfl) ?_
  refine lv_iload_n hx hb dX1_comeFresh_1 rfl (lv_at hl 1 rfl) ?_
  refine rp (C := RX1) (T := TX1) (N := 6) (v := .int x) (ty := .int) hx hb hT inX1 tyX1 tyX1_ok nmX1 hown hK hL.1 rfl 0 (by decide) mf_X1_18 rfl (by decide +kernel) rfl rfl (Nat.le_of_ble_eq_true rfl) hS (show _ ∧ _ from ⟨by omega, by omega⟩) dX1_comeFresh_2 (fun H locs h1 o hS => ?_)
  have hL := hL.p0 h1 o
  refine lv_aload_n hx hb dX1_comeFresh_5 rfl (lv_at hl 0 rfl) ?_
  refine lv_iload_n hx hb dX1_comeFresh_6 rfl (lv_at hl 2 rfl) ?_
  refine rp (C := RX1) (T := TX1) (N := 6) (v := .int y) (ty := .int) hx hb hT inX1 tyX1 tyX1_ok nmX1 hown hK hL.1 rfl 1 (by decide) mf_X1_22 rfl (by decide +kernel) rfl rfl (Nat.le_of_ble_eq_true rfl) hS (show _ ∧ _ from ⟨by omega, by omega⟩) dX1_comeFresh_7 (fun H locs h1 o hS => ?_)
  have hL := hL.p1 h1 o
  refine lv_aload_n hx hb dX1_comeFresh_10 rfl (lv_at hl 0 rfl) ?_
  refine lv_iconst (v := 0) hx hb dX1_comeFresh_11 (by decide) ?_
  refine rp (C := RX1) (T := TX1) (N := 6) (v := .int 0) (ty := .int) hx hb hT inX1 tyX1 tyX1_ok nmX1 hown hK hL.1 rfl 2 (by decide) mf_X1_25 rfl (by decide +kernel) rfl rfl (Nat.le_of_ble_eq_true rfl) hS (show _ ∧ _ from ⟨by omega, by omega⟩) dX1_comeFresh_12 (fun H locs h1 o hS => ?_)
  have hL := hL.p2 h1 o
  refine lv_aload_n hx hb dX1_comeFresh_15 rfl (lv_at hl 0 rfl) ?_
  refine lv_iconst (v := 0) hx hb dX1_comeFresh_16 (by decide) ?_
  refine rp (C := RX1) (T := TX1) (N := 6) (v := .int 0) (ty := .int) hx hb hT inX1 tyX1 tyX1_ok nmX1 hown hK hL.1 rfl 3 (by decide) mf_X1_28 rfl (by decide +kernel) rfl rfl (Nat.le_of_ble_eq_true rfl) hS (show _ ∧ _ from ⟨by omega, by omega⟩) dX1_comeFresh_17 (fun H locs h1 o hS => ?_)
  have hL := hL.p3 h1 o
  refine lv_aload_n hx hb dX1_comeFresh_20 rfl (lv_at hl 0 rfl) ?_
  refine rg (C := RX1) (T := TX1) (N := 6) (v := .ref (a + 1)) hx hb hT inX1 hown hK hL.1 rfl 4 (by decide) mf_X1_9 rfl dX1_comeFresh_21 ?_
  refine lv_iconst (v := 0) hx hb dX1_comeFresh_24 (by decide) ?_
  refine got_V (run_s hx hb hml hown hT hK hl.1 (k_J7_fill_53178 l G (a + 1) 7 _ 0 (Nat.le_of_ble_eq_true rfl)) (cw_X1_37 hT ⟨Nat.le_of_ble_eq_true rfl, Nat.le_of_ble_eq_true rfl⟩) hL.2.1 rfl rfl (Nat.le_of_ble_eq_true rfl) dX1_comeFresh_25 ⟨Nat.zero_le _, Nat.zero_le _⟩) hS (fun q (hq : q = a + 1) => show _ ∧ _ from ⟨by omega, by omega⟩) (fun q (hq : q = a + 1) => show _ ∧ _ from ⟨by omega, by omega⟩) (fun  H locs h1 hz hk hS => ?_)
  have hlt := hL.2.2.lt
  exact nd_V hQ hx hb hr hlocks dX1_comeFresh_28 hS (⟨hL.1.kept (hk _ (by omega) (by omega)), h1, iA_ext (hL.2.2.kept (hk _ (by omega) (by omega))) (fun j hj => by
      simp only [upd, cfF]
      rw [if_neg (show ¬ 8 + j = 13 by omega), if_neg (show ¬ 8 + j = 12 by omega), if_neg (show ¬ 8 + j = 11 by omega), if_neg (show ¬ 8 + j = 0 by omega), if_neg (show ¬ 8 + j = 0 by omega), if_neg (show ¬ 8 + j = 11 by omega), if_neg (show ¬ 8 + j < 8 by omega), if_neg (show ¬ 12 ≤ 8 + j by omega)])⟩)

set_option maxHeartbeats 4000000 in
set_option maxRecDepth 100000 in
theorem k_X1_copyFrom (l : Launch) (G : GG) (a a2 : Nat) (f f2 : Nat → Int32) (hne : a + 3 ≤ a2 ∨ a2 + 3 ≤ a) : Met l yX1_copyFrom (ws_ yX1_copyFrom cX1_copyFrom 2 (none : Option Jvm.ClassFile.FieldType)) (rm_ 1) (PC G [.ref a, .ref a2] (fun H => LeafAt G a f H ∧ LeafAt G a2 f2 H)) (QV (LeafAt G a f2) (In a 3)) 0 0 (In a 3) := by
  refine met_q (by decide +kernel) (Nat.le_of_ble_eq_true rfl) ?_
  intro p e s m args below meth c Q hQ hx hb hr hT hown hml hlocks hnm hK ⟨hL, hL2⟩ ls hl
  have hl : lv_has ls 2 [(0, .ref a), (1, .ref a2)] := hl
  have hS : va_S (In a 3) s.heap s.heap [] := va_S.rf
  refine lv_aload_n hx hb dX1_copyFrom_0 rfl (lv_at hl 0 rfl) ?_
  refine lv_aload_n hx hb dX1_copyFrom_1 rfl (lv_at hl 1 rfl) ?_
  refine rg (C := RX1) (T := TX1) (N := 6) (v := .int (f2 0)) hx hb hT inX1 hown hK hL2.1 rfl 0 (by decide) mf_X1_18 rfl dX1_copyFrom_2 ?_
  refine rp (C := RX1) (T := TX1) (N := 6) (v := .int (f2 0)) (ty := .int) hx hb hT inX1 tyX1 tyX1_ok nmX1 hown hK hL.1 rfl 0 (by decide) mf_X1_18 rfl (by decide +kernel) rfl rfl (Nat.le_of_ble_eq_true rfl) hS (show _ ∧ _ from ⟨by omega, by omega⟩) dX1_copyFrom_5 (fun H locs h1 o hS => ?_)
  have hL := hL.p0 h1 o
  have hL2 := hL2.kept (fun q _ _ => o.2 q (by omega))
  refine lv_aload_n hx hb dX1_copyFrom_8 rfl (lv_at hl 0 rfl) ?_
  refine lv_aload_n hx hb dX1_copyFrom_9 rfl (lv_at hl 1 rfl) ?_
  refine rg (C := RX1) (T := TX1) (N := 6) (v := .int (f2 11)) hx hb hT inX1 hown hK hL2.1 rfl 1 (by decide) mf_X1_22 rfl dX1_copyFrom_10 ?_
  refine rp (C := RX1) (T := TX1) (N := 6) (v := .int (f2 11)) (ty := .int) hx hb hT inX1 tyX1 tyX1_ok nmX1 hown hK hL.1 rfl 1 (by decide) mf_X1_22 rfl (by decide +kernel) rfl rfl (Nat.le_of_ble_eq_true rfl) hS (show _ ∧ _ from ⟨by omega, by omega⟩) dX1_copyFrom_13 (fun H locs h1 o hS => ?_)
  have hL := hL.p1 h1 o
  have hL2 := hL2.kept (fun q _ _ => o.2 q (by omega))
  refine lv_aload_n hx hb dX1_copyFrom_16 rfl (lv_at hl 0 rfl) ?_
  refine lv_aload_n hx hb dX1_copyFrom_17 rfl (lv_at hl 1 rfl) ?_
  refine rg (C := RX1) (T := TX1) (N := 6) (v := .int (f2 12)) hx hb hT inX1 hown hK hL2.1 rfl 2 (by decide) mf_X1_25 rfl dX1_copyFrom_18 ?_
  refine rp (C := RX1) (T := TX1) (N := 6) (v := .int (f2 12)) (ty := .int) hx hb hT inX1 tyX1 tyX1_ok nmX1 hown hK hL.1 rfl 2 (by decide) mf_X1_25 rfl (by decide +kernel) rfl rfl (Nat.le_of_ble_eq_true rfl) hS (show _ ∧ _ from ⟨by omega, by omega⟩) dX1_copyFrom_21 (fun H locs h1 o hS => ?_)
  have hL := hL.p2 h1 o
  have hL2 := hL2.kept (fun q _ _ => o.2 q (by omega))
  refine lv_aload_n hx hb dX1_copyFrom_24 rfl (lv_at hl 0 rfl) ?_
  refine lv_aload_n hx hb dX1_copyFrom_25 rfl (lv_at hl 1 rfl) ?_
  refine rg (C := RX1) (T := TX1) (N := 6) (v := .int (f2 13)) hx hb hT inX1 hown hK hL2.1 rfl 3 (by decide) mf_X1_28 rfl dX1_copyFrom_26 ?_
  refine rp (C := RX1) (T := TX1) (N := 6) (v := .int (f2 13)) (ty := .int) hx hb hT inX1 tyX1 tyX1_ok nmX1 hown hK hL.1 rfl 3 (by decide) mf_X1_28 rfl (by decide +kernel) rfl rfl (Nat.le_of_ble_eq_true rfl) hS (show _ ∧ _ from ⟨by omega, by omega⟩) dX1_copyFrom_29 (fun H locs h1 o hS => ?_)
  have hL := hL.p3 h1 o
  have hL2 := hL2.kept (fun q _ _ => o.2 q (by omega))
  refine lv_aload_n hx hb dX1_copyFrom_32 rfl (lv_at hl 1 rfl) ?_
  refine rg (C := RX1) (T := TX1) (N := 6) (v := .ref (a2 + 1)) hx hb hT inX1 hown hK hL2.1 rfl 4 (by decide) mf_X1_9 rfl dX1_copyFrom_33 ?_
  refine lv_iconst (v := 0) hx hb dX1_copyFrom_36 (by decide) ?_
  refine lv_aload_n hx hb dX1_copyFrom_37 rfl (lv_at hl 0 rfl) ?_
  refine rg (C := RX1) (T := TX1) (N := 6) (v := .ref (a + 1)) hx hb hT inX1 hown hK hL.1 rfl 4 (by decide) mf_X1_9 rfl dX1_copyFrom_38 ?_
  refine lv_iconst (v := 0) hx hb dX1_copyFrom_41 (by decide) ?_
  refine lv_bipush (v := 7) hx hb dX1_copyFrom_42 (by decide) ?_
  refine r_copy hx hb (hml.trans hl.1.symm) hown hT mm_X1_31 hK hL2.2.1 hL.2.1 0 0 7 (by decide) (by decide) (by decide) (by omega) (by omega) (Nat.le_of_ble_eq_true rfl) (Nat.le_of_ble_eq_true rfl) hS (show _ ∧ _ from ⟨by omega, by omega⟩) (Nat.le_of_ble_eq_true rfl) (Nat.le_of_ble_eq_true rfl) dX1_copyFrom_44 (fun H locs h1 o hS => ?_)
  have hL2 := hL2.kept (fun q _ _ => o.2 q (by omega))
  have hc : ar G 0 (a + 1) (iA 7 (fun j => f2 (1 + j))) H := iA_ext h1 (fun j hj => cpy00 hj)
  have hO := hL.1.kept (o.2 _ (by omega))
  have hF := hL.2.2.kept (o.2 _ (by omega))
  refine lv_aload_n hx hb dX1_copyFrom_47 rfl (lv_at hl 1 rfl) ?_
  refine rg (C := RX1) (T := TX1) (N := 6) (v := .ref (a2 + 2)) hx hb hT inX1 hown hK hL2.1 rfl 5 (by decide) mf_X1_15 rfl dX1_copyFrom_48 ?_
  refine lv_iconst (v := 0) hx hb dX1_copyFrom_51 (by decide) ?_
  refine lv_aload_n hx hb dX1_copyFrom_52 rfl (lv_at hl 0 rfl) ?_
  refine rg (C := RX1) (T := TX1) (N := 6) (v := .ref (a + 2)) hx hb hT inX1 hown hK hO rfl 5 (by decide) mf_X1_15 rfl dX1_copyFrom_53 ?_
  refine lv_iconst (v := 0) hx hb dX1_copyFrom_56 (by decide) ?_
  refine lv_iconst (v := 3) hx hb dX1_copyFrom_57 (by decide) ?_
  refine r_copy hx hb (hml.trans hl.1.symm) hown hT mm_X1_31 hK hL2.2.2 hF 0 0 3 (by decide) (by decide) (by decide) (by omega) (by omega) (Nat.le_of_ble_eq_true rfl) (Nat.le_of_ble_eq_true rfl) hS (show _ ∧ _ from ⟨by omega, by omega⟩) (Nat.le_of_ble_eq_true rfl) (Nat.le_of_ble_eq_true rfl) dX1_copyFrom_58 (fun H locs h1 o hS => ?_)
  exact nd_V hQ hx hb hr hlocks dX1_copyFrom_61 hS (⟨hO.kept (o.2 _ (by omega)), hc.kept (o.2 _ (by omega)), iA_ext h1 (fun j hj => cpy00 hj)⟩)
