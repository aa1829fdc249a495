/-! THE SEARCH: its object, four rows, four tables of five rows: 29 cells from a on; S k: what the field k holds (a table's row i at 4 i) -/
def G2 (G : GG) (b : Nat) (f : Nat → Int32) (H : Heap) : Prop := ar G 5 b (qA 5 (fun i => some (b + 1 + i))) H ∧ ∀ i, i < 5 → ar G 0 (b + 1 + i) (iA 4 (fun j => f (4 * i + j))) H
theorem G2.kept {G : GG} {b : Nat} {f : Nat → Int32} {H H1 : Heap} (h : G2 G b f H) (e : ∀ q, b ≤ q → q < b + 6 → H1[q]? = H[q]?) : G2 G b f H1 := ⟨h.1.kept (e _ (by omega) (by omega)), fun i hi => (h.2 i hi).kept (e _ (by omega) (by omega))⟩
theorem G2.put {G : GG} {b i j : Nat} {f : Nat → Int32} {v : Int32} {H H1 : Heap} (h : G2 G b f H) (hi : i < 5) (hj : j < 4) (h1 : ar G 0 (b + 1 + i) (iA 4 (upd (fun j => f (4 * i + j)) j v)) H1) (o : Oq (b + 1 + i) H H1) : G2 G b (upd f (4 * i + j) v) H1 := by
  refine ⟨h.1.kept (o.2 _ (by omega)), fun i' hi' => ?_⟩
  by_cases q : i' = i
  · subst q
    exact iA_ext h1 (fun j' hj' => upd_add)
  · exact iA_ext ((h.2 i' hi').kept (o.2 _ (by omega))) (fun j' hj' => (upd_ne (by omega)).symm)
theorem G2.ext {G : GG} {b : Nat} {f g : Nat → Int32} {H : Heap} (h : G2 G b f H) (e : ∀ q, q < 20 → f q = g q) : G2 G b g H := ⟨h.1, fun i hi => iA_ext (h.2 i hi) (fun j hj => e _ (by omega))⟩
def SrAt (G : GG) (a : Nat) (S : Nat → Nat → Int32) (H : Heap) : Prop :=
  ob G 4 a [.ref (a + 1), .int (S 1 0), .int (S 2 0), .ref (a + 2), .ref (a + 3), .ref (a + 4), .ref (a + 5), .ref (a + 11), .ref (a + 17), .ref (a + 23)] H ∧ ar G 0 (a + 1) (iA 5 (S 0)) H ∧ ar G 0 (a + 2) (iA 5 (S 3)) H ∧ ar G 0 (a + 3) (iA 3 (S 4)) H ∧ ar G 0 (a + 4) (iA 3 (S 5)) H ∧ G2 G (a + 5) (S 6) H ∧ G2 G (a + 11) (S 7) H ∧ G2 G (a + 17) (S 8) H ∧ G2 G (a + 23) (S 9) H
theorem SrAt.kept {G : GG} {a : Nat} {S : Nat → Nat → Int32} {H H1 : Heap} (h : SrAt G a S H) (e : ∀ q, a ≤ q → q < a + 29 → H1[q]? = H[q]?) : SrAt G a S H1 :=
  ⟨h.1.kept (e _ (by omega) (by omega)), h.2.1.kept (e _ (by omega) (by omega)), h.2.2.1.kept (e _ (by omega) (by omega)), h.2.2.2.1.kept (e _ (by omega) (by omega)), h.2.2.2.2.1.kept (e _ (by omega) (by omega)), h.2.2.2.2.2.1.kept (fun q _ _ => e q (by omega) (by omega)), h.2.2.2.2.2.2.1.kept (fun q _ _ => e q (by omega) (by omega)), h.2.2.2.2.2.2.2.1.kept (fun q _ _ => e q (by omega) (by omega)), h.2.2.2.2.2.2.2.2.kept (fun q _ _ => e q (by omega) (by omega))⟩
theorem SrAt.s1 {G : GG} {a : Nat} {S : Nat → Nat → Int32} {v : Int32} {H H1 : Heap} (h : SrAt G a S H) (h1 : ob G 4 a [.ref (a + 1), .int v, .int (S 2 0), .ref (a + 2), .ref (a + 3), .ref (a + 4), .ref (a + 5), .ref (a + 11), .ref (a + 17), .ref (a + 23)] H1) (o : Oq a H H1) : SrAt G a (updM S 1 (fun _ => v)) H1 :=
  ⟨h1, h.2.1.kept (o.2 _ (by omega)), h.2.2.1.kept (o.2 _ (by omega)), h.2.2.2.1.kept (o.2 _ (by omega)), h.2.2.2.2.1.kept (o.2 _ (by omega)), h.2.2.2.2.2.1.kept (fun q _ _ => o.2 q (by omega)), h.2.2.2.2.2.2.1.kept (fun q _ _ => o.2 q (by omega)), h.2.2.2.2.2.2.2.1.kept (fun q _ _ => o.2 q (by omega)), h.2.2.2.2.2.2.2.2.kept (fun q _ _ => o.2 q (by omega))⟩
theorem SrAt.s2 {G : GG} {a : Nat} {S : Nat → Nat → Int32} {v : Int32} {H H1 : Heap} (h : SrAt G a S H) (h1 : ob G 4 a [.ref (a + 1), .int (S 1 0), .int v, .ref (a + 2), .ref (a + 3), .ref (a + 4), .ref (a + 5), .ref (a + 11), .ref (a + 17), .ref (a + 23)] H1) (o : Oq a H H1) : SrAt G a (updM S 2 (fun _ => v)) H1 :=
  ⟨h1, h.2.1.kept (o.2 _ (by omega)), h.2.2.1.kept (o.2 _ (by omega)), h.2.2.2.1.kept (o.2 _ (by omega)), h.2.2.2.2.1.kept (o.2 _ (by omega)), h.2.2.2.2.2.1.kept (fun q _ _ => o.2 q (by omega)), h.2.2.2.2.2.2.1.kept (fun q _ _ => o.2 q (by omega)), h.2.2.2.2.2.2.2.1.kept (fun q _ _ => o.2 q (by omega)), h.2.2.2.2.2.2.2.2.kept (fun q _ _ => o.2 q (by omega))⟩
theorem SrAt.a0 {G : GG} {a : Nat} {S : Nat → Nat → Int32} {f : Nat → Int32} {H H1 : Heap} (h : SrAt G a S H) (h1 : ar G 0 (a + 1) (iA 5 f) H1) (o : Oq (a + 1) H H1) : SrAt G a (updM S 0 f) H1 :=
  ⟨h.1.kept (o.2 _ (by omega)), h1, h.2.2.1.kept (o.2 _ (by omega)), h.2.2.2.1.kept (o.2 _ (by omega)), h.2.2.2.2.1.kept (o.2 _ (by omega)), h.2.2.2.2.2.1.kept (fun q _ _ => o.2 q (by omega)), h.2.2.2.2.2.2.1.kept (fun q _ _ => o.2 q (by omega)), h.2.2.2.2.2.2.2.1.kept (fun q _ _ => o.2 q (by omega)), h.2.2.2.2.2.2.2.2.kept (fun q _ _ => o.2 q (by omega))⟩
theorem SrAt.a3 {G : GG} {a : Nat} {S : Nat → Nat → Int32} {f : Nat → Int32} {H H1 : Heap} (h : SrAt G a S H) (h1 : ar G 0 (a + 2) (iA 5 f) H1) (o : Oq (a + 2) H H1) : SrAt G a (updM S 3 f) H1 :=
  ⟨h.1.kept (o.2 _ (by omega)), h.2.1.kept (o.2 _ (by omega)), h1, h.2.2.2.1.kept (o.2 _ (by omega)), h.2.2.2.2.1.kept (o.2 _ (by omega)), h.2.2.2.2.2.1.kept (fun q _ _ => o.2 q (by omega)), h.2.2.2.2.2.2.1.kept (fun q _ _ => o.2 q (by omega)), h.2.2.2.2.2.2.2.1.kept (fun q _ _ => o.2 q (by omega)), h.2.2.2.2.2.2.2.2.kept (fun q _ _ => o.2 q (by omega))⟩
theorem SrAt.a4 {G : GG} {a : Nat} {S : Nat → Nat → Int32} {f : Nat → Int32} {H H1 : Heap} (h : SrAt G a S H) (h1 : ar G 0 (a + 3) (iA 3 f) H1) (o : Oq (a + 3) H H1) : SrAt G a (updM S 4 f) H1 :=
  ⟨h.1.kept (o.2 _ (by omega)), h.2.1.kept (o.2 _ (by omega)), h.2.2.1.kept (o.2 _ (by omega)), h1, h.2.2.2.2.1.kept (o.2 _ (by omega)), h.2.2.2.2.2.1.kept (fun q _ _ => o.2 q (by omega)), h.2.2.2.2.2.2.1.kept (fun q _ _ => o.2 q (by omega)), h.2.2.2.2.2.2.2.1.kept (fun q _ _ => o.2 q (by omega)), h.2.2.2.2.2.2.2.2.kept (fun q _ _ => o.2 q (by omega))⟩
theorem SrAt.a5 {G : GG} {a : Nat} {S : Nat → Nat → Int32} {f : Nat → Int32} {H H1 : Heap} (h : SrAt G a S H) (h1 : ar G 0 (a + 4) (iA 3 f) H1) (o : Oq (a + 4) H H1) : SrAt G a (updM S 5 f) H1 :=
  ⟨h.1.kept (o.2 _ (by omega)), h.2.1.kept (o.2 _ (by omega)), h.2.2.1.kept (o.2 _ (by omega)), h.2.2.2.1.kept (o.2 _ (by omega)), h1, h.2.2.2.2.2.1.kept (fun q _ _ => o.2 q (by omega)), h.2.2.2.2.2.2.1.kept (fun q _ _ => o.2 q (by omega)), h.2.2.2.2.2.2.2.1.kept (fun q _ _ => o.2 q (by omega)), h.2.2.2.2.2.2.2.2.kept (fun q _ _ => o.2 q (by omega))⟩
theorem SrAt.g6 {G : GG} {a i j : Nat} {S : Nat → Nat → Int32} {v : Int32} {H H1 : Heap} (h : SrAt G a S H) (hi : i < 5) (hj : j < 4) (h1 : ar G 0 (a + 5 + 1 + i) (iA 4 (upd (fun j => S 6 (4 * i + j)) j v)) H1) (o : Oq (a + 5 + 1 + i) H H1) : SrAt G a (updM S 6 (upd (S 6) (4 * i + j) v)) H1 :=
  ⟨h.1.kept (o.2 _ (by omega)), h.2.1.kept (o.2 _ (by omega)), h.2.2.1.kept (o.2 _ (by omega)), h.2.2.2.1.kept (o.2 _ (by omega)), h.2.2.2.2.1.kept (o.2 _ (by omega)), h.2.2.2.2.2.1.put hi hj h1 o, h.2.2.2.2.2.2.1.kept (fun q _ _ => o.2 q (by omega)), h.2.2.2.2.2.2.2.1.kept (fun q _ _ => o.2 q (by omega)), h.2.2.2.2.2.2.2.2.kept (fun q _ _ => o.2 q (by omega))⟩
theorem SrAt.g7 {G : GG} {a i j : Nat} {S : Nat → Nat → Int32} {v : Int32} {H H1 : Heap} (h : SrAt G a S H) (hi : i < 5) (hj : j < 4) (h1 : ar G 0 (a + 11 + 1 + i) (iA 4 (upd (fun j => S 7 (4 * i + j)) j v)) H1) (o : Oq (a + 11 + 1 + i) H H1) : SrAt G a (updM S 7 (upd (S 7) (4 * i + j) v)) H1 :=
  ⟨h.1.kept (o.2 _ (by omega)), h.2.1.kept (o.2 _ (by omega)), h.2.2.1.kept (o.2 _ (by omega)), h.2.2.2.1.kept (o.2 _ (by omega)), h.2.2.2.2.1.kept (o.2 _ (by omega)), h.2.2.2.2.2.1.kept (fun q _ _ => o.2 q (by omega)), h.2.2.2.2.2.2.1.put hi hj h1 o, h.2.2.2.2.2.2.2.1.kept (fun q _ _ => o.2 q (by omega)), h.2.2.2.2.2.2.2.2.kept (fun q _ _ => o.2 q (by omega))⟩
theorem SrAt.g8 {G : GG} {a i j : Nat} {S : Nat → Nat → Int32} {v : Int32} {H H1 : Heap} (h : SrAt G a S H) (hi : i < 5) (hj : j < 4) (h1 : ar G 0 (a + 17 + 1 + i) (iA 4 (upd (fun j => S 8 (4 * i + j)) j v)) H1) (o : Oq (a + 17 + 1 + i) H H1) : SrAt G a (updM S 8 (upd (S 8) (4 * i + j) v)) H1 :=
  ⟨h.1.kept (o.2 _ (by omega)), h.2.1.kept (o.2 _ (by omega)), h.2.2.1.kept (o.2 _ (by omega)), h.2.2.2.1.kept (o.2 _ (by omega)), h.2.2.2.2.1.kept (o.2 _ (by omega)), h.2.2.2.2.2.1.kept (fun q _ _ => o.2 q (by omega)), h.2.2.2.2.2.2.1.kept (fun q _ _ => o.2 q (by omega)), h.2.2.2.2.2.2.2.1.put hi hj h1 o, h.2.2.2.2.2.2.2.2.kept (fun q _ _ => o.2 q (by omega))⟩
theorem SrAt.g9 {G : GG} {a i j : Nat} {S : Nat → Nat → Int32} {v : Int32} {H H1 : Heap} (h : SrAt G a S H) (hi : i < 5) (hj : j < 4) (h1 : ar G 0 (a + 23 + 1 + i) (iA 4 (upd (fun j => S 9 (4 * i + j)) j v)) H1) (o : Oq (a + 23 + 1 + i) H H1) : SrAt G a (updM S 9 (upd (S 9) (4 * i + j) v)) H1 :=
  ⟨h.1.kept (o.2 _ (by omega)), h.2.1.kept (o.2 _ (by omega)), h.2.2.1.kept (o.2 _ (by omega)), h.2.2.2.1.kept (o.2 _ (by omega)), h.2.2.2.2.1.kept (o.2 _ (by omega)), h.2.2.2.2.2.1.kept (fun q _ _ => o.2 q (by omega)), h.2.2.2.2.2.2.1.kept (fun q _ _ => o.2 q (by omega)), h.2.2.2.2.2.2.2.1.kept (fun q _ _ => o.2 q (by omega)), h.2.2.2.2.2.2.2.2.put hi hj h1 o⟩


def ghR (S : Nat → Nat → Int32) (l s : Nat) : Nat → Int32 := fun c => S 9 (4 * l + c) + nI s * S 6 (4 * l + c)
def giS (S : Nat → Nat → Int32) (l s : Nat) : Nat → Nat → Int32 := updM (updM S 3 (upd (S 3) l (nI s))) 9 (cpN (S 9) (ghR S l s) (4 * (l + 1)) 4)
def kbS (S : Nat → Nat → Int32) (l s n : Nat) : Nat → Nat → Int32 := updM (updM (updM S 3 (upd (S 3) l (nI s))) 0 (va_cpy (upd (S 3) l (nI s)) (S 0) 0 0 n)) 1 (fun _ => S 9 (4 * l + 3) + nI s * S 6 (4 * l + 3))
def miP (S : Nat → Nat → Int32) (l s : Nat) : Prop := (S 9 (4 * l + 3) + nI s * S 7 (4 * l + 3) < S 1 0) ∧ ∀ t, t < 3 → ¬ (S 9 (4 * l + t) + nI s * S 8 (4 * l + t) < S 4 t) ∧ (S 9 (4 * l + t) + nI s * S 7 (4 * l + t) ≤ S 5 t)
def rbS (S : Nat → Nat → Int32) (r : Nat → Int32) (b : Int32) : Nat → Nat → Int32 := updM (updM S 4 (fun t => (r (6 + t) - bi (b = nI t)) * 20)) 5 (fun t => (r (9 + t) + bi (b = nI (3 + t))) * 20 + 20 - 1)

set_option maxHeartbeats 4000000 in
set_option maxRecDepth 100000 in
theorem k_X4_giveTo (l : Launch) (G : GG) (a : Nat) (S : Nat → Nat → Int32) (l0 s1 : Nat) (hl0 : l0 < 4) : Met l yX4_giveTo (ws_ yX4_giveTo cX4_giveTo 4 (none : Option Jvm.ClassFile.FieldType)) (rm_ 0) (PC G [.ref a, .int (nI l0), .int (nI s1)] (SrAt G a S)) (QV (SrAt G a (giS S l0 s1)) (In a 29)) 0 0 (In a 29) := by
  refine met_q (by decide +kernel) (Nat.le_of_ble_eq_true rfl) ?_
  intro p e s m args below meth c Q hQ hx hb hr hT hown hml hlocks hnm hK hR ls hl
  have hl : lv_has ls 4 [(0, .ref a), (1, .int (nI l0)), (2, .int (nI s1))] := hl
  have hS : va_S (In a 29) s.heap s.heap [] := va_S.rf
  refine lv_aload_n hx hb dX4_giveTo_0 rfl (lv_at hl 0 rfl) ?_
  refine rg (C := RX4) (T := TX4) (N := 10) (v := .ref (a + 2)) hx hb hT inX4 hown hK hR.1 rfl 3 (by decide) mf_X4_15 rfl dX4_giveTo_1 ?_
  refine lv_iload_n hx hb dX4_giveTo_4 rfl (lv_at hl 1 rfl) ?_
  refine lv_iload_n hx hb dX4_giveTo_5 rfl (lv_at hl 2 rfl) ?_
  refine r_iast hx hb hK hR.2.2.1 l0 (rfl) (by omega) (Nat.le_of_ble_eq_true rfl) hS (show _ ∧ _ from ⟨by omega, by omega⟩) dX4_giveTo_6 (fun H locs h1 o hS => ?_)
  have hR := hR.a3 h1 o
  refine lv_iconst (v := 0) hx hb dX4_giveTo_7 (by decide) ?_
  refine lv_istore_n (lv' := [(3, .int 0), (0, .ref a), (1, .int (nI l0)), (2, .int (nI s1))]) hx hb dX4_giveTo_8 rfl hl (by decide) rfl (fun ls hl => ?_)
  have loop : ∀ (k : Nat) (c1 : Nat) (H : Heap) (locs : List Loc), va_S (In a 29) s.heap H locs → c1 ≤ 4 → SrAt G a (updM (updM S 3 (upd (S 3) l0 (nI s1))) 9 (cpN (S 9) (ghR S l0 s1) (4 * (l0 + 1)) c1)) H → 4 - c1 < k → ∀ ls : Array Slot, lv_has ls 4 [(3, .int (nI c1)), (0, .ref a), (1, .int (nI l0)), (2, .int (nI s1))] → W p l e (rm_ 0) s m args below meth c H locs 0 0 Q (F0 m 9 ls []) := by
    intro k
    induction k with
    | zero => intro c1 H locs hS hc hR hm; exact absurd hm (Nat.not_lt_zero _)
    | succ k ih =>
      intro c1 H locs hS hc hR hm ls hl
      refine lv_iload_n hx hb dX4_giveTo_9 rfl (lv_at hl 0 rfl) ?_
      refine lv_iconst (v := 4) hx hb dX4_giveTo_10 (by decide) ?_
      refine lv_icmp_ge (tgt := 49) hx hb dX4_giveTo_11 (by decide) (fun cd => ?_) (fun cd => ?_)
      · have e_c1 : c1 = 4 := by
          have h9 : nI 4 ≤ nI c1 := cd
          rw [nI_leI (by omega) (by omega)] at h9
          omega
        subst e_c1
        exact nd_V hQ hx hb hr hlocks dX4_giveTo_49 hS (hR)
      · have h_c1 : c1 < 4 := by
          have h9 : ¬ nI 4 ≤ nI c1 := cd
          rw [nI_leI (by omega) (by omega)] at h9
          omega
        refine lv_aload_n hx hb dX4_giveTo_14 rfl (lv_at hl 1 rfl) ?_
        refine rg (C := RX4) (T := TX4) (N := 10) (v := .ref (a + 23)) hx hb hT inX4 hown hK hR.1 rfl 9 (by decide) mf_X4_35 rfl dX4_giveTo_15 ?_
        refine lv_iload_n hx hb dX4_giveTo_18 rfl (lv_at hl 2 rfl) ?_
        refine lv_iconst (v := 1) hx hb dX4_giveTo_19 (by decide) ?_
        refine lv_iadd hx hb dX4_giveTo_20 ?_
        refine r_aaldS (y := a + 23 + 1 + (l0 + 1)) hx hb hK hR.2.2.2.2.2.2.2.2.1 rfl rfl (l0 + 1) (nI_1 l0) (by omega) (Nat.le_of_ble_eq_true rfl) rfl dX4_giveTo_21 ?_
        refine lv_iload_n hx hb dX4_giveTo_22 rfl (lv_at hl 0 rfl) ?_
        refine lv_aload_n hx hb dX4_giveTo_23 rfl (lv_at hl 1 rfl) ?_
        refine rg (C := RX4) (T := TX4) (N := 10) (v := .ref (a + 23)) hx hb hT inX4 hown hK hR.1 rfl 9 (by decide) mf_X4_35 rfl dX4_giveTo_24 ?_
        refine lv_iload_n hx hb dX4_giveTo_27 rfl (lv_at hl 2 rfl) ?_
        refine r_aaldS (y := a + 23 + 1 + l0) hx hb hK hR.2.2.2.2.2.2.2.2.1 rfl rfl l0 (rfl) (by omega) (Nat.le_of_ble_eq_true rfl) rfl dX4_giveTo_28 ?_
        refine lv_iload_n hx hb dX4_giveTo_29 rfl (lv_at hl 0 rfl) ?_
        refine r_ialdS (y := S 9 (4 * l0 + c1)) hx hb hK (hR.2.2.2.2.2.2.2.2.2 l0 (by omega)) c1 rfl h_c1 (Nat.le_of_ble_eq_true rfl) (by show (cpN (S 9) (ghR S l0 s1) (4 * (l0 + 1)) c1) (4 * l0 + c1) = _; exact if_neg (by omega)) dX4_giveTo_30 ?_
        refine lv_iload_n hx hb dX4_giveTo_31 rfl (lv_at hl 3 rfl) ?_
        refine lv_aload_n hx hb dX4_giveTo_32 rfl (lv_at hl 1 rfl) ?_
        refine rg (C := RX4) (T := TX4) (N := 10) (v := .ref (a + 5)) hx hb hT inX4 hown hK hR.1 rfl 6 (by decide) mf_X4_26 rfl dX4_giveTo_33 ?_
        refine lv_iload_n hx hb dX4_giveTo_36 rfl (lv_at hl 2 rfl) ?_
        refine r_aaldS (y := a + 5 + 1 + l0) hx hb hK hR.2.2.2.2.2.1.1 rfl rfl l0 (rfl) (by omega) (Nat.le_of_ble_eq_true rfl) rfl dX4_giveTo_37 ?_
        refine lv_iload_n hx hb dX4_giveTo_38 rfl (lv_at hl 0 rfl) ?_
        refine r_ialdS (y := S 6 (4 * l0 + c1)) hx hb hK (hR.2.2.2.2.2.1.2 l0 (by omega)) c1 (rfl) (by omega) (Nat.le_of_ble_eq_true rfl) rfl dX4_giveTo_39 ?_
        refine lv_imul hx hb dX4_giveTo_40 ?_
        refine lv_iadd hx hb dX4_giveTo_41 ?_
        refine r_iast hx hb hK (hR.2.2.2.2.2.2.2.2.2 (l0 + 1) (by omega)) c1 (rfl) (h_c1) (Nat.le_of_ble_eq_true rfl) hS (show _ ∧ _ from ⟨by omega, by omega⟩) dX4_giveTo_42 (fun H locs h1 o hS => ?_)
        have hR := hR.g9 (by omega) h_c1 h1 o
        have es : upd (cpN (S 9) (ghR S l0 s1) (4 * (l0 + 1)) c1) (4 * (l0 + 1) + c1) (S 9 (4 * l0 + c1) + nI s1 * S 6 (4 * l0 + c1)) = cpN (S 9) (ghR S l0 s1) (4 * (l0 + 1)) (c1 + 1) := cpN_s (g := ghR S l0 s1)
        rw [updM_2, updM_eq, es] at hR
        refine lv_iinc (v := nI (c1 + 1)) (lv' := [(3, .int (nI (c1 + 1))), (0, .ref a), (1, .int (nI l0)), (2, .int (nI s1))]) hx hb dX4_giveTo_43 hl (k := 0) rfl (nI_1 c1) (by decide) rfl (fun ls hl => ?_)
        refine lv_goto (tgt := 9) hx hb dX4_giveTo_46 (by decide) ?_
        exact ih (c1 + 1) _ _ hS (by omega) hR (by omega) ls (lv_sub hl [0, 1, 2, 3] rfl)
  exact loop 5 0 _ _ hS (by omega) (by rw [cpN_0, updM_self (by rfl)]; exact hR) (by omega) ls (lv_sub hl [0, 1, 2, 3] rfl)

set_option maxHeartbeats 4000000 in
set_option maxRecDepth 100000 in
theorem k_X4_keepBest (l : Launch) (G : GG) (a : Nat) (S : Nat → Nat → Int32) (l0 s1 n : Nat) (hl0 : l0 < 5) (hn : n ≤ 5) (hSn : S 2 0 = nI n) : Met l yX4_keepBest (ws_ yX4_keepBest cX4_keepBest 3 (none : Option Jvm.ClassFile.FieldType)) (rm_ 1) (PC G [.ref a, .int (nI l0), .int (nI s1)] (SrAt G a S)) (QV (SrAt G a (kbS S l0 s1 n)) (In a 29)) 0 0 (In a 29) := by
  refine met_q (by decide +kernel) (Nat.le_of_ble_eq_true rfl) ?_
  intro p e s m args below meth c Q hQ hx hb hr hT hown hml hlocks hnm hK hR ls hl
  have hl : lv_has ls 3 [(0, .ref a), (1, .int (nI l0)), (2, .int (nI s1))] := hl
  have hS : va_S (In a 29) s.heap s.heap [] := va_S.rf
  refine lv_aload_n hx hb dX4_keepBest_0 rfl (lv_at hl 0 rfl) ?_
  refine rg (C := RX4) (T := TX4) (N := 10) (v := .ref (a + 2)) hx hb hT inX4 hown hK hR.1 rfl 3 (by decide) mf_X4_15 rfl dX4_keepBest_1 ?_
  refine lv_iload_n hx hb dX4_keepBest_4 rfl (lv_at hl 1 rfl) ?_
  refine lv_iload_n hx hb dX4_keepBest_5 rfl (lv_at hl 2 rfl) ?_
  refine r_iast hx hb hK hR.2.2.1 l0 (rfl) (by omega) (Nat.le_of_ble_eq_true rfl) hS (show _ ∧ _ from ⟨by omega, by omega⟩) dX4_keepBest_6 (fun H locs h1 o hS => ?_)
  have hR := hR.a3 h1 o
  refine lv_aload_n hx hb dX4_keepBest_7 rfl (lv_at hl 0 rfl) ?_
  refine rg (C := RX4) (T := TX4) (N := 10) (v := .ref (a + 2)) hx hb hT inX4 hown hK hR.1 rfl 3 (by decide) mf_X4_15 rfl dX4_keepBest_8 ?_
  refine lv_iconst (v := 0) hx hb dX4_keepBest_11 (by decide) ?_
  refine lv_aload_n hx hb dX4_keepBest_12 rfl (lv_at hl 0 rfl) ?_
  refine rg (C := RX4) (T := TX4) (N := 10) (v := .ref (a + 1)) hx hb hT inX4 hown hK hR.1 rfl 0 (by decide) mf_X4_9 rfl dX4_keepBest_13 ?_
  refine lv_iconst (v := 0) hx hb dX4_keepBest_16 (by decide) ?_
  refine lv_aload_n hx hb dX4_keepBest_17 rfl (lv_at hl 0 rfl) ?_
  have hSn2 : (updM S 3 (upd (S 3) l0 (nI s1))) 2 0 = nI n := hSn
  refine rg (C := RX4) (T := TX4) (N := 10) (v := .int ((updM S 3 (upd (S 3) l0 (nI s1))) 2 0)) hx hb hT inX4 hown hK hR.1 rfl 2 (by decide) mf_X4_44 rfl dX4_keepBest_18 ?_
  rw [hSn2]
  refine r_copy hx hb (hml.trans hl.1.symm) hown hT mm_X4_101 hK hR.2.2.1 hR.2.1 0 0 n (by decide) (by decide) (rfl) (by omega) (by omega) (Nat.le_of_ble_eq_true rfl) (Nat.le_of_ble_eq_true rfl) hS (show _ ∧ _ from ⟨by omega, by omega⟩) (Nat.le_of_ble_eq_true rfl) (Nat.le_of_ble_eq_true rfl) dX4_keepBest_21 (fun H locs h1 o hS => ?_)
  have hR := hR.a0 h1 o
  refine lv_aload_n hx hb dX4_keepBest_24 rfl (lv_at hl 0 rfl) ?_
  refine lv_aload_n hx hb dX4_keepBest_25 rfl (lv_at hl 0 rfl) ?_
  refine rg (C := RX4) (T := TX4) (N := 10) (v := .ref (a + 23)) hx hb hT inX4 hown hK hR.1 rfl 9 (by decide) mf_X4_35 rfl dX4_keepBest_26 ?_
  refine lv_iload_n hx hb dX4_keepBest_29 rfl (lv_at hl 1 rfl) ?_
  refine r_aaldS (y := a + 23 + 1 + l0) hx hb hK hR.2.2.2.2.2.2.2.2.1 rfl rfl l0 (rfl) (by omega) (Nat.le_of_ble_eq_true rfl) rfl dX4_keepBest_30 ?_
  refine lv_iconst (v := 3) hx hb dX4_keepBest_31 (by decide) ?_
  refine r_ialdS (y := S 9 (4 * l0 + 3)) hx hb hK (hR.2.2.2.2.2.2.2.2.2 l0 (by omega)) 3 (by decide) (by omega) (Nat.le_of_ble_eq_true rfl) rfl dX4_keepBest_32 ?_
  refine lv_iload_n hx hb dX4_keepBest_33 rfl (lv_at hl 2 rfl) ?_
  refine lv_aload_n hx hb dX4_keepBest_34 rfl (lv_at hl 0 rfl) ?_
  refine rg (C := RX4) (T := TX4) (N := 10) (v := .ref (a + 5)) hx hb hT inX4 hown hK hR.1 rfl 6 (by decide) mf_X4_26 rfl dX4_keepBest_35 ?_
  refine lv_iload_n hx hb dX4_keepBest_38 rfl (lv_at hl 1 rfl) ?_
  refine r_aaldS (y := a + 5 + 1 + l0) hx hb hK hR.2.2.2.2.2.1.1 rfl rfl l0 (rfl) (by omega) (Nat.le_of_ble_eq_true rfl) rfl dX4_keepBest_39 ?_
  refine lv_iconst (v := 3) hx hb dX4_keepBest_40 (by decide) ?_
  refine r_ialdS (y := S 6 (4 * l0 + 3)) hx hb hK (hR.2.2.2.2.2.1.2 l0 (by omega)) 3 (by decide) (by omega) (Nat.le_of_ble_eq_true rfl) rfl dX4_keepBest_41 ?_
  refine lv_imul hx hb dX4_keepBest_42 ?_
  refine lv_iadd hx hb dX4_keepBest_43 ?_
  refine rp (C := RX4) (T := TX4) (N := 10) (v := .int ((S 9 (4 * l0 + 3)) + ((nI s1) * (S 6 (4 * l0 + 3))))) (ty := .int) hx hb hT inX4 tyX4 tyX4_ok nmX4 hown hK hR.1 rfl 1 (by decide) mf_X4_54 rfl (by decide +kernel) rfl rfl (Nat.le_of_ble_eq_true rfl) hS (show _ ∧ _ from ⟨by omega, by omega⟩) dX4_keepBest_44 (fun H locs h1 o hS => ?_)
  have hR := hR.s1 h1 o
  exact nd_V hQ hx hb hr hlocks dX4_keepBest_47 hS (hR)

set_option maxHeartbeats 4000000 in
set_option maxRecDepth 100000 in
theorem k_X4_mayImprove (l : Launch) (G : GG) (a : Nat) (S : Nat → Nat → Int32) (l0 s1 : Nat) (hl0 : l0 < 5) : Met l yX4_mayImprove (ws_ yX4_mayImprove cX4_mayImprove 5 (some .boolean)) (rm_ 0) (PC G [.ref a, .int (nI l0), .int (nI s1)] (SrAt G a S)) (vp_Si (fun z => z = bc (miP S l0 s1))) 0 0 NoA := by
  refine met_q (by decide +kernel) (Nat.le_of_ble_eq_true rfl) ?_
  intro p e s m args below meth c Q hQ hx hb hr hT hown hml hlocks hnm hK hR ls hl
  have hl : lv_has ls 5 [(0, .ref a), (1, .int (nI l0)), (2, .int (nI s1))] := hl
  refine lv_aload_n hx hb dX4_mayImprove_0 rfl (lv_at hl 0 rfl) ?_
  refine rg (C := RX4) (T := TX4) (N := 10) (v := .ref (a + 23)) hx hb hT inX4 hown hK hR.1 rfl 9 (by decide) mf_X4_35 rfl dX4_mayImprove_1 ?_
  refine lv_iload_n hx hb dX4_mayImprove_4 rfl (lv_at hl 1 rfl) ?_
  refine r_aaldS (y := a + 23 + 1 + l0) hx hb hK hR.2.2.2.2.2.2.2.2.1 rfl rfl l0 (rfl) (by omega) (Nat.le_of_ble_eq_true rfl) rfl dX4_mayImprove_5 ?_
  refine lv_astore_n (lv' := [(3, .ref (a + 23 + 1 + l0)), (0, .ref a), (1, .int (nI l0)), (2, .int (nI s1))]) hx hb dX4_mayImprove_6 rfl hl (by decide) rfl (fun ls hl => ?_)
  refine lv_aload_n hx hb dX4_mayImprove_7 rfl (lv_at hl 0 rfl) ?_
  refine lv_iconst (v := 3) hx hb dX4_mayImprove_8 (by decide) ?_
  refine r_ialdS (y := S 9 (4 * l0 + 3)) hx hb hK (hR.2.2.2.2.2.2.2.2.2 l0 (by omega)) 3 (by decide) (by omega) (Nat.le_of_ble_eq_true rfl) rfl dX4_mayImprove_9 ?_
  refine lv_iload_n hx hb dX4_mayImprove_10 rfl (lv_at hl 3 rfl) ?_
  refine lv_aload_n hx hb dX4_mayImprove_11 rfl (lv_at hl 1 rfl) ?_
  refine rg (C := RX4) (T := TX4) (N := 10) (v := .ref (a + 11)) hx hb hT inX4 hown hK hR.1 rfl 7 (by decide) mf_X4_29 rfl dX4_mayImprove_12 ?_
  refine lv_iload_n hx hb dX4_mayImprove_15 rfl (lv_at hl 2 rfl) ?_
  refine r_aaldS (y := a + 11 + 1 + l0) hx hb hK hR.2.2.2.2.2.2.1.1 rfl rfl l0 (rfl) (by omega) (Nat.le_of_ble_eq_true rfl) rfl dX4_mayImprove_16 ?_
  refine lv_iconst (v := 3) hx hb dX4_mayImprove_17 (by decide) ?_
  refine r_ialdS (y := S 7 (4 * l0 + 3)) hx hb hK (hR.2.2.2.2.2.2.1.2 l0 (by omega)) 3 (by decide) (by omega) (Nat.le_of_ble_eq_true rfl) rfl dX4_mayImprove_18 ?_
  refine lv_imul hx hb dX4_mayImprove_19 ?_
  refine lv_iadd hx hb dX4_mayImprove_20 ?_
  refine lv_aload_n hx hb dX4_mayImprove_21 rfl (lv_at hl 1 rfl) ?_
  refine rg (C := RX4) (T := TX4) (N := 10) (v := .int (S 1 0)) hx hb hT inX4 hown hK hR.1 rfl 1 (by decide) mf_X4_54 rfl dX4_mayImprove_22 ?_
  refine lv_icmp_lt (tgt := 30) hx hb dX4_mayImprove_25 (by decide) (fun c1 => ?_) (fun c1 => ?_)
  · refine lv_iconst (v := 0) hx hb dX4_mayImprove_30 (by decide) ?_
    refine lv_istore (lv' := [(4, .int 0), (3, .ref (a + 23 + 1 + l0)), (0, .ref a), (1, .int (nI l0)), (2, .int (nI s1))]) hx hb dX4_mayImprove_31 hl (by decide) rfl (fun ls hl => ?_)
    have loop : ∀ (k : Nat) (t : Nat), t ≤ 3 → (∀ t1, t1 < t → ¬ (S 9 (4 * l0 + t1) + nI s1 * S 8 (4 * l0 + t1) < S 4 t1) ∧ (S 9 (4 * l0 + t1) + nI s1 * S 7 (4 * l0 + t1) ≤ S 5 t1)) → 3 - t < k → ∀ ls : Array Slot, lv_has ls 5 [(4, .int (nI t)), (3, .ref (a + 23 + 1 + l0)), (0, .ref a), (1, .int (nI l0)), (2, .int (nI s1))] → W p l e (rm_ 0) s m args below meth c s.heap [] 0 0 Q (F0 m 33 ls []) := by
      intro k
      induction k with
      | zero => intro t ht hb4 hm; exact absurd hm (Nat.not_lt_zero _)
      | succ k ih =>
        intro t ht hb4 hm ls hl
        refine lv_iload hx hb dX4_mayImprove_33 (lv_at hl 0 rfl) ?_
        refine lv_iconst (v := 3) hx hb dX4_mayImprove_35 (by decide) ?_
        refine lv_icmp_ge (tgt := 101) hx hb dX4_mayImprove_36 (by decide) (fun cd => ?_) (fun cd => ?_)
        · have e_t : t = 3 := by
            have h9 : nI 3 ≤ nI t := cd
            rw [nI_leI (by omega) (by omega)] at h9
            omega
          subst e_t
          refine lv_iconst (v := 1) hx hb dX4_mayImprove_101 (by decide) ?_
          exact nd_z hQ hx hb hr hlocks dX4_mayImprove_102 (by first | exact Or.inl rfl | exact Or.inr rfl) (bc_t ⟨c1, hb4⟩)
        · have h_t : t < 3 := by
            have h9 : ¬ nI 3 ≤ nI t := cd
            rw [nI_leI (by omega) (by omega)] at h9
            omega
          refine lv_aload_n hx hb dX4_mayImprove_39 rfl (lv_at hl 1 rfl) ?_
          refine lv_iload hx hb dX4_mayImprove_40 (lv_at hl 0 rfl) ?_
          refine r_ialdS (y := S 9 (4 * l0 + t)) hx hb hK (hR.2.2.2.2.2.2.2.2.2 l0 (by omega)) t (rfl) (by omega) (Nat.le_of_ble_eq_true rfl) rfl dX4_mayImprove_42 ?_
          refine lv_iload_n hx hb dX4_mayImprove_43 rfl (lv_at hl 4 rfl) ?_
          refine lv_aload_n hx hb dX4_mayImprove_44 rfl (lv_at hl 2 rfl) ?_
          refine rg (C := RX4) (T := TX4) (N := 10) (v := .ref (a + 17)) hx hb hT inX4 hown hK hR.1 rfl 8 (by decide) mf_X4_32 rfl dX4_mayImprove_45 ?_
          refine lv_iload_n hx hb dX4_mayImprove_48 rfl (lv_at hl 3 rfl) ?_
          refine r_aaldS (y := a + 17 + 1 + l0) hx hb hK hR.2.2.2.2.2.2.2.1.1 rfl rfl l0 (rfl) (by omega) (Nat.le_of_ble_eq_true rfl) rfl dX4_mayImprove_49 ?_
          refine lv_iload hx hb dX4_mayImprove_50 (lv_at hl 0 rfl) ?_
          refine r_ialdS (y := S 8 (4 * l0 + t)) hx hb hK (hR.2.2.2.2.2.2.2.1.2 l0 (by omega)) t (rfl) (by omega) (Nat.le_of_ble_eq_true rfl) rfl dX4_mayImprove_52 ?_
          refine lv_imul hx hb dX4_mayImprove_53 ?_
          refine lv_iadd hx hb dX4_mayImprove_54 ?_
          refine lv_aload_n hx hb dX4_mayImprove_55 rfl (lv_at hl 2 rfl) ?_
          refine rg (C := RX4) (T := TX4) (N := 10) (v := .ref (a + 3)) hx hb hT inX4 hown hK hR.1 rfl 4 (by decide) mf_X4_18 rfl dX4_mayImprove_56 ?_
          refine lv_iload hx hb dX4_mayImprove_59 (lv_at hl 0 rfl) ?_
          refine r_ialdS (y := S 4 t) hx hb hK hR.2.2.2.1 t (rfl) (by omega) (Nat.le_of_ble_eq_true rfl) rfl dX4_mayImprove_61 ?_
          refine lv_icmp_ge (tgt := 67) hx hb dX4_mayImprove_62 (by decide) (fun c3 => ?_) (fun c3 => ?_)
          · refine lv_aload_n hx hb dX4_mayImprove_67 rfl (lv_at hl 1 rfl) ?_
            refine lv_iload hx hb dX4_mayImprove_68 (lv_at hl 0 rfl) ?_
            refine r_ialdS (y := S 9 (4 * l0 + t)) hx hb hK (hR.2.2.2.2.2.2.2.2.2 l0 (by omega)) t (rfl) (by omega) (Nat.le_of_ble_eq_true rfl) rfl dX4_mayImprove_70 ?_
            refine lv_iload_n hx hb dX4_mayImprove_71 rfl (lv_at hl 4 rfl) ?_
            refine lv_aload_n hx hb dX4_mayImprove_72 rfl (lv_at hl 2 rfl) ?_
            refine rg (C := RX4) (T := TX4) (N := 10) (v := .ref (a + 11)) hx hb hT inX4 hown hK hR.1 rfl 7 (by decide) mf_X4_29 rfl dX4_mayImprove_73 ?_
            refine lv_iload_n hx hb dX4_mayImprove_76 rfl (lv_at hl 3 rfl) ?_
            refine r_aaldS (y := a + 11 + 1 + l0) hx hb hK hR.2.2.2.2.2.2.1.1 rfl rfl l0 (rfl) (by omega) (Nat.le_of_ble_eq_true rfl) rfl dX4_mayImprove_77 ?_
            refine lv_iload hx hb dX4_mayImprove_78 (lv_at hl 0 rfl) ?_
            refine r_ialdS (y := S 7 (4 * l0 + t)) hx hb hK (hR.2.2.2.2.2.2.1.2 l0 (by omega)) t (rfl) (by omega) (Nat.le_of_ble_eq_true rfl) rfl dX4_mayImprove_80 ?_
            refine lv_imul hx hb dX4_mayImprove_81 ?_
            refine lv_iadd hx hb dX4_mayImprove_82 ?_
            refine lv_aload_n hx hb dX4_mayImprove_83 rfl (lv_at hl 2 rfl) ?_
            refine rg (C := RX4) (T := TX4) (N := 10) (v := .ref (a + 4)) hx hb hT inX4 hown hK hR.1 rfl 5 (by decide) mf_X4_21 rfl dX4_mayImprove_84 ?_
            refine lv_iload hx hb dX4_mayImprove_87 (lv_at hl 0 rfl) ?_
            refine r_ialdS (y := S 5 t) hx hb hK hR.2.2.2.2.1 t (rfl) (by omega) (Nat.le_of_ble_eq_true rfl) rfl dX4_mayImprove_89 ?_
            refine lv_icmp_le (tgt := 95) hx hb dX4_mayImprove_90 (by decide) (fun c4 => ?_) (fun c4 => ?_)
            · refine lv_iinc (v := nI (t + 1)) (lv' := [(4, .int (nI (t + 1))), (3, .ref (a + 23 + 1 + l0)), (0, .ref a), (1, .int (nI l0)), (2, .int (nI s1))]) hx hb dX4_mayImprove_95 hl (k := 0) rfl (nI_1 t) (by decide) rfl (fun ls hl => ?_)
              refine lv_goto (tgt := 33) hx hb dX4_mayImprove_98 (by decide) ?_
              exact ih (t + 1) (by omega) (lt_s hb4 ⟨i32_le_nlt c3, c4⟩) (by omega) ls (lv_sub hl [0, 1, 2, 3, 4] rfl)
            · refine lv_iconst (v := 0) hx hb dX4_mayImprove_93 (by decide) ?_
              exact nd_z hQ hx hb hr hlocks dX4_mayImprove_94 (by first | exact Or.inl rfl | exact Or.inr rfl) (bc_f (fun q => c4 (q.2 t h_t).2))
          · refine lv_iconst (v := 0) hx hb dX4_mayImprove_65 (by decide) ?_
            exact nd_z hQ hx hb hr hlocks dX4_mayImprove_66 (by first | exact Or.inl rfl | exact Or.inr rfl) (bc_f (fun q => (q.2 t h_t).1 (i32_nle c3)))
    exact loop 4 0 (by omega) (fun j hj => absurd hj (Nat.not_lt_zero _)) (by omega) ls (lv_sub hl [0, 1, 2, 3, 4] rfl)
  · refine lv_iconst (v := 0) hx hb dX4_mayImprove_28 (by decide) ?_
    exact nd_z hQ hx hb hr hlocks dX4_mayImprove_29 (by first | exact Or.inl rfl | exact Or.inr rfl) (bc_f (fun q => c1 q.1))

set_option maxHeartbeats 4000000 in
set_option maxRecDepth 100000 in
theorem k_X4_readBounds (l : Launch) (G : GG) (a : Nat) (S : Nat → Nat → Int32) (b : Nat) (r : Nat → Int32) (z : Int32) (hne : b + 20 ≤ a ∨ a + 29 ≤ b) : Met l yX4_readBounds (ws_ yX4_readBounds cX4_readBounds 6 (none : Option Jvm.ClassFile.FieldType)) (rm_ 0) (PC G [.ref a, .ref b, .int z] (fun H => SrAt G a S H ∧ ShopAt G b r H)) (QV (SrAt G a (rbS S r z)) (In a 29)) 0 0 (In a 29) := by
  refine met_q (by decide +kernel) (Nat.le_of_ble_eq_true rfl) ?_
  intro p e s m args below meth c Q hQ hx hb hr hT hown hml hlocks hnm hK ⟨hR, hSh⟩ ls hl
  have hl : lv_has ls 6 [(0, .ref a), (1, .ref b), (2, .int z)] := hl
  have hS : va_S (In a 29) s.heap s.heap [] := va_S.rf
  refine lv_iconst (v := 0) hx hb dX4_readBounds_0 (by decide) ?_
  refine lv_istore_n (lv' := [(3, .int 0), (0, .ref a), (1, .ref b), (2, .int z)]) hx hb dX4_readBounds_1 rfl hl (by decide) rfl (fun ls hl => ?_)
  have loop : ∀ (k : Nat) (t : Nat) (H : Heap) (locs : List Loc), va_S (In a 29) s.heap H locs → t ≤ 3 → SrAt G a (updM (updM S 4 (cpN (S 4) (fun t => (r (6 + t) - bi (z = nI t)) * 20) 0 t)) 5 (cpN (S 5) (fun t => (r (9 + t) + bi (z = nI (3 + t))) * 20 + 20 - 1) 0 t)) H → ShopAt G b r H → 3 - t < k → ∀ ls : Array Slot, lv_has ls 6 [(3, .int (nI t)), (0, .ref a), (1, .ref b), (2, .int z)] → W p l e (rm_ 0) s m args below meth c H locs 0 0 Q (F0 m 2 ls []) := by
    intro k
    induction k with
    | zero => intro t H locs hS ht hR hSh hm; exact absurd hm (Nat.not_lt_zero _)
    | succ k ih =>
      intro t H locs hS ht hR hSh hm ls hl
      refine lv_iload_n hx hb dX4_readBounds_2 rfl (lv_at hl 0 rfl) ?_
      refine lv_iconst (v := 3) hx hb dX4_readBounds_3 (by decide) ?_
      refine lv_icmp_ge (tgt := 80) hx hb dX4_readBounds_4 (by decide) (fun cd => ?_) (fun cd => ?_)
      · have e_t : t = 3 := by
          have h9 : nI 3 ≤ nI t := cd
          rw [nI_leI (by omega) (by omega)] at h9
          omega
        subst e_t
        exact nd_V hQ hx hb hr hlocks dX4_readBounds_80 hS ((by
      obtain ⟨p0, p1, p2, p3, p4, p5⟩ := hR
      exact ⟨p0, p1, p2, iA_ext p3 (fun j hj => cpN_in0 (g := (fun t => (r (6 + t) - bi (z = nI t)) * 20)) hj), iA_ext p4 (fun j hj => cpN_in0 (g := (fun t => (r (9 + t) + bi (z = nI (3 + t))) * 20 + 20 - 1)) hj), p5⟩))
      · have h_t : t < 3 := by
          have h9 : ¬ nI 3 ≤ nI t := cd
          rw [nI_leI (by omega) (by omega)] at h9
          omega
        refine lv_aload_n hx hb dX4_readBounds_7 rfl (lv_at hl 2 rfl) ?_
        refine rg (C := RX5) (T := TX5) (N := 8) (v := .ref (b + 2)) hx hb hT inX5 hown hK hSh.1 rfl 1 (by decide) mf_X4_84 rfl dX4_readBounds_8 ?_
        refine lv_iload_n hx hb dX4_readBounds_11 rfl (lv_at hl 0 rfl) ?_
        refine r_ialdS (y := r (6 + t)) hx hb hK hSh.2.2.1 t (rfl) (by omega) (Nat.le_of_ble_eq_true rfl) rfl dX4_readBounds_12 ?_
        refine lv_iload_n hx hb dX4_readBounds_13 rfl (lv_at hl 3 rfl) ?_
        refine lv_iload_n hx hb dX4_readBounds_14 rfl (lv_at hl 0 rfl) ?_
        refine lv_icmp_ne (tgt := 22) hx hb dX4_readBounds_15 (by decide) (fun c2 => ?_) (fun c2 => ?_)
        · refine lv_iconst (v := 0) hx hb dX4_readBounds_22 (by decide) ?_
          refine lv_isub hx hb dX4_readBounds_23 ?_
          rw [show r (6 + t) - 0 = r (6 + t) - bi (z = nI t) from by rw [← bi_f c2]]
          refine lv_istore (lv' := [(4, .int (r (6 + t) - bi (z = nI t))), (3, .int (nI t)), (0, .ref a), (1, .ref b), (2, .int z)]) hx hb dX4_readBounds_24 hl (by decide) rfl (fun ls hl => ?_)
          refine lv_aload_n hx hb dX4_readBounds_26 rfl (lv_at hl 3 rfl) ?_
          refine rg (C := RX5) (T := TX5) (N := 8) (v := .ref (b + 3)) hx hb hT inX5 hown hK hSh.1 rfl 2 (by decide) mf_X4_87 rfl dX4_readBounds_27 ?_
          refine lv_iload_n hx hb dX4_readBounds_30 rfl (lv_at hl 1 rfl) ?_
          refine r_ialdS (y := r (9 + t)) hx hb hK hSh.2.2.2.1 t (rfl) (by omega) (Nat.le_of_ble_eq_true rfl) rfl dX4_readBounds_31 ?_
          refine lv_iload_n hx hb dX4_readBounds_32 rfl (lv_at hl 4 rfl) ?_
          refine lv_iconst (v := 3) hx hb dX4_readBounds_33 (by decide) ?_
          refine lv_iload_n hx hb dX4_readBounds_34 rfl (lv_at hl 1 rfl) ?_
          refine lv_iadd hx hb dX4_readBounds_35 ?_
          rw [show (3 : Int32) + nI t = nI (3 + t) from nI_add 3 t]
          refine lv_icmp_ne (tgt := 43) hx hb dX4_readBounds_36 (by decide) (fun c3 => ?_) (fun c3 => ?_)
          · refine lv_iconst (v := 0) hx hb dX4_readBounds_43 (by decide) ?_
            refine lv_iadd hx hb dX4_readBounds_44 ?_
            rw [show r (9 + t) + 0 = r (9 + t) + bi (z = nI (3 + t)) from by rw [← bi_f c3]]
            refine lv_istore (lv' := [(5, .int (r (9 + t) + bi (z = nI (3 + t)))), (4, .int (r (6 + t) - bi (z = nI t))), (3, .int (nI t)), (0, .ref a), (1, .ref b), (2, .int z)]) hx hb dX4_readBounds_45 hl (by decide) rfl (fun ls hl => ?_)
            refine lv_aload_n hx hb dX4_readBounds_47 rfl (lv_at hl 3 rfl) ?_
            refine rg (C := RX4) (T := TX4) (N := 10) (v := .ref (a + 3)) hx hb hT inX4 hown hK hR.1 rfl 4 (by decide) mf_X4_18 rfl dX4_readBounds_48 ?_
            refine lv_iload_n hx hb dX4_readBounds_51 rfl (lv_at hl 2 rfl) ?_
            refine lv_iload hx hb dX4_readBounds_52 (lv_at hl 1 rfl) ?_
            refine lv_bipush (v := 20) hx hb dX4_readBounds_54 (by decide) ?_
            refine lv_imul hx hb dX4_readBounds_56 ?_
            refine r_iast hx hb hK hR.2.2.2.1 t (rfl) (h_t) (Nat.le_of_ble_eq_true rfl) hS (show _ ∧ _ from ⟨by omega, by omega⟩) dX4_readBounds_57 (fun H locs h1 o hS => ?_)
            have hR := hR.a4 h1 o
            have hSh := hSh.kept (fun q _ _ => o.2 q (by omega))
            have es : upd (cpN (S 4) (fun t => (r (6 + t) - bi (z = nI t)) * 20) 0 t) t ((r (6 + t) - bi (z = nI t)) * 20) = cpN (S 4) (fun t => (r (6 + t) - bi (z = nI t)) * 20) 0 (t + 1) := by have h9 := cpN_s (r := S 4) (g := (fun t => (r (6 + t) - bi (z = nI t)) * 20)) (lo := 0) (n := t); rw [Nat.zero_add] at h9; exact h9
            have hR : SrAt G a (updM (updM S 4 (cpN (S 4) (fun t => (r (6 + t) - bi (z = nI t)) * 20) 0 (t + 1))) 5 (cpN (S 5) (fun t => (r (9 + t) + bi (z = nI (3 + t))) * 20 + 20 - 1) 0 t)) H := by
              have em : updM (updM (updM S 4 (cpN (S 4) (fun t => (r (6 + t) - bi (z = nI t)) * 20) 0 t)) 5 (cpN (S 5) (fun t => (r (9 + t) + bi (z = nI (3 + t))) * 20 + 20 - 1) 0 t)) 4 (cpN (S 4) (fun t => (r (6 + t) - bi (z = nI t)) * 20) 0 (t + 1)) = (updM (updM S 4 (cpN (S 4) (fun t => (r (6 + t) - bi (z = nI t)) * 20) 0 (t + 1))) 5 (cpN (S 5) (fun t => (r (9 + t) + bi (z = nI (3 + t))) * 20 + 20 - 1) 0 t)) := by
                funext j
                unfold updM
                by_cases q : j = 4
                · rw [if_pos q, if_neg (by omega), if_pos q]
                · rw [if_neg q, if_neg q, if_neg q]
              rw [← em, ← es]
              exact hR
            refine lv_aload_n hx hb dX4_readBounds_58 rfl (lv_at hl 3 rfl) ?_
            refine rg (C := RX4) (T := TX4) (N := 10) (v := .ref (a + 4)) hx hb hT inX4 hown hK hR.1 rfl 5 (by decide) mf_X4_21 rfl dX4_readBounds_59 ?_
            refine lv_iload_n hx hb dX4_readBounds_62 rfl (lv_at hl 2 rfl) ?_
            refine lv_iload hx hb dX4_readBounds_63 (lv_at hl 0 rfl) ?_
            refine lv_bipush (v := 20) hx hb dX4_readBounds_65 (by decide) ?_
            refine lv_imul hx hb dX4_readBounds_67 ?_
            refine lv_bipush (v := 20) hx hb dX4_readBounds_68 (by decide) ?_
            refine lv_iadd hx hb dX4_readBounds_70 ?_
            refine lv_iconst (v := 1) hx hb dX4_readBounds_71 (by decide) ?_
            refine lv_isub hx hb dX4_readBounds_72 ?_
            refine r_iast hx hb hK hR.2.2.2.2.1 t (rfl) (h_t) (Nat.le_of_ble_eq_true rfl) hS (show _ ∧ _ from ⟨by omega, by omega⟩) dX4_readBounds_73 (fun H locs h1 o hS => ?_)
            have hR := hR.a5 h1 o
            have hSh := hSh.kept (fun q _ _ => o.2 q (by omega))
            have es : upd (cpN (S 5) (fun t => (r (9 + t) + bi (z = nI (3 + t))) * 20 + 20 - 1) 0 t) t ((r (9 + t) + bi (z = nI (3 + t))) * 20 + 20 - 1) = cpN (S 5) (fun t => (r (9 + t) + bi (z = nI (3 + t))) * 20 + 20 - 1) 0 (t + 1) := by have h9 := cpN_s (r := S 5) (g := (fun t => (r (9 + t) + bi (z = nI (3 + t))) * 20 + 20 - 1)) (lo := 0) (n := t); rw [Nat.zero_add] at h9; exact h9
            rw [updM_2, updM_eq, es] at hR
            refine lv_iinc (v := nI (t + 1)) (lv' := [(3, .int (nI (t + 1))), (5, .int (r (9 + t) + bi (z = nI (3 + t)))), (4, .int (r (6 + t) - bi (z = nI t))), (0, .ref a), (1, .ref b), (2, .int z)]) hx hb dX4_readBounds_74 hl (k := 2) rfl (nI_1 t) (by decide) rfl (fun ls hl => ?_)
            refine lv_goto (tgt := 2) hx hb dX4_readBounds_77 (by decide) ?_
            exact ih (t + 1) _ _ hS (by omega) hR hSh (by omega) ls (lv_sub hl [0, 3, 4, 5] rfl)
          · refine lv_iconst (v := 1) hx hb dX4_readBounds_39 (by decide) ?_
            refine lv_goto (tgt := 44) hx hb dX4_readBounds_40 (by decide) ?_
            refine lv_iadd hx hb dX4_readBounds_44 ?_
            rw [show r (9 + t) + 1 = r (9 + t) + bi (z = nI (3 + t)) from by rw [← bi_t c3]]
            refine lv_istore (lv' := [(5, .int (r (9 + t) + bi (z = nI (3 + t)))), (4, .int (r (6 + t) - bi (z = nI t))), (3, .int (nI t)), (0, .ref a), (1, .ref b), (2, .int z)]) hx hb dX4_readBounds_45 hl (by decide) rfl (fun ls hl => ?_)
            refine lv_aload_n hx hb dX4_readBounds_47 rfl (lv_at hl 3 rfl) ?_
            refine rg (C := RX4) (T := TX4) (N := 10) (v := .ref (a + 3)) hx hb hT inX4 hown hK hR.1 rfl 4 (by decide) mf_X4_18 rfl dX4_readBounds_48 ?_
            refine lv_iload_n hx hb dX4_readBounds_51 rfl (lv_at hl 2 rfl) ?_
            refine lv_iload hx hb dX4_readBounds_52 (lv_at hl 1 rfl) ?_
            refine lv_bipush (v := 20) hx hb dX4_readBounds_54 (by decide) ?_
            refine lv_imul hx hb dX4_readBounds_56 ?_
            refine r_iast hx hb hK hR.2.2.2.1 t (rfl) (h_t) (Nat.le_of_ble_eq_true rfl) hS (show _ ∧ _ from ⟨by omega, by omega⟩) dX4_readBounds_57 (fun H locs h1 o hS => ?_)
            have hR := hR.a4 h1 o
            have hSh := hSh.kept (fun q _ _ => o.2 q (by omega))
            have es : upd (cpN (S 4) (fun t => (r (6 + t) - bi (z = nI t)) * 20) 0 t) t ((r (6 + t) - bi (z = nI t)) * 20) = cpN (S 4) (fun t => (r (6 + t) - bi (z = nI t)) * 20) 0 (t + 1) := by have h9 := cpN_s (r := S 4) (g := (fun t => (r (6 + t) - bi (z = nI t)) * 20)) (lo := 0) (n := t); rw [Nat.zero_add] at h9; exact h9
            have hR : SrAt G a (updM (updM S 4 (cpN (S 4) (fun t => (r (6 + t) - bi (z = nI t)) * 20) 0 (t + 1))) 5 (cpN (S 5) (fun t => (r (9 + t) + bi (z = nI (3 + t))) * 20 + 20 - 1) 0 t)) H := by
              have em : updM (updM (updM S 4 (cpN (S 4) (fun t => (r (6 + t) - bi (z = nI t)) * 20) 0 t)) 5 (cpN (S 5) (fun t => (r (9 + t) + bi (z = nI (3 + t))) * 20 + 20 - 1) 0 t)) 4 (cpN (S 4) (fun t => (r (6 + t) - bi (z = nI t)) * 20) 0 (t + 1)) = (updM (updM S 4 (cpN (S 4) (fun t => (r (6 + t) - bi (z = nI t)) * 20) 0 (t + 1))) 5 (cpN (S 5) (fun t => (r (9 + t) + bi (z = nI (3 + t))) * 20 + 20 - 1) 0 t)) := by
                funext j
                unfold updM
                by_cases q : j = 4
                · rw [if_pos q, if_neg (by omega), if_pos q]
                · rw [if_neg q, if_neg q, if_neg q]
              rw [← em, ← es]
              exact hR
            refine lv_aload_n hx hb dX4_readBounds_58 rfl (lv_at hl 3 rfl) ?_
            refine rg (C := RX4) (T := TX4) (N := 10) (v := .ref (a + 4)) hx hb hT inX4 hown hK hR.1 rfl 5 (by decide) mf_X4_21 rfl dX4_readBounds_59 ?_
            refine lv_iload_n hx hb dX4_readBounds_62 rfl (lv_at hl 2 rfl) ?_
            refine lv_iload hx hb dX4_readBounds_63 (lv_at hl 0 rfl) ?_
            refine lv_bipush (v := 20) hx hb dX4_readBounds_65 (by decide) ?_
            refine lv_imul hx hb dX4_readBounds_67 ?_
            refine lv_bipush (v := 20) hx hb dX4_readBounds_68 (by decide) ?_
            refine lv_iadd hx hb dX4_readBounds_70 ?_
            refine lv_iconst (v := 1) hx hb dX4_readBounds_71 (by decide) ?_
            refine lv_isub hx hb dX4_readBounds_72 ?_
            refine r_iast hx hb hK hR.2.2.2.2.1 t (rfl) (h_t) (Nat.le_of_ble_eq_true rfl) hS (show _ ∧ _ from ⟨by omega, by omega⟩) dX4_readBounds_73 (fun H locs h1 o hS => ?_)
            have hR := hR.a5 h1 o
            have hSh := hSh.kept (fun q _ _ => o.2 q (by omega))
            have es : upd (cpN (S 5) (fun t => (r (9 + t) + bi (z = nI (3 + t))) * 20 + 20 - 1) 0 t) t ((r (9 + t) + bi (z = nI (3 + t))) * 20 + 20 - 1) = cpN (S 5) (fun t => (r (9 + t) + bi (z = nI (3 + t))) * 20 + 20 - 1) 0 (t + 1) := by have h9 := cpN_s (r := S 5) (g := (fun t => (r (9 + t) + bi (z = nI (3 + t))) * 20 + 20 - 1)) (lo := 0) (n := t); rw [Nat.zero_add] at h9; exact h9
            rw [updM_2, updM_eq, es] at hR
            refine lv_iinc (v := nI (t + 1)) (lv' := [(3, .int (nI (t + 1))), (5, .int (r (9 + t) + bi (z = nI (3 + t)))), (4, .int (r (6 + t) - bi (z = nI t))), (0, .ref a), (1, .ref b), (2, .int z)]) hx hb dX4_readBounds_74 hl (k := 2) rfl (nI_1 t) (by decide) rfl (fun ls hl => ?_)
            refine lv_goto (tgt := 2) hx hb dX4_readBounds_77 (by decide) ?_
            exact ih (t + 1) _ _ hS (by omega) hR hSh (by omega) ls (lv_sub hl [0, 3, 4, 5] rfl)
        · refine lv_iconst (v := 1) hx hb dX4_readBounds_18 (by decide) ?_
          refine lv_goto (tgt := 23) hx hb dX4_readBounds_19 (by decide) ?_
          refine lv_isub hx hb dX4_readBounds_23 ?_
          rw [show r (6 + t) - 1 = r (6 + t) - bi (z = nI t) from by rw [← bi_t c2]]
          refine lv_istore (lv' := [(4, .int (r (6 + t) - bi (z = nI t))), (3, .int (nI t)), (0, .ref a), (1, .ref b), (2, .int z)]) hx hb dX4_readBounds_24 hl (by decide) rfl (fun ls hl => ?_)
          refine lv_aload_n hx hb dX4_readBounds_26 rfl (lv_at hl 3 rfl) ?_
          refine rg (C := RX5) (T := TX5) (N := 8) (v := .ref (b + 3)) hx hb hT inX5 hown hK hSh.1 rfl 2 (by decide) mf_X4_87 rfl dX4_readBounds_27 ?_
          refine lv_iload_n hx hb dX4_readBounds_30 rfl (lv_at hl 1 rfl) ?_
          refine r_ialdS (y := r (9 + t)) hx hb hK hSh.2.2.2.1 t (rfl) (by omega) (Nat.le_of_ble_eq_true rfl) rfl dX4_readBounds_31 ?_
          refine lv_iload_n hx hb dX4_readBounds_32 rfl (lv_at hl 4 rfl) ?_
          refine lv_iconst (v := 3) hx hb dX4_readBounds_33 (by decide) ?_
          refine lv_iload_n hx hb dX4_readBounds_34 rfl (lv_at hl 1 rfl) ?_
          refine lv_iadd hx hb dX4_readBounds_35 ?_
          rw [show (3 : Int32) + nI t = nI (3 + t) from nI_add 3 t]
          refine lv_icmp_ne (tgt := 43) hx hb dX4_readBounds_36 (by decide) (fun c3 => ?_) (fun c3 => ?_)
          · refine lv_iconst (v := 0) hx hb dX4_readBounds_43 (by decide) ?_
            refine lv_iadd hx hb dX4_readBounds_44 ?_
            rw [show r (9 + t) + 0 = r (9 + t) + bi (z = nI (3 + t)) from by rw [← bi_f c3]]
            refine lv_istore (lv' := [(5, .int (r (9 + t) + bi (z = nI (3 + t)))), (4, .int (r (6 + t) - bi (z = nI t))), (3, .int (nI t)), (0, .ref a), (1, .ref b), (2, .int z)]) hx hb dX4_readBounds_45 hl (by decide) rfl (fun ls hl => ?_)
            refine lv_aload_n hx hb dX4_readBounds_47 rfl (lv_at hl 3 rfl) ?_
            refine rg (C := RX4) (T := TX4) (N := 10) (v := .ref (a + 3)) hx hb hT inX4 hown hK hR.1 rfl 4 (by decide) mf_X4_18 rfl dX4_readBounds_48 ?_
            refine lv_iload_n hx hb dX4_readBounds_51 rfl (lv_at hl 2 rfl) ?_
            refine lv_iload hx hb dX4_readBounds_52 (lv_at hl 1 rfl) ?_
            refine lv_bipush (v := 20) hx hb dX4_readBounds_54 (by decide) ?_
            refine lv_imul hx hb dX4_readBounds_56 ?_
            refine r_iast hx hb hK hR.2.2.2.1 t (rfl) (h_t) (Nat.le_of_ble_eq_true rfl) hS (show _ ∧ _ from ⟨by omega, by omega⟩) dX4_readBounds_57 (fun H locs h1 o hS => ?_)
            have hR := hR.a4 h1 o
            have hSh := hSh.kept (fun q _ _ => o.2 q (by omega))
            have es : upd (cpN (S 4) (fun t => (r (6 + t) - bi (z = nI t)) * 20) 0 t) t ((r (6 + t) - bi (z = nI t)) * 20) = cpN (S 4) (fun t => (r (6 + t) - bi (z = nI t)) * 20) 0 (t + 1) := by have h9 := cpN_s (r := S 4) (g := (fun t => (r (6 + t) - bi (z = nI t)) * 20)) (lo := 0) (n := t); rw [Nat.zero_add] at h9; exact h9
            have hR : SrAt G a (updM (updM S 4 (cpN (S 4) (fun t => (r (6 + t) - bi (z = nI t)) * 20) 0 (t + 1))) 5 (cpN (S 5) (fun t => (r (9 + t) + bi (z = nI (3 + t))) * 20 + 20 - 1) 0 t)) H := by
              have em : updM (updM (updM S 4 (cpN (S 4) (fun t => (r (6 + t) - bi (z = nI t)) * 20) 0 t)) 5 (cpN (S 5) (fun t => (r (9 + t) + bi (z = nI (3 + t))) * 20 + 20 - 1) 0 t)) 4 (cpN (S 4) (fun t => (r (6 + t) - bi (z = nI t)) * 20) 0 (t + 1)) = (updM (updM S 4 (cpN (S 4) (fun t => (r (6 + t) - bi (z = nI t)) * 20) 0 (t + 1))) 5 (cpN (S 5) (fun t => (r (9 + t) + bi (z = nI (3 + t))) * 20 + 20 - 1) 0 t)) := by
                funext j
                unfold updM
                by_cases q : j = 4
                · rw [if_pos q, if_neg (by omega), if_pos q]
                · rw [if_neg q, if_neg q, if_neg q]
              rw [← em, ← es]
              exact hR
            refine lv_aload_n hx hb dX4_readBounds_58 rfl (lv_at hl 3 rfl) ?_
            refine rg (C := RX4) (T := TX4) (N := 10) (v := .ref (a + 4)) hx hb hT inX4 hown hK hR.1 rfl 5 (by decide) mf_X4_21 rfl dX4_readBounds_59 ?_
            refine lv_iload_n hx hb dX4_readBounds_62 rfl (lv_at hl 2 rfl) ?_
            refine lv_iload hx hb dX4_readBounds_63 (lv_at hl 0 rfl) ?_
            refine lv_bipush (v := 20) hx hb dX4_readBounds_65 (by decide) ?_
            refine lv_imul hx hb dX4_readBounds_67 ?_
            refine lv_bipush (v := 20) hx hb dX4_readBounds_68 (by decide) ?_
            refine lv_iadd hx hb dX4_readBounds_70 ?_
            refine lv_iconst (v := 1) hx hb dX4_readBounds_71 (by decide) ?_
            refine lv_isub hx hb dX4_readBounds_72 ?_
            refine r_iast hx hb hK hR.2.2.2.2.1 t (rfl) (h_t) (Nat.le_of_ble_eq_true rfl) hS (show _ ∧ _ from ⟨by omega, by omega⟩) dX4_readBounds_73 (fun H locs h1 o hS => ?_)
            have hR := hR.a5 h1 o
            have hSh := hSh.kept (fun q _ _ => o.2 q (by omega))
            have es : upd (cpN (S 5) (fun t => (r (9 + t) + bi (z = nI (3 + t))) * 20 + 20 - 1) 0 t) t ((r (9 + t) + bi (z = nI (3 + t))) * 20 + 20 - 1) = cpN (S 5) (fun t => (r (9 + t) + bi (z = nI (3 + t))) * 20 + 20 - 1) 0 (t + 1) := by have h9 := cpN_s (r := S 5) (g := (fun t => (r (9 + t) + bi (z = nI (3 + t))) * 20 + 20 - 1)) (lo := 0) (n := t); rw [Nat.zero_add] at h9; exact h9
            rw [updM_2, updM_eq, es] at hR
            refine lv_iinc (v := nI (t + 1)) (lv' := [(3, .int (nI (t + 1))), (5, .int (r (9 + t) + bi (z = nI (3 + t)))), (4, .int (r (6 + t) - bi (z = nI t))), (0, .ref a), (1, .ref b), (2, .int z)]) hx hb dX4_readBounds_74 hl (k := 2) rfl (nI_1 t) (by decide) rfl (fun ls hl => ?_)
            refine lv_goto (tgt := 2) hx hb dX4_readBounds_77 (by decide) ?_
            exact ih (t + 1) _ _ hS (by omega) hR hSh (by omega) ls (lv_sub hl [0, 3, 4, 5] rfl)
          · refine lv_iconst (v := 1) hx hb dX4_readBounds_39 (by decide) ?_
            refine lv_goto (tgt := 44) hx hb dX4_readBounds_40 (by decide) ?_
            refine lv_iadd hx hb dX4_readBounds_44 ?_
            rw [show r (9 + t) + 1 = r (9 + t) + bi (z = nI (3 + t)) from by rw [← bi_t c3]]
            refine lv_istore (lv' := [(5, .int (r (9 + t) + bi (z = nI (3 + t)))), (4, .int (r (6 + t) - bi (z = nI t))), (3, .int (nI t)), (0, .ref a), (1, .ref b), (2, .int z)]) hx hb dX4_readBounds_45 hl (by decide) rfl (fun ls hl => ?_)
            refine lv_aload_n hx hb dX4_readBounds_47 rfl (lv_at hl 3 rfl) ?_
            refine rg (C := RX4) (T := TX4) (N := 10) (v := .ref (a + 3)) hx hb hT inX4 hown hK hR.1 rfl 4 (by decide) mf_X4_18 rfl dX4_readBounds_48 ?_
            refine lv_iload_n hx hb dX4_readBounds_51 rfl (lv_at hl 2 rfl) ?_
            refine lv_iload hx hb dX4_readBounds_52 (lv_at hl 1 rfl) ?_
            refine lv_bipush (v := 20) hx hb dX4_readBounds_54 (by decide) ?_
            refine lv_imul hx hb dX4_readBounds_56 ?_
            refine r_iast hx hb hK hR.2.2.2.1 t (rfl) (h_t) (Nat.le_of_ble_eq_true rfl) hS (show _ ∧ _ from ⟨by omega, by omega⟩) dX4_readBounds_57 (fun H locs h1 o hS => ?_)
            have hR := hR.a4 h1 o
            have hSh := hSh.kept (fun q _ _ => o.2 q (by omega))
            have es : upd (cpN (S 4) (fun t => (r (6 + t) - bi (z = nI t)) * 20) 0 t) t ((r (6 + t) - bi (z = nI t)) * 20) = cpN (S 4) (fun t => (r (6 + t) - bi (z = nI t)) * 20) 0 (t + 1) := by have h9 := cpN_s (r := S 4) (g := (fun t => (r (6 + t) - bi (z = nI t)) * 20)) (lo := 0) (n := t); rw [Nat.zero_add] at h9; exact h9
            have hR : SrAt G a (updM (updM S 4 (cpN (S 4) (fun t => (r (6 + t) - bi (z = nI t)) * 20) 0 (t + 1))) 5 (cpN (S 5) (fun t => (r (9 + t) + bi (z = nI (3 + t))) * 20 + 20 - 1) 0 t)) H := by
              have em : updM (updM (updM S 4 (cpN (S 4) (fun t => (r (6 + t) - bi (z = nI t)) * 20) 0 t)) 5 (cpN (S 5) (fun t => (r (9 + t) + bi (z = nI (3 + t))) * 20 + 20 - 1) 0 t)) 4 (cpN (S 4) (fun t => (r (6 + t) - bi (z = nI t)) * 20) 0 (t + 1)) = (updM (updM S 4 (cpN (S 4) (fun t => (r (6 + t) - bi (z = nI t)) * 20) 0 (t + 1))) 5 (cpN (S 5) (fun t => (r (9 + t) + bi (z = nI (3 + t))) * 20 + 20 - 1) 0 t)) := by
                funext j
                unfold updM
                by_cases q : j = 4
                · rw [if_pos q, if_neg (by omega), if_pos q]
                · rw [if_neg q, if_neg q, if_neg q]
              rw [← em, ← es]
              exact hR
            refine lv_aload_n hx hb dX4_readBounds_58 rfl (lv_at hl 3 rfl) ?_
            refine rg (C := RX4) (T := TX4) (N := 10) (v := .ref (a + 4)) hx hb hT inX4 hown hK hR.1 rfl 5 (by decide) mf_X4_21 rfl dX4_readBounds_59 ?_
            refine lv_iload_n hx hb dX4_readBounds_62 rfl (lv_at hl 2 rfl) ?_
            refine lv_iload hx hb dX4_readBounds_63 (lv_at hl 0 rfl) ?_
            refine lv_bipush (v := 20) hx hb dX4_readBounds_65 (by decide) ?_
            refine lv_imul hx hb dX4_readBounds_67 ?_
            refine lv_bipush (v := 20) hx hb dX4_readBounds_68 (by decide) ?_
            refine lv_iadd hx hb dX4_readBounds_70 ?_
            refine lv_iconst (v := 1) hx hb dX4_readBounds_71 (by decide) ?_
            refine lv_isub hx hb dX4_readBounds_72 ?_
            refine r_iast hx hb hK hR.2.2.2.2.1 t (rfl) (h_t) (Nat.le_of_ble_eq_true rfl) hS (show _ ∧ _ from ⟨by omega, by omega⟩) dX4_readBounds_73 (fun H locs h1 o hS => ?_)
            have hR := hR.a5 h1 o
            have hSh := hSh.kept (fun q _ _ => o.2 q (by omega))
            have es : upd (cpN (S 5) (fun t => (r (9 + t) + bi (z = nI (3 + t))) * 20 + 20 - 1) 0 t) t ((r (9 + t) + bi (z = nI (3 + t))) * 20 + 20 - 1) = cpN (S 5) (fun t => (r (9 + t) + bi (z = nI (3 + t))) * 20 + 20 - 1) 0 (t + 1) := by have h9 := cpN_s (r := S 5) (g := (fun t => (r (9 + t) + bi (z = nI (3 + t))) * 20 + 20 - 1)) (lo := 0) (n := t); rw [Nat.zero_add] at h9; exact h9
            rw [updM_2, updM_eq, es] at hR
            refine lv_iinc (v := nI (t + 1)) (lv' := [(3, .int (nI (t + 1))), (5, .int (r (9 + t) + bi (z = nI (3 + t)))), (4, .int (r (6 + t) - bi (z = nI t))), (0, .ref a), (1, .ref b), (2, .int z)]) hx hb dX4_readBounds_74 hl (k := 2) rfl (nI_1 t) (by decide) rfl (fun ls hl => ?_)
            refine lv_goto (tgt := 2) hx hb dX4_readBounds_77 (by decide) ?_
            exact ih (t + 1) _ _ hS (by omega) hR hSh (by omega) ls (lv_sub hl [0, 3, 4, 5] rfl)
  exact loop 4 0 _ _ hS (by omega) (by rw [cpN_0, cpN_0, updM_self (by rfl : S 4 = S 4), updM_self (by rfl : S 5 = S 5)]; exact hR) hSh (by omega) ls (lv_sub hl [0, 1, 2, 3] rfl)
