/-! a copy of a shop; the history -/
def updA (r : Nat → Int32) (lo n : Nat) (g : Nat → Int32) : Nat → Int32 := fun k => if lo ≤ k ∧ k < lo + n then g (k - lo) else r k
theorem ShopAt.pLowA {G : GG} {b : Nat} {r g : Nat → Int32} {H H1 : Heap} (h : ShopAt G b r H) (h1 : ar G 0 (b + 2) (iA 3 g) H1) (o : Oq (b + 2) H H1) : ShopAt G b (updA r 6 3 g) H1 :=
  h.pArr (Or.inl rfl) o (fun _ => iA_ext h1 (fun j hj => by unfold updA; rw [if_pos (by omega)]; congr 1; omega)) (fun q => by omega) (fun q => by omega) (fun j _ h2 _ _ => if_neg (by have := h2 rfl; omega))
theorem ShopAt.pHighA {G : GG} {b : Nat} {r g : Nat → Int32} {H H1 : Heap} (h : ShopAt G b r H) (h1 : ar G 0 (b + 3) (iA 3 g) H1) (o : Oq (b + 3) H H1) : ShopAt G b (updA r 9 3 g) H1 :=
  h.pArr (Or.inr (Or.inl rfl)) o (fun q => by omega) (fun _ => iA_ext h1 (fun j hj => by unfold updA; rw [if_pos (by omega)]; congr 1; omega)) (fun q => by omega) (fun j _ _ h2 _ => if_neg (by have := h2 rfl; omega))
theorem ShopAt.pSetA {G : GG} {b : Nat} {r g : Nat → Int32} {H H1 : Heap} (h : ShopAt G b r H) (h1 : ar G 0 (b + 4) (iA 2 g) H1) (o : Oq (b + 4) H H1) : ShopAt G b (updA r 0 2 g) H1 :=
  h.pArr (Or.inr (Or.inr rfl)) o (fun q => by omega) (fun q => by omega) (fun _ => iA_ext h1 (fun j hj => by unfold updA; rw [if_pos (by omega)]; congr 1)) (fun j _ _ _ h2 => if_neg (by have := h2 rfl; omega))
def cpR (r r2 : Nat → Int32) (n : Nat) : Nat → Int32 := fun k => if 12 ≤ k ∧ k < 12 + 14 * n then r2 k else r k
theorem cpR_0 {r r2 : Nat → Int32} : cpR r r2 0 = r := funext fun k => if_neg (by omega)
/-! History: the object, the array, seven shops from h + 2 on -/
def HistAt (G : GG) (h : Nat) (T : Nat → Nat → Int32) (nx kp : Nat) (H : Heap) : Prop :=
  ob G 0 h [.ref (h + 1), .int (nI nx), .int (nI kp)] H ∧ ar G 4 (h + 1) (qA 7 (fun i => some (h + 2 + 20 * i))) H ∧ ∀ i, i < 7 → ShopAt G (h + 2 + 20 * i) (T i) H
def updT (T : Nat → Nat → Int32) (i : Nat) (r : Nat → Int32) : Nat → Nat → Int32 := fun j => if j = i then r else T j
theorem HistAt.kept {G : GG} {h nx kp : Nat} {T : Nat → Nat → Int32} {H H1 : Heap} (x : HistAt G h T nx kp H) (e : ∀ q, h ≤ q → q < h + 142 → H1[q]? = H[q]?) : HistAt G h T nx kp H1 :=
  ⟨x.1.kept (e _ (by omega) (by omega)), x.2.1.kept (e _ (by omega) (by omega)), fun i hi => (x.2.2 i hi).kept (fun q _ _ => e q (by omega) (by omega))⟩
theorem HistAt.pObj {G : GG} {h nx kp nx' kp' : Nat} {T : Nat → Nat → Int32} {H H1 : Heap} (x : HistAt G h T nx kp H) (h1 : ob G 0 h [.ref (h + 1), .int (nI nx'), .int (nI kp')] H1) (o : Oq h H H1) : HistAt G h T nx' kp' H1 :=
  ⟨h1, x.2.1.kept (o.2 _ (by omega)), fun i hi => (x.2.2 i hi).kept (fun q _ _ => o.2 q (by omega))⟩
theorem HistAt.pShop {G : GG} {h nx kp i : Nat} {T : Nat → Nat → Int32} {r : Nat → Int32} {H H1 : Heap} (x : HistAt G h T nx kp H) (hi : i < 7) (h1 : ShopAt G (h + 2 + 20 * i) r H1) (o : ∀ q, q < H.size → ¬ In (h + 2 + 20 * i) 20 q → H1[q]? = H[q]?) : HistAt G h (updT T i r) nx kp H1 := by
  have w : ∀ q, q < H.size → (q < h + 2 + 20 * i ∨ h + 22 + 20 * i ≤ q) → H1[q]? = H[q]? := fun q hq hz => o q hq (fun (z : _ ∧ _) => by omega)
  have hz := (x.2.2 6 (by omega)).leaf (i := 4) (by omega)
  have hlt := hz.2.2.lt
  refine ⟨x.1.kept (w _ (by omega) (by omega)), x.2.1.kept (w _ (by omega) (by omega)), fun j hj => ?_⟩
  by_cases q : j = i
  · subst q
    unfold updT
    rw [if_pos rfl]
    exact h1
  · unfold updT
    rw [if_neg q]
    exact (x.2.2 j hj).kept (fun q' _ _ => w q' (by omega) (by omega))

set_option maxHeartbeats 4000000 in
set_option maxRecDepth 100000 in
theorem k_X5_copyFrom (l : Launch) (G : GG) (b b2 : Nat) (r r2 : Nat → Int32) (hne : b + 20 ≤ b2 ∨ b2 + 20 ≤ b) : Met l yX5_copyFrom (ws_ yX5_copyFrom cX5_copyFrom 3 (none : Option Jvm.ClassFile.FieldType)) (rm_ 2) (PC G [.ref b, .ref b2] (fun H => ShopAt G b r H ∧ ShopAt G b2 r2 H)) (QV (ShopAt G b r2) (In b 20)) 0 0 (In b 20) := by
  refine met_q (by decide +kernel) (Nat.le_of_ble_eq_true rfl) ?_
  intro p e s m args below meth c Q hQ hx hb hr hT hown hml hlocks hnm hK ⟨hSh, hS2⟩ ls hl
  have hl : lv_has ls 3 [(0, .ref b), (1, .ref b2)] := hl
  have hS : va_S (In b 20) s.heap s.heap [] := va_S.rf
  refine lv_iconst (v := 0) hx hb dX5_copyFrom_0 (by decide) ?_
  refine lv_istore_n (lv' := [(2, .int 0), (0, .ref b), (1, .ref b2)]) hx hb dX5_copyFrom_1 rfl hl (by decide) rfl (fun ls hl => ?_)
  have loop : ∀ (k : Nat) (i : Nat) (H : Heap) (locs : List Loc), va_S (In b 20) s.heap H locs → i ≤ 5 → ShopAt G b (cpR r r2 i) H → ShopAt G b2 r2 H → 5 - i < k → ∀ ls : Array Slot, lv_has ls 3 [(2, .int (nI i)), (0, .ref b), (1, .ref b2)] → W p l e (rm_ 2) s m args below meth c H locs 0 0 Q (F0 m 2 ls []) := by
    intro k
    induction k with
    | zero => intro i H locs hS hi hSh hS2 hm; exact absurd hm (Nat.not_lt_zero _)
    | succ k ih =>
      intro i H locs hS hi hSh hS2 hm ls hl
      refine lv_iload_n hx hb dX5_copyFrom_2 rfl (lv_at hl 0 rfl) ?_
      refine lv_iconst (v := 5) hx hb dX5_copyFrom_3 (by decide) ?_
      refine lv_icmp_ge (tgt := 28) hx hb dX5_copyFrom_4 (by decide) (fun cd => ?_) (fun cd => ?_)
      · have e5 : i = 5 := by
          have h9 : nI 5 ≤ nI i := cd
          rw [nI_leI (by omega) (by omega)] at h9
          omega
        subst e5
        refine lv_aload_n hx hb dX5_copyFrom_28 rfl (lv_at hl 2 rfl) ?_
        refine rg (C := RX5) (T := TX5) (N := 8) (v := .ref (b2 + 2)) hx hb hT inX5 hown hK hS2.1 rfl 1 (by decide) mf_X5_17 rfl dX5_copyFrom_29 ?_
        refine lv_iconst (v := 0) hx hb dX5_copyFrom_32 (by decide) ?_
        refine lv_aload_n hx hb dX5_copyFrom_33 rfl (lv_at hl 1 rfl) ?_
        refine rg (C := RX5) (T := TX5) (N := 8) (v := .ref (b + 2)) hx hb hT inX5 hown hK hSh.1 rfl 1 (by decide) mf_X5_17 rfl dX5_copyFrom_34 ?_
        refine lv_iconst (v := 0) hx hb dX5_copyFrom_37 (by decide) ?_
        refine lv_iconst (v := 3) hx hb dX5_copyFrom_38 (by decide) ?_
        refine r_copy hx hb (hml.trans hl.1.symm) hown hT mm_X5_46 hK hS2.2.2.1 hSh.2.2.1 0 0 3 (by decide) (by decide) (by decide) (by omega) (by omega) (Nat.le_of_ble_eq_true rfl) (Nat.le_of_ble_eq_true rfl) hS (show _ ∧ _ from ⟨by omega, by omega⟩) (Nat.le_of_ble_eq_true rfl) (Nat.le_of_ble_eq_true rfl) dX5_copyFrom_39 (fun H locs h1 o hS => ?_)
        have hSh := hSh.pLowA h1 o
        have hS2 := hS2.kept (fun q _ _ => o.2 q (by omega))
        obtain ⟨r3, er3⟩ : ∃ z, z = updA (cpR r r2 5) 6 3 (va_cpy (fun j => r2 (6 + j)) (fun j => cpR r r2 5 (6 + j)) 0 0 3) := ⟨_, rfl⟩
        rw [← er3] at hSh
        refine lv_aload_n hx hb dX5_copyFrom_42 rfl (lv_at hl 2 rfl) ?_
        refine rg (C := RX5) (T := TX5) (N := 8) (v := .ref (b2 + 3)) hx hb hT inX5 hown hK hS2.1 rfl 2 (by decide) mf_X5_21 rfl dX5_copyFrom_43 ?_
        refine lv_iconst (v := 0) hx hb dX5_copyFrom_46 (by decide) ?_
        refine lv_aload_n hx hb dX5_copyFrom_47 rfl (lv_at hl 1 rfl) ?_
        refine rg (C := RX5) (T := TX5) (N := 8) (v := .ref (b + 3)) hx hb hT inX5 hown hK hSh.1 rfl 2 (by decide) mf_X5_21 rfl dX5_copyFrom_48 ?_
        refine lv_iconst (v := 0) hx hb dX5_copyFrom_51 (by decide) ?_
        refine lv_iconst (v := 3) hx hb dX5_copyFrom_52 (by decide) ?_
        refine r_copy hx hb (hml.trans hl.1.symm) hown hT mm_X5_46 hK hS2.2.2.2.1 hSh.2.2.2.1 0 0 3 (by decide) (by decide) (by decide) (by omega) (by omega) (Nat.le_of_ble_eq_true rfl) (Nat.le_of_ble_eq_true rfl) hS (show _ ∧ _ from ⟨by omega, by omega⟩) (Nat.le_of_ble_eq_true rfl) (Nat.le_of_ble_eq_true rfl) dX5_copyFrom_53 (fun H locs h1 o hS => ?_)
        have hSh := hSh.pHighA h1 o
        have hS2 := hS2.kept (fun q _ _ => o.2 q (by omega))
        obtain ⟨r4, er4⟩ : ∃ z, z = updA r3 9 3 (va_cpy (fun j => r2 (9 + j)) (fun j => r3 (9 + j)) 0 0 3) := ⟨_, rfl⟩
        rw [← er4] at hSh
        refine lv_aload_n hx hb dX5_copyFrom_56 rfl (lv_at hl 2 rfl) ?_
        refine rg (C := RX5) (T := TX5) (N := 8) (v := .ref (b2 + 4)) hx hb hT inX5 hown hK hS2.1 rfl 3 (by decide) mf_X5_32 rfl dX5_copyFrom_57 ?_
        refine lv_iconst (v := 0) hx hb dX5_copyFrom_60 (by decide) ?_
        refine lv_aload_n hx hb dX5_copyFrom_61 rfl (lv_at hl 1 rfl) ?_
        refine rg (C := RX5) (T := TX5) (N := 8) (v := .ref (b + 4)) hx hb hT inX5 hown hK hSh.1 rfl 3 (by decide) mf_X5_32 rfl dX5_copyFrom_62 ?_
        refine lv_iconst (v := 0) hx hb dX5_copyFrom_65 (by decide) ?_
        refine lv_aload_n hx hb dX5_copyFrom_66 rfl (lv_at hl 1 rfl) ?_
        refine rg (C := RX5) (T := TX5) (N := 8) (v := .ref (b + 4)) hx hb hT inX5 hown hK hSh.1 rfl 3 (by decide) mf_X5_32 rfl dX5_copyFrom_67 ?_
        refine r_alen hx hb hK hSh.2.2.2.2.1 rfl (v := 2) rfl dX5_copyFrom_70 ?_
        refine r_copy hx hb (hml.trans hl.1.symm) hown hT mm_X5_46 hK hS2.2.2.2.2.1 hSh.2.2.2.2.1 0 0 2 (by decide) (by decide) (by decide) (by omega) (by omega) (Nat.le_of_ble_eq_true rfl) (Nat.le_of_ble_eq_true rfl) hS (show _ ∧ _ from ⟨by omega, by omega⟩) (Nat.le_of_ble_eq_true rfl) (Nat.le_of_ble_eq_true rfl) dX5_copyFrom_71 (fun H locs h1 o hS => ?_)
        have hSh := hSh.pSetA h1 o
        have hS2 := hS2.kept (fun q _ _ => o.2 q (by omega))
        obtain ⟨r5, er5⟩ : ∃ z, z = updA r4 0 2 (va_cpy (fun j => r2 j) (fun j => r4 j) 0 0 2) := ⟨_, rfl⟩
        rw [← er5] at hSh
        refine lv_aload_n hx hb dX5_copyFrom_74 rfl (lv_at hl 1 rfl) ?_
        refine lv_aload_n hx hb dX5_copyFrom_75 rfl (lv_at hl 2 rfl) ?_
        refine rg (C := RX5) (T := TX5) (N := 8) (v := .int (r2 5)) hx hb hT inX5 hown hK hS2.1 rfl 4 (by decide) mf_X5_52 rfl dX5_copyFrom_76 ?_
        refine rp (C := RX5) (T := TX5) (N := 8) (v := .int (r2 5)) (ty := .int) hx hb hT inX5 tyX5 tyX5_ok nmX5 hown hK hSh.1 rfl 4 (by decide) mf_X5_52 rfl (by decide +kernel) rfl rfl (Nat.le_of_ble_eq_true rfl) hS (show _ ∧ _ from ⟨by omega, by omega⟩) dX5_copyFrom_79 (fun H locs h1 o hS => ?_)
        have hSh := hSh.pLeaves h1 o
        have hS2 := hS2.kept (fun q _ _ => o.2 q (by omega))
        refine lv_aload_n hx hb dX5_copyFrom_82 rfl (lv_at hl 1 rfl) ?_
        refine lv_aload_n hx hb dX5_copyFrom_83 rfl (lv_at hl 2 rfl) ?_
        refine rg (C := RX5) (T := TX5) (N := 8) (v := .int (r2 2)) hx hb hT inX5 hown hK hS2.1 rfl 5 (by decide) mf_X5_56 rfl dX5_copyFrom_84 ?_
        refine rp (C := RX5) (T := TX5) (N := 8) (v := .int (r2 2)) (ty := .int) hx hb hT inX5 tyX5 tyX5_ok nmX5 hown hK hSh.1 rfl 5 (by decide) mf_X5_56 rfl (by decide +kernel) rfl rfl (Nat.le_of_ble_eq_true rfl) hS (show _ ∧ _ from ⟨by omega, by omega⟩) dX5_copyFrom_87 (fun H locs h1 o hS => ?_)
        have hSh := hSh.pDay h1 o
        have hS2 := hS2.kept (fun q _ _ => o.2 q (by omega))
        refine lv_aload_n hx hb dX5_copyFrom_90 rfl (lv_at hl 1 rfl) ?_
        refine lv_aload_n hx hb dX5_copyFrom_91 rfl (lv_at hl 2 rfl) ?_
        refine rg (C := RX5) (T := TX5) (N := 8) (v := .int (r2 3)) hx hb hT inX5 hown hK hS2.1 rfl 6 (by decide) mf_X5_59 rfl dX5_copyFrom_92 ?_
        refine rp (C := RX5) (T := TX5) (N := 8) (v := .int (r2 3)) (ty := .int) hx hb hT inX5 tyX5 tyX5_ok nmX5 hown hK hSh.1 rfl 6 (by decide) mf_X5_59 rfl (by decide +kernel) rfl rfl (Nat.le_of_ble_eq_true rfl) hS (show _ ∧ _ from ⟨by omega, by omega⟩) dX5_copyFrom_95 (fun H locs h1 o hS => ?_)
        have hSh := hSh.pGrams h1 o
        have hS2 := hS2.kept (fun q _ _ => o.2 q (by omega))
        refine lv_aload_n hx hb dX5_copyFrom_98 rfl (lv_at hl 1 rfl) ?_
        refine lv_aload_n hx hb dX5_copyFrom_99 rfl (lv_at hl 2 rfl) ?_
        refine rg (C := RX5) (T := TX5) (N := 8) (v := .int (r2 4)) hx hb hT inX5 hown hK hS2.1 rfl 7 (by decide) mf_X5_62 rfl dX5_copyFrom_100 ?_
        refine rp (C := RX5) (T := TX5) (N := 8) (v := .int (r2 4)) (ty := .int) hx hb hT inX5 tyX5 tyX5_ok nmX5 hown hK hSh.1 rfl 7 (by decide) mf_X5_62 rfl (by decide +kernel) rfl rfl (Nat.le_of_ble_eq_true rfl) hS (show _ ∧ _ from ⟨by omega, by omega⟩) dX5_copyFrom_103 (fun H locs h1 o hS => ?_)
        have hSh := hSh.pCoins h1 o
        have hS2 := hS2.kept (fun q _ _ => o.2 q (by omega))
        exact nd_V hQ hx hb hr hlocks dX5_copyFrom_106 hS (hSh.ext (fun k hk => by
        simp only [upd]
        by_cases q4 : k = 4
        · rw [if_pos q4, q4]
        rw [if_neg q4]
        by_cases q3 : k = 3
        · rw [if_pos q3, q3]
        rw [if_neg q3]
        by_cases q2 : k = 2
        · rw [if_pos q2, q2]
        rw [if_neg q2]
        by_cases q5 : k = 5
        · rw [if_pos q5, q5]
        rw [if_neg q5, er5]
        unfold updA
        by_cases q1 : k < 2
        · rw [if_pos (by omega), cpy00 (by omega)]
          congr 1
        rw [if_neg (by omega), er4]
        unfold updA
        by_cases q9 : 9 ≤ k ∧ k < 9 + 3
        · rw [if_pos q9, cpy00 (by omega)]
          congr 1
          omega
        rw [if_neg q9, er3]
        unfold updA
        by_cases q6 : 6 ≤ k ∧ k < 6 + 3
        · rw [if_pos q6, cpy00 (by omega)]
          congr 1
          omega
        rw [if_neg q6]
        exact if_pos (by omega)))
      · have h5 : i < 5 := by
          have h9 : ¬ nI 5 ≤ nI i := cd
          rw [nI_leI (by omega) (by omega)] at h9
          omega
        refine lv_aload_n hx hb dX5_copyFrom_7 rfl (lv_at hl 1 rfl) ?_
        refine rg (C := RX5) (T := TX5) (N := 8) (v := .ref (b + 1)) hx hb hT inX5 hown hK hSh.1 rfl 0 (by decide) mf_X5_11 rfl dX5_copyFrom_8 ?_
        refine lv_iload_n hx hb dX5_copyFrom_11 rfl (lv_at hl 0 rfl) ?_
        refine r_aaldS (y := b + 5 + 3 * i) hx hb hK hSh.2.1 rfl rfl i (rfl) (by omega) (Nat.le_of_ble_eq_true rfl) rfl dX5_copyFrom_12 ?_
        refine lv_aload_n hx hb dX5_copyFrom_13 rfl (lv_at hl 2 rfl) ?_
        refine rg (C := RX5) (T := TX5) (N := 8) (v := .ref (b2 + 1)) hx hb hT inX5 hown hK hS2.1 rfl 0 (by decide) mf_X5_11 rfl dX5_copyFrom_14 ?_
        refine lv_iload_n hx hb dX5_copyFrom_17 rfl (lv_at hl 0 rfl) ?_
        refine r_aaldS (y := b2 + 5 + 3 * i) hx hb hK hS2.2.1 rfl rfl i (rfl) (by omega) (Nat.le_of_ble_eq_true rfl) rfl dX5_copyFrom_18 ?_
        refine got_V (run_i hx hb hml hown hT hK hl.1 (k_X1_copyFrom l G (b + 5 + 3 * i) (b2 + 5 + 3 * i) (fun k => cpR r r2 i (12 + 14 * i + k)) (fun k => r2 (12 + 14 * i + k)) (by omega)) (cw_X5_42 hT ⟨Nat.le_of_ble_eq_true rfl, Nat.le_of_ble_eq_true rfl⟩) (hSh.leaf (i := i) (by omega)).1 rfl ⟨hSh.leaf (i := i) (by omega), hS2.leaf (i := i) (by omega)⟩ rfl rfl (Nat.le_of_ble_eq_true rfl) dX5_copyFrom_19 ⟨Nat.zero_le _, Nat.zero_le _⟩) hS (fun q (hq : _ ∧ _) => show _ ∧ _ from ⟨by omega, by omega⟩) (fun q (hq : _ ∧ _) => show _ ∧ _ from ⟨by omega, by omega⟩) (fun  H locs h1 hz hk hS => ?_)
        have w : ∀ q, q < _ → (q < b + 5 + 3 * i ∨ b + 8 + 3 * i ≤ q) → H[q]? = _ := fun q hq hz => hk q hq (fun (z : _ ∧ _) => by omega)
        have hlt2 := (hS2.leaf (i := 4) (by omega)).2.2.lt
        have hS2 := hS2.kept (fun q _ _ => w q (by omega) (by omega))
        have hSh := hSh.putLeaf (r' := cpR r r2 (i + 1)) (by omega) (h1.ext (fun k hk => by unfold cpR; rw [if_pos (by omega)])) (fun q hq hlt => w q hlt hq) (fun k _ hk => by
          unfold cpR
          by_cases q : 12 ≤ k ∧ k < 12 + 14 * i
          · rw [if_pos q, if_pos (by omega)]
          · rw [if_neg q, if_neg (by omega)])
        refine lv_iinc (v := nI (i + 1)) (lv' := [(2, .int (nI (i + 1))), (0, .ref b), (1, .ref b2)]) hx hb dX5_copyFrom_22 hl (k := 0) rfl (nI_1 i) (by decide) rfl (fun ls hl => ?_)
        refine lv_goto (tgt := 2) hx hb dX5_copyFrom_25 (by decide) ?_
        exact ih (i + 1) _ _ hS (by omega) hSh hS2 (by omega) ls (lv_sub hl [0, 1, 2] rfl)
  exact loop 6 0 _ _ hS (by omega) (by rw [cpR_0]; exact hSh) hS2 (by omega) ls (lv_sub hl [0, 1, 2] rfl)

set_option maxHeartbeats 4000000 in
set_option maxRecDepth 100000 in
theorem k_X0_draft (l : Launch) (G : GG) (h b nx kp : Nat) (T : Nat → Nat → Int32) (r : Nat → Int32) (hnx : nx < 7) (hne : b + 20 ≤ h ∨ h + 142 ≤ b) : Met l yX0_draft (ws_ yX0_draft cX0_draft 2 (none : Option Jvm.ClassFile.FieldType)) (rm_ 3) (PC G [.ref h, .ref b] (fun H => HistAt G h T nx kp H ∧ ShopAt G b r H)) (QV (HistAt G h (updT T nx r) nx kp) (In h 142)) 0 0 (In h 142) := by
  refine met_q (by decide +kernel) (Nat.le_of_ble_eq_true rfl) ?_
  intro p e s m args below meth c Q hQ hx hb hr hT hown hml hlocks hnm hK ⟨hHi, hSh⟩ ls hl
  have hl : lv_has ls 2 [(0, .ref h), (1, .ref b)] := hl
  have hS : va_S (In h 142) s.heap s.heap [] := va_S.rf
  refine lv_aload_n hx hb dX0_draft_0 rfl (lv_at hl 0 rfl) ?_
  refine rg (C := RX0) (T := TX0) (N := 3) (v := .ref (h + 1)) hx hb hT inX0 hown hK hHi.1 rfl 0 (by decide) mf_X0_13 rfl dX0_draft_1 ?_
  refine lv_aload_n hx hb dX0_draft_4 rfl (lv_at hl 0 rfl) ?_
  refine rg (C := RX0) (T := TX0) (N := 3) (v := .int (nI nx)) hx hb hT inX0 hown hK hHi.1 rfl 1 (by decide) mf_X0_18 rfl dX0_draft_5 ?_
  refine r_aaldS (y := h + 2 + 20 * nx) hx hb hK hHi.2.1 rfl rfl nx (rfl) (by omega) (Nat.le_of_ble_eq_true rfl) rfl dX0_draft_8 ?_
  refine lv_aload_n hx hb dX0_draft_9 rfl (lv_at hl 1 rfl) ?_
  refine got_V (run_i hx hb hml hown hT hK hl.1 (k_X5_copyFrom l G (h + 2 + 20 * nx) b (T nx) r (by omega)) (cw_X0_22 hT ⟨Nat.le_of_ble_eq_true rfl, Nat.le_of_ble_eq_true rfl⟩) (hHi.2.2 nx hnx).1 rfl ⟨hHi.2.2 nx hnx, hSh⟩ rfl rfl (Nat.le_of_ble_eq_true rfl) dX0_draft_10 ⟨Nat.zero_le _, Nat.zero_le _⟩) hS (fun q (hq : _ ∧ _) => show _ ∧ _ from ⟨by omega, by omega⟩) (fun q (hq : _ ∧ _) => show _ ∧ _ from ⟨by omega, by omega⟩) (fun  H locs h1 hz hk hS => ?_)
  exact nd_V hQ hx hb hr hlocks dX0_draft_13 hS (hHi.pShop hnx h1 hk)

set_option maxHeartbeats 4000000 in
set_option maxRecDepth 100000 in
theorem k_X0_settle (l : Launch) (G : GG) (h nx kp : Nat) (T : Nat → Nat → Int32) (x : Int32) (hnx : nx < 7) (hkp : kp ≤ 6) : Met l yX0_settle (ws_ yX0_settle cX0_settle 2 (some .int)) (rm_ 1) (PC G [.ref h, .int x] (HistAt G h T nx kp)) (QI (fun v H => v = x ∧ HistAt G h T (if 0 ≤ x then (nx + 1) % 7 else nx) (if 0 ≤ x then min (kp + 1) 6 else kp) H) (In h 142)) 0 0 (In h 142) := by
  refine met_q (by decide +kernel) (Nat.le_of_ble_eq_true rfl) ?_
  intro p e s m args below meth c Q hQ hx hb hr hT hown hml hlocks hnm hK hHi ls hl
  have hl : lv_has ls 2 [(0, .ref h), (1, .int x)] := hl
  have hS : va_S (In h 142) s.heap s.heap [] := va_S.rf
  refine lv_iload_n hx hb dX0_settle_0 rfl (lv_at hl 1 rfl) ?_
  refine lv_if_lt (tgt := 32) hx hb dX0_settle_1 (by decide) (fun c1 => ?_) (fun c1 => ?_)
  · refine lv_iload_n hx hb dX0_settle_32 rfl (lv_at hl 1 rfl) ?_
    exact nd_I hQ hx hb hr hlocks dX0_settle_33 hS (⟨rfl, by rw [if_neg (i32_lt_nle c1), if_neg (i32_lt_nle c1)]; exact hHi⟩)
  · have c1 := i32_nlt c1
    refine lv_aload_n hx hb dX0_settle_4 rfl (lv_at hl 0 rfl) ?_
    refine lv_aload_n hx hb dX0_settle_5 rfl (lv_at hl 0 rfl) ?_
    refine rg (C := RX0) (T := TX0) (N := 3) (v := .int (nI nx)) hx hb hT inX0 hown hK hHi.1 rfl 1 (by decide) mf_X0_18 rfl dX0_settle_6 ?_
    refine lv_iconst (v := 1) hx hb dX0_settle_9 (by decide) ?_
    refine lv_iadd hx hb dX0_settle_10 ?_
    refine lv_bipush (v := 7) hx hb dX0_settle_11 (by decide) ?_
    refine lv_irem hx hb dX0_settle_13 (by decide) ?_
    have en : (nI nx + 1) - (nI nx + 1) / 7 * 7 = nI ((nx + 1) % 7) := by rw [nI_1]; exact pk_rem (d := 7) (by omega) (by omega) (by omega)
    rw [en]
    refine rp (C := RX0) (T := TX0) (N := 3) (v := .int (nI ((nx + 1) % 7))) (ty := .int) hx hb hT inX0 tyX0 tyX0_ok nmX0 hown hK hHi.1 rfl 1 (by decide) mf_X0_18 rfl (by decide +kernel) rfl rfl (Nat.le_of_ble_eq_true rfl) hS (show _ ∧ _ from ⟨by omega, by omega⟩) dX0_settle_14 (fun H locs h1 o hS => ?_)
    have hHi := hHi.pObj h1 o
    refine lv_aload_n hx hb dX0_settle_17 rfl (lv_at hl 0 rfl) ?_
    refine lv_aload_n hx hb dX0_settle_18 rfl (lv_at hl 0 rfl) ?_
    refine rg (C := RX0) (T := TX0) (N := 3) (v := .int (nI kp)) hx hb hT inX0 hown hK hHi.1 rfl 2 (by decide) mf_X0_26 rfl dX0_settle_19 ?_
    refine lv_iconst (v := 1) hx hb dX0_settle_22 (by decide) ?_
    refine lv_iadd hx hb dX0_settle_23 ?_
    refine lv_bipush (v := 6) hx hb dX0_settle_24 (by decide) ?_
    rw [nI_1]
    refine va_mmin hx hb (hml.trans hl.1.symm) hown (hT _ mm_X0_29) (hT _ mst_J9_min_7cf53) (hT _ mz_J9) (hT _ mc_J9_min_7cf53) (Nat.le_of_ble_eq_true rfl) (Nat.le_of_ble_eq_true rfl) (Nat.zero_le _) (Nat.zero_le _) dX0_settle_26 ?_
    have em : (if (6 : Int32) < nI (kp + 1) then (6 : Int32) else nI (kp + 1)) = nI (min (kp + 1) 6) := by
      by_cases q : (6 : Int32) < nI (kp + 1)
      · rw [if_pos q]
        have h9 : nI 6 < nI (kp + 1) := q
        rw [nI_ltI (by omega) (by omega)] at h9
        rw [show min (kp + 1) 6 = 6 by omega]
        rfl
      · rw [if_neg q]
        have h9 : ¬ nI 6 < nI (kp + 1) := q
        rw [nI_ltI (by omega) (by omega)] at h9
        rw [show min (kp + 1) 6 = kp + 1 by omega]
    rw [em]
    refine rp (C := RX0) (T := TX0) (N := 3) (v := .int (nI (min (kp + 1) 6))) (ty := .int) hx hb hT inX0 tyX0 tyX0_ok nmX0 hown hK hHi.1 rfl 2 (by decide) mf_X0_26 rfl (by decide +kernel) rfl rfl (Nat.le_of_ble_eq_true rfl) hS (show _ ∧ _ from ⟨by omega, by omega⟩) dX0_settle_29 (fun H locs h1 o hS => ?_)
    have hHi := hHi.pObj h1 o
    refine lv_iload_n hx hb dX0_settle_32 rfl (lv_at hl 1 rfl) ?_
    exact nd_I hQ hx hb hr hlocks dX0_settle_33 hS (⟨rfl, by rw [if_pos c1, if_pos c1]; exact hHi⟩)
