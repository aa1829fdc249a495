/-! the next row of shares; the search -/
theorem i_m1 (x : Int32) : x + Int32.ofInt (-1) = x - 1 := by
  rw [Int32.sub_eq_add_neg]
  rfl
theorem nI_e0 {n : Nat} (h : n < 2 ^ 31) : nI n = 0 ↔ n = 0 := by
  have h9 := nI_eq (a := n) (b := 0) h (by omega)
  exact h9

set_option maxHeartbeats 4000000 in
set_option maxRecDepth 100000 in
theorem k_X7_nextTried (l : Launch) (G : GG) (w : Nat) (M : Nat → Nat → Int32) (n : Nat) (x : Nat → Nat) (hn : 1 ≤ n ∧ n ≤ 5) (hx5 : ∀ k, k < 5 → M 11 k = nI (x k)) (hxb : ∀ k, k < 5 → x k ≤ 20) : Met l yX7_nextTried (ws_ yX7_nextTried cX7_nextTried 4 (some .boolean)) (rm_ 0) (PC G [.ref w, .int (nI n)] (MdAt G w M)) (QI (fun v H => (v = 0 ∧ nx n x = none ∧ MdAt G w M H) ∨ (v = 1 ∧ ∃ (y : Nat → Nat) (T : Nat → Int32), nx n x = some y ∧ MdAt G w (updM M 11 T) H ∧ ∀ k, k < 5 → T k = nI (y k))) (In w 13)) 0 0 (In w 13) := by
  refine met_q (by decide +kernel) (Nat.le_of_ble_eq_true rfl) ?_
  intro p e s m args below meth c Q hQ hx hb hr hT hown hml hlocks hnm hK hM ls hl
  have hl : lv_has ls 4 [(0, .ref w), (1, .int (nI n))] := hl
  have hS : va_S (In w 13) s.heap s.heap [] := va_S.rf
  have e2 : nI n - 2 = nI (n - 1) - 1 := by
    have h1 : nI n = nI (n - 1) + 1 := by rw [nI_1]; congr 1; omega
    rw [h1, Int32.sub_eq_add_neg, Int32.sub_eq_add_neg, Int32.add_assoc]
    rfl
  refine lv_iload_n hx hb dX7_nextTried_0 rfl (lv_at hl 1 rfl) ?_
  refine lv_iconst (v := 2) hx hb dX7_nextTried_1 (by decide) ?_
  refine lv_isub hx hb dX7_nextTried_2 ?_
  rw [e2]
  refine lv_istore_n (lv' := [(2, .int (nI (n - 1) - 1)), (0, .ref w), (1, .int (nI n))]) hx hb dX7_nextTried_3 rfl hl (by decide) rfl (fun ls hl => ?_)
  have loop : ∀ (k : Nat) (q : Nat), q ≤ n - 1 → (∀ j, q ≤ j → j < n - 1 → x j = 0) → q < k → ∀ ls : Array Slot, lv_has ls 4 [(2, .int (nI q - 1)), (0, .ref w), (1, .int (nI n))] → W p l e (rm_ 0) s m args below meth c s.heap [] 0 0 Q (F0 m 4 ls []) := by
    intro k
    induction k with
    | zero => intro q hq hz hm; exact absurd hm (Nat.not_lt_zero _)
    | succ k ih =>
      intro q hq hz hm ls hl
      have hs1 : 0 < q → nI q - 1 = nI (q - 1) := fun h => pk_sub (b := 1) h
      refine lv_iload_n hx hb dX7_nextTried_4 rfl (lv_at hl 0 rfl) ?_
      refine lv_if_lt (tgt := 23) hx hb dX7_nextTried_5 (by decide) (fun c1 => ?_) (fun c1 => ?_)
      · have hq0 : q = 0 := by
          rcases Nat.eq_zero_or_pos q with h | h
          · exact h
          · rw [hs1 h] at c1
            exact absurd c1 (nI_pos (by omega))
        subst hq0
        refine lv_iload_n hx hb dX7_nextTried_23 rfl (lv_at hl 0 rfl) ?_
        refine lv_if_ge (tgt := 29) hx hb dX7_nextTried_24 (by decide) (fun c2 => ?_) (fun c2 => ?_)
        · exact absurd c1 (i32_le_nlt c2)
        · refine lv_iconst (v := 0) hx hb dX7_nextTried_27 (by decide) ?_
          exact nd_Z hQ hx hb hr hlocks dX7_nextTried_28 hS (by first | exact Or.inl rfl | exact Or.inr rfl | exact bi01) (Or.inl ⟨rfl, nx_none (fk_none (fun j hj => hz j (Nat.zero_le _) hj)), hM⟩)
      · have hqp : 0 < q := by
          rcases Nat.eq_zero_or_pos q with h | h
          · rw [h] at c1
            exact absurd (by decide) c1
          · exact h
        rw [hs1 hqp] at hl
        refine lv_aload_n hx hb dX7_nextTried_8 rfl (lv_at hl 1 rfl) ?_
        refine rg (C := RX7) (T := TX7) (N := 16) (v := .ref (w + 9)) hx hb hT inX7 hown hK hM.1 rfl 11 (by decide) mf_X7_35 rfl dX7_nextTried_9 ?_
        refine lv_iload_n hx hb dX7_nextTried_12 rfl (lv_at hl 0 rfl) ?_
        refine r_ialdS (y := M 11 (q - 1)) hx hb hK hM.2.2.2.2.2.2.2.2.2.1 (q - 1) (rfl) (by omega) (Nat.le_of_ble_eq_true rfl) rfl dX7_nextTried_13 ?_
        rw [hx5 (q - 1) (by omega)]
        refine lv_if_ne (tgt := 23) hx hb dX7_nextTried_14 (by decide) (fun c2 => ?_) (fun c2 => ?_)
        · have hnz : x (q - 1) ≠ 0 := fun z => c2 (by rw [z]; rfl)
          refine lv_iload_n hx hb dX7_nextTried_23 rfl (lv_at hl 0 rfl) ?_
          refine lv_if_ge (tgt := 29) hx hb dX7_nextTried_24 (by decide) (fun c5 => ?_) (fun c5 => ?_)
          · obtain ⟨k0, hk0⟩ : ∃ k0, k0 = q - 1 := ⟨_, rfl⟩
            rw [← hk0] at hl hnz
            have hfk : fk x (n - 1) = some k0 := fk_some hnz (by omega) (fun j h1 h2 => hz j (by omega) h2)
            have hnx := nx_some hfk
            have hn1 : nI n - 1 = nI (n - 1) := pk_sub (b := 1) hn.1
            refine lv_aload_n hx hb dX7_nextTried_29 rfl (lv_at hl 1 rfl) ?_
            refine rg (C := RX7) (T := TX7) (N := 16) (v := .ref (w + 9)) hx hb hT inX7 hown hK hM.1 rfl 11 (by decide) mf_X7_35 rfl dX7_nextTried_30 ?_
            refine lv_iload_n hx hb dX7_nextTried_33 rfl (lv_at hl 2 rfl) ?_
            refine lv_iconst (v := 1) hx hb dX7_nextTried_34 (by decide) ?_
            refine lv_isub hx hb dX7_nextTried_35 ?_
            refine r_ialdS (y := M 11 (n - 1)) hx hb hK hM.2.2.2.2.2.2.2.2.2.1 (n - 1) (hn1) (by omega) (Nat.le_of_ble_eq_true rfl) rfl dX7_nextTried_36 ?_
            rw [hx5 (n - 1) (by omega)]
            refine lv_istore_n (lv' := [(3, .int (nI (x (n - 1)))), (2, .int (nI k0)), (0, .ref w), (1, .int (nI n))]) hx hb dX7_nextTried_37 rfl hl (by decide) rfl (fun ls hl => ?_)
            refine lv_aload_n hx hb dX7_nextTried_38 rfl (lv_at hl 2 rfl) ?_
            refine rg (C := RX7) (T := TX7) (N := 16) (v := .ref (w + 9)) hx hb hT inX7 hown hK hM.1 rfl 11 (by decide) mf_X7_35 rfl dX7_nextTried_39 ?_
            refine lv_iload_n hx hb dX7_nextTried_42 rfl (lv_at hl 3 rfl) ?_
            refine lv_iconst (v := 1) hx hb dX7_nextTried_43 (by decide) ?_
            refine lv_isub hx hb dX7_nextTried_44 ?_
            refine lv_iconst (v := 0) hx hb dX7_nextTried_45 (by decide) ?_
            refine r_iast hx hb hK hM.2.2.2.2.2.2.2.2.2.1 (n - 1) (hn1) (by omega) (Nat.le_of_ble_eq_true rfl) hS (show _ ∧ _ from ⟨by omega, by omega⟩) dX7_nextTried_46 (fun H locs h1 o hS => ?_)
            have hM := hM.a11 h1 o
            refine lv_aload_n hx hb dX7_nextTried_47 rfl (lv_at hl 2 rfl) ?_
            refine rg (C := RX7) (T := TX7) (N := 16) (v := .ref (w + 9)) hx hb hT inX7 hown hK hM.1 rfl 11 (by decide) mf_X7_35 rfl dX7_nextTried_48 ?_
            refine lv_iload_n hx hb dX7_nextTried_51 rfl (lv_at hl 1 rfl) ?_
            refine lv_dup2_11 hx hb dX7_nextTried_52 rfl rfl ?_
            refine r_ialdS (y := upd (M 11) (n - 1) 0 k0) hx hb hK hM.2.2.2.2.2.2.2.2.2.1 k0 (rfl) (by omega) (Nat.le_of_ble_eq_true rfl) rfl dX7_nextTried_53 ?_
            rw [show upd (M 11) (n - 1) 0 k0 = nI (x k0) from (upd_ne (by omega)).trans (hx5 k0 (by omega))]
            refine lv_iconst (v := 1) hx hb dX7_nextTried_54 (by decide) ?_
            refine lv_isub hx hb dX7_nextTried_55 ?_
            rw [show nI (x k0) - 1 = nI (x k0 - 1) from pk_sub (b := 1) (by omega)]
            refine r_iast hx hb hK hM.2.2.2.2.2.2.2.2.2.1 k0 (rfl) (by omega) (Nat.le_of_ble_eq_true rfl) hS (show _ ∧ _ from ⟨by omega, by omega⟩) dX7_nextTried_56 (fun H locs h1 o hS => ?_)
            have hM := hM.a11 h1 o
            rw [updM_2, updM_eq] at hM
            refine lv_aload_n hx hb dX7_nextTried_57 rfl (lv_at hl 2 rfl) ?_
            refine rg (C := RX7) (T := TX7) (N := 16) (v := .ref (w + 9)) hx hb hT inX7 hown hK hM.1 rfl 11 (by decide) mf_X7_35 rfl dX7_nextTried_58 ?_
            refine lv_iload_n hx hb dX7_nextTried_61 rfl (lv_at hl 1 rfl) ?_
            refine lv_iconst (v := 1) hx hb dX7_nextTried_62 (by decide) ?_
            refine lv_iadd hx hb dX7_nextTried_63 ?_
            refine lv_iload_n hx hb dX7_nextTried_64 rfl (lv_at hl 0 rfl) ?_
            refine lv_iconst (v := 1) hx hb dX7_nextTried_65 (by decide) ?_
            refine lv_iadd hx hb dX7_nextTried_66 ?_
            refine r_iast hx hb hK hM.2.2.2.2.2.2.2.2.2.1 (k0 + 1) (nI_1 k0) (by omega) (Nat.le_of_ble_eq_true rfl) hS (show _ ∧ _ from ⟨by omega, by omega⟩) dX7_nextTried_67 (fun H locs h1 o hS => ?_)
            have hM := hM.a11 h1 o
            rw [updM_2, updM_eq, nI_1] at hM
            refine lv_iconst (v := 1) hx hb dX7_nextTried_68 (by decide) ?_
            exact nd_Z hQ hx hb hr hlocks dX7_nextTried_69 hS (by first | exact Or.inl rfl | exact Or.inr rfl | exact bi01) (Or.inr ⟨rfl, _, _, hnx, hM, fun j hj => by
              simp only [upd]
              by_cases q1 : j = k0 + 1
              · rw [if_pos q1, q1, un_eq]
              · rw [if_neg q1, un_ne q1]
                by_cases q2 : j = k0
                · rw [if_pos q2, q2, un_eq]
                · rw [if_neg q2, un_ne q2]
                  by_cases q3 : j = n - 1
                  · rw [if_pos q3, q3, un_eq]
                    exact nI_0.symm
                  · rw [if_neg q3, un_ne q3]
                    exact hx5 j hj⟩)
          · exact absurd (show nI 0 ≤ nI (q - 1) from nI_le (Nat.zero_le _) (by omega)) c5
        · have hzz : x (q - 1) = 0 := (nI_e0 (by have := hxb (q - 1) (by omega); omega)).mp c2
          refine lv_iinc (v := nI (q - 1) - 1) (lv' := [(2, .int (nI (q - 1) - 1)), (0, .ref w), (1, .int (nI n))]) hx hb dX7_nextTried_17 hl (k := 0) rfl (i_m1 _) (by decide) rfl (fun ls hl => ?_)
          refine lv_goto (tgt := 4) hx hb dX7_nextTried_20 (by decide) ?_
          exact ih (q - 1) (by omega) (fun j h1 h2 => by by_cases z : j = q - 1; rw [z]; exact hzz; exact hz j (by omega) h2) (by omega) ls (lv_sub hl [0, 1, 2] rfl)
  exact loop n (n - 1) (Nat.le_refl _) (fun j h1 h2 => absurd h2 (by omega)) (by omega) ls (lv_sub hl [0, 1, 2] rfl)


noncomputable def um (C : (Nat → Nat) → Int32) (K : (Nat → Nat) → Prop) (x : Nat → Nat) (a : Int32 × (Nat → Nat)) : Int32 × (Nat → Nat) := @ite _ ((a.1 = -1 ∨ C x < a.1) ∧ K x) (Classical.propDecidable _) (C x, x) a
theorem um_y {C : (Nat → Nat) → Int32} {K : (Nat → Nat) → Prop} {x : Nat → Nat} {a : Int32 × (Nat → Nat)} (h : (a.1 = -1 ∨ C x < a.1) ∧ K x) : um C K x a = (C x, x) := if_pos h
theorem um_n {C : (Nat → Nat) → Int32} {K : (Nat → Nat) → Prop} {x : Nat → Nat} {a : Int32 × (Nat → Nat)} (h : ¬ ((a.1 = -1 ∨ C x < a.1) ∧ K x)) : um C K x a = a := if_neg h
def Cm (r : Nat → Int32) (x : Nat → Nat) : Int32 := nI (sn (fun k => x k * Vn r k 3) 5)
noncomputable def skR (r : Nat → Int32) : Int32 × (Nat → Nat) := if nlv r = 0 then (-1, fun _ => 0) else dfs (um (Cm r) (fun x => kpP r x (Vn r))) (nlv r - 1) 0 20 (fun _ => 0) (-1, fun _ => 0)
/-- what the search leaves: the least sum and the shares found; all but its own fields as it was -/
def SkS (M M' : Nat → Nat → Int32) (a : Int32 × (Nat → Nat)) : Prop := (∀ k, k < 11 → M' k = M k) ∧ M' 15 0 = a.1 ∧ ∀ k, k < 5 → M' 14 k = nI (a.2 k)
def SkI (M M' : Nat → Nat → Int32) (x : Nat → Nat) (a : Int32 × (Nat → Nat)) : Prop := SkS M M' a ∧ M' 12 = prq (M 0) ∧ M' 13 = tsq (M 0) ∧ (∀ k, k < 5 → M' 11 k = nI (x k)) ∧ sn x (nlv (M 0)) = 20 ∧ ∀ k, nlv (M 0) ≤ k → x k = 0
theorem sn_un {x : Nat → Nat} {k v : Nat} : ∀ {n : Nat}, k < n → sn (un x k v) n + x k = sn x n + v
  | 0, h => absurd h (Nat.not_lt_zero _)
  | n + 1, h => by
    show sn (un x k v) n + un x k v n + x k = sn x n + x n + v
    by_cases q : k = n
    · subst q
      rw [un_eq]
      have e9 : sn (un x k v) k = sn x k := sn_ext k (fun i hi => un_ne (by omega))
      omega
    · rw [un_ne (fun z => q z.symm)]
      have := sn_un (x := x) (v := v) (show k < n by omega)
      omega
theorem sn_un_out {x : Nat → Nat} {k v n : Nat} (h : n ≤ k) : sn (un x k v) n = sn x n := sn_ext n (fun i hi => un_ne (by omega))
theorem fk_spec {x : Nat → Nat} {k : Nat} : ∀ {m : Nat}, fk x m = some k → k < m ∧ x k ≠ 0 ∧ ∀ j, k < j → j < m → x j = 0
  | 0, h => by cases h
  | m + 1, h => by
    have h' : (if x m = 0 then fk x m else some m) = some k := h
    by_cases q : x m = 0
    · rw [if_pos q] at h'
      obtain ⟨a, b, c⟩ := fk_spec h'
      exact ⟨by omega, b, fun j h1 h2 => by by_cases z : j = m; rw [z]; exact q; exact c j h1 (by omega)⟩
    · rw [if_neg q] at h'
      cases h'
      exact ⟨by omega, q, fun j h1 h2 => absurd h1 (by omega)⟩
theorem nx_sum {n : Nat} {x y : Nat → Nat} (h : nx n x = some y) : sn y n = sn x n ∧ ∀ k, n ≤ k → y k = x k := by
  cases hf : fk x (n - 1) with
  | none => rw [nx_none hf] at h; cases h
  | some k =>
    rw [nx_some hf] at h
    cases h
    obtain ⟨h1, h2, h3⟩ := fk_spec hf
    have a1 := sn_un (x := x) (k := n - 1) (v := 0) (n := n) (by omega)
    have a2 := sn_un (x := un x (n - 1) 0) (k := k) (v := x k - 1) (n := n) (by omega)
    have a3 := sn_un (x := un (un x (n - 1) 0) k (x k - 1)) (k := k + 1) (v := x (n - 1) + 1) (n := n) (by omega)
    have b2 : un x (n - 1) 0 k = x k := un_ne (by omega)
    have b3 : un (un x (n - 1) 0) k (x k - 1) (k + 1) = 0 := by
      rw [un_ne (by omega)]
      by_cases q : k + 1 = n - 1
      · rw [q, un_eq]
      · rw [un_ne q]; exact h3 _ (by omega) (by omega)
    refine ⟨by omega, fun j hj => ?_⟩
    rw [un_ne (by omega), un_ne (by omega), un_ne (by omega)]
theorem sn_le_one {x : Nat → Nat} {k : Nat} : ∀ {n : Nat}, k < n → x k ≤ sn x n
  | 0, h => absurd h (Nat.not_lt_zero _)
  | n + 1, h => by
    show x k ≤ sn x n + x n
    by_cases q : k = n
    · rw [q]; omega
    · have := sn_le_one (x := x) (show k < n by omega); omega
theorem SkI.b20 {M M' : Nat → Nat → Int32} {x : Nat → Nat} {a : Int32 × (Nat → Nat)} (h : SkI M M' x a) (k : Nat) : x k ≤ 20 := by
  obtain ⟨-, -, -, -, h1, h2⟩ := h
  by_cases q : k < nlv (M 0)
  · rw [← h1]; exact sn_le_one q
  · rw [h2 k (by omega)]; omega

set_option maxHeartbeats 4000000 in
set_option maxRecDepth 100000 in
theorem k_X7_seek (l : Launch) (G : GG) (w : Nat) (M : Nat → Nat → Int32)  (hv : Iv (M 0)) : Met l yX7_seek (ws_ yX7_seek cX7_seek 5 (none : Option Jvm.ClassFile.FieldType)) (rm_ 3) (PC G [.ref w] (MdAt G w M)) (QV (fun H => ∃ M2, SkS M M2 (skR (M 0)) ∧ MdAt G w M2 H) (In w 13)) 0 0 (In w 13) := by
  refine met_q (by decide +kernel) (Nat.le_of_ble_eq_true rfl) ?_
  intro p e s m args below meth c Q hQ hx hb hr hT hown hml hlocks hnm hK hM ls hl
  have hl : lv_has ls 5 [(0, .ref w)] := hl
  have hS : va_S (In w 13) s.heap s.heap [] := va_S.rf
  have hw := hv.1
  have hn5 := hw.nl5
  have hnl := hw.nl
  refine lv_aload_n hx hb dX7_seek_0 rfl (lv_at hl 0 rfl) ?_
  refine lv_iconst (v := (-1)) hx hb dX7_seek_1 (by decide) ?_
  refine rp (C := RX7) (T := TX7) (N := 16) (v := .int (-1)) (ty := .int) hx hb hT inX7 tyX7 tyX7_ok nmX7 hown hK hM.1 rfl 15 (by decide) mf_X7_80 rfl (by decide +kernel) rfl rfl (Nat.le_of_ble_eq_true rfl) hS (show _ ∧ _ from ⟨by omega, by omega⟩) dX7_seek_2 (fun H locs h1 o hS => ?_)
  have hM := hM.s15 h1 o
  refine lv_aload_n hx hb dX7_seek_5 rfl (lv_at hl 0 rfl) ?_
  refine rg (C := RX7) (T := TX7) (N := 16) (v := .ref (w + 1)) hx hb hT inX7 hown hK hM.1 rfl 0 (by decide) mf_X7_7 rfl dX7_seek_6 ?_
  refine lv_iconst (v := 5) hx hb dX7_seek_9 (by decide) ?_
  refine r_ialdS (y := M 0 5) hx hb hK hM.2.1 5 (by decide) (by omega) (Nat.le_of_ble_eq_true rfl) rfl dX7_seek_10 ?_
  rw [hnl]
  refine lv_istore_n (lv' := [(1, .int (nI (nlv (M 0)))), (0, .ref w)]) hx hb dX7_seek_11 rfl hl (by decide) rfl (fun ls hl => ?_)
  refine lv_iconst (v := 0) hx hb dX7_seek_12 (by decide) ?_
  refine lv_istore_n (lv' := [(2, .int 0), (1, .int (nI (nlv (M 0)))), (0, .ref w)]) hx hb dX7_seek_13 rfl hl (by decide) rfl (fun ls hl => ?_)
  have loop : ∀ (k : Nat) (i : Nat) (H : Heap) (locs : List Loc), va_S (In w 13) s.heap H locs → i ≤ 5 → MdAt G w (updM (updM (updM M 15 (fun _ => -1)) 11 (cpN (M 11) (fun k => if k = 0 then (20 : Int32) else 0) 0 i)) 14 (cpN (M 14) (fun _ => 0) 0 i)) H → 5 - i < k → ∀ ls : Array Slot, lv_has ls 5 [(2, .int (nI i)), (1, .int (nI (nlv (M 0)))), (0, .ref w)] → W p l e (rm_ 3) s m args below meth c H locs 0 0 Q (F0 m 14 ls []) := by
    intro k
    induction k with
    | zero => intro i H locs hS hi hM hm; exact absurd hm (Nat.not_lt_zero _)
    | succ k ih =>
      intro i H locs hS hi hM hm ls hl
      refine lv_iload_n hx hb dX7_seek_14 rfl (lv_at hl 0 rfl) ?_
      refine lv_iconst (v := 5) hx hb dX7_seek_15 (by decide) ?_
      refine lv_icmp_ge (tgt := 48) hx hb dX7_seek_16 (by decide) (fun cd => ?_) (fun cd => ?_)
      · have e_i : i = 5 := by
          have h9 : nI 5 ≤ nI i := cd
          rw [nI_leI (by omega) (by omega)] at h9
          omega
        subst e_i
        obtain ⟨M5, eM5⟩ : ∃ z, z = (updM (updM (updM M 15 (fun _ => -1)) 11 (cpN (M 11) (fun k => if k = 0 then (20 : Int32) else 0) 0 5)) 14 (cpN (M 14) (fun _ => 0) 0 5)) := ⟨_, rfl⟩
        rw [← eM5] at hM
        have e50 : M5 0 = M 0 := by rw [eM5]; rfl
        refine lv_aload_n hx hb dX7_seek_48 rfl (lv_at hl 2 rfl) ?_
        refine got_V (run_i hx hb hml hown hT hK hl.1 (k_X7_layDay l G w M5 (by rw [e50]; exact hv)) (cw_X7_83 hT ⟨Nat.le_of_ble_eq_true rfl, Nat.le_of_ble_eq_true rfl⟩) hM.1 rfl hM rfl rfl (Nat.le_of_ble_eq_true rfl) dX7_seek_49 ⟨Nat.zero_le _, Nat.zero_le _⟩) hS (fun q hq => hq) (fun q hq => hq) (fun  H locs h1 hz hk hS => ?_)
        have hM := h1
        rw [e50] at hM
        refine lv_iload_n hx hb dX7_seek_52 rfl (lv_at hl 1 rfl) ?_
        refine lv_if_le (tgt := 60) hx hb dX7_seek_53 (by decide) (fun c2 => ?_) (fun c2 => ?_)
        · have hn0 : nlv (M 0) = 0 := by
            have h9 : nI (nlv (M 0)) ≤ nI 0 := c2
            rw [nI_leI (by omega) (by omega)] at h9
            omega
          refine lv_iconst (v := 0) hx hb dX7_seek_60 (by decide) ?_
          refine lv_istore_n (lv' := [(2, .int 0), (1, .int (nI (nlv (M 0)))), (0, .ref w)]) hx hb dX7_seek_61 rfl hl (by decide) rfl (fun ls hl => ?_)
          refine lv_iload_n hx hb dX7_seek_62 rfl (lv_at hl 0 rfl) ?_
          refine lv_if_eq (tgt := 137) hx hb dX7_seek_63 (by decide) (fun c3 => ?_) (fun c3 => ?_)
          · exact nd_V hQ hx hb hr hlocks dX7_seek_137 hS (⟨_, (by
              unfold skR
              rw [if_pos hn0]
              refine ⟨fun k hk => ?_, ?_, fun k hk => ?_⟩
              · rw [updM_ne (by omega), updM_ne (by omega), eM5, updM_ne (by omega), updM_ne (by omega), updM_ne (by omega)]
              · rw [eM5]; rfl
              · rw [updM_ne (by omega), updM_ne (by omega), eM5, updM_eq, cpN_in0 hk]; exact nI_0.symm), hM⟩)
          · exact absurd rfl c3
        · have hn0 : 0 < nlv (M 0) := by
            have h9 : ¬ nI (nlv (M 0)) ≤ nI 0 := c2
            rw [nI_leI (by omega) (by omega)] at h9
            omega
          have hR : skR (M 0) = dfs (um (Cm (M 0)) (fun x => kpP (M 0) x (Vn (M 0)))) (nlv (M 0) - 1) 0 20 (fun _ => 0) (-1, fun _ => 0) := if_neg (by omega)
          obtain ⟨f0, hf0⟩ := dfs_all (um (Cm (M 0)) (fun x => kpP (M 0) x (Vn (M 0)))) hn0 (-1, fun _ => 0)
          rw [← hR] at hf0
          have hI0 : SkI M (updM (updM M5 12 (prq (M 0))) 13 (tsq (M 0))) (un (fun _ => 0) 0 20) (-1, fun _ => 0) := by
            refine ⟨⟨fun k hk => ?_, ?_, fun k hk => ?_⟩, ?_, updM_eq, fun k hk => ?_, ?_, fun k hk => un_ne (by omega)⟩
            · rw [updM_ne (by omega), updM_ne (by omega), eM5, updM_ne (by omega), updM_ne (by omega), updM_ne (by omega)]
            · rw [eM5]; rfl
            · rw [updM_ne (by omega), updM_ne (by omega), eM5, updM_eq, cpN_in0 hk]; exact nI_0.symm
            · rw [updM_ne (by omega)]; exact updM_eq
            · rw [updM_ne (by omega), updM_ne (by omega), eM5, updM_ne (by omega), updM_eq, cpN_in0 hk]
              by_cases q : k = 0
              · rw [if_pos q, q, un_eq]; rfl
              · rw [if_neg q, un_ne q]; exact nI_0.symm
            · have h9 := sn_un (x := fun _ => 0) (k := 0) (v := 20) (n := nlv (M 0)) hn0
              rw [sn_zero (f := fun _ => 0) _ (fun _ _ => rfl)] at h9
              omega
          obtain ⟨M6, eM6⟩ : ∃ z, z = updM (updM M5 12 (prq (M 0))) 13 (tsq (M 0)) := ⟨_, rfl⟩
          rw [← eM6] at hI0 hM
          refine lv_iconst (v := 1) hx hb dX7_seek_56 (by decide) ?_
          refine lv_goto (tgt := 61) hx hb dX7_seek_57 (by decide) ?_
          refine lv_istore_n (lv' := [(2, .int 1), (1, .int (nI (nlv (M 0)))), (0, .ref w)]) hx hb dX7_seek_61 rfl hl (by decide) rfl (fun ls hl => ?_)
          have loop2 : ∀ (k : Nat) (x : Nat → Nat) (a : Int32 × (Nat → Nat)) (M7 : Nat → Nat → Int32) (H : Heap) (locs : List Loc), va_S (In w 13) s.heap H locs → lpM (um (Cm (M 0)) (fun x => kpP (M 0) x (Vn (M 0)))) (nlv (M 0)) k x a = some (skR (M 0)) → SkI M M7 x a → MdAt G w M7 H → ∀ ls : Array Slot, lv_has ls 5 [(2, .int 1), (1, .int (nI (nlv (M 0)))), (0, .ref w)] → W p l e (rm_ 3) s m args below meth c H locs 0 0 Q (F0 m 62 ls []) := by
            intro k
            induction k with
            | zero => intro x a M7 H locs hS hrun; cases hrun
            | succ k ih2 =>
              intro x a M7 H locs hS hrun hI hM ls hl
              have hrun : aft (lpM (um (Cm (M 0)) (fun x => kpP (M 0) x (Vn (M 0)))) (nlv (M 0)) k) (nlv (M 0)) x (um (Cm (M 0)) (fun x => kpP (M 0) x (Vn (M 0))) x a) = some (skR (M 0)) := hrun
              obtain ⟨hSk, i12, i13, i11, isum, iout⟩ := id hI
              obtain ⟨hlow, hles, hfo⟩ := hSk
              have h70 : M7 0 = M 0 := hlow 0 (by omega)
              have hx5 : ∀ k, k < 5 → M7 11 k = nI (x k) := i11
              have hP5 : ∀ k, k < 5 → M7 12 k = nI (Vn (M 0) k 3) := fun k hk => by rw [i12]; rfl
              have hT5 : ∀ k, k < 5 → ∀ t, t < 3 → M7 13 (3 * k + t) = nI (Vn (M 0) k t) := fun k hk t ht => by rw [i13]; unfold tsq; rw [show (3 * k + t) / 3 = k by omega, show (3 * k + t) % 3 = t by omega]
              refine lv_iload_n hx hb dX7_seek_62 rfl (lv_at hl 0 rfl) ?_
              refine lv_if_eq (tgt := 137) hx hb dX7_seek_63 (by decide) (fun c3 => ?_) (fun c3 => ?_)
              · exact absurd c3 (by decide)
              · refine lv_aload_n hx hb dX7_seek_66 rfl (lv_at hl 2 rfl) ?_
                refine got_i (run_i hx hb hml hown hT hK hl.1 (k_X7_triedPrice l G w M7 x (Vn (M 0)) hx5 hP5) (cw_X7_86 hT ⟨Nat.le_of_ble_eq_true rfl, Nat.le_of_ble_eq_true rfl⟩) hM.1 rfl hM rfl rfl (Nat.le_of_ble_eq_true rfl) dX7_seek_67 ⟨Nat.zero_le _, Nat.zero_le _⟩) (fun v_1 hv_1 => ?_)
                subst hv_1
                refine lv_istore_n (lv' := [(3, .int (Cm (M 0) x)), (2, .int 1), (1, .int (nI (nlv (M 0)))), (0, .ref w)]) hx hb dX7_seek_70 rfl hl (by decide) rfl (fun ls hl => ?_)
                refine lv_aload_n hx hb dX7_seek_71 rfl (lv_at hl 3 rfl) ?_
                refine rg (C := RX7) (T := TX7) (N := 16) (v := .int (M7 15 0)) hx hb hT inX7 hown hK hM.1 rfl 15 (by decide) mf_X7_80 rfl dX7_seek_72 ?_
                refine lv_iconst (v := (-1)) hx hb dX7_seek_75 (by decide) ?_
                rw [hles]
                refine lv_icmp_eq (tgt := 87) hx hb dX7_seek_76 (by decide) (fun c4 => ?_) (fun c4 => ?_)
                · refine lv_aload_n hx hb dX7_seek_87 rfl (lv_at hl 3 rfl) ?_
                  refine got_i (run_i hx hb hml hown hT hK hl.1 (k_X7_keeps l G w M7 x (Vn (M 0)) hx5 hT5) (cw_X7_89 hT ⟨Nat.le_of_ble_eq_true rfl, Nat.le_of_ble_eq_true rfl⟩) hM.1 rfl hM rfl rfl (Nat.le_of_ble_eq_true rfl) dX7_seek_88 ⟨Nat.zero_le _, Nat.zero_le _⟩) (fun v_2 hv_2 => ?_)
                  subst hv_2
                  rw [h70]
                  refine lv_if_eq (tgt := 128) hx hb dX7_seek_91 (by decide) (fun c6 => ?_) (fun c6 => ?_)
                  · have hu : um (Cm (M 0)) (fun x => kpP (M 0) x (Vn (M 0))) x a = a := um_n (fun q => bc_e0 c6 q.2)
                    rw [hu] at hrun
                    refine lv_aload_n hx hb dX7_seek_128 rfl (lv_at hl 3 rfl) ?_
                    refine lv_iload_n hx hb dX7_seek_129 rfl (lv_at hl 2 rfl) ?_
                    refine got_I (run_i hx hb hml hown hT hK hl.1 (k_X7_nextTried l G w M7 (nlv (M 0)) x ⟨hn0, hn5⟩ (hI).2.2.2.1 (fun k _ => hI.b20 k)) (cw_X7_93 hT ⟨Nat.le_of_ble_eq_true rfl, Nat.le_of_ble_eq_true rfl⟩) hM.1 rfl hM rfl rfl (Nat.le_of_ble_eq_true rfl) dX7_seek_130 ⟨Nat.zero_le _, Nat.zero_le _⟩) hS (fun q hq => hq) (fun q hq => hq) (fun v_3 H locs h1 hz hk hS => ?_)
                    rcases h1 with ⟨hv9, hnx, hM⟩ | ⟨hv9, y, T, hnx, hM, hTy⟩
                    · subst hv9
                      refine lv_istore_n (lv' := [(2, .int 0), (3, .int (Cm (M 0) x)), (1, .int (nI (nlv (M 0)))), (0, .ref w)]) hx hb dX7_seek_133 rfl hl (by decide) rfl (fun ls hl => ?_)
                      refine lv_goto (tgt := 62) hx hb dX7_seek_134 (by decide) ?_
                      refine lv_iload_n hx hb dX7_seek_62 rfl (lv_at hl 0 rfl) ?_
                      refine lv_if_eq (tgt := 137) hx hb dX7_seek_63 (by decide) (fun c9 => ?_) (fun c9 => ?_)
                      · exact nd_V hQ hx hb hr hlocks dX7_seek_137 hS (⟨_, (by rw [aft_none hnx] at hrun; rw [← Option.some.inj hrun]; exact (hI).1), hM⟩)
                      · exact absurd rfl c9
                    · subst hv9
                      refine lv_istore_n (lv' := [(2, .int 1), (3, .int (Cm (M 0) x)), (1, .int (nI (nlv (M 0)))), (0, .ref w)]) hx hb dX7_seek_133 rfl hl (by decide) rfl (fun ls hl => ?_)
                      refine lv_goto (tgt := 62) hx hb dX7_seek_134 (by decide) ?_
                      rw [aft_some hnx] at hrun
                      exact ih2 y _ (updM M7 11 T) _ _ hS hrun ⟨⟨fun k hk => (updM_ne (by omega)).trans ((hI).1.1 k hk), (hI).1.2.1, (hI).1.2.2⟩, (hI).2.1, (hI).2.2.1, hTy, (nx_sum hnx).1.trans isum, fun k hk => ((nx_sum hnx).2 k hk).trans (iout k hk)⟩ hM ls (lv_sub hl [0, 2, 3] rfl)
                  · have hu : um (Cm (M 0)) (fun x => kpP (M 0) x (Vn (M 0))) x a = (Cm (M 0) x, x) := um_y ⟨Or.inl c4, bc_n0 c6⟩
                    rw [hu] at hrun
                    refine lv_aload_n hx hb dX7_seek_94 rfl (lv_at hl 3 rfl) ?_
                    refine lv_iload_n hx hb dX7_seek_95 rfl (lv_at hl 0 rfl) ?_
                    refine rp (C := RX7) (T := TX7) (N := 16) (v := .int (Cm (M 0) x)) (ty := .int) hx hb hT inX7 tyX7 tyX7_ok nmX7 hown hK hM.1 rfl 15 (by decide) mf_X7_80 rfl (by decide +kernel) rfl rfl (Nat.le_of_ble_eq_true rfl) hS (show _ ∧ _ from ⟨by omega, by omega⟩) dX7_seek_96 (fun H locs h1 o hS => ?_)
                    have hM := hM.s15 h1 o
                    refine lv_iconst (v := 0) hx hb dX7_seek_99 (by decide) ?_
                    refine lv_istore (lv' := [(4, .int 0), (3, .int (Cm (M 0) x)), (2, .int 1), (1, .int (nI (nlv (M 0)))), (0, .ref w)]) hx hb dX7_seek_100 hl (by decide) rfl (fun ls hl => ?_)
                    have loop3 : ∀ (k : Nat) (i : Nat) (H : Heap) (locs : List Loc), va_S (In w 13) s.heap H locs → i ≤ 5 → MdAt G w (updM (updM M7 15 (fun _ => Cm (M 0) x)) 14 (cpN (M7 14) (M7 11) 0 i)) H → 5 - i < k → ∀ ls : Array Slot, lv_has ls 5 [(4, .int (nI i)), (3, .int (Cm (M 0) x)), (2, .int 1), (1, .int (nI (nlv (M 0)))), (0, .ref w)] → W p l e (rm_ 3) s m args below meth c H locs 0 0 Q (F0 m 102 ls []) := by
                      intro k3
                      induction k3 with
                      | zero => intro i H locs hS hi hM hm; exact absurd hm (Nat.not_lt_zero _)
                      | succ k3 ih3 =>
                        intro i H locs hS hi hM hm ls hl
                        refine lv_iload hx hb dX7_seek_102 (lv_at hl 0 rfl) ?_
                        refine lv_iconst (v := 5) hx hb dX7_seek_104 (by decide) ?_
                        refine lv_icmp_ge (tgt := 128) hx hb dX7_seek_105 (by decide) (fun cd => ?_) (fun cd => ?_)
                        · have e_i : i = 5 := by
                            have h9 : nI 5 ≤ nI i := cd
                            rw [nI_leI (by omega) (by omega)] at h9
                            omega
                          subst e_i
                          obtain ⟨M8, eM8⟩ : ∃ z, z = (updM (updM M7 15 (fun _ => Cm (M 0) x)) 14 (cpN (M7 14) (M7 11) 0 5)) := ⟨_, rfl⟩
                          rw [← eM8] at hM
                          have hI8 : SkI M M8 x (Cm (M 0) x, x) := by
                            refine ⟨⟨fun k hk => ?_, ?_, fun k hk => ?_⟩, ?_, ?_, fun k hk => ?_, isum, iout⟩
                            · rw [eM8, updM_ne (by omega), updM_ne (by omega)]; exact hlow k hk
                            · rw [eM8]; rfl
                            · rw [eM8, updM_eq, cpN_in0 hk]; exact hx5 k hk
                            · rw [eM8, updM_ne (by omega), updM_ne (by omega)]; exact i12
                            · rw [eM8, updM_ne (by omega), updM_ne (by omega)]; exact i13
                            · rw [eM8, updM_ne (by omega), updM_ne (by omega)]; exact hx5 k hk
                          refine lv_aload_n hx hb dX7_seek_128 rfl (lv_at hl 4 rfl) ?_
                          refine lv_iload_n hx hb dX7_seek_129 rfl (lv_at hl 3 rfl) ?_
                          refine got_I (run_i hx hb hml hown hT hK hl.1 (k_X7_nextTried l G w M8 (nlv (M 0)) x ⟨hn0, hn5⟩ (hI8).2.2.2.1 (fun k _ => hI.b20 k)) (cw_X7_93 hT ⟨Nat.le_of_ble_eq_true rfl, Nat.le_of_ble_eq_true rfl⟩) hM.1 rfl hM rfl rfl (Nat.le_of_ble_eq_true rfl) dX7_seek_130 ⟨Nat.zero_le _, Nat.zero_le _⟩) hS (fun q hq => hq) (fun q hq => hq) (fun v_4 H locs h1 hz hk hS => ?_)
                          rcases h1 with ⟨hv9, hnx, hM⟩ | ⟨hv9, y, T, hnx, hM, hTy⟩
                          · subst hv9
                            refine lv_istore_n (lv' := [(2, .int 0), (4, .int (nI 5)), (3, .int (Cm (M 0) x)), (1, .int (nI (nlv (M 0)))), (0, .ref w)]) hx hb dX7_seek_133 rfl hl (by decide) rfl (fun ls hl => ?_)
                            refine lv_goto (tgt := 62) hx hb dX7_seek_134 (by decide) ?_
                            refine lv_iload_n hx hb dX7_seek_62 rfl (lv_at hl 0 rfl) ?_
                            refine lv_if_eq (tgt := 137) hx hb dX7_seek_63 (by decide) (fun c9 => ?_) (fun c9 => ?_)
                            · exact nd_V hQ hx hb hr hlocks dX7_seek_137 hS (⟨_, (by rw [aft_none hnx] at hrun; rw [← Option.some.inj hrun]; exact (hI8).1), hM⟩)
                            · exact absurd rfl c9
                          · subst hv9
                            refine lv_istore_n (lv' := [(2, .int 1), (4, .int (nI 5)), (3, .int (Cm (M 0) x)), (1, .int (nI (nlv (M 0)))), (0, .ref w)]) hx hb dX7_seek_133 rfl hl (by decide) rfl (fun ls hl => ?_)
                            refine lv_goto (tgt := 62) hx hb dX7_seek_134 (by decide) ?_
                            rw [aft_some hnx] at hrun
                            exact ih2 y _ (updM M8 11 T) _ _ hS hrun ⟨⟨fun k hk => (updM_ne (by omega)).trans ((hI8).1.1 k hk), (hI8).1.2.1, (hI8).1.2.2⟩, (hI8).2.1, (hI8).2.2.1, hTy, (nx_sum hnx).1.trans isum, fun k hk => ((nx_sum hnx).2 k hk).trans (iout k hk)⟩ hM ls (lv_sub hl [0, 3, 4] rfl)
                        · have h_i : i < 5 := by
                            have h9 : ¬ nI 5 ≤ nI i := cd
                            rw [nI_leI (by omega) (by omega)] at h9
                            omega
                          refine lv_aload_n hx hb dX7_seek_108 rfl (lv_at hl 4 rfl) ?_
                          refine rg (C := RX7) (T := TX7) (N := 16) (v := .ref (w + 12)) hx hb hT inX7 hown hK hM.1 rfl 14 (by decide) mf_X7_44 rfl dX7_seek_109 ?_
                          refine lv_iload hx hb dX7_seek_112 (lv_at hl 0 rfl) ?_
                          refine lv_aload_n hx hb dX7_seek_114 rfl (lv_at hl 4 rfl) ?_
                          refine rg (C := RX7) (T := TX7) (N := 16) (v := .ref (w + 9)) hx hb hT inX7 hown hK hM.1 rfl 11 (by decide) mf_X7_35 rfl dX7_seek_115 ?_
                          refine lv_iload hx hb dX7_seek_118 (lv_at hl 0 rfl) ?_
                          refine r_ialdS (y := M7 11 i) hx hb hK hM.2.2.2.2.2.2.2.2.2.1 i (rfl) (by omega) (Nat.le_of_ble_eq_true rfl) rfl dX7_seek_120 ?_
                          refine r_iast hx hb hK hM.2.2.2.2.2.2.2.2.2.2.2.2 i (rfl) (h_i) (Nat.le_of_ble_eq_true rfl) hS (show _ ∧ _ from ⟨by omega, by omega⟩) dX7_seek_121 (fun H locs h1 o hS => ?_)
                          have hM := hM.a14 h1 o
                          have es : upd (cpN (M7 14) (M7 11) 0 i) i (M7 11 i) = cpN (M7 14) (M7 11) 0 (i + 1) := by have h9 := cpN_s (r := M7 14) (g := M7 11) (lo := 0) (n := i); rw [Nat.zero_add] at h9; exact h9
                          rw [updM_2, updM_eq, es] at hM
                          refine lv_iinc (v := nI (i + 1)) (lv' := [(4, .int (nI (i + 1))), (3, .int (Cm (M 0) x)), (2, .int 1), (1, .int (nI (nlv (M 0)))), (0, .ref w)]) hx hb dX7_seek_122 hl (k := 0) rfl (nI_1 i) (by decide) rfl (fun ls hl => ?_)
                          refine lv_goto (tgt := 102) hx hb dX7_seek_125 (by decide) ?_
                          exact ih3 (i + 1) _ _ hS (by omega) hM (by omega) ls (lv_sub hl [0, 1, 2, 3, 4] rfl)
                    exact loop3 6 0 _ _ hS (by omega) (by rw [cpN_0, updM_self (by rfl)]; exact hM) (by omega) ls (lv_sub hl [0, 1, 2, 3, 4] rfl)
                · refine lv_iload_n hx hb dX7_seek_79 rfl (lv_at hl 0 rfl) ?_
                  refine lv_aload_n hx hb dX7_seek_80 rfl (lv_at hl 3 rfl) ?_
                  refine rg (C := RX7) (T := TX7) (N := 16) (v := .int (M7 15 0)) hx hb hT inX7 hown hK hM.1 rfl 15 (by decide) mf_X7_80 rfl dX7_seek_81 ?_
                  rw [hles]
                  refine lv_icmp_ge (tgt := 128) hx hb dX7_seek_84 (by decide) (fun c5 => ?_) (fun c5 => ?_)
                  · have hu : um (Cm (M 0)) (fun x => kpP (M 0) x (Vn (M 0))) x a = a := um_n (fun q => q.1.elim (fun z => c4 z) (fun z => i32_le_nlt c5 z))
                    rw [hu] at hrun
                    refine lv_aload_n hx hb dX7_seek_128 rfl (lv_at hl 3 rfl) ?_
                    refine lv_iload_n hx hb dX7_seek_129 rfl (lv_at hl 2 rfl) ?_
                    refine got_I (run_i hx hb hml hown hT hK hl.1 (k_X7_nextTried l G w M7 (nlv (M 0)) x ⟨hn0, hn5⟩ (hI).2.2.2.1 (fun k _ => hI.b20 k)) (cw_X7_93 hT ⟨Nat.le_of_ble_eq_true rfl, Nat.le_of_ble_eq_true rfl⟩) hM.1 rfl hM rfl rfl (Nat.le_of_ble_eq_true rfl) dX7_seek_130 ⟨Nat.zero_le _, Nat.zero_le _⟩) hS (fun q hq => hq) (fun q hq => hq) (fun v_5 H locs h1 hz hk hS => ?_)
                    rcases h1 with ⟨hv9, hnx, hM⟩ | ⟨hv9, y, T, hnx, hM, hTy⟩
                    · subst hv9
                      refine lv_istore_n (lv' := [(2, .int 0), (3, .int (Cm (M 0) x)), (1, .int (nI (nlv (M 0)))), (0, .ref w)]) hx hb dX7_seek_133 rfl hl (by decide) rfl (fun ls hl => ?_)
                      refine lv_goto (tgt := 62) hx hb dX7_seek_134 (by decide) ?_
                      refine lv_iload_n hx hb dX7_seek_62 rfl (lv_at hl 0 rfl) ?_
                      refine lv_if_eq (tgt := 137) hx hb dX7_seek_63 (by decide) (fun c9 => ?_) (fun c9 => ?_)
                      · exact nd_V hQ hx hb hr hlocks dX7_seek_137 hS (⟨_, (by rw [aft_none hnx] at hrun; rw [← Option.some.inj hrun]; exact (hI).1), hM⟩)
                      · exact absurd rfl c9
                    · subst hv9
                      refine lv_istore_n (lv' := [(2, .int 1), (3, .int (Cm (M 0) x)), (1, .int (nI (nlv (M 0)))), (0, .ref w)]) hx hb dX7_seek_133 rfl hl (by decide) rfl (fun ls hl => ?_)
                      refine lv_goto (tgt := 62) hx hb dX7_seek_134 (by decide) ?_
                      rw [aft_some hnx] at hrun
                      exact ih2 y _ (updM M7 11 T) _ _ hS hrun ⟨⟨fun k hk => (updM_ne (by omega)).trans ((hI).1.1 k hk), (hI).1.2.1, (hI).1.2.2⟩, (hI).2.1, (hI).2.2.1, hTy, (nx_sum hnx).1.trans isum, fun k hk => ((nx_sum hnx).2 k hk).trans (iout k hk)⟩ hM ls (lv_sub hl [0, 2, 3] rfl)
                  · refine lv_aload_n hx hb dX7_seek_87 rfl (lv_at hl 3 rfl) ?_
                    refine got_i (run_i hx hb hml hown hT hK hl.1 (k_X7_keeps l G w M7 x (Vn (M 0)) hx5 hT5) (cw_X7_89 hT ⟨Nat.le_of_ble_eq_true rfl, Nat.le_of_ble_eq_true rfl⟩) hM.1 rfl hM rfl rfl (Nat.le_of_ble_eq_true rfl) dX7_seek_88 ⟨Nat.zero_le _, Nat.zero_le _⟩) (fun v_6 hv_6 => ?_)
                    subst hv_6
                    rw [h70]
                    refine lv_if_eq (tgt := 128) hx hb dX7_seek_91 (by decide) (fun c6 => ?_) (fun c6 => ?_)
                    · have hu : um (Cm (M 0)) (fun x => kpP (M 0) x (Vn (M 0))) x a = a := um_n (fun q => bc_e0 c6 q.2)
                      rw [hu] at hrun
                      refine lv_aload_n hx hb dX7_seek_128 rfl (lv_at hl 3 rfl) ?_
                      refine lv_iload_n hx hb dX7_seek_129 rfl (lv_at hl 2 rfl) ?_
                      refine got_I (run_i hx hb hml hown hT hK hl.1 (k_X7_nextTried l G w M7 (nlv (M 0)) x ⟨hn0, hn5⟩ (hI).2.2.2.1 (fun k _ => hI.b20 k)) (cw_X7_93 hT ⟨Nat.le_of_ble_eq_true rfl, Nat.le_of_ble_eq_true rfl⟩) hM.1 rfl hM rfl rfl (Nat.le_of_ble_eq_true rfl) dX7_seek_130 ⟨Nat.zero_le _, Nat.zero_le _⟩) hS (fun q hq => hq) (fun q hq => hq) (fun v_7 H locs h1 hz hk hS => ?_)
                      rcases h1 with ⟨hv9, hnx, hM⟩ | ⟨hv9, y, T, hnx, hM, hTy⟩
                      · subst hv9
                        refine lv_istore_n (lv' := [(2, .int 0), (3, .int (Cm (M 0) x)), (1, .int (nI (nlv (M 0)))), (0, .ref w)]) hx hb dX7_seek_133 rfl hl (by decide) rfl (fun ls hl => ?_)
                        refine lv_goto (tgt := 62) hx hb dX7_seek_134 (by decide) ?_
                        refine lv_iload_n hx hb dX7_seek_62 rfl (lv_at hl 0 rfl) ?_
                        refine lv_if_eq (tgt := 137) hx hb dX7_seek_63 (by decide) (fun c9 => ?_) (fun c9 => ?_)
                        · exact nd_V hQ hx hb hr hlocks dX7_seek_137 hS (⟨_, (by rw [aft_none hnx] at hrun; rw [← Option.some.inj hrun]; exact (hI).1), hM⟩)
                        · exact absurd rfl c9
                      · subst hv9
                        refine lv_istore_n (lv' := [(2, .int 1), (3, .int (Cm (M 0) x)), (1, .int (nI (nlv (M 0)))), (0, .ref w)]) hx hb dX7_seek_133 rfl hl (by decide) rfl (fun ls hl => ?_)
                        refine lv_goto (tgt := 62) hx hb dX7_seek_134 (by decide) ?_
                        rw [aft_some hnx] at hrun
                        exact ih2 y _ (updM M7 11 T) _ _ hS hrun ⟨⟨fun k hk => (updM_ne (by omega)).trans ((hI).1.1 k hk), (hI).1.2.1, (hI).1.2.2⟩, (hI).2.1, (hI).2.2.1, hTy, (nx_sum hnx).1.trans isum, fun k hk => ((nx_sum hnx).2 k hk).trans (iout k hk)⟩ hM ls (lv_sub hl [0, 2, 3] rfl)
                    · have hu : um (Cm (M 0)) (fun x => kpP (M 0) x (Vn (M 0))) x a = (Cm (M 0) x, x) := um_y ⟨Or.inr (i32_nle c5), bc_n0 c6⟩
                      rw [hu] at hrun
                      refine lv_aload_n hx hb dX7_seek_94 rfl (lv_at hl 3 rfl) ?_
                      refine lv_iload_n hx hb dX7_seek_95 rfl (lv_at hl 0 rfl) ?_
                      refine rp (C := RX7) (T := TX7) (N := 16) (v := .int (Cm (M 0) x)) (ty := .int) hx hb hT inX7 tyX7 tyX7_ok nmX7 hown hK hM.1 rfl 15 (by decide) mf_X7_80 rfl (by decide +kernel) rfl rfl (Nat.le_of_ble_eq_true rfl) hS (show _ ∧ _ from ⟨by omega, by omega⟩) dX7_seek_96 (fun H locs h1 o hS => ?_)
                      have hM := hM.s15 h1 o
                      refine lv_iconst (v := 0) hx hb dX7_seek_99 (by decide) ?_
                      refine lv_istore (lv' := [(4, .int 0), (3, .int (Cm (M 0) x)), (2, .int 1), (1, .int (nI (nlv (M 0)))), (0, .ref w)]) hx hb dX7_seek_100 hl (by decide) rfl (fun ls hl => ?_)
                      have loop3 : ∀ (k : Nat) (i : Nat) (H : Heap) (locs : List Loc), va_S (In w 13) s.heap H locs → i ≤ 5 → MdAt G w (updM (updM M7 15 (fun _ => Cm (M 0) x)) 14 (cpN (M7 14) (M7 11) 0 i)) H → 5 - i < k → ∀ ls : Array Slot, lv_has ls 5 [(4, .int (nI i)), (3, .int (Cm (M 0) x)), (2, .int 1), (1, .int (nI (nlv (M 0)))), (0, .ref w)] → W p l e (rm_ 3) s m args below meth c H locs 0 0 Q (F0 m 102 ls []) := by
                        intro k3
                        induction k3 with
                        | zero => intro i H locs hS hi hM hm; exact absurd hm (Nat.not_lt_zero _)
                        | succ k3 ih3 =>
                          intro i H locs hS hi hM hm ls hl
                          refine lv_iload hx hb dX7_seek_102 (lv_at hl 0 rfl) ?_
                          refine lv_iconst (v := 5) hx hb dX7_seek_104 (by decide) ?_
                          refine lv_icmp_ge (tgt := 128) hx hb dX7_seek_105 (by decide) (fun cd => ?_) (fun cd => ?_)
                          · have e_i : i = 5 := by
                              have h9 : nI 5 ≤ nI i := cd
                              rw [nI_leI (by omega) (by omega)] at h9
                              omega
                            subst e_i
                            obtain ⟨M8, eM8⟩ : ∃ z, z = (updM (updM M7 15 (fun _ => Cm (M 0) x)) 14 (cpN (M7 14) (M7 11) 0 5)) := ⟨_, rfl⟩
                            rw [← eM8] at hM
                            have hI8 : SkI M M8 x (Cm (M 0) x, x) := by
                              refine ⟨⟨fun k hk => ?_, ?_, fun k hk => ?_⟩, ?_, ?_, fun k hk => ?_, isum, iout⟩
                              · rw [eM8, updM_ne (by omega), updM_ne (by omega)]; exact hlow k hk
                              · rw [eM8]; rfl
                              · rw [eM8, updM_eq, cpN_in0 hk]; exact hx5 k hk
                              · rw [eM8, updM_ne (by omega), updM_ne (by omega)]; exact i12
                              · rw [eM8, updM_ne (by omega), updM_ne (by omega)]; exact i13
                              · rw [eM8, updM_ne (by omega), updM_ne (by omega)]; exact hx5 k hk
                            refine lv_aload_n hx hb dX7_seek_128 rfl (lv_at hl 4 rfl) ?_
                            refine lv_iload_n hx hb dX7_seek_129 rfl (lv_at hl 3 rfl) ?_
                            refine got_I (run_i hx hb hml hown hT hK hl.1 (k_X7_nextTried l G w M8 (nlv (M 0)) x ⟨hn0, hn5⟩ (hI8).2.2.2.1 (fun k _ => hI.b20 k)) (cw_X7_93 hT ⟨Nat.le_of_ble_eq_true rfl, Nat.le_of_ble_eq_true rfl⟩) hM.1 rfl hM rfl rfl (Nat.le_of_ble_eq_true rfl) dX7_seek_130 ⟨Nat.zero_le _, Nat.zero_le _⟩) hS (fun q hq => hq) (fun q hq => hq) (fun v_8 H locs h1 hz hk hS => ?_)
                            rcases h1 with ⟨hv9, hnx, hM⟩ | ⟨hv9, y, T, hnx, hM, hTy⟩
                            · subst hv9
                              refine lv_istore_n (lv' := [(2, .int 0), (4, .int (nI 5)), (3, .int (Cm (M 0) x)), (1, .int (nI (nlv (M 0)))), (0, .ref w)]) hx hb dX7_seek_133 rfl hl (by decide) rfl (fun ls hl => ?_)
                              refine lv_goto (tgt := 62) hx hb dX7_seek_134 (by decide) ?_
                              refine lv_iload_n hx hb dX7_seek_62 rfl (lv_at hl 0 rfl) ?_
                              refine lv_if_eq (tgt := 137) hx hb dX7_seek_63 (by decide) (fun c9 => ?_) (fun c9 => ?_)
                              · exact nd_V hQ hx hb hr hlocks dX7_seek_137 hS (⟨_, (by rw [aft_none hnx] at hrun; rw [← Option.some.inj hrun]; exact (hI8).1), hM⟩)
                              · exact absurd rfl c9
                            · subst hv9
                              refine lv_istore_n (lv' := [(2, .int 1), (4, .int (nI 5)), (3, .int (Cm (M 0) x)), (1, .int (nI (nlv (M 0)))), (0, .ref w)]) hx hb dX7_seek_133 rfl hl (by decide) rfl (fun ls hl => ?_)
                              refine lv_goto (tgt := 62) hx hb dX7_seek_134 (by decide) ?_
                              rw [aft_some hnx] at hrun
                              exact ih2 y _ (updM M8 11 T) _ _ hS hrun ⟨⟨fun k hk => (updM_ne (by omega)).trans ((hI8).1.1 k hk), (hI8).1.2.1, (hI8).1.2.2⟩, (hI8).2.1, (hI8).2.2.1, hTy, (nx_sum hnx).1.trans isum, fun k hk => ((nx_sum hnx).2 k hk).trans (iout k hk)⟩ hM ls (lv_sub hl [0, 3, 4] rfl)
                          · have h_i : i < 5 := by
                              have h9 : ¬ nI 5 ≤ nI i := cd
                              rw [nI_leI (by omega) (by omega)] at h9
                              omega
                            refine lv_aload_n hx hb dX7_seek_108 rfl (lv_at hl 4 rfl) ?_
                            refine rg (C := RX7) (T := TX7) (N := 16) (v := .ref (w + 12)) hx hb hT inX7 hown hK hM.1 rfl 14 (by decide) mf_X7_44 rfl dX7_seek_109 ?_
                            refine lv_iload hx hb dX7_seek_112 (lv_at hl 0 rfl) ?_
                            refine lv_aload_n hx hb dX7_seek_114 rfl (lv_at hl 4 rfl) ?_
                            refine rg (C := RX7) (T := TX7) (N := 16) (v := .ref (w + 9)) hx hb hT inX7 hown hK hM.1 rfl 11 (by decide) mf_X7_35 rfl dX7_seek_115 ?_
                            refine lv_iload hx hb dX7_seek_118 (lv_at hl 0 rfl) ?_
                            refine r_ialdS (y := M7 11 i) hx hb hK hM.2.2.2.2.2.2.2.2.2.1 i (rfl) (by omega) (Nat.le_of_ble_eq_true rfl) rfl dX7_seek_120 ?_
                            refine r_iast hx hb hK hM.2.2.2.2.2.2.2.2.2.2.2.2 i (rfl) (h_i) (Nat.le_of_ble_eq_true rfl) hS (show _ ∧ _ from ⟨by omega, by omega⟩) dX7_seek_121 (fun H locs h1 o hS => ?_)
                            have hM := hM.a14 h1 o
                            have es : upd (cpN (M7 14) (M7 11) 0 i) i (M7 11 i) = cpN (M7 14) (M7 11) 0 (i + 1) := by have h9 := cpN_s (r := M7 14) (g := M7 11) (lo := 0) (n := i); rw [Nat.zero_add] at h9; exact h9
                            rw [updM_2, updM_eq, es] at hM
                            refine lv_iinc (v := nI (i + 1)) (lv' := [(4, .int (nI (i + 1))), (3, .int (Cm (M 0) x)), (2, .int 1), (1, .int (nI (nlv (M 0)))), (0, .ref w)]) hx hb dX7_seek_122 hl (k := 0) rfl (nI_1 i) (by decide) rfl (fun ls hl => ?_)
                            refine lv_goto (tgt := 102) hx hb dX7_seek_125 (by decide) ?_
                            exact ih3 (i + 1) _ _ hS (by omega) hM (by omega) ls (lv_sub hl [0, 1, 2, 3, 4] rfl)
                      exact loop3 6 0 _ _ hS (by omega) (by rw [cpN_0, updM_self (by rfl)]; exact hM) (by omega) ls (lv_sub hl [0, 1, 2, 3, 4] rfl)
          exact loop2 f0 _ _ _ _ _ hS hf0 hI0 hM ls (lv_sub hl [0, 1, 2] rfl)
      · have h_i : i < 5 := by
          have h9 : ¬ nI 5 ≤ nI i := cd
          rw [nI_leI (by omega) (by omega)] at h9
          omega
        refine lv_aload_n hx hb dX7_seek_19 rfl (lv_at hl 2 rfl) ?_
        refine rg (C := RX7) (T := TX7) (N := 16) (v := .ref (w + 9)) hx hb hT inX7 hown hK hM.1 rfl 11 (by decide) mf_X7_35 rfl dX7_seek_20 ?_
        refine lv_iload_n hx hb dX7_seek_23 rfl (lv_at hl 0 rfl) ?_
        refine lv_iload_n hx hb dX7_seek_24 rfl (lv_at hl 0 rfl) ?_
        refine lv_if_ne (tgt := 33) hx hb dX7_seek_25 (by decide) (fun c0 => ?_) (fun c0 => ?_)
        · refine lv_iconst (v := 0) hx hb dX7_seek_33 (by decide) ?_
          rw [show (0 : Int32) = (fun k => if k = 0 then (20 : Int32) else 0) i from (if_neg (fun q => c0 (by rw [q]; rfl))).symm]
          refine r_iast hx hb hK hM.2.2.2.2.2.2.2.2.2.1 i (rfl) (h_i) (Nat.le_of_ble_eq_true rfl) hS (show _ ∧ _ from ⟨by omega, by omega⟩) dX7_seek_34 (fun H locs h1 o hS => ?_)
          have hM := hM.a11 h1 o
          have es : upd (cpN (M 11) (fun k => if k = 0 then (20 : Int32) else 0) 0 i) i ((fun k => if k = 0 then (20 : Int32) else 0) i) = cpN (M 11) (fun k => if k = 0 then (20 : Int32) else 0) 0 (i + 1) := by have h9 := cpN_s (r := M 11) (g := (fun k => if k = 0 then (20 : Int32) else 0)) (lo := 0) (n := i); rw [Nat.zero_add] at h9; exact h9
          have hM : MdAt G w (updM (updM (updM M 15 (fun _ => -1)) 11 (cpN (M 11) (fun k => if k = 0 then (20 : Int32) else 0) 0 (i + 1))) 14 (cpN (M 14) (fun _ => 0) 0 i)) H := by
            have em : updM (updM (updM (updM M 15 (fun _ => -1)) 11 (cpN (M 11) (fun k => if k = 0 then (20 : Int32) else 0) 0 i)) 14 (cpN (M 14) (fun _ => 0) 0 i)) 11 (cpN (M 11) (fun k => if k = 0 then (20 : Int32) else 0) 0 (i + 1)) = updM (updM (updM M 15 (fun _ => -1)) 11 (cpN (M 11) (fun k => if k = 0 then (20 : Int32) else 0) 0 (i + 1))) 14 (cpN (M 14) (fun _ => 0) 0 i) := by
              funext j
              unfold updM
              by_cases q : j = 11
              · rw [if_pos q, if_neg (by omega), if_pos q]
              · rw [if_neg q, if_neg q, if_neg q]
            rw [← em, ← es]
            exact hM
          refine lv_aload_n hx hb dX7_seek_35 rfl (lv_at hl 2 rfl) ?_
          refine rg (C := RX7) (T := TX7) (N := 16) (v := .ref (w + 12)) hx hb hT inX7 hown hK hM.1 rfl 14 (by decide) mf_X7_44 rfl dX7_seek_36 ?_
          refine lv_iload_n hx hb dX7_seek_39 rfl (lv_at hl 0 rfl) ?_
          refine lv_iconst (v := 0) hx hb dX7_seek_40 (by decide) ?_
          refine r_iast hx hb hK hM.2.2.2.2.2.2.2.2.2.2.2.2 i (rfl) (h_i) (Nat.le_of_ble_eq_true rfl) hS (show _ ∧ _ from ⟨by omega, by omega⟩) dX7_seek_41 (fun H locs h1 o hS => ?_)
          have hM := hM.a14 h1 o
          have es2 : upd (cpN (M 14) (fun _ => 0) 0 i) i 0 = cpN (M 14) (fun _ => 0) 0 (i + 1) := by have h9 := cpN_s (r := M 14) (g := fun _ => 0) (lo := 0) (n := i); rw [Nat.zero_add] at h9; exact h9
          rw [updM_2, updM_eq, es2] at hM
          refine lv_iinc (v := nI (i + 1)) (lv' := [(2, .int (nI (i + 1))), (1, .int (nI (nlv (M 0)))), (0, .ref w)]) hx hb dX7_seek_42 hl (k := 0) rfl (nI_1 i) (by decide) rfl (fun ls hl => ?_)
          refine lv_goto (tgt := 14) hx hb dX7_seek_45 (by decide) ?_
          exact ih (i + 1) _ _ hS (by omega) hM (by omega) ls (lv_sub hl [0, 1, 2] rfl)
        · have hz : i = 0 := (nI_e0 (by omega)).mp c0
          refine lv_bipush (v := 20) hx hb dX7_seek_28 (by decide) ?_
          refine lv_goto (tgt := 34) hx hb dX7_seek_30 (by decide) ?_
          rw [show (20 : Int32) = (fun k => if k = 0 then (20 : Int32) else 0) i from (if_pos hz).symm]
          refine r_iast hx hb hK hM.2.2.2.2.2.2.2.2.2.1 i (rfl) (h_i) (Nat.le_of_ble_eq_true rfl) hS (show _ ∧ _ from ⟨by omega, by omega⟩) dX7_seek_34 (fun H locs h1 o hS => ?_)
          have hM := hM.a11 h1 o
          have es : upd (cpN (M 11) (fun k => if k = 0 then (20 : Int32) else 0) 0 i) i ((fun k => if k = 0 then (20 : Int32) else 0) i) = cpN (M 11) (fun k => if k = 0 then (20 : Int32) else 0) 0 (i + 1) := by have h9 := cpN_s (r := M 11) (g := (fun k => if k = 0 then (20 : Int32) else 0)) (lo := 0) (n := i); rw [Nat.zero_add] at h9; exact h9
          have hM : MdAt G w (updM (updM (updM M 15 (fun _ => -1)) 11 (cpN (M 11) (fun k => if k = 0 then (20 : Int32) else 0) 0 (i + 1))) 14 (cpN (M 14) (fun _ => 0) 0 i)) H := by
            have em : updM (updM (updM (updM M 15 (fun _ => -1)) 11 (cpN (M 11) (fun k => if k = 0 then (20 : Int32) else 0) 0 i)) 14 (cpN (M 14) (fun _ => 0) 0 i)) 11 (cpN (M 11) (fun k => if k = 0 then (20 : Int32) else 0) 0 (i + 1)) = updM (updM (updM M 15 (fun _ => -1)) 11 (cpN (M 11) (fun k => if k = 0 then (20 : Int32) else 0) 0 (i + 1))) 14 (cpN (M 14) (fun _ => 0) 0 i) := by
              funext j
              unfold updM
              by_cases q : j = 11
              · rw [if_pos q, if_neg (by omega), if_pos q]
              · rw [if_neg q, if_neg q, if_neg q]
            rw [← em, ← es]
            exact hM
          refine lv_aload_n hx hb dX7_seek_35 rfl (lv_at hl 2 rfl) ?_
          refine rg (C := RX7) (T := TX7) (N := 16) (v := .ref (w + 12)) hx hb hT inX7 hown hK hM.1 rfl 14 (by decide) mf_X7_44 rfl dX7_seek_36 ?_
          refine lv_iload_n hx hb dX7_seek_39 rfl (lv_at hl 0 rfl) ?_
          refine lv_iconst (v := 0) hx hb dX7_seek_40 (by decide) ?_
          refine r_iast hx hb hK hM.2.2.2.2.2.2.2.2.2.2.2.2 i (rfl) (h_i) (Nat.le_of_ble_eq_true rfl) hS (show _ ∧ _ from ⟨by omega, by omega⟩) dX7_seek_41 (fun H locs h1 o hS => ?_)
          have hM := hM.a14 h1 o
          have es2 : upd (cpN (M 14) (fun _ => 0) 0 i) i 0 = cpN (M 14) (fun _ => 0) 0 (i + 1) := by have h9 := cpN_s (r := M 14) (g := fun _ => 0) (lo := 0) (n := i); rw [Nat.zero_add] at h9; exact h9
          rw [updM_2, updM_eq, es2] at hM
          refine lv_iinc (v := nI (i + 1)) (lv' := [(2, .int (nI (i + 1))), (1, .int (nI (nlv (M 0)))), (0, .ref w)]) hx hb dX7_seek_42 hl (k := 0) rfl (nI_1 i) (by decide) rfl (fun ls hl => ?_)
          refine lv_goto (tgt := 14) hx hb dX7_seek_45 (by decide) ?_
          exact ih (i + 1) _ _ hS (by omega) hM (by omega) ls (lv_sub hl [0, 1, 2] rfl)
  exact loop 6 0 _ _ hS (by omega) (by rw [cpN_0, cpN_0, updM_self (by rfl), updM_self (by rfl)]; exact hM) (by omega) ls (lv_sub hl [0, 1, 2] rfl)
