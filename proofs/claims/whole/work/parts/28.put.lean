set_option maxHeartbeats 4000000 in
set_option maxRecDepth 100000 in
theorem k_X7_put (l : Launch) (G : GG) (w : Nat) (M : Nat → Nat → Int32) (n X : Nat) (hX : X < 2 ^ 64) (hn : n ≤ 80) (h7 : M 7 0 = nI n) : Met l yX7_put (ws_ yX7_put cX7_put 7 (some .int)) (rm_ 1) (PC G [.ref w, .long (lL X)] (MdAt G w M)) (QI (fun v H => v = puA n X ∧ ∃ M2, (∀ k, k ≠ 6 → k ≠ 7 → k ≠ 9 → M2 k = M k) ∧ M2 6 = puT (M 6) n X ∧ M2 7 0 = nI (puN n X) ∧ MdAt G w M2 H) (In w 13)) 0 0 (In w 13) := by
  refine met_q (by decide +kernel) (Nat.le_of_ble_eq_true rfl) ?_
  intro p e s m args below meth c Q hQ hx hb hr hT hown hml hlocks hnm hK hM ls hl
  have hl : lv_has ls 7 [(0, .ref w), (1, .long (lL X))] := hl
  have hS : va_S (In w 13) s.heap s.heap [] := va_S.rf
  refine lv_lload_n hx hb dX7_put_0 rfl (lv_at hl 1 rfl) ?_
  refine lv_lstore_n (lv' := [(3, .long (lL X)), (0, .ref w), (1, .long (lL X))]) hx hb dX7_put_1 rfl hl (by decide) rfl (fun ls hl => ?_)
  refine lv_iconst (v := 0) hx hb dX7_put_2 (by decide) ?_
  refine lv_istore (lv' := [(5, .int 0), (3, .long (lL X)), (0, .ref w), (1, .long (lL X))]) hx hb dX7_put_3 hl (by decide) rfl (fun ls hl => ?_)
  have loop : ∀ (k : Nat) (i : Nat) (C : Nat → Int32) (H : Heap) (locs : List Loc), va_S (In w 13) s.heap H locs → i ≤ 8 → plF X (8 - i) i = plF X 8 0 → (∀ j, j < i → C j = nI (cdN X j)) → MdAt G w (updM M 9 C) H → 8 - i < k → ∀ ls : Array Slot, lv_has ls 7 [(5, .int (nI i)), (3, .long (lL (X / 256 ^ i))), (0, .ref w), (1, .long (lL X))] → W p l e (rm_ 1) s m args below meth c H locs 0 0 Q (F0 m 5 ls []) := by
    intro k
    induction k with
    | zero => intro i C H locs hS hi hf hC hM hm; exact absurd hm (Nat.not_lt_zero _)
    | succ k ih =>
      intro i C H locs hS hi hf hC hM hm ls hl
      have hXi : X / 256 ^ i < 2 ^ 64 := Nat.lt_of_le_of_lt (Nat.div_le_self _ _) hX
      have hc := cdN_lt (X := X) (i := i)
      refine lv_lload_n hx hb dX7_put_5 rfl (lv_at hl 1 rfl) ?_
      refine lv_lconst (v := 0) hx hb dX7_put_6 (by decide) ?_
      refine W.lcmp hx hb dX7_put_7 ?_
      refine lv_if_eq (tgt := 63) hx hb dX7_put_8 (by decide) (fun c1 => ?_) (fun c1 => ?_)
      · have hxz : X / 256 ^ i = 0 := (lL_0 hXi).mp c1
        refine lv_iload hx hb dX7_put_63 (lv_at hl 0 rfl) ?_
        refine lv_if_ne (tgt := 71) hx hb dX7_put_65 (by decide) (fun c2 => ?_) (fun c2 => ?_)
        · have hi0 : ¬ i = 0 := fun z => c2 (by rw [z]; rfl)
          have hke : plF X 8 0 = nI i := by
            rw [← hf]
            by_cases w8 : i = 8
            · rw [w8]; rfl
            · obtain ⟨f, hff⟩ : ∃ z, 8 - i = z + 1 := ⟨7 - i, by omega⟩
              rw [hff]
              show (if X / 256 ^ i = 0 then (if i = 0 then -2 else nI i) else if 33 ≤ cdN X i ∧ cdN X i ≤ 126 then plF X f (i + 1) else -2) = nI i
              rw [if_pos hxz, if_neg hi0]
          refine lv_aload_n hx hb dX7_put_71 rfl (lv_at hl 2 rfl) ?_
          refine rg (C := RX7) (T := TX7) (N := 16) (v := .int (M 7 0)) hx hb hT inX7 hown hK hM.1 rfl 7 (by decide) mf_X7_139 rfl dX7_put_72 ?_
          rw [h7]
          refine lv_iload hx hb dX7_put_75 (lv_at hl 0 rfl) ?_
          refine lv_iadd hx hb dX7_put_77 ?_
          rw [nI_add]
          refine lv_bipush (v := 80) hx hb dX7_put_78 (by decide) ?_
          refine lv_icmp_le (tgt := 86) hx hb dX7_put_80 (by decide) (fun c3 => ?_) (fun c3 => ?_)
          · have hle : n + i ≤ 80 := (nI_leI (b := 80) (by omega) (by omega)).mp c3
            obtain ⟨p1, p2, p3⟩ := pu_ok (T := M 6) (n := n) hke hi (by omega)
            rw [p1, p2, p3] at hQ
            refine lv_iload hx hb dX7_put_86 (lv_at hl 0 rfl) ?_
            refine lv_iconst (v := 1) hx hb dX7_put_88 (by decide) ?_
            refine lv_isub hx hb dX7_put_89 ?_
            have loop2 : ∀ (k : Nat) (q : Nat) (j : Nat) (H : Heap) (locs : List Loc), va_S (In w 13) s.heap H locs → q + j = i → MdAt G w (updM (updM (updM M 9 C) 6 (apT (M 6) n X i j)) 7 (fun _ => nI (n + j))) H → q < k → ∀ ls : Array Slot, lv_has ls 7 [(6, .int (nI q - 1)), (5, .int (nI i)), (3, .long (lL (X / 256 ^ i))), (0, .ref w), (1, .long (lL X))] → W p l e (rm_ 1) s m args below meth c H locs 0 0 Q (F0 m 92 ls []) := by
              intro k2
              induction k2 with
              | zero => intro q j H locs hS hqj hM hm; exact absurd hm (Nat.not_lt_zero _)
              | succ k2 ih2 =>
                intro q j H locs hS hqj hM hm ls hl
                have hs1 : 0 < q → nI q - 1 = nI (q - 1) := fun h => pk_sub (b := 1) h
                refine lv_iload hx hb dX7_put_92 (lv_at hl 0 rfl) ?_
                refine lv_if_lt (tgt := 129) hx hb dX7_put_94 (by decide) (fun c4 => ?_) (fun c4 => ?_)
                · have hq0 : q = 0 := by
                    rcases Nat.eq_zero_or_pos q with h | h
                    · exact h
                    · rw [hs1 h] at c4
                      exact absurd c4 (nI_pos (by omega))
                  subst hq0
                  have hjk : i = j := by omega
                  subst hjk
                  refine lv_aload_n hx hb dX7_put_129 rfl (lv_at hl 3 rfl) ?_
                  refine rg (C := RX7) (T := TX7) (N := 16) (v := .int (nI (n + i))) hx hb hT inX7 hown hK hM.1 rfl 7 (by decide) mf_X7_139 rfl dX7_put_130 ?_
                  exact nd_I hQ hx hb hr hlocks dX7_put_133 hS (⟨rfl, _, fun k h6 h7 h9 => by rw [updM_ne h7, updM_ne h6, updM_ne h9], by rw [updM_ne (by omega), updM_eq], by rw [updM_eq], hM⟩)
                · have hqp : 0 < q := by
                    rcases Nat.eq_zero_or_pos q with h | h
                    · rw [h] at c4
                      exact absurd (by decide) c4
                    · exact h
                  rw [hs1 hqp] at hl
                  obtain ⟨s0, hs0⟩ : ∃ z, z = q - 1 := ⟨_, rfl⟩
                  rw [← hs0] at hl
                  have hqs : q = s0 + 1 := by omega
                  subst hqs
                  have hsk : s0 = i - 1 - j := by omega
                  have hcs : C s0 = nI (cdN X (i - 1 - j)) := by rw [hC s0 (by omega), hsk]
                  refine lv_aload_n hx hb dX7_put_97 rfl (lv_at hl 3 rfl) ?_
                  refine rg (C := RX7) (T := TX7) (N := 16) (v := .ref (w + 6)) hx hb hT inX7 hown hK hM.1 rfl 6 (by decide) mf_X7_26 rfl dX7_put_98 ?_
                  refine lv_aload_n hx hb dX7_put_101 rfl (lv_at hl 3 rfl) ?_
                  refine rg (C := RX7) (T := TX7) (N := 16) (v := .int (nI (n + j))) hx hb hT inX7 hown hK hM.1 rfl 7 (by decide) mf_X7_139 rfl dX7_put_102 ?_
                  refine lv_aload_n hx hb dX7_put_105 rfl (lv_at hl 3 rfl) ?_
                  refine rg (C := RX7) (T := TX7) (N := 16) (v := .ref (w + 7)) hx hb hT inX7 hown hK hM.1 rfl 9 (by decide) mf_X7_29 rfl dX7_put_106 ?_
                  refine lv_iload hx hb dX7_put_109 (lv_at hl 0 rfl) ?_
                  refine r_ialdS (y := C s0) hx hb hK hM.2.2.2.2.2.2.2.1 s0 (rfl) (by omega) (Nat.le_of_ble_eq_true rfl) rfl dX7_put_111 ?_
                  rw [hcs]
                  refine r_iast hx hb hK hM.2.2.2.2.2.2.1 (n + j) (rfl) (by omega) (Nat.le_of_ble_eq_true rfl) hS (show _ ∧ _ from ⟨by omega, by omega⟩) dX7_put_112 (fun H locs h1 o hS => ?_)
                  have hM := hM.a6 h1 o
                  have hM : MdAt G w (updM (updM (updM M 9 C) 6 (apT (M 6) n X i (j + 1))) 7 (fun _ => nI (n + j))) H := by
                    have em : updM (updM (updM (updM M 9 C) 6 (apT (M 6) n X i j)) 7 (fun _ => nI (n + j))) 6 (apT (M 6) n X i (j + 1)) = updM (updM (updM M 9 C) 6 (apT (M 6) n X i (j + 1))) 7 (fun _ => nI (n + j)) := by
                      funext j1
                      unfold updM
                      by_cases q1 : j1 = 6
                      · rw [if_pos q1, if_neg (by omega), if_pos q1]
                      · rw [if_neg q1, if_neg q1, if_neg q1]
                    rw [← em, ← apT_s]
                    exact hM
                  refine lv_aload_n hx hb dX7_put_113 rfl (lv_at hl 3 rfl) ?_
                  refine lv_dup hx hb dX7_put_114 rfl ?_
                  refine rg (C := RX7) (T := TX7) (N := 16) (v := .int (nI (n + j))) hx hb hT inX7 hown hK hM.1 rfl 7 (by decide) mf_X7_139 rfl dX7_put_115 ?_
                  refine lv_iconst (v := 1) hx hb dX7_put_118 (by decide) ?_
                  refine lv_iadd hx hb dX7_put_119 ?_
                  rw [nI_1]
                  refine rp (C := RX7) (T := TX7) (N := 16) (v := .int (nI (n + j + 1))) (ty := .int) hx hb hT inX7 tyX7 tyX7_ok nmX7 hown hK hM.1 rfl 7 (by decide) mf_X7_139 rfl (by decide +kernel) rfl rfl (Nat.le_of_ble_eq_true rfl) hS (show _ ∧ _ from ⟨by omega, by omega⟩) dX7_put_120 (fun H locs h1 o hS => ?_)
                  have hM := hM.s7 h1 o
                  rw [updM_2] at hM
                  refine lv_iinc (v := nI s0 - 1) (lv' := [(6, .int (nI s0 - 1)), (5, .int (nI i)), (3, .long (lL (X / 256 ^ i))), (0, .ref w), (1, .long (lL X))]) hx hb dX7_put_123 hl (k := 0) rfl (i_m1 _) (by decide) rfl (fun ls hl => ?_)
                  refine lv_goto (tgt := 92) hx hb dX7_put_126 (by decide) ?_
                  exact ih2 s0 (j + 1) _ _ hS (by omega) hM (by omega) ls (lv_sub hl [0, 1, 2, 3, 4] rfl)
            refine lv_istore (lv' := [(6, .int (nI i - 1)), (5, .int (nI i)), (3, .long (lL (X / 256 ^ i))), (0, .ref w), (1, .long (lL X))]) hx hb dX7_put_90 hl (by decide) rfl (fun ls hl => ?_)
            exact loop2 (i + 1) i 0 _ _ hS (by omega) (by rw [apT_0, updM_self (by rfl : updM M 9 C 6 = M 6)]; exact (by
              obtain ⟨p0, pp⟩ := hM
              exact ⟨by rw [show nI (n + 0) = M 7 0 from h7.symm]; exact p0, pp⟩)) (by omega) ls (lv_sub hl [0, 1, 2, 3, 4] rfl)
          · have hle : ¬ n + i ≤ 80 := fun q => c3 ((nI_leI (b := 80) (by omega) (by omega)).mpr q)
            obtain ⟨p1, p2, p3⟩ := pu_big (T := M 6) (n := n) hke hi (by omega)
            rw [p1, p2, p3] at hQ
            refine lv_bipush (v := (-4)) hx hb dX7_put_83 (by decide) ?_
            exact nd_I hQ hx hb hr hlocks dX7_put_85 hS (⟨rfl, updM M 9 C, fun k _ _ h9 => updM_ne h9, updM_ne (by omega), by rw [updM_ne (by omega)]; exact h7, hM⟩)
        · have hi0 : i = 0 := (nI_e0 (by omega)).mp c2
          have hx00 : X / 256 ^ i = 0 := hxz
          subst hi0
          have hke : plF X 8 0 = -2 := by
            show (if X / 256 ^ 0 = 0 then (if 0 = 0 then -2 else nI 0) else if 33 ≤ cdN X 0 ∧ cdN X 0 ≤ 126 then plF X 7 (0 + 1) else -2) = -2
            rw [if_pos hx00, if_pos rfl]
          obtain ⟨p1, p2, p3⟩ := pu_neg (T := M 6) (n := n) (X := X) (by rw [hke]; decide)
          rw [p1, p2, p3, hke] at hQ
          refine lv_bipush (v := (-2)) hx hb dX7_put_68 (by decide) ?_
          exact nd_I hQ hx hb hr hlocks dX7_put_70 hS (⟨rfl, updM M 9 C, fun k _ _ h9 => updM_ne h9, updM_ne (by omega), by rw [updM_ne (by omega)]; exact h7, hM⟩)
      · have hx0 : ¬ X / 256 ^ i = 0 := fun z => c1 ((lL_0 hXi).mpr z)
        refine lv_iload hx hb dX7_put_11 (lv_at hl 0 rfl) ?_
        refine lv_bipush (v := 8) hx hb dX7_put_13 (by decide) ?_
        refine lv_icmp_ge (tgt := 63) hx hb dX7_put_15 (by decide) (fun c8 => ?_) (fun c8 => ?_)
        · have hi8 : i = 8 := by
            have h9 : nI 8 ≤ nI i := c8
            rw [nI_leI (by omega) (by omega)] at h9
            omega
          refine lv_iload hx hb dX7_put_63 (lv_at hl 0 rfl) ?_
          refine lv_if_ne (tgt := 71) hx hb dX7_put_65 (by decide) (fun c2 => ?_) (fun c2 => ?_)
          · have hi0 : ¬ i = 0 := fun z => c2 (by rw [z]; rfl)
            have hke : plF X 8 0 = nI i := by rw [← hf, hi8]; rfl
            refine lv_aload_n hx hb dX7_put_71 rfl (lv_at hl 2 rfl) ?_
            refine rg (C := RX7) (T := TX7) (N := 16) (v := .int (M 7 0)) hx hb hT inX7 hown hK hM.1 rfl 7 (by decide) mf_X7_139 rfl dX7_put_72 ?_
            rw [h7]
            refine lv_iload hx hb dX7_put_75 (lv_at hl 0 rfl) ?_
            refine lv_iadd hx hb dX7_put_77 ?_
            rw [nI_add]
            refine lv_bipush (v := 80) hx hb dX7_put_78 (by decide) ?_
            refine lv_icmp_le (tgt := 86) hx hb dX7_put_80 (by decide) (fun c3 => ?_) (fun c3 => ?_)
            · have hle : n + i ≤ 80 := (nI_leI (b := 80) (by omega) (by omega)).mp c3
              obtain ⟨p1, p2, p3⟩ := pu_ok (T := M 6) (n := n) hke hi (by omega)
              rw [p1, p2, p3] at hQ
              refine lv_iload hx hb dX7_put_86 (lv_at hl 0 rfl) ?_
              refine lv_iconst (v := 1) hx hb dX7_put_88 (by decide) ?_
              refine lv_isub hx hb dX7_put_89 ?_
              have loop2 : ∀ (k : Nat) (q : Nat) (j : Nat) (H : Heap) (locs : List Loc), va_S (In w 13) s.heap H locs → q + j = i → MdAt G w (updM (updM (updM M 9 C) 6 (apT (M 6) n X i j)) 7 (fun _ => nI (n + j))) H → q < k → ∀ ls : Array Slot, lv_has ls 7 [(6, .int (nI q - 1)), (5, .int (nI i)), (3, .long (lL (X / 256 ^ i))), (0, .ref w), (1, .long (lL X))] → W p l e (rm_ 1) s m args below meth c H locs 0 0 Q (F0 m 92 ls []) := by
                intro k2
                induction k2 with
                | zero => intro q j H locs hS hqj hM hm; exact absurd hm (Nat.not_lt_zero _)
                | succ k2 ih2 =>
                  intro q j H locs hS hqj hM hm ls hl
                  have hs1 : 0 < q → nI q - 1 = nI (q - 1) := fun h => pk_sub (b := 1) h
                  refine lv_iload hx hb dX7_put_92 (lv_at hl 0 rfl) ?_
                  refine lv_if_lt (tgt := 129) hx hb dX7_put_94 (by decide) (fun c4 => ?_) (fun c4 => ?_)
                  · have hq0 : q = 0 := by
                      rcases Nat.eq_zero_or_pos q with h | h
                      · exact h
                      · rw [hs1 h] at c4
                        exact absurd c4 (nI_pos (by omega))
                    subst hq0
                    have hjk : i = j := by omega
                    subst hjk
                    refine lv_aload_n hx hb dX7_put_129 rfl (lv_at hl 3 rfl) ?_
                    refine rg (C := RX7) (T := TX7) (N := 16) (v := .int (nI (n + i))) hx hb hT inX7 hown hK hM.1 rfl 7 (by decide) mf_X7_139 rfl dX7_put_130 ?_
                    exact nd_I hQ hx hb hr hlocks dX7_put_133 hS (⟨rfl, _, fun k h6 h7 h9 => by rw [updM_ne h7, updM_ne h6, updM_ne h9], by rw [updM_ne (by omega), updM_eq], by rw [updM_eq], hM⟩)
                  · have hqp : 0 < q := by
                      rcases Nat.eq_zero_or_pos q with h | h
                      · rw [h] at c4
                        exact absurd (by decide) c4
                      · exact h
                    rw [hs1 hqp] at hl
                    obtain ⟨s0, hs0⟩ : ∃ z, z = q - 1 := ⟨_, rfl⟩
                    rw [← hs0] at hl
                    have hqs : q = s0 + 1 := by omega
                    subst hqs
                    have hsk : s0 = i - 1 - j := by omega
                    have hcs : C s0 = nI (cdN X (i - 1 - j)) := by rw [hC s0 (by omega), hsk]
                    refine lv_aload_n hx hb dX7_put_97 rfl (lv_at hl 3 rfl) ?_
                    refine rg (C := RX7) (T := TX7) (N := 16) (v := .ref (w + 6)) hx hb hT inX7 hown hK hM.1 rfl 6 (by decide) mf_X7_26 rfl dX7_put_98 ?_
                    refine lv_aload_n hx hb dX7_put_101 rfl (lv_at hl 3 rfl) ?_
                    refine rg (C := RX7) (T := TX7) (N := 16) (v := .int (nI (n + j))) hx hb hT inX7 hown hK hM.1 rfl 7 (by decide) mf_X7_139 rfl dX7_put_102 ?_
                    refine lv_aload_n hx hb dX7_put_105 rfl (lv_at hl 3 rfl) ?_
                    refine rg (C := RX7) (T := TX7) (N := 16) (v := .ref (w + 7)) hx hb hT inX7 hown hK hM.1 rfl 9 (by decide) mf_X7_29 rfl dX7_put_106 ?_
                    refine lv_iload hx hb dX7_put_109 (lv_at hl 0 rfl) ?_
                    refine r_ialdS (y := C s0) hx hb hK hM.2.2.2.2.2.2.2.1 s0 (rfl) (by omega) (Nat.le_of_ble_eq_true rfl) rfl dX7_put_111 ?_
                    rw [hcs]
                    refine r_iast hx hb hK hM.2.2.2.2.2.2.1 (n + j) (rfl) (by omega) (Nat.le_of_ble_eq_true rfl) hS (show _ ∧ _ from ⟨by omega, by omega⟩) dX7_put_112 (fun H locs h1 o hS => ?_)
                    have hM := hM.a6 h1 o
                    have hM : MdAt G w (updM (updM (updM M 9 C) 6 (apT (M 6) n X i (j + 1))) 7 (fun _ => nI (n + j))) H := by
                      have em : updM (updM (updM (updM M 9 C) 6 (apT (M 6) n X i j)) 7 (fun _ => nI (n + j))) 6 (apT (M 6) n X i (j + 1)) = updM (updM (updM M 9 C) 6 (apT (M 6) n X i (j + 1))) 7 (fun _ => nI (n + j)) := by
                        funext j1
                        unfold updM
                        by_cases q1 : j1 = 6
                        · rw [if_pos q1, if_neg (by omega), if_pos q1]
                        · rw [if_neg q1, if_neg q1, if_neg q1]
                      rw [← em, ← apT_s]
                      exact hM
                    refine lv_aload_n hx hb dX7_put_113 rfl (lv_at hl 3 rfl) ?_
                    refine lv_dup hx hb dX7_put_114 rfl ?_
                    refine rg (C := RX7) (T := TX7) (N := 16) (v := .int (nI (n + j))) hx hb hT inX7 hown hK hM.1 rfl 7 (by decide) mf_X7_139 rfl dX7_put_115 ?_
                    refine lv_iconst (v := 1) hx hb dX7_put_118 (by decide) ?_
                    refine lv_iadd hx hb dX7_put_119 ?_
                    rw [nI_1]
                    refine rp (C := RX7) (T := TX7) (N := 16) (v := .int (nI (n + j + 1))) (ty := .int) hx hb hT inX7 tyX7 tyX7_ok nmX7 hown hK hM.1 rfl 7 (by decide) mf_X7_139 rfl (by decide +kernel) rfl rfl (Nat.le_of_ble_eq_true rfl) hS (show _ ∧ _ from ⟨by omega, by omega⟩) dX7_put_120 (fun H locs h1 o hS => ?_)
                    have hM := hM.s7 h1 o
                    rw [updM_2] at hM
                    refine lv_iinc (v := nI s0 - 1) (lv' := [(6, .int (nI s0 - 1)), (5, .int (nI i)), (3, .long (lL (X / 256 ^ i))), (0, .ref w), (1, .long (lL X))]) hx hb dX7_put_123 hl (k := 0) rfl (i_m1 _) (by decide) rfl (fun ls hl => ?_)
                    refine lv_goto (tgt := 92) hx hb dX7_put_126 (by decide) ?_
                    exact ih2 s0 (j + 1) _ _ hS (by omega) hM (by omega) ls (lv_sub hl [0, 1, 2, 3, 4] rfl)
              refine lv_istore (lv' := [(6, .int (nI i - 1)), (5, .int (nI i)), (3, .long (lL (X / 256 ^ i))), (0, .ref w), (1, .long (lL X))]) hx hb dX7_put_90 hl (by decide) rfl (fun ls hl => ?_)
              exact loop2 (i + 1) i 0 _ _ hS (by omega) (by rw [apT_0, updM_self (by rfl : updM M 9 C 6 = M 6)]; exact (by
              obtain ⟨p0, pp⟩ := hM
              exact ⟨by rw [show nI (n + 0) = M 7 0 from h7.symm]; exact p0, pp⟩)) (by omega) ls (lv_sub hl [0, 1, 2, 3, 4] rfl)
            · have hle : ¬ n + i ≤ 80 := fun q => c3 ((nI_leI (b := 80) (by omega) (by omega)).mpr q)
              obtain ⟨p1, p2, p3⟩ := pu_big (T := M 6) (n := n) hke hi (by omega)
              rw [p1, p2, p3] at hQ
              refine lv_bipush (v := (-4)) hx hb dX7_put_83 (by decide) ?_
              exact nd_I hQ hx hb hr hlocks dX7_put_85 hS (⟨rfl, updM M 9 C, fun k _ _ h9 => updM_ne h9, updM_ne (by omega), by rw [updM_ne (by omega)]; exact h7, hM⟩)
          · have hi0 : i = 0 := (nI_e0 (by omega)).mp c2
            have hx00 : X / 256 ^ i = 0 := absurd hi8 (by omega)
            subst hi0
            have hke : plF X 8 0 = -2 := by
              show (if X / 256 ^ 0 = 0 then (if 0 = 0 then -2 else nI 0) else if 33 ≤ cdN X 0 ∧ cdN X 0 ≤ 126 then plF X 7 (0 + 1) else -2) = -2
              rw [if_pos hx00, if_pos rfl]
            obtain ⟨p1, p2, p3⟩ := pu_neg (T := M 6) (n := n) (X := X) (by rw [hke]; decide)
            rw [p1, p2, p3, hke] at hQ
            refine lv_bipush (v := (-2)) hx hb dX7_put_68 (by decide) ?_
            exact nd_I hQ hx hb hr hlocks dX7_put_70 hS (⟨rfl, updM M 9 C, fun k _ _ h9 => updM_ne h9, updM_ne (by omega), by rw [updM_ne (by omega)]; exact h7, hM⟩)
        · have hlt : i < 8 := by
            have h9 : ¬ nI 8 ≤ nI i := c8
            rw [nI_leI (by omega) (by omega)] at h9
            omega
          obtain ⟨f, hff⟩ : ∃ z, 8 - i = z + 1 := ⟨7 - i, by omega⟩
          rw [hff] at hf
          have hf : (if X / 256 ^ i = 0 then (if i = 0 then -2 else nI i) else if 33 ≤ cdN X i ∧ cdN X i ≤ 126 then plF X f (i + 1) else -2) = plF X 8 0 := hf
          rw [if_neg hx0] at hf
          refine lv_aload_n hx hb dX7_put_18 rfl (lv_at hl 2 rfl) ?_
          refine rg (C := RX7) (T := TX7) (N := 16) (v := .ref (w + 7)) hx hb hT inX7 hown hK hM.1 rfl 9 (by decide) mf_X7_29 rfl dX7_put_19 ?_
          refine lv_iload hx hb dX7_put_22 (lv_at hl 0 rfl) ?_
          refine lv_lload_n hx hb dX7_put_24 rfl (lv_at hl 1 rfl) ?_
          refine lv_ldc2 hx hb hown (hT _ mk_X7_156) dX7_put_25 ?_
          refine lv_land hx hb dX7_put_28 ?_
          rw [lL_and hXi]
          refine lv_l2i hx hb dX7_put_29 rfl ?_
          rw [lL_32 (Nat.mod_lt _ (by omega))]
          refine r_iast hx hb hK hM.2.2.2.2.2.2.2.1 i (rfl) (by omega) (Nat.le_of_ble_eq_true rfl) hS (show _ ∧ _ from ⟨by omega, by omega⟩) dX7_put_30 (fun H locs h1 o hS => ?_)
          have hM := hM.a9 h1 o
          rw [updM_2, updM_eq] at hM
          obtain ⟨C2, hC2⟩ : ∃ z1 : Nat → Int32, z1 = upd C i (nI (X / 256 ^ i % 256)) := ⟨_, rfl⟩
          rw [← hC2] at hM
          have hCi : C2 i = nI (cdN X i) := by rw [hC2]; exact upd_eq
          have hCj : ∀ j, j < i + 1 → C2 j = nI (cdN X j) := fun j hj => by
            by_cases q : j = i
            · rw [q]; exact hCi
            · rw [hC2, upd_ne q]; exact hC j (by omega)
          refine lv_aload_n hx hb dX7_put_31 rfl (lv_at hl 2 rfl) ?_
          refine rg (C := RX7) (T := TX7) (N := 16) (v := .ref (w + 7)) hx hb hT inX7 hown hK hM.1 rfl 9 (by decide) mf_X7_29 rfl dX7_put_32 ?_
          refine lv_iload hx hb dX7_put_35 (lv_at hl 0 rfl) ?_
          refine r_ialdS (y := C2 i) hx hb hK hM.2.2.2.2.2.2.2.1 i (rfl) (by omega) (Nat.le_of_ble_eq_true rfl) rfl dX7_put_37 ?_
          rw [hCi]
          refine lv_i2l hx hb dX7_put_38 rfl ?_
          refine lv_bipush (v := 33) hx hb dX7_put_39 (by decide) ?_
          refine lv_bipush (v := 126) hx hb dX7_put_41 (by decide) ?_
          refine got_i (run_s hx hb hml hown hT hK hl.1 (k_X7_in l G (nI (cdN X i)) 33 126) (cw_X7_47 hT ⟨Nat.le_of_ble_eq_true rfl, Nat.le_of_ble_eq_true rfl⟩) trivial rfl rfl (Nat.le_of_ble_eq_true rfl) dX7_put_43 ⟨Nat.zero_le _, Nat.zero_le _⟩) (fun v_1 hv_1 => ?_)
          subst hv_1
          refine lv_if_ne (tgt := 52) hx hb dX7_put_46 (by decide) (fun c3 => ?_) (fun c3 => ?_)
          · obtain ⟨h3, h4⟩ := bi_n0 c3
            have h3 : 33 ≤ cdN X i := (nI_leI (a := 33) (by omega) (by omega)).mp h3
            have h4 : cdN X i ≤ 126 := (nI_leI (b := 126) (by omega) (by omega)).mp h4
            rw [if_pos ⟨h3, h4⟩, show f = 8 - (i + 1) by omega] at hf
            refine lv_lload_n hx hb dX7_put_52 rfl (lv_at hl 1 rfl) ?_
            refine lv_bipush (v := 8) hx hb dX7_put_53 (by decide) ?_
            refine lv_lushr hx hb dX7_put_55 rfl ?_
            rw [show ((lL (X / 256 ^ i)).toUInt64 >>> ((8 : Int32).toInt64.toUInt64 &&& Int64.toUInt64 63)).toInt64 = lL (X / 256 ^ (i + 1)) from by rw [show (8 : Int32) = nI 8 from rfl, lL_shr hXi (by omega), Nat.div_div_eq_div_mul]; rfl]
            refine lv_lstore_n (lv' := [(3, .long (lL (X / 256 ^ (i + 1)))), (5, .int (nI i)), (0, .ref w), (1, .long (lL X))]) hx hb dX7_put_56 rfl hl (by decide) rfl (fun ls hl => ?_)
            refine lv_iinc (v := nI (i + 1)) (lv' := [(5, .int (nI (i + 1))), (3, .long (lL (X / 256 ^ (i + 1)))), (0, .ref w), (1, .long (lL X))]) hx hb dX7_put_57 hl (k := 1) rfl (nI_1 i) (by decide) rfl (fun ls hl => ?_)
            refine lv_goto (tgt := 5) hx hb dX7_put_60 (by decide) ?_
            exact ih (i + 1) C2 _ _ hS (by omega) hf hCj hM (by omega) ls (lv_sub hl [0, 1, 2, 3] rfl)
          · have h3 : ¬ (33 ≤ cdN X i ∧ cdN X i ≤ 126) := fun z => (bi_e0 c3) ⟨nI_le (a := 33) z.1 (by omega), nI_le (b := 126) z.2 (by omega)⟩
            rw [if_neg h3] at hf
            obtain ⟨p1, p2, p3⟩ := pu_neg (T := M 6) (n := n) (X := X) (by rw [← hf]; decide)
            rw [p1, p2, p3, ← hf] at hQ
            refine lv_bipush (v := (-2)) hx hb dX7_put_49 (by decide) ?_
            exact nd_I hQ hx hb hr hlocks dX7_put_51 hS (⟨rfl, updM M 9 C2, fun k _ _ h9 => updM_ne h9, updM_ne (by omega), by rw [updM_ne (by omega)]; exact h7, hM⟩)
  exact loop 9 0 (M 9) _ _ hS (by omega) rfl (fun j hj => absurd hj (by omega)) (by rw [updM_self rfl]; exact hM) (by omega) ls (lv_sub hl [0, 1, 2, 3] (by show _ = _; rw [show X / 256 ^ 0 = X from Nat.div_one X]; rfl))
