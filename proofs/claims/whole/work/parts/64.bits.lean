/-! the bits of a double, as the class finds them -/
theorem eab {a b E k : Nat} (h : E + b = k + a) : nI a - nI b + nI k = nI E := by
  have h1 : nI E = nI (k + a) - nI b := by rw [← h, ← nI_add, Int32.add_sub_cancel]
  rw [h1, ← nI_add, Int32.sub_eq_add_neg, Int32.sub_eq_add_neg, Int32.add_assoc, Int32.add_comm (-nI b), ← Int32.add_assoc, Int32.add_comm (nI a)]

set_option maxHeartbeats 4000000 in
set_option maxRecDepth 100000 in
theorem k_X6_bitsOf_52 (l : Launch) (G : GG) (y : UInt64) (res : Int64) (hB : BitsP y 52 1023 res) : Met l yX6_bitsOf (ws_ yX6_bitsOf cX6_bitsOf 9 (some .long)) (rm_ 0) (PC G [.double y, .int (52 : Int32), .int (1023 : Int32)] (fun _ => True)) (vp_Sl (fun v => v = res)) 0 0 NoA := by
  refine met_q (by decide +kernel) (Nat.le_of_ble_eq_true rfl) ?_
  intro p e s m args below meth c Q hQ hx hb hr hT hown hml hlocks hnm hK hP ls hl
  have hl : lv_has ls 9 [(0, .double y), (2, .int (52 : Int32)), (3, .int (1023 : Int32))] := hl
  refine lv_dload_n hx hb dX6_bitsOf_0 rfl (lv_at hl 0 rfl) ?_
  refine lv_dconst0 hx hb dX6_bitsOf_1 ?_
  refine lv_dcmp hx hb dX6_bitsOf_2 ?_
  rcases hB with ⟨hz, hres⟩ | ⟨v, a, b, E, ha, hb9, hab, hv, hy, hE, hres⟩
  · rw [show Op.cmpValue (FP.dcmp y FP.dconst0) .g = 0 by rw [d_eq0 hz]; rfl]
    refine lv_if_gt (tgt := 8) hx hb dX6_bitsOf_3 (by decide) (fun c1 => ?_) (fun c1 => ?_)
    · exact absurd c1 (by decide)
    · refine lv_lconst (v := 0) hx hb dX6_bitsOf_6 (by decide) ?_
      exact nd_l hQ hx hb hr hlocks dX6_bitsOf_7 (hres.symm)
  · obtain ⟨c0, hc0⟩ : ∃ z1, z1 = 2 ^ 52 + v * 2 ^ (52 - 52) := ⟨_, rfl⟩
    have hc1 : 2 ^ 52 ≤ c0 := by omega
    have hc2 : c0 < 2 ^ 53 := by
      have h9 : v * 2 ^ (52 - 52) < 2 ^ 52 * 2 ^ (52 - 52) := (Nat.mul_lt_mul_right (Nat.two_pow_pos _)).mpr hv
      rw [← Nat.pow_add] at h9
      omega
    rw [← hc0] at hy
    rw [show Op.cmpValue (FP.dcmp y FP.dconst0) .g = 1 by rw [d_gt0 hy hc1 (by omega)]; rfl]
    refine lv_if_gt (tgt := 8) hx hb dX6_bitsOf_3 (by decide) (fun c1 => ?_) (fun c1 => ?_)
    · refine lv_iconst (v := 0) hx hb dX6_bitsOf_8 (by decide) ?_
      refine lv_istore (lv' := [(4, .int 0), (0, .double y), (2, .int (52 : Int32)), (3, .int (1023 : Int32))]) hx hb dX6_bitsOf_9 hl (by decide) rfl (fun ls hl => ?_)
      refine lv_dload_n hx hb dX6_bitsOf_11 rfl (lv_at hl 1 rfl) ?_
      refine lv_dstore (lv' := [(5, .double y), (4, .int 0), (0, .double y), (2, .int (52 : Int32)), (3, .int (1023 : Int32))]) hx hb dX6_bitsOf_12 hl (by decide) rfl (fun ls hl => ?_)
      refine lv_iconst (v := 0) hx hb dX6_bitsOf_14 (by decide) ?_
      refine lv_istore (lv' := [(7, .int 0), (5, .double y), (4, .int 0), (0, .double y), (2, .int (52 : Int32)), (3, .int (1023 : Int32))]) hx hb dX6_bitsOf_15 hl (by decide) rfl (fun ls hl => ?_)
      have h84 : ∀ (w : UInt64), FP.Core.val64 w = .fin false c0 (-52) → ∀ ls : Array Slot, lv_has ls 9 [(5, .double w), (4, .int (nI a - nI b)), (0, .double y), (2, .int (52 : Int32)), (3, .int (1023 : Int32))] → W p l e (rm_ 0) s m args below meth c s.heap [] 0 0 Q (F0 m 84 ls []) := by
        intro w hw ls hl
        rw [hc0] at hw
        obtain ⟨n1, n2, n3⟩ := d_frac (z := FP.l2d ((1 : Int64) <<< ((52 : Int32).toInt64 &&& 63))) (by decide) hv hw (by decide +kernel)
        refine lv_dload hx hb dX6_bitsOf_84 (lv_at hl 0 rfl) ?_
        refine lv_dconst1 hx hb dX6_bitsOf_86 ?_
        refine lv_dsub hx hb dX6_bitsOf_87 (nn64 n1) ?_
        refine lv_lconst (v := 1) hx hb dX6_bitsOf_88 (by decide) ?_
        refine lv_iload_n hx hb dX6_bitsOf_89 rfl (lv_at hl 3 rfl) ?_
        refine lv_lshl hx hb dX6_bitsOf_90 rfl ?_
        refine lv_l2d hx hb dX6_bitsOf_91 ?_
        refine lv_dmul hx hb dX6_bitsOf_92 (nn64 n2) ?_
        refine lv_d2l hx hb dX6_bitsOf_93 ?_
        rw [n3]
        refine lv_lstore (lv' := [(7, .long (lL v)), (5, .double w), (4, .int (nI a - nI b)), (0, .double y), (2, .int (52 : Int32)), (3, .int (1023 : Int32))]) hx hb dX6_bitsOf_94 hl (by decide) rfl (fun ls hl => ?_)
        refine lv_iload hx hb dX6_bitsOf_96 (lv_at hl 2 rfl) ?_
        refine lv_iload_n hx hb dX6_bitsOf_98 rfl (lv_at hl 5 rfl) ?_
        refine lv_iadd hx hb dX6_bitsOf_99 ?_
        rw [show nI a - nI b + (1023 : Int32) = nI E from eab (k := 1023) hE]
        refine lv_i2l hx hb dX6_bitsOf_100 rfl ?_
        rw [nI_64 (by omega)]
        refine lv_iload_n hx hb dX6_bitsOf_101 rfl (lv_at hl 4 rfl) ?_
        refine lv_lshl hx hb dX6_bitsOf_102 rfl ?_
        rw [lL_shl (k := 52) (by decide) (by omega) (by omega)]
        refine lv_lload hx hb dX6_bitsOf_103 (lv_at hl 0 rfl) ?_
        refine lv_lor hx hb dX6_bitsOf_105 ?_
        rw [lL_or hv (by omega)]
        exact nd_l hQ hx hb hr hlocks dX6_bitsOf_106 (hres.symm)
      have loop2 : ∀ (k : Nat) (i : Nat) (w : UInt64), i ≤ b → FP.Core.val64 w = .fin false c0 (-52 - ((b : Int) - i)) → b - i < k → ∀ ls : Array Slot, lv_has ls 9 [(7, .int (nI i)), (5, .double w), (4, .int (nI a - nI i)), (0, .double y), (2, .int (52 : Int32)), (3, .int (1023 : Int32))] → W p l e (rm_ 0) s m args below meth c s.heap [] 0 0 Q (F0 m 53 ls []) := by
        intro k
        induction k with
        | zero => intro i w hi hw hm; exact absurd hm (Nat.not_lt_zero _)
        | succ k ih =>
          intro i w hi hw hm ls hl
          refine lv_iload hx hb dX6_bitsOf_53 (lv_at hl 0 rfl) ?_
          refine lv_bipush (v := 64) hx hb dX6_bitsOf_55 (by decide) ?_
          refine lv_icmp_ge (tgt := 84) hx hb dX6_bitsOf_57 (by decide) (fun c2 => ?_) (fun c2 => ?_)
          · exact absurd ((nI_leI (a := 64) (by omega) (by omega)).mp c2) (by omega)
          · refine lv_dload hx hb dX6_bitsOf_60 (lv_at hl 1 rfl) ?_
            refine lv_dconst1 hx hb dX6_bitsOf_62 ?_
            refine lv_dcmp hx hb dX6_bitsOf_63 ?_
            refine lv_if_ge (tgt := 84) hx hb dX6_bitsOf_64 (by decide) (fun c3 => ?_) (fun c3 => ?_)
            · have hib : i = b := by
                by_cases q : i = b
                · exact q
                · exact absurd (cv_lt ((d_lt hw hc1 hc2 one_v).1 (by omega)) .g) (fun z9 => by rw [i32_lt_iff] at z9; rw [i32_le_iff] at c3; omega)
              subst hib
              rw [show (-52 - ((i : Int) - i)) = -52 by omega] at hw
              exact h84 w hw ls (lv_sub hl [1, 2, 3, 4, 5] rfl)
            · have hib : i < b := by
                by_cases q : i = b
                · exfalso
                  rw [q, show (-52 - ((b : Int) - b)) = -52 by omega] at hw
                  exact c3 (by
                    have z9 := cv_ge ((d_lt hw hc1 hc2 one_v).2 (by omega)) .g
                    rw [i32_lt_iff] at z9
                    rw [i32_le_iff]
                    omega)
                · omega
              have hw2 := d_twice hw hc1 hc2 (by omega) (by omega)
              refine lv_dload hx hb dX6_bitsOf_67 (lv_at hl 1 rfl) ?_
              refine lv_ldc2d hx hb hown (hT _ mk_X6_218) dX6_bitsOf_69 ?_
              refine lv_dmul hx hb dX6_bitsOf_72 (nn64 (fin64 hw2)) ?_
              refine lv_dstore (lv' := [(5, .double (FP.dmul w 4611686018427387904)), (7, .int (nI i)), (4, .int (nI a - nI i)), (0, .double y), (2, .int (52 : Int32)), (3, .int (1023 : Int32))]) hx hb dX6_bitsOf_73 hl (by decide) rfl (fun ls hl => ?_)
              refine lv_iinc (v := nI a - nI (i + 1)) (lv' := [(4, .int (nI a - nI (i + 1))), (5, .double (FP.dmul w 4611686018427387904)), (7, .int (nI i)), (0, .double y), (2, .int (52 : Int32)), (3, .int (1023 : Int32))]) hx hb dX6_bitsOf_75 hl (k := 2) rfl (m1s _ _) (by decide) rfl (fun ls hl => ?_)
              refine lv_iinc (v := nI (i + 1)) (lv' := [(7, .int (nI (i + 1))), (4, .int (nI a - nI (i + 1))), (5, .double (FP.dmul w 4611686018427387904)), (0, .double y), (2, .int (52 : Int32)), (3, .int (1023 : Int32))]) hx hb dX6_bitsOf_78 hl (k := 2) rfl (nI_1 i) (by decide) rfl (fun ls hl => ?_)
              refine lv_goto (tgt := 53) hx hb dX6_bitsOf_81 (by decide) ?_
              exact ih (i + 1) _ hib (by rw [hw2]; congr 1 <;> omega) (by omega) ls (lv_sub hl [0, 2, 1, 3, 4, 5] rfl)
      have h50 : ∀ (w : UInt64) (i7 : Int32), FP.Core.val64 w = .fin false c0 (-52 - (b : Int)) → ∀ ls : Array Slot, lv_has ls 9 [(7, .int i7), (5, .double w), (4, .int (nI a)), (0, .double y), (2, .int (52 : Int32)), (3, .int (1023 : Int32))] → W p l e (rm_ 0) s m args below meth c s.heap [] 0 0 Q (F0 m 50 ls []) := by
        intro w i7 hw ls hl
        rw [show nI a = nI a - nI 0 from (Int32.sub_zero _).symm] at hl
        refine lv_iconst (v := 0) hx hb dX6_bitsOf_50 (by decide) ?_
        refine lv_istore (lv' := [(7, .int 0), (5, .double w), (4, .int (nI a - nI 0)), (0, .double y), (2, .int (52 : Int32)), (3, .int (1023 : Int32))]) hx hb dX6_bitsOf_51 hl (by decide) rfl (fun ls hl => ?_)
        exact loop2 (b + 1) 0 w (Nat.zero_le _) (by rw [hw]; congr 1 <;> omega) (by omega) ls (lv_sub hl [0, 1, 2, 3, 4, 5] rfl)
      have loop1 : ∀ (k : Nat) (i : Nat) (w : UInt64), i ≤ a → FP.Core.val64 w = .fin false c0 (-52 + ((a : Int) - i) - b) → a - i < k → ∀ ls : Array Slot, lv_has ls 9 [(7, .int (nI i)), (5, .double w), (4, .int (nI i)), (0, .double y), (2, .int (52 : Int32)), (3, .int (1023 : Int32))] → W p l e (rm_ 0) s m args below meth c s.heap [] 0 0 Q (F0 m 17 ls []) := by
        intro k
        induction k with
        | zero => intro i w hi hw hm; exact absurd hm (Nat.not_lt_zero _)
        | succ k ih =>
          intro i w hi hw hm ls hl
          refine lv_iload hx hb dX6_bitsOf_17 (lv_at hl 0 rfl) ?_
          refine lv_bipush (v := 64) hx hb dX6_bitsOf_19 (by decide) ?_
          refine lv_icmp_ge (tgt := 50) hx hb dX6_bitsOf_21 (by decide) (fun c2 => ?_) (fun c2 => ?_)
          · exact absurd ((nI_leI (a := 64) (by omega) (by omega)).mp c2) (by omega)
          · refine lv_dload hx hb dX6_bitsOf_24 (lv_at hl 1 rfl) ?_
            refine lv_ldc2d hx hb hown (hT _ mk_X6_218) dX6_bitsOf_26 ?_
            refine lv_dcmp hx hb dX6_bitsOf_29 ?_
            refine lv_if_lt (tgt := 50) hx hb dX6_bitsOf_30 (by decide) (fun c3 => ?_) (fun c3 => ?_)
            · have hia : i = a := by
                by_cases q : i = a
                · exact q
                · exact absurd c3 (cv_ge ((d_lt hw hc1 hc2 two_v).2 (by omega)) .l)
              subst hia
              rw [show (-52 + ((i : Int) - i) - b) = -52 - (b : Int) by omega] at hw
              exact h50 w _ hw ls (lv_sub hl [0, 1, 2, 3, 4, 5] rfl)
            · have hia : i < a := by
                by_cases q : i = a
                · exact absurd (cv_lt ((d_lt hw hc1 hc2 two_v).1 (by omega)) .l) c3
                · omega
              have hw2 := d_half hw hc1 hc2 (by omega) (by omega)
              refine lv_dload hx hb dX6_bitsOf_33 (lv_at hl 1 rfl) ?_
              refine lv_ldc2d hx hb hown (hT _ mk_X6_218) dX6_bitsOf_35 ?_
              refine lv_ddiv hx hb dX6_bitsOf_38 (nn64 (fin64 hw2)) ?_
              refine lv_dstore (lv' := [(5, .double (FP.ddiv w 4611686018427387904)), (7, .int (nI i)), (4, .int (nI i)), (0, .double y), (2, .int (52 : Int32)), (3, .int (1023 : Int32))]) hx hb dX6_bitsOf_39 hl (by decide) rfl (fun ls hl => ?_)
              refine lv_iinc (v := nI (i + 1)) (lv' := [(4, .int (nI (i + 1))), (5, .double (FP.ddiv w 4611686018427387904)), (7, .int (nI i)), (0, .double y), (2, .int (52 : Int32)), (3, .int (1023 : Int32))]) hx hb dX6_bitsOf_41 hl (k := 2) rfl (nI_1 i) (by decide) rfl (fun ls hl => ?_)
              refine lv_iinc (v := nI (i + 1)) (lv' := [(7, .int (nI (i + 1))), (4, .int (nI (i + 1))), (5, .double (FP.ddiv w 4611686018427387904)), (0, .double y), (2, .int (52 : Int32)), (3, .int (1023 : Int32))]) hx hb dX6_bitsOf_44 hl (k := 2) rfl (nI_1 i) (by decide) rfl (fun ls hl => ?_)
              refine lv_goto (tgt := 17) hx hb dX6_bitsOf_47 (by decide) ?_
              exact ih (i + 1) _ hia (by rw [hw2]; congr 1 <;> omega) (by omega) ls (lv_sub hl [0, 2, 1, 3, 4, 5] rfl)
      exact loop1 (a + 1) 0 y (Nat.zero_le _) (by rw [hy]; congr 1 <;> omega) (by omega) ls (lv_sub hl [0, 1, 2, 3, 4, 5] rfl)
    · exact absurd (show (0 : Int32) < 1 by decide) c1

set_option maxHeartbeats 4000000 in
set_option maxRecDepth 100000 in
theorem k_X6_bitsOf_23 (l : Launch) (G : GG) (y : UInt64) (res : Int64) (hB : BitsP y 23 127 res) : Met l yX6_bitsOf (ws_ yX6_bitsOf cX6_bitsOf 9 (some .long)) (rm_ 0) (PC G [.double y, .int (23 : Int32), .int (127 : Int32)] (fun _ => True)) (vp_Sl (fun v => v = res)) 0 0 NoA := by
  refine met_q (by decide +kernel) (Nat.le_of_ble_eq_true rfl) ?_
  intro p e s m args below meth c Q hQ hx hb hr hT hown hml hlocks hnm hK hP ls hl
  have hl : lv_has ls 9 [(0, .double y), (2, .int (23 : Int32)), (3, .int (127 : Int32))] := hl
  refine lv_dload_n hx hb dX6_bitsOf_0 rfl (lv_at hl 0 rfl) ?_
  refine lv_dconst0 hx hb dX6_bitsOf_1 ?_
  refine lv_dcmp hx hb dX6_bitsOf_2 ?_
  rcases hB with ⟨hz, hres⟩ | ⟨v, a, b, E, ha, hb9, hab, hv, hy, hE, hres⟩
  · rw [show Op.cmpValue (FP.dcmp y FP.dconst0) .g = 0 by rw [d_eq0 hz]; rfl]
    refine lv_if_gt (tgt := 8) hx hb dX6_bitsOf_3 (by decide) (fun c1 => ?_) (fun c1 => ?_)
    · exact absurd c1 (by decide)
    · refine lv_lconst (v := 0) hx hb dX6_bitsOf_6 (by decide) ?_
      exact nd_l hQ hx hb hr hlocks dX6_bitsOf_7 (hres.symm)
  · obtain ⟨c0, hc0⟩ : ∃ z1, z1 = 2 ^ 52 + v * 2 ^ (52 - 23) := ⟨_, rfl⟩
    have hc1 : 2 ^ 52 ≤ c0 := by omega
    have hc2 : c0 < 2 ^ 53 := by
      have h9 : v * 2 ^ (52 - 23) < 2 ^ 23 * 2 ^ (52 - 23) := (Nat.mul_lt_mul_right (Nat.two_pow_pos _)).mpr hv
      rw [← Nat.pow_add] at h9
      omega
    rw [← hc0] at hy
    rw [show Op.cmpValue (FP.dcmp y FP.dconst0) .g = 1 by rw [d_gt0 hy hc1 (by omega)]; rfl]
    refine lv_if_gt (tgt := 8) hx hb dX6_bitsOf_3 (by decide) (fun c1 => ?_) (fun c1 => ?_)
    · refine lv_iconst (v := 0) hx hb dX6_bitsOf_8 (by decide) ?_
      refine lv_istore (lv' := [(4, .int 0), (0, .double y), (2, .int (23 : Int32)), (3, .int (127 : Int32))]) hx hb dX6_bitsOf_9 hl (by decide) rfl (fun ls hl => ?_)
      refine lv_dload_n hx hb dX6_bitsOf_11 rfl (lv_at hl 1 rfl) ?_
      refine lv_dstore (lv' := [(5, .double y), (4, .int 0), (0, .double y), (2, .int (23 : Int32)), (3, .int (127 : Int32))]) hx hb dX6_bitsOf_12 hl (by decide) rfl (fun ls hl => ?_)
      refine lv_iconst (v := 0) hx hb dX6_bitsOf_14 (by decide) ?_
      refine lv_istore (lv' := [(7, .int 0), (5, .double y), (4, .int 0), (0, .double y), (2, .int (23 : Int32)), (3, .int (127 : Int32))]) hx hb dX6_bitsOf_15 hl (by decide) rfl (fun ls hl => ?_)
      have h84 : ∀ (w : UInt64), FP.Core.val64 w = .fin false c0 (-52) → ∀ ls : Array Slot, lv_has ls 9 [(5, .double w), (4, .int (nI a - nI b)), (0, .double y), (2, .int (23 : Int32)), (3, .int (127 : Int32))] → W p l e (rm_ 0) s m args below meth c s.heap [] 0 0 Q (F0 m 84 ls []) := by
        intro w hw ls hl
        rw [hc0] at hw
        obtain ⟨n1, n2, n3⟩ := d_frac (z := FP.l2d ((1 : Int64) <<< ((23 : Int32).toInt64 &&& 63))) (by decide) hv hw (by decide +kernel)
        refine lv_dload hx hb dX6_bitsOf_84 (lv_at hl 0 rfl) ?_
        refine lv_dconst1 hx hb dX6_bitsOf_86 ?_
        refine lv_dsub hx hb dX6_bitsOf_87 (nn64 n1) ?_
        refine lv_lconst (v := 1) hx hb dX6_bitsOf_88 (by decide) ?_
        refine lv_iload_n hx hb dX6_bitsOf_89 rfl (lv_at hl 3 rfl) ?_
        refine lv_lshl hx hb dX6_bitsOf_90 rfl ?_
        refine lv_l2d hx hb dX6_bitsOf_91 ?_
        refine lv_dmul hx hb dX6_bitsOf_92 (nn64 n2) ?_
        refine lv_d2l hx hb dX6_bitsOf_93 ?_
        rw [n3]
        refine lv_lstore (lv' := [(7, .long (lL v)), (5, .double w), (4, .int (nI a - nI b)), (0, .double y), (2, .int (23 : Int32)), (3, .int (127 : Int32))]) hx hb dX6_bitsOf_94 hl (by decide) rfl (fun ls hl => ?_)
        refine lv_iload hx hb dX6_bitsOf_96 (lv_at hl 2 rfl) ?_
        refine lv_iload_n hx hb dX6_bitsOf_98 rfl (lv_at hl 5 rfl) ?_
        refine lv_iadd hx hb dX6_bitsOf_99 ?_
        rw [show nI a - nI b + (127 : Int32) = nI E from eab (k := 127) hE]
        refine lv_i2l hx hb dX6_bitsOf_100 rfl ?_
        rw [nI_64 (by omega)]
        refine lv_iload_n hx hb dX6_bitsOf_101 rfl (lv_at hl 4 rfl) ?_
        refine lv_lshl hx hb dX6_bitsOf_102 rfl ?_
        rw [lL_shl (k := 23) (by decide) (by omega) (by omega)]
        refine lv_lload hx hb dX6_bitsOf_103 (lv_at hl 0 rfl) ?_
        refine lv_lor hx hb dX6_bitsOf_105 ?_
        rw [lL_or hv (by omega)]
        exact nd_l hQ hx hb hr hlocks dX6_bitsOf_106 (hres.symm)
      have loop2 : ∀ (k : Nat) (i : Nat) (w : UInt64), i ≤ b → FP.Core.val64 w = .fin false c0 (-52 - ((b : Int) - i)) → b - i < k → ∀ ls : Array Slot, lv_has ls 9 [(7, .int (nI i)), (5, .double w), (4, .int (nI a - nI i)), (0, .double y), (2, .int (23 : Int32)), (3, .int (127 : Int32))] → W p l e (rm_ 0) s m args below meth c s.heap [] 0 0 Q (F0 m 53 ls []) := by
        intro k
        induction k with
        | zero => intro i w hi hw hm; exact absurd hm (Nat.not_lt_zero _)
        | succ k ih =>
          intro i w hi hw hm ls hl
          refine lv_iload hx hb dX6_bitsOf_53 (lv_at hl 0 rfl) ?_
          refine lv_bipush (v := 64) hx hb dX6_bitsOf_55 (by decide) ?_
          refine lv_icmp_ge (tgt := 84) hx hb dX6_bitsOf_57 (by decide) (fun c2 => ?_) (fun c2 => ?_)
          · exact absurd ((nI_leI (a := 64) (by omega) (by omega)).mp c2) (by omega)
          · refine lv_dload hx hb dX6_bitsOf_60 (lv_at hl 1 rfl) ?_
            refine lv_dconst1 hx hb dX6_bitsOf_62 ?_
            refine lv_dcmp hx hb dX6_bitsOf_63 ?_
            refine lv_if_ge (tgt := 84) hx hb dX6_bitsOf_64 (by decide) (fun c3 => ?_) (fun c3 => ?_)
            · have hib : i = b := by
                by_cases q : i = b
                · exact q
                · exact absurd (cv_lt ((d_lt hw hc1 hc2 one_v).1 (by omega)) .g) (fun z9 => by rw [i32_lt_iff] at z9; rw [i32_le_iff] at c3; omega)
              subst hib
              rw [show (-52 - ((i : Int) - i)) = -52 by omega] at hw
              exact h84 w hw ls (lv_sub hl [1, 2, 3, 4, 5] rfl)
            · have hib : i < b := by
                by_cases q : i = b
                · exfalso
                  rw [q, show (-52 - ((b : Int) - b)) = -52 by omega] at hw
                  exact c3 (by
                    have z9 := cv_ge ((d_lt hw hc1 hc2 one_v).2 (by omega)) .g
                    rw [i32_lt_iff] at z9
                    rw [i32_le_iff]
                    omega)
                · omega
              have hw2 := d_twice hw hc1 hc2 (by omega) (by omega)
              refine lv_dload hx hb dX6_bitsOf_67 (lv_at hl 1 rfl) ?_
              refine lv_ldc2d hx hb hown (hT _ mk_X6_218) dX6_bitsOf_69 ?_
              refine lv_dmul hx hb dX6_bitsOf_72 (nn64 (fin64 hw2)) ?_
              refine lv_dstore (lv' := [(5, .double (FP.dmul w 4611686018427387904)), (7, .int (nI i)), (4, .int (nI a - nI i)), (0, .double y), (2, .int (23 : Int32)), (3, .int (127 : Int32))]) hx hb dX6_bitsOf_73 hl (by decide) rfl (fun ls hl => ?_)
              refine lv_iinc (v := nI a - nI (i + 1)) (lv' := [(4, .int (nI a - nI (i + 1))), (5, .double (FP.dmul w 4611686018427387904)), (7, .int (nI i)), (0, .double y), (2, .int (23 : Int32)), (3, .int (127 : Int32))]) hx hb dX6_bitsOf_75 hl (k := 2) rfl (m1s _ _) (by decide) rfl (fun ls hl => ?_)
              refine lv_iinc (v := nI (i + 1)) (lv' := [(7, .int (nI (i + 1))), (4, .int (nI a - nI (i + 1))), (5, .double (FP.dmul w 4611686018427387904)), (0, .double y), (2, .int (23 : Int32)), (3, .int (127 : Int32))]) hx hb dX6_bitsOf_78 hl (k := 2) rfl (nI_1 i) (by decide) rfl (fun ls hl => ?_)
              refine lv_goto (tgt := 53) hx hb dX6_bitsOf_81 (by decide) ?_
              exact ih (i + 1) _ hib (by rw [hw2]; congr 1 <;> omega) (by omega) ls (lv_sub hl [0, 2, 1, 3, 4, 5] rfl)
      have h50 : ∀ (w : UInt64) (i7 : Int32), FP.Core.val64 w = .fin false c0 (-52 - (b : Int)) → ∀ ls : Array Slot, lv_has ls 9 [(7, .int i7), (5, .double w), (4, .int (nI a)), (0, .double y), (2, .int (23 : Int32)), (3, .int (127 : Int32))] → W p l e (rm_ 0) s m args below meth c s.heap [] 0 0 Q (F0 m 50 ls []) := by
        intro w i7 hw ls hl
        rw [show nI a = nI a - nI 0 from (Int32.sub_zero _).symm] at hl
        refine lv_iconst (v := 0) hx hb dX6_bitsOf_50 (by decide) ?_
        refine lv_istore (lv' := [(7, .int 0), (5, .double w), (4, .int (nI a - nI 0)), (0, .double y), (2, .int (23 : Int32)), (3, .int (127 : Int32))]) hx hb dX6_bitsOf_51 hl (by decide) rfl (fun ls hl => ?_)
        exact loop2 (b + 1) 0 w (Nat.zero_le _) (by rw [hw]; congr 1 <;> omega) (by omega) ls (lv_sub hl [0, 1, 2, 3, 4, 5] rfl)
      have loop1 : ∀ (k : Nat) (i : Nat) (w : UInt64), i ≤ a → FP.Core.val64 w = .fin false c0 (-52 + ((a : Int) - i) - b) → a - i < k → ∀ ls : Array Slot, lv_has ls 9 [(7, .int (nI i)), (5, .double w), (4, .int (nI i)), (0, .double y), (2, .int (23 : Int32)), (3, .int (127 : Int32))] → W p l e (rm_ 0) s m args below meth c s.heap [] 0 0 Q (F0 m 17 ls []) := by
        intro k
        induction k with
        | zero => intro i w hi hw hm; exact absurd hm (Nat.not_lt_zero _)
        | succ k ih =>
          intro i w hi hw hm ls hl
          refine lv_iload hx hb dX6_bitsOf_17 (lv_at hl 0 rfl) ?_
          refine lv_bipush (v := 64) hx hb dX6_bitsOf_19 (by decide) ?_
          refine lv_icmp_ge (tgt := 50) hx hb dX6_bitsOf_21 (by decide) (fun c2 => ?_) (fun c2 => ?_)
          · exact absurd ((nI_leI (a := 64) (by omega) (by omega)).mp c2) (by omega)
          · refine lv_dload hx hb dX6_bitsOf_24 (lv_at hl 1 rfl) ?_
            refine lv_ldc2d hx hb hown (hT _ mk_X6_218) dX6_bitsOf_26 ?_
            refine lv_dcmp hx hb dX6_bitsOf_29 ?_
            refine lv_if_lt (tgt := 50) hx hb dX6_bitsOf_30 (by decide) (fun c3 => ?_) (fun c3 => ?_)
            · have hia : i = a := by
                by_cases q : i = a
                · exact q
                · exact absurd c3 (cv_ge ((d_lt hw hc1 hc2 two_v).2 (by omega)) .l)
              subst hia
              rw [show (-52 + ((i : Int) - i) - b) = -52 - (b : Int) by omega] at hw
              exact h50 w _ hw ls (lv_sub hl [0, 1, 2, 3, 4, 5] rfl)
            · have hia : i < a := by
                by_cases q : i = a
                · exact absurd (cv_lt ((d_lt hw hc1 hc2 two_v).1 (by omega)) .l) c3
                · omega
              have hw2 := d_half hw hc1 hc2 (by omega) (by omega)
              refine lv_dload hx hb dX6_bitsOf_33 (lv_at hl 1 rfl) ?_
              refine lv_ldc2d hx hb hown (hT _ mk_X6_218) dX6_bitsOf_35 ?_
              refine lv_ddiv hx hb dX6_bitsOf_38 (nn64 (fin64 hw2)) ?_
              refine lv_dstore (lv' := [(5, .double (FP.ddiv w 4611686018427387904)), (7, .int (nI i)), (4, .int (nI i)), (0, .double y), (2, .int (23 : Int32)), (3, .int (127 : Int32))]) hx hb dX6_bitsOf_39 hl (by decide) rfl (fun ls hl => ?_)
              refine lv_iinc (v := nI (i + 1)) (lv' := [(4, .int (nI (i + 1))), (5, .double (FP.ddiv w 4611686018427387904)), (7, .int (nI i)), (0, .double y), (2, .int (23 : Int32)), (3, .int (127 : Int32))]) hx hb dX6_bitsOf_41 hl (k := 2) rfl (nI_1 i) (by decide) rfl (fun ls hl => ?_)
              refine lv_iinc (v := nI (i + 1)) (lv' := [(7, .int (nI (i + 1))), (4, .int (nI (i + 1))), (5, .double (FP.ddiv w 4611686018427387904)), (0, .double y), (2, .int (23 : Int32)), (3, .int (127 : Int32))]) hx hb dX6_bitsOf_44 hl (k := 2) rfl (nI_1 i) (by decide) rfl (fun ls hl => ?_)
              refine lv_goto (tgt := 17) hx hb dX6_bitsOf_47 (by decide) ?_
              exact ih (i + 1) _ hia (by rw [hw2]; congr 1 <;> omega) (by omega) ls (lv_sub hl [0, 2, 1, 3, 4, 5] rfl)
      exact loop1 (a + 1) 0 y (Nat.zero_le _) (by rw [hy]; congr 1 <;> omega) (by omega) ls (lv_sub hl [0, 1, 2, 3, 4, 5] rfl)
    · exact absurd (show (0 : Int32) < 1 by decide) c1
