set_option maxHeartbeats 4000000 in
set_option maxRecDepth 100000 in
theorem k_X6_count (l : Launch) (G : GG) (z nx kp n : Nat) (r : Nat → Int32) (T : Nat → Nat → Int32) (Tp : Nat → Int32) (y : Int32)  : Met l yX6_count (ws_ yX6_count cX6_count 2 (some .int)) (rm_ 0) (PC G [.ref z, .int y] (fun H => T3 G z r T nx kp H ∧ PadAt G (z + 164) Tp (nI n) H)) (vp_Si (fun v => v = selN 13 y (cnN r (nI n) (nI kp)))) 0 0 NoA := by
  refine met_q (by decide +kernel) (Nat.le_of_ble_eq_true rfl) ?_
  intro p e s m args below meth c Q hQ hx hb hr hT hown hml hlocks hnm hK ⟨hZ, hD⟩ ls hl
  have hl : lv_has ls 2 [(0, .ref z), (1, .int y)] := hl
  have h48 : ∀ ls : Array Slot, lv_has ls 2 [(0, .ref z), (1, .int y)] → (y.toInt < 4 ∨ 9 < y.toInt) → W p l e (rm_ 0) s m args below meth c s.heap [] 0 0 Q (F0 m 48 ls []) := by
    intro ls hl hy
    refine lv_iload_n hx hb dX6_count_48 rfl (lv_at hl 1 rfl) ?_
    rcases cs13 y with qc | (qc | qc | qc | qc) | (qc | qc | qc) | (qc | qc | qc) | (qc | qc | qc | qc)
    · refine lv_tableOut (tgt := 188) hx hb dX6_count_49 qc (by decide) ?_
      refine lv_bipush (v := (-2)) hx hb dX6_count_188 (by decide) ?_
      exact nd_i hQ hx hb hr hlocks dX6_count_190 (selN_out qc)
    · subst qc
      refine lv_tableIn (off := 71) (tgt := 120) hx hb dX6_count_49 (by decide) (by decide) (by decide) (by decide) ?_
      refine lv_aload_n hx hb dX6_count_120 rfl (lv_at hl 0 rfl) ?_
      refine rg (C := RX6) (T := TX6) (N := 6) (v := .ref (z + 1)) hx hb hT inX6 hown hK hZ.1 rfl 0 (by decide) mf_X6_10 rfl dX6_count_121 ?_
      refine rg (C := RX5) (T := TX5) (N := 8) (v := .int (r 2)) hx hb hT inX5 hown hK hZ.2.1.1 rfl 5 (by decide) mf_X6_149 rfl dX6_count_124 ?_
      exact nd_i hQ hx hb hr hlocks dX6_count_127 (selN_in (f := cnN r (nI n) (nI kp)) 0 (by omega) rfl)
    · subst qc
      refine lv_tableIn (off := 79) (tgt := 128) hx hb dX6_count_49 (by decide) (by decide) (by decide) (by decide) ?_
      refine lv_aload_n hx hb dX6_count_128 rfl (lv_at hl 0 rfl) ?_
      refine rg (C := RX6) (T := TX6) (N := 6) (v := .ref (z + 1)) hx hb hT inX6 hown hK hZ.1 rfl 0 (by decide) mf_X6_10 rfl dX6_count_129 ?_
      refine rg (C := RX5) (T := TX5) (N := 8) (v := .int (r 5)) hx hb hT inX5 hown hK hZ.2.1.1 rfl 4 (by decide) mf_X6_152 rfl dX6_count_132 ?_
      exact nd_i hQ hx hb hr hlocks dX6_count_135 (selN_in (f := cnN r (nI n) (nI kp)) 1 (by omega) rfl)
    · subst qc
      refine lv_tableIn (off := 87) (tgt := 136) hx hb dX6_count_49 (by decide) (by decide) (by decide) (by decide) ?_
      refine lv_aload_n hx hb dX6_count_136 rfl (lv_at hl 0 rfl) ?_
      refine rg (C := RX6) (T := TX6) (N := 6) (v := .ref (z + 1)) hx hb hT inX6 hown hK hZ.1 rfl 0 (by decide) mf_X6_10 rfl dX6_count_137 ?_
      refine rg (C := RX5) (T := TX5) (N := 8) (v := .int (r 3)) hx hb hT inX5 hown hK hZ.2.1.1 rfl 6 (by decide) mf_X6_155 rfl dX6_count_140 ?_
      exact nd_i hQ hx hb hr hlocks dX6_count_143 (selN_in (f := cnN r (nI n) (nI kp)) 2 (by omega) rfl)
    · subst qc
      refine lv_tableIn (off := 95) (tgt := 144) hx hb dX6_count_49 (by decide) (by decide) (by decide) (by decide) ?_
      refine lv_aload_n hx hb dX6_count_144 rfl (lv_at hl 0 rfl) ?_
      refine rg (C := RX6) (T := TX6) (N := 6) (v := .ref (z + 1)) hx hb hT inX6 hown hK hZ.1 rfl 0 (by decide) mf_X6_10 rfl dX6_count_145 ?_
      refine rg (C := RX5) (T := TX5) (N := 8) (v := .int (r 4)) hx hb hT inX5 hown hK hZ.2.1.1 rfl 7 (by decide) mf_X6_158 rfl dX6_count_148 ?_
      exact nd_i hQ hx hb hr hlocks dX6_count_151 (selN_in (f := cnN r (nI n) (nI kp)) 3 (by omega) rfl)
    · subst qc
      refine lv_tableIn (off := 139) (tgt := 188) hx hb dX6_count_49 (by decide) (by decide) (by decide) (by decide) ?_
      exact absurd hy (by decide)
    · subst qc
      refine lv_tableIn (off := 139) (tgt := 188) hx hb dX6_count_49 (by decide) (by decide) (by decide) (by decide) ?_
      exact absurd hy (by decide)
    · subst qc
      refine lv_tableIn (off := 139) (tgt := 188) hx hb dX6_count_49 (by decide) (by decide) (by decide) (by decide) ?_
      exact absurd hy (by decide)
    · subst qc
      refine lv_tableIn (off := 139) (tgt := 188) hx hb dX6_count_49 (by decide) (by decide) (by decide) (by decide) ?_
      exact absurd hy (by decide)
    · subst qc
      refine lv_tableIn (off := 139) (tgt := 188) hx hb dX6_count_49 (by decide) (by decide) (by decide) (by decide) ?_
      exact absurd hy (by decide)
    · subst qc
      refine lv_tableIn (off := 139) (tgt := 188) hx hb dX6_count_49 (by decide) (by decide) (by decide) (by decide) ?_
      exact absurd hy (by decide)
    · subst qc
      refine lv_tableIn (off := 103) (tgt := 152) hx hb dX6_count_49 (by decide) (by decide) (by decide) (by decide) ?_
      refine lv_aload_n hx hb dX6_count_152 rfl (lv_at hl 0 rfl) ?_
      refine rg (C := RX6) (T := TX6) (N := 6) (v := .ref (z + 1)) hx hb hT inX6 hown hK hZ.1 rfl 0 (by decide) mf_X6_10 rfl dX6_count_153 ?_
      refine rg (C := RX5) (T := TX5) (N := 8) (v := .ref ((z + 1) + 4)) hx hb hT inX5 hown hK hZ.2.1.1 rfl 3 (by decide) mf_X6_161 rfl dX6_count_156 ?_
      refine lv_iconst (v := 0) hx hb dX6_count_159 (by decide) ?_
      refine r_ialdS (y := r 0) hx hb hK hZ.2.1.2.2.2.2.1 0 (by decide) (by omega) (Nat.le_of_ble_eq_true rfl) rfl dX6_count_160 ?_
      exact nd_i hQ hx hb hr hlocks dX6_count_161 (selN_in (f := cnN r (nI n) (nI kp)) 10 (by omega) rfl)
    · subst qc
      refine lv_tableIn (off := 113) (tgt := 162) hx hb dX6_count_49 (by decide) (by decide) (by decide) (by decide) ?_
      refine lv_aload_n hx hb dX6_count_162 rfl (lv_at hl 0 rfl) ?_
      refine rg (C := RX6) (T := TX6) (N := 6) (v := .ref (z + 1)) hx hb hT inX6 hown hK hZ.1 rfl 0 (by decide) mf_X6_10 rfl dX6_count_163 ?_
      refine rg (C := RX5) (T := TX5) (N := 8) (v := .ref ((z + 1) + 4)) hx hb hT inX5 hown hK hZ.2.1.1 rfl 3 (by decide) mf_X6_161 rfl dX6_count_166 ?_
      refine lv_iconst (v := 1) hx hb dX6_count_169 (by decide) ?_
      refine r_ialdS (y := r 1) hx hb hK hZ.2.1.2.2.2.2.1 1 (by decide) (by omega) (Nat.le_of_ble_eq_true rfl) rfl dX6_count_170 ?_
      exact nd_i hQ hx hb hr hlocks dX6_count_171 (selN_in (f := cnN r (nI n) (nI kp)) 11 (by omega) rfl)
    · subst qc
      refine lv_tableIn (off := 123) (tgt := 172) hx hb dX6_count_49 (by decide) (by decide) (by decide) (by decide) ?_
      refine lv_aload_n hx hb dX6_count_172 rfl (lv_at hl 0 rfl) ?_
      refine rg (C := RX6) (T := TX6) (N := 6) (v := .ref (z + 164)) hx hb hT inX6 hown hK hZ.1 rfl 3 (by decide) mf_X6_30 rfl dX6_count_173 ?_
      refine rg (C := RX3) (T := TX3) (N := 2) (v := .int (nI n)) hx hb hT inX3 hown hK hD.1 rfl 1 (by decide) mf_X6_164 rfl dX6_count_176 ?_
      exact nd_i hQ hx hb hr hlocks dX6_count_179 (selN_in (f := cnN r (nI n) (nI kp)) 12 (by omega) rfl)
    · subst qc
      refine lv_tableIn (off := 131) (tgt := 180) hx hb dX6_count_49 (by decide) (by decide) (by decide) (by decide) ?_
      refine lv_aload_n hx hb dX6_count_180 rfl (lv_at hl 0 rfl) ?_
      refine rg (C := RX6) (T := TX6) (N := 6) (v := .ref (z + 21)) hx hb hT inX6 hown hK hZ.1 rfl 1 (by decide) mf_X6_19 rfl dX6_count_181 ?_
      refine rg (C := RX0) (T := TX0) (N := 3) (v := .int (nI kp)) hx hb hT inX0 hown hK hZ.2.2.1 rfl 2 (by decide) mf_X6_167 rfl dX6_count_184 ?_
      exact nd_i hQ hx hb hr hlocks dX6_count_187 (selN_in (f := cnN r (nI n) (nI kp)) 13 (by omega) rfl)
  have h23 : ∀ ls : Array Slot, lv_has ls 2 [(0, .ref z), (1, .int y)] → (y.toInt < 4 ∨ 6 < y.toInt) → W p l e (rm_ 0) s m args below meth c s.heap [] 0 0 Q (F0 m 23 ls []) := by
    intro ls hl hy
    have e4 : (4 : Int32).toInt = 4 := rfl
    have e7 : (7 : Int32).toInt = 7 := rfl
    have e10 : (10 : Int32).toInt = 10 := rfl
    refine lv_iload_n hx hb dX6_count_23 rfl (lv_at hl 1 rfl) ?_
    refine lv_bipush (v := 7) hx hb dX6_count_24 (by decide) ?_
    refine lv_icmp_lt (tgt := 48) hx hb dX6_count_26 (by decide) (fun c1 => ?_) (fun c1 => ?_)
    · rw [i32_lt_iff] at c1
      exact h48 ls hl (by omega)
    · rw [i32_lt_iff] at c1
      refine lv_iload_n hx hb dX6_count_29 rfl (lv_at hl 1 rfl) ?_
      refine lv_bipush (v := 10) hx hb dX6_count_30 (by decide) ?_
      refine lv_icmp_ge (tgt := 48) hx hb dX6_count_32 (by decide) (fun c2 => ?_) (fun c2 => ?_)
      · rw [i32_le_iff] at c2
        exact h48 ls hl (by omega)
      · rw [i32_le_iff] at c2
        have hy3 : y = 7 ∨ y = 8 ∨ y = 9 := by
          have h9 : y.toInt = 7 ∨ y.toInt = 8 ∨ y.toInt = 9 := by omega
          rcases h9 with q | q | q
          · exact Or.inl (Int32.toInt_inj.mp q)
          · exact Or.inr (Or.inl (Int32.toInt_inj.mp q))
          · exact Or.inr (Or.inr (Int32.toInt_inj.mp q))
        rcases hy3 with qc | qc | qc
        · subst qc
          refine lv_aload_n hx hb dX6_count_35 rfl (lv_at hl 0 rfl) ?_
          refine rg (C := RX6) (T := TX6) (N := 6) (v := .ref (z + 1)) hx hb hT inX6 hown hK hZ.1 rfl 0 (by decide) mf_X6_10 rfl dX6_count_36 ?_
          refine rg (C := RX5) (T := TX5) (N := 8) (v := .ref ((z + 1) + 3)) hx hb hT inX5 hown hK hZ.2.1.1 rfl 2 (by decide) mf_X6_146 rfl dX6_count_39 ?_
          refine lv_iload_n hx hb dX6_count_42 rfl (lv_at hl 1 rfl) ?_
          refine lv_bipush (v := 7) hx hb dX6_count_43 (by decide) ?_
          refine lv_isub hx hb dX6_count_45 ?_
          refine r_ialdS (y := r (9 + 0)) hx hb hK hZ.2.1.2.2.2.1 0 (by decide) (by omega) (Nat.le_of_ble_eq_true rfl) rfl dX6_count_46 ?_
          exact nd_i hQ hx hb hr hlocks dX6_count_47 (selN_in (f := cnN r (nI n) (nI kp)) 7 (by omega) rfl)
        · subst qc
          refine lv_aload_n hx hb dX6_count_35 rfl (lv_at hl 0 rfl) ?_
          refine rg (C := RX6) (T := TX6) (N := 6) (v := .ref (z + 1)) hx hb hT inX6 hown hK hZ.1 rfl 0 (by decide) mf_X6_10 rfl dX6_count_36 ?_
          refine rg (C := RX5) (T := TX5) (N := 8) (v := .ref ((z + 1) + 3)) hx hb hT inX5 hown hK hZ.2.1.1 rfl 2 (by decide) mf_X6_146 rfl dX6_count_39 ?_
          refine lv_iload_n hx hb dX6_count_42 rfl (lv_at hl 1 rfl) ?_
          refine lv_bipush (v := 7) hx hb dX6_count_43 (by decide) ?_
          refine lv_isub hx hb dX6_count_45 ?_
          refine r_ialdS (y := r (9 + 1)) hx hb hK hZ.2.1.2.2.2.1 1 (by decide) (by omega) (Nat.le_of_ble_eq_true rfl) rfl dX6_count_46 ?_
          exact nd_i hQ hx hb hr hlocks dX6_count_47 (selN_in (f := cnN r (nI n) (nI kp)) 8 (by omega) rfl)
        · subst qc
          refine lv_aload_n hx hb dX6_count_35 rfl (lv_at hl 0 rfl) ?_
          refine rg (C := RX6) (T := TX6) (N := 6) (v := .ref (z + 1)) hx hb hT inX6 hown hK hZ.1 rfl 0 (by decide) mf_X6_10 rfl dX6_count_36 ?_
          refine rg (C := RX5) (T := TX5) (N := 8) (v := .ref ((z + 1) + 3)) hx hb hT inX5 hown hK hZ.2.1.1 rfl 2 (by decide) mf_X6_146 rfl dX6_count_39 ?_
          refine lv_iload_n hx hb dX6_count_42 rfl (lv_at hl 1 rfl) ?_
          refine lv_bipush (v := 7) hx hb dX6_count_43 (by decide) ?_
          refine lv_isub hx hb dX6_count_45 ?_
          refine r_ialdS (y := r (9 + 2)) hx hb hK hZ.2.1.2.2.2.1 2 (by decide) (by omega) (Nat.le_of_ble_eq_true rfl) rfl dX6_count_46 ?_
          exact nd_i hQ hx hb hr hlocks dX6_count_47 (selN_in (f := cnN r (nI n) (nI kp)) 9 (by omega) rfl)
  have e4 : (4 : Int32).toInt = 4 := rfl
  have e7 : (7 : Int32).toInt = 7 := rfl
  have e10 : (10 : Int32).toInt = 10 := rfl
  refine lv_iload_n hx hb dX6_count_0 rfl (lv_at hl 1 rfl) ?_
  refine lv_iconst (v := 4) hx hb dX6_count_1 (by decide) ?_
  refine lv_icmp_lt (tgt := 23) hx hb dX6_count_2 (by decide) (fun c1 => ?_) (fun c1 => ?_)
  · rw [i32_lt_iff] at c1
    exact h23 ls hl (by omega)
  · rw [i32_lt_iff] at c1
    refine lv_iload_n hx hb dX6_count_5 rfl (lv_at hl 1 rfl) ?_
    refine lv_bipush (v := 7) hx hb dX6_count_6 (by decide) ?_
    refine lv_icmp_ge (tgt := 23) hx hb dX6_count_8 (by decide) (fun c2 => ?_) (fun c2 => ?_)
    · rw [i32_le_iff] at c2
      exact h23 ls hl (by omega)
    · rw [i32_le_iff] at c2
      have hy3 : y = 4 ∨ y = 5 ∨ y = 6 := by
        have h9 : y.toInt = 4 ∨ y.toInt = 5 ∨ y.toInt = 6 := by omega
        rcases h9 with q | q | q
        · exact Or.inl (Int32.toInt_inj.mp q)
        · exact Or.inr (Or.inl (Int32.toInt_inj.mp q))
        · exact Or.inr (Or.inr (Int32.toInt_inj.mp q))
      rcases hy3 with qc | qc | qc
      · subst qc
        refine lv_aload_n hx hb dX6_count_11 rfl (lv_at hl 0 rfl) ?_
        refine rg (C := RX6) (T := TX6) (N := 6) (v := .ref (z + 1)) hx hb hT inX6 hown hK hZ.1 rfl 0 (by decide) mf_X6_10 rfl dX6_count_12 ?_
        refine rg (C := RX5) (T := TX5) (N := 8) (v := .ref ((z + 1) + 2)) hx hb hT inX5 hown hK hZ.2.1.1 rfl 1 (by decide) mf_X6_143 rfl dX6_count_15 ?_
        refine lv_iload_n hx hb dX6_count_18 rfl (lv_at hl 1 rfl) ?_
        refine lv_iconst (v := 4) hx hb dX6_count_19 (by decide) ?_
        refine lv_isub hx hb dX6_count_20 ?_
        refine r_ialdS (y := r (6 + 0)) hx hb hK hZ.2.1.2.2.1 0 (by decide) (by omega) (Nat.le_of_ble_eq_true rfl) rfl dX6_count_21 ?_
        exact nd_i hQ hx hb hr hlocks dX6_count_22 (selN_in (f := cnN r (nI n) (nI kp)) 4 (by omega) rfl)
      · subst qc
        refine lv_aload_n hx hb dX6_count_11 rfl (lv_at hl 0 rfl) ?_
        refine rg (C := RX6) (T := TX6) (N := 6) (v := .ref (z + 1)) hx hb hT inX6 hown hK hZ.1 rfl 0 (by decide) mf_X6_10 rfl dX6_count_12 ?_
        refine rg (C := RX5) (T := TX5) (N := 8) (v := .ref ((z + 1) + 2)) hx hb hT inX5 hown hK hZ.2.1.1 rfl 1 (by decide) mf_X6_143 rfl dX6_count_15 ?_
        refine lv_iload_n hx hb dX6_count_18 rfl (lv_at hl 1 rfl) ?_
        refine lv_iconst (v := 4) hx hb dX6_count_19 (by decide) ?_
        refine lv_isub hx hb dX6_count_20 ?_
        refine r_ialdS (y := r (6 + 1)) hx hb hK hZ.2.1.2.2.1 1 (by decide) (by omega) (Nat.le_of_ble_eq_true rfl) rfl dX6_count_21 ?_
        exact nd_i hQ hx hb hr hlocks dX6_count_22 (selN_in (f := cnN r (nI n) (nI kp)) 5 (by omega) rfl)
      · subst qc
        refine lv_aload_n hx hb dX6_count_11 rfl (lv_at hl 0 rfl) ?_
        refine rg (C := RX6) (T := TX6) (N := 6) (v := .ref (z + 1)) hx hb hT inX6 hown hK hZ.1 rfl 0 (by decide) mf_X6_10 rfl dX6_count_12 ?_
        refine rg (C := RX5) (T := TX5) (N := 8) (v := .ref ((z + 1) + 2)) hx hb hT inX5 hown hK hZ.2.1.1 rfl 1 (by decide) mf_X6_143 rfl dX6_count_15 ?_
        refine lv_iload_n hx hb dX6_count_18 rfl (lv_at hl 1 rfl) ?_
        refine lv_iconst (v := 4) hx hb dX6_count_19 (by decide) ?_
        refine lv_isub hx hb dX6_count_20 ?_
        refine r_ialdS (y := r (6 + 2)) hx hb hK hZ.2.1.2.2.1 2 (by decide) (by omega) (Nat.le_of_ble_eq_true rfl) rfl dX6_count_21 ?_
        exact nd_i hQ hx hb hr hlocks dX6_count_22 (selN_in (f := cnN r (nI n) (nI kp)) 6 (by omega) rfl)
