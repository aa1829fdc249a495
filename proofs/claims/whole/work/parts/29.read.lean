/-! reading orders: what the model's parts of a reader do; T: the characters, n: how many, u0: where the reader stands -/
def sgn (T : Nat → Int32) (n u0 : Nat) : Int32 := if u0 < n then T u0 else 0
def isD (T : Nat → Int32) (n u0 : Nat) : Prop := u0 < n ∧ 48 ≤ T u0 ∧ T u0 ≤ 57
def dg (T : Nat → Int32) (u0 : Nat) : Nat := (T u0).toInt.toNat - 48
theorem dg_nI {T : Nat → Int32} {n u0 : Nat} (h : isD T n u0) : T u0 = nI (48 + dg T u0) ∧ dg T u0 ≤ 9 := by
  obtain ⟨-, h1, h2⟩ := h
  rw [i32_le_iff] at h1 h2
  have h1 : 48 ≤ (T u0).toInt := h1
  have h2 : (T u0).toInt ≤ 57 := h2
  unfold dg
  refine ⟨?_, by omega⟩
  rw [show 48 + ((T u0).toInt.toNat - 48) = (T u0).toInt.toNat by omega]
  exact nI_of_toInt (by omega)
noncomputable def nmF (T : Nat → Int32) (n : Nat) : Nat → Nat → Nat → Nat × Nat
  | 0, v, u0 => (v, u0)
  | f + 1, v, u0 => @ite _ (0 < v ∧ isD T n u0) (Classical.propDecidable _) (nmF T n f (10 * v + dg T u0) (u0 + 1)) (v, u0)
theorem nmF_y {T : Nat → Int32} {n f v u0 : Nat} (h : 0 < v ∧ isD T n u0) : nmF T n (f + 1) v u0 = nmF T n f (10 * v + dg T u0) (u0 + 1) := if_pos h
theorem nmF_n {T : Nat → Int32} {n f v u0 : Nat} (h : ¬ (0 < v ∧ isD T n u0)) : nmF T n f v u0 = (v, u0) := by
  cases f with
  | zero => rfl
  | succ f => exact if_neg h
theorem nmF_le {T : Nat → Int32} {n : Nat} : ∀ (f v u0 : Nat), u0 ≤ n → (nmF T n f v u0).2 ≤ n ∧ u0 ≤ (nmF T n f v u0).2
  | 0, v, u0, h => ⟨h, Nat.le_refl _⟩
  | f + 1, v, u0, h => by
    by_cases q : 0 < v ∧ isD T n u0
    · rw [nmF_y q]
      obtain ⟨a, b⟩ := nmF_le f (10 * v + dg T u0) (u0 + 1) q.2.1
      exact ⟨a, by omega⟩
    · rw [nmF_n q]; exact ⟨h, Nat.le_refl _⟩
/-- the model with its reader at u0 and the numbers N -/
def RdM (M : Nat → Nat → Int32) (u0 : Nat) (N : Nat → Int32) : Nat → Nat → Int32 := updM (updM M 8 (fun _ => nI u0)) 10 N
theorem RdM_8 {M : Nat → Nat → Int32} {u0 : Nat} {N : Nat → Int32} : RdM M u0 N 8 0 = nI u0 := by unfold RdM; rw [updM_ne (by omega), updM_eq]
theorem RdM_10 {M : Nat → Nat → Int32} {u0 : Nat} {N : Nat → Int32} : RdM M u0 N 10 = N := by unfold RdM; exact updM_eq
theorem RdM_ne {M : Nat → Nat → Int32} {u0 k : Nat} {N : Nat → Int32} (h8 : k ≠ 8) (h10 : k ≠ 10) : RdM M u0 N k = M k := by unfold RdM; rw [updM_ne h10, updM_ne h8]
theorem RdM_p {M : Nat → Nat → Int32} {u0 q : Nat} {N : Nat → Int32} : updM (RdM M u0 N) 8 (fun _ => nI q) = RdM M q N := by
  unfold RdM updM
  funext j
  by_cases h8 : j = 8
  · rw [if_pos h8, if_neg (by omega), if_pos h8]
  · rw [if_neg h8]
    by_cases h10 : j = 10
    · rw [if_pos h10, if_pos h10]
    · rw [if_neg h10, if_neg h8, if_neg h10, if_neg h8]
theorem RdM_N {M : Nat → Nat → Int32} {u0 : Nat} {N N2 : Nat → Int32} : updM (RdM M u0 N) 10 N2 = RdM M u0 N2 := by unfold RdM; exact updM_2

set_option maxHeartbeats 4000000 in
set_option maxRecDepth 100000 in
theorem k_X7_sees (l : Launch) (G : GG) (w : Nat) (M : Nat → Nat → Int32) (n u0 : Nat) (N : Nat → Int32) (x y : Int32) (hn : n ≤ 80) (hp : u0 ≤ n) (h7 : M 7 0 = nI n)  : Met l yX7_sees (ws_ yX7_sees cX7_sees 3 (some .boolean)) (rm_ 1) (PC G [.ref w, .int x, .int y] (MdAt G w (RdM M u0 N))) (vp_Si (fun z => z = bc (u0 < n ∧ x ≤ M 6 u0 ∧ M 6 u0 ≤ y))) 0 0 NoA := by
  refine met_q (by decide +kernel) (Nat.le_of_ble_eq_true rfl) ?_
  intro p e s m args below meth c Q hQ hx hb hr hT hown hml hlocks hnm hK hM ls hl
  have hl : lv_has ls 3 [(0, .ref w), (1, .int x), (2, .int y)] := hl
  refine lv_aload_n hx hb dX7_sees_0 rfl (lv_at hl 0 rfl) ?_
  refine rg (C := RX7) (T := TX7) (N := 16) (v := .int (nI u0)) hx hb hT inX7 hown hK hM.1 rfl 8 (by decide) mf_X7_158 rfl dX7_sees_1 ?_
  refine lv_aload_n hx hb dX7_sees_4 rfl (lv_at hl 0 rfl) ?_
  refine rg (C := RX7) (T := TX7) (N := 16) (v := .int (M 7 0)) hx hb hT inX7 hown hK hM.1 rfl 7 (by decide) mf_X7_139 rfl dX7_sees_5 ?_
  rw [h7]
  refine lv_icmp_ge (tgt := 33) hx hb dX7_sees_8 (by decide) (fun c1 => ?_) (fun c1 => ?_)
  · have h1 : ¬ u0 < n := by have := (nI_leI (by omega) (by omega)).mp c1; omega
    refine lv_iconst (v := 0) hx hb dX7_sees_33 (by decide) ?_
    exact nd_z hQ hx hb hr hlocks dX7_sees_34 (by first | exact Or.inl rfl | exact Or.inr rfl) (bc_f (fun q => h1 q.1))
  · have h1 : u0 < n := by have q : ¬ n ≤ u0 := fun q => c1 ((nI_leI (by omega) (by omega)).mpr q); omega
    refine lv_aload_n hx hb dX7_sees_11 rfl (lv_at hl 0 rfl) ?_
    refine rg (C := RX7) (T := TX7) (N := 16) (v := .ref (w + 6)) hx hb hT inX7 hown hK hM.1 rfl 6 (by decide) mf_X7_26 rfl dX7_sees_12 ?_
    refine lv_aload_n hx hb dX7_sees_15 rfl (lv_at hl 0 rfl) ?_
    refine rg (C := RX7) (T := TX7) (N := 16) (v := .int (nI u0)) hx hb hT inX7 hown hK hM.1 rfl 8 (by decide) mf_X7_158 rfl dX7_sees_16 ?_
    refine r_ialdS (y := M 6 u0) hx hb hK hM.2.2.2.2.2.2.1 u0 (rfl) (by omega) (Nat.le_of_ble_eq_true rfl) rfl dX7_sees_19 ?_
    refine lv_i2l hx hb dX7_sees_20 rfl ?_
    refine lv_iload_n hx hb dX7_sees_21 rfl (lv_at hl 1 rfl) ?_
    refine lv_iload_n hx hb dX7_sees_22 rfl (lv_at hl 2 rfl) ?_
    refine got_i (run_s hx hb hml hown hT hK hl.1 (k_X7_in l G (M 6 u0) x y) (cw_X7_47 hT ⟨Nat.le_of_ble_eq_true rfl, Nat.le_of_ble_eq_true rfl⟩) trivial rfl rfl (Nat.le_of_ble_eq_true rfl) dX7_sees_23 ⟨Nat.zero_le _, Nat.zero_le _⟩) (fun v_1 hv_1 => ?_)
    subst hv_1
    refine lv_if_eq (tgt := 33) hx hb dX7_sees_26 (by decide) (fun c2 => ?_) (fun c2 => ?_)
    · have h2 := bi_e0 c2
      refine lv_iconst (v := 0) hx hb dX7_sees_33 (by decide) ?_
      exact nd_z hQ hx hb hr hlocks dX7_sees_34 (by first | exact Or.inl rfl | exact Or.inr rfl) (bc_f (fun q => h2 q.2))
    · have h2 := bi_n0 c2
      refine lv_iconst (v := 1) hx hb dX7_sees_29 (by decide) ?_
      refine lv_goto (tgt := 34) hx hb dX7_sees_30 (by decide) ?_
      exact nd_z hQ hx hb hr hlocks dX7_sees_34 (by first | exact Or.inl rfl | exact Or.inr rfl) (bc_t ⟨h1, h2⟩)

set_option maxHeartbeats 4000000 in
set_option maxRecDepth 100000 in
theorem k_X7_sign (l : Launch) (G : GG) (w : Nat) (M : Nat → Nat → Int32) (n u0 : Nat) (N : Nat → Int32) (x : Int32) (hn : n ≤ 80) (hp : u0 ≤ n) (h7 : M 7 0 = nI n)  : Met l yX7_sign (ws_ yX7_sign cX7_sign 3 (some .boolean)) (rm_ 2) (PC G [.ref w, .int x] (MdAt G w (RdM M u0 N))) (QI (fun v H => (v = 1 ∧ (u0 < n ∧ M 6 u0 = x) ∧ MdAt G w (RdM M (u0 + 1) N) H) ∨ (v = 0 ∧ ¬ (u0 < n ∧ M 6 u0 = x) ∧ MdAt G w (RdM M u0 N) H)) (In w 13)) 0 0 (In w 13) := by
  refine met_q (by decide +kernel) (Nat.le_of_ble_eq_true rfl) ?_
  intro p e s m args below meth c Q hQ hx hb hr hT hown hml hlocks hnm hK hM ls hl
  have hl : lv_has ls 3 [(0, .ref w), (1, .int x)] := hl
  have hS : va_S (In w 13) s.heap s.heap [] := va_S.rf
  refine lv_aload_n hx hb dX7_sign_0 rfl (lv_at hl 0 rfl) ?_
  refine lv_iload_n hx hb dX7_sign_1 rfl (lv_at hl 1 rfl) ?_
  refine lv_iload_n hx hb dX7_sign_2 rfl (lv_at hl 1 rfl) ?_
  refine got_i (run_i hx hb hml hown hT hK hl.1 (k_X7_sees l G w M n u0 N x x hn hp h7) (cw_X7_161 hT ⟨Nat.le_of_ble_eq_true rfl, Nat.le_of_ble_eq_true rfl⟩) hM.1 rfl hM rfl rfl (Nat.le_of_ble_eq_true rfl) dX7_sign_3 ⟨Nat.zero_le _, Nat.zero_le _⟩) (fun v_1 hv_1 => ?_)
  subst hv_1
  refine lv_istore_n (lv' := [(2, .int (bc (u0 < n ∧ x ≤ M 6 u0 ∧ M 6 u0 ≤ x))), (0, .ref w), (1, .int x)]) hx hb dX7_sign_6 rfl hl (by decide) rfl (fun ls hl => ?_)
  refine lv_aload_n hx hb dX7_sign_7 rfl (lv_at hl 1 rfl) ?_
  refine lv_dup hx hb dX7_sign_8 rfl ?_
  refine rg (C := RX7) (T := TX7) (N := 16) (v := .int (nI u0)) hx hb hT inX7 hown hK hM.1 rfl 8 (by decide) mf_X7_158 rfl dX7_sign_9 ?_
  refine lv_iload_n hx hb dX7_sign_12 rfl (lv_at hl 0 rfl) ?_
  refine lv_if_eq (tgt := 20) hx hb dX7_sign_13 (by decide) (fun c1 => ?_) (fun c1 => ?_)
  · have hno : ¬ (u0 < n ∧ M 6 u0 = x) := fun q => (bc_e0 c1) ⟨q.1, by rw [q.2]; exact Int32.le_refl _, by rw [q.2]; exact Int32.le_refl _⟩
    refine lv_iconst (v := 0) hx hb dX7_sign_20 (by decide) ?_
    refine lv_iadd hx hb dX7_sign_21 ?_
    rw [show nI u0 + 0 = nI u0 from Int32.add_zero _]
    refine rp (C := RX7) (T := TX7) (N := 16) (v := .int (nI u0)) (ty := .int) hx hb hT inX7 tyX7 tyX7_ok nmX7 hown hK hM.1 rfl 8 (by decide) mf_X7_158 rfl (by decide +kernel) rfl rfl (Nat.le_of_ble_eq_true rfl) hS (show _ ∧ _ from ⟨by omega, by omega⟩) dX7_sign_22 (fun H locs h1 o hS => ?_)
    have hM := hM.s8 h1 o
    rw [RdM_p] at hM
    refine lv_iload_n hx hb dX7_sign_25 rfl (lv_at hl 0 rfl) ?_
    rw [← bc_f (show ¬ (u0 < n ∧ x ≤ M 6 u0 ∧ M 6 u0 ≤ x) from bc_e0 c1)]
    exact nd_Z hQ hx hb hr hlocks dX7_sign_26 hS (by first | exact Or.inl rfl | exact Or.inr rfl | exact bi01) (Or.inr ⟨rfl, hno, hM⟩)
  · have h2 := bc_n0 c1
    have h3 : M 6 u0 = x := Int32.toInt_inj.mp (by have a1 := i32_le_iff.mp h2.2.1; have a2 := i32_le_iff.mp h2.2.2; omega)
    refine lv_iconst (v := 1) hx hb dX7_sign_16 (by decide) ?_
    refine lv_goto (tgt := 21) hx hb dX7_sign_17 (by decide) ?_
    refine lv_iadd hx hb dX7_sign_21 ?_
    rw [nI_1]
    refine rp (C := RX7) (T := TX7) (N := 16) (v := .int (nI (u0 + 1))) (ty := .int) hx hb hT inX7 tyX7 tyX7_ok nmX7 hown hK hM.1 rfl 8 (by decide) mf_X7_158 rfl (by decide +kernel) rfl rfl (Nat.le_of_ble_eq_true rfl) hS (show _ ∧ _ from ⟨by omega, by omega⟩) dX7_sign_22 (fun H locs h1 o hS => ?_)
    have hM := hM.s8 h1 o
    rw [RdM_p] at hM
    refine lv_iload_n hx hb dX7_sign_25 rfl (lv_at hl 0 rfl) ?_
    rw [← bc_t h2]
    exact nd_Z hQ hx hb hr hlocks dX7_sign_26 hS (by first | exact Or.inl rfl | exact Or.inr rfl | exact bi01) (Or.inl ⟨rfl, ⟨h2.1, h3⟩, hM⟩)

set_option maxHeartbeats 4000000 in
set_option maxRecDepth 100000 in
theorem k_X7_digit (l : Launch) (G : GG) (w : Nat) (M : Nat → Nat → Int32) (n u0 : Nat) (N : Nat → Int32)  (hn : n ≤ 80) (hp : u0 ≤ n) (h7 : M 7 0 = nI n)  : Met l yX7_digit (ws_ yX7_digit cX7_digit 1 (some .boolean)) (rm_ 2) (PC G [.ref w] (MdAt G w (RdM M u0 N))) (QI (fun v H => (v = 1 ∧ isD (M 6) n u0 ∧ MdAt G w (RdM M (u0 + 1) (upd N 0 (nI (dg (M 6) u0)))) H) ∨ (v = 0 ∧ ¬ isD (M 6) n u0 ∧ MdAt G w (RdM M u0 N) H)) (In w 13)) 0 0 (In w 13) := by
  refine met_q (by decide +kernel) (Nat.le_of_ble_eq_true rfl) ?_
  intro p e s m args below meth c Q hQ hx hb hr hT hown hml hlocks hnm hK hM ls hl
  have hl : lv_has ls 1 [(0, .ref w)] := hl
  have hS : va_S (In w 13) s.heap s.heap [] := va_S.rf
  refine lv_aload_n hx hb dX7_digit_0 rfl (lv_at hl 0 rfl) ?_
  refine lv_bipush (v := 48) hx hb dX7_digit_1 (by decide) ?_
  refine lv_bipush (v := 57) hx hb dX7_digit_3 (by decide) ?_
  refine got_i (run_i hx hb hml hown hT hK hl.1 (k_X7_sees l G w M n u0 N 48 57 hn hp h7) (cw_X7_161 hT ⟨Nat.le_of_ble_eq_true rfl, Nat.le_of_ble_eq_true rfl⟩) hM.1 rfl hM rfl rfl (Nat.le_of_ble_eq_true rfl) dX7_digit_5 ⟨Nat.zero_le _, Nat.zero_le _⟩) (fun v_1 hv_1 => ?_)
  subst hv_1
  refine lv_if_ne (tgt := 13) hx hb dX7_digit_8 (by decide) (fun c1 => ?_) (fun c1 => ?_)
  · have hD : isD (M 6) n u0 := bc_n0 c1
    have hlt : u0 < n := hD.1
    refine lv_aload_n hx hb dX7_digit_13 rfl (lv_at hl 0 rfl) ?_
    refine rg (C := RX7) (T := TX7) (N := 16) (v := .ref (w + 8)) hx hb hT inX7 hown hK hM.1 rfl 10 (by decide) mf_X7_32 rfl dX7_digit_14 ?_
    refine lv_iconst (v := 0) hx hb dX7_digit_17 (by decide) ?_
    refine lv_aload_n hx hb dX7_digit_18 rfl (lv_at hl 0 rfl) ?_
    refine rg (C := RX7) (T := TX7) (N := 16) (v := .ref (w + 6)) hx hb hT inX7 hown hK hM.1 rfl 6 (by decide) mf_X7_26 rfl dX7_digit_19 ?_
    refine lv_aload_n hx hb dX7_digit_22 rfl (lv_at hl 0 rfl) ?_
    refine rg (C := RX7) (T := TX7) (N := 16) (v := .int (nI u0)) hx hb hT inX7 hown hK hM.1 rfl 8 (by decide) mf_X7_158 rfl dX7_digit_23 ?_
    refine r_ialdS (y := M 6 u0) hx hb hK hM.2.2.2.2.2.2.1 u0 (rfl) (by omega) (Nat.le_of_ble_eq_true rfl) rfl dX7_digit_26 ?_
    refine lv_bipush (v := 48) hx hb dX7_digit_27 (by decide) ?_
    refine lv_isub hx hb dX7_digit_29 ?_
    rw [show M 6 u0 - 48 = nI (dg (M 6) u0) from by rw [(dg_nI hD).1, show (48 : Int32) = nI 48 from rfl, pk_sub (by omega), show 48 + dg (M 6) u0 - 48 = dg (M 6) u0 by omega]]
    refine r_iast hx hb hK hM.2.2.2.2.2.2.2.2.1 0 (by decide) (by omega) (Nat.le_of_ble_eq_true rfl) hS (show _ ∧ _ from ⟨by omega, by omega⟩) dX7_digit_30 (fun H locs h1 o hS => ?_)
    have hM := hM.a10 h1 o
    rw [RdM_N, RdM_10] at hM
    refine lv_aload_n hx hb dX7_digit_31 rfl (lv_at hl 0 rfl) ?_
    refine lv_dup hx hb dX7_digit_32 rfl ?_
    refine rg (C := RX7) (T := TX7) (N := 16) (v := .int (nI u0)) hx hb hT inX7 hown hK hM.1 rfl 8 (by decide) mf_X7_158 rfl dX7_digit_33 ?_
    refine lv_iconst (v := 1) hx hb dX7_digit_36 (by decide) ?_
    refine lv_iadd hx hb dX7_digit_37 ?_
    rw [nI_1]
    refine rp (C := RX7) (T := TX7) (N := 16) (v := .int (nI (u0 + 1))) (ty := .int) hx hb hT inX7 tyX7 tyX7_ok nmX7 hown hK hM.1 rfl 8 (by decide) mf_X7_158 rfl (by decide +kernel) rfl rfl (Nat.le_of_ble_eq_true rfl) hS (show _ ∧ _ from ⟨by omega, by omega⟩) dX7_digit_38 (fun H locs h1 o hS => ?_)
    have hM := hM.s8 h1 o
    rw [RdM_p] at hM
    refine lv_iconst (v := 1) hx hb dX7_digit_41 (by decide) ?_
    exact nd_Z hQ hx hb hr hlocks dX7_digit_42 hS (by first | exact Or.inl rfl | exact Or.inr rfl | exact bi01) (Or.inl ⟨rfl, hD, hM⟩)
  · refine lv_iconst (v := 0) hx hb dX7_digit_11 (by decide) ?_
    exact nd_Z hQ hx hb hr hlocks dX7_digit_12 hS (by first | exact Or.inl rfl | exact Or.inr rfl | exact bi01) (Or.inr ⟨rfl, bc_e0 c1, hM⟩)

set_option maxHeartbeats 4000000 in
set_option maxRecDepth 100000 in
theorem k_X7_number (l : Launch) (G : GG) (w : Nat) (M : Nat → Nat → Int32) (n u0 : Nat) (N : Nat → Int32) (k0 : Nat) (hn : n ≤ 80) (hp : u0 ≤ n) (h7 : M 7 0 = nI n) (hk5 : k0 < 5) : Met l yX7_number (ws_ yX7_number cX7_number 3 (some .boolean)) (rm_ 2) (PC G [.ref w, .int (nI k0)] (MdAt G w (RdM M u0 N))) (QI (fun v H => (v = 1 ∧ isD (M 6) n u0 ∧ MdAt G w (RdM M (nmF (M 6) n 3 (dg (M 6) u0) (u0 + 1)).2 (upd N k0 (nI (nmF (M 6) n 3 (dg (M 6) u0) (u0 + 1)).1))) H) ∨ (v = 0 ∧ ¬ isD (M 6) n u0 ∧ MdAt G w (RdM M u0 N) H)) (In w 13)) 0 0 (In w 13) := by
  refine met_q (by decide +kernel) (Nat.le_of_ble_eq_true rfl) ?_
  intro p e s m args below meth c Q hQ hx hb hr hT hown hml hlocks hnm hK hM ls hl
  have hl : lv_has ls 3 [(0, .ref w), (1, .int (nI k0))] := hl
  have hS : va_S (In w 13) s.heap s.heap [] := va_S.rf
  refine lv_aload_n hx hb dX7_number_0 rfl (lv_at hl 0 rfl) ?_
  refine lv_bipush (v := 48) hx hb dX7_number_1 (by decide) ?_
  refine lv_bipush (v := 57) hx hb dX7_number_3 (by decide) ?_
  refine got_i (run_i hx hb hml hown hT hK hl.1 (k_X7_sees l G w M n u0 N 48 57 hn hp h7) (cw_X7_161 hT ⟨Nat.le_of_ble_eq_true rfl, Nat.le_of_ble_eq_true rfl⟩) hM.1 rfl hM rfl rfl (Nat.le_of_ble_eq_true rfl) dX7_number_5 ⟨Nat.zero_le _, Nat.zero_le _⟩) (fun v_1 hv_1 => ?_)
  subst hv_1
  refine lv_if_ne (tgt := 13) hx hb dX7_number_8 (by decide) (fun c1 => ?_) (fun c1 => ?_)
  · have hD : isD (M 6) n u0 := bc_n0 c1
    have hlt : u0 < n := hD.1
    refine lv_aload_n hx hb dX7_number_13 rfl (lv_at hl 0 rfl) ?_
    refine rg (C := RX7) (T := TX7) (N := 16) (v := .ref (w + 6)) hx hb hT inX7 hown hK hM.1 rfl 6 (by decide) mf_X7_26 rfl dX7_number_14 ?_
    refine lv_aload_n hx hb dX7_number_17 rfl (lv_at hl 0 rfl) ?_
    refine rg (C := RX7) (T := TX7) (N := 16) (v := .int (nI u0)) hx hb hT inX7 hown hK hM.1 rfl 8 (by decide) mf_X7_158 rfl dX7_number_18 ?_
    refine r_ialdS (y := M 6 u0) hx hb hK hM.2.2.2.2.2.2.1 u0 (rfl) (by omega) (Nat.le_of_ble_eq_true rfl) rfl dX7_number_21 ?_
    refine lv_bipush (v := 48) hx hb dX7_number_22 (by decide) ?_
    refine lv_isub hx hb dX7_number_24 ?_
    rw [show M 6 u0 - 48 = nI (dg (M 6) u0) from by rw [(dg_nI hD).1, show (48 : Int32) = nI 48 from rfl, pk_sub (by omega), show 48 + dg (M 6) u0 - 48 = dg (M 6) u0 by omega]]
    refine lv_istore_n (lv' := [(2, .int (nI (dg (M 6) u0))), (0, .ref w), (1, .int (nI k0))]) hx hb dX7_number_25 rfl hl (by decide) rfl (fun ls hl => ?_)
    refine lv_aload_n hx hb dX7_number_26 rfl (lv_at hl 1 rfl) ?_
    refine lv_dup hx hb dX7_number_27 rfl ?_
    refine rg (C := RX7) (T := TX7) (N := 16) (v := .int (nI u0)) hx hb hT inX7 hown hK hM.1 rfl 8 (by decide) mf_X7_158 rfl dX7_number_28 ?_
    refine lv_iconst (v := 1) hx hb dX7_number_31 (by decide) ?_
    refine lv_iadd hx hb dX7_number_32 ?_
    rw [nI_1]
    refine rp (C := RX7) (T := TX7) (N := 16) (v := .int (nI (u0 + 1))) (ty := .int) hx hb hT inX7 tyX7 tyX7_ok nmX7 hown hK hM.1 rfl 8 (by decide) mf_X7_158 rfl (by decide +kernel) rfl rfl (Nat.le_of_ble_eq_true rfl) hS (show _ ∧ _ from ⟨by omega, by omega⟩) dX7_number_33 (fun H locs h1 o hS => ?_)
    have hM := hM.s8 h1 o
    rw [RdM_p] at hM
    have hd9 := (dg_nI hD).2
    have loop : ∀ (k : Nat) (f : Nat) (v0 : Nat) (u1 : Nat) (H : Heap) (locs : List Loc), va_S (In w 13) s.heap H locs → u1 ≤ n → v0 < 10 ^ (4 - f) → (0 < v0 → 10 ^ (3 - f) ≤ v0) → f ≤ 3 → nmF (M 6) n f v0 u1 = nmF (M 6) n 3 (dg (M 6) u0) (u0 + 1) → MdAt G w (RdM M u1 N) H → f < k → ∀ ls : Array Slot, lv_has ls 3 [(2, .int (nI v0)), (0, .ref w), (1, .int (nI k0))] → W p l e (rm_ 2) s m args below meth c H locs 0 0 Q (F0 m 36 ls []) := by
      intro k
      induction k with
      | zero => intro f v0 u1 H locs hS hp1 hv hv2 hf3 hr9 hM hm; exact absurd hm (Nat.not_lt_zero _)
      | succ k ih =>
        intro f v0 u1 H locs hS hp1 hv hv2 hf3 hr9 hM hm ls hl
        have hvb : v0 < 10000 := Nat.lt_of_lt_of_le hv (Nat.pow_le_pow_right (n := 10) (i := 4 - f) (j := 4) (by omega) (by omega))
        refine lv_iload_n hx hb dX7_number_36 rfl (lv_at hl 0 rfl) ?_
        refine lv_if_le (tgt := 105) hx hb dX7_number_37 (by decide) (fun c2 => ?_) (fun c2 => ?_)
        · have hv0 : v0 = 0 := by
            have h9 := (nI_leI (b := 0) (by omega) (by omega)).mp c2
            omega
          have he9 : nmF (M 6) n 3 (dg (M 6) u0) (u0 + 1) = (v0, u1) := by rw [← hr9]; exact nmF_n (by omega)
          rw [he9] at hQ
          refine lv_aload_n hx hb dX7_number_105 rfl (lv_at hl 1 rfl) ?_
          refine rg (C := RX7) (T := TX7) (N := 16) (v := .ref (w + 8)) hx hb hT inX7 hown hK hM.1 rfl 10 (by decide) mf_X7_32 rfl dX7_number_106 ?_
          refine lv_iload_n hx hb dX7_number_109 rfl (lv_at hl 2 rfl) ?_
          refine lv_iload_n hx hb dX7_number_110 rfl (lv_at hl 0 rfl) ?_
          refine r_iast hx hb hK hM.2.2.2.2.2.2.2.2.1 k0 (rfl) (by omega) (Nat.le_of_ble_eq_true rfl) hS (show _ ∧ _ from ⟨by omega, by omega⟩) dX7_number_111 (fun H locs h1 o hS => ?_)
          have hM := hM.a10 h1 o
          rw [RdM_N, RdM_10] at hM
          refine lv_iconst (v := 1) hx hb dX7_number_112 (by decide) ?_
          exact nd_Z hQ hx hb hr hlocks dX7_number_113 hS (by first | exact Or.inl rfl | exact Or.inr rfl | exact bi01) (Or.inl ⟨rfl, hD, hM⟩)
        · have hvp : 0 < v0 := Nat.pos_of_ne_zero (fun z => c2 (by rw [z]; decide))
          refine lv_aload_n hx hb dX7_number_40 rfl (lv_at hl 1 rfl) ?_
          refine lv_bipush (v := 48) hx hb dX7_number_41 (by decide) ?_
          refine lv_bipush (v := 57) hx hb dX7_number_43 (by decide) ?_
          refine got_i (run_i hx hb hml hown hT hK hl.1 (k_X7_sees l G w M n u1 N 48 57 hn hp1 h7) (cw_X7_161 hT ⟨Nat.le_of_ble_eq_true rfl, Nat.le_of_ble_eq_true rfl⟩) hM.1 rfl hM rfl rfl (Nat.le_of_ble_eq_true rfl) dX7_number_45 ⟨Nat.zero_le _, Nat.zero_le _⟩) (fun v_2 hv_2 => ?_)
          subst hv_2
          refine lv_if_eq (tgt := 105) hx hb dX7_number_48 (by decide) (fun c3 => ?_) (fun c3 => ?_)
          · have hD1 : ¬ isD (M 6) n u1 := bc_e0 c3
            have he9 : nmF (M 6) n 3 (dg (M 6) u0) (u0 + 1) = (v0, u1) := by rw [← hr9]; exact nmF_n (fun q => hD1 q.2)
            rw [he9] at hQ
            refine lv_aload_n hx hb dX7_number_105 rfl (lv_at hl 1 rfl) ?_
            refine rg (C := RX7) (T := TX7) (N := 16) (v := .ref (w + 8)) hx hb hT inX7 hown hK hM.1 rfl 10 (by decide) mf_X7_32 rfl dX7_number_106 ?_
            refine lv_iload_n hx hb dX7_number_109 rfl (lv_at hl 2 rfl) ?_
            refine lv_iload_n hx hb dX7_number_110 rfl (lv_at hl 0 rfl) ?_
            refine r_iast hx hb hK hM.2.2.2.2.2.2.2.2.1 k0 (rfl) (by omega) (Nat.le_of_ble_eq_true rfl) hS (show _ ∧ _ from ⟨by omega, by omega⟩) dX7_number_111 (fun H locs h1 o hS => ?_)
            have hM := hM.a10 h1 o
            rw [RdM_N, RdM_10] at hM
            refine lv_iconst (v := 1) hx hb dX7_number_112 (by decide) ?_
            exact nd_Z hQ hx hb hr hlocks dX7_number_113 hS (by first | exact Or.inl rfl | exact Or.inr rfl | exact bi01) (Or.inl ⟨rfl, hD, hM⟩)
          · have hD1 : isD (M 6) n u1 := bc_n0 c3
            have hlt1 : u1 < n := hD1.1
            obtain ⟨ed, hd1⟩ := dg_nI hD1
            have eT : nI 10 * nI v0 + M 6 u1 - nI 48 = nI (10 * v0 + dg (M 6) u1) := by
              rw [ed, pk_mul, nI_add, pk_sub (by omega), show 10 * v0 + (48 + dg (M 6) u1) - 48 = 10 * v0 + dg (M 6) u1 by omega]
            refine lv_bipush (v := 10) hx hb dX7_number_51 (by decide) ?_
            refine lv_iload_n hx hb dX7_number_53 rfl (lv_at hl 0 rfl) ?_
            refine lv_imul hx hb dX7_number_54 ?_
            refine lv_aload_n hx hb dX7_number_55 rfl (lv_at hl 1 rfl) ?_
            refine rg (C := RX7) (T := TX7) (N := 16) (v := .ref (w + 6)) hx hb hT inX7 hown hK hM.1 rfl 6 (by decide) mf_X7_26 rfl dX7_number_56 ?_
            refine lv_aload_n hx hb dX7_number_59 rfl (lv_at hl 1 rfl) ?_
            refine rg (C := RX7) (T := TX7) (N := 16) (v := .int (nI u1)) hx hb hT inX7 hown hK hM.1 rfl 8 (by decide) mf_X7_158 rfl dX7_number_60 ?_
            refine r_ialdS (y := M 6 u1) hx hb hK hM.2.2.2.2.2.2.1 u1 (rfl) (by omega) (Nat.le_of_ble_eq_true rfl) rfl dX7_number_63 ?_
            refine lv_iadd hx hb dX7_number_64 ?_
            refine lv_bipush (v := 48) hx hb dX7_number_65 (by decide) ?_
            refine lv_isub hx hb dX7_number_67 ?_
            rw [show (10 : Int32) * nI v0 + M 6 u1 - 48 = nI (10 * v0 + dg (M 6) u1) from eT]
            refine lv_sipush (v := 9999) hx hb dX7_number_68 (by decide) ?_
            refine lv_icmp_gt (tgt := 105) hx hb dX7_number_71 (by decide) (fun c4 => ?_) (fun c4 => ?_)
            · have h4 : 9999 < 10 * v0 + dg (M 6) u1 := (nI_ltI (a := 9999) (by omega) (by omega)).mp c4
              have hf0 : f = 0 := by
                rcases Nat.eq_zero_or_pos f with h | h
                · exact h
                · have h8 : 10 ^ (4 - f) ≤ 10 ^ 3 := Nat.pow_le_pow_right (by omega) (by omega)
                  omega
              have he9 : nmF (M 6) n 3 (dg (M 6) u0) (u0 + 1) = (v0, u1) := by rw [← hr9]; rw [hf0]; rfl
              rw [he9] at hQ
              refine lv_aload_n hx hb dX7_number_105 rfl (lv_at hl 1 rfl) ?_
              refine rg (C := RX7) (T := TX7) (N := 16) (v := .ref (w + 8)) hx hb hT inX7 hown hK hM.1 rfl 10 (by decide) mf_X7_32 rfl dX7_number_106 ?_
              refine lv_iload_n hx hb dX7_number_109 rfl (lv_at hl 2 rfl) ?_
              refine lv_iload_n hx hb dX7_number_110 rfl (lv_at hl 0 rfl) ?_
              refine r_iast hx hb hK hM.2.2.2.2.2.2.2.2.1 k0 (rfl) (by omega) (Nat.le_of_ble_eq_true rfl) hS (show _ ∧ _ from ⟨by omega, by omega⟩) dX7_number_111 (fun H locs h1 o hS => ?_)
              have hM := hM.a10 h1 o
              rw [RdM_N, RdM_10] at hM
              refine lv_iconst (v := 1) hx hb dX7_number_112 (by decide) ?_
              exact nd_Z hQ hx hb hr hlocks dX7_number_113 hS (by first | exact Or.inl rfl | exact Or.inr rfl | exact bi01) (Or.inl ⟨rfl, hD, hM⟩)
            · have h4 : ¬ 9999 < 10 * v0 + dg (M 6) u1 := fun q => c4 ((nI_ltI (a := 9999) (by omega) (by omega)).mpr q)
              have hf1 : f ≠ 0 := fun z => by
                have h8 := hv2 hvp
                rw [z] at h8
                omega
              obtain ⟨f1, hff⟩ : ∃ z, f = z + 1 := ⟨f - 1, by omega⟩
              subst hff
              rw [nmF_y ⟨hvp, hD1⟩] at hr9
              have hq1 : 10 * v0 + dg (M 6) u1 < 10 ^ (4 - f1) := by
                rw [show 4 - f1 = (4 - (f1 + 1)) + 1 by omega, Nat.pow_succ]
                omega
              have hq2 : 10 ^ (3 - f1) ≤ 10 * v0 + dg (M 6) u1 := by
                have h8 := hv2 hvp
                rw [show 3 - f1 = (3 - (f1 + 1)) + 1 by omega, Nat.pow_succ]
                omega
              refine lv_bipush (v := 10) hx hb dX7_number_74 (by decide) ?_
              refine lv_iload_n hx hb dX7_number_76 rfl (lv_at hl 0 rfl) ?_
              refine lv_imul hx hb dX7_number_77 ?_
              refine lv_aload_n hx hb dX7_number_78 rfl (lv_at hl 1 rfl) ?_
              refine rg (C := RX7) (T := TX7) (N := 16) (v := .ref (w + 6)) hx hb hT inX7 hown hK hM.1 rfl 6 (by decide) mf_X7_26 rfl dX7_number_79 ?_
              refine lv_aload_n hx hb dX7_number_82 rfl (lv_at hl 1 rfl) ?_
              refine rg (C := RX7) (T := TX7) (N := 16) (v := .int (nI u1)) hx hb hT inX7 hown hK hM.1 rfl 8 (by decide) mf_X7_158 rfl dX7_number_83 ?_
              refine r_ialdS (y := M 6 u1) hx hb hK hM.2.2.2.2.2.2.1 u1 (rfl) (by omega) (Nat.le_of_ble_eq_true rfl) rfl dX7_number_86 ?_
              refine lv_iadd hx hb dX7_number_87 ?_
              refine lv_bipush (v := 48) hx hb dX7_number_88 (by decide) ?_
              refine lv_isub hx hb dX7_number_90 ?_
              rw [show (10 : Int32) * nI v0 + M 6 u1 - 48 = nI (10 * v0 + dg (M 6) u1) from eT]
              refine lv_istore_n (lv' := [(2, .int (nI (10 * v0 + dg (M 6) u1))), (0, .ref w), (1, .int (nI k0))]) hx hb dX7_number_91 rfl hl (by decide) rfl (fun ls hl => ?_)
              refine lv_aload_n hx hb dX7_number_92 rfl (lv_at hl 1 rfl) ?_
              refine lv_dup hx hb dX7_number_93 rfl ?_
              refine rg (C := RX7) (T := TX7) (N := 16) (v := .int (nI u1)) hx hb hT inX7 hown hK hM.1 rfl 8 (by decide) mf_X7_158 rfl dX7_number_94 ?_
              refine lv_iconst (v := 1) hx hb dX7_number_97 (by decide) ?_
              refine lv_iadd hx hb dX7_number_98 ?_
              rw [nI_1]
              refine rp (C := RX7) (T := TX7) (N := 16) (v := .int (nI (u1 + 1))) (ty := .int) hx hb hT inX7 tyX7 tyX7_ok nmX7 hown hK hM.1 rfl 8 (by decide) mf_X7_158 rfl (by decide +kernel) rfl rfl (Nat.le_of_ble_eq_true rfl) hS (show _ ∧ _ from ⟨by omega, by omega⟩) dX7_number_99 (fun H locs h1 o hS => ?_)
              have hM := hM.s8 h1 o
              rw [RdM_p] at hM
              refine lv_goto (tgt := 36) hx hb dX7_number_102 (by decide) ?_
              exact ih f1 (10 * v0 + dg (M 6) u1) (u1 + 1) _ _ hS hlt1 hq1 (fun _ => hq2) (by omega) hr9 hM (by omega) ls (lv_sub hl [0, 1, 2] rfl)
    exact loop 4 3 (dg (M 6) u0) (u0 + 1) _ _ hS hlt (by show _ < 10; omega) (fun q => q) (by omega) rfl hM (by omega) ls (lv_sub hl [0, 1, 2] rfl)
  · refine lv_iconst (v := 0) hx hb dX7_number_11 (by decide) ?_
    exact nd_Z hQ hx hb hr hlocks dX7_number_12 hS (by first | exact Or.inl rfl | exact Or.inr rfl | exact bi01) (Or.inr ⟨rfl, bc_e0 c1, hM⟩)
