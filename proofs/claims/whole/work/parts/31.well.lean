/-! the whole text: is it well; carrying it out -/
theorem rdP_le {T : Nat → Int32} {n : Nat} : ∀ (ys : List Int32) (u0 j : Nat) (N : Nat → Int32), u0 ≤ n → u0 ≤ (rdP T n ys u0 j N).2.1 ∧ (rdP T n ys u0 j N).2.1 ≤ n
  | [], u0, j, N, h => ⟨Nat.le_refl _, h⟩
  | y :: ys, u0, j, N, h => by
    by_cases q1 : y = 35
    · subst q1
      by_cases q : isD T n u0
      · rw [rdP_ny q]
        obtain ⟨a1, a2⟩ := nmF_le (T := T) 3 (dg T u0) (u0 + 1) q.1
        obtain ⟨b1, b2⟩ := rdP_le ys (nmF T n 3 (dg T u0) (u0 + 1)).2 (j + 1) (upd N j (nI (nmF T n 3 (dg T u0) (u0 + 1)).1)) a1
        exact ⟨by omega, b2⟩
      · rw [rdP_nn q]; exact ⟨Nat.le_refl _, h⟩
    · by_cases q2 : y = 37
      · subst q2
        by_cases q : isD T n u0
        · rw [rdP_dy q]
          obtain ⟨b1, b2⟩ := rdP_le ys (u0 + 1) (j + 1) (upd N j (nI (dg T u0))) q.1
          exact ⟨by omega, b2⟩
        · rw [rdP_dn q]; exact ⟨Nat.le_refl _, h⟩
      · by_cases q : u0 < n ∧ T u0 = y
        · rw [rdP_sy q1 q2 q]
          obtain ⟨b1, b2⟩ := rdP_le ys (u0 + 1) j N q.1
          exact ⟨by omega, b2⟩
        · rw [rdP_sn q1 q2 q]; exact ⟨Nat.le_refl _, h⟩
theorem rdO_le {T : Nat → Int32} {n u0 : Nat} {N : Nat → Int32} (h : u0 ≤ n) : u0 ≤ (rdO T n u0 N).2.1 ∧ (rdO T n u0 N).2.1 ≤ n ∧ ((rdO T n u0 N).1 = true → u0 < (rdO T n u0 N).2.1) := by
  unfold rdO
  by_cases q1 : sgn T n u0 = 43
  · rw [if_pos q1]
    obtain ⟨a, b⟩ := rdP_le (T := T) [35, 58, 35, 44, 35, 44, 35, 42, 35] (u0 + 1) 0 N (sgn_y (by decide) q1)
    exact ⟨by omega, b, fun _ => by omega⟩
  · rw [if_neg q1]
    by_cases q2 : sgn T n u0 = 115
    · rw [if_pos q2]
      obtain ⟨a, b⟩ := rdP_le (T := T) [37, 61, 35] (u0 + 1) 0 N (sgn_y (by decide) q2)
      exact ⟨by omega, b, fun _ => by omega⟩
    · rw [if_neg q2]
      by_cases q3 : sgn T n u0 = 100 ∨ sgn T n u0 = 109
      · rw [if_pos q3]
        obtain ⟨a, b⟩ := rdP_le (T := T) [35] (u0 + 1) 0 N (q3.elim (sgn_y (by decide)) (sgn_y (by decide)))
        exact ⟨by omega, b, fun _ => by omega⟩
      · rw [if_neg q3]
        exact ⟨Nat.le_refl _, h, fun z => by cases z⟩
def zb (b : Bool) : Int32 := if b then 1 else 0
noncomputable def wl (T : Nat → Int32) (n : Nat) : Nat → Bool → Nat → (Nat → Int32) → Bool × Nat × (Nat → Int32)
  | 0, b, u0, N => (b, u0, N)
  | f + 1, b, u0, N => if b = true ∧ u0 < n then (if T u0 = 59 then wl T n f (rdO T n (u0 + 1) N).1 (rdO T n (u0 + 1) N).2.1 (rdO T n (u0 + 1) N).2.2 else (false, u0, N)) else (b, u0, N)
noncomputable def wlA (T : Nat → Int32) (n : Nat) (N : Nat → Int32) : Bool × Nat × (Nat → Int32) := wl T n 81 (rdO T n 0 N).1 (rdO T n 0 N).2.1 (rdO T n 0 N).2.2
theorem wl_end {T : Nat → Int32} {n f u0 : Nat} {b : Bool} {N : Nat → Int32} (h : ¬ (b = true ∧ u0 < n)) : wl T n f b u0 N = (b, u0, N) := by
  cases f with
  | zero => rfl
  | succ f => exact if_neg h
theorem wl_y {T : Nat → Int32} {n f u0 : Nat} {N : Nat → Int32} (h : u0 < n) (h2 : T u0 = 59) : wl T n (f + 1) true u0 N = wl T n f (rdO T n (u0 + 1) N).1 (rdO T n (u0 + 1) N).2.1 (rdO T n (u0 + 1) N).2.2 := (if_pos ⟨rfl, h⟩).trans (if_pos h2)
theorem wl_n {T : Nat → Int32} {n f u0 : Nat} {N : Nat → Int32} (h : u0 < n) (h2 : ¬ T u0 = 59) : wl T n (f + 1) true u0 N = (false, u0, N) := (if_pos ⟨rfl, h⟩).trans (if_neg h2)
theorem RdM_st {M : Nat → Nat → Int32} : updM M 8 (fun _ => 0) = RdM M 0 (M 10) := by
  unfold RdM updM
  funext j
  by_cases h10 : j = 10
  · rw [if_pos h10, if_neg (by omega), h10]
  · rw [if_neg h10]
    by_cases h8 : j = 8
    · rw [if_pos h8, if_pos h8]; rfl
    · rw [if_neg h8, if_neg h8]
theorem RdM_2 {M : Nat → Nat → Int32} {u0 : Nat} {N r : Nat → Int32} : updM (RdM M u0 N) 2 r = RdM (updM M 2 r) u0 N := by
  unfold RdM updM
  funext j
  by_cases h0 : j = 2
  · rw [if_pos h0, if_neg (by omega), if_neg (by omega), if_pos h0]
  · rw [if_neg h0]
    by_cases h10 : j = 10
    · rw [if_pos h10, if_pos h10]
    · rw [if_neg h10, if_neg h10]
      by_cases h8 : j = 8
      · rw [if_pos h8, if_pos h8]
      · rw [if_neg h8, if_neg h8, if_neg h0]

set_option maxHeartbeats 4000000 in
set_option maxRecDepth 100000 in
theorem k_X7_isWell (l : Launch) (G : GG) (w : Nat) (M : Nat → Nat → Int32) (n : Nat) (hn : n ≤ 80) (h7 : M 7 0 = nI n) : Met l yX7_isWell (ws_ yX7_isWell cX7_isWell 2 (some .boolean)) (rm_ 6) (PC G [.ref w] (MdAt G w M)) (QI (fun v H => v = zb (wlA (M 6) n (M 10)).1 ∧ MdAt G w (RdM M (wlA (M 6) n (M 10)).2.1 (wlA (M 6) n (M 10)).2.2) H) (In w 13)) 0 0 (In w 13) := by
  refine met_q (by decide +kernel) (Nat.le_of_ble_eq_true rfl) ?_
  intro p e s m args below meth c Q hQ hx hb hr hT hown hml hlocks hnm hK hM ls hl
  have hl : lv_has ls 2 [(0, .ref w)] := hl
  have hS : va_S (In w 13) s.heap s.heap [] := va_S.rf
  refine lv_aload_n hx hb dX7_isWell_0 rfl (lv_at hl 0 rfl) ?_
  refine lv_iconst (v := 0) hx hb dX7_isWell_1 (by decide) ?_
  refine rp (C := RX7) (T := TX7) (N := 16) (v := .int 0) (ty := .int) hx hb hT inX7 tyX7 tyX7_ok nmX7 hown hK hM.1 rfl 8 (by decide) mf_X7_158 rfl (by decide +kernel) rfl rfl (Nat.le_of_ble_eq_true rfl) hS (show _ ∧ _ from ⟨by omega, by omega⟩) dX7_isWell_2 (fun H locs h1 o hS => ?_)
  have hM := hM.s8 h1 o
  rw [RdM_st] at hM
  refine lv_aload_n hx hb dX7_isWell_5 rfl (lv_at hl 0 rfl) ?_
  refine lv_iconst (v := 0) hx hb dX7_isWell_6 (by decide) ?_
  refine got_I (run_i hx hb hml hown hT hK hl.1 (k_X7_order0 l G w M n 0 (M 10) hn (Nat.zero_le _) h7) (cw_X7_174 hT ⟨Nat.le_of_ble_eq_true rfl, Nat.le_of_ble_eq_true rfl⟩) hM.1 rfl hM rfl rfl (Nat.le_of_ble_eq_true rfl) dX7_isWell_7 ⟨Nat.zero_le _, Nat.zero_le _⟩) hS (fun q hq => hq) (fun q hq => hq) (fun v_1 H locs h1 hz hk hS => ?_)
  obtain ⟨hv, hM⟩ := h1
  obtain ⟨R0, hR0⟩ : ∃ z1, z1 = rdO (M 6) n 0 (M 10) := ⟨_, rfl⟩
  have hwA : wl (M 6) n 81 R0.1 R0.2.1 R0.2.2 = wlA (M 6) n (M 10) := by rw [hR0]; rfl
  rw [← hR0] at hv hM
  have hle0 : R0.2.1 ≤ n := by rw [hR0]; exact (rdO_le (Nat.zero_le _)).2.1
  have h19 : ∀ ls : Array Slot, lv_has ls 2 [(1, .int (zb R0.1)), (0, .ref w)] → W p l e (rm_ 6) s m args below meth c H locs 0 0 Q (F0 m 19 ls []) := by
    intro ls hl
    have loop : ∀ (k : Nat) (bo : Bool) (u0 : Nat) (N : Nat → Int32) (H : Heap) (locs : List Loc), va_S (In w 13) s.heap H locs → u0 ≤ n → (bo = true → n - u0 < k) ∧ 0 < k → wl (M 6) n k bo u0 N = wlA (M 6) n (M 10) → MdAt G w (RdM M u0 N) H → ∀ ls : Array Slot, lv_has ls 2 [(1, .int (zb bo)), (0, .ref w)] → W p l e (rm_ 6) s m args below meth c H locs 0 0 Q (F0 m 19 ls []) := by
      intro k
      induction k with
      | zero => intro bo u0 N H locs hS hp hfu; exact absurd hfu.2 (Nat.not_lt_zero _)
      | succ k ih =>
        intro bo u0 N H locs hS hp hfu hres hM ls hl
        refine lv_iload_n hx hb dX7_isWell_19 rfl (lv_at hl 0 rfl) ?_
        refine lv_if_eq (tgt := 60) hx hb dX7_isWell_20 (by decide) (fun c1 => ?_) (fun c1 => ?_)
        · have hb : bo = false := by
            cases bo with
            | false => rfl
            | true => exact absurd c1 (by decide)
          subst hb
          have hwe : wlA (M 6) n (M 10) = (false, u0, N) := by rw [← hres]; exact wl_end (fun q => absurd q.1 (by decide))
          refine lv_iload_n hx hb dX7_isWell_60 rfl (lv_at hl 0 rfl) ?_
          exact nd_Z hQ hx hb hr hlocks dX7_isWell_61 hS (by unfold zb; split; exact Or.inr rfl; exact Or.inl rfl) (⟨by rw [hwe], by rw [hwe]; exact hM⟩)
        · have hb : bo = true := by
            cases bo with
            | false => exact absurd rfl c1
            | true => rfl
          subst hb
          refine lv_aload_n hx hb dX7_isWell_23 rfl (lv_at hl 1 rfl) ?_
          refine rg (C := RX7) (T := TX7) (N := 16) (v := .int (nI u0)) hx hb hT inX7 hown hK hM.1 rfl 8 (by decide) mf_X7_158 rfl dX7_isWell_24 ?_
          refine lv_aload_n hx hb dX7_isWell_27 rfl (lv_at hl 1 rfl) ?_
          refine rg (C := RX7) (T := TX7) (N := 16) (v := .int (M 7 0)) hx hb hT inX7 hown hK hM.1 rfl 7 (by decide) mf_X7_139 rfl dX7_isWell_28 ?_
          rw [h7]
          refine lv_icmp_ge (tgt := 60) hx hb dX7_isWell_31 (by decide) (fun c2 => ?_) (fun c2 => ?_)
          · have hge : ¬ u0 < n := by have := (nI_leI (by omega) (by omega)).mp c2; omega
            have hwe : wlA (M 6) n (M 10) = (true, u0, N) := by rw [← hres]; exact wl_end (fun q => hge q.2)
            refine lv_iload_n hx hb dX7_isWell_60 rfl (lv_at hl 0 rfl) ?_
            exact nd_Z hQ hx hb hr hlocks dX7_isWell_61 hS (by unfold zb; split; exact Or.inr rfl; exact Or.inl rfl) (⟨by rw [hwe], by rw [hwe]; exact hM⟩)
          · have hlt : u0 < n := by have q : ¬ n ≤ u0 := fun q => c2 ((nI_leI (by omega) (by omega)).mpr q); omega
            refine lv_aload_n hx hb dX7_isWell_34 rfl (lv_at hl 1 rfl) ?_
            refine lv_bipush (v := 59) hx hb dX7_isWell_35 (by decide) ?_
            refine got_I (run_i hx hb hml hown hT hK hl.1 (k_X7_sign l G w M n u0 N 59 hn hp h7) (cw_X7_168 hT ⟨Nat.le_of_ble_eq_true rfl, Nat.le_of_ble_eq_true rfl⟩) hM.1 rfl hM rfl rfl (Nat.le_of_ble_eq_true rfl) dX7_isWell_37 ⟨Nat.zero_le _, Nat.zero_le _⟩) hS (fun q hq => hq) (fun q hq => hq) (fun v_2 H locs h1 hz hk hS => ?_)
            rcases h1 with ⟨hv, hD, hM⟩ | ⟨hv, hD, hM⟩
            · subst hv
              refine lv_if_eq (tgt := 55) hx hb dX7_isWell_40 (by decide) (fun c3 => ?_) (fun c3 => ?_)
              · exact absurd c3 (by decide)
              · rw [wl_y hlt hD.2] at hres
                refine lv_aload_n hx hb dX7_isWell_43 rfl (lv_at hl 1 rfl) ?_
                refine lv_iconst (v := 0) hx hb dX7_isWell_44 (by decide) ?_
                refine got_I (run_i hx hb hml hown hT hK hl.1 (k_X7_order0 l G w M n (u0 + 1) N hn hlt h7) (cw_X7_174 hT ⟨Nat.le_of_ble_eq_true rfl, Nat.le_of_ble_eq_true rfl⟩) hM.1 rfl hM rfl rfl (Nat.le_of_ble_eq_true rfl) dX7_isWell_45 ⟨Nat.zero_le _, Nat.zero_le _⟩) hS (fun q hq => hq) (fun q hq => hq) (fun v_3 H locs h1 hz hk hS => ?_)
                obtain ⟨hv, hM⟩ := h1
                have hle := rdO_le (T := M 6) (N := N) (show u0 + 1 ≤ n from hlt)
                obtain ⟨R1, hR1⟩ : ∃ z1, z1 = rdO (M 6) n (u0 + 1) N := ⟨_, rfl⟩
                rw [← hR1] at hv hM hle hres
                obtain ⟨b1, q1, N1⟩ := R1
                have hv : v_3 = (if b1 then 0 else -3) := hv
                have hres : wl (M 6) n k b1 q1 N1 = wlA (M 6) n (M 10) := hres
                have hM : MdAt G w (RdM M q1 N1) H := hM
                have hle2 : u0 + 1 ≤ q1 ∧ q1 ≤ n := ⟨hle.1, hle.2.1⟩
                refine lv_if_ne (tgt := 55) hx hb dX7_isWell_48 (by decide) (fun c4 => ?_) (fun c4 => ?_)
                · have hb1 : b1 = false := by
                    cases b1 with
                    | false => rfl
                    | true => rw [hv] at c4; exact absurd rfl c4
                  subst hb1
                  refine lv_iconst (v := 0) hx hb dX7_isWell_55 (by decide) ?_
                  refine lv_istore_n (lv' := [(1, .int 0), (0, .ref w)]) hx hb dX7_isWell_56 rfl hl (by decide) rfl (fun ls hl => ?_)
                  refine lv_goto (tgt := 19) hx hb dX7_isWell_57 (by decide) ?_
                  exact ih false q1 N1 _ _ hS hle2.2 ⟨fun z => (by cases z), by have := hfu.1 rfl; omega⟩ hres hM ls (lv_sub hl [0, 1] rfl)
                · have hb1 : b1 = true := by
                    cases b1 with
                    | true => rfl
                    | false => rw [hv] at c4; exact absurd c4 (by decide)
                  subst hb1
                  refine lv_iconst (v := 1) hx hb dX7_isWell_51 (by decide) ?_
                  refine lv_goto (tgt := 56) hx hb dX7_isWell_52 (by decide) ?_
                  refine lv_istore_n (lv' := [(1, .int 1), (0, .ref w)]) hx hb dX7_isWell_56 rfl hl (by decide) rfl (fun ls hl => ?_)
                  refine lv_goto (tgt := 19) hx hb dX7_isWell_57 (by decide) ?_
                  exact ih true q1 N1 _ _ hS hle2.2 ⟨fun _ => by have := hfu.1 rfl; omega, by have := hfu.1 rfl; omega⟩ hres hM ls (lv_sub hl [0, 1] rfl)
            · subst hv
              refine lv_if_eq (tgt := 55) hx hb dX7_isWell_40 (by decide) (fun c3 => ?_) (fun c3 => ?_)
              · rw [wl_n hlt (fun q => hD ⟨hlt, q⟩)] at hres
                refine lv_iconst (v := 0) hx hb dX7_isWell_55 (by decide) ?_
                refine lv_istore_n (lv' := [(1, .int 0), (0, .ref w)]) hx hb dX7_isWell_56 rfl hl (by decide) rfl (fun ls hl => ?_)
                refine lv_goto (tgt := 19) hx hb dX7_isWell_57 (by decide) ?_
                exact ih false u0 N _ _ hS hp ⟨fun z => (by cases z), by have := hfu.1 rfl; omega⟩ (by rw [← hres]; exact wl_end (fun q => absurd q.1 (by decide))) hM ls (lv_sub hl [0, 1] rfl)
              · exact absurd rfl c3
    exact loop 81 R0.1 R0.2.1 R0.2.2 _ _ hS hle0 ⟨fun _ => by omega, by omega⟩ hwA hM ls hl
  obtain ⟨b0, q0, N0⟩ := R0
  have hv : v_1 = (if b0 then 0 else -3) := hv
  refine lv_if_ne (tgt := 17) hx hb dX7_isWell_10 (by decide) (fun c4 => ?_) (fun c4 => ?_)
  · have hb1 : b0 = false := by
      cases b0 with
      | false => rfl
      | true => rw [hv] at c4; exact absurd rfl c4
    subst hb1
    refine lv_iconst (v := 0) hx hb dX7_isWell_17 (by decide) ?_
    refine lv_istore_n (lv' := [(1, .int 0), (0, .ref w)]) hx hb dX7_isWell_18 rfl hl (by decide) rfl (fun ls hl => ?_)
    exact h19 ls (lv_sub hl [0, 1] rfl)
  · have hb1 : b0 = true := by
      cases b0 with
      | true => rfl
      | false => rw [hv] at c4; exact absurd c4 (by decide)
    subst hb1
    refine lv_iconst (v := 1) hx hb dX7_isWell_13 (by decide) ?_
    refine lv_goto (tgt := 18) hx hb dX7_isWell_14 (by decide) ?_
    refine lv_istore_n (lv' := [(1, .int 1), (0, .ref w)]) hx hb dX7_isWell_18 rfl hl (by decide) rfl (fun ls hl => ?_)
    exact h19 ls (lv_sub hl [0, 1] rfl)

set_option maxHeartbeats 4000000 in
set_option maxRecDepth 100000 in
theorem k_X7_fault (l : Launch) (G : GG) (w : Nat) (M : Nat → Nat → Int32) (n : Nat) (hn : n ≤ 80) (h7 : M 7 0 = nI n) : Met l yX7_fault (ws_ yX7_fault cX7_fault 1 (some .int)) (rm_ 7) (PC G [.ref w] (MdAt G w M)) (QI (fun v H => v = (if (wlA (M 6) n (M 10)).1 then -6 else nI (wlA (M 6) n (M 10)).2.1) ∧ MdAt G w (RdM M (wlA (M 6) n (M 10)).2.1 (wlA (M 6) n (M 10)).2.2) H) (In w 13)) 0 0 (In w 13) := by
  refine met_q (by decide +kernel) (Nat.le_of_ble_eq_true rfl) ?_
  intro p e s m args below meth c Q hQ hx hb hr hT hown hml hlocks hnm hK hM ls hl
  have hl : lv_has ls 1 [(0, .ref w)] := hl
  have hS : va_S (In w 13) s.heap s.heap [] := va_S.rf
  refine lv_aload_n hx hb dX7_fault_0 rfl (lv_at hl 0 rfl) ?_
  refine got_I (run_i hx hb hml hown hT hK hl.1 (k_X7_isWell l G w M n hn h7) (cw_X7_178 hT ⟨Nat.le_of_ble_eq_true rfl, Nat.le_of_ble_eq_true rfl⟩) hM.1 rfl hM rfl rfl (Nat.le_of_ble_eq_true rfl) dX7_fault_1 ⟨Nat.zero_le _, Nat.zero_le _⟩) hS (fun q hq => hq) (fun q hq => hq) (fun v_1 H locs h1 hz hk hS => ?_)
  obtain ⟨hv, hM⟩ := h1
  obtain ⟨R0, hR0⟩ : ∃ z1, z1 = wlA (M 6) n (M 10) := ⟨_, rfl⟩
  rw [← hR0] at hv hM hQ
  obtain ⟨b0, q0, N0⟩ := R0
  have hM : MdAt G w (RdM M q0 N0) H := hM
  refine lv_if_eq (tgt := 12) hx hb dX7_fault_4 (by decide) (fun c1 => ?_) (fun c1 => ?_)
  · have hb : b0 = false := by
      cases b0 with
      | false => rfl
      | true => rw [hv] at c1; exact absurd (show zb true = 0 from c1) (by decide)
    subst hb
    refine lv_aload_n hx hb dX7_fault_12 rfl (lv_at hl 0 rfl) ?_
    refine rg (C := RX7) (T := TX7) (N := 16) (v := .int (nI q0)) hx hb hT inX7 hown hK hM.1 rfl 8 (by decide) mf_X7_158 rfl dX7_fault_13 ?_
    exact nd_I hQ hx hb hr hlocks dX7_fault_16 hS (⟨rfl, hM⟩)
  · have hb : b0 = true := by
      cases b0 with
      | true => rfl
      | false => rw [hv] at c1; exact absurd rfl c1
    subst hb
    refine lv_bipush (v := (-6)) hx hb dX7_fault_7 (by decide) ?_
    refine lv_goto (tgt := 16) hx hb dX7_fault_9 (by decide) ?_
    exact nd_I hQ hx hb hr hlocks dX7_fault_16 hS (⟨rfl, hM⟩)
