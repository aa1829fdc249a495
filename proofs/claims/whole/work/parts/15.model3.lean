/-! the model's states, and its changes as a whole -/
def recP (p b : Nat → Int32) (s : Nat) : Nat → Int32 :=
  if s = 6 then (fun k => if 410 ≤ k ∧ k < 492 then b (k - 410) else if k < 410 then p (82 + k) else p k) else (fun k => if 82 * s ≤ k ∧ k < 82 * s + 82 then b (k - 82 * s) else p k)
theorem recP_6 {p b : Nat → Int32} : recP p b 6 = fun k => if 410 ≤ k ∧ k < 492 then b (k - 410) else if k < 410 then p (82 + k) else p k := if_pos rfl
theorem recP_n {p b : Nat → Int32} {s : Nat} (h : s ≠ 6) : recP p b s = fun k => if 82 * s ≤ k ∧ k < 82 * s + 82 then b (k - 82 * s) else p k := if_neg h
def cpN (r g : Nat → Int32) (lo n : Nat) : Nat → Int32 := fun k => if lo ≤ k ∧ k < lo + n then g (k - lo) else r k
theorem cpN_0 {r g : Nat → Int32} {lo : Nat} : cpN r g lo 0 = r := funext fun k => if_neg (by omega)
theorem cpN_s {r g : Nat → Int32} {lo n : Nat} : upd (cpN r g lo n) (lo + n) (g n) = cpN r g lo (n + 1) := by
  funext k
  simp only [upd]
  unfold cpN
  by_cases q : k = lo + n
  · rw [if_pos q, if_pos (by omega)]
    congr 1
    omega
  · rw [if_neg q]
    by_cases h : lo ≤ k ∧ k < lo + n
    · rw [if_pos h, if_pos (by omega)]
    · rw [if_neg h, if_neg (by omega)]
theorem cpN_hi {r g : Nat → Int32} {lo n k : Nat} (h : lo + n ≤ k) : cpN r g lo n k = r k := if_neg (by omega)
theorem cpN_in {r g : Nat → Int32} {lo n k : Nat} (h : k < n) : cpN r g lo n (lo + k) = g k := by
  unfold cpN
  rw [if_pos (by omega)]
  congr 1
  omega
theorem cpN_in0 {r g : Nat → Int32} {n k : Nat} (h : k < n) : cpN r g 0 n k = g k := by
  unfold cpN
  rw [if_pos (by omega)]
  congr 1
theorem MdAt.arrs {G : GG} {w k : Nat} {M : Nat → Nat → Int32} {f g : Nat → Int32} {H : Heap} (hk : k = 0 ∨ k = 1 ∨ k = 2 ∨ k = 3) (h : MdAt G w (updM M k f) H) (e : ∀ j, j < (if k = 1 then 492 else if k = 3 then 164 else 82) → f j = g j) : MdAt G w (updM M k g) H := by
  rcases hk with q | q | q | q <;> subst q
  · exact ⟨h.1, iA_ext h.2.1 e, h.2.2⟩
  · exact ⟨h.1, h.2.1, iA_ext h.2.2.1 e, h.2.2.2⟩
  · exact ⟨h.1, h.2.1, h.2.2.1, iA_ext h.2.2.2.1 e, h.2.2.2.2⟩
  · exact ⟨h.1, h.2.1, h.2.2.1, h.2.2.2.1, iA_ext h.2.2.2.2.1 e, h.2.2.2.2.2⟩
theorem MdAt.n5 {G : GG} {w : Nat} {M : Nat → Nat → Int32} {v : Int32} {H : Heap} (h : MdAt G w M H) (e : M 5 0 = v) : MdAt G w (updM M 5 (fun _ => v)) H := by
  subst e
  exact ⟨h.1, h.2⟩
def pushP (M : Nat → Nat → Int32) (v : Int32) (s : Nat) : Nat → Int32 := if v < 0 then M 1 else recP (M 1) (M 0) s
def pushS (v : Int32) (s : Nat) : Nat := if v < 0 then s else min (s + 1) 6
def PubS (M M' : Nat → Nat → Int32) (op : Op) (s : Nat) : Prop := M' 0 = op.2 ∧ M' 1 = pushP M op.1 s ∧ M' 5 0 = nI (pushS op.1 s) ∧ M' 3 = M 3 ∧ M' 4 = M 4 ∧ M' 6 = M 6 ∧ M' 7 0 = M 7 0

set_option maxHeartbeats 4000000 in
set_option maxRecDepth 100000 in
theorem k_X7_remember (l : Launch) (G : GG) (w : Nat) (M : Nat → Nat → Int32)   : Met l yX7_remember (ws_ yX7_remember cX7_remember 2 (none : Option Jvm.ClassFile.FieldType)) (rm_ 0) (PC G [.ref w] (MdAt G w M)) (QV (MdAt G w (updM M 2 (M 0))) (In w 13)) 0 0 (In w 13) := by
  refine met_q (by decide +kernel) (Nat.le_of_ble_eq_true rfl) ?_
  intro p e s m args below meth c Q hQ hx hb hr hT hown hml hlocks hnm hK hM ls hl
  have hl : lv_has ls 2 [(0, .ref w)] := hl
  have hS : va_S (In w 13) s.heap s.heap [] := va_S.rf
  refine lv_iconst (v := 0) hx hb dX7_remember_0 (by decide) ?_
  refine lv_istore_n (lv' := [(1, .int 0), (0, .ref w)]) hx hb dX7_remember_1 rfl hl (by decide) rfl (fun ls hl => ?_)
  have loop : ∀ (k : Nat) (i : Nat) (H : Heap) (locs : List Loc), va_S (In w 13) s.heap H locs → i ≤ 82 → MdAt G w (updM M 2 (cpN (M 2) (M 0) 0 i)) H → 82 - i < k → ∀ ls : Array Slot, lv_has ls 2 [(1, .int (nI i)), (0, .ref w)] → W p l e (rm_ 0) s m args below meth c H locs 0 0 Q (F0 m 2 ls []) := by
    intro k
    induction k with
    | zero => intro i H locs hS hi hM hm; exact absurd hm (Nat.not_lt_zero _)
    | succ k ih =>
      intro i H locs hS hi hM hm ls hl
      refine lv_iload_n hx hb dX7_remember_2 rfl (lv_at hl 0 rfl) ?_
      refine lv_bipush (v := 82) hx hb dX7_remember_3 (by decide) ?_
      refine lv_icmp_ge (tgt := 26) hx hb dX7_remember_5 (by decide) (fun cd => ?_) (fun cd => ?_)
      · have e_i : i = 82 := by
          have h9 : nI 82 ≤ nI i := cd
          rw [nI_leI (by omega) (by omega)] at h9
          omega
        subst e_i
        exact nd_V hQ hx hb hr hlocks dX7_remember_26 hS (hM.arrs (by omega) (fun j hj => cpN_in0 hj))
      · have h_i : i < 82 := by
          have h9 : ¬ nI 82 ≤ nI i := cd
          rw [nI_leI (by omega) (by omega)] at h9
          omega
        refine lv_aload_n hx hb dX7_remember_8 rfl (lv_at hl 1 rfl) ?_
        refine rg (C := RX7) (T := TX7) (N := 16) (v := .ref (w + 3)) hx hb hT inX7 hown hK hM.1 rfl 2 (by decide) mf_X7_16 rfl dX7_remember_9 ?_
        refine lv_iload_n hx hb dX7_remember_12 rfl (lv_at hl 0 rfl) ?_
        refine lv_aload_n hx hb dX7_remember_13 rfl (lv_at hl 1 rfl) ?_
        refine rg (C := RX7) (T := TX7) (N := 16) (v := .ref (w + 1)) hx hb hT inX7 hown hK hM.1 rfl 0 (by decide) mf_X7_7 rfl dX7_remember_14 ?_
        refine lv_iload_n hx hb dX7_remember_17 rfl (lv_at hl 0 rfl) ?_
        refine r_ialdS (y := M 0 i) hx hb hK hM.2.1 i (rfl) (by omega) (Nat.le_of_ble_eq_true rfl) rfl dX7_remember_18 ?_
        refine r_iast hx hb hK hM.2.2.2.1 i (rfl) (h_i) (Nat.le_of_ble_eq_true rfl) hS (show _ ∧ _ from ⟨by omega, by omega⟩) dX7_remember_19 (fun H locs h1 o hS => ?_)
        have hM := hM.a2 h1 o
        have es : upd (cpN (M 2) (M 0) 0 i) i (M 0 i) = cpN (M 2) (M 0) 0 (i + 1) := by have h9 := cpN_s (r := M 2) (g := M 0) (lo := 0) (n := i); rw [Nat.zero_add] at h9; exact h9
        rw [updM_2, updM_eq, es] at hM
        refine lv_iinc (v := nI (i + 1)) (lv' := [(1, .int (nI (i + 1))), (0, .ref w)]) hx hb dX7_remember_20 hl (k := 0) rfl (nI_1 i) (by decide) rfl (fun ls hl => ?_)
        refine lv_goto (tgt := 2) hx hb dX7_remember_23 (by decide) ?_
        exact ih (i + 1) _ _ hS (by omega) hM (by omega) ls (lv_sub hl [0, 1] rfl)
  exact loop 83 0 _ _ hS (by omega) (by rw [cpN_0]; exact (by rw [updM_self rfl]; exact hM)) (by omega) ls (lv_sub hl [0, 1] rfl)

set_option maxHeartbeats 4000000 in
set_option maxRecDepth 100000 in
theorem k_X7_record (l : Launch) (G : GG) (w : Nat) (M : Nat → Nat → Int32) (s0 : Nat) (x : Int32) (hs : M 5 0 = nI s0) (hs6 : s0 ≤ 6) : Met l yX7_record (ws_ yX7_record cX7_record 3 (some .int)) (rm_ 0) (PC G [.ref w, .int x] (MdAt G w M)) (QI (fun v H => v = x ∧ MdAt G w (if x < 0 then M else updM (updM M 1 (recP (M 1) (M 2) s0)) 5 (fun _ => nI (min (s0 + 1) 6))) H) (In w 13)) 0 0 (In w 13) := by
  refine met_q (by decide +kernel) (Nat.le_of_ble_eq_true rfl) ?_
  intro p e s m args below meth c Q hQ hx hb hr hT hown hml hlocks hnm hK hM ls hl
  have hl : lv_has ls 3 [(0, .ref w), (1, .int x)] := hl
  have hS : va_S (In w 13) s.heap s.heap [] := va_S.rf
  refine lv_iload_n hx hb dX7_record_0 rfl (lv_at hl 1 rfl) ?_
  refine lv_if_ge (tgt := 6) hx hb dX7_record_1 (by decide) (fun c1 => ?_) (fun c1 => ?_)
  · have c1 := i32_le_nlt c1
    have hob := hM.1
    refine lv_aload_n hx hb dX7_record_6 rfl (lv_at hl 0 rfl) ?_
    refine rg (C := RX7) (T := TX7) (N := 16) (v := .int (M 5 0)) hx hb hT inX7 hown hK hM.1 rfl 5 (by decide) mf_X7_51 rfl dX7_record_7 ?_
    refine lv_bipush (v := 6) hx hb dX7_record_10 (by decide) ?_
    rw [hs]
    refine lv_icmp_ne (tgt := 55) hx hb dX7_record_12 (by decide) (fun c2 => ?_) (fun c2 => ?_)
    · have hs5 : s0 ≠ 6 := fun q => c2 (by rw [q]; rfl)
      have hM : MdAt G w (updM M 5 (fun _ => nI s0)) s.heap := hM.n5 hs
      refine lv_iconst (v := 0) hx hb dX7_record_55 (by decide) ?_
      refine lv_istore_n (lv' := [(2, .int 0), (0, .ref w), (1, .int x)]) hx hb dX7_record_56 rfl hl (by decide) rfl (fun ls hl => ?_)
      have loop : ∀ (k : Nat) (i : Nat) (H : Heap) (locs : List Loc), va_S (In w 13) s.heap H locs → i ≤ 82 → MdAt G w (updM (updM M 5 (fun _ => nI s0)) 1 (cpN (M 1) (M 2) (82 * s0) i)) H → 82 - i < k → ∀ ls : Array Slot, lv_has ls 3 [(2, .int (nI i)), (0, .ref w), (1, .int x)] → W p l e (rm_ 0) s m args below meth c H locs 0 0 Q (F0 m 57 ls []) := by
        intro k
        induction k with
        | zero => intro i H locs hS hi hM hm; exact absurd hm (Nat.not_lt_zero _)
        | succ k ih =>
          intro i H locs hS hi hM hm ls hl
          refine lv_iload_n hx hb dX7_record_57 rfl (lv_at hl 0 rfl) ?_
          refine lv_bipush (v := 82) hx hb dX7_record_58 (by decide) ?_
          refine lv_icmp_ge (tgt := 89) hx hb dX7_record_60 (by decide) (fun cd => ?_) (fun cd => ?_)
          · have e_i : i = 82 := by
              have h9 : nI 82 ≤ nI i := cd
              rw [nI_leI (by omega) (by omega)] at h9
              omega
            subst e_i
            refine lv_aload_n hx hb dX7_record_89 rfl (lv_at hl 1 rfl) ?_
            refine lv_dup hx hb dX7_record_90 rfl ?_
            refine rg (C := RX7) (T := TX7) (N := 16) (v := .int (nI s0)) hx hb hT inX7 hown hK hM.1 rfl 5 (by decide) mf_X7_51 rfl dX7_record_91 ?_
            refine lv_iconst (v := 1) hx hb dX7_record_94 (by decide) ?_
            refine lv_iadd hx hb dX7_record_95 ?_
            refine rp (C := RX7) (T := TX7) (N := 16) (v := .int ((nI s0) + 1)) (ty := .int) hx hb hT inX7 tyX7 tyX7_ok nmX7 hown hK hM.1 rfl 5 (by decide) mf_X7_51 rfl (by decide +kernel) rfl rfl (Nat.le_of_ble_eq_true rfl) hS (show _ ∧ _ from ⟨by omega, by omega⟩) dX7_record_96 (fun H locs h1 o hS => ?_)
            have hM := hM.s5 h1 o
            refine lv_iload_n hx hb dX7_record_99 rfl (lv_at hl 2 rfl) ?_
            exact nd_I hQ hx hb hr hlocks dX7_record_100 hS (⟨rfl, by
          rw [if_neg c1, recP_n hs5, show min (s0 + 1) 6 = s0 + 1 by omega, ← nI_1]
          exact hM⟩)
          · have h_i : i < 82 := by
              have h9 : ¬ nI 82 ≤ nI i := cd
              rw [nI_leI (by omega) (by omega)] at h9
              omega
            refine lv_aload_n hx hb dX7_record_63 rfl (lv_at hl 1 rfl) ?_
            refine rg (C := RX7) (T := TX7) (N := 16) (v := .ref (w + 2)) hx hb hT inX7 hown hK hM.1 rfl 1 (by decide) mf_X7_13 rfl dX7_record_64 ?_
            refine lv_bipush (v := 82) hx hb dX7_record_67 (by decide) ?_
            refine lv_aload_n hx hb dX7_record_69 rfl (lv_at hl 1 rfl) ?_
            refine rg (C := RX7) (T := TX7) (N := 16) (v := .int (nI s0)) hx hb hT inX7 hown hK hM.1 rfl 5 (by decide) mf_X7_51 rfl dX7_record_70 ?_
            refine lv_imul hx hb dX7_record_73 ?_
            refine lv_iload_n hx hb dX7_record_74 rfl (lv_at hl 0 rfl) ?_
            refine lv_iadd hx hb dX7_record_75 ?_
            refine lv_aload_n hx hb dX7_record_76 rfl (lv_at hl 1 rfl) ?_
            refine rg (C := RX7) (T := TX7) (N := 16) (v := .ref (w + 3)) hx hb hT inX7 hown hK hM.1 rfl 2 (by decide) mf_X7_16 rfl dX7_record_77 ?_
            refine lv_iload_n hx hb dX7_record_80 rfl (lv_at hl 0 rfl) ?_
            refine r_ialdS (y := M 2 i) hx hb hK hM.2.2.2.1 i (rfl) (by omega) (Nat.le_of_ble_eq_true rfl) rfl dX7_record_81 ?_
            refine r_iast hx hb hK hM.2.2.1 (82 * s0 + i) (by rw [show (82 : Int32) = nI 82 from rfl, pk_mul, nI_add]) (by omega) (Nat.le_of_ble_eq_true rfl) hS (show _ ∧ _ from ⟨by omega, by omega⟩) dX7_record_82 (fun H locs h1 o hS => ?_)
            have hM := hM.a1 h1 o
            rw [updM_2, updM_eq, cpN_s] at hM
            refine lv_iinc (v := nI (i + 1)) (lv' := [(2, .int (nI (i + 1))), (0, .ref w), (1, .int x)]) hx hb dX7_record_83 hl (k := 0) rfl (nI_1 i) (by decide) rfl (fun ls hl => ?_)
            refine lv_goto (tgt := 57) hx hb dX7_record_86 (by decide) ?_
            exact ih (i + 1) _ _ hS (by omega) hM (by omega) ls (lv_sub hl [0, 1, 2] rfl)
      exact loop 83 0 _ _ hS (by omega) (by rw [cpN_0]; exact (by rw [updM_self (by rfl)]; exact hM)) (by omega) ls (lv_sub hl [0, 1, 2] rfl)
    · have hs6 : s0 = 6 := by
        have h9 : nI s0 = nI 6 := c2
        rw [nI_eq (by omega) (by omega)] at h9
        exact h9
      subst hs6
      refine lv_iconst (v := 0) hx hb dX7_record_15 (by decide) ?_
      refine lv_istore_n (lv' := [(2, .int 0), (0, .ref w), (1, .int x)]) hx hb dX7_record_16 rfl hl (by decide) rfl (fun ls hl => ?_)
      have loop : ∀ (k : Nat) (i : Nat) (H : Heap) (locs : List Loc), va_S (In w 13) s.heap H locs → i ≤ 410 → MdAt G w (updM M 1 (cpN (M 1) (fun k => M 1 (82 + k)) 0 i)) H → 410 - i < k → ∀ ls : Array Slot, lv_has ls 3 [(2, .int (nI i)), (0, .ref w), (1, .int x)] → W p l e (rm_ 0) s m args below meth c H locs 0 0 Q (F0 m 17 ls []) := by
        intro k
        induction k with
        | zero => intro i H locs hS hi hM hm; exact absurd hm (Nat.not_lt_zero _)
        | succ k ih =>
          intro i H locs hS hi hM hm ls hl
          refine lv_iload_n hx hb dX7_record_17 rfl (lv_at hl 0 rfl) ?_
          refine lv_sipush (v := 410) hx hb dX7_record_18 (by decide) ?_
          refine lv_icmp_ge (tgt := 45) hx hb dX7_record_21 (by decide) (fun cd => ?_) (fun cd => ?_)
          · have e_i : i = 410 := by
              have h9 : nI 410 ≤ nI i := cd
              rw [nI_leI (by omega) (by omega)] at h9
              omega
            subst e_i
            have hM : MdAt G w (updM (updM M 1 (cpN (M 1) (fun k => M 1 (82 + k)) 0 410)) 5 (fun _ => nI 6)) H := hM.n5 (show updM M 1 (cpN (M 1) (fun k => M 1 (82 + k)) 0 410) 5 0 = nI 6 from hs)
            refine lv_aload_n hx hb dX7_record_45 rfl (lv_at hl 1 rfl) ?_
            refine lv_dup hx hb dX7_record_46 rfl ?_
            refine rg (C := RX7) (T := TX7) (N := 16) (v := .int (nI 6)) hx hb hT inX7 hown hK hM.1 rfl 5 (by decide) mf_X7_51 rfl dX7_record_47 ?_
            refine lv_iconst (v := 1) hx hb dX7_record_50 (by decide) ?_
            refine lv_isub hx hb dX7_record_51 ?_
            refine rp (C := RX7) (T := TX7) (N := 16) (v := .int ((nI 6) - 1)) (ty := .int) hx hb hT inX7 tyX7 tyX7_ok nmX7 hown hK hM.1 rfl 5 (by decide) mf_X7_51 rfl (by decide +kernel) rfl rfl (Nat.le_of_ble_eq_true rfl) hS (show _ ∧ _ from ⟨by omega, by omega⟩) dX7_record_52 (fun H locs h1 o hS => ?_)
            have hM := hM.s5 h1 o
            rw [updM_2] at hM
            have hM : MdAt G w (updM (updM M 1 (cpN (M 1) (fun k => M 1 (82 + k)) 0 410)) 5 (fun _ => nI 5)) H := hM
            refine lv_iconst (v := 0) hx hb dX7_record_55 (by decide) ?_
            refine lv_istore_n (lv' := [(2, .int 0), (0, .ref w), (1, .int x)]) hx hb dX7_record_56 rfl hl (by decide) rfl (fun ls hl => ?_)
            have loop : ∀ (k : Nat) (i : Nat) (H : Heap) (locs : List Loc), va_S (In w 13) s.heap H locs → i ≤ 82 → MdAt G w (updM (updM (updM M 1 (cpN (M 1) (fun k => M 1 (82 + k)) 0 410)) 5 (fun _ => nI 5)) 1 (cpN (cpN (M 1) (fun k => M 1 (82 + k)) 0 410) (M 2) (82 * 5) i)) H → 82 - i < k → ∀ ls : Array Slot, lv_has ls 3 [(2, .int (nI i)), (0, .ref w), (1, .int x)] → W p l e (rm_ 0) s m args below meth c H locs 0 0 Q (F0 m 57 ls []) := by
              intro k
              induction k with
              | zero => intro i H locs hS hi hM hm; exact absurd hm (Nat.not_lt_zero _)
              | succ k ih =>
                intro i H locs hS hi hM hm ls hl
                refine lv_iload_n hx hb dX7_record_57 rfl (lv_at hl 0 rfl) ?_
                refine lv_bipush (v := 82) hx hb dX7_record_58 (by decide) ?_
                refine lv_icmp_ge (tgt := 89) hx hb dX7_record_60 (by decide) (fun cd => ?_) (fun cd => ?_)
                · have e_i : i = 82 := by
                    have h9 : nI 82 ≤ nI i := cd
                    rw [nI_leI (by omega) (by omega)] at h9
                    omega
                  subst e_i
                  refine lv_aload_n hx hb dX7_record_89 rfl (lv_at hl 1 rfl) ?_
                  refine lv_dup hx hb dX7_record_90 rfl ?_
                  refine rg (C := RX7) (T := TX7) (N := 16) (v := .int (nI 5)) hx hb hT inX7 hown hK hM.1 rfl 5 (by decide) mf_X7_51 rfl dX7_record_91 ?_
                  refine lv_iconst (v := 1) hx hb dX7_record_94 (by decide) ?_
                  refine lv_iadd hx hb dX7_record_95 ?_
                  refine rp (C := RX7) (T := TX7) (N := 16) (v := .int ((nI 5) + 1)) (ty := .int) hx hb hT inX7 tyX7 tyX7_ok nmX7 hown hK hM.1 rfl 5 (by decide) mf_X7_51 rfl (by decide +kernel) rfl rfl (Nat.le_of_ble_eq_true rfl) hS (show _ ∧ _ from ⟨by omega, by omega⟩) dX7_record_96 (fun H locs h1 o hS => ?_)
                  have hM := hM.s5 h1 o
                  refine lv_iload_n hx hb dX7_record_99 rfl (lv_at hl 2 rfl) ?_
                  exact nd_I hQ hx hb hr hlocks dX7_record_100 hS (⟨rfl, by
              rw [if_neg c1]
              have em : updM (updM M 1 (recP (M 1) (M 2) 6)) 5 (fun _ => nI (min (6 + 1) 6)) = updM (updM (updM (updM M 1 (cpN (M 1) (fun k => M 1 (82 + k)) 0 410)) 5 (fun _ => nI 5)) 1 (cpN (cpN (M 1) (fun k => M 1 (82 + k)) 0 410) (M 2) (82 * 5) 82)) 5 (fun _ => nI 5 + 1) := by
                funext j
                unfold updM
                by_cases q5 : j = 5
                · rw [if_pos q5, if_pos q5]
                  rfl
                · rw [if_neg q5, if_neg q5]
                  by_cases q1 : j = 1
                  · rw [if_pos q1, if_pos q1, recP_6]
                    funext k
                    unfold cpN
                    by_cases z : 410 ≤ k ∧ k < 492
                    · rw [if_pos z, if_pos (by omega)]
                    · rw [if_neg z]
                      by_cases z2 : k < 410
                      · rw [if_pos z2, if_neg (show ¬ (82 * 5 ≤ k ∧ k < 82 * 5 + 82) by omega), if_pos (show 0 ≤ k ∧ k < 0 + 410 by omega)]
                        rfl
                      · rw [if_neg z2, if_neg (show ¬ (82 * 5 ≤ k ∧ k < 82 * 5 + 82) by omega), if_neg (show ¬ (0 ≤ k ∧ k < 0 + 410) by omega)]
                  · rw [if_neg q1, if_neg q1, if_neg q5, if_neg q1]
              rw [em]
              exact hM⟩)
                · have h_i : i < 82 := by
                    have h9 : ¬ nI 82 ≤ nI i := cd
                    rw [nI_leI (by omega) (by omega)] at h9
                    omega
                  refine lv_aload_n hx hb dX7_record_63 rfl (lv_at hl 1 rfl) ?_
                  refine rg (C := RX7) (T := TX7) (N := 16) (v := .ref (w + 2)) hx hb hT inX7 hown hK hM.1 rfl 1 (by decide) mf_X7_13 rfl dX7_record_64 ?_
                  refine lv_bipush (v := 82) hx hb dX7_record_67 (by decide) ?_
                  refine lv_aload_n hx hb dX7_record_69 rfl (lv_at hl 1 rfl) ?_
                  refine rg (C := RX7) (T := TX7) (N := 16) (v := .int (nI 5)) hx hb hT inX7 hown hK hM.1 rfl 5 (by decide) mf_X7_51 rfl dX7_record_70 ?_
                  refine lv_imul hx hb dX7_record_73 ?_
                  refine lv_iload_n hx hb dX7_record_74 rfl (lv_at hl 0 rfl) ?_
                  refine lv_iadd hx hb dX7_record_75 ?_
                  refine lv_aload_n hx hb dX7_record_76 rfl (lv_at hl 1 rfl) ?_
                  refine rg (C := RX7) (T := TX7) (N := 16) (v := .ref (w + 3)) hx hb hT inX7 hown hK hM.1 rfl 2 (by decide) mf_X7_16 rfl dX7_record_77 ?_
                  refine lv_iload_n hx hb dX7_record_80 rfl (lv_at hl 0 rfl) ?_
                  refine r_ialdS (y := M 2 i) hx hb hK hM.2.2.2.1 i (rfl) (by omega) (Nat.le_of_ble_eq_true rfl) rfl dX7_record_81 ?_
                  refine r_iast hx hb hK hM.2.2.1 (82 * 5 + i) (by rw [show (82 : Int32) = nI 82 from rfl, pk_mul, nI_add]) (by omega) (Nat.le_of_ble_eq_true rfl) hS (show _ ∧ _ from ⟨by omega, by omega⟩) dX7_record_82 (fun H locs h1 o hS => ?_)
                  have hM := hM.a1 h1 o
                  rw [updM_2, updM_eq, cpN_s] at hM
                  refine lv_iinc (v := nI (i + 1)) (lv' := [(2, .int (nI (i + 1))), (0, .ref w), (1, .int x)]) hx hb dX7_record_83 hl (k := 0) rfl (nI_1 i) (by decide) rfl (fun ls hl => ?_)
                  refine lv_goto (tgt := 57) hx hb dX7_record_86 (by decide) ?_
                  exact ih (i + 1) _ _ hS (by omega) hM (by omega) ls (lv_sub hl [0, 1, 2] rfl)
            exact loop 83 0 _ _ hS (by omega) (by rw [cpN_0]; exact (by rw [updM_self (by rfl)]; exact hM)) (by omega) ls (lv_sub hl [0, 1, 2] rfl)
          · have h_i : i < 410 := by
              have h9 : ¬ nI 410 ≤ nI i := cd
              rw [nI_leI (by omega) (by omega)] at h9
              omega
            refine lv_aload_n hx hb dX7_record_24 rfl (lv_at hl 1 rfl) ?_
            refine rg (C := RX7) (T := TX7) (N := 16) (v := .ref (w + 2)) hx hb hT inX7 hown hK hM.1 rfl 1 (by decide) mf_X7_13 rfl dX7_record_25 ?_
            refine lv_iload_n hx hb dX7_record_28 rfl (lv_at hl 0 rfl) ?_
            refine lv_aload_n hx hb dX7_record_29 rfl (lv_at hl 1 rfl) ?_
            refine rg (C := RX7) (T := TX7) (N := 16) (v := .ref (w + 2)) hx hb hT inX7 hown hK hM.1 rfl 1 (by decide) mf_X7_13 rfl dX7_record_30 ?_
            refine lv_bipush (v := 82) hx hb dX7_record_33 (by decide) ?_
            refine lv_iload_n hx hb dX7_record_35 rfl (lv_at hl 0 rfl) ?_
            refine lv_iadd hx hb dX7_record_36 ?_
            have ev : (cpN (M 1) (fun k => M 1 (82 + k)) 0 i) (82 + i) = M 1 (82 + i) := cpN_hi (by omega)
            refine r_ialdS (y := M 1 (82 + i)) hx hb hK hM.2.2.1 (82 + i) (nI_add 82 i) (by omega) (Nat.le_of_ble_eq_true rfl) ev dX7_record_37 ?_
            refine r_iast hx hb hK hM.2.2.1 i (rfl) (by omega) (Nat.le_of_ble_eq_true rfl) hS (show _ ∧ _ from ⟨by omega, by omega⟩) dX7_record_38 (fun H locs h1 o hS => ?_)
            have hM := hM.a1 h1 o
            have es : upd (cpN (M 1) (fun k => M 1 (82 + k)) 0 i) i (M 1 (82 + i)) = cpN (M 1) (fun k => M 1 (82 + k)) 0 (i + 1) := by have h9 := cpN_s (r := M 1) (g := fun k => M 1 (82 + k)) (lo := 0) (n := i); rw [Nat.zero_add] at h9; exact h9
            rw [updM_2, updM_eq, es] at hM
            refine lv_iinc (v := nI (i + 1)) (lv' := [(2, .int (nI (i + 1))), (0, .ref w), (1, .int x)]) hx hb dX7_record_39 hl (k := 0) rfl (nI_1 i) (by decide) rfl (fun ls hl => ?_)
            refine lv_goto (tgt := 17) hx hb dX7_record_42 (by decide) ?_
            exact ih (i + 1) _ _ hS (by omega) hM (by omega) ls (lv_sub hl [0, 1, 2] rfl)
      exact loop 411 0 _ _ hS (by omega) (by rw [cpN_0]; exact (by rw [updM_self rfl]; exact hM)) (by omega) ls (lv_sub hl [0, 1, 2] rfl)
  · have c1 := i32_nle c1
    refine lv_iload_n hx hb dX7_record_4 rfl (lv_at hl 1 rfl) ?_
    exact nd_I hQ hx hb hr hlocks dX7_record_5 hS (⟨rfl, by rw [if_pos c1]; exact hM⟩)
