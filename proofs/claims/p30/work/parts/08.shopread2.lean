/-! what a shop tells, further -/
def stF (r : Nat → Int32) (i : Nat) : Int32 := r (12 + 14 * i + 11)
def ndF (r : Nat → Int32) (i : Nat) (g : Int32) : Int32 := (g * shF r i + 20 - 1) / 20
def abF (r : Nat → Int32) (d : Int32) : Nat → Int32
  | 0 => 0
  | t + 1 => if r (9 + t) < tsS r t d / 20 ∧ abF r d t = 0 then 5 + nI t else abF r d t
def wyB (c a0 a1 a2 b0 b1 b2 : Bool) : Int32 :=
  match c, a0, a1, a2, b0, b1, b2 with
  | false, _, _, _, _, _, _ => 1
  | true, true, _, _, _, _, _ => 2
  | true, false, true, _, _, _, _ => 3
  | true, false, false, true, _, _, _ => 4
  | true, false, false, false, true, _, _ => 5
  | true, false, false, false, false, true, _ => 6
  | true, false, false, false, false, false, true => 7
  | true, false, false, false, false, false, false => 0
theorem wyB_1 {c a0 a1 a2 b0 b1 b2 : Bool} (h : c = false) : 1 = wyB c a0 a1 a2 b0 b1 b2 := by subst h; rfl
theorem wyB_2 {c a0 a1 a2 b0 b1 b2 : Bool} (h : c = true) (h0 : a0 = true) : 2 = wyB c a0 a1 a2 b0 b1 b2 := by subst h h0; rfl
theorem wyB_3 {c a0 a1 a2 b0 b1 b2 : Bool} (h : c = true) (h0 : a0 = false) (h1 : a1 = true) : 3 = wyB c a0 a1 a2 b0 b1 b2 := by subst h h0 h1; rfl
theorem wyB_4 {c a0 a1 a2 b0 b1 b2 : Bool} (h : c = true) (h0 : a0 = false) (h1 : a1 = false) (h2 : a2 = true) : 4 = wyB c a0 a1 a2 b0 b1 b2 := by subst h h0 h1 h2; rfl
theorem wyB_5 {c a0 a1 a2 b0 b1 b2 : Bool} (h : c = true) (h0 : a0 = false) (h1 : a1 = false) (h2 : a2 = false) (g0 : b0 = true) : 5 = wyB c a0 a1 a2 b0 b1 b2 := by subst h h0 h1 h2 g0; rfl
theorem wyB_6 {c a0 a1 a2 b0 b1 b2 : Bool} (h : c = true) (h0 : a0 = false) (h1 : a1 = false) (h2 : a2 = false) (g0 : b0 = false) (g1 : b1 = true) : 6 = wyB c a0 a1 a2 b0 b1 b2 := by subst h h0 h1 h2 g0 g1; rfl
theorem wyB_7 {c a0 a1 a2 b0 b1 b2 : Bool} (h : c = true) (h0 : a0 = false) (h1 : a1 = false) (h2 : a2 = false) (g0 : b0 = false) (g1 : b1 = false) (g2 : b2 = true) : 7 = wyB c a0 a1 a2 b0 b1 b2 := by subst h h0 h1 h2 g0 g1 g2; rfl
theorem wyB_0 {c a0 a1 a2 b0 b1 b2 : Bool} (h : c = true) (h0 : a0 = false) (h1 : a1 = false) (h2 : a2 = false) (g0 : b0 = false) (g1 : b1 = false) (g2 : b2 = false) : 0 = wyB c a0 a1 a2 b0 b1 b2 := by subst h h0 h1 h2 g0 g1 g2; rfl
def whyF (r : Nat → Int32) (d : Int32) : Int32 := wyB (decide (shS r = 20)) (decide (tsS r 0 d / 20 < r 6)) (decide (tsS r 1 d / 20 < r 7)) (decide (tsS r 2 d / 20 < r 8)) (decide (r 9 < tsS r 0 d / 20)) (decide (r 10 < tsS r 1 d / 20)) (decide (r 11 < tsS r 2 d / 20))
theorem whyF_no {r : Nat → Int32} {d : Int32} (h : ¬ shS r = 20) : 1 = whyF r d := wyB_1 (decide_eq_false h)
theorem whyF_low {r : Nat → Int32} {d : Int32} (h : shS r = 20) {t : Nat} (ht : t < 3) (hb : ∀ j, j < t → ¬ tsS r j d / 20 < r (6 + j)) (hl : tsS r t d / 20 < r (6 + t)) : 2 + nI t = whyF r d := by
  have h3 : t = 0 ∨ t = 1 ∨ t = 2 := by omega
  rcases h3 with q | q | q <;> subst q
  · exact (show (2 : Int32) + nI 0 = 2 by decide).trans (wyB_2 (decide_eq_true h) (decide_eq_true hl))
  · exact (show (2 : Int32) + nI 1 = 3 by decide).trans (wyB_3 (decide_eq_true h) (decide_eq_false (hb 0 (by omega))) (decide_eq_true hl))
  · exact (show (2 : Int32) + nI 2 = 4 by decide).trans (wyB_4 (decide_eq_true h) (decide_eq_false (hb 0 (by omega))) (decide_eq_false (hb 1 (by omega))) (decide_eq_true hl))
theorem abF_y {r : Nat → Int32} {d : Int32} {t : Nat} (h : r (9 + t) < tsS r t d / 20) (z : abF r d t = 0) : abF r d (t + 1) = 5 + nI t := if_pos ⟨h, z⟩
theorem abF_n {r : Nat → Int32} {d : Int32} {t : Nat} (h : ¬ r (9 + t) < tsS r t d / 20) : abF r d (t + 1) = abF r d t := if_neg (fun q => h q.1)
theorem abF_m {r : Nat → Int32} {d : Int32} {t : Nat} (z : ¬ abF r d t = 0) : abF r d (t + 1) = abF r d t := if_neg (fun q => z q.2)
theorem whyF_high {r : Nat → Int32} {d : Int32} (h : shS r = 20) (hb : ∀ j, j < 3 → ¬ tsS r j d / 20 < r (6 + j)) : abF r d 3 = whyF r d := by
  have d0 := decide_eq_false (hb 0 (by omega))
  have d1 := decide_eq_false (hb 1 (by omega))
  have d2 := decide_eq_false (hb 2 (by omega))
  have dh := decide_eq_true h
  by_cases h0 : r 9 < tsS r 0 d / 20
  · have e1 : abF r d 1 = 5 := (abF_y (t := 0) h0 rfl).trans (by decide)
    have e2 : abF r d 2 = 5 := (abF_m (t := 1) (by rw [e1]; decide)).trans e1
    exact ((abF_m (t := 2) (by rw [e2]; decide)).trans e2).trans (wyB_5 dh d0 d1 d2 (decide_eq_true h0))
  · have e1 : abF r d 1 = 0 := abF_n (t := 0) h0
    by_cases h1 : r 10 < tsS r 1 d / 20
    · have e2 : abF r d 2 = 6 := (abF_y (t := 1) h1 e1).trans (by decide)
      exact ((abF_m (t := 2) (by rw [e2]; decide)).trans e2).trans (wyB_6 dh d0 d1 d2 (decide_eq_false h0) (decide_eq_true h1))
    · have e2 : abF r d 2 = 0 := (abF_n (t := 1) h1).trans e1
      by_cases h2 : r 11 < tsS r 2 d / 20
      · have e3 : abF r d 3 = 7 := (abF_y (t := 2) h2 e2).trans (by decide)
        exact e3.trans (wyB_7 dh d0 d1 d2 (decide_eq_false h0) (decide_eq_false h1) (decide_eq_true h2))
      · have e3 : abF r d 3 = 0 := (abF_n (t := 2) h2).trans e2
        exact e3.trans (wyB_0 dh d0 d1 d2 (decide_eq_false h0) (decide_eq_false h1) (decide_eq_false h2))
def mkF (r : Nat → Int32) : Nat → Int32
  | 0 => 0
  | n + 1 => if 0 < shF r n then mkF r n ||| (1 <<< (nI n &&& 31)) else mkF r n
def gbF (r : Nat → Int32) : Nat → Int32
  | 0 => 9999
  | n + 1 => if 0 < shF r n then mnI (gbF r n) (stF r n * 20 / shF r n) else gbF r n
def sfP (r : Nat → Int32) (g : Int32) : Prop := ∀ i, i < nlv r → ndF r i g ≤ stF r i
noncomputable def bc (P : Prop) : Int32 := @bi P (Classical.propDecidable P)
theorem bc_t {P : Prop} (h : P) : 1 = bc P := @bi_t P (Classical.propDecidable P) h
theorem bc_f {P : Prop} (h : ¬ P) : 0 = bc P := @bi_f P (Classical.propDecidable P) h
theorem bc_e0 {P : Prop} (h : bc P = 0) : ¬ P := @bi_e0 P (Classical.propDecidable P) h
theorem bc_n0 {P : Prop} (h : ¬ bc P = 0) : P := @bi_n0 P (Classical.propDecidable P) h
def chF (x : Int64) (k : Nat) : Int32 := (x >>> ((5 * nI k).toInt64 &&& 63) &&& 31).toInt32 - 9

set_option maxHeartbeats 4000000 in
set_option maxRecDepth 100000 in
theorem k_X1_gramsFor (l : Launch) (G : GG) (a : Nat) (f : Nat → Int32) (g : Int32)  : Met l yX1_gramsFor (ws_ yX1_gramsFor cX1_gramsFor 2 (some .int)) (rm_ 0) (PC G [.ref a, .int g] (LeafAt G a f)) (vp_Si (fun z => z = (g * f 13 + 20 - 1) / 20)) 0 0 NoA := by
  refine met_q (by decide +kernel) (Nat.le_of_ble_eq_true rfl) ?_
  intro p e s m args below meth c Q hQ hx hb hr hT hown hml hlocks hnm hK hL ls hl
  have hl : lv_has ls 2 [(0, .ref a), (1, .int g)] := hl
  refine lv_iload_n hx hb dX1_gramsFor_0 rfl (lv_at hl 1 rfl) ?_
  refine lv_aload_n hx hb dX1_gramsFor_1 rfl (lv_at hl 0 rfl) ?_
  refine rg (C := RX1) (T := TX1) (N := 6) (v := .int (f 13)) hx hb hT inX1 hown hK hL.1 rfl 3 (by decide) mf_X1_28 rfl dX1_gramsFor_2 ?_
  refine lv_imul hx hb dX1_gramsFor_5 ?_
  refine lv_bipush (v := 20) hx hb dX1_gramsFor_6 (by decide) ?_
  refine lv_iadd hx hb dX1_gramsFor_8 ?_
  refine lv_iconst (v := 1) hx hb dX1_gramsFor_9 (by decide) ?_
  refine lv_isub hx hb dX1_gramsFor_10 ?_
  refine lv_bipush (v := 20) hx hb dX1_gramsFor_11 (by decide) ?_
  refine lv_idiv hx hb dX1_gramsFor_13 (by decide) ?_
  exact nd_i hQ hx hb hr hlocks dX1_gramsFor_14 (rfl)

set_option maxHeartbeats 4000000 in
set_option maxRecDepth 100000 in
theorem k_X5_leavesInBlend (l : Launch) (G : GG) (b : Nat) (r : Nat → Int32)  (hw : WF r) : Met l yX5_leavesInBlend (ws_ yX5_leavesInBlend cX5_leavesInBlend 3 (some .int)) (rm_ 0) (PC G [.ref b] (ShopAt G b r)) (vp_Si (fun z => z = mkF r (nlv r))) 0 0 NoA := by
  refine met_q (by decide +kernel) (Nat.le_of_ble_eq_true rfl) ?_
  intro p e s m args below meth c Q hQ hx hb hr hT hown hml hlocks hnm hK hSh ls hl
  have hl : lv_has ls 3 [(0, .ref b)] := hl
  have hn5 := hw.nl5
  have hnl := hw.nl
  refine lv_iconst (v := 0) hx hb dX5_leavesInBlend_0 (by decide) ?_
  refine lv_istore_n (lv' := [(1, .int 0), (0, .ref b)]) hx hb dX5_leavesInBlend_1 rfl hl (by decide) rfl (fun ls hl => ?_)
  refine lv_iconst (v := 0) hx hb dX5_leavesInBlend_2 (by decide) ?_
  refine lv_istore_n (lv' := [(2, .int 0), (1, .int 0), (0, .ref b)]) hx hb dX5_leavesInBlend_3 rfl hl (by decide) rfl (fun ls hl => ?_)
  have loop : ∀ (k : Nat) (i : Nat), i ≤ nlv r → nlv r - i < k → ∀ ls : Array Slot, lv_has ls 3 [(2, .int (nI i)), (1, .int (mkF r i)), (0, .ref b)] → W p l e (rm_ 0) s m args below meth c s.heap [] 0 0 Q (F0 m 4 ls []) := by
    intro k
    induction k with
    | zero => intro i hi hm; exact absurd hm (Nat.not_lt_zero _)
    | succ k ih =>
      intro i hi hm ls hl
      refine lv_iload_n hx hb dX5_leavesInBlend_4 rfl (lv_at hl 0 rfl) ?_
      refine lv_aload_n hx hb dX5_leavesInBlend_5 rfl (lv_at hl 2 rfl) ?_
      refine rg (C := RX5) (T := TX5) (N := 8) (v := .int (r 5)) hx hb hT inX5 hown hK hSh.1 rfl 4 (by decide) mf_X5_52 rfl dX5_leavesInBlend_6 ?_
      refine lv_icmp_ge (tgt := 36) hx hb dX5_leavesInBlend_9 (by decide) (fun cd => ?_) (fun cd => ?_)
      · have hge : nlv r ≤ i := by
          rw [hnl, nI_leI (by omega) (by omega)] at cd
          exact cd
        have he : i = nlv r := by omega
        subst he
        refine lv_iload_n hx hb dX5_leavesInBlend_36 rfl (lv_at hl 1 rfl) ?_
        exact nd_i hQ hx hb hr hlocks dX5_leavesInBlend_37 (rfl)
      · have hlt : i < nlv r := by
          rw [hnl, nI_leI (by omega) (by omega)] at cd
          omega
        refine lv_aload_n hx hb dX5_leavesInBlend_12 rfl (lv_at hl 2 rfl) ?_
        refine rg (C := RX5) (T := TX5) (N := 8) (v := .ref (b + 1)) hx hb hT inX5 hown hK hSh.1 rfl 0 (by decide) mf_X5_11 rfl dX5_leavesInBlend_13 ?_
        refine lv_iload_n hx hb dX5_leavesInBlend_16 rfl (lv_at hl 0 rfl) ?_
        refine r_aaldS (y := b + 5 + 3 * i) hx hb hK hSh.2.1 rfl rfl i (rfl) (by omega) (Nat.le_of_ble_eq_true rfl) rfl dX5_leavesInBlend_17 ?_
        refine rg (C := RX1) (T := TX1) (N := 6) (v := .int (r (12 + 14 * i + 13))) hx hb hT inX1 hown hK (hSh.leaf (i := i) (by omega)).1 rfl 3 (by decide) mf_X5_109 rfl dX5_leavesInBlend_18 ?_
        refine lv_if_le (tgt := 30) hx hb dX5_leavesInBlend_21 (by decide) (fun cs => ?_) (fun cs => ?_)
        · have es : mkF r (i + 1) = mkF r i := if_neg (by unfold shF; rw [i32_lt_iff]; rw [i32_le_iff] at cs; omega)
          refine lv_iinc (v := nI (i + 1)) (lv' := [(2, .int (nI (i + 1))), (1, .int (mkF r i)), (0, .ref b)]) hx hb dX5_leavesInBlend_30 hl (k := 0) rfl (nI_1 i) (by decide) rfl (fun ls hl => ?_)
          refine lv_goto (tgt := 4) hx hb dX5_leavesInBlend_33 (by decide) ?_
          rw [← es] at hl
          exact ih (i + 1) (by omega) (by omega) ls (lv_sub hl [0, 1, 2] rfl)
        · have es : mkF r (i + 1) = mkF r i ||| (1 <<< (nI i &&& 31)) := if_pos (by unfold shF; rw [i32_lt_iff]; rw [i32_le_iff] at cs; omega)
          refine lv_iload_n hx hb dX5_leavesInBlend_24 rfl (lv_at hl 1 rfl) ?_
          refine lv_iconst (v := 1) hx hb dX5_leavesInBlend_25 (by decide) ?_
          refine lv_iload_n hx hb dX5_leavesInBlend_26 rfl (lv_at hl 0 rfl) ?_
          refine lv_ishl hx hb dX5_leavesInBlend_27 ?_
          refine lv_ior hx hb dX5_leavesInBlend_28 ?_
          refine lv_istore_n (lv' := [(1, .int ((mkF r i) ||| (1 <<< ((nI i) &&& 31)))), (2, .int (nI i)), (0, .ref b)]) hx hb dX5_leavesInBlend_29 rfl hl (by decide) rfl (fun ls hl => ?_)
          refine lv_iinc (v := nI (i + 1)) (lv' := [(2, .int (nI (i + 1))), (1, .int ((mkF r i) ||| (1 <<< ((nI i) &&& 31)))), (0, .ref b)]) hx hb dX5_leavesInBlend_30 hl (k := 1) rfl (nI_1 i) (by decide) rfl (fun ls hl => ?_)
          refine lv_goto (tgt := 4) hx hb dX5_leavesInBlend_33 (by decide) ?_
          rw [← es] at hl
          exact ih (i + 1) (by omega) (by omega) ls (lv_sub hl [0, 1, 2] rfl)
  exact loop (nlv r + 1) 0 (Nat.zero_le _) (by omega) ls hl

set_option maxHeartbeats 4000000 in
set_option maxRecDepth 100000 in
theorem k_X5_gramsByStocks (l : Launch) (G : GG) (b : Nat) (r : Nat → Int32)  (hw : WF r) : Met l yX5_gramsByStocks (ws_ yX5_gramsByStocks cX5_gramsByStocks 3 (some .int)) (rm_ 1) (PC G [.ref b] (ShopAt G b r)) (vp_Si (fun z => z = gbF r (nlv r))) 0 0 NoA := by
  refine met_q (by decide +kernel) (Nat.le_of_ble_eq_true rfl) ?_
  intro p e s m args below meth c Q hQ hx hb hr hT hown hml hlocks hnm hK hSh ls hl
  have hl : lv_has ls 3 [(0, .ref b)] := hl
  have hn5 := hw.nl5
  have hnl := hw.nl
  refine lv_sipush (v := 9999) hx hb dX5_gramsByStocks_0 (by decide) ?_
  refine lv_istore_n (lv' := [(1, .int 9999), (0, .ref b)]) hx hb dX5_gramsByStocks_3 rfl hl (by decide) rfl (fun ls hl => ?_)
  refine lv_iconst (v := 0) hx hb dX5_gramsByStocks_4 (by decide) ?_
  refine lv_istore_n (lv' := [(2, .int 0), (1, .int 9999), (0, .ref b)]) hx hb dX5_gramsByStocks_5 rfl hl (by decide) rfl (fun ls hl => ?_)
  have loop : ∀ (k : Nat) (i : Nat), i ≤ nlv r → nlv r - i < k → ∀ ls : Array Slot, lv_has ls 3 [(2, .int (nI i)), (1, .int (gbF r i)), (0, .ref b)] → W p l e (rm_ 1) s m args below meth c s.heap [] 0 0 Q (F0 m 6 ls []) := by
    intro k
    induction k with
    | zero => intro i hi hm; exact absurd hm (Nat.not_lt_zero _)
    | succ k ih =>
      intro i hi hm ls hl
      refine lv_iload_n hx hb dX5_gramsByStocks_6 rfl (lv_at hl 0 rfl) ?_
      refine lv_aload_n hx hb dX5_gramsByStocks_7 rfl (lv_at hl 2 rfl) ?_
      refine rg (C := RX5) (T := TX5) (N := 8) (v := .int (r 5)) hx hb hT inX5 hown hK hSh.1 rfl 4 (by decide) mf_X5_52 rfl dX5_gramsByStocks_8 ?_
      refine lv_icmp_ge (tgt := 59) hx hb dX5_gramsByStocks_11 (by decide) (fun cd => ?_) (fun cd => ?_)
      · have hge : nlv r ≤ i := by
          rw [hnl, nI_leI (by omega) (by omega)] at cd
          exact cd
        have he : i = nlv r := by omega
        subst he
        refine lv_iload_n hx hb dX5_gramsByStocks_59 rfl (lv_at hl 1 rfl) ?_
        exact nd_i hQ hx hb hr hlocks dX5_gramsByStocks_60 (rfl)
      · have hlt : i < nlv r := by
          rw [hnl, nI_leI (by omega) (by omega)] at cd
          omega
        refine lv_aload_n hx hb dX5_gramsByStocks_14 rfl (lv_at hl 2 rfl) ?_
        refine rg (C := RX5) (T := TX5) (N := 8) (v := .ref (b + 1)) hx hb hT inX5 hown hK hSh.1 rfl 0 (by decide) mf_X5_11 rfl dX5_gramsByStocks_15 ?_
        refine lv_iload_n hx hb dX5_gramsByStocks_18 rfl (lv_at hl 0 rfl) ?_
        refine r_aaldS (y := b + 5 + 3 * i) hx hb hK hSh.2.1 rfl rfl i (rfl) (by omega) (Nat.le_of_ble_eq_true rfl) rfl dX5_gramsByStocks_19 ?_
        refine rg (C := RX1) (T := TX1) (N := 6) (v := .int (r (12 + 14 * i + 13))) hx hb hT inX1 hown hK (hSh.leaf (i := i) (by omega)).1 rfl 3 (by decide) mf_X5_109 rfl dX5_gramsByStocks_20 ?_
        refine lv_if_le (tgt := 53) hx hb dX5_gramsByStocks_23 (by decide) (fun cs => ?_) (fun cs => ?_)
        · have es : gbF r (i + 1) = gbF r i := if_neg (by unfold shF; rw [i32_lt_iff]; rw [i32_le_iff] at cs; omega)
          refine lv_iinc (v := nI (i + 1)) (lv' := [(2, .int (nI (i + 1))), (1, .int (gbF r i)), (0, .ref b)]) hx hb dX5_gramsByStocks_53 hl (k := 0) rfl (nI_1 i) (by decide) rfl (fun ls hl => ?_)
          refine lv_goto (tgt := 6) hx hb dX5_gramsByStocks_56 (by decide) ?_
          rw [← es] at hl
          exact ih (i + 1) (by omega) (by omega) ls (lv_sub hl [0, 1, 2] rfl)
        · have hs0 : 0 < shF r i := by unfold shF; rw [i32_lt_iff]; rw [i32_le_iff] at cs; omega
          have es : gbF r (i + 1) = mnI (gbF r i) (stF r i * 20 / shF r i) := if_pos hs0
          refine lv_iload_n hx hb dX5_gramsByStocks_26 rfl (lv_at hl 1 rfl) ?_
          refine lv_aload_n hx hb dX5_gramsByStocks_27 rfl (lv_at hl 2 rfl) ?_
          refine rg (C := RX5) (T := TX5) (N := 8) (v := .ref (b + 1)) hx hb hT inX5 hown hK hSh.1 rfl 0 (by decide) mf_X5_11 rfl dX5_gramsByStocks_28 ?_
          refine lv_iload_n hx hb dX5_gramsByStocks_31 rfl (lv_at hl 0 rfl) ?_
          refine r_aaldS (y := b + 5 + 3 * i) hx hb hK hSh.2.1 rfl rfl i (rfl) (by omega) (Nat.le_of_ble_eq_true rfl) rfl dX5_gramsByStocks_32 ?_
          refine rg (C := RX1) (T := TX1) (N := 6) (v := .int (r (12 + 14 * i + 11))) hx hb hT inX1 hown hK (hSh.leaf (i := i) (by omega)).1 rfl 1 (by decide) mf_X5_99 rfl dX5_gramsByStocks_33 ?_
          refine lv_bipush (v := 20) hx hb dX5_gramsByStocks_36 (by decide) ?_
          refine lv_imul hx hb dX5_gramsByStocks_38 ?_
          refine lv_aload_n hx hb dX5_gramsByStocks_39 rfl (lv_at hl 2 rfl) ?_
          refine rg (C := RX5) (T := TX5) (N := 8) (v := .ref (b + 1)) hx hb hT inX5 hown hK hSh.1 rfl 0 (by decide) mf_X5_11 rfl dX5_gramsByStocks_40 ?_
          refine lv_iload_n hx hb dX5_gramsByStocks_43 rfl (lv_at hl 0 rfl) ?_
          refine r_aaldS (y := b + 5 + 3 * i) hx hb hK hSh.2.1 rfl rfl i (rfl) (by omega) (Nat.le_of_ble_eq_true rfl) rfl dX5_gramsByStocks_44 ?_
          refine rg (C := RX1) (T := TX1) (N := 6) (v := .int (r (12 + 14 * i + 13))) hx hb hT inX1 hown hK (hSh.leaf (i := i) (by omega)).1 rfl 3 (by decide) mf_X5_109 rfl dX5_gramsByStocks_45 ?_
          refine lv_idiv hx hb dX5_gramsByStocks_48 (fun q => by unfold shF at hs0; rw [q] at hs0; exact absurd hs0 (by decide)) ?_
          refine va_mmin hx hb (hml.trans hl.1.symm) hown (hT _ mm_X5_140) (hT _ mst_J9_min_7cf53) (hT _ mz_J9) (hT _ mc_J9_min_7cf53) (Nat.le_of_ble_eq_true rfl) (Nat.le_of_ble_eq_true rfl) (Nat.zero_le _) (Nat.zero_le _) dX5_gramsByStocks_49 ?_
          refine lv_istore_n (lv' := [(1, .int (if (((r (12 + 14 * i + 11)) * 20) / (r (12 + 14 * i + 13))) < (gbF r i) then (((r (12 + 14 * i + 11)) * 20) / (r (12 + 14 * i + 13))) else (gbF r i))), (2, .int (nI i)), (0, .ref b)]) hx hb dX5_gramsByStocks_52 rfl hl (by decide) rfl (fun ls hl => ?_)
          refine lv_iinc (v := nI (i + 1)) (lv' := [(2, .int (nI (i + 1))), (1, .int (if (((r (12 + 14 * i + 11)) * 20) / (r (12 + 14 * i + 13))) < (gbF r i) then (((r (12 + 14 * i + 11)) * 20) / (r (12 + 14 * i + 13))) else (gbF r i))), (0, .ref b)]) hx hb dX5_gramsByStocks_53 hl (k := 1) rfl (nI_1 i) (by decide) rfl (fun ls hl => ?_)
          refine lv_goto (tgt := 6) hx hb dX5_gramsByStocks_56 (by decide) ?_
          have hl : lv_has ls 3 [(2, .int (nI (i + 1))), (1, .int (gbF r (i + 1))), (0, .ref b)] := by rw [es]; exact hl
          exact ih (i + 1) (by omega) (by omega) ls (lv_sub hl [0, 1, 2] rfl)
  exact loop (nlv r + 1) 0 (Nat.zero_le _) (by omega) ls hl

set_option maxHeartbeats 4000000 in
set_option maxRecDepth 100000 in
theorem k_X5_stocksSuffice (l : Launch) (G : GG) (b : Nat) (r : Nat → Int32) (g : Int32) (hw : WF r) : Met l yX5_stocksSuffice (ws_ yX5_stocksSuffice cX5_stocksSuffice 3 (some .boolean)) (rm_ 1) (PC G [.ref b, .int g] (ShopAt G b r)) (vp_Si (fun z => z = bc (sfP r g))) 0 0 NoA := by
  refine met_q (by decide +kernel) (Nat.le_of_ble_eq_true rfl) ?_
  intro p e s m args below meth c Q hQ hx hb hr hT hown hml hlocks hnm hK hSh ls hl
  have hl : lv_has ls 3 [(0, .ref b), (1, .int g)] := hl
  have hn5 := hw.nl5
  have hnl := hw.nl
  refine lv_iconst (v := 0) hx hb dX5_stocksSuffice_0 (by decide) ?_
  refine lv_istore_n (lv' := [(2, .int 0), (0, .ref b), (1, .int g)]) hx hb dX5_stocksSuffice_1 rfl hl (by decide) rfl (fun ls hl => ?_)
  have loop : ∀ (k : Nat) (i : Nat), i ≤ nlv r → (∀ j, j < i → ndF r j g ≤ stF r j) → nlv r - i < k → ∀ ls : Array Slot, lv_has ls 3 [(2, .int (nI i)), (0, .ref b), (1, .int g)] → W p l e (rm_ 1) s m args below meth c s.heap [] 0 0 Q (F0 m 2 ls []) := by
    intro k
    induction k with
    | zero => intro i hi hb4 hm; exact absurd hm (Nat.not_lt_zero _)
    | succ k ih =>
      intro i hi hb4 hm ls hl
      refine lv_iload_n hx hb dX5_stocksSuffice_2 rfl (lv_at hl 0 rfl) ?_
      refine lv_aload_n hx hb dX5_stocksSuffice_3 rfl (lv_at hl 1 rfl) ?_
      refine rg (C := RX5) (T := TX5) (N := 8) (v := .int (r 5)) hx hb hT inX5 hown hK hSh.1 rfl 4 (by decide) mf_X5_52 rfl dX5_stocksSuffice_4 ?_
      refine lv_icmp_ge (tgt := 40) hx hb dX5_stocksSuffice_7 (by decide) (fun cd => ?_) (fun cd => ?_)
      · have hge : nlv r ≤ i := by
          rw [hnl, nI_leI (by omega) (by omega)] at cd
          exact cd
        have he : i = nlv r := by omega
        subst he
        refine lv_iconst (v := 1) hx hb dX5_stocksSuffice_40 (by decide) ?_
        exact nd_z hQ hx hb hr hlocks dX5_stocksSuffice_41 (by first | exact Or.inl rfl | exact Or.inr rfl) (bc_t hb4)
      · have hlt : i < nlv r := by
          rw [hnl, nI_leI (by omega) (by omega)] at cd
          omega
        refine lv_aload_n hx hb dX5_stocksSuffice_10 rfl (lv_at hl 1 rfl) ?_
        refine rg (C := RX5) (T := TX5) (N := 8) (v := .ref (b + 1)) hx hb hT inX5 hown hK hSh.1 rfl 0 (by decide) mf_X5_11 rfl dX5_stocksSuffice_11 ?_
        refine lv_iload_n hx hb dX5_stocksSuffice_14 rfl (lv_at hl 0 rfl) ?_
        refine r_aaldS (y := b + 5 + 3 * i) hx hb hK hSh.2.1 rfl rfl i (rfl) (by omega) (Nat.le_of_ble_eq_true rfl) rfl dX5_stocksSuffice_15 ?_
        refine lv_iload_n hx hb dX5_stocksSuffice_16 rfl (lv_at hl 2 rfl) ?_
        refine got_i (run_i hx hb hml hown hT hK hl.1 (k_X1_gramsFor l G (b + 5 + 3 * i) (fun k => r (12 + 14 * i + k)) g) (cw_X5_118 hT ⟨Nat.le_of_ble_eq_true rfl, Nat.le_of_ble_eq_true rfl⟩) (hSh.leaf (i := i) (by omega)).1 rfl (hSh.leaf (i := i) (by omega)) rfl rfl (Nat.le_of_ble_eq_true rfl) dX5_stocksSuffice_17 ⟨Nat.zero_le _, Nat.zero_le _⟩) (fun v_1 hv_1 => ?_)
        subst hv_1
        refine lv_aload_n hx hb dX5_stocksSuffice_20 rfl (lv_at hl 1 rfl) ?_
        refine rg (C := RX5) (T := TX5) (N := 8) (v := .ref (b + 1)) hx hb hT inX5 hown hK hSh.1 rfl 0 (by decide) mf_X5_11 rfl dX5_stocksSuffice_21 ?_
        refine lv_iload_n hx hb dX5_stocksSuffice_24 rfl (lv_at hl 0 rfl) ?_
        refine r_aaldS (y := b + 5 + 3 * i) hx hb hK hSh.2.1 rfl rfl i (rfl) (by omega) (Nat.le_of_ble_eq_true rfl) rfl dX5_stocksSuffice_25 ?_
        refine rg (C := RX1) (T := TX1) (N := 6) (v := .int (r (12 + 14 * i + 11))) hx hb hT inX1 hown hK (hSh.leaf (i := i) (by omega)).1 rfl 1 (by decide) mf_X5_99 rfl dX5_stocksSuffice_26 ?_
        refine lv_icmp_le (tgt := 34) hx hb dX5_stocksSuffice_29 (by decide) (fun cs => ?_) (fun cs => ?_)
        · refine lv_iinc (v := nI (i + 1)) (lv' := [(2, .int (nI (i + 1))), (0, .ref b), (1, .int g)]) hx hb dX5_stocksSuffice_34 hl (k := 0) rfl (nI_1 i) (by decide) rfl (fun ls hl => ?_)
          refine lv_goto (tgt := 2) hx hb dX5_stocksSuffice_37 (by decide) ?_
          exact ih (i + 1) (by omega) (lt_s hb4 cs) (by omega) ls (lv_sub hl [0, 1, 2] rfl)
        · refine lv_iconst (v := 0) hx hb dX5_stocksSuffice_32 (by decide) ?_
          exact nd_z hQ hx hb hr hlocks dX5_stocksSuffice_33 (by first | exact Or.inl rfl | exact Or.inr rfl) (bc_f (fun q => cs (q i hlt)))
  exact loop (nlv r + 1) 0 (Nat.zero_le _) (fun j hj => absurd hj (Nat.not_lt_zero _)) (by omega) ls hl

set_option maxHeartbeats 4000000 in
set_option maxRecDepth 100000 in
theorem k_X5_changeIn (l : Launch) (G : GG) (x : Int64) (k : Nat)  : Met l yX5_changeIn (ws_ yX5_changeIn cX5_changeIn 3 (some .int)) (rm_ 0) (PC G [.long x, .int (nI k)] (fun _ => True)) (vp_Si (fun z => z = chF x k)) 0 0 NoA := by
  refine met_q (by decide +kernel) (Nat.le_of_ble_eq_true rfl) ?_
  intro p e s m args below meth c Q hQ hx hb hr hT hown hml hlocks hnm hK _ ls hl
  have hl : lv_has ls 3 [(0, .long x), (2, .int (nI k))] := hl
  refine lv_lload_n hx hb dX5_changeIn_0 rfl (lv_at hl 0 rfl) ?_
  refine lv_iconst (v := 5) hx hb dX5_changeIn_1 (by decide) ?_
  refine lv_iload_n hx hb dX5_changeIn_2 rfl (lv_at hl 1 rfl) ?_
  refine lv_imul hx hb dX5_changeIn_3 ?_
  refine lv_lshr hx hb dX5_changeIn_4 rfl ?_
  refine lv_ldc2 hx hb hown (hT _ mk_X5_97) dX5_changeIn_5 ?_
  refine lv_land hx hb dX5_changeIn_8 ?_
  refine lv_l2i hx hb dX5_changeIn_9 rfl ?_
  refine lv_bipush (v := 9) hx hb dX5_changeIn_10 (by decide) ?_
  refine lv_isub hx hb dX5_changeIn_12 ?_
  exact nd_i hQ hx hb hr hlocks dX5_changeIn_13 (rfl)

set_option maxHeartbeats 4000000 in
set_option maxRecDepth 100000 in
theorem k_X5_whyBroken (l : Launch) (G : GG) (b : Nat) (r : Nat → Int32) (d : Int32) (hw : WF r) : Met l yX5_whyBroken (ws_ yX5_whyBroken cX5_whyBroken 5 (some .int)) (rm_ 3) (PC G [.ref b, .int d] (ShopAt G b r)) (vp_Si (fun z => z = whyF r d)) 0 0 NoA := by
  refine met_q (by decide +kernel) (Nat.le_of_ble_eq_true rfl) ?_
  intro p e s m args below meth c Q hQ hx hb hr hT hown hml hlocks hnm hK hSh ls hl
  have hl : lv_has ls 5 [(0, .ref b), (1, .int d)] := hl
  refine lv_aload_n hx hb dX5_whyBroken_0 rfl (lv_at hl 0 rfl) ?_
  refine got_i (run_i hx hb hml hown hT hK hl.1 (k_X5_allShares l G b r hw) (cw_X5_105 hT ⟨Nat.le_of_ble_eq_true rfl, Nat.le_of_ble_eq_true rfl⟩) hSh.1 rfl hSh rfl rfl (Nat.le_of_ble_eq_true rfl) dX5_whyBroken_1 ⟨Nat.zero_le _, Nat.zero_le _⟩) (fun v_1 hv_1 => ?_)
  subst hv_1
  refine lv_bipush (v := 20) hx hb dX5_whyBroken_4 (by decide) ?_
  refine lv_icmp_eq (tgt := 11) hx hb dX5_whyBroken_6 (by decide) (fun c2 => ?_) (fun c2 => ?_)
  · refine lv_iconst (v := 0) hx hb dX5_whyBroken_11 (by decide) ?_
    refine lv_istore_n (lv' := [(2, .int 0), (0, .ref b), (1, .int d)]) hx hb dX5_whyBroken_12 rfl hl (by decide) rfl (fun ls hl => ?_)
    refine lv_iconst (v := 0) hx hb dX5_whyBroken_13 (by decide) ?_
    refine lv_istore_n (lv' := [(3, .int 0), (2, .int 0), (0, .ref b), (1, .int d)]) hx hb dX5_whyBroken_14 rfl hl (by decide) rfl (fun ls hl => ?_)
    have loop : ∀ (k : Nat) (t : Nat), t ≤ 3 → (∀ j, j < t → ¬ tsS r j d / 20 < r (6 + j)) → 3 - t < k → ∀ ls : Array Slot, lv_has ls 5 [(3, .int (nI t)), (2, .int (abF r d t)), (0, .ref b), (1, .int d)] → W p l e (rm_ 3) s m args below meth c s.heap [] 0 0 Q (F0 m 15 ls []) := by
      intro k
      induction k with
      | zero => intro t ht hb4 hm; exact absurd hm (Nat.not_lt_zero _)
      | succ k ih =>
        intro t ht hb4 hm ls hl
        refine lv_iload_n hx hb dX5_whyBroken_15 rfl (lv_at hl 0 rfl) ?_
        refine lv_iconst (v := 3) hx hb dX5_whyBroken_16 (by decide) ?_
        refine lv_icmp_ge (tgt := 71) hx hb dX5_whyBroken_17 (by decide) (fun cd => ?_) (fun cd => ?_)
        · have e3 : t = 3 := by
            have h9 : nI 3 ≤ nI t := cd
            rw [nI_leI (by omega) (by omega)] at h9
            omega
          subst e3
          refine lv_iload_n hx hb dX5_whyBroken_71 rfl (lv_at hl 1 rfl) ?_
          exact nd_i hQ hx hb hr hlocks dX5_whyBroken_72 (whyF_high c2 hb4)
        · have h3 : t < 3 := by
            have h9 : ¬ nI 3 ≤ nI t := cd
            rw [nI_leI (by omega) (by omega)] at h9
            omega
          refine lv_aload_n hx hb dX5_whyBroken_20 rfl (lv_at hl 2 rfl) ?_
          refine lv_iload_n hx hb dX5_whyBroken_21 rfl (lv_at hl 0 rfl) ?_
          refine lv_iload_n hx hb dX5_whyBroken_22 rfl (lv_at hl 3 rfl) ?_
          refine got_i (run_i hx hb hml hown hT hK hl.1 (k_X5_tasteSum l G b r t d hw h3) (cw_X5_137 hT ⟨Nat.le_of_ble_eq_true rfl, Nat.le_of_ble_eq_true rfl⟩) hSh.1 rfl hSh rfl rfl (Nat.le_of_ble_eq_true rfl) dX5_whyBroken_23 ⟨Nat.zero_le _, Nat.zero_le _⟩) (fun v_2 hv_2 => ?_)
          subst hv_2
          refine lv_bipush (v := 20) hx hb dX5_whyBroken_26 (by decide) ?_
          refine lv_idiv hx hb dX5_whyBroken_28 (by decide) ?_
          refine lv_istore (lv' := [(4, .int ((tsS r t d) / 20)), (3, .int (nI t)), (2, .int (abF r d t)), (0, .ref b), (1, .int d)]) hx hb dX5_whyBroken_29 hl (by decide) rfl (fun ls hl => ?_)
          refine lv_iload hx hb dX5_whyBroken_31 (lv_at hl 0 rfl) ?_
          refine lv_aload_n hx hb dX5_whyBroken_33 rfl (lv_at hl 3 rfl) ?_
          refine rg (C := RX5) (T := TX5) (N := 8) (v := .ref (b + 2)) hx hb hT inX5 hown hK hSh.1 rfl 1 (by decide) mf_X5_17 rfl dX5_whyBroken_34 ?_
          refine lv_iload_n hx hb dX5_whyBroken_37 rfl (lv_at hl 1 rfl) ?_
          refine r_iald hx hb hK hSh.2.2.1 t (rfl) (by omega) (Nat.le_of_ble_eq_true rfl) dX5_whyBroken_38 ?_
          refine lv_icmp_ge (tgt := 46) hx hb dX5_whyBroken_39 (by decide) (fun cl => ?_) (fun cl => ?_)
          · have cl2 : ¬ tsS r t d / 20 < r (6 + t) := by rw [i32_lt_iff]; rw [i32_le_iff] at cl; omega
            refine lv_iload hx hb dX5_whyBroken_46 (lv_at hl 0 rfl) ?_
            refine lv_aload_n hx hb dX5_whyBroken_48 rfl (lv_at hl 3 rfl) ?_
            refine rg (C := RX5) (T := TX5) (N := 8) (v := .ref (b + 3)) hx hb hT inX5 hown hK hSh.1 rfl 2 (by decide) mf_X5_21 rfl dX5_whyBroken_49 ?_
            refine lv_iload_n hx hb dX5_whyBroken_52 rfl (lv_at hl 1 rfl) ?_
            refine r_iald hx hb hK hSh.2.2.2.1 t (rfl) (by omega) (Nat.le_of_ble_eq_true rfl) dX5_whyBroken_53 ?_
            refine lv_icmp_le (tgt := 65) hx hb dX5_whyBroken_54 (by decide) (fun ch => ?_) (fun ch => ?_)
            · have ea : abF r d (t + 1) = abF r d t := if_neg (fun q => by have := q.1; rw [i32_lt_iff] at this; rw [i32_le_iff] at ch; omega)
              refine lv_iinc (v := nI (t + 1)) (lv' := [(3, .int (nI (t + 1))), (4, .int ((tsS r t d) / 20)), (2, .int (abF r d t)), (0, .ref b), (1, .int d)]) hx hb dX5_whyBroken_65 hl (k := 1) rfl (nI_1 t) (by decide) rfl (fun ls hl => ?_)
              refine lv_goto (tgt := 15) hx hb dX5_whyBroken_68 (by decide) ?_
              have hl : lv_has ls 5 [(3, .int (nI (t + 1))), (4, .int ((tsS r t d) / 20)), (2, .int (abF r d (t + 1))), (0, .ref b), (1, .int d)] := by rw [ea]; exact hl
              exact ih (t + 1) (by omega) (lt_s hb4 cl2) (by omega) ls (lv_sub hl [0, 2, 3, 4] rfl)
            · refine lv_iload_n hx hb dX5_whyBroken_57 rfl (lv_at hl 2 rfl) ?_
              refine lv_if_ne (tgt := 65) hx hb dX5_whyBroken_58 (by decide) (fun cz => ?_) (fun cz => ?_)
              · have ea : abF r d (t + 1) = abF r d t := if_neg (fun q => cz q.2)
                refine lv_iinc (v := nI (t + 1)) (lv' := [(3, .int (nI (t + 1))), (4, .int ((tsS r t d) / 20)), (2, .int (abF r d t)), (0, .ref b), (1, .int d)]) hx hb dX5_whyBroken_65 hl (k := 1) rfl (nI_1 t) (by decide) rfl (fun ls hl => ?_)
                refine lv_goto (tgt := 15) hx hb dX5_whyBroken_68 (by decide) ?_
                have hl : lv_has ls 5 [(3, .int (nI (t + 1))), (4, .int ((tsS r t d) / 20)), (2, .int (abF r d (t + 1))), (0, .ref b), (1, .int d)] := by rw [ea]; exact hl
                exact ih (t + 1) (by omega) (lt_s hb4 cl2) (by omega) ls (lv_sub hl [0, 2, 3, 4] rfl)
              · have ea : abF r d (t + 1) = 5 + nI t := if_pos ⟨by rw [i32_lt_iff]; rw [i32_le_iff] at ch; omega, cz⟩
                refine lv_iconst (v := 5) hx hb dX5_whyBroken_61 (by decide) ?_
                refine lv_iload_n hx hb dX5_whyBroken_62 rfl (lv_at hl 1 rfl) ?_
                refine lv_iadd hx hb dX5_whyBroken_63 ?_
                refine lv_istore_n (lv' := [(2, .int (5 + (nI t))), (4, .int ((tsS r t d) / 20)), (3, .int (nI t)), (0, .ref b), (1, .int d)]) hx hb dX5_whyBroken_64 rfl hl (by decide) rfl (fun ls hl => ?_)
                refine lv_iinc (v := nI (t + 1)) (lv' := [(3, .int (nI (t + 1))), (2, .int (5 + (nI t))), (4, .int ((tsS r t d) / 20)), (0, .ref b), (1, .int d)]) hx hb dX5_whyBroken_65 hl (k := 2) rfl (nI_1 t) (by decide) rfl (fun ls hl => ?_)
                refine lv_goto (tgt := 15) hx hb dX5_whyBroken_68 (by decide) ?_
                have hl : lv_has ls 5 [(3, .int (nI (t + 1))), (2, .int (abF r d (t + 1))), (4, .int ((tsS r t d) / 20)), (0, .ref b), (1, .int d)] := by rw [ea]; exact hl
                exact ih (t + 1) (by omega) (lt_s hb4 cl2) (by omega) ls (lv_sub hl [0, 1, 3, 4] rfl)
          · have cl2 : tsS r t d / 20 < r (6 + t) := by rw [i32_lt_iff]; rw [i32_le_iff] at cl; omega
            refine lv_iconst (v := 2) hx hb dX5_whyBroken_42 (by decide) ?_
            refine lv_iload_n hx hb dX5_whyBroken_43 rfl (lv_at hl 1 rfl) ?_
            refine lv_iadd hx hb dX5_whyBroken_44 ?_
            exact nd_i hQ hx hb hr hlocks dX5_whyBroken_45 (whyF_low c2 h3 hb4 cl2)
    exact loop 4 0 (by omega) (fun j hj => absurd hj (Nat.not_lt_zero _)) (by omega) ls (lv_sub hl [0, 1, 2, 3] rfl)
  · refine lv_iconst (v := 1) hx hb dX5_whyBroken_9 (by decide) ?_
    exact nd_i hQ hx hb hr hlocks dX5_whyBroken_10 (whyF_no c2)
