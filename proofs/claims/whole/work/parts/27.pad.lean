/-! long numbers out of natural ones; the characters of a text part -/
def lL (a : Nat) : Int64 := (UInt64.ofNat a).toInt64
theorem lL_of (x : Int64) : x = lL x.toUInt64.toNat := by
  unfold lL
  simp
theorem lL_shr {a k : Nat} (ha : a < 2 ^ 64) (hk : k < 64) : ((lL a).toUInt64 >>> ((nI k).toInt64.toUInt64 &&& Int64.toUInt64 63)).toInt64 = lL (a / 2 ^ k) := by
  have e1 : (nI k).toInt64.toUInt64 &&& Int64.toUInt64 63 = UInt64.ofNat k := by
    have e0 : (nI k).toInt64.toUInt64 = UInt64.ofNat k := by
      have h1 : (nI k).toInt64 = Int64.ofNat k := by
        apply Int64.toInt_inj.mp
        rw [Int32.toInt_toInt64, nI_toInt (by omega), Int64.toInt_ofNat', show (Int64.size : Nat) = 18446744073709551616 from rfl, Int.bmod_eq_of_le (by omega) (by omega)]
      rw [h1]
      rfl
    rw [e0]
    apply UInt64.toNat_inj.mp
    rw [UInt64.toNat_and, UInt64.toNat_ofNat', Nat.mod_eq_of_lt (by omega : k < 2 ^ 64), show (Int64.toUInt64 63).toNat = 2 ^ 6 - 1 from rfl, Nat.and_two_pow_sub_one_eq_mod, Nat.mod_eq_of_lt (by omega)]
  rw [e1]
  show (UInt64.ofNat a >>> UInt64.ofNat k).toInt64 = (UInt64.ofNat (a / 2 ^ k)).toInt64
  congr 1
  apply UInt64.toNat_inj.mp
  rw [UInt64.toNat_shiftRight, UInt64.toNat_ofNat', UInt64.toNat_ofNat', UInt64.toNat_ofNat', Nat.mod_eq_of_lt ha, Nat.mod_eq_of_lt (by omega : k < 2 ^ 64), Nat.mod_eq_of_lt hk, Nat.shiftRight_eq_div_pow, Nat.mod_eq_of_lt (Nat.lt_of_le_of_lt (Nat.div_le_self _ _) ha)]
theorem lL_and {a : Nat} (ha : a < 2 ^ 64) : lL a &&& 255 = lL (a % 256) := by
  show (UInt64.ofNat a &&& Int64.toUInt64 255).toInt64 = (UInt64.ofNat (a % 256)).toInt64
  congr 1
  apply UInt64.toNat_inj.mp
  rw [UInt64.toNat_and, UInt64.toNat_ofNat', UInt64.toNat_ofNat', Nat.mod_eq_of_lt ha, show (Int64.toUInt64 255).toNat = 2 ^ 8 - 1 from rfl, Nat.and_two_pow_sub_one_eq_mod, Nat.mod_eq_of_lt (show a % 256 < 2 ^ 64 by omega)]
theorem lL_toInt {a : Nat} (ha : a < 2 ^ 63) : (lL a).toInt = a := by
  show (Int64.ofNat a).toInt = a
  rw [Int64.toInt_ofNat', show (Int64.size : Nat) = 18446744073709551616 from rfl, Int.bmod_eq_of_le (by omega) (by omega)]
theorem lL_32 {a : Nat} (ha : a < 256) : (lL a).toInt32 = nI a := by
  apply Int32.toInt_inj.mp
  rw [Int64.toInt_toInt32, lL_toInt (by omega), nI_toInt (by omega), Int.bmod_eq_of_le (by omega) (by omega)]
theorem lL_0 {a : Nat} (ha : a < 2 ^ 64) : lg_cmp (lL a) 0 = 0 ↔ a = 0 := by
  have h : lL a = 0 ↔ a = 0 := by
    constructor
    · intro h
      have h2 : (UInt64.ofNat a).toNat = (Int64.toUInt64 0).toNat := congrArg (fun z => z.toUInt64.toNat) h
      rw [UInt64.toNat_ofNat', show (Int64.toUInt64 0).toNat = 0 from rfl] at h2
      rw [Nat.mod_eq_of_lt ha] at h2
      exact h2
    · intro h; subst h; rfl
  rw [← h]
  unfold lg_cmp
  by_cases q : lL a > 0
  · rw [if_pos q]
    constructor
    · intro z; exact absurd z (by decide)
    · intro z; rw [z] at q; exact absurd q (by decide)
  · rw [if_neg q]
    by_cases w : lL a = 0
    · rw [if_pos w]; exact ⟨fun _ => w, fun _ => rfl⟩
    · rw [if_neg w]; exact ⟨fun z => absurd z (by decide), fun z => absurd z w⟩
def cdN (X i : Nat) : Nat := X / 256 ^ i % 256
/-- how many characters a part has, looked at from the last one on; or what it answers -/
def plF (X : Nat) : Nat → Nat → Int32
  | 0, i => nI i
  | f + 1, i => if X / 256 ^ i = 0 then (if i = 0 then -2 else nI i) else if 33 ≤ cdN X i ∧ cdN X i ≤ 126 then plF X f (i + 1) else -2
theorem p256 (i : Nat) : 2 ^ (8 * i) = 256 ^ i := by rw [show 256 = 2 ^ 8 from rfl, ← Nat.pow_mul]
theorem cdN_lt {X i : Nat} : cdN X i < 256 := Nat.mod_lt _ (by omega)
theorem i2c_nI {c : Nat} (hc : c < 256) : ((nI c).toUInt32 % 65536).toInt32 = nI c := by
  have e : (nI c).toUInt32 % 65536 = UInt32.ofNat c := by
    apply UInt32.toNat_inj.mp
    show ((UInt32.ofNat c) % 65536).toNat = _
    rw [UInt32.toNat_mod, UInt32.toNat_ofNat', Nat.mod_eq_of_lt (by omega : c < 2 ^ 32), show (65536 : UInt32).toNat = 65536 from rfl, Nat.mod_eq_of_lt (by omega)]
  rw [e]
  rfl
theorem nar_c {c : Nat} (hc : c < 256) : vp_nar .char (nI c) = nI c := i2c_nI hc
/-- the text with the part behind it -/
def apT (T : Nat → Int32) (n X k : Nat) : Nat → Nat → Int32 := fun j i => if n ≤ i ∧ i < n + j then nI (cdN X (k - 1 - (i - n))) else T i
theorem apT_0 {T : Nat → Int32} {n X k : Nat} : apT T n X k 0 = T := by
  funext i
  exact if_neg (by omega)
theorem apT_s {T : Nat → Int32} {n X k j : Nat} : upd (apT T n X k j) (n + j) (nI (cdN X (k - 1 - j))) = apT T n X k (j + 1) := by
  funext i
  simp only [upd, apT]
  by_cases q : i = n + j
  · subst q
    rw [if_pos rfl, if_pos (by omega), show n + j - n = j by omega]
  · rw [if_neg q]
    by_cases w : n ≤ i ∧ i < n + j
    · rw [if_pos w, if_pos (by omega)]
    · rw [if_neg w, if_neg (by omega)]
def PadAt (G : GG) (z : Nat) (T : Nat → Int32) (n : Int32) (H : Heap) : Prop := ob G 3 z [.ref (z + 1), .int n] H ∧ ar G 1 (z + 1) (iA 80 T) H
theorem PadAt.kept {G : GG} {z : Nat} {T : Nat → Int32} {n : Int32} {H H1 : Heap} (h : PadAt G z T n H) (e : ∀ q, z ≤ q → q < z + 2 → H1[q]? = H[q]?) : PadAt G z T n H1 := ⟨h.1.kept (e _ (by omega) (by omega)), h.2.kept (e _ (by omega) (by omega))⟩
theorem PadAt.top {G : GG} {z : Nat} {T : Nat → Int32} {n : Int32} {H : Heap} (h : PadAt G z T n H) : z + 1 < H.size := h.2.lt
theorem PadAt.len {G : GG} {z : Nat} {T : Nat → Int32} {n v : Int32} {H H1 : Heap} (h : PadAt G z T n H) (h1 : ob G 3 z [.ref (z + 1), .int v] H1) (o : Oq z H H1) : PadAt G z T v H1 := ⟨h1, h.2.kept (o.2 _ (by omega))⟩
theorem PadAt.chr {G : GG} {z : Nat} {T f : Nat → Int32} {n : Int32} {H H1 : Heap} (h : PadAt G z T n H) (h1 : ar G 1 (z + 1) (iA 80 f) H1) (o : Oq (z + 1) H H1) : PadAt G z f n H1 := ⟨h.1.kept (o.2 _ (by omega)), h1⟩

set_option maxHeartbeats 4000000 in
set_option maxRecDepth 100000 in
theorem k_X3_codeIn (l : Launch) (G : GG) (X i : Nat) (hX : X < 2 ^ 64) (hi : i < 8) : Met l yX3_codeIn (ws_ yX3_codeIn cX3_codeIn 3 (some .int)) (rm_ 0) (PC G [.long (lL X), .int (nI i)] (fun _ => True)) (vp_Si (fun v => v = nI (cdN X i))) 0 0 NoA := by
  refine met_q (by decide +kernel) (Nat.le_of_ble_eq_true rfl) ?_
  intro p e s m args below meth c Q hQ hx hb hr hT hown hml hlocks hnm hK hP ls hl
  have hl : lv_has ls 3 [(0, .long (lL X)), (2, .int (nI i))] := hl
  refine lv_lload_n hx hb dX3_codeIn_0 rfl (lv_at hl 0 rfl) ?_
  refine lv_bipush (v := 8) hx hb dX3_codeIn_1 (by decide) ?_
  refine lv_iload_n hx hb dX3_codeIn_3 rfl (lv_at hl 1 rfl) ?_
  refine lv_imul hx hb dX3_codeIn_4 ?_
  rw [show (8 : Int32) * nI i = nI (8 * i) from pk_mul 8 i]
  refine lv_lushr hx hb dX3_codeIn_5 rfl ?_
  rw [lL_shr hX (by omega), p256]
  refine lv_ldc2 hx hb hown (hT _ mk_X3_27) dX3_codeIn_6 ?_
  refine lv_land hx hb dX3_codeIn_9 ?_
  rw [lL_and (Nat.lt_of_le_of_lt (Nat.div_le_self _ _) hX)]
  refine lv_l2i hx hb dX3_codeIn_10 rfl ?_
  rw [lL_32 (Nat.mod_lt _ (by omega))]
  exact nd_i hQ hx hb hr hlocks dX3_codeIn_11 (rfl)

set_option maxHeartbeats 4000000 in
set_option maxRecDepth 100000 in
theorem k_X3_lengthOf (l : Launch) (G : GG) (X : Nat) (hX : X < 2 ^ 64) : Met l yX3_lengthOf (ws_ yX3_lengthOf cX3_lengthOf 4 (some .int)) (rm_ 1) (PC G [.long (lL X)] (fun _ => True)) (vp_Si (fun v => v = plF X 8 0)) 0 0 NoA := by
  refine met_q (by decide +kernel) (Nat.le_of_ble_eq_true rfl) ?_
  intro p e s m args below meth c Q hQ hx hb hr hT hown hml hlocks hnm hK hP ls hl
  have hl : lv_has ls 4 [(0, .long (lL X))] := hl
  refine lv_iconst (v := 0) hx hb dX3_lengthOf_0 (by decide) ?_
  refine lv_istore_n (lv' := [(2, .int 0), (0, .long (lL X))]) hx hb dX3_lengthOf_1 rfl hl (by decide) rfl (fun ls hl => ?_)
  have loop : ∀ (k : Nat) (i : Nat), i ≤ 8 → plF X (8 - i) i = plF X 8 0 → 8 - i < k → ∀ ls : Array Slot, lv_has ls 4 [(2, .int (nI i)), (0, .long (lL X))] → W p l e (rm_ 1) s m args below meth c s.heap [] 0 0 Q (F0 m 2 ls []) := by
    intro k
    induction k with
    | zero => intro i hi hf hm; exact absurd hm (Nat.not_lt_zero _)
    | succ k ih =>
      intro i hi hf hm ls hl
      refine lv_iload_n hx hb dX3_lengthOf_2 rfl (lv_at hl 0 rfl) ?_
      refine lv_bipush (v := 8) hx hb dX3_lengthOf_3 (by decide) ?_
      refine lv_icmp_ge (tgt := 61) hx hb dX3_lengthOf_5 (by decide) (fun cd => ?_) (fun cd => ?_)
      · have he : i = 8 := by
          have h9 : nI 8 ≤ nI i := cd
          rw [nI_leI (by omega) (by omega)] at h9
          omega
        subst he
        refine lv_bipush (v := 8) hx hb dX3_lengthOf_61 (by decide) ?_
        exact nd_i hQ hx hb hr hlocks dX3_lengthOf_63 (hf)
      · have hlt : i < 8 := by
          have h9 : ¬ nI 8 ≤ nI i := cd
          rw [nI_leI (by omega) (by omega)] at h9
          omega
        obtain ⟨f, hff⟩ : ∃ z, 8 - i = z + 1 := ⟨7 - i, by omega⟩
        rw [hff] at hf
        have hf : (if X / 256 ^ i = 0 then (if i = 0 then -2 else nI i) else if 33 ≤ cdN X i ∧ cdN X i ≤ 126 then plF X f (i + 1) else -2) = plF X 8 0 := hf
        have hc := cdN_lt (X := X) (i := i)
        have hXi : X / 256 ^ i < 2 ^ 64 := Nat.lt_of_le_of_lt (Nat.div_le_self _ _) hX
        refine lv_lload_n hx hb dX3_lengthOf_8 rfl (lv_at hl 1 rfl) ?_
        refine lv_iload_n hx hb dX3_lengthOf_9 rfl (lv_at hl 0 rfl) ?_
        refine got_i (run_s hx hb hml hown hT hK hl.1 (k_X3_codeIn l G X i hX hlt) (cw_X3_23 hT ⟨Nat.le_of_ble_eq_true rfl, Nat.le_of_ble_eq_true rfl⟩) trivial rfl rfl (Nat.le_of_ble_eq_true rfl) dX3_lengthOf_10 ⟨Nat.zero_le _, Nat.zero_le _⟩) (fun v_1 hv_1 => ?_)
        subst hv_1
        refine lv_istore_n (lv' := [(3, .int (nI (cdN X i))), (2, .int (nI i)), (0, .long (lL X))]) hx hb dX3_lengthOf_13 rfl hl (by decide) rfl (fun ls hl => ?_)
        refine lv_iload_n hx hb dX3_lengthOf_14 rfl (lv_at hl 0 rfl) ?_
        refine lv_if_ne (tgt := 40) hx hb dX3_lengthOf_15 (by decide) (fun c2 => ?_) (fun c2 => ?_)
        · have hc0 : cdN X i ≠ 0 := fun z => c2 (by rw [z]; rfl)
          have hx0 : ¬ X / 256 ^ i = 0 := fun z => hc0 (by unfold cdN; rw [z])
          rw [if_neg hx0] at hf
          refine lv_iload_n hx hb dX3_lengthOf_40 rfl (lv_at hl 0 rfl) ?_
          refine lv_bipush (v := 33) hx hb dX3_lengthOf_41 (by decide) ?_
          refine lv_icmp_lt (tgt := 52) hx hb dX3_lengthOf_43 (by decide) (fun c3 => ?_) (fun c3 => ?_)
          · have h3 : cdN X i < 33 := (nI_ltI (by omega) (by omega)).mp c3
            rw [if_neg (by omega)] at hf
            refine lv_bipush (v := (-2)) hx hb dX3_lengthOf_52 (by decide) ?_
            exact nd_i hQ hx hb hr hlocks dX3_lengthOf_54 (hf)
          · have h3 : ¬ cdN X i < 33 := fun z => c3 ((nI_ltI (a := cdN X i) (b := 33) (by omega) (by omega)).mpr z)
            refine lv_iload_n hx hb dX3_lengthOf_46 rfl (lv_at hl 0 rfl) ?_
            refine lv_bipush (v := 126) hx hb dX3_lengthOf_47 (by decide) ?_
            refine lv_icmp_le (tgt := 55) hx hb dX3_lengthOf_49 (by decide) (fun c4 => ?_) (fun c4 => ?_)
            · have h4 : cdN X i ≤ 126 := (nI_leI (by omega) (by omega)).mp c4
              rw [if_pos (by omega), show f = 8 - (i + 1) by omega] at hf
              refine lv_iinc (v := nI (i + 1)) (lv' := [(2, .int (nI (i + 1))), (3, .int (nI (cdN X i))), (0, .long (lL X))]) hx hb dX3_lengthOf_55 hl (k := 1) rfl (nI_1 i) (by decide) rfl (fun ls hl => ?_)
              refine lv_goto (tgt := 2) hx hb dX3_lengthOf_58 (by decide) ?_
              exact ih (i + 1) (by omega) hf (by omega) ls (lv_sub hl [0, 2] rfl)
            · have h4 : ¬ cdN X i ≤ 126 := fun z => c4 ((nI_leI (a := cdN X i) (b := 126) (by omega) (by omega)).mpr z)
              rw [if_neg (by omega)] at hf
              refine lv_bipush (v := (-2)) hx hb dX3_lengthOf_52 (by decide) ?_
              exact nd_i hQ hx hb hr hlocks dX3_lengthOf_54 (hf)
        · have hc0 : cdN X i = 0 := (nI_e0 (by omega)).mp c2
          refine lv_iload_n hx hb dX3_lengthOf_18 rfl (lv_at hl 1 rfl) ?_
          refine lv_if_le (tgt := 37) hx hb dX3_lengthOf_19 (by decide) (fun c3 => ?_) (fun c3 => ?_)
          · have hi0 : i = 0 := by
              have h9 : nI i ≤ nI 0 := c3
              rw [nI_leI (by omega) (by omega)] at h9
              omega
            have hr9 : -2 = plF X 8 0 := by
              rw [← hf]
              by_cases w : X / 256 ^ i = 0
              · rw [if_pos w, if_pos hi0]
              · rw [if_neg w, if_neg (by omega)]
            refine lv_bipush (v := (-2)) hx hb dX3_lengthOf_37 (by decide) ?_
            exact nd_i hQ hx hb hr hlocks dX3_lengthOf_39 (hr9)
          · have hi0 : ¬ i = 0 := fun z => c3 (by rw [z]; decide)
            refine lv_lload_n hx hb dX3_lengthOf_22 rfl (lv_at hl 2 rfl) ?_
            refine lv_bipush (v := 8) hx hb dX3_lengthOf_23 (by decide) ?_
            refine lv_iload_n hx hb dX3_lengthOf_25 rfl (lv_at hl 1 rfl) ?_
            refine lv_imul hx hb dX3_lengthOf_26 ?_
            rw [show (8 : Int32) * nI i = nI (8 * i) from pk_mul 8 i]
            refine lv_lushr hx hb dX3_lengthOf_27 rfl ?_
            rw [lL_shr hX (by omega), p256]
            refine lv_lconst (v := 0) hx hb dX3_lengthOf_28 (by decide) ?_
            refine W.lcmp hx hb dX3_lengthOf_29 ?_
            refine lv_if_ne (tgt := 37) hx hb dX3_lengthOf_30 (by decide) (fun c4 => ?_) (fun c4 => ?_)
            · have hx0 : ¬ X / 256 ^ i = 0 := fun z => c4 ((lL_0 hXi).mpr z)
              rw [if_neg hx0, if_neg (by omega)] at hf
              refine lv_bipush (v := (-2)) hx hb dX3_lengthOf_37 (by decide) ?_
              exact nd_i hQ hx hb hr hlocks dX3_lengthOf_39 (hf)
            · have hx0 : X / 256 ^ i = 0 := (lL_0 hXi).mp c4
              rw [if_pos hx0, if_neg hi0] at hf
              refine lv_iload_n hx hb dX3_lengthOf_33 rfl (lv_at hl 1 rfl) ?_
              refine lv_goto (tgt := 39) hx hb dX3_lengthOf_34 (by decide) ?_
              exact nd_i hQ hx hb hr hlocks dX3_lengthOf_39 (hf)
  exact loop 9 0 (by omega) rfl (by omega) ls (lv_sub hl [0, 1] rfl)

set_option maxHeartbeats 4000000 in
set_option maxRecDepth 100000 in
theorem k_X3_empty (l : Launch) (G : GG) (z : Nat) (T : Nat → Int32) (n : Nat)  : Met l yX3_empty (ws_ yX3_empty cX3_empty 2 (some .int)) (rm_ 0) (PC G [.ref z] (PadAt G z T (nI n))) (QI (fun v H => v = nI n ∧ PadAt G z T 0 H) (In z 2)) 0 0 (In z 2) := by
  refine met_q (by decide +kernel) (Nat.le_of_ble_eq_true rfl) ?_
  intro p e s m args below meth c Q hQ hx hb hr hT hown hml hlocks hnm hK hP ls hl
  have hl : lv_has ls 2 [(0, .ref z)] := hl
  have hS : va_S (In z 2) s.heap s.heap [] := va_S.rf
  refine lv_aload_n hx hb dX3_empty_0 rfl (lv_at hl 0 rfl) ?_
  refine rg (C := RX3) (T := TX3) (N := 2) (v := .int (nI n)) hx hb hT inX3 hown hK hP.1 rfl 1 (by decide) mf_X3_19 rfl dX3_empty_1 ?_
  refine lv_istore_n (lv' := [(1, .int (nI n)), (0, .ref z)]) hx hb dX3_empty_4 rfl hl (by decide) rfl (fun ls hl => ?_)
  refine lv_aload_n hx hb dX3_empty_5 rfl (lv_at hl 1 rfl) ?_
  refine lv_iconst (v := 0) hx hb dX3_empty_6 (by decide) ?_
  refine rp (C := RX3) (T := TX3) (N := 2) (v := .int 0) (ty := .int) hx hb hT inX3 tyX3 tyX3_ok nmX3 hown hK hP.1 rfl 1 (by decide) mf_X3_19 rfl (by decide +kernel) rfl rfl (Nat.le_of_ble_eq_true rfl) hS (show _ ∧ _ from ⟨by omega, by omega⟩) dX3_empty_7 (fun H locs h1 o hS => ?_)
  have hP := hP.len h1 o
  refine lv_iload_n hx hb dX3_empty_10 rfl (lv_at hl 0 rfl) ?_
  exact nd_I hQ hx hb hr hlocks dX3_empty_11 hS (⟨rfl, hP⟩)


/-- what a part does to the text: the answer, the text, its length -/
def puA (n : Nat) (X : Nat) : Int32 := if plF X 8 0 < 0 then plF X 8 0 else if 80 < n + (plF X 8 0).toInt.toNat then -4 else nI (n + (plF X 8 0).toInt.toNat)
def puT (T : Nat → Int32) (n X : Nat) : Nat → Int32 := if plF X 8 0 < 0 then T else if 80 < n + (plF X 8 0).toInt.toNat then T else apT T n X (plF X 8 0).toInt.toNat (plF X 8 0).toInt.toNat
def puN (n X : Nat) : Nat := if plF X 8 0 < 0 then n else if 80 < n + (plF X 8 0).toInt.toNat then n else n + (plF X 8 0).toInt.toNat
theorem pl_cases (X : Nat) : ∀ f i, f + i = 8 → plF X f i = -2 ∨ ∃ k, k ≤ 8 ∧ plF X f i = nI k
  | 0, i, h => Or.inr ⟨i, by omega, rfl⟩
  | f + 1, i, h => by
    show (if X / 256 ^ i = 0 then (if i = 0 then -2 else nI i) else if 33 ≤ cdN X i ∧ cdN X i ≤ 126 then plF X f (i + 1) else -2) = -2 ∨ ∃ k, k ≤ 8 ∧ (if X / 256 ^ i = 0 then (if i = 0 then -2 else nI i) else if 33 ≤ cdN X i ∧ cdN X i ≤ 126 then plF X f (i + 1) else -2) = nI k
    by_cases q : X / 256 ^ i = 0
    · rw [if_pos q]
      by_cases w : i = 0
      · rw [if_pos w]; exact Or.inl rfl
      · rw [if_neg w]; exact Or.inr ⟨i, by omega, rfl⟩
    · rw [if_neg q]
      by_cases w : 33 ≤ cdN X i ∧ cdN X i ≤ 126
      · rw [if_pos w]; exact pl_cases X f (i + 1) (by omega)
      · rw [if_neg w]; exact Or.inl rfl
theorem pu_neg {T : Nat → Int32} {n X : Nat} (h : plF X 8 0 < 0) : puA n X = plF X 8 0 ∧ puT T n X = T ∧ puN n X = n := ⟨if_pos h, if_pos h, if_pos h⟩
theorem pu_big {T : Nat → Int32} {n X k : Nat} (e : plF X 8 0 = nI k) (hk : k ≤ 8) (h : 80 < n + k) : puA n X = -4 ∧ puT T n X = T ∧ puN n X = n := by
  have h0 : ¬ plF X 8 0 < 0 := by rw [e]; exact nI_pos (by omega)
  have ek : (plF X 8 0).toInt.toNat = k := by rw [e, nIt (by omega)]
  unfold puA puT puN
  rw [if_neg h0, if_neg h0, if_neg h0, ek, if_pos h, if_pos h, if_pos h]
  exact ⟨rfl, rfl, rfl⟩
theorem pu_ok {T : Nat → Int32} {n X k : Nat} (e : plF X 8 0 = nI k) (hk : k ≤ 8) (h : ¬ 80 < n + k) : puA n X = nI (n + k) ∧ puT T n X = apT T n X k k ∧ puN n X = n + k := by
  have h0 : ¬ plF X 8 0 < 0 := by rw [e]; exact nI_pos (by omega)
  have ek : (plF X 8 0).toInt.toNat = k := by rw [e, nIt (by omega)]
  unfold puA puT puN
  rw [if_neg h0, if_neg h0, if_neg h0, ek, if_neg h, if_neg h, if_neg h]
  exact ⟨rfl, rfl, rfl⟩

set_option maxHeartbeats 4000000 in
set_option maxRecDepth 100000 in
theorem k_X3_append (l : Launch) (G : GG) (z : Nat) (T : Nat → Int32) (n X : Nat) (hX : X < 2 ^ 64) (hn : n ≤ 80) : Met l yX3_append (ws_ yX3_append cX3_append 5 (some .int)) (rm_ 2) (PC G [.ref z, .long (lL X)] (PadAt G z T (nI n))) (QI (fun v H => v = puA n X ∧ PadAt G z (puT T n X) (nI (puN n X)) H) (In z 2)) 0 0 (In z 2) := by
  refine met_q (by decide +kernel) (Nat.le_of_ble_eq_true rfl) ?_
  intro p e s m args below meth c Q hQ hx hb hr hT hown hml hlocks hnm hK hP ls hl
  have hl : lv_has ls 5 [(0, .ref z), (1, .long (lL X))] := hl
  have hS : va_S (In z 2) s.heap s.heap [] := va_S.rf
  refine lv_lload_n hx hb dX3_append_0 rfl (lv_at hl 1 rfl) ?_
  refine got_i (run_s hx hb hml hown hT hK hl.1 (k_X3_lengthOf l G X hX) (cw_X3_15 hT ⟨Nat.le_of_ble_eq_true rfl, Nat.le_of_ble_eq_true rfl⟩) trivial rfl rfl (Nat.le_of_ble_eq_true rfl) dX3_append_1 ⟨Nat.zero_le _, Nat.zero_le _⟩) (fun v_1 hv_1 => ?_)
  subst hv_1
  refine lv_istore_n (lv' := [(3, .int (plF X 8 0)), (0, .ref z), (1, .long (lL X))]) hx hb dX3_append_4 rfl hl (by decide) rfl (fun ls hl => ?_)
  refine lv_iload_n hx hb dX3_append_5 rfl (lv_at hl 0 rfl) ?_
  refine lv_if_ge (tgt := 11) hx hb dX3_append_6 (by decide) (fun c1 => ?_) (fun c1 => ?_)
  · obtain ⟨w0, hk8, hke⟩ : ∃ k, k ≤ 8 ∧ plF X 8 0 = nI k := by
      rcases pl_cases X 8 0 rfl with h | h
      · rw [h] at c1; exact absurd c1 (by decide)
      · exact h
    rw [hke] at hl
    refine lv_aload_n hx hb dX3_append_11 rfl (lv_at hl 1 rfl) ?_
    refine rg (C := RX3) (T := TX3) (N := 2) (v := .int (nI n)) hx hb hT inX3 hown hK hP.1 rfl 1 (by decide) mf_X3_19 rfl dX3_append_12 ?_
    refine lv_iload_n hx hb dX3_append_15 rfl (lv_at hl 0 rfl) ?_
    refine lv_iadd hx hb dX3_append_16 ?_
    rw [nI_add]
    refine lv_bipush (v := 80) hx hb dX3_append_17 (by decide) ?_
    refine lv_icmp_le (tgt := 25) hx hb dX3_append_19 (by decide) (fun c2 => ?_) (fun c2 => ?_)
    · have hle : n + w0 ≤ 80 := (nI_leI (b := 80) (by omega) (by omega)).mp c2
      obtain ⟨p1, p2, p3⟩ := pu_ok (T := T) (n := n) hke hk8 (by omega)
      rw [p1, p2, p3] at hQ
      refine lv_iload_n hx hb dX3_append_25 rfl (lv_at hl 0 rfl) ?_
      refine lv_iconst (v := 1) hx hb dX3_append_26 (by decide) ?_
      refine lv_isub hx hb dX3_append_27 ?_
      have loop : ∀ (k : Nat) (q : Nat) (j : Nat) (H : Heap) (locs : List Loc), va_S (In z 2) s.heap H locs → q + j = w0 → PadAt G z (apT T n X w0 j) (nI (n + j)) H → q < k → ∀ ls : Array Slot, lv_has ls 5 [(4, .int (nI q - 1)), (3, .int (nI w0)), (0, .ref z), (1, .long (lL X))] → W p l e (rm_ 2) s m args below meth c H locs 0 0 Q (F0 m 30 ls []) := by
        intro k
        induction k with
        | zero => intro q j H locs hS hqj hP hm; exact absurd hm (Nat.not_lt_zero _)
        | succ k ih =>
          intro q j H locs hS hqj hP hm ls hl
          have hs1 : 0 < q → nI q - 1 = nI (q - 1) := fun h => pk_sub (b := 1) h
          refine lv_iload hx hb dX3_append_30 (lv_at hl 0 rfl) ?_
          refine lv_if_lt (tgt := 67) hx hb dX3_append_32 (by decide) (fun c4 => ?_) (fun c4 => ?_)
          · have hq0 : q = 0 := by
              rcases Nat.eq_zero_or_pos q with h | h
              · exact h
              · rw [hs1 h] at c4
                exact absurd c4 (nI_pos (by omega))
            subst hq0
            have hjk : w0 = j := by omega
            subst hjk
            refine lv_aload_n hx hb dX3_append_67 rfl (lv_at hl 2 rfl) ?_
            refine rg (C := RX3) (T := TX3) (N := 2) (v := .int (nI (n + w0))) hx hb hT inX3 hown hK hP.1 rfl 1 (by decide) mf_X3_19 rfl dX3_append_68 ?_
            exact nd_I hQ hx hb hr hlocks dX3_append_71 hS (⟨rfl, hP⟩)
          · have hqp : 0 < q := by
              rcases Nat.eq_zero_or_pos q with h | h
              · rw [h] at c4
                exact absurd (by decide) c4
              · exact h
            rw [hs1 hqp] at hl
            obtain ⟨s0, hs0⟩ : ∃ z, z = q - 1 := ⟨_, rfl⟩
            rw [← hs0] at hl
            have hqs : q = s0 + 1 := by omega
            subst hqs
            have hsk : s0 = w0 - 1 - j := by omega
            refine lv_aload_n hx hb dX3_append_35 rfl (lv_at hl 2 rfl) ?_
            refine rg (C := RX3) (T := TX3) (N := 2) (v := .ref (z + 1)) hx hb hT inX3 hown hK hP.1 rfl 0 (by decide) mf_X3_9 rfl dX3_append_36 ?_
            refine lv_aload_n hx hb dX3_append_39 rfl (lv_at hl 2 rfl) ?_
            refine rg (C := RX3) (T := TX3) (N := 2) (v := .int (nI (n + j))) hx hb hT inX3 hown hK hP.1 rfl 1 (by decide) mf_X3_19 rfl dX3_append_40 ?_
            refine lv_lload_n hx hb dX3_append_43 rfl (lv_at hl 3 rfl) ?_
            refine lv_iload hx hb dX3_append_44 (lv_at hl 0 rfl) ?_
            refine got_i (run_s hx hb hml hown hT hK hl.1 (k_X3_codeIn l G X s0 hX (by omega)) (cw_X3_23 hT ⟨Nat.le_of_ble_eq_true rfl, Nat.le_of_ble_eq_true rfl⟩) trivial rfl rfl (Nat.le_of_ble_eq_true rfl) dX3_append_46 ⟨Nat.zero_le _, Nat.zero_le _⟩) (fun v_2 hv_2 => ?_)
            subst hv_2
            refine lv_i2c hx hb dX3_append_49 rfl ?_
            rw [i2c_nI cdN_lt, hsk]
            refine r_cast hx hb hK hP.2 (n + j) (rfl) (by omega) (Nat.le_of_ble_eq_true rfl) (nar_c cdN_lt) hS (show _ ∧ _ from ⟨by omega, by omega⟩) dX3_append_50 (fun H locs h1 o hS => ?_)
            have hP := hP.chr h1 o
            rw [apT_s] at hP
            refine lv_aload_n hx hb dX3_append_51 rfl (lv_at hl 2 rfl) ?_
            refine lv_dup hx hb dX3_append_52 rfl ?_
            refine rg (C := RX3) (T := TX3) (N := 2) (v := .int (nI (n + j))) hx hb hT inX3 hown hK hP.1 rfl 1 (by decide) mf_X3_19 rfl dX3_append_53 ?_
            refine lv_iconst (v := 1) hx hb dX3_append_56 (by decide) ?_
            refine lv_iadd hx hb dX3_append_57 ?_
            rw [nI_1]
            refine rp (C := RX3) (T := TX3) (N := 2) (v := .int (nI (n + j + 1))) (ty := .int) hx hb hT inX3 tyX3 tyX3_ok nmX3 hown hK hP.1 rfl 1 (by decide) mf_X3_19 rfl (by decide +kernel) rfl rfl (Nat.le_of_ble_eq_true rfl) hS (show _ ∧ _ from ⟨by omega, by omega⟩) dX3_append_58 (fun H locs h1 o hS => ?_)
            have hP : PadAt G z (apT T n X w0 (j + 1)) (nI (n + (j + 1))) H := hP.len h1 o
            refine lv_iinc (v := nI s0 - 1) (lv' := [(4, .int (nI s0 - 1)), (3, .int (nI w0)), (0, .ref z), (1, .long (lL X))]) hx hb dX3_append_61 hl (k := 0) rfl (i_m1 _) (by decide) rfl (fun ls hl => ?_)
            refine lv_goto (tgt := 30) hx hb dX3_append_64 (by decide) ?_
            exact ih s0 (j + 1) _ _ hS (by omega) hP (by omega) ls (lv_sub hl [0, 1, 2, 3] rfl)
      refine lv_istore (lv' := [(4, .int (nI w0 - 1)), (3, .int (nI w0)), (0, .ref z), (1, .long (lL X))]) hx hb dX3_append_28 hl (by decide) rfl (fun ls hl => ?_)
      exact loop (w0 + 1) w0 0 _ _ hS (by omega) (by rw [apT_0]; exact hP) (by omega) ls (lv_sub hl [0, 1, 2, 3] rfl)
    · have hle : ¬ n + w0 ≤ 80 := fun q => c2 ((nI_leI (b := 80) (by omega) (by omega)).mpr q)
      obtain ⟨p1, p2, p3⟩ := pu_big (T := T) (n := n) hke hk8 (by omega)
      rw [p1, p2, p3] at hQ
      refine lv_bipush (v := (-4)) hx hb dX3_append_22 (by decide) ?_
      exact nd_I hQ hx hb hr hlocks dX3_append_24 hS (⟨rfl, hP⟩)
  · have hneg : plF X 8 0 < 0 := Decidable.byContradiction (fun q => c1 (by rw [i32_lt_iff] at q; rw [i32_le_iff]; omega))
    obtain ⟨p1, p2, p3⟩ := pu_neg (T := T) (n := n) hneg
    rw [p1, p2, p3] at hQ
    refine lv_iload_n hx hb dX3_append_9 rfl (lv_at hl 0 rfl) ?_
    exact nd_I hQ hx hb hr hlocks dX3_append_10 hS (⟨rfl, hP⟩)
