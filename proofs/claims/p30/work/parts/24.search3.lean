/-! the values of a day, and their least and most from a leaf on -/
def lsD (V : Nat → Nat → Nat) (c n : Nat) : Nat → Nat
  | 0 => V (n - 1) c
  | d + 1 => min (V (n - 1 - (d + 1)) c) (lsD V c n d)
def msD (V : Nat → Nat → Nat) (c n : Nat) : Nat → Nat
  | 0 => V (n - 1) c
  | d + 1 => max (V (n - 1 - (d + 1)) c) (msD V c n d)
theorem ls_bd {V : Nat → Nat → Nat} {c n : Nat} : ∀ d : Nat, d < n → ∀ i, i ≤ d → lsD V c n d ≤ V (n - 1 - d + i) c ∧ V (n - 1 - d + i) c ≤ msD V c n d
  | 0, _, i, hi => by
    have e : n - 1 - 0 + i = n - 1 := by omega
    rw [e]
    exact ⟨Nat.le_refl _, Nat.le_refl _⟩
  | d + 1, hd, i, hi => by
    show min (V (n - 1 - (d + 1)) c) (lsD V c n d) ≤ _ ∧ _ ≤ max (V (n - 1 - (d + 1)) c) (msD V c n d)
    by_cases q : i = 0
    · subst q
      rw [Nat.add_zero]
      exact ⟨Nat.min_le_left _ _, Nat.le_max_left _ _⟩
    · obtain ⟨h1, h2⟩ := ls_bd (V := V) (c := c) (n := n) d (by omega) (i - 1) (by omega)
      rw [show n - 1 - d + (i - 1) = n - 1 - (d + 1) + i by omega] at h1 h2
      exact ⟨Nat.le_trans (Nat.min_le_right _ _) h1, Nat.le_trans h2 (Nat.le_max_right _ _)⟩
theorem ls_mem {V : Nat → Nat → Nat} {c n B : Nat} (hV : ∀ k, k < n → V k c ≤ B) : ∀ d : Nat, d < n → lsD V c n d ≤ B ∧ msD V c n d ≤ B
  | 0, hd => ⟨hV _ (by omega), hV _ (by omega)⟩
  | d + 1, hd => by
    obtain ⟨h1, h2⟩ := ls_mem hV d (by omega)
    have h3 := hV (n - 1 - (d + 1)) (by omega)
    show min (V (n - 1 - (d + 1)) c) (lsD V c n d) ≤ B ∧ max (V (n - 1 - (d + 1)) c) (msD V c n d) ≤ B
    omega
theorem mn_nI {a b : Nat} (ha : a < 2 ^ 31) (hb : b < 2 ^ 31) : (if nI b < nI a then nI b else nI a) = nI (min a b) := by
  by_cases q : nI b < nI a
  · rw [if_pos q]
    rw [nI_ltI hb ha] at q
    congr 1
    omega
  · rw [if_neg q]
    rw [nI_ltI hb ha] at q
    congr 1
    omega
theorem mx_nI2 {a b : Nat} (ha : a < 2 ^ 31) (hb : b < 2 ^ 31) : (if nI a < nI b then nI b else nI a) = nI (max a b) := by
  by_cases q : nI a < nI b
  · rw [if_pos q]
    rw [nI_ltI ha hb] at q
    congr 1
    omega
  · rw [if_neg q]
    rw [nI_ltI ha hb] at q
    congr 1
    omega
def RvI (S S' : Nat → Nat → Int32) (V : Nat → Nat → Nat) (n q : Nat) : Prop :=
  (∀ k, k ≠ 6 → k ≠ 7 → k ≠ 8 → S' k = S k) ∧ ∀ l, q ≤ l → l < n → ∀ c, c < 4 → S' 6 (4 * l + c) = nI (V l c) ∧ S' 7 (4 * l + c) = nI (lsD V c n (n - 1 - l)) ∧ S' 8 (4 * l + c) = nI (msD V c n (n - 1 - l))
theorem Vv_le {r : Nat → Int32} (h : Iv r) {k c : Nat} (hk : k < 5) (hc : c < 4) : Vv r k c ≤ 1008 := by
  by_cases q : c = 3
  · rw [q]; exact (Vv_p h hk).2
  · have := (Vv_t h hk (t := c) (by omega)).2; omega

set_option maxHeartbeats 4000000 in
set_option maxRecDepth 100000 in
theorem k_X4_readValues (l : Launch) (G : GG) (a : Nat) (S : Nat → Nat → Int32) (b : Nat) (r : Nat → Int32) (hne : b + 20 ≤ a ∨ a + 29 ≤ b) (hv : Iv r) (hSn : S 2 0 = nI (nlv r)) : Met l yX4_readValues (ws_ yX4_readValues cX4_readValues 6 (none : Option Jvm.ClassFile.FieldType)) (rm_ 2) (PC G [.ref a, .ref b] (fun H => SrAt G a S H ∧ ShopAt G b r H)) (QV (fun H => ∃ S2, RvI S S2 (Vv r) (nlv r) 0 ∧ SrAt G a S2 H) (In a 29)) 0 0 (In a 29) := by
  refine met_q (by decide +kernel) (Nat.le_of_ble_eq_true rfl) ?_
  intro p e s m args below meth c Q hQ hx hb hr hT hown hml hlocks hnm hK ⟨hR, hSh⟩ ls hl
  have hl : lv_has ls 6 [(0, .ref a), (1, .ref b)] := hl
  have hS : va_S (In a 29) s.heap s.heap [] := va_S.rf
  have hw := hv.1
  have hn5 := hw.nl5
  obtain ⟨n, hn⟩ : ∃ n, n = nlv r := ⟨_, rfl⟩
  rw [← hn] at hn5 hSn
  refine lv_aload_n hx hb dX4_readValues_0 rfl (lv_at hl 0 rfl) ?_
  refine rg (C := RX4) (T := TX4) (N := 10) (v := .int (S 2 0)) hx hb hT inX4 hown hK hR.1 rfl 2 (by decide) mf_X4_44 rfl dX4_readValues_1 ?_
  rw [hSn]
  refine lv_iconst (v := 1) hx hb dX4_readValues_4 (by decide) ?_
  refine lv_isub hx hb dX4_readValues_5 ?_
  refine lv_istore_n (lv' := [(2, .int ((nI n) - 1)), (0, .ref a), (1, .ref b)]) hx hb dX4_readValues_6 rfl hl (by decide) rfl (fun ls hl => ?_)
  have loop : ∀ (k : Nat) (q : Nat) (S1 : Nat → Nat → Int32) (H : Heap) (locs : List Loc), va_S (In a 29) s.heap H locs → q ≤ n → RvI S S1 (Vv r) n q → SrAt G a S1 H → ShopAt G b r H → q < k → ∀ ls : Array Slot, lv_has ls 6 [(2, .int (nI q - 1)), (0, .ref a), (1, .ref b)] → W p l e (rm_ 2) s m args below meth c H locs 0 0 Q (F0 m 7 ls []) := by
    intro k
    induction k with
    | zero => intro q S1 H locs hS hq hI hR hSh hm; exact absurd hm (Nat.not_lt_zero _)
    | succ k ih =>
      intro q S1 H locs hS hq hI hR hSh hm ls hl
      have hs1 : 0 < q → nI q - 1 = nI (q - 1) := fun h => pk_sub (b := 1) h
      refine lv_iload_n hx hb dX4_readValues_7 rfl (lv_at hl 0 rfl) ?_
      refine lv_if_lt (tgt := 164) hx hb dX4_readValues_8 (by decide) (fun c1 => ?_) (fun c1 => ?_)
      · have hq0 : q = 0 := by
          rcases Nat.eq_zero_or_pos q with h | h
          · exact h
          · rw [hs1 h] at c1
            exact absurd c1 (nI_pos (by omega))
        subst hq0
        exact nd_V hQ hx hb hr hlocks dX4_readValues_164 hS (⟨S1, by rw [← hn]; exact hI, hR⟩)
      · have hqp : 0 < q := by
          rcases Nat.eq_zero_or_pos q with h | h
          · rw [h] at c1
            exact absurd (by decide) c1
          · exact h
        rw [hs1 hqp] at hl
        obtain ⟨l0, hl0⟩ : ∃ z, z = q - 1 := ⟨_, rfl⟩
        rw [← hl0] at hl
        have hlq : q = l0 + 1 := by omega
        subst hlq
        have hlt : l0 < n := by omega
        have h12 : S1 2 0 = nI n := by rw [hI.1 2 (by omega) (by omega) (by omega)]; exact hSn
        refine lv_iconst (v := 0) hx hb dX4_readValues_11 (by decide) ?_
        refine lv_istore_n (lv' := [(3, .int 0), (2, .int (nI l0)), (0, .ref a), (1, .ref b)]) hx hb dX4_readValues_12 rfl hl (by decide) rfl (fun ls hl => ?_)
        have loop2 : ∀ (k : Nat) (t : Nat) (H : Heap) (locs : List Loc), va_S (In a 29) s.heap H locs → t ≤ 3 → SrAt G a (updM S1 6 (cpN (S1 6) (fun c => nI (Vv r l0 c)) (4 * l0) t)) H → ShopAt G b r H → 3 - t < k → ∀ ls : Array Slot, lv_has ls 6 [(3, .int (nI t)), (2, .int (nI l0)), (0, .ref a), (1, .ref b)] → W p l e (rm_ 2) s m args below meth c H locs 0 0 Q (F0 m 13 ls []) := by
          intro k2
          induction k2 with
          | zero => intro t H locs hS ht hR hSh hm; exact absurd hm (Nat.not_lt_zero _)
          | succ k2 ih2 =>
            intro t H locs hS ht hR hSh hm ls hl
            refine lv_iload_n hx hb dX4_readValues_13 rfl (lv_at hl 0 rfl) ?_
            refine lv_iconst (v := 3) hx hb dX4_readValues_14 (by decide) ?_
            refine lv_icmp_ge (tgt := 39) hx hb dX4_readValues_15 (by decide) (fun cd => ?_) (fun cd => ?_)
            · have e_t : t = 3 := by
                have h9 : nI 3 ≤ nI t := cd
                rw [nI_leI (by omega) (by omega)] at h9
                omega
              subst e_t
              refine lv_aload_n hx hb dX4_readValues_39 rfl (lv_at hl 2 rfl) ?_
              refine rg (C := RX4) (T := TX4) (N := 10) (v := .ref (a + 5)) hx hb hT inX4 hown hK hR.1 rfl 6 (by decide) mf_X4_26 rfl dX4_readValues_40 ?_
              refine lv_iload_n hx hb dX4_readValues_43 rfl (lv_at hl 1 rfl) ?_
              refine r_aaldS (y := a + 5 + 1 + l0) hx hb hK hR.2.2.2.2.2.1.1 rfl rfl l0 (rfl) (by omega) (Nat.le_of_ble_eq_true rfl) rfl dX4_readValues_44 ?_
              refine lv_iconst (v := 3) hx hb dX4_readValues_45 (by decide) ?_
              refine lv_aload_n hx hb dX4_readValues_46 rfl (lv_at hl 3 rfl) ?_
              refine lv_iload_n hx hb dX4_readValues_47 rfl (lv_at hl 1 rfl) ?_
              refine got_i (run_i hx hb hml hown hT hK hl.1 (k_X5_priceOf l G b r l0 hw (by omega)) (cw_X4_71 hT ⟨Nat.le_of_ble_eq_true rfl, Nat.le_of_ble_eq_true rfl⟩) hSh.1 rfl hSh rfl rfl (Nat.le_of_ble_eq_true rfl) dX4_readValues_48 ⟨Nat.zero_le _, Nat.zero_le _⟩) (fun v_1 hv_1 => ?_)
              subst hv_1
              rw [(Vv_p hv (i := l0) (by omega)).1]
              refine r_iast hx hb hK (hR.2.2.2.2.2.1.2 l0 (by omega)) 3 (by decide) (by omega) (Nat.le_of_ble_eq_true rfl) hS (show _ ∧ _ from ⟨by omega, by omega⟩) dX4_readValues_51 (fun H locs h1 o hS => ?_)
              have hR := hR.g6 (by omega) (by omega) h1 o
              have hSh := hSh.kept (fun q _ _ => o.2 q (by omega))
              have es : upd (cpN (S1 6) (fun c => nI (Vv r l0 c)) (4 * l0) 3) (4 * l0 + 3) (nI (Vv r l0 3)) = cpN (S1 6) (fun c => nI (Vv r l0 c)) (4 * l0) (3 + 1) := cpN_s (g := (fun c => nI (Vv r l0 c)))
              rw [updM_2, updM_eq, es] at hR
              have hR : SrAt G a (updM S1 6 (cpN (S1 6) (fun c => nI (Vv r l0 c)) (4 * l0) 4)) H := hR
              refine lv_iconst (v := 0) hx hb dX4_readValues_52 (by decide) ?_
              refine lv_istore_n (lv' := [(3, .int 0), (2, .int (nI l0)), (0, .ref a), (1, .ref b)]) hx hb dX4_readValues_53 rfl hl (by decide) rfl (fun ls hl => ?_)
              have loop3 : ∀ (k : Nat) (u : Nat) (H : Heap) (locs : List Loc), va_S (In a 29) s.heap H locs → u ≤ 4 → SrAt G a (updM (updM (updM S1 6 (cpN (S1 6) (fun c => nI (Vv r l0 c)) (4 * l0) 4)) 7 (cpN (S1 7) (fun c => nI (lsD (Vv r) c n (n - 1 - l0))) (4 * l0) u)) 8 (cpN (S1 8) (fun c => nI (msD (Vv r) c n (n - 1 - l0))) (4 * l0) u)) H → ShopAt G b r H → 4 - u < k → ∀ ls : Array Slot, lv_has ls 6 [(3, .int (nI u)), (2, .int (nI l0)), (0, .ref a), (1, .ref b)] → W p l e (rm_ 2) s m args below meth c H locs 0 0 Q (F0 m 54 ls []) := by
                intro k3
                induction k3 with
                | zero => intro u H locs hS hu hR hSh hm; exact absurd hm (Nat.not_lt_zero _)
                | succ k3 ih3 =>
                  intro u H locs hS hu hR hSh hm ls hl
                  refine lv_iload_n hx hb dX4_readValues_54 rfl (lv_at hl 0 rfl) ?_
                  refine lv_iconst (v := 4) hx hb dX4_readValues_55 (by decide) ?_
                  refine lv_icmp_ge (tgt := 158) hx hb dX4_readValues_56 (by decide) (fun cd => ?_) (fun cd => ?_)
                  · have e_u : u = 4 := by
                      have h9 : nI 4 ≤ nI u := cd
                      rw [nI_leI (by omega) (by omega)] at h9
                      omega
                    subst e_u
                    refine lv_iinc (v := nI l0 - 1) (lv' := [(2, .int (nI l0 - 1)), (3, .int (nI 4)), (0, .ref a), (1, .ref b)]) hx hb dX4_readValues_158 hl (k := 1) rfl (i_m1 _) (by decide) rfl (fun ls hl => ?_)
                    refine lv_goto (tgt := 7) hx hb dX4_readValues_161 (by decide) ?_
                    have hI2 : RvI S (updM (updM (updM S1 6 (cpN (S1 6) (fun c => nI (Vv r l0 c)) (4 * l0) 4)) 7 (cpN (S1 7) (fun c => nI (lsD (Vv r) c n (n - 1 - l0))) (4 * l0) 4)) 8 (cpN (S1 8) (fun c => nI (msD (Vv r) c n (n - 1 - l0))) (4 * l0) 4)) (Vv r) n l0 := by
                      refine ⟨fun k h6 h7 h8 => ?_, fun l1 hl1 hln c hc => ?_⟩
                      · rw [updM_ne h8, updM_ne h7, updM_ne h6]; exact hI.1 k h6 h7 h8
                      · rw [updM_eq, updM_ne (by omega), updM_ne (by omega), updM_eq, updM_ne (by omega), updM_eq]
                        by_cases z : l1 = l0
                        · subst z
                          exact ⟨cpN_in (g := fun c => nI (Vv r l1 c)) hc, cpN_in (g := fun c => nI (lsD (Vv r) c n (n - 1 - l1))) hc, cpN_in (g := fun c => nI (msD (Vv r) c n (n - 1 - l1))) hc⟩
                        · rw [cpN_hi (by omega), cpN_hi (by omega), cpN_hi (by omega)]
                          exact hI.2 l1 (by omega) hln c hc
                    exact ih l0 _ _ _ hS (by omega) hI2 hR hSh (by omega) ls (lv_sub hl [0, 2, 3] rfl)
                  · have h_u : u < 4 := by
                      have h9 : ¬ nI 4 ≤ nI u := cd
                      rw [nI_leI (by omega) (by omega)] at h9
                      omega
                    refine lv_iload_n hx hb dX4_readValues_59 rfl (lv_at hl 1 rfl) ?_
                    refine lv_iconst (v := 1) hx hb dX4_readValues_60 (by decide) ?_
                    refine lv_iadd hx hb dX4_readValues_61 ?_
                    refine lv_aload_n hx hb dX4_readValues_62 rfl (lv_at hl 2 rfl) ?_
                    refine rg (C := RX4) (T := TX4) (N := 10) (v := .int (S1 2 0)) hx hb hT inX4 hown hK hR.1 rfl 2 (by decide) mf_X4_44 rfl dX4_readValues_63 ?_
                    rw [nI_1, h12]
                    refine lv_icmp_lt (tgt := 73) hx hb dX4_readValues_66 (by decide) (fun c4 => ?_) (fun c4 => ?_)
                    · have hla : ¬ n ≤ l0 + 1 := by have q := (nI_ltI (by omega) (by omega)).mp c4; omega
                      refine lv_iconst (v := 0) hx hb dX4_readValues_73 (by decide) ?_
                      refine lv_istore (lv' := [(4, .int 0), (3, .int (nI u)), (2, .int (nI l0)), (0, .ref a), (1, .ref b)]) hx hb dX4_readValues_74 hl (by decide) rfl (fun ls hl => ?_)
                      refine lv_aload_n hx hb dX4_readValues_76 rfl (lv_at hl 3 rfl) ?_
                      refine rg (C := RX4) (T := TX4) (N := 10) (v := .ref (a + 5)) hx hb hT inX4 hown hK hR.1 rfl 6 (by decide) mf_X4_26 rfl dX4_readValues_77 ?_
                      refine lv_iload_n hx hb dX4_readValues_80 rfl (lv_at hl 2 rfl) ?_
                      refine r_aaldS (y := a + 5 + 1 + l0) hx hb hK hR.2.2.2.2.2.1.1 rfl rfl l0 (rfl) (by omega) (Nat.le_of_ble_eq_true rfl) rfl dX4_readValues_81 ?_
                      refine lv_iload_n hx hb dX4_readValues_82 rfl (lv_at hl 1 rfl) ?_
                      refine r_ialdS (y := nI (Vv r l0 u)) hx hb hK (hR.2.2.2.2.2.1.2 l0 (by omega)) u rfl h_u (Nat.le_of_ble_eq_true rfl) (by show cpN (S1 6) (fun c => nI (Vv r l0 c)) (4 * l0) 4 (4 * l0 + u) = _; exact cpN_in (g := (fun c => nI (Vv r l0 c))) h_u) dX4_readValues_83 ?_
                      refine lv_istore (lv' := [(5, .int (nI (Vv r l0 u))), (4, .int 0), (3, .int (nI u)), (2, .int (nI l0)), (0, .ref a), (1, .ref b)]) hx hb dX4_readValues_84 hl (by decide) rfl (fun ls hl => ?_)
                      refine lv_aload_n hx hb dX4_readValues_86 rfl (lv_at hl 4 rfl) ?_
                      refine rg (C := RX4) (T := TX4) (N := 10) (v := .ref (a + 11)) hx hb hT inX4 hown hK hR.1 rfl 7 (by decide) mf_X4_29 rfl dX4_readValues_87 ?_
                      refine lv_iload_n hx hb dX4_readValues_90 rfl (lv_at hl 3 rfl) ?_
                      refine r_aaldS (y := a + 11 + 1 + l0) hx hb hK hR.2.2.2.2.2.2.1.1 rfl rfl l0 (rfl) (by omega) (Nat.le_of_ble_eq_true rfl) rfl dX4_readValues_91 ?_
                      refine lv_iload_n hx hb dX4_readValues_92 rfl (lv_at hl 2 rfl) ?_
                      refine lv_iload hx hb dX4_readValues_93 (lv_at hl 1 rfl) ?_
                      refine lv_if_eq (tgt := 103) hx hb dX4_readValues_95 (by decide) (fun c5 => ?_) (fun c5 => ?_)
                      · refine lv_iload hx hb dX4_readValues_103 (lv_at hl 0 rfl) ?_
                        refine lv_aload_n hx hb dX4_readValues_105 rfl (lv_at hl 4 rfl) ?_
                        refine rg (C := RX4) (T := TX4) (N := 10) (v := .ref (a + 11)) hx hb hT inX4 hown hK hR.1 rfl 7 (by decide) mf_X4_29 rfl dX4_readValues_106 ?_
                        refine lv_iload_n hx hb dX4_readValues_109 rfl (lv_at hl 3 rfl) ?_
                        refine lv_iconst (v := 1) hx hb dX4_readValues_110 (by decide) ?_
                        refine lv_iadd hx hb dX4_readValues_111 ?_
                        refine r_aaldS (y := a + 11 + 1 + (l0 + 1)) hx hb hK hR.2.2.2.2.2.2.1.1 rfl rfl (l0 + 1) (nI_1 l0) (by omega) (Nat.le_of_ble_eq_true rfl) rfl dX4_readValues_112 ?_
                        refine lv_iload_n hx hb dX4_readValues_113 rfl (lv_at hl 2 rfl) ?_
                        refine r_ialdS (y := nI (lsD (Vv r) u n (n - 1 - (l0 + 1)))) hx hb hK (hR.2.2.2.2.2.2.1.2 (l0 + 1) (by omega)) u rfl h_u (Nat.le_of_ble_eq_true rfl) (Eq.trans (by show cpN (S1 7) (fun c => nI (lsD (Vv r) c n (n - 1 - l0))) (4 * l0) u (4 * (l0 + 1) + u) = _; exact cpN_hi (by omega)) (hI.2 (l0 + 1) (by omega) (by omega) u h_u).2.1) dX4_readValues_114 ?_
                        refine va_mmin hx hb (hml.trans hl.1.symm) hown (hT _ mm_X4_75) (hT _ mst_J9_min_7cf53) (hT _ mz_J9) (hT _ mc_J9_min_7cf53) (Nat.le_of_ble_eq_true rfl) (Nat.le_of_ble_eq_true rfl) (Nat.zero_le _) (Nat.zero_le _) dX4_readValues_115 ?_
                        have hVle := Vv_le hv (k := l0) (c := u) (by omega) h_u
                        have hle := ls_mem (V := Vv r) (c := u) (n := n) (B := 1008) (fun k hk => Vv_le hv (by omega) h_u) (n - 1 - (l0 + 1)) (by omega)
                        rw [mn_nI (by omega) (by omega), show min (Vv r l0 u) (lsD (Vv r) u n (n - 1 - (l0 + 1))) = lsD (Vv r) u n (n - 1 - l0) from by rw [show n - 1 - l0 = (n - 1 - (l0 + 1)) + 1 by omega]; show _ = min (Vv r (n - 1 - (n - 1 - (l0 + 1) + 1)) u) _; rw [show n - 1 - (n - 1 - (l0 + 1) + 1) = l0 by omega]]
                        refine r_iast hx hb hK (hR.2.2.2.2.2.2.1.2 l0 (by omega)) u (rfl) (h_u) (Nat.le_of_ble_eq_true rfl) hS (show _ ∧ _ from ⟨by omega, by omega⟩) dX4_readValues_118 (fun H locs h1 o hS => ?_)
                        have hR := hR.g7 (by omega) h_u h1 o
                        have hSh := hSh.kept (fun q _ _ => o.2 q (by omega))
                        have es : upd (cpN (S1 7) (fun c => nI (lsD (Vv r) c n (n - 1 - l0))) (4 * l0) u) (4 * l0 + u) (nI (lsD (Vv r) u n (n - 1 - l0))) = cpN (S1 7) (fun c => nI (lsD (Vv r) c n (n - 1 - l0))) (4 * l0) (u + 1) := cpN_s (g := (fun c => nI (lsD (Vv r) c n (n - 1 - l0))))
                        have hR : SrAt G a (updM (updM (updM S1 6 (cpN (S1 6) (fun c => nI (Vv r l0 c)) (4 * l0) 4)) 7 (cpN (S1 7) (fun c => nI (lsD (Vv r) c n (n - 1 - l0))) (4 * l0) (u + 1))) 8 (cpN (S1 8) (fun c => nI (msD (Vv r) c n (n - 1 - l0))) (4 * l0) u)) H := by
                          have em : updM (updM (updM (updM S1 6 (cpN (S1 6) (fun c => nI (Vv r l0 c)) (4 * l0) 4)) 7 (cpN (S1 7) (fun c => nI (lsD (Vv r) c n (n - 1 - l0))) (4 * l0) u)) 8 (cpN (S1 8) (fun c => nI (msD (Vv r) c n (n - 1 - l0))) (4 * l0) u)) 7 (cpN (S1 7) (fun c => nI (lsD (Vv r) c n (n - 1 - l0))) (4 * l0) (u + 1)) = (updM (updM (updM S1 6 (cpN (S1 6) (fun c => nI (Vv r l0 c)) (4 * l0) 4)) 7 (cpN (S1 7) (fun c => nI (lsD (Vv r) c n (n - 1 - l0))) (4 * l0) (u + 1))) 8 (cpN (S1 8) (fun c => nI (msD (Vv r) c n (n - 1 - l0))) (4 * l0) u)) := by
                            funext j
                            unfold updM
                            by_cases q : j = 7
                            · rw [if_pos q, if_neg (by omega), if_pos q]
                            · rw [if_neg q, if_neg q, if_neg q]
                          rw [← em, ← es]
                          exact hR
                        refine lv_aload_n hx hb dX4_readValues_119 rfl (lv_at hl 4 rfl) ?_
                        refine rg (C := RX4) (T := TX4) (N := 10) (v := .ref (a + 17)) hx hb hT inX4 hown hK hR.1 rfl 8 (by decide) mf_X4_32 rfl dX4_readValues_120 ?_
                        refine lv_iload_n hx hb dX4_readValues_123 rfl (lv_at hl 3 rfl) ?_
                        refine r_aaldS (y := a + 17 + 1 + l0) hx hb hK hR.2.2.2.2.2.2.2.1.1 rfl rfl l0 (rfl) (by omega) (Nat.le_of_ble_eq_true rfl) rfl dX4_readValues_124 ?_
                        refine lv_iload_n hx hb dX4_readValues_125 rfl (lv_at hl 2 rfl) ?_
                        refine lv_iload hx hb dX4_readValues_126 (lv_at hl 1 rfl) ?_
                        refine lv_if_eq (tgt := 136) hx hb dX4_readValues_128 (by decide) (fun c5 => ?_) (fun c5 => ?_)
                        · refine lv_iload hx hb dX4_readValues_136 (lv_at hl 0 rfl) ?_
                          refine lv_aload_n hx hb dX4_readValues_138 rfl (lv_at hl 4 rfl) ?_
                          refine rg (C := RX4) (T := TX4) (N := 10) (v := .ref (a + 17)) hx hb hT inX4 hown hK hR.1 rfl 8 (by decide) mf_X4_32 rfl dX4_readValues_139 ?_
                          refine lv_iload_n hx hb dX4_readValues_142 rfl (lv_at hl 3 rfl) ?_
                          refine lv_iconst (v := 1) hx hb dX4_readValues_143 (by decide) ?_
                          refine lv_iadd hx hb dX4_readValues_144 ?_
                          refine r_aaldS (y := a + 17 + 1 + (l0 + 1)) hx hb hK hR.2.2.2.2.2.2.2.1.1 rfl rfl (l0 + 1) (nI_1 l0) (by omega) (Nat.le_of_ble_eq_true rfl) rfl dX4_readValues_145 ?_
                          refine lv_iload_n hx hb dX4_readValues_146 rfl (lv_at hl 2 rfl) ?_
                          refine r_ialdS (y := nI (msD (Vv r) u n (n - 1 - (l0 + 1)))) hx hb hK (hR.2.2.2.2.2.2.2.1.2 (l0 + 1) (by omega)) u rfl h_u (Nat.le_of_ble_eq_true rfl) (Eq.trans (by show cpN (S1 8) (fun c => nI (msD (Vv r) c n (n - 1 - l0))) (4 * l0) u (4 * (l0 + 1) + u) = _; exact cpN_hi (by omega)) (hI.2 (l0 + 1) (by omega) (by omega) u h_u).2.2) dX4_readValues_147 ?_
                          refine va_mmax hx hb (hml.trans hl.1.symm) hown (hT _ mm_X4_81) (hT _ mst_J9_max_7cf53) (hT _ mz_J9) (hT _ mc_J9_max_7cf53) (Nat.le_of_ble_eq_true rfl) (Nat.le_of_ble_eq_true rfl) (Nat.zero_le _) (Nat.zero_le _) dX4_readValues_148 ?_
                          have hVle := Vv_le hv (k := l0) (c := u) (by omega) h_u
                          have hle := ls_mem (V := Vv r) (c := u) (n := n) (B := 1008) (fun k hk => Vv_le hv (by omega) h_u) (n - 1 - (l0 + 1)) (by omega)
                          rw [mx_nI2 (by omega) (by omega), show max (Vv r l0 u) (msD (Vv r) u n (n - 1 - (l0 + 1))) = msD (Vv r) u n (n - 1 - l0) from by rw [show n - 1 - l0 = (n - 1 - (l0 + 1)) + 1 by omega]; show _ = max (Vv r (n - 1 - (n - 1 - (l0 + 1) + 1)) u) _; rw [show n - 1 - (n - 1 - (l0 + 1) + 1) = l0 by omega]]
                          refine r_iast hx hb hK (hR.2.2.2.2.2.2.2.1.2 l0 (by omega)) u (rfl) (h_u) (Nat.le_of_ble_eq_true rfl) hS (show _ ∧ _ from ⟨by omega, by omega⟩) dX4_readValues_151 (fun H locs h1 o hS => ?_)
                          have hR := hR.g8 (by omega) h_u h1 o
                          have hSh := hSh.kept (fun q _ _ => o.2 q (by omega))
                          have es : upd (cpN (S1 8) (fun c => nI (msD (Vv r) c n (n - 1 - l0))) (4 * l0) u) (4 * l0 + u) (nI (msD (Vv r) u n (n - 1 - l0))) = cpN (S1 8) (fun c => nI (msD (Vv r) c n (n - 1 - l0))) (4 * l0) (u + 1) := cpN_s (g := (fun c => nI (msD (Vv r) c n (n - 1 - l0))))
                          rw [updM_2, updM_eq, es] at hR
                          refine lv_iinc (v := nI (u + 1)) (lv' := [(3, .int (nI (u + 1))), (5, .int (nI (Vv r l0 u))), (4, .int 0), (2, .int (nI l0)), (0, .ref a), (1, .ref b)]) hx hb dX4_readValues_152 hl (k := 2) rfl (nI_1 u) (by decide) rfl (fun ls hl => ?_)
                          refine lv_goto (tgt := 54) hx hb dX4_readValues_155 (by decide) ?_
                          exact ih3 (u + 1) _ _ hS (by omega) hR hSh (by omega) ls (lv_sub hl [0, 3, 4, 5] rfl)
                        · exact absurd rfl c5
                      · exact absurd rfl c5
                    · have hla : n ≤ l0 + 1 := by have q : ¬ l0 + 1 < n := fun q => c4 ((nI_ltI (by omega) (by omega)).mpr q); omega
                      refine lv_iconst (v := 1) hx hb dX4_readValues_69 (by decide) ?_
                      refine lv_goto (tgt := 74) hx hb dX4_readValues_70 (by decide) ?_
                      refine lv_istore (lv' := [(4, .int 1), (3, .int (nI u)), (2, .int (nI l0)), (0, .ref a), (1, .ref b)]) hx hb dX4_readValues_74 hl (by decide) rfl (fun ls hl => ?_)
                      refine lv_aload_n hx hb dX4_readValues_76 rfl (lv_at hl 3 rfl) ?_
                      refine rg (C := RX4) (T := TX4) (N := 10) (v := .ref (a + 5)) hx hb hT inX4 hown hK hR.1 rfl 6 (by decide) mf_X4_26 rfl dX4_readValues_77 ?_
                      refine lv_iload_n hx hb dX4_readValues_80 rfl (lv_at hl 2 rfl) ?_
                      refine r_aaldS (y := a + 5 + 1 + l0) hx hb hK hR.2.2.2.2.2.1.1 rfl rfl l0 (rfl) (by omega) (Nat.le_of_ble_eq_true rfl) rfl dX4_readValues_81 ?_
                      refine lv_iload_n hx hb dX4_readValues_82 rfl (lv_at hl 1 rfl) ?_
                      refine r_ialdS (y := nI (Vv r l0 u)) hx hb hK (hR.2.2.2.2.2.1.2 l0 (by omega)) u rfl h_u (Nat.le_of_ble_eq_true rfl) (by show cpN (S1 6) (fun c => nI (Vv r l0 c)) (4 * l0) 4 (4 * l0 + u) = _; exact cpN_in (g := (fun c => nI (Vv r l0 c))) h_u) dX4_readValues_83 ?_
                      refine lv_istore (lv' := [(5, .int (nI (Vv r l0 u))), (4, .int 1), (3, .int (nI u)), (2, .int (nI l0)), (0, .ref a), (1, .ref b)]) hx hb dX4_readValues_84 hl (by decide) rfl (fun ls hl => ?_)
                      refine lv_aload_n hx hb dX4_readValues_86 rfl (lv_at hl 4 rfl) ?_
                      refine rg (C := RX4) (T := TX4) (N := 10) (v := .ref (a + 11)) hx hb hT inX4 hown hK hR.1 rfl 7 (by decide) mf_X4_29 rfl dX4_readValues_87 ?_
                      refine lv_iload_n hx hb dX4_readValues_90 rfl (lv_at hl 3 rfl) ?_
                      refine r_aaldS (y := a + 11 + 1 + l0) hx hb hK hR.2.2.2.2.2.2.1.1 rfl rfl l0 (rfl) (by omega) (Nat.le_of_ble_eq_true rfl) rfl dX4_readValues_91 ?_
                      refine lv_iload_n hx hb dX4_readValues_92 rfl (lv_at hl 2 rfl) ?_
                      refine lv_iload hx hb dX4_readValues_93 (lv_at hl 1 rfl) ?_
                      refine lv_if_eq (tgt := 103) hx hb dX4_readValues_95 (by decide) (fun c5 => ?_) (fun c5 => ?_)
                      · exact absurd c5 (by decide)
                      · refine lv_iload hx hb dX4_readValues_98 (lv_at hl 0 rfl) ?_
                        refine lv_goto (tgt := 118) hx hb dX4_readValues_100 (by decide) ?_
                        rw [show nI (Vv r l0 u) = nI (lsD (Vv r) u n (n - 1 - l0)) from by rw [show n - 1 - l0 = 0 by omega]; show _ = nI (Vv r (n - 1) u); rw [show n - 1 = l0 by omega]]
                        refine r_iast hx hb hK (hR.2.2.2.2.2.2.1.2 l0 (by omega)) u (rfl) (h_u) (Nat.le_of_ble_eq_true rfl) hS (show _ ∧ _ from ⟨by omega, by omega⟩) dX4_readValues_118 (fun H locs h1 o hS => ?_)
                        have hR := hR.g7 (by omega) h_u h1 o
                        have hSh := hSh.kept (fun q _ _ => o.2 q (by omega))
                        have es : upd (cpN (S1 7) (fun c => nI (lsD (Vv r) c n (n - 1 - l0))) (4 * l0) u) (4 * l0 + u) (nI (lsD (Vv r) u n (n - 1 - l0))) = cpN (S1 7) (fun c => nI (lsD (Vv r) c n (n - 1 - l0))) (4 * l0) (u + 1) := cpN_s (g := (fun c => nI (lsD (Vv r) c n (n - 1 - l0))))
                        have hR : SrAt G a (updM (updM (updM S1 6 (cpN (S1 6) (fun c => nI (Vv r l0 c)) (4 * l0) 4)) 7 (cpN (S1 7) (fun c => nI (lsD (Vv r) c n (n - 1 - l0))) (4 * l0) (u + 1))) 8 (cpN (S1 8) (fun c => nI (msD (Vv r) c n (n - 1 - l0))) (4 * l0) u)) H := by
                          have em : updM (updM (updM (updM S1 6 (cpN (S1 6) (fun c => nI (Vv r l0 c)) (4 * l0) 4)) 7 (cpN (S1 7) (fun c => nI (lsD (Vv r) c n (n - 1 - l0))) (4 * l0) u)) 8 (cpN (S1 8) (fun c => nI (msD (Vv r) c n (n - 1 - l0))) (4 * l0) u)) 7 (cpN (S1 7) (fun c => nI (lsD (Vv r) c n (n - 1 - l0))) (4 * l0) (u + 1)) = (updM (updM (updM S1 6 (cpN (S1 6) (fun c => nI (Vv r l0 c)) (4 * l0) 4)) 7 (cpN (S1 7) (fun c => nI (lsD (Vv r) c n (n - 1 - l0))) (4 * l0) (u + 1))) 8 (cpN (S1 8) (fun c => nI (msD (Vv r) c n (n - 1 - l0))) (4 * l0) u)) := by
                            funext j
                            unfold updM
                            by_cases q : j = 7
                            · rw [if_pos q, if_neg (by omega), if_pos q]
                            · rw [if_neg q, if_neg q, if_neg q]
                          rw [← em, ← es]
                          exact hR
                        refine lv_aload_n hx hb dX4_readValues_119 rfl (lv_at hl 4 rfl) ?_
                        refine rg (C := RX4) (T := TX4) (N := 10) (v := .ref (a + 17)) hx hb hT inX4 hown hK hR.1 rfl 8 (by decide) mf_X4_32 rfl dX4_readValues_120 ?_
                        refine lv_iload_n hx hb dX4_readValues_123 rfl (lv_at hl 3 rfl) ?_
                        refine r_aaldS (y := a + 17 + 1 + l0) hx hb hK hR.2.2.2.2.2.2.2.1.1 rfl rfl l0 (rfl) (by omega) (Nat.le_of_ble_eq_true rfl) rfl dX4_readValues_124 ?_
                        refine lv_iload_n hx hb dX4_readValues_125 rfl (lv_at hl 2 rfl) ?_
                        refine lv_iload hx hb dX4_readValues_126 (lv_at hl 1 rfl) ?_
                        refine lv_if_eq (tgt := 136) hx hb dX4_readValues_128 (by decide) (fun c5 => ?_) (fun c5 => ?_)
                        · exact absurd c5 (by decide)
                        · refine lv_iload hx hb dX4_readValues_131 (lv_at hl 0 rfl) ?_
                          refine lv_goto (tgt := 151) hx hb dX4_readValues_133 (by decide) ?_
                          rw [show nI (Vv r l0 u) = nI (msD (Vv r) u n (n - 1 - l0)) from by rw [show n - 1 - l0 = 0 by omega]; show _ = nI (Vv r (n - 1) u); rw [show n - 1 = l0 by omega]]
                          refine r_iast hx hb hK (hR.2.2.2.2.2.2.2.1.2 l0 (by omega)) u (rfl) (h_u) (Nat.le_of_ble_eq_true rfl) hS (show _ ∧ _ from ⟨by omega, by omega⟩) dX4_readValues_151 (fun H locs h1 o hS => ?_)
                          have hR := hR.g8 (by omega) h_u h1 o
                          have hSh := hSh.kept (fun q _ _ => o.2 q (by omega))
                          have es : upd (cpN (S1 8) (fun c => nI (msD (Vv r) c n (n - 1 - l0))) (4 * l0) u) (4 * l0 + u) (nI (msD (Vv r) u n (n - 1 - l0))) = cpN (S1 8) (fun c => nI (msD (Vv r) c n (n - 1 - l0))) (4 * l0) (u + 1) := cpN_s (g := (fun c => nI (msD (Vv r) c n (n - 1 - l0))))
                          rw [updM_2, updM_eq, es] at hR
                          refine lv_iinc (v := nI (u + 1)) (lv' := [(3, .int (nI (u + 1))), (5, .int (nI (Vv r l0 u))), (4, .int 1), (2, .int (nI l0)), (0, .ref a), (1, .ref b)]) hx hb dX4_readValues_152 hl (k := 2) rfl (nI_1 u) (by decide) rfl (fun ls hl => ?_)
                          refine lv_goto (tgt := 54) hx hb dX4_readValues_155 (by decide) ?_
                          exact ih3 (u + 1) _ _ hS (by omega) hR hSh (by omega) ls (lv_sub hl [0, 3, 4, 5] rfl)
              exact loop3 5 0 _ _ hS (by omega) (by rw [cpN_0, cpN_0, updM_self (by rfl : (updM S1 6 (cpN (S1 6) (fun c => nI (Vv r l0 c)) (4 * l0) 4)) 7 = S1 7), updM_self (by rfl : (updM S1 6 (cpN (S1 6) (fun c => nI (Vv r l0 c)) (4 * l0) 4)) 8 = S1 8)]; exact hR) hSh (by omega) ls (lv_sub hl [0, 1, 2, 3] rfl)
            · have h_t : t < 3 := by
                have h9 : ¬ nI 3 ≤ nI t := cd
                rw [nI_leI (by omega) (by omega)] at h9
                omega
              refine lv_aload_n hx hb dX4_readValues_18 rfl (lv_at hl 2 rfl) ?_
              refine rg (C := RX4) (T := TX4) (N := 10) (v := .ref (a + 5)) hx hb hT inX4 hown hK hR.1 rfl 6 (by decide) mf_X4_26 rfl dX4_readValues_19 ?_
              refine lv_iload_n hx hb dX4_readValues_22 rfl (lv_at hl 1 rfl) ?_
              refine r_aaldS (y := a + 5 + 1 + l0) hx hb hK hR.2.2.2.2.2.1.1 rfl rfl l0 (rfl) (by omega) (Nat.le_of_ble_eq_true rfl) rfl dX4_readValues_23 ?_
              refine lv_iload_n hx hb dX4_readValues_24 rfl (lv_at hl 0 rfl) ?_
              refine lv_aload_n hx hb dX4_readValues_25 rfl (lv_at hl 3 rfl) ?_
              refine lv_iload_n hx hb dX4_readValues_26 rfl (lv_at hl 1 rfl) ?_
              refine lv_iload_n hx hb dX4_readValues_27 rfl (lv_at hl 0 rfl) ?_
              refine lv_iconst (v := 0) hx hb dX4_readValues_28 (by decide) ?_
              refine got_i (run_i hx hb hml hown hT hK hl.1 (k_X5_tasteOf l G b r l0 t 0 (by omega) h_t) (cw_X4_67 hT ⟨Nat.le_of_ble_eq_true rfl, Nat.le_of_ble_eq_true rfl⟩) hSh.1 rfl hSh rfl rfl (Nat.le_of_ble_eq_true rfl) dX4_readValues_29 ⟨Nat.zero_le _, Nat.zero_le _⟩) (fun v_2 hv_2 => ?_)
              subst hv_2
              rw [(Vv_t hv (i := l0) (by omega) h_t).1]
              refine r_iast hx hb hK (hR.2.2.2.2.2.1.2 l0 (by omega)) t (rfl) (by omega) (Nat.le_of_ble_eq_true rfl) hS (show _ ∧ _ from ⟨by omega, by omega⟩) dX4_readValues_32 (fun H locs h1 o hS => ?_)
              have hR := hR.g6 (by omega) (by omega) h1 o
              have hSh := hSh.kept (fun q _ _ => o.2 q (by omega))
              have es : upd (cpN (S1 6) (fun c => nI (Vv r l0 c)) (4 * l0) t) (4 * l0 + t) (nI (Vv r l0 t)) = cpN (S1 6) (fun c => nI (Vv r l0 c)) (4 * l0) (t + 1) := cpN_s (g := (fun c => nI (Vv r l0 c)))
              rw [updM_2, updM_eq, es] at hR
              refine lv_iinc (v := nI (t + 1)) (lv' := [(3, .int (nI (t + 1))), (2, .int (nI l0)), (0, .ref a), (1, .ref b)]) hx hb dX4_readValues_33 hl (k := 0) rfl (nI_1 t) (by decide) rfl (fun ls hl => ?_)
              refine lv_goto (tgt := 13) hx hb dX4_readValues_36 (by decide) ?_
              exact ih2 (t + 1) _ _ hS (by omega) hR hSh (by omega) ls (lv_sub hl [0, 1, 2, 3] rfl)
        exact loop2 4 0 _ _ hS (by omega) (by rw [cpN_0, updM_self rfl]; exact hR) hSh (by omega) ls (lv_sub hl [0, 1, 2, 3] rfl)
  exact loop (n + 1) n S _ _ hS (Nat.le_refl _) ⟨fun _ _ _ _ => rfl, fun l1 h1 h2 => absurd h1 (by omega)⟩ hR hSh (by omega) ls (lv_sub hl [0, 1, 2] rfl)
