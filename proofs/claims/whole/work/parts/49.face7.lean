/-! a bound let down by one keeps what was found -/
theorem ls_lo {r : Nat → Int32} (h : Iv r) {k : Nat} (hk : k < 3) : (lsV r k).toInt ≤ (r (6 + k)).toInt := by
  obtain ⟨⟨a1, a2⟩, -⟩ := h.2.2.2.1 k hk
  unfold lsV
  rw [if_pos hk]
  by_cases z : r (6 + k) = 0
  · rw [if_pos z, z]; exact Int.le_refl _
  · rw [if_neg z, Int32.toInt_sub, show (1 : Int32).toInt = 1 from rfl, Int.bmod_eq_of_le (by omega) (by omega)]
    omega
theorem ls_hi {r : Nat → Int32} (h : Iv r) {k : Nat} (hk : 3 ≤ k) (hk6 : k < 6) : (r (6 + k)).toInt ≤ (lsV r k).toInt := by
  obtain ⟨-, ⟨a1, a2⟩⟩ := h.2.2.2.1 (k - 3) (by omega)
  rw [show 9 + (k - 3) = 6 + k by omega] at a1 a2
  unfold lsV
  rw [if_neg (by omega)]
  by_cases z : r (6 + k) = 100
  · rw [if_pos z, z]; exact Int.le_refl _
  · rw [if_neg z, Int32.toInt_add, show (1 : Int32).toInt = 1 from rfl, Int.bmod_eq_of_le (by omega) (by omega)]
    omega
theorem kp_mono {r : Nat → Int32} (h : Iv r) {k : Nat} (hk : k < 6) {y : Nat → Nat} {V : Nat → Nat → Nat} (hy : kpP r y V) : kpP (upd r (6 + k) (lsV r k)) y V := by
  intro t ht
  obtain ⟨h1, h2⟩ := hy t ht
  constructor
  · by_cases q : 6 + t = 6 + k
    · have h9 := ls_lo h (k := k) (by omega)
      rw [q, upd_eq]
      rw [q] at h1
      intro z
      apply h1
      rw [i32_lt_iff] at z ⊢
      omega
    · rw [upd_ne q]; exact h1
  · by_cases q : 9 + t = 6 + k
    · have h9 := ls_hi h (k := k) (by omega) hk
      rw [q, upd_eq]
      rw [q] at h2
      rw [i32_le_iff] at h2 ⊢
      omega
    · rw [upd_ne q]; exact h2
theorem lrw_Vn {r : Nat → Int32} {k : Nat} (hk : k < 6) : Vn (upd r (6 + k) (lsV r k)) = Vn r := by
  have h1 := lrw_Vv (r := r) (z := some k) (fun q hq => by cases hq; exact hk)
  have h2 := lrw_nlv (r := r) (z := some k) (fun q hq => by cases hq; exact hk)
  have h1 : Vv (upd r (6 + k) (lsV r k)) = Vv r := h1
  have h2 : nlv (upd r (6 + k) (lsV r k)) = nlv r := h2
  funext i c
  unfold Vn
  rw [h1, h2]
theorem sk_mono {r : Nat → Int32} (h : Iv r) {k : Nat} (hk : k < 6) (hf : ¬ (skR r).1 = -1) : ¬ (skR (upd r (6 + k) (lsV r k))).1 = -1 := by
  have hn5 := h.1.nl5
  have h2 : nlv (upd r (6 + k) (lsV r k)) = nlv r := lrw_nlv (r := r) (z := some k) (fun q hq => by cases hq; exact hk)
  by_cases hn : nlv r = 0
  · exfalso
    apply hf
    unfold skR
    rw [if_pos hn]
  · have h8 := dfs_rel (fun (a b : Int32 × (Nat → Nat)) => ¬ a.1 = -1 → ¬ b.1 = -1) (um (Cm r) (fun x => kpP r x (Vn r))) (um (Cm (upd r (6 + k) (lsV r k))) (fun x => kpP (upd r (6 + k) (lsV r k)) x (Vn (upd r (6 + k) (lsV r k))))) (nlv r - 1) 0 20 (fun _ => 0) (fun y hy a b hab => ?_) (-1, fun _ => 0) (-1, fun _ => 0) (fun q => q)
    · unfold skR at hf ⊢
      rw [if_neg hn] at hf
      rw [h2, if_neg hn]
      exact h8 hf
    · rw [lrw_Vn hk]
      have ys : sn y (nlv r) = 20 := by
        rw [← hy.2.2, show nlv r - 1 + 1 = nlv r by omega]
        exact sn_ext _ (fun i _ => by rw [Nat.zero_add])
      have hp : sT (Vv r) (nlv r) y 3 ≤ 20160 := by
        have h8 := sn_bd (x := y) (V := Vv r) (c := 3) (B := 1008) (nlv r) (fun k hk => Vv_le h (by omega) (by omega))
        rw [ys] at h8
        exact h8
      have eC : Cm (upd r (6 + k) (lsV r k)) y = nI (sT (Vv r) (nlv r) y 3) := by
        unfold Cm
        rw [lrw_Vn hk, sn_Vn hn5]
      have hC : ¬ Cm (upd r (6 + k) (lsV r k)) y = -1 := fun q => by
        have q1 : (nI (sT (Vv r) (nlv r) y 3)).toInt = (-1 : Int32).toInt := by rw [← eC, q]
        rw [nI_toInt (by omega), show (-1 : Int32).toInt = -1 from rfl] at q1
        omega
      intro ha
      by_cases q : (b.1 = -1 ∨ Cm (upd r (6 + k) (lsV r k)) y < b.1) ∧ kpP (upd r (6 + k) (lsV r k)) y (Vn r)
      · rw [um_y q]; exact hC
      · rw [um_n q]
        by_cases w : (a.1 = -1 ∨ Cm r y < a.1) ∧ kpP r y (Vn r)
        · exact fun z => q ⟨Or.inl z, kp_mono h hk w.2⟩
        · rw [um_n w] at ha
          exact hab ha

set_option maxHeartbeats 4000000 in
set_option maxRecDepth 100000 in
theorem k_X6_looser (l : Launch) (G : GG) (z : Nat) (r : Nat → Int32) (S : Nat → Nat → Int32) (x : Int32) (hv : Iv r) (h90 : ∀ c, c < 4 → S 9 c = 0)  : Met l yX6_looser (ws_ yX6_looser cX6_looser 3 (some .int)) (rm_ 9) (PC G [.ref z, .int x] (TS G z r S)) (QI (fun v H => v = loO r x ∧ ∃ S2, (∀ c, c < 4 → S2 9 c = 0) ∧ TS G z r S2 H) (In (z + 168) 29)) 0 0 (In (z + 168) 29) := by
  refine met_q (by decide +kernel) (Nat.le_of_ble_eq_true rfl) ?_
  intro p e s m args below meth c Q hQ hx hb hr hT hown hml hlocks hnm hK hZ ls hl
  have hl : lv_has ls 3 [(0, .ref z), (1, .int x)] := hl
  have hS : va_S (In (z + 168) 29) s.heap s.heap [] := va_S.rf
  refine lv_iload_n hx hb dX6_looser_0 rfl (lv_at hl 1 rfl) ?_
  refine lv_if_lt (tgt := 10) hx hb dX6_looser_1 (by decide) (fun c1 => ?_) (fun c1 => ?_)
  · refine lv_bipush (v := (-2)) hx hb dX6_looser_10 (by decide) ?_
    exact nd_I hQ hx hb hr hlocks dX6_looser_12 hS (⟨loO_1 (fun q => i32_lt_nle c1 q.1), S, h90, hZ⟩)
  · refine lv_iload_n hx hb dX6_looser_4 rfl (lv_at hl 1 rfl) ?_
    refine lv_bipush (v := 6) hx hb dX6_looser_5 (by decide) ?_
    refine lv_icmp_lt (tgt := 13) hx hb dX6_looser_7 (by decide) (fun c2 => ?_) (fun c2 => ?_)
    · have hx6 : 0 ≤ x ∧ x ≤ 5 := ⟨i32_nlt c1, by
        have a1 := i32_lt_iff.mp c2
        have a1 : x.toInt < 6 := a1
        rw [i32_le_iff]
        show x.toInt ≤ 5
        omega⟩
      obtain ⟨k0, hk6, rfl⟩ := x_ix (n := 5) hx6 (by omega)
      refine lv_aload_n hx hb dX6_looser_13 rfl (lv_at hl 0 rfl) ?_
      refine rg (C := RX6) (T := TX6) (N := 6) (v := .ref (z + 168)) hx hb hT inX6 hown hK hZ.1 rfl 5 (by decide) mf_X6_46 rfl dX6_looser_14 ?_
      refine lv_aload_n hx hb dX6_looser_17 rfl (lv_at hl 0 rfl) ?_
      refine rg (C := RX6) (T := TX6) (N := 6) (v := .ref (z + 1)) hx hb hT inX6 hown hK hZ.1 rfl 0 (by decide) mf_X6_10 rfl dX6_looser_18 ?_
      refine lv_iconst (v := (-1)) hx hb dX6_looser_21 (by decide) ?_
      refine got_I (run_i hx hb hml hown hT hK hl.1 (k_X4_find l G (z + 168) S (z + 1) r none (by omega) hv (fun k hk => by cases hk) h90) (cw_X6_80 hT ⟨Nat.le_of_ble_eq_true rfl, Nat.le_of_ble_eq_true rfl⟩) hZ.2.2.1 rfl ⟨hZ.2.2, hZ.2.1⟩ rfl rfl (Nat.le_of_ble_eq_true rfl) dX6_looser_22 ⟨Nat.zero_le _, Nat.zero_le _⟩) hS (fun q hq => hq) (fun q hq => hq) (fun v_1 H locs h1 hz hk hS => ?_)
      obtain ⟨hv1, S2, hFdS2, hSr⟩ := h1
      have ht1 := hZ.2.1.top
      have ht2 := hZ.2.2.top
      have hZ : TS G z r S2 H := ⟨hZ.1.kept (hk z (by omega) (fun (q : _ ∧ _) => by omega)), hZ.2.1.kept (fun q _ _ => hk q (by omega) (fun (w : _ ∧ _) => by omega)), hSr⟩
      have hv1 : v_1 = bc (¬ (skR r).1 = -1) := hv1
      have hFdS2 : FdS S2 (skR r) := hFdS2
      rw [hv1]
      refine lv_if_ne (tgt := 31) hx hb dX6_looser_25 (by decide) (fun c3 => ?_) (fun c3 => ?_)
      · have hf := bc_n0 c3
        refine lv_aload_n hx hb dX6_looser_31 rfl (lv_at hl 0 rfl) ?_
        refine rg (C := RX6) (T := TX6) (N := 6) (v := .ref (z + 168)) hx hb hT inX6 hown hK hZ.1 rfl 5 (by decide) mf_X6_46 rfl dX6_looser_32 ?_
        refine rg (C := RX4) (T := TX4) (N := 10) (v := .int (S2 1 0)) hx hb hT inX4 hown hK hZ.2.2.1 rfl 1 (by decide) mf_X6_92 rfl dX6_looser_35 ?_
        rw [hFdS2.2.1 hf]
        refine lv_istore_n (lv' := [(2, .int ((skR r).1)), (0, .ref z), (1, .int (nI k0))]) hx hb dX6_looser_38 rfl hl (by decide) rfl (fun ls hl => ?_)
        refine lv_aload_n hx hb dX6_looser_39 rfl (lv_at hl 1 rfl) ?_
        refine rg (C := RX6) (T := TX6) (N := 6) (v := .ref (z + 1)) hx hb hT inX6 hown hK hZ.1 rfl 0 (by decide) mf_X6_10 rfl dX6_looser_40 ?_
        refine lv_iload_n hx hb dX6_looser_43 rfl (lv_at hl 2 rfl) ?_
        refine got_i (run_i hx hb hml hown hT hK hl.1 (k_X5_canBeLooser l G (z + 1) r k0 hk6) (cw_X6_179 hT ⟨Nat.le_of_ble_eq_true rfl, Nat.le_of_ble_eq_true rfl⟩) hZ.2.1.1 rfl hZ.2.1 rfl rfl (Nat.le_of_ble_eq_true rfl) dX6_looser_44 ⟨Nat.zero_le _, Nat.zero_le _⟩) (fun v_2 hv_2 => ?_)
        subst hv_2
        have hcan : (if k0 < 3 then bi (0 < r (6 + k0)) else bi (r (9 + (k0 - 3)) < 100)) = 0 → lsV r k0 = r (6 + k0) := by
          intro q
          unfold lsV
          by_cases w : k0 < 3
          · rw [if_pos w] at q ⊢
            have q1 := bi_e0 q
            have b1 := (hv.2.2.2.1 k0 w).1.1
            have q2 : r (6 + k0) = 0 := Int32.toInt_inj.mp (by rw [i32_lt_iff] at q1; have q1 : ¬ 0 < (r (6 + k0)).toInt := q1; show _ = (0 : Int); omega)
            rw [if_pos q2, q2]
          · rw [if_neg w] at q ⊢
            have q1 := bi_e0 q
            have b1 := (hv.2.2.2.1 (k0 - 3) (by omega)).2.2
            rw [show 9 + (k0 - 3) = 6 + k0 by omega] at q1 b1
            have q2 : r (6 + k0) = 100 := Int32.toInt_inj.mp (by rw [i32_lt_iff] at q1; have q1 : ¬ (r (6 + k0)).toInt < 100 := q1; show _ = (100 : Int); omega)
            rw [if_pos q2, q2]
        have hself : lsV r k0 = r (6 + k0) → upd r (6 + k0) (lsV r k0) = r := fun q => by
          funext j
          by_cases w : j = 6 + k0
          · rw [w, upd_eq, q]
          · exact upd_ne w
        refine lv_if_eq (tgt := 65) hx hb dX6_looser_47 (by decide) (fun c4 => ?_) (fun c4 => ?_)
        · have hr0 := hself (hcan c4)
          have hlo : 0 = loO r (nI k0) := by rw [← loO_3 hk6 hx6 hf, hr0, Int32.sub_self]
          refine lv_iconst (v := 0) hx hb dX6_looser_65 (by decide) ?_
          exact nd_I hQ hx hb hr hlocks dX6_looser_66 hS (⟨hlo, S2, hFdS2.1, hZ⟩)
        · refine lv_aload_n hx hb dX6_looser_50 rfl (lv_at hl 1 rfl) ?_
          refine rg (C := RX6) (T := TX6) (N := 6) (v := .ref (z + 168)) hx hb hT inX6 hown hK hZ.1 rfl 5 (by decide) mf_X6_46 rfl dX6_looser_51 ?_
          refine lv_aload_n hx hb dX6_looser_54 rfl (lv_at hl 1 rfl) ?_
          refine rg (C := RX6) (T := TX6) (N := 6) (v := .ref (z + 1)) hx hb hT inX6 hown hK hZ.1 rfl 0 (by decide) mf_X6_10 rfl dX6_looser_55 ?_
          refine lv_iload_n hx hb dX6_looser_58 rfl (lv_at hl 2 rfl) ?_
          refine got_I (run_i hx hb hml hown hT hK hl.1 (k_X4_find l G (z + 168) S2 (z + 1) r (some k0) (by omega) hv (fun k hk => by cases hk; exact hk6) hFdS2.1) (cw_X6_80 hT ⟨Nat.le_of_ble_eq_true rfl, Nat.le_of_ble_eq_true rfl⟩) hZ.2.2.1 rfl ⟨hZ.2.2, hZ.2.1⟩ rfl rfl (Nat.le_of_ble_eq_true rfl) dX6_looser_59 ⟨Nat.zero_le _, Nat.zero_le _⟩) hS (fun q hq => hq) (fun q hq => hq) (fun v_3 H locs h1 hz hk hS => ?_)
          obtain ⟨hv1, S3, hFdS3, hSr⟩ := h1
          have ht1 := hZ.2.1.top
          have ht2 := hZ.2.2.top
          have hZ : TS G z r S3 H := ⟨hZ.1.kept (hk z (by omega) (fun (q : _ ∧ _) => by omega)), hZ.2.1.kept (fun q _ _ => hk q (by omega) (fun (w : _ ∧ _) => by omega)), hSr⟩
          have hv1 : v_3 = bc (¬ (skR (upd r (6 + k0) (lsV r k0))).1 = -1) := hv1
          have hFdS3 : FdS S3 (skR (upd r (6 + k0) (lsV r k0))) := hFdS3
          rw [hv1]
          refine lv_if_ne (tgt := 67) hx hb dX6_looser_62 (by decide) (fun c5 => ?_) (fun c5 => ?_)
          · have hf3 := bc_n0 c5
            refine lv_iload_n hx hb dX6_looser_67 rfl (lv_at hl 0 rfl) ?_
            refine lv_aload_n hx hb dX6_looser_68 rfl (lv_at hl 1 rfl) ?_
            refine rg (C := RX6) (T := TX6) (N := 6) (v := .ref (z + 168)) hx hb hT inX6 hown hK hZ.1 rfl 5 (by decide) mf_X6_46 rfl dX6_looser_69 ?_
            refine rg (C := RX4) (T := TX4) (N := 10) (v := .int (S3 1 0)) hx hb hT inX4 hown hK hZ.2.2.1 rfl 1 (by decide) mf_X6_92 rfl dX6_looser_72 ?_
            rw [hFdS3.2.1 hf3]
            refine lv_isub hx hb dX6_looser_75 ?_
            exact nd_I hQ hx hb hr hlocks dX6_looser_76 hS (⟨loO_3 hk6 hx6 hf, S3, hFdS3.1, hZ⟩)
          · have hf3 : (skR (upd r (6 + k0) (lsV r k0))).1 = -1 := Decidable.byContradiction (fun q => bc_e0 c5 q)
            refine lv_iconst (v := 0) hx hb dX6_looser_65 (by decide) ?_
            exact nd_I hQ hx hb hr hlocks dX6_looser_66 hS (absurd hf3 (sk_mono hv hk6 hf))
      · have hf : (skR r).1 = -1 := Decidable.byContradiction (fun q => bc_e0 c3 q)
        refine lv_bipush (v := (-6)) hx hb dX6_looser_28 (by decide) ?_
        exact nd_I hQ hx hb hr hlocks dX6_looser_30 hS (⟨loO_2 hx6 hf, S2, hFdS2.1, hZ⟩)
    · refine lv_bipush (v := (-2)) hx hb dX6_looser_10 (by decide) ?_
      exact nd_I hQ hx hb hr hlocks dX6_looser_12 hS (⟨loO_1 (fun q => c2 (by
          have a1 := i32_le_iff.mp q.2
          have a1 : x.toInt ≤ 5 := a1
          rw [i32_lt_iff]
          show x.toInt < 6
          omega)), S, h90, hZ⟩)
