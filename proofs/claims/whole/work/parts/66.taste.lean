/-! taste and mean, of both; the JDK's bits -/
theorem nat_d : Cond.native ⟨"java/lang/Double", "doubleToRawLongBits", "(D)J"⟩ ∈ lw_good := lw_goodOk (k := 917) (by decide +kernel) (by decide +kernel)
theorem nat_f : Cond.native ⟨"java/lang/Float", "floatToRawIntBits", "(F)I"⟩ ∈ lw_good := lw_goodOk (k := 931) (by decide +kernel) (by decide +kernel)
/-- the start of a method of a class that has entries, itself none -/
theorem met_qF {l : Launch} {y : MethodName} {cc : ByteArray} {maxL : Nat} {ret : Option FieldType} {rm : Room} {G : GG} {av : List Value} {P : Heap → Prop} {Qc : Array Value → State → Outcome → State → Prop} {mc ms : Nat} {free : Nat → Prop} (hy : plainFor y = true) (hlen : (lg_sl av).length ≤ maxL)
    (body : ∀ (p : Program) (e : Env) (s : State) (m : MethodId) (args : Array Value) (below : List Frame) (meth : Method) (c : Code) (Q : State → Prop), Q = MQ below Qc args s mc ms free → p.tables.exec = Jvm.exec → c.code = cc → meth.sig.returnType = ret → (∀ w ∈ lw_good, w.before args s = true) → s.vm.findClass y.cls = some m.cls → c.maxLocals = maxL → meth.locks = false → meth.name = y.name → Kn G s → P s.heap → ∀ ls : Array Slot, lv_has ls maxL (lv_args 0 av) →
      W p l e rm s m args below meth c s.heap [] 0 0 Q (F0 m 0 ls [])) : Met l y (ws_ y cc maxL ret) rm (PC G av P) Qc mc ms free := by
  refine va_MetF (cc := cc) (maxL := maxL) (ret := ret) hy rfl ?_
  intro p e s m args below meth c s₁ B hml hv
  obtain ⟨rfl, hP, hK⟩ := hv
  have hts := atoms_spec (ws := ws_ y cc maxL ret) B.pre
  rw [lg_entry_eq]
  exact body p e s m _ below meth c _ rfl B.exec B.bytes B.returns (fun w h => hts w (List.mem_cons_of_mem _ h)) (findClass_of_methodNamed B.named) hml B.notSynchronized (name_of_methodNamed B.named B.method).1 hK hP _ (lv_entry av hlen)
theorem cv_0 {x : UInt64} (h : FP.Core.val64 x ≠ .nan) : Op.cmpValue (FP.dcmp x x) .l = 0 := by
  rw [show FP.dcmp x x = some .eq from FP.Core.dcmp_refl ((FP.Core.notNaN_iff x).mpr h)]
  rfl
theorem cv_f0 {x : UInt32} (h : FP.Core.val32 x ≠ .nan) : Op.cmpValue (FP.fcmp x x) .l = 0 := by
  rw [show FP.fcmp x x = some .eq from FP.Core.fcmp_refl ((FP.Core.notNaN_iff32 x).mpr h)]
  rfl
noncomputable def tstB (r : Nat → Int32) (t : Int32) : Int64 := if 0 ≤ t ∧ t ≤ 2 then (FP.ddiv (FP.i2d (tsS r t.toInt.toNat 0)) 4626322717216342016).toInt64 else 0
noncomputable def mnB (r : Nat → Int32) : Int32 := if r 3 = 0 then 0 else (FP.fdiv (FP.i2f (r 4)) (FP.i2f (r 3))).toInt32
theorem tsS_le {r : Nat → Int32} (h : Iv r) {k : Nat} (hk : k < 3) : ∃ S, S ≤ 2000 ∧ tsS r k 0 = nI S := by
  refine ⟨_, ?_, tsS_nI h hk⟩
  have hn5 := h.1.nl5
  have h1 : sn (fun i => sv r i * Vv r i k) (nlv r) ≤ sn (fun i => sv r i * 100) (nlv r) := sn_le _ (fun i hi => Nat.mul_le_mul_left _ (Vv_t h (by omega) hk).2)
  have h2 := sn_mul (sv r) 100 (nlv r)
  have h3 := h.2.2.2.2.2
  omega
theorem t3_ix {t : Int32} (h0 : ¬ t < 0) (h3 : t < 3) : ∃ k, k < 3 ∧ t = nI k := by
  refine ix_of ?_ (n := 3) ?_ (by omega)
  · rw [i32_lt_iff] at h0
    rw [i32_le_iff]
    omega
  · exact h3
theorem nI_nn (k : Nat) (h : k < 2 ^ 31) : 0 ≤ nI k := (nI_leI (a := 0) (by omega) h).mpr (Nat.zero_le _)
theorem tst_y {r : Nat → Int32} {k : Nat} (hk : k < 3) : (FP.ddiv (FP.i2d (tsS r k 0)) 4626322717216342016).toInt64 = tstB r (nI k) := by
  unfold tstB
  rw [if_pos ⟨nI_nn k (by omega), (nI_leI (b := 2) (by omega) (by omega)).mpr (by omega)⟩, nIt (by omega)]
theorem tst_n {r : Nat → Int32} {t : Int32} (h : ¬ (0 ≤ t ∧ t ≤ 2)) : 0 = tstB r t := (if_neg h).symm

set_option maxHeartbeats 4000000 in
set_option maxRecDepth 100000 in
theorem k_Jxe99ae_isNaN_b9ae7 (l : Launch) (G : GG) (y : UInt64) (hy : FP.Core.val64 y ≠ .nan) : Met l yJxe99ae_isNaN_b9ae7 (ws_ yJxe99ae_isNaN_b9ae7 cJxe99ae_isNaN_b9ae7 2 (some .boolean)) (rm_ 0) (PC G [.double y] (fun _ => True)) (vp_Si (fun v => v = 0)) 0 0 NoA := by
  refine met_q (by decide +kernel) (Nat.le_of_ble_eq_true rfl) ?_
  intro p e s m args below meth c Q hQ hx hb hr hT hown hml hlocks hnm hK hP ls hl
  have hl : lv_has ls 2 [(0, .double y)] := hl
  refine lv_dload_n hx hb dJxe99ae_isNaN_b9ae7_0 rfl (lv_at hl 0 rfl) ?_
  refine lv_dload_n hx hb dJxe99ae_isNaN_b9ae7_1 rfl (lv_at hl 0 rfl) ?_
  refine lv_dcmp hx hb dJxe99ae_isNaN_b9ae7_2 ?_
  rw [cv_0 hy]
  refine lv_if_eq (tgt := 10) hx hb dJxe99ae_isNaN_b9ae7_3 (by decide) (fun c1 => ?_) (fun c1 => ?_)
  · refine lv_iconst (v := 0) hx hb dJxe99ae_isNaN_b9ae7_10 (by decide) ?_
    exact nd_z hQ hx hb hr hlocks dJxe99ae_isNaN_b9ae7_11 (by first | exact Or.inl rfl | exact Or.inr rfl | exact bi01) (rfl)
  · exact absurd rfl c1

set_option maxHeartbeats 4000000 in
set_option maxRecDepth 100000 in
theorem k_Jxf58ca_isNaN_12338 (l : Launch) (G : GG) (y : UInt32) (hy : FP.Core.val32 y ≠ .nan) : Met l yJxf58ca_isNaN_12338 (ws_ yJxf58ca_isNaN_12338 cJxf58ca_isNaN_12338 1 (some .boolean)) (rm_ 0) (PC G [.float y] (fun _ => True)) (vp_Si (fun v => v = 0)) 0 0 NoA := by
  refine met_qF (by decide +kernel) (Nat.le_of_ble_eq_true rfl) ?_
  intro p e s m args below meth c Q hQ hx hb hr hT hown hml hlocks hnm hK hP ls hl
  have hl : lv_has ls 1 [(0, .float y)] := hl
  refine lv_fload_n hx hb dJxf58ca_isNaN_12338_0 rfl (lv_at hl 0 rfl) ?_
  refine lv_fload_n hx hb dJxf58ca_isNaN_12338_1 rfl (lv_at hl 0 rfl) ?_
  refine lv_fcmp hx hb dJxf58ca_isNaN_12338_2 ?_
  rw [cv_f0 hy]
  refine lv_if_eq (tgt := 10) hx hb dJxf58ca_isNaN_12338_3 (by decide) (fun c1 => ?_) (fun c1 => ?_)
  · refine lv_iconst (v := 0) hx hb dJxf58ca_isNaN_12338_10 (by decide) ?_
    exact nd_z hQ hx hb hr hlocks dJxf58ca_isNaN_12338_11 (by first | exact Or.inl rfl | exact Or.inr rfl | exact bi01) (rfl)
  · exact absurd rfl c1

set_option maxHeartbeats 4000000 in
set_option maxRecDepth 100000 in
theorem k_Jxe99ae_doubleToLongBits_ccdee (l : Launch) (G : GG) (y : UInt64) (hy : FP.Core.val64 y ≠ .nan) : Met l yJxe99ae_doubleToLongBits_ccdee (ws_ yJxe99ae_doubleToLongBits_ccdee cJxe99ae_doubleToLongBits_ccdee 2 (some .long)) (rm_ 1) (PC G [.double y] (fun _ => True)) (vp_Sl (fun v => v = y.toInt64)) 0 0 NoA := by
  refine met_q (by decide +kernel) (Nat.le_of_ble_eq_true rfl) ?_
  intro p e s m args below meth c Q hQ hx hb hr hT hown hml hlocks hnm hK hP ls hl
  have hl : lv_has ls 2 [(0, .double y)] := hl
  refine lv_dload_n hx hb dJxe99ae_doubleToLongBits_ccdee_0 rfl (lv_at hl 0 rfl) ?_
  refine got_i (run_s hx hb hml hown hT hK hl.1 (k_Jxe99ae_isNaN_b9ae7 l G y hy) (cw_Jxe99ae_122 hT ⟨Nat.le_of_ble_eq_true rfl, Nat.le_of_ble_eq_true rfl⟩) trivial rfl rfl (Nat.le_of_ble_eq_true rfl) dJxe99ae_doubleToLongBits_ccdee_1 ⟨Nat.zero_le _, Nat.zero_le _⟩) (fun v_1 hv_1 => ?_)
  subst hv_1
  refine lv_if_ne (tgt := 12) hx hb dJxe99ae_doubleToLongBits_ccdee_4 (by decide) (fun c1 => ?_) (fun c1 => ?_)
  · exact absurd rfl c1
  · refine lv_dload_n hx hb dJxe99ae_doubleToLongBits_ccdee_7 rfl (lv_at hl 0 rfl) ?_
    refine vn_d2l hx hb (hml.trans hl.1.symm) hown (hT _ mm_Jxe99ae_134) (hT _ nat_d) (hT _ mst_Double_doubleToRawLongBits) (hT _ mz_Jxe99ae) (Nat.le_of_ble_eq_true rfl) (Nat.le_of_ble_eq_true rfl) dJxe99ae_doubleToLongBits_ccdee_8 ?_
    exact nd_l hQ hx hb hr hlocks dJxe99ae_doubleToLongBits_ccdee_11 (rfl)

set_option maxHeartbeats 4000000 in
set_option maxRecDepth 100000 in
theorem k_Jxf58ca_floatToIntBits_5c35a (l : Launch) (G : GG) (y : UInt32) (hy : FP.Core.val32 y ≠ .nan) : Met l yJxf58ca_floatToIntBits_5c35a (ws_ yJxf58ca_floatToIntBits_5c35a cJxf58ca_floatToIntBits_5c35a 1 (some .int)) (rm_ 1) (PC G [.float y] (fun _ => True)) (vp_Si (fun v => v = y.toInt32)) 0 0 NoA := by
  refine met_qF (by decide +kernel) (Nat.le_of_ble_eq_true rfl) ?_
  intro p e s m args below meth c Q hQ hx hb hr hT hown hml hlocks hnm hK hP ls hl
  have hl : lv_has ls 1 [(0, .float y)] := hl
  refine lv_fload_n hx hb dJxf58ca_floatToIntBits_5c35a_0 rfl (lv_at hl 0 rfl) ?_
  refine got_i (run_s hx hb hml hown hT hK hl.1 (k_Jxf58ca_isNaN_12338 l G y hy) (cw_Jxf58ca_59 hT ⟨Nat.le_of_ble_eq_true rfl, Nat.le_of_ble_eq_true rfl⟩) trivial rfl rfl (Nat.le_of_ble_eq_true rfl) dJxf58ca_floatToIntBits_5c35a_1 ⟨Nat.zero_le _, Nat.zero_le _⟩) (fun v_1 hv_1 => ?_)
  subst hv_1
  refine lv_if_ne (tgt := 12) hx hb dJxf58ca_floatToIntBits_5c35a_4 (by decide) (fun c1 => ?_) (fun c1 => ?_)
  · exact absurd rfl c1
  · refine lv_fload_n hx hb dJxf58ca_floatToIntBits_5c35a_7 rfl (lv_at hl 0 rfl) ?_
    refine vn_f2i hx hb (hml.trans hl.1.symm) hown (hT _ mm_Jxf58ca_74) (hT _ nat_f) (hT _ mst_Float_floatToRawIntBits) (hT _ mz_Jxf58ca) (Nat.le_of_ble_eq_true rfl) (Nat.le_of_ble_eq_true rfl) dJxf58ca_floatToIntBits_5c35a_8 ?_
    exact nd_i hQ hx hb hr hlocks dJxf58ca_floatToIntBits_5c35a_11 (rfl)

set_option maxHeartbeats 4000000 in
set_option maxRecDepth 100000 in
theorem k_X6_taste (l : Launch) (G : GG) (z : Nat) (r : Nat → Int32) (x : Int32) (hv : Iv r) : Met l yX6_taste (ws_ yX6_taste cX6_taste 2 (some .long)) (rm_ 4) (PC G [.ref z, .int x] (fun H => Te G z H ∧ ShopAt G (z + 1) r H)) (vp_Sl (fun v => v = tstB r x)) 0 0 NoA := by
  refine met_q (by decide +kernel) (Nat.le_of_ble_eq_true rfl) ?_
  intro p e s m args below meth c Q hQ hx hb hr hT hown hml hlocks hnm hK hZ ls hl
  have hl : lv_has ls 2 [(0, .ref z), (1, .int x)] := hl
  refine lv_iload_n hx hb dX6_taste_0 rfl (lv_at hl 1 rfl) ?_
  refine lv_if_lt (tgt := 9) hx hb dX6_taste_1 (by decide) (fun c1 => ?_) (fun c1 => ?_)
  · refine lv_lconst (v := 0) hx hb dX6_taste_9 (by decide) ?_
    exact nd_l hQ hx hb hr hlocks dX6_taste_10 (tst_n (fun q => by have h9 := q.1; rw [i32_le_iff] at h9; rw [i32_lt_iff] at c1; omega))
  · refine lv_iload_n hx hb dX6_taste_4 rfl (lv_at hl 1 rfl) ?_
    refine lv_iconst (v := 3) hx hb dX6_taste_5 (by decide) ?_
    refine lv_icmp_lt (tgt := 11) hx hb dX6_taste_6 (by decide) (fun c2 => ?_) (fun c2 => ?_)
    · obtain ⟨k, hk, rfl⟩ := t3_ix c1 c2
      obtain ⟨S0, hS0, hSe⟩ := tsS_le hv hk
      obtain ⟨n1, n2⟩ := taste_b hS0
      rw [← hSe] at n1 n2
      refine lv_aload_n hx hb dX6_taste_11 rfl (lv_at hl 0 rfl) ?_
      refine rg (C := RX6) (T := TX6) (N := 6) (v := .ref (z + 1)) hx hb hT inX6 hown hK hZ.1 rfl 0 (by decide) mf_X6_10 rfl dX6_taste_12 ?_
      refine lv_iload_n hx hb dX6_taste_15 rfl (lv_at hl 1 rfl) ?_
      refine lv_iconst (v := 0) hx hb dX6_taste_16 (by decide) ?_
      refine got_i (run_i hx hb hml hown hT hK hl.1 (k_X5_tasteSum l G (z + 1) r k 0 hv.1 hk) (cw_X6_131 hT ⟨Nat.le_of_ble_eq_true rfl, Nat.le_of_ble_eq_true rfl⟩) hZ.2.1 rfl hZ.2 rfl rfl (Nat.le_of_ble_eq_true rfl) dX6_taste_17 ⟨Nat.zero_le _, Nat.zero_le _⟩) (fun v_1 hv_1 => ?_)
      subst hv_1
      refine lv_i2d hx hb dX6_taste_20 ?_
      refine lv_ldc2d hx hb hown (hT _ mk_X6_170) dX6_taste_21 ?_
      refine lv_ddiv hx hb dX6_taste_24 (nn64 n1) ?_
      refine lv_bipush (v := 52) hx hb dX6_taste_25 (by decide) ?_
      refine lv_sipush (v := 1023) hx hb dX6_taste_27 (by decide) ?_
      refine got_l (run_s hx hb hml hown hT hK hl.1 (k_X6_bitsOf_52 l G _ _ n2) (cw_X6_172 hT ⟨Nat.le_of_ble_eq_true rfl, Nat.le_of_ble_eq_true rfl⟩) trivial rfl rfl (Nat.le_of_ble_eq_true rfl) dX6_taste_30 ⟨Nat.zero_le _, Nat.zero_le _⟩) (fun v_2 hv_2 => ?_)
      exact nd_l hQ hx hb hr hlocks dX6_taste_33 (hv_2.trans (tst_y hk))
    · refine lv_lconst (v := 0) hx hb dX6_taste_9 (by decide) ?_
      exact nd_l hQ hx hb hr hlocks dX6_taste_10 (tst_n (fun q => by have h9 := q.2; rw [i32_le_iff] at h9; rw [i32_lt_iff] at c2; have e2 : (2 : Int32).toInt = 2 := rfl; have e3 : (3 : Int32).toInt = 3 := rfl; omega))

set_option maxHeartbeats 4000000 in
set_option maxRecDepth 100000 in
theorem k_X6_mean (l : Launch) (G : GG) (z : Nat) (r : Nat → Int32)  (hc : 0 ≤ (r 4).toInt) (hg : 0 ≤ (r 3).toInt) : Met l yX6_mean (ws_ yX6_mean cX6_mean 2 (some .int)) (rm_ 2) (PC G [.ref z] (fun H => Te G z H ∧ ShopAt G (z + 1) r H)) (vp_Si (fun v => v = mnB r)) 0 0 NoA := by
  refine met_q (by decide +kernel) (Nat.le_of_ble_eq_true rfl) ?_
  intro p e s m args below meth c Q hQ hx hb hr hT hown hml hlocks hnm hK hZ ls hl
  have hl : lv_has ls 2 [(0, .ref z)] := hl
  refine lv_aload_n hx hb dX6_mean_0 rfl (lv_at hl 0 rfl) ?_
  refine rg (C := RX6) (T := TX6) (N := 6) (v := .ref (z + 1)) hx hb hT inX6 hown hK hZ.1 rfl 0 (by decide) mf_X6_10 rfl dX6_mean_1 ?_
  refine rg (C := RX5) (T := TX5) (N := 8) (v := .int (r 3)) hx hb hT inX5 hown hK hZ.2.1 rfl 6 (by decide) mf_X6_155 rfl dX6_mean_4 ?_
  refine lv_if_ne (tgt := 12) hx hb dX6_mean_7 (by decide) (fun c1 => ?_) (fun c1 => ?_)
  · have eC := nI_of_toInt hc
    have eg := nI_of_toInt hg
    have hg0 : 0 < (r 3).toInt.toNat := Nat.pos_of_ne_zero (fun q => c1 (by rw [eg, q]; rfl))
    have bC := Int32.toInt_lt (r 4)
    have bg := Int32.toInt_lt (r 3)
    obtain ⟨n1, n2, res, n3, n4⟩ := mean_b (C := (r 4).toInt.toNat) (g := (r 3).toInt.toNat) (by omega) hg0 (by omega)
    rw [← eC, ← eg] at n1 n2 n3 n4
    refine lv_aload_n hx hb dX6_mean_12 rfl (lv_at hl 0 rfl) ?_
    refine rg (C := RX6) (T := TX6) (N := 6) (v := .ref (z + 1)) hx hb hT inX6 hown hK hZ.1 rfl 0 (by decide) mf_X6_10 rfl dX6_mean_13 ?_
    refine rg (C := RX5) (T := TX5) (N := 8) (v := .int (r 4)) hx hb hT inX5 hown hK hZ.2.1 rfl 7 (by decide) mf_X6_158 rfl dX6_mean_16 ?_
    refine lv_i2f hx hb dX6_mean_19 ?_
    refine lv_aload_n hx hb dX6_mean_20 rfl (lv_at hl 0 rfl) ?_
    refine rg (C := RX6) (T := TX6) (N := 6) (v := .ref (z + 1)) hx hb hT inX6 hown hK hZ.1 rfl 0 (by decide) mf_X6_10 rfl dX6_mean_21 ?_
    refine rg (C := RX5) (T := TX5) (N := 8) (v := .int (r 3)) hx hb hT inX5 hown hK hZ.2.1 rfl 6 (by decide) mf_X6_155 rfl dX6_mean_24 ?_
    refine lv_i2f hx hb dX6_mean_27 ?_
    refine lv_fdiv hx hb dX6_mean_28 (nn32 n1) ?_
    refine lv_fstore_n (lv' := [(1, .float (FP.fdiv (FP.i2f (r 4)) (FP.i2f (r 3)))), (0, .ref z)]) hx hb dX6_mean_29 rfl hl (by decide) rfl (fun ls hl => ?_)
    refine lv_fload_n hx hb dX6_mean_30 rfl (lv_at hl 0 rfl) ?_
    refine lv_f2d hx hb dX6_mean_31 (nn64 n2) ?_
    refine lv_bipush (v := 23) hx hb dX6_mean_32 (by decide) ?_
    refine lv_bipush (v := 127) hx hb dX6_mean_34 (by decide) ?_
    refine got_l (run_s hx hb hml hown hT hK hl.1 (k_X6_bitsOf_23 l G _ _ n3) (cw_X6_172 hT ⟨Nat.le_of_ble_eq_true rfl, Nat.le_of_ble_eq_true rfl⟩) trivial rfl rfl (Nat.le_of_ble_eq_true rfl) dX6_mean_36 ⟨Nat.zero_le _, Nat.zero_le _⟩) (fun v_1 hv_1 => ?_)
    subst hv_1
    refine lv_l2i hx hb dX6_mean_39 rfl ?_
    exact nd_i hQ hx hb hr hlocks dX6_mean_40 (n4.trans (if_neg c1).symm)
  · refine lv_iconst (v := 0) hx hb dX6_mean_10 (by decide) ?_
    exact nd_i hQ hx hb hr hlocks dX6_mean_11 ((if_pos c1).symm)

set_option maxHeartbeats 4000000 in
set_option maxRecDepth 100000 in
theorem k_X7_taste (l : Launch) (G : GG) (w : Nat) (M : Nat → Nat → Int32) (x : Int32) (hv : Iv (M 0)) : Met l yX7_taste (ws_ yX7_taste cX7_taste 2 (some .long)) (rm_ 3) (PC G [.ref w, .int x] (MdAt G w M)) (vp_Sl (fun v => v = tstB (M 0) x)) 0 0 NoA := by
  refine met_q (by decide +kernel) (Nat.le_of_ble_eq_true rfl) ?_
  intro p e s m args below meth c Q hQ hx hb hr hT hown hml hlocks hnm hK hM ls hl
  have hl : lv_has ls 2 [(0, .ref w), (1, .int x)] := hl
  refine lv_iload_n hx hb dX7_taste_0 rfl (lv_at hl 1 rfl) ?_
  refine lv_i2l hx hb dX7_taste_1 rfl ?_
  refine lv_iconst (v := 0) hx hb dX7_taste_2 (by decide) ?_
  refine lv_iconst (v := 2) hx hb dX7_taste_3 (by decide) ?_
  refine got_i (run_s hx hb hml hown hT hK hl.1 (k_X7_in l G x 0 2) (cw_X7_47 hT ⟨Nat.le_of_ble_eq_true rfl, Nat.le_of_ble_eq_true rfl⟩) trivial rfl rfl (Nat.le_of_ble_eq_true rfl) dX7_taste_4 ⟨Nat.zero_le _, Nat.zero_le _⟩) (fun v_1 hv_1 => ?_)
  subst hv_1
  refine lv_if_eq (tgt := 24) hx hb dX7_taste_7 (by decide) (fun c1 => ?_) (fun c1 => ?_)
  · refine lv_dconst0 hx hb dX7_taste_24 ?_
    refine got_l (run_s hx hb hml hown hT hK hl.1 (k_Jxe99ae_doubleToLongBits_ccdee l G _ (fin64 zero_v)) (cw_X7_144 hT ⟨Nat.le_of_ble_eq_true rfl, Nat.le_of_ble_eq_true rfl⟩) trivial rfl rfl (Nat.le_of_ble_eq_true rfl) dX7_taste_25 ⟨Nat.zero_le _, Nat.zero_le _⟩) (fun v_2 hv_2 => ?_)
    exact nd_l hQ hx hb hr hlocks dX7_taste_28 (hv_2.trans ((show FP.dconst0.toInt64 = 0 by decide).trans (tst_n (bi_e0 c1))))
  · obtain ⟨k, hk, rfl⟩ := x_ix (n := 2) (bi_n0 c1) (by omega)
    obtain ⟨S0, hS0, hSe⟩ := tsS_le hv hk
    obtain ⟨n1, n2⟩ := taste_b hS0
    rw [← hSe] at n1 n2
    refine lv_aload_n hx hb dX7_taste_10 rfl (lv_at hl 0 rfl) ?_
    refine lv_iload_n hx hb dX7_taste_11 rfl (lv_at hl 1 rfl) ?_
    refine lv_iconst (v := 0) hx hb dX7_taste_12 (by decide) ?_
    refine got_i (run_i hx hb hml hown hT hK hl.1 (k_X7_sumOfTastes l G w M k 0 hv.1 hk) (cw_X7_77 hT ⟨Nat.le_of_ble_eq_true rfl, Nat.le_of_ble_eq_true rfl⟩) hM.1 rfl hM rfl rfl (Nat.le_of_ble_eq_true rfl) dX7_taste_13 ⟨Nat.zero_le _, Nat.zero_le _⟩) (fun v_3 hv_3 => ?_)
    subst hv_3
    refine lv_i2d hx hb dX7_taste_16 ?_
    refine lv_ldc2d hx hb hown (hT _ mk_X7_142) dX7_taste_17 ?_
    refine lv_ddiv hx hb dX7_taste_20 (nn64 n1) ?_
    refine lv_goto (tgt := 25) hx hb dX7_taste_21 (by decide) ?_
    refine got_l (run_s hx hb hml hown hT hK hl.1 (k_Jxe99ae_doubleToLongBits_ccdee l G _ n1) (cw_X7_144 hT ⟨Nat.le_of_ble_eq_true rfl, Nat.le_of_ble_eq_true rfl⟩) trivial rfl rfl (Nat.le_of_ble_eq_true rfl) dX7_taste_25 ⟨Nat.zero_le _, Nat.zero_le _⟩) (fun v_4 hv_4 => ?_)
    exact nd_l hQ hx hb hr hlocks dX7_taste_28 (hv_4.trans (tst_y hk))

set_option maxHeartbeats 4000000 in
set_option maxRecDepth 100000 in
theorem k_X7_mean (l : Launch) (G : GG) (w : Nat) (M : Nat → Nat → Int32)  (hc : 0 ≤ (M 0 4).toInt) (hg : 0 ≤ (M 0 3).toInt) : Met l yX7_mean (ws_ yX7_mean cX7_mean 1 (some .int)) (rm_ 2) (PC G [.ref w] (MdAt G w M)) (vp_Si (fun v => v = mnB (M 0))) 0 0 NoA := by
  refine met_q (by decide +kernel) (Nat.le_of_ble_eq_true rfl) ?_
  intro p e s m args below meth c Q hQ hx hb hr hT hown hml hlocks hnm hK hM ls hl
  have hl : lv_has ls 1 [(0, .ref w)] := hl
  refine lv_aload_n hx hb dX7_mean_0 rfl (lv_at hl 0 rfl) ?_
  refine rg (C := RX7) (T := TX7) (N := 16) (v := .ref (w + 1)) hx hb hT inX7 hown hK hM.1 rfl 0 (by decide) mf_X7_7 rfl dX7_mean_1 ?_
  refine lv_iconst (v := 3) hx hb dX7_mean_4 (by decide) ?_
  refine r_ialdS (y := M 0 3) hx hb hK hM.2.1 3 (by decide) (by omega) (Nat.le_of_ble_eq_true rfl) rfl dX7_mean_5 ?_
  refine lv_if_ne (tgt := 13) hx hb dX7_mean_6 (by decide) (fun c1 => ?_) (fun c1 => ?_)
  · have eC := nI_of_toInt hc
    have eg := nI_of_toInt hg
    have hg0 : 0 < (M 0 3).toInt.toNat := Nat.pos_of_ne_zero (fun q => c1 (by rw [eg, q]; rfl))
    have bC := Int32.toInt_lt (M 0 4)
    have bg := Int32.toInt_lt (M 0 3)
    obtain ⟨n1, n2, res, n3, n4⟩ := mean_b (C := (M 0 4).toInt.toNat) (g := (M 0 3).toInt.toNat) (by omega) hg0 (by omega)
    rw [← eC, ← eg] at n1 n2 n3 n4
    refine lv_aload_n hx hb dX7_mean_13 rfl (lv_at hl 0 rfl) ?_
    refine rg (C := RX7) (T := TX7) (N := 16) (v := .ref (w + 1)) hx hb hT inX7 hown hK hM.1 rfl 0 (by decide) mf_X7_7 rfl dX7_mean_14 ?_
    refine lv_iconst (v := 4) hx hb dX7_mean_17 (by decide) ?_
    refine r_ialdS (y := M 0 4) hx hb hK hM.2.1 4 (by decide) (by omega) (Nat.le_of_ble_eq_true rfl) rfl dX7_mean_18 ?_
    refine lv_i2f hx hb dX7_mean_19 ?_
    refine lv_aload_n hx hb dX7_mean_20 rfl (lv_at hl 0 rfl) ?_
    refine rg (C := RX7) (T := TX7) (N := 16) (v := .ref (w + 1)) hx hb hT inX7 hown hK hM.1 rfl 0 (by decide) mf_X7_7 rfl dX7_mean_21 ?_
    refine lv_iconst (v := 3) hx hb dX7_mean_24 (by decide) ?_
    refine r_ialdS (y := M 0 3) hx hb hK hM.2.1 3 (by decide) (by omega) (Nat.le_of_ble_eq_true rfl) rfl dX7_mean_25 ?_
    refine lv_i2f hx hb dX7_mean_26 ?_
    refine lv_fdiv hx hb dX7_mean_27 (nn32 n1) ?_
    refine got_i (run_s hx hb hml hown hT hK hl.1 (k_Jxf58ca_floatToIntBits_5c35a l G _ n1) (cw_X7_150 hT ⟨Nat.le_of_ble_eq_true rfl, Nat.le_of_ble_eq_true rfl⟩) trivial rfl rfl (Nat.le_of_ble_eq_true rfl) dX7_mean_28 ⟨Nat.zero_le _, Nat.zero_le _⟩) (fun v_1 hv_1 => ?_)
    exact nd_i hQ hx hb hr hlocks dX7_mean_31 (hv_1.trans (if_neg c1).symm)
  · refine lv_fconst0 hx hb dX7_mean_9 ?_
    refine lv_goto (tgt := 28) hx hb dX7_mean_10 (by decide) ?_
    refine got_i (run_s hx hb hml hown hT hK hl.1 (k_Jxf58ca_floatToIntBits_5c35a l G _ (fin32 FP.Core.val32_fconst0)) (cw_X7_150 hT ⟨Nat.le_of_ble_eq_true rfl, Nat.le_of_ble_eq_true rfl⟩) trivial rfl rfl (Nat.le_of_ble_eq_true rfl) dX7_mean_28 ⟨Nat.zero_le _, Nat.zero_le _⟩) (fun v_2 hv_2 => ?_)
    exact nd_i hQ hx hb hr hlocks dX7_mean_31 (hv_2.trans ((show FP.fconst0.toInt32 = 0 by decide).trans (if_pos c1).symm))
