/-! which form an order has; one part of it -/
def QR (post : Nat → Prop) : Array Value → State → Outcome → State → Prop := fun _ st o t => ∃ a : Nat, o = .returned (some (.ref a)) ∧ post a ∧ t.heap = st.heap
section MYQ
variable {p : Program} {l : Launch} {e : Env} {R : Room} {s : State} {m : MethodId} {args : Array Value} {below : List Frame} {meth : Method} {c : Code} {H : Heap} {locs : List Loc} {cells slots : Nat} {Q : State → Prop}
variable {cc : ByteArray} {pc : Nat} {ls : Array Slot} {rest st0 : List Value} {free : Nat → Prop}
theorem got_r {post : Nat → Prop} {a : Array Value} (hr : va_Run p l e R s m args below meth c H locs cells slots 0 0 (F0 m pc ls st0) rest (QR post a) NoA)
    (kk : ∀ q : Nat, post q → W p l e R s m args below meth c H locs cells slots Q (F0 m (pc + 3) ls (.ref q :: rest))) : W p l e R s m args below meth c H locs cells slots Q (F0 m pc ls st0) := by
  intro T hT X
  obtain ⟨v, st₀, t, T', L, h0, X', hL, e1, e2, ⟨r, hv, hp, hh⟩, st⟩ := hr T hT X
  cases hv
  obtain ⟨t2, a1, b1⟩ := kk r hp T' (by rw [e1, hh, h0]) (Stand.forget X' (fun q h => (hL q h).elim))
  exact ⟨t2, st t2 a1, b1⟩
theorem nd_r {post : Nat → Prop} {q : Nat} {C : String} (hQ : Q = MQ below (QR post) args s 0 0 free) (hx : p.tables.exec = Jvm.exec) (hb : c.code = cc) (hr : meth.sig.returnType = some (.object C)) (hlocks : meth.locks = false) (hdg : decode cc pc = .ok (.areturn, 1)) (hp : post q) : W p l e R s m args below meth c s.heap [] 0 0 Q (F0 m pc ls [.ref q]) := by
  subst hQ
  exact W.aret hx hb hr (Or.inl ⟨_, rfl⟩) (Or.inr ⟨_, rfl⟩) (fun t ht hW => ⟨q, rfl, hp, ht⟩) (fun q h => by cases h) hdg
end MYQ
def SfX (ad : Nat → Nat) (U : State) : Prop := vk_R RX2 68 "#:#,#,#*#" (ad 0) U ∧ vk_R RX2 70 "%=#" (ad 1) U ∧ vk_R RX2 72 "#" (ad 2) U ∧ vk_R RX2 74 "" (ad 3) U
theorem SB_SfX {ad : Nat → Nat} : SB (SfX ad) := fun u U hv _ h => ⟨vk_R.same hv.symm h.1, vk_R.same hv.symm h.2.1, vk_R.same hv.symm h.2.2.1, vk_R.same hv.symm h.2.2.2⟩
theorem SfX.call {ad : Nat → Nat} {s U : State} (h : SfX ad s) (hW : s.WarmedH U.vm) : SfX ad U := ⟨vk_R.warm hW h.1, vk_R.warm hW h.2.1, vk_R.warm hW h.2.2.1, vk_R.warm hW h.2.2.2⟩
def frS (x : Int32) : Nat := if x = 43 then 0 else if x = 115 then 1 else if x = 100 ∨ x = 109 then 2 else 3

set_option maxHeartbeats 4000000 in
set_option maxRecDepth 100000 in
theorem k_X2_formOf (l : Launch) (G : GG) (ad : Nat → Nat) (x : Int32)  : Met l yX2_formOf (ws_ yX2_formOf cX2_formOf 1 (some (.object "java/lang/String"))) (rm_ 0) (PCX G (SfX ad) [.int x] (fun _ => True)) (QR (fun q => q = ad (frS x))) 0 0 NoA := by
  refine met_qx (by decide +kernel) (Nat.le_of_ble_eq_true rfl) ?_
  intro p e s m args below meth c Q hQ hx hb hr hT hown hml hlocks hnm hK hX hP ls hl
  have hl : lv_has ls 1 [(0, .int x)] := hl
  refine lv_iload_n hx hb dX2_formOf_0 rfl (lv_at hl 0 rfl) ?_
  by_cases c1 : x = 43
  · refine lv_lookup hx hb dX2_formOf_1 (by decide) (off := 43) (tgt := 44) (by subst c1; rfl) (by decide) ?_
    refine va_ldcS hx hb hown hX.1 dX2_formOf_44 ?_
    exact nd_r hQ hx hb hr hlocks dX2_formOf_46 (by subst c1; rfl)
  · by_cases c2 : x = 100
    · refine lv_lookup hx hb dX2_formOf_1 (by decide) (off := 49) (tgt := 50) (by subst c2; rfl) (by decide) ?_
      refine va_ldcS hx hb hown hX.2.2.1 dX2_formOf_50 ?_
      exact nd_r hQ hx hb hr hlocks dX2_formOf_52 (by subst c2; rfl)
    · by_cases c3 : x = 109
      · refine lv_lookup hx hb dX2_formOf_1 (by decide) (off := 49) (tgt := 50) (by subst c3; rfl) (by decide) ?_
        refine va_ldcS hx hb hown hX.2.2.1 dX2_formOf_50 ?_
        exact nd_r hQ hx hb hr hlocks dX2_formOf_52 (by subst c3; rfl)
      · by_cases c4 : x = 115
        · refine lv_lookup hx hb dX2_formOf_1 (by decide) (off := 46) (tgt := 47) (by subst c4; rfl) (by decide) ?_
          refine va_ldcS hx hb hown hX.2.1 dX2_formOf_47 ?_
          exact nd_r hQ hx hb hr hlocks dX2_formOf_49 (by subst c4; rfl)
        · refine lv_lookup hx hb dX2_formOf_1 (by decide) (off := 52) (tgt := 53) (show Op.lookupswitch.offset [(43, 43), (100, 49), (109, 49), (115, 46)] 52 x.toInt = 52 from (lv_osw c1 rfl).trans ((lv_osw c2 rfl).trans ((lv_osw c3 rfl).trans ((lv_osw c4 rfl).trans rfl)))) (by decide) ?_
          refine va_ldcS hx hb hown hX.2.2.2 dX2_formOf_53 ?_
          exact nd_r hQ hx hb hr hlocks dX2_formOf_55 (by unfold frS; rw [if_neg c1, if_neg c4, if_neg (fun q => q.elim c2 c3)])

set_option maxHeartbeats 4000000 in
set_option maxRecDepth 100000 in
theorem k_X2_readPart (l : Launch) (G : GG) (z pz : Nat) (T : Nat → Int32) (n : Nat) (N : Nat → Int32) (u0 j : Nat) (kd : Int32) (y : Int32) (hn : n ≤ 80) (hp : u0 ≤ n) (hne : pz + 2 ≤ z ∨ z + 2 ≤ pz) (hj : j < 5) (hy : ¬ y = 0) : Met l yX2_readPart (ws_ yX2_readPart cX2_readPart 2 (some .boolean)) (rm_ 3) (PC G [.ref z, .int y] (RdC G z pz T n N u0 j kd)) (QI (fun v H => v = zb (rdP T n [y] u0 j N).1 ∧ RdC G z pz T n (rdP T n [y] u0 j N).2.2 (rdP T n [y] u0 j N).2.1 (if (rdP T n [y] u0 j N).1 = true ∧ (y = 35 ∨ y = 37) then j + 1 else j) kd H) (In z 2)) 0 0 (In z 2) := by
  refine met_q (by decide +kernel) (Nat.le_of_ble_eq_true rfl) ?_
  intro p e s m args below meth c Q hQ hx hb hr hT hown hml hlocks hnm hK hR ls hl
  have hl : lv_has ls 2 [(0, .ref z), (1, .int y)] := hl
  have hS : va_S (In z 2) s.heap s.heap [] := va_S.rf
  refine lv_iload_n hx hb dX2_readPart_0 rfl (lv_at hl 1 rfl) ?_
  refine lv_bipush (v := 35) hx hb dX2_readPart_1 (by decide) ?_
  refine lv_icmp_ne (tgt := 12) hx hb dX2_readPart_3 (by decide) (fun c1 => ?_) (fun c1 => ?_)
  · refine lv_iload_n hx hb dX2_readPart_12 rfl (lv_at hl 1 rfl) ?_
    refine lv_bipush (v := 37) hx hb dX2_readPart_13 (by decide) ?_
    refine lv_icmp_ne (tgt := 26) hx hb dX2_readPart_15 (by decide) (fun c2 => ?_) (fun c2 => ?_)
    · refine lv_aload_n hx hb dX2_readPart_26 rfl (lv_at hl 0 rfl) ?_
      refine lv_iload_n hx hb dX2_readPart_27 rfl (lv_at hl 1 rfl) ?_
      refine got_I (run_i hx hb hml hown hT hK hl.1 (k_X2_readSign l G z pz T n N u0 j kd y hn hp hne) (cw_X2_35 hT ⟨Nat.le_of_ble_eq_true rfl, Nat.le_of_ble_eq_true rfl⟩) hR.1.1 rfl hR rfl rfl (Nat.le_of_ble_eq_true rfl) dX2_readPart_28 ⟨Nat.zero_le _, Nat.zero_le _⟩) hS (fun q hq => hq) (fun q hq => hq) (fun v_1 H locs h1 hz hk hS => ?_)
      rcases h1 with ⟨hv, hD, hR⟩ | ⟨hv, hD, hR⟩
      · have hs : rdP T n [y] u0 j N = (true, _, _) := rdP_sy c1 c2 ((sgn_eq hy).mp hD)
        subst hv
        exact nd_Z hQ hx hb hr hlocks dX2_readPart_31 hS (by first | exact Or.inl rfl | exact Or.inr rfl) (⟨by rw [hs]; rfl, by rw [hs]; rw [if_neg (fun q => q.2.elim c1 c2)]; exact hR⟩)
      · have hs : rdP T n [y] u0 j N = (false, u0, N) := rdP_sn c1 c2 (fun q => hD ((sgn_eq hy).mpr q))
        subst hv
        exact nd_Z hQ hx hb hr hlocks dX2_readPart_31 hS (by first | exact Or.inl rfl | exact Or.inr rfl) (⟨by rw [hs]; rfl, by rw [hs]; rw [if_neg (fun q => by cases q.1)]; exact hR⟩)
    · refine lv_aload_n hx hb dX2_readPart_18 rfl (lv_at hl 0 rfl) ?_
      refine lv_iconst (v := 1) hx hb dX2_readPart_19 (by decide) ?_
      rw [show (1 : Int32) = nI (0 + 1) from rfl]
      refine got_I (run_i hx hb hml hown hT hK hl.1 (k_X2_readNumber l G z pz T n N u0 j kd 0 hn hp hne hj (by omega)) (cw_X2_76 hT ⟨Nat.le_of_ble_eq_true rfl, Nat.le_of_ble_eq_true rfl⟩) hR.1.1 rfl hR rfl rfl (Nat.le_of_ble_eq_true rfl) dX2_readPart_20 ⟨Nat.zero_le _, Nat.zero_le _⟩) hS (fun q hq => hq) (fun q hq => hq) (fun v_2 H locs h1 hz hk hS => ?_)
      rcases h1 with ⟨hv, hD, hR⟩ | ⟨hv, hD, hR⟩
      · have hs : rdP T n [y] u0 j N = (true, u0 + 1, upd N j (nI (dg T u0))) := by rw [c2]; exact rdP_dy hD
        subst hv
        refine lv_goto (tgt := 31) hx hb dX2_readPart_23 (by decide) ?_
        exact nd_Z hQ hx hb hr hlocks dX2_readPart_31 hS (by first | exact Or.inl rfl | exact Or.inr rfl) (⟨by rw [hs]; rfl, by rw [hs]; rw [if_pos ⟨rfl, Or.inr c2⟩]; exact hR⟩)
      · have hs : rdP T n [y] u0 j N = (false, u0, N) := by rw [c2]; exact rdP_dn hD
        subst hv
        refine lv_goto (tgt := 31) hx hb dX2_readPart_23 (by decide) ?_
        exact nd_Z hQ hx hb hr hlocks dX2_readPart_31 hS (by first | exact Or.inl rfl | exact Or.inr rfl) (⟨by rw [hs]; rfl, by rw [hs]; rw [if_neg (fun q => by cases q.1)]; exact hR⟩)
  · refine lv_aload_n hx hb dX2_readPart_6 rfl (lv_at hl 0 rfl) ?_
    refine lv_iconst (v := 4) hx hb dX2_readPart_7 (by decide) ?_
    rw [show (4 : Int32) = nI (3 + 1) from rfl]
    refine got_I (run_i hx hb hml hown hT hK hl.1 (k_X2_readNumber l G z pz T n N u0 j kd 3 hn hp hne hj (by omega)) (cw_X2_76 hT ⟨Nat.le_of_ble_eq_true rfl, Nat.le_of_ble_eq_true rfl⟩) hR.1.1 rfl hR rfl rfl (Nat.le_of_ble_eq_true rfl) dX2_readPart_8 ⟨Nat.zero_le _, Nat.zero_le _⟩) hS (fun q hq => hq) (fun q hq => hq) (fun v_3 H locs h1 hz hk hS => ?_)
    rcases h1 with ⟨hv, hD, hR⟩ | ⟨hv, hD, hR⟩
    · have hs : rdP T n [y] u0 j N = (true, (nmF T n 3 (dg T u0) (u0 + 1)).2, upd N j (nI (nmF T n 3 (dg T u0) (u0 + 1)).1)) := by rw [c1]; exact rdP_ny hD
      subst hv
      exact nd_Z hQ hx hb hr hlocks dX2_readPart_11 hS (by first | exact Or.inl rfl | exact Or.inr rfl) (⟨by rw [hs]; rfl, by rw [hs]; rw [if_pos ⟨rfl, Or.inl c1⟩]; exact hR⟩)
    · have hs : rdP T n [y] u0 j N = (false, u0, N) := by rw [c1]; exact rdP_nn hD
      subst hv
      exact nd_Z hQ hx hb hr hlocks dX2_readPart_11 hS (by first | exact Or.inl rfl | exact Or.inr rfl) (⟨by rw [hs]; rfl, by rw [hs]; rw [if_neg (fun q => by cases q.1)]; exact hR⟩)
