/-! contracts that lean on the start: strings and statics -/
def SB (Sx : State → Prop) : Prop := ∀ u U : State, u.vm = U.vm → u.heap = U.heap → Sx u → Sx U
def PCX (G : GG) (Sx : State → Prop) (av : List Value) (P : Heap → Prop) : Array Value → State → Prop := fun v U => v = av.toArray ∧ P U.heap ∧ Kn G U ∧ Sx U
theorem PCX.blind {G : GG} {Sx : State → Prop} {av : List Value} {P : Heap → Prop} (hB : SB Sx) : FrameBlind (PCX G Sx av P) := fun a U g mk h => ⟨h.1, h.2.1, h.2.2.1.moved (u := U) (U := U.calling g mk a) (Vm.Alike.refl U.vm), hB U (U.calling g mk a) rfl rfl h.2.2.2⟩
theorem met_qx {l : Launch} {y : MethodName} {cc : ByteArray} {maxL : Nat} {ret : Option FieldType} {rm : Room} {G : GG} {Sx : State → Prop} {av : List Value} {P : Heap → Prop} {Qc : Array Value → State → Outcome → State → Prop} {mc ms : Nat} {free : Nat → Prop} (hy : plainName y.cls = true) (hlen : (lg_sl av).length ≤ maxL)
    (body : ∀ (p : Program) (e : Env) (s : State) (m : MethodId) (args : Array Value) (below : List Frame) (meth : Method) (c : Code) (Q : State → Prop), Q = MQ below Qc args s mc ms free → p.tables.exec = Jvm.exec → c.code = cc → meth.sig.returnType = ret → (∀ w ∈ lw_good, w.before args s = true) → s.vm.findClass y.cls = some m.cls → c.maxLocals = maxL → meth.locks = false → meth.name = y.name → Kn G s → Sx s → P s.heap → ∀ ls : Array Slot, lv_has ls maxL (lv_args 0 av) →
      W p l e rm s m args below meth c s.heap [] 0 0 Q (F0 m 0 ls [])) : Met l y (ws_ y cc maxL ret) rm (PCX G Sx av P) Qc mc ms free := by
  refine Met.ofW (cc := cc) (maxL := maxL) (ret := ret) hy rfl ?_
  intro p e s m args below meth c s₁ B hml hv
  obtain ⟨rfl, hP, hK, hX⟩ := hv
  have hts := atoms_spec (ws := ws_ y cc maxL ret) B.pre
  rw [lg_entry_eq]
  exact body p e s m _ below meth c _ rfl B.exec B.bytes B.returns (fun w h => hts w (List.mem_cons_of_mem _ h)) (findClass_of_methodNamed B.named) hml B.notSynchronized (name_of_methodNamed B.named B.method).1 hK hX hP _ (lv_entry av hlen)
section MYX
variable {p : Program} {l : Launch} {e : Env} {R : Room} {s : State} {m : MethodId} {args : Array Value} {below : List Frame} {meth : Method} {c : Code} {H : Heap} {locs : List Loc} {cells slots : Nat} {Q : State → Prop}
variable {cc : ByteArray} {pc : Nat} {ls : Array Slot} {rest : List Value} {b : Nat} {G : GG} {A : Nat → Prop} {H0 : Heap} {Sx : State → Prop}
variable {y : MethodName} {bytes : ByteArray} {maxL nL n index : Nat} {ret : Option FieldType} {rm : Room} {own C : String} {As st0 : List Value} {ci : Nat} {fs : List Value} {T : u_T} {N : Nat} {P : Heap → Prop} {Qc : Array Value → State → Outcome → State → Prop} {mc ms : Nat} {free : Nat → Prop} {ws : List Cond}
theorem pre_ix (hB : SB Sx) (hK : Kn G s) (hr : ∃ cell : Cell, H[b]? = some cell ∧ cell.vm.isStatics = false ∧ s.vm.findClass C = some cell.cls) (hP : P H) (hSx : ∀ U : State, U.heap = H → s.WarmedH U.vm → Sx U) : PreV s H C b (PCX G Sx (.ref b :: As) P) As :=
  ⟨PCX.blind hB, hr, fun U hU hW => ⟨rfl, by rw [hU]; exact hP, hK.moved hW.alike, hSx U hU hW⟩⟩
theorem pre_sx (hB : SB Sx) (hK : Kn G s) (hP : P H) (hSx : ∀ U : State, U.heap = H → s.WarmedH U.vm → Sx U) : PreS s H (PCX G Sx As P) As := ⟨PCX.blind hB, fun U hU hW => ⟨rfl, by rw [hU]; exact hP, hK.moved hW.alike, hSx U hU hW⟩⟩
/-- a call on an object of a picture -/
theorem run_ix (hB : SB Sx) (hSx : ∀ U : State, U.heap = H → s.WarmedH U.vm → Sx U) (hx : p.tables.exec = Jvm.exec) (hb : c.code = cc) (hml : c.maxLocals = nL) (hown : s.vm.findClass own = some m.cls) (hT : ∀ w ∈ lw_good, w.before args s = true) (hK : Kn G s) (hls : ls.size = nL) (hM : Met l y ws rm (PCX G Sx (.ref b :: As) P) Qc mc ms free) (cw : CallW R s args own C index y bytes maxL ret ws rm mc ms n) (hr : ob G ci b fs H) (hc : vwCl[ci]? = some (C, T, N)) (hP : P H) (hn : As.length = n) (hst : st0 = As.reverse ++ .ref b :: rest) (hW : (rest.map fun v => v.category).sum ≤ 8) (hdg : decode cc pc = .ok (.invokevirtual index, 3)) (hf : cells + mc ≤ R.cells ∧ slots + ms ≤ R.slots) : va_Run p l e R s m args below meth c H locs cells slots mc ms (F0 m pc ls st0) rest (Qc (Value.ref b :: As).toArray) free :=
  va_runV (Ts := lw_good) ⟨hx, hb, hml, hown, hT⟩ hM cw (pre_ix hB hK (va_recv (tys := tysG G) hK hr.one (ci := ci) (q0 := 0) hc rfl) hP hSx) rfl hn hls hst (by show 2 * 0 + _ ≤ 8; omega) hdg hf
theorem run_sx (hB : SB Sx) (hSx : ∀ U : State, U.heap = H → s.WarmedH U.vm → Sx U) (hx : p.tables.exec = Jvm.exec) (hb : c.code = cc) (hml : c.maxLocals = nL) (hown : s.vm.findClass own = some m.cls) (hT : ∀ w ∈ lw_good, w.before args s = true) (hK : Kn G s) (hls : ls.size = nL) (hM : Met l y ws rm (PCX G Sx As P) Qc mc ms free) (cw : CallB R s args own index y bytes maxL ret ws rm mc ms n ∧ (Cond.static y).before args s = true) (hP : P H) (hn : As.length = n) (hst : st0 = As.reverse ++ rest) (hW : (rest.map fun v => v.category).sum ≤ 8) (hdg : decode cc pc = .ok (.invokestatic index, 3)) (hf : cells + mc ≤ R.cells ∧ slots + ms ≤ R.slots) : va_Run p l e R s m args below meth c H locs cells slots mc ms (F0 m pc ls st0) rest (Qc As.toArray) free :=
  va_runS (Ts := lw_good) ⟨hx, hb, hml, hown, hT⟩ hM cw (pre_sx hB hK hP hSx) rfl hn hls hst (by show 2 * 0 + _ ≤ 8; omega) hdg hf
end MYX
/-! what is said of a string: its value's bytes, one each character; and of the two statics that String's methods look at -/
def StA (q t N : Nat) (f : Nat → Int32) (A : Nat → Prop) (U : State) : Prop := va_O "java/lang/String" q A U U.heap ∧ va_OF "java/lang/String" "coder" "B" (.int 0) q A U U.heap ∧ va_OF "java/lang/String" "value" "[B" (.ref t) q A U U.heap ∧ va_T .byte t N (fun j => .int (f j)) A U U.heap
def SzA (A : Nat → Prop) (U : State) : Prop := va_Z "java/lang/String" "COMPACT_STRINGS" "Z" (.int 1) A U U.heap
def SfA (A : Nat → Prop) (U : State) : Prop := va_Zq "jdk/internal/util/Preconditions" "SIOOBE_FORMATTER" "Ljava/util/function/BiFunction;" A U U.heap
theorem vmAl {u U : State} (h : u.vm = U.vm) : u.vm.Alike U.vm := by rw [h]; exact Vm.Alike.refl _
theorem SB_and {X Y : State → Prop} (h1 : SB X) (h2 : SB Y) : SB (fun U => X U ∧ Y U) := fun u U hv hh h => ⟨h1 u U hv hh h.1, h2 u U hv hh h.2⟩
theorem StA.call {q t N : Nat} {f : Nat → Int32} {A B : Nat → Prop} {s U : State} {H : Heap} {locs : List Loc} (h : StA q t N f A s) (hS : va_S A s.heap H locs) (hAB : ∀ z, B z → A z) (hU : U.heap = H) (hW : s.WarmedH U.vm) : StA q t N f B U := by
  subst hU
  exact ⟨((va_O.moved hW.alike h.1).kept hS.2.1).narrow hAB, ((va_OF.moved hW.alike h.2.1).kept hS.2.1).narrow hAB, ((va_OF.moved hW.alike h.2.2.1).kept hS.2.1).narrow hAB, ((va_T.moved hW.alike h.2.2.2).kept hS.2.1).narrow hAB⟩
theorem SzA.call {A B : Nat → Prop} {s U : State} {H : Heap} {locs : List Loc} (h : SzA A s) (hS : va_S A s.heap H locs) (hAB : ∀ z, B z → A z) (hU : U.heap = H) (hW : s.WarmedH U.vm) : SzA B U := by
  subst hU
  exact ((va_Z.moved hW.alike h).kept hS.2.1).narrow hAB
theorem SfA.call {A B : Nat → Prop} {s U : State} {H : Heap} {locs : List Loc} (h : SfA A s) (hS : va_S A s.heap H locs) (hAB : ∀ z, B z → A z) (hU : U.heap = H) (hW : s.WarmedH U.vm) : SfA B U := by
  subst hU
  rcases h with h | ⟨t, h⟩
  · exact Or.inl (((va_Z.moved hW.alike h).kept hS.2.1).narrow hAB)
  · exact Or.inr ⟨t, ((va_Z.moved hW.alike h).kept hS.2.1).narrow hAB⟩
