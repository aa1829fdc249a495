/-! words and facts that are not in every contract's list: arrays over classes, nest mates, statics -/
theorem mx_same : Cond.sameMethod "[I" "java/lang/Object" "clone" "()Ljava/lang/Object;" ∈ lw_good := lw_goodOk (k := 36) (by decide +kernel) (by decide +kernel)
theorem mx_nat : Cond.native ⟨"java/lang/Object", "clone", "()Ljava/lang/Object;"⟩ ∈ lw_good := lw_goodOk (k := 37) (by decide +kernel) (by decide +kernel)
theorem mx_ins : Cond.instanceMethod ⟨"java/lang/Object", "clone", "()Ljava/lang/Object;"⟩ ∈ lw_good := lw_goodOk (k := 38) (by decide +kernel) (by decide +kernel)
theorem mx_sel : Cond.selects "[I" ⟨"[I", "clone", "()Ljava/lang/Object;"⟩ ⟨"java/lang/Object", "clone", "()Ljava/lang/Object;"⟩ ∈ lw_good := lw_goodOk (k := 39) (by decide +kernel) (by decide +kernel)
def va_AOA (ty : FieldType) (U : State) : Prop := (Cond.arrayOver (.array ty)).before #[] U = true
theorem va_AOA.use {ty : FieldType} {A : Array Value} {U : State} (h : va_AOA ty U) : (Cond.arrayOver (.array ty)).before A U = true := h
theorem aoa_spec {args : Array Value} {first s : State} {o : Option Outcome} {idx : List Nat} {t : FieldType} (h : (Cond.arrayOver (.array t)).holds args first o s idx = true) :
    ∃ comp c k, s.vm.findClass (FieldType.array t).toString = some comp ∧ (s.vm.classes.findIdx? fun x => match x.kind with | .array component _ => component == comp | _ => false) = some c ∧ s.vm.classes[c]? = some k ∧ k.kind = .array comp (.array t) ∧ s.vm.findClass ("[" ++ (FieldType.array t).toString) = some c := by
  simp only [Cond.holds, Cond.value, beq_iff_eq] at h
  cases hc : s.vm.findClass (FieldType.array t).toString with
  | none => simp [hc] at h
  | some comp =>
    simp only [hc, Option.bind_some, Option.bind_eq_some_iff, Option.map_eq_some_iff] at h
    obtain ⟨c, hi, k, hk, hb⟩ := h
    obtain ⟨hlt, hp, -⟩ := Array.findIdx?_eq_some_iff_getElem.mp hi
    have hk' : s.vm.classes[c]? = some s.vm.classes[c] := Array.getElem?_eq_getElem hlt
    cases hk.symm.trans hk'
    cases hkind : (s.vm.classes[c]).kind with
    | array component ty =>
      simp only [hkind, beq_iff_eq, Bool.and_eq_true, decide_eq_true_eq, Option.some.injEq] at hp hb
      subst hp
      exact ⟨_, c, _, rfl, hi, hk', by rw [hkind, hb.1], hb.2⟩
    | _ => simp [hkind] at hp
theorem va_AOA.moved {ty : FieldType} {u U : State} (hvm : u.vm.Alike U.vm) (h : va_AOA ty u) : va_AOA ty U := by
  obtain ⟨comp, c, k, h1, h2, h3, h4, h5⟩ := aoa_spec h
  obtain ⟨k', hk', he⟩ := hvm.2.2 _ _ h3
  have hi : (U.vm.classes.findIdx? fun (x : Class) => match x.kind with | .array component _ => component == comp | _ => false) = some c := by
    refine (va_idx_bare U.vm comp).symm.trans ?_
    first | rw [hvm.bare_eq] | rw [← hvm.bare_eq]
    exact (va_idx_bare u.vm comp).trans h2
  have hkind : k'.kind = .array comp (.array ty) := by rw [he]; exact h4
  have f1 : U.vm.findClass (FieldType.array ty).toString = some comp := by rw [hvm.findClass]; exact h1
  have f2 : U.vm.findClass ("[" ++ (FieldType.array ty).toString) = some c := by rw [hvm.findClass]; exact h5
  unfold va_AOA Cond.before Cond.holds
  simp only [Cond.value]
  rw [f1, Option.bind_some]
  refine (congrArg (fun o : Option Nat => (o.bind (fun c => (U.vm.classes[c]?).map fun (k : Class) => match k.kind with | .array _ ty' => decide (ty' = FieldType.array ty) && decide (U.vm.findClass ("[" ++ (FieldType.array ty).toString) = some c) | _ => false) == some true)) hi).trans ?_
  simp [hk', hkind, f2]
/-- a static row of two ints of the face's class -/
def TzA (n : String) (t : Nat) (f : Nat → Int32) (A : Nat → Prop) (U : State) : Prop := va_Z RX6 n "[I" (.ref t) A U U.heap ∧ va_T .int t 2 (fun j => .int (f j)) A U U.heap
theorem SB_TzA {n : String} {t : Nat} {f : Nat → Int32} {A : Nat → Prop} : SB (TzA n t f A) := fun u U hv hh h => by
  unfold TzA at h ⊢
  rw [hh] at h
  exact ⟨va_Z.moved (vmAl hv) h.1, va_T.moved (vmAl hv) h.2⟩
theorem TzA.call {n : String} {t : Nat} {f : Nat → Int32} {A B : Nat → Prop} {s U : State} {H : Heap} {locs : List Loc} (h : TzA n t f A s) (hS : va_S A s.heap H locs) (hAB : ∀ z, B z → A z) (hU : U.heap = H) (hW : s.WarmedH U.vm) : TzA n t f B U := by
  subst hU
  exact ⟨((va_Z.moved hW.alike h.1).kept hS.2.1).narrow hAB, ((va_T.moved hW.alike h.2).kept hS.2.1).narrow hAB⟩
def f2I (a b : Int32) : Nat → Int32 := fun j => if j = 0 then a else b
/-- the settings' bounds -/
def SxL (t : Nat → Nat) (A : Nat → Prop) (U : State) : Prop := (va_Nw (.fieldLinkNest RX5 65 RX6 "LEAST_SETTING" "[I" RX6) U ∧ va_Nw (.fieldLinkNest RX5 68 RX6 "MOST_SETTING" "[I" RX6) U) ∧ TzA "LEAST_SETTING" (t 0) (f2I 0 1) A U ∧ TzA "MOST_SETTING" (t 1) (f2I 99 7) A U
theorem SB_SxL {t : Nat → Nat} {A : Nat → Prop} : SB (SxL t A) := fun u U hv hh h => ⟨⟨va_Nw.same rfl hv h.1.1, va_Nw.same rfl hv h.1.2⟩, SB_TzA u U hv hh h.2.1, SB_TzA u U hv hh h.2.2⟩
theorem SxL.call {t : Nat → Nat} {A B : Nat → Prop} {s U : State} {H : Heap} {locs : List Loc} (h : SxL t A s) (hS : va_S A s.heap H locs) (hAB : ∀ z, B z → A z) (hU : U.heap = H) (hW : s.WarmedH U.vm) : SxL t B U := ⟨⟨va_Nw.warmF hW h.1.1, va_Nw.warmF hW h.1.2⟩, h.2.1.call hS hAB hU hW, h.2.2.call hS hAB hU hW⟩
/-- a static row of two ints that is copied: its class is the one that is called so -/
def TcA (n : String) (t : Nat) (x y : Int32) (A : Nat → Prop) (U : State) : Prop := va_Z RX6 n "[I" (.ref t) A U U.heap ∧ (∃ cell : Cell, U.heap[t]? = some cell ∧ cell.vm ≠ .unknown ∧ (∀ k, cell.vm ≠ .statics k) ∧ U.vm.findClass "[I" = some cell.cls ∧ cell.slots = #[.int x, .int y]) ∧ ¬ A t
theorem SB_TcA {n : String} {t : Nat} {x y : Int32} {A : Nat → Prop} : SB (TcA n t x y A) := fun u U hv hh h => by
  unfold TcA at h ⊢
  rw [hh] at h
  obtain ⟨h1, ⟨cell, q1, q2, q3, q4, q5⟩, h2⟩ := h
  exact ⟨va_Z.moved (vmAl hv) h1, ⟨cell, q1, q2, q3, by rw [← hv]; exact q4, q5⟩, h2⟩
theorem TcA.call {n : String} {t : Nat} {x y : Int32} {A B : Nat → Prop} {s U : State} {H : Heap} {locs : List Loc} (h : TcA n t x y A s) (hS : va_S A s.heap H locs) (hAB : ∀ z, B z → A z) (hU : U.heap = H) (hW : s.WarmedH U.vm) : TcA n t x y B U := by
  subst hU
  obtain ⟨h1, ⟨cell, q1, q2, q3, q4, q5⟩, h2⟩ := h
  exact ⟨((va_Z.moved hW.alike h1).kept hS.2.1).narrow hAB, ⟨cell, by rw [hS.2.1 t (Array.getElem?_eq_some_iff.mp q1).1 h2]; exact q1, q2, q3, by rw [hW.alike.findClass]; exact q4, q5⟩, fun q => h2 (hAB _ q)⟩
/-- what the constructors lean on -/
def SxC (t : Nat) (A : Nat → Prop) (U : State) : Prop := (va_AO RX1 U ∧ va_AO RX5 U ∧ va_AOA .int U) ∧ (va_Nw (.fieldLinkNest RX5 24 RX6 "FIRST_SETTING" "[I" RX6) U ∧ va_Nw (.methodLinkNest RX5 35 yX1_init RX6) U ∧ va_Nw (.methodLinkNest RX6 29 yX3_init RX6) U ∧ va_Nw (.methodLinkNest RX6 45 yX4_init RX6) U ∧ va_Nw (.castable "[I" "java/lang/Cloneable") U) ∧ TcA "FIRST_SETTING" t 10 7 A U
theorem SB_SxC {t : Nat} {A : Nat → Prop} : SB (SxC t A) := fun u U hv hh h => ⟨⟨va_AO.moved (vmAl hv) h.1.1, va_AO.moved (vmAl hv) h.1.2.1, va_AOA.moved (vmAl hv) h.1.2.2⟩, ⟨va_Nw.same rfl hv h.2.1.1, va_Nw.same rfl hv h.2.1.2.1, va_Nw.same rfl hv h.2.1.2.2.1, va_Nw.same rfl hv h.2.1.2.2.2.1, va_Nw.same rfl hv h.2.1.2.2.2.2⟩, SB_TcA u U hv hh h.2.2⟩
theorem SxC.call {t : Nat} {A B : Nat → Prop} {s U : State} {H : Heap} {locs : List Loc} (h : SxC t A s) (hS : va_S A s.heap H locs) (hAB : ∀ z, B z → A z) (hU : U.heap = H) (hW : s.WarmedH U.vm) : SxC t B U := ⟨⟨va_AO.moved hW.alike h.1.1, va_AO.moved hW.alike h.1.2.1, va_AOA.moved hW.alike h.1.2.2⟩, ⟨va_Nw.warmF hW h.2.1.1, va_Nw.warmM hW h.2.1.2.1, va_Nw.warmM hW h.2.1.2.2.1, va_Nw.warmM hW h.2.1.2.2.2.1, va_Nw.warmC hW h.2.1.2.2.2.2⟩, h.2.2.call hS hAB hU hW⟩
