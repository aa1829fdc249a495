/-! making: objects, arrays, arrays of arrays, a copy of a static array; Object's constructor. Cells come at the heap's end, one after the other. (vr_outer: as the claim's printed names have it) -/
theorem mc_oi : Cond.code Lib.objectInit ⟨#[0xb1]⟩ 1 none ∈ lw_good := lw_goodOk (k := 24) (by decide +kernel) (by decide +kernel)
theorem vr_outer (c : ClassId) (N h0 : Nat) : ∀ i : Nat, Jvm.Free.Multi.outerC c N h0 i = arrV c N (fun j => va_rf (if j < i then some (h0 + 1 + j) else none))
  | 0 => by
    show ({ cls := c, slots := Array.replicate N .null, vm := .none } : Cell) = _
    rw [arrV_new]
    refine congrArg (arrV c N) (funext fun j => ?_)
    simp [va_rf]
  | i + 1 => by
    show (Jvm.Free.Multi.outerC c N h0 i).setSlot i (.ref (h0 + 1 + i)) = _
    rw [vr_outer c N h0 i, arrV_store]
    refine congrArg (arrV c N) (funext fun j => ?_)
    by_cases e : j = i
    · subst e
      simp [updV, va_rf]
    · by_cases h : j < i
      · simp [updV, e, h, Nat.lt_succ_of_lt h]
      · simp [updV, e, h, show ¬ j < i + 1 by omega]

section MYW
variable {p : Program} {l : Launch} {e : Env} {R : Room} {s : State} {m : MethodId} {args : Array Value} {below : List Frame} {meth : Method} {c : Code} {H : Heap} {locs : List Loc} {cells slots : Nat} {Q : State → Prop}
variable {cc : ByteArray} {pc : Nat} {ls : Array Slot} {rest : List Value} {a : Nat} {G : GG} {A : Nat → Prop} {H0 : Heap}
/-- the heap has grown by n cells, the old ones are as they were -/
def Gq (n : Nat) (H H1 : Heap) : Prop := H1.size = H.size + n ∧ ∀ q : Nat, q < H.size → H1[q]? = H[q]?
theorem va_S.grow {n : Nat} {H1 : Heap} (h : va_S A H0 H locs) (g : Gq n H H1) : va_S A H0 H1 locs :=
  ⟨Nat.le_trans h.1 (by rw [g.1]; omega), fun q h1 h2 => (g.2 q (Nat.lt_of_lt_of_le h1 h.1)).trans (h.2.1 q h1 h2), h.2.2⟩
theorem r_oi {own : String} {index : Nat} (hx : p.tables.exec = Jvm.exec) (hb : c.code = cc) (hml : c.maxLocals = ls.size) (hown : s.vm.findClass own = some m.cls) (hT : ∀ w ∈ lw_good, w.before args s = true) (hlink : Cond.methodLink own index ⟨"java/lang/Object", "<init>", "()V"⟩ ∈ lw_good) (hf : 1 ≤ R.frames) (hlo : (rest.map fun v => v.category).sum + 12 ≤ R.locals) (hdg : decode cc pc = .ok (.invokespecial index, 3))
    (kk : W p l e R s m args below meth c H locs cells slots Q (F0 m (pc + 3) ls rest)) : W p l e R s m args below meth c H locs cells slots Q (F0 m pc ls (.ref a :: rest)) :=
  W.objInit hx hb hown (hT _ hlink) (hT _ mi_Object_init) (hT _ mc_oi) rfl (by rw [hml]) rfl hdg hf (by show 2 * 0 + _ + 12 ≤ _; omega) kk
theorem r_new {own C : String} {T : u_T} {N ci index h : Nat} {fs : List Value} (hx : p.tables.exec = Jvm.exec) (hb : c.code = cc) (hT : ∀ w ∈ lw_good, w.before args s = true) (hin : ∀ w ∈ u_ws C T N, w ∈ lw_good) (ty0 : Nat → FieldType) (hty : ∀ k, k < N → parseFieldDescriptor (T k).2.2.1 = some (ty0 k)) (hown : s.vm.findClass own = some m.cls) (hcl : Cond.classLink own index C ∈ lw_good) (hinst : Cond.instantiable C N ∈ lw_good) (hini : Cond.initialized C ∈ lw_good) (hK : Kn G s) (hc : vwCl[ci]? = some (C, T, N)) (hfs : ∀ j, j < N → defaultValue (ty0 j) = vp_V fs j) (hh : H.size = h) (hcells : cells + 1 ≤ R.cells) (hslots : slots + N ≤ R.slots) (hS : va_S A H0 H locs) (hdg : decode cc pc = .ok (.new index, 3))
    (kk : ∀ H1 : Heap, ob G ci h fs H1 → Gq 1 H H1 → va_S A H0 H1 locs → W p l e R s m args below meth c H1 locs (cells + 1) (slots + N) Q (F0 m (pc + 3) ls (.ref h :: rest))) : W p l e R s m args below meth c H locs cells slots Q (F0 m pc ls rest) := by
  have hKn := hK.1 ci _ hc
  subst hh
  refine W.newcK hx hb hown (hT _ hcl) (hT _ hinst) (hT _ hini) rfl hdg hcells hslots hKn.2.1 rfl fun H1 kC hkC e1 z1 o1 => ?_
  exact kk H1 ⟨_, hc, (u_born ty0 hT hin hKn hkC e1 hty).to hfs⟩ ⟨z1, o1⟩ (va_S.grow (n := 1) hS ⟨z1, o1⟩)
theorem cls_eq {u : State} {k : Nat} {cA : ClassId} {nm : String} {ty : FieldType} (hK : Kn G u) (ht : (tysG G)[k]? = some (G.2 k, ty)) (hr : va_RA u (G.2 k) ty → u.vm.findClass nm = some (G.2 k)) (h : u.vm.findClass nm = some cA) : cA = G.2 k :=
  Option.some.inj (h.symm.trans (hr (hK.2 k _ ht).2))
theorem r_newI {h n : Nat} (hx : p.tables.exec = Jvm.exec) (hb : c.code = cc) (hT : ∀ w ∈ lw_good, w.before args s = true) (hK : Kn G s) {v : Int32} (hv : v = nI n) (hn : n < 2 ^ 20) (hh : H.size = h) (hcells : cells + 1 ≤ R.cells) (hslots : slots + n ≤ R.slots) (hS : va_S A H0 H locs) (hdg : decode cc pc = .ok (.newarray .int, 2))
    (kk : ∀ H1 : Heap, ar G 0 h (iA n (fun _ => 0)) H1 → Gq 1 H H1 → va_S A H0 H1 locs → W p l e R s m args below meth c H1 locs (cells + 1) (slots + n) Q (F0 m (pc + 2) ls (.ref h :: rest))) : W p l e R s m args below meth c H locs cells slots Q (F0 m pc ls (.int v :: rest)) := by
  subst hv
  refine va_newaK hx hb (atype := .int) (hT _ mac_int) rfl hdg rfl (nI_pos (by omega)) (nI_clamp (by omega)) (show n * 4 ≤ _ by omega) hcells hslots hh fun H1 cA e1 z1 o1 hAr hNm => ?_
  have ec : cA = G.2 0 := cls_eq hK (k := 0) rfl (fun q => q) hNm
  subst ec
  subst hh
  exact kk H1 (e1.trans (congrArg some (vp_cell_i ..).symm)) ⟨z1, o1⟩ (va_S.grow (n := 1) hS ⟨z1, o1⟩)
theorem r_newC {h n : Nat} (hx : p.tables.exec = Jvm.exec) (hb : c.code = cc) (hT : ∀ w ∈ lw_good, w.before args s = true) (hK : Kn G s) {v : Int32} (hv : v = nI n) (hn : n < 2 ^ 20) (hh : H.size = h) (hcells : cells + 1 ≤ R.cells) (hslots : slots + n ≤ R.slots) (hS : va_S A H0 H locs) (hdg : decode cc pc = .ok (.newarray .char, 2))
    (kk : ∀ H1 : Heap, ar G 1 h (iA n (fun _ => 0)) H1 → Gq 1 H H1 → va_S A H0 H1 locs → W p l e R s m args below meth c H1 locs (cells + 1) (slots + n) Q (F0 m (pc + 2) ls (.ref h :: rest))) : W p l e R s m args below meth c H locs cells slots Q (F0 m pc ls (.int v :: rest)) := by
  subst hv
  refine va_newaK hx hb (atype := .char) (hT _ mac_char) rfl hdg rfl (nI_pos (by omega)) (nI_clamp (by omega)) (show n * 2 ≤ _ by omega) hcells hslots hh fun H1 cA e1 z1 o1 hAr hNm => ?_
  have ec : cA = G.2 1 := cls_eq hK (k := 1) rfl (fun q => q) hNm
  subst ec
  subst hh
  exact kk H1 (e1.trans (congrArg some (vp_cell_i ..).symm)) ⟨z1, o1⟩ (va_S.grow (n := 1) hS ⟨z1, o1⟩)
theorem r_newq {own C : String} {index h n k : Nat} (hx : p.tables.exec = Jvm.exec) (hb : c.code = cc) (hT : ∀ w ∈ lw_good, w.before args s = true) (hown : s.vm.findClass own = some m.cls) (hcl : Cond.classLink own index C ∈ lw_good) (hAO : va_AO C s) (hK : Kn G s) (ht : (tysG G)[k]? = some (G.2 k, .object C)) {v : Int32} (hv : v = nI n) (hn : n < 2 ^ 20) (hh : H.size = h) (hcells : cells + 1 ≤ R.cells) (hslots : slots + n ≤ R.slots) (hS : va_S A H0 H locs) (hdg : decode cc pc = .ok (.anewarray index, 3))
    (kk : ∀ H1 : Heap, ar G k h (qA n (fun _ => none)) H1 → Gq 1 H H1 → va_S A H0 H1 locs → W p l e R s m args below meth c H1 locs (cells + 1) (slots + n) Q (F0 m (pc + 3) ls (.ref h :: rest))) : W p l e R s m args below meth c H locs cells slots Q (F0 m pc ls (.int v :: rest)) := by
  subst hv
  have hcn : (nI n).toNatClampNeg = n := nI_clamp (by omega)
  refine W.anew hx hb hown (hT _ hcl) (va_AO.use hAO) rfl hdg rfl (nI_pos (by omega)) (by rw [hcn]; omega) hcells (by rw [hcn]; exact hslots) fun cA kA comp f1 f2 f3 f4 => ?_
  have ec : cA = G.2 k := cls_eq hK ht (fun q => by obtain ⟨_, _, _, _, _, q5⟩ := q; exact q5) f1
  subst ec
  subst hh
  rw [hcn]
  generalize hH1 : H.push ({ cls := G.2 k, slots := Array.replicate n .null, vm := .none } : Cell) = H1
  have z1 : H1.size = H.size + 1 := by rw [← hH1, Array.size_push]
  have e1 : H1[H.size]? = some (arrV (G.2 k) n (fun _ => .null)) := by rw [← hH1, Array.getElem?_push_size, ← arrV_new]
  have o1 : ∀ q : Nat, q < H.size → H1[q]? = H[q]? := fun q hq => by rw [← hH1, Array.getElem?_push, if_neg (Nat.ne_of_lt hq)]
  exact kk H1 (e1.trans (congrArg some (show arrV (G.2 k) n (fun _ => va_rf none) = _ from (vp_cell_q (G.2 k) n (fun _ => none)).symm))) ⟨z1, o1⟩ (va_S.grow (n := 1) hS ⟨z1, o1⟩)
/-- new int[n][k]: the outer array at h, the rows behind it -/
theorem r_mna {own : String} {index h n k : Nat} (hx : p.tables.exec = Jvm.exec) (hb : c.code = cc) (hT : ∀ w ∈ lw_good, w.before args s = true) (hown : s.vm.findClass own = some m.cls) (hcl : Cond.classLink own index "[[I" ∈ lw_good) (hAO : va_AOA .int s) (hK : Kn G s) {u v : Int32} (hu : u = nI n) (hv : v = nI k) (hn : n < 2 ^ 20) (hk : k < 2 ^ 20) (hh : H.size = h) (hcells : cells + (1 + n) ≤ R.cells) (hslots : slots + (n + n * k) ≤ R.slots) (hS : va_S A H0 H locs) (hdg : decode cc pc = .ok (.multianewarray index 2, 4))
    (kk : ∀ H1 : Heap, ar G 5 h (qA n (fun i => if i < n then some (h + 1 + i) else none)) H1 → (∀ i, i < n → ar G 0 (h + 1 + i) (iA k (fun _ => 0)) H1) → Gq (1 + n) H H1 → va_S A H0 H1 locs → W p l e R s m args below meth c H1 locs (cells + 1 + n) (slots + n + n * k) Q (F0 m (pc + 4) ls (.ref h :: rest))) : W p l e R s m args below meth c H locs cells slots Q (F0 m pc ls (.int v :: .int u :: rest)) := by
  subst hu
  subst hv
  subst hh
  have hcn : (nI n).toNatClampNeg = n := nI_clamp (by omega)
  have hck : (nI k).toNatClampNeg = k := nI_clamp (by omega)
  intro T hTh Xs
  obtain ⟨vm₁, cA, comp, -, fA, fC, -, -, X', step⟩ := Xs.multianewarray2F hx hown (ty := .int) (by have := hT _ hcl; exact this) (va_AOA.use hAO) (hT _ mac_int) (g := F0 m pc ls (.int (nI k) :: .int (nI n) :: rest)) rfl (by rw [hb]; exact hdg) rfl (nI_pos (by omega)) (nI_pos (by omega)) (by rw [hcn]; omega) (by rw [hck]; show k * 4 ≤ _; omega) (by rw [hck]; omega) rfl rfl (by rw [hcn]; exact hcells) (by rw [hcn, hck]; exact hslots)
  have ec : cA = G.2 5 := cls_eq hK (k := 5) rfl (fun q => q) fA
  have ec0 : comp = G.2 0 := cls_eq hK (k := 0) rfl (fun q => q) fC
  subst ec ec0
  rw [hcn, hck] at X' step
  generalize hF : Jvm.Free.Multi.fill (T.setVm vm₁) (G.2 5) (G.2 0) n k (defaultValue .int) n = F at X' step
  have hTh2 : (T.setVm vm₁).heap = H := hTh
  obtain ⟨f1, f2, -, -⟩ := Jvm.Free.Multi.fill_facts (T.setVm vm₁) (G.2 5) (G.2 0) n k (defaultValue .int) n
  rw [hF, hTh2] at f1 f2
  have hold : ∀ x : Nat, x < H.size → F.heap[x]? = H[x]? := fun x hx => by
    have := Jvm.Free.Multi.fill_old (T.setVm vm₁) (G.2 5) (G.2 0) n k (defaultValue .int) (a := x) (by rw [hTh2]; exact hx) n
    rw [hF, hTh2] at this
    exact this
  have hrow : ∀ j : Nat, j < n → F.heap[H.size + 1 + j]? = some (vp_cell (G.2 0) (iA k (fun _ => 0))) := fun j hj => by
    have := Jvm.Free.Multi.fill_inner (T.setVm vm₁) (G.2 5) (G.2 0) n k (defaultValue .int) n j hj
    rw [hF, hTh2] at this
    refine this.trans (congrArg some ?_)
    rw [vp_cell_i, ← arrV_new]
    rfl
  have hout : F.heap[H.size]? = some (vp_cell (G.2 5) (qA n (fun i => if i < n then some (H.size + 1 + i) else none))) := by
    refine f2.trans (congrArg some ?_)
    rw [vp_cell_q]
    exact vr_outer (G.2 5) n H.size n
  have g : Gq (1 + n) H F.heap := ⟨by rw [f1]; omega, hold⟩
  obtain ⟨t, a1, b1⟩ := kk F.heap hout hrow g (hS.grow g) F rfl X'
  refine ⟨t, step t ?_, b1⟩
  rw [hTh]
  exact a1
/-- a copy of a static array whose class is the one of that name -/
theorem r_clone {own : String} {index h t : Nat} {cell : Cell} {x y : Int32} (hx : p.tables.exec = Jvm.exec) (hb : c.code = cc) (hml : c.maxLocals = ls.size) (hT : ∀ w ∈ lw_good, w.before args s = true) (hown : s.vm.findClass own = some m.cls) (hcl : Cond.methodLink own index ⟨"[I", "clone", "()Ljava/lang/Object;"⟩ ∈ lw_good) (hca : va_Nw (.castable "[I" "java/lang/Cloneable") s) (hK : Kn G s) (hc : H[t]? = some cell) (hkn : cell.vm ≠ .unknown) (hst : ∀ k, cell.vm ≠ .statics k) (hcls : s.vm.findClass "[I" = some cell.cls) (hsl : cell.slots = #[.int x, .int y]) (hh : H.size = h) (hf : 1 ≤ R.frames) (hlo : (rest.map fun v => v.category).sum + 14 ≤ R.locals) (hcells : cells + 1 ≤ R.cells) (hslots : slots + 2 ≤ R.slots) (hS : va_S A H0 H locs) (hdg : decode cc pc = .ok (.invokevirtual index, 3))
    (kk : ∀ H1 : Heap, ar G 0 h (iA 2 (f2I x y)) H1 → Gq 1 H H1 → va_S A H0 H1 locs → W p l e R s m args below meth c H1 locs (cells + 1) (slots + 2) Q (F0 m (pc + 3) ls (.ref h :: rest))) : W p l e R s m args below meth c H locs cells slots Q (F0 m pc ls (.ref t :: rest)) := by
  subst hh
  have ec : cell.cls = G.2 0 := cls_eq hK (k := 0) rfl (fun q => q) hcls
  obtain ⟨c0, t0', f1, f2, f3⟩ := Cond.castable_spec (va_Nw.use (A := args) rfl hca)
  cases hcls.symm.trans f1
  intro T hTh X
  have hcellT : T.heap[t]? = some cell := by rw [hTh]; exact hc
  obtain ⟨-, kA, hkA, comp, hkind⟩ := State.isArrayOf_alike X.warmed.alike ((hK.2 0 _ rfl).1 0 (fun _ => .null))
  obtain ⟨-, kS, hkS, compS, hkindS⟩ := (hK.2 0 _ rfl).1 0 (fun _ => .null)
  obtain ⟨vm', X', st⟩ := X.cloneArray hx hown (hT _ hcl) (hT _ mx_same) (hT _ mx_nat) (hT _ mx_ins) (hT _ mx_sel) (a := t) (cell := cell) hcellT hst hkn hcls f2 f3
    (fun i v hv => by
      rw [ec]
      have hk' : T.vm.classes[G.2 0]? = some kA := hkA
      have hi : i < 2 := by
        have h9 := (Array.getElem?_eq_some_iff.mp hv).1
        rw [hsl] at h9
        exact h9
      have hfit : fits .int v = true := by
        rw [hsl] at hv
        have h2 : i = 0 ∨ i = 1 := by omega
        rcases h2 with rfl | rfl <;> cases hv <;> rfl
      simpa [State.fitsSlot, State.slotType?, hk', hkind] using hfit)
    (g := F0 m pc ls (.ref t :: rest)) rfl (by rw [hml]) rfl (by rw [hb]; exact hdg) hf (by show 2 * 0 + _ + 14 ≤ _; omega) hcells (by rw [hsl]; exact hslots) (hloader := by rw [ec]; exact Vm.clonesLoader_of_array hkS hkindS)
  rw [hsl] at X' st
  rw [ec] at X' st
  have hcellE : ({ cls := G.2 0, slots := #[.int x, .int y] } : Cell) = vp_cell (G.2 0) (iA 2 (f2I x y)) := by
    rw [vp_cell_i]
    unfold arrV
    congr 1
  rw [hcellE] at X' st
  generalize hH1 : H.push (vp_cell (G.2 0) (iA 2 (f2I x y))) = H1
  have z1 : H1.size = H.size + 1 := by rw [← hH1, Array.size_push]
  have e1 : H1[H.size]? = some (vp_cell (G.2 0) (iA 2 (f2I x y))) := by rw [← hH1, Array.getElem?_push_size]
  have o1 : ∀ q : Nat, q < H.size → H1[q]? = H[q]? := fun q hq => by rw [← hH1, Array.getElem?_push, if_neg (Nat.ne_of_lt hq)]
  obtain ⟨t9, b1, b2⟩ := kk H1 e1 ⟨z1, o1⟩ (va_S.grow (n := 1) hS ⟨z1, o1⟩) _ (by rw [← hH1, ← hTh]; rfl) X'
  refine ⟨t9, st _ ?_, b2⟩
  rw [hTh]
  exact b1
end MYW
