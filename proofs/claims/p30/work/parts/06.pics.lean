/-! PICTURES of the class's objects, in words of a row r of 82 numbers: 0 fade, 1 week, 2 day, 3 grams, 4 coins, 5 leaves, 6-8 low, 9-11 high, 12 + 14 i the leaf i (0 price, 1-7 changes, 8-10 tastes, 11 stock, 12 age, 13 share) -/
section MYD
variable {p : Program} {l : Launch} {e : Env} {R : Room} {s : State} {m : MethodId} {args : Array Value} {below : List Frame} {meth : Method} {c : Code} {H : Heap} {locs : List Loc} {cells slots : Nat} {Q : State → Prop}
variable {cc : ByteArray} {pc : Nat} {ls : Array Slot} {rest : List Value} {a : Nat} {G : GG} {A : Nat → Prop} {H0 : Heap}
theorem r_aaldS {n k y : Nat} {f : Nat → Option Nat} {ty : FieldType} (hx : p.tables.exec = Jvm.exec) (hb : c.code = cc) (hK : Kn G s) (h : ar G k a (qA n f) H) (ht : (tysG G)[k]? = some (G.2 k, ty)) (hty : ty.isReference = true) {x : Int32} (i : Nat) (he : x = nI i) (hi : i < n) (hn : n < 2 ^ 31) (hy : f i = some y) (hdg : decode cc pc = .ok (.aaload, 1))
    (kk : W p l e R s m args below meth c H locs cells slots Q (F0 m (pc + 1) ls (.ref y :: rest))) : W p l e R s m args below meth c H locs cells slots Q (F0 m pc ls (.int x :: .ref a :: rest)) := by
  refine r_aald hx hb hK h ht hty i he hi hn hdg ?_
  rw [hy]
  exact kk
end MYD
/-! the ends, the goal's end by name -/
section MYE
variable {p : Program} {l : Launch} {e : Env} {R : Room} {s : State} {m : MethodId} {args : Array Value} {below : List Frame} {meth : Method} {c : Code} {H : Heap} {locs : List Loc} {cells slots : Nat} {Q : State → Prop}
variable {cc : ByteArray} {pc : Nat} {ls : Array Slot} {A free : Nat → Prop}
theorem nd_i {post : Int32 → Prop} {v : Int32} (hQ : Q = MQ below (vp_Si post) args s 0 0 free) (hx : p.tables.exec = Jvm.exec) (hb : c.code = cc) (hr : meth.sig.returnType = some .int) (hlocks : meth.locks = false) (hdg : decode cc pc = .ok (.ireturn, 1)) (hp : post v) : W p l e R s m args below meth c s.heap [] 0 0 Q (F0 m pc ls [.int v]) := by
  subst hQ
  exact end_i hx hb hr hlocks hp hdg
theorem nd_z {post : Int32 → Prop} {v : Int32} (hQ : Q = MQ below (vp_Si post) args s 0 0 free) (hx : p.tables.exec = Jvm.exec) (hb : c.code = cc) (hr : meth.sig.returnType = some .boolean) (hlocks : meth.locks = false) (hdg : decode cc pc = .ok (.ireturn, 1)) (hn : v = 0 ∨ v = 1) (hp : post v) : W p l e R s m args below meth c s.heap [] 0 0 Q (F0 m pc ls [.int v]) := by
  subst hQ
  exact end_z hx hb hr (by rcases hn with rfl | rfl <;> decide) hlocks hp hdg
theorem nd_I {P1 : Int32 → Heap → Prop} {v : Int32} (hQ : Q = MQ below (QI P1 A) args s cells slots A) (hx : p.tables.exec = Jvm.exec) (hb : c.code = cc) (hr : meth.sig.returnType = some .int) (hlocks : meth.locks = false) (hdg : decode cc pc = .ok (.ireturn, 1)) (hS : va_S A s.heap H locs) (hp : P1 v H) : W p l e R s m args below meth c H locs cells slots Q (F0 m pc ls [.int v]) := by
  subst hQ
  exact end_I hx hb hr hlocks hp hS hdg
theorem nd_Z {P1 : Int32 → Heap → Prop} {v : Int32} (hQ : Q = MQ below (QI P1 A) args s cells slots A) (hx : p.tables.exec = Jvm.exec) (hb : c.code = cc) (hr : meth.sig.returnType = some .boolean) (hlocks : meth.locks = false) (hdg : decode cc pc = .ok (.ireturn, 1)) (hS : va_S A s.heap H locs) (hn : v = 0 ∨ v = 1) (hp : P1 v H) : W p l e R s m args below meth c H locs cells slots Q (F0 m pc ls [.int v]) := by
  subst hQ
  exact end_Z hx hb hr (by rcases hn with rfl | rfl <;> decide) hlocks hp hS hdg
theorem nd_V {P1 : Heap → Prop} (hQ : Q = MQ below (QV P1 A) args s cells slots A) (hx : p.tables.exec = Jvm.exec) (hb : c.code = cc) (hr : meth.sig.returnType = none) (hlocks : meth.locks = false) (hdg : decode cc pc = .ok (.return_, 1)) (hS : va_S A s.heap H locs) (hp : P1 H) : W p l e R s m args below meth c H locs cells slots Q (F0 m pc ls []) := by
  subst hQ
  exact end_V hx hb hr hlocks hp hS hdg
end MYE
/-- the start of a method, the goal's end by name -/
theorem met_q {l : Launch} {y : MethodName} {cc : ByteArray} {maxL : Nat} {ret : Option FieldType} {rm : Room} {G : GG} {av : List Value} {P : Heap → Prop} {Qc : Array Value → State → Outcome → State → Prop} {mc ms : Nat} {free : Nat → Prop} (hy : plainName y.cls = true) (hlen : (lg_sl av).length ≤ maxL)
    (body : ∀ (p : Program) (e : Env) (s : State) (m : MethodId) (args : Array Value) (below : List Frame) (meth : Method) (c : Code) (Q : State → Prop), Q = MQ below Qc args s mc ms free → p.tables.exec = Jvm.exec → c.code = cc → meth.sig.returnType = ret → (∀ w ∈ lw_good, w.before args s = true) → s.vm.findClass y.cls = some m.cls → c.maxLocals = maxL → meth.locks = false → meth.name = y.name → Kn G s → P s.heap → ∀ ls : Array Slot, lv_has ls maxL (lv_args 0 av) →
      W p l e rm s m args below meth c s.heap [] 0 0 Q (F0 m 0 ls [])) : Met l y (ws_ y cc maxL ret) rm (PC G av P) Qc mc ms free :=
  met_of hy hlen (fun p e s m args below meth c => body p e s m args below meth c _ rfl)
/-! numbers -/
def irm (x y : Int32) : Int32 := x - x / y * y
theorem nI_of_toInt {x : Int32} (h : 0 ≤ x.toInt) : x = nI x.toInt.toNat := by
  apply Int32.toInt_inj.mp
  rw [nI_toInt]
  · omega
  · have := Int32.toInt_lt x; omega
theorem i32_lt_iff {x y : Int32} : x < y ↔ x.toInt < y.toInt := Int32.lt_iff_toInt_lt
theorem i32_le_iff {x y : Int32} : x ≤ y ↔ x.toInt ≤ y.toInt := Int32.le_iff_toInt_le
/-! the row -/
def nlv (r : Nat → Int32) : Nat := (r 5).toInt.toNat
def plv (r : Nat → Int32) : Nat := (irm (r 2) (r 1)).toInt.toNat
def WF (r : Nat → Int32) : Prop := (0 ≤ (r 5).toInt ∧ (r 5).toInt ≤ 5) ∧ (1 ≤ (r 1).toInt ∧ (r 1).toInt ≤ 7) ∧ 0 ≤ (r 2).toInt
theorem WF.nl {r : Nat → Int32} (h : WF r) : r 5 = nI (nlv r) := nI_of_toInt h.1.1
theorem WF.nl5 {r : Nat → Int32} (h : WF r) : nlv r ≤ 5 := by
  have := h.1
  unfold nlv
  omega
theorem WF.pl {r : Nat → Int32} (h : WF r) : irm (r 2) (r 1) = nI (plv r) ∧ plv r < 7 := by
  obtain ⟨-, h1, h2⟩ := h
  have e2 := nI_of_toInt h2
  have e1 := nI_of_toInt (x := r 1) (by omega)
  have hb := Int32.toInt_lt (r 2)
  have key : irm (r 2) (r 1) = nI ((r 2).toInt.toNat % (r 1).toInt.toNat) := by
    unfold irm
    conv => lhs; rw [e2, e1]
    exact pk_rem (by omega) (by omega) (by omega)
  have hlt : (r 2).toInt.toNat % (r 1).toInt.toNat < 7 := Nat.lt_of_lt_of_le (Nat.mod_lt _ (by omega)) (by omega)
  have e3 : plv r = (r 2).toInt.toNat % (r 1).toInt.toNat := by
    unfold plv
    rw [key, nI_toInt (by omega)]
    omega
  rw [e3]
  exact ⟨key, hlt⟩
theorem WF.wk {r : Nat → Int32} (h : WF r) : ¬ r 1 = 0 := by
  intro h0
  have := h.2.1.1
  rw [h0] at this
  exact absurd this (by decide)
/-! one leaf -/
def LeafAt (G : GG) (a : Nat) (f : Nat → Int32) (H : Heap) : Prop :=
  ob G 1 a [.int (f 0), .int (f 11), .int (f 12), .int (f 13), .ref (a + 1), .ref (a + 2)] H ∧ ar G 0 (a + 1) (iA 7 (fun j => f (1 + j))) H ∧ ar G 0 (a + 2) (iA 3 (fun j => f (8 + j))) H
theorem LeafAt.ext {G : GG} {a : Nat} {f g : Nat → Int32} {H : Heap} (h : LeafAt G a f H) (e : ∀ k, k < 14 → f k = g k) : LeafAt G a g H := by
  refine ⟨?_, iA_ext h.2.1 (fun j hj => e _ (by omega)), iA_ext h.2.2 (fun j hj => e _ (by omega))⟩
  rw [← e 0 (by omega), ← e 11 (by omega), ← e 12 (by omega), ← e 13 (by omega)]
  exact h.1
theorem LeafAt.kept {G : GG} {a : Nat} {f : Nat → Int32} {H H1 : Heap} (h : LeafAt G a f H) (e : ∀ q, a ≤ q → q < a + 3 → H1[q]? = H[q]?) : LeafAt G a f H1 :=
  ⟨h.1.kept (e _ (by omega) (by omega)), h.2.1.kept (e _ (by omega) (by omega)), h.2.2.kept (e _ (by omega) (by omega))⟩
theorem LeafAt.p0 {G : GG} {a : Nat} {f : Nat → Int32} {H H1 : Heap} {v : Int32} (h : LeafAt G a f H) (h1 : ob G 1 a [.int v, .int (f 11), .int (f 12), .int (f 13), .ref (a + 1), .ref (a + 2)] H1) (o : Oq a H H1) : LeafAt G a (upd f 0 v) H1 :=
  ⟨h1, iA_ext (h.2.1.kept (o.2 _ (by omega))) (fun j hj => by simp only [upd]; rw [if_neg (by omega)]), iA_ext (h.2.2.kept (o.2 _ (by omega))) (fun j hj => by simp only [upd]; rw [if_neg (by omega)])⟩
theorem LeafAt.p1 {G : GG} {a : Nat} {f : Nat → Int32} {H H1 : Heap} {v : Int32} (h : LeafAt G a f H) (h1 : ob G 1 a [.int (f 0), .int v, .int (f 12), .int (f 13), .ref (a + 1), .ref (a + 2)] H1) (o : Oq a H H1) : LeafAt G a (upd f 11 v) H1 :=
  ⟨h1, iA_ext (h.2.1.kept (o.2 _ (by omega))) (fun j hj => by simp only [upd]; rw [if_neg (by omega)]), iA_ext (h.2.2.kept (o.2 _ (by omega))) (fun j hj => by simp only [upd]; rw [if_neg (by omega)])⟩
theorem LeafAt.p2 {G : GG} {a : Nat} {f : Nat → Int32} {H H1 : Heap} {v : Int32} (h : LeafAt G a f H) (h1 : ob G 1 a [.int (f 0), .int (f 11), .int v, .int (f 13), .ref (a + 1), .ref (a + 2)] H1) (o : Oq a H H1) : LeafAt G a (upd f 12 v) H1 :=
  ⟨h1, iA_ext (h.2.1.kept (o.2 _ (by omega))) (fun j hj => by simp only [upd]; rw [if_neg (by omega)]), iA_ext (h.2.2.kept (o.2 _ (by omega))) (fun j hj => by simp only [upd]; rw [if_neg (by omega)])⟩
theorem LeafAt.p3 {G : GG} {a : Nat} {f : Nat → Int32} {H H1 : Heap} {v : Int32} (h : LeafAt G a f H) (h1 : ob G 1 a [.int (f 0), .int (f 11), .int (f 12), .int v, .ref (a + 1), .ref (a + 2)] H1) (o : Oq a H H1) : LeafAt G a (upd f 13 v) H1 :=
  ⟨h1, iA_ext (h.2.1.kept (o.2 _ (by omega))) (fun j hj => by simp only [upd]; rw [if_neg (by omega)]), iA_ext (h.2.2.kept (o.2 _ (by omega))) (fun j hj => by simp only [upd]; rw [if_neg (by omega)])⟩
theorem LeafAt.pc {G : GG} {a k : Nat} {f : Nat → Int32} {H H1 : Heap} {v : Int32} (h : LeafAt G a f H) (hk : k < 7) (h1 : ar G 0 (a + 1) (iA 7 (upd (fun j => f (1 + j)) k v)) H1) (o : Oq (a + 1) H H1) : LeafAt G a (upd f (1 + k) v) H1 := by
  refine ⟨?_, iA_ext h1 (fun j hj => ?_), iA_ext (h.2.2.kept (o.2 _ (by omega))) (fun j hj => by simp only [upd]; rw [if_neg (by omega)])⟩
  · simp only [upd]
    rw [if_neg (by omega), if_neg (by omega), if_neg (by omega), if_neg (by omega)]
    exact h.1.kept (o.2 _ (by omega))
  · simp only [upd]
    by_cases q : j = k
    · rw [if_pos q, if_pos (by omega)]
    · rw [if_neg q, if_neg (by omega)]
theorem LeafAt.pf {G : GG} {a k : Nat} {f : Nat → Int32} {H H1 : Heap} {v : Int32} (h : LeafAt G a f H) (hk : k < 3) (h1 : ar G 0 (a + 2) (iA 3 (upd (fun j => f (8 + j)) k v)) H1) (o : Oq (a + 2) H H1) : LeafAt G a (upd f (8 + k) v) H1 := by
  refine ⟨?_, iA_ext (h.2.1.kept (o.2 _ (by omega))) (fun j hj => by simp only [upd]; rw [if_neg (by omega)]), iA_ext h1 (fun j hj => ?_)⟩
  · simp only [upd]
    rw [if_neg (by omega), if_neg (by omega), if_neg (by omega), if_neg (by omega)]
    exact h.1.kept (o.2 _ (by omega))
  · simp only [upd]
    by_cases q : j = k
    · rw [if_pos q, if_pos (by omega)]
    · rw [if_neg q, if_neg (by omega)]
/-! a shop: 20 cells from b on -/
def ShopAt (G : GG) (b : Nat) (r : Nat → Int32) (H : Heap) : Prop :=
  ob G 5 b [.ref (b + 1), .ref (b + 2), .ref (b + 3), .ref (b + 4), .int (r 5), .int (r 2), .int (r 3), .int (r 4)] H ∧ ar G 3 (b + 1) (qA 5 (fun i => some (b + 5 + 3 * i))) H ∧ ar G 0 (b + 2) (iA 3 (fun j => r (6 + j))) H ∧ ar G 0 (b + 3) (iA 3 (fun j => r (9 + j))) H ∧ ar G 0 (b + 4) (iA 2 (fun j => r j)) H ∧ ∀ i, i < 5 → LeafAt G (b + 5 + 3 * i) (fun k => r (12 + 14 * i + k)) H
def In (b n : Nat) : Nat → Prop := fun q => b ≤ q ∧ q < b + n
theorem ShopAt.ext {G : GG} {b : Nat} {r r' : Nat → Int32} {H : Heap} (h : ShopAt G b r H) (e : ∀ k, k < 82 → r k = r' k) : ShopAt G b r' H := by
  obtain ⟨h1, h2, h3, h4, h5, h6⟩ := h
  refine ⟨?_, h2, iA_ext h3 (fun j hj => e _ (by omega)), iA_ext h4 (fun j hj => e _ (by omega)), iA_ext h5 (fun j hj => e _ (by omega)), fun i hi => (h6 i hi).ext (fun k hk => e _ (by omega))⟩
  rw [← e 5 (by omega), ← e 2 (by omega), ← e 3 (by omega), ← e 4 (by omega)]
  exact h1
theorem ShopAt.kept {G : GG} {b : Nat} {r : Nat → Int32} {H H1 : Heap} (h : ShopAt G b r H) (e : ∀ q, b ≤ q → q < b + 20 → H1[q]? = H[q]?) : ShopAt G b r H1 := by
  obtain ⟨h1, h2, h3, h4, h5, h6⟩ := h
  exact ⟨h1.kept (e _ (by omega) (by omega)), h2.kept (e _ (by omega) (by omega)), h3.kept (e _ (by omega) (by omega)), h4.kept (e _ (by omega) (by omega)), h5.kept (e _ (by omega) (by omega)), fun i hi => (h6 i hi).kept (fun q h1 h2 => e q (by omega) (by omega))⟩
theorem ShopAt.leaf {G : GG} {b i : Nat} {r : Nat → Int32} {H : Heap} (h : ShopAt G b r H) (hi : i < 5) : LeafAt G (b + 5 + 3 * i) (fun k => r (12 + 14 * i + k)) H := h.2.2.2.2.2 i hi
/-- a leaf is another one: the rest of the shop is as it was -/
theorem ShopAt.putLeaf {G : GG} {b i : Nat} {r r' : Nat → Int32} {H H1 : Heap} (h : ShopAt G b r H) (hi : i < 5) (hl : LeafAt G (b + 5 + 3 * i) (fun k => r' (12 + 14 * i + k)) H1) (o : ∀ q, (q < b + 5 + 3 * i ∨ b + 8 + 3 * i ≤ q) → q < H.size → H1[q]? = H[q]?) (e : ∀ k, k < 82 → (k < 12 + 14 * i ∨ 26 + 14 * i ≤ k) → r' k = r k) : ShopAt G b r' H1 := by
  have hlt : ∀ q, b ≤ q → q < b + 20 → q < H.size := by
    intro q h1 h2
    have hz : b + 19 < H.size := (h.leaf (i := 4) (by omega)).2.2.lt
    omega
  obtain ⟨h1, h2, h3, h4, h5, h6⟩ := h
  have w : ∀ q, b ≤ q → q < b + 5 → H1[q]? = H[q]? := fun q a1 a2 => o q (by omega) (hlt q (by omega) (by omega))
  refine ⟨?_, h2.kept (w _ (by omega) (by omega)), iA_ext (h3.kept (w _ (by omega) (by omega))) (fun j hj => (e _ (by omega) (by omega)).symm), iA_ext (h4.kept (w _ (by omega) (by omega))) (fun j hj => (e _ (by omega) (by omega)).symm), iA_ext (h5.kept (w _ (by omega) (by omega))) (fun j hj => (e _ (by omega) (by omega)).symm), fun i' hi' => ?_⟩
  · rw [e 5 (by omega) (by omega), e 2 (by omega) (by omega), e 3 (by omega) (by omega), e 4 (by omega) (by omega)]
    exact h1.kept (w _ (by omega) (by omega))
  · by_cases q : i' = i
    · subst q; exact hl
    · refine ((h6 i' hi').kept (fun q' a1 a2 => o q' (by omega) (hlt q' (by omega) (by omega)))).ext (fun k hk => (e _ (by omega) (by omega)).symm)
theorem ShopAt.lf {G : GG} {b i k : Nat} {r : Nat → Int32} {H H1 : Heap} {v : Int32} {a : Nat} (h : ShopAt G b r H) (hi : i < 5) (hk : k < 14) (hl : LeafAt G (b + 5 + 3 * i) (upd (fun k => r (12 + 14 * i + k)) k v) H1) (ha : b + 5 + 3 * i ≤ a ∧ a < b + 8 + 3 * i) (o : Oq a H H1) : ShopAt G b (upd r (12 + 14 * i + k) v) H1 := by
  refine h.putLeaf hi (hl.ext (fun j hj => ?_)) (fun q hq _ => o.2 q (by omega)) (fun j _ hj => by simp only [upd]; rw [if_neg (by omega)])
  simp only [upd]
  by_cases q : j = k
  · rw [if_pos q, if_pos (by omega)]
  · rw [if_neg q, if_neg (by omega)]
theorem ShopAt.pStock {G : GG} {b i : Nat} {r : Nat → Int32} {H H1 : Heap} {v : Int32} (h : ShopAt G b r H) (hi : i < 5) (h1 : ob G 1 (b + 5 + 3 * i) [.int (r (12 + 14 * i + 0)), .int v, .int (r (12 + 14 * i + 12)), .int (r (12 + 14 * i + 13)), .ref (b + 5 + 3 * i + 1), .ref (b + 5 + 3 * i + 2)] H1) (o : Oq (b + 5 + 3 * i) H H1) : ShopAt G b (upd r (12 + 14 * i + 11) v) H1 :=
  h.lf hi (by omega) ((h.leaf hi).p1 h1 o) (by omega) o
theorem ShopAt.pAge {G : GG} {b i : Nat} {r : Nat → Int32} {H H1 : Heap} {v : Int32} (h : ShopAt G b r H) (hi : i < 5) (h1 : ob G 1 (b + 5 + 3 * i) [.int (r (12 + 14 * i + 0)), .int (r (12 + 14 * i + 11)), .int v, .int (r (12 + 14 * i + 13)), .ref (b + 5 + 3 * i + 1), .ref (b + 5 + 3 * i + 2)] H1) (o : Oq (b + 5 + 3 * i) H H1) : ShopAt G b (upd r (12 + 14 * i + 12) v) H1 :=
  h.lf hi (by omega) ((h.leaf hi).p2 h1 o) (by omega) o
theorem ShopAt.pShare {G : GG} {b i : Nat} {r : Nat → Int32} {H H1 : Heap} {v : Int32} (h : ShopAt G b r H) (hi : i < 5) (h1 : ob G 1 (b + 5 + 3 * i) [.int (r (12 + 14 * i + 0)), .int (r (12 + 14 * i + 11)), .int (r (12 + 14 * i + 12)), .int v, .ref (b + 5 + 3 * i + 1), .ref (b + 5 + 3 * i + 2)] H1) (o : Oq (b + 5 + 3 * i) H H1) : ShopAt G b (upd r (12 + 14 * i + 13) v) H1 :=
  h.lf hi (by omega) ((h.leaf hi).p3 h1 o) (by omega) o
theorem ShopAt.pChange {G : GG} {b i k : Nat} {r : Nat → Int32} {H H1 : Heap} {v : Int32} (h : ShopAt G b r H) (hi : i < 5) (hk : k < 7) (h1 : ar G 0 (b + 5 + 3 * i + 1) (iA 7 (upd (fun j => r (12 + 14 * i + (1 + j))) k v)) H1) (o : Oq (b + 5 + 3 * i + 1) H H1) : ShopAt G b (upd r (12 + 14 * i + (1 + k)) v) H1 :=
  h.lf hi (by omega) ((h.leaf hi).pc hk h1 o) (by omega) o
theorem ShopAt.pFresh {G : GG} {b i k : Nat} {r : Nat → Int32} {H H1 : Heap} {v : Int32} (h : ShopAt G b r H) (hi : i < 5) (hk : k < 3) (h1 : ar G 0 (b + 5 + 3 * i + 2) (iA 3 (upd (fun j => r (12 + 14 * i + (8 + j))) k v)) H1) (o : Oq (b + 5 + 3 * i + 2) H H1) : ShopAt G b (upd r (12 + 14 * i + (8 + k)) v) H1 :=
  h.lf hi (by omega) ((h.leaf hi).pf hk h1 o) (by omega) o
theorem upd_ne {f : Nat → Int32} {k j : Nat} {v : Int32} (h : j ≠ k) : upd f k v j = f j := if_neg h
theorem upd_eq {f : Nat → Int32} {k : Nat} {v : Int32} : upd f k v k = v := if_pos rfl
theorem upd_add {f : Nat → Int32} {c j k : Nat} {v : Int32} : upd (fun j => f (c + j)) k v j = upd f (c + k) v (c + j) := by
  simp only [upd]
  by_cases q : j = k
  · rw [if_pos q, if_pos (by omega)]
  · rw [if_neg q, if_neg (by omega)]
theorem ShopAt.pObj {G : GG} {b : Nat} {r r' : Nat → Int32} {H H1 : Heap} (h : ShopAt G b r H) (h1 : ob G 5 b [.ref (b + 1), .ref (b + 2), .ref (b + 3), .ref (b + 4), .int (r' 5), .int (r' 2), .int (r' 3), .int (r' 4)] H1) (o : Oq b H H1) (e : ∀ k, k < 82 → k ≠ 2 → k ≠ 3 → k ≠ 4 → k ≠ 5 → r' k = r k) : ShopAt G b r' H1 := by
  obtain ⟨-, h2, h3, h4, h5, h6⟩ := h
  exact ⟨h1, h2.kept (o.2 _ (by omega)), iA_ext (h3.kept (o.2 _ (by omega))) (fun j hj => (e _ (by omega) (by omega) (by omega) (by omega) (by omega)).symm), iA_ext (h4.kept (o.2 _ (by omega))) (fun j hj => (e _ (by omega) (by omega) (by omega) (by omega) (by omega)).symm), iA_ext (h5.kept (o.2 _ (by omega))) (fun j hj => (e _ (by omega) (by omega) (by omega) (by omega) (by omega)).symm), fun i hi => ((h6 i hi).kept (fun q _ _ => o.2 q (by omega))).ext (fun k hk => (e _ (by omega) (by omega) (by omega) (by omega) (by omega)).symm)⟩
theorem ShopAt.pLeaves {G : GG} {b : Nat} {r : Nat → Int32} {H H1 : Heap} {v : Int32} (h : ShopAt G b r H) (h1 : ob G 5 b [.ref (b + 1), .ref (b + 2), .ref (b + 3), .ref (b + 4), .int v, .int (r 2), .int (r 3), .int (r 4)] H1) (o : Oq b H H1) : ShopAt G b (upd r 5 v) H1 := h.pObj h1 o (fun k _ _ _ _ h5 => upd_ne h5)
theorem ShopAt.pDay {G : GG} {b : Nat} {r : Nat → Int32} {H H1 : Heap} {v : Int32} (h : ShopAt G b r H) (h1 : ob G 5 b [.ref (b + 1), .ref (b + 2), .ref (b + 3), .ref (b + 4), .int (r 5), .int v, .int (r 3), .int (r 4)] H1) (o : Oq b H H1) : ShopAt G b (upd r 2 v) H1 := h.pObj h1 o (fun k _ h2 _ _ _ => upd_ne h2)
theorem ShopAt.pGrams {G : GG} {b : Nat} {r : Nat → Int32} {H H1 : Heap} {v : Int32} (h : ShopAt G b r H) (h1 : ob G 5 b [.ref (b + 1), .ref (b + 2), .ref (b + 3), .ref (b + 4), .int (r 5), .int (r 2), .int v, .int (r 4)] H1) (o : Oq b H H1) : ShopAt G b (upd r 3 v) H1 := h.pObj h1 o (fun k _ _ h3 _ _ => upd_ne h3)
theorem ShopAt.pCoins {G : GG} {b : Nat} {r : Nat → Int32} {H H1 : Heap} {v : Int32} (h : ShopAt G b r H) (h1 : ob G 5 b [.ref (b + 1), .ref (b + 2), .ref (b + 3), .ref (b + 4), .int (r 5), .int (r 2), .int (r 3), .int v] H1) (o : Oq b H H1) : ShopAt G b (upd r 4 v) H1 := h.pObj h1 o (fun k _ _ _ h4 _ => upd_ne h4)
/-- the small arrays -/
theorem ShopAt.pArr {G : GG} {b a : Nat} {r r' : Nat → Int32} {H H1 : Heap} (h : ShopAt G b r H) (ha : a = b + 2 ∨ a = b + 3 ∨ a = b + 4) (o : Oq a H H1) (h3 : a = b + 2 → ar G 0 (b + 2) (iA 3 (fun j => r' (6 + j))) H1) (h4 : a = b + 3 → ar G 0 (b + 3) (iA 3 (fun j => r' (9 + j))) H1) (h5 : a = b + 4 → ar G 0 (b + 4) (iA 2 (fun j => r' j)) H1)
    (e : ∀ k, k < 82 → (a = b + 2 → ¬ (6 ≤ k ∧ k < 9)) → (a = b + 3 → ¬ (9 ≤ k ∧ k < 12)) → (a = b + 4 → ¬ (k < 2)) → r' k = r k) : ShopAt G b r' H1 := by
  obtain ⟨h1, h2, g3, g4, g5, h6⟩ := h
  refine ⟨?_, h2.kept (o.2 _ (by omega)), ?_, ?_, ?_, fun i hi => ((h6 i hi).kept (fun q _ _ => o.2 q (by omega))).ext (fun k hk => (e _ (by omega) (by omega) (by omega) (by omega)).symm)⟩
  · rw [e 5 (by omega) (by omega) (by omega) (by omega), e 2 (by omega) (by omega) (by omega) (by omega), e 3 (by omega) (by omega) (by omega) (by omega), e 4 (by omega) (by omega) (by omega) (by omega)]
    exact h1.kept (o.2 _ (by omega))
  · by_cases q : a = b + 2
    · exact h3 q
    · exact iA_ext (g3.kept (o.2 _ (by omega))) (fun j hj => (e _ (by omega) (by omega) (by omega) (by omega)).symm)
  · by_cases q : a = b + 3
    · exact h4 q
    · exact iA_ext (g4.kept (o.2 _ (by omega))) (fun j hj => (e _ (by omega) (by omega) (by omega) (by omega)).symm)
  · by_cases q : a = b + 4
    · exact h5 q
    · exact iA_ext (g5.kept (o.2 _ (by omega))) (fun j hj => (e _ (by omega) (by omega) (by omega) (by omega)).symm)
theorem ShopAt.pLow {G : GG} {b k : Nat} {r : Nat → Int32} {H H1 : Heap} {v : Int32} (h : ShopAt G b r H) (hk : k < 3) (h1 : ar G 0 (b + 2) (iA 3 (upd (fun j => r (6 + j)) k v)) H1) (o : Oq (b + 2) H H1) : ShopAt G b (upd r (6 + k) v) H1 :=
  h.pArr (Or.inl rfl) o (fun _ => iA_ext h1 (fun j hj => upd_add)) (fun q => by omega) (fun q => by omega) (fun j _ h2 _ _ => upd_ne (by have := h2 rfl; omega))
theorem ShopAt.pHigh {G : GG} {b k : Nat} {r : Nat → Int32} {H H1 : Heap} {v : Int32} (h : ShopAt G b r H) (hk : k < 3) (h1 : ar G 0 (b + 3) (iA 3 (upd (fun j => r (9 + j)) k v)) H1) (o : Oq (b + 3) H H1) : ShopAt G b (upd r (9 + k) v) H1 :=
  h.pArr (Or.inr (Or.inl rfl)) o (fun q => by omega) (fun _ => iA_ext h1 (fun j hj => upd_add)) (fun q => by omega) (fun j _ _ h2 _ => upd_ne (by have := h2 rfl; omega))
theorem ShopAt.pSet {G : GG} {b k : Nat} {r : Nat → Int32} {H H1 : Heap} {v : Int32} (h : ShopAt G b r H) (hk : k < 2) (h1 : ar G 0 (b + 4) (iA 2 (upd (fun j => r j) k v)) H1) (o : Oq (b + 4) H H1) : ShopAt G b (upd r k v) H1 :=
  h.pArr (Or.inr (Or.inr rfl)) o (fun q => by omega) (fun q => by omega) (fun _ => iA_ext h1 (fun j hj => rfl)) (fun j _ _ _ h2 => upd_ne (by have := h2 rfl; omega))
