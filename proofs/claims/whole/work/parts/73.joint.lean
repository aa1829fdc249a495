/-! what joins the class and the model, call by call -/
def RP (c : Nat) (M T : Nat → Nat → Int32) (nx kp n z : Nat) (sl : Nat → Option Nat) : Prop :=
  (nx < 7 ∧ kp ≤ 6 ∧ n ≤ 80) ∧ (M 5 0 = nI kp ∧ M 7 0 = nI n) ∧ Good c (M 0) ∧ (∀ i, i < kp → Good c (T ((nx + 7 - kp + i) % 7)) ∧ ∀ k, k < 82 → T ((nx + 7 - kp + i) % 7) k = M 1 (82 * i + k)) ∧ (∀ j, j < 2 → (sl j = none ∧ M 4 j = 0) ∨ (∃ q, sl j = some q ∧ ¬ M 4 j = 0 ∧ z + 210 ≤ q ∧ Good c (fun k => M 3 (82 * j + k)))) ∧ ∀ q q2, sl 0 = some q → sl 1 = some q2 → q + 20 ≤ q2 ∨ q2 + 20 ≤ q
theorem RP.s {c : Nat} {M T : Nat → Nat → Int32} {nx kp n z : Nat} {sl : Nat → Option Nat} (h : RP c M T nx kp n z sl) : RP (c + 1) M T nx kp n z sl := by
  obtain ⟨h1, h2, h3, h4, h5, h6⟩ := h
  refine ⟨h1, h2, h3.s, fun i hi => ⟨(h4 i hi).1.s, (h4 i hi).2⟩, fun j hj => ?_, h6⟩
  rcases h5 j hj with q | ⟨q, a, b, d, g⟩
  · exact Or.inl q
  · exact Or.inr ⟨q, a, b, d, g.s⟩
theorem RP.same {c : Nat} {M M2 T : Nat → Nat → Int32} {nx kp n n2 z : Nat} {sl : Nat → Option Nat} (h : RP c M T nx kp n z sl) (e0 : M2 0 = M 0) (e1 : M2 1 = M 1) (e3 : M2 3 = M 3) (e4 : M2 4 = M 4) (e5 : M2 5 0 = M 5 0) (e7 : M2 7 0 = nI n2) (hn2 : n2 ≤ 80) : RP c M2 T nx kp n2 z sl := by
  obtain ⟨h1, h2, h3, h4, h5, h6⟩ := h
  refine ⟨⟨h1.1, h1.2.1, hn2⟩, ⟨e5.trans h2.1, e7⟩, by rw [e0]; exact h3, by rw [e1]; exact h4, by rw [e3, e4]; exact h5, h6⟩
theorem RP.push {c : Nat} {M M2 T : Nat → Nat → Int32} {nx kp n n2 z : Nat} {sl : Nat → Option Nat} {op : Op} (h : RP c M T nx kp n z sl) (g : Good (c + 1) op.2) (e0 : M2 0 = op.2) (e1 : M2 1 = pushP M op.1 kp) (e5 : M2 5 0 = nI (pushS op.1 kp)) (e3 : M2 3 = M 3) (e4 : M2 4 = M 4) (e7 : M2 7 0 = nI n2) (hn2 : n2 ≤ 80) : RP (c + 1) M2 (updT T nx (M 0)) (if 0 ≤ op.1 then (nx + 1) % 7 else nx) (if 0 ≤ op.1 then min (kp + 1) 6 else kp) n2 z sl := by
  have h0 := h.s
  obtain ⟨⟨a1, a2, a3⟩, h2, h3, h4, h5, h6⟩ := h0
  have hT : ∀ i, i ≠ nx → updT T nx (M 0) i = T i := fun i hi => if_neg hi
  have hTe : updT T nx (M 0) nx = M 0 := if_pos rfl
  by_cases hp : 0 ≤ op.1
  · have hp2 : ¬ op.1 < 0 := Int32.not_lt.mpr hp
    rw [if_pos hp, if_pos hp]
    rw [show pushP M op.1 kp = recP (M 1) (M 0) kp from if_neg hp2] at e1
    rw [show pushS op.1 kp = min (kp + 1) 6 from if_neg hp2] at e5
    refine ⟨⟨by omega, by omega, hn2⟩, ⟨e5, e7⟩, by rw [e0]; exact g, fun i hi => ?_, by rw [e3, e4]; exact h5, h6⟩
    rw [e1]
    by_cases hk : kp = 6
    · subst hk
      rw [recP_6]
      by_cases hi5 : i = 5
      · rw [show ((nx + 1) % 7 + 7 - min (6 + 1) 6 + i) % 7 = nx by omega, hTe]
        exact ⟨h3, fun k hk => by show M 0 k = if 410 ≤ 82 * i + k ∧ 82 * i + k < 492 then M 0 (82 * i + k - 410) else _; rw [if_pos (by omega), show 82 * i + k - 410 = k by omega]⟩
      · have hi2 : i < 5 := by omega
        obtain ⟨b1, b2⟩ := h4 (i + 1) (by omega)
        have e9 : (nx + 7 - 6 + (i + 1)) % 7 = ((nx + 1) % 7 + 7 - min (6 + 1) 6 + i) % 7 := by omega
        rw [e9] at b1 b2
        rw [hT _ (by omega)]
        exact ⟨b1, fun k hk => by
          rw [b2 k hk]
          show _ = if 410 ≤ 82 * i + k ∧ 82 * i + k < 492 then M 0 (82 * i + k - 410) else if 82 * i + k < 410 then M 1 (82 + (82 * i + k)) else M 1 (82 * i + k)
          rw [if_neg (by omega), if_pos (by omega)]
          congr 1; omega⟩
    · rw [recP_n hk]
      have hk5 : kp < 6 := by omega
      by_cases hi5 : i = kp
      · rw [hi5, show ((nx + 1) % 7 + 7 - min (kp + 1) 6 + kp) % 7 = nx by omega, hTe]
        exact ⟨h3, fun k hk => by show M 0 k = if 82 * kp ≤ 82 * kp + k ∧ 82 * kp + k < 82 * kp + 82 then M 0 (82 * kp + k - 82 * kp) else _; rw [if_pos (by omega)]; congr 1; omega⟩
      · have hi2 : i < kp := by omega
        obtain ⟨b1, b2⟩ := h4 i hi2
        have e9 : (nx + 7 - kp + i) % 7 = ((nx + 1) % 7 + 7 - min (kp + 1) 6 + i) % 7 := by omega
        rw [e9] at b1 b2
        rw [hT _ (by omega)]
        exact ⟨b1, fun k hk => by
          rw [b2 k hk]
          show _ = if 82 * kp ≤ 82 * i + k ∧ 82 * i + k < 82 * kp + 82 then M 0 (82 * i + k - 82 * kp) else M 1 (82 * i + k)
          rw [if_neg (by omega)]⟩
  · have hp2 : op.1 < 0 := Int32.not_le.mp hp
    rw [if_neg hp, if_neg hp]
    rw [show pushP M op.1 kp = M 1 from if_pos hp2] at e1
    rw [show pushS op.1 kp = kp from if_pos hp2] at e5
    refine ⟨⟨a1, a2, hn2⟩, ⟨e5, e7⟩, by rw [e0]; exact g, fun i hi => ?_, by rw [e3, e4]; exact h5, h6⟩
    rw [e1, hT _ (by omega)]
    exact h4 i hi
theorem RP.undo {c : Nat} {M M2 T : Nat → Nat → Int32} {nx kp n z : Nat} {sl : Nat → Option Nat} (h : RP c M T nx kp n z sl) (hk : 0 < kp) (u : UndS M M2 kp) : RP (c + 1) M2 T ((nx + 6) % 7) (kp - 1) n z sl ∧ ∀ k, k < 82 → T ((nx + 6) % 7) k = M2 0 k := by
  have h0 := h.s
  obtain ⟨⟨a1, a2, a3⟩, h2, h3, h4, h5, h6⟩ := h0
  obtain ⟨u0, u1, u5, u3, u4, u6, u7⟩ := u
  obtain ⟨b1, b2⟩ := h4 (kp - 1) (by omega)
  rw [show (nx + 7 - kp + (kp - 1)) % 7 = (nx + 6) % 7 by omega] at b1 b2
  have hr : ∀ k, k < 82 → T ((nx + 6) % 7) k = M2 0 k := fun k hk => (b2 k hk).trans (u0 k hk).symm
  refine ⟨⟨⟨by omega, by omega, a3⟩, ⟨u5, u7.trans h2.2⟩, b1.ext hr, fun i hi => ?_, by rw [u3, u4]; exact h5, h6⟩, hr⟩
  rw [u1, show ((nx + 6) % 7 + 7 - (kp - 1) + i) % 7 = (nx + 7 - kp + i) % 7 by omega]
  exact h4 i (by omega)
theorem RP.save {c : Nat} {M M2 T : Nat → Nat → Int32} {nx kp n z : Nat} {sl : Nat → Option Nat} {j q : Nat} (h : RP c M T nx kp n z sl) (hj : j < 2) (u : SavS M M2 j) (hq : z + 210 ≤ q) (hd : ∀ i q2, i < 2 → i ≠ j → sl i = some q2 → q + 20 ≤ q2 ∨ q2 + 20 ≤ q) : RP (c + 1) M2 T nx kp n z (va_up sl j (some q)) := by
  have h0 := h.s
  obtain ⟨h1, h2, h3, h4, h5, h6⟩ := h0
  obtain ⟨u0, u1, u5, u3, u4, u6, u7⟩ := u
  have cp : ∀ i k, k < 82 → i < 2 → M2 3 (82 * i + k) = if i = j then M 0 k else M 3 (82 * i + k) := fun i k hk hi => by
    rw [u3]
    show (if 82 * j ≤ 82 * i + k ∧ 82 * i + k < 82 * j + 82 then M 0 (82 * i + k - 82 * j) else M 3 (82 * i + k)) = _
    by_cases e : i = j
    · subst e
      rw [if_pos (by omega), if_pos rfl]
      congr 1; omega
    · rw [if_neg (by omega), if_neg e]
  refine ⟨h1, ⟨u5.trans h2.1, u7.trans h2.2⟩, by rw [u0]; exact h3, by rw [u1]; exact h4, fun i hi => ?_, fun a b ha hb => ?_⟩
  · by_cases e : i = j
    · subst e
      refine Or.inr ⟨q, up_eq, ?_, hq, h3.ext (fun k hk => ?_)⟩
      · rw [u4]
        show ¬ (if i = i then (1 : Int32) else _) = 0
        rw [if_pos rfl]; decide
      · rw [cp i k hk hi, if_pos rfl]
    · rw [up_ne e, u4, show upd (M 4) j 1 i = M 4 i from if_neg e]
      rcases h5 i hi with a | ⟨q2, b1, b2, b3, b4⟩
      · exact Or.inl a
      · exact Or.inr ⟨q2, b1, b2, b3, b4.ext (fun k hk => by rw [cp i k hk hi, if_neg e])⟩
  · by_cases e0 : 0 = j
    · subst e0
      rw [up_eq] at ha
      rw [up_ne (by omega)] at hb
      have hc := hd 1 b (by omega) (by omega) hb
      cases ha
      exact hc
    · by_cases e1 : 1 = j
      · subst e1
        rw [up_eq] at hb
        rw [up_ne (by omega)] at ha
        have hc := hd 0 a (by omega) (by omega) ha
        cases hb
        omega
      · omega
theorem caF_cnt {T : Nat → Int32} {n : Nat} : ∀ (f : Nat) (b : Bool) (u0 : Nat) (N r : Nat → Int32) (d : Nat), (caF T n f b u0 N r d).2.2 ≤ d + f
  | 0, b, u0, N, r, d => Nat.le_refl _
  | f + 1, b, u0, N, r, d => by
    by_cases q : b = true ∧ u0 < n
    · obtain ⟨rfl, hlt⟩ := q
      rw [caF_y hlt]
      refine Nat.le_trans (caF_cnt f _ _ _ _ _) ?_
      split <;> omega
    · rw [caF_n q]
      show d ≤ d + (f + 1)
      omega
/-- both sides' cells -/
def RdX (G : GG) (z : Nat) (Tp : Nat → Int32) (n : Nat) (H : Heap) : Prop := ∃ N u0 j kd, RdC G (z + 166) (z + 164) Tp n N u0 j kd H
def SrX (G : GG) (z : Nat) (H : Heap) : Prop := ∃ S, (∀ c, c < 4 → S 9 c = 0) ∧ SrAt G (z + 168) S H
def BA (G : GG) (z : Nat) (r : Nat → Int32) (T : Nat → Nat → Int32) (nx kp : Nat) (Rs : Nat → Nat → Int32) (sl : Nat → Option Nat) (Tp : Nat → Int32) (n : Nat) (M : Nat → Nat → Int32) (H : Heap) : Prop :=
  T3 G z r T nx kp H ∧ SlAt G z sl Rs H ∧ RdX G z Tp n H ∧ SrX G z H ∧ MdAt G (z + 197) M H
theorem T3.ext {G : GG} {z nx kp : Nat} {r r2 : Nat → Int32} {T : Nat → Nat → Int32} {H : Heap} (h : T3 G z r T nx kp H) (e : ∀ k, k < 82 → r k = r2 k) : T3 G z r2 T nx kp H := ⟨h.1, h.2.1.ext e, h.2.2⟩
theorem SlAt.kept {G : GG} {z : Nat} {sl : Nat → Option Nat} {R : Nat → Nat → Int32} {H H1 : Heap} (h : SlAt G z sl R H) (e : H1[z + 163]? = H[z + 163]?) (e2 : ∀ j q, j < 2 → sl j = some q → ∀ a, q ≤ a → a < q + 20 → a < H.size → H1[a]? = H[a]?) : SlAt G z sl R H1 := by
  refine ⟨h.1.kept e, fun j q hj hq => ?_⟩
  have h9 := h.2 j q hj hq
  have ht := h9.top
  exact h9.kept (fun a h1 h2 => e2 j q hj hq a h1 h2 (by omega))
theorem SlAt.ext {G : GG} {z : Nat} {sl : Nat → Option Nat} {R R2 : Nat → Nat → Int32} {H : Heap} (h : SlAt G z sl R H) (e : ∀ j, j < 2 → ∀ k, k < 82 → R j k = R2 j k) : SlAt G z sl R2 H := ⟨h.1, fun j q hj hq => (h.2 j q hj hq).ext (e j hj)⟩
theorem RdX.kept {G : GG} {z : Nat} {Tp : Nat → Int32} {n : Nat} {H H1 : Heap} (h : RdX G z Tp n H) (e : ∀ q, z + 164 ≤ q → q < z + 168 → H1[q]? = H[q]?) : RdX G z Tp n H1 := by
  obtain ⟨N, u0, j, kd, h1⟩ := h
  exact ⟨N, u0, j, kd, h1.kept (fun q hq => by rcases hq with ⟨a, b⟩ | ⟨a, b⟩ <;> exact e q (by omega) (by omega))⟩
theorem SrX.kept {G : GG} {z : Nat} {H H1 : Heap} (h : SrX G z H) (e : ∀ q, z + 168 ≤ q → q < z + 197 → H1[q]? = H[q]?) : SrX G z H1 := by
  obtain ⟨S, h0, h1⟩ := h
  exact ⟨S, h0, h1.kept (fun q a b => e q a (by omega))⟩
theorem MdAt.top {G : GG} {w : Nat} {M : Nat → Nat → Int32} {H : Heap} (h : MdAt G w M H) : w + 12 < H.size := h.2.2.2.2.2.2.2.2.2.2.2.2.lt
section
variable {G : GG} {z nx kp n : Nat} {r : Nat → Int32} {T Rs M : Nat → Nat → Int32} {sl : Nat → Option Nat} {Tp : Nat → Int32} {H H1 : Heap}
theorem BA.face {nx1 kp1 : Nat} {r1 : Nat → Int32} {T1 : Nat → Nat → Int32} (h : BA G z r T nx kp Rs sl Tp n M H) (hsl : ∀ j q, j < 2 → sl j = some q → z + 210 ≤ q) (hk : ∀ q : Nat, q < H.size → ¬ In z 163 q → H1[q]? = H[q]?) (h1 : T3 G z r1 T1 nx1 kp1 H1) : BA G z r1 T1 nx1 kp1 Rs sl Tp n M H1 := by
  obtain ⟨a1, a2, a3, a4, a5⟩ := h
  have ht := a5.top
  have w : ∀ q, z + 163 ≤ q → q < H.size → H1[q]? = H[q]? := fun q x y => hk q y (fun (v : _ ∧ _) => by omega)
  exact ⟨h1, a2.kept (w _ (by omega) (by omega)) (fun j q hj hq a b d e => w a (by have := hsl j q hj hq; omega) e), a3.kept (fun q x y => w q (by omega) (by omega)), a4.kept (fun q x y => w q (by omega) (by omega)), a5.kept (fun q x y => w q (by omega) (by omega))⟩
theorem BA.md {M1 : Nat → Nat → Int32} (h : BA G z r T nx kp Rs sl Tp n M H) (hsl : ∀ j q, j < 2 → sl j = some q → z + 210 ≤ q) (hk : ∀ q : Nat, q < H.size → ¬ In (z + 197) 13 q → H1[q]? = H[q]?) (h1 : MdAt G (z + 197) M1 H1) : BA G z r T nx kp Rs sl Tp n M1 H1 := by
  obtain ⟨a1, a2, a3, a4, a5⟩ := h
  have ht := a5.top
  have w : ∀ q, q < z + 197 ∨ z + 210 ≤ q → q < H.size → H1[q]? = H[q]? := fun q x y => hk q y (fun (v : _ ∧ _) => by omega)
  exact ⟨a1.kept (fun q x y => w q (by omega) (by omega)), a2.kept (w _ (by omega) (by omega)) (fun j q hj hq a b d e => w a (by have := hsl j q hj hq; omega) e), a3.kept (fun q x y => w q (by omega) (by omega)), a4.kept (fun q x y => w q (by omega) (by omega)), h1⟩
theorem BA.rd {A : Nat → Prop} {Tp1 : Nat → Int32} {n1 : Nat} (h : BA G z r T nx kp Rs sl Tp n M H) (hsl : ∀ j q, j < 2 → sl j = some q → z + 210 ≤ q) (hk : ∀ q : Nat, q < H.size → ¬ A q → H1[q]? = H[q]?) (hA : ∀ q, A q → z + 164 ≤ q ∧ q < z + 168) (h1 : RdX G z Tp1 n1 H1) : BA G z r T nx kp Rs sl Tp1 n1 M H1 := by
  obtain ⟨a1, a2, a3, a4, a5⟩ := h
  have ht := a5.top
  have w : ∀ q, q < z + 164 ∨ z + 168 ≤ q → q < H.size → H1[q]? = H[q]? := fun q x y => hk q y (fun v => by have := hA q v; omega)
  exact ⟨a1.kept (fun q x y => w q (by omega) (by omega)), a2.kept (w _ (by omega) (by omega)) (fun j q hj hq a b d e => w a (by have := hsl j q hj hq; omega) e), h1, a4.kept (fun q x y => w q (by omega) (by omega)), a5.kept (fun q x y => w q (by omega) (by omega))⟩
theorem BA.sr (h : BA G z r T nx kp Rs sl Tp n M H) (hsl : ∀ j q, j < 2 → sl j = some q → z + 210 ≤ q) (hk : ∀ q : Nat, q < H.size → ¬ In (z + 168) 29 q → H1[q]? = H[q]?) (h1 : SrX G z H1) : BA G z r T nx kp Rs sl Tp n M H1 := by
  obtain ⟨a1, a2, a3, a4, a5⟩ := h
  have ht := a5.top
  have w : ∀ q, q < z + 168 ∨ z + 197 ≤ q → q < H.size → H1[q]? = H[q]? := fun q x y => hk q y (fun (v : _ ∧ _) => by omega)
  exact ⟨a1.kept (fun q x y => w q (by omega) (by omega)), a2.kept (w _ (by omega) (by omega)) (fun j q hj hq a b d e => w a (by have := hsl j q hj hq; omega) e), a3.kept (fun q x y => w q (by omega) (by omega)), h1, a5.kept (fun q x y => w q (by omega) (by omega))⟩
theorem BA.ca {nx1 kp1 : Nat} {r1 : Nat → Int32} {T1 : Nat → Nat → Int32} {Tp1 : Nat → Int32} {n1 : Nat} (h : BA G z r T nx kp Rs sl Tp n M H) (hsl : ∀ j q, j < 2 → sl j = some q → z + 210 ≤ q) (hk : ∀ q : Nat, q < H.size → ¬ CA z q → H1[q]? = H[q]?) (h1 : T3 G z r1 T1 nx1 kp1 H1) (h2 : RdX G z Tp1 n1 H1) : BA G z r1 T1 nx1 kp1 Rs sl Tp1 n1 M H1 := by
  obtain ⟨a1, a2, a3, a4, a5⟩ := h
  have ht := a5.top
  have w : ∀ q, q = z + 163 ∨ z + 168 ≤ q → q < H.size → H1[q]? = H[q]? := fun q x y => hk q y (fun (v : (_ ∧ _) ∧ _) => by omega)
  exact ⟨h1, a2.kept (w _ (by omega) (by omega)) (fun j q hj hq a b d e => w a (by have := hsl j q hj hq; omega) e), h2, a4.kept (fun q x y => w q (by omega) (by omega)), a5.kept (fun q x y => w q (by omega) (by omega))⟩
theorem BA.ch {nx1 kp1 : Nat} {r1 : Nat → Int32} {T1 : Nat → Nat → Int32} (h : BA G z r T nx kp Rs sl Tp n M H) (hsl : ∀ j q, j < 2 → sl j = some q → z + 210 ≤ q) (hk : ∀ q : Nat, q < H.size → ¬ CH z q → H1[q]? = H[q]?) (h1 : T3 G z r1 T1 nx1 kp1 H1) (h2 : SrX G z H1) : BA G z r1 T1 nx1 kp1 Rs sl Tp n M H1 := by
  obtain ⟨a1, a2, a3, a4, a5⟩ := h
  have ht := a5.top
  have w : ∀ q, (z + 163 ≤ q ∧ q < z + 168) ∨ z + 197 ≤ q → q < H.size → H1[q]? = H[q]? := fun q x y => hk q y (fun (v : (_ ∧ _) ∧ _) => by omega)
  exact ⟨h1, a2.kept (w _ (by omega) (by omega)) (fun j q hj hq a b d e => w a (by have := hsl j q hj hq; omega) e), a3.kept (fun q x y => w q (by omega) (by omega)), h2, a5.kept (fun q x y => w q (by omega) (by omega))⟩
theorem BA.sv {sl1 : Nat → Option Nat} {Rs1 : Nat → Nat → Int32} (h : BA G z r T nx kp Rs sl Tp n M H) (hsl : ∀ j q, j < 2 → sl j = some q → z + 210 ≤ q) (hk : ∀ q : Nat, q < H.size → ¬ SvA z H.size sl q → H1[q]? = H[q]?) (h1 : SlAt G z sl1 Rs1 H1) : BA G z r T nx kp Rs1 sl1 Tp n M H1 := by
  obtain ⟨a1, a2, a3, a4, a5⟩ := h
  have ht := a5.top
  have w : ∀ q, q < z + 210 → q ≠ z + 163 → H1[q]? = H[q]? := fun q x y => hk q (by omega) (fun v => by
    rcases v with v | ⟨j, q2, hj, hq2, (v : _ ∧ _)⟩ | v
    · exact y v
    · have := hsl j q2 hj hq2; omega
    · omega)
  exact ⟨a1.kept (fun q x y => w q (by omega) (by omega)), h1, a3.kept (fun q x y => w q (by omega) (by omega)), a4.kept (fun q x y => w q (by omega) (by omega)), a5.kept (fun q x y => w q (by omega) (by omega))⟩
end
/-- what stands at the head of the law's loop -/
def LI (G : GG) (z c : Nat) (H : Heap) : Prop := ∃ M T nx kp n sl, RP c M T nx kp n z sl ∧ BA G z (M 0) T nx kp (fun j k => M 3 (82 * j + k)) sl (M 6) n M H
theorem RP.sl {c : Nat} {M T : Nat → Nat → Int32} {nx kp n z : Nat} {sl : Nat → Option Nat} (h : RP c M T nx kp n z sl) : ∀ j q, j < 2 → sl j = some q → z + 210 ≤ q := fun j q hj hq => by
  rcases h.2.2.2.2.1 j hj with a | ⟨q2, b1, b2, b3, b4⟩
  · rw [a.1] at hq; cases hq
  · rw [b1] at hq; cases hq; exact b3
