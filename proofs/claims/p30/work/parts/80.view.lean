/-! THE LAW'S VIEW OF THE OBJECT: its 197 cells from z on, by its row r; contracts on it -/
theorem met_ex {l : Launch} {y : MethodName} {ws : List Cond} {rm : Room} {Pc2 : Array Value → State → Prop} {Qc2 : Array Value → State → Outcome → State → Prop} {mc ms : Nat} {free2 : Addr → Prop}
    (h : ∀ a u, Pc2 a u → ∃ (Pc : Array Value → State → Prop) (Qc : Array Value → State → Outcome → State → Prop) (free : Addr → Prop), Met l y ws rm Pc Qc mc ms free ∧ Pc a u ∧ (∀ o t, Qc a u o t → Qc2 a u o t) ∧ ∀ q, free q → free2 q) : Met l y ws rm Pc2 Qc2 mc ms free2 := by
  intro p e ha hc hk s m args below hf happ hP hK
  obtain ⟨Pc, Qc, free, hM, h1, h2, h3⟩ := h args s hP
  obtain ⟨n, o, a1, a2, a3, a4, L, a5, a6⟩ := hM p e ha hc hk s m args below hf happ h1 hK
  exact ⟨n, o, a1, a2, a3, h2 _ _ a4, L, a5, fun q hq => h3 _ (a6 q hq)⟩
theorem met_rd {l : Launch} {y : MethodName} {ws : List Cond} {rm : Room} {G : GG} {av : List Value} {P : Heap → Prop} {post : Int32 → Prop} (h : ∀ H, P H → ∃ P0 : Heap → Prop, P0 H ∧ Met l y ws rm (PC G av P0) (vp_Si post) 0 0 NoA) : Met l y ws rm (PC G av P) (vp_Si post) 0 0 NoA :=
  met_ex (fun a u hP => by
    obtain ⟨P0, h0, hM⟩ := h u.heap hP.2.1
    exact ⟨_, _, _, hM, ⟨hP.1, h0, hP.2.2⟩, fun _ _ q => q, fun _ q => q⟩)
theorem met_wr {l : Launch} {y : MethodName} {ws : List Cond} {rm : Room} {G : GG} {av : List Value} {P : Heap → Prop} {P1 : Int32 → Heap → Prop} {A : Nat → Prop} (h : ∀ H, P H → ∃ (P0 : Heap → Prop) (Q0 : Int32 → Heap → Prop) (A0 : Nat → Prop), P0 H ∧ Met l y ws rm (PC G av P0) (QI Q0 A0) 0 0 A0 ∧ (∀ q, A0 q → A q) ∧ ∀ v H1, Q0 v H1 → (∀ q : Nat, q < H.size → ¬ A0 q → H1[q]? = H[q]?) → P1 v H1) : Met l y ws rm (PC G av P) (QI P1 A) 0 0 A :=
  met_ex (fun a u hP => by
    obtain ⟨P0, Q0, A0, h0, hM, hA, h9⟩ := h u.heap hP.2.1
    refine ⟨_, _, _, hM, ⟨hP.1, h0, hP.2.2⟩, fun o t q => ?_, hA⟩
    obtain ⟨⟨r, u0, e1, e2, e3⟩, hz, hk⟩ := q
    exact ⟨⟨r, u0, e1, e2, h9 _ _ e3 hk⟩, hz, fun x h1 h2 => hk x h1 (fun w => h2 (hA x w))⟩)
theorem met_wrX {l : Launch} {y : MethodName} {ws : List Cond} {rm : Room} {G : GG} {Sx : State → Prop} {av : List Value} {P : Heap → Prop} {P1 : Int32 → Heap → Prop} {A : Nat → Prop} (h : ∀ H, P H → ∃ (P0 : Heap → Prop) (S0 : State → Prop) (Q0 : Int32 → Heap → Prop) (A0 : Nat → Prop), P0 H ∧ (∀ U, Sx U → S0 U) ∧ Met l y ws rm (PCX G S0 av P0) (QI Q0 A0) 0 0 A0 ∧ (∀ q, A0 q → A q) ∧ ∀ v H1, Q0 v H1 → (∀ q : Nat, q < H.size → ¬ A0 q → H1[q]? = H[q]?) → P1 v H1) : Met l y ws rm (PCX G Sx av P) (QI P1 A) 0 0 A :=
  met_ex (fun a u hP => by
    obtain ⟨P0, S0, Q0, A0, h0, hs, hM, hA, h9⟩ := h u.heap hP.2.1
    refine ⟨_, _, _, hM, ⟨hP.1, h0, hP.2.2.1, hs _ hP.2.2.2⟩, fun o t q => ?_, hA⟩
    obtain ⟨⟨r, u0, e1, e2, e3⟩, hz, hk⟩ := q
    exact ⟨⟨r, u0, e1, e2, h9 _ _ e3 hk⟩, hz, fun x h1 h2 => hk x h1 (fun w => h2 (hA x w))⟩)
def SrX (G : GG) (z : Nat) (H : Heap) : Prop := ∃ S, (∀ c, c < 4 → S 9 c = 0) ∧ SrAt G (z + 168) S H
def LO (G : GG) (z : Nat) (r : Nat → Int32) (H : Heap) : Prop := ∃ T nx kp, (nx < 7 ∧ kp ≤ 6) ∧ T3 G z r T nx kp H ∧ PadAt G (z + 164) (fun _ => 0) (nI 0) H ∧ SrX G z H
theorem SrX.kept {G : GG} {z : Nat} {H H1 : Heap} (h : SrX G z H) (e : ∀ q, z + 168 ≤ q → q < z + 197 → H1[q]? = H[q]?) : SrX G z H1 := by
  obtain ⟨S, h0, h1⟩ := h
  exact ⟨S, h0, h1.kept (fun q a b => e q a (by omega))⟩
theorem SrX.top {G : GG} {z : Nat} {H : Heap} (h : SrX G z H) : z + 196 < H.size := by
  obtain ⟨S, h0, h1⟩ := h
  have := h1.top
  omega
theorem LO.te {G : GG} {z : Nat} {r : Nat → Int32} {H : Heap} (h : LO G z r H) : ob G 6 z (o6 z) H := by
  obtain ⟨T, nx, kp, hb, h3, hp, hs⟩ := h
  exact h3.1
theorem LO.ts {G : GG} {z : Nat} {r : Nat → Int32} {H : Heap} (h : LO G z r H) : Te G z H ∧ ShopAt G (z + 1) r H := by
  obtain ⟨T, nx, kp, hb, h3, hp, hs⟩ := h
  exact ⟨h3.1, h3.2.1⟩
theorem LO.top {G : GG} {z : Nat} {r : Nat → Int32} {H : Heap} (h : LO G z r H) : z + 196 < H.size := by
  obtain ⟨T, nx, kp, hb, h3, hp, hs⟩ := h
  exact hs.top
theorem LO.kept {G : GG} {z : Nat} {r : Nat → Int32} {H H1 : Heap} (h : LO G z r H) (e : ∀ q, z ≤ q → q < z + 197 → H1[q]? = H[q]?) : LO G z r H1 := by
  obtain ⟨T, nx, kp, hb, h3, hp, hs⟩ := h
  exact ⟨T, nx, kp, hb, ⟨h3.1.kept (e z (by omega) (by omega)), h3.2.1.kept (fun q _ _ => e q (by omega) (by omega)), h3.2.2.kept (fun q _ _ => e q (by omega) (by omega))⟩, hp.kept (fun q _ _ => e q (by omega) (by omega)), hs.kept (fun q _ _ => e q (by omega) (by omega))⟩
theorem w163 {z q : Nat} (h : In z 163 q) : In z 197 q := by
  have h2 : _ ∧ _ := h
  exact ⟨h2.1, by omega⟩
theorem wCH {z q : Nat} (h : CH z q) : In z 197 q := by
  have h2 : (_ ∧ _) ∧ _ := h
  exact ⟨h2.1.1, h2.1.2⟩
theorem w168 {z q : Nat} (h : In (z + 168) 29 q) : In z 197 q := by
  have h2 : _ ∧ _ := h
  exact ⟨by omega, by omega⟩
theorem LO.of3c {G : GG} {z nx kp : Nat} {r : Nat → Int32} {T : Nat → Nat → Int32} {op : Op} {H H1 : Heap} (hb : nx < 7 ∧ kp ≤ 6) (h3 : T3c G z r T nx kp op H1) (hp : PadAt G (z + 164) (fun _ => 0) (nI 0) H) (hs : SrX G z H) (hk : ∀ q : Nat, q < H.size → ¬ In z 163 q → H1[q]? = H[q]?) : LO G z op.2 H1 := by
  have ht := hs.top
  exact ⟨_, _, _, ⟨by split <;> omega, by split <;> omega⟩, h3, hp.kept (fun q _ _ => hk q (by omega) (fun (w : _ ∧ _) => by omega)), hs.kept (fun q _ _ => hk q (by omega) (fun (w : _ ∧ _) => by omega))⟩
theorem SxL.narrow {t : Nat → Nat} {A B : Nat → Prop} {U : State} (h : SxL t A U) (hAB : ∀ z, B z → A z) : SxL t B U := ⟨h.1, ⟨h.2.1.1.narrow hAB, h.2.1.2.narrow hAB⟩, ⟨h.2.2.1.narrow hAB, h.2.2.2.narrow hAB⟩⟩
theorem lfP_n {r : Nat → Int32} (hw : WF r) {i : Nat} (hi : i < nlv r) : lfP r (nI i) := by
  have h5 := hw.nl5
  show 0 ≤ nI i ∧ nI i < r 5
  rw [hw.nl]
  exact ⟨nI_pos' (by omega), nI_lt hi (by omega)⟩
theorem of_k {r : Nat → Int32} (hw : WF r) {i : Nat} (hi : i < nlv r) (k : Nat) (hk : k ≤ 6) {y : Int32} (hy : y.toInt = (k : Int)) : ofO r (nI i) y = ofN r i k :=
  (ofO_2 (by have := hw.nl5; omega) (lfP_n hw hi) (selN_in k hk hy)).symm
theorem cn_k {r : Nat → Int32} {a b : Int32} (k : Nat) (hk : k ≤ 11) : cnN r a b k = cnN r 0 0 k := by
  have e : k = 0 ∨ k = 1 ∨ k = 2 ∨ k = 3 ∨ k = 4 ∨ k = 5 ∨ k = 6 ∨ k = 7 ∨ k = 8 ∨ k = 9 ∨ k = 10 ∨ k = 11 := by omega
  rcases e with rfl | rfl | rfl | rfl | rfl | rfl | rfl | rfl | rfl | rfl | rfl | rfl <;> rfl

theorem q_of (l : Launch) (G : GG) (z : Nat) (r : Nat → Int32) (i k : Nat) (y : Int32) (hw : WF r) (hi : i < nlv r) (hk : k ≤ 6) (hy : y.toInt = (k : Int)) : Met l yX6_of (ws_ yX6_of cX6_of 3 (some .int)) (rm_ 4) (PC G [.ref z, .int (nI i), .int y] (LO G z r)) (vp_Si (fun v => v = ofN r i k)) 0 0 (NoA) := by
  have e := of_k hw hi k hk hy
  rw [← e]
  exact met_rd (fun H h => ⟨_, h.ts, k_X6_of l G z r (nI i) y hw⟩)
theorem q_of_no (l : Launch) (G : GG) (z : Nat) (r : Nat → Int32) (x y : Int32) (hw : WF r) (hx : ¬ lfP r x) : Met l yX6_of (ws_ yX6_of cX6_of 3 (some .int)) (rm_ 4) (PC G [.ref z, .int x, .int y] (LO G z r)) (vp_Si (fun v => v = -1)) 0 0 (NoA) := by
  have e := ofO_1 (y := y) hx
  rw [e]
  exact met_rd (fun H h => ⟨_, h.ts, k_X6_of l G z r x y hw⟩)
theorem q_blend (l : Launch) (G : GG) (z : Nat) (r : Nat → Int32) (k : Nat) (y : Int32) (hw : WF r) (hk : k ≤ 5) (hy : y.toInt = (k : Int)) : Met l yX6_blend (ws_ yX6_blend cX6_blend 2 (some .int)) (rm_ 4) (PC G [.ref z, .int y] (LO G z r)) (vp_Si (fun v => v = blN r k)) 0 0 (NoA) := by
  have e := selN_in (f := blN r) k hk hy
  rw [e]
  exact met_rd (fun H h => ⟨_, h.ts, k_X6_blend l G z r y hw⟩)
theorem q_blend_no (l : Launch) (G : GG) (z : Nat) (r : Nat → Int32) (y : Int32) (hw : WF r) (hy : y.toInt < 0 ∨ (5 : Nat) < y.toInt) : Met l yX6_blend (ws_ yX6_blend cX6_blend 2 (some .int)) (rm_ 4) (PC G [.ref z, .int y] (LO G z r)) (vp_Si (fun v => v = -2)) 0 0 (NoA) := by
  have e := selN_out (n := 5) (f := blN r) hy
  rw [e]
  exact met_rd (fun H h => ⟨_, h.ts, k_X6_blend l G z r y hw⟩)
theorem q_count (l : Launch) (G : GG) (z : Nat) (r : Nat → Int32) (k : Nat) (y : Int32) (hk : k ≤ 11) (hy : y.toInt = (k : Int)) : Met l yX6_count (ws_ yX6_count cX6_count 2 (some .int)) (rm_ 0) (PC G [.ref z, .int y] (LO G z r)) (vp_Si (fun v => v = cnN r 0 0 k)) 0 0 (NoA) := by
  refine met_rd (fun H h => ?_)
  obtain ⟨T, nx, kp, hb, h3, hp, hs⟩ := h
  have e := selN_in (f := cnN r (nI 0) (nI kp)) k (show k ≤ 13 by omega) hy
  rw [← cn_k (a := nI 0) (b := nI kp) k hk, e]
  exact ⟨_, ⟨h3, hp⟩, k_X6_count l G z nx kp 0 r T (fun _ => 0) y⟩
theorem q_count_no (l : Launch) (G : GG) (z : Nat) (r : Nat → Int32) (y : Int32) (hy : y.toInt < 0 ∨ (13 : Nat) < y.toInt) : Met l yX6_count (ws_ yX6_count cX6_count 2 (some .int)) (rm_ 0) (PC G [.ref z, .int y] (LO G z r)) (vp_Si (fun v => v = -2)) 0 0 (NoA) := by
  refine met_rd (fun H h => ?_)
  obtain ⟨T, nx, kp, hb, h3, hp, hs⟩ := h
  have e := selN_out (n := 13) (f := cnN r (nI 0) (nI kp)) hy
  rw [e]
  exact ⟨_, ⟨h3, hp⟩, k_X6_count l G z nx kp 0 r T (fun _ => 0) y⟩
theorem q_why (l : Launch) (G : GG) (z : Nat) (r : Nat → Int32) (hw : WF r) : Met l yX6_why (ws_ yX6_why cX6_why 1 (some .int)) (rm_ 4) (PC G [.ref z] (LO G z r)) (vp_Si (fun v => v = whyF r 0)) 0 0 (NoA) := by
  exact met_rd (fun H h => ⟨_, h.ts, k_X6_why l G z r hw⟩)
theorem q_keepsFor (l : Launch) (G : GG) (z : Nat) (r : Nat → Int32) (hw : WF r) : Met l yX6_keepsFor (ws_ yX6_keepsFor cX6_keepsFor 2 (some .int)) (rm_ 4) (PC G [.ref z] (LO G z r)) (vp_Si (fun v => v = kfG r 401 0)) 0 0 (NoA) := by
  exact met_rd (fun H h => ⟨_, h.ts, k_X6_keepsFor l G z r hw⟩)
theorem q_mostGrams (l : Launch) (G : GG) (z : Nat) (r : Nat → Int32) (hw : WF r) : Met l yX6_mostGrams (ws_ yX6_mostGrams cX6_mostGrams 1 (some .int)) (rm_ 4) (PC G [.ref z] (LO G z r)) (vp_Si (fun v => v = mgO r)) 0 0 (NoA) := by
  exact met_rd (fun H h => ⟨_, h.ts, k_X6_mostGrams l G z r hw⟩)
theorem q_share (l : Launch) (G : GG) (z : Nat) (r : Nat → Int32) (x g : Int32) (hw : WF r) : Met l yX6_share (ws_ yX6_share cX6_share 3 (some .int)) (rm_ 8) (PC G [.ref z, .int x, .int g] (LO G z r)) (QI (fun v H => v = (shO r x g).1 ∧ LO G z (shO r x g).2 H) (In z 197)) 0 0 (In z 197) := by
  refine met_wr (fun H h => ?_)
  obtain ⟨T, nx, kp, hb, h3, hp, hs⟩ := h
  exact ⟨_, _, _, h3, k_X6_share l G z nx kp r T x g hb.1 hb.2 hw, fun q hq => w163 hq, fun v H1 h1 hk => ⟨h1.1, LO.of3c hb h1.2 hp hs hk⟩⟩
theorem q_buy (l : Launch) (G : GG) (z : Nat) (r : Nat → Int32) (x g : Int32) (hw : WF r) : Met l yX6_buy (ws_ yX6_buy cX6_buy 3 (some .int)) (rm_ 8) (PC G [.ref z, .int x, .int g] (LO G z r)) (QI (fun v H => v = (bgO r x g).1 ∧ LO G z (bgO r x g).2 H) (In z 197)) 0 0 (In z 197) := by
  refine met_wr (fun H h => ?_)
  obtain ⟨T, nx, kp, hb, h3, hp, hs⟩ := h
  exact ⟨_, _, _, h3, k_X6_buy l G z nx kp r T x g hb.1 hb.2 hw, fun q hq => w163 hq, fun v H1 h1 hk => ⟨h1.1, LO.of3c hb h1.2 hp hs hk⟩⟩
theorem q_bound (l : Launch) (G : GG) (z : Nat) (r : Nat → Int32) (x lo hi : Int32) (hw : WF r) : Met l yX6_bound (ws_ yX6_bound cX6_bound 4 (some .int)) (rm_ 8) (PC G [.ref z, .int x, .int lo, .int hi] (LO G z r)) (QI (fun v H => v = (bnO r x lo hi).1 ∧ LO G z (bnO r x lo hi).2 H) (In z 197)) 0 0 (In z 197) := by
  refine met_wr (fun H h => ?_)
  obtain ⟨T, nx, kp, hb, h3, hp, hs⟩ := h
  exact ⟨_, _, _, h3, k_X6_bound l G z nx kp r T x lo hi hb.1 hb.2 hw, fun q hq => w163 hq, fun v H1 h1 hk => ⟨h1.1, LO.of3c hb h1.2 hp hs hk⟩⟩
theorem q_mix (l : Launch) (G : GG) (z : Nat) (r : Nat → Int32) (g : Int32) (hw : WF r) : Met l yX6_mix (ws_ yX6_mix cX6_mix 2 (some .int)) (rm_ 8) (PC G [.ref z, .int g] (LO G z r)) (QI (fun v H => v = (mxO r g).1 ∧ LO G z (mxO r g).2 H) (In z 197)) 0 0 (In z 197) := by
  refine met_wr (fun H h => ?_)
  obtain ⟨T, nx, kp, hb, h3, hp, hs⟩ := h
  exact ⟨_, _, _, h3, k_X6_mix l G z nx kp r T g hb.1 hb.2 hw, fun q hq => w163 hq, fun v H1 h1 hk => ⟨h1.1, LO.of3c hb h1.2 hp hs hk⟩⟩
theorem q_pass (l : Launch) (G : GG) (z : Nat) (r : Nat → Int32) (d : Int32) (hw : WF r) : Met l yX6_pass (ws_ yX6_pass cX6_pass 2 (some .int)) (rm_ 8) (PC G [.ref z, .int d] (LO G z r)) (QI (fun v H => v = (pdO r d).1 ∧ LO G z (pdO r d).2 H) (In z 197)) 0 0 (In z 197) := by
  refine met_wr (fun H h => ?_)
  obtain ⟨T, nx, kp, hb, h3, hp, hs⟩ := h
  exact ⟨_, _, _, h3, k_X6_pass l G z nx kp r T d hb.1 hb.2 hw, fun q hq => w163 hq, fun v H1 h1 hk => ⟨h1.1, LO.of3c hb h1.2 hp hs hk⟩⟩
theorem q_row (l : Launch) (G : GG) (z : Nat) (r : Nat → Int32) (x : Int32) (y : Int64) (hw : WF r) : Met l yX6_row (ws_ yX6_row cX6_row 4 (some .int)) (rm_ 8) (PC G [.ref z, .int x, .long y] (LO G z r)) (QI (fun v H => v = (rwO r x y).1 ∧ LO G z (rwO r x y).2 H) (In z 197)) 0 0 (In z 197) := by
  refine met_wr (fun H h => ?_)
  obtain ⟨T, nx, kp, hb, h3, hp, hs⟩ := h
  exact ⟨_, _, _, h3, k_X6_row l G z nx kp r T x y hb.1 hb.2 hw, fun q hq => w163 hq, fun v H1 h1 hk => ⟨h1.1, LO.of3c hb h1.2 hp hs hk⟩⟩
theorem q_leaf (l : Launch) (G : GG) (z : Nat) (r : Nat → Int32) (x t st : Int32) (hw : WF r) : Met l yX6_leaf (ws_ yX6_leaf cX6_leaf 4 (some .int)) (rm_ 8) (PC G [.ref z, .int x, .int t, .int st] (LO G z r)) (QI (fun v H => v = (adO r x (tst t 0) (tst t 1) (tst t 2) st).1 ∧ LO G z (adO r x (tst t 0) (tst t 1) (tst t 2) st).2 H) (In z 197)) 0 0 (In z 197) := by
  refine met_wr (fun H h => ?_)
  obtain ⟨T, nx, kp, hb, h3, hp, hs⟩ := h
  exact ⟨_, _, _, h3, k_X6_leaf l G z nx kp r T x t st hb.1 hb.2 hw, fun q hq => w163 hq, fun v H1 h1 hk => ⟨h1.1, LO.of3c hb h1.2 hp hs hk⟩⟩
theorem q_set (l : Launch) (G : GG) (z : Nat) (r : Nat → Int32) (x y : Int32) (t : Nat → Nat) : Met l yX6_set (ws_ yX6_set cX6_set 3 (some .int)) (rm_ 8) (PCX G (SxL t (In z 197)) [.ref z, .int x, .int y] (LO G z r)) (QI (fun v H => v = (setO r x y).1 ∧ LO G z (setO r x y).2 H) (In z 197)) 0 0 (In z 197) := by
  refine met_wrX (fun H h => ?_)
  obtain ⟨T, nx, kp, hb, h3, hp, hs⟩ := h
  exact ⟨_, _, _, _, h3, fun U hU => hU.narrow (fun q hq => w163 hq), k_X6_set l G z nx kp r T x y t hb.1 hb.2, fun q hq => w163 hq, fun v H1 h1 hk => ⟨h1.1, LO.of3c hb h1.2 hp hs hk⟩⟩
theorem q_cheapest (l : Launch) (G : GG) (z : Nat) (r : Nat → Int32) (x : Int32) (hv : Iv r) : Met l yX6_cheapest (ws_ yX6_cheapest cX6_cheapest 2 (some .int)) (rm_ 9) (PC G [.ref z, .int x] (LO G z r)) (QI (fun v H => v = cpO r x ∧ LO G z r H) (In z 197)) 0 0 (In z 197) := by
  refine met_wr (fun H h => ?_)
  obtain ⟨T, nx, kp, hb, h3, hp, S, h90, hS⟩ := h
  have ht := hS.top
  refine ⟨_, _, _, ⟨h3.1, h3.2.1, hS⟩, k_X6_cheapest l G z r S x hv h90, fun q hq => w168 hq, fun v H1 h1 hk => ?_⟩
  obtain ⟨h1, S2, g90, h4⟩ := h1
  exact ⟨h1, T, nx, kp, hb, ⟨h4.1, h4.2.1, h3.2.2.kept (fun q _ _ => hk q (by omega) (fun (w : _ ∧ _) => by omega))⟩, hp.kept (fun q _ _ => hk q (by omega) (fun (w : _ ∧ _) => by omega)), S2, g90, h4.2.2⟩
theorem q_choose (l : Launch) (G : GG) (z : Nat) (r : Nat → Int32) (hv : Iv r) : Met l yX6_choose (ws_ yX6_choose cX6_choose 1 (some .int)) (rm_ 9) (PC G [.ref z] (LO G z r)) (QI (fun v H => v = (coO r).1 ∧ LO G z (coO r).2 H) (In z 197)) 0 0 (In z 197) := by
  refine met_wr (fun H h => ?_)
  obtain ⟨T, nx, kp, hb, h3, hp, S, h90, hS⟩ := h
  have ht := hS.top
  refine ⟨_, _, _, ⟨h3, hS⟩, k_X6_choose l G z nx kp r T S hb.1 hb.2 hv h90, fun q hq => wCH hq, fun v H1 h1 hk => ?_⟩
  obtain ⟨S2, g90, hS2, h1⟩ := h1
  have hp2 : PadAt G (z + 164) (fun _ => 0) (nI 0) H1 := hp.kept (fun q _ _ => hk q (by omega) (fun (w : (_ ∧ _) ∧ _) => by omega))
  rcases h1 with ⟨c1, e1, g3⟩ | ⟨c1, e1, g3⟩
  · rw [coO_1 c1]
    exact ⟨e1, T, nx, kp, hb, g3, hp2, S2, g90, hS2⟩
  · exact ⟨e1, _, _, _, ⟨by split <;> omega, by split <;> omega⟩, g3, hp2, S2, g90, hS2⟩
theorem LO.born {G : GG} {z : Nat} {H : Heap} (h : TeF G z rI (fun _ => rI) 0 0 (fun _ => none) (fun _ => 0) 0 (fun _ => 0) 0 0 0 (fun _ _ => 0) H) : LO G z rI H := ⟨_, 0, 0, ⟨by omega, by omega⟩, h.1, h.2.2.1.2, _, fun _ _ => rfl, h.2.2.2⟩
