/-! what holds of every row that the law meets: Iv, and grams and coins stay small -/
def GC (B : Int) (r : Nat → Int32) : Prop := (0 ≤ (r 3).toInt ∧ (r 3).toInt ≤ B) ∧ (0 ≤ (r 4).toInt ∧ (r 4).toInt ≤ B)
theorem GC.same {B : Int} {r r2 : Nat → Int32} (h : GC B r) (h3 : r2 3 = r 3) (h4 : r2 4 = r 4) : GC B r2 := by
  unfold GC
  rw [h3, h4]
  exact h
theorem GC.mono {B B2 : Int} {r : Nat → Int32} (h : GC B r) (hb : B ≤ B2) : GC B2 r := by
  obtain ⟨⟨h1, h2⟩, h3, h4⟩ := h
  exact ⟨⟨h1, by omega⟩, h3, by omega⟩
theorem sm_ex {f g : Nat → Int32} : ∀ n : Nat, (∀ i, i < n → f i = g i) → sm f n = sm g n
  | 0, _ => rfl
  | n + 1, h => by
    show sm f n + f n = sm g n + g n
    rw [sm_ex n (fun i hi => h i (by omega)), h n (by omega)]
theorem prS_le {r : Nat → Int32} (h : Iv r) : ∃ S, S ≤ 20160 ∧ prS r = nI S := by
  have hn5 := h.1.nl5
  refine ⟨sn (fun i => sv r i * Vv r i 3) (nlv r), ?_, ?_⟩
  · have h1 : sn (fun i => sv r i * Vv r i 3) (nlv r) ≤ sn (fun i => sv r i * 1008) (nlv r) := sn_le _ (fun i hi => Nat.mul_le_mul_left _ (Vv_p h (by omega)).2)
    have h2 := sn_mul (sv r) 1008 (nlv r)
    have h3 := h.2.2.2.2.2
    omega
  · unfold prS
    rw [sm_ex (g := fun i => nI (sv r i * Vv r i 3)) _ (fun i hi => by rw [(sv_s h (by omega)).1, (Vv_p h (by omega)).1, pk_mul]), sm_nI]
theorem GC_mx {B : Int} {r : Nat → Int32} (h : Iv r) (hg : GC B r) (hB : B + 100790 < 2 ^ 31) (g : Int32) : GC (B + 100790) (mxO r g).2 := by
  by_cases h1 : 1 ≤ g ∧ g ≤ 9999
  · by_cases h2 : whyF r 0 = 0 ∧ sfP r g
    · rw [mxO_3 h1 h2]
      have g1 := i32_le_iff.mp h1.1
      have g2 := i32_le_iff.mp h1.2
      have e1 : (1 : Int32).toInt = 1 := rfl
      have e9 : (9999 : Int32).toInt = 9999 := rfl
      obtain ⟨S, hS, hSe⟩ := prS_le h
      obtain ⟨gn, hgn⟩ : ∃ gn, gn = g.toInt.toNat := ⟨_, rfl⟩
      have hge : g = nI gn := by rw [hgn]; exact nI_of_toInt (by omega)
      have hgb : gn ≤ 9999 := by omega
      have hS2 : S / 20 ≤ 1008 := by omega
      have hp : gn * (S / 20) ≤ 9999 * 1008 := Nat.mul_le_mul hgb hS2
      have hc : g * (prS r / 20) / 100 = nI (gn * (S / 20) / 100) := by
        rw [hSe, hge, show nI S / 20 = nI (S / 20) from pk_div (d := 20) (by omega) (by omega) (by omega), pk_mul]
        exact pk_div (d := 100) (by omega) (by omega) (by omega)
      have hv : gn * (S / 20) / 100 ≤ 100790 := by omega
      obtain ⟨⟨a1, a2⟩, a3, a4⟩ := hg
      have q3 : (upd (upd (mgR r g (nlv r)) 3 (r 3 + g)) 4 (r 4 + g * (prS r / 20) / 100)) 3 = r 3 + g := by rw [upd_ne (by omega)]; exact if_pos rfl
      have q4 : (upd (upd (mgR r g (nlv r)) 3 (r 3 + g)) 4 (r 4 + g * (prS r / 20) / 100)) 4 = r 4 + g * (prS r / 20) / 100 := if_pos rfl
      show GC (B + 100790) (upd (upd (mgR r g (nlv r)) 3 (r 3 + g)) 4 (r 4 + g * (prS r / 20) / 100))
      unfold GC
      rw [q3, q4, hc, Int32.toInt_add, Int32.toInt_add, nI_toInt (by omega), Int.bmod_eq_of_le (by omega) (by omega), Int.bmod_eq_of_le (by omega) (by omega)]
      exact ⟨⟨by omega, by omega⟩, by omega, by omega⟩
    · rw [mxO_2 h1 h2]; exact hg.mono (by omega)
  · rw [mxO_1 h1]; exact hg.mono (by omega)
theorem u34 {r : Nat → Int32} {k : Nat} {v : Int32} (h : 5 ≤ k) : upd r k v 3 = r 3 ∧ upd r k v 4 = r 4 := ⟨upd_ne (by omega), upd_ne (by omega)⟩
theorem u34b {r : Nat → Int32} {k k2 : Nat} {v v2 : Int32} (h : 5 ≤ k) (h2 : 5 ≤ k2) : upd (upd r k v) k2 v2 3 = r 3 ∧ upd (upd r k v) k2 v2 4 = r 4 := ⟨(u34 h2).1.trans (u34 h).1, (u34 h2).2.trans (u34 h).2⟩
theorem e34_sh {r : Nat → Int32} (x g : Int32) : (shO r x g).2 3 = r 3 ∧ (shO r x g).2 4 = r 4 := by
  unfold shO
  split
  · exact ⟨rfl, rfl⟩
  · split
    · exact ⟨rfl, rfl⟩
    · split
      · exact ⟨rfl, rfl⟩
      · exact u34 (r := r) (k := 12 + 14 * x.toInt.toNat + 13) (v := g) (by omega)
theorem e34_pd {r : Nat → Int32} (d : Int32) : (pdO r d).2 3 = r 3 ∧ (pdO r d).2 4 = r 4 := by
  unfold pdO
  split
  · exact ⟨rfl, rfl⟩
  · split
    · exact ⟨rfl, rfl⟩
    · show upd (agF r d (nlv r)) 2 (r 2 + d) 3 = r 3 ∧ upd (agF r d (nlv r)) 2 (r 2 + d) 4 = r 4
      rw [upd_ne (by omega), upd_ne (by omega)]
      unfold agF
      exact ⟨if_neg (by omega), if_neg (by omega)⟩
theorem e34_ad {r : Nat → Int32} (p a b c st : Int32) : (adO r p a b c st).2 3 = r 3 ∧ (adO r p a b c st).2 4 = r 4 := by
  unfold adO
  split
  · exact ⟨rfl, rfl⟩
  · split
    · exact ⟨rfl, rfl⟩
    · show adR r (nlv r) p a b c st 3 = r 3 ∧ adR r (nlv r) p a b c st 4 = r 4
      unfold adR
      exact ⟨(if_neg (by omega)).trans (if_neg (by omega)), (if_neg (by omega)).trans (if_neg (by omega))⟩
theorem e34_bn {r : Nat → Int32} (x lo hi : Int32) : (bnO r x lo hi).2 3 = r 3 ∧ (bnO r x lo hi).2 4 = r 4 := by
  unfold bnO
  split
  · exact ⟨rfl, rfl⟩
  · split
    · exact ⟨rfl, rfl⟩
    · exact u34b (k := 6 + x.toInt.toNat) (k2 := 9 + x.toInt.toNat) (by omega) (by omega)
theorem e34_bg {r : Nat → Int32} (x g : Int32) : (bgO r x g).2 3 = r 3 ∧ (bgO r x g).2 4 = r 4 := by
  unfold bgO
  split
  · exact ⟨rfl, rfl⟩
  · split
    · exact ⟨rfl, rfl⟩
    · split
      · exact ⟨rfl, rfl⟩
      · dsimp only
        exact u34b (k := 12 + 14 * x.toInt.toNat + 12) (k2 := 12 + 14 * x.toInt.toNat + 11) (by omega) (by omega)
theorem e34_rw {r : Nat → Int32} (x : Int32) (y : Int64) : (rwO r x y).2 3 = r 3 ∧ (rwO r x y).2 4 = r 4 := by
  unfold rwO
  split
  · exact ⟨rfl, rfl⟩
  · split
    · exact ⟨rfl, rfl⟩
    · show chR r x.toInt.toNat y 7 3 = r 3 ∧ chR r x.toInt.toNat y 7 4 = r 4
      unfold chR
      exact ⟨if_neg (by omega), if_neg (by omega)⟩
theorem e34_set {r : Nat → Int32} (x y : Int32) : (setO r x y).2 3 = r 3 ∧ (setO r x y).2 4 = r 4 := by
  unfold setO
  split
  · next h =>
    have hx : x.toInt.toNat < 2 := by
      rcases h with ⟨rfl, -⟩ | ⟨rfl, -⟩ <;> decide
    show upd r x.toInt.toNat y 3 = r 3 ∧ upd r x.toInt.toNat y 4 = r 4
    exact ⟨upd_ne (by omega), upd_ne (by omega)⟩
  · exact ⟨rfl, rfl⟩
theorem e34_co {r : Nat → Int32} : (coO r).2 3 = r 3 ∧ (coO r).2 4 = r 4 := by
  by_cases h : (skR r).1 = -1
  · rw [coO_1 h]; exact ⟨rfl, rfl⟩
  · rw [coO_2 h]
    show shR r (fun k => nI ((skR r).2 k)) (nlv r) 3 = r 3 ∧ shR r (fun k => nI ((skR r).2 k)) (nlv r) 4 = r 4
    unfold shR
    exact ⟨if_neg (by omega), if_neg (by omega)⟩
theorem GC_op {B : Int} {r : Nat → Int32} (h : Iv r) (hg : GC B r) (hB : B + 100790 < 2 ^ 31) (y : Int32) (N : Nat → Int32) : GC (B + 100790) (opO r y N).2 := by
  unfold opO
  split
  · exact (hg.same (e34_ad ..).1 (e34_ad ..).2).mono (by omega)
  · split
    · exact (hg.same (e34_sh ..).1 (e34_sh ..).2).mono (by omega)
    · split
      · exact (hg.same (e34_pd ..).1 (e34_pd ..).2).mono (by omega)
      · exact GC_mx h hg hB _
theorem GC_ca {T : Nat → Int32} {n : Nat} : ∀ (f : Nat) (b : Bool) (u0 : Nat) (N r : Nat → Int32) (d : Nat) (B : Int) (W : Nat), (n + 1 - u0) / 2 ≤ W → Iv r → GC B r → B + 100790 * (W : Int) < 2 ^ 31 → GC (B + 100790 * (W : Int)) (caF T n f b u0 N r d).1 ∧ Iv (caF T n f b u0 N r d).1
  | 0, b, u0, N, r, d, B, W, hW, h, hg, hB => ⟨hg.mono (by omega), h⟩
  | f + 1, b, u0, N, r, d, B, W, hW, h, hg, hB => by
    by_cases q : b = true ∧ u0 < n
    · obtain ⟨rfl, hlt⟩ := q
      rw [caF_y hlt]
      have hle := rdO_le (T := T) (N := N) (Nat.le_of_lt hlt)
      by_cases q1 : (rdO T n u0 N).1 = true
      · have h3 := hle.2.2 q1
        have eo : orO T n u0 N r = opO r (sgn T n u0) (rdO T n u0 N).2.2 := if_pos q1
        rw [eo]
        have hv := Iv_op h (sgn T n u0) (rdO T n u0 N).2.2
        have hq := GC_op h hg (by omega) (sgn T n u0) (rdO T n u0 N).2.2
        generalize opO r (sgn T n u0) (rdO T n u0 N).2.2 = O at hv hq ⊢
        clear eo hle
        generalize (rdO T n u0 N).2.1 = u1 at h3 ⊢
        generalize (rdO T n u0 N).2.2 = N1
        obtain ⟨W1, rfl⟩ : ∃ W1, W = W1 + 1 := ⟨W - 1, by omega⟩
        obtain ⟨g1, g2⟩ := GC_ca (T := T) (n := n) f (decide (0 ≤ O.1)) (u1 + 1) N1 O.2 (d + (if 0 ≤ O.1 then 1 else 0)) (B + 100790) W1 (by omega) hv hq (by omega)
        exact ⟨g1.mono (by omega), g2⟩
      · have eo : orO T n u0 N r = (-3, r) := if_neg q1
        rw [eo, decide_eq_false (show ¬ (0 : Int32) ≤ -3 by decide), caF_n (fun z => by cases z.1)]
        exact ⟨hg.mono (by omega), h⟩
    · rw [caF_n q]
      exact ⟨hg.mono (by omega), h⟩
/-- a row after c calls -/
def Good (c : Nat) (r : Nat → Int32) : Prop := Iv r ∧ GC (4100000 * (c : Int)) r
theorem Iv.ext {r r2 : Nat → Int32} (h : Iv r) (e : ∀ k, k < 82 → r k = r2 k) : Iv r2 := by
  have hn : nlv r2 = nlv r := by unfold nlv; rw [e 5 (by omega)]
  have hn5 := h.1.nl5
  obtain ⟨h1, h2, h3, h4, h5, h6⟩ := h
  refine ⟨?_, by rw [← e 2 (by omega)]; exact h2, by rw [← e 0 (by omega)]; exact h3, fun t ht => ?_, fun i hi => ?_, ?_⟩
  · unfold WF
    rw [← e 5 (by omega), ← e 1 (by omega), ← e 2 (by omega)]
    exact h1
  · unfold BdR
    rw [← e _ (by omega), ← e _ (by omega)]
    exact h4 t ht
  · obtain ⟨b1, b2, b3, b4, b5, b6⟩ := h5 i hi
    unfold LfR
    rw [← e _ (by omega), ← e (12 + 14 * i + 11) (by omega), ← e (12 + 14 * i + 12) (by omega), ← e (12 + 14 * i + 13) (by omega), ← e 2 (by omega)]
    exact ⟨b1, fun k hk => by rw [← e _ (by omega)]; exact b2 k hk, fun k hk => by rw [← e _ (by omega)]; exact b3 k hk, b4, b5, b6⟩
  · rw [hn]
    rw [sn_ext (g := sv r) _ (fun i hi => by unfold sv; rw [e _ (by omega)])]
    exact h6
theorem Good.ext {c : Nat} {r r2 : Nat → Int32} (h : Good c r) (e : ∀ k, k < 82 → r k = r2 k) : Good c r2 := ⟨h.1.ext e, h.2.same (e 3 (by omega)).symm (e 4 (by omega)).symm⟩
theorem Good.s {c : Nat} {r : Nat → Int32} (h : Good c r) : Good (c + 1) r := ⟨h.1, h.2.mono (by omega)⟩
theorem Good.op {c : Nat} {r : Nat → Int32} (h : Good c r) {r2 : Nat → Int32} (hv : Iv r2) (e : r2 3 = r 3 ∧ r2 4 = r 4) : Good (c + 1) r2 := ⟨hv, (h.2.same e.1 e.2).mono (by omega)⟩
theorem Good.mx {c : Nat} {r : Nat → Int32} (h : Good c r) (hc : c < 512) (g : Int32) : Good (c + 1) (mxO r g).2 := ⟨Iv_mx h.1 g, (GC_mx h.1 h.2 (by omega) g).mono (by omega)⟩
theorem Good.ca {c : Nat} {r : Nat → Int32} (h : Good c r) (hc : c < 512) {T : Nat → Int32} {n : Nat} (hn : n ≤ 80) : Good (c + 1) (cR T n 81 0 r 0).1 := by
  obtain ⟨g1, g2⟩ := GC_ca (T := T) (n := n) 81 true 0 (fun _ => 0) r 0 (4100000 * (c : Int)) 40 (by omega) h.1 h.2 (by omega)
  exact ⟨g2, g1.mono (by omega)⟩
theorem Good_rI : Good 0 rI := by
  have hv : Iv rI := by
    refine ⟨by unfold WF; decide, by decide, by decide, fun t ht => ?_, fun i hi => ?_, by decide⟩
    · have h5 : t = 0 ∨ t = 1 ∨ t = 2 := by omega
      rcases h5 with rfl | rfl | rfl <;> (unfold BdR; decide)
    · unfold LfR
      have e : ∀ k, k < 14 → rI (12 + 14 * i + k) = 0 := fun k hk => rI_lf hk
      rw [e 0 (by omega), e 11 (by omega), e 12 (by omega), e 13 (by omega)]
      refine ⟨by decide, fun k hk => ?_, fun k hk => ?_, by decide, by decide, by decide⟩
      · rw [e (1 + k) (by omega)]; decide
      · rw [e (8 + k) (by omega)]; decide
  exact ⟨hv, by unfold GC; decide⟩
