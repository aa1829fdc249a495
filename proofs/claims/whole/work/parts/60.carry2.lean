/-! reading does not lean on the numbers that were there before; carrying out as the class does it -/
theorem rdP_ind {T : Nat → Int32} {n : Nat} : ∀ (ys : List Int32) (u0 j : Nat) (N N2 : Nat → Int32), (rdP T n ys u0 j N).1 = (rdP T n ys u0 j N2).1 ∧ (rdP T n ys u0 j N).2.1 = (rdP T n ys u0 j N2).2.1 ∧ ((∀ k, k < j → N k = N2 k) → (rdP T n ys u0 j N).1 = true → ∀ k, k < j + ys.countP (fun y => y == 35 || y == 37) → (rdP T n ys u0 j N).2.2 k = (rdP T n ys u0 j N2).2.2 k)
  | [], u0, j, N, N2 => ⟨rfl, rfl, fun h _ k hk => h k hk⟩
  | y :: ys, u0, j, N, N2 => by
    have hup : ∀ v : Int32, (∀ k, k < j → N k = N2 k) → ∀ k, k < j + 1 → upd N j v k = upd N2 j v k := fun v h k hk => by
      unfold upd
      by_cases q : k = j
      · rw [if_pos q, if_pos q]
      · rw [if_neg q, if_neg q]; exact h k (by omega)
    by_cases q1 : y = 35
    · subst q1
      by_cases q : isD T n u0
      · rw [rdP_ny q, rdP_ny q]
        obtain ⟨b1, b2, b3⟩ := rdP_ind (T := T) (n := n) ys (nmF T n 3 (dg T u0) (u0 + 1)).2 (j + 1) (upd N j (nI (nmF T n 3 (dg T u0) (u0 + 1)).1)) (upd N2 j (nI (nmF T n 3 (dg T u0) (u0 + 1)).1))
        refine ⟨b1, b2, fun h ht k hk => b3 (hup _ h) ht k ?_⟩
        rw [List.countP_cons, if_pos (by decide)] at hk
        omega
      · rw [rdP_nn q, rdP_nn q]
        exact ⟨rfl, rfl, fun _ ht => by cases ht⟩
    · by_cases q2 : y = 37
      · subst q2
        by_cases q : isD T n u0
        · rw [rdP_dy q, rdP_dy q]
          obtain ⟨b1, b2, b3⟩ := rdP_ind (T := T) (n := n) ys (u0 + 1) (j + 1) (upd N j (nI (dg T u0))) (upd N2 j (nI (dg T u0)))
          refine ⟨b1, b2, fun h ht k hk => b3 (hup _ h) ht k ?_⟩
          rw [List.countP_cons, if_pos (by decide)] at hk
          omega
        · rw [rdP_dn q, rdP_dn q]
          exact ⟨rfl, rfl, fun _ ht => by cases ht⟩
      · by_cases q : u0 < n ∧ T u0 = y
        · rw [rdP_sy q1 q2 q, rdP_sy q1 q2 q]
          obtain ⟨b1, b2, b3⟩ := rdP_ind (T := T) (n := n) ys (u0 + 1) j N N2
          refine ⟨b1, b2, fun h ht k hk => b3 h ht k ?_⟩
          rw [List.countP_cons, if_neg (by simp [q1, q2])] at hk
          omega
        · rw [rdP_sn q1 q2 q, rdP_sn q1 q2 q]
          exact ⟨rfl, rfl, fun _ ht => by cases ht⟩
theorem rdO_ind {T : Nat → Int32} {n u0 : Nat} {N N2 : Nat → Int32} : (rdO T n u0 N).1 = (rdO T n u0 N2).1 ∧ (rdO T n u0 N).2.1 = (rdO T n u0 N2).2.1 := by
  rw [rdO_fr, rdO_fr]
  by_cases q : frS (sgn T n u0) = 3
  · rw [if_pos q, if_pos q]
    exact ⟨rfl, rfl⟩
  · rw [if_neg q, if_neg q]
    obtain ⟨b1, b2, -⟩ := rdP_ind (T := T) (n := n) (frL (frS (sgn T n u0))) (u0 + 1) 0 N N2
    exact ⟨b1, b2⟩
theorem rdO_kd {T : Nat → Int32} {n u0 : Nat} {N : Nat → Int32} (h : (rdO T n u0 N).1 = true) : sgn T n u0 = 43 ∨ sgn T n u0 = 115 ∨ sgn T n u0 = 100 ∨ sgn T n u0 = 109 := by
  unfold rdO at h
  by_cases q1 : sgn T n u0 = 43
  · exact Or.inl q1
  · rw [if_neg q1] at h
    by_cases q2 : sgn T n u0 = 115
    · exact Or.inr (Or.inl q2)
    · rw [if_neg q2] at h
      by_cases q3 : sgn T n u0 = 100 ∨ sgn T n u0 = 109
      · exact Or.inr (Or.inr q3)
      · rw [if_neg q3] at h
        cases h
theorem rdO_lt {T : Nat → Int32} {n u0 : Nat} {N : Nat → Int32} (h : (rdO T n u0 N).1 = true) : u0 < n := by
  rcases rdO_kd h with q | q | q | q
  · exact sgn_y (by decide) q
  · exact sgn_y (by decide) q
  · exact sgn_y (by decide) q
  · exact sgn_y (by decide) q
theorem orO_ind {T : Nat → Int32} {n u0 : Nat} {N N2 r : Nat → Int32} : orO T n u0 N r = orO T n u0 N2 r := by
  have hi := rdO_ind (T := T) (n := n) (u0 := u0) (N := N) (N2 := N2)
  unfold orO
  by_cases q : (rdO T n u0 N).1 = true
  · have q' : (rdO T n u0 N2).1 = true := hi.1.symm.trans q
    rw [if_pos q, if_pos q']
    have q3 : ¬ frS (sgn T n u0) = 3 := fun w => by
      rw [rdO_fr, if_pos w] at q
      cases q
    have e1 : rdO T n u0 N = rdP T n (frL (frS (sgn T n u0))) (u0 + 1) 0 N := by rw [rdO_fr, if_neg q3]
    have e2 : rdO T n u0 N2 = rdP T n (frL (frS (sgn T n u0))) (u0 + 1) 0 N2 := by rw [rdO_fr, if_neg q3]
    rw [e1] at q
    have hp := (rdP_ind (T := T) (n := n) (frL (frS (sgn T n u0))) (u0 + 1) 0 N N2).2.2 (fun k hk => absurd hk (Nat.not_lt_zero _)) q
    rw [e1, e2]
    obtain ⟨A, hA⟩ : ∃ z1, z1 = (rdP T n (frL (frS (sgn T n u0))) (u0 + 1) 0 N).2.2 := ⟨_, rfl⟩
    obtain ⟨B, hB⟩ : ∃ z1, z1 = (rdP T n (frL (frS (sgn T n u0))) (u0 + 1) 0 N2).2.2 := ⟨_, rfl⟩
    rw [← hA, ← hB] at hp
    rw [← hA, ← hB]
    rcases rdO_kd (e1 ▸ q : (rdO T n u0 N).1 = true) with w | w | w | w
    · rw [w] at hp ⊢
      have hp : ∀ k, k < 5 → A k = B k := hp
      unfold opO
      rw [if_pos rfl, if_pos rfl, hp 0 (by omega), hp 1 (by omega), hp 2 (by omega), hp 3 (by omega), hp 4 (by omega)]
    · rw [w] at hp ⊢
      have hp : ∀ k, k < 2 → A k = B k := hp
      unfold opO
      rw [if_neg (by decide), if_pos rfl, if_neg (by decide), if_pos rfl, hp 0 (by omega), hp 1 (by omega)]
    · rw [w] at hp ⊢
      have hp : ∀ k, k < 1 → A k = B k := hp
      unfold opO
      rw [if_neg (by decide), if_neg (by decide), if_pos rfl, if_neg (by decide), if_neg (by decide), if_pos rfl, hp 0 (by omega)]
    · rw [w] at hp ⊢
      have hp : ∀ k, k < 1 → A k = B k := hp
      unfold opO
      rw [if_neg (by decide), if_neg (by decide), if_neg (by decide), if_neg (by decide), if_neg (by decide), if_neg (by decide), hp 0 (by omega)]
  · have q' : ¬ (rdO T n u0 N2).1 = true := fun w => q (hi.1.trans w)
    rw [if_neg q, if_neg q']
theorem wl_ind {T : Nat → Int32} {n : Nat} : ∀ (f : Nat) (b : Bool) (u0 : Nat) (N N2 : Nat → Int32), (wl T n f b u0 N).1 = (wl T n f b u0 N2).1 ∧ (wl T n f b u0 N).2.1 = (wl T n f b u0 N2).2.1
  | 0, b, u0, N, N2 => ⟨rfl, rfl⟩
  | f + 1, b, u0, N, N2 => by
    by_cases q : b = true ∧ u0 < n
    · obtain ⟨rfl, hlt⟩ := q
      by_cases q2 : T u0 = 59
      · rw [wl_y hlt q2, wl_y hlt q2]
        obtain ⟨e1, e2⟩ := rdO_ind (T := T) (n := n) (u0 := u0 + 1) (N := N) (N2 := N2)
        rw [e1, e2]
        exact wl_ind f _ _ _ _
      · rw [wl_n hlt q2, wl_n hlt q2]
        exact ⟨rfl, rfl⟩
    · rw [wl_end q, wl_end q]
      exact ⟨rfl, rfl⟩
theorem wlA_ind {T : Nat → Int32} {n : Nat} {N N2 : Nat → Int32} : (wlA T n N).1 = (wlA T n N2).1 ∧ (wlA T n N).2.1 = (wlA T n N2).2.1 := by
  obtain ⟨e1, e2⟩ := rdO_ind (T := T) (n := n) (u0 := 0) (N := N) (N2 := N2)
  unfold wlA
  rw [e1, e2]
  exact wl_ind 81 _ _ _ _
theorem caF_ind {T : Nat → Int32} {n : Nat} : ∀ (f : Nat) (b : Bool) (u0 : Nat) (N N2 r : Nat → Int32) (d : Nat), (caF T n f b u0 N r d).1 = (caF T n f b u0 N2 r d).1 ∧ (caF T n f b u0 N r d).2.2 = (caF T n f b u0 N2 r d).2.2
  | 0, b, u0, N, N2, r, d => ⟨rfl, rfl⟩
  | f + 1, b, u0, N, N2, r, d => by
    by_cases q : b = true ∧ u0 < n
    · obtain ⟨rfl, hlt⟩ := q
      rw [caF_y hlt, caF_y hlt, orO_ind (N := N) (N2 := N2), (rdO_ind (T := T) (n := n) (u0 := u0) (N := N) (N2 := N2)).2]
      exact caF_ind f _ _ _ _ _ _
    · rw [caF_n q, caF_n q]
      exact ⟨rfl, rfl⟩
/-- one turn of the class's loop, seen from a reader at u0: the text is well from there on -/
def wlP (T : Nat → Int32) (n d u0 : Nat) : Prop := (d = 0 ∧ u0 = 0 ∧ ∀ N, (wlA T n N).1 = true) ∨ (1 ≤ d ∧ d ≤ u0 ∧ u0 ≤ n ∧ ∀ N, (wl T n (82 - d) true u0 N).1 = true)
theorem wlP_rd {T : Nat → Int32} {n d u0 : Nat} (h : wlP T n d u0) (hd : d ≤ 80) (h2 : u0 = 0 ∨ sgn T n u0 = 59) (N : Nat → Int32) : (rdO T n (stP u0) N).1 = true ∧ wlP T n (d + 1) (rdO T n (stP u0) N).2.1 := by
  have key : (rdO T n (stP u0) N).1 = true ∧ ∀ N2, (wl T n (81 - d) true (rdO T n (stP u0) N).2.1 N2).1 = true := by
    rcases h with ⟨a1, a2, a3⟩ | ⟨a1, a2, a4, a3⟩
    · subst a1 a2
      have hb : (rdO T n 0 N).1 = true := by
        have h9 := a3 N
        unfold wlA at h9
        cases hq : (rdO T n 0 N).1 with
        | true => rfl
        | false => rw [hq, wl_end (by simp)] at h9; cases h9
      refine ⟨hb, fun N2 => ?_⟩
      have h9 := a3 N
      unfold wlA at h9
      rw [hb, (wl_ind 81 true _ _ N2).1] at h9
      exact h9
    · have q0 : ¬ u0 = 0 := by omega
      have hs := h2.resolve_left q0
      obtain ⟨qlt, q59⟩ := (sgn_eq (by decide)).mp hs
      have e0 : stP u0 = u0 + 1 := if_neg q0
      rw [e0]
      have hb : (rdO T n (u0 + 1) N).1 = true := by
        have h9 := a3 N
        rw [show 82 - d = (81 - d) + 1 by omega, wl_y qlt q59] at h9
        cases hq : (rdO T n (u0 + 1) N).1 with
        | true => rfl
        | false => rw [hq, wl_end (by simp)] at h9; cases h9
      refine ⟨hb, fun N2 => ?_⟩
      have h9 := a3 N
      rw [show 82 - d = (81 - d) + 1 by omega, wl_y qlt q59, hb, (wl_ind (81 - d) true _ _ N2).1] at h9
      exact h9
  have hle := rdO_le (T := T) (N := N) (n := n) (u0 := stP u0) (by have := rdO_lt key.1; omega)
  have h3 := hle.2.2 key.1
  have h4 : d ≤ stP u0 := by
    unfold stP
    rcases h with ⟨a1, a2, -⟩ | ⟨a1, a2, -, -⟩
    · omega
    · rw [if_neg (by omega)]; omega
  exact ⟨key.1, Or.inr ⟨by omega, by omega, hle.2.1, fun N2 => by rw [show 82 - (d + 1) = 81 - d by omega]; exact key.2 N2⟩⟩
/-- no order begins here: the text ends -/
theorem wlP_end {T : Nat → Int32} {n d u0 : Nat} (h : wlP T n d u0) (hd : d ≤ 80) (h0 : 0 < u0) (h2 : ¬ sgn T n u0 = 59) : u0 = n := by
  rcases h with ⟨a1, a2, a3⟩ | ⟨a1, a2, a4, a3⟩
  · omega
  · by_cases q : u0 < n
    · exfalso
      have h9 := a3 (fun _ => 0)
      rw [show 82 - d = (81 - d) + 1 by omega, wl_n q (fun w => h2 ((sgn_in q).trans w))] at h9
      cases h9
    · omega
