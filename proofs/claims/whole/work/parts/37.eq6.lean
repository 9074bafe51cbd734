/-! span and stair length -/
theorem mo_r1_at {h : Int → Int} {i : Int} (h0 : 0 ≤ i) : (0 ≤ mo_r1 h i ∧ mo_r1 h i ≤ i ∧ ∀ j, mo_r1 h i ≤ j → j < i → h i ≤ h j) ∧ ¬ mo_r1P h i (mo_r1 h i) := by
  unfold mo_r1
  exact hs_wh_end (P := mo_r1P h i) (f := fun x => x + (-1)) (fun x => 0 ≤ x ∧ x ≤ i ∧ ∀ j, x ≤ j → j < i → h i ≤ h j) (fun x => x) (fun x hx hP => by
    obtain ⟨x1, x2, x3⟩ := hx
    obtain ⟨p1, p2⟩ := hP
    (try dsimp only)
    refine ⟨⟨by omega, by omega, fun j q1 q2 => ?_⟩, by omega, by omega⟩
    by_cases hj : j = x - 1
    · rw [hj]; exact p2
    · exact x3 j (by omega) q2) _ i ⟨h0, Int.le_refl i, fun j q1 q2 => by omega⟩ (by (try dsimp only); omega) h0
theorem mo_r2_at {h : Int → Int} {i : Int} (h0 : i ≤ h 40 - 1) : (i ≤ mo_r2 h i ∧ mo_r2 h i ≤ h 40 - 1 ∧ ∀ j, i < j → j ≤ mo_r2 h i → h i ≤ h j) ∧ ¬ mo_r2P h i (mo_r2 h i) := by
  unfold mo_r2
  exact hs_wh_end (P := mo_r2P h i) (f := fun x => x + 1) (fun x => i ≤ x ∧ x ≤ h 40 - 1 ∧ ∀ j, i < j → j ≤ x → h i ≤ h j) (fun x => h 40 - x) (fun x hx hP => by
    obtain ⟨x1, x2, x3⟩ := hx
    obtain ⟨p1, p2⟩ := hP
    (try dsimp only)
    refine ⟨⟨by omega, by omega, fun j q1 q2 => ?_⟩, by omega, by omega⟩
    by_cases hj : j = x + 1
    · rw [hj]; exact p2
    · exact x3 j q1 (by omega)) _ i ⟨Int.le_refl i, h0, fun j q1 q2 => by omega⟩ (by (try dsimp only); omega) (by (try dsimp only); omega)
theorem eq_span {n i : Int} {g h : Int → Int} (r7 : h 40 = n) (r8 : ∀ k, 0 ≤ k → k < n → h k = g k) (h1 : 0 ≤ i) (h2 : i < n) : mo_r2 h i - mo_r1 h i + 1 = pu_span g n i := by
  obtain ⟨⟨a1, a2, a3⟩, a4⟩ := mo_r1_at (h := h) h1
  obtain ⟨⟨b1, b2, b3⟩, b4⟩ := mo_r2_at (h := h) (i := i) (by omega)
  unfold pu_span
  rw [← pu_sl_congr r8 h1 h2, ← pu_sr_congr r8 h1 h2]
  unfold mo_r1P at a4
  unfold mo_r2P at b4
  generalize mo_r1 h i = x at a1 a2 a3 a4 ⊢
  generalize mo_r2 h i = y at b1 b2 b3 b4 ⊢
  have ex : (if pu_sl h i = -9 then 0 else pu_sl h i + 1) = x := by
    unfold pu_sl
    by_cases hx : x = 0
    · rw [hs_fd1_no (fun k q1 q2 => by have := a3 k (by omega) (by omega); omega), if_pos rfl, hx]
    · rw [hs_fd1_is (j := x - 1) (by omega) (by omega) (by omega) (fun k q1 q2 => by have := a3 k (by omega) (by omega); omega), if_neg (by omega)]; omega
  have ey : (if pu_sr h n i = -9 then n - 1 else pu_sr h n i - 1) = y := by
    unfold pu_sr
    by_cases hy : y = n - 1
    · rw [hs_fu1_no (fun k q1 q2 => by have := b3 k (by omega) (by omega); omega), if_pos rfl, hy]
    · rw [hs_fu1_is (j := y + 1) (by omega) (by omega) (by omega) (fun k q1 q2 => by have := b3 k (by omega) (by omega); omega), if_neg (by omega)]; omega
  rw [ex, ey]
theorem eq_stl {n : Int} {g h : Int → Int} (r8 : ∀ k, 0 ≤ k → k < n → h k = g k) : ∀ (K : Nat) (M : Nat) (j c x : Int), (j + 1).toNat ≤ K → x + 1 ≤ (M : Int) → -1 ≤ j → j < x → x < n → (∀ k, j < k → k < x → ¬ g k < g x) → (hs_dn (fun j (x : Int × Int) => if g j < g x.1 then (j, x.2 + 1) else x) j 0 (x, c + 1)).2 = (hs_wh mo_slP (mo_slF h) M (x, c)).2 := by
  intro K
  induction K with
  | zero =>
    intro M j c x h1 h2 h3 h4 h5 hv
    obtain ⟨M', rfl⟩ : ∃ M', M = M' + 1 := ⟨M - 1, by omega⟩
    rw [hs_dn_done (by omega), hs_wh_step (P := mo_slP) (show mo_slP (x, c) from fun z => by dsimp only at z; omega)]
    have e2 : pu_sl h x = -9 := by
      rw [pu_sl_congr r8 (by omega) h5]
      unfold pu_sl
      exact hs_fd1_no (fun k q1 q2 => hv k (by omega) (by omega))
    have e3 : mo_slF h (x, c) = (-9, c + 1) := by unfold mo_slF; (try dsimp only); rw [e2]
    rw [e3, hs_wh_done (P := mo_slP) (show ¬ mo_slP (-9, c + 1) from fun z => z rfl)]
  | succ K ih =>
    intro M j c x h1 h2 h3 h4 h5 hv
    by_cases hj : 0 ≤ j
    · rw [hs_dn_step hj]
      (try dsimp only)
      by_cases hg : g j < g x
      · obtain ⟨M', rfl⟩ : ∃ M', M = M' + 1 := ⟨M - 1, by omega⟩
        have e2 : pu_sl h x = j := by
          rw [pu_sl_congr r8 (by omega) h5]
          unfold pu_sl
          exact hs_fd1_is hj (by omega) hg (fun k q1 q2 => hv k q1 (by omega))
        have e3 : mo_slF h (x, c) = (j, c + 1) := by unfold mo_slF; (try dsimp only); rw [e2]
        rw [if_pos hg, hs_wh_step (P := mo_slP) (show mo_slP (x, c) from fun z => by dsimp only at z; omega), e3]
        exact ih M' (j + (-1)) (c + 1) j (by omega) (by omega) (by omega) (by omega) (by omega) (fun k q1 q2 => by omega)
      · rw [if_neg hg]
        exact ih M (j + (-1)) c x (by omega) h2 (by omega) (by omega) h5 (fun k q1 q2 => by
          by_cases hk : k = j
          · rw [hk]; exact hg
          · exact hv k (by omega) q2)
    · obtain ⟨M', rfl⟩ : ∃ M', M = M' + 1 := ⟨M - 1, by omega⟩
      rw [hs_dn_done (by omega), hs_wh_step (P := mo_slP) (show mo_slP (x, c) from fun z => by dsimp only at z; omega)]
      have e2 : pu_sl h x = -9 := by
        rw [pu_sl_congr r8 (by omega) h5]
        unfold pu_sl
        exact hs_fd1_no (fun k q1 q2 => hv k (by omega) (by omega))
      have e3 : mo_slF h (x, c) = (-9, c + 1) := by unfold mo_slF; (try dsimp only); rw [e2]
      rw [e3, hs_wh_done (P := mo_slP) (show ¬ mo_slP (-9, c + 1) from fun z => z rfl)]
/-! the tree: the interval [a, b] below a column i, its parent, the stack -/
def tp (g : Int → Int) (n a b : Int) : Int := if b + 1 < n ∧ (a = 0 ∨ g (a - 1) ≤ g (b + 1)) then b + 1 else if a = 0 then -9 else a - 1
def iv (g : Int → Int) (n a b i : Int) : Prop := (0 ≤ a ∧ a ≤ i ∧ i ≤ b ∧ b < n) ∧ (∀ j, a ≤ j → j < i → g i < g j) ∧ (∀ j, i < j → j ≤ b → g i ≤ g j) ∧ (a = 0 ∨ g (a - 1) ≤ g i) ∧ (b + 1 = n ∨ g (b + 1) < g i)
/-- the stack behind k columns: top, parents, places -/
def stk (g : Int → Int) (k : Int) (x : Int × (Int → Int) × (Int → Int)) : Prop :=
  (0 ≤ x.1 ∧ (k = 0 → x.1 = 0) ∧ (0 < k → 0 < x.1 ∧ x.2.2 (x.1 - 1) = k - 1)) ∧
  (∀ t, 0 ≤ t → t < x.1 → 0 ≤ x.2.2 t ∧ x.2.2 t < k) ∧
  (∀ t t', 0 ≤ t → t < t' → t' < x.1 → x.2.2 t < x.2.2 t') ∧
  (∀ t j, 0 ≤ t → t < x.1 → x.2.2 t < j → j < k → g (x.2.2 t) ≤ g j) ∧
  (∀ t j, 0 ≤ t → t < x.1 → 0 ≤ j → (t = 0 ∨ x.2.2 (t - 1) < j) → j < x.2.2 t → g (x.2.2 t) < g j) ∧
  (∀ i a b, iv g k a b i → x.2.1 i = tp g k a b)
theorem pu_gw_at {g S : Int → Int} {i n : Int} (hn : 0 ≤ n) : (0 ≤ (pu_gw g S i n).1 ∧ (pu_gw g S i n).1 ≤ n) ∧ (∀ t, (pu_gw g S i n).1 ≤ t → t < n → g i < g (S t)) ∧ ((pu_gw g S i n).1 = 0 ∨ g (S ((pu_gw g S i n).1 - 1)) ≤ g i) ∧ (pu_gw g S i n).2 = if (pu_gw g S i n).1 = n then -9 else S (pu_gw g S i n).1 := by
  unfold pu_gw
  have key := hs_wh_end (P := pu_gwP g S i) (f := pu_gwF S) (fun x => (0 ≤ x.1 ∧ x.1 ≤ n) ∧ (∀ t, x.1 ≤ t → t < n → g i < g (S t)) ∧ x.2 = if x.1 = n then -9 else S x.1) (fun x => x.1) (fun x hx hP => by
    obtain ⟨x1, x2, x3⟩ := hx
    obtain ⟨p1, p2⟩ := hP
    unfold pu_gwF
    (try dsimp only)
    refine ⟨⟨by omega, fun t q1 q2 => ?_, ?_⟩, by omega, by omega⟩
    · by_cases ht : t = x.1 - 1
      · rw [ht]; exact p2
      · exact x2 t (by omega) q2
    · rw [if_neg (by omega)]) (n.toNat + 1) (n, -9) ⟨⟨hn, Int.le_refl n⟩, fun t q1 q2 => by dsimp only at q1; omega, by rw [if_pos rfl]⟩ (by (try dsimp only); omega) hn
  obtain ⟨⟨k1, k2, k3⟩, k4⟩ := key
  generalize hs_wh (pu_gwP g S i) (pu_gwF S) (n.toNat + 1) (n, -9) = z at k1 k2 k3 k4 ⊢
  refine ⟨k1, k2, ?_, k3⟩
  by_cases hz : z.1 = 0
  · exact Or.inl hz
  · refine Or.inr ?_
    unfold pu_gwP at k4
    have : ¬ g i < g (S (z.1 - 1)) := fun q => k4 ⟨by omega, q⟩
    omega
/-- each column behind which the stack isn't at its end lies under a place of the stack -/
theorem stk_at {S : Int → Int} {j : Int} : ∀ (T : Nat), j ≤ S (T : Int) → ∃ t : Int, 0 ≤ t ∧ t ≤ (T : Int) ∧ j ≤ S t ∧ (t = 0 ∨ S (t - 1) < j) := by
  intro T
  induction T with
  | zero => intro h; exact ⟨0, by omega, by omega, h, Or.inl rfl⟩
  | succ T ih =>
    intro h
    by_cases hT : j ≤ S (T : Int)
    · obtain ⟨t, t1, t2, t3, t4⟩ := ih hT
      exact ⟨t, t1, by omega, t3, t4⟩
    · exact ⟨((T + 1 : Nat) : Int), by omega, by omega, h, Or.inr (by rw [show ((T + 1 : Nat) : Int) - 1 = (T : Int) by omega]; omega)⟩
theorem stk_at' {S : Int → Int} {j T : Int} (hT : 0 ≤ T) (h : j ≤ S T) : ∃ t : Int, 0 ≤ t ∧ t ≤ T ∧ j ≤ S t ∧ (t = 0 ∨ S (t - 1) < j) := by
  obtain ⟨t, t1, t2, t3, t4⟩ := stk_at (S := S) (j := j) T.toNat (by rw [show ((T.toNat : Nat) : Int) = T by omega]; exact h)
  exact ⟨t, t1, by omega, t3, t4⟩
theorem stk_step {g : Int → Int} {k : Int} {x : Int × (Int → Int) × (Int → Int)} (hk : 0 ≤ k) (hx : stk g k x) : stk g (k + 1) (pu_gs g k x) := by
  obtain ⟨top, P, S⟩ := x
  obtain ⟨⟨x1, x2, x3⟩, x4, x5, x6, x7, x8⟩ := hx
  dsimp only at x1 x2 x3 x4 x5 x6 x7 x8
  obtain ⟨w1, w2, w3, w4⟩ := pu_gw_at (g := g) (S := S) (i := k) x1
  unfold pu_gs
  dsimp only
  generalize hT : (pu_gw g S k top).1 = T at w1 w2 w3 w4 ⊢
  generalize hL : (pu_gw g S k top).2 = last at w4 ⊢
  -- all columns behind the place below are higher
  have hi : ∀ j, 0 ≤ j → (T = 0 ∨ S (T - 1) < j) → j < k → g k < g j := by
    intro j j0 j1 j2
    have k1 := x3 (by omega)
    obtain ⟨t, t1, t2, t3, t4⟩ := stk_at' (S := S) (j := j) (T := top - 1) (by omega) (by omega)
    have tT : T ≤ t := by
      rcases (show t < T ∨ T ≤ t by omega) with q | q
      · exfalso
        rcases j1 with j1 | j1
        · omega
        · by_cases e : t = T - 1
          · rw [e] at t3; omega
          · have := x5 t (T - 1) t1 (by omega) (by omega); omega
      · exact q
    have hp := w2 t tT (by omega)
    by_cases e : j = S t
    · rw [e]; exact hp
    · have := x7 t j t1 (by omega) j0 t4 (by omega); omega
  have hS : ∀ t, t < T → hs_u S T k t = S t := fun t ht => hs_u_ne (by omega)
  have hST : hs_u S T k T = k := hs_u_self _ _ _
  refine ⟨⟨by omega, fun q => by omega, fun q => ⟨by omega, by show hs_u S T k (T + 1 - 1) = k + 1 - 1; rw [show T + 1 - 1 = T by omega, hST]; omega⟩⟩, ?_, ?_, ?_, ?_, ?_⟩
  · intro t t0 t1
    (try dsimp only)
    by_cases e : t = T
    · rw [e, hST]; omega
    · rw [hS t (by omega)]; have := x4 t t0 (by omega); omega
  · intro t t' t0 t1 t2
    (try dsimp only)
    rw [hS t (by omega)]
    by_cases e : t' = T
    · rw [e, hST]; have := x4 t t0 (by omega); omega
    · rw [hS t' (by omega)]; exact x5 t t' t0 t1 (by omega)
  · intro t j t0 t1 t2 t3
    (try dsimp only at t2 ⊢)
    by_cases e : t = T
    · rw [e, hST] at t2; omega
    · rw [hS t (by omega)] at t2 ⊢
      by_cases ej : j = k
      · rw [ej]
        rcases w3 with w3 | w3
        · omega
        · by_cases e2 : t = T - 1
          · rw [e2]; exact w3
          · have q1 := x5 t (T - 1) t0 (by omega) (by omega)
            have q2 := x6 t (S (T - 1)) t0 (by omega) q1 (x4 (T - 1) (by omega) (by omega)).2
            omega
      · exact x6 t j t0 (by omega) t2 (by omega)
  · intro t j t0 t1 j0 t2 t3
    (try dsimp only at t2 t3 ⊢)
    by_cases e : t = T
    · rw [e, hST] at t3 ⊢
      refine hi j j0 ?_ t3
      rcases t2 with t2 | t2
      · exact Or.inl (by omega)
      · rw [e, hS (T - 1) (by omega)] at t2; exact Or.inr t2
    · rw [hS t (by omega)] at t3 ⊢
      refine x7 t j t0 (by omega) j0 ?_ t3
      rcases t2 with t2 | t2
      · exact Or.inl t2
      · rw [hS (t - 1) (by omega)] at t2; exact Or.inr t2
  · intro i a b hv
    obtain ⟨⟨v1, v2, v3, v4⟩, v5, v6, v7, v8⟩ := hv
    (try dsimp only)
    by_cases ik : i = k
    · subst ik
      rw [hs_u_self]
      unfold tp
      rw [if_neg (show ¬ (b + 1 < i + 1 ∧ (a = 0 ∨ g (a - 1) ≤ g (b + 1))) by omega)]
      by_cases hT0 : 0 < T
      · rw [if_pos hT0]
        have q1 := x4 (T - 1) (by omega) (by omega)
        have q2 : S (T - 1) < a := by
          rcases (show (S (T - 1)) < a ∨ a ≤ (S (T - 1)) by omega) with q | q
          · exact q
          · have := v5 (S (T - 1)) q q1.2
            rcases w3 with w3 | w3 <;> omega
        rw [if_neg (by omega)]
        rcases v7 with v7 | v7
        · omega
        · rcases (show (S (T - 1)) < (a - 1) ∨ (a - 1) ≤ (S (T - 1)) by omega) with q | q
          · have := hi (a - 1) (by omega) (Or.inr q) (by omega); omega
          · omega
      · rw [if_neg hT0]
        by_cases ha : a = 0
        · rw [if_pos ha]
        · rcases v7 with v7 | v7
          · omega
          · have := hi (a - 1) (by omega) (Or.inl (by omega)) (by omega); omega
    · rw [hs_u_ne ik]
      have hne : g i ≤ g k → last ≠ -9 → i ≠ last := by
        intro q1 q2 q3
        by_cases e : T = top
        · rw [if_pos e] at w4; exact q2 w4
        · rw [if_neg e] at w4
          have := w2 T (Int.le_refl T) (by omega)
          rw [q3, w4] at q1; omega
      by_cases bk : b = k
      · have hP := x8 i a (k - 1) ⟨⟨v1, v2, by omega, by omega⟩, v5, fun j q1 q2 => v6 j q1 (by omega), v7, Or.inl (by omega)⟩
        have hgk := v6 k (by omega) (by omega)
        have e1 : (if last = -9 then P else hs_u P last k) i = P i := by
          by_cases e : last = -9
          · rw [if_pos e]
          · rw [if_neg e, hs_u_ne (hne hgk e)]
        rw [e1, hP]
        unfold tp
        rw [if_neg (show ¬ (k - 1 + 1 < k ∧ (a = 0 ∨ g (a - 1) ≤ g (k - 1 + 1))) by omega), if_neg (show ¬ (b + 1 < k + 1 ∧ (a = 0 ∨ g (a - 1) ≤ g (b + 1))) by omega)]
      · have hb : g (b + 1) < g i := by omega
        by_cases bk1 : b + 1 = k
        · have hP := x8 i a b ⟨⟨v1, v2, v3, by omega⟩, v5, v6, v7, Or.inl bk1⟩
          rw [bk1] at hb
          have kp := x3 (by omega)
          obtain ⟨t, t1, t2, t3, t4⟩ := stk_at' (S := S) (j := i) (T := top - 1) (by omega) (by omega)
          have rt := x4 t t1 (by omega)
          have it : i = S t := by
            rcases Int.lt_or_eq_of_le t3 with q | q
            · have q1 := x7 t i t1 (by omega) (by omega) t4 q
              have q2 := v6 (S t) q (by omega)
              omega
            · exact q
          have tT : T ≤ t := by
            rcases (show t < T ∨ T ≤ t by omega) with q | q
            · exfalso
              rcases w3 with w3 | w3
              · omega
              · by_cases e2 : t = T - 1
                · rw [e2] at it; rw [it] at hb; omega
                · have q1 := x5 t (T - 1) t1 (by omega) (by omega)
                  have q2 := x6 t (S (T - 1)) t1 (by omega) q1 (x4 (T - 1) (by omega) (by omega)).2
                  rw [it] at hb; omega
            · exact q
          have hl : last = S T := by rw [w4, if_neg (by omega)]
          have rT := x4 T (by omega) (by omega)
          have hln : ¬ last = -9 := by omega
          rw [if_neg hln]
          -- the place below i on the stack is a - 1
          have hbelow : (t = 0 → a = 0) ∧ (0 < t → a - 1 = S (t - 1)) := by
            constructor
            · intro t0
              rcases v7 with v7 | v7
              · exact v7
              · rcases (show 0 < a ∨ a ≤ 0 by omega) with q | q
                · have := x7 t (a - 1) t1 (by omega) (by omega) (Or.inl t0) (by omega)
                  rw [← it] at this; omega
                · omega
            · intro t0
              have q1 := x4 (t - 1) (by omega) (by omega)
              have q2 := x5 (t - 1) t (by omega) (by omega) (by omega)
              have q3 := x6 (t - 1) (S t) (by omega) (by omega) q2 (by omega)
              have q4 : S (t - 1) < a := by
                rcases (show (S (t - 1)) < a ∨ a ≤ (S (t - 1)) by omega) with q | q
                · exact q
                · have := v5 (S (t - 1)) q (by omega)
                  rw [it] at this; omega
              rcases v7 with v7 | v7
              · omega
              · rcases (show (S (t - 1)) < (a - 1) ∨ (a - 1) ≤ (S (t - 1)) by omega) with q | q
                · have := x7 t (a - 1) t1 (by omega) (by omega) (Or.inr q) (by omega)
                  rw [← it] at this; omega
                · omega
          unfold tp
          by_cases e : t = T
          · rw [show i = last by rw [hl, it, e], hs_u_self]
            have hq9 : b + 1 < k + 1 ∧ (a = 0 ∨ g (a - 1) ≤ g (b + 1)) := by
              refine ⟨by omega, ?_⟩
              by_cases ht : t = 0
              · exact Or.inl (hbelow.1 ht)
              · right
                rw [hbelow.2 (by omega), bk1, e]
                rcases w3 with w3 | w3
                · omega
                · exact w3
            rw [if_pos hq9] <;> omega
          · have q5 := x5 T t (by omega) (by omega) (by omega)
            rw [hs_u_ne (show i ≠ last by omega), hP]
            unfold tp
            have q6 := hbelow.2 (by omega)
            have q7 := w2 (t - 1) (by omega) (by omega)
            have q8 := x4 (t - 1) (by omega) (by omega)
            rw [if_neg (show ¬ (b + 1 < k ∧ (a = 0 ∨ g (a - 1) ≤ g (b + 1))) by omega), if_neg (show ¬ (b + 1 < k + 1 ∧ (a = 0 ∨ g (a - 1) ≤ g (b + 1))) from fun z => by
              rw [q6, bk1] at z
              rcases z.2 with z | z <;> omega)]
        · have hP := x8 i a b ⟨⟨v1, v2, v3, by omega⟩, v5, v6, v7, Or.inr hb⟩
          have e1 : (if last = -9 then P else hs_u P last k) i = P i := by
            by_cases e : last = -9
            · rw [if_pos e]
            · rw [if_neg e]
              refine hs_u_ne (fun q => ?_)
              by_cases e2 : T = top
              · rw [if_pos e2] at w4; exact e w4
              · rw [if_neg e2] at w4
                have := x6 T (b + 1) (by omega) (by omega) (by omega) (by omega)
                rw [← w4, ← q] at this; omega
          rw [e1, hP]
          unfold tp
          by_cases hq : a = 0 ∨ g (a - 1) ≤ g (b + 1)
          · rw [if_pos ⟨by omega, hq⟩, if_pos ⟨by omega, hq⟩]
          · rw [if_neg (show ¬ (b + 1 < k ∧ (a = 0 ∨ g (a - 1) ≤ g (b + 1))) from fun z => hq z.2), if_neg (show ¬ (b + 1 < k + 1 ∧ (a = 0 ∨ g (a - 1) ≤ g (b + 1))) from fun z => hq z.2)]
theorem pu_grow_at {g P S : Int → Int} {n : Int} (hn : 0 ≤ n) : ∀ i a b, iv g n a b i → (pu_grow g n P S).2.1 i = tp g n a b := by
  have := hs_up_inv (f := pu_gs g) (fun k x => stk g k x) (e := n) _ 0 (0, P, S) (Nat.le_refl _) hn ⟨⟨Int.le_refl 0, fun _ => rfl, fun q => by omega⟩, fun t t0 t1 => by dsimp only at t1; omega, fun t t' t0 t1 t2 => by dsimp only at t2; omega, fun t j t0 t1 => by dsimp only at t1; omega, fun t j t0 t1 => by dsimp only at t1; omega, fun i a b hv => by have := hv.1; omega⟩ (fun k x h1 h2 hx => stk_step h1 hx)
  exact this.2.2.2.2.2
/-- a chain of parents -/
def chn (P : Int → Int) : Nat → Int → Prop
  | 0, j => j = -9
  | k + 1, j => j ≠ -9 ∧ chn P k (P j)
theorem pu_dp_at {P : Int → Int} : ∀ (K F : Nat) (c x : Int), chn P K x → c + (K : Int) ≤ 40 → K < F → (hs_wh pu_dpP (pu_dpF P) F (c, x)).1 = c + (K : Int) := by
  intro K
  induction K with
  | zero =>
    intro F c x h1 h2 h3
    have h1 : x = -9 := h1
    rw [hs_wh_done (P := pu_dpP) (show ¬ pu_dpP (c, x) from fun z => z.2 h1)]
    omega
  | succ K ih =>
    intro F c x h1 h2 h3
    obtain ⟨F', rfl⟩ : ∃ F', F = F' + 1 := ⟨F - 1, by omega⟩
    rw [hs_wh_step (P := pu_dpP) (show pu_dpP (c, x) from ⟨by (try dsimp only); omega, h1.1⟩)]
    have e1 : pu_dpF P (c, x) = (c + 1, P x) := rfl
    rw [e1, ih F' (c + 1) (P x) h1.2 (by omega) (by omega)]
    omega
theorem eq_td {n i : Int} {g h P S : Int → Int} (hn : 0 ≤ n ∧ n ≤ 40) (r7 : h 40 = n) (r8 : ∀ k, 0 ≤ k → k < n → h k = g k) (h1 : 0 ≤ i) (h2 : i < n) : (mo_td h i).2.2.2 = (pu_grow g n P S).2.1 i ∧ (mo_td h i).2.2.1 = (pu_dp (pu_grow g n P S).2.1 i).1 := by
  have hG := pu_grow_at (g := g) (P := P) (S := S) hn.1
  generalize (pu_grow g n P S).2.1 = Q at hG ⊢
  have rtI : ∀ a b, 0 ≤ a → a ≤ b → b ≤ n - 1 → (∀ j, a ≤ j → j ≤ b → (a = 0 ∨ g (a - 1) ≤ g j)) → (∀ j, a ≤ j → j ≤ b → (b + 1 = n ∨ g (b + 1) < g j)) → (a ≤ mo_rt h a b ∧ mo_rt h a b ≤ b) ∧ (∀ j, a ≤ j → j ≤ b → g (mo_rt h a b) ≤ g j) ∧ iv g n a b (mo_rt h a b) := by
    intro a b a0 ab bn c1 c2
    obtain ⟨s1, s2, s3, s4⟩ := mo_rt_spec (h := h) (a := a) (b := b) ab (by omega)
    have e1 := r8 (mo_rt h a b) (by omega) (by omega)
    have m1 : ∀ j, a ≤ j → j ≤ b → g (mo_rt h a b) ≤ g j := fun j q1 q2 => by
      have := mo_mn_le (h := h) (a := a) (b := b) (j := j) q1 q2
      rw [r8 j (by omega) (by omega)] at this
      omega
    refine ⟨⟨s1, s2⟩, m1, ⟨a0, s1, s2, by omega⟩, fun j q1 q2 => ?_, fun j q1 q2 => m1 j (by omega) q2, c1 _ s1 s2, c2 _ s1 s2⟩
    have q3 := m1 j q1 (by omega)
    have q4 := s4 j q1 q2
    rw [r8 j (by omega) (by omega)] at q4
    omega
  have key := hs_wh_end (P := mo_tdP h i) (f := mo_tdF h i) (fun x => (0 ≤ x.1 ∧ x.1 ≤ i ∧ i ≤ x.2.1 ∧ x.2.1 ≤ n - 1) ∧ (∀ j, x.1 ≤ j → j ≤ x.2.1 → (x.1 = 0 ∨ g (x.1 - 1) ≤ g j)) ∧ (∀ j, x.1 ≤ j → j ≤ x.2.1 → (x.2.1 + 1 = n ∨ g (x.2.1 + 1) < g j)) ∧ x.2.2.2 = tp g n x.1 x.2.1 ∧ ∃ K : Nat, x.2.2.1 = (K : Int) ∧ chn Q K x.2.2.2) (fun x => x.2.1 - x.1) (fun x hx hP => by
    obtain ⟨a, b, dd, pr⟩ := x
    obtain ⟨x1, x2, x3, x4, K, x5, x6⟩ := hx
    unfold mo_tdP at hP
    dsimp only at x1 x2 x3 x4 x5 x6 hP
    obtain ⟨q1, q2, q3⟩ := rtI a b (by omega) (by omega) (by omega) x2 x3
    have q4 := hG _ _ _ q3
    unfold mo_tdF
    (try dsimp only)
    generalize mo_rt h a b = r at q1 q2 q3 q4 hP ⊢
    have hch : chn Q (K + 1) r := ⟨by omega, by rw [q4, ← x4]; exact x6⟩
    rcases Int.lt_or_gt_of_ne hP with z | z
    · rw [if_pos z, if_neg (by omega)]
      refine ⟨⟨by omega, fun j j1 j2 => Or.inr (by rw [show r + 1 - 1 = r by omega]; exact q2 j (by omega) j2), fun j j1 j2 => x3 j (by omega) j2, ?_, K + 1, by omega, hch⟩, by omega, by omega⟩
      unfold tp
      rw [if_neg (fun w => ?_), if_neg (by omega)]
      · omega
      · have w1 := x3 r q1.1 q1.2
        rw [show r + 1 - 1 = r by omega] at w
        rcases w.2 with w2 | w2 <;> omega
    · rw [if_neg (by omega), if_pos z]
      refine ⟨⟨by omega, fun j j1 j2 => x2 j j1 (by omega), fun j j1 j2 => Or.inr (by rw [show r - 1 + 1 = r by omega]; exact q3.2.1 j j1 (by omega)), ?_, K + 1, by omega, hch⟩, by omega, by omega⟩
      unfold tp
      rw [if_pos (show r - 1 + 1 < n ∧ (a = 0 ∨ g (a - 1) ≤ g (r - 1 + 1)) from ⟨by omega, by rw [show r - 1 + 1 = r by omega]; exact x2 r q1.1 q1.2⟩)]
      omega) ((h 40 - 1 - 0 : Int).toNat + 1) (0, h 40 - 1, 0, -9) ⟨by (try dsimp only); omega, fun j _ _ => Or.inl rfl, fun j _ _ => Or.inl (by (try dsimp only); omega), by
      (try dsimp only)
      unfold tp
      rw [if_neg (by omega), if_pos rfl], 0, rfl, rfl⟩ (by (try dsimp only); omega) (by (try dsimp only); omega)
  have hbd := mo_td_bd (h := h) (i := i) (by omega) (by omega)
  unfold mo_td at hbd ⊢
  generalize hs_wh (mo_tdP h i) (mo_tdF h i) ((h 40 - 1 - 0 : Int).toNat + 1) (0, h 40 - 1, 0, -9) = y at key hbd ⊢
  obtain ⟨⟨y1, y2, y3, y4, K, y5, y6⟩, y7⟩ := key
  have y8 : mo_rt h y.1 y.2.1 = i := by
    unfold mo_tdP at y7
    omega
  obtain ⟨-, -, q3⟩ := rtI y.1 y.2.1 y1.1 (by omega) y1.2.2.2 y2 y3
  rw [y8] at q3
  have q4 := hG _ _ _ q3
  refine ⟨by rw [y4, q4], ?_⟩
  unfold pu_dp
  rw [pu_dp_at K _ 0 (Q i) (by rw [q4, ← y4]; exact y6) (by omega) (by omega), y5]
  omega
theorem eq_column {e : pu_E} {f : mo_E} (R : pu_Rel e f) (i wh : Int) {u : pu_K} (hu : pu_KB u) : mo_column i wh f.1 = pu_column i wh e.1 e.2.1 u := by
  obtain ⟨n, g, ct, Z⟩ := e
  obtain ⟨h, pa, pm⟩ := f
  obtain ⟨r1, r2, -, -, -, r6, r7, r8, -⟩ := R
  dsimp only at r1 r2 r6 r7 r8 ⊢
  unfold mo_column pu_column
  by_cases hc : 0 ≤ i ∧ i < n
  · rw [if_neg (show ¬ ¬ (0 ≤ i ∧ i ≤ h 40 - 1) by omega), if_neg (show ¬ ¬ (0 ≤ i ∧ i < n) by omega)]
    obtain ⟨t1, t2⟩ := eq_td (P := u.2.2.1) (S := u.2.2.2.1) r1 r7 r8 hc.1 hc.2
    have s9 : (mo_stl h i).2 = (pu_stl g i).2 := by
      unfold mo_stl pu_stl
      exact (eq_stl r8 _ _ (i - 1) 0 i (Nat.le_refl _) (by omega) (by omega) (by omega) hc.2 (fun k q1 q2 => by omega)).symm
    rw [t1, t2, s9, eq_span r7 r8 hc.1 hc.2, r7, r8 i hc.1 hc.2, pu_sl_congr r8 hc.1 hc.2, pu_sr_congr r8 hc.1 hc.2, pu_gl_congr r8 hc.1 hc.2, pu_gr_congr r8 hc.1 hc.2, (pu_pour_at (g := g) (d := u.1) (a := 0) (b := n - 1) r2 (by omega)).2 i hc.1 (by omega), mo_dep_congr (g := g) (h := h) (a := 0) (b := n - 1) (i := i) hc.1 (by omega) (fun k q1 q2 => r8 k q1 (by omega))]
  · rw [if_pos (show ¬ (0 ≤ i ∧ i ≤ h 40 - 1) by omega), if_pos hc]
