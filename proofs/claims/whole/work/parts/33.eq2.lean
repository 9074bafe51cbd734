theorem pu_mir_at {g : Int → Int} {a b : Int} (hab : a ≤ b) : (pu_mir g a b).1 = 2 * su (fun i => if g i = g (a + b - i) then 0 else 1) a ((a + b + 1) / 2) ∧ ∀ j, (pu_mir g a b).2 j = if a ≤ j ∧ j ≤ b then g (a + b - j) else g j := by
  unfold pu_mir
  have key := hs_up_inv (f := fun i (x : Int × (Int → Int)) => if x.2 i = x.2 (a + b - i) then x else (x.1 + 2, pu_ex x.2 i (a + b - i))) (fun k x => x.1 = 2 * su (fun i => if g i = g (a + b - i) then 0 else 1) a k ∧ ∀ j, x.2 j = if (a ≤ j ∧ j < k) ∨ (a + b - k < j ∧ j ≤ b) then g (a + b - j) else g j) (e := (a + b + 1) / 2) _ a (0, g) (Nat.le_refl _) (by omega) ⟨by rw [su_done (Int.le_refl a)]; rfl, fun j => by rw [if_neg (by omega)]⟩ (fun k x h1 h2 hx => by
    obtain ⟨x1, x2⟩ := hx
    have e1 : x.2 k = g k := by rw [x2 k, if_neg (by omega)]
    have e2 : x.2 (a + b - k) = g (a + b - k) := by rw [x2 (a + b - k), if_neg (by omega)]
    rw [su_last h1, e1, e2]
    by_cases hc : g k = g (a + b - k)
    · rw [if_pos hc, if_pos hc]
      refine ⟨by omega, fun j => ?_⟩
      rw [x2 j]
      by_cases hj : j = k
      · rw [if_neg (by omega), if_pos (by omega), hj, hc]
      · by_cases hj2 : j = a + b - k
        · rw [if_neg (by omega), if_pos (by omega), hj2, show a + b - (a + b - k) = k by omega, hc]
        · by_cases hq : (a ≤ j ∧ j < k) ∨ (a + b - k < j ∧ j ≤ b)
          · rw [if_pos hq, if_pos (by omega)]
          · rw [if_neg hq, if_neg (by omega)]
    · rw [if_neg hc, if_neg hc]
      refine ⟨by (try dsimp only); omega, fun j => ?_⟩
      (try dsimp only)
      unfold pu_ex
      by_cases hj2 : j = a + b - k
      · rw [hj2, hs_u_self, e1, if_pos (by omega), show a + b - (a + b - k) = k by omega]
      · rw [hs_u_ne hj2]
        by_cases hj : j = k
        · rw [hj, hs_u_self, e2, if_pos (by omega)]
        · rw [hs_u_ne hj, x2 j]
          by_cases hq : (a ≤ j ∧ j < k) ∨ (a + b - k < j ∧ j ≤ b)
          · rw [if_pos hq, if_pos (by omega)]
          · rw [if_neg hq, if_neg (by omega)])
  refine ⟨key.1, fun j => ?_⟩
  rw [key.2 j]
  by_cases hj : a ≤ j ∧ j ≤ b
  · rw [if_pos hj]
    by_cases hq : (a ≤ j ∧ j < (a + b + 1) / 2) ∨ (a + b - (a + b + 1) / 2 < j ∧ j ≤ b)
    · rw [if_pos hq]
    · rw [if_neg hq, show a + b - j = j by omega]
  · rw [if_neg hj, if_neg (by omega)]
theorem su_sym {c : Int → Int} {a b : Int} (hab : a ≤ b) (hs : ∀ j, c (a + b - j) = c j) (hm : ∀ j, a + b - j = j → c j = 0) : su c a (b + 1) = 2 * su c a ((a + b + 1) / 2) := by
  have h1 : ∀ (n : Nat) (k : Int), (k - a).toNat ≤ n → a ≤ k → k ≤ b + 1 → su c a k = su c (a + b + 1 - k) (b + 1) := by
    intro n
    induction n with
    | zero => intro k hk k1 k2; rw [su_done (by omega), su_done (by omega)]
    | succ n ih =>
      intro k hk k1 k2
      by_cases hka : a < k
      · obtain ⟨k', rfl⟩ : ∃ k', k = k' + 1 := ⟨k - 1, by omega⟩
        rw [su_last (by omega), su_step (show a + b + 1 - (k' + 1) < b + 1 by omega), ih k' (by omega) (by omega) (by omega), show a + b + 1 - (k' + 1) = a + b - k' by omega, hs k', show a + b - k' + 1 = a + b + 1 - k' by omega]
        omega
      · rw [su_done (by omega), su_done (by omega)]
  have h2 := h1 _ ((a + b + 1) / 2) (Nat.le_refl _) (by omega) (by omega)
  rw [su_split _ ((a + b + 1) / 2) (b + 1) (Nat.le_refl _) (by omega) (by omega), su_split (a := (a + b + 1) / 2) _ (a + b + 1 - (a + b + 1) / 2) (b + 1) (Nat.le_refl _) (by omega) (by omega), ← h2]
  have h3 : su c ((a + b + 1) / 2) (a + b + 1 - (a + b + 1) / 2) = 0 := by
    by_cases hp : (a + b + 1) / 2 < a + b + 1 - (a + b + 1) / 2
    · rw [su_step hp, su_done (by omega), hm _ (by omega)]; rfl
    · exact su_done (by omega)
  rw [h3]
  omega
theorem mo_revH_at {h : Int → Int} {a b : Int} (hab : a ≤ b + 1) (j : Int) : mo_revH a b h j = if a ≤ j ∧ j < b + 1 then h (a + b - j) else h j := by
  unfold mo_revH
  have := hs_up_inv (f := fun i (x : Int → Int) => hs_u x i (h (a + b - i))) (fun k x => ∀ j, x j = if a ≤ j ∧ j < k then h (a + b - j) else h j) (e := b + 1) _ a h (Nat.le_refl _) hab (fun j => by rw [if_neg (by omega)]) (fun k x h1 h2 hx j => by
    (try dsimp only)
    by_cases hj : j = k
    · rw [hj, hs_u_self, if_pos (by omega)]
    · rw [hs_u_ne hj, hx j]
      by_cases hq : a ≤ j ∧ j < k
      · rw [if_pos hq, if_pos (by omega)]
      · rw [if_neg hq, if_neg (by omega)])
  exact this j
theorem eq_reverse {e : pu_E} {f : mo_E} (R : pu_Rel e f) (a b : Int) : (mo_reverse a b f).1 = (pu_reverse a b e).1 ∧ pu_Rel (pu_reverse a b e).2 (mo_reverse a b f).2 := by
  obtain ⟨n, g, ct, Z⟩ := e
  obtain ⟨h, pa, pm⟩ := f
  obtain ⟨r1, r2, r3, r4, r5, r6, r7, r8, r9, r10, r11⟩ := id R
  dsimp only at r1 r2 r3 r4 r5 r6 r7 r8 r9 r10 r11
  unfold mo_reverse pu_reverse
  (try dsimp only)
  by_cases hc : 0 ≤ a ∧ a ≤ b ∧ b < n
  · rw [if_neg (by omega), if_neg (by omega)]
    obtain ⟨l1, l2⟩ := pu_mir_at (g := g) (a := a) (b := b) (by omega)
    have hat := mo_revH_at (h := h) (a := a) (b := b) (by omega)
    refine ⟨?_, rel_rem R r1 (fun k => ?_) (fun k => ?_) ?_ (fun k k0 k1 => ?_)⟩
    · rw [l1, mo_chg_at (by omega) (by omega), ← su_sym hc.2.1 (fun j => by
        (try dsimp only)
        rw [show a + b - (a + b - j) = j by omega]
        by_cases q : g j = g (a + b - j)
        · rw [if_pos q, if_pos q.symm]
        · rw [if_neg q, if_neg (fun z => q z.symm)]) (fun j hj => by (try dsimp only); rw [hj, if_pos rfl])]
      refine su_congr (fun j h1 h2 => ?_)
      (try dsimp only)
      rw [hat j, if_pos (show a ≤ j ∧ j < b + 1 by omega), r8 j (by omega) (by omega), r8 (a + b - j) (by omega) (by omega)]
      by_cases q : g j = g (a + b - j)
      · rw [if_pos q, if_pos q.symm]
      · rw [if_neg q, if_neg (fun z => q z.symm)]
    · rw [l2 k]
      split
      · exact r2 _
      · exact r2 k
    · rw [hat k]
      split
      · exact r6 _
      · exact r6 k
    · rw [hat 40, if_neg (by omega)]; exact r7
    · rw [hat k, l2 k]
      by_cases hk : a ≤ k ∧ k ≤ b
      · rw [if_pos (by omega), if_pos hk]; exact r8 _ (by omega) (by omega)
      · rw [if_neg (by omega), if_neg hk]; exact r8 k k0 k1
  · rw [if_pos (by omega), if_pos (by omega)]
    exact ⟨rfl, R⟩
/-- two rows that agree below n, the second one bounded and with n at its end -/
abbrev ag (n : Int) (g h : Int → Int) : Prop := (∀ k, 0 ≤ k → k < n → h k = g k) ∧ h 40 = n ∧ (∀ k, 0 ≤ g k ∧ g k ≤ 50) ∧ (∀ k, 0 ≤ h k ∧ h k ≤ 50)
theorem ag_ex {n i j : Int} {g h : Int → Int} (hn : n ≤ 40) (hi : 0 ≤ i ∧ i < n) (hj : 0 ≤ j ∧ j < n) (A : ag n g h) : ag n (pu_ex g i j) (pu_ex h i j) := by
  obtain ⟨a1, a2, a3, a4⟩ := A
  refine ⟨fun k k0 k1 => ?_, ?_, pu_ex_bd a3, pu_ex_bd a4⟩
  · unfold pu_ex
    by_cases h1 : k = j
    · rw [h1, hs_u_self, hs_u_self]; exact a1 i hi.1 hi.2
    · rw [hs_u_ne h1, hs_u_ne h1]
      by_cases h2 : k = i
      · rw [h2, hs_u_self, hs_u_self]; exact a1 j hj.1 hj.2
      · rw [hs_u_ne h2, hs_u_ne h2]; exact a1 k k0 k1
  · unfold pu_ex
    rw [hs_u_ne (by omega), hs_u_ne (by omega)]; exact a2
theorem ag_ins {n a u i x : Int} {g h : Int → Int} (hn : n ≤ 40) (ha : 0 ≤ a ∧ a ≤ i ∧ i < n) (A : ag n g h) : (pu_ins a u i x g).2.1 = (pu_ins a u i x h).2.1 ∧ ag n (pu_ins a u i x g).2.2 (pu_ins a u i x h).2.2 := by
  unfold pu_ins
  have := hs_wh_sim (P := pu_insP a u) (Q := pu_insP a u) (f := pu_insF) (g := pu_insF) (fun (x y : Int × Int × (Int → Int)) => (a ≤ x.1 ∧ x.1 ≤ i) ∧ x.1 = y.1 ∧ x.2.1 = y.2.1 ∧ ag n x.2.2 y.2.2) (fun x y hxy => by
    obtain ⟨s1, s2, s3, s4⟩ := hxy
    constructor
    · unfold pu_insP
      (try dsimp only)
      rw [← s2]
      constructor
      · intro hp
        rw [s4.1 (x.1 - 1) (by omega) (by omega), s4.1 x.1 (by omega) (by omega)]
        exact hp
      · intro hp
        have hp1 := hp.1
        rw [s4.1 (x.1 - 1) (by omega) (by omega), s4.1 x.1 (by omega) (by omega)] at hp
        exact hp
    · intro hp
      have hp1 := hp.1
      unfold pu_insF
      (try dsimp only)
      rw [← s2, ← s3]
      exact ⟨by omega, rfl, rfl, ag_ex hn (by omega) (by omega) s4⟩) ((i - a).toNat + 1) (i, x, g) (i, x, h) ⟨by (try dsimp only); omega, rfl, rfl, A⟩
  exact ⟨this.2.2.1, this.2.2.2⟩
theorem eq_sort {e : pu_E} {f : mo_E} (R : pu_Rel e f) (a b u : Int) : (mo_sort a b u f).1 = (pu_sort a b u e).1 ∧ pu_Rel (pu_sort a b u e).2 (mo_sort a b u f).2 := by
  obtain ⟨n, g, ct, Z⟩ := e
  obtain ⟨h, pa, pm⟩ := f
  obtain ⟨r1, r2, r3, r4, r5, r6, r7, r8, r9, r10, r11⟩ := id R
  dsimp only at r1 r2 r3 r4 r5 r6 r7 r8 r9 r10 r11
  unfold mo_sort pu_sort
  (try dsimp only)
  by_cases hc : 0 ≤ a ∧ a ≤ b ∧ b < n ∧ 0 ≤ u ∧ u ≤ 1
  · rw [if_neg (by omega), if_neg (by omega)]
    have e1 : mo_arr h a b u = hs_up (fun i (x : Int × (Int → Int)) => (pu_ins a u i x.1 x.2).2) (a + 1) (b + 1) (0, h) := by
      unfold mo_arr
      rw [hs_up_step (by omega)]
      (try dsimp only)
      unfold pu_ins
      rw [hs_wh_done (show ¬ pu_insP a u (a, 0, h) from fun q => by have := q.1; dsimp only at this; omega)]
    have sim := hs_up_sim (f := fun i (x : Int × (Int → Int)) => (pu_ins a u i x.1 x.2).2) (g := fun i (x : Int × (Int → Int)) => (pu_ins a u i x.1 x.2).2) (fun _ (x y : Int × (Int → Int)) => x.1 = y.1 ∧ ag n x.2 y.2) (e := b + 1) _ (a + 1) (0, g) (0, h) (Nat.le_refl _) (by omega) ⟨rfl, r8, r7, r2, r6⟩ (fun j x y h1 h2 hxy => by
      (try dsimp only)
      rw [← hxy.1]
      exact ag_ins (x := x.1) (by omega) (by omega) hxy.2)
    rw [e1]
    unfold pu_arr
    obtain ⟨s1, s2, s3, s4, s5⟩ := sim
    exact ⟨s1.symm, rel_rem R r1 s4 s5 s3 s2⟩
  · rw [if_pos (by omega), if_pos (by omega)]
    exact ⟨rfl, R⟩
