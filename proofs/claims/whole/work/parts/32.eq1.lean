/-! the changes -/
theorem eq_set {e : pu_E} {f : mo_E} (R : pu_Rel e f) (i v : Int) : (mo_set i v f).1 = (pu_set i v e).1 ∧ pu_Rel (pu_set i v e).2 (mo_set i v f).2 := by
  obtain ⟨n, g, ct, Z⟩ := e
  obtain ⟨h, pa, pm⟩ := f
  obtain ⟨r1, r2, r3, r4, r5, r6, r7, r8, r9, r10, r11⟩ := id R
  dsimp only at r1 r2 r3 r4 r5 r6 r7 r8 r9 r10 r11
  unfold mo_set pu_set
  (try dsimp only)
  by_cases hc : 0 ≤ i ∧ i < n ∧ 0 ≤ v ∧ v ≤ 50
  · rw [if_neg (by omega), if_neg (by omega)]
    refine ⟨r8 i hc.1 hc.2.1, rel_rem R r1 (hs_u_bd r2 (by omega)) (hs_u_bd r6 (by omega)) (by rw [hs_u_ne (by omega)]; exact r7) (fun k k0 k1 => ?_)⟩
    by_cases hk : k = i
    · rw [hk, hs_u_self, hs_u_self]
    · rw [hs_u_ne hk, hs_u_ne hk]; exact r8 k k0 k1
  · rw [if_pos (by omega), if_pos (by omega)]
    exact ⟨rfl, R⟩
theorem eq_clear {e : pu_E} {f : mo_E} (R : pu_Rel e f) : (mo_clear f).1 = (pu_clear e).1 ∧ pu_Rel (pu_clear e).2 (mo_clear f).2 := by
  obtain ⟨r1, r2, r3, r4, r5, r6, r7, r8, r9, r10, r11⟩ := id R
  unfold mo_clear pu_clear
  (try dsimp only)
  exact ⟨r7, rel_rem R (by omega) r2 (hs_u_bd r6 (by omega)) (hs_u_self _ _ _) (fun k k0 k1 => by omega)⟩
theorem eq_undo {e : pu_E} {f : mo_E} (R : pu_Rel e f) : (mo_undo f).1 = (pu_undo e).1 ∧ pu_Rel (pu_undo e).2 (mo_undo f).2 := by
  obtain ⟨n, g, ct, Z⟩ := e
  obtain ⟨h, pa, pm⟩ := f
  obtain ⟨r1, r2, r3, r4, r5, r6, r7, r8, r9, r10, r11⟩ := id R
  dsimp only at r1 r2 r3 r4 r5 r6 r7 r8 r9 r10 r11
  unfold mo_undo pu_undo
  (try dsimp only)
  subst r10
  by_cases hc : pm = 0
  · rw [if_pos hc, if_pos hc]; exact ⟨rfl, R⟩
  · rw [if_neg hc, if_neg hc]
    obtain ⟨q1, q2⟩ := r11 (pm - 1) (by omega) (by omega)
    have q3 := r4 (pm - 1)
    refine ⟨rfl, q3, hs_cp_bd (r5 (pm - 1)) r2, (by (try dsimp only); omega), r4, r5, fun k => ?_, ?_, fun k k0 k1 => ?_, r9, rfl, fun j j0 j1 => ?_⟩
    · (try dsimp only)
      rw [mo_getH_at]
      split
      · exact r9 _
      · exact r6 k
    · (try dsimp only)
      rw [mo_getH_at, if_pos (by omega)]; exact q1
    · dsimp only at k1 ⊢
      rw [mo_getH_at, if_pos (by omega), hs_cp_at, if_pos (by omega), q2 k k0 k1, show 0 + (k - 0) = k by omega]
    · dsimp only at j1 ⊢
      exact r11 j j0 (by omega)
theorem mo_remH_at {h : Int → Int} {i : Int} (hi : 0 ≤ i ∧ i ≤ h 40 - 1) (hN : h 40 ≤ 40) (j : Int) : mo_remH i h j = if i ≤ j ∧ j < h 40 - 1 then h (j + 1) else if j = 40 then h 40 - 1 else h j := by
  unfold mo_remH
  have := hs_up_inv (f := fun k (y : Int → Int) => hs_u y k (y (k + 1))) (fun k y => ∀ j, y j = if i ≤ j ∧ j < k then h (j + 1) else if j = 40 then h 40 - 1 else h j) (e := h 40 - 1) _ i (hs_u h 40 (h 40 - 1)) (Nat.le_refl _) (by omega) (fun j => by
    rw [if_neg (by omega)]
    by_cases hj : j = 40
    · rw [hj, hs_u_self, if_pos rfl]
    · rw [hs_u_ne hj, if_neg hj]) (fun k y h1 h2 hy j => by
    (try dsimp only)
    by_cases hj : j = k
    · rw [hj, hs_u_self, if_pos (by omega), hy (k + 1), if_neg (by omega), if_neg (by omega)]
    · rw [hs_u_ne hj, hy j]
      by_cases hc : i ≤ j ∧ j < k
      · rw [if_pos hc, if_pos (by omega)]
      · rw [if_neg hc, if_neg (show ¬ (i ≤ j ∧ j < k + 1) by omega)])
  exact this j
theorem eq_remove {e : pu_E} {f : mo_E} (R : pu_Rel e f) (i : Int) : (mo_remove i f).1 = (pu_remove i e).1 ∧ pu_Rel (pu_remove i e).2 (mo_remove i f).2 := by
  obtain ⟨n, g, ct, Z⟩ := e
  obtain ⟨h, pa, pm⟩ := f
  obtain ⟨r1, r2, r3, r4, r5, r6, r7, r8, r9, r10, r11⟩ := id R
  dsimp only at r1 r2 r3 r4 r5 r6 r7 r8 r9 r10 r11
  unfold mo_remove pu_remove
  (try dsimp only)
  by_cases hc : 0 ≤ i ∧ i < n
  · rw [if_neg (by omega), if_neg (by omega)]
    have hat := mo_remH_at (h := h) (i := i) (by omega) (by omega)
    refine ⟨r8 i hc.1 hc.2, rel_rem R (by omega) (hs_cp_bd r2 r2) (fun k => ?_) ?_ (fun k k0 k1 => ?_)⟩
    · rw [hat k]
      split
      · exact r6 _
      · split
        · omega
        · exact r6 _
    · rw [hat 40, if_neg (by omega), if_pos rfl, r7]
    · rw [hat k, hs_cp_at]
      by_cases hk : i ≤ k
      · rw [if_pos (by omega), if_pos (by omega), r8 (k + 1) (by omega) (by omega)]
        congr 1; omega
      · rw [if_neg (by omega), if_neg (by omega), if_neg (by omega)]
        exact r8 k k0 (by omega)
  · rw [if_pos (by omega), if_pos (by omega)]
    exact ⟨rfl, R⟩
theorem mo_insH_at {h : Int → Int} {a v : Int} (ha : 0 ≤ a ∧ a ≤ h 40) (hN : h 40 < 40) (j : Int) : mo_insH a v h j = if j = a then v else if j = 40 then h 40 + 1 else if a < j ∧ j ≤ h 40 then h (j - 1) else h j := by
  have key := hs_dn_ind (f := fun i (x : Int → Int) => hs_u x i (h (i - 1))) (fun k y => ∀ j, y j = if k < j ∧ j ≤ h 40 then h (j - 1) else h j) (e := a + 1) _ (h 40) h (Nat.le_refl _) (by omega) (fun j => by rw [if_neg (by omega)]) (fun k y h1 h2 hy j => by
    (try dsimp only)
    by_cases hj : j = k
    · rw [hj, hs_u_self, if_pos (by omega)]
    · rw [hs_u_ne hj, hy j]
      by_cases hc : k < j ∧ j ≤ h 40
      · rw [if_pos hc, if_pos (by omega)]
      · rw [if_neg hc, if_neg (by omega)])
  unfold mo_insH
  by_cases h1 : j = a
  · rw [h1, hs_u_self, if_pos rfl]
  · rw [hs_u_ne h1, if_neg h1]
    by_cases h2 : j = 40
    · rw [h2, hs_u_self, if_pos rfl]
    · rw [hs_u_ne h2, if_neg h2, key j]
      by_cases hc : a < j ∧ j ≤ h 40
      · rw [if_pos (by omega), if_pos hc]
      · rw [if_neg (by omega), if_neg hc]
theorem eq_insert {e : pu_E} {f : mo_E} (R : pu_Rel e f) (a v : Int) : (mo_insert a v f).1 = (pu_insert a v e).1 ∧ pu_Rel (pu_insert a v e).2 (mo_insert a v f).2 := by
  obtain ⟨n, g, ct, Z⟩ := e
  obtain ⟨h, pa, pm⟩ := f
  obtain ⟨r1, r2, r3, r4, r5, r6, r7, r8, r9, r10, r11⟩ := id R
  dsimp only at r1 r2 r3 r4 r5 r6 r7 r8 r9 r10 r11
  unfold mo_insert pu_insert
  (try dsimp only)
  by_cases hc : 0 ≤ a ∧ a ≤ n ∧ 0 ≤ v ∧ v ≤ 50
  · rw [if_neg (show ¬ ¬ (0 ≤ a ∧ a ≤ h 40 ∧ 0 ≤ v ∧ v ≤ 50) by omega), if_neg (show ¬ ¬ (0 ≤ a ∧ a ≤ n ∧ 0 ≤ v ∧ v ≤ 50) by omega)]
    by_cases hf : n = 40
    · rw [if_pos (show h 40 = 40 by omega), if_pos (show 40 ≤ n by omega)]; exact ⟨rfl, R⟩
    · rw [if_neg (show ¬ h 40 = 40 by omega), if_neg (show ¬ 40 ≤ n by omega)]
      have hat := mo_insH_at (h := h) (a := a) (v := v) (by omega) (by omega)
      have h40 : mo_insH a v h 40 = n + 1 := by rw [hat 40, if_neg (by omega), if_pos rfl, r7]
      refine ⟨h40, rel_rem R (by omega) (hs_u_bd (hs_cp_bd r2 r2) (by omega)) (fun k => ?_) h40 (fun k k0 k1 => ?_)⟩
      · rw [hat k]
        split
        · omega
        · split
          · omega
          · split
            · exact r6 _
            · exact r6 _
      · rw [hat k]
        by_cases hk : k = a
        · rw [if_pos hk, hk, hs_u_self]
        · rw [if_neg hk, hs_u_ne hk, if_neg (by omega), hs_cp_at]
          by_cases hk2 : a < k
          · rw [if_pos (by omega), if_pos (by omega), r8 (k - 1) (by omega) (by omega)]
            congr 1; omega
          · rw [if_neg (by omega), if_neg (by omega)]
            exact r8 k k0 (by omega)
  · rw [if_pos (by omega), if_pos (by omega)]
    exact ⟨rfl, R⟩
/-- how many places of a range satisfy 'differs' -/
def cn (P : Int → Prop) [DecidablePred P] (a e : Int) : Int := su (fun i => if P i then 0 else 1) a e
theorem pu_lift_at {g : Int → Int} {a b d : Int} (hab : a ≤ b + 1) : (pu_lift g a b d).1 = su (fun i => if max 0 (min (g i + d) 50) = g i then 0 else 1) a (b + 1) ∧ ∀ j, (pu_lift g a b d).2 j = if a ≤ j ∧ j < b + 1 then max 0 (min (g j + d) 50) else g j := by
  unfold pu_lift
  have := hs_up_inv (f := fun i (x : Int × (Int → Int)) => if max 0 (min (x.2 i + d) 50) = x.2 i then x else (x.1 + 1, hs_u x.2 i (max 0 (min (x.2 i + d) 50)))) (fun k x => x.1 = su (fun i => if max 0 (min (g i + d) 50) = g i then 0 else 1) a k ∧ ∀ j, x.2 j = if a ≤ j ∧ j < k then max 0 (min (g j + d) 50) else g j) (e := b + 1) _ a (0, g) (Nat.le_refl _) hab ⟨(su_done (Int.le_refl a)).symm, fun j => by rw [if_neg (by omega)]⟩ (fun k x h1 h2 hx => by
    obtain ⟨x1, x2⟩ := hx
    have e : x.2 k = g k := by rw [x2 k, if_neg (by omega)]
    rw [su_last h1, e]
    by_cases hc : max 0 (min (g k + d) 50) = g k
    · rw [if_pos hc, if_pos hc]
      refine ⟨by omega, fun j => ?_⟩
      rw [x2 j]
      by_cases hj : j = k
      · rw [if_neg (by omega), if_pos (by omega), hj, hc]
      · by_cases hq : a ≤ j ∧ j < k
        · rw [if_pos hq, if_pos (by omega)]
        · rw [if_neg hq, if_neg (by omega)]
    · rw [if_neg hc, if_neg hc]
      refine ⟨by (try dsimp only); omega, fun j => ?_⟩
      (try dsimp only)
      by_cases hj : j = k
      · rw [hj, hs_u_self, if_pos (by omega)]
      · rw [hs_u_ne hj, x2 j]
        by_cases hq : a ≤ j ∧ j < k
        · rw [if_pos hq, if_pos (by omega)]
        · rw [if_neg hq, if_neg (by omega)])
  exact this
theorem mo_raiH_at {h : Int → Int} {a b d : Int} (hab : a ≤ b + 1) (j : Int) : mo_raiH a b d h j = if a ≤ j ∧ j < b + 1 then max 0 (min (h j + d) 50) else h j := by
  unfold mo_raiH
  have := hs_up_inv (f := fun i (x : Int → Int) => hs_u x i (max 0 (min (x i + d) 50))) (fun k x => ∀ j, x j = if a ≤ j ∧ j < k then max 0 (min (h j + d) 50) else h j) (e := b + 1) _ a h (Nat.le_refl _) hab (fun j => by rw [if_neg (by omega)]) (fun k x h1 h2 hx j => by
    (try dsimp only)
    by_cases hj : j = k
    · rw [hj, hs_u_self, hx k, if_neg (by omega), if_pos (by omega)]
    · rw [hs_u_ne hj, hx j]
      by_cases hq : a ≤ j ∧ j < k
      · rw [if_pos hq, if_pos (by omega)]
      · rw [if_neg hq, if_neg (by omega)])
  exact this j
theorem mo_chg_at {h h' pa : Int → Int} {pm a b : Int} (ha : 0 ≤ a) (hb : b ≤ 39) : mo_chg h' (mo_rP h pa pm) (mo_rC pm) a b = su (fun i => if h' i = h i then 0 else 1) a (b + 1) := by
  unfold mo_chg su
  refine hs_up_congr _ a 0 (Nat.le_refl _) (fun j y h1 h2 => ?_)
  (try dsimp only)
  rw [mo_before (by omega)]
  split <;> rfl
theorem eq_raise {e : pu_E} {f : mo_E} (R : pu_Rel e f) (a b d : Int) : (mo_raise a b d f).1 = (pu_raise a b d e).1 ∧ pu_Rel (pu_raise a b d e).2 (mo_raise a b d f).2 := by
  obtain ⟨n, g, ct, Z⟩ := e
  obtain ⟨h, pa, pm⟩ := f
  obtain ⟨r1, r2, r3, r4, r5, r6, r7, r8, r9, r10, r11⟩ := id R
  dsimp only at r1 r2 r3 r4 r5 r6 r7 r8 r9 r10 r11
  unfold mo_raise pu_raise
  (try dsimp only)
  by_cases hc : 0 ≤ a ∧ a ≤ b ∧ b < n ∧ -50 ≤ d ∧ d ≤ 50
  · rw [if_neg (by omega), if_neg (by omega)]
    obtain ⟨l1, l2⟩ := pu_lift_at (g := g) (a := a) (b := b) (d := d) (by omega)
    have hat := mo_raiH_at (h := h) (a := a) (b := b) (d := d) (by omega)
    refine ⟨?_, rel_rem R r1 (fun k => ?_) (fun k => ?_) ?_ (fun k k0 k1 => ?_)⟩
    · rw [l1, mo_chg_at (by omega) (by omega)]
      refine su_congr (fun j h1 h2 => ?_)
      (try dsimp only)
      rw [hat j, if_pos (show a ≤ j ∧ j < b + 1 by omega), r8 j (by omega) (by omega)]
    · rw [l2 k]
      split
      · omega
      · exact r2 k
    · rw [hat k]
      split
      · omega
      · exact r6 k
    · rw [hat 40, if_neg (by omega)]; exact r7
    · rw [hat k, l2 k, r8 k k0 k1]
  · rw [if_pos (by omega), if_pos (by omega)]
    exact ⟨rfl, R⟩
