/-! drained, dam, sum of minima, ranges, container -/
theorem mo_wat_nn {g : Int → Int} {a b : Int} : 0 ≤ mo_wat g a b := by
  rw [mo_wat_su]
  exact su_ind (fun j h1 h2 => mo_dep_nn h1 (by omega))
theorem eq_drained {e : pu_E} {f : mo_E} (R : pu_Rel e f) (i : Int) {u : pu_K} (hu : pu_KB u) : mo_drained i f.1 = pu_drained i e.1 e.2.1 u := by
  obtain ⟨n, g, ct, Z⟩ := e
  obtain ⟨h, pa, pm⟩ := f
  obtain ⟨r1, r2, -, -, -, r6, r7, r8, -⟩ := R
  dsimp only at r1 r2 r6 r7 r8 ⊢
  unfold mo_drained pu_drained
  by_cases hc : 0 ≤ i ∧ i < n
  · rw [if_neg (show ¬ ¬ (0 ≤ i ∧ i ≤ h 40 - 1) by omega), if_neg (show ¬ ¬ (0 ≤ i ∧ i < n) by omega), (pu_pour_at (a := 0) (b := n - 1) r2 (by omega)).1, (pu_pour_at (a := 0) (b := i) r2 (by omega)).1, (pu_pour_at (a := i) (b := n - 1) r2 (by omega)).1, r7, mo_wat_congr (a := 0) (b := n - 1) (fun j q1 q2 => r8 j q1 (by omega)), mo_wat_congr (a := 0) (b := i) (fun j q1 q2 => r8 j q1 (by omega)), mo_wat_congr (a := i) (b := n - 1) (fun j q1 q2 => r8 j (by omega) (by omega))]
  · rw [if_pos (show ¬ (0 ≤ i ∧ i ≤ h 40 - 1) by omega), if_pos hc]
theorem hs_u_congr {g h : Int → Int} {i v j : Int} (H : ¬ j = i → h j = g j) : hs_u h i v j = hs_u g i v j := by
  by_cases hj : j = i
  · rw [hj, hs_u_self, hs_u_self]
  · rw [hs_u_ne hj, hs_u_ne hj]; exact H hj
theorem eq_dam {e : pu_E} {f : mo_E} (R : pu_Rel e f) (d wh : Int) {u : pu_K} (hu : pu_KB u) : mo_dam d wh f.1 = pu_dam d wh e.1 e.2.1 u := by
  obtain ⟨n, g, ct, Z⟩ := e
  obtain ⟨h, pa, pm⟩ := f
  obtain ⟨r1, r2, -, -, -, r6, r7, r8, -⟩ := R
  dsimp only at r1 r2 r6 r7 r8 ⊢
  unfold mo_dam pu_dam
  by_cases hc : 1 ≤ d ∧ d ≤ 50 ∧ 0 ≤ wh ∧ wh ≤ 1
  · rw [if_neg (show ¬ ¬ (1 ≤ d ∧ d ≤ 50 ∧ 0 ≤ wh ∧ wh ≤ 1) by omega), if_neg (show ¬ (d < 1 ∨ 50 < d ∨ wh < 0 ∨ 1 < wh) by omega), r7]
    by_cases hn : n = 0
    · rw [if_pos hn, if_pos hn]
    · rw [if_neg hn, if_neg hn]
      have sim := hs_up_sim (f := pu_dmF n g d) (g := mo_dmF h d) (fun k (x : Int × Int × (Int → Int)) (y : Int × Int) => (k = 0 ∧ x.2.1 = -1 ∧ y.2 = -9) ∨ (0 ≤ x.2.1 ∧ y.1 = x.1 ∧ y.2 = x.2.1)) (e := n) _ 0 (0, -1, u.1) (-9, -9) (Nat.le_refl _) (by omega) (Or.inl ⟨rfl, rfl, rfl⟩) (fun j x y h1 h2 hxy => by
        have b1 := r2 j
        have hw : mo_wat (hs_u h j (max 0 (min (h j + d) 50))) 0 (h 40 - 1) = (pu_pour (hs_u g j (min (g j + d) 50)) 0 (n - 1) x.2.2).1 := by
          rw [(pu_pour_at (a := 0) (b := n - 1) (hs_u_bd r2 (by omega)) (by omega)).1, r7, r8 j h1 h2, show max 0 (min (g j + d) 50) = min (g j + d) 50 by omega]
          exact mo_wat_congr (fun k q1 q2 => hs_u_congr (fun _ => r8 k q1 (by omega)))
        have hp : 0 ≤ (pu_pour (hs_u g j (min (g j + d) 50)) 0 (n - 1) x.2.2).1 := by
          rw [(pu_pour_at (a := 0) (b := n - 1) (hs_u_bd r2 (by omega)) (by omega)).1]
          exact mo_wat_nn
        unfold pu_dmF mo_dmF
        rw [hw]
        rcases hxy with ⟨q1, q2, q3⟩ | ⟨q1, q2, q3⟩
        · rw [if_neg (by omega), if_neg (by omega)]
          exact Or.inr ⟨hp, rfl, rfl⟩
        · by_cases hc2 : (pu_pour (hs_u g j (min (g j + d) 50)) 0 (n - 1) x.2.2).1 ≤ x.2.1
          · rw [if_pos hc2, if_pos (by omega)]
            exact Or.inr ⟨q1, q2, q3⟩
          · rw [if_neg hc2, if_neg (by omega)]
            exact Or.inr ⟨hp, rfl, rfl⟩)
      unfold mo_dm pu_dm
      rw [r7]
      rcases sim with ⟨q1, -⟩ | ⟨-, q2, q3⟩
      · exact absurd q1 hn
      · split
        · exact q2
        · exact q3
  · rw [if_pos hc, if_pos (show (d < 1 ∨ 50 < d ∨ wh < 0 ∨ 1 < wh) by omega)]
theorem eq_som {e : pu_E} {f : mo_E} (R : pu_Rel e f) : mo_som f.1 = pu_som e.1 e.2.1 := by
  obtain ⟨n, g, ct, Z⟩ := e
  obtain ⟨h, pa, pm⟩ := f
  obtain ⟨r1, r2, -, -, -, r6, r7, r8, -⟩ := R
  dsimp only at r1 r2 r6 r7 r8 ⊢
  unfold mo_som pu_som
  rw [r7]
  refine hs_up_congr _ 0 0 (Nat.le_refl _) (fun a x h1 h2 => ?_)
  unfold mo_somO pu_somO
  rw [r7]
  have sim := hs_up_sim (f := pu_somI g) (g := fun b x => x + mo_mn h a b) (fun k (x : Int × Int) (y : Int) => y = x.2 ∧ (x.1 = if k = a then 50 else mo_mn g a (k - 1))) (e := n) _ a (50, x) x (Nat.le_refl _) (by omega) ⟨rfl, by rw [if_pos rfl]⟩ (fun j x y h3 h4 hxy => by
    obtain ⟨q1, q2⟩ := hxy
    have hm : min x.1 (g j) = mo_mn g a j := by
      rw [q2]
      have := r2 j
      by_cases hk : j = a
      · rw [if_pos hk, hk, mo_mn_self]; have := r2 a; omega
      · rw [if_neg hk, mo_mn_join (a := a) (m := j - 1) (b := j) (by omega) (by omega), show j - 1 + 1 = j by omega, mo_mn_self]
    unfold pu_somI
    refine ⟨?_, ?_⟩
    · (try dsimp only)
      rw [hm, q1, mo_mn_congr (a := a) (b := j) h3 (fun k q1 q2 => r8 k (by omega) (by omega))]
    · (try dsimp only)
      rw [hm, if_neg (by omega), show j + 1 - 1 = j by omega])
  exact sim.1
theorem su_add {c d : Int → Int} {a : Int} : ∀ (n : Nat) (e : Int), (e - a).toNat ≤ n → su (fun i => c i + d i) a e = su c a e + su d a e := by
  intro n
  induction n with
  | zero => intro e h; rw [su_done (by omega), su_done (by omega), su_done (by omega)]; rfl
  | succ n ih =>
    intro e h
    by_cases hl : a < e
    · obtain ⟨e', rfl⟩ : ∃ e', e = e' + 1 := ⟨e - 1, by omega⟩
      rw [su_last (by omega), su_last (by omega), su_last (by omega), ih e' (by omega)]
      omega
    · rw [su_done (by omega), su_done (by omega), su_done (by omega)]; rfl
theorem eq_ranges {e : pu_E} {f : mo_E} (R : pu_Rel e f) (lo : Int) : mo_ranges lo f.1 = pu_ranges e.1 e.2.1 lo := by
  obtain ⟨n, g, ct, Z⟩ := e
  obtain ⟨h, pa, pm⟩ := f
  obtain ⟨r1, r2, -, -, -, r6, r7, r8, -⟩ := R
  dsimp only at r1 r2 r6 r7 r8 ⊢
  unfold mo_ranges pu_ranges
  by_cases hc : 0 ≤ lo ∧ lo ≤ 50
  · rw [if_neg (show ¬ ¬ (0 ≤ lo ∧ lo ≤ 50) by omega), if_neg (show ¬ ¬ (0 ≤ lo ∧ lo ≤ 50) by omega)]
    have e1 : mo_rg h lo = su (fun a => su (fun b => if mo_mn g a b < lo then 0 else 1) a n) 0 n := by
      unfold mo_rg
      rw [r7]
      show _ = hs_up _ 0 n 0
      refine hs_up_congr _ 0 0 (Nat.le_refl _) (fun a x h1 h2 => ?_)
      unfold mo_rgO
      rw [r7, ← su_acc _ a x (Nat.le_refl _)]
      refine hs_up_congr _ a x (Nat.le_refl _) (fun b y h3 h4 => ?_)
      (try dsimp only)
      rw [mo_mn_congr (a := a) (b := b) h3 (fun k q1 q2 => r8 k (by omega) (by omega))]
      split <;> rfl
    rw [e1]
    have key := hs_up_inv (f := pu_rgF g lo) (fun k (x : Int × Int) => x.1 = su (fun a => su (fun b => if mo_mn g a b < lo then 0 else 1) a k) 0 k ∧ x.2 = su (fun a => if mo_mn g a (k - 1) < lo then 0 else 1) 0 k) (e := n) _ 0 (0, 0) (Nat.le_refl _) r1.1 ⟨by rw [su_done (Int.le_refl 0)], by rw [su_done (Int.le_refl 0)]⟩ (fun k x h1 h2 hx => by
      obtain ⟨x1, x2⟩ := hx
      have t1 : su (fun a => su (fun b => if mo_mn g a b < lo then 0 else 1) a (k + 1)) 0 (k + 1) = su (fun a => su (fun b => if mo_mn g a b < lo then 0 else 1) a k) 0 k + su (fun a => if mo_mn g a k < lo then 0 else 1) 0 (k + 1) := by
        rw [su_last h1, su_last (c := fun a => if mo_mn g a k < lo then 0 else 1) h1]
        rw [su_congr (c := fun a => su (fun b => if mo_mn g a b < lo then 0 else 1) a (k + 1)) (d := fun a => su (fun b => if mo_mn g a b < lo then 0 else 1) a k + (if mo_mn g a k < lo then 0 else 1)) (a := 0) (e := k) (fun j q1 q2 => su_last (by omega))]
        rw [su_add _ k (Nat.le_refl _), su_last (Int.le_refl k), su_done (Int.le_refl k)]
        omega
      have t2 : su (fun a => if mo_mn g a k < lo then 0 else 1) 0 (k + 1) = if g k < lo then 0 else x.2 + 1 := by
        by_cases hg : g k < lo
        · rw [if_pos hg, su_congr (d := fun _ => 0) (fun j q1 q2 => by
            have := mo_mn_le (h := g) (a := j) (b := k) (j := k) (by omega) (Int.le_refl k)
            (try dsimp only)
            rw [if_pos (by omega)])]
          exact hs_up_ind (f := fun (i : Int) (x : Int) => x + 0) (fun x => x = 0) rfl (fun j y _ _ hy => by (try dsimp only); omega)
        · rw [if_neg hg, su_last h1, mo_mn_self, if_neg hg, x2]
          congr 1
          refine su_congr (fun j q1 q2 => ?_)
          (try dsimp only)
          rw [mo_mn_join (a := j) (m := k - 1) (b := k) (by omega) (by omega), show k - 1 + 1 = k by omega, mo_mn_self]
          by_cases hq : mo_mn g j (k - 1) < lo
          · rw [if_pos hq, if_pos (by omega)]
          · rw [if_neg hq, if_neg (by omega)]
      unfold pu_rgF
      by_cases hg : g k < lo
      · rw [if_pos hg]
        rw [if_pos hg] at t2
        refine ⟨?_, ?_⟩
        · (try dsimp only)
          rw [t1, t2, x1]
        · (try dsimp only)
          rw [show k + 1 - 1 = k by omega, t2]
      · rw [if_neg hg]
        rw [if_neg hg] at t2
        refine ⟨?_, ?_⟩
        · (try dsimp only)
          rw [t1, t2, x1]
        · (try dsimp only)
          rw [show k + 1 - 1 = k by omega, t2])
    unfold pu_rg
    exact key.1.symm
  · rw [if_pos hc, if_pos hc]
theorem eq_container {e : pu_E} {f : mo_E} (R : pu_Rel e f) (wh : Int) : mo_container wh f.1 = pu_container e.1 e.2.1 wh := by
  obtain ⟨n, g, ct, Z⟩ := e
  obtain ⟨h, pa, pm⟩ := f
  obtain ⟨r1, r2, -, -, -, r6, r7, r8, -⟩ := R
  dsimp only at r1 r2 r6 r7 r8 ⊢
  unfold mo_container pu_container
  by_cases hc : 0 ≤ wh ∧ wh ≤ 2
  · rw [if_neg (show ¬ ¬ (0 ≤ wh ∧ wh ≤ 2) by omega), if_neg (show ¬ (wh < 0 ∨ 2 < wh) by omega)]
    by_cases hn : n < 2
    · rw [if_pos hn]
      have : mo_ct h = (-9, -9, -9) := by
        unfold mo_ct
        rw [r7]
        refine hs_up_ind (fun x => x = (-9, -9, -9)) rfl (fun j y h1 h2 hy => ?_)
        unfold mo_ctO
        rw [hs_up_done (by omega)]
        exact hy
      rw [this]
      split
      · rfl
      · split <;> rfl
    · rw [if_neg hn]
      have stepI : ∀ (i j : Int) (x y : Int × Int × Int), 0 ≤ i → i < j → j < n → ((x.1 = -1 ∧ y.1 = -9) ∨ (x = y ∧ 0 ≤ x.1)) → (pu_ctI g i j x = mo_ctI h i j y ∧ 0 ≤ (pu_ctI g i j x).1) := by
        intro i j x y h1 h2 h3 hxy
        have b1 := r2 i
        have b2 := r2 j
        have hv : (if h i < h j then h i else h j) = min (g i) (g j) := by
          rw [r8 i h1 (by omega), r8 j (by omega) h3]
          split <;> omega
        have hp : 0 ≤ min (g i) (g j) * (j - i) := Int.mul_nonneg (by omega) (by omega)
        unfold pu_ctI mo_ctI
        rw [hv]
        generalize min (g i) (g j) * (j - i) = A at hp
        rcases hxy with ⟨q1, q2⟩ | ⟨q1, q2⟩
        · rw [if_neg (by omega), if_neg (by omega)]
          exact ⟨rfl, hp⟩
        · subst q1
          by_cases hA : A ≤ x.1
          · rw [if_pos hA]; exact ⟨rfl, q2⟩
          · rw [if_neg hA]; exact ⟨rfl, hp⟩
      have sim := hs_up_sim (f := pu_ctO n g) (g := mo_ctO h) (fun k (x y : Int × Int × Int) => (k = 0 ∧ x.1 = -1 ∧ y.1 = -9) ∨ (x = y ∧ 0 ≤ x.1)) (e := n) _ 0 (-1, 0, 0) (-9, -9, -9) (Nat.le_refl _) (by omega) (Or.inl ⟨rfl, rfl, rfl⟩) (fun i x y h1 h2 hxy => by
        unfold pu_ctO mo_ctO
        rw [r7]
        have s2 := hs_up_sim (f := pu_ctI g i) (g := mo_ctI h i) (fun k (x y : Int × Int × Int) => (k = i + 1 ∧ i = 0 ∧ x.1 = -1 ∧ y.1 = -9) ∨ (x = y ∧ 0 ≤ x.1)) (e := n) _ (i + 1) x y (Nat.le_refl _) (by omega) (by
          rcases hxy with ⟨q1, q2, q3⟩ | q
          · exact Or.inl ⟨rfl, q1, q2, q3⟩
          · exact Or.inr q) (fun j x y h3 h4 hxy => Or.inr (stepI i j x y h1 (by omega) h4 (by
            rcases hxy with ⟨-, -, q2, q3⟩ | q
            · exact Or.inl ⟨q2, q3⟩
            · exact Or.inr q)))
        rcases s2 with ⟨q1, q2, -⟩ | q
        · omega
        · exact Or.inr q)
      unfold mo_ct pu_ct
      rw [r7]
      rcases sim with ⟨q1, -⟩ | ⟨q1, -⟩
      · omega
      · rw [q1]
  · rw [if_pos hc, if_pos (show (wh < 0 ∨ 2 < wh) by omega)]
