/-! greatest and least heights, water -/
theorem mo_mx_congr {g h : Int → Int} {a b : Int} (hab : a ≤ b) (H : ∀ j, a ≤ j → j ≤ b → h j = g j) : mo_mx h a b = mo_mx g a b := by
  unfold mo_mx
  rw [H a (Int.le_refl a) hab]
  exact hs_up_congr _ a _ (Nat.le_refl _) (fun j y h1 h2 => by (try dsimp only); rw [H j h1 (by omega)])
theorem mo_mn_congr {g h : Int → Int} {a b : Int} (hab : a ≤ b) (H : ∀ j, a ≤ j → j ≤ b → h j = g j) : mo_mn h a b = mo_mn g a b := by
  unfold mo_mn
  rw [H a (Int.le_refl a) hab]
  exact hs_up_congr _ a _ (Nat.le_refl _) (fun j y h1 h2 => by (try dsimp only); rw [H j h1 (by omega)])
theorem mo_mx_self {g : Int → Int} {a : Int} : mo_mx g a a = g a := by
  obtain ⟨j, j1, j2, j3⟩ := mo_mx_ex (h := g) (Int.le_refl a)
  rw [← j3, show j = a by omega]
theorem mo_mn_self {g : Int → Int} {a : Int} : mo_mn g a a = g a := by
  obtain ⟨j, j1, j2, j3⟩ := mo_mn_ex (h := g) (Int.le_refl a)
  rw [← j3, show j = a by omega]
theorem mo_mx_join {g : Int → Int} {a m b : Int} (h1 : a ≤ m) (h2 : m < b) : mo_mx g a b = max (mo_mx g a m) (mo_mx g (m + 1) b) := by
  obtain ⟨j, j1, j2, j3⟩ := mo_mx_ex (h := g) (a := a) (b := b) (by omega)
  obtain ⟨p, p1, p2, p3⟩ := mo_mx_ex (h := g) (a := a) (b := m) h1
  obtain ⟨q, q1, q2, q3⟩ := mo_mx_ex (h := g) (a := m + 1) (b := b) (by omega)
  have e1 := mo_mx_ge (h := g) (a := a) (b := b) (j := p) p1 (by omega)
  have e2 := mo_mx_ge (h := g) (a := a) (b := b) (j := q) (by omega) q2
  by_cases hj : j ≤ m
  · have := mo_mx_ge (h := g) (a := a) (b := m) (j := j) j1 hj
    omega
  · have := mo_mx_ge (h := g) (a := m + 1) (b := b) (j := j) (by omega) j2
    omega
theorem mo_mn_join {g : Int → Int} {a m b : Int} (h1 : a ≤ m) (h2 : m < b) : mo_mn g a b = min (mo_mn g a m) (mo_mn g (m + 1) b) := by
  obtain ⟨j, j1, j2, j3⟩ := mo_mn_ex (h := g) (a := a) (b := b) (by omega)
  obtain ⟨p, p1, p2, p3⟩ := mo_mn_ex (h := g) (a := a) (b := m) h1
  obtain ⟨q, q1, q2, q3⟩ := mo_mn_ex (h := g) (a := m + 1) (b := b) (by omega)
  have e1 := mo_mn_le (h := g) (a := a) (b := b) (j := p) p1 (by omega)
  have e2 := mo_mn_le (h := g) (a := a) (b := b) (j := q) (by omega) q2
  by_cases hj : j ≤ m
  · have := mo_mn_le (h := g) (a := a) (b := m) (j := j) j1 hj
    omega
  · have := mo_mn_le (h := g) (a := m + 1) (b := b) (j := j) (by omega) j2
    omega
theorem mo_dep_min {g : Int → Int} {a b i : Int} : mo_dep g a b i = min (mo_mx g a i) (mo_mx g i b) - g i := by
  unfold mo_dep
  split <;> omega
theorem mo_dep_congr {g h : Int → Int} {a b i : Int} (h1 : a ≤ i) (h2 : i ≤ b) (H : ∀ j, a ≤ j → j ≤ b → h j = g j) : mo_dep h a b i = mo_dep g a b i := by
  rw [mo_dep_min, mo_dep_min, mo_mx_congr h1 (fun j q1 q2 => H j q1 (by omega)), mo_mx_congr h2 (fun j q1 q2 => H j (by omega) q2), H i h1 h2]
theorem mo_dep_nn {g : Int → Int} {a b i : Int} (h1 : a ≤ i) (h2 : i ≤ b) : 0 ≤ mo_dep g a b i := by
  have := mo_mx_ge (h := g) (a := a) (b := i) (j := i) h1 (Int.le_refl i)
  have := mo_mx_ge (h := g) (a := i) (b := b) (j := i) (Int.le_refl i) h2
  rw [mo_dep_min]
  omega
theorem mo_wat_su (g : Int → Int) (a b : Int) : mo_wat g a b = su (mo_dep g a b) a (b + 1) := rfl
theorem mo_wat_congr {g h : Int → Int} {a b : Int} (H : ∀ j, a ≤ j → j ≤ b → h j = g j) : mo_wat h a b = mo_wat g a b := by
  rw [mo_wat_su, mo_wat_su]
  exact su_congr (fun j h1 h2 => mo_dep_congr h1 (by omega) H)
theorem pu_wall_at {g d : Int → Int} {a b : Int} (hg : ∀ k, 0 ≤ g k ∧ g k ≤ 50) (hab : a ≤ b + 1) : ∀ j, (pu_wall g a b d).2 j = if a ≤ j ∧ j < b + 1 then mo_mx g a j else d j := by
  unfold pu_wall
  have key := hs_up_inv (f := fun i (x : Int × (Int → Int)) => (max x.1 (g i), hs_u x.2 i (max x.1 (g i)))) (fun k x => (x.1 = if k = a then 0 else mo_mx g a (k - 1)) ∧ ∀ j, x.2 j = if a ≤ j ∧ j < k then mo_mx g a j else d j) (e := b + 1) _ a (0, d) (Nat.le_refl _) hab ⟨by rw [if_pos rfl], fun j => by rw [if_neg (by omega)]⟩ (fun k x h1 h2 hx => by
    obtain ⟨x1, x2⟩ := hx
    have hm : max x.1 (g k) = mo_mx g a k := by
      rw [x1]
      have := hg k
      by_cases hk : k = a
      · rw [if_pos hk, hk, mo_mx_self]; have := hg a; omega
      · rw [if_neg hk, mo_mx_join (a := a) (m := k - 1) (b := k) (by omega) (by omega), show k - 1 + 1 = k by omega, mo_mx_self]
    refine ⟨?_, fun j => ?_⟩
    · (try dsimp only)
      rw [hm, if_neg (by omega), show k + 1 - 1 = k by omega]
    · (try dsimp only)
      rw [hm]
      by_cases hj : j = k
      · rw [hj, hs_u_self, if_pos (by omega)]
      · rw [hs_u_ne hj, x2 j]
        by_cases hq : a ≤ j ∧ j < k
        · rw [if_pos hq, if_pos (by omega)]
        · rw [if_neg hq, if_neg (by omega)])
  exact key.2
theorem pu_pour_at {g d : Int → Int} {a b : Int} (hg : ∀ k, 0 ≤ g k ∧ g k ≤ 50) (hab : a ≤ b + 1) : (pu_pour g a b d).1 = mo_wat g a b ∧ ∀ j, a ≤ j → j ≤ b → (pu_pour g a b d).2 j = mo_dep g a b j := by
  have hw := pu_wall_at (d := d) hg hab
  rw [mo_wat_su]
  unfold pu_pour pu_pr
  generalize (pu_wall g a b d).2 = d1 at hw
  have key := hs_dn_ind (f := fun i (x : Int × Int × (Int → Int)) => (max x.1 (g i), x.2.1 + hs_u x.2.2 i (min (x.2.2 i) (max x.1 (g i)) - g i) i, hs_u x.2.2 i (min (x.2.2 i) (max x.1 (g i)) - g i))) (fun k x => (x.1 = if k = b then 0 else mo_mx g (k + 1) b) ∧ x.2.1 = su (mo_dep g a b) (k + 1) (b + 1) ∧ ∀ j, a ≤ j → j ≤ b → x.2.2 j = if k < j then mo_dep g a b j else mo_mx g a j) (e := a) _ b (0, 0, d1) (Nat.le_refl _) hab ⟨by rw [if_pos rfl], by rw [su_done (Int.le_refl _)], fun j h1 h2 => by (try dsimp only); rw [if_neg (by omega), hw j, if_pos (by omega)]⟩ (fun k x h1 h2 hx => by
    obtain ⟨x1, x2, x3⟩ := hx
    have hm : max x.1 (g k) = mo_mx g k b := by
      rw [x1]
      have := hg k
      by_cases hk : k = b
      · rw [if_pos hk, hk, mo_mx_self]; have := hg b; omega
      · rw [if_neg hk, mo_mx_join (a := k) (m := k) (b := b) (by omega) (by omega), mo_mx_self]; omega
    have hv : min (x.2.2 k) (max x.1 (g k)) - g k = mo_dep g a b k := by
      rw [hm, x3 k h1 (by omega), if_neg (by omega), mo_dep_min]
    refine ⟨?_, ?_, fun j q1 q2 => ?_⟩
    · (try dsimp only)
      rw [hm, if_neg (by omega), show k + (-1) + 1 = k by omega]
    · (try dsimp only)
      rw [hv, hs_u_self, x2, show k + (-1) + 1 = k by omega, su_step (show k < b + 1 by omega)]
      omega
    · (try dsimp only)
      rw [hv]
      by_cases hj : j = k
      · rw [hj, hs_u_self, if_pos (by omega)]
      · rw [hs_u_ne hj, x3 j q1 q2]
        by_cases hq : k < j
        · rw [if_pos hq, if_pos (by omega)]
        · rw [if_neg hq, if_neg (by omega)])
  refine ⟨?_, fun j h1 h2 => ?_⟩
  · rw [key.2.1, show a - 1 + 1 = a by omega]
  · rw [key.2.2 j h1 h2, if_pos (by omega)]
theorem hs_map_at {F : Int → Int → Int} {x : Int → Int} {a e : Int} (hae : a ≤ e) (j : Int) : hs_up (fun i (y : Int → Int) => hs_u y i (F i (y i))) a e x j = if a ≤ j ∧ j < e then F j (x j) else x j := by
  have := hs_up_inv (f := fun i (y : Int → Int) => hs_u y i (F i (y i))) (fun k y => ∀ j, y j = if a ≤ j ∧ j < k then F j (x j) else x j) (e := e) _ a x (Nat.le_refl _) hae (fun j => by rw [if_neg (by omega)]) (fun k y h1 h2 hy j => by
    (try dsimp only)
    by_cases hj : j = k
    · rw [hj, hs_u_self, hy k, if_neg (by omega), if_pos (by omega)]
    · rw [hs_u_ne hj, hy j]
      by_cases hq : a ≤ j ∧ j < k
      · rw [if_pos hq, if_pos (by omega)]
      · rw [if_neg hq, if_neg (by omega)])
  exact this j
theorem eq_freeze {e : pu_E} {f : mo_E} (R : pu_Rel e f) (d w : Int → Int) : (mo_freeze w f).1 = (pu_freeze d e).1 ∧ pu_Rel (pu_freeze d e).2 (mo_freeze w f).2 := by
  obtain ⟨n, g, ct, Z⟩ := e
  obtain ⟨h, pa, pm⟩ := f
  obtain ⟨r1, r2, r3, r4, r5, r6, r7, r8, r9, r10, r11⟩ := id R
  dsimp only at r1 r2 r3 r4 r5 r6 r7 r8 r9 r10 r11
  unfold mo_freeze pu_freeze
  (try dsimp only)
  obtain ⟨p1, p2⟩ := pu_pour_at (g := g) (d := d) (a := 0) (b := n - 1) r2 (by omega)
  have H : ∀ j, 0 ≤ j → j ≤ n - 1 → h j = g j := fun j q1 q2 => r8 j q1 (by omega)
  have cg : ∀ j, hs_up (pu_fzF (pu_pour g 0 (n - 1) d).2) 0 n g j = if 0 ≤ j ∧ j < n then g j + (pu_pour g 0 (n - 1) d).2 j else g j := fun j => hs_map_at (F := fun i y => y + (pu_pour g 0 (n - 1) d).2 i) r1.1 j
  have cw : ∀ j, mo_wetA h w j = if 0 ≤ j ∧ j < h 40 then mo_dep h 0 (h 40 - 1) j else w j := fun j => hs_map_at (F := fun i _ => mo_dep h 0 (h 40 - 1) i) (by omega) j
  have ch : ∀ j, mo_frzH h w j = if 0 ≤ j ∧ j < h 40 then h j + mo_wetA h w j else h j := fun j => hs_map_at (F := fun i y => y + mo_wetA h w i) (by omega) j
  have hd : ∀ j, 0 ≤ j → j < n → mo_dep h 0 (h 40 - 1) j = mo_dep g 0 (n - 1) j := fun j q1 q2 => by rw [r7]; exact mo_dep_congr q1 (by omega) H
  have hb : ∀ j, 0 ≤ j → j < n → 0 ≤ g j + mo_dep g 0 (n - 1) j ∧ g j + mo_dep g 0 (n - 1) j ≤ 50 := fun j q1 q2 => by
    have m1 := mo_mx_bd (a := 0) (b := j) r2
    have m2 := mo_mx_bd (a := j) (b := n - 1) r2
    have m3 := mo_dep_nn (g := g) (a := 0) (b := n - 1) (i := j) q1 (by omega)
    have m4 := r2 j
    rw [mo_dep_min] at m3 ⊢
    omega
  refine ⟨by rw [p1, r7]; exact mo_wat_congr H, rel_rem R r1 (fun k => ?_) (fun k => ?_) ?_ (fun k k0 k1 => ?_)⟩
  · rw [cg k]
    by_cases hk : 0 ≤ k ∧ k < n
    · rw [if_pos hk, p2 k hk.1 (by omega)]; exact hb k hk.1 hk.2
    · rw [if_neg hk]; exact r2 k
  · rw [ch k]
    by_cases hk : 0 ≤ k ∧ k < h 40
    · rw [if_pos hk, cw k, if_pos hk, hd k hk.1 (by omega), r8 k hk.1 (by omega)]; exact hb k hk.1 (by omega)
    · rw [if_neg hk]; exact r6 k
  · rw [ch 40, if_neg (by omega)]; exact r7
  · rw [ch k, if_pos (by omega), cw k, if_pos (by omega), cg k, if_pos (by omega), p2 k k0 (by omega), hd k k0 k1, r8 k k0 k1]
/-! the lowest of the greatest, the lowest of the least -/
theorem pu_lg_at {g : Int → Int} {a b : Int} (hab : a ≤ b) : g (pu_lg g a b) = mo_mx g a b ∧ (∀ j, a ≤ j → j < pu_lg g a b → g j < mo_mx g a b) := by
  have rg := pu_lg_rg g hab
  have key := hs_up_inv (f := fun i x => if g i > g x then i else x) (fun k x => (a ≤ x ∧ x < k) ∧ (∀ j, a ≤ j → j < k → g j ≤ g x) ∧ ∀ j, a ≤ j → j < x → g j < g x) (e := b + 1) _ (a + 1) a (Nat.le_refl _) (by omega) ⟨by omega, fun j q1 q2 => by rw [show j = a by omega]; omega, fun j q1 q2 => by omega⟩ (fun k x h1 h2 hx => by
    obtain ⟨x1, x2, x3⟩ := hx
    (try dsimp only)
    by_cases hc : g k > g x
    · rw [if_pos hc]
      refine ⟨by omega, fun j q1 q2 => ?_, fun j q1 q2 => ?_⟩
      · by_cases hj : j = k
        · rw [hj]; omega
        · have := x2 j q1 (by omega); omega
      · have := x2 j q1 (by omega); omega
    · rw [if_neg hc]
      refine ⟨by omega, fun j q1 q2 => ?_, x3⟩
      by_cases hj : j = k
      · rw [hj]; omega
      · exact x2 j q1 (by omega))
  have e : g (pu_lg g a b) = mo_mx g a b := by
    obtain ⟨j, j1, j2, j3⟩ := mo_mx_ex (h := g) hab
    have q1 := mo_mx_ge (h := g) (a := a) (b := b) (j := pu_lg g a b) rg.1 rg.2
    have q2 := key.2.1 j j1 (by omega)
    have q3 : g (hs_up (fun i x => if g i > g x then i else x) (a + 1) (b + 1) a) = g (pu_lg g a b) := rfl
    omega
  exact ⟨e, fun j q1 q2 => by rw [← e]; exact key.2.2 j q1 q2⟩
theorem pu_ll_at {g : Int → Int} {a b : Int} (hab : a ≤ b) : g (pu_ll g a b) = mo_mn g a b ∧ (∀ j, a ≤ j → j < pu_ll g a b → mo_mn g a b < g j) := by
  have rg := pu_ll_rg g hab
  have key := hs_up_inv (f := fun i x => if g i < g x then i else x) (fun k x => (a ≤ x ∧ x < k) ∧ (∀ j, a ≤ j → j < k → g x ≤ g j) ∧ ∀ j, a ≤ j → j < x → g x < g j) (e := b + 1) _ (a + 1) a (Nat.le_refl _) (by omega) ⟨by omega, fun j q1 q2 => by rw [show j = a by omega]; omega, fun j q1 q2 => by omega⟩ (fun k x h1 h2 hx => by
    obtain ⟨x1, x2, x3⟩ := hx
    (try dsimp only)
    by_cases hc : g k < g x
    · rw [if_pos hc]
      refine ⟨by omega, fun j q1 q2 => ?_, fun j q1 q2 => ?_⟩
      · by_cases hj : j = k
        · rw [hj]; omega
        · have := x2 j q1 (by omega); omega
      · have := x2 j q1 (by omega); omega
    · rw [if_neg hc]
      refine ⟨by omega, fun j q1 q2 => ?_, x3⟩
      by_cases hj : j = k
      · rw [hj]; omega
      · exact x2 j q1 (by omega))
  have e : g (pu_ll g a b) = mo_mn g a b := by
    obtain ⟨j, j1, j2, j3⟩ := mo_mn_ex (h := g) hab
    have q1 := mo_mn_le (h := g) (a := a) (b := b) (j := pu_ll g a b) rg.1 rg.2
    have q2 := key.2.1 j j1 (by omega)
    have q3 : g (hs_up (fun i x => if g i < g x then i else x) (a + 1) (b + 1) a) = g (pu_ll g a b) := rfl
    omega
  exact ⟨e, fun j q1 q2 => by rw [← e]; exact key.2.2 j q1 q2⟩
/-- the first place with a value, found from both sides -/
theorem mo_fw_uniq {h : Int → Int} {a v p : Int} (h1 : a ≤ p) (h2 : p ≤ 40) (h3 : h p = v) (h4 : ∀ j, a ≤ j → j < p → ¬ h j = v) : mo_fw h a v = p := by
  obtain ⟨q1, q2, q3, -⟩ := mo_fw_spec h1 h2 h3
  rcases Int.lt_or_eq_of_le q2 with g | g
  · exact absurd q3 (h4 _ q1 g)
  · exact g
