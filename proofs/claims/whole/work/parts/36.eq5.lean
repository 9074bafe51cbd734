/-! pools -/
theorem mo_pool_d {n : Int} {g h d : Int → Int} (r7 : h 40 = n) (r8 : ∀ k, 0 ≤ k → k < n → h k = g k) (hd : ∀ j, 0 ≤ j → j ≤ n - 1 → d j = mo_dep g 0 (n - 1) j) : ∀ j, 0 ≤ j → j < n → mo_dep h 0 (h 40 - 1) j = d j ∧ 0 ≤ d j := by
  intro j h1 h2
  rw [r7, hd j h1 (by omega), mo_dep_congr h1 (by omega) (fun k q1 q2 => r8 k q1 (by omega))]
  exact ⟨rfl, mo_dep_nn h1 (by omega)⟩
theorem mo_bp_iff {n : Int} {h d : Int → Int} (r7 : h 40 = n) (hd : ∀ j, 0 ≤ j → j < n → mo_dep h 0 (h 40 - 1) j = d j ∧ 0 ≤ d j) {i : Int} (h1 : 0 ≤ i) (h2 : i < n) : mo_bp h i ↔ pu_sp d i := by
  obtain ⟨e1, e2⟩ := hd i h1 h2
  unfold mo_bp mo_wet pu_sp
  rw [e1]
  by_cases hi : i = 0
  · constructor
    · intro q; exact ⟨q.1.2, Or.inl hi⟩
    · intro q; exact ⟨⟨by omega, q.1⟩, fun z => by omega⟩
  · obtain ⟨e3, e4⟩ := hd (i - 1) (by omega) (by omega)
    rw [e3]
    constructor
    · intro q; exact ⟨q.1.2, Or.inr (by have := q.2; omega)⟩
    · intro q; exact ⟨⟨by omega, q.1⟩, fun z => by omega⟩
theorem mo_pb_eq {n : Int} {h d : Int → Int} (r7 : h 40 = n) (hd : ∀ j, 0 ≤ j → j < n → mo_dep h 0 (h 40 - 1) j = d j ∧ 0 ≤ d j) {q : Int} : ∀ (k : Nat) (i x : Int), (n - i).toNat ≤ k → 0 ≤ i → mo_pbU h i (q - x) = pu_psU d q n i x := by
  intro k
  induction k with
  | zero => intro i x h1 h2; rw [mo_pbU_done (by omega), pu_psU_done (by omega)]
  | succ k ih =>
    intro i x h1 h2
    by_cases hi : i < n
    · rw [mo_pbU_step (by omega), pu_psU_step hi]
      have hb := mo_bp_iff r7 hd h2 hi
      by_cases hp : pu_sp d i
      · rw [if_pos (hb.mpr hp), if_pos hp]
        by_cases hx : x = q
        · rw [if_pos hx, if_pos (by omega)]
        · rw [if_neg hx, if_neg (by omega), show q - x + (-1) = q - (x + 1) by omega]
          exact ih (i + 1) (x + 1) (by omega) (by omega)
      · rw [if_neg (fun z => hp (hb.mp z)), if_neg hp]
        exact ih (i + 1) x (by omega) (by omega)
    · rw [mo_pbU_done (by omega), pu_psU_done (by omega)]
theorem pu_psU_at {d : Int → Int} {q n : Int} : ∀ (k : Nat) (i x : Int), (n - i).toNat ≤ k → pu_psU d q n i x = -9 ∨ (i ≤ pu_psU d q n i x ∧ pu_psU d q n i x < n ∧ pu_sp d (pu_psU d q n i x)) := by
  intro k
  induction k with
  | zero => intro i x h1; exact Or.inl (pu_psU_done (by omega))
  | succ k ih =>
    intro i x h1
    by_cases hi : i < n
    · rw [pu_psU_step hi]
      by_cases hp : pu_sp d i
      · rw [if_pos hp]
        by_cases hx : x = q
        · rw [if_pos hx]; exact Or.inr ⟨Int.le_refl i, hi, hp⟩
        · rw [if_neg hx]
          rcases ih (i + 1) (x + 1) (by omega) with z | z
          · exact Or.inl z
          · exact Or.inr ⟨by omega, z.2⟩
      · rw [if_neg hp]
        rcases ih (i + 1) x (by omega) with z | z
        · exact Or.inl z
        · exact Or.inr ⟨by omega, z.2⟩
    · exact Or.inl (pu_psU_done (by omega))
theorem mo_pl_eq {n b : Int} {h d : Int → Int} (r7 : h 40 = n) (hd : ∀ j, 0 ≤ j → j < n → mo_dep h 0 (h 40 - 1) j = d j ∧ 0 ≤ d j) (hb : 0 ≤ b ∧ b < n) (hp : 0 < d b) : (b ≤ pu_pe d b n ∧ pu_pe d b n < n) ∧ mo_pl h b = (pu_pe d b n + 1, pu_sum d b (pu_pe d b n), mo_mx d b (pu_pe d b n)) := by
  have e0 := hd b hb.1 hb.2
  have hf : pu_pe d b n = hs_wh (pu_peP d n) (fun x => x + 1) (n - b).toNat b := by
    unfold pu_pe
    exact hs_wh_fuel (P := pu_peP d n) (f := fun x => x + 1) (fun x => x < n) (fun x => n - 1 - x) (fun x hx hP => by
      have := hP.1
      (try dsimp only)
      omega) _ _ b hb.2 (by (try dsimp only); omega) (by (try dsimp only); omega) (by (try dsimp only); omega)
  have sim := hs_wh_sim (P := pu_peP d n) (Q := mo_plP h) (f := fun x => x + 1) (g := mo_plF h) (fun (x : Int) (y : Int × Int × Int) => (b ≤ x ∧ x < n) ∧ y = (x + 1, su d b (x + 1), mo_mx d b x)) (fun x y hxy => by
    obtain ⟨q1, rfl⟩ := hxy
    constructor
    · unfold pu_peP mo_plP mo_wet
      (try dsimp only)
      constructor
      · intro z; rw [(hd (x + 1) (by omega) z.1).1]; exact ⟨by omega, z.2⟩
      · intro z
        have z1 : x + 1 < n := by have := z.1; omega
        rw [(hd (x + 1) (by omega) z1).1] at z
        exact ⟨z1, z.2⟩
    · intro z
      have z1 := z.1
      unfold mo_plF
      (try dsimp only)
      rw [(hd (x + 1) (by omega) z1).1, su_last (a := b) (e := x + 1) (by omega), mo_mx_join (g := d) (a := b) (m := x) (b := x + 1) (by omega) (by omega), mo_mx_self]
      refine ⟨by omega, ?_⟩
      rw [show (if d (x + 1) ≤ mo_mx d b x then mo_mx d b x else d (x + 1)) = max (mo_mx d b x) (d (x + 1)) by split <;> omega]) (n - b).toNat b (b + 1, su d b (b + 1), mo_mx d b b) ⟨by omega, rfl⟩
  rw [← hf] at sim
  obtain ⟨s1, s2⟩ := sim
  refine ⟨s1, ?_⟩
  unfold mo_pl
  rw [show (h 40 - b).toNat = (n - b).toNat by rw [r7], hs_wh_step (show mo_plP h (b, 0, 0) from ⟨by (try dsimp only); omega, by (try dsimp only); rw [e0.1]; exact hp⟩)]
  have e1 : mo_plF h (b, 0, 0) = (b + 1, su d b (b + 1), mo_mx d b b) := by
    unfold mo_plF
    (try dsimp only)
    rw [e0.1, su_step (show b < b + 1 by omega), su_done (Int.le_refl _), mo_mx_self, if_neg (by omega)]
    rw [show (0 : Int) + d b = d b + 0 by omega]
  rw [e1, s2]
  rfl
theorem eq_pool {e : pu_E} {f : mo_E} (R : pu_Rel e f) (q wh : Int) {u : pu_K} (hu : pu_KB u) : mo_pool q wh f.1 = pu_pool q wh e.1 e.2.1 u := by
  obtain ⟨n, g, ct, Z⟩ := e
  obtain ⟨h, pa, pm⟩ := f
  obtain ⟨r1, r2, -, -, -, r6, r7, r8, -⟩ := R
  dsimp only at r1 r2 r6 r7 r8 ⊢
  have hd := mo_pool_d r7 r8 (pu_pour_at (g := g) (d := u.1) (a := 0) (b := n - 1) r2 (by omega)).2
  unfold mo_pool pu_pool
  (try dsimp only)
  generalize (pu_pour g 0 (n - 1) u.1).2 = d at hd ⊢
  have hb : mo_pb h q = pu_ps d q n := by
    unfold mo_pb pu_ps
    have := mo_pb_eq r7 hd (q := q) _ 0 0 (Nat.le_refl _) (Int.le_refl 0)
    rw [show q - 0 = q by omega] at this
    exact this
  by_cases hc : q < 0 ∨ wh < 0 ∨ 4 < wh
  · rw [if_pos hc, if_pos (show q < 0 ∨ ¬ (0 ≤ wh ∧ wh ≤ 4) by omega)]
  · rw [if_neg hc, if_neg (show ¬ (q < 0 ∨ ¬ (0 ≤ wh ∧ wh ≤ 4)) by omega), hb]
    have rg : pu_ps d q n = -9 ∨ (0 ≤ pu_ps d q n ∧ pu_ps d q n < n ∧ pu_sp d (pu_ps d q n)) := pu_psU_at _ 0 0 (Nat.le_refl _)
    generalize pu_ps d q n = b at rg ⊢
    rcases rg with z | ⟨z1, z2, z3⟩
    · rw [if_pos z, if_pos z]
    · rw [if_neg (show ¬ b = -9 by omega), if_neg (show ¬ b = -9 by omega)]
      obtain ⟨p1, p2⟩ := mo_pl_eq r7 hd ⟨z1, z2⟩ z3.1
      rw [p2, (pu_lg_at (g := d) p1.1).1, r8 b z1 z2, (hd b z1 z2).1]
      by_cases w0 : wh = 0
      · rw [if_pos w0, if_pos w0]
      · rw [if_neg w0, if_neg w0]
        by_cases w1 : wh = 1
        · rw [if_pos w1, if_pos w1]; (try dsimp only); omega
        · rw [if_neg w1, if_neg w1]
/-! looking left and right -/
theorem hs_fd1_is {P : Int → Prop} [DecidablePred P] {i j : Int} (h1 : 0 ≤ j) (h2 : j ≤ i) (h3 : P j) (h4 : ∀ k, j < k → k ≤ i → ¬ P k) : hs_fd1 P i = j := by
  rcases hs_fd1_range (P := P) _ i (Nat.le_refl _) with ⟨-, q⟩ | ⟨q1, q2, q3, q4⟩
  · exact absurd h3 (q j h1 h2)
  · rcases Int.lt_trichotomy (hs_fd1 P i) j with z | z | z
    · exact absurd h3 (q4 j z h2)
    · exact z
    · exact absurd q3 (h4 _ z q2)
theorem hs_fd1_no {P : Int → Prop} [DecidablePred P] {i : Int} (h4 : ∀ k, 0 ≤ k → k ≤ i → ¬ P k) : hs_fd1 P i = -9 := by
  rcases hs_fd1_range (P := P) _ i (Nat.le_refl _) with ⟨q, -⟩ | ⟨q1, q2, q3, q4⟩
  · exact q
  · exact absurd q3 (h4 _ q1 q2)
theorem hs_fu1_is {P : Int → Prop} [DecidablePred P] {i j e : Int} (h1 : i ≤ j) (h2 : j < e) (h3 : P j) (h4 : ∀ k, i ≤ k → k < j → ¬ P k) : hs_fu1 P i e = j := by
  rcases hs_fu1_range (P := P) (e := e) _ i (Nat.le_refl _) with ⟨-, q⟩ | ⟨q1, q2, q3, q4⟩
  · exact absurd h3 (q j h1 h2)
  · rcases Int.lt_trichotomy (hs_fu1 P i e) j with z | z | z
    · exact absurd q3 (h4 _ q1 z)
    · exact z
    · exact absurd h3 (q4 j h1 z)
theorem hs_fu1_no {P : Int → Prop} [DecidablePred P] {i e : Int} (h4 : ∀ k, i ≤ k → k < e → ¬ P k) : hs_fu1 P i e = -9 := by
  rcases hs_fu1_range (P := P) (e := e) _ i (Nat.le_refl _) with ⟨q, -⟩ | ⟨q1, q2, q3, q4⟩
  · exact q
  · exact absurd q3 (h4 _ q1 q2)
theorem hs_fd1_congr {P Q : Int → Prop} [DecidablePred P] [DecidablePred Q] {i : Int} (H : ∀ j, 0 ≤ j → j ≤ i → (P j ↔ Q j)) : hs_fd1 P i = hs_fd1 Q i := by
  rcases hs_fd1_range (P := Q) _ i (Nat.le_refl _) with ⟨q1, q2⟩ | ⟨q1, q2, q3, q4⟩
  · rw [q1]; exact hs_fd1_no (fun k h1 h2 z => q2 k h1 h2 ((H k h1 h2).mp z))
  · exact hs_fd1_is q1 q2 ((H _ q1 q2).mpr q3) (fun k h1 h2 z => q4 k h1 h2 ((H k (by omega) h2).mp z))
theorem hs_fu1_congr {P Q : Int → Prop} [DecidablePred P] [DecidablePred Q] {i e : Int} (H : ∀ j, i ≤ j → j < e → (P j ↔ Q j)) : hs_fu1 P i e = hs_fu1 Q i e := by
  rcases hs_fu1_range (P := Q) (e := e) _ i (Nat.le_refl _) with ⟨q1, q2⟩ | ⟨q1, q2, q3, q4⟩
  · rw [q1]; exact hs_fu1_no (fun k h1 h2 z => q2 k h1 h2 ((H k h1 h2).mp z))
  · exact hs_fu1_is q1 q2 ((H _ q1 q2).mpr q3) (fun k h1 h2 z => q4 k h1 h2 ((H k h1 (by omega)).mp z))
theorem pu_sl_congr {n i : Int} {g h : Int → Int} (r8 : ∀ k, 0 ≤ k → k < n → h k = g k) (h1 : 0 ≤ i) (h2 : i < n) : pu_sl h i = pu_sl g i := by
  unfold pu_sl
  exact hs_fd1_congr (fun j q1 q2 => by rw [r8 j q1 (by omega), r8 i h1 h2])
theorem pu_gl_congr {n i : Int} {g h : Int → Int} (r8 : ∀ k, 0 ≤ k → k < n → h k = g k) (h1 : 0 ≤ i) (h2 : i < n) : pu_gl h i = pu_gl g i := by
  unfold pu_gl
  exact hs_fd1_congr (fun j q1 q2 => by rw [r8 j q1 (by omega), r8 i h1 h2])
theorem pu_sr_congr {n i : Int} {g h : Int → Int} (r8 : ∀ k, 0 ≤ k → k < n → h k = g k) (h1 : 0 ≤ i) (h2 : i < n) : pu_sr h n i = pu_sr g n i := by
  unfold pu_sr
  exact hs_fu1_congr (fun j q1 q2 => by rw [r8 j (by omega) q2, r8 i h1 h2])
theorem pu_gr_congr {n i : Int} {g h : Int → Int} (r8 : ∀ k, 0 ≤ k → k < n → h k = g k) (h1 : 0 ≤ i) (h2 : i < n) : pu_gr h n i = pu_gr g n i := by
  unfold pu_gr
  exact hs_fu1_congr (fun j q1 q2 => by rw [r8 j (by omega) q2, r8 i h1 h2])
/-- the stair, step by step -/
theorem eq_st {n q : Int} {g h : Int → Int} (r8 : ∀ k, 0 ≤ k → k < n → h k = g k) : ∀ (K : Nat) (M : Nat) (j c x : Int), j + 1 < (K : Int) → x + 1 ≤ (M : Int) → -1 ≤ j → j < x → x < n → c ≤ q → (∀ k, j < k → k < x → ¬ g k < g x) → (if (hs_wh (pu_stP q) (pu_stF g) K (j, c, x)).2.1 = q then (hs_wh (pu_stP q) (pu_stF g) K (j, c, x)).2.2 else -9) = (hs_wh (mo_saP q) (mo_slF h) M (x, c)).1 := by
  intro K
  induction K with
  | zero => intro M j c x h1 h2 h3; omega
  | succ K ih =>
    intro M j c x h1 h2 h3 h4 h5 h6 hv
    by_cases hc : c = q
    · rw [hs_wh_done (P := pu_stP q) (show ¬ pu_stP q (j, c, x) from fun z => by have := z.2; dsimp only at this; omega), hs_wh_done (P := mo_saP q) (show ¬ mo_saP q (x, c) from fun z => by have := z.1; dsimp only at this; omega)]
      rw [if_pos hc]
    · obtain ⟨M', rfl⟩ : ∃ M', M = M' + 1 := ⟨M - 1, by omega⟩
      by_cases hj : 0 ≤ j
      · rw [hs_wh_step (P := pu_stP q) (show pu_stP q (j, c, x) from ⟨hj, by (try dsimp only); omega⟩)]
        by_cases hg : g j < g x
        · have e1 : pu_stF g (j, c, x) = (j + (-1), c + 1, j) := by unfold pu_stF; (try dsimp only); rw [if_pos hg]
          have e2 : pu_sl h x = j := by
            rw [pu_sl_congr r8 (by omega) h5]
            unfold pu_sl
            exact hs_fd1_is hj (by omega) hg (fun k q1 q2 => hv k q1 (by omega))
          rw [e1, hs_wh_step (P := mo_saP q) (show mo_saP q (x, c) from ⟨by (try dsimp only); omega, by (try dsimp only); omega⟩)]
          have e3 : mo_slF h (x, c) = (j, c + 1) := by unfold mo_slF; (try dsimp only); rw [e2]
          rw [e3]
          exact ih M' (j + (-1)) (c + 1) j (by omega) (by omega) (by omega) (by omega) (by omega) (by omega) (fun k q1 q2 => by omega)
        · have e1 : pu_stF g (j, c, x) = (j + (-1), c, x) := by unfold pu_stF; (try dsimp only); rw [if_neg hg]
          rw [e1]
          exact ih (M' + 1) (j + (-1)) c x (by omega) h2 (by omega) (by omega) h5 h6 (fun k q1 q2 => by
            by_cases hk : k = j
            · rw [hk]; exact hg
            · exact hv k (by omega) q2)
      · rw [hs_wh_done (P := pu_stP q) (show ¬ pu_stP q (j, c, x) from fun z => by have := z.1; dsimp only at this; omega)]
        (try dsimp only)
        rw [if_neg hc, hs_wh_step (P := mo_saP q) (show mo_saP q (x, c) from ⟨by (try dsimp only); omega, by (try dsimp only); omega⟩)]
        have e2 : pu_sl h x = -9 := by
          rw [pu_sl_congr r8 (by omega) h5]
          unfold pu_sl
          exact hs_fd1_no (fun k q1 q2 => hv k (by omega) (by omega))
        have e3 : mo_slF h (x, c) = (-9, c + 1) := by unfold mo_slF; (try dsimp only); rw [e2]
        rw [e3, hs_wh_done (P := mo_saP q) (show ¬ mo_saP q (-9, c + 1) from fun z => z.2 rfl)]
theorem eq_stair {e : pu_E} {f : mo_E} (R : pu_Rel e f) (i q : Int) : mo_stair i q f.1 = pu_stair e.1 e.2.1 i q := by
  obtain ⟨n, g, ct, Z⟩ := e
  obtain ⟨h, pa, pm⟩ := f
  obtain ⟨r1, r2, -, -, -, r6, r7, r8, -⟩ := R
  dsimp only at r1 r2 r6 r7 r8 ⊢
  unfold mo_stair pu_stair
  by_cases hc : ¬ (0 ≤ i ∧ i < n) ∨ q < 0
  · rw [if_pos hc, if_pos (show ¬ (0 ≤ i ∧ i ≤ h 40 - 1) ∨ q < 0 by omega)]
  · rw [if_neg hc, if_neg (show ¬ (¬ (0 ≤ i ∧ i ≤ h 40 - 1) ∨ q < 0) by omega)]
    unfold mo_sta pu_sts pu_st
    exact (eq_st r8 _ _ (i - 1) 0 i (by omega) (by omega) (by omega) (by omega) (by omega) (by omega) (fun k q1 q2 => by omega)).symm
