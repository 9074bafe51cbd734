/-! RECTANGLES: the reference's side -/
def mk (x : mo_R) (q : Int) : Int := ky (x.2.1 q) (x.2.2.1 q) (x.2.2.2 q)
def mro (h : Int → Int) (f l : Int) : Prop := (0 ≤ f ∧ f ≤ l ∧ l ≤ h 40 - 1) ∧ mo_max h f l
def minv (h : Int → Int) (a b : Int) (x : mo_R) : Prop := 0 ≤ x.1 ∧ (∀ i j, 0 ≤ i → i < j → j < x.1 → mk x i < mk x j) ∧ (∀ q, 0 ≤ q → q < x.1 → mro h (x.2.2.1 q) (x.2.2.2 q) ∧ x.2.1 q = mo_mn h (x.2.2.1 q) (x.2.2.2 q) * (x.2.2.2 q - x.2.2.1 q + 1) ∧ (x.2.2.1 q < a ∨ (x.2.2.1 q = a ∧ x.2.2.2 q < b))) ∧ (∀ f l, mro h f l → (f < a ∨ (f = a ∧ l < b)) → ∃ q, 0 ≤ q ∧ q < x.1 ∧ x.2.2.1 q = f ∧ x.2.2.2 q = l)
theorem minv_step {h : Int → Int} {a b : Int} {x : mo_R} (hN : h 40 ≤ 40) (ha : 0 ≤ a ∧ a ≤ b ∧ b < h 40) (hx : minv h a b x) : minv h a (b + 1) (mo_lyI h a b x) := by
  obtain ⟨x1, x2, x3, x4⟩ := hx
  unfold mo_lyI
  by_cases hm : mo_max h a b
  · rw [if_pos hm]
    obtain ⟨p, p1, p2, i1, i2, i3, i5, i6⟩ := mo_put_at (a := a) (b := b) (v := mo_mn h a b * (b - a + 1)) x1
    generalize hv : mo_mn h a b * (b - a + 1) = v at p2 i1 i2 i3 i5 i6 ⊢
    generalize mo_put a b v x = y at p2 i1 i2 i3 ⊢
    have hkk : insd p x.1 (ky v a b) (mk x) (mk y) := by
      refine ⟨fun q hq => ?_, ?_, fun q q1 q2 => ?_⟩
      · unfold mk; rw [i1.1 q hq, i2.1 q hq, i3.1 q hq]
      · unfold mk; rw [i1.2.1, i2.2.1, i3.2.1]
      · unfold mk; rw [i1.2.2 q q1 q2, i2.2.2 q q1 q2, i3.2.2 q q1 q2]
    refine ⟨by omega, ?_, ?_, ?_⟩
    · rw [p2]
      refine ins_sorted x2 p1 hkk ?_ (fun q q1 q2 => ?_)
      · by_cases e : p = 0
        · exact Or.inl e
        · right
          have c2 : ¬ x.2.1 (p - 1) < v := by
            rcases i6 with z | z
            · omega
            · exact z
          obtain ⟨r1, r2, r3⟩ := x3 (p - 1) (by omega) (by omega)
          have r4 := r1.1
          unfold mk ky
          omega
      · have c2 := i5 q q1 q2
        obtain ⟨r1, r2, r3⟩ := x3 q (by omega) q2
        have r4 := r1.1
        unfold mk ky
        omega
    · intro q q0 q1
      rcases Int.lt_trichotomy q p with e | e | e
      · rw [i1.1 q e, i2.1 q e, i3.1 q e]
        obtain ⟨r1, r2, r3⟩ := x3 q q0 (by omega)
        exact ⟨r1, r2, by omega⟩
      · rw [e, i1.2.1, i2.2.1, i3.2.1]; exact ⟨⟨by omega, hm⟩, hv.symm, by omega⟩
      · rw [i1.2.2 q e (by omega), i2.2.2 q e (by omega), i3.2.2 q e (by omega)]
        obtain ⟨r1, r2, r3⟩ := x3 (q - 1) (by omega) (by omega)
        exact ⟨r1, r2, by omega⟩
    · intro f l hr ho
      by_cases e : f = a ∧ l = b
      · exact ⟨p, by omega, by omega, by rw [i2.2.1]; omega, by rw [i3.2.1]; omega⟩
      · obtain ⟨q, q0, q1, q2, q3⟩ := x4 f l hr (by omega)
        rcases (show q < p ∨ p ≤ q by omega) with z | z
        · exact ⟨q, q0, by omega, by rw [i2.1 q z]; exact q2, by rw [i3.1 q z]; exact q3⟩
        · exact ⟨q + 1, by omega, by omega, by rw [i2.2.2 (q + 1) (by omega) (by omega), show q + 1 - 1 = q by omega]; exact q2, by rw [i3.2.2 (q + 1) (by omega) (by omega), show q + 1 - 1 = q by omega]; exact q3⟩
  · rw [if_neg hm]
    refine ⟨x1, x2, fun q q0 q1 => ?_, fun f l hr ho => ?_⟩
    · obtain ⟨r1, r2, r3⟩ := x3 q q0 q1
      exact ⟨r1, r2, by omega⟩
    · by_cases e : f = a ∧ l = b
      · obtain ⟨rfl, rfl⟩ := e
        exact absurd hr.2 hm
      · exact x4 f l hr (by omega)
theorem mo_ly_at {h : Int → Int} {x : mo_R} (hN : 0 ≤ h 40 ∧ h 40 ≤ 40) : minv h (h 40) (h 40) (mo_ly h x) := by
  unfold mo_ly
  refine hs_up_inv (f := mo_lyO h) (fun k x => minv h k k x) (e := h 40) _ 0 (0, x.2) (Nat.le_refl _) hN.1 ⟨Int.le_refl 0, fun i j i0 i1 i2 => by dsimp only at i2; omega, fun q q0 q1 => by dsimp only at q1; omega, fun f l hr ho => by have := hr.1; omega⟩ (fun k x h1 h2 hx => ?_)
  unfold mo_lyO
  have := hs_up_inv (f := mo_lyI h k) (fun b x => minv h k b x) (e := h 40) _ k x (Nat.le_refl _) (by omega) hx (fun b x h3 h4 hx => minv_step hN.2 ⟨h1, h3, h4⟩ hx)
  obtain ⟨x1, x2, x3, x4⟩ := this
  refine ⟨x1, x2, fun q q0 q1 => ?_, fun f l hr ho => ?_⟩
  · obtain ⟨r1, r2, r3⟩ := x3 q q0 q1
    exact ⟨r1, r2, by omega⟩
  · have := hr.1
    exact x4 f l hr (by omega)
/-- a rectangle's least height is its owner's -/
theorem rok_mn {n a b f l t o : Int} {g h : Int → Int} (r8 : ∀ k, 0 ≤ k → k < n → h k = g k) (h0 : 0 ≤ a) (hb : b < n) (hr : rok g a b f l t o) : mo_mn h f l = g o := by
  obtain ⟨a1, -, -, a2, a3, -⟩ := hr
  obtain ⟨j, j1, j2, j3⟩ := mo_mn_ex (h := h) (a := f) (b := l) (by omega)
  have m1 := mo_mn_le (h := h) (a := f) (b := l) (j := o) (by omega) (by omega)
  rw [r8 o (by omega) (by omega)] at m1
  rw [r8 j (by omega) (by omega)] at j3
  rcases Int.lt_trichotomy j o with e | e | e
  · have := a2 j j1 e; omega
  · rw [e] at j3; omega
  · have := a3 j e j2; omega
theorem rt_rok {n a b f l : Int} {g h : Int → Int} (r8 : ∀ k, 0 ≤ k → k < n → h k = g k) (h0 : 0 ≤ a) (hb : b < n) (hn : n ≤ 40) (hf : a ≤ f ∧ f ≤ l ∧ l ≤ b) (hp : 0 < mo_mn h f l) (h1 : f = a ∨ h (f - 1) < mo_mn h f l) (h2 : l = b ∨ h (l + 1) < mo_mn h f l) : rok g a b f l (g (mo_rt h f l)) (mo_rt h f l) := by
  obtain ⟨s1, s2, s3, s4⟩ := mo_rt_spec (h := h) (a := f) (b := l) hf.2.1 (by omega)
  have e1 := r8 (mo_rt h f l) (by omega) (by omega)
  refine ⟨by omega, rfl, by omega, fun j q1 q2 => ?_, fun j q1 q2 => ?_, ?_, ?_⟩
  · have m1 := mo_mn_le (h := h) (a := f) (b := l) (j := j) q1 (by omega)
    have m2 := s4 j q1 q2
    rw [r8 j (by omega) (by omega)] at m1 m2
    omega
  · have m1 := mo_mn_le (h := h) (a := f) (b := l) (j := j) (by omega) q2
    rw [r8 j (by omega) (by omega)] at m1
    omega
  · by_cases e : f = a
    · exact Or.inl e
    · rcases h1 with z | z
      · exact Or.inl z
      · rw [r8 (f - 1) (by omega) (by omega)] at z; exact Or.inr (by omega)
  · by_cases e : l = b
    · exact Or.inl e
    · rcases h2 with z | z
      · exact Or.inl z
      · rw [r8 (l + 1) (by omega) (by omega)] at z; exact Or.inr (by omega)
theorem rect_same {n : Int} {g h : Int → Int} (hn : 0 ≤ n ∧ n ≤ 40) (r7 : h 40 = n) (r8 : ∀ k, 0 ≤ k → k < n → h k = g k) {x : pu_R} {y : mo_R} (hx : cinv g 0 (n - 1) (n - 1 + 1) x) (hy : minv h (h 40) (h 40) y) : x.1 = y.1 ∧ ∀ q, 0 ≤ q → q < x.1 → rok g 0 (n - 1) (x.2.1 q) (x.2.2.1 q) (x.2.2.2.1 q) (x.2.2.2.2 q) ∧ y.2.1 q = x.2.2.2.1 q * (x.2.2.1 q - x.2.1 q + 1) ∧ y.2.2.1 q = x.2.1 q ∧ y.2.2.2 q = x.2.2.1 q := by
  obtain ⟨x1, x2, x3, x4⟩ := hx
  obtain ⟨y1, y2, y3, y4⟩ := hy
  have key := seq_eq (K := pk x) (M := mk y) (c := x.1) (d := y.1) x2 y2 (fun q q0 q1 => by
    obtain ⟨r, -⟩ := x3 q q0 q1
    have m := rok_mn r8 (Int.le_refl 0) (by omega) r
    have r' := r
    obtain ⟨a1, a0, ap, a2, a3, a4, a5⟩ := r'
    obtain ⟨p, p0, p1, p2, p3⟩ := y4 (x.2.1 q) (x.2.2.1 q) ⟨by omega, by rw [m]; exact ap, by
      by_cases e : x.2.1 q = 0
      · exact Or.inl e
      · rw [m, r8 _ (by omega) (by omega)]; exact a4, by
      by_cases e : x.2.2.1 q = h 40 - 1
      · exact Or.inl e
      · right
        rw [m, r8 _ (by omega) (by omega)]
        rcases a5 with z | z
        · omega
        · exact z⟩ (by omega)
    refine ⟨p, p0, p1, ?_⟩
    unfold mk pk
    rw [(y3 p p0 p1).2.1, p2, p3, m, a0]) (fun q q0 q1 => by
    obtain ⟨⟨b1, b2⟩, b3, b4⟩ := y3 q q0 q1
    have r := rt_rok (a := 0) (b := n - 1) r8 (Int.le_refl 0) (by omega) hn.2 (by omega) b2.1 b2.2.1 (by have := b2.2.2; omega)
    obtain ⟨p, p0, p1, p2⟩ := x4 _ _ _ _ r (by have := r.1; omega)
    obtain ⟨rp, -⟩ := x3 p p0 p1
    rw [p2] at rp
    obtain ⟨e1, e2⟩ := rok_ext rp r
    refine ⟨p, p0, p1, ?_⟩
    unfold mk pk
    rw [b3, e1, e2, rp.2.1, rok_mn r8 (Int.le_refl 0) (by omega) r])
  have hcd : x.1 = y.1 := by
    have k1 := (key x.1.toNat x.1 (by omega) x1).1
    have k2 := (key y.1.toNat y.1 (by omega) y1).1
    omega
  refine ⟨hcd, fun q q0 q1 => ?_⟩
  have k1 := (key q.toNat q (by omega) q0).2 q1
  obtain ⟨r, -⟩ := x3 q q0 q1
  obtain ⟨b1, -, -⟩ := y3 q q0 (by omega)
  have b2 := b1.1
  have r2 := r.1
  unfold pk mk at k1
  obtain ⟨e1, e2, e3⟩ := ky_inj (by omega) (by omega) (by omega) (by omega) k1
  exact ⟨r, e1.symm, e2.symm, e3.symm⟩
theorem eq_rectangle {e : pu_E} {f : mo_E} (R : pu_Rel e f) (q wh : Int) {u : pu_K} (hu : pu_KB u) (v : mo_U) : mo_rectangle q wh f.1 v = pu_rectangle q wh e.1 e.2.1 u := by
  obtain ⟨n, g, ct, Z⟩ := e
  obtain ⟨h, pa, pm⟩ := f
  obtain ⟨r1, r2, -, -, -, r6, r7, r8, -⟩ := R
  dsimp only at r1 r2 r6 r7 r8 ⊢
  unfold mo_rectangle pu_rectangle
  (try dsimp only)
  have same := rect_same r1 r7 r8 (pu_find_at (g := g) (a := 0) (b := n - 1) (x := u.2.1) (Int.le_refl 0) (by omega) (by omega)) (mo_ly_at (h := h) (x := (0, v.1.1, v.1.2.1, v.1.2.2)) (by omega))
  generalize pu_find g 0 (n - 1) u.2.1 = x at same ⊢
  generalize mo_ly h (0, v.1.1, v.1.2.1, v.1.2.2) = y at same ⊢
  obtain ⟨s1, s2⟩ := same
  by_cases hc : q < 0 ∨ wh < 0 ∨ 5 < wh
  · rw [if_pos hc, if_pos (show q < 0 ∨ ¬ (0 ≤ wh ∧ wh ≤ 5) by omega)]
  · rw [if_neg hc, if_neg (show ¬ (q < 0 ∨ ¬ (0 ≤ wh ∧ wh ≤ 5)) by omega), ← s1]
    by_cases hq : x.1 ≤ q
    · rw [if_pos hq, if_pos hq]
    · rw [if_neg hq, if_neg hq]
      obtain ⟨r, a1, a2, a3⟩ := s2 q (by omega) (by omega)
      have m := rok_mn r8 (Int.le_refl 0) (by omega) r
      have t := r.2.1
      have ow : mo_own h y.2.2.1 y.2.2.2 q = pu_own g x q := by
        unfold mo_own pu_own
        rw [a2, a3]
        refine hs_up_congr _ _ 0 (Nat.le_refl _) (fun j z h1 h2 => ?_)
        have := r.1
        (try dsimp only)
        rw [m, t, r8 j (by omega) (by omega)]
        split <;> omega
      have fw : mo_fw h (y.2.2.1 q) (mo_mn h (y.2.2.1 q) (y.2.2.2 q)) = x.2.2.2.2 q := by
        obtain ⟨b1, -, -, b2, b3, -⟩ := r
        rw [a2, a3, m]
        exact mo_fw_uniq (by omega) (by omega) (r8 _ (by omega) (by omega)) (fun j q1 q2 => by
          rw [r8 j (by omega) (by omega)]
          have := b2 j q1 q2
          omega)
      rw [ow, fw, a1, a2, a3, m, ← t]
      rcases (show wh = 0 ∨ wh = 1 ∨ wh = 2 ∨ wh = 3 ∨ wh = 4 ∨ wh = 5 by omega) with rfl | rfl | rfl | rfl | rfl | rfl <;> rfl
/-! the largest rectangle of a range -/
def lai (h : Int → Int) (a b c d : Int) (x : Int × Int × Int) : Prop := (∀ c' d', a ≤ c' → c' ≤ d' → d' ≤ b → (c' < c ∨ (c' = c ∧ d' < d)) → mo_mn h c' d' * (d' - c' + 1) ≤ x.1) ∧ (x = (0, -9, -9) ∨ (0 < x.1 ∧ (a ≤ x.2.1 ∧ x.2.1 ≤ x.2.2 ∧ x.2.2 ≤ b) ∧ mo_mn h x.2.1 x.2.2 * (x.2.2 - x.2.1 + 1) = x.1 ∧ (x.2.1 < c ∨ (x.2.1 = c ∧ x.2.2 < d)) ∧ ∀ c' d', a ≤ c' → c' ≤ d' → d' ≤ b → (c' < c ∨ (c' = c ∧ d' < d)) → mo_mn h c' d' * (d' - c' + 1) = x.1 → (x.2.1 < c' ∨ (x.2.1 = c' ∧ x.2.2 ≤ d'))))
theorem lai_step {h : Int → Int} {a b c d : Int} {x : Int × Int × Int} (hc : a ≤ c ∧ c ≤ d ∧ d ≤ b) (hx : lai h a b c d x) : lai h a b c (d + 1) (mo_laI h c d x) := by
  obtain ⟨x1, x2⟩ := hx
  have x0 : 0 ≤ x.1 := by
    rcases x2 with z | z
    · rw [z]; exact Int.le_refl 0
    · omega
  unfold mo_laI
  by_cases hA : mo_mn h c d * (d - c + 1) ≤ x.1
  · rw [if_pos hA]
    refine ⟨fun c' d' q1 q2 q3 q4 => ?_, ?_⟩
    · by_cases e : c' = c ∧ d' = d
      · rw [e.1, e.2]; exact hA
      · exact x1 c' d' q1 q2 q3 (by omega)
    · rcases x2 with z | ⟨z1, z2, z3, z4, z5⟩
      · exact Or.inl z
      · refine Or.inr ⟨z1, z2, z3, by omega, fun c' d' q1 q2 q3 q4 q5 => ?_⟩
        by_cases e : c' = c ∧ d' = d
        · omega
        · exact z5 c' d' q1 q2 q3 (by omega) q5
  · rw [if_neg hA]
    refine ⟨fun c' d' q1 q2 q3 q4 => ?_, Or.inr ⟨by (try dsimp only); omega, by (try dsimp only); omega, rfl, by (try dsimp only); omega, fun c' d' q1 q2 q3 q4 q5 => ?_⟩⟩
    · (try dsimp only)
      by_cases e : c' = c ∧ d' = d
      · rw [e.1, e.2]; omega
      · have := x1 c' d' q1 q2 q3 (by omega); omega
    · dsimp only at q5 ⊢
      by_cases e : c' = c ∧ d' = d
      · omega
      · have := x1 c' d' q1 q2 q3 (by omega); omega
theorem mo_la_at {h : Int → Int} {a b : Int} (hab : a ≤ b) : lai h a b (b + 1) (b + 1) (mo_la h a b) := by
  unfold mo_la
  refine hs_up_inv (f := mo_laO h b) (fun k x => lai h a b k k x) (e := b + 1) _ a (0, -9, -9) (Nat.le_refl _) (by omega) ⟨fun c' d' q1 q2 q3 q4 => by omega, Or.inl rfl⟩ (fun k x h1 h2 hx => ?_)
  unfold mo_laO
  have := hs_up_inv (f := mo_laI h k) (fun d x => lai h a b k d x) (e := b + 1) _ k x (Nat.le_refl _) (by omega) hx (fun d x h3 h4 hx => lai_step ⟨h1, h3, by omega⟩ hx)
  obtain ⟨x1, x2⟩ := this
  refine ⟨fun c' d' q1 q2 q3 q4 => x1 c' d' q1 q2 q3 (by omega), ?_⟩
  rcases x2 with z | ⟨z1, z2, z3, z4, z5⟩
  · exact Or.inl z
  · exact Or.inr ⟨z1, z2, z3, by omega, fun c' d' q1 q2 q3 q4 q5 => z5 c' d' q1 q2 q3 (by omega) q5⟩
theorem eq_la {n a b : Int} {g h : Int → Int} (hn : n ≤ 40) (r8 : ∀ k, 0 ≤ k → k < n → h k = g k) (hab : 0 ≤ a ∧ a ≤ b ∧ b < n) {x : pu_R} (hx : cinv g a b (b + 1) x) : (x.1 = 0 ∧ mo_la h a b = (0, -9, -9)) ∨ (0 < x.1 ∧ mo_la h a b = (x.2.2.2.1 0 * (x.2.2.1 0 - x.2.1 0 + 1), x.2.1 0, x.2.2.1 0) ∧ 0 ≤ x.2.1 0 ∧ mo_mn h (x.2.1 0) (x.2.2.1 0) = x.2.2.2.1 0) := by
  obtain ⟨x1, x2, x3, x4⟩ := hx
  obtain ⟨l1, l2⟩ := mo_la_at (h := h) hab.2.1
  generalize mo_la h a b = w at l1 l2 ⊢
  rcases l2 with z | ⟨z1, z2, z3, z4, z5⟩
  · refine Or.inl ⟨?_, z⟩
    rcases (show x.1 = 0 ∨ 0 < x.1 by omega) with e | e
    · exact e
    · exfalso
      obtain ⟨r, -⟩ := x3 0 (by omega) e
      have m := rok_mn r8 hab.1 hab.2.2 r
      have := l1 (x.2.1 0) (x.2.2.1 0) (by have := r.1; omega) (by have := r.1; omega) (by have := r.1; omega) (by have := r.1; omega)
      rw [m, z] at this
      have p : 0 < g (x.2.2.2.2 0) * (x.2.2.1 0 - x.2.1 0 + 1) := Int.mul_pos r.2.2.1 (by have := r.1; omega)
      dsimp only at this
      omega
  · obtain ⟨A, c, d⟩ := w
    dsimp only at l1 z1 z2 z3 z4 z5
    have hp : 0 < mo_mn h c d := by
      rcases (show mo_mn h c d ≤ 0 ∨ 0 < mo_mn h c d by omega) with e | e
      · have : mo_mn h c d * (d - c + 1) ≤ 0 := Int.mul_nonpos_of_nonpos_of_nonneg e (by omega)
        omega
      · exact e
    have hl : c = a ∨ h (c - 1) < mo_mn h c d := by
      rcases (show c = a ∨ a < c by omega) with e | e
      · exact Or.inl e
      · right
        rcases (show h (c - 1) < mo_mn h c d ∨ mo_mn h c d ≤ h (c - 1) by omega) with k | k
        · exact k
        · exfalso
          have e1 : mo_mn h (c - 1) d = mo_mn h c d := by
            rw [mo_mn_join (a := c - 1) (m := c - 1) (b := d) (by omega) (by omega), mo_mn_self, show c - 1 + 1 = c by omega]; omega
          have := l1 (c - 1) d (by omega) (by omega) (by omega) (by omega)
          rw [e1, show d - (c - 1) + 1 = (d - c + 1) + 1 by omega, Int.mul_add, z3] at this
          omega
    have hr : d = b ∨ h (d + 1) < mo_mn h c d := by
      rcases (show d = b ∨ d < b by omega) with e | e
      · exact Or.inl e
      · right
        rcases (show h (d + 1) < mo_mn h c d ∨ mo_mn h c d ≤ h (d + 1) by omega) with k | k
        · exact k
        · exfalso
          have e1 : mo_mn h c (d + 1) = mo_mn h c d := by
            rw [mo_mn_join (a := c) (m := d) (b := d + 1) (by omega) (by omega), mo_mn_self]; omega
          have := l1 c (d + 1) (by omega) (by omega) (by omega) (by omega)
          rw [e1, show d + 1 - c + 1 = (d - c + 1) + 1 by omega, Int.mul_add, z3] at this
          omega
    have r := rt_rok (a := a) (b := b) r8 hab.1 hab.2.2 hn z2 hp hl hr
    obtain ⟨q, q0, q1, q2⟩ := x4 _ _ _ _ r (by have := r.1; omega)
    obtain ⟨rq, -⟩ := x3 q q0 q1
    rw [q2] at rq
    obtain ⟨e1, e2⟩ := rok_ext rq r
    have mq := rok_mn r8 hab.1 hab.2.2 r
    obtain ⟨ro, -⟩ := x3 0 (by omega) (by omega)
    have m0 := rok_mn r8 hab.1 hab.2.2 ro
    have g0 := ro.1
    have t0 := ro.2.1
    have a0 := l1 (x.2.1 0) (x.2.2.1 0) (by omega) (by omega) (by omega) (by omega)
    have eq0 := z5 (x.2.1 0) (x.2.2.1 0) (by omega) (by omega) (by omega) (by omega)
    rw [m0, ← t0] at a0 eq0
    have kle : pk x 0 ≤ pk x q := by
      by_cases e : q = 0
      · rw [e]; exact Int.le_refl _
      · have := x2 0 q (by omega) (by omega) q1; omega
    unfold pk ky at kle
    rw [e1, e2, rq.2.1, ← mq, z3] at kle
    generalize x.2.2.2.1 0 * (x.2.2.1 0 - x.2.1 0 + 1) = B at a0 eq0 kle ⊢
    have hB : B = A := by omega
    have eq1 := eq0 hB
    have f0 : x.2.1 0 = c := by omega
    have f1 : x.2.2.1 0 = d := by omega
    refine Or.inr ⟨by omega, ?_, by omega, by rw [m0, t0]⟩
    rw [hB, f0, f1]
theorem eq_range {e : pu_E} {f : mo_E} (R : pu_Rel e f) (a b wh : Int) {u : pu_K} (hu : pu_KB u) : mo_range a b wh f.1 = pu_range a b wh e.1 e.2.1 u := by
  obtain ⟨n, g, ct, Z⟩ := e
  obtain ⟨h, pa, pm⟩ := f
  obtain ⟨r1, r2, -, -, -, r6, r7, r8, -⟩ := R
  dsimp only at r1 r2 r6 r7 r8 ⊢
  unfold mo_range pu_range
  by_cases hc : 0 ≤ a ∧ a ≤ b ∧ b < n
  · rw [if_neg (show ¬ ¬ (0 ≤ a ∧ a ≤ b ∧ b < n) by omega)]
    by_cases hw : 0 ≤ wh ∧ wh ≤ 8
    · rw [if_neg (show ¬ ¬ (0 ≤ a ∧ a ≤ b ∧ b ≤ h 40 - 1 ∧ 0 ≤ wh ∧ wh ≤ 8) by omega)]
      have H : ∀ j, a ≤ j → j ≤ b → h j = g j := fun j q1 q2 => r8 j (by omega) (by omega)
      obtain ⟨ll1, ll2⟩ := pu_ll_at (g := g) hc.2.1
      obtain ⟨lg1, lg2⟩ := pu_lg_at (g := g) hc.2.1
      have llr := pu_ll_rg g hc.2.1
      have lgr := pu_lg_rg g hc.2.1
      have emn := mo_mn_congr hc.2.1 H
      have emx := mo_mx_congr hc.2.1 H
      have la := eq_la r1.2 r8 hc (pu_find_at (g := g) (a := a) (b := b) (x := u.2.1) hc.1 (by omega) (by omega))
      generalize pu_find g a b u.2.1 = x at la ⊢
      rcases (show wh = 0 ∨ wh = 1 ∨ wh = 2 ∨ wh = 3 ∨ wh = 4 ∨ wh = 5 ∨ wh = 6 ∨ wh = 7 ∨ wh = 8 by omega) with rfl | rfl | rfl | rfl | rfl | rfl | rfl | rfl | rfl
      · show mo_mn h a b = g (pu_ll g a b)
        rw [ll1, emn]
      · show mo_fw h a (mo_mn h a b) = pu_ll g a b
        exact mo_fw_uniq llr.1 (by omega) (by rw [H _ llr.1 llr.2, ll1, emn]) (fun j q1 q2 => by rw [H j q1 (by omega), emn]; have := ll2 j q1 q2; omega)
      · show mo_mx h a b = g (pu_lg g a b)
        rw [lg1, emx]
      · show mo_fw h a (mo_mx h a b) = pu_lg g a b
        exact mo_fw_uniq lgr.1 (by omega) (by rw [H _ lgr.1 lgr.2, lg1, emx]) (fun j q1 q2 => by rw [H j q1 (by omega), emx]; have := lg2 j q1 q2; omega)
      · show su h a (b + 1) = su g a (b + 1)
        exact su_congr (fun j q1 q2 => H j q1 (by omega))
      · show (mo_la h a b).1 = pu_lr x 0
        unfold pu_lr
        rcases la with ⟨z1, z2⟩ | ⟨z1, z2, z3, z4⟩
        · rw [z2, if_pos z1]; rfl
        · rw [z2, if_neg (by omega)]; rfl
      · show (mo_la h a b).2.1 = pu_lr x 1
        unfold pu_lr
        rcases la with ⟨z1, z2⟩ | ⟨z1, z2, z3, z4⟩
        · rw [z2, if_pos z1]; rfl
        · rw [z2, if_neg (by omega)]; rfl
      · show (mo_la h a b).2.2 = pu_lr x 2
        unfold pu_lr
        rcases la with ⟨z1, z2⟩ | ⟨z1, z2, z3, z4⟩
        · rw [z2, if_pos z1]; rfl
        · rw [z2, if_neg (by omega)]; rfl
      · show (if (mo_la h a b).2.1 = -9 then -9 else mo_mn h (mo_la h a b).2.1 (mo_la h a b).2.2) = pu_lr x 3
        unfold pu_lr
        rcases la with ⟨z1, z2⟩ | ⟨z1, z2, z3, z4⟩
        · rw [z2, if_pos z1]; rfl
        · rw [z2, if_neg (show ¬ x.1 = 0 by omega)]
          dsimp only
          rw [if_neg (by omega), z4]; rfl
    · rw [if_pos (show ¬ (0 ≤ a ∧ a ≤ b ∧ b ≤ h 40 - 1 ∧ 0 ≤ wh ∧ wh ≤ 8) by omega)]
      rw [if_neg (by omega), if_neg (by omega), if_neg (by omega), if_neg (by omega), if_neg (by omega), if_neg (by omega), if_neg (by omega), if_neg (by omega), if_neg (by omega)]
  · rw [if_pos (show ¬ (0 ≤ a ∧ a ≤ b ∧ b ≤ h 40 - 1 ∧ 0 ≤ wh ∧ wh ≤ 8) by omega), if_pos hc]
