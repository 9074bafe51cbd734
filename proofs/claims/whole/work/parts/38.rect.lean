/-! RECTANGLES: rows with an entry put in between; keys; both sorted rows hold the same -/
def shd (p c : Int) (A B : Int → Int) : Prop := (∀ q, q ≤ p → B q = A q) ∧ ∀ q, p < q → q ≤ c → B q = A (q - 1)
theorem shd_step {p c : Int} {A B : Int → Int} (hp : p ≤ c) (h : shd p c A B) : shd (p + (-1)) c A (hs_u B p (B (p - 1))) := by
  refine ⟨fun q hq => ?_, fun q h1 h2 => ?_⟩
  · rw [hs_u_ne (by omega)]; exact h.1 q (by omega)
  · by_cases e : q = p
    · rw [e, hs_u_self]; exact h.1 _ (by omega)
    · rw [hs_u_ne e]; exact h.2 q (by omega) h2
theorem shd_rf {c : Int} {A : Int → Int} : shd c c A A := ⟨fun _ _ => rfl, fun q h1 h2 => by omega⟩
def insd (p c v : Int) (A B : Int → Int) : Prop := (∀ q, q < p → B q = A q) ∧ B p = v ∧ ∀ q, p < q → q ≤ c → B q = A (q - 1)
theorem shd_ins {p c v : Int} {A B : Int → Int} (h : shd p c A B) : insd p c v A (hs_u B p v) :=
  ⟨fun q hq => by rw [hs_u_ne (by omega)]; exact h.1 q (by omega), hs_u_self _ _ _, fun q h1 h2 => by rw [hs_u_ne (by omega)]; exact h.2 q h1 h2⟩
theorem pu_place_at {f l t o : Int} {x : pu_R} (hc : 0 ≤ x.1) : ∃ p, (0 ≤ p ∧ p ≤ x.1) ∧ (pu_place f l t o x).1 = x.1 + 1 ∧ insd p x.1 f x.2.1 (pu_place f l t o x).2.1 ∧ insd p x.1 l x.2.2.1 (pu_place f l t o x).2.2.1 ∧ insd p x.1 t x.2.2.2.1 (pu_place f l t o x).2.2.2.1 ∧ insd p x.1 o x.2.2.2.2 (pu_place f l t o x).2.2.2.2 ∧ (∀ q, p ≤ q → q < x.1 → pu_cb f l t (x.2.1 q) (x.2.2.1 q) (x.2.2.2.1 q)) ∧ (p = 0 ∨ ¬ pu_cb f l t (x.2.1 (p - 1)) (x.2.2.1 (p - 1)) (x.2.2.2.1 (p - 1))) := by
  have key := hs_wh_end (P := pu_plP f l t) (f := pu_plF) (fun y => (0 ≤ y.1 ∧ y.1 ≤ x.1) ∧ shd y.1 x.1 x.2.1 y.2.1 ∧ shd y.1 x.1 x.2.2.1 y.2.2.1 ∧ shd y.1 x.1 x.2.2.2.1 y.2.2.2.1 ∧ shd y.1 x.1 x.2.2.2.2 y.2.2.2.2 ∧ ∀ q, y.1 ≤ q → q < x.1 → pu_cb f l t (x.2.1 q) (x.2.2.1 q) (x.2.2.2.1 q)) (fun y => y.1) (fun y hy hP => by
    obtain ⟨y1, y2, y3, y4, y5, y6⟩ := hy
    obtain ⟨p1, p2⟩ := hP
    rw [y2.1 _ (show y.1 - 1 ≤ y.1 by omega), y3.1 _ (show y.1 - 1 ≤ y.1 by omega), y4.1 _ (show y.1 - 1 ≤ y.1 by omega)] at p2
    unfold pu_plF
    (try dsimp only)
    refine ⟨⟨by omega, shd_step y1.2 y2, shd_step y1.2 y3, shd_step y1.2 y4, shd_step y1.2 y5, fun q q1 q2 => ?_⟩, by omega, by omega⟩
    by_cases e : q = y.1 - 1
    · rw [e]; exact p2
    · exact y6 q (by omega) q2) (x.1.toNat + 1) x ⟨⟨hc, Int.le_refl _⟩, shd_rf, shd_rf, shd_rf, shd_rf, fun q q1 q2 => by omega⟩ (by (try dsimp only); omega) hc
  unfold pu_place pu_pl
  generalize hs_wh (pu_plP f l t) pu_plF (x.1.toNat + 1) x = y at key ⊢
  obtain ⟨⟨y1, y2, y3, y4, y5, y6⟩, y7⟩ := key
  refine ⟨y.1, y1, rfl, shd_ins y2, shd_ins y3, shd_ins y4, shd_ins y5, y6, ?_⟩
  by_cases hz : y.1 = 0
  · exact Or.inl hz
  · refine Or.inr (fun q => y7 ⟨by omega, ?_⟩)
    rw [y2.1 _ (show y.1 - 1 ≤ y.1 by omega), y3.1 _ (show y.1 - 1 ≤ y.1 by omega), y4.1 _ (show y.1 - 1 ≤ y.1 by omega)]
    exact q
theorem mo_put_at {a b v : Int} {x : mo_R} (hc : 0 ≤ x.1) : ∃ p, (0 ≤ p ∧ p ≤ x.1) ∧ (mo_put a b v x).1 = x.1 + 1 ∧ insd p x.1 v x.2.1 (mo_put a b v x).2.1 ∧ insd p x.1 a x.2.2.1 (mo_put a b v x).2.2.1 ∧ insd p x.1 b x.2.2.2 (mo_put a b v x).2.2.2 ∧ (∀ q, p ≤ q → q < x.1 → x.2.1 q < v) ∧ (p = 0 ∨ ¬ x.2.1 (p - 1) < v) := by
  have key := hs_wh_end (P := mo_inP v) (f := mo_inF) (fun y => (0 ≤ y.1 ∧ y.1 ≤ x.1) ∧ shd y.1 x.1 x.2.1 y.2.1 ∧ shd y.1 x.1 x.2.2.1 y.2.2.1 ∧ shd y.1 x.1 x.2.2.2 y.2.2.2 ∧ ∀ q, y.1 ≤ q → q < x.1 → x.2.1 q < v) (fun y => y.1) (fun y hy hP => by
    obtain ⟨y1, y2, y3, y4, y6⟩ := hy
    obtain ⟨p1, p2⟩ := hP
    rw [y2.1 _ (show y.1 - 1 ≤ y.1 by omega)] at p2
    unfold mo_inF
    (try dsimp only)
    refine ⟨⟨by omega, shd_step y1.2 y2, shd_step y1.2 y3, shd_step y1.2 y4, fun q q1 q2 => ?_⟩, by omega, by omega⟩
    by_cases e : q = y.1 - 1
    · rw [e]; exact p2
    · exact y6 q (by omega) q2) (x.1.toNat + 1) x ⟨⟨hc, Int.le_refl _⟩, shd_rf, shd_rf, shd_rf, fun q q1 q2 => by omega⟩ (by (try dsimp only); omega) hc
  unfold mo_put mo_in
  generalize hs_wh (mo_inP v) mo_inF (x.1.toNat + 1) x = y at key ⊢
  obtain ⟨⟨y1, y2, y3, y4, y6⟩, y7⟩ := key
  refine ⟨y.1, y1, rfl, shd_ins y2, shd_ins y3, shd_ins y4, y6, ?_⟩
  by_cases hz : y.1 = 0
  · exact Or.inl hz
  · refine Or.inr (fun q => y7 ⟨by omega, ?_⟩)
    rw [y2.1 _ (show y.1 - 1 ≤ y.1 by omega)]
    exact q
def ky (A f l : Int) : Int := -(A * 10000) + f * 100 + l
theorem ky_inj {A B f l F L : Int} (h1 : 0 ≤ f ∧ f ≤ 39) (h2 : 0 ≤ l ∧ l ≤ 39) (h3 : 0 ≤ F ∧ F ≤ 39) (h4 : 0 ≤ L ∧ L ≤ 39) (h : ky A f l = ky B F L) : A = B ∧ f = F ∧ l = L := by
  unfold ky at h
  have e1 : A = B := by omega
  subst e1
  have e2 : f = F := by omega
  exact ⟨rfl, e2, by omega⟩
theorem ins_sorted {K K' : Int → Int} {c p κ : Int} (hs : ∀ i j, 0 ≤ i → i < j → j < c → K i < K j) (hp : 0 ≤ p ∧ p ≤ c) (h : insd p c κ K K') (lo : p = 0 ∨ K (p - 1) < κ) (hi : ∀ q, p ≤ q → q < c → κ < K q) : ∀ i j, 0 ≤ i → i < j → j < c + 1 → K' i < K' j := by
  intro i j h0 h1 h2
  have lo2 : ∀ q, 0 ≤ q → q < p → K q < κ := fun q q0 q1 => by
    rcases lo with z | z
    · omega
    · by_cases e : q = p - 1
      · rw [e]; exact z
      · have := hs q (p - 1) q0 (by omega) (by omega); omega
  rcases Int.lt_trichotomy i p with e | e | e
  · rw [h.1 i e]
    rcases Int.lt_trichotomy j p with e' | e' | e'
    · rw [h.1 j e']; exact hs i j h0 h1 (by omega)
    · rw [e', h.2.1]; exact lo2 i h0 e
    · rw [h.2.2 j e' (by omega)]
      have := lo2 i h0 e
      have := hi (j - 1) (by omega) (by omega)
      omega
  · rw [e, h.2.1, h.2.2 j (by omega) (by omega)]; exact hi (j - 1) (by omega) (by omega)
  · rw [h.2.2 i e (by omega), h.2.2 j (by omega) (by omega)]
    exact hs (i - 1) (j - 1) (by omega) (by omega) (by omega)
theorem seq_eq {K M : Int → Int} {c d : Int} (hK : ∀ i j, 0 ≤ i → i < j → j < c → K i < K j) (hM : ∀ i j, 0 ≤ i → i < j → j < d → M i < M j) (h1 : ∀ q, 0 ≤ q → q < c → ∃ p, 0 ≤ p ∧ p < d ∧ M p = K q) (h2 : ∀ q, 0 ≤ q → q < d → ∃ p, 0 ≤ p ∧ p < c ∧ K p = M q) : ∀ (N : Nat) (q : Int), q ≤ (N : Int) → 0 ≤ q → (q < c ↔ q < d) ∧ (q < c → K q = M q) := by
  intro N
  induction N with
  | zero =>
    intro q hN h0
    have e : q = 0 := by omega
    subst e
    have l1 : 0 < c → 0 < d := fun z => by obtain ⟨p, p1, p2, p3⟩ := h1 0 (by omega) z; omega
    have l2 : 0 < d → 0 < c := fun z => by obtain ⟨p, p1, p2, p3⟩ := h2 0 (by omega) z; omega
    refine ⟨⟨l1, l2⟩, fun z => ?_⟩
    obtain ⟨p, p1, p2, p3⟩ := h1 0 (by omega) z
    obtain ⟨p', p1', p2', p3'⟩ := h2 0 (by omega) (l1 z)
    have a1 : M 0 ≤ M p := by
      by_cases e : p = 0
      · rw [e]; omega
      · have := hM 0 p (by omega) (by omega) p2; omega
    have a2 : K 0 ≤ K p' := by
      by_cases e : p' = 0
      · rw [e]; omega
      · have := hK 0 p' (by omega) (by omega) p2'; omega
    omega
  | succ N ih =>
    intro q hN h0
    by_cases hq : q ≤ (N : Int)
    · exact ih q hq h0
    · have far1 : q < c → ∃ p, q ≤ p ∧ p < d ∧ M p = K q := fun z => by
        obtain ⟨p, p1, p2, p3⟩ := h1 q h0 z
        refine ⟨p, ?_, p2, p3⟩
        rcases (show p < q ∨ q ≤ p by omega) with e | e
        · obtain ⟨i1, i2⟩ := ih p (by omega) p1
          have := i2 (i1.mpr p2)
          have := hK p q p1 e z
          omega
        · exact e
      have far2 : q < d → ∃ p, q ≤ p ∧ p < c ∧ K p = M q := fun z => by
        obtain ⟨p, p1, p2, p3⟩ := h2 q h0 z
        refine ⟨p, ?_, p2, p3⟩
        rcases (show p < q ∨ q ≤ p by omega) with e | e
        · obtain ⟨i1, i2⟩ := ih p (by omega) p1
          have := i2 p2
          have := hM p q p1 e z
          omega
        · exact e
      have l1 : q < c → q < d := fun z => by obtain ⟨p, p1, p2, p3⟩ := far1 z; omega
      have l2 : q < d → q < c := fun z => by obtain ⟨p, p1, p2, p3⟩ := far2 z; omega
      refine ⟨⟨l1, l2⟩, fun z => ?_⟩
      obtain ⟨p, p1, p2, p3⟩ := far1 z
      obtain ⟨p', p1', p2', p3'⟩ := far2 (l1 z)
      have a1 : M q ≤ M p := by
        by_cases e : p = q
        · rw [e]; omega
        · have := hM q p h0 (by omega) p2; omega
      have a2 : K q ≤ K p' := by
        by_cases e : p' = q
        · rw [e]; omega
        · have := hK q p' h0 (by omega) p2'; omega
      omega
/-! the class's side: a rectangle and its owner -/
def rok (g : Int → Int) (a b f l t o : Int) : Prop := (a ≤ f ∧ f ≤ o ∧ o ≤ l ∧ l ≤ b) ∧ t = g o ∧ 0 < g o ∧ (∀ j, f ≤ j → j < o → g o < g j) ∧ (∀ j, o < j → j ≤ l → g o ≤ g j) ∧ (f = a ∨ g (f - 1) < g o) ∧ (l = b ∨ g (l + 1) < g o)
theorem rok_own {g : Int → Int} {a b f l t o t' o' : Int} (h : rok g a b f l t o) (h' : rok g a b f l t' o') : o = o' := by
  obtain ⟨a1, -, -, a2, a3, -⟩ := h
  obtain ⟨b1, -, -, b2, b3, -⟩ := h'
  rcases Int.lt_trichotomy o o' with e | e | e
  · have := b2 o (by omega) e; have := a3 o' e (by omega); omega
  · exact e
  · have := a2 o' (by omega) e; have := b3 o e (by omega); omega
theorem rok_ext {g : Int → Int} {a b f l t o f' l' t' : Int} (h : rok g a b f l t o) (h' : rok g a b f' l' t' o) : f = f' ∧ l = l' := by
  obtain ⟨a1, -, -, a2, a3, a4, a5⟩ := h
  obtain ⟨b1, -, -, b2, b3, b4, b5⟩ := h'
  constructor
  · rcases Int.lt_trichotomy f f' with e | e | e
    · have := a2 (f' - 1) (by omega) (by omega); omega
    · exact e
    · have := b2 (f - 1) (by omega) (by omega); omega
  · rcases Int.lt_trichotomy l l' with e | e | e
    · have := b3 (l + 1) (by omega) (by omega); omega
    · exact e
    · have := a3 (l' + 1) (by omega) (by omega); omega
theorem pu_fo_at {g : Int → Int} {i a : Int} (h0 : a ≤ i) : (a ≤ pu_fo g i a ∧ pu_fo g i a ≤ i ∧ ∀ j, pu_fo g i a ≤ j → j < i → g i < g j) ∧ ¬ pu_foP g i a (pu_fo g i a) := by
  unfold pu_fo
  exact hs_wh_end (P := pu_foP g i a) (f := fun x => x + (-1)) (fun x => a ≤ x ∧ x ≤ i ∧ ∀ j, x ≤ j → j < i → g i < g j) (fun x => x - a) (fun x hx hP => by
    obtain ⟨x1, x2, x3⟩ := hx
    obtain ⟨p1, p2⟩ := hP
    (try dsimp only)
    refine ⟨⟨by omega, by omega, fun j q1 q2 => ?_⟩, by omega, by omega⟩
    by_cases hj : j = x - 1
    · rw [hj]; exact p2
    · exact x3 j (by omega) q2) _ i ⟨h0, Int.le_refl i, fun j q1 q2 => by omega⟩ (by (try dsimp only); omega) (by (try dsimp only); omega)
theorem pu_fl_at {g : Int → Int} {i b : Int} (h0 : i ≤ b) : (i ≤ pu_fl g i b ∧ pu_fl g i b ≤ b ∧ ∀ j, i < j → j ≤ pu_fl g i b → g i ≤ g j) ∧ ¬ pu_flP g i b (pu_fl g i b) := by
  unfold pu_fl
  exact hs_wh_end (P := pu_flP g i b) (f := fun x => x + 1) (fun x => i ≤ x ∧ x ≤ b ∧ ∀ j, i < j → j ≤ x → g i ≤ g j) (fun x => b - x) (fun x hx hP => by
    obtain ⟨x1, x2, x3⟩ := hx
    obtain ⟨p1, p2⟩ := hP
    (try dsimp only)
    refine ⟨⟨by omega, by omega, fun j q1 q2 => ?_⟩, by omega, by omega⟩
    by_cases hj : j = x + 1
    · rw [hj]; exact p2
    · exact x3 j q1 (by omega)) _ i ⟨Int.le_refl i, h0, fun j q1 q2 => by omega⟩ (by (try dsimp only); omega) (by (try dsimp only); omega)
def pk (x : pu_R) (q : Int) : Int := ky (x.2.2.2.1 q * (x.2.2.1 q - x.2.1 q + 1)) (x.2.1 q) (x.2.2.1 q)
def cinv (g : Int → Int) (a b k : Int) (x : pu_R) : Prop := 0 ≤ x.1 ∧ (∀ i j, 0 ≤ i → i < j → j < x.1 → pk x i < pk x j) ∧ (∀ q, 0 ≤ q → q < x.1 → rok g a b (x.2.1 q) (x.2.2.1 q) (x.2.2.2.1 q) (x.2.2.2.2 q) ∧ x.2.2.2.2 q < k) ∧ (∀ o f l t, rok g a b f l t o → o < k → ∃ q, 0 ≤ q ∧ q < x.1 ∧ x.2.2.2.2 q = o)
theorem cinv_step {g : Int → Int} {a b k : Int} {x : pu_R} (h0 : 0 ≤ a) (hk : a ≤ k ∧ k ≤ b) (hb : b ≤ 39) (hx : cinv g a b k x) : cinv g a b (k + 1) (if g k ≤ 0 then x else pu_fob g k a b x) := by
  obtain ⟨x1, x2, x3, x4⟩ := hx
  by_cases hg : g k ≤ 0
  · rw [if_pos hg]
    refine ⟨x1, x2, fun q q0 q1 => ⟨(x3 q q0 q1).1, by have := (x3 q q0 q1).2; omega⟩, fun o f l t hr ho => ?_⟩
    by_cases e : o = k
    · have := hr.2.2.1; rw [e] at this; omega
    · exact x4 o f l t hr (by omega)
  · rw [if_neg hg]
    obtain ⟨⟨f1, f2, f3⟩, f4⟩ := pu_fo_at (g := g) hk.1
    obtain ⟨⟨l1, l2, l3⟩, l4⟩ := pu_fl_at (g := g) hk.2
    unfold pu_fob
    unfold pu_foP at f4
    unfold pu_flP at l4
    generalize pu_fo g k a = f at f1 f2 f3 f4 ⊢
    generalize pu_fl g k b = l at l1 l2 l3 l4 ⊢
    by_cases hd : a < f ∧ g (f - 1) = g k
    · rw [if_pos hd]
      refine ⟨x1, x2, fun q q0 q1 => ⟨(x3 q q0 q1).1, by have := (x3 q q0 q1).2; omega⟩, fun o f' l' t' hr ho => ?_⟩
      by_cases e : o = k
      · exfalso
        obtain ⟨a1, -, -, a2, a3, a4, a5⟩ := hr
        rw [e] at a1 a2 a3 a4 a5
        rcases Int.lt_trichotomy f f' with z | z | z
        · have := f3 (f' - 1) (by omega) (by omega); omega
        · rw [← z] at a4; omega
        · have := a2 (f - 1) (by omega) (by omega); omega
      · exact x4 o f' l' t' hr (by omega)
    · rw [if_neg hd]
      have hr : rok g a b f l (g k) k := ⟨by omega, rfl, by omega, f3, l3, by
        by_cases e : f = a
        · exact Or.inl e
        · have : ¬ g k < g (f - 1) := fun z => f4 ⟨by omega, z⟩
          exact Or.inr (by omega), by
        by_cases e : l = b
        · exact Or.inl e
        · have : ¬ g k ≤ g (l + 1) := fun z => l4 ⟨by omega, z⟩
          exact Or.inr (by omega)⟩
      obtain ⟨p, p1, p2, i1, i2, i3, i4, i5, i6⟩ := pu_place_at (f := f) (l := l) (t := g k) (o := k) x1
      generalize pu_place f l (g k) k x = y at p2 i1 i2 i3 i4 ⊢
      have hkk : insd p x.1 (ky (g k * (l - f + 1)) f l) (pk x) (pk y) := by
        refine ⟨fun q hq => ?_, ?_, fun q q1 q2 => ?_⟩
        · unfold pk; rw [i1.1 q hq, i2.1 q hq, i3.1 q hq]
        · unfold pk; rw [i1.2.1, i2.2.1, i3.2.1]
        · unfold pk; rw [i1.2.2 q q1 q2, i2.2.2 q q1 q2, i3.2.2 q q1 q2]
      have hne : ∀ q, 0 ≤ q → q < x.1 → ¬ pk x q = ky (g k * (l - f + 1)) f l := by
        intro q q0 q1 e
        obtain ⟨r1, r2⟩ := x3 q q0 q1
        have r3 := r1.1
        unfold pk at e
        obtain ⟨-, e1, e2⟩ := ky_inj (by omega) (by omega) (by omega) (by omega) e
        rw [e1, e2] at r1
        have := rok_own r1 hr
        omega
      refine ⟨by omega, ?_, ?_, ?_⟩
      · rw [p2]
        refine ins_sorted x2 p1 hkk ?_ (fun q q1 q2 => ?_)
        · by_cases e : p = 0
          · exact Or.inl e
          · right
            have c1 := hne (p - 1) (by omega) (by omega)
            have c2 : ¬ pu_cb f l (g k) (x.2.1 (p - 1)) (x.2.2.1 (p - 1)) (x.2.2.2.1 (p - 1)) := by
              rcases i6 with z | z
              · omega
              · exact z
            have r3 := (x3 (p - 1) (by omega) (by omega)).1.1
            unfold pk ky at c1 ⊢
            unfold pu_cb at c2
            generalize x.2.2.2.1 (p - 1) * (x.2.2.1 (p - 1) - x.2.1 (p - 1) + 1) = A at c1 c2 ⊢
            generalize g k * (l - f + 1) = B at c1 c2 ⊢
            omega
        · have c2 := i5 q q1 q2
          have r3 := (x3 q (by omega) q2).1.1
          unfold pk ky
          unfold pu_cb at c2
          generalize x.2.2.2.1 q * (x.2.2.1 q - x.2.1 q + 1) = A at c2 ⊢
          generalize g k * (l - f + 1) = B at c2 ⊢
          omega
      · intro q q0 q1
        rcases Int.lt_trichotomy q p with e | e | e
        · rw [i1.1 q e, i2.1 q e, i3.1 q e, i4.1 q e]
          have := x3 q q0 (by omega)
          exact ⟨this.1, by omega⟩
        · rw [e, i1.2.1, i2.2.1, i3.2.1, i4.2.1]; exact ⟨hr, by omega⟩
        · rw [i1.2.2 q e (by omega), i2.2.2 q e (by omega), i3.2.2 q e (by omega), i4.2.2 q e (by omega)]
          have := x3 (q - 1) (by omega) (by omega)
          exact ⟨this.1, by omega⟩
      · intro o f' l' t' hr' ho
        by_cases e : o = k
        · exact ⟨p, by omega, by omega, by rw [i4.2.1, e]⟩
        · obtain ⟨q, q0, q1, q2⟩ := x4 o f' l' t' hr' (by omega)
          rcases (show q < p ∨ p ≤ q by omega) with z | z
          · exact ⟨q, q0, by omega, by rw [i4.1 q z]; exact q2⟩
          · exact ⟨q + 1, by omega, by omega, by rw [i4.2.2 (q + 1) (by omega) (by omega), show q + 1 - 1 = q by omega]; exact q2⟩
theorem pu_find_at {g : Int → Int} {a b : Int} {x : pu_R} (h0 : 0 ≤ a) (hb : b ≤ 39) (hab : a ≤ b + 1) : cinv g a b (b + 1) (pu_find g a b x) := by
  unfold pu_find
  exact hs_up_inv (f := fun i x => if g i ≤ 0 then x else pu_fob g i a b x) (fun k x => cinv g a b k x) (e := b + 1) _ a (0, x.2) (Nat.le_refl _) hab ⟨Int.le_refl 0, fun i j i0 i1 i2 => by dsimp only at i2; omega, fun q q0 q1 => by dsimp only at q1; omega, fun o f l t hr ho => by have := hr.1; omega⟩ (fun k x h1 h2 hx => cinv_step h0 (by omega) hb hx)
