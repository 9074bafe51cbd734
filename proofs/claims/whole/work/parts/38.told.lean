/-! STROKES -/
theorem hs_u_twice {g : Int → Int} {i v w : Int} : hs_u (hs_u g i v) i w = hs_u g i w := by
  funext k
  by_cases hk : k = i
  · rw [hk, hs_u_self, hs_u_self]
  · rw [hs_u_ne hk, hs_u_ne hk, hs_u_ne hk]
theorem hs_dn_last {σ : Type} {f : Int → σ → σ} {e : Int} : ∀ (n : Nat) (i : Int) (x : σ), (i + 1 - e).toNat ≤ n → e ≤ i → hs_dn f i e x = f e (hs_dn f i (e + 1) x) := by
  intro n
  induction n with
  | zero => intro i x h hi; omega
  | succ n ih =>
    intro i x h hi
    by_cases hlt : e < i
    · rw [hs_dn_step hi, hs_dn_step (show e + 1 ≤ i by omega)]
      exact ih (i + (-1)) _ (by omega) (by omega)
    · have he : i = e := by omega
      subst he
      rw [hs_dn_step hi, hs_dn_done (by omega), hs_dn_done (by omega)]
theorem pu_fill_at {g : Int → Int} {a b v : Int} (hab : a ≤ b) (j : Int) : pu_fill g a b v j = if a ≤ j ∧ j < b then v else g j := hs_map_at (F := fun _ _ => v) hab j
theorem mo_ea_is {h : Int → Int} {i v e : Int} (h1 : i ≤ e) (h2 : e < h 40) (h3 : ∀ j, i < j → j ≤ e → v < h j) (h4 : e + 1 = h 40 ∨ h (e + 1) ≤ v) : mo_ea h i v = e := by
  unfold mo_ea
  have key := hs_wh_end (P := mo_eaP h v) (f := fun x => x + 1) (fun x => i ≤ x ∧ x ≤ e) (fun x => h 40 - x) (fun x hx hP => by
    obtain ⟨x1, x2⟩ := hx
    obtain ⟨p1, p2⟩ := hP
    (try dsimp only)
    refine ⟨⟨by omega, ?_⟩, by omega, by omega⟩
    by_cases hj : x = e
    · rw [hj] at p1 p2; omega
    · omega) ((h 40 - i).toNat + 1) i ⟨Int.le_refl i, h1⟩ (by (try dsimp only); omega) (by (try dsimp only); omega)
  generalize hs_wh (mo_eaP h v) (fun x => x + 1) ((h 40 - i).toNat + 1) i = y at key ⊢
  obtain ⟨⟨y1, y2⟩, y3⟩ := key
  by_cases hy : y = e
  · exact hy
  · exact absurd (show mo_eaP h v y from ⟨by omega, h3 (y + 1) (by omega) (by omega)⟩) y3
/-- what a row makes of a column -/
def rwv (h : Int → Int) (v : Int) (A : Int → Int) (j : Int) : Int := if v < h j ∧ (j = 0 ∨ h (j - 1) ≤ v) then min (1 + su A j (mo_ea h j v + 1)) (mo_ea h j v - j + 1) else 0
theorem mo_lev_at {h : Int → Int} {v : Int} {x : (Int → Int) × (Int → Int)} (hN : 0 ≤ h 40) {j : Int} (h1 : 0 ≤ j) (h2 : j < h 40) : (mo_lev h v x).1 j = rwv h v x.1 j := by
  unfold mo_lev mo_l2
  (try dsimp only)
  have e1 : ∀ i (y : Int → Int), mo_l1F h x.1 v i y = hs_u y i (rwv h v x.1 i) := by
    intro i y
    unfold mo_l1F rwv
    by_cases hc : v < h i ∧ (i = 0 ∨ h (i - 1) ≤ v)
    · rw [if_pos hc, if_pos hc, hs_u_twice]
      congr 1
      have : mo_lsum x.1 i (mo_ea h i v) = 1 + su x.1 i (mo_ea h i v + 1) := su_acc _ _ _ (Nat.le_refl _)
      rw [this]
      split <;> omega
    · rw [if_neg hc, if_neg hc]
  have e2 : mo_l1 h x.1 v x.2 = hs_up (fun i (y : Int → Int) => hs_u y i (rwv h v x.1 i)) 0 (h 40) x.2 := by
    unfold mo_l1
    exact hs_up_congr _ 0 _ (Nat.le_refl _) (fun i y _ _ => e1 i y)
  rw [hs_map_at (F := fun i _ => mo_l1 h x.1 v x.2 i) hN j, if_pos ⟨h1, h2⟩, e2, hs_map_at (F := fun i _ => rwv h v x.1 i) hN j, if_pos ⟨h1, h2⟩]
theorem pu_run_at {n v f i : Int} {g h K C : Int → Int} (r7 : h 40 = n) (r8 : ∀ k, 0 ≤ k → k < n → h k = g k) (hf : 0 ≤ f ∧ f < i ∧ i ≤ n) (h1 : ∀ j, f ≤ j → j < n → C j = K j) (h2 : ∀ j, 0 ≤ j → j < f → C j = rwv h v K j) (h3 : ∀ j, f ≤ j → j < i → v < g j) (h4 : f = 0 ∨ g (f - 1) ≤ v) (h5 : i = n ∨ g i ≤ v) : (∀ j, 0 ≤ j → j < i → pu_run f (i - 1) C j = rwv h v K j) ∧ ∀ j, i ≤ j → j < n → pu_run f (i - 1) C j = K j := by
  have ea : mo_ea h f v = i - 1 := mo_ea_is (by omega) (by omega) (fun j q1 q2 => by rw [r8 j (by omega) (by omega)]; exact h3 j (by omega) (by omega)) (by
    by_cases e : i = n
    · exact Or.inl (by omega)
    · right; rw [show i - 1 + 1 = i by omega, r8 i (by omega) (by omega)]; omega)
  have sm : pu_sum C f (i - 1) = su K f (i - 1 + 1) := by
    show su C f (i - 1 + 1) = _
    exact su_congr (fun j q1 q2 => h1 j q1 (by omega))
  unfold pu_run
  rw [if_neg (by omega), sm]
  constructor
  · intro j j0 j1
    by_cases e : j = f
    · rw [e, hs_u_self]
      unfold rwv
      rw [if_pos (show v < h f ∧ (f = 0 ∨ h (f - 1) ≤ v) from ⟨by rw [r8 f (by omega) (by omega)]; exact h3 f (Int.le_refl f) hf.2.1, by
        by_cases z : f = 0
        · exact Or.inl z
        · right; rw [r8 (f - 1) (by omega) (by omega)]; omega⟩), ea]
      omega
    · rw [hs_u_ne e, pu_fill_at (by omega)]
      by_cases hj : j < f
      · rw [if_neg (by omega)]; exact h2 j j0 hj
      · rw [if_pos (by omega)]
        unfold rwv
        rw [if_neg (fun z => by
          rcases z.2 with q | q
          · omega
          · rw [r8 (j - 1) (by omega) (by omega)] at q
            have := h3 (j - 1) (by omega) (by omega)
            omega)]
  · intro j j0 j1
    rw [hs_u_ne (by omega), pu_fill_at (by omega), if_neg (by omega)]
    exact h1 j (by omega) j1
theorem pu_row_at {n r : Int} {g h K : Int → Int} (hn : 0 ≤ n) (r7 : h 40 = n) (r8 : ∀ k, 0 ≤ k → k < n → h k = g k) (hz : ∀ j, 0 ≤ j → j < n → g j < r → K j = 0) : ∀ j, 0 ≤ j → j < n → pu_row g n r K j = rwv h (r - 1) K j := by
  have rz : ∀ j, 0 ≤ j → j < n → g j < r → rwv h (r - 1) K j = 0 := fun j j0 j1 j2 => by
    unfold rwv
    rw [if_neg (fun z => by have := z.1; rw [r8 j j0 j1] at this; omega)]
  have key := hs_up_inv (f := pu_rowF g r) (fun i (x : Int × (Int → Int)) => (x.1 = -9 ∧ (i = 0 ∨ g (i - 1) < r) ∧ (∀ j, i ≤ j → j < n → x.2 j = K j) ∧ (∀ j, 0 ≤ j → j < i → x.2 j = rwv h (r - 1) K j)) ∨ ((0 ≤ x.1 ∧ x.1 < i) ∧ (x.1 = 0 ∨ g (x.1 - 1) < r) ∧ (∀ j, x.1 ≤ j → j < i → r ≤ g j) ∧ (∀ j, x.1 ≤ j → j < n → x.2 j = K j) ∧ (∀ j, 0 ≤ j → j < x.1 → x.2 j = rwv h (r - 1) K j))) (e := n) _ 0 (-9, K) (Nat.le_refl _) hn (Or.inl ⟨rfl, Or.inl rfl, fun j _ _ => rfl, fun j j0 j1 => by omega⟩) (fun i x h1 h2 hx => by
    obtain ⟨f, C⟩ := x
    unfold pu_rowF
    (try dsimp only)
    dsimp only at hx
    by_cases hg : g i < r
    · rw [if_pos hg]
      left
      refine ⟨rfl, Or.inr (by rw [show i + 1 - 1 = i by omega]; exact hg), ?_, ?_⟩
      · rcases hx with ⟨x1, x2, x3, x4⟩ | ⟨x1, x2, x3, x4, x5⟩
        · intro j j0 j1
          (try dsimp only)
          unfold pu_run
          rw [if_pos x1]
          exact x3 j (by omega) j1
        · intro j j0 j1
          exact (pu_run_at (v := r - 1) r7 r8 ⟨x1.1, x1.2, by omega⟩ x4 x5 (fun j q1 q2 => by have := x3 j q1 q2; omega) (by omega) (Or.inr (by omega))).2 j (by omega) j1
      · rcases hx with ⟨x1, x2, x3, x4⟩ | ⟨x1, x2, x3, x4, x5⟩
        · intro j j0 j1
          (try dsimp only)
          unfold pu_run
          rw [if_pos x1]
          by_cases e : j = i
          · rw [e, x3 i (Int.le_refl i) h2, hz i h1 h2 hg, rz i h1 h2 hg]
          · exact x4 j j0 (by omega)
        · intro j j0 j1
          have pr := pu_run_at (v := r - 1) r7 r8 ⟨x1.1, x1.2, by omega⟩ x4 x5 (fun j q1 q2 => by have := x3 j q1 q2; omega) (by omega) (Or.inr (by omega : g i ≤ r - 1))
          by_cases e : j = i
          · rw [e, rz i h1 h2 hg, ← hz i h1 h2 hg]
            exact pr.2 i (Int.le_refl i) h2
          · exact pr.1 j j0 (by omega)
    · rw [if_neg hg]
      rcases hx with ⟨x1, x2, x3, x4⟩ | ⟨x1, x2, x3, x4, x5⟩
      · rw [if_pos x1]
        exact Or.inr ⟨⟨h1, by (try dsimp only); omega⟩, x2, fun j q1 q2 => by dsimp only at q1; rw [show j = i by omega]; omega, x3, x4⟩
      · rw [if_neg (by omega)]
        refine Or.inr ⟨⟨x1.1, by (try dsimp only); omega⟩, x2, fun j q1 q2 => ?_, x4, x5⟩
        by_cases e : j = i
        · rw [e]; omega
        · exact x3 j q1 (by omega))
  intro j j0 j1
  unfold pu_row pu_rowL
  generalize hs_up (pu_rowF g r) 0 n (-9, K) = y at key ⊢
  rcases key with ⟨x1, x2, x3, x4⟩ | ⟨x1, x2, x3, x4, x5⟩
  · unfold pu_run
    rw [if_pos x1]
    exact x4 j j0 j1
  · exact (pu_run_at (v := r - 1) r7 r8 ⟨x1.1, x1.2, Int.le_refl n⟩ x4 x5 (fun j q1 q2 => by have := x3 j q1 q2; omega) (by omega) (Or.inl rfl)).1 j j0 j1
theorem pu_gh_mx {g : Int → Int} {n : Int} (hn : 0 < n) : pu_gh g n = mo_mx g 0 (n - 1) := by
  unfold pu_gh
  rw [if_neg (by omega)]
  exact (pu_lg_at (g := g) (a := 0) (b := n - 1) (by omega)).1
theorem rwv_congr {n v j : Int} {h A B : Int → Int} (r7 : h 40 = n) (h1 : 0 ≤ j) (h2 : j < n) (H : ∀ k, 0 ≤ k → k < n → A k = B k) : rwv h v A j = rwv h v B j := by
  unfold rwv
  have := mo_ea_rg (h := h) (i := j) (v := v) (by omega)
  rw [su_congr (c := A) (d := B) (a := j) (e := mo_ea h j v + 1) (fun k q1 q2 => H k (by omega) (by omega))]
theorem eq_strokes {n : Int} {g h A X K : Int → Int} (hn : 0 ≤ n ∧ n ≤ 40) (r2 : ∀ k, 0 ≤ g k ∧ g k ≤ 50) (r7 : h 40 = n) (r8 : ∀ k, 0 ≤ k → k < n → h k = g k) : ∀ j, 0 ≤ j → j < n → (mo_str h A X).1 j = pu_cs g n K j := by
  have hG : ∀ j, 0 ≤ j → j < n → g j ≤ pu_gh g n := fun j j0 j1 => by
    rw [pu_gh_mx (by omega)]; exact mo_mx_ge j0 (by omega)
  have hb := pu_gh_bd (n := n) r2
  unfold mo_str pu_cs
  generalize pu_gh g n = G at hG hb ⊢
  have key := hs_dn_ind (f := fun v x => mo_lev h v x) (fun k (x : (Int → Int) × (Int → Int)) => ∀ j, 0 ≤ j → j < n → x.1 j = hs_dn (fun r x => pu_row g n r x) G (k + 2) (pu_fill K 0 40 0) j ∧ (g j < k + 2 → hs_dn (fun r x => pu_row g n r x) G (k + 2) (pu_fill K 0 40 0) j = 0)) (e := 0) _ 49 (pu_fill A 0 41 0, X) (Nat.le_refl _) (by omega) (fun j j0 j1 => by
    rw [hs_dn_done (by omega), pu_fill_at (by omega), if_pos (by omega)]
    refine ⟨?_, fun _ => rfl⟩
    (try dsimp only)
    rw [pu_fill_at (by omega), if_pos (by omega)]) (fun k x h1 h2 hx => by
    have hz : ∀ j, 0 ≤ j → j < n → g j < k + 1 → rwv h k x.1 j = 0 := fun j j0 j1 j2 => by
      unfold rwv
      rw [if_neg (fun z => by have := z.1; rw [r8 j j0 j1] at this; omega)]
    have e0 : ∀ j, 0 ≤ j → j < n → hs_dn (fun r x => pu_row g n r x) G (k + (-1) + 2) (pu_fill K 0 40 0) j = rwv h k x.1 j := by
      intro j j0 j1
      rw [show k + (-1) + 2 = k + 1 by omega]
      by_cases hk : k + 1 ≤ G
      · rw [hs_dn_last _ G _ (Nat.le_refl _) hk, show k + 1 + 1 = k + 2 by omega]
        rw [pu_row_at hn.1 r7 r8 (fun i i0 i1 i2 => (hx i i0 i1).2 (by omega)) j j0 j1, show k + 1 - 1 = k by omega]
        exact (rwv_congr r7 j0 j1 (fun i i0 i1 => (hx i i0 i1).1)).symm
      · rw [hs_dn_done (by omega), pu_fill_at (by omega), if_pos (by omega), hz j j0 j1 (by have := hG j j0 j1; omega)]
    intro j j0 j1
    rw [e0 j j0 j1]
    (try dsimp only)
    rw [mo_lev_at (by omega) j0 (by omega)]
    exact ⟨rfl, fun z => hz j j0 j1 (by omega)⟩)
  intro j j0 j1
  have := (key j j0 j1).1
  rw [show (0 : Int) - 1 + 2 = 1 by omega] at this
  exact this
/-! the rest of told -/
theorem eq_seenL {n : Int} {g h : Int → Int} (hn : 0 ≤ n) (r2 : ∀ k, 0 ≤ g k ∧ g k ≤ 50) (r7 : h 40 = n) (r8 : ∀ k, 0 ≤ k → k < n → h k = g k) : mo_stdL h = (pu_seenL g n).1 := by
  unfold mo_stdL pu_seenL
  rw [r7]
  have sim := hs_up_sim (f := fun q (x : Int × Int) => if g q ≤ x.2 then x else (x.1 + 1, g q)) (g := fun i (x : Int) => if i = 0 ∨ mo_mx h 0 (i - 1) < h i then x + 1 else x + 0) (fun k (x : Int × Int) (y : Int) => y = x.1 ∧ (x.2 = if k = 0 then -1 else mo_mx g 0 (k - 1))) (e := n) _ 0 (0, -1) 0 (Nat.le_refl _) hn ⟨rfl, by rw [if_pos rfl]⟩ (fun k x y h1 h2 hxy => by
    obtain ⟨q1, q2⟩ := hxy
    have b := r2 k
    (try dsimp only)
    rw [q1]
    by_cases hk : k = 0
    · rw [if_pos hk] at q2
      rw [if_neg (show ¬ g k ≤ x.2 by omega), if_pos (Or.inl hk)]
      refine ⟨rfl, ?_⟩
      (try dsimp only)
      rw [if_neg (by omega), hk, show (0 : Int) + 1 - 1 = 0 by omega, mo_mx_self]
    · rw [if_neg hk] at q2
      have e1 : mo_mx h 0 (k - 1) = x.2 := by rw [q2]; exact mo_mx_congr (by omega) (fun j p1 p2 => r8 j p1 (by omega))
      have e2 : mo_mx g 0 k = max x.2 (g k) := by
        rw [q2, mo_mx_join (a := 0) (m := k - 1) (b := k) (by omega) (by omega), show k - 1 + 1 = k by omega, mo_mx_self]
      rw [e1, r8 k h1 h2, show k + 1 - 1 = k by omega, if_neg (show ¬ k + 1 = 0 by omega), e2]
      by_cases hc : g k ≤ x.2
      · rw [if_pos hc, if_neg (by omega)]
        exact ⟨by omega, by omega⟩
      · rw [if_neg hc, if_pos (by omega)]
        exact ⟨rfl, by (try dsimp only); omega⟩)
  exact sim.1
theorem eq_seenR {n : Int} {g h : Int → Int} (hn : 0 ≤ n) (r2 : ∀ k, 0 ≤ g k ∧ g k ≤ 50) (r7 : h 40 = n) (r8 : ∀ k, 0 ≤ k → k < n → h k = g k) : mo_stdR h = (pu_seenR g n).1 := by
  have e0 : mo_stdR h = su (fun i => if i = n - 1 ∨ mo_mx g (i + 1) (n - 1) < g i then 1 else 0) 0 n := by
    unfold mo_stdR
    rw [r7]
    show _ = hs_up _ 0 n 0
    refine hs_up_congr _ 0 0 (Nat.le_refl _) (fun i y h1 h2 => ?_)
    (try dsimp only)
    by_cases e : i = n - 1
    · rw [if_pos (Or.inl e), if_pos (Or.inl e)]
    · rw [mo_mx_congr (g := g) (a := i + 1) (b := n - 1) (by omega) (fun j p1 p2 => r8 j (by omega) (by omega)), r8 i h1 h2]
      split <;> rfl
  rw [e0, su_rev _ 0 n (Nat.le_refl _)]
  unfold pu_seenR
  have key := hs_up_inv (f := fun q (x : Int × Int) => if g (n - 1 - q) ≤ x.2 then x else (x.1 + 1, g (n - 1 - q))) (fun k (x : Int × Int) => x.1 = su (fun j => (fun i => if i = n - 1 ∨ mo_mx g (i + 1) (n - 1) < g i then (1 : Int) else 0) (0 + n - 1 - j)) 0 k ∧ (x.2 = if k = 0 then -1 else mo_mx g (n - k) (n - 1))) (e := n) _ 0 (0, -1) (Nat.le_refl _) hn ⟨by rw [su_done (Int.le_refl 0)], by rw [if_pos rfl]⟩ (fun k x h1 h2 hx => by
    obtain ⟨q1, q2⟩ := hx
    dsimp only at q1
    have b := r2 (n - 1 - k)
    rw [su_last h1]
    (try dsimp only)
    rw [show 0 + n - 1 - k = n - 1 - k by omega, show n - 1 - k + 1 = n - k by omega, if_neg (show ¬ k + 1 = 0 by omega), show n - (k + 1) = n - 1 - k by omega]
    by_cases hk : k = 0
    · rw [if_pos hk] at q2
      rw [if_neg (show ¬ g (n - 1 - k) ≤ x.2 by omega), if_pos (Or.inl (show n - 1 - k = n - 1 by omega))]
      refine ⟨by (try dsimp only); omega, ?_⟩
      (try dsimp only)
      rw [show n - 1 - k = n - 1 by omega, mo_mx_self]
    · rw [if_neg hk] at q2
      have e2 : mo_mx g (n - 1 - k) (n - 1) = max (g (n - 1 - k)) x.2 := by
        rw [q2, mo_mx_join (a := n - 1 - k) (m := n - 1 - k) (b := n - 1) (by omega) (by omega), show n - 1 - k + 1 = n - k by omega, mo_mx_self]
      rw [e2, ← q2]
      by_cases hc : g (n - 1 - k) ≤ x.2
      · rw [if_pos hc, if_neg (by omega)]
        exact ⟨by omega, by omega⟩
      · rw [if_neg hc, if_pos (by omega)]
        exact ⟨by (try dsimp only); omega, by (try dsimp only); omega⟩)
  exact key.1.symm
theorem eq_hor {n : Int} {g h : Int → Int} (hn : 0 ≤ n) (r7 : h 40 = n) (r8 : ∀ k, 0 ≤ k → k < n → h k = g k) : mo_hor h = (pu_rises g n).1 := by
  unfold mo_hor pu_rises
  rw [r7]
  have sim := hs_up_sim (f := fun i (x : Int × Int) => (x.1 + max 0 (g i - x.2), g i)) (g := fun i (x : Int) => if h i ≤ (if i = 0 then 0 else h (i - 1)) then x + 0 else x + (h i - (if i = 0 then 0 else h (i - 1)))) (fun k (x : Int × Int) (y : Int) => y = x.1 ∧ (x.2 = if k = 0 then 0 else g (k - 1))) (e := n) _ 0 (0, 0) 0 (Nat.le_refl _) hn ⟨rfl, by rw [if_pos rfl]⟩ (fun k x y h1 h2 hxy => by
    obtain ⟨q1, q2⟩ := hxy
    have e1 : (if k = 0 then 0 else h (k - 1)) = x.2 := by
      rw [q2]
      by_cases hk : k = 0
      · rw [if_pos hk, if_pos hk]
      · rw [if_neg hk, if_neg hk]; exact r8 _ (by omega) (by omega)
    (try dsimp only)
    rw [e1, r8 k h1 h2, q1]
    refine ⟨?_, by rw [if_neg (by omega), show k + 1 - 1 = k by omega]⟩
    split <;> omega)
  exact sim.1
theorem eq_told {e : pu_E} {f : mo_E} (R : pu_Rel e f) (wh : Int) {u : pu_K} (hu : pu_KB u) (v : mo_U) (hv : (∀ k, 0 ≤ v.2.1 k ∧ v.2.1 k ≤ 40) ∧ (∀ k, 0 ≤ v.2.2 k ∧ v.2.2 k ≤ 40)) : mo_told wh f.1 f.2.2 v = pu_told wh e.1 e.2.1 e.2.2.1 u := by
  obtain ⟨n, g, ct, Z⟩ := e
  obtain ⟨h, pa, pm⟩ := f
  obtain ⟨r1, r2, -, -, -, r6, r7, r8, -, r10, -⟩ := R
  dsimp only at r1 r2 r6 r7 r8 r10 ⊢
  unfold mo_told pu_told
  have H : ∀ j, 0 ≤ j → j ≤ n - 1 → h j = g j := fun j q1 q2 => r8 j q1 (by omega)
  have s1 : pu_sum h 0 (h 40 - 1) = pu_sum g 0 (n - 1) := by
    rw [r7]
    show su h 0 (n - 1 + 1) = su g 0 (n - 1 + 1)
    exact su_congr (fun j q1 q2 => H j q1 (by omega))
  have s2 : (if h 40 = 0 then 0 else mo_mx h 0 (h 40 - 1)) = pu_gh g n := by
    rw [r7]
    by_cases hn : n = 0
    · unfold pu_gh
      rw [if_pos hn, if_pos hn]
    · rw [if_neg hn, pu_gh_mx (by omega)]
      exact mo_mx_congr (by omega) H
  have pp := pu_pour_at (g := g) (d := u.1) (a := 0) (b := n - 1) r2 (by omega)
  have s3 : mo_wat h 0 (h 40 - 1) = (pu_pour g 0 (n - 1) u.1).1 := by
    rw [r7, pp.1]
    exact mo_wat_congr H
  have s4 : mo_pools h = pu_pc (pu_pour g 0 (n - 1) u.1).2 n := by
    have hd := mo_pool_d r7 r8 pp.2
    unfold mo_pools pu_pc
    refine (?_ : ∀ m, m = n → hs_up (fun i (x : Int) => if mo_bp h i then x + 1 else x + 0) 0 m 0 = hs_up (fun i x => if pu_sp (pu_pour g 0 (n - 1) u.1).2 i then x + 1 else x) 0 n 0) (h 40) r7
    intro m hm
    rw [hm]
    refine hs_up_congr _ 0 0 (Nat.le_refl _) (fun j y h1 h2 => ?_)
    have hb := mo_bp_iff r7 hd h1 h2
    (try dsimp only)
    by_cases hp : pu_sp (pu_pour g 0 (n - 1) u.1).2 j
    · rw [if_pos (hb.mpr hp), if_pos hp]
    · rw [if_neg (fun z => hp (hb.mp z)), if_neg hp]; omega
  have s5 : (mo_ly h (0, v.1.1, v.1.2.1, v.1.2.2)).1 = (pu_find g 0 (n - 1) u.2.1).1 := (rect_same r1 r7 r8 (pu_find_at (g := g) (a := 0) (b := n - 1) (x := u.2.1) (Int.le_refl 0) (by omega) (by omega)) (mo_ly_at (h := h) (x := (0, v.1.1, v.1.2.1, v.1.2.2)) (by omega))).1.symm
  have s6 := eq_seenL r1.1 r2 r7 r8
  have s7 := eq_seenR r1.1 r2 r7 r8
  have s8 : mo_deep h = pu_gtd g n u.2.2.1 u.2.2.2.1 := by
    unfold mo_deep pu_gtd
    rw [r7]
    refine hs_up_congr _ 0 _ (Nat.le_refl _) (fun j y h1 h2 => ?_)
    (try dsimp only)
    rw [(eq_td (P := u.2.2.1) (S := u.2.2.2.1) r1 r7 r8 h1 h2).2]
    split <;> omega
  have s9 := eq_hor r1.1 r7 r8
  have s10 : pu_sum (mo_str h v.2.1 v.2.2).1 0 (h 40 - 1) = pu_sum (pu_cs g n u.2.2.2.2) 0 (n - 1) := by
    rw [show pu_sum (mo_str h v.2.1 v.2.2).1 0 (h 40 - 1) = pu_sum (mo_str h v.2.1 v.2.2).1 0 (n - 1) by rw [r7]]
    show su _ 0 (n - 1 + 1) = su _ 0 (n - 1 + 1)
    exact su_congr (fun j q1 q2 => eq_strokes r1 r2 r7 r8 j q1 (by omega))
  rw [s1, s2, s3, s4, s5, s6, s7, s8, s9, s10, r7, r10]
