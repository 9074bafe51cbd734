/-! THE RELATION between the class's state (n, g, ct, Z) and the reference's (h, past, how many) -/
def pu_Rel (e : pu_E) (f : mo_E) : Prop :=
  (0 ≤ e.1 ∧ e.1 ≤ 40) ∧ (∀ k, 0 ≤ e.2.1 k ∧ e.2.1 k ≤ 50) ∧ (0 ≤ e.2.2.1 ∧ e.2.2.1 ≤ 8) ∧ (∀ j, 0 ≤ (e.2.2.2 j).2.2.1 ∧ (e.2.2.2 j).2.2.1 ≤ 40) ∧ (∀ j k, 0 ≤ (e.2.2.2 j).2.2.2 k ∧ (e.2.2.2 j).2.2.2 k ≤ 50) ∧
  (∀ k, 0 ≤ f.1 k ∧ f.1 k ≤ 50) ∧ f.1 40 = e.1 ∧ (∀ k, 0 ≤ k → k < e.1 → f.1 k = e.2.1 k) ∧ (∀ k, 0 ≤ f.2.1 k ∧ f.2.1 k ≤ 50) ∧ f.2.2 = e.2.2.1 ∧
  (∀ j, 0 ≤ j → j < e.2.2.1 → f.2.1 (41 * j + 40) = (e.2.2.2 j).2.2.1 ∧ ∀ k, 0 ≤ k → k < (e.2.2.2 j).2.2.1 → f.2.1 (41 * j + k) = (e.2.2.2 j).2.2.2 k)
def pu_Im1 (o : Option pu_Z) (im : Int → Int) (z : Int) (q : Prop) : Prop := match o with
  | none => ¬ q
  | some m => q ∧ (0 ≤ m.2.2.1 ∧ m.2.2.1 ≤ 40) ∧ (∀ j, 0 ≤ m.2.2.2 j ∧ m.2.2.2 j ≤ 50) ∧ im (41 * z + 40) = m.2.2.1 ∧ ∀ j, 0 ≤ j → j < m.2.2.1 → im (41 * z + j) = m.2.2.2 j
def pu_Img (o0 o1 : Option pu_Z) (im : Int → Int) (fl : Int) : Prop := (0 ≤ fl ∧ fl ≤ 3) ∧ (∀ j, 0 ≤ im j ∧ im j ≤ 50) ∧ pu_Im1 o0 im 0 (mo_kept 0 fl) ∧ pu_Im1 o1 im 1 (mo_kept 1 fl)
theorem mo_getH_at {pa h : Int → Int} {o : Int} (j : Int) : mo_getH pa o h j = if 0 ≤ j ∧ j < 41 then pa (41 * o + j) else h j := by
  unfold mo_getH
  have := hs_up_inv (f := fun k (y : Int → Int) => hs_u y k (pa (41 * o + k))) (fun k y => ∀ j, y j = if 0 ≤ j ∧ j < k then pa (41 * o + j) else h j) (e := 41) _ 0 h (Nat.le_refl _) (by omega) (fun j => by rw [if_neg (by omega)]) (fun k y h1 h2 hy j => by
    (try dsimp only)
    by_cases hj : j = k
    · rw [hj, hs_u_self, if_pos (by omega)]
    · rw [hs_u_ne hj, hy j]
      by_cases hc : 0 ≤ j ∧ j < k
      · rw [if_pos hc, if_pos (by omega)]
      · rw [if_neg hc, if_neg (by omega)])
  exact this j
theorem mo_sh_at {x : Int → Int} (j : Int) : mo_sh x j = if 0 ≤ j ∧ j < 287 then x (j + 41) else x j := by
  unfold mo_sh
  have := hs_up_inv (f := fun k (y : Int → Int) => hs_u y k (y (k + 41))) (fun k y => ∀ j, y j = if 0 ≤ j ∧ j < k then x (j + 41) else x j) (e := 287) _ 0 x (Nat.le_refl _) (by omega) (fun j => by rw [if_neg (by omega)]) (fun k y h1 h2 hy j => by
    (try dsimp only)
    by_cases hj : j = k
    · rw [hj, hs_u_self, if_pos (by omega), hy (k + 41), if_neg (by omega)]
    · rw [hs_u_ne hj, hy j]
      by_cases hc : 0 ≤ j ∧ j < k
      · rw [if_pos hc, if_pos (by omega)]
      · rw [if_neg hc, if_neg (by omega)])
  exact this j
theorem hs_cp_at {f g : Int → Int} {sp dp n : Int} (k : Int) : hs_cp f g sp dp n k = if dp ≤ k ∧ k < dp + n then f (sp + (k - dp)) else g k := rfl
/-- behind remember: the states agree again -/
theorem rel_rem {e : pu_E} {f : mo_E} (R : pu_Rel e f) {n' : Int} {g' h' : Int → Int} (hn : 0 ≤ n' ∧ n' ≤ 40) (hg : ∀ k, 0 ≤ g' k ∧ g' k ≤ 50) (hh : ∀ k, 0 ≤ h' k ∧ h' k ≤ 50) (h40 : h' 40 = n') (hk : ∀ k, 0 ≤ k → k < n' → h' k = g' k) : pu_Rel (n', g', pu_remC e.2.2.1, pu_remZ e.2.2.1 e.2.2.2 e.1 e.2.1) (h', mo_rP f.1 f.2.1 f.2.2, mo_rC f.2.2) := by
  obtain ⟨n, g, ct, Z⟩ := e
  obtain ⟨h, pa, pm⟩ := f
  obtain ⟨r1, r2, r3, r4, r5, r6, r7, r8, r9, r10, r11⟩ := R
  dsimp only at r1 r2 r3 r4 r5 r6 r7 r8 r9 r10 r11 ⊢
  subst r10
  refine ⟨hn, hg, ?_, ?_, ?_, hh, h40, hk, mo_rP_bd r6 r9, rfl, ?_⟩
  · unfold pu_remC; dsimp only; split <;> omega
  · intro j
    unfold pu_remZ
    dsimp only
    split
    · split
      · exact r1
      · exact r4 _
    · split
      · exact r1
      · exact r4 _
  · intro j k
    unfold pu_remZ
    dsimp only
    split
    · split
      · exact hs_cp_bd r2 (r5 0) k
      · exact r5 _ k
    · split
      · exact hs_cp_bd r2 (r5 pm) k
      · exact r5 _ k
  · intro j j0 j1
    unfold pu_remC at j1
    unfold mo_rP pu_remZ
    dsimp only at j1 ⊢
    by_cases hp : pm = 8
    · simp only [if_pos hp] at j1 ⊢
      by_cases hj : j = 7
      · subst hj
        simp only [if_true]
        constructor
        · rw [mo_cpy_at, if_pos (by omega), show 41 * 7 + 40 - 41 * 7 = (40 : Int) by omega]; exact r7
        · intro k k0 k1
          rw [mo_cpy_at, if_pos (by omega), hs_cp_at, if_pos (by omega), show 41 * 7 + k - 41 * 7 = k by omega, show 0 + (k - 0) = k by omega]
          exact r8 k k0 k1
      · simp only [if_neg hj]
        obtain ⟨q1, q2⟩ := r11 (j + 1) (by omega) (by omega)
        constructor
        · rw [mo_cpy_at, if_neg (by omega), mo_sh_at, if_pos (by omega), ← q1]; congr 1; omega
        · intro k k0 k1
          have := r4 (j + 1)
          rw [mo_cpy_at, if_neg (by omega), mo_sh_at, if_pos (by omega), ← q2 k k0 k1]; congr 1; omega
    · simp only [if_neg hp] at j1 ⊢
      by_cases hj : j = pm
      · subst hj
        simp only [if_true]
        constructor
        · rw [mo_cpy_at, if_pos (by omega), show 41 * j + 40 - 41 * j = (40 : Int) by omega]; exact r7
        · intro k k0 k1
          rw [mo_cpy_at, if_pos (by omega), hs_cp_at, if_pos (by omega), show 41 * j + k - 41 * j = k by omega, show 0 + (k - 0) = k by omega]
          exact r8 k k0 k1
      · simp only [if_neg hj]
        obtain ⟨q1, q2⟩ := r11 j j0 (by omega)
        constructor
        · rw [mo_cpy_at, if_neg (by omega)]; exact q1
        · intro k k0 k1
          have := r4 j
          rw [mo_cpy_at, if_neg (by omega)]; exact q2 k k0 k1
theorem eq_back {e : pu_E} {f : mo_E} (R : pu_Rel e f) {m : pu_Z} {im : Int → Int} {z : Int} {q : Prop} (hz : 0 ≤ z ∧ z ≤ 1) (him : ∀ j, 0 ≤ im j ∧ im j ≤ 50) (hm : pu_Im1 (some m) im z q) : (mo_back im z f).1 = m.2.2.1 ∧ pu_Rel (m.2.2.1, hs_cp m.2.2.2 e.2.1 0 0 m.2.2.1, pu_remC e.2.2.1, pu_remZ e.2.2.1 e.2.2.2 e.1 e.2.1) (mo_back im z f).2 := by
  obtain ⟨-, m1, m2, m3, m4⟩ := hm
  have r2 := R.2.1
  have r6 := R.2.2.2.2.2.1
  unfold mo_back
  dsimp only
  have h40 : mo_getH im z f.1 40 = m.2.2.1 := by rw [mo_getH_at, if_pos (by omega)]; exact m3
  refine ⟨h40, rel_rem R m1 (hs_cp_bd m2 r2) (fun k => ?_) h40 (fun k k0 k1 => ?_)⟩
  · rw [mo_getH_at]
    split
    · exact him _
    · exact r6 k
  · rw [mo_getH_at, if_pos (by omega), hs_cp_at, if_pos (by omega), m4 k k0 k1, show 0 + (k - 0) = k by omega]
theorem eq_parting {e : pu_E} {f : mo_E} (R : pu_Rel e f) {m : pu_Z} {im : Int → Int} {z : Int} {q : Prop} (hm : pu_Im1 (some m) im z q) : mo_parting f.1 im z = pu_fd e.2.1 m.2.2.2 e.1 m.2.2.1 := by
  obtain ⟨n, g, ct, Z⟩ := e
  obtain ⟨h, pa, pm⟩ := f
  obtain ⟨r1, r2, r3, r4, r5, r6, r7, r8, r9, r10, r11⟩ := R
  dsimp only at r1 r2 r3 r4 r5 r6 r7 r8 r9 r10 r11 ⊢
  obtain ⟨-, m1, m2, m3, m4⟩ := hm
  have hw : ∀ (k : Nat) (x : Int), 0 ≤ x → x ≤ min n m.2.2.1 → min n m.2.2.1 - x < (k : Int) → (hs_wh (mo_paP h im z) (fun x => x + 1) k x = if hs_fu1 (fun i => ¬ g i = m.2.2.2 i) x (min n m.2.2.1) = -9 then min n m.2.2.1 else hs_fu1 (fun i => ¬ g i = m.2.2.2 i) x (min n m.2.2.1)) := by
    intro k
    induction k with
    | zero => intro x h0 h1 h2; omega
    | succ k ih =>
      intro x h0 h1 h2
      by_cases hx : x < min n m.2.2.1
      · rw [hs_fu1_step hx]
        by_cases he : g x = m.2.2.2 x
        · rw [if_neg (show ¬ ¬ g x = m.2.2.2 x from fun q => q he), hs_wh_step (show mo_paP h im z x from ⟨by omega, by omega, by rw [r8 x h0 (by omega), m4 x h0 (by omega)]; exact he⟩)]
          exact ih (x + 1) (by omega) (by omega) (by omega)
        · rw [if_pos he, if_neg (by omega), hs_wh_done (show ¬ mo_paP h im z x from fun q => he (by have := q.2.2; rw [r8 x h0 (by omega), m4 x h0 (by omega)] at this; exact this))]
      · rw [hs_fu1_done (by omega), if_pos rfl, hs_wh_done (show ¬ mo_paP h im z x from fun q => by have := q.1; have := q.2.1; omega)]
        omega
  have hpa : mo_pa h im z = if pu_fdx g m.2.2.2 n m.2.2.1 = -9 then min n m.2.2.1 else pu_fdx g m.2.2.2 n m.2.2.1 := by
    unfold mo_pa pu_fdx
    exact hw _ 0 (by omega) (by omega) (by omega)
  have hrg := hs_fu1_range (P := fun i => ¬ g i = m.2.2.2 i) (e := min n m.2.2.1) _ 0 (Nat.le_refl _)
  unfold mo_parting pu_fd
  rw [hpa, m3, r7]
  unfold pu_fdx at *
  generalize hs_fu1 (fun i => ¬ g i = m.2.2.2 i) 0 (min n m.2.2.1) = x at hrg ⊢
  by_cases hx : x = -9
  · rw [if_pos hx, if_pos hx]
    by_cases hnm : n = m.2.2.1
    · rw [if_pos (by omega), if_pos hnm]
    · rw [if_neg (by omega), if_neg hnm]
  · rw [if_neg hx, if_neg hx, if_neg (by omega)]
theorem eq_keep {e : pu_E} {f : mo_E} (R : pu_Rel e f) {o0 o1 : Option pu_Z} {im : Int → Int} {fl z : Int} (hI : pu_Img o0 o1 im fl) (hz : z = 0 ∨ z = 1) (a b : Nat) {mg : Int → Int} (hmg : ∀ j, 0 ≤ mg j ∧ mg j ≤ 50) : pu_Img (if z = 0 then some (a, b, e.1, hs_cp e.2.1 mg 0 0 e.1) else o0) (if z = 1 then some (a, b, e.1, hs_cp e.2.1 mg 0 0 e.1) else o1) (mo_cpy f.1 z im) (mo_fl z fl) := by
  obtain ⟨n, g, ct, Z⟩ := e
  obtain ⟨h, pa, pm⟩ := f
  obtain ⟨r1, r2, r3, r4, r5, r6, r7, r8, r9, r10, r11⟩ := R
  dsimp only at r1 r2 r3 r4 r5 r6 r7 r8 r9 r10 r11 ⊢
  obtain ⟨i1, i2, i3, i4⟩ := hI
  have hnew : ∀ q : Prop, q → pu_Im1 (some (a, b, n, hs_cp g mg 0 0 n)) (mo_cpy h z im) z q := by
    intro q hq
    refine ⟨hq, r1, hs_cp_bd r2 hmg, ?_, ?_⟩
    · rw [mo_cpy_at, if_pos (by omega), show 41 * z + 40 - 41 * z = (40 : Int) by omega]; exact r7
    · intro j j0 j1
      have j2 : j < n := j1
      rw [mo_cpy_at, if_pos (by omega), show 41 * z + j - 41 * z = j by omega]
      show h j = hs_cp g mg 0 0 n j
      rw [hs_cp_at, if_pos (by omega), r8 j j0 j2]
      congr 1; omega
  have hold : ∀ (o : Option pu_Z) (y : Int) (q q' : Prop), y ≠ z → (0 ≤ y ∧ y ≤ 1) → (q ↔ q') → pu_Im1 o im y q → pu_Im1 o (mo_cpy h z im) y q' := by
    intro o y q q' hy hy1 hqq ho
    cases o with
    | none => exact fun z => ho (hqq.mpr z)
    | some m =>
      obtain ⟨m0, m1, m2, m3, m4⟩ := ho
      refine ⟨hqq.mp m0, m1, m2, ?_, ?_⟩
      · rw [mo_cpy_at, if_neg (by omega)]; exact m3
      · intro j j0 j1
        rw [mo_cpy_at, if_neg (by omega)]; exact m4 j j0 j1
  have hfl : 0 ≤ mo_fl z fl ∧ mo_fl z fl ≤ 3 := by
    unfold mo_fl
    repeat (first | omega | split)
  refine ⟨hfl, mo_cpy_bd r6 i2, ?_, ?_⟩
  · rcases hz with rfl | rfl
    · rw [if_pos rfl]
      refine hnew _ ?_
      unfold mo_kept mo_fl
      rw [if_pos rfl]
      refine Or.inl ⟨rfl, ?_⟩
      repeat (first | omega | split)
    · rw [if_neg (by omega)]
      refine hold o0 0 _ _ (by omega) (by omega) ?_ i3
      unfold mo_kept mo_fl
      rw [if_neg (by omega)]
      constructor <;> intro hq <;> (repeat (first | omega | split)) <;> (split at hq <;> (try split at hq) <;> omega)
  · rcases hz with rfl | rfl
    · rw [if_neg (by omega)]
      refine hold o1 1 _ _ (by omega) (by omega) ?_ i4
      unfold mo_kept mo_fl
      rw [if_pos rfl]
      constructor <;> intro hq <;> (repeat (first | omega | split)) <;> (split at hq <;> (try split at hq) <;> omega)
    · rw [if_pos rfl]
      refine hnew _ ?_
      unfold mo_kept mo_fl
      rw [if_neg (by omega)]
      refine Or.inr ⟨rfl, ?_⟩
      repeat (first | omega | split)
