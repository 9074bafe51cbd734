/-! the reference's rectangles: how many (or the place), areas, firsts, lasts -/
abbrev mo_R : Type := Int × (Int → Int) × (Int → Int) × (Int → Int)
abbrev mo_inP (v : Int) : mo_R → Prop := fun x => 0 < x.1 ∧ x.2.1 (x.1 - 1) < v
def mo_inF : mo_R → mo_R := fun x => (x.1 + (-1), hs_u x.2.1 x.1 (x.2.1 (x.1 - 1)), hs_u x.2.2.1 x.1 (x.2.2.1 (x.1 - 1)), hs_u x.2.2.2 x.1 (x.2.2.2 (x.1 - 1)))
def mo_in (v : Int) (x : mo_R) : mo_R := hs_wh (mo_inP v) mo_inF ((x.1).toNat + 1) x
def mo_put (a b v : Int) (x : mo_R) : mo_R := (x.1 + 1, hs_u (mo_in v x).2.1 (mo_in v x).1 v, hs_u (mo_in v x).2.2.1 (mo_in v x).1 a, hs_u (mo_in v x).2.2.2 (mo_in v x).1 b)
def mo_lyI (h : Int → Int) (a b : Int) (x : mo_R) : mo_R := if mo_max h a b then mo_put a b (mo_mn h a b * (b - a + 1)) x else x
def mo_lyO (h : Int → Int) (a : Int) (x : mo_R) : mo_R := hs_up (mo_lyI h a) a (h 40) x
def mo_ly (h : Int → Int) (x : mo_R) : mo_R := hs_up (mo_lyO h) 0 (h 40) (0, x.2)
theorem mo_lyI_mono (h : Int → Int) (a b : Int) (x : mo_R) : x.1 ≤ (mo_lyI h a b x).1 := by
  unfold mo_lyI
  split
  · unfold mo_put; dsimp only; omega
  · omega
theorem mo_lyU_mono {h : Int → Int} {a : Int} (b e : Int) (x : mo_R) : x.1 ≤ (hs_up (mo_lyI h a) b e x).1 := hs_up_ind (fun (y : mo_R) => x.1 ≤ y.1) (Int.le_refl _) (fun j y _ _ hy => Int.le_trans hy (mo_lyI_mono h a j y))
theorem mo_lyV_mono {h : Int → Int} (a e : Int) (x : mo_R) : x.1 ≤ (hs_up (mo_lyO h) a e x).1 := hs_up_ind (fun (y : mo_R) => x.1 ≤ y.1) (Int.le_refl _) (fun j y _ _ hy => Int.le_trans hy (mo_lyU_mono j (h 40) y))
theorem mo_mn_le {h : Int → Int} {a b j : Int} (h1 : a ≤ j) (h2 : j ≤ b) : mo_mn h a b ≤ h j := by
  have := hs_up_inv (f := fun i x => if h i < x then h i else x) (fun i x => ∀ q, a ≤ q → q < i → x ≤ h q) (e := b + 1) _ a (h a) (Nat.le_refl _) (by omega) (fun q q1 q2 => by omega) (fun i y g1 g2 hy q q1 q2 => by
    (try dsimp only)
    split
    · by_cases hq : q = i
      · rw [hq]; omega
      · have := hy q q1 (by omega); omega
    · by_cases hq : q = i
      · rw [hq]; omega
      · exact hy q q1 (by omega))
  exact this j h1 (by omega)
theorem mo_mx_ge {h : Int → Int} {a b j : Int} (h1 : a ≤ j) (h2 : j ≤ b) : h j ≤ mo_mx h a b := by
  have := hs_up_inv (f := fun i x => if x < h i then h i else x) (fun i x => ∀ q, a ≤ q → q < i → h q ≤ x) (e := b + 1) _ a (h a) (Nat.le_refl _) (by omega) (fun q q1 q2 => by omega) (fun i y g1 g2 hy q q1 q2 => by
    (try dsimp only)
    split
    · by_cases hq : q = i
      · rw [hq]; omega
      · have := hy q q1 (by omega); omega
    · by_cases hq : q = i
      · rw [hq]; omega
      · exact hy q q1 (by omega))
  exact this j h1 (by omega)
theorem mo_rt_spec {h : Int → Int} {a b : Int} (hab : a ≤ b) (hb : b ≤ 40) : a ≤ mo_rt h a b ∧ mo_rt h a b ≤ b ∧ h (mo_rt h a b) = mo_mn h a b ∧ ∀ i, a ≤ i → i < mo_rt h a b → ¬ h i = mo_mn h a b := by
  obtain ⟨j, j1, j2, j3⟩ := mo_mn_ex (h := h) hab
  have := mo_fw_spec j1 (by omega) j3
  unfold mo_rt
  exact ⟨this.1, by omega, this.2.2.1, this.2.2.2⟩
theorem mo_own_inj {h : Int → Int} {a b a' b' : Int} (h0 : 0 ≤ a ∧ 0 ≤ a') (hab : a ≤ b) (hab' : a' ≤ b') (hb : b ≤ h 40 - 1) (hb' : b' ≤ h 40 - 1) (hN : h 40 ≤ 40) (hm : mo_max h a b) (hm' : mo_max h a' b') (he : mo_rt h a b = mo_rt h a' b') : a = a' ∧ b = b' := by
  obtain ⟨r1, r2, r3, -⟩ := mo_rt_spec (h := h) hab (by omega)
  obtain ⟨s1, s2, s3, -⟩ := mo_rt_spec (h := h) hab' (by omega)
  rw [he] at r1 r2 r3
  have e : mo_mn h a b = mo_mn h a' b' := by rw [← r3, ← s3]
  obtain ⟨m1, m2, m3⟩ := hm
  obtain ⟨n1, n2, n3⟩ := hm'
  constructor
  · rcases Int.lt_trichotomy a a' with g | g | g
    · have := mo_mn_le (h := h) (a := a) (b := b) (j := a' - 1) (by omega) (by omega)
      omega
    · exact g
    · have := mo_mn_le (h := h) (a := a') (b := b') (j := a - 1) (by omega) (by omega)
      omega
  · rcases Int.lt_trichotomy b b' with g | g | g
    · have := mo_mn_le (h := h) (a := a') (b := b') (j := b + 1) (by omega) (by omega)
      omega
    · exact g
    · have := mo_mn_le (h := h) (a := a) (b := b) (j := b' + 1) (by omega) (by omega)
      omega
theorem mo_nodup_le : ∀ (N : Nat) (l : List Int), l.Nodup → (∀ i ∈ l, 0 ≤ i ∧ i < (N : Int)) → l.length ≤ N := by
  intro N
  induction N with
  | zero =>
    intro l _ h
    cases l with
    | nil => simp
    | cons a l => have := h a List.mem_cons_self; omega
  | succ N ih =>
    intro l hn h
    by_cases hm : (N : Int) ∈ l
    · have h1 := ih (l.erase (N : Int)) (hn.erase _) (fun i hi => by
        have hne := (hn.mem_erase_iff.mp hi)
        have := h i hne.2
        have h3 := hne.1
        omega)
      rw [List.length_erase_of_mem hm] at h1
      omega
    · have h1 := ih l hn (fun i hi => by
        have := h i hi
        have h3 : i ≠ (N : Int) := fun e => hm (e ▸ hi)
        omega)
      omega
theorem mo_ly_le {h : Int → Int} {x : mo_R} (hN : 0 ≤ h 40 ∧ h 40 ≤ 40) : 0 ≤ (mo_ly h x).1 ∧ (mo_ly h x).1 ≤ h 40 := by
  have key := hs_up_inv (f := mo_lyO h) (fun a (x : mo_R) => ∃ l : List Int, l.Nodup ∧ x.1 = (l.length : Int) ∧ ∀ i ∈ l, ∃ a' b', 0 ≤ a' ∧ a' < a ∧ a' ≤ b' ∧ b' ≤ h 40 - 1 ∧ mo_max h a' b' ∧ mo_rt h a' b' = i) (e := h 40) _ 0 (0, x.2) (Nat.le_refl _) hN.1 ⟨[], List.nodup_nil, by simp, fun i hi => by simp at hi⟩ (fun a y ha0 ha1 hy => by
    unfold mo_lyO
    have inner := hs_up_inv (f := mo_lyI h a) (fun b (x : mo_R) => ∃ l : List Int, l.Nodup ∧ x.1 = (l.length : Int) ∧ ∀ i ∈ l, ∃ a' b', 0 ≤ a' ∧ (a' < a ∨ (a' = a ∧ b' < b)) ∧ a' ≤ b' ∧ b' ≤ h 40 - 1 ∧ mo_max h a' b' ∧ mo_rt h a' b' = i) (e := h 40) _ a y (Nat.le_refl _) (by omega) (by
      obtain ⟨l, l1, l2, l3⟩ := hy
      exact ⟨l, l1, l2, fun i hi => by
        obtain ⟨a', b', q0, q1, q2, q3, q4, q5⟩ := l3 i hi
        exact ⟨a', b', q0, Or.inl q1, q2, q3, q4, q5⟩⟩) (fun b z hb0 hb1 hz => by
      obtain ⟨l, l1, l2, l3⟩ := hz
      unfold mo_lyI
      split
      · next hmax =>
        refine ⟨mo_rt h a b :: l, ?_, ?_, fun i hi => ?_⟩
        · rw [List.nodup_cons]
          refine ⟨fun hi => ?_, l1⟩
          obtain ⟨a', b', q0, q1, q2, q3, q4, q5⟩ := l3 _ hi
          have := mo_own_inj ⟨q0, ha0⟩ q2 hb0 q3 (by omega) hN.2 q4 hmax q5
          omega
        · unfold mo_put
          dsimp only
          rw [l2, List.length_cons]
          omega
        · rcases List.mem_cons.mp hi with e | e
          · exact ⟨a, b, ha0, Or.inr ⟨rfl, by omega⟩, hb0, by omega, hmax, e.symm⟩
          · obtain ⟨a', b', q0, q1, q2, q3, q4, q5⟩ := l3 i e
            exact ⟨a', b', q0, by omega, q2, q3, q4, q5⟩
      · exact ⟨l, l1, l2, fun i hi => by
          obtain ⟨a', b', q0, q1, q2, q3, q4, q5⟩ := l3 i hi
          exact ⟨a', b', q0, by omega, q2, q3, q4, q5⟩⟩)
    obtain ⟨l, l1, l2, l3⟩ := inner
    exact ⟨l, l1, l2, fun i hi => by
      obtain ⟨a', b', q0, q1, q2, q3, q4, q5⟩ := l3 i hi
      exact ⟨a', b', q0, by omega, q2, q3, q4, q5⟩⟩)
  obtain ⟨l, l1, l2, l3⟩ := key
  have := mo_nodup_le (h 40).toNat l l1 (fun i hi => by
    obtain ⟨a', b', q0, q1, q2, q3, q4, q5⟩ := l3 i hi
    have := mo_rt_rg (h := h) q2 (by omega)
    omega)
  unfold mo_ly
  omega
abbrev mo_RB (x : mo_R) : Prop := (∀ k, 0 ≤ x.2.1 k ∧ x.2.1 k ≤ 2500) ∧ (∀ k, 0 ≤ x.2.2.1 k ∧ x.2.2.1 k ≤ 39) ∧ (∀ k, 0 ≤ x.2.2.2 k ∧ x.2.2.2 k ≤ 39)
theorem mo_area_bd {h : Int → Int} {a b : Int} (hh : ∀ k, 0 ≤ h k ∧ h k ≤ 50) (hab : a ≤ b + 1) (hl : b - a + 1 ≤ 50) : 0 ≤ mo_mn h a b * (b - a + 1) ∧ mo_mn h a b * (b - a + 1) ≤ 2500 := by
  have q := mo_mn_bd (a := a) (b := b) hh
  have := pu_mulb (x := mo_mn h a b) (y := b - a + 1) (by omega) (by omega)
  have := Int.mul_nonneg q.1 (show 0 ≤ b - a + 1 by omega)
  omega
theorem mo_ly_bd {h : Int → Int} {x : mo_R} (hh : ∀ k, 0 ≤ h k ∧ h k ≤ 50) (hN : 0 ≤ h 40 ∧ h 40 ≤ 40) (hx : mo_RB x) : mo_RB (mo_ly h x) := by
  unfold mo_ly
  refine hs_up_ind (fun (y : mo_R) => mo_RB y) hx (fun a y ha0 ha1 hy => ?_)
  unfold mo_lyO
  refine hs_up_ind (fun (y : mo_R) => mo_RB y) hy (fun b z hb0 hb1 hz => ?_)
  unfold mo_lyI
  split
  · have hi : mo_RB (mo_in (mo_mn h a b * (b - a + 1)) z) := by
      unfold mo_in
      refine hs_wh_ind (P := mo_inP (mo_mn h a b * (b - a + 1))) (fun (y : mo_R) => mo_RB y) (fun w _ hw => ?_) _ z hz
      unfold mo_inF
      exact ⟨hs_u_bd hw.1 (hw.1 _), hs_u_bd hw.2.1 (hw.2.1 _), hs_u_bd hw.2.2 (hw.2.2 _)⟩
    unfold mo_put
    exact ⟨hs_u_bd hi.1 (mo_area_bd hh (by omega) (by omega)), hs_u_bd hi.2.1 (by omega), hs_u_bd hi.2.2 (by omega)⟩
  · exact hz
/-- at every place below the count, the first column isn't behind the last -/
theorem mo_ly_ord {h : Int → Int} {x : mo_R} : ∀ q, 0 ≤ q → q < (mo_ly h x).1 → (mo_ly h x).2.2.1 q ≤ (mo_ly h x).2.2.2 q := by
  have key : (fun (y : mo_R) => 0 ≤ y.1 ∧ ∀ q, 0 ≤ q → q < y.1 → y.2.2.1 q ≤ y.2.2.2 q) (mo_ly h x) := by
    unfold mo_ly
    refine hs_up_ind (fun (y : mo_R) => 0 ≤ y.1 ∧ ∀ q, 0 ≤ q → q < y.1 → y.2.2.1 q ≤ y.2.2.2 q) ⟨by dsimp only; omega, fun q h1 h2 => by dsimp only at h2; omega⟩ (fun a y _ _ hy => ?_)
    unfold mo_lyO
    refine hs_up_ind (fun (y : mo_R) => 0 ≤ y.1 ∧ ∀ q, 0 ≤ q → q < y.1 → y.2.2.1 q ≤ y.2.2.2 q) hy (fun b z hb0 hb1 hz => ?_)
    unfold mo_lyI
    split
    · have hi : (fun (w : mo_R) => 0 ≤ w.1 ∧ w.1 ≤ z.1 ∧ ∀ q, 0 ≤ q → q ≤ z.1 → q ≠ w.1 → w.2.2.1 q ≤ w.2.2.2 q) (mo_in (mo_mn h a b * (b - a + 1)) z) := by
        unfold mo_in
        refine hs_wh_ind (P := mo_inP (mo_mn h a b * (b - a + 1))) (fun (w : mo_R) => 0 ≤ w.1 ∧ w.1 ≤ z.1 ∧ ∀ q, 0 ≤ q → q ≤ z.1 → q ≠ w.1 → w.2.2.1 q ≤ w.2.2.2 q) (fun w hw hz2 => ?_) _ z ⟨hz.1, Int.le_refl _, fun q h1 h2 h3 => hz.2 q h1 (by omega)⟩
        have hw1 := hw.1
        obtain ⟨g1, g2, g3⟩ := hz2
        unfold mo_inF
        dsimp only
        refine ⟨by omega, by omega, fun q h1 h2 h3 => ?_⟩
        by_cases hq : q = w.1
        · rw [hq, hs_u_self, hs_u_self]; exact g3 _ (by omega) (by omega) (by omega)
        · rw [hs_u_ne hq, hs_u_ne hq]; exact g3 q h1 h2 hq
      obtain ⟨i1, i2, i3⟩ := hi
      unfold mo_put
      dsimp only
      refine ⟨by have := hz.1; omega, fun q h1 h2 => ?_⟩
      by_cases hq : q = (mo_in (mo_mn h a b * (b - a + 1)) z).1
      · rw [hq, hs_u_self, hs_u_self]; exact hb0
      · rw [hs_u_ne hq, hs_u_ne hq]; exact i3 q h1 (by omega) hq
    · exact hz
  exact key.2
/-! the reference's changes, over (h, past, how many) -/
def mo_rC (pm : Int) : Int := if pm = 8 then 8 else pm + 1
theorem mo_rC_rg {pm : Int} (h : 0 ≤ pm ∧ pm ≤ 8) : 1 ≤ mo_rC pm ∧ mo_rC pm ≤ 8 := by
  unfold mo_rC
  split <;> omega
theorem mo_cpy_at {h x : Int → Int} {o : Int} (j : Int) : mo_cpy h o x j = if 41 * o ≤ j ∧ j < 41 * o + 41 then h (j - 41 * o) else x j := by
  unfold mo_cpy
  have := hs_up_inv (f := fun k (y : Int → Int) => hs_u y (41 * o + k) (h k)) (fun k y => ∀ j, y j = if 41 * o ≤ j ∧ j < 41 * o + k then h (j - 41 * o) else x j) (e := 41) _ 0 x (Nat.le_refl _) (by omega) (fun j => by rw [if_neg (by omega)]) (fun k y h1 h2 hy j => by
    (try dsimp only)
    by_cases hj : j = 41 * o + k
    · rw [hj, hs_u_self, if_pos (by omega), show 41 * o + k - 41 * o = k by omega]
    · rw [hs_u_ne hj, hy j]
      by_cases hc : 41 * o ≤ j ∧ j < 41 * o + k
      · rw [if_pos hc, if_pos (by omega)]
      · rw [if_neg hc, if_neg (by omega)])
  exact this j
theorem mo_before {h pa : Int → Int} {pm i : Int} (hi : 0 ≤ i ∧ i ≤ 40) : mo_rP h pa pm (41 * (mo_rC pm - 1) + i) = h i := by
  unfold mo_rP mo_rC
  by_cases hp : pm = 8
  · rw [if_pos hp, if_pos hp, mo_cpy_at, if_pos (by omega), show 41 * (8 - 1) + i - 41 * 7 = i by omega]
  · rw [if_neg hp, if_neg hp, mo_cpy_at, if_pos (by omega), show 41 * (pm + 1 - 1) + i - 41 * pm = i by omega]
theorem mo_ex {g : Int → Int} {j : Int} : hs_u (hs_u g j (g (j - 1))) (j - 1) (g j) = pu_ex g (j - 1) j := by
  unfold pu_ex
  funext k
  unfold hs_u
  by_cases h1 : k = j - 1
  · rw [if_pos h1, if_neg (by omega), if_pos h1]
  · rw [if_neg h1]
    by_cases h2 : k = j
    · rw [if_pos h2, if_pos h2]
    · rw [if_neg h2, if_neg h2, if_neg h1]
abbrev mo_E : Type := (Int → Int) × (Int → Int) × Int
def mo_insH (a v : Int) (h : Int → Int) : Int → Int := hs_u (hs_u (hs_dn (fun i x => hs_u x i (h (i - 1))) (h 40) (a + 1) h) 40 (h 40 + 1)) a v
def mo_insert (a v : Int) (e : mo_E) : Int × mo_E := if ¬ (0 ≤ a ∧ a ≤ e.1 40 ∧ 0 ≤ v ∧ v ≤ 50) then (-1, e) else if e.1 40 = 40 then (-3, e) else (mo_insH a v e.1 40, mo_insH a v e.1, mo_rP e.1 e.2.1 e.2.2, mo_rC e.2.2)
def mo_remH (i : Int) (h : Int → Int) : Int → Int := hs_up (fun k x => hs_u x k (x (k + 1))) i (h 40 - 1) (hs_u h 40 (h 40 - 1))
def mo_remove (i : Int) (e : mo_E) : Int × mo_E := if ¬ (0 ≤ i ∧ i ≤ e.1 40 - 1) then (-1, e) else (e.1 i, mo_remH i e.1, mo_rP e.1 e.2.1 e.2.2, mo_rC e.2.2)
def mo_set (i v : Int) (e : mo_E) : Int × mo_E := if ¬ (0 ≤ i ∧ i ≤ e.1 40 - 1 ∧ 0 ≤ v ∧ v ≤ 50) then (-1, e) else (e.1 i, hs_u e.1 i v, mo_rP e.1 e.2.1 e.2.2, mo_rC e.2.2)
/-- how many places of a range differ from the state before -/
def mo_chg (h pa : Int → Int) (pm a b : Int) : Int := hs_up (fun i x => if h i = pa (41 * (pm - 1) + i) then x + 0 else x + 1) a (b + 1) 0
def mo_raiH (a b d : Int) (h : Int → Int) : Int → Int := hs_up (fun i x => hs_u x i (max 0 (min (x i + d) 50))) a (b + 1) h
def mo_raise (a b d : Int) (e : mo_E) : Int × mo_E := if ¬ (0 ≤ a ∧ a ≤ b ∧ b ≤ e.1 40 - 1 ∧ -50 ≤ d ∧ d ≤ 50) then (-1, e) else (mo_chg (mo_raiH a b d e.1) (mo_rP e.1 e.2.1 e.2.2) (mo_rC e.2.2) a b, mo_raiH a b d e.1, mo_rP e.1 e.2.1 e.2.2, mo_rC e.2.2)
def mo_revH (a b : Int) (h : Int → Int) : Int → Int := hs_up (fun i x => hs_u x i (h (a + b - i))) a (b + 1) h
def mo_reverse (a b : Int) (e : mo_E) : Int × mo_E := if ¬ (0 ≤ a ∧ a ≤ b ∧ b ≤ e.1 40 - 1) then (-1, e) else (mo_chg (mo_revH a b e.1) (mo_rP e.1 e.2.1 e.2.2) (mo_rC e.2.2) a b, mo_revH a b e.1, mo_rP e.1 e.2.1 e.2.2, mo_rC e.2.2)
def mo_arr (h : Int → Int) (a b u : Int) : Int × (Int → Int) := hs_up (fun i x => (pu_ins a u i x.1 x.2).2) a (b + 1) (0, h)
def mo_sort (a b u : Int) (e : mo_E) : Int × mo_E := if ¬ (0 ≤ a ∧ a ≤ b ∧ b ≤ e.1 40 - 1 ∧ 0 ≤ u ∧ u ≤ 1) then (-1, e) else ((mo_arr e.1 a b u).1, (mo_arr e.1 a b u).2, mo_rP e.1 e.2.1 e.2.2, mo_rC e.2.2)
def mo_wetA (h w : Int → Int) : Int → Int := hs_up (fun i x => hs_u x i (mo_dep h 0 (h 40 - 1) i)) 0 (h 40) w
def mo_frzH (h w : Int → Int) : Int → Int := hs_up (fun i x => hs_u x i (x i + mo_wetA h w i)) 0 (h 40) h
def mo_freeze (w : Int → Int) (e : mo_E) : Int × mo_E := (mo_wat e.1 0 (e.1 40 - 1), mo_frzH e.1 w, mo_rP e.1 e.2.1 e.2.2, mo_rC e.2.2)
def mo_clear (e : mo_E) : Int × mo_E := (e.1 40, hs_u e.1 40 0, mo_rP e.1 e.2.1 e.2.2, mo_rC e.2.2)
def mo_getH (pa : Int → Int) (o : Int) (h : Int → Int) : Int → Int := hs_up (fun k x => hs_u x k (pa (41 * o + k))) 0 41 h
def mo_undo (e : mo_E) : Int × mo_E := if e.2.2 = 0 then (-2, e) else (e.2.2 - 1, mo_getH e.2.1 (e.2.2 - 1) e.1, e.2.1, e.2.2 - 1)
def mo_back (im : Int → Int) (z : Int) (e : mo_E) : Int × mo_E := (mo_getH im z e.1 40, mo_getH im z e.1, mo_rP e.1 e.2.1 e.2.2, mo_rC e.2.2)
abbrev mo_paP (h im : Int → Int) (z : Int) : Int → Prop := fun x => x < h 40 ∧ x < im (41 * z + 40) ∧ h x = im (41 * z + x)
def mo_pa (h im : Int → Int) (z : Int) : Int := hs_wh (mo_paP h im z) (fun x => x + 1) ((h 40 - 0).toNat + 1) 0
def mo_parting (h im : Int → Int) (z : Int) : Int := if mo_pa h im z = h 40 ∧ mo_pa h im z = im (41 * z + 40) then -9 else mo_pa h im z
