/-! PURE: loops as functions over whole numbers -/
def hs_for {σ : Type} (f : Int → σ → σ) : Nat → Int → σ → σ
  | 0, _, x => x
  | n + 1, i, x => hs_for f n (i + 1) (f i x)
/-- for (i; i < e; i++) x = f i x -/
def hs_up {σ : Type} (f : Int → σ → σ) (i e : Int) (x : σ) : σ := hs_for f (e - i).toNat i x
theorem hs_up_step {σ : Type} {f : Int → σ → σ} {i e : Int} {x : σ} (h : i < e) : hs_up f i e x = hs_up f (i + 1) e (f i x) := by
  unfold hs_up
  rw [show (e - i).toNat = (e - (i + 1)).toNat + 1 by omega]
  rfl
theorem hs_up_done {σ : Type} {f : Int → σ → σ} {i e : Int} {x : σ} (h : e ≤ i) : hs_up f i e x = x := by
  unfold hs_up
  rw [show (e - i).toNat = 0 by omega]
  rfl
def hs_forD {σ : Type} (f : Int → σ → σ) : Nat → Int → σ → σ
  | 0, _, x => x
  | n + 1, i, x => hs_forD f n (i + (-1)) (f i x)
/-- for (i; i >= e; i--) x = f i x -/
def hs_dn {σ : Type} (f : Int → σ → σ) (i e : Int) (x : σ) : σ := hs_forD f (i + 1 - e).toNat i x
theorem hs_dn_step {σ : Type} {f : Int → σ → σ} {i e : Int} {x : σ} (h : e ≤ i) : hs_dn f i e x = hs_dn f (i + (-1)) e (f i x) := by
  unfold hs_dn
  rw [show (i + 1 - e).toNat = (i + (-1) + 1 - e).toNat + 1 by omega]
  rfl
theorem hs_dn_done {σ : Type} {f : Int → σ → σ} {i e : Int} {x : σ} (h : i < e) : hs_dn f i e x = x := by
  unfold hs_dn
  rw [show (i + 1 - e).toNat = 0 by omega]
  rfl
/-- while (P x) x = f x, with fuel -/
def hs_wh {σ : Type} (P : σ → Prop) [DecidablePred P] (f : σ → σ) : Nat → σ → σ
  | 0, x => x
  | n + 1, x => if P x then hs_wh P f n (f x) else x
theorem hs_wh_step {σ : Type} {P : σ → Prop} [DecidablePred P] {f : σ → σ} {n : Nat} {x : σ} (h : P x) : hs_wh P f (n + 1) x = hs_wh P f n (f x) := by
  show (if P x then hs_wh P f n (f x) else x) = _
  rw [if_pos h]
theorem hs_wh_done {σ : Type} {P : σ → Prop} [DecidablePred P] {f : σ → σ} {n : Nat} {x : σ} (h : ¬ P x) : hs_wh P f n x = x := by
  cases n with
  | zero => rfl
  | succ n =>
    show (if P x then hs_wh P f n (f x) else x) = _
    rw [if_neg h]
/-- fuel beyond a measure doesn't matter -/
theorem hs_wh_fuel {σ : Type} {P : σ → Prop} [DecidablePred P] {f : σ → σ} (Z : σ → Prop) (μ : σ → Int) (hZ : ∀ x, Z x → P x → Z (f x) ∧ μ (f x) < μ x ∧ 0 ≤ μ (f x)) : ∀ (n m : Nat) (x : σ), Z x → μ x < n → μ x < m → 0 ≤ μ x → hs_wh P f n x = hs_wh P f m x := by
  intro n
  induction n with
  | zero => intro m x _ h _ h0; omega
  | succ n ih =>
    intro m x hx h1 h2 h0
    by_cases hP : P x
    · obtain ⟨a, b, c⟩ := hZ x hx hP
      cases m with
      | zero => omega
      | succ m => rw [hs_wh_step hP, hs_wh_step hP]; exact ih m (f x) a (by omega) (by omega) c
    · rw [hs_wh_done hP, hs_wh_done hP]
def hs_fi (P : Int → Prop) [DecidablePred P] : Nat → Int → Int
  | 0, _ => -9
  | n + 1, i => if P i then i else hs_fi P n (i + 1)
/-- the first i from i on, below e, with P, or NONE -/
def hs_fu1 (P : Int → Prop) [DecidablePred P] (i e : Int) : Int := hs_fi P (e - i).toNat i
theorem hs_fu1_step {P : Int → Prop} [DecidablePred P] {i e : Int} (h : i < e) : hs_fu1 P i e = if P i then i else hs_fu1 P (i + 1) e := by
  unfold hs_fu1
  rw [show (e - i).toNat = (e - (i + 1)).toNat + 1 by omega]
  rfl
theorem hs_fu1_done {P : Int → Prop} [DecidablePred P] {i e : Int} (h : e ≤ i) : hs_fu1 P i e = -9 := by
  unfold hs_fu1
  rw [show (e - i).toNat = 0 by omega]
  rfl
def hs_fiD (P : Int → Prop) [DecidablePred P] : Nat → Int → Int
  | 0, _ => -9
  | n + 1, i => if P i then i else hs_fiD P n (i + (-1))
/-- the first i from i on downwards to 0, with P, or NONE -/
def hs_fd1 (P : Int → Prop) [DecidablePred P] (i : Int) : Int := hs_fiD P (i + 1).toNat i
theorem hs_fd1_step {P : Int → Prop} [DecidablePred P] {i : Int} (h : 0 ≤ i) : hs_fd1 P i = if P i then i else hs_fd1 P (i + (-1)) := by
  unfold hs_fd1
  rw [show (i + 1).toNat = (i + (-1) + 1).toNat + 1 by omega]
  rfl
theorem hs_fd1_done {P : Int → Prop} [DecidablePred P] {i : Int} (h : i < 0) : hs_fd1 P i = -9 := by
  unfold hs_fd1
  rw [show (i + 1).toNat = 0 by omega]
  rfl
theorem hs_fu1_range {P : Int → Prop} [DecidablePred P] {e : Int} : ∀ (n : Nat) (i : Int), (e - i).toNat ≤ n → (hs_fu1 P i e = -9 ∧ ∀ j, i ≤ j → j < e → ¬ P j) ∨ (i ≤ hs_fu1 P i e ∧ hs_fu1 P i e < e ∧ P (hs_fu1 P i e) ∧ ∀ j, i ≤ j → j < hs_fu1 P i e → ¬ P j) := by
  intro n
  induction n with
  | zero => intro i h; exact Or.inl ⟨hs_fu1_done (by omega), fun j h1 h2 => by omega⟩
  | succ n ih =>
    intro i h
    by_cases hi : i < e
    · by_cases hP : P i
      · rw [hs_fu1_step hi, if_pos hP]; exact Or.inr ⟨by omega, hi, hP, fun j h1 h2 => by omega⟩
      · rw [hs_fu1_step hi, if_neg hP]
        rcases ih (i + 1) (by omega) with ⟨a, b⟩ | ⟨a, b, c, d⟩
        · exact Or.inl ⟨a, fun j h1 h2 => by
            by_cases hj : j = i
            · rw [hj]; exact hP
            · exact b j (by omega) h2⟩
        · exact Or.inr ⟨by omega, b, c, fun j h1 h2 => by
            by_cases hj : j = i
            · rw [hj]; exact hP
            · exact d j (by omega) h2⟩
    · exact Or.inl ⟨hs_fu1_done (by omega), fun j h1 h2 => by omega⟩
theorem hs_fd1_range {P : Int → Prop} [DecidablePred P] : ∀ (n : Nat) (i : Int), (i + 1).toNat ≤ n → (hs_fd1 P i = -9 ∧ ∀ j, 0 ≤ j → j ≤ i → ¬ P j) ∨ (0 ≤ hs_fd1 P i ∧ hs_fd1 P i ≤ i ∧ P (hs_fd1 P i) ∧ ∀ j, hs_fd1 P i < j → j ≤ i → ¬ P j) := by
  intro n
  induction n with
  | zero => intro i h; exact Or.inl ⟨hs_fd1_done (by omega), fun j h1 h2 => by omega⟩
  | succ n ih =>
    intro i h
    by_cases hi : 0 ≤ i
    · by_cases hP : P i
      · rw [hs_fd1_step hi, if_pos hP]; exact Or.inr ⟨hi, by omega, hP, fun j h1 h2 => by omega⟩
      · rw [hs_fd1_step hi, if_neg hP]
        rcases ih (i + (-1)) (by omega) with ⟨a, b⟩ | ⟨a, b, c, d⟩
        · exact Or.inl ⟨a, fun j h1 h2 => by
            by_cases hj : j = i
            · rw [hj]; exact hP
            · exact b j h1 (by omega)⟩
        · exact Or.inr ⟨a, by omega, c, fun j h1 h2 => by
            by_cases hj : j = i
            · rw [hj]; exact hP
            · exact d j h1 (by omega)⟩
    · exact Or.inl ⟨hs_fd1_done (by omega), fun j h1 h2 => by omega⟩
/-- an invariant of an upward loop -/
theorem hs_up_inv {σ : Type} {f : Int → σ → σ} (Z : Int → σ → Prop) {e : Int} : ∀ (n : Nat) (i : Int) (x : σ), (e - i).toNat ≤ n → i ≤ e → Z i x → (∀ j y, i ≤ j → j < e → Z j y → Z (j + 1) (f j y)) → Z e (hs_up f i e x) := by
  intro n
  induction n with
  | zero =>
    intro i x h hi hx _
    rw [hs_up_done (by omega)]
    rw [show e = i by omega]; exact hx
  | succ n ih =>
    intro i x h hi hx hs
    by_cases hlt : i < e
    · rw [hs_up_step hlt]
      exact ih (i + 1) (f i x) (by omega) (by omega) (hs i x (by omega) hlt hx) (fun j y h1 h2 => hs j y (by omega) h2)
    · rw [hs_up_done (by omega)]
      rw [show e = i by omega]; exact hx
/-- an upward loop that only counts on a place's value: its answer within a set -/
theorem hs_up_ind {σ : Type} {f : Int → σ → σ} (Z : σ → Prop) {i e : Int} {x : σ} (hx : Z x) (hs : ∀ j y, i ≤ j → j < e → Z y → Z (f j y)) : Z (hs_up f i e x) := by
  by_cases h : i ≤ e
  · exact hs_up_inv (fun _ y => Z y) _ i x (Nat.le_refl _) h hx (fun j y h1 h2 => hs j y h1 h2)
  · rw [hs_up_done (by omega)]; exact hx
theorem hs_up_congr {σ : Type} {f g : Int → σ → σ} {e : Int} : ∀ (n : Nat) (i : Int) (x : σ), (e - i).toNat ≤ n → (∀ j y, i ≤ j → j < e → f j y = g j y) → hs_up f i e x = hs_up g i e x := by
  intro n
  induction n with
  | zero => intro i x h _; rw [hs_up_done (by omega), hs_up_done (by omega)]
  | succ n ih =>
    intro i x h hc
    by_cases hlt : i < e
    · rw [hs_up_step hlt, hs_up_step hlt, hc i x (by omega) hlt]
      exact ih (i + 1) _ (by omega) (fun j y h1 h2 => hc j y (by omega) h2)
    · rw [hs_up_done (by omega), hs_up_done (by omega)]
/-- the last round of an upward loop -/
theorem hs_up_last {σ : Type} {f : Int → σ → σ} {e : Int} : ∀ (n : Nat) (i : Int) (x : σ), (e - i).toNat ≤ n → i ≤ e → hs_up f i (e + 1) x = f e (hs_up f i e x) := by
  intro n
  induction n with
  | zero =>
    intro i x h hi
    have he : i = e := by omega
    subst he
    rw [hs_up_step (by omega), hs_up_done (by omega), hs_up_done (by omega)]
  | succ n ih =>
    intro i x h hi
    by_cases hlt : i < e
    · rw [hs_up_step (show i < e + 1 by omega), hs_up_step hlt]
      exact ih (i + 1) _ (by omega) (by omega)
    · have he : i = e := by omega
      subst he
      rw [hs_up_step (by omega), hs_up_done (by omega), hs_up_done (by omega)]

/-! the class's own functions: HistogramStairs$Columns and the statics -/
def pu_sum (g : Int → Int) (a b : Int) : Int := hs_up (fun i x => x + g i) a (b + 1) 0
def pu_ll (g : Int → Int) (a b : Int) : Int := hs_up (fun i x => if g i < g x then i else x) (a + 1) (b + 1) a
def pu_lg (g : Int → Int) (a b : Int) : Int := hs_up (fun i x => if g i > g x then i else x) (a + 1) (b + 1) a
theorem pu_ll_rg (g : Int → Int) {a b : Int} (h : a ≤ b) : a ≤ pu_ll g a b ∧ pu_ll g a b ≤ b := by
  unfold pu_ll
  refine hs_up_ind (fun x => a ≤ x ∧ x ≤ b) (by omega) (fun j y h1 h2 hy => ?_)
  by_cases hc : g j < g y
  · simp only [if_pos hc]; omega
  · simp only [if_neg hc]; omega
theorem pu_lg_rg (g : Int → Int) {a b : Int} (h : a ≤ b) : a ≤ pu_lg g a b ∧ pu_lg g a b ≤ b := by
  unfold pu_lg
  refine hs_up_ind (fun x => a ≤ x ∧ x ≤ b) (by omega) (fun j y h1 h2 hy => ?_)
  by_cases hc : g j > g y
  · simp only [if_pos hc]; omega
  · simp only [if_neg hc]; omega
def pu_clamp (z : Int) : Int := max 0 (min z 50)
def pu_lift (g : Int → Int) (a b d : Int) : Int × (Int → Int) := hs_up (fun i x => if max 0 (min (x.2 i + d) 50) = x.2 i then x else (x.1 + 1, hs_u x.2 i (max 0 (min (x.2 i + d) 50)))) a (b + 1) (0, g)
def pu_ex (g : Int → Int) (i j : Int) : Int → Int := hs_u (hs_u g i (g j)) j (g i)
theorem pu_ex_bd {g : Int → Int} {i j lo hi : Int} (hg : ∀ k, lo ≤ g k ∧ g k ≤ hi) : ∀ k, lo ≤ pu_ex g i j k ∧ pu_ex g i j k ≤ hi := hs_u_bd (hs_u_bd hg (hg j)) (hg i)
def pu_mir (g : Int → Int) (a b : Int) : Int × (Int → Int) := hs_up (fun i x => if x.2 i = x.2 (a + b - i) then x else (x.1 + 2, pu_ex x.2 i (a + b - i))) a ((a + b + 1) / 2) (0, g)
abbrev pu_w (u x y : Int) : Prop := (u ≠ 0 ∧ y < x) ∨ (u = 0 ∧ x < y)
abbrev pu_insP (a u : Int) : Int × Int × (Int → Int) → Prop := fun x => a < x.1 ∧ pu_w u (x.2.2 (x.1 - 1)) (x.2.2 x.1)
def pu_insF : Int × Int × (Int → Int) → Int × Int × (Int → Int) := fun x => (x.1 + (-1), x.2.1 + 1, pu_ex x.2.2 (x.1 - 1) x.1)
def pu_ins (a u i n : Int) (g : Int → Int) : Int × Int × (Int → Int) := hs_wh (pu_insP a u) pu_insF ((i - a).toNat + 1) (i, n, g)
def pu_arr (g : Int → Int) (a b u : Int) : Int × (Int → Int) := hs_up (fun i x => (pu_ins a u i x.1 x.2).2) (a + 1) (b + 1) (0, g)
def pu_gh (g : Int → Int) (n : Int) : Int := if n = 0 then 0 else g (pu_lg g 0 (n - 1))
def pu_seenL (g : Int → Int) (n : Int) : Int × Int := hs_up (fun q x => if g q ≤ x.2 then x else (x.1 + 1, g q)) 0 n (0, -1)
def pu_seenR (g : Int → Int) (n : Int) : Int × Int := hs_up (fun q x => if g (n - 1 - q) ≤ x.2 then x else (x.1 + 1, g (n - 1 - q))) 0 n (0, -1)
def pu_rises (g : Int → Int) (n : Int) : Int × Int := hs_up (fun i x => (x.1 + max 0 (g i - x.2), g i)) 0 n (0, 0)
def pu_sl (g : Int → Int) (i : Int) : Int := hs_fd1 (fun j => g j < g i) (i - 1)
def pu_sr (g : Int → Int) (n i : Int) : Int := hs_fu1 (fun j => g j < g i) (i + 1) n
def pu_gl (g : Int → Int) (i : Int) : Int := hs_fd1 (fun j => g j > g i) (i - 1)
def pu_gr (g : Int → Int) (n i : Int) : Int := hs_fu1 (fun j => g j > g i) (i + 1) n
theorem pu_sl_rg (g : Int → Int) (i : Int) : pu_sl g i = -9 ∨ (0 ≤ pu_sl g i ∧ pu_sl g i ≤ i - 1) := by
  rcases hs_fd1_range (P := fun j => g j < g i) _ (i - 1) (Nat.le_refl _) with h | h
  · exact Or.inl h.1
  · exact Or.inr ⟨h.1, h.2.1⟩
theorem pu_sr_rg (g : Int → Int) (n i : Int) : pu_sr g n i = -9 ∨ (i + 1 ≤ pu_sr g n i ∧ pu_sr g n i < n) := by
  rcases hs_fu1_range (P := fun j => g j < g i) (e := n) _ (i + 1) (Nat.le_refl _) with h | h
  · exact Or.inl h.1
  · exact Or.inr ⟨h.1, h.2.1⟩
def pu_span (g : Int → Int) (n i : Int) : Int := (if pu_sr g n i = -9 then n - 1 else pu_sr g n i - 1) - (if pu_sl g i = -9 then 0 else pu_sl g i + 1) + 1
def pu_stl (g : Int → Int) (i : Int) : Int × Int := hs_dn (fun j x => if g j < g x.1 then (j, x.2 + 1) else x) (i - 1) 0 (i, 1)
abbrev pu_stP (k : Int) : Int × Int × Int → Prop := fun x => 0 ≤ x.1 ∧ x.2.1 < k
def pu_stF (g : Int → Int) : Int × Int × Int → Int × Int × Int := fun x => if g x.1 < g x.2.2 then (x.1 + (-1), x.2.1 + 1, x.1) else (x.1 + (-1), x.2.1, x.2.2)
def pu_st (g : Int → Int) (i k : Int) : Int × Int × Int := hs_wh (pu_stP k) (pu_stF g) ((i - 1 + 1).toNat + 1) (i - 1, 0, i)
def pu_sts (g : Int → Int) (i k : Int) : Int := if (pu_st g i k).2.1 = k then (pu_st g i k).2.2 else -9
def pu_fdx (g f : Int → Int) (n m : Int) : Int := hs_fu1 (fun i => ¬ g i = f i) 0 (min n m)
def pu_fd (g f : Int → Int) (n m : Int) : Int := if pu_fdx g f n m = -9 then (if n = m then -9 else min n m) else pu_fdx g f n m
/-! HistogramStairs$Water -/
theorem pu_mulb {x y : Int} (hx : -50 ≤ x ∧ x ≤ 50) (hy : -50 ≤ y ∧ y ≤ 50) : -2500 ≤ x * y ∧ x * y ≤ 2500 := by
  have h1 : 0 ≤ (50 - x) * (50 - y) := Int.mul_nonneg (by omega) (by omega)
  have h2 : 0 ≤ (50 + x) * (50 + y) := Int.mul_nonneg (by omega) (by omega)
  have h3 : 0 ≤ (50 - x) * (50 + y) := Int.mul_nonneg (by omega) (by omega)
  have h4 : 0 ≤ (50 + x) * (50 - y) := Int.mul_nonneg (by omega) (by omega)
  simp only [Int.sub_mul, Int.mul_sub, Int.add_mul, Int.mul_add] at h1 h2 h3 h4
  omega
def pu_wall (h : Int → Int) (a b : Int) (d : Int → Int) : Int × (Int → Int) := hs_up (fun i x => (max x.1 (h i), hs_u x.2 i (max x.1 (h i)))) a (b + 1) (0, d)
def pu_pr (h : Int → Int) (a b : Int) (d : Int → Int) : Int × Int × (Int → Int) := hs_dn (fun i x => (max x.1 (h i), x.2.1 + hs_u x.2.2 i (min (x.2.2 i) (max x.1 (h i)) - h i) i, hs_u x.2.2 i (min (x.2.2 i) (max x.1 (h i)) - h i))) b a (0, 0, d)
def pu_pour (h : Int → Int) (a b : Int) (d : Int → Int) : Int × (Int → Int) := (pu_pr h a b (pu_wall h a b d).2).2
abbrev pu_sp (d : Int → Int) (i : Int) : Prop := 0 < d i ∧ (i = 0 ∨ d (i - 1) = 0)
def pu_pc (d : Int → Int) (n : Int) : Int := hs_up (fun i x => if pu_sp d i then x + 1 else x) 0 n 0
def pu_psF (d : Int → Int) (q : Int) : Nat → Int → Int → Int
  | 0, _, _ => -9
  | f + 1, i, x => if pu_sp d i then (if x = q then i else pu_psF d q f (i + 1) (x + 1)) else pu_psF d q f (i + 1) x
def pu_psU (d : Int → Int) (q n i x : Int) : Int := pu_psF d q (n - i).toNat i x
theorem pu_psU_step {d : Int → Int} {q n i x : Int} (h : i < n) : pu_psU d q n i x = if pu_sp d i then (if x = q then i else pu_psU d q n (i + 1) (x + 1)) else pu_psU d q n (i + 1) x := by
  unfold pu_psU
  rw [show (n - i).toNat = (n - (i + 1)).toNat + 1 by omega]
  rfl
theorem pu_psU_done {d : Int → Int} {q n i x : Int} (h : n ≤ i) : pu_psU d q n i x = -9 := by
  unfold pu_psU
  rw [show (n - i).toNat = 0 by omega]
  rfl
def pu_ps (d : Int → Int) (q n : Int) : Int := pu_psU d q n 0 0
abbrev pu_peP (d : Int → Int) (n : Int) : Int → Prop := fun x => x + 1 < n ∧ 0 < d (x + 1)
def pu_pe (d : Int → Int) (z n : Int) : Int := hs_wh (pu_peP d n) (fun x => x + 1) ((n - z).toNat + 1) z
/-! HistogramStairs$Rectangles: count, firsts, lasts, tops, owners -/
abbrev pu_cb (f l t F L T : Int) : Prop := (t * (l - f + 1) ≠ T * (L - F + 1) ∧ T * (L - F + 1) < t * (l - f + 1)) ∨ (t * (l - f + 1) = T * (L - F + 1) ∧ f < F) ∨ (t * (l - f + 1) = T * (L - F + 1) ∧ f = F ∧ l < L)
abbrev pu_R : Type := Int × (Int → Int) × (Int → Int) × (Int → Int) × (Int → Int)
abbrev pu_plP (f l t : Int) : pu_R → Prop := fun x => 0 < x.1 ∧ pu_cb f l t (x.2.1 (x.1 - 1)) (x.2.2.1 (x.1 - 1)) (x.2.2.2.1 (x.1 - 1))
def pu_plF : pu_R → pu_R := fun x => (x.1 + (-1), hs_u x.2.1 x.1 (x.2.1 (x.1 - 1)), hs_u x.2.2.1 x.1 (x.2.2.1 (x.1 - 1)), hs_u x.2.2.2.1 x.1 (x.2.2.2.1 (x.1 - 1)), hs_u x.2.2.2.2 x.1 (x.2.2.2.2 (x.1 - 1)))
/-- the place, and the rows with a gap there -/
def pu_pl (f l t : Int) (x : pu_R) : pu_R := hs_wh (pu_plP f l t) pu_plF ((x.1).toNat + 1) x
def pu_place (f l t o : Int) (x : pu_R) : pu_R := (x.1 + 1, hs_u (pu_pl f l t x).2.1 (pu_pl f l t x).1 f, hs_u (pu_pl f l t x).2.2.1 (pu_pl f l t x).1 l, hs_u (pu_pl f l t x).2.2.2.1 (pu_pl f l t x).1 t, hs_u (pu_pl f l t x).2.2.2.2 (pu_pl f l t x).1 o)
abbrev pu_foP (g : Int → Int) (i a : Int) : Int → Prop := fun x => a < x ∧ g i < g (x - 1)
def pu_fo (g : Int → Int) (i a : Int) : Int := hs_wh (pu_foP g i a) (fun x => x + (-1)) ((i - a).toNat + 1) i
abbrev pu_flP (g : Int → Int) (i b : Int) : Int → Prop := fun x => x < b ∧ g i ≤ g (x + 1)
def pu_fl (g : Int → Int) (i b : Int) : Int := hs_wh (pu_flP g i b) (fun x => x + 1) ((b - i).toNat + 1) i
def pu_fob (g : Int → Int) (i a b : Int) (x : pu_R) : pu_R := if a < pu_fo g i a ∧ g (pu_fo g i a - 1) = g i then x else pu_place (pu_fo g i a) (pu_fl g i b) (g i) i x
def pu_find (g : Int → Int) (a b : Int) (x : pu_R) : pu_R := hs_up (fun i x => if g i ≤ 0 then x else pu_fob g i a b x) a (b + 1) (0, x.2)
def pu_own (g : Int → Int) (x : pu_R) (q : Int) : Int := hs_up (fun i y => if g i = x.2.2.2.1 q then y + 1 else y) (x.2.1 q) (x.2.2.1 q + 1) 0
theorem hs_wh_ind {σ : Type} {P : σ → Prop} [DecidablePred P] {f : σ → σ} (Z : σ → Prop) (hs : ∀ x, P x → Z x → Z (f x)) : ∀ (n : Nat) (x : σ), Z x → Z (hs_wh P f n x) := by
  intro n
  induction n with
  | zero => intro x h; exact h
  | succ n ih =>
    intro x h
    by_cases hp : P x
    · rw [hs_wh_step hp]; exact ih _ (hs x hp h)
    · rw [hs_wh_done hp]; exact h
/-- with enough fuel a while loop ends with its condition false -/
theorem hs_wh_end {σ : Type} {P : σ → Prop} [DecidablePred P] {f : σ → σ} (Z : σ → Prop) (μ : σ → Int) (hZ : ∀ x, Z x → P x → Z (f x) ∧ μ (f x) < μ x ∧ 0 ≤ μ (f x)) : ∀ (n : Nat) (x : σ), Z x → μ x < n → 0 ≤ μ x → Z (hs_wh P f n x) ∧ ¬ P (hs_wh P f n x) := by
  intro n
  induction n with
  | zero => intro x _ h h0; omega
  | succ n ih =>
    intro x hx h h0
    by_cases hp : P x
    · rw [hs_wh_step hp]
      obtain ⟨a, b, c⟩ := hZ x hx hp
      exact ih _ a (by omega) c
    · rw [hs_wh_done hp]; exact ⟨hx, hp⟩
/-! bounds of the rectangles' rows -/
abbrev pu_RB (x : pu_R) : Prop := (∀ k, 0 ≤ x.2.1 k ∧ x.2.1 k ≤ 39) ∧ (∀ k, 0 ≤ x.2.2.1 k ∧ x.2.2.1 k ≤ 39) ∧ (∀ k, 0 ≤ x.2.2.2.1 k ∧ x.2.2.2.1 k ≤ 50) ∧ (∀ k, 0 ≤ x.2.2.2.2 k ∧ x.2.2.2.2 k ≤ 39)
theorem pu_pl_bd {f l t : Int} {x : pu_R} (h : pu_RB x) : pu_RB (pu_pl f l t x) := by
  unfold pu_pl
  refine hs_wh_ind (P := pu_plP f l t) pu_RB (fun y _ hy => ?_) _ x h
  unfold pu_plF
  exact ⟨hs_u_bd hy.1 (hy.1 _), hs_u_bd hy.2.1 (hy.2.1 _), hs_u_bd hy.2.2.1 (hy.2.2.1 _), hs_u_bd hy.2.2.2 (hy.2.2.2 _)⟩
theorem pu_place_bd {f l t o : Int} {x : pu_R} (h : pu_RB x) (hf : 0 ≤ f ∧ f ≤ 39) (hl : 0 ≤ l ∧ l ≤ 39) (ht : 0 ≤ t ∧ t ≤ 50) (ho : 0 ≤ o ∧ o ≤ 39) : pu_RB (pu_place f l t o x) := by
  have hp := pu_pl_bd (f := f) (l := l) (t := t) h
  unfold pu_place
  exact ⟨hs_u_bd hp.1 hf, hs_u_bd hp.2.1 hl, hs_u_bd hp.2.2.1 ht, hs_u_bd hp.2.2.2 ho⟩
theorem pu_fo_rg {g : Int → Int} {i a : Int} (h : a ≤ i) : a ≤ pu_fo g i a ∧ pu_fo g i a ≤ i := by
  unfold pu_fo
  refine hs_wh_ind (P := pu_foP g i a) (fun x => a ≤ x ∧ x ≤ i) (fun y hy hz => ?_) _ i ⟨h, Int.le_refl i⟩
  have := hy.1
  (try dsimp only)
  omega
theorem pu_fl_rg {g : Int → Int} {i b : Int} (h : i ≤ b) : i ≤ pu_fl g i b ∧ pu_fl g i b ≤ b := by
  unfold pu_fl
  refine hs_wh_ind (P := pu_flP g i b) (fun x => i ≤ x ∧ x ≤ b) (fun y hy hz => ?_) _ i ⟨Int.le_refl i, h⟩
  have := hy.1
  (try dsimp only)
  omega
theorem pu_fob_bd {g : Int → Int} {i a b : Int} {x : pu_R} (hg : ∀ k, 0 ≤ g k ∧ g k ≤ 50) (hab : 0 ≤ a ∧ a ≤ i ∧ i ≤ b ∧ b ≤ 39) (h1 : ∀ k, 0 ≤ x.2.1 k ∧ x.2.1 k ≤ 39) (h2 : ∀ k, 0 ≤ x.2.2.1 k ∧ x.2.2.1 k ≤ 39) (h3 : ∀ k, 0 ≤ x.2.2.2.1 k ∧ x.2.2.2.1 k ≤ 50) (h4 : ∀ k, 0 ≤ x.2.2.2.2 k ∧ x.2.2.2.2 k ≤ 39) : pu_RB (pu_fob g i a b x) := by
  have r1 := pu_fo_rg (g := g) (i := i) (a := a) (by omega)
  have r2 := pu_fl_rg (g := g) (i := i) (b := b) (by omega)
  unfold pu_fob
  split
  · exact ⟨h1, h2, h3, h4⟩
  · exact pu_place_bd ⟨h1, h2, h3, h4⟩ (by omega) (by omega) (hg i) (by omega)
theorem pu_fob_ct (g : Int → Int) (i a b : Int) (x : pu_R) : x.1 ≤ (pu_fob g i a b x).1 ∧ (pu_fob g i a b x).1 ≤ x.1 + 1 := by
  unfold pu_fob
  split
  · omega
  · unfold pu_place; dsimp only; omega
/-! HistogramStairs$Tree -/
abbrev pu_gwP (g S : Int → Int) (i : Int) : Int × Int → Prop := fun x => 0 < x.1 ∧ g i < g (S (x.1 - 1))
def pu_gwF (S : Int → Int) : Int × Int → Int × Int := fun x => (x.1 + (-1), S (x.1 + (-1)))
def pu_gw (g S : Int → Int) (i n : Int) : Int × Int := hs_wh (pu_gwP g S i) (pu_gwF S) (n.toNat + 1) (n, -9)
def pu_gs (g : Int → Int) (i : Int) (x : Int × (Int → Int) × (Int → Int)) : Int × (Int → Int) × (Int → Int) :=
  ((pu_gw g x.2.2 i x.1).1 + 1,
   hs_u (if (pu_gw g x.2.2 i x.1).2 = -9 then x.2.1 else hs_u x.2.1 (pu_gw g x.2.2 i x.1).2 i) i (if 0 < (pu_gw g x.2.2 i x.1).1 then x.2.2 ((pu_gw g x.2.2 i x.1).1 - 1) else -9),
   hs_u x.2.2 (pu_gw g x.2.2 i x.1).1 i)
def pu_grow (g : Int → Int) (n : Int) (P S : Int → Int) : Int × (Int → Int) × (Int → Int) := hs_up (pu_gs g) 0 n (0, P, S)
abbrev pu_dpP : Int × Int → Prop := fun x => x.1 < 40 ∧ ¬ x.2 = -9
def pu_dpF (P : Int → Int) : Int × Int → Int × Int := fun x => (x.1 + 1, P x.2)
def pu_dp (P : Int → Int) (i : Int) : Int × Int := hs_wh pu_dpP (pu_dpF P) ((40 - 0 : Int).toNat + 1) (0, P i)
/-! HistogramStairs$Painter, java.util.Arrays.fill -/
def pu_fill (g : Int → Int) (a b v : Int) : Int → Int := hs_up (fun i x => hs_u x i v) a b g
theorem pu_fill_bd {g : Int → Int} {a b v lo hi : Int} (hg : ∀ k, lo ≤ g k ∧ g k ≤ hi) (hv : lo ≤ v ∧ v ≤ hi) : ∀ k, lo ≤ pu_fill g a b v k ∧ pu_fill g a b v k ≤ hi := by
  unfold pu_fill
  exact hs_up_ind (fun (x : Int → Int) => ∀ k, lo ≤ x k ∧ x k ≤ hi) hg (fun j y _ _ hy => hs_u_bd hy hv)
theorem pu_sum_bd {g : Int → Int} {a b hi : Int} (hg : ∀ k, 0 ≤ g k ∧ g k ≤ hi) (hh : 0 ≤ hi) (h : a ≤ b + 1) : 0 ≤ pu_sum g a b ∧ pu_sum g a b ≤ hi * (b + 1 - a) := by
  unfold pu_sum
  have := hs_up_inv (f := fun i x => x + g i) (fun i x => 0 ≤ x ∧ x ≤ hi * (i - a)) (e := b + 1) _ a 0 (Nat.le_refl _) h (by rw [Int.sub_self, Int.mul_zero]; omega) (fun j y h1 h2 hy => by
    have := hg j
    have e : hi * (j + 1 - a) = hi * (j - a) + hi := by rw [show j + 1 - a = (j - a) + 1 by omega, Int.mul_add, Int.mul_one]
    (try dsimp only)
    omega)
  exact this
def pu_run (f b : Int) (K : Int → Int) : Int → Int := if f = -9 then K else hs_u (pu_fill K f (b + 1) 0) f (min (pu_sum K f b + 1) (b - f + 1))
theorem pu_run_bd {f b : Int} {K : Int → Int} (hK : ∀ k, 0 ≤ K k ∧ K k ≤ 40) (h : f = -9 ∨ (0 ≤ f ∧ f ≤ b ∧ b ≤ 39)) : ∀ k, 0 ≤ pu_run f b K k ∧ pu_run f b K k ≤ 40 := by
  unfold pu_run
  split
  · exact hK
  · have := pu_sum_bd (a := f) (b := b) hK (by omega) (by omega)
    exact hs_u_bd (pu_fill_bd hK (by omega)) (by omega)
def pu_rowF (g : Int → Int) (r i : Int) (x : Int × (Int → Int)) : Int × (Int → Int) := if g i < r then (-9, pu_run x.1 (i - 1) x.2) else if x.1 = -9 then (i, x.2) else x
def pu_rowL (g : Int → Int) (n r : Int) (K : Int → Int) : Int × (Int → Int) := hs_up (pu_rowF g r) 0 n (-9, K)
def pu_row (g : Int → Int) (n r : Int) (K : Int → Int) : Int → Int := pu_run (pu_rowL g n r K).1 (n - 1) (pu_rowL g n r K).2
theorem pu_rowL_bd {g : Int → Int} {n r : Int} {K : Int → Int} (hn : 0 ≤ n ∧ n ≤ 40) (hK : ∀ k, 0 ≤ K k ∧ K k ≤ 40) : ((pu_rowL g n r K).1 = -9 ∨ (0 ≤ (pu_rowL g n r K).1 ∧ (pu_rowL g n r K).1 ≤ n - 1)) ∧ ∀ k, 0 ≤ (pu_rowL g n r K).2 k ∧ (pu_rowL g n r K).2 k ≤ 40 := by
  unfold pu_rowL
  refine hs_up_inv (f := pu_rowF g r) (fun i x => (x.1 = -9 ∨ (0 ≤ x.1 ∧ x.1 ≤ i - 1)) ∧ ∀ k, 0 ≤ x.2 k ∧ x.2 k ≤ 40) (e := n) _ 0 (-9, K) (Nat.le_refl _) hn.1 ⟨Or.inl rfl, hK⟩ (fun j y h1 h2 hy => ?_)
  unfold pu_rowF
  split
  · exact ⟨Or.inl rfl, pu_run_bd hy.2 (by have := hy.1; omega)⟩
  · split
    · exact ⟨Or.inr ⟨h1, by show j ≤ _; omega⟩, hy.2⟩
    · refine ⟨?_, hy.2⟩
      have := hy.1
      omega
theorem pu_row_bd {g : Int → Int} {n r : Int} {K : Int → Int} (hn : 0 ≤ n ∧ n ≤ 40) (hK : ∀ k, 0 ≤ K k ∧ K k ≤ 40) : ∀ k, 0 ≤ pu_row g n r K k ∧ pu_row g n r K k ≤ 40 := by
  have := pu_rowL_bd (g := g) (r := r) hn hK
  unfold pu_row
  exact pu_run_bd this.2 (by have := this.1; omega)
def pu_cs (g : Int → Int) (n : Int) (K : Int → Int) : Int → Int := hs_dn (fun r x => pu_row g n r x) (pu_gh g n) 1 (pu_fill K 0 40 0)
theorem pu_gh_bd {g : Int → Int} {n : Int} (hg : ∀ k, 0 ≤ g k ∧ g k ≤ 50) : 0 ≤ pu_gh g n ∧ pu_gh g n ≤ 50 := by
  unfold pu_gh
  split
  · omega
  · exact hg _
/-! HistogramStairs: bounds that the walks need -/
theorem hs_dn_ind {σ : Type} {f : Int → σ → σ} (Z : Int → σ → Prop) {e : Int} : ∀ (n : Nat) (i : Int) (x : σ), (i + 1 - e).toNat ≤ n → e ≤ i + 1 → Z i x → (∀ j y, e ≤ j → j ≤ i → Z j y → Z (j + (-1)) (f j y)) → Z (e - 1) (hs_dn f i e x) := by
  intro n
  induction n with
  | zero =>
    intro i x h hi hx _
    rw [hs_dn_done (by omega), show e - 1 = i by omega]; exact hx
  | succ n ih =>
    intro i x h hi hx hs
    by_cases hlt : e ≤ i
    · rw [hs_dn_step hlt]
      exact ih (i + (-1)) (f i x) (by omega) (by omega) (hs i x hlt (by omega) hx) (fun j y h1 h2 => hs j y h1 (by omega))
    · rw [hs_dn_done (by omega), show e - 1 = i by omega]; exact hx
theorem hs_u_u (g : Int → Int) (i v : Int) : hs_u (hs_u g i v) i (g i) = g := by
  funext k
  unfold hs_u
  split
  · next h => rw [h]
  · rfl
theorem pu_wall_bd {h d : Int → Int} {a b : Int} (hh : ∀ k, 0 ≤ h k ∧ h k ≤ 50) (hd : ∀ k, -50 ≤ d k ∧ d k ≤ 50) (hab : a ≤ b + 1) : (∀ k, -50 ≤ (pu_wall h a b d).2 k ∧ (pu_wall h a b d).2 k ≤ 50) ∧ (∀ k, a ≤ k → k ≤ b → 0 ≤ (pu_wall h a b d).2 k) := by
  unfold pu_wall
  have := hs_up_inv (f := fun i (x : Int × (Int → Int)) => (max x.1 (h i), hs_u x.2 i (max x.1 (h i)))) (fun i x => (0 ≤ x.1 ∧ x.1 ≤ 50) ∧ (∀ k, -50 ≤ x.2 k ∧ x.2 k ≤ 50) ∧ (∀ k, a ≤ k → k < i → 0 ≤ x.2 k)) (e := b + 1) _ a (0, d) (Nat.le_refl _) hab ⟨by dsimp only; omega, hd, fun k h1 h2 => by omega⟩ (fun j y h1 h2 hy => by
    have hj := hh j
    obtain ⟨y1, y2, y3⟩ := hy
    refine ⟨by dsimp only; omega, hs_u_bd y2 (by omega), fun k g1 g2 => ?_⟩
    dsimp only
    by_cases hk : k = j
    · rw [hk, hs_u_self]; omega
    · rw [hs_u_ne hk]; exact y3 k g1 (by omega))
  exact ⟨this.2.1, fun k h1 h2 => this.2.2 k h1 (by omega)⟩
theorem pu_pour_bd {h d : Int → Int} {a b : Int} (hh : ∀ k, 0 ≤ h k ∧ h k ≤ 50) (hd : ∀ k, -50 ≤ d k ∧ d k ≤ 50) (hab : a ≤ b + 1) (hl : b + 1 - a ≤ 40) : (-2000 ≤ (pu_pour h a b d).1 ∧ (pu_pour h a b d).1 ≤ 2000) ∧ (∀ k, -50 ≤ (pu_pour h a b d).2 k ∧ (pu_pour h a b d).2 k ≤ 50) := by
  obtain ⟨w1, w2⟩ := pu_wall_bd (a := a) (b := b) hh hd hab
  unfold pu_pour pu_pr
  generalize (pu_wall h a b d).2 = d1 at w1 w2
  have := hs_dn_ind (f := fun i (x : Int × Int × (Int → Int)) => (max x.1 (h i), x.2.1 + hs_u x.2.2 i (min (x.2.2 i) (max x.1 (h i)) - h i) i, hs_u x.2.2 i (min (x.2.2 i) (max x.1 (h i)) - h i))) (fun i x => (0 ≤ x.1 ∧ x.1 ≤ 50) ∧ (-50 * (b - i) ≤ x.2.1 ∧ x.2.1 ≤ 50 * (b - i)) ∧ (∀ k, -50 ≤ x.2.2 k ∧ x.2.2 k ≤ 50) ∧ (∀ k, a ≤ k → k ≤ i → 0 ≤ x.2.2 k)) (e := a) _ b (0, 0, d1) (Nat.le_refl _) hab ⟨by dsimp only; omega, by dsimp only; omega, w1, w2⟩ (fun j y h1 h2 hy => by
    have hj := hh j
    obtain ⟨y1, y2, y3, y4⟩ := hy
    have k1 := y3 j
    have k2 := y4 j h1 (by omega)
    refine ⟨by dsimp only; omega, ?_, hs_u_bd y3 (by omega), fun k g1 g2 => ?_⟩
    · dsimp only
      rw [hs_u_self]
      omega
    · dsimp only
      rw [hs_u_ne (by omega)]; exact y4 k g1 (by omega))
  exact ⟨⟨by have := this.2.1.1; omega, by have := this.2.1.2; omega⟩, this.2.2.1⟩
theorem pu_find_bd {g : Int → Int} {a b : Int} {x : pu_R} (hg : ∀ k, 0 ≤ g k ∧ g k ≤ 50) (hx : pu_RB x) (hab : 0 ≤ a ∧ a ≤ b + 1 ∧ b ≤ 39) : pu_RB (pu_find g a b x) ∧ 0 ≤ (pu_find g a b x).1 ∧ (pu_find g a b x).1 ≤ b + 1 - a := by
  unfold pu_find
  have := hs_up_inv (f := fun i x => if g i ≤ 0 then x else pu_fob g i a b x) (fun i (x : pu_R) => pu_RB x ∧ 0 ≤ x.1 ∧ x.1 ≤ i - a) (e := b + 1) _ a (0, x.2) (Nat.le_refl _) (by omega) ⟨hx, by dsimp only; omega, by dsimp only; omega⟩ (fun j y h1 h2 hy => by
    (try dsimp only)
    split
    · exact ⟨hy.1, hy.2.1, by have := hy.2.2; omega⟩
    · have hc := pu_fob_ct g j a b y
      exact ⟨pu_fob_bd hg (by omega) hy.1.1 hy.1.2.1 hy.1.2.2.1 hy.1.2.2.2, by have := hy.2.1; omega, by have := hy.2.2; omega⟩)
  exact this
abbrev pu_okP (P : Int → Int) : Prop := ∀ k, P k = -9 ∨ (0 ≤ P k ∧ P k ≤ 39)
theorem pu_u_okP {P : Int → Int} {i v : Int} (h : pu_okP P) (hv : v = -9 ∨ (0 ≤ v ∧ v ≤ 39)) : pu_okP (hs_u P i v) := by
  intro k
  by_cases hk : k = i
  · rw [hk, hs_u_self]; exact hv
  · rw [hs_u_ne hk]; exact h k
theorem pu_grow_bd {g P S : Int → Int} {n : Int} (hn : 0 ≤ n ∧ n ≤ 40) (hS : ∀ k, 0 ≤ S k ∧ S k ≤ 39) (hP : pu_okP P) : pu_okP (pu_grow g n P S).2.1 ∧ (∀ k, 0 ≤ (pu_grow g n P S).2.2 k ∧ (pu_grow g n P S).2.2 k ≤ 39) := by
  unfold pu_grow
  have := hs_up_inv (f := pu_gs g) (fun i (x : Int × (Int → Int) × (Int → Int)) => pu_okP x.2.1 ∧ (∀ k, 0 ≤ x.2.2 k ∧ x.2.2 k ≤ 39)) (e := n) _ 0 (0, P, S) (Nat.le_refl _) hn.1 ⟨hP, hS⟩ (fun j y h1 h2 hy => by
    unfold pu_gs
    dsimp only
    refine ⟨pu_u_okP ?_ ?_, hs_u_bd hy.2 (by omega)⟩
    · split
      · exact hy.1
      · exact pu_u_okP hy.1 (Or.inr (by omega))
    · split
      · exact Or.inr (hy.2 _)
      · exact Or.inl rfl)
  exact this
theorem pu_dp_bd (P : Int → Int) (i : Int) : 0 ≤ (pu_dp P i).1 ∧ (pu_dp P i).1 ≤ 40 := by
  unfold pu_dp
  refine hs_wh_ind (P := pu_dpP) (fun x => 0 ≤ x.1 ∧ x.1 ≤ 40) (fun x hx hz => ?_) _ (0, P i) (by dsimp only; omega)
  unfold pu_dpF
  have := hx.1
  dsimp only
  omega
theorem pu_psU_rg {d : Int → Int} {q n : Int} : ∀ (f : Nat) (i x : Int), (n - i).toNat ≤ f → 0 ≤ i → pu_psU d q n i x = -9 ∨ (0 ≤ pu_psU d q n i x ∧ pu_psU d q n i x < n) := by
  intro f
  induction f with
  | zero => intro i x h h0; exact Or.inl (pu_psU_done (by omega))
  | succ f ih =>
    intro i x h h0
    by_cases hi : i < n
    · rw [pu_psU_step hi]
      split
      · split
        · exact Or.inr ⟨h0, hi⟩
        · exact ih _ _ (by omega) (by omega)
      · exact ih _ _ (by omega) (by omega)
    · exact Or.inl (pu_psU_done (by omega))
theorem pu_ps_rg (d : Int → Int) (q n : Int) : pu_ps d q n = -9 ∨ (0 ≤ pu_ps d q n ∧ pu_ps d q n < n) := pu_psU_rg _ 0 0 (Nat.le_refl _) (Int.le_refl 0)
theorem pu_pe_rg {d : Int → Int} {z n : Int} (h : z < n) : z ≤ pu_pe d z n ∧ pu_pe d z n < n := by
  unfold pu_pe
  refine hs_wh_ind (P := pu_peP d n) (fun x => z ≤ x ∧ x < n) (fun x hx hz => ?_) _ z ⟨Int.le_refl z, h⟩
  have := hx.1
  (try dsimp only)
  omega
def pu_lr (x : pu_R) (wh : Int) : Int := if x.1 = 0 then (if wh = 0 then 0 else -9) else if wh = 0 then x.2.2.2.1 0 * (x.2.2.1 0 - x.2.1 0 + 1) else if wh = 1 then x.2.1 0 else if wh = 2 then x.2.2.1 0 else x.2.2.2.1 0
def pu_gtd (g : Int → Int) (n : Int) (P S : Int → Int) : Int := hs_up (fun i x => max x (pu_dp (pu_grow g n P S).2.1 i).1) 0 n (-9)
