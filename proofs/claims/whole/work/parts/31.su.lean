/-! loops side by side, and sums -/
theorem hs_up_sim {σ τ : Type} {f : Int → σ → σ} {g : Int → τ → τ} (S : Int → σ → τ → Prop) {e : Int} : ∀ (n : Nat) (i : Int) (x : σ) (y : τ), (e - i).toNat ≤ n → i ≤ e → S i x y → (∀ j x y, i ≤ j → j < e → S j x y → S (j + 1) (f j x) (g j y)) → S e (hs_up f i e x) (hs_up g i e y) := by
  intro n
  induction n with
  | zero =>
    intro i x y h hi hx _
    rw [hs_up_done (by omega), hs_up_done (by omega)]
    rw [show e = i by omega]; exact hx
  | succ n ih =>
    intro i x y h hi hx hs
    by_cases hlt : i < e
    · rw [hs_up_step hlt, hs_up_step hlt]
      exact ih (i + 1) _ _ (by omega) (by omega) (hs i x y (by omega) hlt hx) (fun j x y h1 h2 => hs j x y (by omega) h2)
    · rw [hs_up_done (by omega), hs_up_done (by omega)]
      rw [show e = i by omega]; exact hx
theorem hs_wh_sim {σ τ : Type} {P : σ → Prop} [DecidablePred P] {Q : τ → Prop} [DecidablePred Q] {f : σ → σ} {g : τ → τ} (S : σ → τ → Prop) (hs : ∀ x y, S x y → ((P x ↔ Q y) ∧ (P x → S (f x) (g y)))) : ∀ (n : Nat) (x : σ) (y : τ), S x y → S (hs_wh P f n x) (hs_wh Q g n y) := by
  intro n
  induction n with
  | zero => intro x y h; exact h
  | succ n ih =>
    intro x y h
    obtain ⟨h1, h2⟩ := hs x y h
    by_cases hp : P x
    · rw [hs_wh_step hp, hs_wh_step (h1.mp hp)]
      exact ih _ _ (h2 hp)
    · rw [hs_wh_done hp, hs_wh_done (fun z => hp (h1.mpr z))]
      exact h
def su (c : Int → Int) (a e : Int) : Int := hs_up (fun i x => x + c i) a e 0
theorem su_acc {c : Int → Int} {e : Int} : ∀ (n : Nat) (a x : Int), (e - a).toNat ≤ n → hs_up (fun i x => x + c i) a e x = x + su c a e := by
  intro n
  induction n with
  | zero =>
    intro a x h
    unfold su
    rw [hs_up_done (by omega), hs_up_done (by omega)]; omega
  | succ n ih =>
    intro a x h
    by_cases hlt : a < e
    · unfold su
      rw [hs_up_step hlt, hs_up_step hlt, ih (a + 1) (x + c a) (by omega), ih (a + 1) (0 + c a) (by omega)]
      omega
    · unfold su
      rw [hs_up_done (by omega), hs_up_done (by omega)]; omega
theorem su_done {c : Int → Int} {a e : Int} (h : e ≤ a) : su c a e = 0 := by
  unfold su
  rw [hs_up_done h]
theorem su_step {c : Int → Int} {a e : Int} (h : a < e) : su c a e = c a + su c (a + 1) e := by
  rw [show su c a e = hs_up (fun i x => x + c i) a e 0 from rfl, hs_up_step h, su_acc _ _ _ (Nat.le_refl _)]
  omega
theorem su_last {c : Int → Int} {a e : Int} (h : a ≤ e) : su c a (e + 1) = su c a e + c e := by
  unfold su
  rw [hs_up_last _ a 0 (Nat.le_refl _) h]
theorem su_congr {c d : Int → Int} {a e : Int} (h : ∀ j, a ≤ j → j < e → c j = d j) : su c a e = su d a e := by
  unfold su
  exact hs_up_congr _ a 0 (Nat.le_refl _) (fun j y h1 h2 => by (try dsimp only); rw [h j h1 h2])
theorem su_split {c : Int → Int} {a : Int} : ∀ (n : Nat) (m e : Int), (e - m).toNat ≤ n → a ≤ m → m ≤ e → su c a e = su c a m + su c m e := by
  intro n
  induction n with
  | zero =>
    intro m e h h1 h2
    rw [show e = m by omega, su_done (Int.le_refl m)]; omega
  | succ n ih =>
    intro m e h h1 h2
    by_cases hlt : m < e
    · rw [su_step hlt, ih (m + 1) e (by omega) (by omega) (by omega), su_last h1]; omega
    · rw [show e = m by omega, su_done (Int.le_refl m)]; omega
theorem su_rev {c : Int → Int} : ∀ (n : Nat) (a e : Int), (e - a).toNat ≤ n → su c a e = su (fun j => c (a + e - 1 - j)) a e := by
  intro n
  induction n with
  | zero => intro a e h; rw [su_done (by omega), su_done (by omega)]
  | succ n ih =>
    intro a e h
    by_cases hlt : a < e
    · obtain ⟨e', rfl⟩ : ∃ e', e = e' + 1 := ⟨e - 1, by omega⟩
      rw [su_last (by omega), su_step hlt, ih a e' (by omega)]
      -- the right sum over [a + 1, e' + 1) is the left one, a place on
      have hs : ∀ (k : Nat) (i : Int), (e' - i).toNat ≤ k → i ≤ e' → su (fun j => c (a + e' - 1 - j)) i e' = su (fun j => c (a + (e' + 1) - 1 - j)) (i + 1) (e' + 1) := by
        intro k
        induction k with
        | zero => intro i h1 h2; rw [su_done (by omega), su_done (by omega)]
        | succ k ihk =>
          intro i h1 h2
          by_cases hi : i < e'
          · rw [su_step hi, su_step (show i + 1 < e' + 1 by omega), ihk (i + 1) (by omega) (by omega)]
            (try dsimp only)
            rw [show a + e' - 1 - i = a + (e' + 1) - 1 - (i + 1) by omega]
          · rw [su_done (by omega), su_done (by omega)]
      rw [hs _ a (Nat.le_refl _) (by omega)]
      (try dsimp only)
      rw [show a + (e' + 1) - 1 - a = e' by omega]
      omega
    · rw [su_done (by omega), su_done (by omega)]
theorem su_ind {c : Int → Int} {a e : Int} (h : ∀ j, a ≤ j → j < e → 0 ≤ c j) : 0 ≤ su c a e := by
  unfold su
  exact hs_up_ind (fun x => 0 ≤ x) (Int.le_refl 0) (fun j y h1 h2 hy => by have := h j h1 h2; (try dsimp only); omega)
