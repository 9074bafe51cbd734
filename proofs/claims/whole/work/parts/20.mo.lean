theorem hs_nb (P : Prop) [Decidable P] : narrow FieldType.boolean (.int (hs_I (if P then 1 else 0))) = .int (hs_I (if P then 1 else 0)) := by
  by_cases h : P
  · rw [if_pos h]; rfl
  · rw [if_neg h]; rfl
section JB
variable {p : Program} {l : Launch} {e : Env} {R : Room} {s : State} {m : MethodId} {args : Array Value} {below : List Frame} {meth : Method} {c : Code} {D : va_G} {A : Nat → Prop} {H0 : Heap} {nL cells slots : Nat} {Q : State → Prop} {pc : Nat} {lv : List (Nat × Value)} {st : List Value} {ws : va_W}
variable {cc : ByteArray} {Ts : List Cond} {own : String} {cI cO : ClassId}
theorem hs_ishl (C : hs_C p s m args c cc nL Ts own D cI cO A H0) {x y z : Int} (h : hs_I x <<< (hs_I y &&& 31) = hs_I z) (d : decode cc pc = .ok (.ishl, 1)) (k : hs_J p l e R s m args below meth c D A H0 nL cells slots Q (pc + 1) lv (hs_V z :: st) ws) : hs_J p l e R s m args below meth c D A H0 nL cells slots Q pc lv (hs_V y :: hs_V x :: st) ws := fun H locs ls hP hD hS hl => lv_ishl C.1.1 C.1.2.1 d (by rw [h]; exact k H locs ls hP hD hS hl)
theorem hs_ishr (C : hs_C p s m args c cc nL Ts own D cI cO A H0) {x y z : Int} (h : hs_I x >>> (hs_I y &&& 31) = hs_I z) (d : decode cc pc = .ok (.ishr, 1)) (k : hs_J p l e R s m args below meth c D A H0 nL cells slots Q (pc + 1) lv (hs_V z :: st) ws) : hs_J p l e R s m args below meth c D A H0 nL cells slots Q pc lv (hs_V y :: hs_V x :: st) ws := fun H locs ls hP hD hS hl => lv_ishr C.1.1 C.1.2.1 d (by rw [h]; exact k H locs ls hP hD hS hl)
theorem hs_iand (C : hs_C p s m args c cc nL Ts own D cI cO A H0) {x y z : Int} (h : hs_I x &&& hs_I y = hs_I z) (d : decode cc pc = .ok (.iand, 1)) (k : hs_J p l e R s m args below meth c D A H0 nL cells slots Q (pc + 1) lv (hs_V z :: st) ws) : hs_J p l e R s m args below meth c D A H0 nL cells slots Q pc lv (hs_V y :: hs_V x :: st) ws := fun H locs ls hP hD hS hl => lv_iand C.1.1 C.1.2.1 d (by rw [h]; exact k H locs ls hP hD hS hl)
theorem hs_ior (C : hs_C p s m args c cc nL Ts own D cI cO A H0) {x y z : Int} (h : hs_I x ||| hs_I y = hs_I z) (d : decode cc pc = .ok (.ior, 1)) (k : hs_J p l e R s m args below meth c D A H0 nL cells slots Q (pc + 1) lv (hs_V z :: st) ws) : hs_J p l e R s m args below meth c D A H0 nL cells slots Q pc lv (hs_V y :: hs_V x :: st) ws := fun H locs ls hP hD hS hl => lv_ior C.1.1 C.1.2.1 d (by rw [h]; exact k H locs ls hP hD hS hl)
end JB
/-! THE REFERENCE's functions -/
def mo_mn (h : Int → Int) (a b : Int) : Int := hs_up (fun i x => if h i < x then h i else x) a (b + 1) (h a)
def mo_mx (h : Int → Int) (a b : Int) : Int := hs_up (fun i x => if x < h i then h i else x) a (b + 1) (h a)
theorem mo_mn_bd {h : Int → Int} {a b lo hi : Int} (hh : ∀ k, lo ≤ h k ∧ h k ≤ hi) : lo ≤ mo_mn h a b ∧ mo_mn h a b ≤ hi := by
  unfold mo_mn
  refine hs_up_ind (fun x => lo ≤ x ∧ x ≤ hi) (hh a) (fun j y _ _ hy => ?_)
  (try dsimp only)
  split
  · exact hh j
  · exact hy
theorem mo_mx_bd {h : Int → Int} {a b lo hi : Int} (hh : ∀ k, lo ≤ h k ∧ h k ≤ hi) : lo ≤ mo_mx h a b ∧ mo_mx h a b ≤ hi := by
  unfold mo_mx
  refine hs_up_ind (fun x => lo ≤ x ∧ x ≤ hi) (hh a) (fun j y _ _ hy => ?_)
  (try dsimp only)
  split
  · exact hh j
  · exact hy
theorem mo_mn_ex {h : Int → Int} {a b : Int} (hab : a ≤ b) : ∃ j, a ≤ j ∧ j ≤ b ∧ h j = mo_mn h a b := by
  unfold mo_mn
  refine hs_up_ind (fun x => ∃ j, a ≤ j ∧ j ≤ b ∧ h j = x) ⟨a, Int.le_refl a, hab, rfl⟩ (fun j y h1 h2 hy => ?_)
  (try dsimp only)
  split
  · exact ⟨j, h1, by omega, rfl⟩
  · exact hy
theorem mo_mx_ex {h : Int → Int} {a b : Int} (hab : a ≤ b) : ∃ j, a ≤ j ∧ j ≤ b ∧ h j = mo_mx h a b := by
  unfold mo_mx
  refine hs_up_ind (fun x => ∃ j, a ≤ j ∧ j ≤ b ∧ h j = x) ⟨a, Int.le_refl a, hab, rfl⟩ (fun j y h1 h2 hy => ?_)
  (try dsimp only)
  split
  · exact ⟨j, h1, by omega, rfl⟩
  · exact hy
def mo_fw (h : Int → Int) (a v : Int) : Int := hs_fu1 (fun i => h i = v) a 41
theorem mo_fw_spec {h : Int → Int} {a v j : Int} (h1 : a ≤ j) (h2 : j ≤ 40) (h3 : h j = v) : a ≤ mo_fw h a v ∧ mo_fw h a v ≤ j ∧ h (mo_fw h a v) = v ∧ ∀ i, a ≤ i → i < mo_fw h a v → ¬ h i = v := by
  unfold mo_fw
  rcases hs_fu1_range (P := fun i => h i = v) (e := 41) _ a (Nat.le_refl _) with ⟨_, q⟩ | ⟨q1, q2, q3, q4⟩
  · exact absurd h3 (q j h1 (by omega))
  · refine ⟨q1, ?_, q3, q4⟩
    rcases Int.lt_or_le j (hs_fu1 (fun i => h i = v) a 41) with g | g
    · exact absurd h3 (q4 j h1 g)
    · exact g
def mo_rt (h : Int → Int) (a b : Int) : Int := mo_fw h a (mo_mn h a b)
theorem mo_rt_rg {h : Int → Int} {a b : Int} (hab : a ≤ b) (hb : b ≤ 40) : a ≤ mo_rt h a b ∧ mo_rt h a b ≤ b := by
  obtain ⟨j, j1, j2, j3⟩ := mo_mn_ex (h := h) hab
  have := mo_fw_spec j1 (by omega) j3
  unfold mo_rt
  omega
def mo_dep (h : Int → Int) (a b i : Int) : Int := (if mo_mx h a i < mo_mx h i b then mo_mx h a i else mo_mx h i b) - h i
theorem mo_dep_bd {h : Int → Int} {a b i : Int} (hh : ∀ k, 0 ≤ h k ∧ h k ≤ 50) : -50 ≤ mo_dep h a b i ∧ mo_dep h a b i ≤ 50 := by
  have := mo_mx_bd (a := a) (b := i) hh
  have := mo_mx_bd (a := i) (b := b) hh
  have := hh i
  unfold mo_dep
  split <;> omega
def mo_wat (h : Int → Int) (a b : Int) : Int := hs_up (fun i x => x + mo_dep h a b i) a (b + 1) 0
theorem mo_wat_bd {h : Int → Int} {a b : Int} (hh : ∀ k, 0 ≤ h k ∧ h k ≤ 50) (hl : b + 1 - a ≤ 41) : -2050 ≤ mo_wat h a b ∧ mo_wat h a b ≤ 2050 := by
  by_cases hab : a ≤ b + 1
  · have := hs_up_inv (f := fun i x => x + mo_dep h a b i) (fun i x => -50 * (i - a) ≤ x ∧ x ≤ 50 * (i - a)) (e := b + 1) _ a 0 (Nat.le_refl _) hab (by omega) (fun j y h1 h2 hy => by
      have := mo_dep_bd (a := a) (b := b) (i := j) hh
      (try dsimp only)
      omega)
    unfold mo_wat
    omega
  · unfold mo_wat
    rw [hs_up_done (by omega)]
    omega
abbrev mo_wet (h : Int → Int) (i : Int) : Prop := (0 ≤ i ∧ i ≤ h 40 - 1) ∧ 0 < mo_dep h 0 (h 40 - 1) i
abbrev mo_bp (h : Int → Int) (i : Int) : Prop := mo_wet h i ∧ ¬ mo_wet h (i - 1)
def mo_pools (h : Int → Int) : Int := hs_up (fun i x => if mo_bp h i then x + 1 else x + 0) 0 (h 40) 0
def mo_pbF (h : Int → Int) : Nat → Int → Int → Int
  | 0, _, _ => -9
  | f + 1, i, x => if mo_bp h i then (if x = 0 then i else mo_pbF h f (i + 1) (x + (-1))) else mo_pbF h f (i + 1) x
def mo_pbU (h : Int → Int) (i x : Int) : Int := mo_pbF h (h 40 - i).toNat i x
theorem mo_pbU_step {h : Int → Int} {i x : Int} (hi : i < h 40) : mo_pbU h i x = if mo_bp h i then (if x = 0 then i else mo_pbU h (i + 1) (x + (-1))) else mo_pbU h (i + 1) x := by
  unfold mo_pbU
  rw [show (h 40 - i).toNat = (h 40 - (i + 1)).toNat + 1 by omega]
  rfl
theorem mo_pbU_done {h : Int → Int} {i x : Int} (hi : h 40 ≤ i) : mo_pbU h i x = -9 := by
  unfold mo_pbU
  rw [show (h 40 - i).toNat = 0 by omega]
  rfl
def mo_pb (h : Int → Int) (q : Int) : Int := mo_pbU h 0 q
theorem mo_pbU_rg {h : Int → Int} : ∀ (f : Nat) (i x : Int), (h 40 - i).toNat ≤ f → 0 ≤ i → mo_pbU h i x = -9 ∨ (0 ≤ mo_pbU h i x ∧ mo_pbU h i x < h 40) := by
  intro f
  induction f with
  | zero => intro i x hf h0; exact Or.inl (mo_pbU_done (by omega))
  | succ f ih =>
    intro i x hf h0
    by_cases hi : i < h 40
    · rw [mo_pbU_step hi]
      split
      · split
        · exact Or.inr ⟨h0, hi⟩
        · exact ih _ _ (by omega) (by omega)
      · exact ih _ _ (by omega) (by omega)
    · exact Or.inl (mo_pbU_done (by omega))
theorem mo_pb_rg (h : Int → Int) (q : Int) : mo_pb h q = -9 ∨ (0 ≤ mo_pb h q ∧ mo_pb h q < h 40) := mo_pbU_rg _ 0 q (Nat.le_refl _) (Int.le_refl 0)
abbrev mo_max (h : Int → Int) (a b : Int) : Prop := 0 < mo_mn h a b ∧ (a = 0 ∨ h (a - 1) < mo_mn h a b) ∧ (b = h 40 - 1 ∨ h (b + 1) < mo_mn h a b)
abbrev mo_tdP (h : Int → Int) (i : Int) : Int × Int × Int × Int → Prop := fun x => ¬ mo_rt h x.1 x.2.1 = i
def mo_tdF (h : Int → Int) (i : Int) : Int × Int × Int × Int → Int × Int × Int × Int := fun x => (if mo_rt h x.1 x.2.1 < i then mo_rt h x.1 x.2.1 + 1 else x.1, if i < mo_rt h x.1 x.2.1 then mo_rt h x.1 x.2.1 - 1 else x.2.1, x.2.2.1 + 1, mo_rt h x.1 x.2.1)
def mo_td (h : Int → Int) (i : Int) : Int × Int × Int × Int := hs_wh (mo_tdP h i) (mo_tdF h i) ((h 40 - 1 - 0 : Int).toNat + 1) (0, h 40 - 1, 0, -9)
theorem mo_td_bd {h : Int → Int} {i : Int} (hi : 0 ≤ i ∧ i ≤ h 40 - 1) (hN : h 40 ≤ 40) : 0 ≤ (mo_td h i).2.2.1 ∧ (mo_td h i).2.2.1 ≤ 40 := by
  unfold mo_td
  have := hs_wh_ind (P := mo_tdP h i) (f := mo_tdF h i) (fun x => x.1 ≤ i ∧ i ≤ x.2.1 ∧ 0 ≤ x.2.2.1 ∧ x.2.2.1 + (x.2.1 - x.1) ≤ h 40 - 1 ∧ x.2.1 ≤ h 40 - 1) (fun x hx hz => by
    have hr := mo_rt_rg (h := h) (a := x.1) (b := x.2.1) (by omega) (by omega)
    unfold mo_tdF
    dsimp only
    have hp : ¬ mo_rt h x.1 x.2.1 = i := hx
    by_cases g1 : mo_rt h x.1 x.2.1 < i
    · rw [if_pos g1, if_neg (by omega)]; omega
    · rw [if_neg g1, if_pos (by omega)]; omega) ((h 40 - 1 - 0 : Int).toNat + 1) (0, h 40 - 1, 0, -9) (by dsimp only; omega)
  omega
def mo_deep (h : Int → Int) : Int := hs_up (fun i x => if (mo_td h i).2.2.1 ≤ x then x else (mo_td h i).2.2.1) 0 (h 40) (-9)
def mo_hor (h : Int → Int) : Int := hs_up (fun i x => if h i ≤ (if i = 0 then 0 else h (i - 1)) then x + 0 else x + (h i - (if i = 0 then 0 else h (i - 1)))) 0 (h 40) 0
abbrev mo_eaP (h : Int → Int) (v : Int) : Int → Prop := fun x => x + 1 < h 40 ∧ v < h (x + 1)
def mo_ea (h : Int → Int) (i v : Int) : Int := hs_wh (mo_eaP h v) (fun x => x + 1) ((h 40 - i).toNat + 1) i
theorem mo_ea_rg {h : Int → Int} {i v : Int} (hi : i < h 40) : i ≤ mo_ea h i v ∧ mo_ea h i v < h 40 := by
  unfold mo_ea
  refine hs_wh_ind (P := mo_eaP h v) (fun x => i ≤ x ∧ x < h 40) (fun x hx hz => ?_) _ i ⟨Int.le_refl i, hi⟩
  have := hx.1
  (try dsimp only)
  omega
def mo_lsum (A : Int → Int) (i e : Int) : Int := hs_up (fun q x => x + A q) i (e + 1) 1
def mo_l1F (h A : Int → Int) (v i : Int) (x : Int → Int) : Int → Int := if v < h i ∧ (i = 0 ∨ h (i - 1) ≤ v) then hs_u (hs_u x i 0) i (if mo_lsum A i (mo_ea h i v) < mo_ea h i v - i + 1 then mo_lsum A i (mo_ea h i v) else mo_ea h i v - i + 1) else hs_u x i 0
def mo_l1 (h A : Int → Int) (v : Int) (x : Int → Int) : Int → Int := hs_up (mo_l1F h A v) 0 (h 40) x
def mo_l2 (h X : Int → Int) (A : Int → Int) : Int → Int := hs_up (fun i x => hs_u x i (X i)) 0 (h 40) A
theorem mo_lsum_bd {A : Int → Int} {i e : Int} (hA : ∀ k, 0 ≤ A k ∧ A k ≤ 40) (h1 : i ≤ e + 1) (h2 : e + 1 - i ≤ 41) : 1 ≤ mo_lsum A i e ∧ mo_lsum A i e ≤ 1641 := by
  unfold mo_lsum
  have := hs_up_inv (f := fun q x => x + A q) (fun q x => 1 ≤ x ∧ x ≤ 1 + 40 * (q - i)) (e := e + 1) _ i 1 (Nat.le_refl _) h1 (by omega) (fun j y g1 g2 hy => by
    have := hA j
    (try dsimp only)
    omega)
  omega
theorem mo_l1_bd {h A x : Int → Int} {v : Int} (hN : 0 ≤ h 40 ∧ h 40 ≤ 40) (hA : ∀ k, 0 ≤ A k ∧ A k ≤ 40) (hx : ∀ k, 0 ≤ x k ∧ x k ≤ 40) : ∀ k, 0 ≤ mo_l1 h A v x k ∧ mo_l1 h A v x k ≤ 40 := by
  unfold mo_l1
  refine hs_up_ind (fun (y : Int → Int) => ∀ k, 0 ≤ y k ∧ y k ≤ 40) hx (fun j y h1 h2 hy => ?_)
  unfold mo_l1F
  have h0 := hs_u_bd (i := j) (v := 0) hy (by omega)
  split
  · have r := mo_ea_rg (h := h) (i := j) (v := v) h2
    have q := mo_lsum_bd (i := j) (e := mo_ea h j v) hA (by omega) (by omega)
    refine hs_u_bd h0 ?_
    split <;> omega
  · exact h0
theorem mo_l2_bd {h X A : Int → Int} (hX : ∀ k, 0 ≤ X k ∧ X k ≤ 40) (hA : ∀ k, 0 ≤ A k ∧ A k ≤ 40) : ∀ k, 0 ≤ mo_l2 h X A k ∧ mo_l2 h X A k ≤ 40 := by
  unfold mo_l2
  exact hs_up_ind (fun (y : Int → Int) => ∀ k, 0 ≤ y k ∧ y k ≤ 40) hA (fun j y h1 h2 hy => hs_u_bd hy (hX j))
/-- above and next behind a level -/
def mo_lev (h : Int → Int) (v : Int) (x : (Int → Int) × (Int → Int)) : (Int → Int) × (Int → Int) := (mo_l2 h (mo_l1 h x.1 v x.2) x.1, mo_l1 h x.1 v x.2)
def mo_str (h A X : Int → Int) : (Int → Int) × (Int → Int) := hs_dn (fun v x => mo_lev h v x) 49 0 (pu_fill A 0 41 0, X)
theorem mo_lev_bd {h : Int → Int} {v : Int} {x : (Int → Int) × (Int → Int)} (hN : 0 ≤ h 40 ∧ h 40 ≤ 40) (h1 : ∀ k, 0 ≤ x.1 k ∧ x.1 k ≤ 40) (h2 : ∀ k, 0 ≤ x.2 k ∧ x.2 k ≤ 40) : (∀ k, 0 ≤ (mo_lev h v x).1 k ∧ (mo_lev h v x).1 k ≤ 40) ∧ (∀ k, 0 ≤ (mo_lev h v x).2 k ∧ (mo_lev h v x).2 k ≤ 40) := by
  have := mo_l1_bd (v := v) hN h1 h2
  exact ⟨mo_l2_bd this h1, this⟩
theorem mo_str_bd {h A X : Int → Int} (hN : 0 ≤ h 40 ∧ h 40 ≤ 40) (hA : ∀ k, 0 ≤ A k ∧ A k ≤ 40) (hX : ∀ k, 0 ≤ X k ∧ X k ≤ 40) : (∀ k, 0 ≤ (mo_str h A X).1 k ∧ (mo_str h A X).1 k ≤ 40) ∧ (∀ k, 0 ≤ (mo_str h A X).2 k ∧ (mo_str h A X).2 k ≤ 40) := by
  unfold mo_str
  exact hs_dn_ind (f := fun v x => mo_lev h v x) (fun _ (x : (Int → Int) × (Int → Int)) => (∀ k, 0 ≤ x.1 k ∧ x.1 k ≤ 40) ∧ (∀ k, 0 ≤ x.2 k ∧ x.2 k ≤ 40)) (e := 0) _ 49 _ (Nat.le_refl _) (by omega) ⟨pu_fill_bd hA (by omega), hX⟩ (fun j y g1 g2 hy => mo_lev_bd hN hy.1 hy.2)
def mo_stdL (h : Int → Int) : Int := hs_up (fun i x => if i = 0 ∨ mo_mx h 0 (i - 1) < h i then x + 1 else x + 0) 0 (h 40) 0
def mo_stdR (h : Int → Int) : Int := hs_up (fun i x => if i = h 40 - 1 ∨ mo_mx h (i + 1) (h 40 - 1) < h i then x + 1 else x + 0) 0 (h 40) 0
abbrev mo_r1P (h : Int → Int) (i : Int) : Int → Prop := fun x => 0 < x ∧ h i ≤ h (x - 1)
def mo_r1 (h : Int → Int) (i : Int) : Int := hs_wh (mo_r1P h i) (fun x => x + (-1)) (i.toNat + 1) i
abbrev mo_r2P (h : Int → Int) (i : Int) : Int → Prop := fun x => x < h 40 - 1 ∧ h i ≤ h (x + 1)
def mo_r2 (h : Int → Int) (i : Int) : Int := hs_wh (mo_r2P h i) (fun x => x + 1) ((h 40 - i).toNat + 1) i
def mo_slF (h : Int → Int) : Int × Int → Int × Int := fun x => (pu_sl h x.1, x.2 + 1)
abbrev mo_slP : Int × Int → Prop := fun x => ¬ x.1 = -9
def mo_stl (h : Int → Int) (i : Int) : Int × Int := hs_wh mo_slP (mo_slF h) ((i + 9).toNat + 1) (i, 0)
abbrev mo_saP (q : Int) : Int × Int → Prop := fun x => x.2 < q ∧ ¬ x.1 = -9
def mo_sta (h : Int → Int) (i q : Int) : Int × Int := hs_wh (mo_saP q) (mo_slF h) ((i + 9).toNat + 1) (i, 0)
/-- the largest rectangle of a range: area, first, last -/
def mo_laI (h : Int → Int) (c d : Int) (x : Int × Int × Int) : Int × Int × Int := if mo_mn h c d * (d - c + 1) ≤ x.1 then x else (mo_mn h c d * (d - c + 1), c, d)
def mo_laO (h : Int → Int) (b c : Int) (x : Int × Int × Int) : Int × Int × Int := hs_up (mo_laI h c) c (b + 1) x
def mo_la (h : Int → Int) (a b : Int) : Int × Int × Int := hs_up (mo_laO h b) a (b + 1) (0, -9, -9)
def mo_own (h F L : Int → Int) (q : Int) : Int := hs_up (fun i x => if h i = mo_mn h (F q) (L q) then x + 1 else x + 0) (F q) (L q + 1) 0
def mo_sh (x : Int → Int) : Int → Int := hs_up (fun k x => hs_u x k (x (k + 41))) 0 287 x
def mo_cpy (h : Int → Int) (o : Int) (x : Int → Int) : Int → Int := hs_up (fun k x => hs_u x (41 * o + k) (h k)) 0 41 x
def mo_rP (h pa : Int → Int) (pm : Int) : Int → Int := if pm = 8 then mo_cpy h 7 (mo_sh pa) else mo_cpy h pm pa
theorem mo_sh_bd {x : Int → Int} (hx : ∀ k, 0 ≤ x k ∧ x k ≤ 50) : ∀ k, 0 ≤ mo_sh x k ∧ mo_sh x k ≤ 50 := by
  unfold mo_sh
  exact hs_up_ind (fun (y : Int → Int) => ∀ k, 0 ≤ y k ∧ y k ≤ 50) hx (fun j y _ _ hy => hs_u_bd hy (hy _))
theorem mo_cpy_bd {h x : Int → Int} {o : Int} (hh : ∀ k, 0 ≤ h k ∧ h k ≤ 50) (hx : ∀ k, 0 ≤ x k ∧ x k ≤ 50) : ∀ k, 0 ≤ mo_cpy h o x k ∧ mo_cpy h o x k ≤ 50 := by
  unfold mo_cpy
  exact hs_up_ind (fun (y : Int → Int) => ∀ k, 0 ≤ y k ∧ y k ≤ 50) hx (fun j y _ _ hy => hs_u_bd hy (hh _))
theorem mo_rP_bd {h pa : Int → Int} {pm : Int} (hh : ∀ k, 0 ≤ h k ∧ h k ≤ 50) (hx : ∀ k, 0 ≤ pa k ∧ pa k ≤ 50) : ∀ k, 0 ≤ mo_rP h pa pm k ∧ mo_rP h pa pm k ≤ 50 := by
  unfold mo_rP
  split
  · exact mo_cpy_bd hh (mo_sh_bd hx)
  · exact mo_cpy_bd hh hx
abbrev mo_kept (z fl : Int) : Prop := (z = 0 ∧ (fl = 1 ∨ fl = 3)) ∨ (z = 1 ∧ (fl = 2 ∨ fl = 3))
def mo_fl (z fl : Int) : Int := if z = 0 then (if fl = 0 then 1 else if fl = 2 then 3 else fl) else (if fl = 0 then 2 else if fl = 1 then 3 else fl)
