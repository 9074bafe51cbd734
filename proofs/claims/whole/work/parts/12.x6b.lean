/-! HistogramStairs: the changes, over (n, g, ct, Z): columns, heights, how many states, the states -/
abbrev pu_E : Type := Int × (Int → Int) × Int × (Int → pu_Z)
def pu_insert (a v : Int) (e : pu_E) : Int × pu_E := if ¬ (0 ≤ a ∧ a ≤ e.1 ∧ 0 ≤ v ∧ v ≤ 50) then (-1, e) else if 40 ≤ e.1 then (-3, e) else (e.1 + 1, e.1 + 1, hs_u (hs_cp e.2.1 e.2.1 a (a + 1) (e.1 - a)) a v, pu_remC e.2.2.1, pu_remZ e.2.2.1 e.2.2.2 e.1 e.2.1)
def pu_remove (i : Int) (e : pu_E) : Int × pu_E := if ¬ (0 ≤ i ∧ i < e.1) then (-1, e) else (e.2.1 i, e.1 - 1, hs_cp e.2.1 e.2.1 (i + 1) i (e.1 - i - 1), pu_remC e.2.2.1, pu_remZ e.2.2.1 e.2.2.2 e.1 e.2.1)
def pu_set (i v : Int) (e : pu_E) : Int × pu_E := if ¬ (0 ≤ i ∧ i < e.1 ∧ 0 ≤ v ∧ v ≤ 50) then (-1, e) else (e.2.1 i, e.1, hs_u e.2.1 i v, pu_remC e.2.2.1, pu_remZ e.2.2.1 e.2.2.2 e.1 e.2.1)
def pu_raise (a b d : Int) (e : pu_E) : Int × pu_E := if ¬ (0 ≤ a ∧ a ≤ b ∧ b < e.1 ∧ -50 ≤ d ∧ d ≤ 50) then (-1, e) else ((pu_lift e.2.1 a b d).1, e.1, (pu_lift e.2.1 a b d).2, pu_remC e.2.2.1, pu_remZ e.2.2.1 e.2.2.2 e.1 e.2.1)
def pu_reverse (a b : Int) (e : pu_E) : Int × pu_E := if ¬ (0 ≤ a ∧ a ≤ b ∧ b < e.1) then (-1, e) else ((pu_mir e.2.1 a b).1, e.1, (pu_mir e.2.1 a b).2, pu_remC e.2.2.1, pu_remZ e.2.2.1 e.2.2.2 e.1 e.2.1)
def pu_sort (a b u : Int) (e : pu_E) : Int × pu_E := if ¬ (0 ≤ a ∧ a ≤ b ∧ b < e.1 ∧ 0 ≤ u ∧ u ≤ 1) then (-1, e) else ((pu_arr e.2.1 a b u).1, e.1, (pu_arr e.2.1 a b u).2, pu_remC e.2.2.1, pu_remZ e.2.2.1 e.2.2.2 e.1 e.2.1)
def pu_clear (e : pu_E) : Int × pu_E := (e.1, 0, e.2.1, pu_remC e.2.2.1, pu_remZ e.2.2.1 e.2.2.2 e.1 e.2.1)
def pu_undo (e : pu_E) : Int × pu_E := if e.2.2.1 = 0 then (-2, e) else (e.2.2.1 - 1, (e.2.2.2 (e.2.2.1 - 1)).2.2.1, hs_cp (e.2.2.2 (e.2.2.1 - 1)).2.2.2 e.2.1 0 0 (e.2.2.2 (e.2.2.1 - 1)).2.2.1, e.2.2.1 - 1, e.2.2.2)
set_option maxHeartbeats 4000000 in
set_option maxRecDepth 100000 in
theorem c_X6_insert (l : Launch) (D : va_G) (cI cO : ClassId) (x0 : Nat) (h0 : Nat) (k0 : Nat) (i0 : Nat) (w0 : Nat) (r0 : Nat) (t0 : Nat) (p0 : Nat) (h1 : Nat) (n : Int) (g : Int → Int) (k1 : Nat) (ct : Int) (Z : Int → pu_Z) (a : Int) (v : Int) (hn : 0 ≤ n ∧ n ≤ 40) (hg : ∀ k, 0 ≤ g k ∧ g k ≤ 50) (hct : 0 ≤ ct ∧ ct ≤ 8) (hza : hs_in a) (hzv : hs_in v) : hs_M l D cI cO yX6_insert wsX6_insert ({ frames := 3, cells := 0, slots := 0, locals := 69 } : Room) [.ref x0, hs_V a, hs_V v] (hs_ob x0 6 [.ref h0, .ref k0, .ref i0, .ref w0, .ref r0, .ref t0, .ref p0] :: hs_ob h0 0 [.ref h1, hs_V n] :: hs_ia cI h1 40 g :: hs_hist cI cO k0 k1 ct Z) (fun r (_ : Unit) => r = hs_I (pu_insert a v (n, g, ct, Z)).1) (fun _ => (hs_ob x0 6 [.ref h0, .ref k0, .ref i0, .ref w0, .ref r0, .ref t0, .ref p0] :: hs_ob h0 0 [.ref h1, hs_V (pu_insert a v (n, g, ct, Z)).2.1] :: hs_ia cI h1 40 (pu_insert a v (n, g, ct, Z)).2.2.1 :: hs_hist cI cO k0 k1 (pu_insert a v (n, g, ct, Z)).2.2.2.1 (pu_insert a v (n, g, ct, Z)).2.2.2.2)) 0 0 := by
  refine hs_enter (cc := cX6_insert) (maxL := 3) (by decide +kernel) rfl (Nat.le_of_ble_eq_true rfl) (fun p e s m args below meth c A H0 Q C hret => ?_)
  have f10 := C.1.2.2.2.2 (.fieldLink RX6 10 "HistogramStairs" "columns" "LHistogramStairs$Columns;") (by decide +kernel)
  have u6 : ∀ w ∈ wsX60, w ∈ wsX6_insert := by decide +kernel
  have f55 : (Cond.fieldLinkNest RX6 55 RX0 "size" "I" RX6).before args s = true := va_Nw.use (A := args) rfl (C.2.2.1.1 (RX6, 55, RX0, "size", "I") (by decide +kernel))
  have u0 : ∀ w ∈ wsX00, w ∈ wsX6_insert := by decide +kernel
  have f19 := C.1.2.2.2.2 (.fieldLink RX6 19 "HistogramStairs" "history" "LHistogramStairs$History;") (by decide +kernel)
  refine hs_lvs (lv' := [(0, .ref x0), (1, hs_V a), (2, hs_V v)]) [0, 1, 2] rfl ?_
  refine hs_iload_n C dX6_insert_0 rfl 1 rfl ?_
  refine hs_if_lt (tgt := 22) C dX6_insert_1 (by decide) (by omega) (fun c1 => ?_) (fun c1 => ?_)
  ·
    have hE : pu_insert a v (n, g, ct, Z) = (-1, (n, g, ct, Z)) := by unfold pu_insert; dsimp only; rw [if_pos (by omega)]
    refine hs_iconst C dX6_insert_22 ?_
    refine hs_cast (ws' := (hs_ob x0 6 [.ref h0, .ref k0, .ref i0, .ref w0, .ref r0, .ref t0, .ref p0] :: hs_ob h0 0 [.ref h1, hs_V (pu_insert a v (n, g, ct, Z)).2.1] :: hs_ia cI h1 40 (pu_insert a v (n, g, ct, Z)).2.2.1 :: hs_hist cI cO k0 k1 (pu_insert a v (n, g, ct, Z)).2.2.2.1 (pu_insert a v (n, g, ct, Z)).2.2.2.2)) ?_ rfl rfl rfl (by rw [hE] <;> rfl)
    exact hret _ _ _ () (by rw [hE]) dX6_insert_23 rfl
  ·
    refine hs_iload_n C dX6_insert_4 rfl 1 rfl ?_
    refine hs_aload_n C dX6_insert_5 rfl 0 rfl ?_
    refine hs_get C u6 0 rfl rfl 0 (by decide) f10 rfl rfl dX6_insert_6 ?_
    refine hs_getN C u0 1 rfl rfl 1 (by decide) f55 rfl rfl dX6_insert_9 ?_
    refine hs_icmp_gt (tgt := 22) C dX6_insert_12 (by decide) (by omega) (by omega) (fun c2 => ?_) (fun c2 => ?_)
    ·
      have hE : pu_insert a v (n, g, ct, Z) = (-1, (n, g, ct, Z)) := by unfold pu_insert; dsimp only; rw [if_pos (by omega)]
      refine hs_iconst C dX6_insert_22 ?_
      refine hs_cast (ws' := (hs_ob x0 6 [.ref h0, .ref k0, .ref i0, .ref w0, .ref r0, .ref t0, .ref p0] :: hs_ob h0 0 [.ref h1, hs_V (pu_insert a v (n, g, ct, Z)).2.1] :: hs_ia cI h1 40 (pu_insert a v (n, g, ct, Z)).2.2.1 :: hs_hist cI cO k0 k1 (pu_insert a v (n, g, ct, Z)).2.2.2.1 (pu_insert a v (n, g, ct, Z)).2.2.2.2)) ?_ rfl rfl rfl (by rw [hE] <;> rfl)
      exact hret _ _ _ () (by rw [hE]) dX6_insert_23 rfl
    ·
      refine hs_iload_n C dX6_insert_15 rfl 2 rfl ?_
      refine hs_callSi (win := []) (wr := (hs_ob x0 6 [.ref h0, .ref k0, .ref i0, .ref w0, .ref r0, .ref t0, .ref p0] :: hs_ob h0 0 [.ref h1, hs_V n] :: hs_ia cI h1 40 g :: hs_hist cI cO k0 k1 ct Z)) (As := [hs_V v]) (rest := []) C (c_X6_isHeight l D cI cO v (by omega)) (va_cwS 1 C.1.2.2.2.2 gX6_insert_X6_isHeight rfl rfl rfl (by decide +kernel) ⟨Nat.le_of_ble_eq_true rfl, Nat.le_of_ble_eq_true rfl⟩) rfl rfl (Nat.le_of_ble_eq_true rfl) dX6_insert_16 ⟨Nat.le_of_ble_eq_true rfl, Nat.le_of_ble_eq_true rfl⟩ (fun rr uu3 hp => ?_)
      obtain rfl := hp
      refine hs_re (w := [hs_ob x0 6 [.ref h0, .ref k0, .ref i0, .ref w0, .ref r0, .ref t0, .ref p0], hs_ob h0 0 [.ref h1, hs_V n], hs_ia cI h1 40 g]) (w' := [hs_ob x0 6 [.ref h0, .ref k0, .ref i0, .ref w0, .ref r0, .ref t0, .ref p0], hs_ob h0 0 [.ref h1, hs_V n], hs_ia cI h1 40 g]) (wi := hs_hist cI cO k0 k1 ct Z) [0, 1, 2] rfl (by decide) ?_
      refine hs_ifne_b (tgt := 24) C dX6_insert_19 (by decide) (fun c4 => ?_) (fun c4 => ?_)
      ·
        refine hs_aload_n C dX6_insert_24 rfl 0 rfl ?_
        refine hs_get C u6 0 rfl rfl 0 (by decide) f10 rfl rfl dX6_insert_25 ?_
        refine hs_getN C u0 1 rfl rfl 1 (by decide) f55 rfl rfl dX6_insert_28 ?_
        refine hs_bipush C dX6_insert_31 (by decide) ?_
        refine hs_icmp_lt (tgt := 39) C dX6_insert_33 (by decide) (by omega) (by omega) (fun c5 => ?_) (fun c5 => ?_)
        ·
          refine hs_aload_n C dX6_insert_39 rfl 0 rfl ?_
          refine hs_get C u6 0 rfl rfl 1 (by decide) f19 rfl rfl dX6_insert_40 ?_
          refine hs_aload_n C dX6_insert_43 rfl 0 rfl ?_
          refine hs_get C u6 0 rfl rfl 0 (by decide) f10 rfl rfl dX6_insert_44 ?_
          refine hs_re (w := [hs_ob x0 6 [.ref h0, .ref k0, .ref i0, .ref w0, .ref r0, .ref t0, .ref p0], hs_ob h0 0 [.ref h1, hs_V n], hs_ia cI h1 40 g]) (w' := [hs_ob x0 6 [.ref h0, .ref k0, .ref i0, .ref w0, .ref r0, .ref t0, .ref p0], hs_ob h0 0 [.ref h1, hs_V n], hs_ia cI h1 40 g]) (wi := hs_hist cI cO k0 k1 ct Z) [0, 1, 2] rfl (by decide) ?_
          refine hs_swap (w1 := [hs_ob x0 6 [.ref h0, .ref k0, .ref i0, .ref w0, .ref r0, .ref t0, .ref p0]]) (w2 := (hs_ob h0 0 [.ref h1, hs_V n] :: hs_ia cI h1 40 g :: hs_hist cI cO k0 k1 ct Z)) ?_
          refine hs_callVv (win := (hs_ob h0 0 [.ref h1, hs_V n] :: hs_ia cI h1 40 g :: hs_hist cI cO k0 k1 ct Z)) (wr := [hs_ob x0 6 [.ref h0, .ref k0, .ref i0, .ref w0, .ref r0, .ref t0, .ref p0]]) (As := [.ref h0]) (rest := []) C (c_X1_remember l D cI cO k0 k1 ct Z h0 h1 n g (by omega) (by omega)) 1 2 rfl rfl rfl (cwV 1 C.1.2.2.2.2 gX6_insert_X1_remember rfl rfl rfl (by decide +kernel) ⟨Nat.le_of_ble_eq_true rfl, Nat.le_of_ble_eq_true rfl⟩) rfl rfl (Nat.le_of_ble_eq_true rfl) dX6_insert_47 ⟨Nat.le_of_ble_eq_true rfl, Nat.le_of_ble_eq_true rfl⟩ (fun uu6 hp => ?_)
          refine hs_swap (w1 := (hs_ob h0 0 [.ref h1, hs_V n] :: hs_ia cI h1 40 g :: hs_hist cI cO k0 k1 (pu_remC ct) (pu_remZ ct Z n g))) (w2 := [hs_ob x0 6 [.ref h0, .ref k0, .ref i0, .ref w0, .ref r0, .ref t0, .ref p0]]) ?_
          refine hs_re (w := [hs_ob x0 6 [.ref h0, .ref k0, .ref i0, .ref w0, .ref r0, .ref t0, .ref p0], hs_ob h0 0 [.ref h1, hs_V n], hs_ia cI h1 40 g]) (w' := [hs_ob x0 6 [.ref h0, .ref k0, .ref i0, .ref w0, .ref r0, .ref t0, .ref p0], hs_ob h0 0 [.ref h1, hs_V n], hs_ia cI h1 40 g]) (wi := hs_hist cI cO k0 k1 (pu_remC ct) (pu_remZ ct Z n g)) [0, 1, 2] rfl (by decide) ?_
          refine hs_aload_n C dX6_insert_50 rfl 0 rfl ?_
          refine hs_get C u6 0 rfl rfl 0 (by decide) f10 rfl rfl dX6_insert_51 ?_
          refine hs_iload_n C dX6_insert_54 rfl 1 rfl ?_
          refine hs_iload_n C dX6_insert_55 rfl 2 rfl ?_
          refine hs_re (w := [hs_ob x0 6 [.ref h0, .ref k0, .ref i0, .ref w0, .ref r0, .ref t0, .ref p0], hs_ob h0 0 [.ref h1, hs_V n], hs_ia cI h1 40 g]) (w' := [hs_ob h0 0 [.ref h1, hs_V n], hs_ia cI h1 40 g, hs_ob x0 6 [.ref h0, .ref k0, .ref i0, .ref w0, .ref r0, .ref t0, .ref p0]]) (wi := hs_hist cI cO k0 k1 (pu_remC ct) (pu_remZ ct Z n g)) [1, 2, 0] rfl (by decide) ?_
          refine hs_callVv (win := [hs_ob h0 0 [.ref h1, hs_V n], hs_ia cI h1 40 g]) (wr := (hs_ob x0 6 [.ref h0, .ref k0, .ref i0, .ref w0, .ref r0, .ref t0, .ref p0] :: hs_hist cI cO k0 k1 (pu_remC ct) (pu_remZ ct Z n g))) (As := [hs_V a, hs_V v]) (rest := []) C (c_X0_putIn l D cI cO h0 h1 n g a v (by omega) (by omega)) 0 0 rfl rfl rfl (cwV 2 C.1.2.2.2.2 gX6_insert_X0_putIn rfl rfl rfl (by decide +kernel) ⟨Nat.le_of_ble_eq_true rfl, Nat.le_of_ble_eq_true rfl⟩) rfl rfl (Nat.le_of_ble_eq_true rfl) dX6_insert_56 ⟨Nat.le_of_ble_eq_true rfl, Nat.le_of_ble_eq_true rfl⟩ (fun uu7 hp => ?_)
          refine hs_re (w := [hs_ob h0 0 [.ref h1, hs_V (n + 1)], hs_ia cI h1 40 (hs_u (hs_cp g g a (a + 1) (n - a)) a v), hs_ob x0 6 [.ref h0, .ref k0, .ref i0, .ref w0, .ref r0, .ref t0, .ref p0]]) (w' := [hs_ob x0 6 [.ref h0, .ref k0, .ref i0, .ref w0, .ref r0, .ref t0, .ref p0], hs_ob h0 0 [.ref h1, hs_V (n + 1)], hs_ia cI h1 40 (hs_u (hs_cp g g a (a + 1) (n - a)) a v)]) (wi := hs_hist cI cO k0 k1 (pu_remC ct) (pu_remZ ct Z n g)) [2, 0, 1] rfl (by decide) ?_
          have hE : pu_insert a v (n, g, ct, Z) = (n + 1, n + 1, hs_u (hs_cp g g a (a + 1) (n - a)) a v, pu_remC ct, pu_remZ ct Z n g) := by unfold pu_insert; dsimp only; rw [if_neg (by omega), if_neg (by omega)]
          refine hs_aload_n C dX6_insert_59 rfl 0 rfl ?_
          refine hs_get C u6 0 rfl rfl 0 (by decide) f10 rfl rfl dX6_insert_60 ?_
          refine hs_getN C u0 1 rfl rfl 1 (by decide) f55 rfl rfl dX6_insert_63 ?_
          refine hs_cast (ws' := (hs_ob x0 6 [.ref h0, .ref k0, .ref i0, .ref w0, .ref r0, .ref t0, .ref p0] :: hs_ob h0 0 [.ref h1, hs_V (pu_insert a v (n, g, ct, Z)).2.1] :: hs_ia cI h1 40 (pu_insert a v (n, g, ct, Z)).2.2.1 :: hs_hist cI cO k0 k1 (pu_insert a v (n, g, ct, Z)).2.2.2.1 (pu_insert a v (n, g, ct, Z)).2.2.2.2)) ?_ rfl rfl rfl (by rw [hE] <;> rfl)
          exact hret _ _ _ () (by rw [hE]) dX6_insert_66 rfl
        ·
          have hE : pu_insert a v (n, g, ct, Z) = (-3, (n, g, ct, Z)) := by unfold pu_insert; dsimp only; rw [if_neg (by omega), if_pos (by omega)]
          refine hs_bipush C dX6_insert_36 (by decide) ?_
          refine hs_cast (ws' := (hs_ob x0 6 [.ref h0, .ref k0, .ref i0, .ref w0, .ref r0, .ref t0, .ref p0] :: hs_ob h0 0 [.ref h1, hs_V (pu_insert a v (n, g, ct, Z)).2.1] :: hs_ia cI h1 40 (pu_insert a v (n, g, ct, Z)).2.2.1 :: hs_hist cI cO k0 k1 (pu_insert a v (n, g, ct, Z)).2.2.2.1 (pu_insert a v (n, g, ct, Z)).2.2.2.2)) ?_ rfl rfl rfl (by rw [hE] <;> rfl)
          exact hret _ _ _ () (by rw [hE]) dX6_insert_38 rfl
      ·
        have hE : pu_insert a v (n, g, ct, Z) = (-1, (n, g, ct, Z)) := by unfold pu_insert; dsimp only; rw [if_pos (by omega)]
        refine hs_iconst C dX6_insert_22 ?_
        refine hs_cast (ws' := (hs_ob x0 6 [.ref h0, .ref k0, .ref i0, .ref w0, .ref r0, .ref t0, .ref p0] :: hs_ob h0 0 [.ref h1, hs_V (pu_insert a v (n, g, ct, Z)).2.1] :: hs_ia cI h1 40 (pu_insert a v (n, g, ct, Z)).2.2.1 :: hs_hist cI cO k0 k1 (pu_insert a v (n, g, ct, Z)).2.2.2.1 (pu_insert a v (n, g, ct, Z)).2.2.2.2)) ?_ rfl rfl rfl (by rw [hE] <;> rfl)
        exact hret _ _ _ () (by rw [hE]) dX6_insert_23 rfl

set_option maxHeartbeats 4000000 in
set_option maxRecDepth 100000 in
theorem c_X6_remove (l : Launch) (D : va_G) (cI cO : ClassId) (x0 : Nat) (h0 : Nat) (k0 : Nat) (i0 : Nat) (w0 : Nat) (r0 : Nat) (t0 : Nat) (p0 : Nat) (h1 : Nat) (n : Int) (g : Int → Int) (k1 : Nat) (ct : Int) (Z : Int → pu_Z) (i : Int) (hn : 0 ≤ n ∧ n ≤ 40) (hg : ∀ k, 0 ≤ g k ∧ g k ≤ 50) (hct : 0 ≤ ct ∧ ct ≤ 8) (hzi : hs_in i) : hs_M l D cI cO yX6_remove wsX6_remove ({ frames := 3, cells := 0, slots := 0, locals := 69 } : Room) [.ref x0, hs_V i] (hs_ob x0 6 [.ref h0, .ref k0, .ref i0, .ref w0, .ref r0, .ref t0, .ref p0] :: hs_ob h0 0 [.ref h1, hs_V n] :: hs_ia cI h1 40 g :: hs_hist cI cO k0 k1 ct Z) (fun r (_ : Unit) => r = hs_I (pu_remove i (n, g, ct, Z)).1) (fun _ => (hs_ob x0 6 [.ref h0, .ref k0, .ref i0, .ref w0, .ref r0, .ref t0, .ref p0] :: hs_ob h0 0 [.ref h1, hs_V (pu_remove i (n, g, ct, Z)).2.1] :: hs_ia cI h1 40 (pu_remove i (n, g, ct, Z)).2.2.1 :: hs_hist cI cO k0 k1 (pu_remove i (n, g, ct, Z)).2.2.2.1 (pu_remove i (n, g, ct, Z)).2.2.2.2)) 0 0 := by
  refine hs_enter (cc := cX6_remove) (maxL := 2) (by decide +kernel) rfl (Nat.le_of_ble_eq_true rfl) (fun p e s m args below meth c A H0 Q C hret => ?_)
  have f10 := C.1.2.2.2.2 (.fieldLink RX6 10 "HistogramStairs" "columns" "LHistogramStairs$Columns;") (by decide +kernel)
  have u6 : ∀ w ∈ wsX60, w ∈ wsX6_remove := by decide +kernel
  have f19 := C.1.2.2.2.2 (.fieldLink RX6 19 "HistogramStairs" "history" "LHistogramStairs$History;") (by decide +kernel)
  refine hs_lvs (lv' := [(0, .ref x0), (1, hs_V i)]) [0, 1] rfl ?_
  refine hs_aload_n C dX6_remove_0 rfl 0 rfl ?_
  refine hs_get C u6 0 rfl rfl 0 (by decide) f10 rfl rfl dX6_remove_1 ?_
  refine hs_iload_n C dX6_remove_4 rfl 1 rfl ?_
  refine hs_re (w := [hs_ob x0 6 [.ref h0, .ref k0, .ref i0, .ref w0, .ref r0, .ref t0, .ref p0], hs_ob h0 0 [.ref h1, hs_V n], hs_ia cI h1 40 g]) (w' := [hs_ob h0 0 [.ref h1, hs_V n], hs_ob x0 6 [.ref h0, .ref k0, .ref i0, .ref w0, .ref r0, .ref t0, .ref p0], hs_ia cI h1 40 g]) (wi := hs_hist cI cO k0 k1 ct Z) [1, 0, 2] rfl (by decide) ?_
  refine hs_callVi (win := [hs_ob h0 0 [.ref h1, hs_V n]]) (wr := (hs_ob x0 6 [.ref h0, .ref k0, .ref i0, .ref w0, .ref r0, .ref t0, .ref p0] :: hs_ia cI h1 40 g :: hs_hist cI cO k0 k1 ct Z)) (As := [hs_V i]) (rest := []) C (c_X0_has l D cI cO h0 h1 n i (by omega) (by omega)) 0 0 rfl rfl rfl (cwV 1 C.1.2.2.2.2 gX6_remove_X0_has rfl rfl rfl (by decide +kernel) ⟨Nat.le_of_ble_eq_true rfl, Nat.le_of_ble_eq_true rfl⟩) rfl rfl (Nat.le_of_ble_eq_true rfl) dX6_remove_5 ⟨Nat.le_of_ble_eq_true rfl, Nat.le_of_ble_eq_true rfl⟩ (fun rr uu1 hp => ?_)
  obtain rfl := hp
  refine hs_re (w := [hs_ob h0 0 [.ref h1, hs_V n], hs_ob x0 6 [.ref h0, .ref k0, .ref i0, .ref w0, .ref r0, .ref t0, .ref p0], hs_ia cI h1 40 g]) (w' := [hs_ob x0 6 [.ref h0, .ref k0, .ref i0, .ref w0, .ref r0, .ref t0, .ref p0], hs_ob h0 0 [.ref h1, hs_V n], hs_ia cI h1 40 g]) (wi := hs_hist cI cO k0 k1 ct Z) [1, 0, 2] rfl (by decide) ?_
  refine hs_ifne_b (tgt := 13) C dX6_remove_8 (by decide) (fun c2 => ?_) (fun c2 => ?_)
  ·
    refine hs_aload_n C dX6_remove_13 rfl 0 rfl ?_
    refine hs_get C u6 0 rfl rfl 1 (by decide) f19 rfl rfl dX6_remove_14 ?_
    refine hs_aload_n C dX6_remove_17 rfl 0 rfl ?_
    refine hs_get C u6 0 rfl rfl 0 (by decide) f10 rfl rfl dX6_remove_18 ?_
    refine hs_re (w := [hs_ob x0 6 [.ref h0, .ref k0, .ref i0, .ref w0, .ref r0, .ref t0, .ref p0], hs_ob h0 0 [.ref h1, hs_V n], hs_ia cI h1 40 g]) (w' := [hs_ob x0 6 [.ref h0, .ref k0, .ref i0, .ref w0, .ref r0, .ref t0, .ref p0], hs_ob h0 0 [.ref h1, hs_V n], hs_ia cI h1 40 g]) (wi := hs_hist cI cO k0 k1 ct Z) [0, 1, 2] rfl (by decide) ?_
    refine hs_swap (w1 := [hs_ob x0 6 [.ref h0, .ref k0, .ref i0, .ref w0, .ref r0, .ref t0, .ref p0]]) (w2 := (hs_ob h0 0 [.ref h1, hs_V n] :: hs_ia cI h1 40 g :: hs_hist cI cO k0 k1 ct Z)) ?_
    refine hs_callVv (win := (hs_ob h0 0 [.ref h1, hs_V n] :: hs_ia cI h1 40 g :: hs_hist cI cO k0 k1 ct Z)) (wr := [hs_ob x0 6 [.ref h0, .ref k0, .ref i0, .ref w0, .ref r0, .ref t0, .ref p0]]) (As := [.ref h0]) (rest := []) C (c_X1_remember l D cI cO k0 k1 ct Z h0 h1 n g (by omega) (by omega)) 1 2 rfl rfl rfl (cwV 1 C.1.2.2.2.2 gX6_remove_X1_remember rfl rfl rfl (by decide +kernel) ⟨Nat.le_of_ble_eq_true rfl, Nat.le_of_ble_eq_true rfl⟩) rfl rfl (Nat.le_of_ble_eq_true rfl) dX6_remove_21 ⟨Nat.le_of_ble_eq_true rfl, Nat.le_of_ble_eq_true rfl⟩ (fun uu3 hp => ?_)
    refine hs_swap (w1 := (hs_ob h0 0 [.ref h1, hs_V n] :: hs_ia cI h1 40 g :: hs_hist cI cO k0 k1 (pu_remC ct) (pu_remZ ct Z n g))) (w2 := [hs_ob x0 6 [.ref h0, .ref k0, .ref i0, .ref w0, .ref r0, .ref t0, .ref p0]]) ?_
    refine hs_re (w := [hs_ob x0 6 [.ref h0, .ref k0, .ref i0, .ref w0, .ref r0, .ref t0, .ref p0], hs_ob h0 0 [.ref h1, hs_V n], hs_ia cI h1 40 g]) (w' := [hs_ob x0 6 [.ref h0, .ref k0, .ref i0, .ref w0, .ref r0, .ref t0, .ref p0], hs_ob h0 0 [.ref h1, hs_V n], hs_ia cI h1 40 g]) (wi := hs_hist cI cO k0 k1 (pu_remC ct) (pu_remZ ct Z n g)) [0, 1, 2] rfl (by decide) ?_
    refine hs_aload_n C dX6_remove_24 rfl 0 rfl ?_
    refine hs_get C u6 0 rfl rfl 0 (by decide) f10 rfl rfl dX6_remove_25 ?_
    refine hs_iload_n C dX6_remove_28 rfl 1 rfl ?_
    refine hs_re (w := [hs_ob x0 6 [.ref h0, .ref k0, .ref i0, .ref w0, .ref r0, .ref t0, .ref p0], hs_ob h0 0 [.ref h1, hs_V n], hs_ia cI h1 40 g]) (w' := [hs_ob h0 0 [.ref h1, hs_V n], hs_ia cI h1 40 g, hs_ob x0 6 [.ref h0, .ref k0, .ref i0, .ref w0, .ref r0, .ref t0, .ref p0]]) (wi := hs_hist cI cO k0 k1 (pu_remC ct) (pu_remZ ct Z n g)) [1, 2, 0] rfl (by decide) ?_
    refine hs_callVi (win := [hs_ob h0 0 [.ref h1, hs_V n], hs_ia cI h1 40 g]) (wr := (hs_ob x0 6 [.ref h0, .ref k0, .ref i0, .ref w0, .ref r0, .ref t0, .ref p0] :: hs_hist cI cO k0 k1 (pu_remC ct) (pu_remZ ct Z n g))) (As := [hs_V i]) (rest := []) C (c_X0_takeOut l D cI cO h0 h1 n g i (by omega) (by omega)) 0 0 rfl rfl rfl (cwV 1 C.1.2.2.2.2 gX6_remove_X0_takeOut rfl rfl rfl (by decide +kernel) ⟨Nat.le_of_ble_eq_true rfl, Nat.le_of_ble_eq_true rfl⟩) rfl rfl (Nat.le_of_ble_eq_true rfl) dX6_remove_29 ⟨Nat.le_of_ble_eq_true rfl, Nat.le_of_ble_eq_true rfl⟩ (fun rr uu4 hp => ?_)
    obtain rfl := hp
    refine hs_re (w := [hs_ob h0 0 [.ref h1, hs_V (n - 1)], hs_ia cI h1 40 (hs_cp g g (i + 1) i (n - i - 1)), hs_ob x0 6 [.ref h0, .ref k0, .ref i0, .ref w0, .ref r0, .ref t0, .ref p0]]) (w' := [hs_ob x0 6 [.ref h0, .ref k0, .ref i0, .ref w0, .ref r0, .ref t0, .ref p0], hs_ob h0 0 [.ref h1, hs_V (n - 1)], hs_ia cI h1 40 (hs_cp g g (i + 1) i (n - i - 1))]) (wi := hs_hist cI cO k0 k1 (pu_remC ct) (pu_remZ ct Z n g)) [2, 0, 1] rfl (by decide) ?_
    have hE : pu_remove i (n, g, ct, Z) = (g i, n - 1, hs_cp g g (i + 1) i (n - i - 1), pu_remC ct, pu_remZ ct Z n g) := by unfold pu_remove; dsimp only; rw [if_neg (by omega)]
    refine hs_cast (ws' := (hs_ob x0 6 [.ref h0, .ref k0, .ref i0, .ref w0, .ref r0, .ref t0, .ref p0] :: hs_ob h0 0 [.ref h1, hs_V (pu_remove i (n, g, ct, Z)).2.1] :: hs_ia cI h1 40 (pu_remove i (n, g, ct, Z)).2.2.1 :: hs_hist cI cO k0 k1 (pu_remove i (n, g, ct, Z)).2.2.2.1 (pu_remove i (n, g, ct, Z)).2.2.2.2)) ?_ rfl rfl rfl (by rw [hE] <;> rfl)
    exact hret _ _ _ () (by rw [hE]) dX6_remove_32 rfl
  ·
    have hE : pu_remove i (n, g, ct, Z) = (-1, (n, g, ct, Z)) := by unfold pu_remove; dsimp only; rw [if_pos (by omega)]
    refine hs_iconst C dX6_remove_11 ?_
    refine hs_cast (ws' := (hs_ob x0 6 [.ref h0, .ref k0, .ref i0, .ref w0, .ref r0, .ref t0, .ref p0] :: hs_ob h0 0 [.ref h1, hs_V (pu_remove i (n, g, ct, Z)).2.1] :: hs_ia cI h1 40 (pu_remove i (n, g, ct, Z)).2.2.1 :: hs_hist cI cO k0 k1 (pu_remove i (n, g, ct, Z)).2.2.2.1 (pu_remove i (n, g, ct, Z)).2.2.2.2)) ?_ rfl rfl rfl (by rw [hE] <;> rfl)
    exact hret _ _ _ () (by rw [hE]) dX6_remove_12 rfl

set_option maxHeartbeats 4000000 in
set_option maxRecDepth 100000 in
theorem c_X6_set (l : Launch) (D : va_G) (cI cO : ClassId) (x0 : Nat) (h0 : Nat) (k0 : Nat) (i0 : Nat) (w0 : Nat) (r0 : Nat) (t0 : Nat) (p0 : Nat) (h1 : Nat) (n : Int) (g : Int → Int) (k1 : Nat) (ct : Int) (Z : Int → pu_Z) (i : Int) (v : Int) (hn : 0 ≤ n ∧ n ≤ 40) (hg : ∀ k, 0 ≤ g k ∧ g k ≤ 50) (hct : 0 ≤ ct ∧ ct ≤ 8) (hzi : hs_in i) (hzv : hs_in v) : hs_M l D cI cO yX6_set wsX6_set ({ frames := 3, cells := 0, slots := 0, locals := 69 } : Room) [.ref x0, hs_V i, hs_V v] (hs_ob x0 6 [.ref h0, .ref k0, .ref i0, .ref w0, .ref r0, .ref t0, .ref p0] :: hs_ob h0 0 [.ref h1, hs_V n] :: hs_ia cI h1 40 g :: hs_hist cI cO k0 k1 ct Z) (fun r (_ : Unit) => r = hs_I (pu_set i v (n, g, ct, Z)).1) (fun _ => (hs_ob x0 6 [.ref h0, .ref k0, .ref i0, .ref w0, .ref r0, .ref t0, .ref p0] :: hs_ob h0 0 [.ref h1, hs_V (pu_set i v (n, g, ct, Z)).2.1] :: hs_ia cI h1 40 (pu_set i v (n, g, ct, Z)).2.2.1 :: hs_hist cI cO k0 k1 (pu_set i v (n, g, ct, Z)).2.2.2.1 (pu_set i v (n, g, ct, Z)).2.2.2.2)) 0 0 := by
  refine hs_enter (cc := cX6_set) (maxL := 4) (by decide +kernel) rfl (Nat.le_of_ble_eq_true rfl) (fun p e s m args below meth c A H0 Q C hret => ?_)
  have f10 := C.1.2.2.2.2 (.fieldLink RX6 10 "HistogramStairs" "columns" "LHistogramStairs$Columns;") (by decide +kernel)
  have u6 : ∀ w ∈ wsX60, w ∈ wsX6_set := by decide +kernel
  have f19 := C.1.2.2.2.2 (.fieldLink RX6 19 "HistogramStairs" "history" "LHistogramStairs$History;") (by decide +kernel)
  have f78 : (Cond.fieldLinkNest RX6 78 RX0 "heights" "[I" RX6).before args s = true := va_Nw.use (A := args) rfl (C.2.2.1.1 (RX6, 78, RX0, "heights", "[I") (by decide +kernel))
  have u0 : ∀ w ∈ wsX00, w ∈ wsX6_set := by decide +kernel
  refine hs_lvs (lv' := [(0, .ref x0), (1, hs_V i), (2, hs_V v)]) [0, 1, 2] rfl ?_
  refine hs_aload_n C dX6_set_0 rfl 0 rfl ?_
  refine hs_get C u6 0 rfl rfl 0 (by decide) f10 rfl rfl dX6_set_1 ?_
  refine hs_iload_n C dX6_set_4 rfl 1 rfl ?_
  refine hs_re (w := [hs_ob x0 6 [.ref h0, .ref k0, .ref i0, .ref w0, .ref r0, .ref t0, .ref p0], hs_ob h0 0 [.ref h1, hs_V n], hs_ia cI h1 40 g]) (w' := [hs_ob h0 0 [.ref h1, hs_V n], hs_ob x0 6 [.ref h0, .ref k0, .ref i0, .ref w0, .ref r0, .ref t0, .ref p0], hs_ia cI h1 40 g]) (wi := hs_hist cI cO k0 k1 ct Z) [1, 0, 2] rfl (by decide) ?_
  refine hs_callVi (win := [hs_ob h0 0 [.ref h1, hs_V n]]) (wr := (hs_ob x0 6 [.ref h0, .ref k0, .ref i0, .ref w0, .ref r0, .ref t0, .ref p0] :: hs_ia cI h1 40 g :: hs_hist cI cO k0 k1 ct Z)) (As := [hs_V i]) (rest := []) C (c_X0_has l D cI cO h0 h1 n i (by omega) (by omega)) 0 0 rfl rfl rfl (cwV 1 C.1.2.2.2.2 gX6_set_X0_has rfl rfl rfl (by decide +kernel) ⟨Nat.le_of_ble_eq_true rfl, Nat.le_of_ble_eq_true rfl⟩) rfl rfl (Nat.le_of_ble_eq_true rfl) dX6_set_5 ⟨Nat.le_of_ble_eq_true rfl, Nat.le_of_ble_eq_true rfl⟩ (fun rr uu1 hp => ?_)
  obtain rfl := hp
  refine hs_re (w := [hs_ob h0 0 [.ref h1, hs_V n], hs_ob x0 6 [.ref h0, .ref k0, .ref i0, .ref w0, .ref r0, .ref t0, .ref p0], hs_ia cI h1 40 g]) (w' := [hs_ob x0 6 [.ref h0, .ref k0, .ref i0, .ref w0, .ref r0, .ref t0, .ref p0], hs_ob h0 0 [.ref h1, hs_V n], hs_ia cI h1 40 g]) (wi := hs_hist cI cO k0 k1 ct Z) [1, 0, 2] rfl (by decide) ?_
  refine hs_ifeq_b (tgt := 18) C dX6_set_8 (by decide) (fun c2 => ?_) (fun c2 => ?_)
  ·
    have hE : pu_set i v (n, g, ct, Z) = (-1, (n, g, ct, Z)) := by unfold pu_set; dsimp only; rw [if_pos (by omega)]
    refine hs_iconst C dX6_set_18 ?_
    refine hs_cast (ws' := (hs_ob x0 6 [.ref h0, .ref k0, .ref i0, .ref w0, .ref r0, .ref t0, .ref p0] :: hs_ob h0 0 [.ref h1, hs_V (pu_set i v (n, g, ct, Z)).2.1] :: hs_ia cI h1 40 (pu_set i v (n, g, ct, Z)).2.2.1 :: hs_hist cI cO k0 k1 (pu_set i v (n, g, ct, Z)).2.2.2.1 (pu_set i v (n, g, ct, Z)).2.2.2.2)) ?_ rfl rfl rfl (by rw [hE] <;> rfl)
    exact hret _ _ _ () (by rw [hE]) dX6_set_19 rfl
  ·
    refine hs_iload_n C dX6_set_11 rfl 2 rfl ?_
    refine hs_callSi (win := []) (wr := (hs_ob x0 6 [.ref h0, .ref k0, .ref i0, .ref w0, .ref r0, .ref t0, .ref p0] :: hs_ob h0 0 [.ref h1, hs_V n] :: hs_ia cI h1 40 g :: hs_hist cI cO k0 k1 ct Z)) (As := [hs_V v]) (rest := []) C (c_X6_isHeight l D cI cO v (by omega)) (va_cwS 1 C.1.2.2.2.2 gX6_set_X6_isHeight rfl rfl rfl (by decide +kernel) ⟨Nat.le_of_ble_eq_true rfl, Nat.le_of_ble_eq_true rfl⟩) rfl rfl (Nat.le_of_ble_eq_true rfl) dX6_set_12 ⟨Nat.le_of_ble_eq_true rfl, Nat.le_of_ble_eq_true rfl⟩ (fun rr uu3 hp => ?_)
    obtain rfl := hp
    refine hs_re (w := [hs_ob x0 6 [.ref h0, .ref k0, .ref i0, .ref w0, .ref r0, .ref t0, .ref p0], hs_ob h0 0 [.ref h1, hs_V n], hs_ia cI h1 40 g]) (w' := [hs_ob x0 6 [.ref h0, .ref k0, .ref i0, .ref w0, .ref r0, .ref t0, .ref p0], hs_ob h0 0 [.ref h1, hs_V n], hs_ia cI h1 40 g]) (wi := hs_hist cI cO k0 k1 ct Z) [0, 1, 2] rfl (by decide) ?_
    refine hs_ifne_b (tgt := 20) C dX6_set_15 (by decide) (fun c4 => ?_) (fun c4 => ?_)
    ·
      refine hs_aload_n C dX6_set_20 rfl 0 rfl ?_
      refine hs_get C u6 0 rfl rfl 1 (by decide) f19 rfl rfl dX6_set_21 ?_
      refine hs_aload_n C dX6_set_24 rfl 0 rfl ?_
      refine hs_get C u6 0 rfl rfl 0 (by decide) f10 rfl rfl dX6_set_25 ?_
      refine hs_re (w := [hs_ob x0 6 [.ref h0, .ref k0, .ref i0, .ref w0, .ref r0, .ref t0, .ref p0], hs_ob h0 0 [.ref h1, hs_V n], hs_ia cI h1 40 g]) (w' := [hs_ob x0 6 [.ref h0, .ref k0, .ref i0, .ref w0, .ref r0, .ref t0, .ref p0], hs_ob h0 0 [.ref h1, hs_V n], hs_ia cI h1 40 g]) (wi := hs_hist cI cO k0 k1 ct Z) [0, 1, 2] rfl (by decide) ?_
      refine hs_swap (w1 := [hs_ob x0 6 [.ref h0, .ref k0, .ref i0, .ref w0, .ref r0, .ref t0, .ref p0]]) (w2 := (hs_ob h0 0 [.ref h1, hs_V n] :: hs_ia cI h1 40 g :: hs_hist cI cO k0 k1 ct Z)) ?_
      refine hs_callVv (win := (hs_ob h0 0 [.ref h1, hs_V n] :: hs_ia cI h1 40 g :: hs_hist cI cO k0 k1 ct Z)) (wr := [hs_ob x0 6 [.ref h0, .ref k0, .ref i0, .ref w0, .ref r0, .ref t0, .ref p0]]) (As := [.ref h0]) (rest := []) C (c_X1_remember l D cI cO k0 k1 ct Z h0 h1 n g (by omega) (by omega)) 1 2 rfl rfl rfl (cwV 1 C.1.2.2.2.2 gX6_set_X1_remember rfl rfl rfl (by decide +kernel) ⟨Nat.le_of_ble_eq_true rfl, Nat.le_of_ble_eq_true rfl⟩) rfl rfl (Nat.le_of_ble_eq_true rfl) dX6_set_28 ⟨Nat.le_of_ble_eq_true rfl, Nat.le_of_ble_eq_true rfl⟩ (fun uu5 hp => ?_)
      refine hs_swap (w1 := (hs_ob h0 0 [.ref h1, hs_V n] :: hs_ia cI h1 40 g :: hs_hist cI cO k0 k1 (pu_remC ct) (pu_remZ ct Z n g))) (w2 := [hs_ob x0 6 [.ref h0, .ref k0, .ref i0, .ref w0, .ref r0, .ref t0, .ref p0]]) ?_
      refine hs_re (w := [hs_ob x0 6 [.ref h0, .ref k0, .ref i0, .ref w0, .ref r0, .ref t0, .ref p0], hs_ob h0 0 [.ref h1, hs_V n], hs_ia cI h1 40 g]) (w' := [hs_ob x0 6 [.ref h0, .ref k0, .ref i0, .ref w0, .ref r0, .ref t0, .ref p0], hs_ob h0 0 [.ref h1, hs_V n], hs_ia cI h1 40 g]) (wi := hs_hist cI cO k0 k1 (pu_remC ct) (pu_remZ ct Z n g)) [0, 1, 2] rfl (by decide) ?_
      refine hs_aload_n C dX6_set_31 rfl 0 rfl ?_
      refine hs_get C u6 0 rfl rfl 0 (by decide) f10 rfl rfl dX6_set_32 ?_
      refine hs_getN C u0 1 rfl rfl 0 (by decide) f78 rfl rfl dX6_set_35 ?_
      refine hs_iload_n C dX6_set_38 rfl 1 rfl ?_
      refine hs_iald C 2 rfl (by omega) dX6_set_39 ?_
      have b6 := hg i
      refine hs_istore_n (lv' := [(0, .ref x0), (1, hs_V i), (2, hs_V v), (3, hs_V (g i))]) C dX6_set_40 rfl (by decide) [1, 2, 3, 0] rfl ?_
      refine hs_aload_n C dX6_set_41 rfl 0 rfl ?_
      refine hs_get C u6 0 rfl rfl 0 (by decide) f10 rfl rfl dX6_set_42 ?_
      refine hs_getN C u0 1 rfl rfl 0 (by decide) f78 rfl rfl dX6_set_45 ?_
      refine hs_iload_n C dX6_set_48 rfl 1 rfl ?_
      refine hs_iload_n C dX6_set_49 rfl 2 rfl ?_
      refine hs_iast (ws' := (hs_ob x0 6 [.ref h0, .ref k0, .ref i0, .ref w0, .ref r0, .ref t0, .ref p0] :: hs_ob h0 0 [.ref h1, hs_V n] :: hs_ia cI h1 40 (hs_u g i v) :: hs_hist cI cO k0 k1 (pu_remC ct) (pu_remZ ct Z n g))) C 2 rfl (by omega) rfl dX6_set_50 ?_
      have b7 := hs_u_bd (i := i) hg (show 0 ≤ v ∧ v ≤ 50 by omega)
      refine hs_iload_n C dX6_set_51 rfl 3 rfl ?_
      have hE : pu_set i v (n, g, ct, Z) = (g i, n, hs_u g i v, pu_remC ct, pu_remZ ct Z n g) := by unfold pu_set; dsimp only; rw [if_neg (by omega)]
      refine hs_cast (ws' := (hs_ob x0 6 [.ref h0, .ref k0, .ref i0, .ref w0, .ref r0, .ref t0, .ref p0] :: hs_ob h0 0 [.ref h1, hs_V (pu_set i v (n, g, ct, Z)).2.1] :: hs_ia cI h1 40 (pu_set i v (n, g, ct, Z)).2.2.1 :: hs_hist cI cO k0 k1 (pu_set i v (n, g, ct, Z)).2.2.2.1 (pu_set i v (n, g, ct, Z)).2.2.2.2)) ?_ rfl rfl rfl (by rw [hE] <;> rfl)
      exact hret _ _ _ () (by rw [hE]) dX6_set_52 rfl
    ·
      have hE : pu_set i v (n, g, ct, Z) = (-1, (n, g, ct, Z)) := by unfold pu_set; dsimp only; rw [if_pos (by omega)]
      refine hs_iconst C dX6_set_18 ?_
      refine hs_cast (ws' := (hs_ob x0 6 [.ref h0, .ref k0, .ref i0, .ref w0, .ref r0, .ref t0, .ref p0] :: hs_ob h0 0 [.ref h1, hs_V (pu_set i v (n, g, ct, Z)).2.1] :: hs_ia cI h1 40 (pu_set i v (n, g, ct, Z)).2.2.1 :: hs_hist cI cO k0 k1 (pu_set i v (n, g, ct, Z)).2.2.2.1 (pu_set i v (n, g, ct, Z)).2.2.2.2)) ?_ rfl rfl rfl (by rw [hE] <;> rfl)
      exact hret _ _ _ () (by rw [hE]) dX6_set_19 rfl

set_option maxHeartbeats 4000000 in
set_option maxRecDepth 100000 in
theorem c_X6_raise (l : Launch) (D : va_G) (cI cO : ClassId) (x0 : Nat) (h0 : Nat) (k0 : Nat) (i0 : Nat) (w0 : Nat) (r0 : Nat) (t0 : Nat) (p0 : Nat) (h1 : Nat) (n : Int) (g : Int → Int) (k1 : Nat) (ct : Int) (Z : Int → pu_Z) (a : Int) (b : Int) (d : Int) (hn : 0 ≤ n ∧ n ≤ 40) (hg : ∀ k, 0 ≤ g k ∧ g k ≤ 50) (hct : 0 ≤ ct ∧ ct ≤ 8) (hza : hs_in a) (hzb : hs_in b) (hzd : hs_in d) : hs_M l D cI cO yX6_raise wsX6_raise ({ frames := 3, cells := 0, slots := 0, locals := 69 } : Room) [.ref x0, hs_V a, hs_V b, hs_V d] (hs_ob x0 6 [.ref h0, .ref k0, .ref i0, .ref w0, .ref r0, .ref t0, .ref p0] :: hs_ob h0 0 [.ref h1, hs_V n] :: hs_ia cI h1 40 g :: hs_hist cI cO k0 k1 ct Z) (fun r (_ : Unit) => r = hs_I (pu_raise a b d (n, g, ct, Z)).1) (fun _ => (hs_ob x0 6 [.ref h0, .ref k0, .ref i0, .ref w0, .ref r0, .ref t0, .ref p0] :: hs_ob h0 0 [.ref h1, hs_V (pu_raise a b d (n, g, ct, Z)).2.1] :: hs_ia cI h1 40 (pu_raise a b d (n, g, ct, Z)).2.2.1 :: hs_hist cI cO k0 k1 (pu_raise a b d (n, g, ct, Z)).2.2.2.1 (pu_raise a b d (n, g, ct, Z)).2.2.2.2)) 0 0 := by
  refine hs_enter (cc := cX6_raise) (maxL := 4) (by decide +kernel) rfl (Nat.le_of_ble_eq_true rfl) (fun p e s m args below meth c A H0 Q C hret => ?_)
  have f10 := C.1.2.2.2.2 (.fieldLink RX6 10 "HistogramStairs" "columns" "LHistogramStairs$Columns;") (by decide +kernel)
  have u6 : ∀ w ∈ wsX60, w ∈ wsX6_raise := by decide +kernel
  have f19 := C.1.2.2.2.2 (.fieldLink RX6 19 "HistogramStairs" "history" "LHistogramStairs$History;") (by decide +kernel)
  refine hs_lvs (lv' := [(0, .ref x0), (1, hs_V a), (2, hs_V b), (3, hs_V d)]) [0, 1, 2, 3] rfl ?_
  refine hs_aload_n C dX6_raise_0 rfl 0 rfl ?_
  refine hs_get C u6 0 rfl rfl 0 (by decide) f10 rfl rfl dX6_raise_1 ?_
  refine hs_iload_n C dX6_raise_4 rfl 1 rfl ?_
  refine hs_iload_n C dX6_raise_5 rfl 2 rfl ?_
  refine hs_re (w := [hs_ob x0 6 [.ref h0, .ref k0, .ref i0, .ref w0, .ref r0, .ref t0, .ref p0], hs_ob h0 0 [.ref h1, hs_V n], hs_ia cI h1 40 g]) (w' := [hs_ob h0 0 [.ref h1, hs_V n], hs_ob x0 6 [.ref h0, .ref k0, .ref i0, .ref w0, .ref r0, .ref t0, .ref p0], hs_ia cI h1 40 g]) (wi := hs_hist cI cO k0 k1 ct Z) [1, 0, 2] rfl (by decide) ?_
  refine hs_callVi (win := [hs_ob h0 0 [.ref h1, hs_V n]]) (wr := (hs_ob x0 6 [.ref h0, .ref k0, .ref i0, .ref w0, .ref r0, .ref t0, .ref p0] :: hs_ia cI h1 40 g :: hs_hist cI cO k0 k1 ct Z)) (As := [hs_V a, hs_V b]) (rest := []) C (c_X0_hasRange l D cI cO h0 h1 n a b (by omega) (by omega) (by omega)) 0 0 rfl rfl rfl (cwV 2 C.1.2.2.2.2 gX6_raise_X0_hasRange rfl rfl rfl (by decide +kernel) ⟨Nat.le_of_ble_eq_true rfl, Nat.le_of_ble_eq_true rfl⟩) rfl rfl (Nat.le_of_ble_eq_true rfl) dX6_raise_6 ⟨Nat.le_of_ble_eq_true rfl, Nat.le_of_ble_eq_true rfl⟩ (fun rr uu1 hp => ?_)
  obtain rfl := hp
  refine hs_re (w := [hs_ob h0 0 [.ref h1, hs_V n], hs_ob x0 6 [.ref h0, .ref k0, .ref i0, .ref w0, .ref r0, .ref t0, .ref p0], hs_ia cI h1 40 g]) (w' := [hs_ob x0 6 [.ref h0, .ref k0, .ref i0, .ref w0, .ref r0, .ref t0, .ref p0], hs_ob h0 0 [.ref h1, hs_V n], hs_ia cI h1 40 g]) (wi := hs_hist cI cO k0 k1 ct Z) [1, 0, 2] rfl (by decide) ?_
  refine hs_ifeq_b (tgt := 24) C dX6_raise_9 (by decide) (fun c2 => ?_) (fun c2 => ?_)
  ·
    have hE : pu_raise a b d (n, g, ct, Z) = (-1, (n, g, ct, Z)) := by unfold pu_raise; dsimp only; rw [if_pos (by omega)]
    refine hs_iconst C dX6_raise_24 ?_
    refine hs_cast (ws' := (hs_ob x0 6 [.ref h0, .ref k0, .ref i0, .ref w0, .ref r0, .ref t0, .ref p0] :: hs_ob h0 0 [.ref h1, hs_V (pu_raise a b d (n, g, ct, Z)).2.1] :: hs_ia cI h1 40 (pu_raise a b d (n, g, ct, Z)).2.2.1 :: hs_hist cI cO k0 k1 (pu_raise a b d (n, g, ct, Z)).2.2.2.1 (pu_raise a b d (n, g, ct, Z)).2.2.2.2)) ?_ rfl rfl rfl (by rw [hE] <;> rfl)
    exact hret _ _ _ () (by rw [hE]) dX6_raise_25 rfl
  ·
    refine hs_iload_n C dX6_raise_12 rfl 3 rfl ?_
    refine hs_bipush C dX6_raise_13 (by decide) ?_
    refine hs_icmp_lt (tgt := 24) C dX6_raise_15 (by decide) (by omega) (by omega) (fun c3 => ?_) (fun c3 => ?_)
    ·
      have hE : pu_raise a b d (n, g, ct, Z) = (-1, (n, g, ct, Z)) := by unfold pu_raise; dsimp only; rw [if_pos (by omega)]
      refine hs_iconst C dX6_raise_24 ?_
      refine hs_cast (ws' := (hs_ob x0 6 [.ref h0, .ref k0, .ref i0, .ref w0, .ref r0, .ref t0, .ref p0] :: hs_ob h0 0 [.ref h1, hs_V (pu_raise a b d (n, g, ct, Z)).2.1] :: hs_ia cI h1 40 (pu_raise a b d (n, g, ct, Z)).2.2.1 :: hs_hist cI cO k0 k1 (pu_raise a b d (n, g, ct, Z)).2.2.2.1 (pu_raise a b d (n, g, ct, Z)).2.2.2.2)) ?_ rfl rfl rfl (by rw [hE] <;> rfl)
      exact hret _ _ _ () (by rw [hE]) dX6_raise_25 rfl
    ·
      refine hs_iload_n C dX6_raise_18 rfl 3 rfl ?_
      refine hs_bipush C dX6_raise_19 (by decide) ?_
      refine hs_icmp_le (tgt := 26) C dX6_raise_21 (by decide) (by omega) (by omega) (fun c4 => ?_) (fun c4 => ?_)
      ·
        refine hs_aload_n C dX6_raise_26 rfl 0 rfl ?_
        refine hs_get C u6 0 rfl rfl 1 (by decide) f19 rfl rfl dX6_raise_27 ?_
        refine hs_aload_n C dX6_raise_30 rfl 0 rfl ?_
        refine hs_get C u6 0 rfl rfl 0 (by decide) f10 rfl rfl dX6_raise_31 ?_
        refine hs_re (w := [hs_ob x0 6 [.ref h0, .ref k0, .ref i0, .ref w0, .ref r0, .ref t0, .ref p0], hs_ob h0 0 [.ref h1, hs_V n], hs_ia cI h1 40 g]) (w' := [hs_ob x0 6 [.ref h0, .ref k0, .ref i0, .ref w0, .ref r0, .ref t0, .ref p0], hs_ob h0 0 [.ref h1, hs_V n], hs_ia cI h1 40 g]) (wi := hs_hist cI cO k0 k1 ct Z) [0, 1, 2] rfl (by decide) ?_
        refine hs_swap (w1 := [hs_ob x0 6 [.ref h0, .ref k0, .ref i0, .ref w0, .ref r0, .ref t0, .ref p0]]) (w2 := (hs_ob h0 0 [.ref h1, hs_V n] :: hs_ia cI h1 40 g :: hs_hist cI cO k0 k1 ct Z)) ?_
        refine hs_callVv (win := (hs_ob h0 0 [.ref h1, hs_V n] :: hs_ia cI h1 40 g :: hs_hist cI cO k0 k1 ct Z)) (wr := [hs_ob x0 6 [.ref h0, .ref k0, .ref i0, .ref w0, .ref r0, .ref t0, .ref p0]]) (As := [.ref h0]) (rest := []) C (c_X1_remember l D cI cO k0 k1 ct Z h0 h1 n g (by omega) (by omega)) 1 2 rfl rfl rfl (cwV 1 C.1.2.2.2.2 gX6_raise_X1_remember rfl rfl rfl (by decide +kernel) ⟨Nat.le_of_ble_eq_true rfl, Nat.le_of_ble_eq_true rfl⟩) rfl rfl (Nat.le_of_ble_eq_true rfl) dX6_raise_34 ⟨Nat.le_of_ble_eq_true rfl, Nat.le_of_ble_eq_true rfl⟩ (fun uu5 hp => ?_)
        refine hs_swap (w1 := (hs_ob h0 0 [.ref h1, hs_V n] :: hs_ia cI h1 40 g :: hs_hist cI cO k0 k1 (pu_remC ct) (pu_remZ ct Z n g))) (w2 := [hs_ob x0 6 [.ref h0, .ref k0, .ref i0, .ref w0, .ref r0, .ref t0, .ref p0]]) ?_
        refine hs_re (w := [hs_ob x0 6 [.ref h0, .ref k0, .ref i0, .ref w0, .ref r0, .ref t0, .ref p0], hs_ob h0 0 [.ref h1, hs_V n], hs_ia cI h1 40 g]) (w' := [hs_ob x0 6 [.ref h0, .ref k0, .ref i0, .ref w0, .ref r0, .ref t0, .ref p0], hs_ob h0 0 [.ref h1, hs_V n], hs_ia cI h1 40 g]) (wi := hs_hist cI cO k0 k1 (pu_remC ct) (pu_remZ ct Z n g)) [0, 1, 2] rfl (by decide) ?_
        refine hs_aload_n C dX6_raise_37 rfl 0 rfl ?_
        refine hs_get C u6 0 rfl rfl 0 (by decide) f10 rfl rfl dX6_raise_38 ?_
        refine hs_iload_n C dX6_raise_41 rfl 1 rfl ?_
        refine hs_iload_n C dX6_raise_42 rfl 2 rfl ?_
        refine hs_iload_n C dX6_raise_43 rfl 3 rfl ?_
        refine hs_re (w := [hs_ob x0 6 [.ref h0, .ref k0, .ref i0, .ref w0, .ref r0, .ref t0, .ref p0], hs_ob h0 0 [.ref h1, hs_V n], hs_ia cI h1 40 g]) (w' := [hs_ob h0 0 [.ref h1, hs_V n], hs_ia cI h1 40 g, hs_ob x0 6 [.ref h0, .ref k0, .ref i0, .ref w0, .ref r0, .ref t0, .ref p0]]) (wi := hs_hist cI cO k0 k1 (pu_remC ct) (pu_remZ ct Z n g)) [1, 2, 0] rfl (by decide) ?_
        refine hs_callVi (win := [hs_ob h0 0 [.ref h1, hs_V n], hs_ia cI h1 40 g]) (wr := (hs_ob x0 6 [.ref h0, .ref k0, .ref i0, .ref w0, .ref r0, .ref t0, .ref p0] :: hs_hist cI cO k0 k1 (pu_remC ct) (pu_remZ ct Z n g))) (As := [hs_V a, hs_V b, hs_V d]) (rest := []) C (c_X0_lift l D cI cO h0 h1 n g a b d (by omega) hg (by omega) (by omega)) 0 0 rfl rfl rfl (cwV 3 C.1.2.2.2.2 gX6_raise_X0_lift rfl rfl rfl (by decide +kernel) ⟨Nat.le_of_ble_eq_true rfl, Nat.le_of_ble_eq_true rfl⟩) rfl rfl (Nat.le_of_ble_eq_true rfl) dX6_raise_44 ⟨Nat.le_of_ble_eq_true rfl, Nat.le_of_ble_eq_true rfl⟩ (fun rr uu6 hp => ?_)
        obtain rfl := hp
        refine hs_re (w := [hs_ob h0 0 [.ref h1, hs_V n], hs_ia cI h1 40 (pu_lift g a b d).2, hs_ob x0 6 [.ref h0, .ref k0, .ref i0, .ref w0, .ref r0, .ref t0, .ref p0]]) (w' := [hs_ob x0 6 [.ref h0, .ref k0, .ref i0, .ref w0, .ref r0, .ref t0, .ref p0], hs_ob h0 0 [.ref h1, hs_V n], hs_ia cI h1 40 (pu_lift g a b d).2]) (wi := hs_hist cI cO k0 k1 (pu_remC ct) (pu_remZ ct Z n g)) [2, 0, 1] rfl (by decide) ?_
        have hE : pu_raise a b d (n, g, ct, Z) = ((pu_lift g a b d).1, n, (pu_lift g a b d).2, pu_remC ct, pu_remZ ct Z n g) := by unfold pu_raise; dsimp only; rw [if_neg (by omega)]
        refine hs_cast (ws' := (hs_ob x0 6 [.ref h0, .ref k0, .ref i0, .ref w0, .ref r0, .ref t0, .ref p0] :: hs_ob h0 0 [.ref h1, hs_V (pu_raise a b d (n, g, ct, Z)).2.1] :: hs_ia cI h1 40 (pu_raise a b d (n, g, ct, Z)).2.2.1 :: hs_hist cI cO k0 k1 (pu_raise a b d (n, g, ct, Z)).2.2.2.1 (pu_raise a b d (n, g, ct, Z)).2.2.2.2)) ?_ rfl rfl rfl (by rw [hE] <;> rfl)
        exact hret _ _ _ () (by rw [hE]) dX6_raise_47 rfl
      ·
        have hE : pu_raise a b d (n, g, ct, Z) = (-1, (n, g, ct, Z)) := by unfold pu_raise; dsimp only; rw [if_pos (by omega)]
        refine hs_iconst C dX6_raise_24 ?_
        refine hs_cast (ws' := (hs_ob x0 6 [.ref h0, .ref k0, .ref i0, .ref w0, .ref r0, .ref t0, .ref p0] :: hs_ob h0 0 [.ref h1, hs_V (pu_raise a b d (n, g, ct, Z)).2.1] :: hs_ia cI h1 40 (pu_raise a b d (n, g, ct, Z)).2.2.1 :: hs_hist cI cO k0 k1 (pu_raise a b d (n, g, ct, Z)).2.2.2.1 (pu_raise a b d (n, g, ct, Z)).2.2.2.2)) ?_ rfl rfl rfl (by rw [hE] <;> rfl)
        exact hret _ _ _ () (by rw [hE]) dX6_raise_25 rfl

set_option maxHeartbeats 4000000 in
set_option maxRecDepth 100000 in
theorem c_X6_reverse (l : Launch) (D : va_G) (cI cO : ClassId) (x0 : Nat) (h0 : Nat) (k0 : Nat) (i0 : Nat) (w0 : Nat) (r0 : Nat) (t0 : Nat) (p0 : Nat) (h1 : Nat) (n : Int) (g : Int → Int) (k1 : Nat) (ct : Int) (Z : Int → pu_Z) (a : Int) (b : Int) (hn : 0 ≤ n ∧ n ≤ 40) (hg : ∀ k, 0 ≤ g k ∧ g k ≤ 50) (hct : 0 ≤ ct ∧ ct ≤ 8) (hza : hs_in a) (hzb : hs_in b) : hs_M l D cI cO yX6_reverse wsX6_reverse ({ frames := 3, cells := 0, slots := 0, locals := 69 } : Room) [.ref x0, hs_V a, hs_V b] (hs_ob x0 6 [.ref h0, .ref k0, .ref i0, .ref w0, .ref r0, .ref t0, .ref p0] :: hs_ob h0 0 [.ref h1, hs_V n] :: hs_ia cI h1 40 g :: hs_hist cI cO k0 k1 ct Z) (fun r (_ : Unit) => r = hs_I (pu_reverse a b (n, g, ct, Z)).1) (fun _ => (hs_ob x0 6 [.ref h0, .ref k0, .ref i0, .ref w0, .ref r0, .ref t0, .ref p0] :: hs_ob h0 0 [.ref h1, hs_V (pu_reverse a b (n, g, ct, Z)).2.1] :: hs_ia cI h1 40 (pu_reverse a b (n, g, ct, Z)).2.2.1 :: hs_hist cI cO k0 k1 (pu_reverse a b (n, g, ct, Z)).2.2.2.1 (pu_reverse a b (n, g, ct, Z)).2.2.2.2)) 0 0 := by
  refine hs_enter (cc := cX6_reverse) (maxL := 3) (by decide +kernel) rfl (Nat.le_of_ble_eq_true rfl) (fun p e s m args below meth c A H0 Q C hret => ?_)
  have f10 := C.1.2.2.2.2 (.fieldLink RX6 10 "HistogramStairs" "columns" "LHistogramStairs$Columns;") (by decide +kernel)
  have u6 : ∀ w ∈ wsX60, w ∈ wsX6_reverse := by decide +kernel
  have f19 := C.1.2.2.2.2 (.fieldLink RX6 19 "HistogramStairs" "history" "LHistogramStairs$History;") (by decide +kernel)
  refine hs_lvs (lv' := [(0, .ref x0), (1, hs_V a), (2, hs_V b)]) [0, 1, 2] rfl ?_
  refine hs_aload_n C dX6_reverse_0 rfl 0 rfl ?_
  refine hs_get C u6 0 rfl rfl 0 (by decide) f10 rfl rfl dX6_reverse_1 ?_
  refine hs_iload_n C dX6_reverse_4 rfl 1 rfl ?_
  refine hs_iload_n C dX6_reverse_5 rfl 2 rfl ?_
  refine hs_re (w := [hs_ob x0 6 [.ref h0, .ref k0, .ref i0, .ref w0, .ref r0, .ref t0, .ref p0], hs_ob h0 0 [.ref h1, hs_V n], hs_ia cI h1 40 g]) (w' := [hs_ob h0 0 [.ref h1, hs_V n], hs_ob x0 6 [.ref h0, .ref k0, .ref i0, .ref w0, .ref r0, .ref t0, .ref p0], hs_ia cI h1 40 g]) (wi := hs_hist cI cO k0 k1 ct Z) [1, 0, 2] rfl (by decide) ?_
  refine hs_callVi (win := [hs_ob h0 0 [.ref h1, hs_V n]]) (wr := (hs_ob x0 6 [.ref h0, .ref k0, .ref i0, .ref w0, .ref r0, .ref t0, .ref p0] :: hs_ia cI h1 40 g :: hs_hist cI cO k0 k1 ct Z)) (As := [hs_V a, hs_V b]) (rest := []) C (c_X0_hasRange l D cI cO h0 h1 n a b (by omega) (by omega) (by omega)) 0 0 rfl rfl rfl (cwV 2 C.1.2.2.2.2 gX6_reverse_X0_hasRange rfl rfl rfl (by decide +kernel) ⟨Nat.le_of_ble_eq_true rfl, Nat.le_of_ble_eq_true rfl⟩) rfl rfl (Nat.le_of_ble_eq_true rfl) dX6_reverse_6 ⟨Nat.le_of_ble_eq_true rfl, Nat.le_of_ble_eq_true rfl⟩ (fun rr uu1 hp => ?_)
  obtain rfl := hp
  refine hs_re (w := [hs_ob h0 0 [.ref h1, hs_V n], hs_ob x0 6 [.ref h0, .ref k0, .ref i0, .ref w0, .ref r0, .ref t0, .ref p0], hs_ia cI h1 40 g]) (w' := [hs_ob x0 6 [.ref h0, .ref k0, .ref i0, .ref w0, .ref r0, .ref t0, .ref p0], hs_ob h0 0 [.ref h1, hs_V n], hs_ia cI h1 40 g]) (wi := hs_hist cI cO k0 k1 ct Z) [1, 0, 2] rfl (by decide) ?_
  refine hs_ifne_b (tgt := 14) C dX6_reverse_9 (by decide) (fun c2 => ?_) (fun c2 => ?_)
  ·
    refine hs_aload_n C dX6_reverse_14 rfl 0 rfl ?_
    refine hs_get C u6 0 rfl rfl 1 (by decide) f19 rfl rfl dX6_reverse_15 ?_
    refine hs_aload_n C dX6_reverse_18 rfl 0 rfl ?_
    refine hs_get C u6 0 rfl rfl 0 (by decide) f10 rfl rfl dX6_reverse_19 ?_
    refine hs_re (w := [hs_ob x0 6 [.ref h0, .ref k0, .ref i0, .ref w0, .ref r0, .ref t0, .ref p0], hs_ob h0 0 [.ref h1, hs_V n], hs_ia cI h1 40 g]) (w' := [hs_ob x0 6 [.ref h0, .ref k0, .ref i0, .ref w0, .ref r0, .ref t0, .ref p0], hs_ob h0 0 [.ref h1, hs_V n], hs_ia cI h1 40 g]) (wi := hs_hist cI cO k0 k1 ct Z) [0, 1, 2] rfl (by decide) ?_
    refine hs_swap (w1 := [hs_ob x0 6 [.ref h0, .ref k0, .ref i0, .ref w0, .ref r0, .ref t0, .ref p0]]) (w2 := (hs_ob h0 0 [.ref h1, hs_V n] :: hs_ia cI h1 40 g :: hs_hist cI cO k0 k1 ct Z)) ?_
    refine hs_callVv (win := (hs_ob h0 0 [.ref h1, hs_V n] :: hs_ia cI h1 40 g :: hs_hist cI cO k0 k1 ct Z)) (wr := [hs_ob x0 6 [.ref h0, .ref k0, .ref i0, .ref w0, .ref r0, .ref t0, .ref p0]]) (As := [.ref h0]) (rest := []) C (c_X1_remember l D cI cO k0 k1 ct Z h0 h1 n g (by omega) (by omega)) 1 2 rfl rfl rfl (cwV 1 C.1.2.2.2.2 gX6_reverse_X1_remember rfl rfl rfl (by decide +kernel) ⟨Nat.le_of_ble_eq_true rfl, Nat.le_of_ble_eq_true rfl⟩) rfl rfl (Nat.le_of_ble_eq_true rfl) dX6_reverse_22 ⟨Nat.le_of_ble_eq_true rfl, Nat.le_of_ble_eq_true rfl⟩ (fun uu3 hp => ?_)
    refine hs_swap (w1 := (hs_ob h0 0 [.ref h1, hs_V n] :: hs_ia cI h1 40 g :: hs_hist cI cO k0 k1 (pu_remC ct) (pu_remZ ct Z n g))) (w2 := [hs_ob x0 6 [.ref h0, .ref k0, .ref i0, .ref w0, .ref r0, .ref t0, .ref p0]]) ?_
    refine hs_re (w := [hs_ob x0 6 [.ref h0, .ref k0, .ref i0, .ref w0, .ref r0, .ref t0, .ref p0], hs_ob h0 0 [.ref h1, hs_V n], hs_ia cI h1 40 g]) (w' := [hs_ob x0 6 [.ref h0, .ref k0, .ref i0, .ref w0, .ref r0, .ref t0, .ref p0], hs_ob h0 0 [.ref h1, hs_V n], hs_ia cI h1 40 g]) (wi := hs_hist cI cO k0 k1 (pu_remC ct) (pu_remZ ct Z n g)) [0, 1, 2] rfl (by decide) ?_
    refine hs_aload_n C dX6_reverse_25 rfl 0 rfl ?_
    refine hs_get C u6 0 rfl rfl 0 (by decide) f10 rfl rfl dX6_reverse_26 ?_
    refine hs_iload_n C dX6_reverse_29 rfl 1 rfl ?_
    refine hs_iload_n C dX6_reverse_30 rfl 2 rfl ?_
    refine hs_re (w := [hs_ob x0 6 [.ref h0, .ref k0, .ref i0, .ref w0, .ref r0, .ref t0, .ref p0], hs_ob h0 0 [.ref h1, hs_V n], hs_ia cI h1 40 g]) (w' := [hs_ob h0 0 [.ref h1, hs_V n], hs_ia cI h1 40 g, hs_ob x0 6 [.ref h0, .ref k0, .ref i0, .ref w0, .ref r0, .ref t0, .ref p0]]) (wi := hs_hist cI cO k0 k1 (pu_remC ct) (pu_remZ ct Z n g)) [1, 2, 0] rfl (by decide) ?_
    refine hs_callVi (win := [hs_ob h0 0 [.ref h1, hs_V n], hs_ia cI h1 40 g]) (wr := (hs_ob x0 6 [.ref h0, .ref k0, .ref i0, .ref w0, .ref r0, .ref t0, .ref p0] :: hs_hist cI cO k0 k1 (pu_remC ct) (pu_remZ ct Z n g))) (As := [hs_V a, hs_V b]) (rest := []) C (c_X0_mirror l D cI cO h0 h1 n g a b (by omega) hg (by omega)) 0 0 rfl rfl rfl (cwV 2 C.1.2.2.2.2 gX6_reverse_X0_mirror rfl rfl rfl (by decide +kernel) ⟨Nat.le_of_ble_eq_true rfl, Nat.le_of_ble_eq_true rfl⟩) rfl rfl (Nat.le_of_ble_eq_true rfl) dX6_reverse_31 ⟨Nat.le_of_ble_eq_true rfl, Nat.le_of_ble_eq_true rfl⟩ (fun rr uu4 hp => ?_)
    obtain rfl := hp
    refine hs_re (w := [hs_ob h0 0 [.ref h1, hs_V n], hs_ia cI h1 40 (pu_mir g a b).2, hs_ob x0 6 [.ref h0, .ref k0, .ref i0, .ref w0, .ref r0, .ref t0, .ref p0]]) (w' := [hs_ob x0 6 [.ref h0, .ref k0, .ref i0, .ref w0, .ref r0, .ref t0, .ref p0], hs_ob h0 0 [.ref h1, hs_V n], hs_ia cI h1 40 (pu_mir g a b).2]) (wi := hs_hist cI cO k0 k1 (pu_remC ct) (pu_remZ ct Z n g)) [2, 0, 1] rfl (by decide) ?_
    have hE : pu_reverse a b (n, g, ct, Z) = ((pu_mir g a b).1, n, (pu_mir g a b).2, pu_remC ct, pu_remZ ct Z n g) := by unfold pu_reverse; dsimp only; rw [if_neg (by omega)]
    refine hs_cast (ws' := (hs_ob x0 6 [.ref h0, .ref k0, .ref i0, .ref w0, .ref r0, .ref t0, .ref p0] :: hs_ob h0 0 [.ref h1, hs_V (pu_reverse a b (n, g, ct, Z)).2.1] :: hs_ia cI h1 40 (pu_reverse a b (n, g, ct, Z)).2.2.1 :: hs_hist cI cO k0 k1 (pu_reverse a b (n, g, ct, Z)).2.2.2.1 (pu_reverse a b (n, g, ct, Z)).2.2.2.2)) ?_ rfl rfl rfl (by rw [hE] <;> rfl)
    exact hret _ _ _ () (by rw [hE]) dX6_reverse_34 rfl
  ·
    have hE : pu_reverse a b (n, g, ct, Z) = (-1, (n, g, ct, Z)) := by unfold pu_reverse; dsimp only; rw [if_pos (by omega)]
    refine hs_iconst C dX6_reverse_12 ?_
    refine hs_cast (ws' := (hs_ob x0 6 [.ref h0, .ref k0, .ref i0, .ref w0, .ref r0, .ref t0, .ref p0] :: hs_ob h0 0 [.ref h1, hs_V (pu_reverse a b (n, g, ct, Z)).2.1] :: hs_ia cI h1 40 (pu_reverse a b (n, g, ct, Z)).2.2.1 :: hs_hist cI cO k0 k1 (pu_reverse a b (n, g, ct, Z)).2.2.2.1 (pu_reverse a b (n, g, ct, Z)).2.2.2.2)) ?_ rfl rfl rfl (by rw [hE] <;> rfl)
    exact hret _ _ _ () (by rw [hE]) dX6_reverse_13 rfl

set_option maxHeartbeats 4000000 in
set_option maxRecDepth 100000 in
theorem c_X6_sort (l : Launch) (D : va_G) (cI cO : ClassId) (x0 : Nat) (h0 : Nat) (k0 : Nat) (i0 : Nat) (w0 : Nat) (r0 : Nat) (t0 : Nat) (p0 : Nat) (h1 : Nat) (n : Int) (g : Int → Int) (k1 : Nat) (ct : Int) (Z : Int → pu_Z) (a : Int) (b : Int) (u1 : Int) (hn : 0 ≤ n ∧ n ≤ 40) (hg : ∀ k, 0 ≤ g k ∧ g k ≤ 50) (hct : 0 ≤ ct ∧ ct ≤ 8) (hza : hs_in a) (hzb : hs_in b) (hzu : hs_in u1) : hs_M l D cI cO yX6_sort wsX6_sort ({ frames := 3, cells := 0, slots := 0, locals := 69 } : Room) [.ref x0, hs_V a, hs_V b, hs_V u1] (hs_ob x0 6 [.ref h0, .ref k0, .ref i0, .ref w0, .ref r0, .ref t0, .ref p0] :: hs_ob h0 0 [.ref h1, hs_V n] :: hs_ia cI h1 40 g :: hs_hist cI cO k0 k1 ct Z) (fun r (_ : Unit) => r = hs_I (pu_sort a b u1 (n, g, ct, Z)).1) (fun _ => (hs_ob x0 6 [.ref h0, .ref k0, .ref i0, .ref w0, .ref r0, .ref t0, .ref p0] :: hs_ob h0 0 [.ref h1, hs_V (pu_sort a b u1 (n, g, ct, Z)).2.1] :: hs_ia cI h1 40 (pu_sort a b u1 (n, g, ct, Z)).2.2.1 :: hs_hist cI cO k0 k1 (pu_sort a b u1 (n, g, ct, Z)).2.2.2.1 (pu_sort a b u1 (n, g, ct, Z)).2.2.2.2)) 0 0 := by
  refine hs_enter (cc := cX6_sort) (maxL := 4) (by decide +kernel) rfl (Nat.le_of_ble_eq_true rfl) (fun p e s m args below meth c A H0 Q C hret => ?_)
  have f10 := C.1.2.2.2.2 (.fieldLink RX6 10 "HistogramStairs" "columns" "LHistogramStairs$Columns;") (by decide +kernel)
  have u6 : ∀ w ∈ wsX60, w ∈ wsX6_sort := by decide +kernel
  have f19 := C.1.2.2.2.2 (.fieldLink RX6 19 "HistogramStairs" "history" "LHistogramStairs$History;") (by decide +kernel)
  refine hs_lvs (lv' := [(0, .ref x0), (1, hs_V a), (2, hs_V b), (3, hs_V u1)]) [0, 1, 2, 3] rfl ?_
  refine hs_aload_n C dX6_sort_0 rfl 0 rfl ?_
  refine hs_get C u6 0 rfl rfl 0 (by decide) f10 rfl rfl dX6_sort_1 ?_
  refine hs_iload_n C dX6_sort_4 rfl 1 rfl ?_
  refine hs_iload_n C dX6_sort_5 rfl 2 rfl ?_
  refine hs_re (w := [hs_ob x0 6 [.ref h0, .ref k0, .ref i0, .ref w0, .ref r0, .ref t0, .ref p0], hs_ob h0 0 [.ref h1, hs_V n], hs_ia cI h1 40 g]) (w' := [hs_ob h0 0 [.ref h1, hs_V n], hs_ob x0 6 [.ref h0, .ref k0, .ref i0, .ref w0, .ref r0, .ref t0, .ref p0], hs_ia cI h1 40 g]) (wi := hs_hist cI cO k0 k1 ct Z) [1, 0, 2] rfl (by decide) ?_
  refine hs_callVi (win := [hs_ob h0 0 [.ref h1, hs_V n]]) (wr := (hs_ob x0 6 [.ref h0, .ref k0, .ref i0, .ref w0, .ref r0, .ref t0, .ref p0] :: hs_ia cI h1 40 g :: hs_hist cI cO k0 k1 ct Z)) (As := [hs_V a, hs_V b]) (rest := []) C (c_X0_hasRange l D cI cO h0 h1 n a b (by omega) (by omega) (by omega)) 0 0 rfl rfl rfl (cwV 2 C.1.2.2.2.2 gX6_sort_X0_hasRange rfl rfl rfl (by decide +kernel) ⟨Nat.le_of_ble_eq_true rfl, Nat.le_of_ble_eq_true rfl⟩) rfl rfl (Nat.le_of_ble_eq_true rfl) dX6_sort_6 ⟨Nat.le_of_ble_eq_true rfl, Nat.le_of_ble_eq_true rfl⟩ (fun rr uu1 hp => ?_)
  obtain rfl := hp
  refine hs_re (w := [hs_ob h0 0 [.ref h1, hs_V n], hs_ob x0 6 [.ref h0, .ref k0, .ref i0, .ref w0, .ref r0, .ref t0, .ref p0], hs_ia cI h1 40 g]) (w' := [hs_ob x0 6 [.ref h0, .ref k0, .ref i0, .ref w0, .ref r0, .ref t0, .ref p0], hs_ob h0 0 [.ref h1, hs_V n], hs_ia cI h1 40 g]) (wi := hs_hist cI cO k0 k1 ct Z) [1, 0, 2] rfl (by decide) ?_
  refine hs_ifeq_b (tgt := 21) C dX6_sort_9 (by decide) (fun c2 => ?_) (fun c2 => ?_)
  ·
    have hE : pu_sort a b u1 (n, g, ct, Z) = (-1, (n, g, ct, Z)) := by unfold pu_sort; dsimp only; rw [if_pos (by omega)]
    refine hs_iconst C dX6_sort_21 ?_
    refine hs_cast (ws' := (hs_ob x0 6 [.ref h0, .ref k0, .ref i0, .ref w0, .ref r0, .ref t0, .ref p0] :: hs_ob h0 0 [.ref h1, hs_V (pu_sort a b u1 (n, g, ct, Z)).2.1] :: hs_ia cI h1 40 (pu_sort a b u1 (n, g, ct, Z)).2.2.1 :: hs_hist cI cO k0 k1 (pu_sort a b u1 (n, g, ct, Z)).2.2.2.1 (pu_sort a b u1 (n, g, ct, Z)).2.2.2.2)) ?_ rfl rfl rfl (by rw [hE] <;> rfl)
    exact hret _ _ _ () (by rw [hE]) dX6_sort_22 rfl
  ·
    refine hs_iload_n C dX6_sort_12 rfl 3 rfl ?_
    refine hs_if_lt (tgt := 21) C dX6_sort_13 (by decide) (by omega) (fun c3 => ?_) (fun c3 => ?_)
    ·
      have hE : pu_sort a b u1 (n, g, ct, Z) = (-1, (n, g, ct, Z)) := by unfold pu_sort; dsimp only; rw [if_pos (by omega)]
      refine hs_iconst C dX6_sort_21 ?_
      refine hs_cast (ws' := (hs_ob x0 6 [.ref h0, .ref k0, .ref i0, .ref w0, .ref r0, .ref t0, .ref p0] :: hs_ob h0 0 [.ref h1, hs_V (pu_sort a b u1 (n, g, ct, Z)).2.1] :: hs_ia cI h1 40 (pu_sort a b u1 (n, g, ct, Z)).2.2.1 :: hs_hist cI cO k0 k1 (pu_sort a b u1 (n, g, ct, Z)).2.2.2.1 (pu_sort a b u1 (n, g, ct, Z)).2.2.2.2)) ?_ rfl rfl rfl (by rw [hE] <;> rfl)
      exact hret _ _ _ () (by rw [hE]) dX6_sort_22 rfl
    ·
      refine hs_iload_n C dX6_sort_16 rfl 3 rfl ?_
      refine hs_iconst C dX6_sort_17 ?_
      refine hs_icmp_le (tgt := 23) C dX6_sort_18 (by decide) (by omega) (by omega) (fun c4 => ?_) (fun c4 => ?_)
      ·
        refine hs_aload_n C dX6_sort_23 rfl 0 rfl ?_
        refine hs_get C u6 0 rfl rfl 1 (by decide) f19 rfl rfl dX6_sort_24 ?_
        refine hs_aload_n C dX6_sort_27 rfl 0 rfl ?_
        refine hs_get C u6 0 rfl rfl 0 (by decide) f10 rfl rfl dX6_sort_28 ?_
        refine hs_re (w := [hs_ob x0 6 [.ref h0, .ref k0, .ref i0, .ref w0, .ref r0, .ref t0, .ref p0], hs_ob h0 0 [.ref h1, hs_V n], hs_ia cI h1 40 g]) (w' := [hs_ob x0 6 [.ref h0, .ref k0, .ref i0, .ref w0, .ref r0, .ref t0, .ref p0], hs_ob h0 0 [.ref h1, hs_V n], hs_ia cI h1 40 g]) (wi := hs_hist cI cO k0 k1 ct Z) [0, 1, 2] rfl (by decide) ?_
        refine hs_swap (w1 := [hs_ob x0 6 [.ref h0, .ref k0, .ref i0, .ref w0, .ref r0, .ref t0, .ref p0]]) (w2 := (hs_ob h0 0 [.ref h1, hs_V n] :: hs_ia cI h1 40 g :: hs_hist cI cO k0 k1 ct Z)) ?_
        refine hs_callVv (win := (hs_ob h0 0 [.ref h1, hs_V n] :: hs_ia cI h1 40 g :: hs_hist cI cO k0 k1 ct Z)) (wr := [hs_ob x0 6 [.ref h0, .ref k0, .ref i0, .ref w0, .ref r0, .ref t0, .ref p0]]) (As := [.ref h0]) (rest := []) C (c_X1_remember l D cI cO k0 k1 ct Z h0 h1 n g (by omega) (by omega)) 1 2 rfl rfl rfl (cwV 1 C.1.2.2.2.2 gX6_sort_X1_remember rfl rfl rfl (by decide +kernel) ⟨Nat.le_of_ble_eq_true rfl, Nat.le_of_ble_eq_true rfl⟩) rfl rfl (Nat.le_of_ble_eq_true rfl) dX6_sort_31 ⟨Nat.le_of_ble_eq_true rfl, Nat.le_of_ble_eq_true rfl⟩ (fun uu5 hp => ?_)
        refine hs_swap (w1 := (hs_ob h0 0 [.ref h1, hs_V n] :: hs_ia cI h1 40 g :: hs_hist cI cO k0 k1 (pu_remC ct) (pu_remZ ct Z n g))) (w2 := [hs_ob x0 6 [.ref h0, .ref k0, .ref i0, .ref w0, .ref r0, .ref t0, .ref p0]]) ?_
        refine hs_re (w := [hs_ob x0 6 [.ref h0, .ref k0, .ref i0, .ref w0, .ref r0, .ref t0, .ref p0], hs_ob h0 0 [.ref h1, hs_V n], hs_ia cI h1 40 g]) (w' := [hs_ob x0 6 [.ref h0, .ref k0, .ref i0, .ref w0, .ref r0, .ref t0, .ref p0], hs_ob h0 0 [.ref h1, hs_V n], hs_ia cI h1 40 g]) (wi := hs_hist cI cO k0 k1 (pu_remC ct) (pu_remZ ct Z n g)) [0, 1, 2] rfl (by decide) ?_
        refine hs_aload_n C dX6_sort_34 rfl 0 rfl ?_
        refine hs_get C u6 0 rfl rfl 0 (by decide) f10 rfl rfl dX6_sort_35 ?_
        refine hs_iload_n C dX6_sort_38 rfl 1 rfl ?_
        refine hs_iload_n C dX6_sort_39 rfl 2 rfl ?_
        refine hs_iload_n C dX6_sort_40 rfl 3 rfl ?_
        refine hs_iconst C dX6_sort_41 ?_
        refine hs_icmp_ne (tgt := 49) C dX6_sort_42 (by decide) (by omega) (by omega) (fun c6 => ?_) (fun c6 => ?_)
        ·
          refine hs_iconst C dX6_sort_49 ?_
          have hu1 : u1 = 0 := by omega
          have hE : pu_sort a b u1 (n, g, ct, Z) = ((pu_arr g a b 0).1, n, (pu_arr g a b 0).2, pu_remC ct, pu_remZ ct Z n g) := by unfold pu_sort; dsimp only; rw [if_neg (by omega), hu1]
          refine hs_re (w := [hs_ob x0 6 [.ref h0, .ref k0, .ref i0, .ref w0, .ref r0, .ref t0, .ref p0], hs_ob h0 0 [.ref h1, hs_V n], hs_ia cI h1 40 g]) (w' := [hs_ob h0 0 [.ref h1, hs_V n], hs_ia cI h1 40 g, hs_ob x0 6 [.ref h0, .ref k0, .ref i0, .ref w0, .ref r0, .ref t0, .ref p0]]) (wi := hs_hist cI cO k0 k1 (pu_remC ct) (pu_remZ ct Z n g)) [1, 2, 0] rfl (by decide) ?_
          refine hs_callVi (win := [hs_ob h0 0 [.ref h1, hs_V n], hs_ia cI h1 40 g]) (wr := (hs_ob x0 6 [.ref h0, .ref k0, .ref i0, .ref w0, .ref r0, .ref t0, .ref p0] :: hs_hist cI cO k0 k1 (pu_remC ct) (pu_remZ ct Z n g))) (As := [hs_V a, hs_V b, hs_V 0]) (rest := []) C (c_X0_arrange l D cI cO h0 h1 n g a b 0 (by omega) hg (by omega) (by omega)) 0 0 rfl rfl rfl (cwV 3 C.1.2.2.2.2 gX6_sort_X0_arrange rfl rfl rfl (by decide +kernel) ⟨Nat.le_of_ble_eq_true rfl, Nat.le_of_ble_eq_true rfl⟩) rfl rfl (Nat.le_of_ble_eq_true rfl) dX6_sort_50 ⟨Nat.le_of_ble_eq_true rfl, Nat.le_of_ble_eq_true rfl⟩ (fun rr uu7 hp => ?_)
          obtain rfl := hp
          refine hs_re (w := [hs_ob h0 0 [.ref h1, hs_V n], hs_ia cI h1 40 (pu_arr g a b 0).2, hs_ob x0 6 [.ref h0, .ref k0, .ref i0, .ref w0, .ref r0, .ref t0, .ref p0]]) (w' := [hs_ob x0 6 [.ref h0, .ref k0, .ref i0, .ref w0, .ref r0, .ref t0, .ref p0], hs_ob h0 0 [.ref h1, hs_V n], hs_ia cI h1 40 (pu_arr g a b 0).2]) (wi := hs_hist cI cO k0 k1 (pu_remC ct) (pu_remZ ct Z n g)) [2, 0, 1] rfl (by decide) ?_
          refine hs_cast (ws' := (hs_ob x0 6 [.ref h0, .ref k0, .ref i0, .ref w0, .ref r0, .ref t0, .ref p0] :: hs_ob h0 0 [.ref h1, hs_V (pu_sort a b u1 (n, g, ct, Z)).2.1] :: hs_ia cI h1 40 (pu_sort a b u1 (n, g, ct, Z)).2.2.1 :: hs_hist cI cO k0 k1 (pu_sort a b u1 (n, g, ct, Z)).2.2.2.1 (pu_sort a b u1 (n, g, ct, Z)).2.2.2.2)) ?_ rfl rfl rfl (by rw [hE] <;> rfl)
          exact hret _ _ _ () (by rw [hE]) dX6_sort_53 rfl
        ·
          refine hs_iconst C dX6_sort_45 ?_
          refine hs_goto (tgt := 50) C dX6_sort_46 (by decide) ?_
          have hu1 : u1 = 1 := by omega
          have hE : pu_sort a b u1 (n, g, ct, Z) = ((pu_arr g a b 1).1, n, (pu_arr g a b 1).2, pu_remC ct, pu_remZ ct Z n g) := by unfold pu_sort; dsimp only; rw [if_neg (by omega), hu1]
          refine hs_re (w := [hs_ob x0 6 [.ref h0, .ref k0, .ref i0, .ref w0, .ref r0, .ref t0, .ref p0], hs_ob h0 0 [.ref h1, hs_V n], hs_ia cI h1 40 g]) (w' := [hs_ob h0 0 [.ref h1, hs_V n], hs_ia cI h1 40 g, hs_ob x0 6 [.ref h0, .ref k0, .ref i0, .ref w0, .ref r0, .ref t0, .ref p0]]) (wi := hs_hist cI cO k0 k1 (pu_remC ct) (pu_remZ ct Z n g)) [1, 2, 0] rfl (by decide) ?_
          refine hs_callVi (win := [hs_ob h0 0 [.ref h1, hs_V n], hs_ia cI h1 40 g]) (wr := (hs_ob x0 6 [.ref h0, .ref k0, .ref i0, .ref w0, .ref r0, .ref t0, .ref p0] :: hs_hist cI cO k0 k1 (pu_remC ct) (pu_remZ ct Z n g))) (As := [hs_V a, hs_V b, hs_V 1]) (rest := []) C (c_X0_arrange l D cI cO h0 h1 n g a b 1 (by omega) hg (by omega) (by omega)) 0 0 rfl rfl rfl (cwV 3 C.1.2.2.2.2 gX6_sort_X0_arrange rfl rfl rfl (by decide +kernel) ⟨Nat.le_of_ble_eq_true rfl, Nat.le_of_ble_eq_true rfl⟩) rfl rfl (Nat.le_of_ble_eq_true rfl) dX6_sort_50 ⟨Nat.le_of_ble_eq_true rfl, Nat.le_of_ble_eq_true rfl⟩ (fun rr uu8 hp => ?_)
          obtain rfl := hp
          refine hs_re (w := [hs_ob h0 0 [.ref h1, hs_V n], hs_ia cI h1 40 (pu_arr g a b 1).2, hs_ob x0 6 [.ref h0, .ref k0, .ref i0, .ref w0, .ref r0, .ref t0, .ref p0]]) (w' := [hs_ob x0 6 [.ref h0, .ref k0, .ref i0, .ref w0, .ref r0, .ref t0, .ref p0], hs_ob h0 0 [.ref h1, hs_V n], hs_ia cI h1 40 (pu_arr g a b 1).2]) (wi := hs_hist cI cO k0 k1 (pu_remC ct) (pu_remZ ct Z n g)) [2, 0, 1] rfl (by decide) ?_
          refine hs_cast (ws' := (hs_ob x0 6 [.ref h0, .ref k0, .ref i0, .ref w0, .ref r0, .ref t0, .ref p0] :: hs_ob h0 0 [.ref h1, hs_V (pu_sort a b u1 (n, g, ct, Z)).2.1] :: hs_ia cI h1 40 (pu_sort a b u1 (n, g, ct, Z)).2.2.1 :: hs_hist cI cO k0 k1 (pu_sort a b u1 (n, g, ct, Z)).2.2.2.1 (pu_sort a b u1 (n, g, ct, Z)).2.2.2.2)) ?_ rfl rfl rfl (by rw [hE] <;> rfl)
          exact hret _ _ _ () (by rw [hE]) dX6_sort_53 rfl
      ·
        have hE : pu_sort a b u1 (n, g, ct, Z) = (-1, (n, g, ct, Z)) := by unfold pu_sort; dsimp only; rw [if_pos (by omega)]
        refine hs_iconst C dX6_sort_21 ?_
        refine hs_cast (ws' := (hs_ob x0 6 [.ref h0, .ref k0, .ref i0, .ref w0, .ref r0, .ref t0, .ref p0] :: hs_ob h0 0 [.ref h1, hs_V (pu_sort a b u1 (n, g, ct, Z)).2.1] :: hs_ia cI h1 40 (pu_sort a b u1 (n, g, ct, Z)).2.2.1 :: hs_hist cI cO k0 k1 (pu_sort a b u1 (n, g, ct, Z)).2.2.2.1 (pu_sort a b u1 (n, g, ct, Z)).2.2.2.2)) ?_ rfl rfl rfl (by rw [hE] <;> rfl)
        exact hret _ _ _ () (by rw [hE]) dX6_sort_22 rfl

set_option maxHeartbeats 4000000 in
set_option maxRecDepth 100000 in
theorem c_X6_clear (l : Launch) (D : va_G) (cI cO : ClassId) (x0 : Nat) (h0 : Nat) (k0 : Nat) (i0 : Nat) (w0 : Nat) (r0 : Nat) (t0 : Nat) (p0 : Nat) (h1 : Nat) (n : Int) (g : Int → Int) (k1 : Nat) (ct : Int) (Z : Int → pu_Z) (hn : 0 ≤ n ∧ n ≤ 40) (hg : ∀ k, 0 ≤ g k ∧ g k ≤ 50) (hct : 0 ≤ ct ∧ ct ≤ 8) : hs_M l D cI cO yX6_clear wsX6_clear ({ frames := 3, cells := 0, slots := 0, locals := 69 } : Room) [.ref x0] (hs_ob x0 6 [.ref h0, .ref k0, .ref i0, .ref w0, .ref r0, .ref t0, .ref p0] :: hs_ob h0 0 [.ref h1, hs_V n] :: hs_ia cI h1 40 g :: hs_hist cI cO k0 k1 ct Z) (fun r (_ : Unit) => r = hs_I (pu_clear (n, g, ct, Z)).1) (fun _ => (hs_ob x0 6 [.ref h0, .ref k0, .ref i0, .ref w0, .ref r0, .ref t0, .ref p0] :: hs_ob h0 0 [.ref h1, hs_V (pu_clear (n, g, ct, Z)).2.1] :: hs_ia cI h1 40 (pu_clear (n, g, ct, Z)).2.2.1 :: hs_hist cI cO k0 k1 (pu_clear (n, g, ct, Z)).2.2.2.1 (pu_clear (n, g, ct, Z)).2.2.2.2)) 0 0 := by
  refine hs_enter (cc := cX6_clear) (maxL := 2) (by decide +kernel) rfl (Nat.le_of_ble_eq_true rfl) (fun p e s m args below meth c A H0 Q C hret => ?_)
  have f19 := C.1.2.2.2.2 (.fieldLink RX6 19 "HistogramStairs" "history" "LHistogramStairs$History;") (by decide +kernel)
  have u6 : ∀ w ∈ wsX60, w ∈ wsX6_clear := by decide +kernel
  have f10 := C.1.2.2.2.2 (.fieldLink RX6 10 "HistogramStairs" "columns" "LHistogramStairs$Columns;") (by decide +kernel)
  have f55 : (Cond.fieldLinkNest RX6 55 RX0 "size" "I" RX6).before args s = true := va_Nw.use (A := args) rfl (C.2.2.1.1 (RX6, 55, RX0, "size", "I") (by decide +kernel))
  have u0 : ∀ w ∈ wsX00, w ∈ wsX6_clear := by decide +kernel
  refine hs_lvs (lv' := [(0, .ref x0)]) [0] rfl ?_
  refine hs_aload_n C dX6_clear_0 rfl 0 rfl ?_
  refine hs_get C u6 0 rfl rfl 1 (by decide) f19 rfl rfl dX6_clear_1 ?_
  refine hs_aload_n C dX6_clear_4 rfl 0 rfl ?_
  refine hs_get C u6 0 rfl rfl 0 (by decide) f10 rfl rfl dX6_clear_5 ?_
  refine hs_re (w := [hs_ob x0 6 [.ref h0, .ref k0, .ref i0, .ref w0, .ref r0, .ref t0, .ref p0], hs_ob h0 0 [.ref h1, hs_V n], hs_ia cI h1 40 g]) (w' := [hs_ob x0 6 [.ref h0, .ref k0, .ref i0, .ref w0, .ref r0, .ref t0, .ref p0], hs_ob h0 0 [.ref h1, hs_V n], hs_ia cI h1 40 g]) (wi := hs_hist cI cO k0 k1 ct Z) [0, 1, 2] rfl (by decide) ?_
  refine hs_swap (w1 := [hs_ob x0 6 [.ref h0, .ref k0, .ref i0, .ref w0, .ref r0, .ref t0, .ref p0]]) (w2 := (hs_ob h0 0 [.ref h1, hs_V n] :: hs_ia cI h1 40 g :: hs_hist cI cO k0 k1 ct Z)) ?_
  refine hs_callVv (win := (hs_ob h0 0 [.ref h1, hs_V n] :: hs_ia cI h1 40 g :: hs_hist cI cO k0 k1 ct Z)) (wr := [hs_ob x0 6 [.ref h0, .ref k0, .ref i0, .ref w0, .ref r0, .ref t0, .ref p0]]) (As := [.ref h0]) (rest := []) C (c_X1_remember l D cI cO k0 k1 ct Z h0 h1 n g (by omega) (by omega)) 1 2 rfl rfl rfl (cwV 1 C.1.2.2.2.2 gX6_clear_X1_remember rfl rfl rfl (by decide +kernel) ⟨Nat.le_of_ble_eq_true rfl, Nat.le_of_ble_eq_true rfl⟩) rfl rfl (Nat.le_of_ble_eq_true rfl) dX6_clear_8 ⟨Nat.le_of_ble_eq_true rfl, Nat.le_of_ble_eq_true rfl⟩ (fun uu1 hp => ?_)
  refine hs_swap (w1 := (hs_ob h0 0 [.ref h1, hs_V n] :: hs_ia cI h1 40 g :: hs_hist cI cO k0 k1 (pu_remC ct) (pu_remZ ct Z n g))) (w2 := [hs_ob x0 6 [.ref h0, .ref k0, .ref i0, .ref w0, .ref r0, .ref t0, .ref p0]]) ?_
  refine hs_re (w := [hs_ob x0 6 [.ref h0, .ref k0, .ref i0, .ref w0, .ref r0, .ref t0, .ref p0], hs_ob h0 0 [.ref h1, hs_V n], hs_ia cI h1 40 g]) (w' := [hs_ob x0 6 [.ref h0, .ref k0, .ref i0, .ref w0, .ref r0, .ref t0, .ref p0], hs_ob h0 0 [.ref h1, hs_V n], hs_ia cI h1 40 g]) (wi := hs_hist cI cO k0 k1 (pu_remC ct) (pu_remZ ct Z n g)) [0, 1, 2] rfl (by decide) ?_
  refine hs_aload_n C dX6_clear_11 rfl 0 rfl ?_
  refine hs_get C u6 0 rfl rfl 0 (by decide) f10 rfl rfl dX6_clear_12 ?_
  refine hs_getN C u0 1 rfl rfl 1 (by decide) f55 rfl rfl dX6_clear_15 ?_
  refine hs_istore_n (lv' := [(0, .ref x0), (1, hs_V n)]) C dX6_clear_18 rfl (by decide) [1, 0] rfl ?_
  refine hs_aload_n C dX6_clear_19 rfl 0 rfl ?_
  refine hs_get C u6 0 rfl rfl 0 (by decide) f10 rfl rfl dX6_clear_20 ?_
  refine hs_iconst C dX6_clear_23 ?_
  refine hs_putN (ty := .int) (ws' := (hs_ob x0 6 [.ref h0, .ref k0, .ref i0, .ref w0, .ref r0, .ref t0, .ref p0] :: hs_ob h0 0 [.ref h1, hs_V 0] :: hs_ia cI h1 40 g :: hs_hist cI cO k0 k1 (pu_remC ct) (pu_remZ ct Z n g))) C u0 tyX0 tyX0_ok nmX0 1 rfl rfl 1 (by decide) f55 rfl rfl (by decide +kernel) rfl rfl (Nat.le_of_ble_eq_true rfl) rfl dX6_clear_24 ?_
  have hE : pu_clear (n, g, ct, Z) = (n, 0, g, pu_remC ct, pu_remZ ct Z n g) := by unfold pu_clear; dsimp only; (try rfl)
  refine hs_iload_n C dX6_clear_27 rfl 1 rfl ?_
  refine hs_cast (ws' := (hs_ob x0 6 [.ref h0, .ref k0, .ref i0, .ref w0, .ref r0, .ref t0, .ref p0] :: hs_ob h0 0 [.ref h1, hs_V (pu_clear (n, g, ct, Z)).2.1] :: hs_ia cI h1 40 (pu_clear (n, g, ct, Z)).2.2.1 :: hs_hist cI cO k0 k1 (pu_clear (n, g, ct, Z)).2.2.2.1 (pu_clear (n, g, ct, Z)).2.2.2.2)) ?_ rfl rfl rfl (by rw [hE] <;> rfl)
  exact hret _ _ _ () (by rw [hE]) dX6_clear_28 rfl

set_option maxHeartbeats 4000000 in
set_option maxRecDepth 100000 in
theorem c_X6_undo (l : Launch) (D : va_G) (cI cO : ClassId) (x0 : Nat) (h0 : Nat) (k0 : Nat) (i0 : Nat) (w0 : Nat) (r0 : Nat) (t0 : Nat) (p0 : Nat) (h1 : Nat) (n : Int) (g : Int → Int) (k1 : Nat) (ct : Int) (Z : Int → pu_Z) (hn : 0 ≤ n ∧ n ≤ 40) (hg : ∀ k, 0 ≤ g k ∧ g k ≤ 50) (hct : 0 ≤ ct ∧ ct ≤ 8) (hZ : ∀ j, 0 ≤ (Z j).2.2.1 ∧ (Z j).2.2.1 ≤ 40) : hs_M l D cI cO yX6_undo wsX6_undo ({ frames := 3, cells := 0, slots := 0, locals := 68 } : Room) [.ref x0] (hs_ob x0 6 [.ref h0, .ref k0, .ref i0, .ref w0, .ref r0, .ref t0, .ref p0] :: hs_ob h0 0 [.ref h1, hs_V n] :: hs_ia cI h1 40 g :: hs_hist cI cO k0 k1 ct Z) (fun r (_ : Unit) => r = hs_I (pu_undo (n, g, ct, Z)).1) (fun _ => (hs_ob x0 6 [.ref h0, .ref k0, .ref i0, .ref w0, .ref r0, .ref t0, .ref p0] :: hs_ob h0 0 [.ref h1, hs_V (pu_undo (n, g, ct, Z)).2.1] :: hs_ia cI h1 40 (pu_undo (n, g, ct, Z)).2.2.1 :: hs_hist cI cO k0 k1 (pu_undo (n, g, ct, Z)).2.2.2.1 (pu_undo (n, g, ct, Z)).2.2.2.2)) 0 0 := by
  refine hs_enter (cc := cX6_undo) (maxL := 1) (by decide +kernel) rfl (Nat.le_of_ble_eq_true rfl) (fun p e s m args below meth c A H0 Q C hret => ?_)
  have f19 := C.1.2.2.2.2 (.fieldLink RX6 19 "HistogramStairs" "history" "LHistogramStairs$History;") (by decide +kernel)
  have u6 : ∀ w ∈ wsX60, w ∈ wsX6_undo := by decide +kernel
  have f105 : (Cond.fieldLinkNest RX6 105 RX1 "count" "I" RX6).before args s = true := va_Nw.use (A := args) rfl (C.2.2.1.1 (RX6, 105, RX1, "count", "I") (by decide +kernel))
  have u1 : ∀ w ∈ wsX10, w ∈ wsX6_undo := by decide +kernel
  have f10 := C.1.2.2.2.2 (.fieldLink RX6 10 "HistogramStairs" "columns" "LHistogramStairs$Columns;") (by decide +kernel)
  refine hs_lvs (lv' := [(0, .ref x0)]) [0] rfl ?_
  refine hs_aload_n C dX6_undo_0 rfl 0 rfl ?_
  refine hs_get C u6 0 rfl rfl 1 (by decide) f19 rfl rfl dX6_undo_1 ?_
  refine hs_getN C u1 3 rfl rfl 1 (by decide) f105 rfl rfl dX6_undo_4 ?_
  refine hs_if_ne (tgt := 13) C dX6_undo_7 (by decide) (by omega) (fun c1 => ?_) (fun c1 => ?_)
  ·
    refine hs_aload_n C dX6_undo_13 rfl 0 rfl ?_
    refine hs_get C u6 0 rfl rfl 1 (by decide) f19 rfl rfl dX6_undo_14 ?_
    refine hs_aload_n C dX6_undo_17 rfl 0 rfl ?_
    refine hs_get C u6 0 rfl rfl 0 (by decide) f10 rfl rfl dX6_undo_18 ?_
    refine hs_re (w := [hs_ob x0 6 [.ref h0, .ref k0, .ref i0, .ref w0, .ref r0, .ref t0, .ref p0], hs_ob h0 0 [.ref h1, hs_V n], hs_ia cI h1 40 g]) (w' := [hs_ob x0 6 [.ref h0, .ref k0, .ref i0, .ref w0, .ref r0, .ref t0, .ref p0], hs_ob h0 0 [.ref h1, hs_V n], hs_ia cI h1 40 g]) (wi := hs_hist cI cO k0 k1 ct Z) [0, 1, 2] rfl (by decide) ?_
    refine hs_swap (w1 := [hs_ob x0 6 [.ref h0, .ref k0, .ref i0, .ref w0, .ref r0, .ref t0, .ref p0]]) (w2 := (hs_ob h0 0 [.ref h1, hs_V n] :: hs_ia cI h1 40 g :: hs_hist cI cO k0 k1 ct Z)) ?_
    refine hs_callVv (win := (hs_ob h0 0 [.ref h1, hs_V n] :: hs_ia cI h1 40 g :: hs_hist cI cO k0 k1 ct Z)) (wr := [hs_ob x0 6 [.ref h0, .ref k0, .ref i0, .ref w0, .ref r0, .ref t0, .ref p0]]) (As := [.ref h0]) (rest := []) C (c_X1_restore l D cI cO k0 k1 ct Z h0 h1 n g (by omega) (by omega) (hZ)) 1 2 rfl rfl rfl (cwV 1 C.1.2.2.2.2 gX6_undo_X1_restore rfl rfl rfl (by decide +kernel) ⟨Nat.le_of_ble_eq_true rfl, Nat.le_of_ble_eq_true rfl⟩) rfl rfl (Nat.le_of_ble_eq_true rfl) dX6_undo_21 ⟨Nat.le_of_ble_eq_true rfl, Nat.le_of_ble_eq_true rfl⟩ (fun uu2 hp => ?_)
    refine hs_swap (w1 := (hs_ob h0 0 [.ref h1, hs_V (Z (ct - 1)).2.2.1] :: hs_ia cI h1 40 (hs_cp (Z (ct - 1)).2.2.2 g 0 0 (Z (ct - 1)).2.2.1) :: hs_hist cI cO k0 k1 (ct - 1) Z)) (w2 := [hs_ob x0 6 [.ref h0, .ref k0, .ref i0, .ref w0, .ref r0, .ref t0, .ref p0]]) ?_
    refine hs_re (w := [hs_ob x0 6 [.ref h0, .ref k0, .ref i0, .ref w0, .ref r0, .ref t0, .ref p0], hs_ob h0 0 [.ref h1, hs_V (Z (ct - 1)).2.2.1], hs_ia cI h1 40 (hs_cp (Z (ct - 1)).2.2.2 g 0 0 (Z (ct - 1)).2.2.1)]) (w' := [hs_ob x0 6 [.ref h0, .ref k0, .ref i0, .ref w0, .ref r0, .ref t0, .ref p0], hs_ob h0 0 [.ref h1, hs_V (Z (ct - 1)).2.2.1], hs_ia cI h1 40 (hs_cp (Z (ct - 1)).2.2.2 g 0 0 (Z (ct - 1)).2.2.1)]) (wi := hs_hist cI cO k0 k1 (ct - 1) Z) [0, 1, 2] rfl (by decide) ?_
    have hE : pu_undo (n, g, ct, Z) = (ct - 1, (Z (ct - 1)).2.2.1, hs_cp (Z (ct - 1)).2.2.2 g 0 0 (Z (ct - 1)).2.2.1, ct - 1, Z) := by unfold pu_undo; dsimp only; rw [if_neg (by omega)]
    refine hs_aload_n C dX6_undo_24 rfl 0 rfl ?_
    refine hs_get C u6 0 rfl rfl 1 (by decide) f19 rfl rfl dX6_undo_25 ?_
    refine hs_getN C u1 3 rfl rfl 1 (by decide) f105 rfl rfl dX6_undo_28 ?_
    refine hs_cast (ws' := (hs_ob x0 6 [.ref h0, .ref k0, .ref i0, .ref w0, .ref r0, .ref t0, .ref p0] :: hs_ob h0 0 [.ref h1, hs_V (pu_undo (n, g, ct, Z)).2.1] :: hs_ia cI h1 40 (pu_undo (n, g, ct, Z)).2.2.1 :: hs_hist cI cO k0 k1 (pu_undo (n, g, ct, Z)).2.2.2.1 (pu_undo (n, g, ct, Z)).2.2.2.2)) ?_ rfl rfl rfl (by rw [hE] <;> rfl)
    exact hret _ _ _ () (by rw [hE]) dX6_undo_31 rfl
  ·
    have hE : pu_undo (n, g, ct, Z) = (-2, (n, g, ct, Z)) := by unfold pu_undo; dsimp only; rw [if_pos (by omega)]
    refine hs_bipush C dX6_undo_10 (by decide) ?_
    refine hs_cast (ws' := (hs_ob x0 6 [.ref h0, .ref k0, .ref i0, .ref w0, .ref r0, .ref t0, .ref p0] :: hs_ob h0 0 [.ref h1, hs_V (pu_undo (n, g, ct, Z)).2.1] :: hs_ia cI h1 40 (pu_undo (n, g, ct, Z)).2.2.1 :: hs_hist cI cO k0 k1 (pu_undo (n, g, ct, Z)).2.2.2.1 (pu_undo (n, g, ct, Z)).2.2.2.2)) ?_ rfl rfl rfl (by rw [hE] <;> rfl)
    exact hret _ _ _ () (by rw [hE]) dX6_undo_12 rfl
