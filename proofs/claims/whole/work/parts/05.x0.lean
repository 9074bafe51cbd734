set_option maxHeartbeats 4000000 in
set_option maxRecDepth 100000 in
theorem c_X6_sumOf (l : Launch) (D : va_G) (cI cO : ClassId) (h1 : Nat) (g : Int → Int) (a : Int) (b : Int) (hab : 0 ≤ a ∧ b ≤ 39 ∧ a ≤ 40 ∧ -1 ≤ b) : hs_M l D cI cO yX6_sumOf wsX6_sumOf ({ frames := 0, cells := 0, slots := 0, locals := 0 } : Room) [.ref h1, hs_V a, hs_V b] [hs_ia cI h1 40 g] (fun r (_ : Unit) => r = hs_I (pu_sum g a b)) (fun _ => [hs_ia cI h1 40 g]) 0 0 := by
  refine hs_enter (cc := cX6_sumOf) (maxL := 5) (by decide +kernel) rfl (Nat.le_of_ble_eq_true rfl) (fun p e s m args below meth c A H0 Q C hret => ?_)
  refine hs_lvs (lv' := [(0, .ref h1), (1, hs_V a), (2, hs_V b)]) [0, 1, 2] rfl ?_
  refine hs_iconst C dX6_sumOf_0 ?_
  refine hs_istore_n (lv' := [(0, .ref h1), (1, hs_V a), (2, hs_V b), (3, hs_V 0)]) C dX6_sumOf_1 rfl (by decide) [1, 2, 3, 0] rfl ?_
  refine hs_iload_n C dX6_sumOf_2 rfl 1 rfl ?_
  refine hs_istore (lv' := [(0, .ref h1), (1, hs_V a), (2, hs_V b), (3, hs_V 0), (4, hs_V a)]) C dX6_sumOf_3 (by decide) [1, 2, 3, 4, 0] rfl ?_
  have Lp1 : ∀ (k : Nat) (i : Int) (x : Int), (a ≤ i ∧ i ≤ 40) → (hs_up (fun i x => x + g i) i (b + 1) x = pu_sum g a b) → (41 - i < (k : Int)) → hs_J p l e ({ frames := 0, cells := 0, slots := 0, locals := 0 } : Room) s m args below meth c D A H0 5 0 0 Q 5 [(0, .ref h1), (1, hs_V a), (2, hs_V b), (3, hs_V x), (4, hs_V i)] [] [hs_ia cI h1 40 g] := by
    intro k
    induction k with
    | zero =>
      intro i x hi hL hk
      exact absurd hk (by omega)
    | succ k ih =>
      intro i x hi hL hk
      have ih2 := ih
      refine hs_iload C dX6_sumOf_5 4 rfl ?_
      refine hs_iload_n C dX6_sumOf_7 rfl 2 rfl ?_
      refine hs_icmp_gt (tgt := 24) C dX6_sumOf_8 (by decide) (by omega) (by omega) (fun c3 => ?_) (fun c3 => ?_)
      ·
        refine hs_iload_n C dX6_sumOf_24 rfl 3 rfl ?_
        exact hret _ _ _ () (by rw [← hL, hs_up_done (by omega)]) dX6_sumOf_25 rfl
      ·
        refine hs_iload_n C dX6_sumOf_11 rfl 3 rfl ?_
        refine hs_aload_n C dX6_sumOf_12 rfl 0 rfl ?_
        refine hs_iload C dX6_sumOf_13 4 rfl ?_
        refine hs_iald C 0 rfl (by omega) dX6_sumOf_15 ?_
        refine hs_iadd C dX6_sumOf_16 ?_
        refine hs_istore_n (lv' := [(0, .ref h1), (1, hs_V a), (2, hs_V b), (3, hs_V (x + (g i))), (4, hs_V i)]) C dX6_sumOf_17 rfl (by decide) [1, 2, 3, 0, 4] rfl ?_
        refine hs_iinc (lv' := [(0, .ref h1), (1, hs_V a), (2, hs_V b), (3, hs_V (x + (g i))), (4, hs_V (i + 1))]) C dX6_sumOf_18 4 rfl (by decide) [1, 2, 3, 4, 0] rfl ?_
        refine hs_goto (tgt := 5) C dX6_sumOf_21 (by decide) ?_
        exact ih2 (i + 1) (x + (g i)) (by omega) (by have hz := (hs_up_step (by omega)).symm.trans hL; (try dsimp only at hz); first | exact hz | (split at hz <;> first | exact hz | (exfalso; omega) | (split at hz <;> first | exact hz | (exfalso; omega) | (split at hz <;> first | exact hz | (exfalso; omega))))) (by omega)
  exact Lp1 ((41 - a : Int).toNat + 1) a 0 (by omega) (rfl) (by omega)

set_option maxHeartbeats 4000000 in
set_option maxRecDepth 100000 in
theorem c_X6_lowestLeast (l : Launch) (D : va_G) (cI cO : ClassId) (h1 : Nat) (g : Int → Int) (a : Int) (b : Int) (hab : 0 ≤ a ∧ b ≤ 39 ∧ a ≤ b) (hg : ∀ k, -50 ≤ g k ∧ g k ≤ 50) : hs_M l D cI cO yX6_lowestLeast wsX6_lowestLeast ({ frames := 0, cells := 0, slots := 0, locals := 0 } : Room) [.ref h1, hs_V a, hs_V b] [hs_ia cI h1 40 g] (fun r (_ : Unit) => r = hs_I (pu_ll g a b)) (fun _ => [hs_ia cI h1 40 g]) 0 0 := by
  refine hs_enter (cc := cX6_lowestLeast) (maxL := 5) (by decide +kernel) rfl (Nat.le_of_ble_eq_true rfl) (fun p e s m args below meth c A H0 Q C hret => ?_)
  refine hs_lvs (lv' := [(0, .ref h1), (1, hs_V a), (2, hs_V b)]) [0, 1, 2] rfl ?_
  refine hs_iload_n C dX6_lowestLeast_0 rfl 1 rfl ?_
  refine hs_istore_n (lv' := [(0, .ref h1), (1, hs_V a), (2, hs_V b), (3, hs_V a)]) C dX6_lowestLeast_1 rfl (by decide) [1, 2, 3, 0] rfl ?_
  refine hs_iload_n C dX6_lowestLeast_2 rfl 1 rfl ?_
  refine hs_iconst C dX6_lowestLeast_3 ?_
  refine hs_iadd C dX6_lowestLeast_4 ?_
  refine hs_istore (lv' := [(0, .ref h1), (1, hs_V a), (2, hs_V b), (3, hs_V a), (4, hs_V (a + 1))]) C dX6_lowestLeast_5 (by decide) [1, 2, 3, 4, 0] rfl ?_
  have Lp1 : ∀ (k : Nat) (i : Int) (x : Int), (a + 1 ≤ i ∧ i ≤ b + 1) → (a ≤ x ∧ x < i) → (hs_up (fun i x => if g i < g x then i else x) i (b + 1) x = pu_ll g a b) → (b + 1 - i < (k : Int)) → hs_J p l e ({ frames := 0, cells := 0, slots := 0, locals := 0 } : Room) s m args below meth c D A H0 5 0 0 Q 7 [(0, .ref h1), (1, hs_V a), (2, hs_V b), (3, hs_V x), (4, hs_V i)] [] [hs_ia cI h1 40 g] := by
    intro k
    induction k with
    | zero =>
      intro i x hi hx hL hk
      exact absurd hk (by omega)
    | succ k ih =>
      intro i x hi hx hL hk
      have ih2 := ih
      refine hs_iload C dX6_lowestLeast_7 4 rfl ?_
      refine hs_iload_n C dX6_lowestLeast_9 rfl 2 rfl ?_
      refine hs_icmp_gt (tgt := 32) C dX6_lowestLeast_10 (by decide) (by omega) (by omega) (fun c3 => ?_) (fun c3 => ?_)
      ·
        refine hs_iload_n C dX6_lowestLeast_32 rfl 3 rfl ?_
        exact hret _ _ _ () (by rw [← hL, hs_up_done (by omega)]) dX6_lowestLeast_33 rfl
      ·
        refine hs_aload_n C dX6_lowestLeast_13 rfl 0 rfl ?_
        refine hs_iload C dX6_lowestLeast_14 4 rfl ?_
        refine hs_iald C 0 rfl (by omega) dX6_lowestLeast_16 ?_
        have b4 := hg i
        refine hs_aload_n C dX6_lowestLeast_17 rfl 0 rfl ?_
        refine hs_iload_n C dX6_lowestLeast_18 rfl 3 rfl ?_
        refine hs_iald C 0 rfl (by omega) dX6_lowestLeast_19 ?_
        have b5 := hg x
        refine hs_icmp_ge (tgt := 26) C dX6_lowestLeast_20 (by decide) (by omega) (by omega) (fun c6 => ?_) (fun c6 => ?_)
        ·
          refine hs_iinc (lv' := [(0, .ref h1), (1, hs_V a), (2, hs_V b), (3, hs_V x), (4, hs_V (i + 1))]) C dX6_lowestLeast_26 4 rfl (by decide) [1, 2, 3, 4, 0] rfl ?_
          refine hs_goto (tgt := 7) C dX6_lowestLeast_29 (by decide) ?_
          exact ih2 (i + 1) x (by omega) (by omega) (by have hz := (hs_up_step (by omega)).symm.trans hL; (try dsimp only at hz); first | exact hz | (split at hz <;> first | exact hz | (exfalso; omega) | (split at hz <;> first | exact hz | (exfalso; omega) | (split at hz <;> first | exact hz | (exfalso; omega))))) (by omega)
        ·
          refine hs_iload C dX6_lowestLeast_23 4 rfl ?_
          refine hs_istore_n (lv' := [(0, .ref h1), (1, hs_V a), (2, hs_V b), (3, hs_V i), (4, hs_V i)]) C dX6_lowestLeast_25 rfl (by decide) [1, 2, 3, 0, 4] rfl ?_
          refine hs_iinc (lv' := [(0, .ref h1), (1, hs_V a), (2, hs_V b), (3, hs_V i), (4, hs_V (i + 1))]) C dX6_lowestLeast_26 4 rfl (by decide) [1, 2, 3, 4, 0] rfl ?_
          refine hs_goto (tgt := 7) C dX6_lowestLeast_29 (by decide) ?_
          exact ih2 (i + 1) i (by omega) (by omega) (by have hz := (hs_up_step (by omega)).symm.trans hL; (try dsimp only at hz); first | exact hz | (split at hz <;> first | exact hz | (exfalso; omega) | (split at hz <;> first | exact hz | (exfalso; omega) | (split at hz <;> first | exact hz | (exfalso; omega))))) (by omega)
  exact Lp1 ((b + 1 - (a + 1) : Int).toNat + 1) (a + 1) a (by omega) (by omega) (rfl) (by omega)

set_option maxHeartbeats 4000000 in
set_option maxRecDepth 100000 in
theorem c_X6_lowestGreatest (l : Launch) (D : va_G) (cI cO : ClassId) (h1 : Nat) (g : Int → Int) (a : Int) (b : Int) (hab : 0 ≤ a ∧ b ≤ 39 ∧ a ≤ b) (hg : ∀ k, -50 ≤ g k ∧ g k ≤ 50) : hs_M l D cI cO yX6_lowestGreatest wsX6_lowestGreatest ({ frames := 0, cells := 0, slots := 0, locals := 0 } : Room) [.ref h1, hs_V a, hs_V b] [hs_ia cI h1 40 g] (fun r (_ : Unit) => r = hs_I (pu_lg g a b)) (fun _ => [hs_ia cI h1 40 g]) 0 0 := by
  refine hs_enter (cc := cX6_lowestGreatest) (maxL := 5) (by decide +kernel) rfl (Nat.le_of_ble_eq_true rfl) (fun p e s m args below meth c A H0 Q C hret => ?_)
  refine hs_lvs (lv' := [(0, .ref h1), (1, hs_V a), (2, hs_V b)]) [0, 1, 2] rfl ?_
  refine hs_iload_n C dX6_lowestGreatest_0 rfl 1 rfl ?_
  refine hs_istore_n (lv' := [(0, .ref h1), (1, hs_V a), (2, hs_V b), (3, hs_V a)]) C dX6_lowestGreatest_1 rfl (by decide) [1, 2, 3, 0] rfl ?_
  refine hs_iload_n C dX6_lowestGreatest_2 rfl 1 rfl ?_
  refine hs_iconst C dX6_lowestGreatest_3 ?_
  refine hs_iadd C dX6_lowestGreatest_4 ?_
  refine hs_istore (lv' := [(0, .ref h1), (1, hs_V a), (2, hs_V b), (3, hs_V a), (4, hs_V (a + 1))]) C dX6_lowestGreatest_5 (by decide) [1, 2, 3, 4, 0] rfl ?_
  have Lp1 : ∀ (k : Nat) (i : Int) (x : Int), (a + 1 ≤ i ∧ i ≤ b + 1) → (a ≤ x ∧ x < i) → (hs_up (fun i x => if g i > g x then i else x) i (b + 1) x = pu_lg g a b) → (b + 1 - i < (k : Int)) → hs_J p l e ({ frames := 0, cells := 0, slots := 0, locals := 0 } : Room) s m args below meth c D A H0 5 0 0 Q 7 [(0, .ref h1), (1, hs_V a), (2, hs_V b), (3, hs_V x), (4, hs_V i)] [] [hs_ia cI h1 40 g] := by
    intro k
    induction k with
    | zero =>
      intro i x hi hx hL hk
      exact absurd hk (by omega)
    | succ k ih =>
      intro i x hi hx hL hk
      have ih2 := ih
      refine hs_iload C dX6_lowestGreatest_7 4 rfl ?_
      refine hs_iload_n C dX6_lowestGreatest_9 rfl 2 rfl ?_
      refine hs_icmp_gt (tgt := 32) C dX6_lowestGreatest_10 (by decide) (by omega) (by omega) (fun c3 => ?_) (fun c3 => ?_)
      ·
        refine hs_iload_n C dX6_lowestGreatest_32 rfl 3 rfl ?_
        exact hret _ _ _ () (by rw [← hL, hs_up_done (by omega)]) dX6_lowestGreatest_33 rfl
      ·
        refine hs_aload_n C dX6_lowestGreatest_13 rfl 0 rfl ?_
        refine hs_iload C dX6_lowestGreatest_14 4 rfl ?_
        refine hs_iald C 0 rfl (by omega) dX6_lowestGreatest_16 ?_
        have b4 := hg i
        refine hs_aload_n C dX6_lowestGreatest_17 rfl 0 rfl ?_
        refine hs_iload_n C dX6_lowestGreatest_18 rfl 3 rfl ?_
        refine hs_iald C 0 rfl (by omega) dX6_lowestGreatest_19 ?_
        have b5 := hg x
        refine hs_icmp_le (tgt := 26) C dX6_lowestGreatest_20 (by decide) (by omega) (by omega) (fun c6 => ?_) (fun c6 => ?_)
        ·
          refine hs_iinc (lv' := [(0, .ref h1), (1, hs_V a), (2, hs_V b), (3, hs_V x), (4, hs_V (i + 1))]) C dX6_lowestGreatest_26 4 rfl (by decide) [1, 2, 3, 4, 0] rfl ?_
          refine hs_goto (tgt := 7) C dX6_lowestGreatest_29 (by decide) ?_
          exact ih2 (i + 1) x (by omega) (by omega) (by have hz := (hs_up_step (by omega)).symm.trans hL; (try dsimp only at hz); first | exact hz | (split at hz <;> first | exact hz | (exfalso; omega) | (split at hz <;> first | exact hz | (exfalso; omega) | (split at hz <;> first | exact hz | (exfalso; omega))))) (by omega)
        ·
          refine hs_iload C dX6_lowestGreatest_23 4 rfl ?_
          refine hs_istore_n (lv' := [(0, .ref h1), (1, hs_V a), (2, hs_V b), (3, hs_V i), (4, hs_V i)]) C dX6_lowestGreatest_25 rfl (by decide) [1, 2, 3, 0, 4] rfl ?_
          refine hs_iinc (lv' := [(0, .ref h1), (1, hs_V a), (2, hs_V b), (3, hs_V i), (4, hs_V (i + 1))]) C dX6_lowestGreatest_26 4 rfl (by decide) [1, 2, 3, 4, 0] rfl ?_
          refine hs_goto (tgt := 7) C dX6_lowestGreatest_29 (by decide) ?_
          exact ih2 (i + 1) i (by omega) (by omega) (by have hz := (hs_up_step (by omega)).symm.trans hL; (try dsimp only at hz); first | exact hz | (split at hz <;> first | exact hz | (exfalso; omega) | (split at hz <;> first | exact hz | (exfalso; omega) | (split at hz <;> first | exact hz | (exfalso; omega))))) (by omega)
  exact Lp1 ((b + 1 - (a + 1) : Int).toNat + 1) (a + 1) a (by omega) (by omega) (rfl) (by omega)

set_option maxHeartbeats 4000000 in
set_option maxRecDepth 100000 in
theorem c_X6_isHeight (l : Launch) (D : va_G) (cI cO : ClassId) (z : Int) (hz : hs_in z) : hs_M l D cI cO yX6_isHeight wsX6_isHeight ({ frames := 0, cells := 0, slots := 0, locals := 0 } : Room) [hs_V z] [] (fun r (_ : Unit) => r = hs_I (if 0 ≤ z ∧ z ≤ 50 then 1 else 0)) (fun _ => []) 0 0 := by
  refine hs_enter (cc := cX6_isHeight) (maxL := 1) (by decide +kernel) rfl (Nat.le_of_ble_eq_true rfl) (fun p e s m args below meth c A H0 Q C hret => ?_)
  refine hs_lvs (lv' := [(0, hs_V z)]) [0] rfl ?_
  refine hs_iload_n C dX6_isHeight_0 rfl 0 rfl ?_
  refine hs_if_lt (tgt := 14) C dX6_isHeight_1 (by decide) (by omega) (fun c1 => ?_) (fun c1 => ?_)
  ·
    refine hs_iconst C dX6_isHeight_14 ?_
    exact hret _ _ _ () (by first | rfl | (rw [if_pos (by omega)]) | (rw [if_neg (by omega)])) dX6_isHeight_15 rfl
  ·
    refine hs_iload_n C dX6_isHeight_4 rfl 0 rfl ?_
    refine hs_bipush C dX6_isHeight_5 (by decide) ?_
    refine hs_icmp_gt (tgt := 14) C dX6_isHeight_7 (by decide) (by omega) (by omega) (fun c2 => ?_) (fun c2 => ?_)
    ·
      refine hs_iconst C dX6_isHeight_14 ?_
      exact hret _ _ _ () (by first | rfl | (rw [if_pos (by omega)]) | (rw [if_neg (by omega)])) dX6_isHeight_15 rfl
    ·
      refine hs_iconst C dX6_isHeight_10 ?_
      refine hs_goto (tgt := 15) C dX6_isHeight_11 (by decide) ?_
      exact hret _ _ _ () (by first | rfl | (rw [if_pos (by omega)]) | (rw [if_neg (by omega)])) dX6_isHeight_15 rfl

set_option maxHeartbeats 4000000 in
set_option maxRecDepth 100000 in
theorem c_X6_isImage (l : Launch) (D : va_G) (cI cO : ClassId) (z : Int) (hz : hs_in z) : hs_M l D cI cO yX6_isImage wsX6_isImage ({ frames := 0, cells := 0, slots := 0, locals := 0 } : Room) [hs_V z] [] (fun r (_ : Unit) => r = hs_I (if 0 ≤ z ∧ z < 2 then 1 else 0)) (fun _ => []) 0 0 := by
  refine hs_enter (cc := cX6_isImage) (maxL := 1) (by decide +kernel) rfl (Nat.le_of_ble_eq_true rfl) (fun p e s m args below meth c A H0 Q C hret => ?_)
  refine hs_lvs (lv' := [(0, hs_V z)]) [0] rfl ?_
  refine hs_iload_n C dX6_isImage_0 rfl 0 rfl ?_
  refine hs_if_lt (tgt := 13) C dX6_isImage_1 (by decide) (by omega) (fun c1 => ?_) (fun c1 => ?_)
  ·
    refine hs_iconst C dX6_isImage_13 ?_
    exact hret _ _ _ () (by first | rfl | (rw [if_pos (by omega)]) | (rw [if_neg (by omega)])) dX6_isImage_14 rfl
  ·
    refine hs_iload_n C dX6_isImage_4 rfl 0 rfl ?_
    refine hs_iconst C dX6_isImage_5 ?_
    refine hs_icmp_ge (tgt := 13) C dX6_isImage_6 (by decide) (by omega) (by omega) (fun c2 => ?_) (fun c2 => ?_)
    ·
      refine hs_iconst C dX6_isImage_13 ?_
      exact hret _ _ _ () (by first | rfl | (rw [if_pos (by omega)]) | (rw [if_neg (by omega)])) dX6_isImage_14 rfl
    ·
      refine hs_iconst C dX6_isImage_9 ?_
      refine hs_goto (tgt := 14) C dX6_isImage_10 (by decide) ?_
      exact hret _ _ _ () (by first | rfl | (rw [if_pos (by omega)]) | (rw [if_neg (by omega)])) dX6_isImage_14 rfl

set_option maxHeartbeats 4000000 in
set_option maxRecDepth 100000 in
theorem c_X0_copyFrom (l : Launch) (D : va_G) (cI cO : ClassId) (h0 : Nat) (h1 : Nat) (n : Int) (g : Int → Int) (o0 : Nat) (o1 : Nat) (m1 : Int) (f : Int → Int) (hm : 0 ≤ m1 ∧ m1 ≤ 40) : hs_Mv l D cI cO yX0_copyFrom wsX0_copyFrom ({ frames := 1, cells := 0, slots := 0, locals := 26 } : Room) [.ref h0, .ref o0] [hs_ob h0 0 [.ref h1, hs_V n], hs_ia cI h1 40 g, hs_ob o0 0 [.ref o1, hs_V m1], hs_ia cI o1 40 f] (fun (_ : Unit) => True) (fun _ => [hs_ob h0 0 [.ref h1, hs_V m1], hs_ia cI h1 40 (hs_cp f g 0 0 m1), hs_ob o0 0 [.ref o1, hs_V m1], hs_ia cI o1 40 f]) 0 0 := by
  refine hs_enterV (cc := cX0_copyFrom) (maxL := 2) (by decide +kernel) rfl (Nat.le_of_ble_eq_true rfl) (fun p e s m args below meth c A H0 Q C hin2 hret => ?_)
  have f9 := C.1.2.2.2.2 (.fieldLink RX0 9 "HistogramStairs$Columns" "heights" "[I") (by decide +kernel)
  have u0 : ∀ w ∈ wsX00, w ∈ wsX0_copyFrom := by decide +kernel
  have f15 := C.1.2.2.2.2 (.fieldLink RX0 15 "HistogramStairs$Columns" "size" "I") (by decide +kernel)
  have ac1 := C.1.2.2.2.2 (.methodLink RX0 19 arraycopyName) (by decide +kernel)
  have ac2 := C.1.2.2.2.2 (.native arraycopyName) (by decide +kernel)
  have ac3 := C.1.2.2.2.2 (.static arraycopyName) (by decide +kernel)
  have ac4 := C.1.2.2.2.2 (.initialized "java/lang/System") (by decide +kernel)
  refine hs_lvs (lv' := [(0, .ref h0), (1, .ref o0)]) [0, 1] rfl ?_
  refine hs_aload_n C dX0_copyFrom_0 rfl 1 rfl ?_
  refine hs_get C u0 2 rfl rfl 0 (by decide) f9 rfl rfl dX0_copyFrom_1 ?_
  refine hs_iconst C dX0_copyFrom_4 ?_
  refine hs_aload_n C dX0_copyFrom_5 rfl 0 rfl ?_
  refine hs_get C u0 0 rfl rfl 0 (by decide) f9 rfl rfl dX0_copyFrom_6 ?_
  refine hs_iconst C dX0_copyFrom_9 ?_
  refine hs_aload_n C dX0_copyFrom_10 rfl 1 rfl ?_
  refine hs_get C u0 2 rfl rfl 1 (by decide) f15 rfl rfl dX0_copyFrom_11 ?_
  refine hs_copy (ws' := [hs_ob h0 0 [.ref h1, hs_V n], hs_ia cI h1 40 (hs_cp f g 0 0 m1), hs_ob o0 0 [.ref o1, hs_V m1], hs_ia cI o1 40 f]) C ac1 ac2 ac3 ac4 3 1 rfl rfl (by omega) (Nat.le_of_ble_eq_true rfl) (Nat.le_of_ble_eq_true rfl) rfl dX0_copyFrom_14 ?_
  refine hs_aload_n C dX0_copyFrom_17 rfl 0 rfl ?_
  refine hs_aload_n C dX0_copyFrom_18 rfl 1 rfl ?_
  refine hs_get C u0 2 rfl rfl 1 (by decide) f15 rfl rfl dX0_copyFrom_19 ?_
  refine hs_put (ty := .int) (ws' := [hs_ob h0 0 [.ref h1, hs_V m1], hs_ia cI h1 40 (hs_cp f g 0 0 m1), hs_ob o0 0 [.ref o1, hs_V m1], hs_ia cI o1 40 f]) C u0 tyX0 tyX0_ok nmX0 0 rfl rfl 1 (by decide) f15 rfl rfl (by decide +kernel) rfl rfl (Nat.le_of_ble_eq_true rfl) rfl dX0_copyFrom_22 ?_
  exact hret _ _ () trivial dX0_copyFrom_25

set_option maxHeartbeats 4000000 in
set_option maxRecDepth 100000 in
theorem c_X0_has (l : Launch) (D : va_G) (cI cO : ClassId) (h0 : Nat) (h1 : Nat) (n : Int) (i : Int) (hn : 0 ≤ n ∧ n ≤ 40) (hz : hs_in i) : hs_M l D cI cO yX0_has wsX0_has ({ frames := 0, cells := 0, slots := 0, locals := 0 } : Room) [.ref h0, hs_V i] [hs_ob h0 0 [.ref h1, hs_V n]] (fun r (_ : Unit) => r = hs_I (if 0 ≤ i ∧ i < n then 1 else 0)) (fun _ => [hs_ob h0 0 [.ref h1, hs_V n]]) 0 0 := by
  refine hs_enter (cc := cX0_has) (maxL := 2) (by decide +kernel) rfl (Nat.le_of_ble_eq_true rfl) (fun p e s m args below meth c A H0 Q C hret => ?_)
  have f15 := C.1.2.2.2.2 (.fieldLink RX0 15 "HistogramStairs$Columns" "size" "I") (by decide +kernel)
  have u0 : ∀ w ∈ wsX00, w ∈ wsX0_has := by decide +kernel
  refine hs_lvs (lv' := [(0, .ref h0), (1, hs_V i)]) [0, 1] rfl ?_
  refine hs_iload_n C dX0_has_0 rfl 1 rfl ?_
  refine hs_if_lt (tgt := 16) C dX0_has_1 (by decide) (by omega) (fun c1 => ?_) (fun c1 => ?_)
  ·
    refine hs_iconst C dX0_has_16 ?_
    exact hret _ _ _ () (by first | rfl | (rw [if_pos (by omega)]) | (rw [if_neg (by omega)])) dX0_has_17 rfl
  ·
    refine hs_iload_n C dX0_has_4 rfl 1 rfl ?_
    refine hs_aload_n C dX0_has_5 rfl 0 rfl ?_
    refine hs_get C u0 0 rfl rfl 1 (by decide) f15 rfl rfl dX0_has_6 ?_
    refine hs_icmp_ge (tgt := 16) C dX0_has_9 (by decide) (by omega) (by omega) (fun c2 => ?_) (fun c2 => ?_)
    ·
      refine hs_iconst C dX0_has_16 ?_
      exact hret _ _ _ () (by first | rfl | (rw [if_pos (by omega)]) | (rw [if_neg (by omega)])) dX0_has_17 rfl
    ·
      refine hs_iconst C dX0_has_12 ?_
      refine hs_goto (tgt := 17) C dX0_has_13 (by decide) ?_
      exact hret _ _ _ () (by first | rfl | (rw [if_pos (by omega)]) | (rw [if_neg (by omega)])) dX0_has_17 rfl

set_option maxHeartbeats 4000000 in
set_option maxRecDepth 100000 in
theorem c_X0_hasRange (l : Launch) (D : va_G) (cI cO : ClassId) (h0 : Nat) (h1 : Nat) (n : Int) (a : Int) (b : Int) (hn : 0 ≤ n ∧ n ≤ 40) (hza : hs_in a) (hzb : hs_in b) : hs_M l D cI cO yX0_hasRange wsX0_hasRange ({ frames := 0, cells := 0, slots := 0, locals := 0 } : Room) [.ref h0, hs_V a, hs_V b] [hs_ob h0 0 [.ref h1, hs_V n]] (fun r (_ : Unit) => r = hs_I (if 0 ≤ a ∧ a ≤ b ∧ b < n then 1 else 0)) (fun _ => [hs_ob h0 0 [.ref h1, hs_V n]]) 0 0 := by
  refine hs_enter (cc := cX0_hasRange) (maxL := 3) (by decide +kernel) rfl (Nat.le_of_ble_eq_true rfl) (fun p e s m args below meth c A H0 Q C hret => ?_)
  have f15 := C.1.2.2.2.2 (.fieldLink RX0 15 "HistogramStairs$Columns" "size" "I") (by decide +kernel)
  have u0 : ∀ w ∈ wsX00, w ∈ wsX0_hasRange := by decide +kernel
  refine hs_lvs (lv' := [(0, .ref h0), (1, hs_V a), (2, hs_V b)]) [0, 1, 2] rfl ?_
  refine hs_iload_n C dX0_hasRange_0 rfl 1 rfl ?_
  refine hs_if_lt (tgt := 21) C dX0_hasRange_1 (by decide) (by omega) (fun c1 => ?_) (fun c1 => ?_)
  ·
    refine hs_iconst C dX0_hasRange_21 ?_
    exact hret _ _ _ () (by first | rfl | (rw [if_pos (by omega)]) | (rw [if_neg (by omega)])) dX0_hasRange_22 rfl
  ·
    refine hs_iload_n C dX0_hasRange_4 rfl 1 rfl ?_
    refine hs_iload_n C dX0_hasRange_5 rfl 2 rfl ?_
    refine hs_icmp_gt (tgt := 21) C dX0_hasRange_6 (by decide) (by omega) (by omega) (fun c2 => ?_) (fun c2 => ?_)
    ·
      refine hs_iconst C dX0_hasRange_21 ?_
      exact hret _ _ _ () (by first | rfl | (rw [if_pos (by omega)]) | (rw [if_neg (by omega)])) dX0_hasRange_22 rfl
    ·
      refine hs_iload_n C dX0_hasRange_9 rfl 2 rfl ?_
      refine hs_aload_n C dX0_hasRange_10 rfl 0 rfl ?_
      refine hs_get C u0 0 rfl rfl 1 (by decide) f15 rfl rfl dX0_hasRange_11 ?_
      refine hs_icmp_ge (tgt := 21) C dX0_hasRange_14 (by decide) (by omega) (by omega) (fun c3 => ?_) (fun c3 => ?_)
      ·
        refine hs_iconst C dX0_hasRange_21 ?_
        exact hret _ _ _ () (by first | rfl | (rw [if_pos (by omega)]) | (rw [if_neg (by omega)])) dX0_hasRange_22 rfl
      ·
        refine hs_iconst C dX0_hasRange_17 ?_
        refine hs_goto (tgt := 22) C dX0_hasRange_18 (by decide) ?_
        exact hret _ _ _ () (by first | rfl | (rw [if_pos (by omega)]) | (rw [if_neg (by omega)])) dX0_hasRange_22 rfl

set_option maxHeartbeats 4000000 in
set_option maxRecDepth 100000 in
theorem c_X0_putIn (l : Launch) (D : va_G) (cI cO : ClassId) (h0 : Nat) (h1 : Nat) (n : Int) (g : Int → Int) (a : Int) (v : Int) (hn : 0 ≤ n ∧ n < 40) (ha : 0 ≤ a ∧ a ≤ n) : hs_Mv l D cI cO yX0_putIn wsX0_putIn ({ frames := 1, cells := 0, slots := 0, locals := 26 } : Room) [.ref h0, hs_V a, hs_V v] [hs_ob h0 0 [.ref h1, hs_V n], hs_ia cI h1 40 g] (fun (_ : Unit) => True) (fun _ => [hs_ob h0 0 [.ref h1, hs_V (n + 1)], hs_ia cI h1 40 (hs_u (hs_cp g g a (a + 1) (n - a)) a v)]) 0 0 := by
  refine hs_enterV (cc := cX0_putIn) (maxL := 3) (by decide +kernel) rfl (Nat.le_of_ble_eq_true rfl) (fun p e s m args below meth c A H0 Q C hin2 hret => ?_)
  have f9 := C.1.2.2.2.2 (.fieldLink RX0 9 "HistogramStairs$Columns" "heights" "[I") (by decide +kernel)
  have u0 : ∀ w ∈ wsX00, w ∈ wsX0_putIn := by decide +kernel
  have f15 := C.1.2.2.2.2 (.fieldLink RX0 15 "HistogramStairs$Columns" "size" "I") (by decide +kernel)
  have ac1 := C.1.2.2.2.2 (.methodLink RX0 19 arraycopyName) (by decide +kernel)
  have ac2 := C.1.2.2.2.2 (.native arraycopyName) (by decide +kernel)
  have ac3 := C.1.2.2.2.2 (.static arraycopyName) (by decide +kernel)
  have ac4 := C.1.2.2.2.2 (.initialized "java/lang/System") (by decide +kernel)
  refine hs_lvs (lv' := [(0, .ref h0), (1, hs_V a), (2, hs_V v)]) [0, 1, 2] rfl ?_
  refine hs_aload_n C dX0_putIn_0 rfl 0 rfl ?_
  refine hs_get C u0 0 rfl rfl 0 (by decide) f9 rfl rfl dX0_putIn_1 ?_
  refine hs_iload_n C dX0_putIn_4 rfl 1 rfl ?_
  refine hs_aload_n C dX0_putIn_5 rfl 0 rfl ?_
  refine hs_get C u0 0 rfl rfl 0 (by decide) f9 rfl rfl dX0_putIn_6 ?_
  refine hs_iload_n C dX0_putIn_9 rfl 1 rfl ?_
  refine hs_iconst C dX0_putIn_10 ?_
  refine hs_iadd C dX0_putIn_11 ?_
  refine hs_aload_n C dX0_putIn_12 rfl 0 rfl ?_
  refine hs_get C u0 0 rfl rfl 1 (by decide) f15 rfl rfl dX0_putIn_13 ?_
  refine hs_iload_n C dX0_putIn_16 rfl 1 rfl ?_
  refine hs_isub C dX0_putIn_17 ?_
  refine hs_copy (ws' := [hs_ob h0 0 [.ref h1, hs_V n], hs_ia cI h1 40 (hs_cp g g a (a + 1) (n - a))]) C ac1 ac2 ac3 ac4 1 1 rfl rfl (by omega) (Nat.le_of_ble_eq_true rfl) (Nat.le_of_ble_eq_true rfl) rfl dX0_putIn_18 ?_
  refine hs_aload_n C dX0_putIn_21 rfl 0 rfl ?_
  refine hs_get C u0 0 rfl rfl 0 (by decide) f9 rfl rfl dX0_putIn_22 ?_
  refine hs_iload_n C dX0_putIn_25 rfl 1 rfl ?_
  refine hs_iload_n C dX0_putIn_26 rfl 2 rfl ?_
  refine hs_iast (ws' := [hs_ob h0 0 [.ref h1, hs_V n], hs_ia cI h1 40 (hs_u (hs_cp g g a (a + 1) (n - a)) a v)]) C 1 rfl (by omega) rfl dX0_putIn_27 ?_
  refine hs_aload_n C dX0_putIn_28 rfl 0 rfl ?_
  refine hs_dup C dX0_putIn_29 rfl ?_
  refine hs_get C u0 0 rfl rfl 1 (by decide) f15 rfl rfl dX0_putIn_30 ?_
  refine hs_iconst C dX0_putIn_33 ?_
  refine hs_iadd C dX0_putIn_34 ?_
  refine hs_put (ty := .int) (ws' := [hs_ob h0 0 [.ref h1, hs_V (n + 1)], hs_ia cI h1 40 (hs_u (hs_cp g g a (a + 1) (n - a)) a v)]) C u0 tyX0 tyX0_ok nmX0 0 rfl rfl 1 (by decide) f15 rfl rfl (by decide +kernel) rfl rfl (Nat.le_of_ble_eq_true rfl) rfl dX0_putIn_35 ?_
  exact hret _ _ () trivial dX0_putIn_38

set_option maxHeartbeats 4000000 in
set_option maxRecDepth 100000 in
theorem c_X0_takeOut (l : Launch) (D : va_G) (cI cO : ClassId) (h0 : Nat) (h1 : Nat) (n : Int) (g : Int → Int) (i : Int) (hn : 0 ≤ n ∧ n ≤ 40) (ha : 0 ≤ i ∧ i < n) : hs_M l D cI cO yX0_takeOut wsX0_takeOut ({ frames := 1, cells := 0, slots := 0, locals := 26 } : Room) [.ref h0, hs_V i] [hs_ob h0 0 [.ref h1, hs_V n], hs_ia cI h1 40 g] (fun r (_ : Unit) => r = hs_I (g i)) (fun _ => [hs_ob h0 0 [.ref h1, hs_V (n - 1)], hs_ia cI h1 40 (hs_cp g g (i + 1) i (n - i - 1))]) 0 0 := by
  refine hs_enter (cc := cX0_takeOut) (maxL := 3) (by decide +kernel) rfl (Nat.le_of_ble_eq_true rfl) (fun p e s m args below meth c A H0 Q C hret => ?_)
  have f9 := C.1.2.2.2.2 (.fieldLink RX0 9 "HistogramStairs$Columns" "heights" "[I") (by decide +kernel)
  have u0 : ∀ w ∈ wsX00, w ∈ wsX0_takeOut := by decide +kernel
  have f15 := C.1.2.2.2.2 (.fieldLink RX0 15 "HistogramStairs$Columns" "size" "I") (by decide +kernel)
  have ac1 := C.1.2.2.2.2 (.methodLink RX0 19 arraycopyName) (by decide +kernel)
  have ac2 := C.1.2.2.2.2 (.native arraycopyName) (by decide +kernel)
  have ac3 := C.1.2.2.2.2 (.static arraycopyName) (by decide +kernel)
  have ac4 := C.1.2.2.2.2 (.initialized "java/lang/System") (by decide +kernel)
  refine hs_lvs (lv' := [(0, .ref h0), (1, hs_V i)]) [0, 1] rfl ?_
  refine hs_aload_n C dX0_takeOut_0 rfl 0 rfl ?_
  refine hs_get C u0 0 rfl rfl 0 (by decide) f9 rfl rfl dX0_takeOut_1 ?_
  refine hs_iload_n C dX0_takeOut_4 rfl 1 rfl ?_
  refine hs_iald C 1 rfl (by omega) dX0_takeOut_5 ?_
  refine hs_istore_n (lv' := [(0, .ref h0), (1, hs_V i), (2, hs_V (g i))]) C dX0_takeOut_6 rfl (by decide) [1, 2, 0] rfl ?_
  refine hs_aload_n C dX0_takeOut_7 rfl 0 rfl ?_
  refine hs_get C u0 0 rfl rfl 0 (by decide) f9 rfl rfl dX0_takeOut_8 ?_
  refine hs_iload_n C dX0_takeOut_11 rfl 1 rfl ?_
  refine hs_iconst C dX0_takeOut_12 ?_
  refine hs_iadd C dX0_takeOut_13 ?_
  refine hs_aload_n C dX0_takeOut_14 rfl 0 rfl ?_
  refine hs_get C u0 0 rfl rfl 0 (by decide) f9 rfl rfl dX0_takeOut_15 ?_
  refine hs_iload_n C dX0_takeOut_18 rfl 1 rfl ?_
  refine hs_aload_n C dX0_takeOut_19 rfl 0 rfl ?_
  refine hs_get C u0 0 rfl rfl 1 (by decide) f15 rfl rfl dX0_takeOut_20 ?_
  refine hs_iload_n C dX0_takeOut_23 rfl 1 rfl ?_
  refine hs_isub C dX0_takeOut_24 ?_
  refine hs_iconst C dX0_takeOut_25 ?_
  refine hs_isub C dX0_takeOut_26 ?_
  refine hs_copy (ws' := [hs_ob h0 0 [.ref h1, hs_V n], hs_ia cI h1 40 (hs_cp g g (i + 1) i ((n - i) - 1))]) C ac1 ac2 ac3 ac4 1 1 rfl rfl (by omega) (Nat.le_of_ble_eq_true rfl) (Nat.le_of_ble_eq_true rfl) rfl dX0_takeOut_27 ?_
  refine hs_aload_n C dX0_takeOut_30 rfl 0 rfl ?_
  refine hs_dup C dX0_takeOut_31 rfl ?_
  refine hs_get C u0 0 rfl rfl 1 (by decide) f15 rfl rfl dX0_takeOut_32 ?_
  refine hs_iconst C dX0_takeOut_35 ?_
  refine hs_isub C dX0_takeOut_36 ?_
  refine hs_put (ty := .int) (ws' := [hs_ob h0 0 [.ref h1, hs_V (n - 1)], hs_ia cI h1 40 (hs_cp g g (i + 1) i ((n - i) - 1))]) C u0 tyX0 tyX0_ok nmX0 0 rfl rfl 1 (by decide) f15 rfl rfl (by decide +kernel) rfl rfl (Nat.le_of_ble_eq_true rfl) rfl dX0_takeOut_37 ?_
  refine hs_iload_n C dX0_takeOut_40 rfl 2 rfl ?_
  exact hret _ _ _ () (by first | rfl | (rw [if_pos (by omega)]) | (rw [if_neg (by omega)])) dX0_takeOut_41 rfl

set_option maxHeartbeats 4000000 in
set_option maxRecDepth 100000 in
theorem c_X0_lift (l : Launch) (D : va_G) (cI cO : ClassId) (h0 : Nat) (h1 : Nat) (n : Int) (g : Int → Int) (a : Int) (b : Int) (d : Int) (hn : 0 ≤ n ∧ n ≤ 40) (hg : ∀ k, 0 ≤ g k ∧ g k ≤ 50) (hab : 0 ≤ a ∧ a ≤ b ∧ b < n) (hd : -50 ≤ d ∧ d ≤ 50) : hs_M l D cI cO yX0_lift wsX0_lift ({ frames := 1, cells := 0, slots := 0, locals := 21 } : Room) [.ref h0, hs_V a, hs_V b, hs_V d] [hs_ob h0 0 [.ref h1, hs_V n], hs_ia cI h1 40 g] (fun r (_ : Unit) => r = hs_I (pu_lift g a b d).1) (fun _ => [hs_ob h0 0 [.ref h1, hs_V n], hs_ia cI h1 40 (pu_lift g a b d).2]) 0 0 := by
  refine hs_enter (cc := cX0_lift) (maxL := 7) (by decide +kernel) rfl (Nat.le_of_ble_eq_true rfl) (fun p e s m args below meth c A H0 Q C hret => ?_)
  have f9 := C.1.2.2.2.2 (.fieldLink RX0 9 "HistogramStairs$Columns" "heights" "[I") (by decide +kernel)
  have u0 : ∀ w ∈ wsX00, w ∈ wsX0_lift := by decide +kernel
  have m25 := C.1.2.2.2.2 (.methodLink RX0 25 Lib.Math.min.name) (by decide +kernel)
  have smin := C.1.2.2.2.2 (.static Lib.Math.min.name) (by decide +kernel)
  have iM := C.1.2.2.2.2 (.initialized "java/lang/Math") (by decide +kernel)
  have kmin := C.1.2.2.2.2 (.code Lib.Math.min.name Lib.Math.min.code 2 (some .int)) (by decide +kernel)
  have m31 := C.1.2.2.2.2 (.methodLink RX0 31 Lib.Math.max.name) (by decide +kernel)
  have smax := C.1.2.2.2.2 (.static Lib.Math.max.name) (by decide +kernel)
  have kmax := C.1.2.2.2.2 (.code Lib.Math.max.name Lib.Math.max.code 2 (some .int)) (by decide +kernel)
  refine hs_lvs (lv' := [(0, .ref h0), (1, hs_V a), (2, hs_V b), (3, hs_V d)]) [0, 1, 2, 3] rfl ?_
  refine hs_iconst C dX0_lift_0 ?_
  refine hs_istore (lv' := [(0, .ref h0), (1, hs_V a), (2, hs_V b), (3, hs_V d), (4, hs_V 0)]) C dX0_lift_1 (by decide) [1, 2, 3, 4, 0] rfl ?_
  refine hs_iload_n C dX0_lift_3 rfl 1 rfl ?_
  refine hs_istore (lv' := [(0, .ref h0), (1, hs_V a), (2, hs_V b), (3, hs_V d), (4, hs_V 0), (5, hs_V a)]) C dX0_lift_4 (by decide) [1, 2, 3, 4, 5, 0] rfl ?_
  have Lp1 : ∀ (k : Nat) (i : Int) (ch : Int) (g1 : Int → Int), (a ≤ i ∧ i ≤ b + 1) → (∀ k, 0 ≤ g1 k ∧ g1 k ≤ 50) → (hs_up (fun i (x : Int × (Int → Int)) => if max 0 (min (x.2 i + d) 50) = x.2 i then x else (x.1 + 1, hs_u x.2 i (max 0 (min (x.2 i + d) 50)))) i (b + 1) (ch, g1) = pu_lift g a b d) → (b + 1 - i < (k : Int)) → hs_J p l e ({ frames := 1, cells := 0, slots := 0, locals := 21 } : Room) s m args below meth c D A H0 7 0 0 Q 6 [(0, .ref h0), (1, hs_V a), (2, hs_V b), (3, hs_V d), (4, hs_V ch), (5, hs_V i)] [] [hs_ob h0 0 [.ref h1, hs_V n], hs_ia cI h1 40 g1] := by
    intro k
    induction k with
    | zero =>
      intro i ch g1 hi hg1 hL hk
      exact absurd hk (by omega)
    | succ k ih =>
      intro i ch g1 hi hg1 hL hk
      have ih2 := ih
      refine hs_iload C dX0_lift_6 5 rfl ?_
      refine hs_iload_n C dX0_lift_8 rfl 2 rfl ?_
      refine hs_icmp_gt (tgt := 62) C dX0_lift_9 (by decide) (by omega) (by omega) (fun c3 => ?_) (fun c3 => ?_)
      ·
        refine hs_iload C dX0_lift_62 4 rfl ?_
        refine hs_cast (ws' := [hs_ob h0 0 [.ref h1, hs_V n], hs_ia cI h1 40 (pu_lift g a b d).2]) ?_ rfl rfl rfl (by rw [← hL, hs_up_done (by omega)])
        exact hret _ _ _ () (by rw [← hL, hs_up_done (by omega)]) dX0_lift_64 rfl
      ·
        refine hs_iconst C dX0_lift_12 ?_
        refine hs_aload_n C dX0_lift_13 rfl 0 rfl ?_
        refine hs_get C u0 0 rfl rfl 0 (by decide) f9 rfl rfl dX0_lift_14 ?_
        refine hs_iload C dX0_lift_17 5 rfl ?_
        refine hs_iald C 1 rfl (by omega) dX0_lift_19 ?_
        have b4 := hg1 i
        refine hs_iload_n C dX0_lift_20 rfl 3 rfl ?_
        refine hs_iadd C dX0_lift_21 ?_
        refine hs_bipush C dX0_lift_22 (by decide) ?_
        refine hs_min C m25 smin iM kmin (Nat.le_of_ble_eq_true rfl) (Nat.le_of_ble_eq_true rfl) (Nat.zero_le _) (Nat.zero_le _) (by omega) (by omega) dX0_lift_24 ?_
        refine hs_max C m31 smax iM kmax (Nat.le_of_ble_eq_true rfl) (Nat.le_of_ble_eq_true rfl) (Nat.zero_le _) (Nat.zero_le _) (by omega) (by omega) dX0_lift_27 ?_
        refine hs_istore (lv' := [(0, .ref h0), (1, hs_V a), (2, hs_V b), (3, hs_V d), (4, hs_V ch), (5, hs_V i), (6, hs_V (max 0 (min ((g1 i) + d) 50)))]) C dX0_lift_30 (by decide) [1, 2, 3, 4, 5, 6, 0] rfl ?_
        refine hs_iload C dX0_lift_32 6 rfl ?_
        refine hs_aload_n C dX0_lift_34 rfl 0 rfl ?_
        refine hs_get C u0 0 rfl rfl 0 (by decide) f9 rfl rfl dX0_lift_35 ?_
        refine hs_iload C dX0_lift_38 5 rfl ?_
        refine hs_iald C 1 rfl (by omega) dX0_lift_40 ?_
        have b5 := hg1 i
        refine hs_icmp_eq (tgt := 56) C dX0_lift_41 (by decide) (by omega) (by omega) (fun c6 => ?_) (fun c6 => ?_)
        ·
          refine hs_iinc (lv' := [(0, .ref h0), (1, hs_V a), (2, hs_V b), (3, hs_V d), (4, hs_V ch), (5, hs_V (i + 1)), (6, hs_V (max 0 (min ((g1 i) + d) 50)))]) C dX0_lift_56 5 rfl (by decide) [1, 2, 3, 4, 5, 0, 6] rfl ?_
          refine hs_goto (tgt := 6) C dX0_lift_59 (by decide) ?_
          refine hs_lvs (lv' := [(0, .ref h0), (1, hs_V a), (2, hs_V b), (3, hs_V d), (4, hs_V ch), (5, hs_V (i + 1))]) [0, 1, 2, 3, 4, 5] rfl ?_
          exact ih2 (i + 1) ch g1 (by omega) hg1 (by have hz := (hs_up_step (by omega)).symm.trans hL; (try dsimp only at hz); first | exact hz | (split at hz <;> first | exact hz | (exfalso; omega) | (split at hz <;> first | exact hz | (exfalso; omega) | (split at hz <;> first | exact hz | (exfalso; omega))))) (by omega)
        ·
          refine hs_aload_n C dX0_lift_44 rfl 0 rfl ?_
          refine hs_get C u0 0 rfl rfl 0 (by decide) f9 rfl rfl dX0_lift_45 ?_
          refine hs_iload C dX0_lift_48 5 rfl ?_
          refine hs_iload C dX0_lift_50 6 rfl ?_
          refine hs_iast (ws' := [hs_ob h0 0 [.ref h1, hs_V n], hs_ia cI h1 40 (hs_u g1 i (max 0 (min ((g1 i) + d) 50)))]) C 1 rfl (by omega) rfl dX0_lift_52 ?_
          have b7 := hs_u_bd (i := i) hg1 (show 0 ≤ max 0 (min ((g1 i) + d) 50) ∧ max 0 (min ((g1 i) + d) 50) ≤ 50 by omega)
          refine hs_iinc (lv' := [(0, .ref h0), (1, hs_V a), (2, hs_V b), (3, hs_V d), (4, hs_V (ch + 1)), (5, hs_V i), (6, hs_V (max 0 (min ((g1 i) + d) 50)))]) C dX0_lift_53 4 rfl (by decide) [1, 2, 3, 4, 0, 5, 6] rfl ?_
          refine hs_iinc (lv' := [(0, .ref h0), (1, hs_V a), (2, hs_V b), (3, hs_V d), (4, hs_V (ch + 1)), (5, hs_V (i + 1)), (6, hs_V (max 0 (min ((g1 i) + d) 50)))]) C dX0_lift_56 5 rfl (by decide) [1, 2, 3, 4, 5, 0, 6] rfl ?_
          refine hs_goto (tgt := 6) C dX0_lift_59 (by decide) ?_
          refine hs_lvs (lv' := [(0, .ref h0), (1, hs_V a), (2, hs_V b), (3, hs_V d), (4, hs_V (ch + 1)), (5, hs_V (i + 1))]) [0, 1, 2, 3, 4, 5] rfl ?_
          exact ih2 (i + 1) (ch + 1) (hs_u g1 i (max 0 (min ((g1 i) + d) 50))) (by omega) b7 (by have hz := (hs_up_step (by omega)).symm.trans hL; (try dsimp only at hz); first | exact hz | (split at hz <;> first | exact hz | (exfalso; omega) | (split at hz <;> first | exact hz | (exfalso; omega) | (split at hz <;> first | exact hz | (exfalso; omega))))) (by omega)
  exact Lp1 ((b + 1 - a : Int).toNat + 1) a 0 g (by omega) hg (rfl) (by omega)

set_option maxHeartbeats 4000000 in
set_option maxRecDepth 100000 in
theorem c_X0_exchange (l : Launch) (D : va_G) (cI cO : ClassId) (h0 : Nat) (h1 : Nat) (n : Int) (g : Int → Int) (i : Int) (j : Int) (hij : 0 ≤ i ∧ i < 40 ∧ 0 ≤ j ∧ j < 40) : hs_Mv l D cI cO yX0_exchange wsX0_exchange ({ frames := 0, cells := 0, slots := 0, locals := 0 } : Room) [.ref h0, hs_V i, hs_V j] [hs_ob h0 0 [.ref h1, hs_V n], hs_ia cI h1 40 g] (fun (_ : Unit) => True) (fun _ => [hs_ob h0 0 [.ref h1, hs_V n], hs_ia cI h1 40 (pu_ex g i j)]) 0 0 := by
  refine hs_enterV (cc := cX0_exchange) (maxL := 4) (by decide +kernel) rfl (Nat.le_of_ble_eq_true rfl) (fun p e s m args below meth c A H0 Q C hin2 hret => ?_)
  have f9 := C.1.2.2.2.2 (.fieldLink RX0 9 "HistogramStairs$Columns" "heights" "[I") (by decide +kernel)
  have u0 : ∀ w ∈ wsX00, w ∈ wsX0_exchange := by decide +kernel
  refine hs_lvs (lv' := [(0, .ref h0), (1, hs_V i), (2, hs_V j)]) [0, 1, 2] rfl ?_
  refine hs_aload_n C dX0_exchange_0 rfl 0 rfl ?_
  refine hs_get C u0 0 rfl rfl 0 (by decide) f9 rfl rfl dX0_exchange_1 ?_
  refine hs_iload_n C dX0_exchange_4 rfl 1 rfl ?_
  refine hs_iald C 1 rfl (by omega) dX0_exchange_5 ?_
  refine hs_istore_n (lv' := [(0, .ref h0), (1, hs_V i), (2, hs_V j), (3, hs_V (g i))]) C dX0_exchange_6 rfl (by decide) [1, 2, 3, 0] rfl ?_
  refine hs_aload_n C dX0_exchange_7 rfl 0 rfl ?_
  refine hs_get C u0 0 rfl rfl 0 (by decide) f9 rfl rfl dX0_exchange_8 ?_
  refine hs_iload_n C dX0_exchange_11 rfl 1 rfl ?_
  refine hs_aload_n C dX0_exchange_12 rfl 0 rfl ?_
  refine hs_get C u0 0 rfl rfl 0 (by decide) f9 rfl rfl dX0_exchange_13 ?_
  refine hs_iload_n C dX0_exchange_16 rfl 2 rfl ?_
  refine hs_iald C 1 rfl (by omega) dX0_exchange_17 ?_
  refine hs_iast (ws' := [hs_ob h0 0 [.ref h1, hs_V n], hs_ia cI h1 40 (hs_u g i (g j))]) C 1 rfl (by omega) rfl dX0_exchange_18 ?_
  refine hs_aload_n C dX0_exchange_19 rfl 0 rfl ?_
  refine hs_get C u0 0 rfl rfl 0 (by decide) f9 rfl rfl dX0_exchange_20 ?_
  refine hs_iload_n C dX0_exchange_23 rfl 2 rfl ?_
  refine hs_iload_n C dX0_exchange_24 rfl 3 rfl ?_
  refine hs_iast (ws' := [hs_ob h0 0 [.ref h1, hs_V n], hs_ia cI h1 40 (hs_u (hs_u g i (g j)) j (g i))]) C 1 rfl (by omega) rfl dX0_exchange_25 ?_
  exact hret _ _ () trivial dX0_exchange_26

set_option maxHeartbeats 4000000 in
set_option maxRecDepth 100000 in
theorem c_X0_mirror (l : Launch) (D : va_G) (cI cO : ClassId) (h0 : Nat) (h1 : Nat) (n : Int) (g : Int → Int) (a : Int) (b : Int) (hn : 0 ≤ n ∧ n ≤ 40) (hg : ∀ k, 0 ≤ g k ∧ g k ≤ 50) (hab : 0 ≤ a ∧ a ≤ b ∧ b < n) : hs_M l D cI cO yX0_mirror wsX0_mirror ({ frames := 1, cells := 0, slots := 0, locals := 23 } : Room) [.ref h0, hs_V a, hs_V b] [hs_ob h0 0 [.ref h1, hs_V n], hs_ia cI h1 40 g] (fun r (_ : Unit) => r = hs_I (pu_mir g a b).1) (fun _ => [hs_ob h0 0 [.ref h1, hs_V n], hs_ia cI h1 40 (pu_mir g a b).2]) 0 0 := by
  refine hs_enter (cc := cX0_mirror) (maxL := 6) (by decide +kernel) rfl (Nat.le_of_ble_eq_true rfl) (fun p e s m args below meth c A H0 Q C hret => ?_)
  have f9 := C.1.2.2.2.2 (.fieldLink RX0 9 "HistogramStairs$Columns" "heights" "[I") (by decide +kernel)
  have u0 : ∀ w ∈ wsX00, w ∈ wsX0_mirror := by decide +kernel
  refine hs_lvs (lv' := [(0, .ref h0), (1, hs_V a), (2, hs_V b)]) [0, 1, 2] rfl ?_
  refine hs_iconst C dX0_mirror_0 ?_
  refine hs_istore_n (lv' := [(0, .ref h0), (1, hs_V a), (2, hs_V b), (3, hs_V 0)]) C dX0_mirror_1 rfl (by decide) [1, 2, 3, 0] rfl ?_
  refine hs_iload_n C dX0_mirror_2 rfl 1 rfl ?_
  refine hs_istore (lv' := [(0, .ref h0), (1, hs_V a), (2, hs_V b), (3, hs_V 0), (4, hs_V a)]) C dX0_mirror_3 (by decide) [1, 2, 3, 4, 0] rfl ?_
  refine hs_iload_n C dX0_mirror_5 rfl 2 rfl ?_
  refine hs_istore (lv' := [(0, .ref h0), (1, hs_V a), (2, hs_V b), (3, hs_V 0), (4, hs_V a), (5, hs_V b)]) C dX0_mirror_6 (by decide) [1, 2, 3, 4, 5, 0] rfl ?_
  have Lp1 : ∀ (k : Nat) (i : Int) (j : Int) (ch : Int) (g1 : Int → Int), (a ≤ i ∧ i ≤ b + 1) → (j = a + b - i) → (∀ k, 0 ≤ g1 k ∧ g1 k ≤ 50) → (hs_up (fun i (x : Int × (Int → Int)) => if x.2 i = x.2 (a + b - i) then x else (x.1 + 2, pu_ex x.2 i (a + b - i))) i ((a + b + 1) / 2) (ch, g1) = pu_mir g a b) → (b + 1 - i < (k : Int)) → hs_J p l e ({ frames := 1, cells := 0, slots := 0, locals := 23 } : Room) s m args below meth c D A H0 6 0 0 Q 8 [(0, .ref h0), (1, hs_V a), (2, hs_V b), (3, hs_V ch), (4, hs_V i), (5, hs_V j)] [] [hs_ob h0 0 [.ref h1, hs_V n], hs_ia cI h1 40 g1] := by
    intro k
    induction k with
    | zero =>
      intro i j ch g1 hi hj hg1 hL hk
      exact absurd hk (by omega)
    | succ k ih =>
      intro i j ch g1 hi hj hg1 hL hk
      have ih2 := ih
      refine hs_iload C dX0_mirror_8 4 rfl ?_
      refine hs_iload C dX0_mirror_10 5 rfl ?_
      refine hs_icmp_ge (tgt := 52) C dX0_mirror_12 (by decide) (by omega) (by omega) (fun c3 => ?_) (fun c3 => ?_)
      ·
        refine hs_iload_n C dX0_mirror_52 rfl 3 rfl ?_
        refine hs_cast (ws' := [hs_ob h0 0 [.ref h1, hs_V n], hs_ia cI h1 40 (pu_mir g a b).2]) ?_ rfl rfl rfl (by rw [← hL, hs_up_done (by omega)])
        exact hret _ _ _ () (by rw [← hL, hs_up_done (by omega)]) dX0_mirror_53 rfl
      ·
        refine hs_aload_n C dX0_mirror_15 rfl 0 rfl ?_
        refine hs_get C u0 0 rfl rfl 0 (by decide) f9 rfl rfl dX0_mirror_16 ?_
        refine hs_iload C dX0_mirror_19 4 rfl ?_
        refine hs_iald C 1 rfl (by omega) dX0_mirror_21 ?_
        have b4 := hg1 i
        refine hs_aload_n C dX0_mirror_22 rfl 0 rfl ?_
        refine hs_get C u0 0 rfl rfl 0 (by decide) f9 rfl rfl dX0_mirror_23 ?_
        refine hs_iload C dX0_mirror_26 5 rfl ?_
        refine hs_iald C 1 rfl (by omega) dX0_mirror_28 ?_
        have b5 := hg1 j
        refine hs_icmp_eq (tgt := 43) C dX0_mirror_29 (by decide) (by omega) (by omega) (fun c6 => ?_) (fun c6 => ?_)
        ·
          refine hs_iinc (lv' := [(0, .ref h0), (1, hs_V a), (2, hs_V b), (3, hs_V ch), (4, hs_V (i + 1)), (5, hs_V j)]) C dX0_mirror_43 4 rfl (by decide) [1, 2, 3, 4, 0, 5] rfl ?_
          refine hs_iinc (lv' := [(0, .ref h0), (1, hs_V a), (2, hs_V b), (3, hs_V ch), (4, hs_V (i + 1)), (5, hs_V (j + (-1)))]) C dX0_mirror_46 5 rfl (by decide) [1, 2, 3, 4, 5, 0] rfl ?_
          refine hs_goto (tgt := 8) C dX0_mirror_49 (by decide) ?_
          exact ih2 (i + 1) (j + (-1)) ch g1 (by omega) (by omega) hg1 (by have hz := (hs_up_step (by omega)).symm.trans hL; simp only [← hj] at hz; (try dsimp only at hz); first | exact hz | (split at hz <;> first | exact hz | (exfalso; omega) | (split at hz <;> first | exact hz | (exfalso; omega) | (split at hz <;> first | exact hz | (exfalso; omega))))) (by omega)
        ·
          refine hs_aload_n C dX0_mirror_32 rfl 0 rfl ?_
          refine hs_iload C dX0_mirror_33 4 rfl ?_
          refine hs_iload C dX0_mirror_35 5 rfl ?_
          refine hs_callVv (win := [hs_ob h0 0 [.ref h1, hs_V n], hs_ia cI h1 40 g1]) (wr := []) (As := [hs_V i, hs_V j]) (rest := []) C (c_X0_exchange l D cI cO h0 h1 n g1 i j (by omega)) 0 0 rfl rfl rfl (cwV 2 C.1.2.2.2.2 gX0_mirror_X0_exchange rfl rfl rfl (by decide +kernel) ⟨Nat.le_of_ble_eq_true rfl, Nat.le_of_ble_eq_true rfl⟩) rfl rfl (Nat.le_of_ble_eq_true rfl) dX0_mirror_37 ⟨Nat.le_of_ble_eq_true rfl, Nat.le_of_ble_eq_true rfl⟩ (fun uu7 hp => ?_)
          refine hs_re0 (w' := [hs_ob h0 0 [.ref h1, hs_V n], hs_ia cI h1 40 (pu_ex g1 i j)]) [0, 1] rfl (by decide) ?_
          have hb37 := pu_ex_bd (i := i) (j := j) hg1
          refine hs_iinc (lv' := [(0, .ref h0), (1, hs_V a), (2, hs_V b), (3, hs_V (ch + 2)), (4, hs_V i), (5, hs_V j)]) C dX0_mirror_40 3 rfl (by decide) [1, 2, 3, 0, 4, 5] rfl ?_
          refine hs_iinc (lv' := [(0, .ref h0), (1, hs_V a), (2, hs_V b), (3, hs_V (ch + 2)), (4, hs_V (i + 1)), (5, hs_V j)]) C dX0_mirror_43 4 rfl (by decide) [1, 2, 3, 4, 0, 5] rfl ?_
          refine hs_iinc (lv' := [(0, .ref h0), (1, hs_V a), (2, hs_V b), (3, hs_V (ch + 2)), (4, hs_V (i + 1)), (5, hs_V (j + (-1)))]) C dX0_mirror_46 5 rfl (by decide) [1, 2, 3, 4, 5, 0] rfl ?_
          refine hs_goto (tgt := 8) C dX0_mirror_49 (by decide) ?_
          exact ih2 (i + 1) (j + (-1)) (ch + 2) (pu_ex g1 i j) (by omega) (by omega) hb37 (by have hz := (hs_up_step (by omega)).symm.trans hL; simp only [← hj] at hz; (try dsimp only at hz); first | exact hz | (split at hz <;> first | exact hz | (exfalso; omega) | (split at hz <;> first | exact hz | (exfalso; omega) | (split at hz <;> first | exact hz | (exfalso; omega))))) (by omega)
  exact Lp1 ((b + 1 - a : Int).toNat + 1) a b 0 g (by omega) (by omega) hg (rfl) (by omega)

set_option maxHeartbeats 4000000 in
set_option maxRecDepth 100000 in
theorem c_X0_isWrong (l : Launch) (D : va_G) (cI cO : ClassId) (x : Int) (y : Int) (u : Int) (hx : hs_in x) (hy : hs_in y) (hu : 0 ≤ u ∧ u ≤ 1) : hs_M l D cI cO yX0_isWrong wsX0_isWrong ({ frames := 0, cells := 0, slots := 0, locals := 0 } : Room) [hs_V x, hs_V y, hs_V u] [] (fun r (_ : Unit) => r = hs_I (if (u ≠ 0 ∧ y < x) ∨ (u = 0 ∧ x < y) then 1 else 0)) (fun _ => []) 0 0 := by
  refine hs_enter (cc := cX0_isWrong) (maxL := 3) (by decide +kernel) rfl (Nat.le_of_ble_eq_true rfl) (fun p e s m args below meth c A H0 Q C hret => ?_)
  refine hs_lvs (lv' := [(0, hs_V x), (1, hs_V y), (2, hs_V u)]) [0, 1, 2] rfl ?_
  refine hs_iload_n C dX0_isWrong_0 rfl 2 rfl ?_
  refine hs_if_eq (tgt := 17) C dX0_isWrong_1 (by decide) (by omega) (fun c1 => ?_) (fun c1 => ?_)
  ·
    refine hs_iload_n C dX0_isWrong_17 rfl 0 rfl ?_
    refine hs_iload_n C dX0_isWrong_18 rfl 1 rfl ?_
    refine hs_icmp_ge (tgt := 26) C dX0_isWrong_19 (by decide) (by omega) (by omega) (fun c2 => ?_) (fun c2 => ?_)
    ·
      refine hs_iconst C dX0_isWrong_26 ?_
      exact hret _ _ _ () (by first | rfl | (rw [if_pos (by omega)]) | (rw [if_neg (by omega)])) dX0_isWrong_27 rfl
    ·
      refine hs_iconst C dX0_isWrong_22 ?_
      refine hs_goto (tgt := 27) C dX0_isWrong_23 (by decide) ?_
      exact hret _ _ _ () (by first | rfl | (rw [if_pos (by omega)]) | (rw [if_neg (by omega)])) dX0_isWrong_27 rfl
  ·
    refine hs_iload_n C dX0_isWrong_4 rfl 0 rfl ?_
    refine hs_iload_n C dX0_isWrong_5 rfl 1 rfl ?_
    refine hs_icmp_le (tgt := 13) C dX0_isWrong_6 (by decide) (by omega) (by omega) (fun c3 => ?_) (fun c3 => ?_)
    ·
      refine hs_iconst C dX0_isWrong_13 ?_
      refine hs_goto (tgt := 27) C dX0_isWrong_14 (by decide) ?_
      exact hret _ _ _ () (by first | rfl | (rw [if_pos (by omega)]) | (rw [if_neg (by omega)])) dX0_isWrong_27 rfl
    ·
      refine hs_iconst C dX0_isWrong_9 ?_
      refine hs_goto (tgt := 27) C dX0_isWrong_10 (by decide) ?_
      exact hret _ _ _ () (by first | rfl | (rw [if_pos (by omega)]) | (rw [if_neg (by omega)])) dX0_isWrong_27 rfl

set_option maxHeartbeats 4000000 in
set_option maxRecDepth 100000 in
theorem c_X0_arrange (l : Launch) (D : va_G) (cI cO : ClassId) (h0 : Nat) (h1 : Nat) (n : Int) (g : Int → Int) (a : Int) (b : Int) (u : Int) (hn : 0 ≤ n ∧ n ≤ 40) (hg : ∀ k, 0 ≤ g k ∧ g k ≤ 50) (hab : 0 ≤ a ∧ a ≤ b ∧ b < n) (hu : 0 ≤ u ∧ u ≤ 1) : hs_M l D cI cO yX0_arrange wsX0_arrange ({ frames := 1, cells := 0, slots := 0, locals := 23 } : Room) [.ref h0, hs_V a, hs_V b, hs_V u] [hs_ob h0 0 [.ref h1, hs_V n], hs_ia cI h1 40 g] (fun r (_ : Unit) => r = hs_I (pu_arr g a b u).1) (fun _ => [hs_ob h0 0 [.ref h1, hs_V n], hs_ia cI h1 40 (pu_arr g a b u).2]) 0 0 := by
  refine hs_enter (cc := cX0_arrange) (maxL := 7) (by decide +kernel) rfl (Nat.le_of_ble_eq_true rfl) (fun p e s m args below meth c A H0 Q C hret => ?_)
  have f9 := C.1.2.2.2.2 (.fieldLink RX0 9 "HistogramStairs$Columns" "heights" "[I") (by decide +kernel)
  have u0 : ∀ w ∈ wsX00, w ∈ wsX0_arrange := by decide +kernel
  refine hs_lvs (lv' := [(0, .ref h0), (1, hs_V a), (2, hs_V b), (3, hs_V u)]) [0, 1, 2, 3] rfl ?_
  refine hs_iconst C dX0_arrange_0 ?_
  refine hs_istore (lv' := [(0, .ref h0), (1, hs_V a), (2, hs_V b), (3, hs_V u), (4, hs_V 0)]) C dX0_arrange_1 (by decide) [1, 2, 3, 4, 0] rfl ?_
  refine hs_iload_n C dX0_arrange_3 rfl 1 rfl ?_
  refine hs_iconst C dX0_arrange_4 ?_
  refine hs_iadd C dX0_arrange_5 ?_
  refine hs_istore (lv' := [(0, .ref h0), (1, hs_V a), (2, hs_V b), (3, hs_V u), (4, hs_V 0), (5, hs_V (a + 1))]) C dX0_arrange_6 (by decide) [1, 2, 3, 4, 5, 0] rfl ?_
  have Lp1 : ∀ (k : Nat) (i : Int) (ch : Int) (g1 : Int → Int), (a + 1 ≤ i ∧ i ≤ b + 1) → (∀ k, 0 ≤ g1 k ∧ g1 k ≤ 50) → (hs_up (fun i (x : Int × (Int → Int)) => (pu_ins a u i x.1 x.2).2) i (b + 1) (ch, g1) = pu_arr g a b u) → (b + 1 - i < (k : Int)) → hs_J p l e ({ frames := 1, cells := 0, slots := 0, locals := 23 } : Room) s m args below meth c D A H0 7 0 0 Q 8 [(0, .ref h0), (1, hs_V a), (2, hs_V b), (3, hs_V u), (4, hs_V ch), (5, hs_V i)] [] [hs_ob h0 0 [.ref h1, hs_V n], hs_ia cI h1 40 g1] := by
    intro k
    induction k with
    | zero =>
      intro i ch g1 hi hg1 hL hk
      exact absurd hk (by omega)
    | succ k ih =>
      intro i ch g1 hi hg1 hL hk
      have ih2 := ih
      refine hs_iload C dX0_arrange_8 5 rfl ?_
      refine hs_iload_n C dX0_arrange_10 rfl 2 rfl ?_
      refine hs_icmp_gt (tgt := 72) C dX0_arrange_11 (by decide) (by omega) (by omega) (fun c3 => ?_) (fun c3 => ?_)
      ·
        refine hs_iload C dX0_arrange_72 4 rfl ?_
        refine hs_cast (ws' := [hs_ob h0 0 [.ref h1, hs_V n], hs_ia cI h1 40 (pu_arr g a b u).2]) ?_ rfl rfl rfl (by rw [← hL, hs_up_done (by omega)])
        exact hret _ _ _ () (by rw [← hL, hs_up_done (by omega)]) dX0_arrange_74 rfl
      ·
        refine hs_iload C dX0_arrange_14 5 rfl ?_
        refine hs_istore (lv' := [(0, .ref h0), (1, hs_V a), (2, hs_V b), (3, hs_V u), (4, hs_V ch), (5, hs_V i), (6, hs_V i)]) C dX0_arrange_16 (by decide) [1, 2, 3, 4, 5, 6, 0] rfl ?_
        have Lp4 : ∀ (k : Nat) (j : Int) (c2 : Int) (g2 : Int → Int), (a ≤ j ∧ j ≤ i) → (∀ k, 0 ≤ g2 k ∧ g2 k ≤ 50) → (hs_wh (pu_insP a u) pu_insF k (j, c2, g2) = pu_ins a u i ch g1) → (j - a < (k : Int)) → hs_J p l e ({ frames := 1, cells := 0, slots := 0, locals := 23 } : Room) s m args below meth c D A H0 7 0 0 Q 18 [(0, .ref h0), (1, hs_V a), (2, hs_V b), (3, hs_V u), (4, hs_V c2), (5, hs_V i), (6, hs_V j)] [] [hs_ob h0 0 [.ref h1, hs_V n], hs_ia cI h1 40 g2] := by
          intro k
          induction k with
          | zero =>
            intro j c2 g2 hj hg2 hM hk
            exact absurd hk (by omega)
          | succ k ih =>
            intro j c2 g2 hj hg2 hM hk
            have ih5 := ih
            refine hs_iload C dX0_arrange_18 6 rfl ?_
            refine hs_iload_n C dX0_arrange_20 rfl 1 rfl ?_
            refine hs_icmp_le (tgt := 66) C dX0_arrange_21 (by decide) (by omega) (by omega) (fun c6 => ?_) (fun c6 => ?_)
            ·
              refine hs_iinc (lv' := [(0, .ref h0), (1, hs_V a), (2, hs_V b), (3, hs_V u), (4, hs_V c2), (5, hs_V (i + 1)), (6, hs_V j)]) C dX0_arrange_66 5 rfl (by decide) [1, 2, 3, 4, 5, 0, 6] rfl ?_
              refine hs_goto (tgt := 8) C dX0_arrange_69 (by decide) ?_
              refine hs_lvs (lv' := [(0, .ref h0), (1, hs_V a), (2, hs_V b), (3, hs_V u), (4, hs_V c2), (5, hs_V (i + 1))]) [0, 1, 2, 3, 4, 5] rfl ?_
              exact ih2 (i + 1) c2 g2 (by omega) hg2 (by have hz := (hs_up_step (by omega)).symm.trans hL; simp only [] at hz; rw [← hM, hs_wh_done (show ¬ pu_insP a u (j, c2, g2) by unfold pu_insP; simp only []; omega)] at hz; exact hz) (by omega)
            ·
              refine hs_aload_n C dX0_arrange_24 rfl 0 rfl ?_
              refine hs_get C u0 0 rfl rfl 0 (by decide) f9 rfl rfl dX0_arrange_25 ?_
              refine hs_iload C dX0_arrange_28 6 rfl ?_
              refine hs_iconst C dX0_arrange_30 ?_
              refine hs_isub C dX0_arrange_31 ?_
              refine hs_iald C 1 rfl (by omega) dX0_arrange_32 ?_
              have b7 := hg2 (j - 1)
              refine hs_aload_n C dX0_arrange_33 rfl 0 rfl ?_
              refine hs_get C u0 0 rfl rfl 0 (by decide) f9 rfl rfl dX0_arrange_34 ?_
              refine hs_iload C dX0_arrange_37 6 rfl ?_
              refine hs_iald C 1 rfl (by omega) dX0_arrange_39 ?_
              have b8 := hg2 j
              refine hs_iload_n C dX0_arrange_40 rfl 3 rfl ?_
              refine hs_callSi (win := []) (wr := [hs_ob h0 0 [.ref h1, hs_V n], hs_ia cI h1 40 g2]) (As := [hs_V (g2 (j - 1)), hs_V (g2 j), hs_V u]) (rest := []) C (c_X0_isWrong l D cI cO (g2 (j - 1)) (g2 j) u (by omega) (by omega) (by omega)) (va_cwS 3 C.1.2.2.2.2 gX0_arrange_X0_isWrong rfl rfl rfl (by decide +kernel) ⟨Nat.le_of_ble_eq_true rfl, Nat.le_of_ble_eq_true rfl⟩) rfl rfl (Nat.le_of_ble_eq_true rfl) dX0_arrange_41 ⟨Nat.le_of_ble_eq_true rfl, Nat.le_of_ble_eq_true rfl⟩ (fun rr uu9 hp => ?_)
              obtain rfl := hp
              refine hs_re0 (w' := [hs_ob h0 0 [.ref h1, hs_V n], hs_ia cI h1 40 g2]) [0, 1] rfl (by decide) ?_
              refine hs_ifeq_b (tgt := 66) C dX0_arrange_44 (by decide) (fun c10 => ?_) (fun c10 => ?_)
              ·
                refine hs_iinc (lv' := [(0, .ref h0), (1, hs_V a), (2, hs_V b), (3, hs_V u), (4, hs_V c2), (5, hs_V (i + 1)), (6, hs_V j)]) C dX0_arrange_66 5 rfl (by decide) [1, 2, 3, 4, 5, 0, 6] rfl ?_
                refine hs_goto (tgt := 8) C dX0_arrange_69 (by decide) ?_
                refine hs_lvs (lv' := [(0, .ref h0), (1, hs_V a), (2, hs_V b), (3, hs_V u), (4, hs_V c2), (5, hs_V (i + 1))]) [0, 1, 2, 3, 4, 5] rfl ?_
                exact ih2 (i + 1) c2 g2 (by omega) hg2 (by have hz := (hs_up_step (by omega)).symm.trans hL; simp only [] at hz; rw [← hM, hs_wh_done (show ¬ pu_insP a u (j, c2, g2) by unfold pu_insP; simp only []; omega)] at hz; exact hz) (by omega)
              ·
                refine hs_aload_n C dX0_arrange_47 rfl 0 rfl ?_
                refine hs_iload C dX0_arrange_48 6 rfl ?_
                refine hs_iconst C dX0_arrange_50 ?_
                refine hs_isub C dX0_arrange_51 ?_
                refine hs_iload C dX0_arrange_52 6 rfl ?_
                refine hs_callVv (win := [hs_ob h0 0 [.ref h1, hs_V n], hs_ia cI h1 40 g2]) (wr := []) (As := [hs_V (j - 1), hs_V j]) (rest := []) C (c_X0_exchange l D cI cO h0 h1 n g2 (j - 1) j (by omega)) 0 0 rfl rfl rfl (cwV 2 C.1.2.2.2.2 gX0_arrange_X0_exchange rfl rfl rfl (by decide +kernel) ⟨Nat.le_of_ble_eq_true rfl, Nat.le_of_ble_eq_true rfl⟩) rfl rfl (Nat.le_of_ble_eq_true rfl) dX0_arrange_54 ⟨Nat.le_of_ble_eq_true rfl, Nat.le_of_ble_eq_true rfl⟩ (fun uu11 hp => ?_)
                refine hs_re0 (w' := [hs_ob h0 0 [.ref h1, hs_V n], hs_ia cI h1 40 (pu_ex g2 (j - 1) j)]) [0, 1] rfl (by decide) ?_
                have hb54 := pu_ex_bd (i := j - 1) (j := j) hg2
                refine hs_iinc (lv' := [(0, .ref h0), (1, hs_V a), (2, hs_V b), (3, hs_V u), (4, hs_V (c2 + 1)), (5, hs_V i), (6, hs_V j)]) C dX0_arrange_57 4 rfl (by decide) [1, 2, 3, 4, 0, 5, 6] rfl ?_
                refine hs_iinc (lv' := [(0, .ref h0), (1, hs_V a), (2, hs_V b), (3, hs_V u), (4, hs_V (c2 + 1)), (5, hs_V i), (6, hs_V (j + (-1)))]) C dX0_arrange_60 6 rfl (by decide) [1, 2, 3, 4, 5, 6, 0] rfl ?_
                refine hs_goto (tgt := 18) C dX0_arrange_63 (by decide) ?_
                exact ih5 (j + (-1)) (c2 + 1) (pu_ex g2 (j - 1) j) (by omega) hb54 (by have hz := (hs_wh_step (P := pu_insP a u) (f := pu_insF) (n := k) (x := (j, c2, g2)) (by unfold pu_insP; simp only []; omega)).symm.trans hM; exact hz) (by omega)
        exact Lp4 ((i - a : Int).toNat + 1) i ch g1 (by omega) hg1 (rfl) (by omega)
  exact Lp1 ((b + 1 - (a + 1) : Int).toNat + 1) (a + 1) 0 g (by omega) hg (rfl) (by omega)

set_option maxHeartbeats 4000000 in
set_option maxRecDepth 100000 in
theorem c_X0_greatestHeight (l : Launch) (D : va_G) (cI cO : ClassId) (h0 : Nat) (h1 : Nat) (n : Int) (g : Int → Int) (hn : 0 ≤ n ∧ n ≤ 40) (hg : ∀ k, 0 ≤ g k ∧ g k ≤ 50) : hs_M l D cI cO yX0_greatestHeight wsX0_greatestHeight ({ frames := 1, cells := 0, slots := 0, locals := 24 } : Room) [.ref h0] [hs_ob h0 0 [.ref h1, hs_V n], hs_ia cI h1 40 g] (fun r (_ : Unit) => r = hs_I (pu_gh g n)) (fun _ => [hs_ob h0 0 [.ref h1, hs_V n], hs_ia cI h1 40 g]) 0 0 := by
  refine hs_enter (cc := cX0_greatestHeight) (maxL := 1) (by decide +kernel) rfl (Nat.le_of_ble_eq_true rfl) (fun p e s m args below meth c A H0 Q C hret => ?_)
  have f15 := C.1.2.2.2.2 (.fieldLink RX0 15 "HistogramStairs$Columns" "size" "I") (by decide +kernel)
  have u0 : ∀ w ∈ wsX00, w ∈ wsX0_greatestHeight := by decide +kernel
  have f9 := C.1.2.2.2.2 (.fieldLink RX0 9 "HistogramStairs$Columns" "heights" "[I") (by decide +kernel)
  have n42 : va_Nw (.methodLinkNest RX0 42 yX6_lowestGreatest RX6) s := C.2.2.1.2.1 (RX0, 42, yX6_lowestGreatest) (by decide +kernel)
  have in42 := C.1.2.2.2.2 (.initialized (yX6_lowestGreatest).cls) (by decide +kernel)
  have sn42 := C.1.2.2.2.2 (.static yX6_lowestGreatest) (by decide +kernel)
  refine hs_lvs (lv' := [(0, .ref h0)]) [0] rfl ?_
  refine hs_aload_n C dX0_greatestHeight_0 rfl 0 rfl ?_
  refine hs_get C u0 0 rfl rfl 1 (by decide) f15 rfl rfl dX0_greatestHeight_1 ?_
  refine hs_if_ne (tgt := 11) C dX0_greatestHeight_4 (by decide) (by omega) (fun c1 => ?_) (fun c1 => ?_)
  ·
    refine hs_aload_n C dX0_greatestHeight_11 rfl 0 rfl ?_
    refine hs_get C u0 0 rfl rfl 0 (by decide) f9 rfl rfl dX0_greatestHeight_12 ?_
    refine hs_aload_n C dX0_greatestHeight_15 rfl 0 rfl ?_
    refine hs_get C u0 0 rfl rfl 0 (by decide) f9 rfl rfl dX0_greatestHeight_16 ?_
    refine hs_iconst C dX0_greatestHeight_19 ?_
    refine hs_aload_n C dX0_greatestHeight_20 rfl 0 rfl ?_
    refine hs_get C u0 0 rfl rfl 1 (by decide) f15 rfl rfl dX0_greatestHeight_21 ?_
    refine hs_iconst C dX0_greatestHeight_24 ?_
    refine hs_isub C dX0_greatestHeight_25 ?_
    refine hs_re0 (w' := [hs_ia cI h1 40 g, hs_ob h0 0 [.ref h1, hs_V n]]) [1, 0] rfl (by decide) ?_
    refine hs_callSNi (win := [hs_ia cI h1 40 g]) (wr := [hs_ob h0 0 [.ref h1, hs_V n]]) (As := [.ref h1, hs_V 0, hs_V (n - 1)]) (rest := [.ref h1]) C (c_X6_lowestGreatest l D cI cO h1 g 0 (n - 1) (by omega) (fun k => by have := hg k; omega)) ⟨va_cnB 3 C.1.2.2.2.2 gX0_greatestHeight_X6_lowestGreatest_n42 rfl rfl rfl n42 in42 (by decide +kernel) ⟨Nat.le_of_ble_eq_true rfl, Nat.le_of_ble_eq_true rfl⟩, sn42, trivial⟩ rfl rfl (Nat.le_of_ble_eq_true rfl) dX0_greatestHeight_26 ⟨Nat.le_of_ble_eq_true rfl, Nat.le_of_ble_eq_true rfl⟩ (fun rr uu2 hp => ?_)
    obtain rfl := hp
    refine hs_re0 (w' := [hs_ob h0 0 [.ref h1, hs_V n], hs_ia cI h1 40 g]) [1, 0] rfl (by decide) ?_
    have hr26 := pu_lg_rg g (a := 0) (b := n - 1) (by omega)
    refine hs_iald C 1 rfl (by omega) dX0_greatestHeight_29 ?_
    have b3 := hg (pu_lg g 0 (n - 1))
    exact hret _ _ _ () (by unfold pu_gh; first | rw [if_pos (by omega)] | rw [if_neg (by omega)]) dX0_greatestHeight_30 rfl
  ·
    refine hs_iconst C dX0_greatestHeight_7 ?_
    refine hs_goto (tgt := 30) C dX0_greatestHeight_8 (by decide) ?_
    exact hret _ _ _ () (by unfold pu_gh; first | rw [if_pos (by omega)] | rw [if_neg (by omega)]) dX0_greatestHeight_30 rfl

set_option maxHeartbeats 4000000 in
set_option maxRecDepth 100000 in
theorem c_X0_countSeen_1 (l : Launch) (D : va_G) (cI cO : ClassId) (h0 : Nat) (h1 : Nat) (n : Int) (g : Int → Int) (hn : 0 ≤ n ∧ n ≤ 40) (hg : ∀ k, 0 ≤ g k ∧ g k ≤ 50) : hs_M l D cI cO yX0_countSeen wsX0_countSeen ({ frames := 0, cells := 0, slots := 0, locals := 0 } : Room) [.ref h0, hs_V 1] [hs_ob h0 0 [.ref h1, hs_V n], hs_ia cI h1 40 g] (fun r (_ : Unit) => r = hs_I (pu_seenL g n).1) (fun _ => [hs_ob h0 0 [.ref h1, hs_V n], hs_ia cI h1 40 g]) 0 0 := by
  refine hs_enter (cc := cX0_countSeen) (maxL := 6) (by decide +kernel) rfl (Nat.le_of_ble_eq_true rfl) (fun p e s m args below meth c A H0 Q C hret => ?_)
  have f15 := C.1.2.2.2.2 (.fieldLink RX0 15 "HistogramStairs$Columns" "size" "I") (by decide +kernel)
  have u0 : ∀ w ∈ wsX00, w ∈ wsX0_countSeen := by decide +kernel
  have f9 := C.1.2.2.2.2 (.fieldLink RX0 9 "HistogramStairs$Columns" "heights" "[I") (by decide +kernel)
  refine hs_lvs (lv' := [(0, .ref h0), (1, hs_V 1)]) [0, 1] rfl ?_
  refine hs_iconst C dX0_countSeen_0 ?_
  refine hs_istore_n (lv' := [(0, .ref h0), (1, hs_V 1), (2, hs_V 0)]) C dX0_countSeen_1 rfl (by decide) [1, 2, 0] rfl ?_
  refine hs_iconst C dX0_countSeen_2 ?_
  refine hs_istore_n (lv' := [(0, .ref h0), (1, hs_V 1), (2, hs_V 0), (3, hs_V (-1))]) C dX0_countSeen_3 rfl (by decide) [1, 2, 3, 0] rfl ?_
  refine hs_iconst C dX0_countSeen_4 ?_
  refine hs_istore (lv' := [(0, .ref h0), (1, hs_V 1), (2, hs_V 0), (3, hs_V (-1)), (4, hs_V 0)]) C dX0_countSeen_5 (by decide) [1, 2, 3, 4, 0] rfl ?_
  have Lp1 : ∀ (k : Nat) (q : Int) (x : Int) (y : Int), (0 ≤ q ∧ q ≤ n) → (-1 ≤ y ∧ y ≤ 50) → (hs_up (fun q (x : Int × Int) => if g (q) ≤ x.2 then x else (x.1 + 1, g (q))) q n (x, y) = pu_seenL g n) → (n - q < (k : Int)) → hs_J p l e ({ frames := 0, cells := 0, slots := 0, locals := 0 } : Room) s m args below meth c D A H0 6 0 0 Q 7 [(0, .ref h0), (1, hs_V 1), (2, hs_V x), (3, hs_V y), (4, hs_V q)] [] [hs_ob h0 0 [.ref h1, hs_V n], hs_ia cI h1 40 g] := by
    intro k
    induction k with
    | zero =>
      intro q x y hq hy hL hk
      exact absurd hk (by omega)
    | succ k ih =>
      intro q x y hq hy hL hk
      have ih2 := ih
      refine hs_iload C dX0_countSeen_7 4 rfl ?_
      refine hs_aload_n C dX0_countSeen_9 rfl 0 rfl ?_
      refine hs_get C u0 0 rfl rfl 1 (by decide) f15 rfl rfl dX0_countSeen_10 ?_
      refine hs_icmp_ge (tgt := 64) C dX0_countSeen_13 (by decide) (by omega) (by omega) (fun c3 => ?_) (fun c3 => ?_)
      ·
        refine hs_iload_n C dX0_countSeen_64 rfl 2 rfl ?_
        exact hret _ _ _ () (by rw [← hL, hs_up_done (by omega)]) dX0_countSeen_65 rfl
      ·
        refine hs_iload_n C dX0_countSeen_16 rfl 1 rfl ?_
        refine hs_if_eq (tgt := 25) C dX0_countSeen_17 (by decide) (by omega) (fun c4 => ?_) (fun c4 => ?_)
        ·
          exact absurd c4 (by decide)
        ·
          refine hs_iload C dX0_countSeen_20 4 rfl ?_
          refine hs_goto (tgt := 34) C dX0_countSeen_22 (by decide) ?_
          refine hs_istore (lv' := [(0, .ref h0), (1, hs_V 1), (2, hs_V x), (3, hs_V y), (4, hs_V q), (5, hs_V q)]) C dX0_countSeen_34 (by decide) [1, 2, 3, 4, 5, 0] rfl ?_
          refine hs_aload_n C dX0_countSeen_36 rfl 0 rfl ?_
          refine hs_get C u0 0 rfl rfl 0 (by decide) f9 rfl rfl dX0_countSeen_37 ?_
          refine hs_iload C dX0_countSeen_40 5 rfl ?_
          refine hs_iald C 1 rfl (by omega) dX0_countSeen_42 ?_
          have b5 := hg q
          refine hs_iload_n C dX0_countSeen_43 rfl 3 rfl ?_
          refine hs_icmp_le (tgt := 58) C dX0_countSeen_44 (by decide) (by omega) (by omega) (fun c6 => ?_) (fun c6 => ?_)
          ·
            refine hs_iinc (lv' := [(0, .ref h0), (1, hs_V 1), (2, hs_V x), (3, hs_V y), (4, hs_V (q + 1)), (5, hs_V q)]) C dX0_countSeen_58 4 rfl (by decide) [1, 2, 3, 4, 0, 5] rfl ?_
            refine hs_goto (tgt := 7) C dX0_countSeen_61 (by decide) ?_
            refine hs_lvs (lv' := [(0, .ref h0), (1, hs_V 1), (2, hs_V x), (3, hs_V y), (4, hs_V (q + 1))]) [0, 1, 2, 3, 4] rfl ?_
            exact ih2 (q + 1) x y (by omega) (by omega) (by have hz := (hs_up_step (by omega)).symm.trans hL; (try dsimp only at hz); first | exact hz | (split at hz <;> first | exact hz | (exfalso; omega) | (split at hz <;> first | exact hz | (exfalso; omega) | (split at hz <;> first | exact hz | (exfalso; omega))))) (by omega)
          ·
            refine hs_aload_n C dX0_countSeen_47 rfl 0 rfl ?_
            refine hs_get C u0 0 rfl rfl 0 (by decide) f9 rfl rfl dX0_countSeen_48 ?_
            refine hs_iload C dX0_countSeen_51 5 rfl ?_
            refine hs_iald C 1 rfl (by omega) dX0_countSeen_53 ?_
            have b7 := hg q
            refine hs_istore_n (lv' := [(0, .ref h0), (1, hs_V 1), (2, hs_V x), (3, hs_V (g q)), (4, hs_V q), (5, hs_V q)]) C dX0_countSeen_54 rfl (by decide) [1, 2, 3, 0, 4, 5] rfl ?_
            refine hs_iinc (lv' := [(0, .ref h0), (1, hs_V 1), (2, hs_V (x + 1)), (3, hs_V (g q)), (4, hs_V q), (5, hs_V q)]) C dX0_countSeen_55 2 rfl (by decide) [1, 2, 0, 3, 4, 5] rfl ?_
            refine hs_iinc (lv' := [(0, .ref h0), (1, hs_V 1), (2, hs_V (x + 1)), (3, hs_V (g q)), (4, hs_V (q + 1)), (5, hs_V q)]) C dX0_countSeen_58 4 rfl (by decide) [1, 2, 3, 4, 0, 5] rfl ?_
            refine hs_goto (tgt := 7) C dX0_countSeen_61 (by decide) ?_
            refine hs_lvs (lv' := [(0, .ref h0), (1, hs_V 1), (2, hs_V (x + 1)), (3, hs_V (g q)), (4, hs_V (q + 1))]) [0, 1, 2, 3, 4] rfl ?_
            exact ih2 (q + 1) (x + 1) (g q) (by omega) (by omega) (by have hz := (hs_up_step (by omega)).symm.trans hL; (try dsimp only at hz); first | exact hz | (split at hz <;> first | exact hz | (exfalso; omega) | (split at hz <;> first | exact hz | (exfalso; omega) | (split at hz <;> first | exact hz | (exfalso; omega))))) (by omega)
  exact Lp1 ((n - 0 : Int).toNat + 1) 0 0 (-1) (by omega) (by omega) (rfl) (by omega)

set_option maxHeartbeats 4000000 in
set_option maxRecDepth 100000 in
theorem c_X0_countSeen_0 (l : Launch) (D : va_G) (cI cO : ClassId) (h0 : Nat) (h1 : Nat) (n : Int) (g : Int → Int) (hn : 0 ≤ n ∧ n ≤ 40) (hg : ∀ k, 0 ≤ g k ∧ g k ≤ 50) : hs_M l D cI cO yX0_countSeen wsX0_countSeen ({ frames := 0, cells := 0, slots := 0, locals := 0 } : Room) [.ref h0, hs_V 0] [hs_ob h0 0 [.ref h1, hs_V n], hs_ia cI h1 40 g] (fun r (_ : Unit) => r = hs_I (pu_seenR g n).1) (fun _ => [hs_ob h0 0 [.ref h1, hs_V n], hs_ia cI h1 40 g]) 0 0 := by
  refine hs_enter (cc := cX0_countSeen) (maxL := 6) (by decide +kernel) rfl (Nat.le_of_ble_eq_true rfl) (fun p e s m args below meth c A H0 Q C hret => ?_)
  have f15 := C.1.2.2.2.2 (.fieldLink RX0 15 "HistogramStairs$Columns" "size" "I") (by decide +kernel)
  have u0 : ∀ w ∈ wsX00, w ∈ wsX0_countSeen := by decide +kernel
  have f9 := C.1.2.2.2.2 (.fieldLink RX0 9 "HistogramStairs$Columns" "heights" "[I") (by decide +kernel)
  refine hs_lvs (lv' := [(0, .ref h0), (1, hs_V 0)]) [0, 1] rfl ?_
  refine hs_iconst C dX0_countSeen_0 ?_
  refine hs_istore_n (lv' := [(0, .ref h0), (1, hs_V 0), (2, hs_V 0)]) C dX0_countSeen_1 rfl (by decide) [1, 2, 0] rfl ?_
  refine hs_iconst C dX0_countSeen_2 ?_
  refine hs_istore_n (lv' := [(0, .ref h0), (1, hs_V 0), (2, hs_V 0), (3, hs_V (-1))]) C dX0_countSeen_3 rfl (by decide) [1, 2, 3, 0] rfl ?_
  refine hs_iconst C dX0_countSeen_4 ?_
  refine hs_istore (lv' := [(0, .ref h0), (1, hs_V 0), (2, hs_V 0), (3, hs_V (-1)), (4, hs_V 0)]) C dX0_countSeen_5 (by decide) [1, 2, 3, 4, 0] rfl ?_
  have Lp1 : ∀ (k : Nat) (q : Int) (x : Int) (y : Int), (0 ≤ q ∧ q ≤ n) → (-1 ≤ y ∧ y ≤ 50) → (hs_up (fun q (x : Int × Int) => if g (n - 1 - q) ≤ x.2 then x else (x.1 + 1, g (n - 1 - q))) q n (x, y) = pu_seenR g n) → (n - q < (k : Int)) → hs_J p l e ({ frames := 0, cells := 0, slots := 0, locals := 0 } : Room) s m args below meth c D A H0 6 0 0 Q 7 [(0, .ref h0), (1, hs_V 0), (2, hs_V x), (3, hs_V y), (4, hs_V q)] [] [hs_ob h0 0 [.ref h1, hs_V n], hs_ia cI h1 40 g] := by
    intro k
    induction k with
    | zero =>
      intro q x y hq hy hL hk
      exact absurd hk (by omega)
    | succ k ih =>
      intro q x y hq hy hL hk
      have ih2 := ih
      refine hs_iload C dX0_countSeen_7 4 rfl ?_
      refine hs_aload_n C dX0_countSeen_9 rfl 0 rfl ?_
      refine hs_get C u0 0 rfl rfl 1 (by decide) f15 rfl rfl dX0_countSeen_10 ?_
      refine hs_icmp_ge (tgt := 64) C dX0_countSeen_13 (by decide) (by omega) (by omega) (fun c3 => ?_) (fun c3 => ?_)
      ·
        refine hs_iload_n C dX0_countSeen_64 rfl 2 rfl ?_
        exact hret _ _ _ () (by rw [← hL, hs_up_done (by omega)]) dX0_countSeen_65 rfl
      ·
        refine hs_iload_n C dX0_countSeen_16 rfl 1 rfl ?_
        refine hs_if_eq (tgt := 25) C dX0_countSeen_17 (by decide) (by omega) (fun c4 => ?_) (fun c4 => ?_)
        ·
          refine hs_aload_n C dX0_countSeen_25 rfl 0 rfl ?_
          refine hs_get C u0 0 rfl rfl 1 (by decide) f15 rfl rfl dX0_countSeen_26 ?_
          refine hs_iconst C dX0_countSeen_29 ?_
          refine hs_isub C dX0_countSeen_30 ?_
          refine hs_iload C dX0_countSeen_31 4 rfl ?_
          refine hs_isub C dX0_countSeen_33 ?_
          refine hs_istore (lv' := [(0, .ref h0), (1, hs_V 0), (2, hs_V x), (3, hs_V y), (4, hs_V q), (5, hs_V ((n - 1) - q))]) C dX0_countSeen_34 (by decide) [1, 2, 3, 4, 5, 0] rfl ?_
          refine hs_aload_n C dX0_countSeen_36 rfl 0 rfl ?_
          refine hs_get C u0 0 rfl rfl 0 (by decide) f9 rfl rfl dX0_countSeen_37 ?_
          refine hs_iload C dX0_countSeen_40 5 rfl ?_
          refine hs_iald C 1 rfl (by omega) dX0_countSeen_42 ?_
          have b5 := hg ((n - 1) - q)
          refine hs_iload_n C dX0_countSeen_43 rfl 3 rfl ?_
          refine hs_icmp_le (tgt := 58) C dX0_countSeen_44 (by decide) (by omega) (by omega) (fun c6 => ?_) (fun c6 => ?_)
          ·
            refine hs_iinc (lv' := [(0, .ref h0), (1, hs_V 0), (2, hs_V x), (3, hs_V y), (4, hs_V (q + 1)), (5, hs_V ((n - 1) - q))]) C dX0_countSeen_58 4 rfl (by decide) [1, 2, 3, 4, 0, 5] rfl ?_
            refine hs_goto (tgt := 7) C dX0_countSeen_61 (by decide) ?_
            refine hs_lvs (lv' := [(0, .ref h0), (1, hs_V 0), (2, hs_V x), (3, hs_V y), (4, hs_V (q + 1))]) [0, 1, 2, 3, 4] rfl ?_
            exact ih2 (q + 1) x y (by omega) (by omega) (by have hz := (hs_up_step (by omega)).symm.trans hL; (try dsimp only at hz); first | exact hz | (split at hz <;> first | exact hz | (exfalso; omega) | (split at hz <;> first | exact hz | (exfalso; omega) | (split at hz <;> first | exact hz | (exfalso; omega))))) (by omega)
          ·
            refine hs_aload_n C dX0_countSeen_47 rfl 0 rfl ?_
            refine hs_get C u0 0 rfl rfl 0 (by decide) f9 rfl rfl dX0_countSeen_48 ?_
            refine hs_iload C dX0_countSeen_51 5 rfl ?_
            refine hs_iald C 1 rfl (by omega) dX0_countSeen_53 ?_
            have b7 := hg ((n - 1) - q)
            refine hs_istore_n (lv' := [(0, .ref h0), (1, hs_V 0), (2, hs_V x), (3, hs_V (g ((n - 1) - q))), (4, hs_V q), (5, hs_V ((n - 1) - q))]) C dX0_countSeen_54 rfl (by decide) [1, 2, 3, 0, 4, 5] rfl ?_
            refine hs_iinc (lv' := [(0, .ref h0), (1, hs_V 0), (2, hs_V (x + 1)), (3, hs_V (g ((n - 1) - q))), (4, hs_V q), (5, hs_V ((n - 1) - q))]) C dX0_countSeen_55 2 rfl (by decide) [1, 2, 0, 3, 4, 5] rfl ?_
            refine hs_iinc (lv' := [(0, .ref h0), (1, hs_V 0), (2, hs_V (x + 1)), (3, hs_V (g ((n - 1) - q))), (4, hs_V (q + 1)), (5, hs_V ((n - 1) - q))]) C dX0_countSeen_58 4 rfl (by decide) [1, 2, 3, 4, 0, 5] rfl ?_
            refine hs_goto (tgt := 7) C dX0_countSeen_61 (by decide) ?_
            refine hs_lvs (lv' := [(0, .ref h0), (1, hs_V 0), (2, hs_V (x + 1)), (3, hs_V (g ((n - 1) - q))), (4, hs_V (q + 1))]) [0, 1, 2, 3, 4] rfl ?_
            exact ih2 (q + 1) (x + 1) (g ((n - 1) - q)) (by omega) (by omega) (by have hz := (hs_up_step (by omega)).symm.trans hL; (try dsimp only at hz); first | exact hz | (split at hz <;> first | exact hz | (exfalso; omega) | (split at hz <;> first | exact hz | (exfalso; omega) | (split at hz <;> first | exact hz | (exfalso; omega))))) (by omega)
        ·
          exact absurd c4 (by decide)
  exact Lp1 ((n - 0 : Int).toNat + 1) 0 0 (-1) (by omega) (by omega) (rfl) (by omega)

set_option maxHeartbeats 4000000 in
set_option maxRecDepth 100000 in
theorem c_X0_countRises (l : Launch) (D : va_G) (cI cO : ClassId) (h0 : Nat) (h1 : Nat) (n : Int) (g : Int → Int) (hn : 0 ≤ n ∧ n ≤ 40) (hg : ∀ k, 0 ≤ g k ∧ g k ≤ 50) : hs_M l D cI cO yX0_countRises wsX0_countRises ({ frames := 1, cells := 0, slots := 0, locals := 21 } : Room) [.ref h0] [hs_ob h0 0 [.ref h1, hs_V n], hs_ia cI h1 40 g] (fun r (_ : Unit) => r = hs_I (pu_rises g n).1) (fun _ => [hs_ob h0 0 [.ref h1, hs_V n], hs_ia cI h1 40 g]) 0 0 := by
  refine hs_enter (cc := cX0_countRises) (maxL := 4) (by decide +kernel) rfl (Nat.le_of_ble_eq_true rfl) (fun p e s m args below meth c A H0 Q C hret => ?_)
  have f15 := C.1.2.2.2.2 (.fieldLink RX0 15 "HistogramStairs$Columns" "size" "I") (by decide +kernel)
  have u0 : ∀ w ∈ wsX00, w ∈ wsX0_countRises := by decide +kernel
  have f9 := C.1.2.2.2.2 (.fieldLink RX0 9 "HistogramStairs$Columns" "heights" "[I") (by decide +kernel)
  have m31 := C.1.2.2.2.2 (.methodLink RX0 31 Lib.Math.max.name) (by decide +kernel)
  have smax := C.1.2.2.2.2 (.static Lib.Math.max.name) (by decide +kernel)
  have iM := C.1.2.2.2.2 (.initialized "java/lang/Math") (by decide +kernel)
  have kmax := C.1.2.2.2.2 (.code Lib.Math.max.name Lib.Math.max.code 2 (some .int)) (by decide +kernel)
  refine hs_lvs (lv' := [(0, .ref h0)]) [0] rfl ?_
  refine hs_iconst C dX0_countRises_0 ?_
  refine hs_istore_n (lv' := [(0, .ref h0), (1, hs_V 0)]) C dX0_countRises_1 rfl (by decide) [1, 0] rfl ?_
  refine hs_iconst C dX0_countRises_2 ?_
  refine hs_istore_n (lv' := [(0, .ref h0), (1, hs_V 0), (2, hs_V 0)]) C dX0_countRises_3 rfl (by decide) [1, 2, 0] rfl ?_
  refine hs_iconst C dX0_countRises_4 ?_
  refine hs_istore_n (lv' := [(0, .ref h0), (1, hs_V 0), (2, hs_V 0), (3, hs_V 0)]) C dX0_countRises_5 rfl (by decide) [1, 2, 3, 0] rfl ?_
  have Lp1 : ∀ (k : Nat) (i : Int) (x : Int) (y : Int), (0 ≤ i ∧ i ≤ n) → (0 ≤ y ∧ y ≤ 50) → (hs_up (fun i (x : Int × Int) => (x.1 + max 0 (g i - x.2), g i)) i n (x, y) = pu_rises g n) → (n - i < (k : Int)) → hs_J p l e ({ frames := 1, cells := 0, slots := 0, locals := 21 } : Room) s m args below meth c D A H0 4 0 0 Q 6 [(0, .ref h0), (1, hs_V x), (2, hs_V y), (3, hs_V i)] [] [hs_ob h0 0 [.ref h1, hs_V n], hs_ia cI h1 40 g] := by
    intro k
    induction k with
    | zero =>
      intro i x y hi hy hL hk
      exact absurd hk (by omega)
    | succ k ih =>
      intro i x y hi hy hL hk
      have ih2 := ih
      refine hs_iload_n C dX0_countRises_6 rfl 3 rfl ?_
      refine hs_aload_n C dX0_countRises_7 rfl 0 rfl ?_
      refine hs_get C u0 0 rfl rfl 1 (by decide) f15 rfl rfl dX0_countRises_8 ?_
      refine hs_icmp_ge (tgt := 42) C dX0_countRises_11 (by decide) (by omega) (by omega) (fun c3 => ?_) (fun c3 => ?_)
      ·
        refine hs_iload_n C dX0_countRises_42 rfl 1 rfl ?_
        exact hret _ _ _ () (by rw [← hL, hs_up_done (by omega)]) dX0_countRises_43 rfl
      ·
        refine hs_iload_n C dX0_countRises_14 rfl 1 rfl ?_
        refine hs_iconst C dX0_countRises_15 ?_
        refine hs_aload_n C dX0_countRises_16 rfl 0 rfl ?_
        refine hs_get C u0 0 rfl rfl 0 (by decide) f9 rfl rfl dX0_countRises_17 ?_
        refine hs_iload_n C dX0_countRises_20 rfl 3 rfl ?_
        refine hs_iald C 1 rfl (by omega) dX0_countRises_21 ?_
        have b4 := hg i
        refine hs_iload_n C dX0_countRises_22 rfl 2 rfl ?_
        refine hs_isub C dX0_countRises_23 ?_
        refine hs_max C m31 smax iM kmax (Nat.le_of_ble_eq_true rfl) (Nat.le_of_ble_eq_true rfl) (Nat.zero_le _) (Nat.zero_le _) (by omega) (by omega) dX0_countRises_24 ?_
        refine hs_iadd C dX0_countRises_27 ?_
        refine hs_istore_n (lv' := [(0, .ref h0), (1, hs_V (x + (max 0 ((g i) - y)))), (2, hs_V y), (3, hs_V i)]) C dX0_countRises_28 rfl (by decide) [1, 0, 2, 3] rfl ?_
        refine hs_aload_n C dX0_countRises_29 rfl 0 rfl ?_
        refine hs_get C u0 0 rfl rfl 0 (by decide) f9 rfl rfl dX0_countRises_30 ?_
        refine hs_iload_n C dX0_countRises_33 rfl 3 rfl ?_
        refine hs_iald C 1 rfl (by omega) dX0_countRises_34 ?_
        have b5 := hg i
        refine hs_istore_n (lv' := [(0, .ref h0), (1, hs_V (x + (max 0 ((g i) - y)))), (2, hs_V (g i)), (3, hs_V i)]) C dX0_countRises_35 rfl (by decide) [1, 2, 0, 3] rfl ?_
        refine hs_iinc (lv' := [(0, .ref h0), (1, hs_V (x + (max 0 ((g i) - y)))), (2, hs_V (g i)), (3, hs_V (i + 1))]) C dX0_countRises_36 3 rfl (by decide) [1, 2, 3, 0] rfl ?_
        refine hs_goto (tgt := 6) C dX0_countRises_39 (by decide) ?_
        exact ih2 (i + 1) (x + (max 0 ((g i) - y))) (g i) (by omega) (by omega) (by have hz := (hs_up_step (by omega)).symm.trans hL; (try dsimp only at hz); first | exact hz | (split at hz <;> first | exact hz | (exfalso; omega) | (split at hz <;> first | exact hz | (exfalso; omega) | (split at hz <;> first | exact hz | (exfalso; omega))))) (by omega)
  exact Lp1 ((n - 0 : Int).toNat + 1) 0 0 0 (by omega) (by omega) (rfl) (by omega)

set_option maxHeartbeats 4000000 in
set_option maxRecDepth 100000 in
theorem c_X0_smallerToLeft (l : Launch) (D : va_G) (cI cO : ClassId) (h0 : Nat) (h1 : Nat) (n : Int) (g : Int → Int) (i : Int) (hn : 0 ≤ n ∧ n ≤ 40) (hg : ∀ k, 0 ≤ g k ∧ g k ≤ 50) (hi : 0 ≤ i ∧ i < n) : hs_M l D cI cO yX0_smallerToLeft wsX0_smallerToLeft ({ frames := 0, cells := 0, slots := 0, locals := 0 } : Room) [.ref h0, hs_V i] [hs_ob h0 0 [.ref h1, hs_V n], hs_ia cI h1 40 g] (fun r (_ : Unit) => r = hs_I (pu_sl g i)) (fun _ => [hs_ob h0 0 [.ref h1, hs_V n], hs_ia cI h1 40 g]) 0 0 := by
  refine hs_enter (cc := cX0_smallerToLeft) (maxL := 3) (by decide +kernel) rfl (Nat.le_of_ble_eq_true rfl) (fun p e s m args below meth c A H0 Q C hret => ?_)
  have f9 := C.1.2.2.2.2 (.fieldLink RX0 9 "HistogramStairs$Columns" "heights" "[I") (by decide +kernel)
  have u0 : ∀ w ∈ wsX00, w ∈ wsX0_smallerToLeft := by decide +kernel
  refine hs_lvs (lv' := [(0, .ref h0), (1, hs_V i)]) [0, 1] rfl ?_
  refine hs_iload_n C dX0_smallerToLeft_0 rfl 1 rfl ?_
  refine hs_iconst C dX0_smallerToLeft_1 ?_
  refine hs_isub C dX0_smallerToLeft_2 ?_
  refine hs_istore_n (lv' := [(0, .ref h0), (1, hs_V i), (2, hs_V (i - 1))]) C dX0_smallerToLeft_3 rfl (by decide) [1, 2, 0] rfl ?_
  have Lp1 : ∀ (k : Nat) (j : Int), (-1 ≤ j ∧ j < i) → (hs_fd1 (fun j => g j < g i) j = pu_sl g i) → (j + 1 < (k : Int)) → hs_J p l e ({ frames := 0, cells := 0, slots := 0, locals := 0 } : Room) s m args below meth c D A H0 3 0 0 Q 4 [(0, .ref h0), (1, hs_V i), (2, hs_V j)] [] [hs_ob h0 0 [.ref h1, hs_V n], hs_ia cI h1 40 g] := by
    intro k
    induction k with
    | zero =>
      intro j hj hL hk
      exact absurd hk (by omega)
    | succ k ih =>
      intro j hj hL hk
      have ih2 := ih
      refine hs_iload_n C dX0_smallerToLeft_4 rfl 2 rfl ?_
      refine hs_if_lt (tgt := 31) C dX0_smallerToLeft_5 (by decide) (by omega) (fun c3 => ?_) (fun c3 => ?_)
      ·
        refine hs_bipush C dX0_smallerToLeft_31 (by decide) ?_
        exact hret _ _ _ () (by rw [← hL, hs_fd1_done (by omega)]) dX0_smallerToLeft_33 rfl
      ·
        refine hs_aload_n C dX0_smallerToLeft_8 rfl 0 rfl ?_
        refine hs_get C u0 0 rfl rfl 0 (by decide) f9 rfl rfl dX0_smallerToLeft_9 ?_
        refine hs_iload_n C dX0_smallerToLeft_12 rfl 2 rfl ?_
        refine hs_iald C 1 rfl (by omega) dX0_smallerToLeft_13 ?_
        have b4 := hg j
        refine hs_aload_n C dX0_smallerToLeft_14 rfl 0 rfl ?_
        refine hs_get C u0 0 rfl rfl 0 (by decide) f9 rfl rfl dX0_smallerToLeft_15 ?_
        refine hs_iload_n C dX0_smallerToLeft_18 rfl 1 rfl ?_
        refine hs_iald C 1 rfl (by omega) dX0_smallerToLeft_19 ?_
        have b5 := hg i
        refine hs_icmp_ge (tgt := 25) C dX0_smallerToLeft_20 (by decide) (by omega) (by omega) (fun c6 => ?_) (fun c6 => ?_)
        ·
          refine hs_iinc (lv' := [(0, .ref h0), (1, hs_V i), (2, hs_V (j + (-1)))]) C dX0_smallerToLeft_25 2 rfl (by decide) [1, 2, 0] rfl ?_
          refine hs_goto (tgt := 4) C dX0_smallerToLeft_28 (by decide) ?_
          exact ih2 (j + (-1)) (by omega) (by have hz := (hs_fd1_step (by omega)).symm.trans hL; (try dsimp only at hz); first | exact hz | (split at hz <;> first | exact hz | (exfalso; omega) | (split at hz <;> first | exact hz | (exfalso; omega) | (split at hz <;> first | exact hz | (exfalso; omega))))) (by omega)
        ·
          refine hs_iload_n C dX0_smallerToLeft_23 rfl 2 rfl ?_
          exact hret _ _ _ () (by rw [← hL, hs_fd1_step (by omega), if_pos (by omega)]) dX0_smallerToLeft_24 rfl
  exact Lp1 (((i - 1) + 1 : Int).toNat + 1) (i - 1) (by omega) (rfl) (by omega)

set_option maxHeartbeats 4000000 in
set_option maxRecDepth 100000 in
theorem c_X0_greaterToLeft (l : Launch) (D : va_G) (cI cO : ClassId) (h0 : Nat) (h1 : Nat) (n : Int) (g : Int → Int) (i : Int) (hn : 0 ≤ n ∧ n ≤ 40) (hg : ∀ k, 0 ≤ g k ∧ g k ≤ 50) (hi : 0 ≤ i ∧ i < n) : hs_M l D cI cO yX0_greaterToLeft wsX0_greaterToLeft ({ frames := 0, cells := 0, slots := 0, locals := 0 } : Room) [.ref h0, hs_V i] [hs_ob h0 0 [.ref h1, hs_V n], hs_ia cI h1 40 g] (fun r (_ : Unit) => r = hs_I (pu_gl g i)) (fun _ => [hs_ob h0 0 [.ref h1, hs_V n], hs_ia cI h1 40 g]) 0 0 := by
  refine hs_enter (cc := cX0_greaterToLeft) (maxL := 3) (by decide +kernel) rfl (Nat.le_of_ble_eq_true rfl) (fun p e s m args below meth c A H0 Q C hret => ?_)
  have f9 := C.1.2.2.2.2 (.fieldLink RX0 9 "HistogramStairs$Columns" "heights" "[I") (by decide +kernel)
  have u0 : ∀ w ∈ wsX00, w ∈ wsX0_greaterToLeft := by decide +kernel
  refine hs_lvs (lv' := [(0, .ref h0), (1, hs_V i)]) [0, 1] rfl ?_
  refine hs_iload_n C dX0_greaterToLeft_0 rfl 1 rfl ?_
  refine hs_iconst C dX0_greaterToLeft_1 ?_
  refine hs_isub C dX0_greaterToLeft_2 ?_
  refine hs_istore_n (lv' := [(0, .ref h0), (1, hs_V i), (2, hs_V (i - 1))]) C dX0_greaterToLeft_3 rfl (by decide) [1, 2, 0] rfl ?_
  have Lp1 : ∀ (k : Nat) (j : Int), (-1 ≤ j ∧ j < i) → (hs_fd1 (fun j => g j > g i) j = pu_gl g i) → (j + 1 < (k : Int)) → hs_J p l e ({ frames := 0, cells := 0, slots := 0, locals := 0 } : Room) s m args below meth c D A H0 3 0 0 Q 4 [(0, .ref h0), (1, hs_V i), (2, hs_V j)] [] [hs_ob h0 0 [.ref h1, hs_V n], hs_ia cI h1 40 g] := by
    intro k
    induction k with
    | zero =>
      intro j hj hL hk
      exact absurd hk (by omega)
    | succ k ih =>
      intro j hj hL hk
      have ih2 := ih
      refine hs_iload_n C dX0_greaterToLeft_4 rfl 2 rfl ?_
      refine hs_if_lt (tgt := 31) C dX0_greaterToLeft_5 (by decide) (by omega) (fun c3 => ?_) (fun c3 => ?_)
      ·
        refine hs_bipush C dX0_greaterToLeft_31 (by decide) ?_
        exact hret _ _ _ () (by rw [← hL, hs_fd1_done (by omega)]) dX0_greaterToLeft_33 rfl
      ·
        refine hs_aload_n C dX0_greaterToLeft_8 rfl 0 rfl ?_
        refine hs_get C u0 0 rfl rfl 0 (by decide) f9 rfl rfl dX0_greaterToLeft_9 ?_
        refine hs_iload_n C dX0_greaterToLeft_12 rfl 2 rfl ?_
        refine hs_iald C 1 rfl (by omega) dX0_greaterToLeft_13 ?_
        have b4 := hg j
        refine hs_aload_n C dX0_greaterToLeft_14 rfl 0 rfl ?_
        refine hs_get C u0 0 rfl rfl 0 (by decide) f9 rfl rfl dX0_greaterToLeft_15 ?_
        refine hs_iload_n C dX0_greaterToLeft_18 rfl 1 rfl ?_
        refine hs_iald C 1 rfl (by omega) dX0_greaterToLeft_19 ?_
        have b5 := hg i
        refine hs_icmp_le (tgt := 25) C dX0_greaterToLeft_20 (by decide) (by omega) (by omega) (fun c6 => ?_) (fun c6 => ?_)
        ·
          refine hs_iinc (lv' := [(0, .ref h0), (1, hs_V i), (2, hs_V (j + (-1)))]) C dX0_greaterToLeft_25 2 rfl (by decide) [1, 2, 0] rfl ?_
          refine hs_goto (tgt := 4) C dX0_greaterToLeft_28 (by decide) ?_
          exact ih2 (j + (-1)) (by omega) (by have hz := (hs_fd1_step (by omega)).symm.trans hL; (try dsimp only at hz); first | exact hz | (split at hz <;> first | exact hz | (exfalso; omega) | (split at hz <;> first | exact hz | (exfalso; omega) | (split at hz <;> first | exact hz | (exfalso; omega))))) (by omega)
        ·
          refine hs_iload_n C dX0_greaterToLeft_23 rfl 2 rfl ?_
          exact hret _ _ _ () (by rw [← hL, hs_fd1_step (by omega), if_pos (by omega)]) dX0_greaterToLeft_24 rfl
  exact Lp1 (((i - 1) + 1 : Int).toNat + 1) (i - 1) (by omega) (rfl) (by omega)

set_option maxHeartbeats 4000000 in
set_option maxRecDepth 100000 in
theorem c_X0_smallerToRight (l : Launch) (D : va_G) (cI cO : ClassId) (h0 : Nat) (h1 : Nat) (n : Int) (g : Int → Int) (i : Int) (hn : 0 ≤ n ∧ n ≤ 40) (hg : ∀ k, 0 ≤ g k ∧ g k ≤ 50) (hi : 0 ≤ i ∧ i < n) : hs_M l D cI cO yX0_smallerToRight wsX0_smallerToRight ({ frames := 0, cells := 0, slots := 0, locals := 0 } : Room) [.ref h0, hs_V i] [hs_ob h0 0 [.ref h1, hs_V n], hs_ia cI h1 40 g] (fun r (_ : Unit) => r = hs_I (pu_sr g n i)) (fun _ => [hs_ob h0 0 [.ref h1, hs_V n], hs_ia cI h1 40 g]) 0 0 := by
  refine hs_enter (cc := cX0_smallerToRight) (maxL := 3) (by decide +kernel) rfl (Nat.le_of_ble_eq_true rfl) (fun p e s m args below meth c A H0 Q C hret => ?_)
  have f15 := C.1.2.2.2.2 (.fieldLink RX0 15 "HistogramStairs$Columns" "size" "I") (by decide +kernel)
  have u0 : ∀ w ∈ wsX00, w ∈ wsX0_smallerToRight := by decide +kernel
  have f9 := C.1.2.2.2.2 (.fieldLink RX0 9 "HistogramStairs$Columns" "heights" "[I") (by decide +kernel)
  refine hs_lvs (lv' := [(0, .ref h0), (1, hs_V i)]) [0, 1] rfl ?_
  refine hs_iload_n C dX0_smallerToRight_0 rfl 1 rfl ?_
  refine hs_iconst C dX0_smallerToRight_1 ?_
  refine hs_iadd C dX0_smallerToRight_2 ?_
  refine hs_istore_n (lv' := [(0, .ref h0), (1, hs_V i), (2, hs_V (i + 1))]) C dX0_smallerToRight_3 rfl (by decide) [1, 2, 0] rfl ?_
  have Lp1 : ∀ (k : Nat) (j : Int), (i < j ∧ j ≤ n) → (hs_fu1 (fun j => g j < g i) j n = pu_sr g n i) → (n - j < (k : Int)) → hs_J p l e ({ frames := 0, cells := 0, slots := 0, locals := 0 } : Room) s m args below meth c D A H0 3 0 0 Q 4 [(0, .ref h0), (1, hs_V i), (2, hs_V j)] [] [hs_ob h0 0 [.ref h1, hs_V n], hs_ia cI h1 40 g] := by
    intro k
    induction k with
    | zero =>
      intro j hj hL hk
      exact absurd hk (by omega)
    | succ k ih =>
      intro j hj hL hk
      have ih2 := ih
      refine hs_iload_n C dX0_smallerToRight_4 rfl 2 rfl ?_
      refine hs_aload_n C dX0_smallerToRight_5 rfl 0 rfl ?_
      refine hs_get C u0 0 rfl rfl 1 (by decide) f15 rfl rfl dX0_smallerToRight_6 ?_
      refine hs_icmp_ge (tgt := 35) C dX0_smallerToRight_9 (by decide) (by omega) (by omega) (fun c3 => ?_) (fun c3 => ?_)
      ·
        refine hs_bipush C dX0_smallerToRight_35 (by decide) ?_
        exact hret _ _ _ () (by rw [← hL, hs_fu1_done (by omega)]) dX0_smallerToRight_37 rfl
      ·
        refine hs_aload_n C dX0_smallerToRight_12 rfl 0 rfl ?_
        refine hs_get C u0 0 rfl rfl 0 (by decide) f9 rfl rfl dX0_smallerToRight_13 ?_
        refine hs_iload_n C dX0_smallerToRight_16 rfl 2 rfl ?_
        refine hs_iald C 1 rfl (by omega) dX0_smallerToRight_17 ?_
        have b4 := hg j
        refine hs_aload_n C dX0_smallerToRight_18 rfl 0 rfl ?_
        refine hs_get C u0 0 rfl rfl 0 (by decide) f9 rfl rfl dX0_smallerToRight_19 ?_
        refine hs_iload_n C dX0_smallerToRight_22 rfl 1 rfl ?_
        refine hs_iald C 1 rfl (by omega) dX0_smallerToRight_23 ?_
        have b5 := hg i
        refine hs_icmp_ge (tgt := 29) C dX0_smallerToRight_24 (by decide) (by omega) (by omega) (fun c6 => ?_) (fun c6 => ?_)
        ·
          refine hs_iinc (lv' := [(0, .ref h0), (1, hs_V i), (2, hs_V (j + 1))]) C dX0_smallerToRight_29 2 rfl (by decide) [1, 2, 0] rfl ?_
          refine hs_goto (tgt := 4) C dX0_smallerToRight_32 (by decide) ?_
          exact ih2 (j + 1) (by omega) (by have hz := (hs_fu1_step (by omega)).symm.trans hL; (try dsimp only at hz); first | exact hz | (split at hz <;> first | exact hz | (exfalso; omega) | (split at hz <;> first | exact hz | (exfalso; omega) | (split at hz <;> first | exact hz | (exfalso; omega))))) (by omega)
        ·
          refine hs_iload_n C dX0_smallerToRight_27 rfl 2 rfl ?_
          exact hret _ _ _ () (by rw [← hL, hs_fu1_step (by omega), if_pos (by omega)]) dX0_smallerToRight_28 rfl
  exact Lp1 ((n - (i + 1) : Int).toNat + 1) (i + 1) (by omega) (rfl) (by omega)

set_option maxHeartbeats 4000000 in
set_option maxRecDepth 100000 in
theorem c_X0_greaterToRight (l : Launch) (D : va_G) (cI cO : ClassId) (h0 : Nat) (h1 : Nat) (n : Int) (g : Int → Int) (i : Int) (hn : 0 ≤ n ∧ n ≤ 40) (hg : ∀ k, 0 ≤ g k ∧ g k ≤ 50) (hi : 0 ≤ i ∧ i < n) : hs_M l D cI cO yX0_greaterToRight wsX0_greaterToRight ({ frames := 0, cells := 0, slots := 0, locals := 0 } : Room) [.ref h0, hs_V i] [hs_ob h0 0 [.ref h1, hs_V n], hs_ia cI h1 40 g] (fun r (_ : Unit) => r = hs_I (pu_gr g n i)) (fun _ => [hs_ob h0 0 [.ref h1, hs_V n], hs_ia cI h1 40 g]) 0 0 := by
  refine hs_enter (cc := cX0_greaterToRight) (maxL := 3) (by decide +kernel) rfl (Nat.le_of_ble_eq_true rfl) (fun p e s m args below meth c A H0 Q C hret => ?_)
  have f15 := C.1.2.2.2.2 (.fieldLink RX0 15 "HistogramStairs$Columns" "size" "I") (by decide +kernel)
  have u0 : ∀ w ∈ wsX00, w ∈ wsX0_greaterToRight := by decide +kernel
  have f9 := C.1.2.2.2.2 (.fieldLink RX0 9 "HistogramStairs$Columns" "heights" "[I") (by decide +kernel)
  refine hs_lvs (lv' := [(0, .ref h0), (1, hs_V i)]) [0, 1] rfl ?_
  refine hs_iload_n C dX0_greaterToRight_0 rfl 1 rfl ?_
  refine hs_iconst C dX0_greaterToRight_1 ?_
  refine hs_iadd C dX0_greaterToRight_2 ?_
  refine hs_istore_n (lv' := [(0, .ref h0), (1, hs_V i), (2, hs_V (i + 1))]) C dX0_greaterToRight_3 rfl (by decide) [1, 2, 0] rfl ?_
  have Lp1 : ∀ (k : Nat) (j : Int), (i < j ∧ j ≤ n) → (hs_fu1 (fun j => g j > g i) j n = pu_gr g n i) → (n - j < (k : Int)) → hs_J p l e ({ frames := 0, cells := 0, slots := 0, locals := 0 } : Room) s m args below meth c D A H0 3 0 0 Q 4 [(0, .ref h0), (1, hs_V i), (2, hs_V j)] [] [hs_ob h0 0 [.ref h1, hs_V n], hs_ia cI h1 40 g] := by
    intro k
    induction k with
    | zero =>
      intro j hj hL hk
      exact absurd hk (by omega)
    | succ k ih =>
      intro j hj hL hk
      have ih2 := ih
      refine hs_iload_n C dX0_greaterToRight_4 rfl 2 rfl ?_
      refine hs_aload_n C dX0_greaterToRight_5 rfl 0 rfl ?_
      refine hs_get C u0 0 rfl rfl 1 (by decide) f15 rfl rfl dX0_greaterToRight_6 ?_
      refine hs_icmp_ge (tgt := 35) C dX0_greaterToRight_9 (by decide) (by omega) (by omega) (fun c3 => ?_) (fun c3 => ?_)
      ·
        refine hs_bipush C dX0_greaterToRight_35 (by decide) ?_
        exact hret _ _ _ () (by rw [← hL, hs_fu1_done (by omega)]) dX0_greaterToRight_37 rfl
      ·
        refine hs_aload_n C dX0_greaterToRight_12 rfl 0 rfl ?_
        refine hs_get C u0 0 rfl rfl 0 (by decide) f9 rfl rfl dX0_greaterToRight_13 ?_
        refine hs_iload_n C dX0_greaterToRight_16 rfl 2 rfl ?_
        refine hs_iald C 1 rfl (by omega) dX0_greaterToRight_17 ?_
        have b4 := hg j
        refine hs_aload_n C dX0_greaterToRight_18 rfl 0 rfl ?_
        refine hs_get C u0 0 rfl rfl 0 (by decide) f9 rfl rfl dX0_greaterToRight_19 ?_
        refine hs_iload_n C dX0_greaterToRight_22 rfl 1 rfl ?_
        refine hs_iald C 1 rfl (by omega) dX0_greaterToRight_23 ?_
        have b5 := hg i
        refine hs_icmp_le (tgt := 29) C dX0_greaterToRight_24 (by decide) (by omega) (by omega) (fun c6 => ?_) (fun c6 => ?_)
        ·
          refine hs_iinc (lv' := [(0, .ref h0), (1, hs_V i), (2, hs_V (j + 1))]) C dX0_greaterToRight_29 2 rfl (by decide) [1, 2, 0] rfl ?_
          refine hs_goto (tgt := 4) C dX0_greaterToRight_32 (by decide) ?_
          exact ih2 (j + 1) (by omega) (by have hz := (hs_fu1_step (by omega)).symm.trans hL; (try dsimp only at hz); first | exact hz | (split at hz <;> first | exact hz | (exfalso; omega) | (split at hz <;> first | exact hz | (exfalso; omega) | (split at hz <;> first | exact hz | (exfalso; omega))))) (by omega)
        ·
          refine hs_iload_n C dX0_greaterToRight_27 rfl 2 rfl ?_
          exact hret _ _ _ () (by rw [← hL, hs_fu1_step (by omega), if_pos (by omega)]) dX0_greaterToRight_28 rfl
  exact Lp1 ((n - (i + 1) : Int).toNat + 1) (i + 1) (by omega) (rfl) (by omega)

set_option maxHeartbeats 4000000 in
set_option maxRecDepth 100000 in
theorem c_X0_span (l : Launch) (D : va_G) (cI cO : ClassId) (h0 : Nat) (h1 : Nat) (n : Int) (g : Int → Int) (i : Int) (hn : 0 ≤ n ∧ n ≤ 40) (hg : ∀ k, 0 ≤ g k ∧ g k ≤ 50) (hi : 0 ≤ i ∧ i < n) : hs_M l D cI cO yX0_span wsX0_span ({ frames := 1, cells := 0, slots := 0, locals := 22 } : Room) [.ref h0, hs_V i] [hs_ob h0 0 [.ref h1, hs_V n], hs_ia cI h1 40 g] (fun r (_ : Unit) => r = hs_I (pu_span g n i)) (fun _ => [hs_ob h0 0 [.ref h1, hs_V n], hs_ia cI h1 40 g]) 0 0 := by
  refine hs_enter (cc := cX0_span) (maxL := 6) (by decide +kernel) rfl (Nat.le_of_ble_eq_true rfl) (fun p e s m args below meth c A H0 Q C hret => ?_)
  have f15 := C.1.2.2.2.2 (.fieldLink RX0 15 "HistogramStairs$Columns" "size" "I") (by decide +kernel)
  have u0 : ∀ w ∈ wsX00, w ∈ wsX0_span := by decide +kernel
  have r1 := pu_sl_rg g i
  have r2 := pu_sr_rg g n i
  refine hs_lvs (lv' := [(0, .ref h0), (1, hs_V i)]) [0, 1] rfl ?_
  refine hs_aload_n C dX0_span_0 rfl 0 rfl ?_
  refine hs_iload_n C dX0_span_1 rfl 1 rfl ?_
  refine hs_callVi (win := [hs_ob h0 0 [.ref h1, hs_V n], hs_ia cI h1 40 g]) (wr := []) (As := [hs_V i]) (rest := []) C (c_X0_smallerToLeft l D cI cO h0 h1 n g i (by omega) hg (by omega)) 0 0 rfl rfl rfl (cwV 1 C.1.2.2.2.2 gX0_span_X0_smallerToLeft rfl rfl rfl (by decide +kernel) ⟨Nat.le_of_ble_eq_true rfl, Nat.le_of_ble_eq_true rfl⟩) rfl rfl (Nat.le_of_ble_eq_true rfl) dX0_span_2 ⟨Nat.le_of_ble_eq_true rfl, Nat.le_of_ble_eq_true rfl⟩ (fun rr uu1 hp => ?_)
  obtain rfl := hp
  refine hs_re0 (w' := [hs_ob h0 0 [.ref h1, hs_V n], hs_ia cI h1 40 g]) [0, 1] rfl (by decide) ?_
  refine hs_istore_n (lv' := [(0, .ref h0), (1, hs_V i), (2, hs_V (pu_sl g i))]) C dX0_span_5 rfl (by decide) [1, 2, 0] rfl ?_
  refine hs_aload_n C dX0_span_6 rfl 0 rfl ?_
  refine hs_iload_n C dX0_span_7 rfl 1 rfl ?_
  refine hs_callVi (win := [hs_ob h0 0 [.ref h1, hs_V n], hs_ia cI h1 40 g]) (wr := []) (As := [hs_V i]) (rest := []) C (c_X0_smallerToRight l D cI cO h0 h1 n g i (by omega) hg (by omega)) 0 0 rfl rfl rfl (cwV 1 C.1.2.2.2.2 gX0_span_X0_smallerToRight rfl rfl rfl (by decide +kernel) ⟨Nat.le_of_ble_eq_true rfl, Nat.le_of_ble_eq_true rfl⟩) rfl rfl (Nat.le_of_ble_eq_true rfl) dX0_span_8 ⟨Nat.le_of_ble_eq_true rfl, Nat.le_of_ble_eq_true rfl⟩ (fun rr uu2 hp => ?_)
  obtain rfl := hp
  refine hs_re0 (w' := [hs_ob h0 0 [.ref h1, hs_V n], hs_ia cI h1 40 g]) [0, 1] rfl (by decide) ?_
  refine hs_istore_n (lv' := [(0, .ref h0), (1, hs_V i), (2, hs_V (pu_sl g i)), (3, hs_V (pu_sr g n i))]) C dX0_span_11 rfl (by decide) [1, 2, 3, 0] rfl ?_
  refine hs_iload_n C dX0_span_12 rfl 2 rfl ?_
  refine hs_bipush C dX0_span_13 (by decide) ?_
  refine hs_icmp_ne (tgt := 22) C dX0_span_15 (by decide) (by omega) (by omega) (fun c3 => ?_) (fun c3 => ?_)
  ·
    refine hs_iload_n C dX0_span_22 rfl 2 rfl ?_
    refine hs_iconst C dX0_span_23 ?_
    refine hs_iadd C dX0_span_24 ?_
    refine hs_istore (lv' := [(0, .ref h0), (1, hs_V i), (2, hs_V (pu_sl g i)), (3, hs_V (pu_sr g n i)), (4, hs_V ((pu_sl g i) + 1))]) C dX0_span_25 (by decide) [1, 2, 3, 4, 0] rfl ?_
    refine hs_iload_n C dX0_span_27 rfl 3 rfl ?_
    refine hs_bipush C dX0_span_28 (by decide) ?_
    refine hs_icmp_ne (tgt := 42) C dX0_span_30 (by decide) (by omega) (by omega) (fun c4 => ?_) (fun c4 => ?_)
    ·
      refine hs_iload_n C dX0_span_42 rfl 3 rfl ?_
      refine hs_iconst C dX0_span_43 ?_
      refine hs_isub C dX0_span_44 ?_
      refine hs_istore (lv' := [(0, .ref h0), (1, hs_V i), (2, hs_V (pu_sl g i)), (3, hs_V (pu_sr g n i)), (4, hs_V ((pu_sl g i) + 1)), (5, hs_V ((pu_sr g n i) - 1))]) C dX0_span_45 (by decide) [1, 2, 3, 4, 5, 0] rfl ?_
      refine hs_iload C dX0_span_47 5 rfl ?_
      refine hs_iload C dX0_span_49 4 rfl ?_
      refine hs_isub C dX0_span_51 ?_
      refine hs_iconst C dX0_span_52 ?_
      refine hs_iadd C dX0_span_53 ?_
      exact hret _ _ _ () (by unfold pu_span; first | rw [if_pos (by omega), if_pos (by omega)] | rw [if_pos (by omega), if_neg (by omega)] | rw [if_neg (by omega), if_pos (by omega)] | rw [if_neg (by omega), if_neg (by omega)]) dX0_span_54 rfl
    ·
      refine hs_aload_n C dX0_span_33 rfl 0 rfl ?_
      refine hs_get C u0 0 rfl rfl 1 (by decide) f15 rfl rfl dX0_span_34 ?_
      refine hs_iconst C dX0_span_37 ?_
      refine hs_isub C dX0_span_38 ?_
      refine hs_goto (tgt := 45) C dX0_span_39 (by decide) ?_
      refine hs_istore (lv' := [(0, .ref h0), (1, hs_V i), (2, hs_V (pu_sl g i)), (3, hs_V (pu_sr g n i)), (4, hs_V ((pu_sl g i) + 1)), (5, hs_V (n - 1))]) C dX0_span_45 (by decide) [1, 2, 3, 4, 5, 0] rfl ?_
      refine hs_iload C dX0_span_47 5 rfl ?_
      refine hs_iload C dX0_span_49 4 rfl ?_
      refine hs_isub C dX0_span_51 ?_
      refine hs_iconst C dX0_span_52 ?_
      refine hs_iadd C dX0_span_53 ?_
      exact hret _ _ _ () (by unfold pu_span; first | rw [if_pos (by omega), if_pos (by omega)] | rw [if_pos (by omega), if_neg (by omega)] | rw [if_neg (by omega), if_pos (by omega)] | rw [if_neg (by omega), if_neg (by omega)]) dX0_span_54 rfl
  ·
    refine hs_iconst C dX0_span_18 ?_
    refine hs_goto (tgt := 25) C dX0_span_19 (by decide) ?_
    refine hs_istore (lv' := [(0, .ref h0), (1, hs_V i), (2, hs_V (pu_sl g i)), (3, hs_V (pu_sr g n i)), (4, hs_V 0)]) C dX0_span_25 (by decide) [1, 2, 3, 4, 0] rfl ?_
    refine hs_iload_n C dX0_span_27 rfl 3 rfl ?_
    refine hs_bipush C dX0_span_28 (by decide) ?_
    refine hs_icmp_ne (tgt := 42) C dX0_span_30 (by decide) (by omega) (by omega) (fun c5 => ?_) (fun c5 => ?_)
    ·
      refine hs_iload_n C dX0_span_42 rfl 3 rfl ?_
      refine hs_iconst C dX0_span_43 ?_
      refine hs_isub C dX0_span_44 ?_
      refine hs_istore (lv' := [(0, .ref h0), (1, hs_V i), (2, hs_V (pu_sl g i)), (3, hs_V (pu_sr g n i)), (4, hs_V 0), (5, hs_V ((pu_sr g n i) - 1))]) C dX0_span_45 (by decide) [1, 2, 3, 4, 5, 0] rfl ?_
      refine hs_iload C dX0_span_47 5 rfl ?_
      refine hs_iload C dX0_span_49 4 rfl ?_
      refine hs_isub C dX0_span_51 ?_
      refine hs_iconst C dX0_span_52 ?_
      refine hs_iadd C dX0_span_53 ?_
      exact hret _ _ _ () (by unfold pu_span; first | rw [if_pos (by omega), if_pos (by omega)] | rw [if_pos (by omega), if_neg (by omega)] | rw [if_neg (by omega), if_pos (by omega)] | rw [if_neg (by omega), if_neg (by omega)]) dX0_span_54 rfl
    ·
      refine hs_aload_n C dX0_span_33 rfl 0 rfl ?_
      refine hs_get C u0 0 rfl rfl 1 (by decide) f15 rfl rfl dX0_span_34 ?_
      refine hs_iconst C dX0_span_37 ?_
      refine hs_isub C dX0_span_38 ?_
      refine hs_goto (tgt := 45) C dX0_span_39 (by decide) ?_
      refine hs_istore (lv' := [(0, .ref h0), (1, hs_V i), (2, hs_V (pu_sl g i)), (3, hs_V (pu_sr g n i)), (4, hs_V 0), (5, hs_V (n - 1))]) C dX0_span_45 (by decide) [1, 2, 3, 4, 5, 0] rfl ?_
      refine hs_iload C dX0_span_47 5 rfl ?_
      refine hs_iload C dX0_span_49 4 rfl ?_
      refine hs_isub C dX0_span_51 ?_
      refine hs_iconst C dX0_span_52 ?_
      refine hs_iadd C dX0_span_53 ?_
      exact hret _ _ _ () (by unfold pu_span; first | rw [if_pos (by omega), if_pos (by omega)] | rw [if_pos (by omega), if_neg (by omega)] | rw [if_neg (by omega), if_pos (by omega)] | rw [if_neg (by omega), if_neg (by omega)]) dX0_span_54 rfl

set_option maxHeartbeats 4000000 in
set_option maxRecDepth 100000 in
theorem c_X0_stairLength (l : Launch) (D : va_G) (cI cO : ClassId) (h0 : Nat) (h1 : Nat) (n : Int) (g : Int → Int) (i : Int) (hn : 0 ≤ n ∧ n ≤ 40) (hg : ∀ k, 0 ≤ g k ∧ g k ≤ 50) (hi : 0 ≤ i ∧ i < n) : hs_M l D cI cO yX0_stairLength wsX0_stairLength ({ frames := 0, cells := 0, slots := 0, locals := 0 } : Room) [.ref h0, hs_V i] [hs_ob h0 0 [.ref h1, hs_V n], hs_ia cI h1 40 g] (fun r (_ : Unit) => r = hs_I (pu_stl g i).2) (fun _ => [hs_ob h0 0 [.ref h1, hs_V n], hs_ia cI h1 40 g]) 0 0 := by
  refine hs_enter (cc := cX0_stairLength) (maxL := 5) (by decide +kernel) rfl (Nat.le_of_ble_eq_true rfl) (fun p e s m args below meth c A H0 Q C hret => ?_)
  have f9 := C.1.2.2.2.2 (.fieldLink RX0 9 "HistogramStairs$Columns" "heights" "[I") (by decide +kernel)
  have u0 : ∀ w ∈ wsX00, w ∈ wsX0_stairLength := by decide +kernel
  refine hs_lvs (lv' := [(0, .ref h0), (1, hs_V i)]) [0, 1] rfl ?_
  refine hs_iconst C dX0_stairLength_0 ?_
  refine hs_istore_n (lv' := [(0, .ref h0), (1, hs_V i), (2, hs_V 1)]) C dX0_stairLength_1 rfl (by decide) [1, 2, 0] rfl ?_
  refine hs_iload_n C dX0_stairLength_2 rfl 1 rfl ?_
  refine hs_istore_n (lv' := [(0, .ref h0), (1, hs_V i), (2, hs_V 1), (3, hs_V i)]) C dX0_stairLength_3 rfl (by decide) [1, 2, 3, 0] rfl ?_
  refine hs_iload_n C dX0_stairLength_4 rfl 1 rfl ?_
  refine hs_iconst C dX0_stairLength_5 ?_
  refine hs_isub C dX0_stairLength_6 ?_
  refine hs_istore (lv' := [(0, .ref h0), (1, hs_V i), (2, hs_V 1), (3, hs_V i), (4, hs_V (i - 1))]) C dX0_stairLength_7 (by decide) [1, 2, 3, 4, 0] rfl ?_
  have Lp1 : ∀ (k : Nat) (j : Int) (x : Int) (y : Int), (-1 ≤ j ∧ j < i) → (0 ≤ x ∧ x ≤ i) → (hs_dn (fun j (x : Int × Int) => if g j < g x.1 then (j, x.2 + 1) else x) j 0 (x, y) = pu_stl g i) → (j + 1 < (k : Int)) → hs_J p l e ({ frames := 0, cells := 0, slots := 0, locals := 0 } : Room) s m args below meth c D A H0 5 0 0 Q 9 [(0, .ref h0), (1, hs_V i), (2, hs_V y), (3, hs_V x), (4, hs_V j)] [] [hs_ob h0 0 [.ref h1, hs_V n], hs_ia cI h1 40 g] := by
    intro k
    induction k with
    | zero =>
      intro j x y hj hx hL hk
      exact absurd hk (by omega)
    | succ k ih =>
      intro j x y hj hx hL hk
      have ih2 := ih
      refine hs_iload C dX0_stairLength_9 4 rfl ?_
      refine hs_if_lt (tgt := 42) C dX0_stairLength_11 (by decide) (by omega) (fun c3 => ?_) (fun c3 => ?_)
      ·
        refine hs_iload_n C dX0_stairLength_42 rfl 2 rfl ?_
        exact hret _ _ _ () (by rw [← hL, hs_dn_done (by omega)]) dX0_stairLength_43 rfl
      ·
        refine hs_aload_n C dX0_stairLength_14 rfl 0 rfl ?_
        refine hs_get C u0 0 rfl rfl 0 (by decide) f9 rfl rfl dX0_stairLength_15 ?_
        refine hs_iload C dX0_stairLength_18 4 rfl ?_
        refine hs_iald C 1 rfl (by omega) dX0_stairLength_20 ?_
        have b4 := hg j
        refine hs_aload_n C dX0_stairLength_21 rfl 0 rfl ?_
        refine hs_get C u0 0 rfl rfl 0 (by decide) f9 rfl rfl dX0_stairLength_22 ?_
        refine hs_iload_n C dX0_stairLength_25 rfl 3 rfl ?_
        refine hs_iald C 1 rfl (by omega) dX0_stairLength_26 ?_
        have b5 := hg x
        refine hs_icmp_ge (tgt := 36) C dX0_stairLength_27 (by decide) (by omega) (by omega) (fun c6 => ?_) (fun c6 => ?_)
        ·
          refine hs_iinc (lv' := [(0, .ref h0), (1, hs_V i), (2, hs_V y), (3, hs_V x), (4, hs_V (j + (-1)))]) C dX0_stairLength_36 4 rfl (by decide) [1, 2, 3, 4, 0] rfl ?_
          refine hs_goto (tgt := 9) C dX0_stairLength_39 (by decide) ?_
          exact ih2 (j + (-1)) x y (by omega) (by omega) (by have hz := (hs_dn_step (by omega)).symm.trans hL; (try dsimp only at hz); first | exact hz | (split at hz <;> first | exact hz | (exfalso; omega) | (split at hz <;> first | exact hz | (exfalso; omega) | (split at hz <;> first | exact hz | (exfalso; omega))))) (by omega)
        ·
          refine hs_iload C dX0_stairLength_30 4 rfl ?_
          refine hs_istore_n (lv' := [(0, .ref h0), (1, hs_V i), (2, hs_V y), (3, hs_V j), (4, hs_V j)]) C dX0_stairLength_32 rfl (by decide) [1, 2, 3, 0, 4] rfl ?_
          refine hs_iinc (lv' := [(0, .ref h0), (1, hs_V i), (2, hs_V (y + 1)), (3, hs_V j), (4, hs_V j)]) C dX0_stairLength_33 2 rfl (by decide) [1, 2, 0, 3, 4] rfl ?_
          refine hs_iinc (lv' := [(0, .ref h0), (1, hs_V i), (2, hs_V (y + 1)), (3, hs_V j), (4, hs_V (j + (-1)))]) C dX0_stairLength_36 4 rfl (by decide) [1, 2, 3, 4, 0] rfl ?_
          refine hs_goto (tgt := 9) C dX0_stairLength_39 (by decide) ?_
          exact ih2 (j + (-1)) j (y + 1) (by omega) (by omega) (by have hz := (hs_dn_step (by omega)).symm.trans hL; (try dsimp only at hz); first | exact hz | (split at hz <;> first | exact hz | (exfalso; omega) | (split at hz <;> first | exact hz | (exfalso; omega) | (split at hz <;> first | exact hz | (exfalso; omega))))) (by omega)
  exact Lp1 (((i - 1) + 1 : Int).toNat + 1) (i - 1) i 1 (by omega) (by omega) (rfl) (by omega)

set_option maxHeartbeats 4000000 in
set_option maxRecDepth 100000 in
theorem c_X0_stairStep (l : Launch) (D : va_G) (cI cO : ClassId) (h0 : Nat) (h1 : Nat) (n : Int) (g : Int → Int) (i : Int) (q : Int) (hn : 0 ≤ n ∧ n ≤ 40) (hg : ∀ k, 0 ≤ g k ∧ g k ≤ 50) (hi : 0 ≤ i ∧ i < n) (hq : 0 ≤ q ∧ hs_in q) : hs_M l D cI cO yX0_stairStep wsX0_stairStep ({ frames := 0, cells := 0, slots := 0, locals := 0 } : Room) [.ref h0, hs_V i, hs_V q] [hs_ob h0 0 [.ref h1, hs_V n], hs_ia cI h1 40 g] (fun r (_ : Unit) => r = hs_I (pu_sts g i q)) (fun _ => [hs_ob h0 0 [.ref h1, hs_V n], hs_ia cI h1 40 g]) 0 0 := by
  refine hs_enter (cc := cX0_stairStep) (maxL := 6) (by decide +kernel) rfl (Nat.le_of_ble_eq_true rfl) (fun p e s m args below meth c A H0 Q C hret => ?_)
  have f9 := C.1.2.2.2.2 (.fieldLink RX0 9 "HistogramStairs$Columns" "heights" "[I") (by decide +kernel)
  have u0 : ∀ w ∈ wsX00, w ∈ wsX0_stairStep := by decide +kernel
  refine hs_lvs (lv' := [(0, .ref h0), (1, hs_V i), (2, hs_V q)]) [0, 1, 2] rfl ?_
  refine hs_iconst C dX0_stairStep_0 ?_
  refine hs_istore_n (lv' := [(0, .ref h0), (1, hs_V i), (2, hs_V q), (3, hs_V 0)]) C dX0_stairStep_1 rfl (by decide) [1, 2, 3, 0] rfl ?_
  refine hs_iload_n C dX0_stairStep_2 rfl 1 rfl ?_
  refine hs_istore (lv' := [(0, .ref h0), (1, hs_V i), (2, hs_V q), (3, hs_V 0), (4, hs_V i)]) C dX0_stairStep_3 (by decide) [1, 2, 3, 4, 0] rfl ?_
  refine hs_iload_n C dX0_stairStep_5 rfl 1 rfl ?_
  refine hs_iconst C dX0_stairStep_6 ?_
  refine hs_isub C dX0_stairStep_7 ?_
  refine hs_istore (lv' := [(0, .ref h0), (1, hs_V i), (2, hs_V q), (3, hs_V 0), (4, hs_V i), (5, hs_V (i - 1))]) C dX0_stairStep_8 (by decide) [1, 2, 3, 4, 5, 0] rfl ?_
  have Lp1 : ∀ (k : Nat) (j : Int) (x : Int) (y : Int), (-1 ≤ j ∧ j < i) → (0 ≤ x ∧ x + j ≤ i - 1) → (0 ≤ y ∧ y ≤ i) → (hs_wh (pu_stP q) (pu_stF g) k (j, x, y) = pu_st g i q) → (j + 1 < (k : Int)) → hs_J p l e ({ frames := 0, cells := 0, slots := 0, locals := 0 } : Room) s m args below meth c D A H0 6 0 0 Q 10 [(0, .ref h0), (1, hs_V i), (2, hs_V q), (3, hs_V x), (4, hs_V y), (5, hs_V j)] [] [hs_ob h0 0 [.ref h1, hs_V n], hs_ia cI h1 40 g] := by
    intro k
    induction k with
    | zero =>
      intro j x y hj hx hy hL hk
      exact absurd hk (by omega)
    | succ k ih =>
      intro j x y hj hx hy hL hk
      have ih2 := ih
      refine hs_iload C dX0_stairStep_10 5 rfl ?_
      refine hs_if_lt (tgt := 50) C dX0_stairStep_12 (by decide) (by omega) (fun c3 => ?_) (fun c3 => ?_)
      ·
        refine hs_iload_n C dX0_stairStep_50 rfl 3 rfl ?_
        refine hs_iload_n C dX0_stairStep_51 rfl 2 rfl ?_
        refine hs_icmp_ne (tgt := 60) C dX0_stairStep_52 (by decide) (by omega) (by omega) (fun c4 => ?_) (fun c4 => ?_)
        ·
          refine hs_bipush C dX0_stairStep_60 (by decide) ?_
          exact hret _ _ _ () (by unfold pu_sts; rw [← hL, hs_wh_done (show ¬ pu_stP q (j, x, y) by unfold pu_stP; simp only []; omega)]; simp only []; first | rw [if_pos (by omega)] | rw [if_neg (by omega)]) dX0_stairStep_62 rfl
        ·
          refine hs_iload C dX0_stairStep_55 4 rfl ?_
          refine hs_goto (tgt := 62) C dX0_stairStep_57 (by decide) ?_
          exact hret _ _ _ () (by unfold pu_sts; rw [← hL, hs_wh_done (show ¬ pu_stP q (j, x, y) by unfold pu_stP; simp only []; omega)]; simp only []; first | rw [if_pos (by omega)] | rw [if_neg (by omega)]) dX0_stairStep_62 rfl
      ·
        refine hs_iload_n C dX0_stairStep_15 rfl 3 rfl ?_
        refine hs_iload_n C dX0_stairStep_16 rfl 2 rfl ?_
        refine hs_icmp_ge (tgt := 50) C dX0_stairStep_17 (by decide) (by omega) (by omega) (fun c5 => ?_) (fun c5 => ?_)
        ·
          refine hs_iload_n C dX0_stairStep_50 rfl 3 rfl ?_
          refine hs_iload_n C dX0_stairStep_51 rfl 2 rfl ?_
          refine hs_icmp_ne (tgt := 60) C dX0_stairStep_52 (by decide) (by omega) (by omega) (fun c6 => ?_) (fun c6 => ?_)
          ·
            refine hs_bipush C dX0_stairStep_60 (by decide) ?_
            exact hret _ _ _ () (by unfold pu_sts; rw [← hL, hs_wh_done (show ¬ pu_stP q (j, x, y) by unfold pu_stP; simp only []; omega)]; simp only []; first | rw [if_pos (by omega)] | rw [if_neg (by omega)]) dX0_stairStep_62 rfl
          ·
            refine hs_iload C dX0_stairStep_55 4 rfl ?_
            refine hs_goto (tgt := 62) C dX0_stairStep_57 (by decide) ?_
            exact hret _ _ _ () (by unfold pu_sts; rw [← hL, hs_wh_done (show ¬ pu_stP q (j, x, y) by unfold pu_stP; simp only []; omega)]; simp only []; first | rw [if_pos (by omega)] | rw [if_neg (by omega)]) dX0_stairStep_62 rfl
        ·
          refine hs_aload_n C dX0_stairStep_20 rfl 0 rfl ?_
          refine hs_get C u0 0 rfl rfl 0 (by decide) f9 rfl rfl dX0_stairStep_21 ?_
          refine hs_iload C dX0_stairStep_24 5 rfl ?_
          refine hs_iald C 1 rfl (by omega) dX0_stairStep_26 ?_
          have b7 := hg j
          refine hs_aload_n C dX0_stairStep_27 rfl 0 rfl ?_
          refine hs_get C u0 0 rfl rfl 0 (by decide) f9 rfl rfl dX0_stairStep_28 ?_
          refine hs_iload C dX0_stairStep_31 4 rfl ?_
          refine hs_iald C 1 rfl (by omega) dX0_stairStep_33 ?_
          have b8 := hg y
          refine hs_icmp_ge (tgt := 44) C dX0_stairStep_34 (by decide) (by omega) (by omega) (fun c9 => ?_) (fun c9 => ?_)
          ·
            refine hs_iinc (lv' := [(0, .ref h0), (1, hs_V i), (2, hs_V q), (3, hs_V x), (4, hs_V y), (5, hs_V (j + (-1)))]) C dX0_stairStep_44 5 rfl (by decide) [1, 2, 3, 4, 5, 0] rfl ?_
            refine hs_goto (tgt := 10) C dX0_stairStep_47 (by decide) ?_
            exact ih2 (j + (-1)) x y (by omega) (by omega) (by omega) (by have hz := (hs_wh_step (P := pu_stP q) (f := pu_stF g) (n := k) (x := (j, x, y)) (by unfold pu_stP; simp only []; omega)).symm.trans hL; unfold pu_stF at hz; simp only [] at hz; (try dsimp only at hz); first | exact hz | (split at hz <;> first | exact hz | (exfalso; omega) | (split at hz <;> first | exact hz | (exfalso; omega) | (split at hz <;> first | exact hz | (exfalso; omega))))) (by omega)
          ·
            refine hs_iload C dX0_stairStep_37 5 rfl ?_
            refine hs_istore (lv' := [(0, .ref h0), (1, hs_V i), (2, hs_V q), (3, hs_V x), (4, hs_V j), (5, hs_V j)]) C dX0_stairStep_39 (by decide) [1, 2, 3, 4, 0, 5] rfl ?_
            refine hs_iinc (lv' := [(0, .ref h0), (1, hs_V i), (2, hs_V q), (3, hs_V (x + 1)), (4, hs_V j), (5, hs_V j)]) C dX0_stairStep_41 3 rfl (by decide) [1, 2, 3, 0, 4, 5] rfl ?_
            refine hs_iinc (lv' := [(0, .ref h0), (1, hs_V i), (2, hs_V q), (3, hs_V (x + 1)), (4, hs_V j), (5, hs_V (j + (-1)))]) C dX0_stairStep_44 5 rfl (by decide) [1, 2, 3, 4, 5, 0] rfl ?_
            refine hs_goto (tgt := 10) C dX0_stairStep_47 (by decide) ?_
            exact ih2 (j + (-1)) (x + 1) j (by omega) (by omega) (by omega) (by have hz := (hs_wh_step (P := pu_stP q) (f := pu_stF g) (n := k) (x := (j, x, y)) (by unfold pu_stP; simp only []; omega)).symm.trans hL; unfold pu_stF at hz; simp only [] at hz; (try dsimp only at hz); first | exact hz | (split at hz <;> first | exact hz | (exfalso; omega) | (split at hz <;> first | exact hz | (exfalso; omega) | (split at hz <;> first | exact hz | (exfalso; omega))))) (by omega)
  exact Lp1 (((i - 1) + 1 : Int).toNat + 1) (i - 1) 0 i (by omega) (by omega) (by omega) (rfl) (by omega)

set_option maxHeartbeats 4000000 in
set_option maxRecDepth 100000 in
theorem c_X0_firstDifference (l : Launch) (D : va_G) (cI cO : ClassId) (h0 : Nat) (h1 : Nat) (n : Int) (g : Int → Int) (o0 : Nat) (o1 : Nat) (m1 : Int) (f : Int → Int) (hn : 0 ≤ n ∧ n ≤ 40) (hg : ∀ k, 0 ≤ g k ∧ g k ≤ 50) (hm : 0 ≤ m1 ∧ m1 ≤ 40) (hf : ∀ k, 0 ≤ f k ∧ f k ≤ 50) : hs_M l D cI cO yX0_firstDifference wsX0_firstDifference ({ frames := 1, cells := 0, slots := 0, locals := 21 } : Room) [.ref h0, .ref o0] [hs_ob h0 0 [.ref h1, hs_V n], hs_ia cI h1 40 g, hs_ob o0 0 [.ref o1, hs_V m1], hs_ia cI o1 40 f] (fun r (_ : Unit) => r = hs_I (pu_fd g f n m1)) (fun _ => [hs_ob h0 0 [.ref h1, hs_V n], hs_ia cI h1 40 g, hs_ob o0 0 [.ref o1, hs_V m1], hs_ia cI o1 40 f]) 0 0 := by
  refine hs_enter (cc := cX0_firstDifference) (maxL := 4) (by decide +kernel) rfl (Nat.le_of_ble_eq_true rfl) (fun p e s m args below meth c A H0 Q C hret => ?_)
  have f15 := C.1.2.2.2.2 (.fieldLink RX0 15 "HistogramStairs$Columns" "size" "I") (by decide +kernel)
  have u0 : ∀ w ∈ wsX00, w ∈ wsX0_firstDifference := by decide +kernel
  have m25 := C.1.2.2.2.2 (.methodLink RX0 25 Lib.Math.min.name) (by decide +kernel)
  have smin := C.1.2.2.2.2 (.static Lib.Math.min.name) (by decide +kernel)
  have iM := C.1.2.2.2.2 (.initialized "java/lang/Math") (by decide +kernel)
  have kmin := C.1.2.2.2.2 (.code Lib.Math.min.name Lib.Math.min.code 2 (some .int)) (by decide +kernel)
  have f9 := C.1.2.2.2.2 (.fieldLink RX0 9 "HistogramStairs$Columns" "heights" "[I") (by decide +kernel)
  refine hs_lvs (lv' := [(0, .ref h0), (1, .ref o0)]) [0, 1] rfl ?_
  refine hs_aload_n C dX0_firstDifference_0 rfl 0 rfl ?_
  refine hs_get C u0 0 rfl rfl 1 (by decide) f15 rfl rfl dX0_firstDifference_1 ?_
  refine hs_aload_n C dX0_firstDifference_4 rfl 1 rfl ?_
  refine hs_get C u0 2 rfl rfl 1 (by decide) f15 rfl rfl dX0_firstDifference_5 ?_
  refine hs_min C m25 smin iM kmin (Nat.le_of_ble_eq_true rfl) (Nat.le_of_ble_eq_true rfl) (Nat.zero_le _) (Nat.zero_le _) (by omega) (by omega) dX0_firstDifference_8 ?_
  refine hs_istore_n (lv' := [(0, .ref h0), (1, .ref o0), (2, hs_V (min n m1))]) C dX0_firstDifference_11 rfl (by decide) [1, 2, 0] rfl ?_
  refine hs_iconst C dX0_firstDifference_12 ?_
  refine hs_istore_n (lv' := [(0, .ref h0), (1, .ref o0), (2, hs_V (min n m1)), (3, hs_V 0)]) C dX0_firstDifference_13 rfl (by decide) [1, 2, 3, 0] rfl ?_
  have Lp1 : ∀ (k : Nat) (i : Int), (0 ≤ i ∧ i ≤ min n m1) → (hs_fu1 (fun i => ¬ g i = f i) i (min n m1) = pu_fdx g f n m1) → (min n m1 - i < (k : Int)) → hs_J p l e ({ frames := 1, cells := 0, slots := 0, locals := 21 } : Room) s m args below meth c D A H0 4 0 0 Q 14 [(0, .ref h0), (1, .ref o0), (2, hs_V (min n m1)), (3, hs_V i)] [] [hs_ob h0 0 [.ref h1, hs_V n], hs_ia cI h1 40 g, hs_ob o0 0 [.ref o1, hs_V m1], hs_ia cI o1 40 f] := by
    intro k
    induction k with
    | zero =>
      intro i hi hL hk
      exact absurd hk (by omega)
    | succ k ih =>
      intro i hi hL hk
      have ih2 := ih
      refine hs_iload_n C dX0_firstDifference_14 rfl 3 rfl ?_
      refine hs_iload_n C dX0_firstDifference_15 rfl 2 rfl ?_
      refine hs_icmp_ge (tgt := 42) C dX0_firstDifference_16 (by decide) (by omega) (by omega) (fun c3 => ?_) (fun c3 => ?_)
      ·
        refine hs_aload_n C dX0_firstDifference_42 rfl 0 rfl ?_
        refine hs_get C u0 0 rfl rfl 1 (by decide) f15 rfl rfl dX0_firstDifference_43 ?_
        refine hs_aload_n C dX0_firstDifference_46 rfl 1 rfl ?_
        refine hs_get C u0 2 rfl rfl 1 (by decide) f15 rfl rfl dX0_firstDifference_47 ?_
        refine hs_icmp_ne (tgt := 58) C dX0_firstDifference_50 (by decide) (by omega) (by omega) (fun c4 => ?_) (fun c4 => ?_)
        ·
          refine hs_iload_n C dX0_firstDifference_58 rfl 2 rfl ?_
          exact hret _ _ _ () (by unfold pu_fd; rw [← hL, hs_fu1_done (by omega), if_pos rfl]; first | rw [if_pos (by omega)] | rw [if_neg (by omega)]) dX0_firstDifference_59 rfl
        ·
          refine hs_bipush C dX0_firstDifference_53 (by decide) ?_
          refine hs_goto (tgt := 59) C dX0_firstDifference_55 (by decide) ?_
          exact hret _ _ _ () (by unfold pu_fd; rw [← hL, hs_fu1_done (by omega), if_pos rfl]; first | rw [if_pos (by omega)] | rw [if_neg (by omega)]) dX0_firstDifference_59 rfl
      ·
        refine hs_aload_n C dX0_firstDifference_19 rfl 0 rfl ?_
        refine hs_get C u0 0 rfl rfl 0 (by decide) f9 rfl rfl dX0_firstDifference_20 ?_
        refine hs_iload_n C dX0_firstDifference_23 rfl 3 rfl ?_
        refine hs_iald C 1 rfl (by omega) dX0_firstDifference_24 ?_
        have b5 := hg i
        refine hs_aload_n C dX0_firstDifference_25 rfl 1 rfl ?_
        refine hs_get C u0 2 rfl rfl 0 (by decide) f9 rfl rfl dX0_firstDifference_26 ?_
        refine hs_iload_n C dX0_firstDifference_29 rfl 3 rfl ?_
        refine hs_iald C 3 rfl (by omega) dX0_firstDifference_30 ?_
        have b6 := hf i
        refine hs_icmp_eq (tgt := 36) C dX0_firstDifference_31 (by decide) (by omega) (by omega) (fun c7 => ?_) (fun c7 => ?_)
        ·
          refine hs_iinc (lv' := [(0, .ref h0), (1, .ref o0), (2, hs_V (min n m1)), (3, hs_V (i + 1))]) C dX0_firstDifference_36 3 rfl (by decide) [1, 2, 3, 0] rfl ?_
          refine hs_goto (tgt := 14) C dX0_firstDifference_39 (by decide) ?_
          exact ih2 (i + 1) (by omega) (by have hz := (hs_fu1_step (by omega)).symm.trans hL; (try dsimp only at hz); first | exact hz | (split at hz <;> first | exact hz | (exfalso; omega) | (split at hz <;> first | exact hz | (exfalso; omega) | (split at hz <;> first | exact hz | (exfalso; omega))))) (by omega)
        ·
          refine hs_iload_n C dX0_firstDifference_34 rfl 3 rfl ?_
          exact hret _ _ _ () (by have hz : pu_fdx g f n m1 = i := (by rw [← hL, hs_fu1_step (by omega), if_pos (by omega)]); unfold pu_fd; rw [hz, if_neg (by omega)]) dX0_firstDifference_35 rfl
  exact Lp1 ((min n m1 - 0 : Int).toNat + 1) 0 (by omega) (rfl) (by omega)
