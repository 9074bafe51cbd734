set_option maxHeartbeats 4000000 in
set_option maxRecDepth 100000 in
theorem c_X5_pour (l : Launch) (D : va_G) (cI cO : ClassId) (w0 : Nat) (w1 : Nat) (dp : Int → Int) (h1 : Nat) (g : Int → Int) (a : Int) (b : Int) (hdp : ∀ k, -50 ≤ dp k ∧ dp k ≤ 50) (hg : ∀ k, 0 ≤ g k ∧ g k ≤ 50) (hab : 0 ≤ a ∧ b ≤ 39 ∧ a ≤ 40 ∧ -1 ≤ b ∧ a ≤ b + 1) : hs_M l D cI cO yX5_pour wsX5_pour ({ frames := 1, cells := 0, slots := 0, locals := 21 } : Room) [.ref w0, .ref h1, hs_V a, hs_V b] [hs_ob w0 5 [.ref w1], hs_ia cI w1 40 dp, hs_ia cI h1 40 g] (fun r (_ : Unit) => r = hs_I (pu_pour g a b dp).1) (fun _ => [hs_ob w0 5 [.ref w1], hs_ia cI w1 40 (pu_pour g a b dp).2, hs_ia cI h1 40 g]) 0 0 := by
  refine hs_enter (cc := cX5_pour) (maxL := 7) (by decide +kernel) rfl (Nat.le_of_ble_eq_true rfl) (fun p e s m args below meth c A H0 Q C hret => ?_)
  have m15 := C.1.2.2.2.2 (.methodLink RX5 15 Lib.Math.max.name) (by decide +kernel)
  have smax := C.1.2.2.2.2 (.static Lib.Math.max.name) (by decide +kernel)
  have iM := C.1.2.2.2.2 (.initialized "java/lang/Math") (by decide +kernel)
  have kmax := C.1.2.2.2.2 (.code Lib.Math.max.name Lib.Math.max.code 2 (some .int)) (by decide +kernel)
  have f9 := C.1.2.2.2.2 (.fieldLink RX5 9 "HistogramStairs$Water" "depths" "[I") (by decide +kernel)
  have u5 : ∀ w ∈ wsX50, w ∈ wsX5_pour := by decide +kernel
  have m21 := C.1.2.2.2.2 (.methodLink RX5 21 Lib.Math.min.name) (by decide +kernel)
  have smin := C.1.2.2.2.2 (.static Lib.Math.min.name) (by decide +kernel)
  have kmin := C.1.2.2.2.2 (.code Lib.Math.min.name Lib.Math.min.code 2 (some .int)) (by decide +kernel)
  refine hs_lvs (lv' := [(0, .ref w0), (1, .ref h1), (2, hs_V a), (3, hs_V b)]) [0, 1, 2, 3] rfl ?_
  refine hs_iconst C dX5_pour_0 ?_
  refine hs_istore (lv' := [(0, .ref w0), (1, .ref h1), (2, hs_V a), (3, hs_V b), (4, hs_V 0)]) C dX5_pour_1 (by decide) [1, 2, 3, 4, 0] rfl ?_
  refine hs_iload_n C dX5_pour_3 rfl 2 rfl ?_
  refine hs_istore (lv' := [(0, .ref w0), (1, .ref h1), (2, hs_V a), (3, hs_V b), (4, hs_V 0), (5, hs_V a)]) C dX5_pour_4 (by decide) [1, 2, 3, 4, 5, 0] rfl ?_
  have Lp1 : ∀ (k : Nat) (i : Int) (wl : Int) (d1 : Int → Int), (a ≤ i ∧ i ≤ b + 1) → (0 ≤ wl ∧ wl ≤ 50) → (∀ k, -50 ≤ d1 k ∧ d1 k ≤ 50) → (∀ k, a ≤ k → k < i → 0 ≤ d1 k) → (hs_up (fun i x => (max x.1 (g i), hs_u x.2 i (max x.1 (g i)))) i (b + 1) (wl, d1) = pu_wall g a b dp) → (b + 1 - i < (k : Int)) → hs_J p l e ({ frames := 1, cells := 0, slots := 0, locals := 21 } : Room) s m args below meth c D A H0 7 0 0 Q 6 [(0, .ref w0), (1, .ref h1), (2, hs_V a), (3, hs_V b), (4, hs_V wl), (5, hs_V i)] [] [hs_ob w0 5 [.ref w1], hs_ia cI w1 40 d1, hs_ia cI h1 40 g] := by
    intro k
    induction k with
    | zero =>
      intro i wl d1 hi hw hd1 hp1 hL hk
      exact absurd hk (by omega)
    | succ k ih =>
      intro i wl d1 hi hw hd1 hp1 hL hk
      have ih2 := ih
      refine hs_iload C dX5_pour_6 5 rfl ?_
      refine hs_iload_n C dX5_pour_8 rfl 3 rfl ?_
      refine hs_icmp_gt (tgt := 38) C dX5_pour_9 (by decide) (by omega) (by omega) (fun c3 => ?_) (fun c3 => ?_)
      ·
        refine hs_iconst C dX5_pour_38 ?_
        refine hs_istore (lv' := [(0, .ref w0), (1, .ref h1), (2, hs_V a), (3, hs_V b), (4, hs_V wl), (5, hs_V 0)]) C dX5_pour_39 (by decide) [1, 2, 3, 4, 5, 0] rfl ?_
        refine hs_iconst C dX5_pour_41 ?_
        refine hs_istore (lv' := [(0, .ref w0), (1, .ref h1), (2, hs_V a), (3, hs_V b), (4, hs_V 0), (5, hs_V 0)]) C dX5_pour_42 (by decide) [1, 2, 3, 4, 0, 5] rfl ?_
        refine hs_iload_n C dX5_pour_44 rfl 3 rfl ?_
        refine hs_istore (lv' := [(0, .ref w0), (1, .ref h1), (2, hs_V a), (3, hs_V b), (4, hs_V 0), (5, hs_V 0), (6, hs_V b)]) C dX5_pour_45 (by decide) [1, 2, 3, 4, 5, 6, 0] rfl ?_
        have Lp4 : ∀ (k : Nat) (j : Int) (w2 : Int) (sm : Int) (d2 : Int → Int), (a - 1 ≤ j ∧ j ≤ b) → (0 ≤ w2 ∧ w2 ≤ 50) → (∀ k, -50 ≤ d2 k ∧ d2 k ≤ 50) → (∀ k, a ≤ k → k ≤ j → 0 ≤ d2 k) → (hs_dn (fun i x => (max x.1 (g i), x.2.1 + hs_u x.2.2 i (min (x.2.2 i) (max x.1 (g i)) - g i) i, hs_u x.2.2 i (min (x.2.2 i) (max x.1 (g i)) - g i))) j a (w2, sm, d2) = pu_pr g a b (pu_wall g a b dp).2) → (j + 1 < (k : Int)) → hs_J p l e ({ frames := 1, cells := 0, slots := 0, locals := 21 } : Room) s m args below meth c D A H0 7 0 0 Q 47 [(0, .ref w0), (1, .ref h1), (2, hs_V a), (3, hs_V b), (4, hs_V w2), (5, hs_V sm), (6, hs_V j)] [] [hs_ob w0 5 [.ref w1], hs_ia cI w1 40 d2, hs_ia cI h1 40 g] := by
          intro k
          induction k with
          | zero =>
            intro j w2 sm d2 hj hw2 hd2 hp2 hM hk
            exact absurd hk (by omega)
          | succ k ih =>
            intro j w2 sm d2 hj hw2 hd2 hp2 hM hk
            have ih5 := ih
            have hpj := hp2 j
            refine hs_iload C dX5_pour_47 6 rfl ?_
            refine hs_iload_n C dX5_pour_49 rfl 2 rfl ?_
            refine hs_icmp_lt (tgt := 106) C dX5_pour_50 (by decide) (by omega) (by omega) (fun c6 => ?_) (fun c6 => ?_)
            ·
              refine hs_iload C dX5_pour_106 5 rfl ?_
              refine hs_cast (ws' := [hs_ob w0 5 [.ref w1], hs_ia cI w1 40 (pu_pour g a b dp).2, hs_ia cI h1 40 g]) ?_ rfl rfl rfl (by unfold pu_pour; rw [← hM, hs_dn_done (by omega)])
              exact hret _ _ _ () (by unfold pu_pour; rw [← hM, hs_dn_done (by omega)]) dX5_pour_108 rfl
            ·
              refine hs_iload C dX5_pour_53 4 rfl ?_
              refine hs_aload_n C dX5_pour_55 rfl 1 rfl ?_
              refine hs_iload C dX5_pour_56 6 rfl ?_
              refine hs_iald C 2 rfl (by omega) dX5_pour_58 ?_
              have b7 := hg j
              refine hs_max C m15 smax iM kmax (Nat.le_of_ble_eq_true rfl) (Nat.le_of_ble_eq_true rfl) (Nat.zero_le _) (Nat.zero_le _) (by omega) (by omega) dX5_pour_59 ?_
              refine hs_istore (lv' := [(0, .ref w0), (1, .ref h1), (2, hs_V a), (3, hs_V b), (4, hs_V (max w2 (g j))), (5, hs_V sm), (6, hs_V j)]) C dX5_pour_62 (by decide) [1, 2, 3, 4, 0, 5, 6] rfl ?_
              refine hs_aload_n C dX5_pour_64 rfl 0 rfl ?_
              refine hs_get C u5 0 rfl rfl 0 (by decide) f9 rfl rfl dX5_pour_65 ?_
              refine hs_iload C dX5_pour_68 6 rfl ?_
              refine hs_aload_n C dX5_pour_70 rfl 0 rfl ?_
              refine hs_get C u5 0 rfl rfl 0 (by decide) f9 rfl rfl dX5_pour_71 ?_
              refine hs_iload C dX5_pour_74 6 rfl ?_
              refine hs_iald C 1 rfl (by omega) dX5_pour_76 ?_
              have b8 := hd2 j
              refine hs_iload C dX5_pour_77 4 rfl ?_
              refine hs_min C m21 smin iM kmin (Nat.le_of_ble_eq_true rfl) (Nat.le_of_ble_eq_true rfl) (Nat.zero_le _) (Nat.zero_le _) (by omega) (by omega) dX5_pour_79 ?_
              refine hs_aload_n C dX5_pour_82 rfl 1 rfl ?_
              refine hs_iload C dX5_pour_83 6 rfl ?_
              refine hs_iald C 2 rfl (by omega) dX5_pour_85 ?_
              have b9 := hg j
              refine hs_isub C dX5_pour_86 ?_
              refine hs_iast (ws' := [hs_ob w0 5 [.ref w1], hs_ia cI w1 40 (hs_u d2 j ((min (d2 j) (max w2 (g j))) - (g j))), hs_ia cI h1 40 g]) C 1 rfl (by omega) rfl dX5_pour_87 ?_
              have b10 := hs_u_bd (i := j) hd2 (show (-50) ≤ (min (d2 j) (max w2 (g j))) - (g j) ∧ (min (d2 j) (max w2 (g j))) - (g j) ≤ 50 by omega)
              have hself := hs_u_self d2 j (min (d2 j) (max w2 (g j)) - g j)
              refine hs_iload C dX5_pour_88 5 rfl ?_
              refine hs_aload_n C dX5_pour_90 rfl 0 rfl ?_
              refine hs_get C u5 0 rfl rfl 0 (by decide) f9 rfl rfl dX5_pour_91 ?_
              refine hs_iload C dX5_pour_94 6 rfl ?_
              refine hs_iald C 1 rfl (by omega) dX5_pour_96 ?_
              have b11 := b10 j
              refine hs_iadd C dX5_pour_97 ?_
              refine hs_istore (lv' := [(0, .ref w0), (1, .ref h1), (2, hs_V a), (3, hs_V b), (4, hs_V (max w2 (g j))), (5, hs_V (sm + ((hs_u d2 j ((min (d2 j) (max w2 (g j))) - (g j))) j))), (6, hs_V j)]) C dX5_pour_98 (by decide) [1, 2, 3, 4, 5, 0, 6] rfl ?_
              refine hs_iinc (lv' := [(0, .ref w0), (1, .ref h1), (2, hs_V a), (3, hs_V b), (4, hs_V (max w2 (g j))), (5, hs_V (sm + ((hs_u d2 j ((min (d2 j) (max w2 (g j))) - (g j))) j))), (6, hs_V (j + (-1)))]) C dX5_pour_100 6 rfl (by decide) [1, 2, 3, 4, 5, 6, 0] rfl ?_
              refine hs_goto (tgt := 47) C dX5_pour_103 (by decide) ?_
              exact ih5 (j + (-1)) (max w2 (g j)) (sm + ((hs_u d2 j ((min (d2 j) (max w2 (g j))) - (g j))) j)) (hs_u d2 j ((min (d2 j) (max w2 (g j))) - (g j))) (by omega) (by omega) b10 (fun k h1 h2 => by rw [hs_u_ne (by omega)]; exact hp2 k h1 (by omega)) ((hs_dn_step (by omega)).symm.trans hM) (by omega)
        exact Lp4 ((b + 1 : Int).toNat + 1) b 0 0 d1 (by omega) (by omega) hd1 (fun k h1 h2 => hp1 k h1 (by omega)) (by rw [← hL, hs_up_done (by omega)]; rfl) (by omega)
      ·
        refine hs_iload C dX5_pour_12 4 rfl ?_
        refine hs_aload_n C dX5_pour_14 rfl 1 rfl ?_
        refine hs_iload C dX5_pour_15 5 rfl ?_
        refine hs_iald C 2 rfl (by omega) dX5_pour_17 ?_
        have b12 := hg i
        refine hs_max C m15 smax iM kmax (Nat.le_of_ble_eq_true rfl) (Nat.le_of_ble_eq_true rfl) (Nat.zero_le _) (Nat.zero_le _) (by omega) (by omega) dX5_pour_18 ?_
        refine hs_istore (lv' := [(0, .ref w0), (1, .ref h1), (2, hs_V a), (3, hs_V b), (4, hs_V (max wl (g i))), (5, hs_V i)]) C dX5_pour_21 (by decide) [1, 2, 3, 4, 0, 5] rfl ?_
        refine hs_aload_n C dX5_pour_23 rfl 0 rfl ?_
        refine hs_get C u5 0 rfl rfl 0 (by decide) f9 rfl rfl dX5_pour_24 ?_
        refine hs_iload C dX5_pour_27 5 rfl ?_
        refine hs_iload C dX5_pour_29 4 rfl ?_
        refine hs_iast (ws' := [hs_ob w0 5 [.ref w1], hs_ia cI w1 40 (hs_u d1 i (max wl (g i))), hs_ia cI h1 40 g]) C 1 rfl (by omega) rfl dX5_pour_31 ?_
        have b13 := hs_u_bd (i := i) hd1 (show (-50) ≤ max wl (g i) ∧ max wl (g i) ≤ 50 by omega)
        refine hs_iinc (lv' := [(0, .ref w0), (1, .ref h1), (2, hs_V a), (3, hs_V b), (4, hs_V (max wl (g i))), (5, hs_V (i + 1))]) C dX5_pour_32 5 rfl (by decide) [1, 2, 3, 4, 5, 0] rfl ?_
        refine hs_goto (tgt := 6) C dX5_pour_35 (by decide) ?_
        exact ih2 (i + 1) (max wl (g i)) (hs_u d1 i (max wl (g i))) (by omega) (by omega) b13 (fun k h1 h2 => by
          by_cases hk : k = i
          · rw [hk, hs_u_self]; omega
          · rw [hs_u_ne hk]; exact hp1 k h1 (by omega)) (by have hz := (hs_up_step (by omega)).symm.trans hL; (try dsimp only at hz); first | exact hz | (split at hz <;> first | exact hz | (exfalso; omega) | (split at hz <;> first | exact hz | (exfalso; omega) | (split at hz <;> first | exact hz | (exfalso; omega))))) (by omega)
  exact Lp1 ((b + 1 - a : Int).toNat + 1) a 0 dp (by omega) (by omega) hdp (fun k h1 h2 => by omega) (rfl) (by omega)

set_option maxHeartbeats 4000000 in
set_option maxRecDepth 100000 in
theorem c_X5_startsPool (l : Launch) (D : va_G) (cI cO : ClassId) (w0 : Nat) (w1 : Nat) (dp : Int → Int) (i : Int) (hdp : ∀ k, -50 ≤ dp k ∧ dp k ≤ 50) (hi : 0 ≤ i ∧ i < 40) : hs_M l D cI cO yX5_startsPool wsX5_startsPool ({ frames := 0, cells := 0, slots := 0, locals := 0 } : Room) [.ref w0, hs_V i] [hs_ob w0 5 [.ref w1], hs_ia cI w1 40 dp] (fun r (_ : Unit) => r = hs_I (if pu_sp dp i then 1 else 0)) (fun _ => [hs_ob w0 5 [.ref w1], hs_ia cI w1 40 dp]) 0 0 := by
  refine hs_enter (cc := cX5_startsPool) (maxL := 2) (by decide +kernel) rfl (Nat.le_of_ble_eq_true rfl) (fun p e s m args below meth c A H0 Q C hret => ?_)
  have f9 := C.1.2.2.2.2 (.fieldLink RX5 9 "HistogramStairs$Water" "depths" "[I") (by decide +kernel)
  have u5 : ∀ w ∈ wsX50, w ∈ wsX5_startsPool := by decide +kernel
  refine hs_lvs (lv' := [(0, .ref w0), (1, hs_V i)]) [0, 1] rfl ?_
  refine hs_aload_n C dX5_startsPool_0 rfl 0 rfl ?_
  refine hs_get C u5 0 rfl rfl 0 (by decide) f9 rfl rfl dX5_startsPool_1 ?_
  refine hs_iload_n C dX5_startsPool_4 rfl 1 rfl ?_
  refine hs_iald C 1 rfl (by omega) dX5_startsPool_5 ?_
  have b1 := hdp i
  refine hs_if_le (tgt := 28) C dX5_startsPool_6 (by decide) (by omega) (fun c2 => ?_) (fun c2 => ?_)
  ·
    refine hs_iconst C dX5_startsPool_28 ?_
    exact hret _ _ _ () (by first | (rw [if_pos (show pu_sp dp i by unfold pu_sp; omega)]) | (rw [if_neg (show ¬ pu_sp dp i by unfold pu_sp; omega)])) dX5_startsPool_29 rfl
  ·
    refine hs_iload_n C dX5_startsPool_9 rfl 1 rfl ?_
    refine hs_if_eq (tgt := 24) C dX5_startsPool_10 (by decide) (by omega) (fun c3 => ?_) (fun c3 => ?_)
    ·
      refine hs_iconst C dX5_startsPool_24 ?_
      refine hs_goto (tgt := 29) C dX5_startsPool_25 (by decide) ?_
      exact hret _ _ _ () (by first | (rw [if_pos (show pu_sp dp i by unfold pu_sp; omega)]) | (rw [if_neg (show ¬ pu_sp dp i by unfold pu_sp; omega)])) dX5_startsPool_29 rfl
    ·
      refine hs_aload_n C dX5_startsPool_13 rfl 0 rfl ?_
      refine hs_get C u5 0 rfl rfl 0 (by decide) f9 rfl rfl dX5_startsPool_14 ?_
      refine hs_iload_n C dX5_startsPool_17 rfl 1 rfl ?_
      refine hs_iconst C dX5_startsPool_18 ?_
      refine hs_isub C dX5_startsPool_19 ?_
      refine hs_iald C 1 rfl (by omega) dX5_startsPool_20 ?_
      have b4 := hdp (i - 1)
      refine hs_if_ne (tgt := 28) C dX5_startsPool_21 (by decide) (by omega) (fun c5 => ?_) (fun c5 => ?_)
      ·
        refine hs_iconst C dX5_startsPool_28 ?_
        exact hret _ _ _ () (by first | (rw [if_pos (show pu_sp dp i by unfold pu_sp; omega)]) | (rw [if_neg (show ¬ pu_sp dp i by unfold pu_sp; omega)])) dX5_startsPool_29 rfl
      ·
        refine hs_iconst C dX5_startsPool_24 ?_
        refine hs_goto (tgt := 29) C dX5_startsPool_25 (by decide) ?_
        exact hret _ _ _ () (by first | (rw [if_pos (show pu_sp dp i by unfold pu_sp; omega)]) | (rw [if_neg (show ¬ pu_sp dp i by unfold pu_sp; omega)])) dX5_startsPool_29 rfl

set_option maxHeartbeats 4000000 in
set_option maxRecDepth 100000 in
theorem c_X5_poolCount (l : Launch) (D : va_G) (cI cO : ClassId) (w0 : Nat) (w1 : Nat) (dp : Int → Int) (n : Int) (hdp : ∀ k, -50 ≤ dp k ∧ dp k ≤ 50) (hn : 0 ≤ n ∧ n ≤ 40) : hs_M l D cI cO yX5_poolCount wsX5_poolCount ({ frames := 1, cells := 0, slots := 0, locals := 21 } : Room) [.ref w0, hs_V n] [hs_ob w0 5 [.ref w1], hs_ia cI w1 40 dp] (fun r (_ : Unit) => r = hs_I (pu_pc dp n)) (fun _ => [hs_ob w0 5 [.ref w1], hs_ia cI w1 40 dp]) 0 0 := by
  refine hs_enter (cc := cX5_poolCount) (maxL := 4) (by decide +kernel) rfl (Nat.le_of_ble_eq_true rfl) (fun p e s m args below meth c A H0 Q C hret => ?_)
  refine hs_lvs (lv' := [(0, .ref w0), (1, hs_V n)]) [0, 1] rfl ?_
  refine hs_iconst C dX5_poolCount_0 ?_
  refine hs_istore_n (lv' := [(0, .ref w0), (1, hs_V n), (2, hs_V 0)]) C dX5_poolCount_1 rfl (by decide) [1, 2, 0] rfl ?_
  refine hs_iconst C dX5_poolCount_2 ?_
  refine hs_istore_n (lv' := [(0, .ref w0), (1, hs_V n), (2, hs_V 0), (3, hs_V 0)]) C dX5_poolCount_3 rfl (by decide) [1, 2, 3, 0] rfl ?_
  have Lp1 : ∀ (k : Nat) (i : Int) (x : Int), (0 ≤ i ∧ i ≤ n) → (hs_up (fun i x => if pu_sp dp i then x + 1 else x) i n x = pu_pc dp n) → (n - i < (k : Int)) → hs_J p l e ({ frames := 1, cells := 0, slots := 0, locals := 21 } : Room) s m args below meth c D A H0 4 0 0 Q 4 [(0, .ref w0), (1, hs_V n), (2, hs_V x), (3, hs_V i)] [] [hs_ob w0 5 [.ref w1], hs_ia cI w1 40 dp] := by
    intro k
    induction k with
    | zero =>
      intro i x hi hL hk
      exact absurd hk (by omega)
    | succ k ih =>
      intro i x hi hL hk
      have ih2 := ih
      refine hs_iload_n C dX5_poolCount_4 rfl 3 rfl ?_
      refine hs_iload_n C dX5_poolCount_5 rfl 1 rfl ?_
      refine hs_icmp_ge (tgt := 26) C dX5_poolCount_6 (by decide) (by omega) (by omega) (fun c3 => ?_) (fun c3 => ?_)
      ·
        refine hs_iload_n C dX5_poolCount_26 rfl 2 rfl ?_
        exact hret _ _ _ () (by rw [← hL, hs_up_done (by omega)]) dX5_poolCount_27 rfl
      ·
        refine hs_aload_n C dX5_poolCount_9 rfl 0 rfl ?_
        refine hs_iload_n C dX5_poolCount_10 rfl 3 rfl ?_
        refine hs_callVi (win := [hs_ob w0 5 [.ref w1], hs_ia cI w1 40 dp]) (wr := []) (As := [hs_V i]) (rest := []) C (c_X5_startsPool l D cI cO w0 w1 dp i hdp (by omega)) 5 0 rfl rfl rfl (cwV 1 C.1.2.2.2.2 gX5_poolCount_X5_startsPool rfl rfl rfl (by decide +kernel) ⟨Nat.le_of_ble_eq_true rfl, Nat.le_of_ble_eq_true rfl⟩) rfl rfl (Nat.le_of_ble_eq_true rfl) dX5_poolCount_11 ⟨Nat.le_of_ble_eq_true rfl, Nat.le_of_ble_eq_true rfl⟩ (fun rr uu4 hp => ?_)
        obtain rfl := hp
        refine hs_re0 (w' := [hs_ob w0 5 [.ref w1], hs_ia cI w1 40 dp]) [0, 1] rfl (by decide) ?_
        refine hs_ifeq_b (tgt := 20) C dX5_poolCount_14 (by decide) (fun c5 => ?_) (fun c5 => ?_)
        ·
          refine hs_iinc (lv' := [(0, .ref w0), (1, hs_V n), (2, hs_V x), (3, hs_V (i + 1))]) C dX5_poolCount_20 3 rfl (by decide) [1, 2, 3, 0] rfl ?_
          refine hs_goto (tgt := 4) C dX5_poolCount_23 (by decide) ?_
          exact ih2 (i + 1) x (by omega) (by have hz := (hs_up_step (by omega)).symm.trans hL; first | (rw [if_pos (by assumption)] at hz; exact hz) | (rw [if_neg (by assumption)] at hz; exact hz)) (by omega)
        ·
          refine hs_iinc (lv' := [(0, .ref w0), (1, hs_V n), (2, hs_V (x + 1)), (3, hs_V i)]) C dX5_poolCount_17 2 rfl (by decide) [1, 2, 0, 3] rfl ?_
          refine hs_iinc (lv' := [(0, .ref w0), (1, hs_V n), (2, hs_V (x + 1)), (3, hs_V (i + 1))]) C dX5_poolCount_20 3 rfl (by decide) [1, 2, 3, 0] rfl ?_
          refine hs_goto (tgt := 4) C dX5_poolCount_23 (by decide) ?_
          exact ih2 (i + 1) (x + 1) (by omega) (by have hz := (hs_up_step (by omega)).symm.trans hL; first | (rw [if_pos (by assumption)] at hz; exact hz) | (rw [if_neg (by assumption)] at hz; exact hz)) (by omega)
  exact Lp1 ((n - 0 : Int).toNat + 1) 0 0 (by omega) (rfl) (by omega)

set_option maxHeartbeats 4000000 in
set_option maxRecDepth 100000 in
theorem c_X5_poolStart (l : Launch) (D : va_G) (cI cO : ClassId) (w0 : Nat) (w1 : Nat) (dp : Int → Int) (q : Int) (n : Int) (hdp : ∀ k, -50 ≤ dp k ∧ dp k ≤ 50) (hn : 0 ≤ n ∧ n ≤ 40) (hq : hs_in q) : hs_M l D cI cO yX5_poolStart wsX5_poolStart ({ frames := 1, cells := 0, slots := 0, locals := 21 } : Room) [.ref w0, hs_V q, hs_V n] [hs_ob w0 5 [.ref w1], hs_ia cI w1 40 dp] (fun r (_ : Unit) => r = hs_I (pu_ps dp q n)) (fun _ => [hs_ob w0 5 [.ref w1], hs_ia cI w1 40 dp]) 0 0 := by
  refine hs_enter (cc := cX5_poolStart) (maxL := 5) (by decide +kernel) rfl (Nat.le_of_ble_eq_true rfl) (fun p e s m args below meth c A H0 Q C hret => ?_)
  refine hs_lvs (lv' := [(0, .ref w0), (1, hs_V q), (2, hs_V n)]) [0, 1, 2] rfl ?_
  refine hs_iconst C dX5_poolStart_0 ?_
  refine hs_istore_n (lv' := [(0, .ref w0), (1, hs_V q), (2, hs_V n), (3, hs_V 0)]) C dX5_poolStart_1 rfl (by decide) [1, 2, 3, 0] rfl ?_
  refine hs_iconst C dX5_poolStart_2 ?_
  refine hs_istore (lv' := [(0, .ref w0), (1, hs_V q), (2, hs_V n), (3, hs_V 0), (4, hs_V 0)]) C dX5_poolStart_3 (by decide) [1, 2, 3, 4, 0] rfl ?_
  have Lp1 : ∀ (k : Nat) (i : Int) (x : Int), (0 ≤ i ∧ i ≤ n) → (0 ≤ x ∧ x ≤ i) → (pu_psU dp q n i x = pu_ps dp q n) → (n - i < (k : Int)) → hs_J p l e ({ frames := 1, cells := 0, slots := 0, locals := 21 } : Room) s m args below meth c D A H0 5 0 0 Q 5 [(0, .ref w0), (1, hs_V q), (2, hs_V n), (3, hs_V x), (4, hs_V i)] [] [hs_ob w0 5 [.ref w1], hs_ia cI w1 40 dp] := by
    intro k
    induction k with
    | zero =>
      intro i x hi hx hL hk
      exact absurd hk (by omega)
    | succ k ih =>
      intro i x hi hx hL hk
      have ih2 := ih
      refine hs_iload C dX5_poolStart_5 4 rfl ?_
      refine hs_iload_n C dX5_poolStart_7 rfl 2 rfl ?_
      refine hs_icmp_ge (tgt := 37) C dX5_poolStart_8 (by decide) (by omega) (by omega) (fun c3 => ?_) (fun c3 => ?_)
      ·
        refine hs_bipush C dX5_poolStart_37 (by decide) ?_
        exact hret _ _ _ () (by rw [← hL, pu_psU_done (by omega)]) dX5_poolStart_39 rfl
      ·
        refine hs_aload_n C dX5_poolStart_11 rfl 0 rfl ?_
        refine hs_iload C dX5_poolStart_12 4 rfl ?_
        refine hs_callVi (win := [hs_ob w0 5 [.ref w1], hs_ia cI w1 40 dp]) (wr := []) (As := [hs_V i]) (rest := []) C (c_X5_startsPool l D cI cO w0 w1 dp i hdp (by omega)) 5 0 rfl rfl rfl (cwV 1 C.1.2.2.2.2 gX5_poolStart_X5_startsPool rfl rfl rfl (by decide +kernel) ⟨Nat.le_of_ble_eq_true rfl, Nat.le_of_ble_eq_true rfl⟩) rfl rfl (Nat.le_of_ble_eq_true rfl) dX5_poolStart_14 ⟨Nat.le_of_ble_eq_true rfl, Nat.le_of_ble_eq_true rfl⟩ (fun rr uu4 hp => ?_)
        obtain rfl := hp
        refine hs_re0 (w' := [hs_ob w0 5 [.ref w1], hs_ia cI w1 40 dp]) [0, 1] rfl (by decide) ?_
        refine hs_ifeq_b (tgt := 31) C dX5_poolStart_17 (by decide) (fun c5 => ?_) (fun c5 => ?_)
        ·
          refine hs_iinc (lv' := [(0, .ref w0), (1, hs_V q), (2, hs_V n), (3, hs_V x), (4, hs_V (i + 1))]) C dX5_poolStart_31 4 rfl (by decide) [1, 2, 3, 4, 0] rfl ?_
          refine hs_goto (tgt := 5) C dX5_poolStart_34 (by decide) ?_
          exact ih2 (i + 1) x (by omega) (by omega) (by have hz := (pu_psU_step (by omega)).symm.trans hL; first | (rw [if_pos (by assumption), if_neg (by omega)] at hz; exact hz) | (rw [if_neg (by assumption)] at hz; exact hz)) (by omega)
        ·
          refine hs_iload_n C dX5_poolStart_20 rfl 3 rfl ?_
          refine hs_iload_n C dX5_poolStart_21 rfl 1 rfl ?_
          refine hs_icmp_ne (tgt := 28) C dX5_poolStart_22 (by decide) (by omega) (by omega) (fun c6 => ?_) (fun c6 => ?_)
          ·
            refine hs_iinc (lv' := [(0, .ref w0), (1, hs_V q), (2, hs_V n), (3, hs_V (x + 1)), (4, hs_V i)]) C dX5_poolStart_28 3 rfl (by decide) [1, 2, 3, 0, 4] rfl ?_
            refine hs_iinc (lv' := [(0, .ref w0), (1, hs_V q), (2, hs_V n), (3, hs_V (x + 1)), (4, hs_V (i + 1))]) C dX5_poolStart_31 4 rfl (by decide) [1, 2, 3, 4, 0] rfl ?_
            refine hs_goto (tgt := 5) C dX5_poolStart_34 (by decide) ?_
            exact ih2 (i + 1) (x + 1) (by omega) (by omega) (by have hz := (pu_psU_step (by omega)).symm.trans hL; first | (rw [if_pos (by assumption), if_neg (by omega)] at hz; exact hz) | (rw [if_neg (by assumption)] at hz; exact hz)) (by omega)
          ·
            refine hs_iload C dX5_poolStart_25 4 rfl ?_
            exact hret _ _ _ () (by rw [← hL, pu_psU_step (by omega), if_pos (by assumption), if_pos (by omega)]) dX5_poolStart_27 rfl
  exact Lp1 ((n - 0 : Int).toNat + 1) 0 0 (by omega) (by omega) (rfl) (by omega)

set_option maxHeartbeats 4000000 in
set_option maxRecDepth 100000 in
theorem c_X5_poolEnd (l : Launch) (D : va_G) (cI cO : ClassId) (w0 : Nat) (w1 : Nat) (dp : Int → Int) (z : Int) (n : Int) (hdp : ∀ k, -50 ≤ dp k ∧ dp k ≤ 50) (hn : 0 ≤ n ∧ n ≤ 40) (hz : 0 ≤ z ∧ z < n) : hs_M l D cI cO yX5_poolEnd wsX5_poolEnd ({ frames := 0, cells := 0, slots := 0, locals := 0 } : Room) [.ref w0, hs_V z, hs_V n] [hs_ob w0 5 [.ref w1], hs_ia cI w1 40 dp] (fun r (_ : Unit) => r = hs_I (pu_pe dp z n)) (fun _ => [hs_ob w0 5 [.ref w1], hs_ia cI w1 40 dp]) 0 0 := by
  refine hs_enter (cc := cX5_poolEnd) (maxL := 4) (by decide +kernel) rfl (Nat.le_of_ble_eq_true rfl) (fun p e s m args below meth c A H0 Q C hret => ?_)
  have f9 := C.1.2.2.2.2 (.fieldLink RX5 9 "HistogramStairs$Water" "depths" "[I") (by decide +kernel)
  have u5 : ∀ w ∈ wsX50, w ∈ wsX5_poolEnd := by decide +kernel
  refine hs_lvs (lv' := [(0, .ref w0), (1, hs_V z), (2, hs_V n)]) [0, 1, 2] rfl ?_
  refine hs_iload_n C dX5_poolEnd_0 rfl 1 rfl ?_
  refine hs_istore_n (lv' := [(0, .ref w0), (1, hs_V z), (2, hs_V n), (3, hs_V z)]) C dX5_poolEnd_1 rfl (by decide) [1, 2, 3, 0] rfl ?_
  have Lp1 : ∀ (k : Nat) (x : Int), (0 ≤ x ∧ x < n) → (hs_wh (pu_peP dp n) (fun x => x + 1) k x = pu_pe dp z n) → (n - x < (k : Int)) → hs_J p l e ({ frames := 0, cells := 0, slots := 0, locals := 0 } : Room) s m args below meth c D A H0 4 0 0 Q 2 [(0, .ref w0), (1, hs_V z), (2, hs_V n), (3, hs_V x)] [] [hs_ob w0 5 [.ref w1], hs_ia cI w1 40 dp] := by
    intro k
    induction k with
    | zero =>
      intro x hx hL hk
      exact absurd hk (by omega)
    | succ k ih =>
      intro x hx hL hk
      have ih2 := ih
      refine hs_iload_n C dX5_poolEnd_2 rfl 3 rfl ?_
      refine hs_iconst C dX5_poolEnd_3 ?_
      refine hs_iadd C dX5_poolEnd_4 ?_
      refine hs_iload_n C dX5_poolEnd_5 rfl 2 rfl ?_
      refine hs_icmp_ge (tgt := 26) C dX5_poolEnd_6 (by decide) (by omega) (by omega) (fun c3 => ?_) (fun c3 => ?_)
      ·
        refine hs_iload_n C dX5_poolEnd_26 rfl 3 rfl ?_
        exact hret _ _ _ () (by rw [← hL, hs_wh_done (show ¬ pu_peP dp n x by unfold pu_peP; omega)]) dX5_poolEnd_27 rfl
      ·
        refine hs_aload_n C dX5_poolEnd_9 rfl 0 rfl ?_
        refine hs_get C u5 0 rfl rfl 0 (by decide) f9 rfl rfl dX5_poolEnd_10 ?_
        refine hs_iload_n C dX5_poolEnd_13 rfl 3 rfl ?_
        refine hs_iconst C dX5_poolEnd_14 ?_
        refine hs_iadd C dX5_poolEnd_15 ?_
        refine hs_iald C 1 rfl (by omega) dX5_poolEnd_16 ?_
        have b4 := hdp (x + 1)
        refine hs_if_le (tgt := 26) C dX5_poolEnd_17 (by decide) (by omega) (fun c5 => ?_) (fun c5 => ?_)
        ·
          refine hs_iload_n C dX5_poolEnd_26 rfl 3 rfl ?_
          exact hret _ _ _ () (by rw [← hL, hs_wh_done (show ¬ pu_peP dp n x by unfold pu_peP; omega)]) dX5_poolEnd_27 rfl
        ·
          refine hs_iinc (lv' := [(0, .ref w0), (1, hs_V z), (2, hs_V n), (3, hs_V (x + 1))]) C dX5_poolEnd_20 3 rfl (by decide) [1, 2, 3, 0] rfl ?_
          refine hs_goto (tgt := 2) C dX5_poolEnd_23 (by decide) ?_
          exact ih2 (x + 1) (by omega) ((hs_wh_step (P := pu_peP dp n) (f := fun x => x + 1) (n := k) (x := x) ⟨by omega, by omega⟩).symm.trans hL) (by omega)
  exact Lp1 ((n - z : Int).toNat + 1) z (by omega) (rfl) (by omega)
