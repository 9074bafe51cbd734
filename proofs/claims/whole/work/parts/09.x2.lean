set_option maxHeartbeats 4000000 in
set_option maxRecDepth 100000 in
theorem c_J7_rangeCheck_23922 (l : Launch) (D : va_G) (cI cO : ClassId) (z : Int) (a : Int) (b : Int) (h : 0 ≤ a ∧ a ≤ b ∧ b ≤ z ∧ z ≤ 1000) : hs_Mv l D cI cO yJ7_rangeCheck_23922 wsJ7_rangeCheck_23922 ({ frames := 0, cells := 0, slots := 0, locals := 0 } : Room) [hs_V z, hs_V a, hs_V b] [] (fun (_ : Unit) => True) (fun _ => []) 0 0 := by
  refine hs_enterV (cc := cJ7_rangeCheck_23922) (maxL := 3) (by decide +kernel) rfl (Nat.le_of_ble_eq_true rfl) (fun p e s m args below meth c A H0 Q C hin2 hret => ?_)
  refine hs_lvs (lv' := [(0, hs_V z), (1, hs_V a), (2, hs_V b)]) [0, 1, 2] rfl ?_
  refine hs_iload_n C dJ7_rangeCheck_23922_0 rfl 1 rfl ?_
  refine hs_iload_n C dJ7_rangeCheck_23922_1 rfl 2 rfl ?_
  refine hs_icmp_le (tgt := 46) C dJ7_rangeCheck_23922_2 (by decide) (by omega) (by omega) (fun c1 => ?_) (fun c1 => ?_)
  ·
    refine hs_iload_n C dJ7_rangeCheck_23922_46 rfl 1 rfl ?_
    refine hs_if_ge (tgt := 59) C dJ7_rangeCheck_23922_47 (by decide) (by omega) (fun c2 => ?_) (fun c2 => ?_)
    ·
      refine hs_iload_n C dJ7_rangeCheck_23922_59 rfl 2 rfl ?_
      refine hs_iload_n C dJ7_rangeCheck_23922_60 rfl 0 rfl ?_
      refine hs_icmp_le (tgt := 73) C dJ7_rangeCheck_23922_61 (by decide) (by omega) (by omega) (fun c3 => ?_) (fun c3 => ?_)
      ·
        exact hret _ _ () trivial dJ7_rangeCheck_23922_73
      ·
        exact absurd trivial (by omega)
    ·
      exact absurd trivial (by omega)
  ·
    exact absurd trivial (by omega)

set_option maxHeartbeats 4000000 in
set_option maxRecDepth 100000 in
theorem c_J7_fill_53178 (l : Launch) (D : va_G) (cI cO : ClassId) (h1 : Nat) (g : Int → Int) (v : Int) : hs_Mv l D cI cO yJ7_fill_53178 wsJ7_fill_53178 ({ frames := 0, cells := 0, slots := 0, locals := 0 } : Room) [.ref h1, hs_V v] [hs_ia cI h1 40 g] (fun (_ : Unit) => True) (fun _ => [hs_ia cI h1 40 (pu_fill g 0 40 v)]) 0 0 := by
  refine hs_enterV (cc := cJ7_fill_53178) (maxL := 4) (by decide +kernel) rfl (Nat.le_of_ble_eq_true rfl) (fun p e s m args below meth c A H0 Q C hin2 hret => ?_)
  refine hs_lvs (lv' := [(0, .ref h1), (1, hs_V v)]) [0, 1] rfl ?_
  refine hs_iconst C dJ7_fill_53178_0 ?_
  refine hs_istore_n (lv' := [(0, .ref h1), (1, hs_V v), (2, hs_V 0)]) C dJ7_fill_53178_1 rfl (by decide) [1, 2, 0] rfl ?_
  refine hs_aload_n C dJ7_fill_53178_2 rfl 0 rfl ?_
  refine hs_alen C 0 rfl (z := 40) rfl dJ7_fill_53178_3 ?_
  refine hs_istore_n (lv' := [(0, .ref h1), (1, hs_V v), (2, hs_V 0), (3, hs_V 40)]) C dJ7_fill_53178_4 rfl (by decide) [1, 2, 3, 0] rfl ?_
  have Lp1 : ∀ (k : Nat) (i : Int) (g1 : Int → Int), (0 ≤ i ∧ i ≤ 40) → (hs_up (fun i x => hs_u x i v) i 40 g1 = pu_fill g 0 40 v) → (40 - i < (k : Int)) → hs_J p l e ({ frames := 0, cells := 0, slots := 0, locals := 0 } : Room) s m args below meth c D A H0 4 0 0 Q 5 [(0, .ref h1), (1, hs_V v), (2, hs_V i), (3, hs_V 40)] [] [hs_ia cI h1 40 g1] := by
    intro k
    induction k with
    | zero =>
      intro i g1 hi hL hk
      exact absurd hk (by omega)
    | succ k ih =>
      intro i g1 hi hL hk
      have ih2 := ih
      refine hs_iload_n C dJ7_fill_53178_5 rfl 2 rfl ?_
      refine hs_iload_n C dJ7_fill_53178_6 rfl 3 rfl ?_
      refine hs_icmp_ge (tgt := 20) C dJ7_fill_53178_7 (by decide) (by omega) (by omega) (fun c3 => ?_) (fun c3 => ?_)
      ·
        refine hs_cast (ws' := [hs_ia cI h1 40 (pu_fill g 0 40 v)]) ?_ rfl rfl rfl (by rw [← hL, hs_up_done (by omega)])
        exact hret _ _ () trivial dJ7_fill_53178_20
      ·
        refine hs_aload_n C dJ7_fill_53178_10 rfl 0 rfl ?_
        refine hs_iload_n C dJ7_fill_53178_11 rfl 2 rfl ?_
        refine hs_iload_n C dJ7_fill_53178_12 rfl 1 rfl ?_
        refine hs_iast (ws' := [hs_ia cI h1 40 (hs_u g1 i v)]) C 0 rfl (by omega) rfl dJ7_fill_53178_13 ?_
        refine hs_iinc (lv' := [(0, .ref h1), (1, hs_V v), (2, hs_V (i + 1)), (3, hs_V 40)]) C dJ7_fill_53178_14 2 rfl (by decide) [1, 2, 0, 3] rfl ?_
        refine hs_goto (tgt := 5) C dJ7_fill_53178_17 (by decide) ?_
        exact ih2 (i + 1) (hs_u g1 i v) (by omega) (by have hz := (hs_up_step (by omega)).symm.trans hL; (try dsimp only at hz); first | exact hz | (split at hz <;> first | exact hz | (exfalso; omega) | (split at hz <;> first | exact hz | (exfalso; omega) | (split at hz <;> first | exact hz | (exfalso; omega))))) (by omega)
  exact Lp1 ((40 - 0 : Int).toNat + 1) 0 g (by omega) (rfl) (by omega)

set_option maxHeartbeats 4000000 in
set_option maxRecDepth 100000 in
theorem c_J7_fill_fda19 (l : Launch) (D : va_G) (cI cO : ClassId) (h1 : Nat) (g : Int → Int) (a : Int) (b : Int) (v : Int) (hab : 0 ≤ a ∧ a ≤ b ∧ b ≤ 40) : hs_Mv l D cI cO yJ7_fill_fda19 wsJ7_fill_fda19 ({ frames := 1, cells := 0, slots := 0, locals := 22 } : Room) [.ref h1, hs_V a, hs_V b, hs_V v] [hs_ia cI h1 40 g] (fun (_ : Unit) => True) (fun _ => [hs_ia cI h1 40 (pu_fill g a b v)]) 0 0 := by
  refine hs_enterV (cc := cJ7_fill_fda19) (maxL := 5) (by decide +kernel) rfl (Nat.le_of_ble_eq_true rfl) (fun p e s m args below meth c A H0 Q C hin2 hret => ?_)
  refine hs_lvs (lv' := [(0, .ref h1), (1, hs_V a), (2, hs_V b), (3, hs_V v)]) [0, 1, 2, 3] rfl ?_
  refine hs_aload_n C dJ7_fill_fda19_0 rfl 0 rfl ?_
  refine hs_alen C 0 rfl (z := 40) rfl dJ7_fill_fda19_1 ?_
  refine hs_iload_n C dJ7_fill_fda19_2 rfl 1 rfl ?_
  refine hs_iload_n C dJ7_fill_fda19_3 rfl 2 rfl ?_
  refine hs_callSv (win := []) (wr := [hs_ia cI h1 40 g]) (As := [hs_V 40, hs_V a, hs_V b]) (rest := []) C (c_J7_rangeCheck_23922 l D cI cO 40 a b (by omega)) (va_cwS 3 C.1.2.2.2.2 gJ7_fill_fda19_J7_rangeCheck_23922 rfl rfl rfl (by decide +kernel) ⟨Nat.le_of_ble_eq_true rfl, Nat.le_of_ble_eq_true rfl⟩) rfl rfl (Nat.le_of_ble_eq_true rfl) dJ7_fill_fda19_4 ⟨Nat.le_of_ble_eq_true rfl, Nat.le_of_ble_eq_true rfl⟩ (fun uu1 hp => ?_)
  refine hs_re0 (w' := [hs_ia cI h1 40 g]) [0] rfl (by decide) ?_
  refine hs_iload_n C dJ7_fill_fda19_7 rfl 1 rfl ?_
  refine hs_istore (lv' := [(0, .ref h1), (1, hs_V a), (2, hs_V b), (3, hs_V v), (4, hs_V a)]) C dJ7_fill_fda19_8 (by decide) [1, 2, 3, 4, 0] rfl ?_
  have Lp2 : ∀ (k : Nat) (i : Int) (g1 : Int → Int), (a ≤ i ∧ i ≤ b) → (hs_up (fun i x => hs_u x i v) i b g1 = pu_fill g a b v) → (b - i < (k : Int)) → hs_J p l e ({ frames := 1, cells := 0, slots := 0, locals := 22 } : Room) s m args below meth c D A H0 5 0 0 Q 10 [(0, .ref h1), (1, hs_V a), (2, hs_V b), (3, hs_V v), (4, hs_V i)] [] [hs_ia cI h1 40 g1] := by
    intro k
    induction k with
    | zero =>
      intro i g1 hi hL hk
      exact absurd hk (by omega)
    | succ k ih =>
      intro i g1 hi hL hk
      have ih3 := ih
      refine hs_iload C dJ7_fill_fda19_10 4 rfl ?_
      refine hs_iload_n C dJ7_fill_fda19_12 rfl 2 rfl ?_
      refine hs_icmp_ge (tgt := 27) C dJ7_fill_fda19_13 (by decide) (by omega) (by omega) (fun c4 => ?_) (fun c4 => ?_)
      ·
        refine hs_cast (ws' := [hs_ia cI h1 40 (pu_fill g a b v)]) ?_ rfl rfl rfl (by rw [← hL, hs_up_done (by omega)])
        exact hret _ _ () trivial dJ7_fill_fda19_27
      ·
        refine hs_aload_n C dJ7_fill_fda19_16 rfl 0 rfl ?_
        refine hs_iload C dJ7_fill_fda19_17 4 rfl ?_
        refine hs_iload_n C dJ7_fill_fda19_19 rfl 3 rfl ?_
        refine hs_iast (ws' := [hs_ia cI h1 40 (hs_u g1 i v)]) C 0 rfl (by omega) rfl dJ7_fill_fda19_20 ?_
        refine hs_iinc (lv' := [(0, .ref h1), (1, hs_V a), (2, hs_V b), (3, hs_V v), (4, hs_V (i + 1))]) C dJ7_fill_fda19_21 4 rfl (by decide) [1, 2, 3, 4, 0] rfl ?_
        refine hs_goto (tgt := 10) C dJ7_fill_fda19_24 (by decide) ?_
        exact ih3 (i + 1) (hs_u g1 i v) (by omega) (by have hz := (hs_up_step (by omega)).symm.trans hL; (try dsimp only at hz); first | exact hz | (split at hz <;> first | exact hz | (exfalso; omega) | (split at hz <;> first | exact hz | (exfalso; omega) | (split at hz <;> first | exact hz | (exfalso; omega))))) (by omega)
  exact Lp2 ((b - a : Int).toNat + 1) a g (by omega) (rfl) (by omega)

set_option maxHeartbeats 4000000 in
set_option maxRecDepth 100000 in
theorem c_X2_paintRun (l : Launch) (D : va_G) (cI cO : ClassId) (p0 : Nat) (p1 : Nat) (K : Int → Int) (f : Int) (b : Int) (hK : ∀ k, 0 ≤ K k ∧ K k ≤ 40) (hf : f = -9 ∨ (0 ≤ f ∧ f ≤ b ∧ b ≤ 39)) (hb : -1 ≤ b ∧ b ≤ 39) : hs_Mv l D cI cO yX2_paintRun wsX2_paintRun ({ frames := 2, cells := 0, slots := 0, locals := 46 } : Room) [.ref p0, hs_V f, hs_V b] [hs_ob p0 2 [.ref p1], hs_ia cI p1 40 K] (fun (_ : Unit) => True) (fun _ => [hs_ob p0 2 [.ref p1], hs_ia cI p1 40 (pu_run f b K)]) 0 0 := by
  refine hs_enterV (cc := cX2_paintRun) (maxL := 4) (by decide +kernel) rfl (Nat.le_of_ble_eq_true rfl) (fun p e s m args below meth c A H0 Q C hin2 hret => ?_)
  have f9 := C.1.2.2.2.2 (.fieldLink RX2 9 "HistogramStairs$Painter" "strokes" "[I") (by decide +kernel)
  have u2 : ∀ w ∈ wsX20, w ∈ wsX2_paintRun := by decide +kernel
  have n35 : va_Nw (.methodLinkNest RX2 35 yX6_sumOf RX6) s := C.2.2.1.2.1 (RX2, 35, yX6_sumOf) (by decide +kernel)
  have in35 := C.1.2.2.2.2 (.initialized (yX6_sumOf).cls) (by decide +kernel)
  have sn35 := C.1.2.2.2.2 (.static yX6_sumOf) (by decide +kernel)
  have m49 := C.1.2.2.2.2 (.methodLink RX2 49 Lib.Math.min.name) (by decide +kernel)
  have smin := C.1.2.2.2.2 (.static Lib.Math.min.name) (by decide +kernel)
  have iM := C.1.2.2.2.2 (.initialized "java/lang/Math") (by decide +kernel)
  have kmin := C.1.2.2.2.2 (.code Lib.Math.min.name Lib.Math.min.code 2 (some .int)) (by decide +kernel)
  refine hs_lvs (lv' := [(0, .ref p0), (1, hs_V f), (2, hs_V b)]) [0, 1, 2] rfl ?_
  refine hs_iload_n C dX2_paintRun_0 rfl 1 rfl ?_
  refine hs_bipush C dX2_paintRun_1 (by decide) ?_
  refine hs_icmp_ne (tgt := 7) C dX2_paintRun_3 (by decide) (by omega) (by omega) (fun c1 => ?_) (fun c1 => ?_)
  ·
    refine hs_aload_n C dX2_paintRun_7 rfl 0 rfl ?_
    refine hs_get C u2 0 rfl rfl 0 (by decide) f9 rfl rfl dX2_paintRun_8 ?_
    refine hs_iload_n C dX2_paintRun_11 rfl 1 rfl ?_
    refine hs_iload_n C dX2_paintRun_12 rfl 2 rfl ?_
    refine hs_re0 (w' := [hs_ia cI p1 40 K, hs_ob p0 2 [.ref p1]]) [1, 0] rfl (by decide) ?_
    refine hs_callSNi (win := [hs_ia cI p1 40 K]) (wr := [hs_ob p0 2 [.ref p1]]) (As := [.ref p1, hs_V f, hs_V b]) (rest := []) C (c_X6_sumOf l D cI cO p1 K f b (by omega)) ⟨va_cnB 3 C.1.2.2.2.2 gX2_paintRun_X6_sumOf_n35 rfl rfl rfl n35 in35 (by decide +kernel) ⟨Nat.le_of_ble_eq_true rfl, Nat.le_of_ble_eq_true rfl⟩, sn35, trivial⟩ rfl rfl (Nat.le_of_ble_eq_true rfl) dX2_paintRun_13 ⟨Nat.le_of_ble_eq_true rfl, Nat.le_of_ble_eq_true rfl⟩ (fun rr uu2 hp => ?_)
    obtain rfl := hp
    refine hs_re0 (w' := [hs_ob p0 2 [.ref p1], hs_ia cI p1 40 K]) [1, 0] rfl (by decide) ?_
    have hsm := pu_sum_bd (a := f) (b := b) hK (by omega) (by omega)
    refine hs_istore_n (lv' := [(0, .ref p0), (1, hs_V f), (2, hs_V b), (3, hs_V (pu_sum K f b))]) C dX2_paintRun_16 rfl (by decide) [1, 2, 3, 0] rfl ?_
    refine hs_aload_n C dX2_paintRun_17 rfl 0 rfl ?_
    refine hs_get C u2 0 rfl rfl 0 (by decide) f9 rfl rfl dX2_paintRun_18 ?_
    refine hs_iload_n C dX2_paintRun_21 rfl 1 rfl ?_
    refine hs_iload_n C dX2_paintRun_22 rfl 2 rfl ?_
    refine hs_iconst C dX2_paintRun_23 ?_
    refine hs_iadd C dX2_paintRun_24 ?_
    refine hs_iconst C dX2_paintRun_25 ?_
    refine hs_re0 (w' := [hs_ia cI p1 40 K, hs_ob p0 2 [.ref p1]]) [1, 0] rfl (by decide) ?_
    refine hs_callSv (win := [hs_ia cI p1 40 K]) (wr := [hs_ob p0 2 [.ref p1]]) (As := [.ref p1, hs_V f, hs_V (b + 1), hs_V 0]) (rest := []) C (c_J7_fill_fda19 l D cI cO p1 K f (b + 1) 0 (by omega)) (va_cwS 4 C.1.2.2.2.2 gX2_paintRun_J7_fill_fda19 rfl rfl rfl (by decide +kernel) ⟨Nat.le_of_ble_eq_true rfl, Nat.le_of_ble_eq_true rfl⟩) rfl rfl (Nat.le_of_ble_eq_true rfl) dX2_paintRun_26 ⟨Nat.le_of_ble_eq_true rfl, Nat.le_of_ble_eq_true rfl⟩ (fun uu3 hp => ?_)
    refine hs_re0 (w' := [hs_ob p0 2 [.ref p1], hs_ia cI p1 40 (pu_fill K f (b + 1) 0)]) [1, 0] rfl (by decide) ?_
    refine hs_aload_n C dX2_paintRun_29 rfl 0 rfl ?_
    refine hs_get C u2 0 rfl rfl 0 (by decide) f9 rfl rfl dX2_paintRun_30 ?_
    refine hs_iload_n C dX2_paintRun_33 rfl 1 rfl ?_
    refine hs_iload_n C dX2_paintRun_34 rfl 3 rfl ?_
    refine hs_iconst C dX2_paintRun_35 ?_
    refine hs_iadd C dX2_paintRun_36 ?_
    refine hs_iload_n C dX2_paintRun_37 rfl 2 rfl ?_
    refine hs_iload_n C dX2_paintRun_38 rfl 1 rfl ?_
    refine hs_isub C dX2_paintRun_39 ?_
    refine hs_iconst C dX2_paintRun_40 ?_
    refine hs_iadd C dX2_paintRun_41 ?_
    refine hs_min C m49 smin iM kmin (Nat.le_of_ble_eq_true rfl) (Nat.le_of_ble_eq_true rfl) (Nat.zero_le _) (Nat.zero_le _) (by omega) (by omega) dX2_paintRun_42 ?_
    refine hs_iast (ws' := [hs_ob p0 2 [.ref p1], hs_ia cI p1 40 (hs_u (pu_fill K f (b + 1) 0) f (min ((pu_sum K f b) + 1) ((b - f) + 1)))]) C 1 rfl (by omega) rfl dX2_paintRun_45 ?_
    refine hs_cast (ws' := [hs_ob p0 2 [.ref p1], hs_ia cI p1 40 (pu_run f b K)]) ?_ rfl rfl rfl (by unfold pu_run; rw [if_neg (by omega)])
    exact hret _ _ () trivial dX2_paintRun_46
  ·
    refine hs_cast (ws' := [hs_ob p0 2 [.ref p1], hs_ia cI p1 40 (pu_run f b K)]) ?_ rfl rfl rfl (by unfold pu_run; rw [if_pos (by omega)])
    exact hret _ _ () trivial dX2_paintRun_6

set_option maxHeartbeats 4000000 in
set_option maxRecDepth 100000 in
theorem c_X2_paintRow (l : Launch) (D : va_G) (cI cO : ClassId) (p0 : Nat) (p1 : Nat) (K : Int → Int) (h0 : Nat) (h1 : Nat) (n : Int) (g : Int → Int) (r : Int) (hK : ∀ k, 0 ≤ K k ∧ K k ≤ 40) (hn : 0 ≤ n ∧ n ≤ 40) (hg : ∀ k, 0 ≤ g k ∧ g k ≤ 50) (hr : 0 ≤ r ∧ r ≤ 50) : hs_Mv l D cI cO yX2_paintRow wsX2_paintRow ({ frames := 3, cells := 0, slots := 0, locals := 69 } : Room) [.ref p0, hs_V r, .ref h0] [hs_ob p0 2 [.ref p1], hs_ia cI p1 40 K, hs_ob h0 0 [.ref h1, hs_V n], hs_ia cI h1 40 g] (fun (_ : Unit) => True) (fun _ => [hs_ob p0 2 [.ref p1], hs_ia cI p1 40 (pu_row g n r K), hs_ob h0 0 [.ref h1, hs_V n], hs_ia cI h1 40 g]) 0 0 := by
  refine hs_enterV (cc := cX2_paintRow) (maxL := 5) (by decide +kernel) rfl (Nat.le_of_ble_eq_true rfl) (fun p e s m args below meth c A H0 Q C hin2 hret => ?_)
  have f31 : (Cond.fieldLinkNest RX2 31 RX0 "size" "I" RX6).before args s = true := va_Nw.use (A := args) rfl (C.2.2.1.1 (RX2, 31, RX0, "size", "I") (by decide +kernel))
  have u0 : ∀ w ∈ wsX00, w ∈ wsX2_paintRow := by decide +kernel
  have f39 : (Cond.fieldLinkNest RX2 39 RX0 "heights" "[I" RX6).before args s = true := va_Nw.use (A := args) rfl (C.2.2.1.1 (RX2, 39, RX0, "heights", "[I") (by decide +kernel))
  refine hs_lvs (lv' := [(0, .ref p0), (1, hs_V r), (2, .ref h0)]) [0, 1, 2] rfl ?_
  refine hs_bipush C dX2_paintRow_0 (by decide) ?_
  refine hs_istore_n (lv' := [(0, .ref p0), (1, hs_V r), (2, .ref h0), (3, hs_V (-9))]) C dX2_paintRow_2 rfl (by decide) [1, 2, 3, 0] rfl ?_
  refine hs_iconst C dX2_paintRow_3 ?_
  refine hs_istore (lv' := [(0, .ref p0), (1, hs_V r), (2, .ref h0), (3, hs_V (-9)), (4, hs_V 0)]) C dX2_paintRow_4 (by decide) [1, 2, 3, 4, 0] rfl ?_
  have Lp1 : ∀ (k : Nat) (i : Int) (f : Int) (K1 : Int → Int), (0 ≤ i ∧ i ≤ n) → (f = -9 ∨ (0 ≤ f ∧ f ≤ i - 1)) → (∀ k, 0 ≤ K1 k ∧ K1 k ≤ 40) → (hs_up (pu_rowF g r) i n (f, K1) = pu_rowL g n r K) → (n - i < (k : Int)) → hs_J p l e ({ frames := 3, cells := 0, slots := 0, locals := 69 } : Room) s m args below meth c D A H0 5 0 0 Q 6 [(0, .ref p0), (1, hs_V r), (2, .ref h0), (3, hs_V f), (4, hs_V i)] [] [hs_ob p0 2 [.ref p1], hs_ia cI p1 40 K1, hs_ob h0 0 [.ref h1, hs_V n], hs_ia cI h1 40 g] := by
    intro k
    induction k with
    | zero =>
      intro i f K1 hi hf hK1 hL hk
      exact absurd hk (by omega)
    | succ k ih =>
      intro i f K1 hi hf hK1 hL hk
      have ih2 := ih
      refine hs_iload C dX2_paintRow_6 4 rfl ?_
      refine hs_aload_n C dX2_paintRow_8 rfl 2 rfl ?_
      refine hs_getN C u0 2 rfl rfl 1 (by decide) f31 rfl rfl dX2_paintRow_9 ?_
      refine hs_icmp_ge (tgt := 56) C dX2_paintRow_12 (by decide) (by omega) (by omega) (fun c3 => ?_) (fun c3 => ?_)
      ·
        refine hs_aload_n C dX2_paintRow_56 rfl 0 rfl ?_
        refine hs_iload_n C dX2_paintRow_57 rfl 3 rfl ?_
        refine hs_aload_n C dX2_paintRow_58 rfl 2 rfl ?_
        refine hs_getN C u0 2 rfl rfl 1 (by decide) f31 rfl rfl dX2_paintRow_59 ?_
        refine hs_iconst C dX2_paintRow_62 ?_
        refine hs_isub C dX2_paintRow_63 ?_
        refine hs_callVv (win := [hs_ob p0 2 [.ref p1], hs_ia cI p1 40 K1]) (wr := [hs_ob h0 0 [.ref h1, hs_V n], hs_ia cI h1 40 g]) (As := [hs_V f, hs_V (n - 1)]) (rest := []) C (c_X2_paintRun l D cI cO p0 p1 K1 f (n - 1) hK1 (by omega) (by omega)) 2 0 rfl rfl rfl (cwV 2 C.1.2.2.2.2 gX2_paintRow_X2_paintRun rfl rfl rfl (by decide +kernel) ⟨Nat.le_of_ble_eq_true rfl, Nat.le_of_ble_eq_true rfl⟩) rfl rfl (Nat.le_of_ble_eq_true rfl) dX2_paintRow_64 ⟨Nat.le_of_ble_eq_true rfl, Nat.le_of_ble_eq_true rfl⟩ (fun uu4 hp => ?_)
        refine hs_re0 (w' := [hs_ob p0 2 [.ref p1], hs_ia cI p1 40 (pu_run f (n - 1) K1), hs_ob h0 0 [.ref h1, hs_V n], hs_ia cI h1 40 g]) [0, 1, 2, 3] rfl (by decide) ?_
        refine hs_cast (ws' := [hs_ob p0 2 [.ref p1], hs_ia cI p1 40 (pu_row g n r K), hs_ob h0 0 [.ref h1, hs_V n], hs_ia cI h1 40 g]) ?_ rfl rfl rfl (by unfold pu_row; rw [← hL, hs_up_done (by omega)])
        exact hret _ _ () trivial dX2_paintRow_67
      ·
        refine hs_aload_n C dX2_paintRow_15 rfl 2 rfl ?_
        refine hs_getN C u0 2 rfl rfl 0 (by decide) f39 rfl rfl dX2_paintRow_16 ?_
        refine hs_iload C dX2_paintRow_19 4 rfl ?_
        refine hs_iald C 3 rfl (by omega) dX2_paintRow_21 ?_
        have b5 := hg i
        refine hs_iload_n C dX2_paintRow_22 rfl 1 rfl ?_
        refine hs_icmp_ge (tgt := 41) C dX2_paintRow_23 (by decide) (by omega) (by omega) (fun c6 => ?_) (fun c6 => ?_)
        ·
          refine hs_iload_n C dX2_paintRow_41 rfl 3 rfl ?_
          refine hs_bipush C dX2_paintRow_42 (by decide) ?_
          refine hs_icmp_ne (tgt := 50) C dX2_paintRow_44 (by decide) (by omega) (by omega) (fun c7 => ?_) (fun c7 => ?_)
          ·
            refine hs_iinc (lv' := [(0, .ref p0), (1, hs_V r), (2, .ref h0), (3, hs_V f), (4, hs_V (i + 1))]) C dX2_paintRow_50 4 rfl (by decide) [1, 2, 3, 4, 0] rfl ?_
            refine hs_goto (tgt := 6) C dX2_paintRow_53 (by decide) ?_
            exact ih2 (i + 1) f K1 (by omega) (by omega) hK1 (by have hz := (hs_up_step (by omega)).symm.trans hL; unfold pu_rowF at hz; (try dsimp only at hz); first | exact hz | (split at hz <;> first | exact hz | (exfalso; omega) | (split at hz <;> first | exact hz | (exfalso; omega) | (split at hz <;> first | exact hz | (exfalso; omega))))) (by omega)
          ·
            refine hs_iload C dX2_paintRow_47 4 rfl ?_
            refine hs_istore_n (lv' := [(0, .ref p0), (1, hs_V r), (2, .ref h0), (3, hs_V i), (4, hs_V i)]) C dX2_paintRow_49 rfl (by decide) [1, 2, 3, 0, 4] rfl ?_
            refine hs_iinc (lv' := [(0, .ref p0), (1, hs_V r), (2, .ref h0), (3, hs_V i), (4, hs_V (i + 1))]) C dX2_paintRow_50 4 rfl (by decide) [1, 2, 3, 4, 0] rfl ?_
            refine hs_goto (tgt := 6) C dX2_paintRow_53 (by decide) ?_
            exact ih2 (i + 1) i K1 (by omega) (by omega) hK1 (by have hz := (hs_up_step (by omega)).symm.trans hL; unfold pu_rowF at hz; (try dsimp only at hz); first | exact hz | (split at hz <;> first | exact hz | (exfalso; omega) | (split at hz <;> first | exact hz | (exfalso; omega) | (split at hz <;> first | exact hz | (exfalso; omega))))) (by omega)
        ·
          refine hs_aload_n C dX2_paintRow_26 rfl 0 rfl ?_
          refine hs_iload_n C dX2_paintRow_27 rfl 3 rfl ?_
          refine hs_iload C dX2_paintRow_28 4 rfl ?_
          refine hs_iconst C dX2_paintRow_30 ?_
          refine hs_isub C dX2_paintRow_31 ?_
          refine hs_callVv (win := [hs_ob p0 2 [.ref p1], hs_ia cI p1 40 K1]) (wr := [hs_ob h0 0 [.ref h1, hs_V n], hs_ia cI h1 40 g]) (As := [hs_V f, hs_V (i - 1)]) (rest := []) C (c_X2_paintRun l D cI cO p0 p1 K1 f (i - 1) hK1 (by omega) (by omega)) 2 0 rfl rfl rfl (cwV 2 C.1.2.2.2.2 gX2_paintRow_X2_paintRun rfl rfl rfl (by decide +kernel) ⟨Nat.le_of_ble_eq_true rfl, Nat.le_of_ble_eq_true rfl⟩) rfl rfl (Nat.le_of_ble_eq_true rfl) dX2_paintRow_32 ⟨Nat.le_of_ble_eq_true rfl, Nat.le_of_ble_eq_true rfl⟩ (fun uu8 hp => ?_)
          refine hs_re0 (w' := [hs_ob p0 2 [.ref p1], hs_ia cI p1 40 (pu_run f (i - 1) K1), hs_ob h0 0 [.ref h1, hs_V n], hs_ia cI h1 40 g]) [0, 1, 2, 3] rfl (by decide) ?_
          have hb32 := pu_run_bd (f := f) (b := i - 1) hK1 (by omega)
          refine hs_bipush C dX2_paintRow_35 (by decide) ?_
          refine hs_istore_n (lv' := [(0, .ref p0), (1, hs_V r), (2, .ref h0), (3, hs_V (-9)), (4, hs_V i)]) C dX2_paintRow_37 rfl (by decide) [1, 2, 3, 0, 4] rfl ?_
          refine hs_goto (tgt := 50) C dX2_paintRow_38 (by decide) ?_
          refine hs_iinc (lv' := [(0, .ref p0), (1, hs_V r), (2, .ref h0), (3, hs_V (-9)), (4, hs_V (i + 1))]) C dX2_paintRow_50 4 rfl (by decide) [1, 2, 3, 4, 0] rfl ?_
          refine hs_goto (tgt := 6) C dX2_paintRow_53 (by decide) ?_
          exact ih2 (i + 1) (-9) (pu_run f (i - 1) K1) (by omega) (by omega) hb32 (by have hz := (hs_up_step (by omega)).symm.trans hL; unfold pu_rowF at hz; (try dsimp only at hz); first | exact hz | (split at hz <;> first | exact hz | (exfalso; omega) | (split at hz <;> first | exact hz | (exfalso; omega) | (split at hz <;> first | exact hz | (exfalso; omega))))) (by omega)
  exact Lp1 ((n - 0 : Int).toNat + 1) 0 (-9) K (by omega) (by omega) hK (rfl) (by omega)

set_option maxHeartbeats 4000000 in
set_option maxRecDepth 100000 in
theorem c_X2_countStrokes (l : Launch) (D : va_G) (cI cO : ClassId) (p0 : Nat) (p1 : Nat) (K : Int → Int) (h0 : Nat) (h1 : Nat) (n : Int) (g : Int → Int) (hK : ∀ k, 0 ≤ K k ∧ K k ≤ 40) (hn : 0 ≤ n ∧ n ≤ 40) (hg : ∀ k, 0 ≤ g k ∧ g k ≤ 50) : hs_M l D cI cO yX2_countStrokes wsX2_countStrokes ({ frames := 4, cells := 0, slots := 0, locals := 93 } : Room) [.ref p0, .ref h0] [hs_ob p0 2 [.ref p1], hs_ia cI p1 40 K, hs_ob h0 0 [.ref h1, hs_V n], hs_ia cI h1 40 g] (fun r (_ : Unit) => r = hs_I (pu_sum (pu_cs g n K) 0 (n - 1))) (fun _ => [hs_ob p0 2 [.ref p1], hs_ia cI p1 40 (pu_cs g n K), hs_ob h0 0 [.ref h1, hs_V n], hs_ia cI h1 40 g]) 0 0 := by
  refine hs_enter (cc := cX2_countStrokes) (maxL := 3) (by decide +kernel) rfl (Nat.le_of_ble_eq_true rfl) (fun p e s m args below meth c A H0 Q C hret => ?_)
  have f9 := C.1.2.2.2.2 (.fieldLink RX2 9 "HistogramStairs$Painter" "strokes" "[I") (by decide +kernel)
  have u2 : ∀ w ∈ wsX20, w ∈ wsX2_countStrokes := by decide +kernel
  have f31 : (Cond.fieldLinkNest RX2 31 RX0 "size" "I" RX6).before args s = true := va_Nw.use (A := args) rfl (C.2.2.1.1 (RX2, 31, RX0, "size", "I") (by decide +kernel))
  have u0 : ∀ w ∈ wsX00, w ∈ wsX2_countStrokes := by decide +kernel
  have n35 : va_Nw (.methodLinkNest RX2 35 yX6_sumOf RX6) s := C.2.2.1.2.1 (RX2, 35, yX6_sumOf) (by decide +kernel)
  have in35 := C.1.2.2.2.2 (.initialized (yX6_sumOf).cls) (by decide +kernel)
  have sn35 := C.1.2.2.2.2 (.static yX6_sumOf) (by decide +kernel)
  refine hs_lvs (lv' := [(0, .ref p0), (1, .ref h0)]) [0, 1] rfl ?_
  refine hs_aload_n C dX2_countStrokes_0 rfl 0 rfl ?_
  refine hs_get C u2 0 rfl rfl 0 (by decide) f9 rfl rfl dX2_countStrokes_1 ?_
  refine hs_iconst C dX2_countStrokes_4 ?_
  refine hs_re0 (w' := [hs_ia cI p1 40 K, hs_ob p0 2 [.ref p1], hs_ob h0 0 [.ref h1, hs_V n], hs_ia cI h1 40 g]) [1, 0, 2, 3] rfl (by decide) ?_
  refine hs_callSv (win := [hs_ia cI p1 40 K]) (wr := [hs_ob p0 2 [.ref p1], hs_ob h0 0 [.ref h1, hs_V n], hs_ia cI h1 40 g]) (As := [.ref p1, hs_V 0]) (rest := []) C (c_J7_fill_53178 l D cI cO p1 K 0 ) (va_cwS 2 C.1.2.2.2.2 gX2_countStrokes_J7_fill_53178 rfl rfl rfl (by decide +kernel) ⟨Nat.le_of_ble_eq_true rfl, Nat.le_of_ble_eq_true rfl⟩) rfl rfl (Nat.le_of_ble_eq_true rfl) dX2_countStrokes_5 ⟨Nat.le_of_ble_eq_true rfl, Nat.le_of_ble_eq_true rfl⟩ (fun uu1 hp => ?_)
  refine hs_re0 (w' := [hs_ob p0 2 [.ref p1], hs_ia cI p1 40 (pu_fill K 0 40 0), hs_ob h0 0 [.ref h1, hs_V n], hs_ia cI h1 40 g]) [1, 0, 2, 3] rfl (by decide) ?_
  have hfl := pu_fill_bd (a := 0) (b := 40) (v := 0) hK (by omega)
  refine hs_aload_n C dX2_countStrokes_8 rfl 1 rfl ?_
  refine hs_re0 (w' := [hs_ob h0 0 [.ref h1, hs_V n], hs_ia cI h1 40 g, hs_ob p0 2 [.ref p1], hs_ia cI p1 40 (pu_fill K 0 40 0)]) [2, 3, 0, 1] rfl (by decide) ?_
  refine hs_callVi (win := [hs_ob h0 0 [.ref h1, hs_V n], hs_ia cI h1 40 g]) (wr := [hs_ob p0 2 [.ref p1], hs_ia cI p1 40 (pu_fill K 0 40 0)]) (As := []) (rest := []) C (c_X0_greatestHeight l D cI cO h0 h1 n g (by omega) hg) 0 0 rfl rfl rfl (cwV 0 C.1.2.2.2.2 gX2_countStrokes_X0_greatestHeight rfl rfl rfl (by decide +kernel) ⟨Nat.le_of_ble_eq_true rfl, Nat.le_of_ble_eq_true rfl⟩) rfl rfl (Nat.le_of_ble_eq_true rfl) dX2_countStrokes_9 ⟨Nat.le_of_ble_eq_true rfl, Nat.le_of_ble_eq_true rfl⟩ (fun rr uu2 hp => ?_)
  obtain rfl := hp
  refine hs_re0 (w' := [hs_ob p0 2 [.ref p1], hs_ia cI p1 40 (pu_fill K 0 40 0), hs_ob h0 0 [.ref h1, hs_V n], hs_ia cI h1 40 g]) [2, 3, 0, 1] rfl (by decide) ?_
  have hgh := pu_gh_bd (n := n) hg
  refine hs_istore_n (lv' := [(0, .ref p0), (1, .ref h0), (2, hs_V (pu_gh g n))]) C dX2_countStrokes_12 rfl (by decide) [1, 2, 0] rfl ?_
  have Lp3 : ∀ (k : Nat) (r : Int) (K1 : Int → Int), (0 ≤ r ∧ r ≤ 50) → (∀ k, 0 ≤ K1 k ∧ K1 k ≤ 40) → (hs_dn (fun r x => pu_row g n r x) r 1 K1 = pu_cs g n K) → (r < (k : Int)) → hs_J p l e ({ frames := 4, cells := 0, slots := 0, locals := 93 } : Room) s m args below meth c D A H0 3 0 0 Q 13 [(0, .ref p0), (1, .ref h0), (2, hs_V r)] [] [hs_ob p0 2 [.ref p1], hs_ia cI p1 40 K1, hs_ob h0 0 [.ref h1, hs_V n], hs_ia cI h1 40 g] := by
    intro k
    induction k with
    | zero =>
      intro r K1 hr hK1 hL hk
      exact absurd hk (by omega)
    | succ k ih =>
      intro r K1 hr hK1 hL hk
      have ih4 := ih
      refine hs_iload_n C dX2_countStrokes_13 rfl 2 rfl ?_
      refine hs_iconst C dX2_countStrokes_14 ?_
      refine hs_icmp_lt (tgt := 30) C dX2_countStrokes_15 (by decide) (by omega) (by omega) (fun c5 => ?_) (fun c5 => ?_)
      ·
        have hcs : pu_cs g n K = K1 := by rw [← hL, hs_dn_done (by omega)]
        refine hs_aload_n C dX2_countStrokes_30 rfl 0 rfl ?_
        refine hs_get C u2 0 rfl rfl 0 (by decide) f9 rfl rfl dX2_countStrokes_31 ?_
        refine hs_iconst C dX2_countStrokes_34 ?_
        refine hs_aload_n C dX2_countStrokes_35 rfl 1 rfl ?_
        refine hs_getN C u0 2 rfl rfl 1 (by decide) f31 rfl rfl dX2_countStrokes_36 ?_
        refine hs_iconst C dX2_countStrokes_39 ?_
        refine hs_isub C dX2_countStrokes_40 ?_
        refine hs_re0 (w' := [hs_ia cI p1 40 K1, hs_ob p0 2 [.ref p1], hs_ob h0 0 [.ref h1, hs_V n], hs_ia cI h1 40 g]) [1, 0, 2, 3] rfl (by decide) ?_
        refine hs_callSNi (win := [hs_ia cI p1 40 K1]) (wr := [hs_ob p0 2 [.ref p1], hs_ob h0 0 [.ref h1, hs_V n], hs_ia cI h1 40 g]) (As := [.ref p1, hs_V 0, hs_V (n - 1)]) (rest := []) C (c_X6_sumOf l D cI cO p1 K1 0 (n - 1) (by omega)) ⟨va_cnB 3 C.1.2.2.2.2 gX2_countStrokes_X6_sumOf_n35 rfl rfl rfl n35 in35 (by decide +kernel) ⟨Nat.le_of_ble_eq_true rfl, Nat.le_of_ble_eq_true rfl⟩, sn35, trivial⟩ rfl rfl (Nat.le_of_ble_eq_true rfl) dX2_countStrokes_41 ⟨Nat.le_of_ble_eq_true rfl, Nat.le_of_ble_eq_true rfl⟩ (fun rr uu6 hp => ?_)
        obtain rfl := hp
        refine hs_re0 (w' := [hs_ob p0 2 [.ref p1], hs_ia cI p1 40 K1, hs_ob h0 0 [.ref h1, hs_V n], hs_ia cI h1 40 g]) [1, 0, 2, 3] rfl (by decide) ?_
        refine hs_cast (ws' := [hs_ob p0 2 [.ref p1], hs_ia cI p1 40 (pu_cs g n K), hs_ob h0 0 [.ref h1, hs_V n], hs_ia cI h1 40 g]) ?_ rfl rfl rfl (by rw [hcs])
        exact hret _ _ _ () (by rw [hcs]) dX2_countStrokes_44 rfl
      ·
        refine hs_aload_n C dX2_countStrokes_18 rfl 0 rfl ?_
        refine hs_iload_n C dX2_countStrokes_19 rfl 2 rfl ?_
        refine hs_aload_n C dX2_countStrokes_20 rfl 1 rfl ?_
        refine hs_callVv (win := [hs_ob p0 2 [.ref p1], hs_ia cI p1 40 K1, hs_ob h0 0 [.ref h1, hs_V n], hs_ia cI h1 40 g]) (wr := []) (As := [hs_V r, .ref h0]) (rest := []) C (c_X2_paintRow l D cI cO p0 p1 K1 h0 h1 n g r hK1 (by omega) hg (by omega)) 2 0 rfl rfl rfl (cwV 2 C.1.2.2.2.2 gX2_countStrokes_X2_paintRow rfl rfl rfl (by decide +kernel) ⟨Nat.le_of_ble_eq_true rfl, Nat.le_of_ble_eq_true rfl⟩) rfl rfl (Nat.le_of_ble_eq_true rfl) dX2_countStrokes_21 ⟨Nat.le_of_ble_eq_true rfl, Nat.le_of_ble_eq_true rfl⟩ (fun uu7 hp => ?_)
        refine hs_re0 (w' := [hs_ob p0 2 [.ref p1], hs_ia cI p1 40 (pu_row g n r K1), hs_ob h0 0 [.ref h1, hs_V n], hs_ia cI h1 40 g]) [0, 1, 2, 3] rfl (by decide) ?_
        have hb21 := pu_row_bd (g := g) (r := r) hn hK1
        refine hs_iinc (lv' := [(0, .ref p0), (1, .ref h0), (2, hs_V (r + (-1)))]) C dX2_countStrokes_24 2 rfl (by decide) [1, 2, 0] rfl ?_
        refine hs_goto (tgt := 13) C dX2_countStrokes_27 (by decide) ?_
        exact ih4 (r + (-1)) (pu_row g n r K1) (by omega) hb21 (by have hz := (hs_dn_step (by omega)).symm.trans hL; (try dsimp only at hz); first | exact hz | (split at hz <;> first | exact hz | (exfalso; omega) | (split at hz <;> first | exact hz | (exfalso; omega) | (split at hz <;> first | exact hz | (exfalso; omega))))) (by omega)
  exact Lp3 (((pu_gh g n) : Int).toNat + 1) (pu_gh g n) (pu_fill K 0 40 0) (by omega) hfl (rfl) (by omega)
