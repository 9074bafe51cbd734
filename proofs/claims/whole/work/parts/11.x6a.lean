set_option maxHeartbeats 4000000 in
set_option maxRecDepth 100000 in
theorem c_X6_pourAll (l : Launch) (D : va_G) (cI cO : ClassId) (x0 : Nat) (h0 : Nat) (k0 : Nat) (i0 : Nat) (w0 : Nat) (r0 : Nat) (t0 : Nat) (p0 : Nat) (h1 : Nat) (n : Int) (g : Int → Int) (w1 : Nat) (dp : Int → Int) (hn : 0 ≤ n ∧ n ≤ 40) (hg : ∀ k, 0 ≤ g k ∧ g k ≤ 50) (hdp : ∀ k, -50 ≤ dp k ∧ dp k ≤ 50) : hs_M l D cI cO yX6_pourAll wsX6_pourAll ({ frames := 2, cells := 0, slots := 0, locals := 47 } : Room) [.ref x0] [hs_ob x0 6 [.ref h0, .ref k0, .ref i0, .ref w0, .ref r0, .ref t0, .ref p0], hs_ob h0 0 [.ref h1, hs_V n], hs_ia cI h1 40 g, hs_ob w0 5 [.ref w1], hs_ia cI w1 40 dp] (fun r (_ : Unit) => r = hs_I (pu_pour g 0 (n - 1) dp).1) (fun _ => [hs_ob x0 6 [.ref h0, .ref k0, .ref i0, .ref w0, .ref r0, .ref t0, .ref p0], hs_ob h0 0 [.ref h1, hs_V n], hs_ia cI h1 40 g, hs_ob w0 5 [.ref w1], hs_ia cI w1 40 (pu_pour g 0 (n - 1) dp).2]) 0 0 := by
  refine hs_enter (cc := cX6_pourAll) (maxL := 1) (by decide +kernel) rfl (Nat.le_of_ble_eq_true rfl) (fun p e s m args below meth c A H0 Q C hret => ?_)
  have f30 := C.1.2.2.2.2 (.fieldLink RX6 30 "HistogramStairs" "water" "LHistogramStairs$Water;") (by decide +kernel)
  have u6 : ∀ w ∈ wsX60, w ∈ wsX6_pourAll := by decide +kernel
  have f10 := C.1.2.2.2.2 (.fieldLink RX6 10 "HistogramStairs" "columns" "LHistogramStairs$Columns;") (by decide +kernel)
  have f78 : (Cond.fieldLinkNest RX6 78 RX0 "heights" "[I" RX6).before args s = true := va_Nw.use (A := args) rfl (C.2.2.1.1 (RX6, 78, RX0, "heights", "[I") (by decide +kernel))
  have u0 : ∀ w ∈ wsX00, w ∈ wsX6_pourAll := by decide +kernel
  have f55 : (Cond.fieldLinkNest RX6 55 RX0 "size" "I" RX6).before args s = true := va_Nw.use (A := args) rfl (C.2.2.1.1 (RX6, 55, RX0, "size", "I") (by decide +kernel))
  refine hs_lvs (lv' := [(0, .ref x0)]) [0] rfl ?_
  refine hs_aload_n C dX6_pourAll_0 rfl 0 rfl ?_
  refine hs_get C u6 0 rfl rfl 3 (by decide) f30 rfl rfl dX6_pourAll_1 ?_
  refine hs_aload_n C dX6_pourAll_4 rfl 0 rfl ?_
  refine hs_get C u6 0 rfl rfl 0 (by decide) f10 rfl rfl dX6_pourAll_5 ?_
  refine hs_getN C u0 1 rfl rfl 0 (by decide) f78 rfl rfl dX6_pourAll_8 ?_
  refine hs_iconst C dX6_pourAll_11 ?_
  refine hs_aload_n C dX6_pourAll_12 rfl 0 rfl ?_
  refine hs_get C u6 0 rfl rfl 0 (by decide) f10 rfl rfl dX6_pourAll_13 ?_
  refine hs_getN C u0 1 rfl rfl 1 (by decide) f55 rfl rfl dX6_pourAll_16 ?_
  refine hs_iconst C dX6_pourAll_19 ?_
  refine hs_isub C dX6_pourAll_20 ?_
  refine hs_re0 (w' := [hs_ob w0 5 [.ref w1], hs_ia cI w1 40 dp, hs_ia cI h1 40 g, hs_ob x0 6 [.ref h0, .ref k0, .ref i0, .ref w0, .ref r0, .ref t0, .ref p0], hs_ob h0 0 [.ref h1, hs_V n]]) [3, 4, 2, 0, 1] rfl (by decide) ?_
  refine hs_callVi (win := [hs_ob w0 5 [.ref w1], hs_ia cI w1 40 dp, hs_ia cI h1 40 g]) (wr := [hs_ob x0 6 [.ref h0, .ref k0, .ref i0, .ref w0, .ref r0, .ref t0, .ref p0], hs_ob h0 0 [.ref h1, hs_V n]]) (As := [.ref h1, hs_V 0, hs_V (n - 1)]) (rest := []) C (c_X5_pour l D cI cO w0 w1 dp h1 g 0 (n - 1) hdp hg (by omega)) 5 0 rfl rfl rfl (cwV 3 C.1.2.2.2.2 gX6_pourAll_X5_pour rfl rfl rfl (by decide +kernel) ⟨Nat.le_of_ble_eq_true rfl, Nat.le_of_ble_eq_true rfl⟩) rfl rfl (Nat.le_of_ble_eq_true rfl) dX6_pourAll_21 ⟨Nat.le_of_ble_eq_true rfl, Nat.le_of_ble_eq_true rfl⟩ (fun rr uu1 hp => ?_)
  obtain rfl := hp
  refine hs_re0 (w' := [hs_ob x0 6 [.ref h0, .ref k0, .ref i0, .ref w0, .ref r0, .ref t0, .ref p0], hs_ob h0 0 [.ref h1, hs_V n], hs_ia cI h1 40 g, hs_ob w0 5 [.ref w1], hs_ia cI w1 40 (pu_pour g 0 (n - 1) dp).2]) [3, 4, 2, 0, 1] rfl (by decide) ?_
  exact hret _ _ _ () (by first | rfl | (rw [if_pos (by omega)]) | (rw [if_neg (by omega)])) dX6_pourAll_24 rfl

set_option maxHeartbeats 4000000 in
set_option maxRecDepth 100000 in
theorem c_X6_countPools (l : Launch) (D : va_G) (cI cO : ClassId) (x0 : Nat) (h0 : Nat) (k0 : Nat) (i0 : Nat) (w0 : Nat) (r0 : Nat) (t0 : Nat) (p0 : Nat) (h1 : Nat) (n : Int) (g : Int → Int) (w1 : Nat) (dp : Int → Int) (hn : 0 ≤ n ∧ n ≤ 40) (hg : ∀ k, 0 ≤ g k ∧ g k ≤ 50) (hdp : ∀ k, -50 ≤ dp k ∧ dp k ≤ 50) : hs_M l D cI cO yX6_countPools wsX6_countPools ({ frames := 3, cells := 0, slots := 0, locals := 67 } : Room) [.ref x0] [hs_ob x0 6 [.ref h0, .ref k0, .ref i0, .ref w0, .ref r0, .ref t0, .ref p0], hs_ob h0 0 [.ref h1, hs_V n], hs_ia cI h1 40 g, hs_ob w0 5 [.ref w1], hs_ia cI w1 40 dp] (fun r (_ : Unit) => r = hs_I (pu_pc (pu_pour g 0 (n - 1) dp).2 n)) (fun _ => [hs_ob x0 6 [.ref h0, .ref k0, .ref i0, .ref w0, .ref r0, .ref t0, .ref p0], hs_ob h0 0 [.ref h1, hs_V n], hs_ia cI h1 40 g, hs_ob w0 5 [.ref w1], hs_ia cI w1 40 (pu_pour g 0 (n - 1) dp).2]) 0 0 := by
  refine hs_enter (cc := cX6_countPools) (maxL := 1) (by decide +kernel) rfl (Nat.le_of_ble_eq_true rfl) (fun p e s m args below meth c A H0 Q C hret => ?_)
  have f30 := C.1.2.2.2.2 (.fieldLink RX6 30 "HistogramStairs" "water" "LHistogramStairs$Water;") (by decide +kernel)
  have u6 : ∀ w ∈ wsX60, w ∈ wsX6_countPools := by decide +kernel
  have f10 := C.1.2.2.2.2 (.fieldLink RX6 10 "HistogramStairs" "columns" "LHistogramStairs$Columns;") (by decide +kernel)
  have f55 : (Cond.fieldLinkNest RX6 55 RX0 "size" "I" RX6).before args s = true := va_Nw.use (A := args) rfl (C.2.2.1.1 (RX6, 55, RX0, "size", "I") (by decide +kernel))
  have u0 : ∀ w ∈ wsX00, w ∈ wsX6_countPools := by decide +kernel
  refine hs_lvs (lv' := [(0, .ref x0)]) [0] rfl ?_
  refine hs_aload_n C dX6_countPools_0 rfl 0 rfl ?_
  refine hs_callVi (win := [hs_ob x0 6 [.ref h0, .ref k0, .ref i0, .ref w0, .ref r0, .ref t0, .ref p0], hs_ob h0 0 [.ref h1, hs_V n], hs_ia cI h1 40 g, hs_ob w0 5 [.ref w1], hs_ia cI w1 40 dp]) (wr := []) (As := []) (rest := []) C (c_X6_pourAll l D cI cO x0 h0 k0 i0 w0 r0 t0 p0 h1 n g w1 dp (by omega) hg hdp) 6 0 rfl rfl rfl (cwV 0 C.1.2.2.2.2 gX6_countPools_X6_pourAll rfl rfl rfl (by decide +kernel) ⟨Nat.le_of_ble_eq_true rfl, Nat.le_of_ble_eq_true rfl⟩) rfl rfl (Nat.le_of_ble_eq_true rfl) dX6_countPools_1 ⟨Nat.le_of_ble_eq_true rfl, Nat.le_of_ble_eq_true rfl⟩ (fun rr uu1 hp => ?_)
  obtain rfl := hp
  refine hs_re0 (w' := [hs_ob x0 6 [.ref h0, .ref k0, .ref i0, .ref w0, .ref r0, .ref t0, .ref p0], hs_ob h0 0 [.ref h1, hs_V n], hs_ia cI h1 40 g, hs_ob w0 5 [.ref w1], hs_ia cI w1 40 (pu_pour g 0 (n - 1) dp).2]) [0, 1, 2, 3, 4] rfl (by decide) ?_
  have hpb := pu_pour_bd (a := 0) (b := n - 1) hg hdp (by omega) (by omega)
  refine hs_pop C dX6_countPools_4 rfl ?_
  refine hs_aload_n C dX6_countPools_5 rfl 0 rfl ?_
  refine hs_get C u6 0 rfl rfl 3 (by decide) f30 rfl rfl dX6_countPools_6 ?_
  refine hs_aload_n C dX6_countPools_9 rfl 0 rfl ?_
  refine hs_get C u6 0 rfl rfl 0 (by decide) f10 rfl rfl dX6_countPools_10 ?_
  refine hs_getN C u0 1 rfl rfl 1 (by decide) f55 rfl rfl dX6_countPools_13 ?_
  refine hs_re0 (w' := [hs_ob w0 5 [.ref w1], hs_ia cI w1 40 (pu_pour g 0 (n - 1) dp).2, hs_ob x0 6 [.ref h0, .ref k0, .ref i0, .ref w0, .ref r0, .ref t0, .ref p0], hs_ob h0 0 [.ref h1, hs_V n], hs_ia cI h1 40 g]) [3, 4, 0, 1, 2] rfl (by decide) ?_
  refine hs_callVi (win := [hs_ob w0 5 [.ref w1], hs_ia cI w1 40 (pu_pour g 0 (n - 1) dp).2]) (wr := [hs_ob x0 6 [.ref h0, .ref k0, .ref i0, .ref w0, .ref r0, .ref t0, .ref p0], hs_ob h0 0 [.ref h1, hs_V n], hs_ia cI h1 40 g]) (As := [hs_V n]) (rest := []) C (c_X5_poolCount l D cI cO w0 w1 (pu_pour g 0 (n - 1) dp).2 n hpb.2 (by omega)) 5 0 rfl rfl rfl (cwV 1 C.1.2.2.2.2 gX6_countPools_X5_poolCount rfl rfl rfl (by decide +kernel) ⟨Nat.le_of_ble_eq_true rfl, Nat.le_of_ble_eq_true rfl⟩) rfl rfl (Nat.le_of_ble_eq_true rfl) dX6_countPools_16 ⟨Nat.le_of_ble_eq_true rfl, Nat.le_of_ble_eq_true rfl⟩ (fun rr uu2 hp => ?_)
  obtain rfl := hp
  refine hs_re0 (w' := [hs_ob x0 6 [.ref h0, .ref k0, .ref i0, .ref w0, .ref r0, .ref t0, .ref p0], hs_ob h0 0 [.ref h1, hs_V n], hs_ia cI h1 40 g, hs_ob w0 5 [.ref w1], hs_ia cI w1 40 (pu_pour g 0 (n - 1) dp).2]) [2, 3, 4, 0, 1] rfl (by decide) ?_
  exact hret _ _ _ () (by first | rfl | (rw [if_pos (by omega)]) | (rw [if_neg (by omega)])) dX6_countPools_19 rfl

set_option maxHeartbeats 4000000 in
set_option maxRecDepth 100000 in
theorem c_X6_depthOfWater (l : Launch) (D : va_G) (cI cO : ClassId) (x0 : Nat) (h0 : Nat) (k0 : Nat) (i0 : Nat) (w0 : Nat) (r0 : Nat) (t0 : Nat) (p0 : Nat) (h1 : Nat) (n : Int) (g : Int → Int) (w1 : Nat) (dp : Int → Int) (i : Int) (hn : 0 ≤ n ∧ n ≤ 40) (hg : ∀ k, 0 ≤ g k ∧ g k ≤ 50) (hdp : ∀ k, -50 ≤ dp k ∧ dp k ≤ 50) (hi : 0 ≤ i ∧ i < n) : hs_M l D cI cO yX6_depthOfWater wsX6_depthOfWater ({ frames := 3, cells := 0, slots := 0, locals := 67 } : Room) [.ref x0, hs_V i] [hs_ob x0 6 [.ref h0, .ref k0, .ref i0, .ref w0, .ref r0, .ref t0, .ref p0], hs_ob h0 0 [.ref h1, hs_V n], hs_ia cI h1 40 g, hs_ob w0 5 [.ref w1], hs_ia cI w1 40 dp] (fun r (_ : Unit) => r = hs_I ((pu_pour g 0 (n - 1) dp).2 i)) (fun _ => [hs_ob x0 6 [.ref h0, .ref k0, .ref i0, .ref w0, .ref r0, .ref t0, .ref p0], hs_ob h0 0 [.ref h1, hs_V n], hs_ia cI h1 40 g, hs_ob w0 5 [.ref w1], hs_ia cI w1 40 (pu_pour g 0 (n - 1) dp).2]) 0 0 := by
  refine hs_enter (cc := cX6_depthOfWater) (maxL := 2) (by decide +kernel) rfl (Nat.le_of_ble_eq_true rfl) (fun p e s m args below meth c A H0 Q C hret => ?_)
  have f30 := C.1.2.2.2.2 (.fieldLink RX6 30 "HistogramStairs" "water" "LHistogramStairs$Water;") (by decide +kernel)
  have u6 : ∀ w ∈ wsX60, w ∈ wsX6_depthOfWater := by decide +kernel
  have f102 : (Cond.fieldLinkNest RX6 102 RX5 "depths" "[I" RX6).before args s = true := va_Nw.use (A := args) rfl (C.2.2.1.1 (RX6, 102, RX5, "depths", "[I") (by decide +kernel))
  have u5 : ∀ w ∈ wsX50, w ∈ wsX6_depthOfWater := by decide +kernel
  refine hs_lvs (lv' := [(0, .ref x0), (1, hs_V i)]) [0, 1] rfl ?_
  refine hs_aload_n C dX6_depthOfWater_0 rfl 0 rfl ?_
  refine hs_callVi (win := [hs_ob x0 6 [.ref h0, .ref k0, .ref i0, .ref w0, .ref r0, .ref t0, .ref p0], hs_ob h0 0 [.ref h1, hs_V n], hs_ia cI h1 40 g, hs_ob w0 5 [.ref w1], hs_ia cI w1 40 dp]) (wr := []) (As := []) (rest := []) C (c_X6_pourAll l D cI cO x0 h0 k0 i0 w0 r0 t0 p0 h1 n g w1 dp (by omega) hg hdp) 6 0 rfl rfl rfl (cwV 0 C.1.2.2.2.2 gX6_depthOfWater_X6_pourAll rfl rfl rfl (by decide +kernel) ⟨Nat.le_of_ble_eq_true rfl, Nat.le_of_ble_eq_true rfl⟩) rfl rfl (Nat.le_of_ble_eq_true rfl) dX6_depthOfWater_1 ⟨Nat.le_of_ble_eq_true rfl, Nat.le_of_ble_eq_true rfl⟩ (fun rr uu1 hp => ?_)
  obtain rfl := hp
  refine hs_re0 (w' := [hs_ob x0 6 [.ref h0, .ref k0, .ref i0, .ref w0, .ref r0, .ref t0, .ref p0], hs_ob h0 0 [.ref h1, hs_V n], hs_ia cI h1 40 g, hs_ob w0 5 [.ref w1], hs_ia cI w1 40 (pu_pour g 0 (n - 1) dp).2]) [0, 1, 2, 3, 4] rfl (by decide) ?_
  have hpb := pu_pour_bd (a := 0) (b := n - 1) hg hdp (by omega) (by omega)
  refine hs_pop C dX6_depthOfWater_4 rfl ?_
  refine hs_aload_n C dX6_depthOfWater_5 rfl 0 rfl ?_
  refine hs_get C u6 0 rfl rfl 3 (by decide) f30 rfl rfl dX6_depthOfWater_6 ?_
  refine hs_getN C u5 3 rfl rfl 0 (by decide) f102 rfl rfl dX6_depthOfWater_9 ?_
  refine hs_iload_n C dX6_depthOfWater_12 rfl 1 rfl ?_
  refine hs_iald C 4 rfl (by omega) dX6_depthOfWater_13 ?_
  have b2 := hpb.2 i
  exact hret _ _ _ () (by first | rfl | (rw [if_pos (by omega)]) | (rw [if_neg (by omega)])) dX6_depthOfWater_14 rfl

set_option maxHeartbeats 4000000 in
set_option maxRecDepth 100000 in
theorem c_X6_waterWithDam (l : Launch) (D : va_G) (cI cO : ClassId) (x0 : Nat) (h0 : Nat) (k0 : Nat) (i0 : Nat) (w0 : Nat) (r0 : Nat) (t0 : Nat) (p0 : Nat) (h1 : Nat) (n : Int) (g : Int → Int) (w1 : Nat) (dp : Int → Int) (i : Int) (d : Int) (hn : 0 ≤ n ∧ n ≤ 40) (hg : ∀ k, 0 ≤ g k ∧ g k ≤ 50) (hdp : ∀ k, -50 ≤ dp k ∧ dp k ≤ 50) (hi : 0 ≤ i ∧ i < n) (hd : 1 ≤ d ∧ d ≤ 50) : hs_M l D cI cO yX6_waterWithDam wsX6_waterWithDam ({ frames := 3, cells := 0, slots := 0, locals := 67 } : Room) [.ref x0, hs_V i, hs_V d] [hs_ob x0 6 [.ref h0, .ref k0, .ref i0, .ref w0, .ref r0, .ref t0, .ref p0], hs_ob h0 0 [.ref h1, hs_V n], hs_ia cI h1 40 g, hs_ob w0 5 [.ref w1], hs_ia cI w1 40 dp] (fun r (_ : Unit) => r = hs_I (pu_pour (hs_u g i (min (g i + d) 50)) 0 (n - 1) dp).1) (fun _ => [hs_ob x0 6 [.ref h0, .ref k0, .ref i0, .ref w0, .ref r0, .ref t0, .ref p0], hs_ob h0 0 [.ref h1, hs_V n], hs_ia cI h1 40 g, hs_ob w0 5 [.ref w1], hs_ia cI w1 40 (pu_pour (hs_u g i (min (g i + d) 50)) 0 (n - 1) dp).2]) 0 0 := by
  refine hs_enter (cc := cX6_waterWithDam) (maxL := 5) (by decide +kernel) rfl (Nat.le_of_ble_eq_true rfl) (fun p e s m args below meth c A H0 Q C hret => ?_)
  have f10 := C.1.2.2.2.2 (.fieldLink RX6 10 "HistogramStairs" "columns" "LHistogramStairs$Columns;") (by decide +kernel)
  have u6 : ∀ w ∈ wsX60, w ∈ wsX6_waterWithDam := by decide +kernel
  have f78 : (Cond.fieldLinkNest RX6 78 RX0 "heights" "[I" RX6).before args s = true := va_Nw.use (A := args) rfl (C.2.2.1.1 (RX6, 78, RX0, "heights", "[I") (by decide +kernel))
  have u0 : ∀ w ∈ wsX00, w ∈ wsX6_waterWithDam := by decide +kernel
  have m192 := C.1.2.2.2.2 (.methodLink RX6 192 Lib.Math.min.name) (by decide +kernel)
  have smin := C.1.2.2.2.2 (.static Lib.Math.min.name) (by decide +kernel)
  have iM := C.1.2.2.2.2 (.initialized "java/lang/Math") (by decide +kernel)
  have kmin := C.1.2.2.2.2 (.code Lib.Math.min.name Lib.Math.min.code 2 (some .int)) (by decide +kernel)
  refine hs_lvs (lv' := [(0, .ref x0), (1, hs_V i), (2, hs_V d)]) [0, 1, 2] rfl ?_
  refine hs_aload_n C dX6_waterWithDam_0 rfl 0 rfl ?_
  refine hs_get C u6 0 rfl rfl 0 (by decide) f10 rfl rfl dX6_waterWithDam_1 ?_
  refine hs_getN C u0 1 rfl rfl 0 (by decide) f78 rfl rfl dX6_waterWithDam_4 ?_
  refine hs_iload_n C dX6_waterWithDam_7 rfl 1 rfl ?_
  refine hs_iald C 2 rfl (by omega) dX6_waterWithDam_8 ?_
  have b1 := hg i
  refine hs_istore_n (lv' := [(0, .ref x0), (1, hs_V i), (2, hs_V d), (3, hs_V (g i))]) C dX6_waterWithDam_9 rfl (by decide) [1, 2, 3, 0] rfl ?_
  refine hs_aload_n C dX6_waterWithDam_10 rfl 0 rfl ?_
  refine hs_get C u6 0 rfl rfl 0 (by decide) f10 rfl rfl dX6_waterWithDam_11 ?_
  refine hs_getN C u0 1 rfl rfl 0 (by decide) f78 rfl rfl dX6_waterWithDam_14 ?_
  refine hs_iload_n C dX6_waterWithDam_17 rfl 1 rfl ?_
  refine hs_iload_n C dX6_waterWithDam_18 rfl 3 rfl ?_
  refine hs_iload_n C dX6_waterWithDam_19 rfl 2 rfl ?_
  refine hs_iadd C dX6_waterWithDam_20 ?_
  refine hs_bipush C dX6_waterWithDam_21 (by decide) ?_
  refine hs_min C m192 smin iM kmin (Nat.le_of_ble_eq_true rfl) (Nat.le_of_ble_eq_true rfl) (Nat.zero_le _) (Nat.zero_le _) (by omega) (by omega) dX6_waterWithDam_23 ?_
  refine hs_iast (ws' := [hs_ob x0 6 [.ref h0, .ref k0, .ref i0, .ref w0, .ref r0, .ref t0, .ref p0], hs_ob h0 0 [.ref h1, hs_V n], hs_ia cI h1 40 (hs_u g i (min ((g i) + d) 50)), hs_ob w0 5 [.ref w1], hs_ia cI w1 40 dp]) C 2 rfl (by omega) rfl dX6_waterWithDam_26 ?_
  have b2 := hs_u_bd (i := i) hg (show 0 ≤ min ((g i) + d) 50 ∧ min ((g i) + d) 50 ≤ 50 by omega)
  refine hs_aload_n C dX6_waterWithDam_27 rfl 0 rfl ?_
  refine hs_callVi (win := [hs_ob x0 6 [.ref h0, .ref k0, .ref i0, .ref w0, .ref r0, .ref t0, .ref p0], hs_ob h0 0 [.ref h1, hs_V n], hs_ia cI h1 40 (hs_u g i (min ((g i) + d) 50)), hs_ob w0 5 [.ref w1], hs_ia cI w1 40 dp]) (wr := []) (As := []) (rest := []) C (c_X6_pourAll l D cI cO x0 h0 k0 i0 w0 r0 t0 p0 h1 n (hs_u g i (min ((g i) + d) 50)) w1 dp (by omega) b2 hdp) 6 0 rfl rfl rfl (cwV 0 C.1.2.2.2.2 gX6_waterWithDam_X6_pourAll rfl rfl rfl (by decide +kernel) ⟨Nat.le_of_ble_eq_true rfl, Nat.le_of_ble_eq_true rfl⟩) rfl rfl (Nat.le_of_ble_eq_true rfl) dX6_waterWithDam_28 ⟨Nat.le_of_ble_eq_true rfl, Nat.le_of_ble_eq_true rfl⟩ (fun rr uu3 hp => ?_)
  obtain rfl := hp
  refine hs_re0 (w' := [hs_ob x0 6 [.ref h0, .ref k0, .ref i0, .ref w0, .ref r0, .ref t0, .ref p0], hs_ob h0 0 [.ref h1, hs_V n], hs_ia cI h1 40 (hs_u g i (min ((g i) + d) 50)), hs_ob w0 5 [.ref w1], hs_ia cI w1 40 (pu_pour (hs_u g i (min ((g i) + d) 50)) 0 (n - 1) dp).2]) [0, 1, 2, 3, 4] rfl (by decide) ?_
  refine hs_istore (lv' := [(0, .ref x0), (1, hs_V i), (2, hs_V d), (3, hs_V (g i)), (4, hs_V (pu_pour (hs_u g i (min ((g i) + d) 50)) 0 (n - 1) dp).1)]) C dX6_waterWithDam_31 (by decide) [1, 2, 3, 4, 0] rfl ?_
  refine hs_aload_n C dX6_waterWithDam_33 rfl 0 rfl ?_
  refine hs_get C u6 0 rfl rfl 0 (by decide) f10 rfl rfl dX6_waterWithDam_34 ?_
  refine hs_getN C u0 1 rfl rfl 0 (by decide) f78 rfl rfl dX6_waterWithDam_37 ?_
  refine hs_iload_n C dX6_waterWithDam_40 rfl 1 rfl ?_
  refine hs_iload_n C dX6_waterWithDam_41 rfl 3 rfl ?_
  refine hs_iast (ws' := [hs_ob x0 6 [.ref h0, .ref k0, .ref i0, .ref w0, .ref r0, .ref t0, .ref p0], hs_ob h0 0 [.ref h1, hs_V n], hs_ia cI h1 40 (hs_u (hs_u g i (min ((g i) + d) 50)) i (g i)), hs_ob w0 5 [.ref w1], hs_ia cI w1 40 (pu_pour (hs_u g i (min ((g i) + d) 50)) 0 (n - 1) dp).2]) C 2 rfl (by omega) rfl dX6_waterWithDam_42 ?_
  have b4 := hs_u_bd (i := i) b2 (show 0 ≤ g i ∧ g i ≤ 50 by omega)
  refine hs_iload C dX6_waterWithDam_43 4 rfl ?_
  refine hs_cast (ws' := [hs_ob x0 6 [.ref h0, .ref k0, .ref i0, .ref w0, .ref r0, .ref t0, .ref p0], hs_ob h0 0 [.ref h1, hs_V n], hs_ia cI h1 40 g, hs_ob w0 5 [.ref w1], hs_ia cI w1 40 (pu_pour (hs_u g i (min (g i + d) 50)) 0 (n - 1) dp).2]) ?_ rfl rfl rfl (by rw [hs_u_u])
  exact hret _ _ _ () (by first | rfl | (rw [if_pos (by omega)]) | (rw [if_neg (by omega)])) dX6_waterWithDam_45 rfl

set_option maxHeartbeats 4000000 in
set_option maxRecDepth 100000 in
theorem c_X6_countRectangles (l : Launch) (D : va_G) (cI cO : ClassId) (x0 : Nat) (h0 : Nat) (k0 : Nat) (i0 : Nat) (w0 : Nat) (r0 : Nat) (t0 : Nat) (p0 : Nat) (h1 : Nat) (n : Int) (g : Int → Int) (r1 : Nat) (r2 : Nat) (r3 : Nat) (r4 : Nat) (rc : Int) (F : Int → Int) (L : Int → Int) (T : Int → Int) (O : Int → Int) (hn : 0 ≤ n ∧ n ≤ 40) (hg : ∀ k, 0 ≤ g k ∧ g k ≤ 50) (hF : ∀ k, 0 ≤ F k ∧ F k ≤ 39) (hLb : ∀ k, 0 ≤ L k ∧ L k ≤ 39) (hT : ∀ k, 0 ≤ T k ∧ T k ≤ 50) (hO : ∀ k, 0 ≤ O k ∧ O k ≤ 39) : hs_M l D cI cO yX6_countRectangles wsX6_countRectangles ({ frames := 5, cells := 0, slots := 0, locals := 121 } : Room) [.ref x0] [hs_ob x0 6 [.ref h0, .ref k0, .ref i0, .ref w0, .ref r0, .ref t0, .ref p0], hs_ob h0 0 [.ref h1, hs_V n], hs_ia cI h1 40 g, hs_ob r0 3 [.ref r1, .ref r2, .ref r3, .ref r4, hs_V rc], hs_ia cI r1 40 F, hs_ia cI r2 40 L, hs_ia cI r3 40 T, hs_ia cI r4 40 O] (fun r (_ : Unit) => r = hs_I (pu_find g 0 (n - 1) (rc, F, L, T, O)).1) (fun _ => [hs_ob x0 6 [.ref h0, .ref k0, .ref i0, .ref w0, .ref r0, .ref t0, .ref p0], hs_ob h0 0 [.ref h1, hs_V n], hs_ia cI h1 40 g, hs_ob r0 3 [.ref r1, .ref r2, .ref r3, .ref r4, hs_V (pu_find g 0 (n - 1) (rc, F, L, T, O)).1], hs_ia cI r1 40 (pu_find g 0 (n - 1) (rc, F, L, T, O)).2.1, hs_ia cI r2 40 (pu_find g 0 (n - 1) (rc, F, L, T, O)).2.2.1, hs_ia cI r3 40 (pu_find g 0 (n - 1) (rc, F, L, T, O)).2.2.2.1, hs_ia cI r4 40 (pu_find g 0 (n - 1) (rc, F, L, T, O)).2.2.2.2]) 0 0 := by
  refine hs_enter (cc := cX6_countRectangles) (maxL := 1) (by decide +kernel) rfl (Nat.le_of_ble_eq_true rfl) (fun p e s m args below meth c A H0 Q C hret => ?_)
  have f37 := C.1.2.2.2.2 (.fieldLink RX6 37 "HistogramStairs" "rectangles" "LHistogramStairs$Rectangles;") (by decide +kernel)
  have u6 : ∀ w ∈ wsX60, w ∈ wsX6_countRectangles := by decide +kernel
  have f10 := C.1.2.2.2.2 (.fieldLink RX6 10 "HistogramStairs" "columns" "LHistogramStairs$Columns;") (by decide +kernel)
  have f78 : (Cond.fieldLinkNest RX6 78 RX0 "heights" "[I" RX6).before args s = true := va_Nw.use (A := args) rfl (C.2.2.1.1 (RX6, 78, RX0, "heights", "[I") (by decide +kernel))
  have u0 : ∀ w ∈ wsX00, w ∈ wsX6_countRectangles := by decide +kernel
  have f55 : (Cond.fieldLinkNest RX6 55 RX0 "size" "I" RX6).before args s = true := va_Nw.use (A := args) rfl (C.2.2.1.1 (RX6, 55, RX0, "size", "I") (by decide +kernel))
  have f181 : (Cond.fieldLinkNest RX6 181 RX3 "count" "I" RX6).before args s = true := va_Nw.use (A := args) rfl (C.2.2.1.1 (RX6, 181, RX3, "count", "I") (by decide +kernel))
  have u3 : ∀ w ∈ wsX30, w ∈ wsX6_countRectangles := by decide +kernel
  refine hs_lvs (lv' := [(0, .ref x0)]) [0] rfl ?_
  refine hs_aload_n C dX6_countRectangles_0 rfl 0 rfl ?_
  refine hs_get C u6 0 rfl rfl 4 (by decide) f37 rfl rfl dX6_countRectangles_1 ?_
  refine hs_aload_n C dX6_countRectangles_4 rfl 0 rfl ?_
  refine hs_get C u6 0 rfl rfl 0 (by decide) f10 rfl rfl dX6_countRectangles_5 ?_
  refine hs_getN C u0 1 rfl rfl 0 (by decide) f78 rfl rfl dX6_countRectangles_8 ?_
  refine hs_iconst C dX6_countRectangles_11 ?_
  refine hs_aload_n C dX6_countRectangles_12 rfl 0 rfl ?_
  refine hs_get C u6 0 rfl rfl 0 (by decide) f10 rfl rfl dX6_countRectangles_13 ?_
  refine hs_getN C u0 1 rfl rfl 1 (by decide) f55 rfl rfl dX6_countRectangles_16 ?_
  refine hs_iconst C dX6_countRectangles_19 ?_
  refine hs_isub C dX6_countRectangles_20 ?_
  refine hs_re0 (w' := [hs_ob r0 3 [.ref r1, .ref r2, .ref r3, .ref r4, hs_V rc], hs_ia cI r1 40 F, hs_ia cI r2 40 L, hs_ia cI r3 40 T, hs_ia cI r4 40 O, hs_ia cI h1 40 g, hs_ob x0 6 [.ref h0, .ref k0, .ref i0, .ref w0, .ref r0, .ref t0, .ref p0], hs_ob h0 0 [.ref h1, hs_V n]]) [3, 4, 5, 6, 7, 2, 0, 1] rfl (by decide) ?_
  refine hs_callVv (win := [hs_ob r0 3 [.ref r1, .ref r2, .ref r3, .ref r4, hs_V rc], hs_ia cI r1 40 F, hs_ia cI r2 40 L, hs_ia cI r3 40 T, hs_ia cI r4 40 O, hs_ia cI h1 40 g]) (wr := [hs_ob x0 6 [.ref h0, .ref k0, .ref i0, .ref w0, .ref r0, .ref t0, .ref p0], hs_ob h0 0 [.ref h1, hs_V n]]) (As := [.ref h1, hs_V 0, hs_V (n - 1)]) (rest := []) C (c_X3_find l D cI cO r0 r1 r2 r3 r4 rc F L T O h1 g 0 (n - 1) hF hLb hT hO hg (by omega)) 3 0 rfl rfl rfl (cwV 3 C.1.2.2.2.2 gX6_countRectangles_X3_find rfl rfl rfl (by decide +kernel) ⟨Nat.le_of_ble_eq_true rfl, Nat.le_of_ble_eq_true rfl⟩) rfl rfl (Nat.le_of_ble_eq_true rfl) dX6_countRectangles_21 ⟨Nat.le_of_ble_eq_true rfl, Nat.le_of_ble_eq_true rfl⟩ (fun uu1 hp => ?_)
  refine hs_re0 (w' := [hs_ob x0 6 [.ref h0, .ref k0, .ref i0, .ref w0, .ref r0, .ref t0, .ref p0], hs_ob h0 0 [.ref h1, hs_V n], hs_ia cI h1 40 g, hs_ob r0 3 [.ref r1, .ref r2, .ref r3, .ref r4, hs_V (pu_find g 0 (n - 1) (rc, F, L, T, O)).1], hs_ia cI r1 40 (pu_find g 0 (n - 1) (rc, F, L, T, O)).2.1, hs_ia cI r2 40 (pu_find g 0 (n - 1) (rc, F, L, T, O)).2.2.1, hs_ia cI r3 40 (pu_find g 0 (n - 1) (rc, F, L, T, O)).2.2.2.1, hs_ia cI r4 40 (pu_find g 0 (n - 1) (rc, F, L, T, O)).2.2.2.2]) [6, 7, 5, 0, 1, 2, 3, 4] rfl (by decide) ?_
  refine hs_aload_n C dX6_countRectangles_24 rfl 0 rfl ?_
  refine hs_get C u6 0 rfl rfl 4 (by decide) f37 rfl rfl dX6_countRectangles_25 ?_
  refine hs_getN C u3 3 rfl rfl 4 (by decide) f181 rfl rfl dX6_countRectangles_28 ?_
  exact hret _ _ _ () (by first | rfl | (rw [if_pos (by omega)]) | (rw [if_neg (by omega)])) dX6_countRectangles_31 rfl

set_option maxHeartbeats 4000000 in
set_option maxRecDepth 100000 in
theorem c_X6_largestRectangle (l : Launch) (D : va_G) (cI cO : ClassId) (x0 : Nat) (h0 : Nat) (k0 : Nat) (i0 : Nat) (w0 : Nat) (r0 : Nat) (t0 : Nat) (p0 : Nat) (h1 : Nat) (n : Int) (g : Int → Int) (r1 : Nat) (r2 : Nat) (r3 : Nat) (r4 : Nat) (rc : Int) (F : Int → Int) (L : Int → Int) (T : Int → Int) (O : Int → Int) (a : Int) (b : Int) (wh : Int) (hn : 0 ≤ n ∧ n ≤ 40) (hg : ∀ k, 0 ≤ g k ∧ g k ≤ 50) (hF : ∀ k, 0 ≤ F k ∧ F k ≤ 39) (hLb : ∀ k, 0 ≤ L k ∧ L k ≤ 39) (hT : ∀ k, 0 ≤ T k ∧ T k ≤ 50) (hO : ∀ k, 0 ≤ O k ∧ O k ≤ 39) (hab : 0 ≤ a ∧ a ≤ b ∧ b < n) (hw : 0 ≤ wh ∧ wh ≤ 3) : hs_M l D cI cO yX6_largestRectangle wsX6_largestRectangle ({ frames := 5, cells := 0, slots := 0, locals := 121 } : Room) [.ref x0, hs_V a, hs_V b, hs_V wh] [hs_ob x0 6 [.ref h0, .ref k0, .ref i0, .ref w0, .ref r0, .ref t0, .ref p0], hs_ob h0 0 [.ref h1, hs_V n], hs_ia cI h1 40 g, hs_ob r0 3 [.ref r1, .ref r2, .ref r3, .ref r4, hs_V rc], hs_ia cI r1 40 F, hs_ia cI r2 40 L, hs_ia cI r3 40 T, hs_ia cI r4 40 O] (fun r (_ : Unit) => r = hs_I (pu_lr (pu_find g a b (rc, F, L, T, O)) wh)) (fun _ => [hs_ob x0 6 [.ref h0, .ref k0, .ref i0, .ref w0, .ref r0, .ref t0, .ref p0], hs_ob h0 0 [.ref h1, hs_V n], hs_ia cI h1 40 g, hs_ob r0 3 [.ref r1, .ref r2, .ref r3, .ref r4, hs_V (pu_find g a b (rc, F, L, T, O)).1], hs_ia cI r1 40 (pu_find g a b (rc, F, L, T, O)).2.1, hs_ia cI r2 40 (pu_find g a b (rc, F, L, T, O)).2.2.1, hs_ia cI r3 40 (pu_find g a b (rc, F, L, T, O)).2.2.2.1, hs_ia cI r4 40 (pu_find g a b (rc, F, L, T, O)).2.2.2.2]) 0 0 := by
  refine hs_enter (cc := cX6_largestRectangle) (maxL := 4) (by decide +kernel) rfl (Nat.le_of_ble_eq_true rfl) (fun p e s m args below meth c A H0 Q C hret => ?_)
  have f37 := C.1.2.2.2.2 (.fieldLink RX6 37 "HistogramStairs" "rectangles" "LHistogramStairs$Rectangles;") (by decide +kernel)
  have u6 : ∀ w ∈ wsX60, w ∈ wsX6_largestRectangle := by decide +kernel
  have f10 := C.1.2.2.2.2 (.fieldLink RX6 10 "HistogramStairs" "columns" "LHistogramStairs$Columns;") (by decide +kernel)
  have f78 : (Cond.fieldLinkNest RX6 78 RX0 "heights" "[I" RX6).before args s = true := va_Nw.use (A := args) rfl (C.2.2.1.1 (RX6, 78, RX0, "heights", "[I") (by decide +kernel))
  have u0 : ∀ w ∈ wsX00, w ∈ wsX6_largestRectangle := by decide +kernel
  have f181 : (Cond.fieldLinkNest RX6 181 RX3 "count" "I" RX6).before args s = true := va_Nw.use (A := args) rfl (C.2.2.1.1 (RX6, 181, RX3, "count", "I") (by decide +kernel))
  have u3 : ∀ w ∈ wsX30, w ∈ wsX6_largestRectangle := by decide +kernel
  refine hs_lvs (lv' := [(0, .ref x0), (1, hs_V a), (2, hs_V b), (3, hs_V wh)]) [0, 1, 2, 3] rfl ?_
  refine hs_aload_n C dX6_largestRectangle_0 rfl 0 rfl ?_
  refine hs_get C u6 0 rfl rfl 4 (by decide) f37 rfl rfl dX6_largestRectangle_1 ?_
  refine hs_aload_n C dX6_largestRectangle_4 rfl 0 rfl ?_
  refine hs_get C u6 0 rfl rfl 0 (by decide) f10 rfl rfl dX6_largestRectangle_5 ?_
  refine hs_getN C u0 1 rfl rfl 0 (by decide) f78 rfl rfl dX6_largestRectangle_8 ?_
  refine hs_iload_n C dX6_largestRectangle_11 rfl 1 rfl ?_
  refine hs_iload_n C dX6_largestRectangle_12 rfl 2 rfl ?_
  refine hs_re0 (w' := [hs_ob r0 3 [.ref r1, .ref r2, .ref r3, .ref r4, hs_V rc], hs_ia cI r1 40 F, hs_ia cI r2 40 L, hs_ia cI r3 40 T, hs_ia cI r4 40 O, hs_ia cI h1 40 g, hs_ob x0 6 [.ref h0, .ref k0, .ref i0, .ref w0, .ref r0, .ref t0, .ref p0], hs_ob h0 0 [.ref h1, hs_V n]]) [3, 4, 5, 6, 7, 2, 0, 1] rfl (by decide) ?_
  refine hs_callVv (win := [hs_ob r0 3 [.ref r1, .ref r2, .ref r3, .ref r4, hs_V rc], hs_ia cI r1 40 F, hs_ia cI r2 40 L, hs_ia cI r3 40 T, hs_ia cI r4 40 O, hs_ia cI h1 40 g]) (wr := [hs_ob x0 6 [.ref h0, .ref k0, .ref i0, .ref w0, .ref r0, .ref t0, .ref p0], hs_ob h0 0 [.ref h1, hs_V n]]) (As := [.ref h1, hs_V a, hs_V b]) (rest := []) C (c_X3_find l D cI cO r0 r1 r2 r3 r4 rc F L T O h1 g a b hF hLb hT hO hg (by omega)) 3 0 rfl rfl rfl (cwV 3 C.1.2.2.2.2 gX6_largestRectangle_X3_find rfl rfl rfl (by decide +kernel) ⟨Nat.le_of_ble_eq_true rfl, Nat.le_of_ble_eq_true rfl⟩) rfl rfl (Nat.le_of_ble_eq_true rfl) dX6_largestRectangle_13 ⟨Nat.le_of_ble_eq_true rfl, Nat.le_of_ble_eq_true rfl⟩ (fun uu1 hp => ?_)
  refine hs_re0 (w' := [hs_ob x0 6 [.ref h0, .ref k0, .ref i0, .ref w0, .ref r0, .ref t0, .ref p0], hs_ob h0 0 [.ref h1, hs_V n], hs_ia cI h1 40 g, hs_ob r0 3 [.ref r1, .ref r2, .ref r3, .ref r4, hs_V (pu_find g a b (rc, F, L, T, O)).1], hs_ia cI r1 40 (pu_find g a b (rc, F, L, T, O)).2.1, hs_ia cI r2 40 (pu_find g a b (rc, F, L, T, O)).2.2.1, hs_ia cI r3 40 (pu_find g a b (rc, F, L, T, O)).2.2.2.1, hs_ia cI r4 40 (pu_find g a b (rc, F, L, T, O)).2.2.2.2]) [6, 7, 5, 0, 1, 2, 3, 4] rfl (by decide) ?_
  have hfb := pu_find_bd (g := g) (a := a) (b := b) (x := (rc, F, L, T, O)) hg ⟨hF, hLb, hT, hO⟩ (by omega)
  refine hs_aload_n C dX6_largestRectangle_16 rfl 0 rfl ?_
  refine hs_get C u6 0 rfl rfl 4 (by decide) f37 rfl rfl dX6_largestRectangle_17 ?_
  refine hs_getN C u3 3 rfl rfl 4 (by decide) f181 rfl rfl dX6_largestRectangle_20 ?_
  refine hs_if_ne (tgt := 37) C dX6_largestRectangle_23 (by decide) (by omega) (fun c2 => ?_) (fun c2 => ?_)
  ·
    refine hs_aload_n C dX6_largestRectangle_37 rfl 0 rfl ?_
    refine hs_get C u6 0 rfl rfl 4 (by decide) f37 rfl rfl dX6_largestRectangle_38 ?_
    refine hs_iconst C dX6_largestRectangle_41 ?_
    refine hs_iload_n C dX6_largestRectangle_42 rfl 3 rfl ?_
    refine hs_re0 (w' := [hs_ob r0 3 [.ref r1, .ref r2, .ref r3, .ref r4, hs_V (pu_find g a b (rc, F, L, T, O)).1], hs_ia cI r1 40 (pu_find g a b (rc, F, L, T, O)).2.1, hs_ia cI r2 40 (pu_find g a b (rc, F, L, T, O)).2.2.1, hs_ia cI r3 40 (pu_find g a b (rc, F, L, T, O)).2.2.2.1, hs_ia cI r4 40 (pu_find g a b (rc, F, L, T, O)).2.2.2.2, hs_ob x0 6 [.ref h0, .ref k0, .ref i0, .ref w0, .ref r0, .ref t0, .ref p0], hs_ob h0 0 [.ref h1, hs_V n], hs_ia cI h1 40 g]) [3, 4, 5, 6, 7, 0, 1, 2] rfl (by decide) ?_
    refine hs_callVi (win := [hs_ob r0 3 [.ref r1, .ref r2, .ref r3, .ref r4, hs_V (pu_find g a b (rc, F, L, T, O)).1], hs_ia cI r1 40 (pu_find g a b (rc, F, L, T, O)).2.1, hs_ia cI r2 40 (pu_find g a b (rc, F, L, T, O)).2.2.1, hs_ia cI r3 40 (pu_find g a b (rc, F, L, T, O)).2.2.2.1, hs_ia cI r4 40 (pu_find g a b (rc, F, L, T, O)).2.2.2.2]) (wr := [hs_ob x0 6 [.ref h0, .ref k0, .ref i0, .ref w0, .ref r0, .ref t0, .ref p0], hs_ob h0 0 [.ref h1, hs_V n], hs_ia cI h1 40 g]) (As := [hs_V 0, hs_V wh]) (rest := []) C (c_X3_property l D cI cO r0 r1 r2 r3 r4 (pu_find g a b (rc, F, L, T, O)).1 (pu_find g a b (rc, F, L, T, O)).2.1 (pu_find g a b (rc, F, L, T, O)).2.2.1 (pu_find g a b (rc, F, L, T, O)).2.2.2.1 (pu_find g a b (rc, F, L, T, O)).2.2.2.2 0 wh (by omega) (by omega)) 3 0 rfl rfl rfl (cwV 2 C.1.2.2.2.2 gX6_largestRectangle_X3_property rfl rfl rfl (by decide +kernel) ⟨Nat.le_of_ble_eq_true rfl, Nat.le_of_ble_eq_true rfl⟩) rfl rfl (Nat.le_of_ble_eq_true rfl) dX6_largestRectangle_43 ⟨Nat.le_of_ble_eq_true rfl, Nat.le_of_ble_eq_true rfl⟩ (fun rr uu3 hp => ?_)
    obtain rfl := hp
    refine hs_re0 (w' := [hs_ob x0 6 [.ref h0, .ref k0, .ref i0, .ref w0, .ref r0, .ref t0, .ref p0], hs_ob h0 0 [.ref h1, hs_V n], hs_ia cI h1 40 g, hs_ob r0 3 [.ref r1, .ref r2, .ref r3, .ref r4, hs_V (pu_find g a b (rc, F, L, T, O)).1], hs_ia cI r1 40 (pu_find g a b (rc, F, L, T, O)).2.1, hs_ia cI r2 40 (pu_find g a b (rc, F, L, T, O)).2.2.1, hs_ia cI r3 40 (pu_find g a b (rc, F, L, T, O)).2.2.2.1, hs_ia cI r4 40 (pu_find g a b (rc, F, L, T, O)).2.2.2.2]) [5, 6, 7, 0, 1, 2, 3, 4] rfl (by decide) ?_
    exact hret _ _ _ () (by unfold pu_lr; rw [if_neg (show ¬ (pu_find g a b (rc, F, L, T, O)).1 = 0 by omega)]) dX6_largestRectangle_46 rfl
  ·
    refine hs_iload_n C dX6_largestRectangle_26 rfl 3 rfl ?_
    refine hs_if_ne (tgt := 34) C dX6_largestRectangle_27 (by decide) (by omega) (fun c4 => ?_) (fun c4 => ?_)
    ·
      refine hs_bipush C dX6_largestRectangle_34 (by decide) ?_
      exact hret _ _ _ () (by unfold pu_lr; rw [if_pos (by omega)]; first | rw [if_pos (by omega)] | rw [if_neg (by omega)]) dX6_largestRectangle_36 rfl
    ·
      refine hs_iconst C dX6_largestRectangle_30 ?_
      refine hs_goto (tgt := 36) C dX6_largestRectangle_31 (by decide) ?_
      exact hret _ _ _ () (by unfold pu_lr; rw [if_pos (by omega)]; first | rw [if_pos (by omega)] | rw [if_neg (by omega)]) dX6_largestRectangle_36 rfl

set_option maxHeartbeats 4000000 in
set_option maxRecDepth 100000 in
theorem c_X6_treeParent (l : Launch) (D : va_G) (cI cO : ClassId) (x0 : Nat) (h0 : Nat) (k0 : Nat) (i0 : Nat) (w0 : Nat) (r0 : Nat) (t0 : Nat) (p0 : Nat) (h1 : Nat) (n : Int) (g : Int → Int) (t1 : Nat) (t2 : Nat) (P : Int → Int) (S : Int → Int) (i : Int) (hn : 0 ≤ n ∧ n ≤ 40) (hg : ∀ k, 0 ≤ g k ∧ g k ≤ 50) (hS : ∀ k, 0 ≤ S k ∧ S k ≤ 39) (hP : ∀ k, P k = -9 ∨ (0 ≤ P k ∧ P k ≤ 39)) (hi : 0 ≤ i ∧ i < n) : hs_M l D cI cO yX6_treeParent wsX6_treeParent ({ frames := 1, cells := 0, slots := 0, locals := 24 } : Room) [.ref x0, hs_V i] [hs_ob x0 6 [.ref h0, .ref k0, .ref i0, .ref w0, .ref r0, .ref t0, .ref p0], hs_ob h0 0 [.ref h1, hs_V n], hs_ia cI h1 40 g, hs_ob t0 4 [.ref t1, .ref t2], hs_ia cI t1 40 P, hs_ia cI t2 40 S] (fun r (_ : Unit) => r = hs_I ((pu_grow g n P S).2.1 i)) (fun _ => [hs_ob x0 6 [.ref h0, .ref k0, .ref i0, .ref w0, .ref r0, .ref t0, .ref p0], hs_ob h0 0 [.ref h1, hs_V n], hs_ia cI h1 40 g, hs_ob t0 4 [.ref t1, .ref t2], hs_ia cI t1 40 (pu_grow g n P S).2.1, hs_ia cI t2 40 (pu_grow g n P S).2.2]) 0 0 := by
  refine hs_enter (cc := cX6_treeParent) (maxL := 2) (by decide +kernel) rfl (Nat.le_of_ble_eq_true rfl) (fun p e s m args below meth c A H0 Q C hret => ?_)
  have f44 := C.1.2.2.2.2 (.fieldLink RX6 44 "HistogramStairs" "tree" "LHistogramStairs$Tree;") (by decide +kernel)
  have u6 : ∀ w ∈ wsX60, w ∈ wsX6_treeParent := by decide +kernel
  have f10 := C.1.2.2.2.2 (.fieldLink RX6 10 "HistogramStairs" "columns" "LHistogramStairs$Columns;") (by decide +kernel)
  have f224 : (Cond.fieldLinkNest RX6 224 RX4 "parents" "[I" RX6).before args s = true := va_Nw.use (A := args) rfl (C.2.2.1.1 (RX6, 224, RX4, "parents", "[I") (by decide +kernel))
  have u4 : ∀ w ∈ wsX40, w ∈ wsX6_treeParent := by decide +kernel
  refine hs_lvs (lv' := [(0, .ref x0), (1, hs_V i)]) [0, 1] rfl ?_
  refine hs_aload_n C dX6_treeParent_0 rfl 0 rfl ?_
  refine hs_get C u6 0 rfl rfl 5 (by decide) f44 rfl rfl dX6_treeParent_1 ?_
  refine hs_aload_n C dX6_treeParent_4 rfl 0 rfl ?_
  refine hs_get C u6 0 rfl rfl 0 (by decide) f10 rfl rfl dX6_treeParent_5 ?_
  refine hs_re0 (w' := [hs_ob t0 4 [.ref t1, .ref t2], hs_ia cI t1 40 P, hs_ia cI t2 40 S, hs_ob h0 0 [.ref h1, hs_V n], hs_ia cI h1 40 g, hs_ob x0 6 [.ref h0, .ref k0, .ref i0, .ref w0, .ref r0, .ref t0, .ref p0]]) [3, 4, 5, 1, 2, 0] rfl (by decide) ?_
  refine hs_callVv (win := [hs_ob t0 4 [.ref t1, .ref t2], hs_ia cI t1 40 P, hs_ia cI t2 40 S, hs_ob h0 0 [.ref h1, hs_V n], hs_ia cI h1 40 g]) (wr := [hs_ob x0 6 [.ref h0, .ref k0, .ref i0, .ref w0, .ref r0, .ref t0, .ref p0]]) (As := [.ref h0]) (rest := []) C (c_X4_grow l D cI cO t0 t1 t2 P S h0 h1 n g hS (by omega) hg) 4 0 rfl rfl rfl (cwV 1 C.1.2.2.2.2 gX6_treeParent_X4_grow rfl rfl rfl (by decide +kernel) ⟨Nat.le_of_ble_eq_true rfl, Nat.le_of_ble_eq_true rfl⟩) rfl rfl (Nat.le_of_ble_eq_true rfl) dX6_treeParent_8 ⟨Nat.le_of_ble_eq_true rfl, Nat.le_of_ble_eq_true rfl⟩ (fun uu1 hp => ?_)
  refine hs_re0 (w' := [hs_ob x0 6 [.ref h0, .ref k0, .ref i0, .ref w0, .ref r0, .ref t0, .ref p0], hs_ob h0 0 [.ref h1, hs_V n], hs_ia cI h1 40 g, hs_ob t0 4 [.ref t1, .ref t2], hs_ia cI t1 40 (pu_grow g n P S).2.1, hs_ia cI t2 40 (pu_grow g n P S).2.2]) [5, 3, 4, 0, 1, 2] rfl (by decide) ?_
  have hgb := pu_grow_bd (g := g) hn hS hP
  refine hs_aload_n C dX6_treeParent_11 rfl 0 rfl ?_
  refine hs_get C u6 0 rfl rfl 5 (by decide) f44 rfl rfl dX6_treeParent_12 ?_
  refine hs_getN C u4 3 rfl rfl 0 (by decide) f224 rfl rfl dX6_treeParent_15 ?_
  refine hs_iload_n C dX6_treeParent_18 rfl 1 rfl ?_
  refine hs_iald C 4 rfl (by omega) dX6_treeParent_19 ?_
  have b2 := hgb.1 i
  exact hret _ _ _ () (by first | rfl | (rw [if_pos (by omega)]) | (rw [if_neg (by omega)])) dX6_treeParent_20 rfl

set_option maxHeartbeats 4000000 in
set_option maxRecDepth 100000 in
theorem c_X6_treeDepth (l : Launch) (D : va_G) (cI cO : ClassId) (x0 : Nat) (h0 : Nat) (k0 : Nat) (i0 : Nat) (w0 : Nat) (r0 : Nat) (t0 : Nat) (p0 : Nat) (h1 : Nat) (n : Int) (g : Int → Int) (t1 : Nat) (t2 : Nat) (P : Int → Int) (S : Int → Int) (i : Int) (hn : 0 ≤ n ∧ n ≤ 40) (hg : ∀ k, 0 ≤ g k ∧ g k ≤ 50) (hS : ∀ k, 0 ≤ S k ∧ S k ≤ 39) (hP : ∀ k, P k = -9 ∨ (0 ≤ P k ∧ P k ≤ 39)) (hi : 0 ≤ i ∧ i < n) : hs_M l D cI cO yX6_treeDepth wsX6_treeDepth ({ frames := 1, cells := 0, slots := 0, locals := 24 } : Room) [.ref x0, hs_V i] [hs_ob x0 6 [.ref h0, .ref k0, .ref i0, .ref w0, .ref r0, .ref t0, .ref p0], hs_ob h0 0 [.ref h1, hs_V n], hs_ia cI h1 40 g, hs_ob t0 4 [.ref t1, .ref t2], hs_ia cI t1 40 P, hs_ia cI t2 40 S] (fun r (_ : Unit) => r = hs_I (pu_dp (pu_grow g n P S).2.1 i).1) (fun _ => [hs_ob x0 6 [.ref h0, .ref k0, .ref i0, .ref w0, .ref r0, .ref t0, .ref p0], hs_ob h0 0 [.ref h1, hs_V n], hs_ia cI h1 40 g, hs_ob t0 4 [.ref t1, .ref t2], hs_ia cI t1 40 (pu_grow g n P S).2.1, hs_ia cI t2 40 (pu_grow g n P S).2.2]) 0 0 := by
  refine hs_enter (cc := cX6_treeDepth) (maxL := 2) (by decide +kernel) rfl (Nat.le_of_ble_eq_true rfl) (fun p e s m args below meth c A H0 Q C hret => ?_)
  have f44 := C.1.2.2.2.2 (.fieldLink RX6 44 "HistogramStairs" "tree" "LHistogramStairs$Tree;") (by decide +kernel)
  have u6 : ∀ w ∈ wsX60, w ∈ wsX6_treeDepth := by decide +kernel
  have f10 := C.1.2.2.2.2 (.fieldLink RX6 10 "HistogramStairs" "columns" "LHistogramStairs$Columns;") (by decide +kernel)
  refine hs_lvs (lv' := [(0, .ref x0), (1, hs_V i)]) [0, 1] rfl ?_
  refine hs_aload_n C dX6_treeDepth_0 rfl 0 rfl ?_
  refine hs_get C u6 0 rfl rfl 5 (by decide) f44 rfl rfl dX6_treeDepth_1 ?_
  refine hs_aload_n C dX6_treeDepth_4 rfl 0 rfl ?_
  refine hs_get C u6 0 rfl rfl 0 (by decide) f10 rfl rfl dX6_treeDepth_5 ?_
  refine hs_re0 (w' := [hs_ob t0 4 [.ref t1, .ref t2], hs_ia cI t1 40 P, hs_ia cI t2 40 S, hs_ob h0 0 [.ref h1, hs_V n], hs_ia cI h1 40 g, hs_ob x0 6 [.ref h0, .ref k0, .ref i0, .ref w0, .ref r0, .ref t0, .ref p0]]) [3, 4, 5, 1, 2, 0] rfl (by decide) ?_
  refine hs_callVv (win := [hs_ob t0 4 [.ref t1, .ref t2], hs_ia cI t1 40 P, hs_ia cI t2 40 S, hs_ob h0 0 [.ref h1, hs_V n], hs_ia cI h1 40 g]) (wr := [hs_ob x0 6 [.ref h0, .ref k0, .ref i0, .ref w0, .ref r0, .ref t0, .ref p0]]) (As := [.ref h0]) (rest := []) C (c_X4_grow l D cI cO t0 t1 t2 P S h0 h1 n g hS (by omega) hg) 4 0 rfl rfl rfl (cwV 1 C.1.2.2.2.2 gX6_treeDepth_X4_grow rfl rfl rfl (by decide +kernel) ⟨Nat.le_of_ble_eq_true rfl, Nat.le_of_ble_eq_true rfl⟩) rfl rfl (Nat.le_of_ble_eq_true rfl) dX6_treeDepth_8 ⟨Nat.le_of_ble_eq_true rfl, Nat.le_of_ble_eq_true rfl⟩ (fun uu1 hp => ?_)
  refine hs_re0 (w' := [hs_ob x0 6 [.ref h0, .ref k0, .ref i0, .ref w0, .ref r0, .ref t0, .ref p0], hs_ob h0 0 [.ref h1, hs_V n], hs_ia cI h1 40 g, hs_ob t0 4 [.ref t1, .ref t2], hs_ia cI t1 40 (pu_grow g n P S).2.1, hs_ia cI t2 40 (pu_grow g n P S).2.2]) [5, 3, 4, 0, 1, 2] rfl (by decide) ?_
  have hgb := pu_grow_bd (g := g) hn hS hP
  refine hs_aload_n C dX6_treeDepth_11 rfl 0 rfl ?_
  refine hs_get C u6 0 rfl rfl 5 (by decide) f44 rfl rfl dX6_treeDepth_12 ?_
  refine hs_iload_n C dX6_treeDepth_15 rfl 1 rfl ?_
  refine hs_re0 (w' := [hs_ob t0 4 [.ref t1, .ref t2], hs_ia cI t1 40 (pu_grow g n P S).2.1, hs_ob x0 6 [.ref h0, .ref k0, .ref i0, .ref w0, .ref r0, .ref t0, .ref p0], hs_ob h0 0 [.ref h1, hs_V n], hs_ia cI h1 40 g, hs_ia cI t2 40 (pu_grow g n P S).2.2]) [3, 4, 0, 1, 2, 5] rfl (by decide) ?_
  refine hs_callVi (win := [hs_ob t0 4 [.ref t1, .ref t2], hs_ia cI t1 40 (pu_grow g n P S).2.1]) (wr := [hs_ob x0 6 [.ref h0, .ref k0, .ref i0, .ref w0, .ref r0, .ref t0, .ref p0], hs_ob h0 0 [.ref h1, hs_V n], hs_ia cI h1 40 g, hs_ia cI t2 40 (pu_grow g n P S).2.2]) (As := [hs_V i]) (rest := []) C (c_X4_depthOf l D cI cO t0 t1 t2 (pu_grow g n P S).2.1 i hgb.1 (by omega)) 4 0 rfl rfl rfl (cwV 1 C.1.2.2.2.2 gX6_treeDepth_X4_depthOf rfl rfl rfl (by decide +kernel) ⟨Nat.le_of_ble_eq_true rfl, Nat.le_of_ble_eq_true rfl⟩) rfl rfl (Nat.le_of_ble_eq_true rfl) dX6_treeDepth_16 ⟨Nat.le_of_ble_eq_true rfl, Nat.le_of_ble_eq_true rfl⟩ (fun rr uu2 hp => ?_)
  obtain rfl := hp
  refine hs_re0 (w' := [hs_ob x0 6 [.ref h0, .ref k0, .ref i0, .ref w0, .ref r0, .ref t0, .ref p0], hs_ob h0 0 [.ref h1, hs_V n], hs_ia cI h1 40 g, hs_ob t0 4 [.ref t1, .ref t2], hs_ia cI t1 40 (pu_grow g n P S).2.1, hs_ia cI t2 40 (pu_grow g n P S).2.2]) [2, 3, 4, 0, 1, 5] rfl (by decide) ?_
  exact hret _ _ _ () (by first | rfl | (rw [if_pos (by omega)]) | (rw [if_neg (by omega)])) dX6_treeDepth_19 rfl

set_option maxHeartbeats 4000000 in
set_option maxRecDepth 100000 in
theorem c_X6_greatestTreeDepth (l : Launch) (D : va_G) (cI cO : ClassId) (x0 : Nat) (h0 : Nat) (k0 : Nat) (i0 : Nat) (w0 : Nat) (r0 : Nat) (t0 : Nat) (p0 : Nat) (h1 : Nat) (n : Int) (g : Int → Int) (t1 : Nat) (t2 : Nat) (P : Int → Int) (S : Int → Int) (hn : 0 ≤ n ∧ n ≤ 40) (hg : ∀ k, 0 ≤ g k ∧ g k ≤ 50) (hS : ∀ k, 0 ≤ S k ∧ S k ≤ 39) (hP : ∀ k, P k = -9 ∨ (0 ≤ P k ∧ P k ≤ 39)) : hs_M l D cI cO yX6_greatestTreeDepth wsX6_greatestTreeDepth ({ frames := 1, cells := 0, slots := 0, locals := 24 } : Room) [.ref x0] [hs_ob x0 6 [.ref h0, .ref k0, .ref i0, .ref w0, .ref r0, .ref t0, .ref p0], hs_ob h0 0 [.ref h1, hs_V n], hs_ia cI h1 40 g, hs_ob t0 4 [.ref t1, .ref t2], hs_ia cI t1 40 P, hs_ia cI t2 40 S] (fun r (_ : Unit) => r = hs_I (pu_gtd g n P S)) (fun _ => [hs_ob x0 6 [.ref h0, .ref k0, .ref i0, .ref w0, .ref r0, .ref t0, .ref p0], hs_ob h0 0 [.ref h1, hs_V n], hs_ia cI h1 40 g, hs_ob t0 4 [.ref t1, .ref t2], hs_ia cI t1 40 (pu_grow g n P S).2.1, hs_ia cI t2 40 (pu_grow g n P S).2.2]) 0 0 := by
  refine hs_enter (cc := cX6_greatestTreeDepth) (maxL := 3) (by decide +kernel) rfl (Nat.le_of_ble_eq_true rfl) (fun p e s m args below meth c A H0 Q C hret => ?_)
  have f44 := C.1.2.2.2.2 (.fieldLink RX6 44 "HistogramStairs" "tree" "LHistogramStairs$Tree;") (by decide +kernel)
  have u6 : ∀ w ∈ wsX60, w ∈ wsX6_greatestTreeDepth := by decide +kernel
  have f10 := C.1.2.2.2.2 (.fieldLink RX6 10 "HistogramStairs" "columns" "LHistogramStairs$Columns;") (by decide +kernel)
  have f55 : (Cond.fieldLinkNest RX6 55 RX0 "size" "I" RX6).before args s = true := va_Nw.use (A := args) rfl (C.2.2.1.1 (RX6, 55, RX0, "size", "I") (by decide +kernel))
  have u0 : ∀ w ∈ wsX00, w ∈ wsX6_greatestTreeDepth := by decide +kernel
  have m230 := C.1.2.2.2.2 (.methodLink RX6 230 Lib.Math.max.name) (by decide +kernel)
  have smax := C.1.2.2.2.2 (.static Lib.Math.max.name) (by decide +kernel)
  have iM := C.1.2.2.2.2 (.initialized "java/lang/Math") (by decide +kernel)
  have kmax := C.1.2.2.2.2 (.code Lib.Math.max.name Lib.Math.max.code 2 (some .int)) (by decide +kernel)
  refine hs_lvs (lv' := [(0, .ref x0)]) [0] rfl ?_
  refine hs_aload_n C dX6_greatestTreeDepth_0 rfl 0 rfl ?_
  refine hs_get C u6 0 rfl rfl 5 (by decide) f44 rfl rfl dX6_greatestTreeDepth_1 ?_
  refine hs_aload_n C dX6_greatestTreeDepth_4 rfl 0 rfl ?_
  refine hs_get C u6 0 rfl rfl 0 (by decide) f10 rfl rfl dX6_greatestTreeDepth_5 ?_
  refine hs_re0 (w' := [hs_ob t0 4 [.ref t1, .ref t2], hs_ia cI t1 40 P, hs_ia cI t2 40 S, hs_ob h0 0 [.ref h1, hs_V n], hs_ia cI h1 40 g, hs_ob x0 6 [.ref h0, .ref k0, .ref i0, .ref w0, .ref r0, .ref t0, .ref p0]]) [3, 4, 5, 1, 2, 0] rfl (by decide) ?_
  refine hs_callVv (win := [hs_ob t0 4 [.ref t1, .ref t2], hs_ia cI t1 40 P, hs_ia cI t2 40 S, hs_ob h0 0 [.ref h1, hs_V n], hs_ia cI h1 40 g]) (wr := [hs_ob x0 6 [.ref h0, .ref k0, .ref i0, .ref w0, .ref r0, .ref t0, .ref p0]]) (As := [.ref h0]) (rest := []) C (c_X4_grow l D cI cO t0 t1 t2 P S h0 h1 n g hS (by omega) hg) 4 0 rfl rfl rfl (cwV 1 C.1.2.2.2.2 gX6_greatestTreeDepth_X4_grow rfl rfl rfl (by decide +kernel) ⟨Nat.le_of_ble_eq_true rfl, Nat.le_of_ble_eq_true rfl⟩) rfl rfl (Nat.le_of_ble_eq_true rfl) dX6_greatestTreeDepth_8 ⟨Nat.le_of_ble_eq_true rfl, Nat.le_of_ble_eq_true rfl⟩ (fun uu1 hp => ?_)
  refine hs_re0 (w' := [hs_ob x0 6 [.ref h0, .ref k0, .ref i0, .ref w0, .ref r0, .ref t0, .ref p0], hs_ob h0 0 [.ref h1, hs_V n], hs_ia cI h1 40 g, hs_ob t0 4 [.ref t1, .ref t2], hs_ia cI t1 40 (pu_grow g n P S).2.1, hs_ia cI t2 40 (pu_grow g n P S).2.2]) [5, 3, 4, 0, 1, 2] rfl (by decide) ?_
  have hgb := pu_grow_bd (g := g) hn hS hP
  refine hs_bipush C dX6_greatestTreeDepth_11 (by decide) ?_
  refine hs_istore_n (lv' := [(0, .ref x0), (1, hs_V (-9))]) C dX6_greatestTreeDepth_13 rfl (by decide) [1, 0] rfl ?_
  refine hs_iconst C dX6_greatestTreeDepth_14 ?_
  refine hs_istore_n (lv' := [(0, .ref x0), (1, hs_V (-9)), (2, hs_V 0)]) C dX6_greatestTreeDepth_15 rfl (by decide) [1, 2, 0] rfl ?_
  have Lp2 : ∀ (k : Nat) (i : Int) (x : Int), (0 ≤ i ∧ i ≤ n) → (-9 ≤ x ∧ x ≤ 40) → (hs_up (fun i x => max x (pu_dp (pu_grow g n P S).2.1 i).1) i n x = pu_gtd g n P S) → (n - i < (k : Int)) → hs_J p l e ({ frames := 1, cells := 0, slots := 0, locals := 24 } : Room) s m args below meth c D A H0 3 0 0 Q 16 [(0, .ref x0), (1, hs_V x), (2, hs_V i)] [] [hs_ob x0 6 [.ref h0, .ref k0, .ref i0, .ref w0, .ref r0, .ref t0, .ref p0], hs_ob h0 0 [.ref h1, hs_V n], hs_ia cI h1 40 g, hs_ob t0 4 [.ref t1, .ref t2], hs_ia cI t1 40 (pu_grow g n P S).2.1, hs_ia cI t2 40 (pu_grow g n P S).2.2] := by
    intro k
    induction k with
    | zero =>
      intro i x hi hx hL hk
      exact absurd hk (by omega)
    | succ k ih =>
      intro i x hi hx hL hk
      have ih3 := ih
      refine hs_iload_n C dX6_greatestTreeDepth_16 rfl 2 rfl ?_
      refine hs_aload_n C dX6_greatestTreeDepth_17 rfl 0 rfl ?_
      refine hs_get C u6 0 rfl rfl 0 (by decide) f10 rfl rfl dX6_greatestTreeDepth_18 ?_
      refine hs_getN C u0 1 rfl rfl 1 (by decide) f55 rfl rfl dX6_greatestTreeDepth_21 ?_
      refine hs_icmp_ge (tgt := 46) C dX6_greatestTreeDepth_24 (by decide) (by omega) (by omega) (fun c4 => ?_) (fun c4 => ?_)
      ·
        refine hs_iload_n C dX6_greatestTreeDepth_46 rfl 1 rfl ?_
        exact hret _ _ _ () (by rw [← hL, hs_up_done (by omega)]) dX6_greatestTreeDepth_47 rfl
      ·
        refine hs_iload_n C dX6_greatestTreeDepth_27 rfl 1 rfl ?_
        refine hs_aload_n C dX6_greatestTreeDepth_28 rfl 0 rfl ?_
        refine hs_get C u6 0 rfl rfl 5 (by decide) f44 rfl rfl dX6_greatestTreeDepth_29 ?_
        refine hs_iload_n C dX6_greatestTreeDepth_32 rfl 2 rfl ?_
        refine hs_re0 (w' := [hs_ob t0 4 [.ref t1, .ref t2], hs_ia cI t1 40 (pu_grow g n P S).2.1, hs_ob x0 6 [.ref h0, .ref k0, .ref i0, .ref w0, .ref r0, .ref t0, .ref p0], hs_ob h0 0 [.ref h1, hs_V n], hs_ia cI h1 40 g, hs_ia cI t2 40 (pu_grow g n P S).2.2]) [3, 4, 0, 1, 2, 5] rfl (by decide) ?_
        refine hs_callVi (win := [hs_ob t0 4 [.ref t1, .ref t2], hs_ia cI t1 40 (pu_grow g n P S).2.1]) (wr := [hs_ob x0 6 [.ref h0, .ref k0, .ref i0, .ref w0, .ref r0, .ref t0, .ref p0], hs_ob h0 0 [.ref h1, hs_V n], hs_ia cI h1 40 g, hs_ia cI t2 40 (pu_grow g n P S).2.2]) (As := [hs_V i]) (rest := [hs_V x]) C (c_X4_depthOf l D cI cO t0 t1 t2 (pu_grow g n P S).2.1 i hgb.1 (by omega)) 4 0 rfl rfl rfl (cwV 1 C.1.2.2.2.2 gX6_greatestTreeDepth_X4_depthOf rfl rfl rfl (by decide +kernel) ⟨Nat.le_of_ble_eq_true rfl, Nat.le_of_ble_eq_true rfl⟩) rfl rfl (Nat.le_of_ble_eq_true rfl) dX6_greatestTreeDepth_33 ⟨Nat.le_of_ble_eq_true rfl, Nat.le_of_ble_eq_true rfl⟩ (fun rr uu5 hp => ?_)
        obtain rfl := hp
        refine hs_re0 (w' := [hs_ob x0 6 [.ref h0, .ref k0, .ref i0, .ref w0, .ref r0, .ref t0, .ref p0], hs_ob h0 0 [.ref h1, hs_V n], hs_ia cI h1 40 g, hs_ob t0 4 [.ref t1, .ref t2], hs_ia cI t1 40 (pu_grow g n P S).2.1, hs_ia cI t2 40 (pu_grow g n P S).2.2]) [2, 3, 4, 0, 1, 5] rfl (by decide) ?_
        have hdb := pu_dp_bd (pu_grow g n P S).2.1 i
        refine hs_max C m230 smax iM kmax (Nat.le_of_ble_eq_true rfl) (Nat.le_of_ble_eq_true rfl) (Nat.zero_le _) (Nat.zero_le _) (by omega) (by omega) dX6_greatestTreeDepth_36 ?_
        refine hs_istore_n (lv' := [(0, .ref x0), (1, hs_V (max x (pu_dp (pu_grow g n P S).2.1 i).1)), (2, hs_V i)]) C dX6_greatestTreeDepth_39 rfl (by decide) [1, 0, 2] rfl ?_
        refine hs_iinc (lv' := [(0, .ref x0), (1, hs_V (max x (pu_dp (pu_grow g n P S).2.1 i).1)), (2, hs_V (i + 1))]) C dX6_greatestTreeDepth_40 2 rfl (by decide) [1, 2, 0] rfl ?_
        refine hs_goto (tgt := 16) C dX6_greatestTreeDepth_43 (by decide) ?_
        exact ih3 (i + 1) (max x (pu_dp (pu_grow g n P S).2.1 i).1) (by omega) (by omega) (by have hz := (hs_up_step (by omega)).symm.trans hL; (try dsimp only at hz); first | exact hz | (split at hz <;> first | exact hz | (exfalso; omega) | (split at hz <;> first | exact hz | (exfalso; omega) | (split at hz <;> first | exact hz | (exfalso; omega))))) (by omega)
  exact Lp2 ((n - 0 : Int).toNat + 1) 0 (-9) (by omega) (by omega) (rfl) (by omega)
