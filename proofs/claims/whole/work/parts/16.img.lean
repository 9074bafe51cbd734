set_option maxHeartbeats 4000000 in
set_option maxRecDepth 100000 in
theorem c_X6_keep_bad (l : Launch) (D : va_G) (cI cO : ClassId) (x0 : Nat) (h0 : Nat) (k0 : Nat) (i0 : Nat) (w0 : Nat) (r0 : Nat) (t0 : Nat) (p0 : Nat) (h1 : Nat) (n : Int) (g : Int → Int) (z : Int) (hn : 0 ≤ n ∧ n ≤ 40) (hz : hs_in z) (hb : ¬ (0 ≤ z ∧ z < 2)) : hs_M l D cI cO yX6_keep wsX6_keep ({ frames := 2, cells := 0, slots := 0, locals := 47 } : Room) [.ref x0, hs_V z] [hs_ob x0 6 [.ref h0, .ref k0, .ref i0, .ref w0, .ref r0, .ref t0, .ref p0], hs_ob h0 0 [.ref h1, hs_V n], hs_ia cI h1 40 g] (fun r (_ : Unit) => r = hs_I (-1)) (fun _ => [hs_ob x0 6 [.ref h0, .ref k0, .ref i0, .ref w0, .ref r0, .ref t0, .ref p0], hs_ob h0 0 [.ref h1, hs_V n], hs_ia cI h1 40 g]) 0 0 := by
  refine hs_enter (cc := cX6_keep) (maxL := 3) (by decide +kernel) rfl (Nat.le_of_ble_eq_true rfl) (fun p e s m args below meth c A H0 Q C hret => ?_)
  refine hs_lvs (lv' := [(0, .ref x0), (1, hs_V z)]) [0, 1] rfl ?_
  refine hs_iload_n C dX6_keep_0 rfl 1 rfl ?_
  refine hs_callSi (win := []) (wr := [hs_ob x0 6 [.ref h0, .ref k0, .ref i0, .ref w0, .ref r0, .ref t0, .ref p0], hs_ob h0 0 [.ref h1, hs_V n], hs_ia cI h1 40 g]) (As := [hs_V z]) (rest := []) C (c_X6_isImage l D cI cO z (by omega)) (va_cwS 1 C.1.2.2.2.2 gX6_keep_X6_isImage rfl rfl rfl (by decide +kernel) ⟨Nat.le_of_ble_eq_true rfl, Nat.le_of_ble_eq_true rfl⟩) rfl rfl (Nat.le_of_ble_eq_true rfl) dX6_keep_1 ⟨Nat.le_of_ble_eq_true rfl, Nat.le_of_ble_eq_true rfl⟩ (fun rr uu1 hp => ?_)
  obtain rfl := hp
  refine hs_re0 (w' := [hs_ob x0 6 [.ref h0, .ref k0, .ref i0, .ref w0, .ref r0, .ref t0, .ref p0], hs_ob h0 0 [.ref h1, hs_V n], hs_ia cI h1 40 g]) [0, 1, 2] rfl (by decide) ?_
  refine hs_ifne_b (tgt := 9) C dX6_keep_4 (by decide) (fun c2 => ?_) (fun c2 => ?_)
  ·
    exact absurd trivial (by omega)
  ·
    refine hs_iconst C dX6_keep_7 ?_
    exact hret _ _ _ () (by first | rfl | (rw [if_pos (by omega)]) | (rw [if_neg (by omega)])) dX6_keep_8 rfl

set_option maxHeartbeats 4000000 in
set_option maxRecDepth 100000 in
theorem c_X6_keep_0n (l : Launch) (D : va_G) (cI cO : ClassId) (x0 : Nat) (h0 : Nat) (k0 : Nat) (i0 : Nat) (w0 : Nat) (r0 : Nat) (t0 : Nat) (p0 : Nat) (h1 : Nat) (n : Int) (g : Int → Int) (ob : Option Nat) (hn : 0 ≤ n ∧ n ≤ 40) : hs_M l D cI cO yX6_keep wsX6_keep ({ frames := 2, cells := 2, slots := 42, locals := 47 } : Room) [.ref x0, hs_V 0] [hs_ob x0 6 [.ref h0, .ref k0, .ref i0, .ref w0, .ref r0, .ref t0, .ref p0], hs_ob h0 0 [.ref h1, hs_V n], hs_ia cI h1 40 g, hs_ra cO i0 2 (hs_o2 none ob)] (fun r (u : Nat × Nat) => r = hs_I n ∧ True) (fun u => [hs_ob x0 6 [.ref h0, .ref k0, .ref i0, .ref w0, .ref r0, .ref t0, .ref p0], hs_ob h0 0 [.ref h1, hs_V n], hs_ia cI h1 40 g, hs_ra cO i0 2 (hs_o2 (some u.1) ob), hs_ob u.1 0 [.ref u.2, hs_V n], hs_ia cI u.2 40 (hs_cp g (fun _ => 0) 0 0 n)]) 2 42 := by
  refine hs_enter (cc := cX6_keep) (maxL := 3) (by decide +kernel) rfl (Nat.le_of_ble_eq_true rfl) (fun p e s m args below meth c A H0 Q C hret => ?_)
  have f23 := C.1.2.2.2.2 (.fieldLink RX6 23 "HistogramStairs" "images" "[LHistogramStairs$Columns;") (by decide +kernel)
  have u6 : ∀ w ∈ wsX60, w ∈ wsX6_keep := by decide +kernel
  have u0 : ∀ w ∈ wsX00, w ∈ wsX6_keep := by decide +kernel
  have cl7 := C.1.2.2.2.2 (.classLink RX6 7 RX0) (by decide +kernel)
  have ns0 := C.1.2.2.2.2 (.instantiable RX0 2) (by decide +kernel)
  have ni0 := C.1.2.2.2.2 (.initialized RX0) (by decide +kernel)
  have in9 := C.1.2.2.2.2 (.initialized (yX0_init).cls) (by decide +kernel)
  have im9 := C.1.2.2.2.2 (.instanceMethod yX0_init) (by decide +kernel)
  have n9 : va_Nw (.methodLinkNest RX6 9 yX0_init RX6) s := C.2.2.1.2.1 (RX6, 9, yX0_init) (by decide +kernel)
  have f10 := C.1.2.2.2.2 (.fieldLink RX6 10 "HistogramStairs" "columns" "LHistogramStairs$Columns;") (by decide +kernel)
  have f55 : (Cond.fieldLinkNest RX6 55 RX0 "size" "I" RX6).before args s = true := va_Nw.use (A := args) rfl (C.2.2.1.1 (RX6, 55, RX0, "size", "I") (by decide +kernel))
  refine hs_lvs (lv' := [(0, .ref x0), (1, hs_V 0)]) [0, 1] rfl ?_
  refine hs_iload_n C dX6_keep_0 rfl 1 rfl ?_
  refine hs_callSi (win := []) (wr := [hs_ob x0 6 [.ref h0, .ref k0, .ref i0, .ref w0, .ref r0, .ref t0, .ref p0], hs_ob h0 0 [.ref h1, hs_V n], hs_ia cI h1 40 g, hs_ra cO i0 2 (hs_o2 none ob)]) (As := [hs_V 0]) (rest := []) C (c_X6_isImage l D cI cO 0 (by omega)) (va_cwS 1 C.1.2.2.2.2 gX6_keep_X6_isImage rfl rfl rfl (by decide +kernel) ⟨Nat.le_of_ble_eq_true rfl, Nat.le_of_ble_eq_true rfl⟩) rfl rfl (Nat.le_of_ble_eq_true rfl) dX6_keep_1 ⟨Nat.le_of_ble_eq_true rfl, Nat.le_of_ble_eq_true rfl⟩ (fun rr uu1 hp => ?_)
  obtain rfl := hp
  refine hs_re0 (w' := [hs_ob x0 6 [.ref h0, .ref k0, .ref i0, .ref w0, .ref r0, .ref t0, .ref p0], hs_ob h0 0 [.ref h1, hs_V n], hs_ia cI h1 40 g, hs_ra cO i0 2 (hs_o2 none ob)]) [0, 1, 2, 3] rfl (by decide) ?_
  refine hs_ifne_b (tgt := 9) C dX6_keep_4 (by decide) (fun c2 => ?_) (fun c2 => ?_)
  ·
    refine hs_aload_n C dX6_keep_9 rfl 0 rfl ?_
    refine hs_get C u6 0 rfl rfl 2 (by decide) f23 rfl rfl dX6_keep_10 ?_
    refine hs_iload_n C dX6_keep_13 rfl 1 rfl ?_
    refine hs_aald (v := .null) C 3 rfl (by omega) rfl dX6_keep_14 ?_
    refine hs_astore_nN (lv' := [(0, .ref x0), (1, hs_V 0), (2, .null)]) C dX6_keep_15 rfl (by decide) [1, 2, 0] rfl ?_
    refine hs_aload_nN C dX6_keep_16 rfl 2 rfl ?_
    refine hs_ifnonnullN C dX6_keep_17 ?_
    refine hs_new (ci := 0) (fs := [.null, hs_V 0]) C u0 tyX0 tyX0_ok cl7 ns0 ni0 rfl (fun j hj => by rcases (show j = 0 ∨ j = 1 by omega) with rfl | rfl <;> rfl) (Nat.le_of_ble_eq_true rfl) (Nat.le_of_ble_eq_true rfl) dX6_keep_20 (fun q3 => ?_)
    refine hs_cast (ws' := [hs_ob x0 6 [.ref h0, .ref k0, .ref i0, .ref w0, .ref r0, .ref t0, .ref p0], hs_ob h0 0 [.ref h1, hs_V n], hs_ia cI h1 40 g, hs_ra cO i0 2 (hs_o2 none ob), hs_ob q3 0 [.null, hs_V 0]]) ?_ rfl rfl rfl rfl
    refine hs_dup C dX6_keep_23 rfl ?_
    refine hs_re0 (w' := [hs_ob q3 0 [.null, hs_V 0], hs_ob x0 6 [.ref h0, .ref k0, .ref i0, .ref w0, .ref r0, .ref t0, .ref p0], hs_ob h0 0 [.ref h1, hs_V n], hs_ia cI h1 40 g, hs_ra cO i0 2 (hs_o2 none ob)]) [4, 0, 1, 2, 3] rfl (by decide) ?_
    refine hs_callINv (win := [hs_ob q3 0 [.null, hs_V 0]]) (wr := [hs_ob x0 6 [.ref h0, .ref k0, .ref i0, .ref w0, .ref r0, .ref t0, .ref p0], hs_ob h0 0 [.ref h1, hs_V n], hs_ia cI h1 40 g, hs_ra cO i0 2 (hs_o2 none ob)]) (As := []) (rest := [.ref q3]) C (c_X0_init l D cI cO q3 ) ⟨va_cnB 0 C.1.2.2.2.2 gX6_keep_X0_init_n9 rfl rfl rfl n9 in9 (by decide +kernel) ⟨Nat.le_of_ble_eq_true rfl, Nat.le_of_ble_eq_true rfl⟩, rfl, im9⟩ rfl rfl (Nat.le_of_ble_eq_true rfl) dX6_keep_24 ⟨Nat.le_of_ble_eq_true rfl, Nat.le_of_ble_eq_true rfl⟩ (fun uu4 hp => ?_)
    refine hs_re0 (w' := [hs_ob x0 6 [.ref h0, .ref k0, .ref i0, .ref w0, .ref r0, .ref t0, .ref p0], hs_ob h0 0 [.ref h1, hs_V n], hs_ia cI h1 40 g, hs_ra cO i0 2 (hs_o2 none ob), hs_ob q3 0 [.ref (uu4 0), hs_V 0], hs_ia cI (uu4 0) 40 (fun _ => 0)]) [2, 3, 4, 5, 0, 1] rfl (by decide) ?_
    refine hs_astore_n (lv' := [(0, .ref x0), (1, hs_V 0), (2, .ref q3)]) C dX6_keep_27 rfl (by decide) [1, 2, 0] rfl ?_
    refine hs_aload_n C dX6_keep_28 rfl 0 rfl ?_
    refine hs_get C u6 0 rfl rfl 2 (by decide) f23 rfl rfl dX6_keep_29 ?_
    refine hs_iload_n C dX6_keep_32 rfl 1 rfl ?_
    refine hs_aload_n C dX6_keep_33 rfl 2 rfl ?_
    refine hs_aast (f' := hs_o2 (some q3) ob) (ws' := [hs_ob x0 6 [.ref h0, .ref k0, .ref i0, .ref w0, .ref r0, .ref t0, .ref p0], hs_ob h0 0 [.ref h1, hs_V n], hs_ia cI h1 40 g, hs_ra cO i0 2 (hs_o2 (some q3) ob), hs_ob q3 0 [.ref (uu4 0), hs_V 0], hs_ia cI (uu4 0) 40 (fun _ => 0)]) C 3 4 rfl rfl (by omega) hs_o2_u0 rfl dX6_keep_34 ?_
    refine hs_aload_n C dX6_keep_35 rfl 2 rfl ?_
    refine hs_aload_n C dX6_keep_36 rfl 0 rfl ?_
    refine hs_get C u6 0 rfl rfl 0 (by decide) f10 rfl rfl dX6_keep_37 ?_
    refine hs_re0 (w' := [hs_ob q3 0 [.ref (uu4 0), hs_V 0], hs_ia cI (uu4 0) 40 (fun _ => 0), hs_ob h0 0 [.ref h1, hs_V n], hs_ia cI h1 40 g, hs_ob x0 6 [.ref h0, .ref k0, .ref i0, .ref w0, .ref r0, .ref t0, .ref p0], hs_ra cO i0 2 (hs_o2 (some q3) ob)]) [4, 5, 1, 2, 0, 3] rfl (by decide) ?_
    refine hs_callVv (win := [hs_ob q3 0 [.ref (uu4 0), hs_V 0], hs_ia cI (uu4 0) 40 (fun _ => 0), hs_ob h0 0 [.ref h1, hs_V n], hs_ia cI h1 40 g]) (wr := [hs_ob x0 6 [.ref h0, .ref k0, .ref i0, .ref w0, .ref r0, .ref t0, .ref p0], hs_ra cO i0 2 (hs_o2 (some q3) ob)]) (As := [.ref h0]) (rest := []) C (c_X0_copyFrom l D cI cO q3 (uu4 0) 0 (fun _ => 0) h0 h1 n g (by omega)) 0 0 rfl rfl rfl (cwV 1 C.1.2.2.2.2 gX6_keep_X0_copyFrom rfl rfl rfl (by decide +kernel) ⟨Nat.le_of_ble_eq_true rfl, Nat.le_of_ble_eq_true rfl⟩) rfl rfl (Nat.le_of_ble_eq_true rfl) dX6_keep_40 ⟨Nat.le_of_ble_eq_true rfl, Nat.le_of_ble_eq_true rfl⟩ (fun uu5 hp => ?_)
    refine hs_re0 (w' := [hs_ob x0 6 [.ref h0, .ref k0, .ref i0, .ref w0, .ref r0, .ref t0, .ref p0], hs_ob h0 0 [.ref h1, hs_V n], hs_ia cI h1 40 g, hs_ra cO i0 2 (hs_o2 (some q3) ob), hs_ob q3 0 [.ref (uu4 0), hs_V n], hs_ia cI (uu4 0) 40 (hs_cp g (fun _ => 0) 0 0 n)]) [4, 2, 3, 5, 0, 1] rfl (by decide) ?_
    refine hs_aload_n C dX6_keep_43 rfl 0 rfl ?_
    refine hs_get C u6 0 rfl rfl 0 (by decide) f10 rfl rfl dX6_keep_44 ?_
    refine hs_getN C u0 1 rfl rfl 1 (by decide) f55 rfl rfl dX6_keep_47 ?_
    exact hret _ _ _ (q3, uu4 0) ⟨by first | rfl | (rw [if_pos (by omega)]) | (rw [if_neg (by omega)]), trivial⟩ dX6_keep_50 rfl
  ·
    exact absurd trivial (by omega)

set_option maxHeartbeats 4000000 in
set_option maxRecDepth 100000 in
theorem c_X6_keep_0s (l : Launch) (D : va_G) (cI cO : ClassId) (x0 : Nat) (h0 : Nat) (k0 : Nat) (i0 : Nat) (w0 : Nat) (r0 : Nat) (t0 : Nat) (p0 : Nat) (h1 : Nat) (n : Int) (g : Int → Int) (ob : Option Nat) (m0 : Nat) (m1 : Nat) (mn : Int) (mg : Int → Int) (hn : 0 ≤ n ∧ n ≤ 40) : hs_M l D cI cO yX6_keep wsX6_keep ({ frames := 2, cells := 0, slots := 0, locals := 47 } : Room) [.ref x0, hs_V 0] [hs_ob x0 6 [.ref h0, .ref k0, .ref i0, .ref w0, .ref r0, .ref t0, .ref p0], hs_ob h0 0 [.ref h1, hs_V n], hs_ia cI h1 40 g, hs_ra cO i0 2 (hs_o2 (some m0) ob), hs_ob m0 0 [.ref m1, hs_V mn], hs_ia cI m1 40 mg] (fun r (_ : Unit) => r = hs_I n) (fun _ => [hs_ob x0 6 [.ref h0, .ref k0, .ref i0, .ref w0, .ref r0, .ref t0, .ref p0], hs_ob h0 0 [.ref h1, hs_V n], hs_ia cI h1 40 g, hs_ra cO i0 2 (hs_o2 (some m0) ob), hs_ob m0 0 [.ref m1, hs_V n], hs_ia cI m1 40 (hs_cp g mg 0 0 n)]) 0 0 := by
  refine hs_enter (cc := cX6_keep) (maxL := 3) (by decide +kernel) rfl (Nat.le_of_ble_eq_true rfl) (fun p e s m args below meth c A H0 Q C hret => ?_)
  have f23 := C.1.2.2.2.2 (.fieldLink RX6 23 "HistogramStairs" "images" "[LHistogramStairs$Columns;") (by decide +kernel)
  have u6 : ∀ w ∈ wsX60, w ∈ wsX6_keep := by decide +kernel
  have f10 := C.1.2.2.2.2 (.fieldLink RX6 10 "HistogramStairs" "columns" "LHistogramStairs$Columns;") (by decide +kernel)
  have f55 : (Cond.fieldLinkNest RX6 55 RX0 "size" "I" RX6).before args s = true := va_Nw.use (A := args) rfl (C.2.2.1.1 (RX6, 55, RX0, "size", "I") (by decide +kernel))
  have u0 : ∀ w ∈ wsX00, w ∈ wsX6_keep := by decide +kernel
  refine hs_lvs (lv' := [(0, .ref x0), (1, hs_V 0)]) [0, 1] rfl ?_
  refine hs_iload_n C dX6_keep_0 rfl 1 rfl ?_
  refine hs_callSi (win := []) (wr := [hs_ob x0 6 [.ref h0, .ref k0, .ref i0, .ref w0, .ref r0, .ref t0, .ref p0], hs_ob h0 0 [.ref h1, hs_V n], hs_ia cI h1 40 g, hs_ra cO i0 2 (hs_o2 (some m0) ob), hs_ob m0 0 [.ref m1, hs_V mn], hs_ia cI m1 40 mg]) (As := [hs_V 0]) (rest := []) C (c_X6_isImage l D cI cO 0 (by omega)) (va_cwS 1 C.1.2.2.2.2 gX6_keep_X6_isImage rfl rfl rfl (by decide +kernel) ⟨Nat.le_of_ble_eq_true rfl, Nat.le_of_ble_eq_true rfl⟩) rfl rfl (Nat.le_of_ble_eq_true rfl) dX6_keep_1 ⟨Nat.le_of_ble_eq_true rfl, Nat.le_of_ble_eq_true rfl⟩ (fun rr uu1 hp => ?_)
  obtain rfl := hp
  refine hs_re0 (w' := [hs_ob x0 6 [.ref h0, .ref k0, .ref i0, .ref w0, .ref r0, .ref t0, .ref p0], hs_ob h0 0 [.ref h1, hs_V n], hs_ia cI h1 40 g, hs_ra cO i0 2 (hs_o2 (some m0) ob), hs_ob m0 0 [.ref m1, hs_V mn], hs_ia cI m1 40 mg]) [0, 1, 2, 3, 4, 5] rfl (by decide) ?_
  refine hs_ifne_b (tgt := 9) C dX6_keep_4 (by decide) (fun c2 => ?_) (fun c2 => ?_)
  ·
    refine hs_aload_n C dX6_keep_9 rfl 0 rfl ?_
    refine hs_get C u6 0 rfl rfl 2 (by decide) f23 rfl rfl dX6_keep_10 ?_
    refine hs_iload_n C dX6_keep_13 rfl 1 rfl ?_
    refine hs_aald (v := .ref m0) C 3 rfl (by omega) rfl dX6_keep_14 ?_
    refine hs_astore_n (lv' := [(0, .ref x0), (1, hs_V 0), (2, .ref m0)]) C dX6_keep_15 rfl (by decide) [1, 2, 0] rfl ?_
    refine hs_aload_n C dX6_keep_16 rfl 2 rfl ?_
    refine hs_ifnonnull (tgt := 35) C dX6_keep_17 (by decide) ?_
    refine hs_aload_n C dX6_keep_35 rfl 2 rfl ?_
    refine hs_aload_n C dX6_keep_36 rfl 0 rfl ?_
    refine hs_get C u6 0 rfl rfl 0 (by decide) f10 rfl rfl dX6_keep_37 ?_
    refine hs_re0 (w' := [hs_ob m0 0 [.ref m1, hs_V mn], hs_ia cI m1 40 mg, hs_ob h0 0 [.ref h1, hs_V n], hs_ia cI h1 40 g, hs_ob x0 6 [.ref h0, .ref k0, .ref i0, .ref w0, .ref r0, .ref t0, .ref p0], hs_ra cO i0 2 (hs_o2 (some m0) ob)]) [4, 5, 1, 2, 0, 3] rfl (by decide) ?_
    refine hs_callVv (win := [hs_ob m0 0 [.ref m1, hs_V mn], hs_ia cI m1 40 mg, hs_ob h0 0 [.ref h1, hs_V n], hs_ia cI h1 40 g]) (wr := [hs_ob x0 6 [.ref h0, .ref k0, .ref i0, .ref w0, .ref r0, .ref t0, .ref p0], hs_ra cO i0 2 (hs_o2 (some m0) ob)]) (As := [.ref h0]) (rest := []) C (c_X0_copyFrom l D cI cO m0 m1 mn mg h0 h1 n g (by omega)) 0 0 rfl rfl rfl (cwV 1 C.1.2.2.2.2 gX6_keep_X0_copyFrom rfl rfl rfl (by decide +kernel) ⟨Nat.le_of_ble_eq_true rfl, Nat.le_of_ble_eq_true rfl⟩) rfl rfl (Nat.le_of_ble_eq_true rfl) dX6_keep_40 ⟨Nat.le_of_ble_eq_true rfl, Nat.le_of_ble_eq_true rfl⟩ (fun uu3 hp => ?_)
    refine hs_re0 (w' := [hs_ob x0 6 [.ref h0, .ref k0, .ref i0, .ref w0, .ref r0, .ref t0, .ref p0], hs_ob h0 0 [.ref h1, hs_V n], hs_ia cI h1 40 g, hs_ra cO i0 2 (hs_o2 (some m0) ob), hs_ob m0 0 [.ref m1, hs_V n], hs_ia cI m1 40 (hs_cp g mg 0 0 n)]) [4, 2, 3, 5, 0, 1] rfl (by decide) ?_
    refine hs_aload_n C dX6_keep_43 rfl 0 rfl ?_
    refine hs_get C u6 0 rfl rfl 0 (by decide) f10 rfl rfl dX6_keep_44 ?_
    refine hs_getN C u0 1 rfl rfl 1 (by decide) f55 rfl rfl dX6_keep_47 ?_
    exact hret _ _ _ () (by first | rfl | (rw [if_pos (by omega)]) | (rw [if_neg (by omega)])) dX6_keep_50 rfl
  ·
    exact absurd trivial (by omega)

set_option maxHeartbeats 4000000 in
set_option maxRecDepth 100000 in
theorem c_X6_keep_1n (l : Launch) (D : va_G) (cI cO : ClassId) (x0 : Nat) (h0 : Nat) (k0 : Nat) (i0 : Nat) (w0 : Nat) (r0 : Nat) (t0 : Nat) (p0 : Nat) (h1 : Nat) (n : Int) (g : Int → Int) (ob : Option Nat) (hn : 0 ≤ n ∧ n ≤ 40) : hs_M l D cI cO yX6_keep wsX6_keep ({ frames := 2, cells := 2, slots := 42, locals := 47 } : Room) [.ref x0, hs_V 1] [hs_ob x0 6 [.ref h0, .ref k0, .ref i0, .ref w0, .ref r0, .ref t0, .ref p0], hs_ob h0 0 [.ref h1, hs_V n], hs_ia cI h1 40 g, hs_ra cO i0 2 (hs_o2 ob none)] (fun r (u : Nat × Nat) => r = hs_I n ∧ True) (fun u => [hs_ob x0 6 [.ref h0, .ref k0, .ref i0, .ref w0, .ref r0, .ref t0, .ref p0], hs_ob h0 0 [.ref h1, hs_V n], hs_ia cI h1 40 g, hs_ra cO i0 2 (hs_o2 ob (some u.1)), hs_ob u.1 0 [.ref u.2, hs_V n], hs_ia cI u.2 40 (hs_cp g (fun _ => 0) 0 0 n)]) 2 42 := by
  refine hs_enter (cc := cX6_keep) (maxL := 3) (by decide +kernel) rfl (Nat.le_of_ble_eq_true rfl) (fun p e s m args below meth c A H0 Q C hret => ?_)
  have f23 := C.1.2.2.2.2 (.fieldLink RX6 23 "HistogramStairs" "images" "[LHistogramStairs$Columns;") (by decide +kernel)
  have u6 : ∀ w ∈ wsX60, w ∈ wsX6_keep := by decide +kernel
  have u0 : ∀ w ∈ wsX00, w ∈ wsX6_keep := by decide +kernel
  have cl7 := C.1.2.2.2.2 (.classLink RX6 7 RX0) (by decide +kernel)
  have ns0 := C.1.2.2.2.2 (.instantiable RX0 2) (by decide +kernel)
  have ni0 := C.1.2.2.2.2 (.initialized RX0) (by decide +kernel)
  have in9 := C.1.2.2.2.2 (.initialized (yX0_init).cls) (by decide +kernel)
  have im9 := C.1.2.2.2.2 (.instanceMethod yX0_init) (by decide +kernel)
  have n9 : va_Nw (.methodLinkNest RX6 9 yX0_init RX6) s := C.2.2.1.2.1 (RX6, 9, yX0_init) (by decide +kernel)
  have f10 := C.1.2.2.2.2 (.fieldLink RX6 10 "HistogramStairs" "columns" "LHistogramStairs$Columns;") (by decide +kernel)
  have f55 : (Cond.fieldLinkNest RX6 55 RX0 "size" "I" RX6).before args s = true := va_Nw.use (A := args) rfl (C.2.2.1.1 (RX6, 55, RX0, "size", "I") (by decide +kernel))
  refine hs_lvs (lv' := [(0, .ref x0), (1, hs_V 1)]) [0, 1] rfl ?_
  refine hs_iload_n C dX6_keep_0 rfl 1 rfl ?_
  refine hs_callSi (win := []) (wr := [hs_ob x0 6 [.ref h0, .ref k0, .ref i0, .ref w0, .ref r0, .ref t0, .ref p0], hs_ob h0 0 [.ref h1, hs_V n], hs_ia cI h1 40 g, hs_ra cO i0 2 (hs_o2 ob none)]) (As := [hs_V 1]) (rest := []) C (c_X6_isImage l D cI cO 1 (by omega)) (va_cwS 1 C.1.2.2.2.2 gX6_keep_X6_isImage rfl rfl rfl (by decide +kernel) ⟨Nat.le_of_ble_eq_true rfl, Nat.le_of_ble_eq_true rfl⟩) rfl rfl (Nat.le_of_ble_eq_true rfl) dX6_keep_1 ⟨Nat.le_of_ble_eq_true rfl, Nat.le_of_ble_eq_true rfl⟩ (fun rr uu1 hp => ?_)
  obtain rfl := hp
  refine hs_re0 (w' := [hs_ob x0 6 [.ref h0, .ref k0, .ref i0, .ref w0, .ref r0, .ref t0, .ref p0], hs_ob h0 0 [.ref h1, hs_V n], hs_ia cI h1 40 g, hs_ra cO i0 2 (hs_o2 ob none)]) [0, 1, 2, 3] rfl (by decide) ?_
  refine hs_ifne_b (tgt := 9) C dX6_keep_4 (by decide) (fun c2 => ?_) (fun c2 => ?_)
  ·
    refine hs_aload_n C dX6_keep_9 rfl 0 rfl ?_
    refine hs_get C u6 0 rfl rfl 2 (by decide) f23 rfl rfl dX6_keep_10 ?_
    refine hs_iload_n C dX6_keep_13 rfl 1 rfl ?_
    refine hs_aald (v := .null) C 3 rfl (by omega) rfl dX6_keep_14 ?_
    refine hs_astore_nN (lv' := [(0, .ref x0), (1, hs_V 1), (2, .null)]) C dX6_keep_15 rfl (by decide) [1, 2, 0] rfl ?_
    refine hs_aload_nN C dX6_keep_16 rfl 2 rfl ?_
    refine hs_ifnonnullN C dX6_keep_17 ?_
    refine hs_new (ci := 0) (fs := [.null, hs_V 0]) C u0 tyX0 tyX0_ok cl7 ns0 ni0 rfl (fun j hj => by rcases (show j = 0 ∨ j = 1 by omega) with rfl | rfl <;> rfl) (Nat.le_of_ble_eq_true rfl) (Nat.le_of_ble_eq_true rfl) dX6_keep_20 (fun q3 => ?_)
    refine hs_cast (ws' := [hs_ob x0 6 [.ref h0, .ref k0, .ref i0, .ref w0, .ref r0, .ref t0, .ref p0], hs_ob h0 0 [.ref h1, hs_V n], hs_ia cI h1 40 g, hs_ra cO i0 2 (hs_o2 ob none), hs_ob q3 0 [.null, hs_V 0]]) ?_ rfl rfl rfl rfl
    refine hs_dup C dX6_keep_23 rfl ?_
    refine hs_re0 (w' := [hs_ob q3 0 [.null, hs_V 0], hs_ob x0 6 [.ref h0, .ref k0, .ref i0, .ref w0, .ref r0, .ref t0, .ref p0], hs_ob h0 0 [.ref h1, hs_V n], hs_ia cI h1 40 g, hs_ra cO i0 2 (hs_o2 ob none)]) [4, 0, 1, 2, 3] rfl (by decide) ?_
    refine hs_callINv (win := [hs_ob q3 0 [.null, hs_V 0]]) (wr := [hs_ob x0 6 [.ref h0, .ref k0, .ref i0, .ref w0, .ref r0, .ref t0, .ref p0], hs_ob h0 0 [.ref h1, hs_V n], hs_ia cI h1 40 g, hs_ra cO i0 2 (hs_o2 ob none)]) (As := []) (rest := [.ref q3]) C (c_X0_init l D cI cO q3 ) ⟨va_cnB 0 C.1.2.2.2.2 gX6_keep_X0_init_n9 rfl rfl rfl n9 in9 (by decide +kernel) ⟨Nat.le_of_ble_eq_true rfl, Nat.le_of_ble_eq_true rfl⟩, rfl, im9⟩ rfl rfl (Nat.le_of_ble_eq_true rfl) dX6_keep_24 ⟨Nat.le_of_ble_eq_true rfl, Nat.le_of_ble_eq_true rfl⟩ (fun uu4 hp => ?_)
    refine hs_re0 (w' := [hs_ob x0 6 [.ref h0, .ref k0, .ref i0, .ref w0, .ref r0, .ref t0, .ref p0], hs_ob h0 0 [.ref h1, hs_V n], hs_ia cI h1 40 g, hs_ra cO i0 2 (hs_o2 ob none), hs_ob q3 0 [.ref (uu4 0), hs_V 0], hs_ia cI (uu4 0) 40 (fun _ => 0)]) [2, 3, 4, 5, 0, 1] rfl (by decide) ?_
    refine hs_astore_n (lv' := [(0, .ref x0), (1, hs_V 1), (2, .ref q3)]) C dX6_keep_27 rfl (by decide) [1, 2, 0] rfl ?_
    refine hs_aload_n C dX6_keep_28 rfl 0 rfl ?_
    refine hs_get C u6 0 rfl rfl 2 (by decide) f23 rfl rfl dX6_keep_29 ?_
    refine hs_iload_n C dX6_keep_32 rfl 1 rfl ?_
    refine hs_aload_n C dX6_keep_33 rfl 2 rfl ?_
    refine hs_aast (f' := hs_o2 ob (some q3)) (ws' := [hs_ob x0 6 [.ref h0, .ref k0, .ref i0, .ref w0, .ref r0, .ref t0, .ref p0], hs_ob h0 0 [.ref h1, hs_V n], hs_ia cI h1 40 g, hs_ra cO i0 2 (hs_o2 ob (some q3)), hs_ob q3 0 [.ref (uu4 0), hs_V 0], hs_ia cI (uu4 0) 40 (fun _ => 0)]) C 3 4 rfl rfl (by omega) hs_o2_u1 rfl dX6_keep_34 ?_
    refine hs_aload_n C dX6_keep_35 rfl 2 rfl ?_
    refine hs_aload_n C dX6_keep_36 rfl 0 rfl ?_
    refine hs_get C u6 0 rfl rfl 0 (by decide) f10 rfl rfl dX6_keep_37 ?_
    refine hs_re0 (w' := [hs_ob q3 0 [.ref (uu4 0), hs_V 0], hs_ia cI (uu4 0) 40 (fun _ => 0), hs_ob h0 0 [.ref h1, hs_V n], hs_ia cI h1 40 g, hs_ob x0 6 [.ref h0, .ref k0, .ref i0, .ref w0, .ref r0, .ref t0, .ref p0], hs_ra cO i0 2 (hs_o2 ob (some q3))]) [4, 5, 1, 2, 0, 3] rfl (by decide) ?_
    refine hs_callVv (win := [hs_ob q3 0 [.ref (uu4 0), hs_V 0], hs_ia cI (uu4 0) 40 (fun _ => 0), hs_ob h0 0 [.ref h1, hs_V n], hs_ia cI h1 40 g]) (wr := [hs_ob x0 6 [.ref h0, .ref k0, .ref i0, .ref w0, .ref r0, .ref t0, .ref p0], hs_ra cO i0 2 (hs_o2 ob (some q3))]) (As := [.ref h0]) (rest := []) C (c_X0_copyFrom l D cI cO q3 (uu4 0) 0 (fun _ => 0) h0 h1 n g (by omega)) 0 0 rfl rfl rfl (cwV 1 C.1.2.2.2.2 gX6_keep_X0_copyFrom rfl rfl rfl (by decide +kernel) ⟨Nat.le_of_ble_eq_true rfl, Nat.le_of_ble_eq_true rfl⟩) rfl rfl (Nat.le_of_ble_eq_true rfl) dX6_keep_40 ⟨Nat.le_of_ble_eq_true rfl, Nat.le_of_ble_eq_true rfl⟩ (fun uu5 hp => ?_)
    refine hs_re0 (w' := [hs_ob x0 6 [.ref h0, .ref k0, .ref i0, .ref w0, .ref r0, .ref t0, .ref p0], hs_ob h0 0 [.ref h1, hs_V n], hs_ia cI h1 40 g, hs_ra cO i0 2 (hs_o2 ob (some q3)), hs_ob q3 0 [.ref (uu4 0), hs_V n], hs_ia cI (uu4 0) 40 (hs_cp g (fun _ => 0) 0 0 n)]) [4, 2, 3, 5, 0, 1] rfl (by decide) ?_
    refine hs_aload_n C dX6_keep_43 rfl 0 rfl ?_
    refine hs_get C u6 0 rfl rfl 0 (by decide) f10 rfl rfl dX6_keep_44 ?_
    refine hs_getN C u0 1 rfl rfl 1 (by decide) f55 rfl rfl dX6_keep_47 ?_
    exact hret _ _ _ (q3, uu4 0) ⟨by first | rfl | (rw [if_pos (by omega)]) | (rw [if_neg (by omega)]), trivial⟩ dX6_keep_50 rfl
  ·
    exact absurd trivial (by omega)

set_option maxHeartbeats 4000000 in
set_option maxRecDepth 100000 in
theorem c_X6_keep_1s (l : Launch) (D : va_G) (cI cO : ClassId) (x0 : Nat) (h0 : Nat) (k0 : Nat) (i0 : Nat) (w0 : Nat) (r0 : Nat) (t0 : Nat) (p0 : Nat) (h1 : Nat) (n : Int) (g : Int → Int) (ob : Option Nat) (m0 : Nat) (m1 : Nat) (mn : Int) (mg : Int → Int) (hn : 0 ≤ n ∧ n ≤ 40) : hs_M l D cI cO yX6_keep wsX6_keep ({ frames := 2, cells := 0, slots := 0, locals := 47 } : Room) [.ref x0, hs_V 1] [hs_ob x0 6 [.ref h0, .ref k0, .ref i0, .ref w0, .ref r0, .ref t0, .ref p0], hs_ob h0 0 [.ref h1, hs_V n], hs_ia cI h1 40 g, hs_ra cO i0 2 (hs_o2 ob (some m0)), hs_ob m0 0 [.ref m1, hs_V mn], hs_ia cI m1 40 mg] (fun r (_ : Unit) => r = hs_I n) (fun _ => [hs_ob x0 6 [.ref h0, .ref k0, .ref i0, .ref w0, .ref r0, .ref t0, .ref p0], hs_ob h0 0 [.ref h1, hs_V n], hs_ia cI h1 40 g, hs_ra cO i0 2 (hs_o2 ob (some m0)), hs_ob m0 0 [.ref m1, hs_V n], hs_ia cI m1 40 (hs_cp g mg 0 0 n)]) 0 0 := by
  refine hs_enter (cc := cX6_keep) (maxL := 3) (by decide +kernel) rfl (Nat.le_of_ble_eq_true rfl) (fun p e s m args below meth c A H0 Q C hret => ?_)
  have f23 := C.1.2.2.2.2 (.fieldLink RX6 23 "HistogramStairs" "images" "[LHistogramStairs$Columns;") (by decide +kernel)
  have u6 : ∀ w ∈ wsX60, w ∈ wsX6_keep := by decide +kernel
  have f10 := C.1.2.2.2.2 (.fieldLink RX6 10 "HistogramStairs" "columns" "LHistogramStairs$Columns;") (by decide +kernel)
  have f55 : (Cond.fieldLinkNest RX6 55 RX0 "size" "I" RX6).before args s = true := va_Nw.use (A := args) rfl (C.2.2.1.1 (RX6, 55, RX0, "size", "I") (by decide +kernel))
  have u0 : ∀ w ∈ wsX00, w ∈ wsX6_keep := by decide +kernel
  refine hs_lvs (lv' := [(0, .ref x0), (1, hs_V 1)]) [0, 1] rfl ?_
  refine hs_iload_n C dX6_keep_0 rfl 1 rfl ?_
  refine hs_callSi (win := []) (wr := [hs_ob x0 6 [.ref h0, .ref k0, .ref i0, .ref w0, .ref r0, .ref t0, .ref p0], hs_ob h0 0 [.ref h1, hs_V n], hs_ia cI h1 40 g, hs_ra cO i0 2 (hs_o2 ob (some m0)), hs_ob m0 0 [.ref m1, hs_V mn], hs_ia cI m1 40 mg]) (As := [hs_V 1]) (rest := []) C (c_X6_isImage l D cI cO 1 (by omega)) (va_cwS 1 C.1.2.2.2.2 gX6_keep_X6_isImage rfl rfl rfl (by decide +kernel) ⟨Nat.le_of_ble_eq_true rfl, Nat.le_of_ble_eq_true rfl⟩) rfl rfl (Nat.le_of_ble_eq_true rfl) dX6_keep_1 ⟨Nat.le_of_ble_eq_true rfl, Nat.le_of_ble_eq_true rfl⟩ (fun rr uu1 hp => ?_)
  obtain rfl := hp
  refine hs_re0 (w' := [hs_ob x0 6 [.ref h0, .ref k0, .ref i0, .ref w0, .ref r0, .ref t0, .ref p0], hs_ob h0 0 [.ref h1, hs_V n], hs_ia cI h1 40 g, hs_ra cO i0 2 (hs_o2 ob (some m0)), hs_ob m0 0 [.ref m1, hs_V mn], hs_ia cI m1 40 mg]) [0, 1, 2, 3, 4, 5] rfl (by decide) ?_
  refine hs_ifne_b (tgt := 9) C dX6_keep_4 (by decide) (fun c2 => ?_) (fun c2 => ?_)
  ·
    refine hs_aload_n C dX6_keep_9 rfl 0 rfl ?_
    refine hs_get C u6 0 rfl rfl 2 (by decide) f23 rfl rfl dX6_keep_10 ?_
    refine hs_iload_n C dX6_keep_13 rfl 1 rfl ?_
    refine hs_aald (v := .ref m0) C 3 rfl (by omega) rfl dX6_keep_14 ?_
    refine hs_astore_n (lv' := [(0, .ref x0), (1, hs_V 1), (2, .ref m0)]) C dX6_keep_15 rfl (by decide) [1, 2, 0] rfl ?_
    refine hs_aload_n C dX6_keep_16 rfl 2 rfl ?_
    refine hs_ifnonnull (tgt := 35) C dX6_keep_17 (by decide) ?_
    refine hs_aload_n C dX6_keep_35 rfl 2 rfl ?_
    refine hs_aload_n C dX6_keep_36 rfl 0 rfl ?_
    refine hs_get C u6 0 rfl rfl 0 (by decide) f10 rfl rfl dX6_keep_37 ?_
    refine hs_re0 (w' := [hs_ob m0 0 [.ref m1, hs_V mn], hs_ia cI m1 40 mg, hs_ob h0 0 [.ref h1, hs_V n], hs_ia cI h1 40 g, hs_ob x0 6 [.ref h0, .ref k0, .ref i0, .ref w0, .ref r0, .ref t0, .ref p0], hs_ra cO i0 2 (hs_o2 ob (some m0))]) [4, 5, 1, 2, 0, 3] rfl (by decide) ?_
    refine hs_callVv (win := [hs_ob m0 0 [.ref m1, hs_V mn], hs_ia cI m1 40 mg, hs_ob h0 0 [.ref h1, hs_V n], hs_ia cI h1 40 g]) (wr := [hs_ob x0 6 [.ref h0, .ref k0, .ref i0, .ref w0, .ref r0, .ref t0, .ref p0], hs_ra cO i0 2 (hs_o2 ob (some m0))]) (As := [.ref h0]) (rest := []) C (c_X0_copyFrom l D cI cO m0 m1 mn mg h0 h1 n g (by omega)) 0 0 rfl rfl rfl (cwV 1 C.1.2.2.2.2 gX6_keep_X0_copyFrom rfl rfl rfl (by decide +kernel) ⟨Nat.le_of_ble_eq_true rfl, Nat.le_of_ble_eq_true rfl⟩) rfl rfl (Nat.le_of_ble_eq_true rfl) dX6_keep_40 ⟨Nat.le_of_ble_eq_true rfl, Nat.le_of_ble_eq_true rfl⟩ (fun uu3 hp => ?_)
    refine hs_re0 (w' := [hs_ob x0 6 [.ref h0, .ref k0, .ref i0, .ref w0, .ref r0, .ref t0, .ref p0], hs_ob h0 0 [.ref h1, hs_V n], hs_ia cI h1 40 g, hs_ra cO i0 2 (hs_o2 ob (some m0)), hs_ob m0 0 [.ref m1, hs_V n], hs_ia cI m1 40 (hs_cp g mg 0 0 n)]) [4, 2, 3, 5, 0, 1] rfl (by decide) ?_
    refine hs_aload_n C dX6_keep_43 rfl 0 rfl ?_
    refine hs_get C u6 0 rfl rfl 0 (by decide) f10 rfl rfl dX6_keep_44 ?_
    refine hs_getN C u0 1 rfl rfl 1 (by decide) f55 rfl rfl dX6_keep_47 ?_
    exact hret _ _ _ () (by first | rfl | (rw [if_pos (by omega)]) | (rw [if_neg (by omega)])) dX6_keep_50 rfl
  ·
    exact absurd trivial (by omega)

set_option maxHeartbeats 4000000 in
set_option maxRecDepth 100000 in
theorem c_X6_back_bad (l : Launch) (D : va_G) (cI cO : ClassId) (x0 : Nat) (h0 : Nat) (k0 : Nat) (i0 : Nat) (w0 : Nat) (r0 : Nat) (t0 : Nat) (p0 : Nat) (h1 : Nat) (n : Int) (g : Int → Int) (z : Int) (hn : 0 ≤ n ∧ n ≤ 40) (hz : hs_in z) (hb : ¬ (0 ≤ z ∧ z < 2)) : hs_M l D cI cO yX6_back wsX6_back ({ frames := 3, cells := 0, slots := 0, locals := 69 } : Room) [.ref x0, hs_V z] [hs_ob x0 6 [.ref h0, .ref k0, .ref i0, .ref w0, .ref r0, .ref t0, .ref p0], hs_ob h0 0 [.ref h1, hs_V n], hs_ia cI h1 40 g] (fun r (_ : Unit) => r = hs_I (-1)) (fun _ => [hs_ob x0 6 [.ref h0, .ref k0, .ref i0, .ref w0, .ref r0, .ref t0, .ref p0], hs_ob h0 0 [.ref h1, hs_V n], hs_ia cI h1 40 g]) 0 0 := by
  refine hs_enter (cc := cX6_back) (maxL := 3) (by decide +kernel) rfl (Nat.le_of_ble_eq_true rfl) (fun p e s m args below meth c A H0 Q C hret => ?_)
  refine hs_lvs (lv' := [(0, .ref x0), (1, hs_V z)]) [0, 1] rfl ?_
  refine hs_iload_n C dX6_back_0 rfl 1 rfl ?_
  refine hs_callSi (win := []) (wr := [hs_ob x0 6 [.ref h0, .ref k0, .ref i0, .ref w0, .ref r0, .ref t0, .ref p0], hs_ob h0 0 [.ref h1, hs_V n], hs_ia cI h1 40 g]) (As := [hs_V z]) (rest := []) C (c_X6_isImage l D cI cO z (by omega)) (va_cwS 1 C.1.2.2.2.2 gX6_back_X6_isImage rfl rfl rfl (by decide +kernel) ⟨Nat.le_of_ble_eq_true rfl, Nat.le_of_ble_eq_true rfl⟩) rfl rfl (Nat.le_of_ble_eq_true rfl) dX6_back_1 ⟨Nat.le_of_ble_eq_true rfl, Nat.le_of_ble_eq_true rfl⟩ (fun rr uu1 hp => ?_)
  obtain rfl := hp
  refine hs_re0 (w' := [hs_ob x0 6 [.ref h0, .ref k0, .ref i0, .ref w0, .ref r0, .ref t0, .ref p0], hs_ob h0 0 [.ref h1, hs_V n], hs_ia cI h1 40 g]) [0, 1, 2] rfl (by decide) ?_
  refine hs_ifne_b (tgt := 9) C dX6_back_4 (by decide) (fun c2 => ?_) (fun c2 => ?_)
  ·
    exact absurd trivial (by omega)
  ·
    refine hs_iconst C dX6_back_7 ?_
    exact hret _ _ _ () (by first | rfl | (rw [if_pos (by omega)]) | (rw [if_neg (by omega)])) dX6_back_8 rfl

set_option maxHeartbeats 4000000 in
set_option maxRecDepth 100000 in
theorem c_X6_back_0n (l : Launch) (D : va_G) (cI cO : ClassId) (x0 : Nat) (h0 : Nat) (k0 : Nat) (i0 : Nat) (w0 : Nat) (r0 : Nat) (t0 : Nat) (p0 : Nat) (h1 : Nat) (n : Int) (g : Int → Int) (ob : Option Nat) (hn : 0 ≤ n ∧ n ≤ 40) : hs_M l D cI cO yX6_back wsX6_back ({ frames := 3, cells := 0, slots := 0, locals := 69 } : Room) [.ref x0, hs_V 0] [hs_ob x0 6 [.ref h0, .ref k0, .ref i0, .ref w0, .ref r0, .ref t0, .ref p0], hs_ob h0 0 [.ref h1, hs_V n], hs_ia cI h1 40 g, hs_ra cO i0 2 (hs_o2 none ob)] (fun r (_ : Unit) => r = hs_I (-2)) (fun _ => [hs_ob x0 6 [.ref h0, .ref k0, .ref i0, .ref w0, .ref r0, .ref t0, .ref p0], hs_ob h0 0 [.ref h1, hs_V n], hs_ia cI h1 40 g, hs_ra cO i0 2 (hs_o2 none ob)]) 0 0 := by
  refine hs_enter (cc := cX6_back) (maxL := 3) (by decide +kernel) rfl (Nat.le_of_ble_eq_true rfl) (fun p e s m args below meth c A H0 Q C hret => ?_)
  have f23 := C.1.2.2.2.2 (.fieldLink RX6 23 "HistogramStairs" "images" "[LHistogramStairs$Columns;") (by decide +kernel)
  have u6 : ∀ w ∈ wsX60, w ∈ wsX6_back := by decide +kernel
  refine hs_lvs (lv' := [(0, .ref x0), (1, hs_V 0)]) [0, 1] rfl ?_
  refine hs_iload_n C dX6_back_0 rfl 1 rfl ?_
  refine hs_callSi (win := []) (wr := [hs_ob x0 6 [.ref h0, .ref k0, .ref i0, .ref w0, .ref r0, .ref t0, .ref p0], hs_ob h0 0 [.ref h1, hs_V n], hs_ia cI h1 40 g, hs_ra cO i0 2 (hs_o2 none ob)]) (As := [hs_V 0]) (rest := []) C (c_X6_isImage l D cI cO 0 (by omega)) (va_cwS 1 C.1.2.2.2.2 gX6_back_X6_isImage rfl rfl rfl (by decide +kernel) ⟨Nat.le_of_ble_eq_true rfl, Nat.le_of_ble_eq_true rfl⟩) rfl rfl (Nat.le_of_ble_eq_true rfl) dX6_back_1 ⟨Nat.le_of_ble_eq_true rfl, Nat.le_of_ble_eq_true rfl⟩ (fun rr uu1 hp => ?_)
  obtain rfl := hp
  refine hs_re0 (w' := [hs_ob x0 6 [.ref h0, .ref k0, .ref i0, .ref w0, .ref r0, .ref t0, .ref p0], hs_ob h0 0 [.ref h1, hs_V n], hs_ia cI h1 40 g, hs_ra cO i0 2 (hs_o2 none ob)]) [0, 1, 2, 3] rfl (by decide) ?_
  refine hs_ifne_b (tgt := 9) C dX6_back_4 (by decide) (fun c2 => ?_) (fun c2 => ?_)
  ·
    refine hs_aload_n C dX6_back_9 rfl 0 rfl ?_
    refine hs_get C u6 0 rfl rfl 2 (by decide) f23 rfl rfl dX6_back_10 ?_
    refine hs_iload_n C dX6_back_13 rfl 1 rfl ?_
    refine hs_aald (v := .null) C 3 rfl (by omega) rfl dX6_back_14 ?_
    refine hs_astore_nN (lv' := [(0, .ref x0), (1, hs_V 0), (2, .null)]) C dX6_back_15 rfl (by decide) [1, 2, 0] rfl ?_
    refine hs_aload_nN C dX6_back_16 rfl 2 rfl ?_
    refine hs_ifnonnullN C dX6_back_17 ?_
    refine hs_bipush C dX6_back_20 (by decide) ?_
    exact hret _ _ _ () (by first | rfl | (rw [if_pos (by omega)]) | (rw [if_neg (by omega)])) dX6_back_22 rfl
  ·
    exact absurd trivial (by omega)

set_option maxHeartbeats 4000000 in
set_option maxRecDepth 100000 in
theorem c_X6_back_0s (l : Launch) (D : va_G) (cI cO : ClassId) (x0 : Nat) (h0 : Nat) (k0 : Nat) (i0 : Nat) (w0 : Nat) (r0 : Nat) (t0 : Nat) (p0 : Nat) (h1 : Nat) (n : Int) (g : Int → Int) (ob : Option Nat) (m0 : Nat) (m1 : Nat) (mn : Int) (mg : Int → Int) (k1 : Nat) (ct : Int) (Z : Int → pu_Z) (hn : 0 ≤ n ∧ n ≤ 40) (hg : ∀ k, 0 ≤ g k ∧ g k ≤ 50) (hmn : 0 ≤ mn ∧ mn ≤ 40) (hct : 0 ≤ ct ∧ ct ≤ 8) : hs_M l D cI cO yX6_back wsX6_back ({ frames := 3, cells := 0, slots := 0, locals := 69 } : Room) [.ref x0, hs_V 0] (hs_ob x0 6 [.ref h0, .ref k0, .ref i0, .ref w0, .ref r0, .ref t0, .ref p0] :: hs_ob h0 0 [.ref h1, hs_V n] :: hs_ia cI h1 40 g :: hs_ra cO i0 2 (hs_o2 (some m0) ob) :: hs_ob m0 0 [.ref m1, hs_V mn] :: hs_ia cI m1 40 mg :: hs_hist cI cO k0 k1 ct Z) (fun r (_ : Unit) => r = hs_I mn) (fun _ => (hs_ob x0 6 [.ref h0, .ref k0, .ref i0, .ref w0, .ref r0, .ref t0, .ref p0] :: hs_ob h0 0 [.ref h1, hs_V mn] :: hs_ia cI h1 40 (hs_cp mg g 0 0 mn) :: hs_ra cO i0 2 (hs_o2 (some m0) ob) :: hs_ob m0 0 [.ref m1, hs_V mn] :: hs_ia cI m1 40 mg :: hs_hist cI cO k0 k1 (pu_remC ct) (pu_remZ ct Z n g))) 0 0 := by
  refine hs_enter (cc := cX6_back) (maxL := 3) (by decide +kernel) rfl (Nat.le_of_ble_eq_true rfl) (fun p e s m args below meth c A H0 Q C hret => ?_)
  have f23 := C.1.2.2.2.2 (.fieldLink RX6 23 "HistogramStairs" "images" "[LHistogramStairs$Columns;") (by decide +kernel)
  have u6 : ∀ w ∈ wsX60, w ∈ wsX6_back := by decide +kernel
  have f19 := C.1.2.2.2.2 (.fieldLink RX6 19 "HistogramStairs" "history" "LHistogramStairs$History;") (by decide +kernel)
  have f10 := C.1.2.2.2.2 (.fieldLink RX6 10 "HistogramStairs" "columns" "LHistogramStairs$Columns;") (by decide +kernel)
  have f55 : (Cond.fieldLinkNest RX6 55 RX0 "size" "I" RX6).before args s = true := va_Nw.use (A := args) rfl (C.2.2.1.1 (RX6, 55, RX0, "size", "I") (by decide +kernel))
  have u0 : ∀ w ∈ wsX00, w ∈ wsX6_back := by decide +kernel
  refine hs_lvs (lv' := [(0, .ref x0), (1, hs_V 0)]) [0, 1] rfl ?_
  refine hs_iload_n C dX6_back_0 rfl 1 rfl ?_
  refine hs_callSi (win := []) (wr := (hs_ob x0 6 [.ref h0, .ref k0, .ref i0, .ref w0, .ref r0, .ref t0, .ref p0] :: hs_ob h0 0 [.ref h1, hs_V n] :: hs_ia cI h1 40 g :: hs_ra cO i0 2 (hs_o2 (some m0) ob) :: hs_ob m0 0 [.ref m1, hs_V mn] :: hs_ia cI m1 40 mg :: hs_hist cI cO k0 k1 ct Z)) (As := [hs_V 0]) (rest := []) C (c_X6_isImage l D cI cO 0 (by omega)) (va_cwS 1 C.1.2.2.2.2 gX6_back_X6_isImage rfl rfl rfl (by decide +kernel) ⟨Nat.le_of_ble_eq_true rfl, Nat.le_of_ble_eq_true rfl⟩) rfl rfl (Nat.le_of_ble_eq_true rfl) dX6_back_1 ⟨Nat.le_of_ble_eq_true rfl, Nat.le_of_ble_eq_true rfl⟩ (fun rr uu1 hp => ?_)
  obtain rfl := hp
  refine hs_re (w := [hs_ob x0 6 [.ref h0, .ref k0, .ref i0, .ref w0, .ref r0, .ref t0, .ref p0], hs_ob h0 0 [.ref h1, hs_V n], hs_ia cI h1 40 g, hs_ra cO i0 2 (hs_o2 (some m0) ob), hs_ob m0 0 [.ref m1, hs_V mn], hs_ia cI m1 40 mg]) (w' := [hs_ob x0 6 [.ref h0, .ref k0, .ref i0, .ref w0, .ref r0, .ref t0, .ref p0], hs_ob h0 0 [.ref h1, hs_V n], hs_ia cI h1 40 g, hs_ra cO i0 2 (hs_o2 (some m0) ob), hs_ob m0 0 [.ref m1, hs_V mn], hs_ia cI m1 40 mg]) (wi := hs_hist cI cO k0 k1 ct Z) [0, 1, 2, 3, 4, 5] rfl (by decide) ?_
  refine hs_ifne_b (tgt := 9) C dX6_back_4 (by decide) (fun c2 => ?_) (fun c2 => ?_)
  ·
    refine hs_aload_n C dX6_back_9 rfl 0 rfl ?_
    refine hs_get C u6 0 rfl rfl 2 (by decide) f23 rfl rfl dX6_back_10 ?_
    refine hs_iload_n C dX6_back_13 rfl 1 rfl ?_
    refine hs_aald (v := .ref m0) C 3 rfl (by omega) rfl dX6_back_14 ?_
    refine hs_astore_n (lv' := [(0, .ref x0), (1, hs_V 0), (2, .ref m0)]) C dX6_back_15 rfl (by decide) [1, 2, 0] rfl ?_
    refine hs_aload_n C dX6_back_16 rfl 2 rfl ?_
    refine hs_ifnonnull (tgt := 23) C dX6_back_17 (by decide) ?_
    refine hs_aload_n C dX6_back_23 rfl 0 rfl ?_
    refine hs_get C u6 0 rfl rfl 1 (by decide) f19 rfl rfl dX6_back_24 ?_
    refine hs_aload_n C dX6_back_27 rfl 0 rfl ?_
    refine hs_get C u6 0 rfl rfl 0 (by decide) f10 rfl rfl dX6_back_28 ?_
    refine hs_re (w := [hs_ob x0 6 [.ref h0, .ref k0, .ref i0, .ref w0, .ref r0, .ref t0, .ref p0], hs_ob h0 0 [.ref h1, hs_V n], hs_ia cI h1 40 g, hs_ra cO i0 2 (hs_o2 (some m0) ob), hs_ob m0 0 [.ref m1, hs_V mn], hs_ia cI m1 40 mg]) (w' := [hs_ob x0 6 [.ref h0, .ref k0, .ref i0, .ref w0, .ref r0, .ref t0, .ref p0], hs_ra cO i0 2 (hs_o2 (some m0) ob), hs_ob m0 0 [.ref m1, hs_V mn], hs_ia cI m1 40 mg, hs_ob h0 0 [.ref h1, hs_V n], hs_ia cI h1 40 g]) (wi := hs_hist cI cO k0 k1 ct Z) [0, 3, 4, 5, 1, 2] rfl (by decide) ?_
    refine hs_swap (w1 := [hs_ob x0 6 [.ref h0, .ref k0, .ref i0, .ref w0, .ref r0, .ref t0, .ref p0], hs_ra cO i0 2 (hs_o2 (some m0) ob), hs_ob m0 0 [.ref m1, hs_V mn], hs_ia cI m1 40 mg]) (w2 := (hs_ob h0 0 [.ref h1, hs_V n] :: hs_ia cI h1 40 g :: hs_hist cI cO k0 k1 ct Z)) ?_
    refine hs_callVv (win := (hs_ob h0 0 [.ref h1, hs_V n] :: hs_ia cI h1 40 g :: hs_hist cI cO k0 k1 ct Z)) (wr := [hs_ob x0 6 [.ref h0, .ref k0, .ref i0, .ref w0, .ref r0, .ref t0, .ref p0], hs_ra cO i0 2 (hs_o2 (some m0) ob), hs_ob m0 0 [.ref m1, hs_V mn], hs_ia cI m1 40 mg]) (As := [.ref h0]) (rest := []) C (c_X1_remember l D cI cO k0 k1 ct Z h0 h1 n g (by omega) (by omega)) 1 2 rfl rfl rfl (cwV 1 C.1.2.2.2.2 gX6_back_X1_remember rfl rfl rfl (by decide +kernel) ⟨Nat.le_of_ble_eq_true rfl, Nat.le_of_ble_eq_true rfl⟩) rfl rfl (Nat.le_of_ble_eq_true rfl) dX6_back_31 ⟨Nat.le_of_ble_eq_true rfl, Nat.le_of_ble_eq_true rfl⟩ (fun uu3 hp => ?_)
    refine hs_swap (w1 := (hs_ob h0 0 [.ref h1, hs_V n] :: hs_ia cI h1 40 g :: hs_hist cI cO k0 k1 (pu_remC ct) (pu_remZ ct Z n g))) (w2 := [hs_ob x0 6 [.ref h0, .ref k0, .ref i0, .ref w0, .ref r0, .ref t0, .ref p0], hs_ra cO i0 2 (hs_o2 (some m0) ob), hs_ob m0 0 [.ref m1, hs_V mn], hs_ia cI m1 40 mg]) ?_
    refine hs_re (w := [hs_ob x0 6 [.ref h0, .ref k0, .ref i0, .ref w0, .ref r0, .ref t0, .ref p0], hs_ra cO i0 2 (hs_o2 (some m0) ob), hs_ob m0 0 [.ref m1, hs_V mn], hs_ia cI m1 40 mg, hs_ob h0 0 [.ref h1, hs_V n], hs_ia cI h1 40 g]) (w' := [hs_ob x0 6 [.ref h0, .ref k0, .ref i0, .ref w0, .ref r0, .ref t0, .ref p0], hs_ob h0 0 [.ref h1, hs_V n], hs_ia cI h1 40 g, hs_ra cO i0 2 (hs_o2 (some m0) ob), hs_ob m0 0 [.ref m1, hs_V mn], hs_ia cI m1 40 mg]) (wi := hs_hist cI cO k0 k1 (pu_remC ct) (pu_remZ ct Z n g)) [0, 4, 5, 1, 2, 3] rfl (by decide) ?_
    refine hs_aload_n C dX6_back_34 rfl 0 rfl ?_
    refine hs_get C u6 0 rfl rfl 0 (by decide) f10 rfl rfl dX6_back_35 ?_
    refine hs_aload_n C dX6_back_38 rfl 2 rfl ?_
    refine hs_re (w := [hs_ob x0 6 [.ref h0, .ref k0, .ref i0, .ref w0, .ref r0, .ref t0, .ref p0], hs_ob h0 0 [.ref h1, hs_V n], hs_ia cI h1 40 g, hs_ra cO i0 2 (hs_o2 (some m0) ob), hs_ob m0 0 [.ref m1, hs_V mn], hs_ia cI m1 40 mg]) (w' := [hs_ob h0 0 [.ref h1, hs_V n], hs_ia cI h1 40 g, hs_ob m0 0 [.ref m1, hs_V mn], hs_ia cI m1 40 mg, hs_ob x0 6 [.ref h0, .ref k0, .ref i0, .ref w0, .ref r0, .ref t0, .ref p0], hs_ra cO i0 2 (hs_o2 (some m0) ob)]) (wi := hs_hist cI cO k0 k1 (pu_remC ct) (pu_remZ ct Z n g)) [1, 2, 4, 5, 0, 3] rfl (by decide) ?_
    refine hs_callVv (win := [hs_ob h0 0 [.ref h1, hs_V n], hs_ia cI h1 40 g, hs_ob m0 0 [.ref m1, hs_V mn], hs_ia cI m1 40 mg]) (wr := (hs_ob x0 6 [.ref h0, .ref k0, .ref i0, .ref w0, .ref r0, .ref t0, .ref p0] :: hs_ra cO i0 2 (hs_o2 (some m0) ob) :: hs_hist cI cO k0 k1 (pu_remC ct) (pu_remZ ct Z n g))) (As := [.ref m0]) (rest := []) C (c_X0_copyFrom l D cI cO h0 h1 n g m0 m1 mn mg (by omega)) 0 0 rfl rfl rfl (cwV 1 C.1.2.2.2.2 gX6_back_X0_copyFrom rfl rfl rfl (by decide +kernel) ⟨Nat.le_of_ble_eq_true rfl, Nat.le_of_ble_eq_true rfl⟩) rfl rfl (Nat.le_of_ble_eq_true rfl) dX6_back_39 ⟨Nat.le_of_ble_eq_true rfl, Nat.le_of_ble_eq_true rfl⟩ (fun uu4 hp => ?_)
    refine hs_re (w := [hs_ob h0 0 [.ref h1, hs_V mn], hs_ia cI h1 40 (hs_cp mg g 0 0 mn), hs_ob m0 0 [.ref m1, hs_V mn], hs_ia cI m1 40 mg, hs_ob x0 6 [.ref h0, .ref k0, .ref i0, .ref w0, .ref r0, .ref t0, .ref p0], hs_ra cO i0 2 (hs_o2 (some m0) ob)]) (w' := [hs_ob x0 6 [.ref h0, .ref k0, .ref i0, .ref w0, .ref r0, .ref t0, .ref p0], hs_ob h0 0 [.ref h1, hs_V mn], hs_ia cI h1 40 (hs_cp mg g 0 0 mn), hs_ra cO i0 2 (hs_o2 (some m0) ob), hs_ob m0 0 [.ref m1, hs_V mn], hs_ia cI m1 40 mg]) (wi := hs_hist cI cO k0 k1 (pu_remC ct) (pu_remZ ct Z n g)) [4, 0, 1, 5, 2, 3] rfl (by decide) ?_
    refine hs_aload_n C dX6_back_42 rfl 0 rfl ?_
    refine hs_get C u6 0 rfl rfl 0 (by decide) f10 rfl rfl dX6_back_43 ?_
    refine hs_getN C u0 1 rfl rfl 1 (by decide) f55 rfl rfl dX6_back_46 ?_
    exact hret _ _ _ () (by first | rfl | (rw [if_pos (by omega)]) | (rw [if_neg (by omega)])) dX6_back_49 rfl
  ·
    exact absurd trivial (by omega)

set_option maxHeartbeats 4000000 in
set_option maxRecDepth 100000 in
theorem c_X6_back_1n (l : Launch) (D : va_G) (cI cO : ClassId) (x0 : Nat) (h0 : Nat) (k0 : Nat) (i0 : Nat) (w0 : Nat) (r0 : Nat) (t0 : Nat) (p0 : Nat) (h1 : Nat) (n : Int) (g : Int → Int) (ob : Option Nat) (hn : 0 ≤ n ∧ n ≤ 40) : hs_M l D cI cO yX6_back wsX6_back ({ frames := 3, cells := 0, slots := 0, locals := 69 } : Room) [.ref x0, hs_V 1] [hs_ob x0 6 [.ref h0, .ref k0, .ref i0, .ref w0, .ref r0, .ref t0, .ref p0], hs_ob h0 0 [.ref h1, hs_V n], hs_ia cI h1 40 g, hs_ra cO i0 2 (hs_o2 ob none)] (fun r (_ : Unit) => r = hs_I (-2)) (fun _ => [hs_ob x0 6 [.ref h0, .ref k0, .ref i0, .ref w0, .ref r0, .ref t0, .ref p0], hs_ob h0 0 [.ref h1, hs_V n], hs_ia cI h1 40 g, hs_ra cO i0 2 (hs_o2 ob none)]) 0 0 := by
  refine hs_enter (cc := cX6_back) (maxL := 3) (by decide +kernel) rfl (Nat.le_of_ble_eq_true rfl) (fun p e s m args below meth c A H0 Q C hret => ?_)
  have f23 := C.1.2.2.2.2 (.fieldLink RX6 23 "HistogramStairs" "images" "[LHistogramStairs$Columns;") (by decide +kernel)
  have u6 : ∀ w ∈ wsX60, w ∈ wsX6_back := by decide +kernel
  refine hs_lvs (lv' := [(0, .ref x0), (1, hs_V 1)]) [0, 1] rfl ?_
  refine hs_iload_n C dX6_back_0 rfl 1 rfl ?_
  refine hs_callSi (win := []) (wr := [hs_ob x0 6 [.ref h0, .ref k0, .ref i0, .ref w0, .ref r0, .ref t0, .ref p0], hs_ob h0 0 [.ref h1, hs_V n], hs_ia cI h1 40 g, hs_ra cO i0 2 (hs_o2 ob none)]) (As := [hs_V 1]) (rest := []) C (c_X6_isImage l D cI cO 1 (by omega)) (va_cwS 1 C.1.2.2.2.2 gX6_back_X6_isImage rfl rfl rfl (by decide +kernel) ⟨Nat.le_of_ble_eq_true rfl, Nat.le_of_ble_eq_true rfl⟩) rfl rfl (Nat.le_of_ble_eq_true rfl) dX6_back_1 ⟨Nat.le_of_ble_eq_true rfl, Nat.le_of_ble_eq_true rfl⟩ (fun rr uu1 hp => ?_)
  obtain rfl := hp
  refine hs_re0 (w' := [hs_ob x0 6 [.ref h0, .ref k0, .ref i0, .ref w0, .ref r0, .ref t0, .ref p0], hs_ob h0 0 [.ref h1, hs_V n], hs_ia cI h1 40 g, hs_ra cO i0 2 (hs_o2 ob none)]) [0, 1, 2, 3] rfl (by decide) ?_
  refine hs_ifne_b (tgt := 9) C dX6_back_4 (by decide) (fun c2 => ?_) (fun c2 => ?_)
  ·
    refine hs_aload_n C dX6_back_9 rfl 0 rfl ?_
    refine hs_get C u6 0 rfl rfl 2 (by decide) f23 rfl rfl dX6_back_10 ?_
    refine hs_iload_n C dX6_back_13 rfl 1 rfl ?_
    refine hs_aald (v := .null) C 3 rfl (by omega) rfl dX6_back_14 ?_
    refine hs_astore_nN (lv' := [(0, .ref x0), (1, hs_V 1), (2, .null)]) C dX6_back_15 rfl (by decide) [1, 2, 0] rfl ?_
    refine hs_aload_nN C dX6_back_16 rfl 2 rfl ?_
    refine hs_ifnonnullN C dX6_back_17 ?_
    refine hs_bipush C dX6_back_20 (by decide) ?_
    exact hret _ _ _ () (by first | rfl | (rw [if_pos (by omega)]) | (rw [if_neg (by omega)])) dX6_back_22 rfl
  ·
    exact absurd trivial (by omega)

set_option maxHeartbeats 4000000 in
set_option maxRecDepth 100000 in
theorem c_X6_back_1s (l : Launch) (D : va_G) (cI cO : ClassId) (x0 : Nat) (h0 : Nat) (k0 : Nat) (i0 : Nat) (w0 : Nat) (r0 : Nat) (t0 : Nat) (p0 : Nat) (h1 : Nat) (n : Int) (g : Int → Int) (ob : Option Nat) (m0 : Nat) (m1 : Nat) (mn : Int) (mg : Int → Int) (k1 : Nat) (ct : Int) (Z : Int → pu_Z) (hn : 0 ≤ n ∧ n ≤ 40) (hg : ∀ k, 0 ≤ g k ∧ g k ≤ 50) (hmn : 0 ≤ mn ∧ mn ≤ 40) (hct : 0 ≤ ct ∧ ct ≤ 8) : hs_M l D cI cO yX6_back wsX6_back ({ frames := 3, cells := 0, slots := 0, locals := 69 } : Room) [.ref x0, hs_V 1] (hs_ob x0 6 [.ref h0, .ref k0, .ref i0, .ref w0, .ref r0, .ref t0, .ref p0] :: hs_ob h0 0 [.ref h1, hs_V n] :: hs_ia cI h1 40 g :: hs_ra cO i0 2 (hs_o2 ob (some m0)) :: hs_ob m0 0 [.ref m1, hs_V mn] :: hs_ia cI m1 40 mg :: hs_hist cI cO k0 k1 ct Z) (fun r (_ : Unit) => r = hs_I mn) (fun _ => (hs_ob x0 6 [.ref h0, .ref k0, .ref i0, .ref w0, .ref r0, .ref t0, .ref p0] :: hs_ob h0 0 [.ref h1, hs_V mn] :: hs_ia cI h1 40 (hs_cp mg g 0 0 mn) :: hs_ra cO i0 2 (hs_o2 ob (some m0)) :: hs_ob m0 0 [.ref m1, hs_V mn] :: hs_ia cI m1 40 mg :: hs_hist cI cO k0 k1 (pu_remC ct) (pu_remZ ct Z n g))) 0 0 := by
  refine hs_enter (cc := cX6_back) (maxL := 3) (by decide +kernel) rfl (Nat.le_of_ble_eq_true rfl) (fun p e s m args below meth c A H0 Q C hret => ?_)
  have f23 := C.1.2.2.2.2 (.fieldLink RX6 23 "HistogramStairs" "images" "[LHistogramStairs$Columns;") (by decide +kernel)
  have u6 : ∀ w ∈ wsX60, w ∈ wsX6_back := by decide +kernel
  have f19 := C.1.2.2.2.2 (.fieldLink RX6 19 "HistogramStairs" "history" "LHistogramStairs$History;") (by decide +kernel)
  have f10 := C.1.2.2.2.2 (.fieldLink RX6 10 "HistogramStairs" "columns" "LHistogramStairs$Columns;") (by decide +kernel)
  have f55 : (Cond.fieldLinkNest RX6 55 RX0 "size" "I" RX6).before args s = true := va_Nw.use (A := args) rfl (C.2.2.1.1 (RX6, 55, RX0, "size", "I") (by decide +kernel))
  have u0 : ∀ w ∈ wsX00, w ∈ wsX6_back := by decide +kernel
  refine hs_lvs (lv' := [(0, .ref x0), (1, hs_V 1)]) [0, 1] rfl ?_
  refine hs_iload_n C dX6_back_0 rfl 1 rfl ?_
  refine hs_callSi (win := []) (wr := (hs_ob x0 6 [.ref h0, .ref k0, .ref i0, .ref w0, .ref r0, .ref t0, .ref p0] :: hs_ob h0 0 [.ref h1, hs_V n] :: hs_ia cI h1 40 g :: hs_ra cO i0 2 (hs_o2 ob (some m0)) :: hs_ob m0 0 [.ref m1, hs_V mn] :: hs_ia cI m1 40 mg :: hs_hist cI cO k0 k1 ct Z)) (As := [hs_V 1]) (rest := []) C (c_X6_isImage l D cI cO 1 (by omega)) (va_cwS 1 C.1.2.2.2.2 gX6_back_X6_isImage rfl rfl rfl (by decide +kernel) ⟨Nat.le_of_ble_eq_true rfl, Nat.le_of_ble_eq_true rfl⟩) rfl rfl (Nat.le_of_ble_eq_true rfl) dX6_back_1 ⟨Nat.le_of_ble_eq_true rfl, Nat.le_of_ble_eq_true rfl⟩ (fun rr uu1 hp => ?_)
  obtain rfl := hp
  refine hs_re (w := [hs_ob x0 6 [.ref h0, .ref k0, .ref i0, .ref w0, .ref r0, .ref t0, .ref p0], hs_ob h0 0 [.ref h1, hs_V n], hs_ia cI h1 40 g, hs_ra cO i0 2 (hs_o2 ob (some m0)), hs_ob m0 0 [.ref m1, hs_V mn], hs_ia cI m1 40 mg]) (w' := [hs_ob x0 6 [.ref h0, .ref k0, .ref i0, .ref w0, .ref r0, .ref t0, .ref p0], hs_ob h0 0 [.ref h1, hs_V n], hs_ia cI h1 40 g, hs_ra cO i0 2 (hs_o2 ob (some m0)), hs_ob m0 0 [.ref m1, hs_V mn], hs_ia cI m1 40 mg]) (wi := hs_hist cI cO k0 k1 ct Z) [0, 1, 2, 3, 4, 5] rfl (by decide) ?_
  refine hs_ifne_b (tgt := 9) C dX6_back_4 (by decide) (fun c2 => ?_) (fun c2 => ?_)
  ·
    refine hs_aload_n C dX6_back_9 rfl 0 rfl ?_
    refine hs_get C u6 0 rfl rfl 2 (by decide) f23 rfl rfl dX6_back_10 ?_
    refine hs_iload_n C dX6_back_13 rfl 1 rfl ?_
    refine hs_aald (v := .ref m0) C 3 rfl (by omega) rfl dX6_back_14 ?_
    refine hs_astore_n (lv' := [(0, .ref x0), (1, hs_V 1), (2, .ref m0)]) C dX6_back_15 rfl (by decide) [1, 2, 0] rfl ?_
    refine hs_aload_n C dX6_back_16 rfl 2 rfl ?_
    refine hs_ifnonnull (tgt := 23) C dX6_back_17 (by decide) ?_
    refine hs_aload_n C dX6_back_23 rfl 0 rfl ?_
    refine hs_get C u6 0 rfl rfl 1 (by decide) f19 rfl rfl dX6_back_24 ?_
    refine hs_aload_n C dX6_back_27 rfl 0 rfl ?_
    refine hs_get C u6 0 rfl rfl 0 (by decide) f10 rfl rfl dX6_back_28 ?_
    refine hs_re (w := [hs_ob x0 6 [.ref h0, .ref k0, .ref i0, .ref w0, .ref r0, .ref t0, .ref p0], hs_ob h0 0 [.ref h1, hs_V n], hs_ia cI h1 40 g, hs_ra cO i0 2 (hs_o2 ob (some m0)), hs_ob m0 0 [.ref m1, hs_V mn], hs_ia cI m1 40 mg]) (w' := [hs_ob x0 6 [.ref h0, .ref k0, .ref i0, .ref w0, .ref r0, .ref t0, .ref p0], hs_ra cO i0 2 (hs_o2 ob (some m0)), hs_ob m0 0 [.ref m1, hs_V mn], hs_ia cI m1 40 mg, hs_ob h0 0 [.ref h1, hs_V n], hs_ia cI h1 40 g]) (wi := hs_hist cI cO k0 k1 ct Z) [0, 3, 4, 5, 1, 2] rfl (by decide) ?_
    refine hs_swap (w1 := [hs_ob x0 6 [.ref h0, .ref k0, .ref i0, .ref w0, .ref r0, .ref t0, .ref p0], hs_ra cO i0 2 (hs_o2 ob (some m0)), hs_ob m0 0 [.ref m1, hs_V mn], hs_ia cI m1 40 mg]) (w2 := (hs_ob h0 0 [.ref h1, hs_V n] :: hs_ia cI h1 40 g :: hs_hist cI cO k0 k1 ct Z)) ?_
    refine hs_callVv (win := (hs_ob h0 0 [.ref h1, hs_V n] :: hs_ia cI h1 40 g :: hs_hist cI cO k0 k1 ct Z)) (wr := [hs_ob x0 6 [.ref h0, .ref k0, .ref i0, .ref w0, .ref r0, .ref t0, .ref p0], hs_ra cO i0 2 (hs_o2 ob (some m0)), hs_ob m0 0 [.ref m1, hs_V mn], hs_ia cI m1 40 mg]) (As := [.ref h0]) (rest := []) C (c_X1_remember l D cI cO k0 k1 ct Z h0 h1 n g (by omega) (by omega)) 1 2 rfl rfl rfl (cwV 1 C.1.2.2.2.2 gX6_back_X1_remember rfl rfl rfl (by decide +kernel) ⟨Nat.le_of_ble_eq_true rfl, Nat.le_of_ble_eq_true rfl⟩) rfl rfl (Nat.le_of_ble_eq_true rfl) dX6_back_31 ⟨Nat.le_of_ble_eq_true rfl, Nat.le_of_ble_eq_true rfl⟩ (fun uu3 hp => ?_)
    refine hs_swap (w1 := (hs_ob h0 0 [.ref h1, hs_V n] :: hs_ia cI h1 40 g :: hs_hist cI cO k0 k1 (pu_remC ct) (pu_remZ ct Z n g))) (w2 := [hs_ob x0 6 [.ref h0, .ref k0, .ref i0, .ref w0, .ref r0, .ref t0, .ref p0], hs_ra cO i0 2 (hs_o2 ob (some m0)), hs_ob m0 0 [.ref m1, hs_V mn], hs_ia cI m1 40 mg]) ?_
    refine hs_re (w := [hs_ob x0 6 [.ref h0, .ref k0, .ref i0, .ref w0, .ref r0, .ref t0, .ref p0], hs_ra cO i0 2 (hs_o2 ob (some m0)), hs_ob m0 0 [.ref m1, hs_V mn], hs_ia cI m1 40 mg, hs_ob h0 0 [.ref h1, hs_V n], hs_ia cI h1 40 g]) (w' := [hs_ob x0 6 [.ref h0, .ref k0, .ref i0, .ref w0, .ref r0, .ref t0, .ref p0], hs_ob h0 0 [.ref h1, hs_V n], hs_ia cI h1 40 g, hs_ra cO i0 2 (hs_o2 ob (some m0)), hs_ob m0 0 [.ref m1, hs_V mn], hs_ia cI m1 40 mg]) (wi := hs_hist cI cO k0 k1 (pu_remC ct) (pu_remZ ct Z n g)) [0, 4, 5, 1, 2, 3] rfl (by decide) ?_
    refine hs_aload_n C dX6_back_34 rfl 0 rfl ?_
    refine hs_get C u6 0 rfl rfl 0 (by decide) f10 rfl rfl dX6_back_35 ?_
    refine hs_aload_n C dX6_back_38 rfl 2 rfl ?_
    refine hs_re (w := [hs_ob x0 6 [.ref h0, .ref k0, .ref i0, .ref w0, .ref r0, .ref t0, .ref p0], hs_ob h0 0 [.ref h1, hs_V n], hs_ia cI h1 40 g, hs_ra cO i0 2 (hs_o2 ob (some m0)), hs_ob m0 0 [.ref m1, hs_V mn], hs_ia cI m1 40 mg]) (w' := [hs_ob h0 0 [.ref h1, hs_V n], hs_ia cI h1 40 g, hs_ob m0 0 [.ref m1, hs_V mn], hs_ia cI m1 40 mg, hs_ob x0 6 [.ref h0, .ref k0, .ref i0, .ref w0, .ref r0, .ref t0, .ref p0], hs_ra cO i0 2 (hs_o2 ob (some m0))]) (wi := hs_hist cI cO k0 k1 (pu_remC ct) (pu_remZ ct Z n g)) [1, 2, 4, 5, 0, 3] rfl (by decide) ?_
    refine hs_callVv (win := [hs_ob h0 0 [.ref h1, hs_V n], hs_ia cI h1 40 g, hs_ob m0 0 [.ref m1, hs_V mn], hs_ia cI m1 40 mg]) (wr := (hs_ob x0 6 [.ref h0, .ref k0, .ref i0, .ref w0, .ref r0, .ref t0, .ref p0] :: hs_ra cO i0 2 (hs_o2 ob (some m0)) :: hs_hist cI cO k0 k1 (pu_remC ct) (pu_remZ ct Z n g))) (As := [.ref m0]) (rest := []) C (c_X0_copyFrom l D cI cO h0 h1 n g m0 m1 mn mg (by omega)) 0 0 rfl rfl rfl (cwV 1 C.1.2.2.2.2 gX6_back_X0_copyFrom rfl rfl rfl (by decide +kernel) ⟨Nat.le_of_ble_eq_true rfl, Nat.le_of_ble_eq_true rfl⟩) rfl rfl (Nat.le_of_ble_eq_true rfl) dX6_back_39 ⟨Nat.le_of_ble_eq_true rfl, Nat.le_of_ble_eq_true rfl⟩ (fun uu4 hp => ?_)
    refine hs_re (w := [hs_ob h0 0 [.ref h1, hs_V mn], hs_ia cI h1 40 (hs_cp mg g 0 0 mn), hs_ob m0 0 [.ref m1, hs_V mn], hs_ia cI m1 40 mg, hs_ob x0 6 [.ref h0, .ref k0, .ref i0, .ref w0, .ref r0, .ref t0, .ref p0], hs_ra cO i0 2 (hs_o2 ob (some m0))]) (w' := [hs_ob x0 6 [.ref h0, .ref k0, .ref i0, .ref w0, .ref r0, .ref t0, .ref p0], hs_ob h0 0 [.ref h1, hs_V mn], hs_ia cI h1 40 (hs_cp mg g 0 0 mn), hs_ra cO i0 2 (hs_o2 ob (some m0)), hs_ob m0 0 [.ref m1, hs_V mn], hs_ia cI m1 40 mg]) (wi := hs_hist cI cO k0 k1 (pu_remC ct) (pu_remZ ct Z n g)) [4, 0, 1, 5, 2, 3] rfl (by decide) ?_
    refine hs_aload_n C dX6_back_42 rfl 0 rfl ?_
    refine hs_get C u6 0 rfl rfl 0 (by decide) f10 rfl rfl dX6_back_43 ?_
    refine hs_getN C u0 1 rfl rfl 1 (by decide) f55 rfl rfl dX6_back_46 ?_
    exact hret _ _ _ () (by first | rfl | (rw [if_pos (by omega)]) | (rw [if_neg (by omega)])) dX6_back_49 rfl
  ·
    exact absurd trivial (by omega)

set_option maxHeartbeats 4000000 in
set_option maxRecDepth 100000 in
theorem c_X6_parting_bad (l : Launch) (D : va_G) (cI cO : ClassId) (x0 : Nat) (h0 : Nat) (k0 : Nat) (i0 : Nat) (w0 : Nat) (r0 : Nat) (t0 : Nat) (p0 : Nat) (h1 : Nat) (n : Int) (g : Int → Int) (z : Int) (hn : 0 ≤ n ∧ n ≤ 40) (hz : hs_in z) (hb : ¬ (0 ≤ z ∧ z < 2)) : hs_M l D cI cO yX6_parting wsX6_parting ({ frames := 2, cells := 0, slots := 0, locals := 44 } : Room) [.ref x0, hs_V z] [hs_ob x0 6 [.ref h0, .ref k0, .ref i0, .ref w0, .ref r0, .ref t0, .ref p0], hs_ob h0 0 [.ref h1, hs_V n], hs_ia cI h1 40 g] (fun r (_ : Unit) => r = hs_I (-1)) (fun _ => [hs_ob x0 6 [.ref h0, .ref k0, .ref i0, .ref w0, .ref r0, .ref t0, .ref p0], hs_ob h0 0 [.ref h1, hs_V n], hs_ia cI h1 40 g]) 0 0 := by
  refine hs_enter (cc := cX6_parting) (maxL := 3) (by decide +kernel) rfl (Nat.le_of_ble_eq_true rfl) (fun p e s m args below meth c A H0 Q C hret => ?_)
  refine hs_lvs (lv' := [(0, .ref x0), (1, hs_V z)]) [0, 1] rfl ?_
  refine hs_iload_n C dX6_parting_0 rfl 1 rfl ?_
  refine hs_callSi (win := []) (wr := [hs_ob x0 6 [.ref h0, .ref k0, .ref i0, .ref w0, .ref r0, .ref t0, .ref p0], hs_ob h0 0 [.ref h1, hs_V n], hs_ia cI h1 40 g]) (As := [hs_V z]) (rest := []) C (c_X6_isImage l D cI cO z (by omega)) (va_cwS 1 C.1.2.2.2.2 gX6_parting_X6_isImage rfl rfl rfl (by decide +kernel) ⟨Nat.le_of_ble_eq_true rfl, Nat.le_of_ble_eq_true rfl⟩) rfl rfl (Nat.le_of_ble_eq_true rfl) dX6_parting_1 ⟨Nat.le_of_ble_eq_true rfl, Nat.le_of_ble_eq_true rfl⟩ (fun rr uu1 hp => ?_)
  obtain rfl := hp
  refine hs_re0 (w' := [hs_ob x0 6 [.ref h0, .ref k0, .ref i0, .ref w0, .ref r0, .ref t0, .ref p0], hs_ob h0 0 [.ref h1, hs_V n], hs_ia cI h1 40 g]) [0, 1, 2] rfl (by decide) ?_
  refine hs_ifne_b (tgt := 9) C dX6_parting_4 (by decide) (fun c2 => ?_) (fun c2 => ?_)
  ·
    exact absurd trivial (by omega)
  ·
    refine hs_iconst C dX6_parting_7 ?_
    exact hret _ _ _ () (by first | rfl | (rw [if_pos (by omega)]) | (rw [if_neg (by omega)])) dX6_parting_8 rfl

set_option maxHeartbeats 4000000 in
set_option maxRecDepth 100000 in
theorem c_X6_parting_0n (l : Launch) (D : va_G) (cI cO : ClassId) (x0 : Nat) (h0 : Nat) (k0 : Nat) (i0 : Nat) (w0 : Nat) (r0 : Nat) (t0 : Nat) (p0 : Nat) (h1 : Nat) (n : Int) (g : Int → Int) (ob : Option Nat) (hn : 0 ≤ n ∧ n ≤ 40) : hs_M l D cI cO yX6_parting wsX6_parting ({ frames := 2, cells := 0, slots := 0, locals := 44 } : Room) [.ref x0, hs_V 0] [hs_ob x0 6 [.ref h0, .ref k0, .ref i0, .ref w0, .ref r0, .ref t0, .ref p0], hs_ob h0 0 [.ref h1, hs_V n], hs_ia cI h1 40 g, hs_ra cO i0 2 (hs_o2 none ob)] (fun r (_ : Unit) => r = hs_I (-2)) (fun _ => [hs_ob x0 6 [.ref h0, .ref k0, .ref i0, .ref w0, .ref r0, .ref t0, .ref p0], hs_ob h0 0 [.ref h1, hs_V n], hs_ia cI h1 40 g, hs_ra cO i0 2 (hs_o2 none ob)]) 0 0 := by
  refine hs_enter (cc := cX6_parting) (maxL := 3) (by decide +kernel) rfl (Nat.le_of_ble_eq_true rfl) (fun p e s m args below meth c A H0 Q C hret => ?_)
  have f23 := C.1.2.2.2.2 (.fieldLink RX6 23 "HistogramStairs" "images" "[LHistogramStairs$Columns;") (by decide +kernel)
  have u6 : ∀ w ∈ wsX60, w ∈ wsX6_parting := by decide +kernel
  refine hs_lvs (lv' := [(0, .ref x0), (1, hs_V 0)]) [0, 1] rfl ?_
  refine hs_iload_n C dX6_parting_0 rfl 1 rfl ?_
  refine hs_callSi (win := []) (wr := [hs_ob x0 6 [.ref h0, .ref k0, .ref i0, .ref w0, .ref r0, .ref t0, .ref p0], hs_ob h0 0 [.ref h1, hs_V n], hs_ia cI h1 40 g, hs_ra cO i0 2 (hs_o2 none ob)]) (As := [hs_V 0]) (rest := []) C (c_X6_isImage l D cI cO 0 (by omega)) (va_cwS 1 C.1.2.2.2.2 gX6_parting_X6_isImage rfl rfl rfl (by decide +kernel) ⟨Nat.le_of_ble_eq_true rfl, Nat.le_of_ble_eq_true rfl⟩) rfl rfl (Nat.le_of_ble_eq_true rfl) dX6_parting_1 ⟨Nat.le_of_ble_eq_true rfl, Nat.le_of_ble_eq_true rfl⟩ (fun rr uu1 hp => ?_)
  obtain rfl := hp
  refine hs_re0 (w' := [hs_ob x0 6 [.ref h0, .ref k0, .ref i0, .ref w0, .ref r0, .ref t0, .ref p0], hs_ob h0 0 [.ref h1, hs_V n], hs_ia cI h1 40 g, hs_ra cO i0 2 (hs_o2 none ob)]) [0, 1, 2, 3] rfl (by decide) ?_
  refine hs_ifne_b (tgt := 9) C dX6_parting_4 (by decide) (fun c2 => ?_) (fun c2 => ?_)
  ·
    refine hs_aload_n C dX6_parting_9 rfl 0 rfl ?_
    refine hs_get C u6 0 rfl rfl 2 (by decide) f23 rfl rfl dX6_parting_10 ?_
    refine hs_iload_n C dX6_parting_13 rfl 1 rfl ?_
    refine hs_aald (v := .null) C 3 rfl (by omega) rfl dX6_parting_14 ?_
    refine hs_astore_nN (lv' := [(0, .ref x0), (1, hs_V 0), (2, .null)]) C dX6_parting_15 rfl (by decide) [1, 2, 0] rfl ?_
    refine hs_aload_nN C dX6_parting_16 rfl 2 rfl ?_
    refine hs_ifnonnullN C dX6_parting_17 ?_
    refine hs_bipush C dX6_parting_20 (by decide) ?_
    exact hret _ _ _ () (by first | rfl | (rw [if_pos (by omega)]) | (rw [if_neg (by omega)])) dX6_parting_22 rfl
  ·
    exact absurd trivial (by omega)

set_option maxHeartbeats 4000000 in
set_option maxRecDepth 100000 in
theorem c_X6_parting_0s (l : Launch) (D : va_G) (cI cO : ClassId) (x0 : Nat) (h0 : Nat) (k0 : Nat) (i0 : Nat) (w0 : Nat) (r0 : Nat) (t0 : Nat) (p0 : Nat) (h1 : Nat) (n : Int) (g : Int → Int) (ob : Option Nat) (m0 : Nat) (m1 : Nat) (mn : Int) (mg : Int → Int) (hn : 0 ≤ n ∧ n ≤ 40) (hg : ∀ k, 0 ≤ g k ∧ g k ≤ 50) (hmn : 0 ≤ mn ∧ mn ≤ 40) (hmg : ∀ k, 0 ≤ mg k ∧ mg k ≤ 50) : hs_M l D cI cO yX6_parting wsX6_parting ({ frames := 2, cells := 0, slots := 0, locals := 44 } : Room) [.ref x0, hs_V 0] [hs_ob x0 6 [.ref h0, .ref k0, .ref i0, .ref w0, .ref r0, .ref t0, .ref p0], hs_ob h0 0 [.ref h1, hs_V n], hs_ia cI h1 40 g, hs_ra cO i0 2 (hs_o2 (some m0) ob), hs_ob m0 0 [.ref m1, hs_V mn], hs_ia cI m1 40 mg] (fun r (_ : Unit) => r = hs_I (pu_fd g mg n mn)) (fun _ => [hs_ob x0 6 [.ref h0, .ref k0, .ref i0, .ref w0, .ref r0, .ref t0, .ref p0], hs_ob h0 0 [.ref h1, hs_V n], hs_ia cI h1 40 g, hs_ra cO i0 2 (hs_o2 (some m0) ob), hs_ob m0 0 [.ref m1, hs_V mn], hs_ia cI m1 40 mg]) 0 0 := by
  refine hs_enter (cc := cX6_parting) (maxL := 3) (by decide +kernel) rfl (Nat.le_of_ble_eq_true rfl) (fun p e s m args below meth c A H0 Q C hret => ?_)
  have f23 := C.1.2.2.2.2 (.fieldLink RX6 23 "HistogramStairs" "images" "[LHistogramStairs$Columns;") (by decide +kernel)
  have u6 : ∀ w ∈ wsX60, w ∈ wsX6_parting := by decide +kernel
  have f10 := C.1.2.2.2.2 (.fieldLink RX6 10 "HistogramStairs" "columns" "LHistogramStairs$Columns;") (by decide +kernel)
  refine hs_lvs (lv' := [(0, .ref x0), (1, hs_V 0)]) [0, 1] rfl ?_
  refine hs_iload_n C dX6_parting_0 rfl 1 rfl ?_
  refine hs_callSi (win := []) (wr := [hs_ob x0 6 [.ref h0, .ref k0, .ref i0, .ref w0, .ref r0, .ref t0, .ref p0], hs_ob h0 0 [.ref h1, hs_V n], hs_ia cI h1 40 g, hs_ra cO i0 2 (hs_o2 (some m0) ob), hs_ob m0 0 [.ref m1, hs_V mn], hs_ia cI m1 40 mg]) (As := [hs_V 0]) (rest := []) C (c_X6_isImage l D cI cO 0 (by omega)) (va_cwS 1 C.1.2.2.2.2 gX6_parting_X6_isImage rfl rfl rfl (by decide +kernel) ⟨Nat.le_of_ble_eq_true rfl, Nat.le_of_ble_eq_true rfl⟩) rfl rfl (Nat.le_of_ble_eq_true rfl) dX6_parting_1 ⟨Nat.le_of_ble_eq_true rfl, Nat.le_of_ble_eq_true rfl⟩ (fun rr uu1 hp => ?_)
  obtain rfl := hp
  refine hs_re0 (w' := [hs_ob x0 6 [.ref h0, .ref k0, .ref i0, .ref w0, .ref r0, .ref t0, .ref p0], hs_ob h0 0 [.ref h1, hs_V n], hs_ia cI h1 40 g, hs_ra cO i0 2 (hs_o2 (some m0) ob), hs_ob m0 0 [.ref m1, hs_V mn], hs_ia cI m1 40 mg]) [0, 1, 2, 3, 4, 5] rfl (by decide) ?_
  refine hs_ifne_b (tgt := 9) C dX6_parting_4 (by decide) (fun c2 => ?_) (fun c2 => ?_)
  ·
    refine hs_aload_n C dX6_parting_9 rfl 0 rfl ?_
    refine hs_get C u6 0 rfl rfl 2 (by decide) f23 rfl rfl dX6_parting_10 ?_
    refine hs_iload_n C dX6_parting_13 rfl 1 rfl ?_
    refine hs_aald (v := .ref m0) C 3 rfl (by omega) rfl dX6_parting_14 ?_
    refine hs_astore_n (lv' := [(0, .ref x0), (1, hs_V 0), (2, .ref m0)]) C dX6_parting_15 rfl (by decide) [1, 2, 0] rfl ?_
    refine hs_aload_n C dX6_parting_16 rfl 2 rfl ?_
    refine hs_ifnonnull (tgt := 23) C dX6_parting_17 (by decide) ?_
    refine hs_aload_n C dX6_parting_23 rfl 0 rfl ?_
    refine hs_get C u6 0 rfl rfl 0 (by decide) f10 rfl rfl dX6_parting_24 ?_
    refine hs_aload_n C dX6_parting_27 rfl 2 rfl ?_
    refine hs_re0 (w' := [hs_ob h0 0 [.ref h1, hs_V n], hs_ia cI h1 40 g, hs_ob m0 0 [.ref m1, hs_V mn], hs_ia cI m1 40 mg, hs_ob x0 6 [.ref h0, .ref k0, .ref i0, .ref w0, .ref r0, .ref t0, .ref p0], hs_ra cO i0 2 (hs_o2 (some m0) ob)]) [1, 2, 4, 5, 0, 3] rfl (by decide) ?_
    refine hs_callVi (win := [hs_ob h0 0 [.ref h1, hs_V n], hs_ia cI h1 40 g, hs_ob m0 0 [.ref m1, hs_V mn], hs_ia cI m1 40 mg]) (wr := [hs_ob x0 6 [.ref h0, .ref k0, .ref i0, .ref w0, .ref r0, .ref t0, .ref p0], hs_ra cO i0 2 (hs_o2 (some m0) ob)]) (As := [.ref m0]) (rest := []) C (c_X0_firstDifference l D cI cO h0 h1 n g m0 m1 mn mg (by omega) hg (by omega) hmg) 0 0 rfl rfl rfl (cwV 1 C.1.2.2.2.2 gX6_parting_X0_firstDifference rfl rfl rfl (by decide +kernel) ⟨Nat.le_of_ble_eq_true rfl, Nat.le_of_ble_eq_true rfl⟩) rfl rfl (Nat.le_of_ble_eq_true rfl) dX6_parting_28 ⟨Nat.le_of_ble_eq_true rfl, Nat.le_of_ble_eq_true rfl⟩ (fun rr uu3 hp => ?_)
    obtain rfl := hp
    refine hs_re0 (w' := [hs_ob x0 6 [.ref h0, .ref k0, .ref i0, .ref w0, .ref r0, .ref t0, .ref p0], hs_ob h0 0 [.ref h1, hs_V n], hs_ia cI h1 40 g, hs_ra cO i0 2 (hs_o2 (some m0) ob), hs_ob m0 0 [.ref m1, hs_V mn], hs_ia cI m1 40 mg]) [4, 0, 1, 5, 2, 3] rfl (by decide) ?_
    exact hret _ _ _ () (by first | rfl | (rw [if_pos (by omega)]) | (rw [if_neg (by omega)])) dX6_parting_31 rfl
  ·
    exact absurd trivial (by omega)

set_option maxHeartbeats 4000000 in
set_option maxRecDepth 100000 in
theorem c_X6_parting_1n (l : Launch) (D : va_G) (cI cO : ClassId) (x0 : Nat) (h0 : Nat) (k0 : Nat) (i0 : Nat) (w0 : Nat) (r0 : Nat) (t0 : Nat) (p0 : Nat) (h1 : Nat) (n : Int) (g : Int → Int) (ob : Option Nat) (hn : 0 ≤ n ∧ n ≤ 40) : hs_M l D cI cO yX6_parting wsX6_parting ({ frames := 2, cells := 0, slots := 0, locals := 44 } : Room) [.ref x0, hs_V 1] [hs_ob x0 6 [.ref h0, .ref k0, .ref i0, .ref w0, .ref r0, .ref t0, .ref p0], hs_ob h0 0 [.ref h1, hs_V n], hs_ia cI h1 40 g, hs_ra cO i0 2 (hs_o2 ob none)] (fun r (_ : Unit) => r = hs_I (-2)) (fun _ => [hs_ob x0 6 [.ref h0, .ref k0, .ref i0, .ref w0, .ref r0, .ref t0, .ref p0], hs_ob h0 0 [.ref h1, hs_V n], hs_ia cI h1 40 g, hs_ra cO i0 2 (hs_o2 ob none)]) 0 0 := by
  refine hs_enter (cc := cX6_parting) (maxL := 3) (by decide +kernel) rfl (Nat.le_of_ble_eq_true rfl) (fun p e s m args below meth c A H0 Q C hret => ?_)
  have f23 := C.1.2.2.2.2 (.fieldLink RX6 23 "HistogramStairs" "images" "[LHistogramStairs$Columns;") (by decide +kernel)
  have u6 : ∀ w ∈ wsX60, w ∈ wsX6_parting := by decide +kernel
  refine hs_lvs (lv' := [(0, .ref x0), (1, hs_V 1)]) [0, 1] rfl ?_
  refine hs_iload_n C dX6_parting_0 rfl 1 rfl ?_
  refine hs_callSi (win := []) (wr := [hs_ob x0 6 [.ref h0, .ref k0, .ref i0, .ref w0, .ref r0, .ref t0, .ref p0], hs_ob h0 0 [.ref h1, hs_V n], hs_ia cI h1 40 g, hs_ra cO i0 2 (hs_o2 ob none)]) (As := [hs_V 1]) (rest := []) C (c_X6_isImage l D cI cO 1 (by omega)) (va_cwS 1 C.1.2.2.2.2 gX6_parting_X6_isImage rfl rfl rfl (by decide +kernel) ⟨Nat.le_of_ble_eq_true rfl, Nat.le_of_ble_eq_true rfl⟩) rfl rfl (Nat.le_of_ble_eq_true rfl) dX6_parting_1 ⟨Nat.le_of_ble_eq_true rfl, Nat.le_of_ble_eq_true rfl⟩ (fun rr uu1 hp => ?_)
  obtain rfl := hp
  refine hs_re0 (w' := [hs_ob x0 6 [.ref h0, .ref k0, .ref i0, .ref w0, .ref r0, .ref t0, .ref p0], hs_ob h0 0 [.ref h1, hs_V n], hs_ia cI h1 40 g, hs_ra cO i0 2 (hs_o2 ob none)]) [0, 1, 2, 3] rfl (by decide) ?_
  refine hs_ifne_b (tgt := 9) C dX6_parting_4 (by decide) (fun c2 => ?_) (fun c2 => ?_)
  ·
    refine hs_aload_n C dX6_parting_9 rfl 0 rfl ?_
    refine hs_get C u6 0 rfl rfl 2 (by decide) f23 rfl rfl dX6_parting_10 ?_
    refine hs_iload_n C dX6_parting_13 rfl 1 rfl ?_
    refine hs_aald (v := .null) C 3 rfl (by omega) rfl dX6_parting_14 ?_
    refine hs_astore_nN (lv' := [(0, .ref x0), (1, hs_V 1), (2, .null)]) C dX6_parting_15 rfl (by decide) [1, 2, 0] rfl ?_
    refine hs_aload_nN C dX6_parting_16 rfl 2 rfl ?_
    refine hs_ifnonnullN C dX6_parting_17 ?_
    refine hs_bipush C dX6_parting_20 (by decide) ?_
    exact hret _ _ _ () (by first | rfl | (rw [if_pos (by omega)]) | (rw [if_neg (by omega)])) dX6_parting_22 rfl
  ·
    exact absurd trivial (by omega)

set_option maxHeartbeats 4000000 in
set_option maxRecDepth 100000 in
theorem c_X6_parting_1s (l : Launch) (D : va_G) (cI cO : ClassId) (x0 : Nat) (h0 : Nat) (k0 : Nat) (i0 : Nat) (w0 : Nat) (r0 : Nat) (t0 : Nat) (p0 : Nat) (h1 : Nat) (n : Int) (g : Int → Int) (ob : Option Nat) (m0 : Nat) (m1 : Nat) (mn : Int) (mg : Int → Int) (hn : 0 ≤ n ∧ n ≤ 40) (hg : ∀ k, 0 ≤ g k ∧ g k ≤ 50) (hmn : 0 ≤ mn ∧ mn ≤ 40) (hmg : ∀ k, 0 ≤ mg k ∧ mg k ≤ 50) : hs_M l D cI cO yX6_parting wsX6_parting ({ frames := 2, cells := 0, slots := 0, locals := 44 } : Room) [.ref x0, hs_V 1] [hs_ob x0 6 [.ref h0, .ref k0, .ref i0, .ref w0, .ref r0, .ref t0, .ref p0], hs_ob h0 0 [.ref h1, hs_V n], hs_ia cI h1 40 g, hs_ra cO i0 2 (hs_o2 ob (some m0)), hs_ob m0 0 [.ref m1, hs_V mn], hs_ia cI m1 40 mg] (fun r (_ : Unit) => r = hs_I (pu_fd g mg n mn)) (fun _ => [hs_ob x0 6 [.ref h0, .ref k0, .ref i0, .ref w0, .ref r0, .ref t0, .ref p0], hs_ob h0 0 [.ref h1, hs_V n], hs_ia cI h1 40 g, hs_ra cO i0 2 (hs_o2 ob (some m0)), hs_ob m0 0 [.ref m1, hs_V mn], hs_ia cI m1 40 mg]) 0 0 := by
  refine hs_enter (cc := cX6_parting) (maxL := 3) (by decide +kernel) rfl (Nat.le_of_ble_eq_true rfl) (fun p e s m args below meth c A H0 Q C hret => ?_)
  have f23 := C.1.2.2.2.2 (.fieldLink RX6 23 "HistogramStairs" "images" "[LHistogramStairs$Columns;") (by decide +kernel)
  have u6 : ∀ w ∈ wsX60, w ∈ wsX6_parting := by decide +kernel
  have f10 := C.1.2.2.2.2 (.fieldLink RX6 10 "HistogramStairs" "columns" "LHistogramStairs$Columns;") (by decide +kernel)
  refine hs_lvs (lv' := [(0, .ref x0), (1, hs_V 1)]) [0, 1] rfl ?_
  refine hs_iload_n C dX6_parting_0 rfl 1 rfl ?_
  refine hs_callSi (win := []) (wr := [hs_ob x0 6 [.ref h0, .ref k0, .ref i0, .ref w0, .ref r0, .ref t0, .ref p0], hs_ob h0 0 [.ref h1, hs_V n], hs_ia cI h1 40 g, hs_ra cO i0 2 (hs_o2 ob (some m0)), hs_ob m0 0 [.ref m1, hs_V mn], hs_ia cI m1 40 mg]) (As := [hs_V 1]) (rest := []) C (c_X6_isImage l D cI cO 1 (by omega)) (va_cwS 1 C.1.2.2.2.2 gX6_parting_X6_isImage rfl rfl rfl (by decide +kernel) ⟨Nat.le_of_ble_eq_true rfl, Nat.le_of_ble_eq_true rfl⟩) rfl rfl (Nat.le_of_ble_eq_true rfl) dX6_parting_1 ⟨Nat.le_of_ble_eq_true rfl, Nat.le_of_ble_eq_true rfl⟩ (fun rr uu1 hp => ?_)
  obtain rfl := hp
  refine hs_re0 (w' := [hs_ob x0 6 [.ref h0, .ref k0, .ref i0, .ref w0, .ref r0, .ref t0, .ref p0], hs_ob h0 0 [.ref h1, hs_V n], hs_ia cI h1 40 g, hs_ra cO i0 2 (hs_o2 ob (some m0)), hs_ob m0 0 [.ref m1, hs_V mn], hs_ia cI m1 40 mg]) [0, 1, 2, 3, 4, 5] rfl (by decide) ?_
  refine hs_ifne_b (tgt := 9) C dX6_parting_4 (by decide) (fun c2 => ?_) (fun c2 => ?_)
  ·
    refine hs_aload_n C dX6_parting_9 rfl 0 rfl ?_
    refine hs_get C u6 0 rfl rfl 2 (by decide) f23 rfl rfl dX6_parting_10 ?_
    refine hs_iload_n C dX6_parting_13 rfl 1 rfl ?_
    refine hs_aald (v := .ref m0) C 3 rfl (by omega) rfl dX6_parting_14 ?_
    refine hs_astore_n (lv' := [(0, .ref x0), (1, hs_V 1), (2, .ref m0)]) C dX6_parting_15 rfl (by decide) [1, 2, 0] rfl ?_
    refine hs_aload_n C dX6_parting_16 rfl 2 rfl ?_
    refine hs_ifnonnull (tgt := 23) C dX6_parting_17 (by decide) ?_
    refine hs_aload_n C dX6_parting_23 rfl 0 rfl ?_
    refine hs_get C u6 0 rfl rfl 0 (by decide) f10 rfl rfl dX6_parting_24 ?_
    refine hs_aload_n C dX6_parting_27 rfl 2 rfl ?_
    refine hs_re0 (w' := [hs_ob h0 0 [.ref h1, hs_V n], hs_ia cI h1 40 g, hs_ob m0 0 [.ref m1, hs_V mn], hs_ia cI m1 40 mg, hs_ob x0 6 [.ref h0, .ref k0, .ref i0, .ref w0, .ref r0, .ref t0, .ref p0], hs_ra cO i0 2 (hs_o2 ob (some m0))]) [1, 2, 4, 5, 0, 3] rfl (by decide) ?_
    refine hs_callVi (win := [hs_ob h0 0 [.ref h1, hs_V n], hs_ia cI h1 40 g, hs_ob m0 0 [.ref m1, hs_V mn], hs_ia cI m1 40 mg]) (wr := [hs_ob x0 6 [.ref h0, .ref k0, .ref i0, .ref w0, .ref r0, .ref t0, .ref p0], hs_ra cO i0 2 (hs_o2 ob (some m0))]) (As := [.ref m0]) (rest := []) C (c_X0_firstDifference l D cI cO h0 h1 n g m0 m1 mn mg (by omega) hg (by omega) hmg) 0 0 rfl rfl rfl (cwV 1 C.1.2.2.2.2 gX6_parting_X0_firstDifference rfl rfl rfl (by decide +kernel) ⟨Nat.le_of_ble_eq_true rfl, Nat.le_of_ble_eq_true rfl⟩) rfl rfl (Nat.le_of_ble_eq_true rfl) dX6_parting_28 ⟨Nat.le_of_ble_eq_true rfl, Nat.le_of_ble_eq_true rfl⟩ (fun rr uu3 hp => ?_)
    obtain rfl := hp
    refine hs_re0 (w' := [hs_ob x0 6 [.ref h0, .ref k0, .ref i0, .ref w0, .ref r0, .ref t0, .ref p0], hs_ob h0 0 [.ref h1, hs_V n], hs_ia cI h1 40 g, hs_ra cO i0 2 (hs_o2 ob (some m0)), hs_ob m0 0 [.ref m1, hs_V mn], hs_ia cI m1 40 mg]) [4, 0, 1, 5, 2, 3] rfl (by decide) ?_
    exact hret _ _ _ () (by first | rfl | (rw [if_pos (by omega)]) | (rw [if_neg (by omega)])) dX6_parting_31 rfl
  ·
    exact absurd trivial (by omega)
