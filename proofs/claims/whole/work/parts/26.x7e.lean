set_option maxHeartbeats 4000000 in
set_option maxRecDepth 100000 in
theorem c_X7_keep_bad (l : Launch) (D : va_G) (cI cO : ClassId) (y0 : Nat) (y1 : Nat) (y2 : Nat) (y3 : Nat) (y4 : Nat) (y5 : Nat) (y6 : Nat) (y7 : Nat) (y8 : Nat) (y9 : Nat) (pm : Int) (fl : Int) (pt : Int) (h : Int → Int) (z : Int) (hz : hs_in z) (hb : ¬ (0 ≤ z ∧ z ≤ 1)) : hs_M l D cI cO yX7_keep wsX7_keep ({ frames := 2, cells := 0, slots := 0, locals := 42 } : Room) [.ref y0, hs_V z] [hs_ob y0 7 [.ref y1, .ref y2, hs_V pm, .ref y3, hs_V fl, .ref y4, .ref y5, .ref y6, .ref y7, hs_V pt, .ref y8, .ref y9], hs_ia cI y1 41 h] (fun r (_ : Unit) => r = hs_I (-1)) (fun _ => [hs_ob y0 7 [.ref y1, .ref y2, hs_V pm, .ref y3, hs_V fl, .ref y4, .ref y5, .ref y6, .ref y7, hs_V pt, .ref y8, .ref y9], hs_ia cI y1 41 h]) 0 0 := by
  refine hs_enter (cc := cX7_keep) (maxL := 3) (by decide +kernel) rfl (Nat.le_of_ble_eq_true rfl) (fun p e s m args below meth c A H0 Q C hret => ?_)
  refine hs_lvs (lv' := [(0, .ref y0), (1, hs_V z)]) [0, 1] rfl ?_
  refine hs_iload_n C dX7_keep_0 rfl 1 rfl ?_
  refine hs_callSi (win := []) (wr := [hs_ob y0 7 [.ref y1, .ref y2, hs_V pm, .ref y3, hs_V fl, .ref y4, .ref y5, .ref y6, .ref y7, hs_V pt, .ref y8, .ref y9], hs_ia cI y1 41 h]) (As := [hs_V z]) (rest := []) C (c_X7_isImage l D cI cO z (by omega)) (va_cwS 1 C.1.2.2.2.2 gX7_keep_X7_isImage rfl rfl rfl (by decide +kernel) ⟨Nat.le_of_ble_eq_true rfl, Nat.le_of_ble_eq_true rfl⟩) rfl rfl (Nat.le_of_ble_eq_true rfl) dX7_keep_1 ⟨Nat.le_of_ble_eq_true rfl, Nat.le_of_ble_eq_true rfl⟩ (fun rr uu1 hp => ?_)
  obtain rfl := hp
  refine hs_re0 (w' := [hs_ob y0 7 [.ref y1, .ref y2, hs_V pm, .ref y3, hs_V fl, .ref y4, .ref y5, .ref y6, .ref y7, hs_V pt, .ref y8, .ref y9], hs_ia cI y1 41 h]) [0, 1] rfl (by decide) ?_
  refine hs_ifne_b (tgt := 9) C dX7_keep_4 (by decide) (fun c2 => ?_) (fun c2 => ?_)
  ·
    exact absurd trivial (by omega)
  ·
    refine hs_iconst C dX7_keep_7 ?_
    exact hret _ _ _ () (by first | rfl | (rw [if_pos (by omega)]) | (rw [if_neg (by omega)])) dX7_keep_8 rfl

set_option maxHeartbeats 4000000 in
set_option maxRecDepth 100000 in
theorem c_X7_back_bad (l : Launch) (D : va_G) (cI cO : ClassId) (y0 : Nat) (y1 : Nat) (y2 : Nat) (y3 : Nat) (y4 : Nat) (y5 : Nat) (y6 : Nat) (y7 : Nat) (y8 : Nat) (y9 : Nat) (pm : Int) (fl : Int) (pt : Int) (h : Int → Int) (z : Int) (hz : hs_in z) (hb : ¬ (0 ≤ z ∧ z ≤ 1)) : hs_M l D cI cO yX7_back wsX7_back ({ frames := 2, cells := 0, slots := 0, locals := 42 } : Room) [.ref y0, hs_V z] [hs_ob y0 7 [.ref y1, .ref y2, hs_V pm, .ref y3, hs_V fl, .ref y4, .ref y5, .ref y6, .ref y7, hs_V pt, .ref y8, .ref y9], hs_ia cI y1 41 h] (fun r (_ : Unit) => r = hs_I (-1)) (fun _ => [hs_ob y0 7 [.ref y1, .ref y2, hs_V pm, .ref y3, hs_V fl, .ref y4, .ref y5, .ref y6, .ref y7, hs_V pt, .ref y8, .ref y9], hs_ia cI y1 41 h]) 0 0 := by
  refine hs_enter (cc := cX7_back) (maxL := 3) (by decide +kernel) rfl (Nat.le_of_ble_eq_true rfl) (fun p e s m args below meth c A H0 Q C hret => ?_)
  refine hs_lvs (lv' := [(0, .ref y0), (1, hs_V z)]) [0, 1] rfl ?_
  refine hs_iload_n C dX7_back_0 rfl 1 rfl ?_
  refine hs_callSi (win := []) (wr := [hs_ob y0 7 [.ref y1, .ref y2, hs_V pm, .ref y3, hs_V fl, .ref y4, .ref y5, .ref y6, .ref y7, hs_V pt, .ref y8, .ref y9], hs_ia cI y1 41 h]) (As := [hs_V z]) (rest := []) C (c_X7_isImage l D cI cO z (by omega)) (va_cwS 1 C.1.2.2.2.2 gX7_back_X7_isImage rfl rfl rfl (by decide +kernel) ⟨Nat.le_of_ble_eq_true rfl, Nat.le_of_ble_eq_true rfl⟩) rfl rfl (Nat.le_of_ble_eq_true rfl) dX7_back_1 ⟨Nat.le_of_ble_eq_true rfl, Nat.le_of_ble_eq_true rfl⟩ (fun rr uu1 hp => ?_)
  obtain rfl := hp
  refine hs_re0 (w' := [hs_ob y0 7 [.ref y1, .ref y2, hs_V pm, .ref y3, hs_V fl, .ref y4, .ref y5, .ref y6, .ref y7, hs_V pt, .ref y8, .ref y9], hs_ia cI y1 41 h]) [0, 1] rfl (by decide) ?_
  refine hs_ifne_b (tgt := 9) C dX7_back_4 (by decide) (fun c2 => ?_) (fun c2 => ?_)
  ·
    exact absurd trivial (by omega)
  ·
    refine hs_iconst C dX7_back_7 ?_
    exact hret _ _ _ () (by first | rfl | (rw [if_pos (by omega)]) | (rw [if_neg (by omega)])) dX7_back_8 rfl

set_option maxHeartbeats 4000000 in
set_option maxRecDepth 100000 in
theorem c_X7_back_n (l : Launch) (D : va_G) (cI cO : ClassId) (y0 : Nat) (y1 : Nat) (y2 : Nat) (y3 : Nat) (y4 : Nat) (y5 : Nat) (y6 : Nat) (y7 : Nat) (y8 : Nat) (y9 : Nat) (pm : Int) (fl : Int) (pt : Int) (h : Int → Int) (z : Int) (hz : 0 ≤ z ∧ z ≤ 1) (hfl : 0 ≤ fl ∧ fl ≤ 3) (hk : ¬ mo_kept z fl) : hs_M l D cI cO yX7_back wsX7_back ({ frames := 2, cells := 0, slots := 0, locals := 42 } : Room) [.ref y0, hs_V z] [hs_ob y0 7 [.ref y1, .ref y2, hs_V pm, .ref y3, hs_V fl, .ref y4, .ref y5, .ref y6, .ref y7, hs_V pt, .ref y8, .ref y9], hs_ia cI y1 41 h] (fun r (_ : Unit) => r = hs_I (-2)) (fun _ => [hs_ob y0 7 [.ref y1, .ref y2, hs_V pm, .ref y3, hs_V fl, .ref y4, .ref y5, .ref y6, .ref y7, hs_V pt, .ref y8, .ref y9], hs_ia cI y1 41 h]) 0 0 := by
  refine hs_enter (cc := cX7_back) (maxL := 3) (by decide +kernel) rfl (Nat.le_of_ble_eq_true rfl) (fun p e s m args below meth c A H0 Q C hret => ?_)
  refine hs_lvs (lv' := [(0, .ref y0), (1, hs_V z)]) [0, 1] rfl ?_
  refine hs_iload_n C dX7_back_0 rfl 1 rfl ?_
  refine hs_callSi (win := []) (wr := [hs_ob y0 7 [.ref y1, .ref y2, hs_V pm, .ref y3, hs_V fl, .ref y4, .ref y5, .ref y6, .ref y7, hs_V pt, .ref y8, .ref y9], hs_ia cI y1 41 h]) (As := [hs_V z]) (rest := []) C (c_X7_isImage l D cI cO z (by omega)) (va_cwS 1 C.1.2.2.2.2 gX7_back_X7_isImage rfl rfl rfl (by decide +kernel) ⟨Nat.le_of_ble_eq_true rfl, Nat.le_of_ble_eq_true rfl⟩) rfl rfl (Nat.le_of_ble_eq_true rfl) dX7_back_1 ⟨Nat.le_of_ble_eq_true rfl, Nat.le_of_ble_eq_true rfl⟩ (fun rr uu1 hp => ?_)
  obtain rfl := hp
  refine hs_re0 (w' := [hs_ob y0 7 [.ref y1, .ref y2, hs_V pm, .ref y3, hs_V fl, .ref y4, .ref y5, .ref y6, .ref y7, hs_V pt, .ref y8, .ref y9], hs_ia cI y1 41 h]) [0, 1] rfl (by decide) ?_
  refine hs_ifne_b (tgt := 9) C dX7_back_4 (by decide) (fun c2 => ?_) (fun c2 => ?_)
  ·
    refine hs_aload_n C dX7_back_9 rfl 0 rfl ?_
    refine hs_iload_n C dX7_back_10 rfl 1 rfl ?_
    refine hs_callVi (win := [hs_ob y0 7 [.ref y1, .ref y2, hs_V pm, .ref y3, hs_V fl, .ref y4, .ref y5, .ref y6, .ref y7, hs_V pt, .ref y8, .ref y9]]) (wr := [hs_ia cI y1 41 h]) (As := [hs_V z]) (rest := []) C (c_X7_isKept l D cI cO y0 y1 y2 y3 y4 y5 y6 y7 y8 y9 pm fl pt z (by omega) (by omega)) 7 0 rfl rfl rfl (cwV 1 C.1.2.2.2.2 gX7_back_X7_isKept rfl rfl rfl (by decide +kernel) ⟨Nat.le_of_ble_eq_true rfl, Nat.le_of_ble_eq_true rfl⟩) rfl rfl (Nat.le_of_ble_eq_true rfl) dX7_back_11 ⟨Nat.le_of_ble_eq_true rfl, Nat.le_of_ble_eq_true rfl⟩ (fun rr uu3 hp => ?_)
    obtain rfl := hp
    refine hs_re0 (w' := [hs_ob y0 7 [.ref y1, .ref y2, hs_V pm, .ref y3, hs_V fl, .ref y4, .ref y5, .ref y6, .ref y7, hs_V pt, .ref y8, .ref y9], hs_ia cI y1 41 h]) [0, 1] rfl (by decide) ?_
    refine hs_ifne_b (tgt := 20) C dX7_back_14 (by decide) (fun c4 => ?_) (fun c4 => ?_)
    ·
      exact absurd trivial (by omega)
    ·
      refine hs_bipush C dX7_back_17 (by decide) ?_
      exact hret _ _ _ () (by first | rfl | (rw [if_pos (by omega)]) | (rw [if_neg (by omega)])) dX7_back_19 rfl
  ·
    exact absurd trivial (by omega)

set_option maxHeartbeats 4000000 in
set_option maxRecDepth 100000 in
theorem c_X7_parting_bad (l : Launch) (D : va_G) (cI cO : ClassId) (y0 : Nat) (y1 : Nat) (y2 : Nat) (y3 : Nat) (y4 : Nat) (y5 : Nat) (y6 : Nat) (y7 : Nat) (y8 : Nat) (y9 : Nat) (pm : Int) (fl : Int) (pt : Int) (h : Int → Int) (z : Int) (hz : hs_in z) (hb : ¬ (0 ≤ z ∧ z ≤ 1)) : hs_M l D cI cO yX7_parting wsX7_parting ({ frames := 2, cells := 0, slots := 0, locals := 42 } : Room) [.ref y0, hs_V z] [hs_ob y0 7 [.ref y1, .ref y2, hs_V pm, .ref y3, hs_V fl, .ref y4, .ref y5, .ref y6, .ref y7, hs_V pt, .ref y8, .ref y9], hs_ia cI y1 41 h] (fun r (_ : Unit) => r = hs_I (-1)) (fun _ => [hs_ob y0 7 [.ref y1, .ref y2, hs_V pm, .ref y3, hs_V fl, .ref y4, .ref y5, .ref y6, .ref y7, hs_V pt, .ref y8, .ref y9], hs_ia cI y1 41 h]) 0 0 := by
  refine hs_enter (cc := cX7_parting) (maxL := 4) (by decide +kernel) rfl (Nat.le_of_ble_eq_true rfl) (fun p e s m args below meth c A H0 Q C hret => ?_)
  refine hs_lvs (lv' := [(0, .ref y0), (1, hs_V z)]) [0, 1] rfl ?_
  refine hs_iload_n C dX7_parting_0 rfl 1 rfl ?_
  refine hs_callSi (win := []) (wr := [hs_ob y0 7 [.ref y1, .ref y2, hs_V pm, .ref y3, hs_V fl, .ref y4, .ref y5, .ref y6, .ref y7, hs_V pt, .ref y8, .ref y9], hs_ia cI y1 41 h]) (As := [hs_V z]) (rest := []) C (c_X7_isImage l D cI cO z (by omega)) (va_cwS 1 C.1.2.2.2.2 gX7_parting_X7_isImage rfl rfl rfl (by decide +kernel) ⟨Nat.le_of_ble_eq_true rfl, Nat.le_of_ble_eq_true rfl⟩) rfl rfl (Nat.le_of_ble_eq_true rfl) dX7_parting_1 ⟨Nat.le_of_ble_eq_true rfl, Nat.le_of_ble_eq_true rfl⟩ (fun rr uu1 hp => ?_)
  obtain rfl := hp
  refine hs_re0 (w' := [hs_ob y0 7 [.ref y1, .ref y2, hs_V pm, .ref y3, hs_V fl, .ref y4, .ref y5, .ref y6, .ref y7, hs_V pt, .ref y8, .ref y9], hs_ia cI y1 41 h]) [0, 1] rfl (by decide) ?_
  refine hs_ifne_b (tgt := 9) C dX7_parting_4 (by decide) (fun c2 => ?_) (fun c2 => ?_)
  ·
    exact absurd trivial (by omega)
  ·
    refine hs_iconst C dX7_parting_7 ?_
    exact hret _ _ _ () (by first | rfl | (rw [if_pos (by omega)]) | (rw [if_neg (by omega)])) dX7_parting_8 rfl

set_option maxHeartbeats 4000000 in
set_option maxRecDepth 100000 in
theorem c_X7_parting_n (l : Launch) (D : va_G) (cI cO : ClassId) (y0 : Nat) (y1 : Nat) (y2 : Nat) (y3 : Nat) (y4 : Nat) (y5 : Nat) (y6 : Nat) (y7 : Nat) (y8 : Nat) (y9 : Nat) (pm : Int) (fl : Int) (pt : Int) (h : Int → Int) (z : Int) (hz : 0 ≤ z ∧ z ≤ 1) (hfl : 0 ≤ fl ∧ fl ≤ 3) (hk : ¬ mo_kept z fl) : hs_M l D cI cO yX7_parting wsX7_parting ({ frames := 2, cells := 0, slots := 0, locals := 42 } : Room) [.ref y0, hs_V z] [hs_ob y0 7 [.ref y1, .ref y2, hs_V pm, .ref y3, hs_V fl, .ref y4, .ref y5, .ref y6, .ref y7, hs_V pt, .ref y8, .ref y9], hs_ia cI y1 41 h] (fun r (_ : Unit) => r = hs_I (-2)) (fun _ => [hs_ob y0 7 [.ref y1, .ref y2, hs_V pm, .ref y3, hs_V fl, .ref y4, .ref y5, .ref y6, .ref y7, hs_V pt, .ref y8, .ref y9], hs_ia cI y1 41 h]) 0 0 := by
  refine hs_enter (cc := cX7_parting) (maxL := 4) (by decide +kernel) rfl (Nat.le_of_ble_eq_true rfl) (fun p e s m args below meth c A H0 Q C hret => ?_)
  refine hs_lvs (lv' := [(0, .ref y0), (1, hs_V z)]) [0, 1] rfl ?_
  refine hs_iload_n C dX7_parting_0 rfl 1 rfl ?_
  refine hs_callSi (win := []) (wr := [hs_ob y0 7 [.ref y1, .ref y2, hs_V pm, .ref y3, hs_V fl, .ref y4, .ref y5, .ref y6, .ref y7, hs_V pt, .ref y8, .ref y9], hs_ia cI y1 41 h]) (As := [hs_V z]) (rest := []) C (c_X7_isImage l D cI cO z (by omega)) (va_cwS 1 C.1.2.2.2.2 gX7_parting_X7_isImage rfl rfl rfl (by decide +kernel) ⟨Nat.le_of_ble_eq_true rfl, Nat.le_of_ble_eq_true rfl⟩) rfl rfl (Nat.le_of_ble_eq_true rfl) dX7_parting_1 ⟨Nat.le_of_ble_eq_true rfl, Nat.le_of_ble_eq_true rfl⟩ (fun rr uu1 hp => ?_)
  obtain rfl := hp
  refine hs_re0 (w' := [hs_ob y0 7 [.ref y1, .ref y2, hs_V pm, .ref y3, hs_V fl, .ref y4, .ref y5, .ref y6, .ref y7, hs_V pt, .ref y8, .ref y9], hs_ia cI y1 41 h]) [0, 1] rfl (by decide) ?_
  refine hs_ifne_b (tgt := 9) C dX7_parting_4 (by decide) (fun c2 => ?_) (fun c2 => ?_)
  ·
    refine hs_aload_n C dX7_parting_9 rfl 0 rfl ?_
    refine hs_iload_n C dX7_parting_10 rfl 1 rfl ?_
    refine hs_callVi (win := [hs_ob y0 7 [.ref y1, .ref y2, hs_V pm, .ref y3, hs_V fl, .ref y4, .ref y5, .ref y6, .ref y7, hs_V pt, .ref y8, .ref y9]]) (wr := [hs_ia cI y1 41 h]) (As := [hs_V z]) (rest := []) C (c_X7_isKept l D cI cO y0 y1 y2 y3 y4 y5 y6 y7 y8 y9 pm fl pt z (by omega) (by omega)) 7 0 rfl rfl rfl (cwV 1 C.1.2.2.2.2 gX7_parting_X7_isKept rfl rfl rfl (by decide +kernel) ⟨Nat.le_of_ble_eq_true rfl, Nat.le_of_ble_eq_true rfl⟩) rfl rfl (Nat.le_of_ble_eq_true rfl) dX7_parting_11 ⟨Nat.le_of_ble_eq_true rfl, Nat.le_of_ble_eq_true rfl⟩ (fun rr uu3 hp => ?_)
    obtain rfl := hp
    refine hs_re0 (w' := [hs_ob y0 7 [.ref y1, .ref y2, hs_V pm, .ref y3, hs_V fl, .ref y4, .ref y5, .ref y6, .ref y7, hs_V pt, .ref y8, .ref y9], hs_ia cI y1 41 h]) [0, 1] rfl (by decide) ?_
    refine hs_ifne_b (tgt := 20) C dX7_parting_14 (by decide) (fun c4 => ?_) (fun c4 => ?_)
    ·
      exact absurd trivial (by omega)
    ·
      refine hs_bipush C dX7_parting_17 (by decide) ?_
      exact hret _ _ _ () (by first | rfl | (rw [if_pos (by omega)]) | (rw [if_neg (by omega)])) dX7_parting_19 rfl
  ·
    exact absurd trivial (by omega)

set_option maxHeartbeats 4000000 in
set_option maxRecDepth 100000 in
theorem c_X7_back_s (l : Launch) (D : va_G) (cI cO : ClassId) (y0 : Nat) (y1 : Nat) (y2 : Nat) (y3 : Nat) (y4 : Nat) (y5 : Nat) (y6 : Nat) (y7 : Nat) (y8 : Nat) (y9 : Nat) (pm : Int) (fl : Int) (pt : Int) (h : Int → Int) (pa : Int → Int) (im : Int → Int) (z : Int) (hh : ∀ k, 0 ≤ h k ∧ h k ≤ 50) (hN : 0 ≤ h 40 ∧ h 40 ≤ 40) (hpa : ∀ k, 0 ≤ pa k ∧ pa k ≤ 50) (hpm : 0 ≤ pm ∧ pm ≤ 8) (him : ∀ k, 0 ≤ im k ∧ im k ≤ 50) (hz : 0 ≤ z ∧ z ≤ 1) (hfl : 0 ≤ fl ∧ fl ≤ 3) (hk : mo_kept z fl) : hs_M l D cI cO yX7_back wsX7_back ({ frames := 2, cells := 0, slots := 0, locals := 42 } : Room) [.ref y0, hs_V z] [hs_ob y0 7 [.ref y1, .ref y2, hs_V pm, .ref y3, hs_V fl, .ref y4, .ref y5, .ref y6, .ref y7, hs_V pt, .ref y8, .ref y9], hs_ia cI y1 41 h, hs_ia cI y2 328 pa, hs_ia cI y3 82 im] (fun r (_ : Unit) => r = hs_I (mo_back im z (h, pa, pm)).1) (fun _ => [hs_ob y0 7 [.ref y1, .ref y2, hs_V (mo_back im z (h, pa, pm)).2.2.2, .ref y3, hs_V fl, .ref y4, .ref y5, .ref y6, .ref y7, hs_V pt, .ref y8, .ref y9], hs_ia cI y1 41 (mo_back im z (h, pa, pm)).2.1, hs_ia cI y2 328 (mo_back im z (h, pa, pm)).2.2.1, hs_ia cI y3 82 im]) 0 0 := by
  refine hs_enter (cc := cX7_back) (maxL := 3) (by decide +kernel) rfl (Nat.le_of_ble_eq_true rfl) (fun p e s m args below meth c A H0 Q C hret => ?_)
  have f7 := C.1.2.2.2.2 (.fieldLink RX7 7 "HistogramStairsModel" "h" "[I") (by decide +kernel)
  have u7 : ∀ w ∈ wsX70, w ∈ wsX7_back := by decide +kernel
  have f16 := C.1.2.2.2.2 (.fieldLink RX7 16 "HistogramStairsModel" "images" "[I") (by decide +kernel)
  refine hs_lvs (lv' := [(0, .ref y0), (1, hs_V z)]) [0, 1] rfl ?_
  refine hs_iload_n C dX7_back_0 rfl 1 rfl ?_
  refine hs_callSi (win := []) (wr := [hs_ob y0 7 [.ref y1, .ref y2, hs_V pm, .ref y3, hs_V fl, .ref y4, .ref y5, .ref y6, .ref y7, hs_V pt, .ref y8, .ref y9], hs_ia cI y1 41 h, hs_ia cI y2 328 pa, hs_ia cI y3 82 im]) (As := [hs_V z]) (rest := []) C (c_X7_isImage l D cI cO z (by omega)) (va_cwS 1 C.1.2.2.2.2 gX7_back_X7_isImage rfl rfl rfl (by decide +kernel) ⟨Nat.le_of_ble_eq_true rfl, Nat.le_of_ble_eq_true rfl⟩) rfl rfl (Nat.le_of_ble_eq_true rfl) dX7_back_1 ⟨Nat.le_of_ble_eq_true rfl, Nat.le_of_ble_eq_true rfl⟩ (fun rr uu1 hp => ?_)
  obtain rfl := hp
  refine hs_re0 (w' := [hs_ob y0 7 [.ref y1, .ref y2, hs_V pm, .ref y3, hs_V fl, .ref y4, .ref y5, .ref y6, .ref y7, hs_V pt, .ref y8, .ref y9], hs_ia cI y1 41 h, hs_ia cI y2 328 pa, hs_ia cI y3 82 im]) [0, 1, 2, 3] rfl (by decide) ?_
  refine hs_ifne_b (tgt := 9) C dX7_back_4 (by decide) (fun c2 => ?_) (fun c2 => ?_)
  ·
    refine hs_aload_n C dX7_back_9 rfl 0 rfl ?_
    refine hs_iload_n C dX7_back_10 rfl 1 rfl ?_
    refine hs_callVi (win := [hs_ob y0 7 [.ref y1, .ref y2, hs_V pm, .ref y3, hs_V fl, .ref y4, .ref y5, .ref y6, .ref y7, hs_V pt, .ref y8, .ref y9]]) (wr := [hs_ia cI y1 41 h, hs_ia cI y2 328 pa, hs_ia cI y3 82 im]) (As := [hs_V z]) (rest := []) C (c_X7_isKept l D cI cO y0 y1 y2 y3 y4 y5 y6 y7 y8 y9 pm fl pt z (by omega) (by omega)) 7 0 rfl rfl rfl (cwV 1 C.1.2.2.2.2 gX7_back_X7_isKept rfl rfl rfl (by decide +kernel) ⟨Nat.le_of_ble_eq_true rfl, Nat.le_of_ble_eq_true rfl⟩) rfl rfl (Nat.le_of_ble_eq_true rfl) dX7_back_11 ⟨Nat.le_of_ble_eq_true rfl, Nat.le_of_ble_eq_true rfl⟩ (fun rr uu3 hp => ?_)
    obtain rfl := hp
    refine hs_re0 (w' := [hs_ob y0 7 [.ref y1, .ref y2, hs_V pm, .ref y3, hs_V fl, .ref y4, .ref y5, .ref y6, .ref y7, hs_V pt, .ref y8, .ref y9], hs_ia cI y1 41 h, hs_ia cI y2 328 pa, hs_ia cI y3 82 im]) [0, 1, 2, 3] rfl (by decide) ?_
    refine hs_ifne_b (tgt := 20) C dX7_back_14 (by decide) (fun c4 => ?_) (fun c4 => ?_)
    ·
      refine hs_aload_n C dX7_back_20 rfl 0 rfl ?_
      refine hs_callVv (win := [hs_ob y0 7 [.ref y1, .ref y2, hs_V pm, .ref y3, hs_V fl, .ref y4, .ref y5, .ref y6, .ref y7, hs_V pt, .ref y8, .ref y9], hs_ia cI y1 41 h, hs_ia cI y2 328 pa]) (wr := [hs_ia cI y3 82 im]) (As := []) (rest := []) C (c_X7_remember l D cI cO y0 y1 y2 y3 y4 y5 y6 y7 y8 y9 pm fl pt h pa hh hpa (by omega)) 7 0 rfl rfl rfl (cwV 0 C.1.2.2.2.2 gX7_back_X7_remember rfl rfl rfl (by decide +kernel) ⟨Nat.le_of_ble_eq_true rfl, Nat.le_of_ble_eq_true rfl⟩) rfl rfl (Nat.le_of_ble_eq_true rfl) dX7_back_21 ⟨Nat.le_of_ble_eq_true rfl, Nat.le_of_ble_eq_true rfl⟩ (fun uu5 hp => ?_)
      refine hs_re0 (w' := [hs_ob y0 7 [.ref y1, .ref y2, hs_V (mo_rC pm), .ref y3, hs_V fl, .ref y4, .ref y5, .ref y6, .ref y7, hs_V pt, .ref y8, .ref y9], hs_ia cI y1 41 h, hs_ia cI y2 328 (mo_rP h pa pm), hs_ia cI y3 82 im]) [0, 1, 2, 3] rfl (by decide) ?_
      have hrb := mo_rP_bd (pm := pm) hh hpa
      have hrc := mo_rC_rg hpm
      refine hs_iconst C dX7_back_24 ?_
      refine hs_istore_n (lv' := [(0, .ref y0), (1, hs_V z), (2, hs_V 0)]) C dX7_back_25 rfl (by decide) [1, 2, 0] rfl ?_
      have Lp6 : ∀ (k : Nat) (q : Int) (x : Int → Int), (0 ≤ q ∧ q ≤ 41) → (hs_up (fun k x => hs_u x k (im (41 * z + k))) q 41 x = mo_getH im z h) → (41 - q < (k : Int)) → hs_J p l e ({ frames := 2, cells := 0, slots := 0, locals := 42 } : Room) s m args below meth c D A H0 3 0 0 Q 26 [(0, .ref y0), (1, hs_V z), (2, hs_V q)] [] [hs_ob y0 7 [.ref y1, .ref y2, hs_V (mo_rC pm), .ref y3, hs_V fl, .ref y4, .ref y5, .ref y6, .ref y7, hs_V pt, .ref y8, .ref y9], hs_ia cI y1 41 x, hs_ia cI y2 328 (mo_rP h pa pm), hs_ia cI y3 82 im] := by
        intro k
        induction k with
        | zero =>
          intro q x hq hL hk
          exact absurd hk (by omega)
        | succ k ih =>
          intro q x hq hL hk
          have ih7 := ih
          refine hs_iload_n C dX7_back_26 rfl 2 rfl ?_
          refine hs_bipush C dX7_back_27 (by decide) ?_
          refine hs_icmp_ge (tgt := 55) C dX7_back_29 (by decide) (by omega) (by omega) (fun c8 => ?_) (fun c8 => ?_)
          ·
            have hRH : mo_getH im z h = x := by rw [← hL, hs_up_done (by omega)]
            have hE : mo_back im z (h, pa, pm) = (x 40, x, mo_rP h pa pm, mo_rC pm) := by unfold mo_back; dsimp only; rw [hRH]
            refine hs_aload_n C dX7_back_55 rfl 0 rfl ?_
            refine hs_callVi (win := [hs_ob y0 7 [.ref y1, .ref y2, hs_V (mo_rC pm), .ref y3, hs_V fl, .ref y4, .ref y5, .ref y6, .ref y7, hs_V pt, .ref y8, .ref y9], hs_ia cI y1 41 x]) (wr := [hs_ia cI y2 328 (mo_rP h pa pm), hs_ia cI y3 82 im]) (As := []) (rest := []) C (c_X7_many l D cI cO y0 y1 y2 y3 y4 y5 y6 y7 y8 y9 (mo_rC pm) fl pt x ) 7 0 rfl rfl rfl (cwV 0 C.1.2.2.2.2 gX7_back_X7_many rfl rfl rfl (by decide +kernel) ⟨Nat.le_of_ble_eq_true rfl, Nat.le_of_ble_eq_true rfl⟩) rfl rfl (Nat.le_of_ble_eq_true rfl) dX7_back_56 ⟨Nat.le_of_ble_eq_true rfl, Nat.le_of_ble_eq_true rfl⟩ (fun rr uu9 hp => ?_)
            obtain rfl := hp
            refine hs_re0 (w' := [hs_ob y0 7 [.ref y1, .ref y2, hs_V (mo_rC pm), .ref y3, hs_V fl, .ref y4, .ref y5, .ref y6, .ref y7, hs_V pt, .ref y8, .ref y9], hs_ia cI y1 41 x, hs_ia cI y2 328 (mo_rP h pa pm), hs_ia cI y3 82 im]) [0, 1, 2, 3] rfl (by decide) ?_
            refine hs_cast (ws' := [hs_ob y0 7 [.ref y1, .ref y2, hs_V (mo_back im z (h, pa, pm)).2.2.2, .ref y3, hs_V fl, .ref y4, .ref y5, .ref y6, .ref y7, hs_V pt, .ref y8, .ref y9], hs_ia cI y1 41 (mo_back im z (h, pa, pm)).2.1, hs_ia cI y2 328 (mo_back im z (h, pa, pm)).2.2.1, hs_ia cI y3 82 im]) ?_ rfl rfl rfl (by rw [hE] <;> rfl)
            exact hret _ _ _ () (by rw [hE]) dX7_back_59 rfl
          ·
            refine hs_aload_n C dX7_back_32 rfl 0 rfl ?_
            refine hs_get C u7 0 rfl rfl 0 (by decide) f7 rfl rfl dX7_back_33 ?_
            refine hs_iload_n C dX7_back_36 rfl 2 rfl ?_
            refine hs_aload_n C dX7_back_37 rfl 0 rfl ?_
            refine hs_get C u7 0 rfl rfl 3 (by decide) f16 rfl rfl dX7_back_38 ?_
            refine hs_bipush C dX7_back_41 (by decide) ?_
            refine hs_iload_n C dX7_back_43 rfl 1 rfl ?_
            refine hs_imul C dX7_back_44 ?_
            refine hs_iload_n C dX7_back_45 rfl 2 rfl ?_
            refine hs_iadd C dX7_back_46 ?_
            refine hs_iald C 3 rfl (by omega) dX7_back_47 ?_
            refine hs_iast (ws' := [hs_ob y0 7 [.ref y1, .ref y2, hs_V (mo_rC pm), .ref y3, hs_V fl, .ref y4, .ref y5, .ref y6, .ref y7, hs_V pt, .ref y8, .ref y9], hs_ia cI y1 41 (hs_u x q (im ((41 * z) + q))), hs_ia cI y2 328 (mo_rP h pa pm), hs_ia cI y3 82 im]) C 1 rfl (by omega) rfl dX7_back_48 ?_
            refine hs_iinc (lv' := [(0, .ref y0), (1, hs_V z), (2, hs_V (q + 1))]) C dX7_back_49 2 rfl (by decide) [1, 2, 0] rfl ?_
            refine hs_goto (tgt := 26) C dX7_back_52 (by decide) ?_
            exact ih7 (q + 1) (hs_u x q (im ((41 * z) + q))) (by omega) (by have hz := (hs_up_step (by omega)).symm.trans hL; (try dsimp only at hz); first | exact hz | (split at hz <;> first | exact hz | (exfalso; omega) | (split at hz <;> first | exact hz | (exfalso; omega) | (split at hz <;> first | exact hz | (exfalso; omega))))) (by omega)
      exact Lp6 ((41 - 0 : Int).toNat + 1) 0 h (by omega) (rfl) (by omega)
    ·
      exact absurd trivial (by omega)
  ·
    exact absurd trivial (by omega)

set_option maxHeartbeats 4000000 in
set_option maxRecDepth 100000 in
theorem c_X7_parting_s (l : Launch) (D : va_G) (cI cO : ClassId) (y0 : Nat) (y1 : Nat) (y2 : Nat) (y3 : Nat) (y4 : Nat) (y5 : Nat) (y6 : Nat) (y7 : Nat) (y8 : Nat) (y9 : Nat) (pm : Int) (fl : Int) (pt : Int) (h : Int → Int) (im : Int → Int) (z : Int) (hh : ∀ k, 0 ≤ h k ∧ h k ≤ 50) (hN : 0 ≤ h 40 ∧ h 40 ≤ 40) (him : ∀ k, 0 ≤ im k ∧ im k ≤ 50) (hz : 0 ≤ z ∧ z ≤ 1) (hfl : 0 ≤ fl ∧ fl ≤ 3) (hk : mo_kept z fl) : hs_M l D cI cO yX7_parting wsX7_parting ({ frames := 2, cells := 0, slots := 0, locals := 42 } : Room) [.ref y0, hs_V z] [hs_ob y0 7 [.ref y1, .ref y2, hs_V pm, .ref y3, hs_V fl, .ref y4, .ref y5, .ref y6, .ref y7, hs_V pt, .ref y8, .ref y9], hs_ia cI y1 41 h, hs_ia cI y3 82 im] (fun r (_ : Unit) => r = hs_I (mo_parting h im z)) (fun _ => [hs_ob y0 7 [.ref y1, .ref y2, hs_V pm, .ref y3, hs_V fl, .ref y4, .ref y5, .ref y6, .ref y7, hs_V pt, .ref y8, .ref y9], hs_ia cI y1 41 h, hs_ia cI y3 82 im]) 0 0 := by
  refine hs_enter (cc := cX7_parting) (maxL := 4) (by decide +kernel) rfl (Nat.le_of_ble_eq_true rfl) (fun p e s m args below meth c A H0 Q C hret => ?_)
  have f16 := C.1.2.2.2.2 (.fieldLink RX7 16 "HistogramStairsModel" "images" "[I") (by decide +kernel)
  have u7 : ∀ w ∈ wsX70, w ∈ wsX7_parting := by decide +kernel
  have f7 := C.1.2.2.2.2 (.fieldLink RX7 7 "HistogramStairsModel" "h" "[I") (by decide +kernel)
  refine hs_lvs (lv' := [(0, .ref y0), (1, hs_V z)]) [0, 1] rfl ?_
  refine hs_iload_n C dX7_parting_0 rfl 1 rfl ?_
  refine hs_callSi (win := []) (wr := [hs_ob y0 7 [.ref y1, .ref y2, hs_V pm, .ref y3, hs_V fl, .ref y4, .ref y5, .ref y6, .ref y7, hs_V pt, .ref y8, .ref y9], hs_ia cI y1 41 h, hs_ia cI y3 82 im]) (As := [hs_V z]) (rest := []) C (c_X7_isImage l D cI cO z (by omega)) (va_cwS 1 C.1.2.2.2.2 gX7_parting_X7_isImage rfl rfl rfl (by decide +kernel) ⟨Nat.le_of_ble_eq_true rfl, Nat.le_of_ble_eq_true rfl⟩) rfl rfl (Nat.le_of_ble_eq_true rfl) dX7_parting_1 ⟨Nat.le_of_ble_eq_true rfl, Nat.le_of_ble_eq_true rfl⟩ (fun rr uu1 hp => ?_)
  obtain rfl := hp
  refine hs_re0 (w' := [hs_ob y0 7 [.ref y1, .ref y2, hs_V pm, .ref y3, hs_V fl, .ref y4, .ref y5, .ref y6, .ref y7, hs_V pt, .ref y8, .ref y9], hs_ia cI y1 41 h, hs_ia cI y3 82 im]) [0, 1, 2] rfl (by decide) ?_
  refine hs_ifne_b (tgt := 9) C dX7_parting_4 (by decide) (fun c2 => ?_) (fun c2 => ?_)
  ·
    refine hs_aload_n C dX7_parting_9 rfl 0 rfl ?_
    refine hs_iload_n C dX7_parting_10 rfl 1 rfl ?_
    refine hs_callVi (win := [hs_ob y0 7 [.ref y1, .ref y2, hs_V pm, .ref y3, hs_V fl, .ref y4, .ref y5, .ref y6, .ref y7, hs_V pt, .ref y8, .ref y9]]) (wr := [hs_ia cI y1 41 h, hs_ia cI y3 82 im]) (As := [hs_V z]) (rest := []) C (c_X7_isKept l D cI cO y0 y1 y2 y3 y4 y5 y6 y7 y8 y9 pm fl pt z (by omega) (by omega)) 7 0 rfl rfl rfl (cwV 1 C.1.2.2.2.2 gX7_parting_X7_isKept rfl rfl rfl (by decide +kernel) ⟨Nat.le_of_ble_eq_true rfl, Nat.le_of_ble_eq_true rfl⟩) rfl rfl (Nat.le_of_ble_eq_true rfl) dX7_parting_11 ⟨Nat.le_of_ble_eq_true rfl, Nat.le_of_ble_eq_true rfl⟩ (fun rr uu3 hp => ?_)
    obtain rfl := hp
    refine hs_re0 (w' := [hs_ob y0 7 [.ref y1, .ref y2, hs_V pm, .ref y3, hs_V fl, .ref y4, .ref y5, .ref y6, .ref y7, hs_V pt, .ref y8, .ref y9], hs_ia cI y1 41 h, hs_ia cI y3 82 im]) [0, 1, 2] rfl (by decide) ?_
    refine hs_ifne_b (tgt := 20) C dX7_parting_14 (by decide) (fun c4 => ?_) (fun c4 => ?_)
    ·
      refine hs_aload_n C dX7_parting_20 rfl 0 rfl ?_
      refine hs_get C u7 0 rfl rfl 3 (by decide) f16 rfl rfl dX7_parting_21 ?_
      refine hs_bipush C dX7_parting_24 (by decide) ?_
      refine hs_iload_n C dX7_parting_26 rfl 1 rfl ?_
      refine hs_imul C dX7_parting_27 ?_
      refine hs_bipush C dX7_parting_28 (by decide) ?_
      refine hs_iadd C dX7_parting_30 ?_
      refine hs_iald C 2 rfl (by omega) dX7_parting_31 ?_
      have b5 := him ((41 * z) + 40)
      refine hs_istore_n (lv' := [(0, .ref y0), (1, hs_V z), (2, hs_V (im ((41 * z) + 40)))]) C dX7_parting_32 rfl (by decide) [1, 2, 0] rfl ?_
      refine hs_iconst C dX7_parting_33 ?_
      refine hs_istore_n (lv' := [(0, .ref y0), (1, hs_V z), (2, hs_V (im ((41 * z) + 40))), (3, hs_V 0)]) C dX7_parting_34 rfl (by decide) [1, 2, 3, 0] rfl ?_
      have Lp6 : ∀ (k : Nat) (x : Int), (0 ≤ x ∧ x ≤ h 40) → (hs_wh (mo_paP h im z) (fun x => x + 1) k x = mo_pa h im z) → (h 40 - x < (k : Int)) → hs_J p l e ({ frames := 2, cells := 0, slots := 0, locals := 42 } : Room) s m args below meth c D A H0 4 0 0 Q 35 [(0, .ref y0), (1, hs_V z), (2, hs_V (im ((41 * z) + 40))), (3, hs_V x)] [] [hs_ob y0 7 [.ref y1, .ref y2, hs_V pm, .ref y3, hs_V fl, .ref y4, .ref y5, .ref y6, .ref y7, hs_V pt, .ref y8, .ref y9], hs_ia cI y1 41 h, hs_ia cI y3 82 im] := by
        intro k
        induction k with
        | zero =>
          intro x hx hL hk
          exact absurd hk (by omega)
        | succ k ih =>
          intro x hx hL hk
          have ih7 := ih
          refine hs_iload_n C dX7_parting_35 rfl 3 rfl ?_
          refine hs_aload_n C dX7_parting_36 rfl 0 rfl ?_
          refine hs_callVi (win := [hs_ob y0 7 [.ref y1, .ref y2, hs_V pm, .ref y3, hs_V fl, .ref y4, .ref y5, .ref y6, .ref y7, hs_V pt, .ref y8, .ref y9], hs_ia cI y1 41 h]) (wr := [hs_ia cI y3 82 im]) (As := []) (rest := [hs_V x]) C (c_X7_many l D cI cO y0 y1 y2 y3 y4 y5 y6 y7 y8 y9 pm fl pt h ) 7 0 rfl rfl rfl (cwV 0 C.1.2.2.2.2 gX7_parting_X7_many rfl rfl rfl (by decide +kernel) ⟨Nat.le_of_ble_eq_true rfl, Nat.le_of_ble_eq_true rfl⟩) rfl rfl (Nat.le_of_ble_eq_true rfl) dX7_parting_37 ⟨Nat.le_of_ble_eq_true rfl, Nat.le_of_ble_eq_true rfl⟩ (fun rr uu8 hp => ?_)
          obtain rfl := hp
          refine hs_re0 (w' := [hs_ob y0 7 [.ref y1, .ref y2, hs_V pm, .ref y3, hs_V fl, .ref y4, .ref y5, .ref y6, .ref y7, hs_V pt, .ref y8, .ref y9], hs_ia cI y1 41 h, hs_ia cI y3 82 im]) [0, 1, 2] rfl (by decide) ?_
          refine hs_icmp_ge (tgt := 74) C dX7_parting_40 (by decide) (by omega) (by omega) (fun c9 => ?_) (fun c9 => ?_)
          ·
            have hpp : mo_pa h im z = x := by rw [← hL, hs_wh_done (show ¬ mo_paP h im z x by unfold mo_paP; omega)]
            refine hs_iload_n C dX7_parting_74 rfl 3 rfl ?_
            refine hs_aload_n C dX7_parting_75 rfl 0 rfl ?_
            refine hs_callVi (win := [hs_ob y0 7 [.ref y1, .ref y2, hs_V pm, .ref y3, hs_V fl, .ref y4, .ref y5, .ref y6, .ref y7, hs_V pt, .ref y8, .ref y9], hs_ia cI y1 41 h]) (wr := [hs_ia cI y3 82 im]) (As := []) (rest := [hs_V x]) C (c_X7_many l D cI cO y0 y1 y2 y3 y4 y5 y6 y7 y8 y9 pm fl pt h ) 7 0 rfl rfl rfl (cwV 0 C.1.2.2.2.2 gX7_parting_X7_many rfl rfl rfl (by decide +kernel) ⟨Nat.le_of_ble_eq_true rfl, Nat.le_of_ble_eq_true rfl⟩) rfl rfl (Nat.le_of_ble_eq_true rfl) dX7_parting_76 ⟨Nat.le_of_ble_eq_true rfl, Nat.le_of_ble_eq_true rfl⟩ (fun rr uu10 hp => ?_)
            obtain rfl := hp
            refine hs_re0 (w' := [hs_ob y0 7 [.ref y1, .ref y2, hs_V pm, .ref y3, hs_V fl, .ref y4, .ref y5, .ref y6, .ref y7, hs_V pt, .ref y8, .ref y9], hs_ia cI y1 41 h, hs_ia cI y3 82 im]) [0, 1, 2] rfl (by decide) ?_
            refine hs_icmp_ne (tgt := 92) C dX7_parting_79 (by decide) (by omega) (by omega) (fun c11 => ?_) (fun c11 => ?_)
            ·
              refine hs_iload_n C dX7_parting_92 rfl 3 rfl ?_
              exact hret _ _ _ () (by unfold mo_parting; rw [hpp]; first | (exfalso; omega) | rw [if_pos (by omega)] | rw [if_neg (by omega)]) dX7_parting_93 rfl
            ·
              refine hs_iload_n C dX7_parting_82 rfl 3 rfl ?_
              refine hs_iload_n C dX7_parting_83 rfl 2 rfl ?_
              refine hs_icmp_ne (tgt := 92) C dX7_parting_84 (by decide) (by omega) (by omega) (fun c12 => ?_) (fun c12 => ?_)
              ·
                refine hs_iload_n C dX7_parting_92 rfl 3 rfl ?_
                exact hret _ _ _ () (by unfold mo_parting; rw [hpp]; first | (exfalso; omega) | rw [if_pos (by omega)] | rw [if_neg (by omega)]) dX7_parting_93 rfl
              ·
                refine hs_bipush C dX7_parting_87 (by decide) ?_
                refine hs_goto (tgt := 93) C dX7_parting_89 (by decide) ?_
                exact hret _ _ _ () (by unfold mo_parting; rw [hpp]; first | (exfalso; omega) | rw [if_pos (by omega)] | rw [if_neg (by omega)]) dX7_parting_93 rfl
          ·
            refine hs_iload_n C dX7_parting_43 rfl 3 rfl ?_
            refine hs_iload_n C dX7_parting_44 rfl 2 rfl ?_
            refine hs_icmp_ge (tgt := 74) C dX7_parting_45 (by decide) (by omega) (by omega) (fun c13 => ?_) (fun c13 => ?_)
            ·
              have hpp : mo_pa h im z = x := by rw [← hL, hs_wh_done (show ¬ mo_paP h im z x by unfold mo_paP; omega)]
              refine hs_iload_n C dX7_parting_74 rfl 3 rfl ?_
              refine hs_aload_n C dX7_parting_75 rfl 0 rfl ?_
              refine hs_callVi (win := [hs_ob y0 7 [.ref y1, .ref y2, hs_V pm, .ref y3, hs_V fl, .ref y4, .ref y5, .ref y6, .ref y7, hs_V pt, .ref y8, .ref y9], hs_ia cI y1 41 h]) (wr := [hs_ia cI y3 82 im]) (As := []) (rest := [hs_V x]) C (c_X7_many l D cI cO y0 y1 y2 y3 y4 y5 y6 y7 y8 y9 pm fl pt h ) 7 0 rfl rfl rfl (cwV 0 C.1.2.2.2.2 gX7_parting_X7_many rfl rfl rfl (by decide +kernel) ⟨Nat.le_of_ble_eq_true rfl, Nat.le_of_ble_eq_true rfl⟩) rfl rfl (Nat.le_of_ble_eq_true rfl) dX7_parting_76 ⟨Nat.le_of_ble_eq_true rfl, Nat.le_of_ble_eq_true rfl⟩ (fun rr uu14 hp => ?_)
              obtain rfl := hp
              refine hs_re0 (w' := [hs_ob y0 7 [.ref y1, .ref y2, hs_V pm, .ref y3, hs_V fl, .ref y4, .ref y5, .ref y6, .ref y7, hs_V pt, .ref y8, .ref y9], hs_ia cI y1 41 h, hs_ia cI y3 82 im]) [0, 1, 2] rfl (by decide) ?_
              refine hs_icmp_ne (tgt := 92) C dX7_parting_79 (by decide) (by omega) (by omega) (fun c15 => ?_) (fun c15 => ?_)
              ·
                refine hs_iload_n C dX7_parting_92 rfl 3 rfl ?_
                exact hret _ _ _ () (by unfold mo_parting; rw [hpp]; first | (exfalso; omega) | rw [if_pos (by omega)] | rw [if_neg (by omega)]) dX7_parting_93 rfl
              ·
                refine hs_iload_n C dX7_parting_82 rfl 3 rfl ?_
                refine hs_iload_n C dX7_parting_83 rfl 2 rfl ?_
                refine hs_icmp_ne (tgt := 92) C dX7_parting_84 (by decide) (by omega) (by omega) (fun c16 => ?_) (fun c16 => ?_)
                ·
                  refine hs_iload_n C dX7_parting_92 rfl 3 rfl ?_
                  exact hret _ _ _ () (by unfold mo_parting; rw [hpp]; first | (exfalso; omega) | rw [if_pos (by omega)] | rw [if_neg (by omega)]) dX7_parting_93 rfl
                ·
                  refine hs_bipush C dX7_parting_87 (by decide) ?_
                  refine hs_goto (tgt := 93) C dX7_parting_89 (by decide) ?_
                  exact hret _ _ _ () (by unfold mo_parting; rw [hpp]; first | (exfalso; omega) | rw [if_pos (by omega)] | rw [if_neg (by omega)]) dX7_parting_93 rfl
            ·
              refine hs_aload_n C dX7_parting_48 rfl 0 rfl ?_
              refine hs_get C u7 0 rfl rfl 0 (by decide) f7 rfl rfl dX7_parting_49 ?_
              refine hs_iload_n C dX7_parting_52 rfl 3 rfl ?_
              refine hs_iald C 1 rfl (by omega) dX7_parting_53 ?_
              have b17 := hh x
              refine hs_aload_n C dX7_parting_54 rfl 0 rfl ?_
              refine hs_get C u7 0 rfl rfl 3 (by decide) f16 rfl rfl dX7_parting_55 ?_
              refine hs_bipush C dX7_parting_58 (by decide) ?_
              refine hs_iload_n C dX7_parting_60 rfl 1 rfl ?_
              refine hs_imul C dX7_parting_61 ?_
              refine hs_iload_n C dX7_parting_62 rfl 3 rfl ?_
              refine hs_iadd C dX7_parting_63 ?_
              refine hs_iald C 2 rfl (by omega) dX7_parting_64 ?_
              have b18 := him ((41 * z) + x)
              refine hs_icmp_ne (tgt := 74) C dX7_parting_65 (by decide) (by omega) (by omega) (fun c19 => ?_) (fun c19 => ?_)
              ·
                have hpp : mo_pa h im z = x := by rw [← hL, hs_wh_done (show ¬ mo_paP h im z x by unfold mo_paP; omega)]
                refine hs_iload_n C dX7_parting_74 rfl 3 rfl ?_
                refine hs_aload_n C dX7_parting_75 rfl 0 rfl ?_
                refine hs_callVi (win := [hs_ob y0 7 [.ref y1, .ref y2, hs_V pm, .ref y3, hs_V fl, .ref y4, .ref y5, .ref y6, .ref y7, hs_V pt, .ref y8, .ref y9], hs_ia cI y1 41 h]) (wr := [hs_ia cI y3 82 im]) (As := []) (rest := [hs_V x]) C (c_X7_many l D cI cO y0 y1 y2 y3 y4 y5 y6 y7 y8 y9 pm fl pt h ) 7 0 rfl rfl rfl (cwV 0 C.1.2.2.2.2 gX7_parting_X7_many rfl rfl rfl (by decide +kernel) ⟨Nat.le_of_ble_eq_true rfl, Nat.le_of_ble_eq_true rfl⟩) rfl rfl (Nat.le_of_ble_eq_true rfl) dX7_parting_76 ⟨Nat.le_of_ble_eq_true rfl, Nat.le_of_ble_eq_true rfl⟩ (fun rr uu20 hp => ?_)
                obtain rfl := hp
                refine hs_re0 (w' := [hs_ob y0 7 [.ref y1, .ref y2, hs_V pm, .ref y3, hs_V fl, .ref y4, .ref y5, .ref y6, .ref y7, hs_V pt, .ref y8, .ref y9], hs_ia cI y1 41 h, hs_ia cI y3 82 im]) [0, 1, 2] rfl (by decide) ?_
                refine hs_icmp_ne (tgt := 92) C dX7_parting_79 (by decide) (by omega) (by omega) (fun c21 => ?_) (fun c21 => ?_)
                ·
                  refine hs_iload_n C dX7_parting_92 rfl 3 rfl ?_
                  exact hret _ _ _ () (by unfold mo_parting; rw [hpp]; first | (exfalso; omega) | rw [if_pos (by omega)] | rw [if_neg (by omega)]) dX7_parting_93 rfl
                ·
                  refine hs_iload_n C dX7_parting_82 rfl 3 rfl ?_
                  refine hs_iload_n C dX7_parting_83 rfl 2 rfl ?_
                  refine hs_icmp_ne (tgt := 92) C dX7_parting_84 (by decide) (by omega) (by omega) (fun c22 => ?_) (fun c22 => ?_)
                  ·
                    refine hs_iload_n C dX7_parting_92 rfl 3 rfl ?_
                    exact hret _ _ _ () (by unfold mo_parting; rw [hpp]; first | (exfalso; omega) | rw [if_pos (by omega)] | rw [if_neg (by omega)]) dX7_parting_93 rfl
                  ·
                    refine hs_bipush C dX7_parting_87 (by decide) ?_
                    refine hs_goto (tgt := 93) C dX7_parting_89 (by decide) ?_
                    exact hret _ _ _ () (by unfold mo_parting; rw [hpp]; first | (exfalso; omega) | rw [if_pos (by omega)] | rw [if_neg (by omega)]) dX7_parting_93 rfl
              ·
                refine hs_iinc (lv' := [(0, .ref y0), (1, hs_V z), (2, hs_V (im ((41 * z) + 40))), (3, hs_V (x + 1))]) C dX7_parting_68 3 rfl (by decide) [1, 2, 3, 0] rfl ?_
                refine hs_goto (tgt := 35) C dX7_parting_71 (by decide) ?_
                exact ih7 (x + 1) (by omega) ((hs_wh_step (P := mo_paP h im z) (f := fun x => x + 1) (n := k) (x := x) ⟨by omega, by omega, by omega⟩).symm.trans hL) (by omega)
      exact Lp6 ((h 40 - 0 : Int).toNat + 1) 0 (by omega) (rfl) (by omega)
    ·
      exact absurd trivial (by omega)
  ·
    exact absurd trivial (by omega)
