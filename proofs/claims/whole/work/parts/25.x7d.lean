set_option maxHeartbeats 4000000 in
set_option maxRecDepth 100000 in
theorem c_X7_isImage (l : Launch) (D : va_G) (cI cO : ClassId) (z : Int) (hz : hs_in z) : hs_M l D cI cO yX7_isImage wsX7_isImage ({ frames := 1, cells := 0, slots := 0, locals := 22 } : Room) [hs_V z] [] (fun r (_ : Unit) => r = hs_I (if 0 ≤ z ∧ z ≤ 1 then 1 else 0)) (fun _ => []) 0 0 := by
  refine hs_enter (cc := cX7_isImage) (maxL := 1) (by decide +kernel) rfl (Nat.le_of_ble_eq_true rfl) (fun p e s m args below meth c A H0 Q C hret => ?_)
  refine hs_lvs (lv' := [(0, hs_V z)]) [0] rfl ?_
  refine hs_iload_n C dX7_isImage_0 rfl 0 rfl ?_
  refine hs_iconst C dX7_isImage_1 ?_
  refine hs_iconst C dX7_isImage_2 ?_
  refine hs_callSi (win := []) (wr := []) (As := [hs_V z, hs_V 0, hs_V 1]) (rest := []) C (c_X7_isIn l D cI cO z 0 1 (by omega) (by omega) (by omega)) (va_cwS 3 C.1.2.2.2.2 gX7_isImage_X7_isIn rfl rfl rfl (by decide +kernel) ⟨Nat.le_of_ble_eq_true rfl, Nat.le_of_ble_eq_true rfl⟩) rfl rfl (Nat.le_of_ble_eq_true rfl) dX7_isImage_3 ⟨Nat.le_of_ble_eq_true rfl, Nat.le_of_ble_eq_true rfl⟩ (fun rr uu1 hp => ?_)
  obtain rfl := hp
  refine hs_re0 (w' := []) [] rfl (by decide) ?_
  exact hret _ _ _ () (by first | rfl | (rw [if_pos (by omega)]) | (rw [if_neg (by omega)])) dX7_isImage_6 (hs_nb _)

set_option maxHeartbeats 4000000 in
set_option maxRecDepth 100000 in
theorem c_X7_isKept_00 (l : Launch) (D : va_G) (cI cO : ClassId) (y0 : Nat) (y1 : Nat) (y2 : Nat) (y3 : Nat) (y4 : Nat) (y5 : Nat) (y6 : Nat) (y7 : Nat) (y8 : Nat) (y9 : Nat) (pm : Int) (pt : Int) : hs_M l D cI cO yX7_isKept wsX7_isKept ({ frames := 0, cells := 0, slots := 0, locals := 0 } : Room) [.ref y0, hs_V 0] [hs_ob y0 7 [.ref y1, .ref y2, hs_V pm, .ref y3, hs_V 0, .ref y4, .ref y5, .ref y6, .ref y7, hs_V pt, .ref y8, .ref y9]] (fun r (_ : Unit) => r = hs_I (if mo_kept 0 0 then 1 else 0)) (fun _ => [hs_ob y0 7 [.ref y1, .ref y2, hs_V pm, .ref y3, hs_V 0, .ref y4, .ref y5, .ref y6, .ref y7, hs_V pt, .ref y8, .ref y9]]) 0 0 := by
  refine hs_enter (cc := cX7_isKept) (maxL := 2) (by decide +kernel) rfl (Nat.le_of_ble_eq_true rfl) (fun p e s m args below meth c A H0 Q C hret => ?_)
  have f162 := C.1.2.2.2.2 (.fieldLink RX7 162 "HistogramStairsModel" "filled" "I") (by decide +kernel)
  have u7 : ∀ w ∈ wsX70, w ∈ wsX7_isKept := by decide +kernel
  refine hs_lvs (lv' := [(0, .ref y0), (1, hs_V 0)]) [0, 1] rfl ?_
  refine hs_aload_n C dX7_isKept_0 rfl 0 rfl ?_
  refine hs_get C u7 0 rfl rfl 4 (by decide) f162 rfl rfl dX7_isKept_1 ?_
  refine hs_iload_n C dX7_isKept_4 rfl 1 rfl ?_
  refine hs_ishr (z := 0) C (by decide) dX7_isKept_5 ?_
  refine hs_iconst C dX7_isKept_6 ?_
  refine hs_iand (z := 0) C (by decide) dX7_isKept_7 ?_
  refine hs_iconst C dX7_isKept_8 ?_
  refine hs_icmp_ne (tgt := 16) C dX7_isKept_9 (by decide) (by omega) (by omega) (fun c1 => ?_) (fun c1 => ?_)
  ·
    refine hs_iconst C dX7_isKept_16 ?_
    exact hret _ _ _ () (by first | rw [if_pos (show mo_kept 0 0 by unfold mo_kept; omega)] | rw [if_neg (show ¬ mo_kept 0 0 by unfold mo_kept; omega)]) dX7_isKept_17 rfl
  ·
    exact absurd c1 (by decide)

set_option maxHeartbeats 4000000 in
set_option maxRecDepth 100000 in
theorem c_X7_keep_00 (l : Launch) (D : va_G) (cI cO : ClassId) (y0 : Nat) (y1 : Nat) (y2 : Nat) (y3 : Nat) (y4 : Nat) (y5 : Nat) (y6 : Nat) (y7 : Nat) (y8 : Nat) (y9 : Nat) (pm : Int) (pt : Int) (h : Int → Int) (im : Int → Int) (hh : ∀ k, 0 ≤ h k ∧ h k ≤ 50) (hN : 0 ≤ h 40 ∧ h 40 ≤ 40) (him : ∀ k, 0 ≤ im k ∧ im k ≤ 50) : hs_M l D cI cO yX7_keep wsX7_keep ({ frames := 2, cells := 0, slots := 0, locals := 42 } : Room) [.ref y0, hs_V 0] [hs_ob y0 7 [.ref y1, .ref y2, hs_V pm, .ref y3, hs_V 0, .ref y4, .ref y5, .ref y6, .ref y7, hs_V pt, .ref y8, .ref y9], hs_ia cI y1 41 h, hs_ia cI y3 82 im] (fun r (_ : Unit) => r = hs_I (h 40)) (fun _ => [hs_ob y0 7 [.ref y1, .ref y2, hs_V pm, .ref y3, hs_V (mo_fl 0 0), .ref y4, .ref y5, .ref y6, .ref y7, hs_V pt, .ref y8, .ref y9], hs_ia cI y1 41 h, hs_ia cI y3 82 (mo_cpy h 0 im)]) 0 0 := by
  refine hs_enter (cc := cX7_keep) (maxL := 3) (by decide +kernel) rfl (Nat.le_of_ble_eq_true rfl) (fun p e s m args below meth c A H0 Q C hret => ?_)
  have f162 := C.1.2.2.2.2 (.fieldLink RX7 162 "HistogramStairsModel" "filled" "I") (by decide +kernel)
  have u7 : ∀ w ∈ wsX70, w ∈ wsX7_keep := by decide +kernel
  have f16 := C.1.2.2.2.2 (.fieldLink RX7 16 "HistogramStairsModel" "images" "[I") (by decide +kernel)
  have f7 := C.1.2.2.2.2 (.fieldLink RX7 7 "HistogramStairsModel" "h" "[I") (by decide +kernel)
  refine hs_lvs (lv' := [(0, .ref y0), (1, hs_V 0)]) [0, 1] rfl ?_
  refine hs_iload_n C dX7_keep_0 rfl 1 rfl ?_
  refine hs_callSi (win := []) (wr := [hs_ob y0 7 [.ref y1, .ref y2, hs_V pm, .ref y3, hs_V 0, .ref y4, .ref y5, .ref y6, .ref y7, hs_V pt, .ref y8, .ref y9], hs_ia cI y1 41 h, hs_ia cI y3 82 im]) (As := [hs_V 0]) (rest := []) C (c_X7_isImage l D cI cO 0 (by omega)) (va_cwS 1 C.1.2.2.2.2 gX7_keep_X7_isImage rfl rfl rfl (by decide +kernel) ⟨Nat.le_of_ble_eq_true rfl, Nat.le_of_ble_eq_true rfl⟩) rfl rfl (Nat.le_of_ble_eq_true rfl) dX7_keep_1 ⟨Nat.le_of_ble_eq_true rfl, Nat.le_of_ble_eq_true rfl⟩ (fun rr uu1 hp => ?_)
  obtain rfl := hp
  refine hs_re0 (w' := [hs_ob y0 7 [.ref y1, .ref y2, hs_V pm, .ref y3, hs_V 0, .ref y4, .ref y5, .ref y6, .ref y7, hs_V pt, .ref y8, .ref y9], hs_ia cI y1 41 h, hs_ia cI y3 82 im]) [0, 1, 2] rfl (by decide) ?_
  refine hs_ifne_b (tgt := 9) C dX7_keep_4 (by decide) (fun c2 => ?_) (fun c2 => ?_)
  ·
    refine hs_iconst C dX7_keep_9 ?_
    refine hs_istore_n (lv' := [(0, .ref y0), (1, hs_V 0), (2, hs_V 0)]) C dX7_keep_10 rfl (by decide) [1, 2, 0] rfl ?_
    have Lp3 : ∀ (k : Nat) (q : Int) (x : Int → Int), (0 ≤ q ∧ q ≤ 41) → (hs_up (fun k x => hs_u x (41 * 0 + k) (h k)) q 41 x = mo_cpy h 0 im) → (41 - q < (k : Int)) → hs_J p l e ({ frames := 2, cells := 0, slots := 0, locals := 42 } : Room) s m args below meth c D A H0 3 0 0 Q 11 [(0, .ref y0), (1, hs_V 0), (2, hs_V q)] [] [hs_ob y0 7 [.ref y1, .ref y2, hs_V pm, .ref y3, hs_V 0, .ref y4, .ref y5, .ref y6, .ref y7, hs_V pt, .ref y8, .ref y9], hs_ia cI y1 41 h, hs_ia cI y3 82 x] := by
      intro k
      induction k with
      | zero =>
        intro q x hq hL hk
        exact absurd hk (by omega)
      | succ k ih =>
        intro q x hq hL hk
        have ih4 := ih
        refine hs_iload_n C dX7_keep_11 rfl 2 rfl ?_
        refine hs_bipush C dX7_keep_12 (by decide) ?_
        refine hs_icmp_ge (tgt := 40) C dX7_keep_14 (by decide) (by omega) (by omega) (fun c5 => ?_) (fun c5 => ?_)
        ·
          refine hs_aload_n C dX7_keep_40 rfl 0 rfl ?_
          refine hs_dup C dX7_keep_41 rfl ?_
          refine hs_get C u7 0 rfl rfl 4 (by decide) f162 rfl rfl dX7_keep_42 ?_
          refine hs_iconst C dX7_keep_45 ?_
          refine hs_iload_n C dX7_keep_46 rfl 1 rfl ?_
          refine hs_ishl (z := 1) C (by decide) dX7_keep_47 ?_
          refine hs_ior (z := 1) C (by decide) dX7_keep_48 ?_
          refine hs_put (ty := .int) (ws' := [hs_ob y0 7 [.ref y1, .ref y2, hs_V pm, .ref y3, hs_V 1, .ref y4, .ref y5, .ref y6, .ref y7, hs_V pt, .ref y8, .ref y9], hs_ia cI y1 41 h, hs_ia cI y3 82 x]) C u7 tyX7 tyX7_ok nmX7 0 rfl rfl 4 (by decide) f162 rfl rfl (by decide +kernel) rfl rfl (Nat.le_of_ble_eq_true rfl) rfl dX7_keep_49 ?_
          refine hs_aload_n C dX7_keep_52 rfl 0 rfl ?_
          refine hs_callVi (win := [hs_ob y0 7 [.ref y1, .ref y2, hs_V pm, .ref y3, hs_V 1, .ref y4, .ref y5, .ref y6, .ref y7, hs_V pt, .ref y8, .ref y9], hs_ia cI y1 41 h]) (wr := [hs_ia cI y3 82 x]) (As := []) (rest := []) C (c_X7_many l D cI cO y0 y1 y2 y3 y4 y5 y6 y7 y8 y9 pm 1 pt h ) 7 0 rfl rfl rfl (cwV 0 C.1.2.2.2.2 gX7_keep_X7_many rfl rfl rfl (by decide +kernel) ⟨Nat.le_of_ble_eq_true rfl, Nat.le_of_ble_eq_true rfl⟩) rfl rfl (Nat.le_of_ble_eq_true rfl) dX7_keep_53 ⟨Nat.le_of_ble_eq_true rfl, Nat.le_of_ble_eq_true rfl⟩ (fun rr uu6 hp => ?_)
          obtain rfl := hp
          refine hs_re0 (w' := [hs_ob y0 7 [.ref y1, .ref y2, hs_V pm, .ref y3, hs_V 1, .ref y4, .ref y5, .ref y6, .ref y7, hs_V pt, .ref y8, .ref y9], hs_ia cI y1 41 h, hs_ia cI y3 82 x]) [0, 1, 2] rfl (by decide) ?_
          refine hs_cast (ws' := [hs_ob y0 7 [.ref y1, .ref y2, hs_V pm, .ref y3, hs_V (mo_fl 0 0), .ref y4, .ref y5, .ref y6, .ref y7, hs_V pt, .ref y8, .ref y9], hs_ia cI y1 41 h, hs_ia cI y3 82 (mo_cpy h 0 im)]) ?_ rfl rfl rfl (by rw [← hL, hs_up_done (by omega)] <;> rfl)
          exact hret _ _ _ () (by first | rfl | (rw [if_pos (by omega)]) | (rw [if_neg (by omega)])) dX7_keep_56 rfl
        ·
          refine hs_aload_n C dX7_keep_17 rfl 0 rfl ?_
          refine hs_get C u7 0 rfl rfl 3 (by decide) f16 rfl rfl dX7_keep_18 ?_
          refine hs_bipush C dX7_keep_21 (by decide) ?_
          refine hs_iload_n C dX7_keep_23 rfl 1 rfl ?_
          refine hs_imul C dX7_keep_24 ?_
          refine hs_iload_n C dX7_keep_25 rfl 2 rfl ?_
          refine hs_iadd C dX7_keep_26 ?_
          refine hs_aload_n C dX7_keep_27 rfl 0 rfl ?_
          refine hs_get C u7 0 rfl rfl 0 (by decide) f7 rfl rfl dX7_keep_28 ?_
          refine hs_iload_n C dX7_keep_31 rfl 2 rfl ?_
          refine hs_iald C 1 rfl (by omega) dX7_keep_32 ?_
          have b7 := hh q
          refine hs_iast (ws' := [hs_ob y0 7 [.ref y1, .ref y2, hs_V pm, .ref y3, hs_V 0, .ref y4, .ref y5, .ref y6, .ref y7, hs_V pt, .ref y8, .ref y9], hs_ia cI y1 41 h, hs_ia cI y3 82 (hs_u x ((41 * 0) + q) (h q))]) C 2 rfl (by omega) rfl dX7_keep_33 ?_
          refine hs_iinc (lv' := [(0, .ref y0), (1, hs_V 0), (2, hs_V (q + 1))]) C dX7_keep_34 2 rfl (by decide) [1, 2, 0] rfl ?_
          refine hs_goto (tgt := 11) C dX7_keep_37 (by decide) ?_
          exact ih4 (q + 1) (hs_u x ((41 * 0) + q) (h q)) (by omega) (by have hz := (hs_up_step (by omega)).symm.trans hL; (try dsimp only at hz); first | exact hz | (split at hz <;> first | exact hz | (exfalso; omega) | (split at hz <;> first | exact hz | (exfalso; omega) | (split at hz <;> first | exact hz | (exfalso; omega))))) (by omega)
    exact Lp3 ((41 - 0 : Int).toNat + 1) 0 im (by omega) (rfl) (by omega)
  ·
    exact absurd trivial (by omega)

set_option maxHeartbeats 4000000 in
set_option maxRecDepth 100000 in
theorem c_X7_isKept_01 (l : Launch) (D : va_G) (cI cO : ClassId) (y0 : Nat) (y1 : Nat) (y2 : Nat) (y3 : Nat) (y4 : Nat) (y5 : Nat) (y6 : Nat) (y7 : Nat) (y8 : Nat) (y9 : Nat) (pm : Int) (pt : Int) : hs_M l D cI cO yX7_isKept wsX7_isKept ({ frames := 0, cells := 0, slots := 0, locals := 0 } : Room) [.ref y0, hs_V 0] [hs_ob y0 7 [.ref y1, .ref y2, hs_V pm, .ref y3, hs_V 1, .ref y4, .ref y5, .ref y6, .ref y7, hs_V pt, .ref y8, .ref y9]] (fun r (_ : Unit) => r = hs_I (if mo_kept 0 1 then 1 else 0)) (fun _ => [hs_ob y0 7 [.ref y1, .ref y2, hs_V pm, .ref y3, hs_V 1, .ref y4, .ref y5, .ref y6, .ref y7, hs_V pt, .ref y8, .ref y9]]) 0 0 := by
  refine hs_enter (cc := cX7_isKept) (maxL := 2) (by decide +kernel) rfl (Nat.le_of_ble_eq_true rfl) (fun p e s m args below meth c A H0 Q C hret => ?_)
  have f162 := C.1.2.2.2.2 (.fieldLink RX7 162 "HistogramStairsModel" "filled" "I") (by decide +kernel)
  have u7 : ∀ w ∈ wsX70, w ∈ wsX7_isKept := by decide +kernel
  refine hs_lvs (lv' := [(0, .ref y0), (1, hs_V 0)]) [0, 1] rfl ?_
  refine hs_aload_n C dX7_isKept_0 rfl 0 rfl ?_
  refine hs_get C u7 0 rfl rfl 4 (by decide) f162 rfl rfl dX7_isKept_1 ?_
  refine hs_iload_n C dX7_isKept_4 rfl 1 rfl ?_
  refine hs_ishr (z := 1) C (by decide) dX7_isKept_5 ?_
  refine hs_iconst C dX7_isKept_6 ?_
  refine hs_iand (z := 1) C (by decide) dX7_isKept_7 ?_
  refine hs_iconst C dX7_isKept_8 ?_
  refine hs_icmp_ne (tgt := 16) C dX7_isKept_9 (by decide) (by omega) (by omega) (fun c1 => ?_) (fun c1 => ?_)
  ·
    exact absurd c1 (by decide)
  ·
    refine hs_iconst C dX7_isKept_12 ?_
    refine hs_goto (tgt := 17) C dX7_isKept_13 (by decide) ?_
    exact hret _ _ _ () (by first | rw [if_pos (show mo_kept 0 1 by unfold mo_kept; omega)] | rw [if_neg (show ¬ mo_kept 0 1 by unfold mo_kept; omega)]) dX7_isKept_17 rfl

set_option maxHeartbeats 4000000 in
set_option maxRecDepth 100000 in
theorem c_X7_keep_01 (l : Launch) (D : va_G) (cI cO : ClassId) (y0 : Nat) (y1 : Nat) (y2 : Nat) (y3 : Nat) (y4 : Nat) (y5 : Nat) (y6 : Nat) (y7 : Nat) (y8 : Nat) (y9 : Nat) (pm : Int) (pt : Int) (h : Int → Int) (im : Int → Int) (hh : ∀ k, 0 ≤ h k ∧ h k ≤ 50) (hN : 0 ≤ h 40 ∧ h 40 ≤ 40) (him : ∀ k, 0 ≤ im k ∧ im k ≤ 50) : hs_M l D cI cO yX7_keep wsX7_keep ({ frames := 2, cells := 0, slots := 0, locals := 42 } : Room) [.ref y0, hs_V 0] [hs_ob y0 7 [.ref y1, .ref y2, hs_V pm, .ref y3, hs_V 1, .ref y4, .ref y5, .ref y6, .ref y7, hs_V pt, .ref y8, .ref y9], hs_ia cI y1 41 h, hs_ia cI y3 82 im] (fun r (_ : Unit) => r = hs_I (h 40)) (fun _ => [hs_ob y0 7 [.ref y1, .ref y2, hs_V pm, .ref y3, hs_V (mo_fl 0 1), .ref y4, .ref y5, .ref y6, .ref y7, hs_V pt, .ref y8, .ref y9], hs_ia cI y1 41 h, hs_ia cI y3 82 (mo_cpy h 0 im)]) 0 0 := by
  refine hs_enter (cc := cX7_keep) (maxL := 3) (by decide +kernel) rfl (Nat.le_of_ble_eq_true rfl) (fun p e s m args below meth c A H0 Q C hret => ?_)
  have f162 := C.1.2.2.2.2 (.fieldLink RX7 162 "HistogramStairsModel" "filled" "I") (by decide +kernel)
  have u7 : ∀ w ∈ wsX70, w ∈ wsX7_keep := by decide +kernel
  have f16 := C.1.2.2.2.2 (.fieldLink RX7 16 "HistogramStairsModel" "images" "[I") (by decide +kernel)
  have f7 := C.1.2.2.2.2 (.fieldLink RX7 7 "HistogramStairsModel" "h" "[I") (by decide +kernel)
  refine hs_lvs (lv' := [(0, .ref y0), (1, hs_V 0)]) [0, 1] rfl ?_
  refine hs_iload_n C dX7_keep_0 rfl 1 rfl ?_
  refine hs_callSi (win := []) (wr := [hs_ob y0 7 [.ref y1, .ref y2, hs_V pm, .ref y3, hs_V 1, .ref y4, .ref y5, .ref y6, .ref y7, hs_V pt, .ref y8, .ref y9], hs_ia cI y1 41 h, hs_ia cI y3 82 im]) (As := [hs_V 0]) (rest := []) C (c_X7_isImage l D cI cO 0 (by omega)) (va_cwS 1 C.1.2.2.2.2 gX7_keep_X7_isImage rfl rfl rfl (by decide +kernel) ⟨Nat.le_of_ble_eq_true rfl, Nat.le_of_ble_eq_true rfl⟩) rfl rfl (Nat.le_of_ble_eq_true rfl) dX7_keep_1 ⟨Nat.le_of_ble_eq_true rfl, Nat.le_of_ble_eq_true rfl⟩ (fun rr uu1 hp => ?_)
  obtain rfl := hp
  refine hs_re0 (w' := [hs_ob y0 7 [.ref y1, .ref y2, hs_V pm, .ref y3, hs_V 1, .ref y4, .ref y5, .ref y6, .ref y7, hs_V pt, .ref y8, .ref y9], hs_ia cI y1 41 h, hs_ia cI y3 82 im]) [0, 1, 2] rfl (by decide) ?_
  refine hs_ifne_b (tgt := 9) C dX7_keep_4 (by decide) (fun c2 => ?_) (fun c2 => ?_)
  ·
    refine hs_iconst C dX7_keep_9 ?_
    refine hs_istore_n (lv' := [(0, .ref y0), (1, hs_V 0), (2, hs_V 0)]) C dX7_keep_10 rfl (by decide) [1, 2, 0] rfl ?_
    have Lp3 : ∀ (k : Nat) (q : Int) (x : Int → Int), (0 ≤ q ∧ q ≤ 41) → (hs_up (fun k x => hs_u x (41 * 0 + k) (h k)) q 41 x = mo_cpy h 0 im) → (41 - q < (k : Int)) → hs_J p l e ({ frames := 2, cells := 0, slots := 0, locals := 42 } : Room) s m args below meth c D A H0 3 0 0 Q 11 [(0, .ref y0), (1, hs_V 0), (2, hs_V q)] [] [hs_ob y0 7 [.ref y1, .ref y2, hs_V pm, .ref y3, hs_V 1, .ref y4, .ref y5, .ref y6, .ref y7, hs_V pt, .ref y8, .ref y9], hs_ia cI y1 41 h, hs_ia cI y3 82 x] := by
      intro k
      induction k with
      | zero =>
        intro q x hq hL hk
        exact absurd hk (by omega)
      | succ k ih =>
        intro q x hq hL hk
        have ih4 := ih
        refine hs_iload_n C dX7_keep_11 rfl 2 rfl ?_
        refine hs_bipush C dX7_keep_12 (by decide) ?_
        refine hs_icmp_ge (tgt := 40) C dX7_keep_14 (by decide) (by omega) (by omega) (fun c5 => ?_) (fun c5 => ?_)
        ·
          refine hs_aload_n C dX7_keep_40 rfl 0 rfl ?_
          refine hs_dup C dX7_keep_41 rfl ?_
          refine hs_get C u7 0 rfl rfl 4 (by decide) f162 rfl rfl dX7_keep_42 ?_
          refine hs_iconst C dX7_keep_45 ?_
          refine hs_iload_n C dX7_keep_46 rfl 1 rfl ?_
          refine hs_ishl (z := 1) C (by decide) dX7_keep_47 ?_
          refine hs_ior (z := 1) C (by decide) dX7_keep_48 ?_
          refine hs_put (ty := .int) (ws' := [hs_ob y0 7 [.ref y1, .ref y2, hs_V pm, .ref y3, hs_V 1, .ref y4, .ref y5, .ref y6, .ref y7, hs_V pt, .ref y8, .ref y9], hs_ia cI y1 41 h, hs_ia cI y3 82 x]) C u7 tyX7 tyX7_ok nmX7 0 rfl rfl 4 (by decide) f162 rfl rfl (by decide +kernel) rfl rfl (Nat.le_of_ble_eq_true rfl) rfl dX7_keep_49 ?_
          refine hs_aload_n C dX7_keep_52 rfl 0 rfl ?_
          refine hs_callVi (win := [hs_ob y0 7 [.ref y1, .ref y2, hs_V pm, .ref y3, hs_V 1, .ref y4, .ref y5, .ref y6, .ref y7, hs_V pt, .ref y8, .ref y9], hs_ia cI y1 41 h]) (wr := [hs_ia cI y3 82 x]) (As := []) (rest := []) C (c_X7_many l D cI cO y0 y1 y2 y3 y4 y5 y6 y7 y8 y9 pm 1 pt h ) 7 0 rfl rfl rfl (cwV 0 C.1.2.2.2.2 gX7_keep_X7_many rfl rfl rfl (by decide +kernel) ⟨Nat.le_of_ble_eq_true rfl, Nat.le_of_ble_eq_true rfl⟩) rfl rfl (Nat.le_of_ble_eq_true rfl) dX7_keep_53 ⟨Nat.le_of_ble_eq_true rfl, Nat.le_of_ble_eq_true rfl⟩ (fun rr uu6 hp => ?_)
          obtain rfl := hp
          refine hs_re0 (w' := [hs_ob y0 7 [.ref y1, .ref y2, hs_V pm, .ref y3, hs_V 1, .ref y4, .ref y5, .ref y6, .ref y7, hs_V pt, .ref y8, .ref y9], hs_ia cI y1 41 h, hs_ia cI y3 82 x]) [0, 1, 2] rfl (by decide) ?_
          refine hs_cast (ws' := [hs_ob y0 7 [.ref y1, .ref y2, hs_V pm, .ref y3, hs_V (mo_fl 0 1), .ref y4, .ref y5, .ref y6, .ref y7, hs_V pt, .ref y8, .ref y9], hs_ia cI y1 41 h, hs_ia cI y3 82 (mo_cpy h 0 im)]) ?_ rfl rfl rfl (by rw [← hL, hs_up_done (by omega)] <;> rfl)
          exact hret _ _ _ () (by first | rfl | (rw [if_pos (by omega)]) | (rw [if_neg (by omega)])) dX7_keep_56 rfl
        ·
          refine hs_aload_n C dX7_keep_17 rfl 0 rfl ?_
          refine hs_get C u7 0 rfl rfl 3 (by decide) f16 rfl rfl dX7_keep_18 ?_
          refine hs_bipush C dX7_keep_21 (by decide) ?_
          refine hs_iload_n C dX7_keep_23 rfl 1 rfl ?_
          refine hs_imul C dX7_keep_24 ?_
          refine hs_iload_n C dX7_keep_25 rfl 2 rfl ?_
          refine hs_iadd C dX7_keep_26 ?_
          refine hs_aload_n C dX7_keep_27 rfl 0 rfl ?_
          refine hs_get C u7 0 rfl rfl 0 (by decide) f7 rfl rfl dX7_keep_28 ?_
          refine hs_iload_n C dX7_keep_31 rfl 2 rfl ?_
          refine hs_iald C 1 rfl (by omega) dX7_keep_32 ?_
          have b7 := hh q
          refine hs_iast (ws' := [hs_ob y0 7 [.ref y1, .ref y2, hs_V pm, .ref y3, hs_V 1, .ref y4, .ref y5, .ref y6, .ref y7, hs_V pt, .ref y8, .ref y9], hs_ia cI y1 41 h, hs_ia cI y3 82 (hs_u x ((41 * 0) + q) (h q))]) C 2 rfl (by omega) rfl dX7_keep_33 ?_
          refine hs_iinc (lv' := [(0, .ref y0), (1, hs_V 0), (2, hs_V (q + 1))]) C dX7_keep_34 2 rfl (by decide) [1, 2, 0] rfl ?_
          refine hs_goto (tgt := 11) C dX7_keep_37 (by decide) ?_
          exact ih4 (q + 1) (hs_u x ((41 * 0) + q) (h q)) (by omega) (by have hz := (hs_up_step (by omega)).symm.trans hL; (try dsimp only at hz); first | exact hz | (split at hz <;> first | exact hz | (exfalso; omega) | (split at hz <;> first | exact hz | (exfalso; omega) | (split at hz <;> first | exact hz | (exfalso; omega))))) (by omega)
    exact Lp3 ((41 - 0 : Int).toNat + 1) 0 im (by omega) (rfl) (by omega)
  ·
    exact absurd trivial (by omega)

set_option maxHeartbeats 4000000 in
set_option maxRecDepth 100000 in
theorem c_X7_isKept_02 (l : Launch) (D : va_G) (cI cO : ClassId) (y0 : Nat) (y1 : Nat) (y2 : Nat) (y3 : Nat) (y4 : Nat) (y5 : Nat) (y6 : Nat) (y7 : Nat) (y8 : Nat) (y9 : Nat) (pm : Int) (pt : Int) : hs_M l D cI cO yX7_isKept wsX7_isKept ({ frames := 0, cells := 0, slots := 0, locals := 0 } : Room) [.ref y0, hs_V 0] [hs_ob y0 7 [.ref y1, .ref y2, hs_V pm, .ref y3, hs_V 2, .ref y4, .ref y5, .ref y6, .ref y7, hs_V pt, .ref y8, .ref y9]] (fun r (_ : Unit) => r = hs_I (if mo_kept 0 2 then 1 else 0)) (fun _ => [hs_ob y0 7 [.ref y1, .ref y2, hs_V pm, .ref y3, hs_V 2, .ref y4, .ref y5, .ref y6, .ref y7, hs_V pt, .ref y8, .ref y9]]) 0 0 := by
  refine hs_enter (cc := cX7_isKept) (maxL := 2) (by decide +kernel) rfl (Nat.le_of_ble_eq_true rfl) (fun p e s m args below meth c A H0 Q C hret => ?_)
  have f162 := C.1.2.2.2.2 (.fieldLink RX7 162 "HistogramStairsModel" "filled" "I") (by decide +kernel)
  have u7 : ∀ w ∈ wsX70, w ∈ wsX7_isKept := by decide +kernel
  refine hs_lvs (lv' := [(0, .ref y0), (1, hs_V 0)]) [0, 1] rfl ?_
  refine hs_aload_n C dX7_isKept_0 rfl 0 rfl ?_
  refine hs_get C u7 0 rfl rfl 4 (by decide) f162 rfl rfl dX7_isKept_1 ?_
  refine hs_iload_n C dX7_isKept_4 rfl 1 rfl ?_
  refine hs_ishr (z := 2) C (by decide) dX7_isKept_5 ?_
  refine hs_iconst C dX7_isKept_6 ?_
  refine hs_iand (z := 0) C (by decide) dX7_isKept_7 ?_
  refine hs_iconst C dX7_isKept_8 ?_
  refine hs_icmp_ne (tgt := 16) C dX7_isKept_9 (by decide) (by omega) (by omega) (fun c1 => ?_) (fun c1 => ?_)
  ·
    refine hs_iconst C dX7_isKept_16 ?_
    exact hret _ _ _ () (by first | rw [if_pos (show mo_kept 0 2 by unfold mo_kept; omega)] | rw [if_neg (show ¬ mo_kept 0 2 by unfold mo_kept; omega)]) dX7_isKept_17 rfl
  ·
    exact absurd c1 (by decide)

set_option maxHeartbeats 4000000 in
set_option maxRecDepth 100000 in
theorem c_X7_keep_02 (l : Launch) (D : va_G) (cI cO : ClassId) (y0 : Nat) (y1 : Nat) (y2 : Nat) (y3 : Nat) (y4 : Nat) (y5 : Nat) (y6 : Nat) (y7 : Nat) (y8 : Nat) (y9 : Nat) (pm : Int) (pt : Int) (h : Int → Int) (im : Int → Int) (hh : ∀ k, 0 ≤ h k ∧ h k ≤ 50) (hN : 0 ≤ h 40 ∧ h 40 ≤ 40) (him : ∀ k, 0 ≤ im k ∧ im k ≤ 50) : hs_M l D cI cO yX7_keep wsX7_keep ({ frames := 2, cells := 0, slots := 0, locals := 42 } : Room) [.ref y0, hs_V 0] [hs_ob y0 7 [.ref y1, .ref y2, hs_V pm, .ref y3, hs_V 2, .ref y4, .ref y5, .ref y6, .ref y7, hs_V pt, .ref y8, .ref y9], hs_ia cI y1 41 h, hs_ia cI y3 82 im] (fun r (_ : Unit) => r = hs_I (h 40)) (fun _ => [hs_ob y0 7 [.ref y1, .ref y2, hs_V pm, .ref y3, hs_V (mo_fl 0 2), .ref y4, .ref y5, .ref y6, .ref y7, hs_V pt, .ref y8, .ref y9], hs_ia cI y1 41 h, hs_ia cI y3 82 (mo_cpy h 0 im)]) 0 0 := by
  refine hs_enter (cc := cX7_keep) (maxL := 3) (by decide +kernel) rfl (Nat.le_of_ble_eq_true rfl) (fun p e s m args below meth c A H0 Q C hret => ?_)
  have f162 := C.1.2.2.2.2 (.fieldLink RX7 162 "HistogramStairsModel" "filled" "I") (by decide +kernel)
  have u7 : ∀ w ∈ wsX70, w ∈ wsX7_keep := by decide +kernel
  have f16 := C.1.2.2.2.2 (.fieldLink RX7 16 "HistogramStairsModel" "images" "[I") (by decide +kernel)
  have f7 := C.1.2.2.2.2 (.fieldLink RX7 7 "HistogramStairsModel" "h" "[I") (by decide +kernel)
  refine hs_lvs (lv' := [(0, .ref y0), (1, hs_V 0)]) [0, 1] rfl ?_
  refine hs_iload_n C dX7_keep_0 rfl 1 rfl ?_
  refine hs_callSi (win := []) (wr := [hs_ob y0 7 [.ref y1, .ref y2, hs_V pm, .ref y3, hs_V 2, .ref y4, .ref y5, .ref y6, .ref y7, hs_V pt, .ref y8, .ref y9], hs_ia cI y1 41 h, hs_ia cI y3 82 im]) (As := [hs_V 0]) (rest := []) C (c_X7_isImage l D cI cO 0 (by omega)) (va_cwS 1 C.1.2.2.2.2 gX7_keep_X7_isImage rfl rfl rfl (by decide +kernel) ⟨Nat.le_of_ble_eq_true rfl, Nat.le_of_ble_eq_true rfl⟩) rfl rfl (Nat.le_of_ble_eq_true rfl) dX7_keep_1 ⟨Nat.le_of_ble_eq_true rfl, Nat.le_of_ble_eq_true rfl⟩ (fun rr uu1 hp => ?_)
  obtain rfl := hp
  refine hs_re0 (w' := [hs_ob y0 7 [.ref y1, .ref y2, hs_V pm, .ref y3, hs_V 2, .ref y4, .ref y5, .ref y6, .ref y7, hs_V pt, .ref y8, .ref y9], hs_ia cI y1 41 h, hs_ia cI y3 82 im]) [0, 1, 2] rfl (by decide) ?_
  refine hs_ifne_b (tgt := 9) C dX7_keep_4 (by decide) (fun c2 => ?_) (fun c2 => ?_)
  ·
    refine hs_iconst C dX7_keep_9 ?_
    refine hs_istore_n (lv' := [(0, .ref y0), (1, hs_V 0), (2, hs_V 0)]) C dX7_keep_10 rfl (by decide) [1, 2, 0] rfl ?_
    have Lp3 : ∀ (k : Nat) (q : Int) (x : Int → Int), (0 ≤ q ∧ q ≤ 41) → (hs_up (fun k x => hs_u x (41 * 0 + k) (h k)) q 41 x = mo_cpy h 0 im) → (41 - q < (k : Int)) → hs_J p l e ({ frames := 2, cells := 0, slots := 0, locals := 42 } : Room) s m args below meth c D A H0 3 0 0 Q 11 [(0, .ref y0), (1, hs_V 0), (2, hs_V q)] [] [hs_ob y0 7 [.ref y1, .ref y2, hs_V pm, .ref y3, hs_V 2, .ref y4, .ref y5, .ref y6, .ref y7, hs_V pt, .ref y8, .ref y9], hs_ia cI y1 41 h, hs_ia cI y3 82 x] := by
      intro k
      induction k with
      | zero =>
        intro q x hq hL hk
        exact absurd hk (by omega)
      | succ k ih =>
        intro q x hq hL hk
        have ih4 := ih
        refine hs_iload_n C dX7_keep_11 rfl 2 rfl ?_
        refine hs_bipush C dX7_keep_12 (by decide) ?_
        refine hs_icmp_ge (tgt := 40) C dX7_keep_14 (by decide) (by omega) (by omega) (fun c5 => ?_) (fun c5 => ?_)
        ·
          refine hs_aload_n C dX7_keep_40 rfl 0 rfl ?_
          refine hs_dup C dX7_keep_41 rfl ?_
          refine hs_get C u7 0 rfl rfl 4 (by decide) f162 rfl rfl dX7_keep_42 ?_
          refine hs_iconst C dX7_keep_45 ?_
          refine hs_iload_n C dX7_keep_46 rfl 1 rfl ?_
          refine hs_ishl (z := 1) C (by decide) dX7_keep_47 ?_
          refine hs_ior (z := 3) C (by decide) dX7_keep_48 ?_
          refine hs_put (ty := .int) (ws' := [hs_ob y0 7 [.ref y1, .ref y2, hs_V pm, .ref y3, hs_V 3, .ref y4, .ref y5, .ref y6, .ref y7, hs_V pt, .ref y8, .ref y9], hs_ia cI y1 41 h, hs_ia cI y3 82 x]) C u7 tyX7 tyX7_ok nmX7 0 rfl rfl 4 (by decide) f162 rfl rfl (by decide +kernel) rfl rfl (Nat.le_of_ble_eq_true rfl) rfl dX7_keep_49 ?_
          refine hs_aload_n C dX7_keep_52 rfl 0 rfl ?_
          refine hs_callVi (win := [hs_ob y0 7 [.ref y1, .ref y2, hs_V pm, .ref y3, hs_V 3, .ref y4, .ref y5, .ref y6, .ref y7, hs_V pt, .ref y8, .ref y9], hs_ia cI y1 41 h]) (wr := [hs_ia cI y3 82 x]) (As := []) (rest := []) C (c_X7_many l D cI cO y0 y1 y2 y3 y4 y5 y6 y7 y8 y9 pm 3 pt h ) 7 0 rfl rfl rfl (cwV 0 C.1.2.2.2.2 gX7_keep_X7_many rfl rfl rfl (by decide +kernel) ⟨Nat.le_of_ble_eq_true rfl, Nat.le_of_ble_eq_true rfl⟩) rfl rfl (Nat.le_of_ble_eq_true rfl) dX7_keep_53 ⟨Nat.le_of_ble_eq_true rfl, Nat.le_of_ble_eq_true rfl⟩ (fun rr uu6 hp => ?_)
          obtain rfl := hp
          refine hs_re0 (w' := [hs_ob y0 7 [.ref y1, .ref y2, hs_V pm, .ref y3, hs_V 3, .ref y4, .ref y5, .ref y6, .ref y7, hs_V pt, .ref y8, .ref y9], hs_ia cI y1 41 h, hs_ia cI y3 82 x]) [0, 1, 2] rfl (by decide) ?_
          refine hs_cast (ws' := [hs_ob y0 7 [.ref y1, .ref y2, hs_V pm, .ref y3, hs_V (mo_fl 0 2), .ref y4, .ref y5, .ref y6, .ref y7, hs_V pt, .ref y8, .ref y9], hs_ia cI y1 41 h, hs_ia cI y3 82 (mo_cpy h 0 im)]) ?_ rfl rfl rfl (by rw [← hL, hs_up_done (by omega)] <;> rfl)
          exact hret _ _ _ () (by first | rfl | (rw [if_pos (by omega)]) | (rw [if_neg (by omega)])) dX7_keep_56 rfl
        ·
          refine hs_aload_n C dX7_keep_17 rfl 0 rfl ?_
          refine hs_get C u7 0 rfl rfl 3 (by decide) f16 rfl rfl dX7_keep_18 ?_
          refine hs_bipush C dX7_keep_21 (by decide) ?_
          refine hs_iload_n C dX7_keep_23 rfl 1 rfl ?_
          refine hs_imul C dX7_keep_24 ?_
          refine hs_iload_n C dX7_keep_25 rfl 2 rfl ?_
          refine hs_iadd C dX7_keep_26 ?_
          refine hs_aload_n C dX7_keep_27 rfl 0 rfl ?_
          refine hs_get C u7 0 rfl rfl 0 (by decide) f7 rfl rfl dX7_keep_28 ?_
          refine hs_iload_n C dX7_keep_31 rfl 2 rfl ?_
          refine hs_iald C 1 rfl (by omega) dX7_keep_32 ?_
          have b7 := hh q
          refine hs_iast (ws' := [hs_ob y0 7 [.ref y1, .ref y2, hs_V pm, .ref y3, hs_V 2, .ref y4, .ref y5, .ref y6, .ref y7, hs_V pt, .ref y8, .ref y9], hs_ia cI y1 41 h, hs_ia cI y3 82 (hs_u x ((41 * 0) + q) (h q))]) C 2 rfl (by omega) rfl dX7_keep_33 ?_
          refine hs_iinc (lv' := [(0, .ref y0), (1, hs_V 0), (2, hs_V (q + 1))]) C dX7_keep_34 2 rfl (by decide) [1, 2, 0] rfl ?_
          refine hs_goto (tgt := 11) C dX7_keep_37 (by decide) ?_
          exact ih4 (q + 1) (hs_u x ((41 * 0) + q) (h q)) (by omega) (by have hz := (hs_up_step (by omega)).symm.trans hL; (try dsimp only at hz); first | exact hz | (split at hz <;> first | exact hz | (exfalso; omega) | (split at hz <;> first | exact hz | (exfalso; omega) | (split at hz <;> first | exact hz | (exfalso; omega))))) (by omega)
    exact Lp3 ((41 - 0 : Int).toNat + 1) 0 im (by omega) (rfl) (by omega)
  ·
    exact absurd trivial (by omega)

set_option maxHeartbeats 4000000 in
set_option maxRecDepth 100000 in
theorem c_X7_isKept_03 (l : Launch) (D : va_G) (cI cO : ClassId) (y0 : Nat) (y1 : Nat) (y2 : Nat) (y3 : Nat) (y4 : Nat) (y5 : Nat) (y6 : Nat) (y7 : Nat) (y8 : Nat) (y9 : Nat) (pm : Int) (pt : Int) : hs_M l D cI cO yX7_isKept wsX7_isKept ({ frames := 0, cells := 0, slots := 0, locals := 0 } : Room) [.ref y0, hs_V 0] [hs_ob y0 7 [.ref y1, .ref y2, hs_V pm, .ref y3, hs_V 3, .ref y4, .ref y5, .ref y6, .ref y7, hs_V pt, .ref y8, .ref y9]] (fun r (_ : Unit) => r = hs_I (if mo_kept 0 3 then 1 else 0)) (fun _ => [hs_ob y0 7 [.ref y1, .ref y2, hs_V pm, .ref y3, hs_V 3, .ref y4, .ref y5, .ref y6, .ref y7, hs_V pt, .ref y8, .ref y9]]) 0 0 := by
  refine hs_enter (cc := cX7_isKept) (maxL := 2) (by decide +kernel) rfl (Nat.le_of_ble_eq_true rfl) (fun p e s m args below meth c A H0 Q C hret => ?_)
  have f162 := C.1.2.2.2.2 (.fieldLink RX7 162 "HistogramStairsModel" "filled" "I") (by decide +kernel)
  have u7 : ∀ w ∈ wsX70, w ∈ wsX7_isKept := by decide +kernel
  refine hs_lvs (lv' := [(0, .ref y0), (1, hs_V 0)]) [0, 1] rfl ?_
  refine hs_aload_n C dX7_isKept_0 rfl 0 rfl ?_
  refine hs_get C u7 0 rfl rfl 4 (by decide) f162 rfl rfl dX7_isKept_1 ?_
  refine hs_iload_n C dX7_isKept_4 rfl 1 rfl ?_
  refine hs_ishr (z := 3) C (by decide) dX7_isKept_5 ?_
  refine hs_iconst C dX7_isKept_6 ?_
  refine hs_iand (z := 1) C (by decide) dX7_isKept_7 ?_
  refine hs_iconst C dX7_isKept_8 ?_
  refine hs_icmp_ne (tgt := 16) C dX7_isKept_9 (by decide) (by omega) (by omega) (fun c1 => ?_) (fun c1 => ?_)
  ·
    exact absurd c1 (by decide)
  ·
    refine hs_iconst C dX7_isKept_12 ?_
    refine hs_goto (tgt := 17) C dX7_isKept_13 (by decide) ?_
    exact hret _ _ _ () (by first | rw [if_pos (show mo_kept 0 3 by unfold mo_kept; omega)] | rw [if_neg (show ¬ mo_kept 0 3 by unfold mo_kept; omega)]) dX7_isKept_17 rfl

set_option maxHeartbeats 4000000 in
set_option maxRecDepth 100000 in
theorem c_X7_keep_03 (l : Launch) (D : va_G) (cI cO : ClassId) (y0 : Nat) (y1 : Nat) (y2 : Nat) (y3 : Nat) (y4 : Nat) (y5 : Nat) (y6 : Nat) (y7 : Nat) (y8 : Nat) (y9 : Nat) (pm : Int) (pt : Int) (h : Int → Int) (im : Int → Int) (hh : ∀ k, 0 ≤ h k ∧ h k ≤ 50) (hN : 0 ≤ h 40 ∧ h 40 ≤ 40) (him : ∀ k, 0 ≤ im k ∧ im k ≤ 50) : hs_M l D cI cO yX7_keep wsX7_keep ({ frames := 2, cells := 0, slots := 0, locals := 42 } : Room) [.ref y0, hs_V 0] [hs_ob y0 7 [.ref y1, .ref y2, hs_V pm, .ref y3, hs_V 3, .ref y4, .ref y5, .ref y6, .ref y7, hs_V pt, .ref y8, .ref y9], hs_ia cI y1 41 h, hs_ia cI y3 82 im] (fun r (_ : Unit) => r = hs_I (h 40)) (fun _ => [hs_ob y0 7 [.ref y1, .ref y2, hs_V pm, .ref y3, hs_V (mo_fl 0 3), .ref y4, .ref y5, .ref y6, .ref y7, hs_V pt, .ref y8, .ref y9], hs_ia cI y1 41 h, hs_ia cI y3 82 (mo_cpy h 0 im)]) 0 0 := by
  refine hs_enter (cc := cX7_keep) (maxL := 3) (by decide +kernel) rfl (Nat.le_of_ble_eq_true rfl) (fun p e s m args below meth c A H0 Q C hret => ?_)
  have f162 := C.1.2.2.2.2 (.fieldLink RX7 162 "HistogramStairsModel" "filled" "I") (by decide +kernel)
  have u7 : ∀ w ∈ wsX70, w ∈ wsX7_keep := by decide +kernel
  have f16 := C.1.2.2.2.2 (.fieldLink RX7 16 "HistogramStairsModel" "images" "[I") (by decide +kernel)
  have f7 := C.1.2.2.2.2 (.fieldLink RX7 7 "HistogramStairsModel" "h" "[I") (by decide +kernel)
  refine hs_lvs (lv' := [(0, .ref y0), (1, hs_V 0)]) [0, 1] rfl ?_
  refine hs_iload_n C dX7_keep_0 rfl 1 rfl ?_
  refine hs_callSi (win := []) (wr := [hs_ob y0 7 [.ref y1, .ref y2, hs_V pm, .ref y3, hs_V 3, .ref y4, .ref y5, .ref y6, .ref y7, hs_V pt, .ref y8, .ref y9], hs_ia cI y1 41 h, hs_ia cI y3 82 im]) (As := [hs_V 0]) (rest := []) C (c_X7_isImage l D cI cO 0 (by omega)) (va_cwS 1 C.1.2.2.2.2 gX7_keep_X7_isImage rfl rfl rfl (by decide +kernel) ⟨Nat.le_of_ble_eq_true rfl, Nat.le_of_ble_eq_true rfl⟩) rfl rfl (Nat.le_of_ble_eq_true rfl) dX7_keep_1 ⟨Nat.le_of_ble_eq_true rfl, Nat.le_of_ble_eq_true rfl⟩ (fun rr uu1 hp => ?_)
  obtain rfl := hp
  refine hs_re0 (w' := [hs_ob y0 7 [.ref y1, .ref y2, hs_V pm, .ref y3, hs_V 3, .ref y4, .ref y5, .ref y6, .ref y7, hs_V pt, .ref y8, .ref y9], hs_ia cI y1 41 h, hs_ia cI y3 82 im]) [0, 1, 2] rfl (by decide) ?_
  refine hs_ifne_b (tgt := 9) C dX7_keep_4 (by decide) (fun c2 => ?_) (fun c2 => ?_)
  ·
    refine hs_iconst C dX7_keep_9 ?_
    refine hs_istore_n (lv' := [(0, .ref y0), (1, hs_V 0), (2, hs_V 0)]) C dX7_keep_10 rfl (by decide) [1, 2, 0] rfl ?_
    have Lp3 : ∀ (k : Nat) (q : Int) (x : Int → Int), (0 ≤ q ∧ q ≤ 41) → (hs_up (fun k x => hs_u x (41 * 0 + k) (h k)) q 41 x = mo_cpy h 0 im) → (41 - q < (k : Int)) → hs_J p l e ({ frames := 2, cells := 0, slots := 0, locals := 42 } : Room) s m args below meth c D A H0 3 0 0 Q 11 [(0, .ref y0), (1, hs_V 0), (2, hs_V q)] [] [hs_ob y0 7 [.ref y1, .ref y2, hs_V pm, .ref y3, hs_V 3, .ref y4, .ref y5, .ref y6, .ref y7, hs_V pt, .ref y8, .ref y9], hs_ia cI y1 41 h, hs_ia cI y3 82 x] := by
      intro k
      induction k with
      | zero =>
        intro q x hq hL hk
        exact absurd hk (by omega)
      | succ k ih =>
        intro q x hq hL hk
        have ih4 := ih
        refine hs_iload_n C dX7_keep_11 rfl 2 rfl ?_
        refine hs_bipush C dX7_keep_12 (by decide) ?_
        refine hs_icmp_ge (tgt := 40) C dX7_keep_14 (by decide) (by omega) (by omega) (fun c5 => ?_) (fun c5 => ?_)
        ·
          refine hs_aload_n C dX7_keep_40 rfl 0 rfl ?_
          refine hs_dup C dX7_keep_41 rfl ?_
          refine hs_get C u7 0 rfl rfl 4 (by decide) f162 rfl rfl dX7_keep_42 ?_
          refine hs_iconst C dX7_keep_45 ?_
          refine hs_iload_n C dX7_keep_46 rfl 1 rfl ?_
          refine hs_ishl (z := 1) C (by decide) dX7_keep_47 ?_
          refine hs_ior (z := 3) C (by decide) dX7_keep_48 ?_
          refine hs_put (ty := .int) (ws' := [hs_ob y0 7 [.ref y1, .ref y2, hs_V pm, .ref y3, hs_V 3, .ref y4, .ref y5, .ref y6, .ref y7, hs_V pt, .ref y8, .ref y9], hs_ia cI y1 41 h, hs_ia cI y3 82 x]) C u7 tyX7 tyX7_ok nmX7 0 rfl rfl 4 (by decide) f162 rfl rfl (by decide +kernel) rfl rfl (Nat.le_of_ble_eq_true rfl) rfl dX7_keep_49 ?_
          refine hs_aload_n C dX7_keep_52 rfl 0 rfl ?_
          refine hs_callVi (win := [hs_ob y0 7 [.ref y1, .ref y2, hs_V pm, .ref y3, hs_V 3, .ref y4, .ref y5, .ref y6, .ref y7, hs_V pt, .ref y8, .ref y9], hs_ia cI y1 41 h]) (wr := [hs_ia cI y3 82 x]) (As := []) (rest := []) C (c_X7_many l D cI cO y0 y1 y2 y3 y4 y5 y6 y7 y8 y9 pm 3 pt h ) 7 0 rfl rfl rfl (cwV 0 C.1.2.2.2.2 gX7_keep_X7_many rfl rfl rfl (by decide +kernel) ⟨Nat.le_of_ble_eq_true rfl, Nat.le_of_ble_eq_true rfl⟩) rfl rfl (Nat.le_of_ble_eq_true rfl) dX7_keep_53 ⟨Nat.le_of_ble_eq_true rfl, Nat.le_of_ble_eq_true rfl⟩ (fun rr uu6 hp => ?_)
          obtain rfl := hp
          refine hs_re0 (w' := [hs_ob y0 7 [.ref y1, .ref y2, hs_V pm, .ref y3, hs_V 3, .ref y4, .ref y5, .ref y6, .ref y7, hs_V pt, .ref y8, .ref y9], hs_ia cI y1 41 h, hs_ia cI y3 82 x]) [0, 1, 2] rfl (by decide) ?_
          refine hs_cast (ws' := [hs_ob y0 7 [.ref y1, .ref y2, hs_V pm, .ref y3, hs_V (mo_fl 0 3), .ref y4, .ref y5, .ref y6, .ref y7, hs_V pt, .ref y8, .ref y9], hs_ia cI y1 41 h, hs_ia cI y3 82 (mo_cpy h 0 im)]) ?_ rfl rfl rfl (by rw [← hL, hs_up_done (by omega)] <;> rfl)
          exact hret _ _ _ () (by first | rfl | (rw [if_pos (by omega)]) | (rw [if_neg (by omega)])) dX7_keep_56 rfl
        ·
          refine hs_aload_n C dX7_keep_17 rfl 0 rfl ?_
          refine hs_get C u7 0 rfl rfl 3 (by decide) f16 rfl rfl dX7_keep_18 ?_
          refine hs_bipush C dX7_keep_21 (by decide) ?_
          refine hs_iload_n C dX7_keep_23 rfl 1 rfl ?_
          refine hs_imul C dX7_keep_24 ?_
          refine hs_iload_n C dX7_keep_25 rfl 2 rfl ?_
          refine hs_iadd C dX7_keep_26 ?_
          refine hs_aload_n C dX7_keep_27 rfl 0 rfl ?_
          refine hs_get C u7 0 rfl rfl 0 (by decide) f7 rfl rfl dX7_keep_28 ?_
          refine hs_iload_n C dX7_keep_31 rfl 2 rfl ?_
          refine hs_iald C 1 rfl (by omega) dX7_keep_32 ?_
          have b7 := hh q
          refine hs_iast (ws' := [hs_ob y0 7 [.ref y1, .ref y2, hs_V pm, .ref y3, hs_V 3, .ref y4, .ref y5, .ref y6, .ref y7, hs_V pt, .ref y8, .ref y9], hs_ia cI y1 41 h, hs_ia cI y3 82 (hs_u x ((41 * 0) + q) (h q))]) C 2 rfl (by omega) rfl dX7_keep_33 ?_
          refine hs_iinc (lv' := [(0, .ref y0), (1, hs_V 0), (2, hs_V (q + 1))]) C dX7_keep_34 2 rfl (by decide) [1, 2, 0] rfl ?_
          refine hs_goto (tgt := 11) C dX7_keep_37 (by decide) ?_
          exact ih4 (q + 1) (hs_u x ((41 * 0) + q) (h q)) (by omega) (by have hz := (hs_up_step (by omega)).symm.trans hL; (try dsimp only at hz); first | exact hz | (split at hz <;> first | exact hz | (exfalso; omega) | (split at hz <;> first | exact hz | (exfalso; omega) | (split at hz <;> first | exact hz | (exfalso; omega))))) (by omega)
    exact Lp3 ((41 - 0 : Int).toNat + 1) 0 im (by omega) (rfl) (by omega)
  ·
    exact absurd trivial (by omega)

set_option maxHeartbeats 4000000 in
set_option maxRecDepth 100000 in
theorem c_X7_isKept_10 (l : Launch) (D : va_G) (cI cO : ClassId) (y0 : Nat) (y1 : Nat) (y2 : Nat) (y3 : Nat) (y4 : Nat) (y5 : Nat) (y6 : Nat) (y7 : Nat) (y8 : Nat) (y9 : Nat) (pm : Int) (pt : Int) : hs_M l D cI cO yX7_isKept wsX7_isKept ({ frames := 0, cells := 0, slots := 0, locals := 0 } : Room) [.ref y0, hs_V 1] [hs_ob y0 7 [.ref y1, .ref y2, hs_V pm, .ref y3, hs_V 0, .ref y4, .ref y5, .ref y6, .ref y7, hs_V pt, .ref y8, .ref y9]] (fun r (_ : Unit) => r = hs_I (if mo_kept 1 0 then 1 else 0)) (fun _ => [hs_ob y0 7 [.ref y1, .ref y2, hs_V pm, .ref y3, hs_V 0, .ref y4, .ref y5, .ref y6, .ref y7, hs_V pt, .ref y8, .ref y9]]) 0 0 := by
  refine hs_enter (cc := cX7_isKept) (maxL := 2) (by decide +kernel) rfl (Nat.le_of_ble_eq_true rfl) (fun p e s m args below meth c A H0 Q C hret => ?_)
  have f162 := C.1.2.2.2.2 (.fieldLink RX7 162 "HistogramStairsModel" "filled" "I") (by decide +kernel)
  have u7 : ∀ w ∈ wsX70, w ∈ wsX7_isKept := by decide +kernel
  refine hs_lvs (lv' := [(0, .ref y0), (1, hs_V 1)]) [0, 1] rfl ?_
  refine hs_aload_n C dX7_isKept_0 rfl 0 rfl ?_
  refine hs_get C u7 0 rfl rfl 4 (by decide) f162 rfl rfl dX7_isKept_1 ?_
  refine hs_iload_n C dX7_isKept_4 rfl 1 rfl ?_
  refine hs_ishr (z := 0) C (by decide) dX7_isKept_5 ?_
  refine hs_iconst C dX7_isKept_6 ?_
  refine hs_iand (z := 0) C (by decide) dX7_isKept_7 ?_
  refine hs_iconst C dX7_isKept_8 ?_
  refine hs_icmp_ne (tgt := 16) C dX7_isKept_9 (by decide) (by omega) (by omega) (fun c1 => ?_) (fun c1 => ?_)
  ·
    refine hs_iconst C dX7_isKept_16 ?_
    exact hret _ _ _ () (by first | rw [if_pos (show mo_kept 1 0 by unfold mo_kept; omega)] | rw [if_neg (show ¬ mo_kept 1 0 by unfold mo_kept; omega)]) dX7_isKept_17 rfl
  ·
    exact absurd c1 (by decide)

set_option maxHeartbeats 4000000 in
set_option maxRecDepth 100000 in
theorem c_X7_keep_10 (l : Launch) (D : va_G) (cI cO : ClassId) (y0 : Nat) (y1 : Nat) (y2 : Nat) (y3 : Nat) (y4 : Nat) (y5 : Nat) (y6 : Nat) (y7 : Nat) (y8 : Nat) (y9 : Nat) (pm : Int) (pt : Int) (h : Int → Int) (im : Int → Int) (hh : ∀ k, 0 ≤ h k ∧ h k ≤ 50) (hN : 0 ≤ h 40 ∧ h 40 ≤ 40) (him : ∀ k, 0 ≤ im k ∧ im k ≤ 50) : hs_M l D cI cO yX7_keep wsX7_keep ({ frames := 2, cells := 0, slots := 0, locals := 42 } : Room) [.ref y0, hs_V 1] [hs_ob y0 7 [.ref y1, .ref y2, hs_V pm, .ref y3, hs_V 0, .ref y4, .ref y5, .ref y6, .ref y7, hs_V pt, .ref y8, .ref y9], hs_ia cI y1 41 h, hs_ia cI y3 82 im] (fun r (_ : Unit) => r = hs_I (h 40)) (fun _ => [hs_ob y0 7 [.ref y1, .ref y2, hs_V pm, .ref y3, hs_V (mo_fl 1 0), .ref y4, .ref y5, .ref y6, .ref y7, hs_V pt, .ref y8, .ref y9], hs_ia cI y1 41 h, hs_ia cI y3 82 (mo_cpy h 1 im)]) 0 0 := by
  refine hs_enter (cc := cX7_keep) (maxL := 3) (by decide +kernel) rfl (Nat.le_of_ble_eq_true rfl) (fun p e s m args below meth c A H0 Q C hret => ?_)
  have f162 := C.1.2.2.2.2 (.fieldLink RX7 162 "HistogramStairsModel" "filled" "I") (by decide +kernel)
  have u7 : ∀ w ∈ wsX70, w ∈ wsX7_keep := by decide +kernel
  have f16 := C.1.2.2.2.2 (.fieldLink RX7 16 "HistogramStairsModel" "images" "[I") (by decide +kernel)
  have f7 := C.1.2.2.2.2 (.fieldLink RX7 7 "HistogramStairsModel" "h" "[I") (by decide +kernel)
  refine hs_lvs (lv' := [(0, .ref y0), (1, hs_V 1)]) [0, 1] rfl ?_
  refine hs_iload_n C dX7_keep_0 rfl 1 rfl ?_
  refine hs_callSi (win := []) (wr := [hs_ob y0 7 [.ref y1, .ref y2, hs_V pm, .ref y3, hs_V 0, .ref y4, .ref y5, .ref y6, .ref y7, hs_V pt, .ref y8, .ref y9], hs_ia cI y1 41 h, hs_ia cI y3 82 im]) (As := [hs_V 1]) (rest := []) C (c_X7_isImage l D cI cO 1 (by omega)) (va_cwS 1 C.1.2.2.2.2 gX7_keep_X7_isImage rfl rfl rfl (by decide +kernel) ⟨Nat.le_of_ble_eq_true rfl, Nat.le_of_ble_eq_true rfl⟩) rfl rfl (Nat.le_of_ble_eq_true rfl) dX7_keep_1 ⟨Nat.le_of_ble_eq_true rfl, Nat.le_of_ble_eq_true rfl⟩ (fun rr uu1 hp => ?_)
  obtain rfl := hp
  refine hs_re0 (w' := [hs_ob y0 7 [.ref y1, .ref y2, hs_V pm, .ref y3, hs_V 0, .ref y4, .ref y5, .ref y6, .ref y7, hs_V pt, .ref y8, .ref y9], hs_ia cI y1 41 h, hs_ia cI y3 82 im]) [0, 1, 2] rfl (by decide) ?_
  refine hs_ifne_b (tgt := 9) C dX7_keep_4 (by decide) (fun c2 => ?_) (fun c2 => ?_)
  ·
    refine hs_iconst C dX7_keep_9 ?_
    refine hs_istore_n (lv' := [(0, .ref y0), (1, hs_V 1), (2, hs_V 0)]) C dX7_keep_10 rfl (by decide) [1, 2, 0] rfl ?_
    have Lp3 : ∀ (k : Nat) (q : Int) (x : Int → Int), (0 ≤ q ∧ q ≤ 41) → (hs_up (fun k x => hs_u x (41 * 1 + k) (h k)) q 41 x = mo_cpy h 1 im) → (41 - q < (k : Int)) → hs_J p l e ({ frames := 2, cells := 0, slots := 0, locals := 42 } : Room) s m args below meth c D A H0 3 0 0 Q 11 [(0, .ref y0), (1, hs_V 1), (2, hs_V q)] [] [hs_ob y0 7 [.ref y1, .ref y2, hs_V pm, .ref y3, hs_V 0, .ref y4, .ref y5, .ref y6, .ref y7, hs_V pt, .ref y8, .ref y9], hs_ia cI y1 41 h, hs_ia cI y3 82 x] := by
      intro k
      induction k with
      | zero =>
        intro q x hq hL hk
        exact absurd hk (by omega)
      | succ k ih =>
        intro q x hq hL hk
        have ih4 := ih
        refine hs_iload_n C dX7_keep_11 rfl 2 rfl ?_
        refine hs_bipush C dX7_keep_12 (by decide) ?_
        refine hs_icmp_ge (tgt := 40) C dX7_keep_14 (by decide) (by omega) (by omega) (fun c5 => ?_) (fun c5 => ?_)
        ·
          refine hs_aload_n C dX7_keep_40 rfl 0 rfl ?_
          refine hs_dup C dX7_keep_41 rfl ?_
          refine hs_get C u7 0 rfl rfl 4 (by decide) f162 rfl rfl dX7_keep_42 ?_
          refine hs_iconst C dX7_keep_45 ?_
          refine hs_iload_n C dX7_keep_46 rfl 1 rfl ?_
          refine hs_ishl (z := 2) C (by decide) dX7_keep_47 ?_
          refine hs_ior (z := 2) C (by decide) dX7_keep_48 ?_
          refine hs_put (ty := .int) (ws' := [hs_ob y0 7 [.ref y1, .ref y2, hs_V pm, .ref y3, hs_V 2, .ref y4, .ref y5, .ref y6, .ref y7, hs_V pt, .ref y8, .ref y9], hs_ia cI y1 41 h, hs_ia cI y3 82 x]) C u7 tyX7 tyX7_ok nmX7 0 rfl rfl 4 (by decide) f162 rfl rfl (by decide +kernel) rfl rfl (Nat.le_of_ble_eq_true rfl) rfl dX7_keep_49 ?_
          refine hs_aload_n C dX7_keep_52 rfl 0 rfl ?_
          refine hs_callVi (win := [hs_ob y0 7 [.ref y1, .ref y2, hs_V pm, .ref y3, hs_V 2, .ref y4, .ref y5, .ref y6, .ref y7, hs_V pt, .ref y8, .ref y9], hs_ia cI y1 41 h]) (wr := [hs_ia cI y3 82 x]) (As := []) (rest := []) C (c_X7_many l D cI cO y0 y1 y2 y3 y4 y5 y6 y7 y8 y9 pm 2 pt h ) 7 0 rfl rfl rfl (cwV 0 C.1.2.2.2.2 gX7_keep_X7_many rfl rfl rfl (by decide +kernel) ⟨Nat.le_of_ble_eq_true rfl, Nat.le_of_ble_eq_true rfl⟩) rfl rfl (Nat.le_of_ble_eq_true rfl) dX7_keep_53 ⟨Nat.le_of_ble_eq_true rfl, Nat.le_of_ble_eq_true rfl⟩ (fun rr uu6 hp => ?_)
          obtain rfl := hp
          refine hs_re0 (w' := [hs_ob y0 7 [.ref y1, .ref y2, hs_V pm, .ref y3, hs_V 2, .ref y4, .ref y5, .ref y6, .ref y7, hs_V pt, .ref y8, .ref y9], hs_ia cI y1 41 h, hs_ia cI y3 82 x]) [0, 1, 2] rfl (by decide) ?_
          refine hs_cast (ws' := [hs_ob y0 7 [.ref y1, .ref y2, hs_V pm, .ref y3, hs_V (mo_fl 1 0), .ref y4, .ref y5, .ref y6, .ref y7, hs_V pt, .ref y8, .ref y9], hs_ia cI y1 41 h, hs_ia cI y3 82 (mo_cpy h 1 im)]) ?_ rfl rfl rfl (by rw [← hL, hs_up_done (by omega)] <;> rfl)
          exact hret _ _ _ () (by first | rfl | (rw [if_pos (by omega)]) | (rw [if_neg (by omega)])) dX7_keep_56 rfl
        ·
          refine hs_aload_n C dX7_keep_17 rfl 0 rfl ?_
          refine hs_get C u7 0 rfl rfl 3 (by decide) f16 rfl rfl dX7_keep_18 ?_
          refine hs_bipush C dX7_keep_21 (by decide) ?_
          refine hs_iload_n C dX7_keep_23 rfl 1 rfl ?_
          refine hs_imul C dX7_keep_24 ?_
          refine hs_iload_n C dX7_keep_25 rfl 2 rfl ?_
          refine hs_iadd C dX7_keep_26 ?_
          refine hs_aload_n C dX7_keep_27 rfl 0 rfl ?_
          refine hs_get C u7 0 rfl rfl 0 (by decide) f7 rfl rfl dX7_keep_28 ?_
          refine hs_iload_n C dX7_keep_31 rfl 2 rfl ?_
          refine hs_iald C 1 rfl (by omega) dX7_keep_32 ?_
          have b7 := hh q
          refine hs_iast (ws' := [hs_ob y0 7 [.ref y1, .ref y2, hs_V pm, .ref y3, hs_V 0, .ref y4, .ref y5, .ref y6, .ref y7, hs_V pt, .ref y8, .ref y9], hs_ia cI y1 41 h, hs_ia cI y3 82 (hs_u x ((41 * 1) + q) (h q))]) C 2 rfl (by omega) rfl dX7_keep_33 ?_
          refine hs_iinc (lv' := [(0, .ref y0), (1, hs_V 1), (2, hs_V (q + 1))]) C dX7_keep_34 2 rfl (by decide) [1, 2, 0] rfl ?_
          refine hs_goto (tgt := 11) C dX7_keep_37 (by decide) ?_
          exact ih4 (q + 1) (hs_u x ((41 * 1) + q) (h q)) (by omega) (by have hz := (hs_up_step (by omega)).symm.trans hL; (try dsimp only at hz); first | exact hz | (split at hz <;> first | exact hz | (exfalso; omega) | (split at hz <;> first | exact hz | (exfalso; omega) | (split at hz <;> first | exact hz | (exfalso; omega))))) (by omega)
    exact Lp3 ((41 - 0 : Int).toNat + 1) 0 im (by omega) (rfl) (by omega)
  ·
    exact absurd trivial (by omega)

set_option maxHeartbeats 4000000 in
set_option maxRecDepth 100000 in
theorem c_X7_isKept_11 (l : Launch) (D : va_G) (cI cO : ClassId) (y0 : Nat) (y1 : Nat) (y2 : Nat) (y3 : Nat) (y4 : Nat) (y5 : Nat) (y6 : Nat) (y7 : Nat) (y8 : Nat) (y9 : Nat) (pm : Int) (pt : Int) : hs_M l D cI cO yX7_isKept wsX7_isKept ({ frames := 0, cells := 0, slots := 0, locals := 0 } : Room) [.ref y0, hs_V 1] [hs_ob y0 7 [.ref y1, .ref y2, hs_V pm, .ref y3, hs_V 1, .ref y4, .ref y5, .ref y6, .ref y7, hs_V pt, .ref y8, .ref y9]] (fun r (_ : Unit) => r = hs_I (if mo_kept 1 1 then 1 else 0)) (fun _ => [hs_ob y0 7 [.ref y1, .ref y2, hs_V pm, .ref y3, hs_V 1, .ref y4, .ref y5, .ref y6, .ref y7, hs_V pt, .ref y8, .ref y9]]) 0 0 := by
  refine hs_enter (cc := cX7_isKept) (maxL := 2) (by decide +kernel) rfl (Nat.le_of_ble_eq_true rfl) (fun p e s m args below meth c A H0 Q C hret => ?_)
  have f162 := C.1.2.2.2.2 (.fieldLink RX7 162 "HistogramStairsModel" "filled" "I") (by decide +kernel)
  have u7 : ∀ w ∈ wsX70, w ∈ wsX7_isKept := by decide +kernel
  refine hs_lvs (lv' := [(0, .ref y0), (1, hs_V 1)]) [0, 1] rfl ?_
  refine hs_aload_n C dX7_isKept_0 rfl 0 rfl ?_
  refine hs_get C u7 0 rfl rfl 4 (by decide) f162 rfl rfl dX7_isKept_1 ?_
  refine hs_iload_n C dX7_isKept_4 rfl 1 rfl ?_
  refine hs_ishr (z := 0) C (by decide) dX7_isKept_5 ?_
  refine hs_iconst C dX7_isKept_6 ?_
  refine hs_iand (z := 0) C (by decide) dX7_isKept_7 ?_
  refine hs_iconst C dX7_isKept_8 ?_
  refine hs_icmp_ne (tgt := 16) C dX7_isKept_9 (by decide) (by omega) (by omega) (fun c1 => ?_) (fun c1 => ?_)
  ·
    refine hs_iconst C dX7_isKept_16 ?_
    exact hret _ _ _ () (by first | rw [if_pos (show mo_kept 1 1 by unfold mo_kept; omega)] | rw [if_neg (show ¬ mo_kept 1 1 by unfold mo_kept; omega)]) dX7_isKept_17 rfl
  ·
    exact absurd c1 (by decide)

set_option maxHeartbeats 4000000 in
set_option maxRecDepth 100000 in
theorem c_X7_keep_11 (l : Launch) (D : va_G) (cI cO : ClassId) (y0 : Nat) (y1 : Nat) (y2 : Nat) (y3 : Nat) (y4 : Nat) (y5 : Nat) (y6 : Nat) (y7 : Nat) (y8 : Nat) (y9 : Nat) (pm : Int) (pt : Int) (h : Int → Int) (im : Int → Int) (hh : ∀ k, 0 ≤ h k ∧ h k ≤ 50) (hN : 0 ≤ h 40 ∧ h 40 ≤ 40) (him : ∀ k, 0 ≤ im k ∧ im k ≤ 50) : hs_M l D cI cO yX7_keep wsX7_keep ({ frames := 2, cells := 0, slots := 0, locals := 42 } : Room) [.ref y0, hs_V 1] [hs_ob y0 7 [.ref y1, .ref y2, hs_V pm, .ref y3, hs_V 1, .ref y4, .ref y5, .ref y6, .ref y7, hs_V pt, .ref y8, .ref y9], hs_ia cI y1 41 h, hs_ia cI y3 82 im] (fun r (_ : Unit) => r = hs_I (h 40)) (fun _ => [hs_ob y0 7 [.ref y1, .ref y2, hs_V pm, .ref y3, hs_V (mo_fl 1 1), .ref y4, .ref y5, .ref y6, .ref y7, hs_V pt, .ref y8, .ref y9], hs_ia cI y1 41 h, hs_ia cI y3 82 (mo_cpy h 1 im)]) 0 0 := by
  refine hs_enter (cc := cX7_keep) (maxL := 3) (by decide +kernel) rfl (Nat.le_of_ble_eq_true rfl) (fun p e s m args below meth c A H0 Q C hret => ?_)
  have f162 := C.1.2.2.2.2 (.fieldLink RX7 162 "HistogramStairsModel" "filled" "I") (by decide +kernel)
  have u7 : ∀ w ∈ wsX70, w ∈ wsX7_keep := by decide +kernel
  have f16 := C.1.2.2.2.2 (.fieldLink RX7 16 "HistogramStairsModel" "images" "[I") (by decide +kernel)
  have f7 := C.1.2.2.2.2 (.fieldLink RX7 7 "HistogramStairsModel" "h" "[I") (by decide +kernel)
  refine hs_lvs (lv' := [(0, .ref y0), (1, hs_V 1)]) [0, 1] rfl ?_
  refine hs_iload_n C dX7_keep_0 rfl 1 rfl ?_
  refine hs_callSi (win := []) (wr := [hs_ob y0 7 [.ref y1, .ref y2, hs_V pm, .ref y3, hs_V 1, .ref y4, .ref y5, .ref y6, .ref y7, hs_V pt, .ref y8, .ref y9], hs_ia cI y1 41 h, hs_ia cI y3 82 im]) (As := [hs_V 1]) (rest := []) C (c_X7_isImage l D cI cO 1 (by omega)) (va_cwS 1 C.1.2.2.2.2 gX7_keep_X7_isImage rfl rfl rfl (by decide +kernel) ⟨Nat.le_of_ble_eq_true rfl, Nat.le_of_ble_eq_true rfl⟩) rfl rfl (Nat.le_of_ble_eq_true rfl) dX7_keep_1 ⟨Nat.le_of_ble_eq_true rfl, Nat.le_of_ble_eq_true rfl⟩ (fun rr uu1 hp => ?_)
  obtain rfl := hp
  refine hs_re0 (w' := [hs_ob y0 7 [.ref y1, .ref y2, hs_V pm, .ref y3, hs_V 1, .ref y4, .ref y5, .ref y6, .ref y7, hs_V pt, .ref y8, .ref y9], hs_ia cI y1 41 h, hs_ia cI y3 82 im]) [0, 1, 2] rfl (by decide) ?_
  refine hs_ifne_b (tgt := 9) C dX7_keep_4 (by decide) (fun c2 => ?_) (fun c2 => ?_)
  ·
    refine hs_iconst C dX7_keep_9 ?_
    refine hs_istore_n (lv' := [(0, .ref y0), (1, hs_V 1), (2, hs_V 0)]) C dX7_keep_10 rfl (by decide) [1, 2, 0] rfl ?_
    have Lp3 : ∀ (k : Nat) (q : Int) (x : Int → Int), (0 ≤ q ∧ q ≤ 41) → (hs_up (fun k x => hs_u x (41 * 1 + k) (h k)) q 41 x = mo_cpy h 1 im) → (41 - q < (k : Int)) → hs_J p l e ({ frames := 2, cells := 0, slots := 0, locals := 42 } : Room) s m args below meth c D A H0 3 0 0 Q 11 [(0, .ref y0), (1, hs_V 1), (2, hs_V q)] [] [hs_ob y0 7 [.ref y1, .ref y2, hs_V pm, .ref y3, hs_V 1, .ref y4, .ref y5, .ref y6, .ref y7, hs_V pt, .ref y8, .ref y9], hs_ia cI y1 41 h, hs_ia cI y3 82 x] := by
      intro k
      induction k with
      | zero =>
        intro q x hq hL hk
        exact absurd hk (by omega)
      | succ k ih =>
        intro q x hq hL hk
        have ih4 := ih
        refine hs_iload_n C dX7_keep_11 rfl 2 rfl ?_
        refine hs_bipush C dX7_keep_12 (by decide) ?_
        refine hs_icmp_ge (tgt := 40) C dX7_keep_14 (by decide) (by omega) (by omega) (fun c5 => ?_) (fun c5 => ?_)
        ·
          refine hs_aload_n C dX7_keep_40 rfl 0 rfl ?_
          refine hs_dup C dX7_keep_41 rfl ?_
          refine hs_get C u7 0 rfl rfl 4 (by decide) f162 rfl rfl dX7_keep_42 ?_
          refine hs_iconst C dX7_keep_45 ?_
          refine hs_iload_n C dX7_keep_46 rfl 1 rfl ?_
          refine hs_ishl (z := 2) C (by decide) dX7_keep_47 ?_
          refine hs_ior (z := 3) C (by decide) dX7_keep_48 ?_
          refine hs_put (ty := .int) (ws' := [hs_ob y0 7 [.ref y1, .ref y2, hs_V pm, .ref y3, hs_V 3, .ref y4, .ref y5, .ref y6, .ref y7, hs_V pt, .ref y8, .ref y9], hs_ia cI y1 41 h, hs_ia cI y3 82 x]) C u7 tyX7 tyX7_ok nmX7 0 rfl rfl 4 (by decide) f162 rfl rfl (by decide +kernel) rfl rfl (Nat.le_of_ble_eq_true rfl) rfl dX7_keep_49 ?_
          refine hs_aload_n C dX7_keep_52 rfl 0 rfl ?_
          refine hs_callVi (win := [hs_ob y0 7 [.ref y1, .ref y2, hs_V pm, .ref y3, hs_V 3, .ref y4, .ref y5, .ref y6, .ref y7, hs_V pt, .ref y8, .ref y9], hs_ia cI y1 41 h]) (wr := [hs_ia cI y3 82 x]) (As := []) (rest := []) C (c_X7_many l D cI cO y0 y1 y2 y3 y4 y5 y6 y7 y8 y9 pm 3 pt h ) 7 0 rfl rfl rfl (cwV 0 C.1.2.2.2.2 gX7_keep_X7_many rfl rfl rfl (by decide +kernel) ⟨Nat.le_of_ble_eq_true rfl, Nat.le_of_ble_eq_true rfl⟩) rfl rfl (Nat.le_of_ble_eq_true rfl) dX7_keep_53 ⟨Nat.le_of_ble_eq_true rfl, Nat.le_of_ble_eq_true rfl⟩ (fun rr uu6 hp => ?_)
          obtain rfl := hp
          refine hs_re0 (w' := [hs_ob y0 7 [.ref y1, .ref y2, hs_V pm, .ref y3, hs_V 3, .ref y4, .ref y5, .ref y6, .ref y7, hs_V pt, .ref y8, .ref y9], hs_ia cI y1 41 h, hs_ia cI y3 82 x]) [0, 1, 2] rfl (by decide) ?_
          refine hs_cast (ws' := [hs_ob y0 7 [.ref y1, .ref y2, hs_V pm, .ref y3, hs_V (mo_fl 1 1), .ref y4, .ref y5, .ref y6, .ref y7, hs_V pt, .ref y8, .ref y9], hs_ia cI y1 41 h, hs_ia cI y3 82 (mo_cpy h 1 im)]) ?_ rfl rfl rfl (by rw [← hL, hs_up_done (by omega)] <;> rfl)
          exact hret _ _ _ () (by first | rfl | (rw [if_pos (by omega)]) | (rw [if_neg (by omega)])) dX7_keep_56 rfl
        ·
          refine hs_aload_n C dX7_keep_17 rfl 0 rfl ?_
          refine hs_get C u7 0 rfl rfl 3 (by decide) f16 rfl rfl dX7_keep_18 ?_
          refine hs_bipush C dX7_keep_21 (by decide) ?_
          refine hs_iload_n C dX7_keep_23 rfl 1 rfl ?_
          refine hs_imul C dX7_keep_24 ?_
          refine hs_iload_n C dX7_keep_25 rfl 2 rfl ?_
          refine hs_iadd C dX7_keep_26 ?_
          refine hs_aload_n C dX7_keep_27 rfl 0 rfl ?_
          refine hs_get C u7 0 rfl rfl 0 (by decide) f7 rfl rfl dX7_keep_28 ?_
          refine hs_iload_n C dX7_keep_31 rfl 2 rfl ?_
          refine hs_iald C 1 rfl (by omega) dX7_keep_32 ?_
          have b7 := hh q
          refine hs_iast (ws' := [hs_ob y0 7 [.ref y1, .ref y2, hs_V pm, .ref y3, hs_V 1, .ref y4, .ref y5, .ref y6, .ref y7, hs_V pt, .ref y8, .ref y9], hs_ia cI y1 41 h, hs_ia cI y3 82 (hs_u x ((41 * 1) + q) (h q))]) C 2 rfl (by omega) rfl dX7_keep_33 ?_
          refine hs_iinc (lv' := [(0, .ref y0), (1, hs_V 1), (2, hs_V (q + 1))]) C dX7_keep_34 2 rfl (by decide) [1, 2, 0] rfl ?_
          refine hs_goto (tgt := 11) C dX7_keep_37 (by decide) ?_
          exact ih4 (q + 1) (hs_u x ((41 * 1) + q) (h q)) (by omega) (by have hz := (hs_up_step (by omega)).symm.trans hL; (try dsimp only at hz); first | exact hz | (split at hz <;> first | exact hz | (exfalso; omega) | (split at hz <;> first | exact hz | (exfalso; omega) | (split at hz <;> first | exact hz | (exfalso; omega))))) (by omega)
    exact Lp3 ((41 - 0 : Int).toNat + 1) 0 im (by omega) (rfl) (by omega)
  ·
    exact absurd trivial (by omega)

set_option maxHeartbeats 4000000 in
set_option maxRecDepth 100000 in
theorem c_X7_isKept_12 (l : Launch) (D : va_G) (cI cO : ClassId) (y0 : Nat) (y1 : Nat) (y2 : Nat) (y3 : Nat) (y4 : Nat) (y5 : Nat) (y6 : Nat) (y7 : Nat) (y8 : Nat) (y9 : Nat) (pm : Int) (pt : Int) : hs_M l D cI cO yX7_isKept wsX7_isKept ({ frames := 0, cells := 0, slots := 0, locals := 0 } : Room) [.ref y0, hs_V 1] [hs_ob y0 7 [.ref y1, .ref y2, hs_V pm, .ref y3, hs_V 2, .ref y4, .ref y5, .ref y6, .ref y7, hs_V pt, .ref y8, .ref y9]] (fun r (_ : Unit) => r = hs_I (if mo_kept 1 2 then 1 else 0)) (fun _ => [hs_ob y0 7 [.ref y1, .ref y2, hs_V pm, .ref y3, hs_V 2, .ref y4, .ref y5, .ref y6, .ref y7, hs_V pt, .ref y8, .ref y9]]) 0 0 := by
  refine hs_enter (cc := cX7_isKept) (maxL := 2) (by decide +kernel) rfl (Nat.le_of_ble_eq_true rfl) (fun p e s m args below meth c A H0 Q C hret => ?_)
  have f162 := C.1.2.2.2.2 (.fieldLink RX7 162 "HistogramStairsModel" "filled" "I") (by decide +kernel)
  have u7 : ∀ w ∈ wsX70, w ∈ wsX7_isKept := by decide +kernel
  refine hs_lvs (lv' := [(0, .ref y0), (1, hs_V 1)]) [0, 1] rfl ?_
  refine hs_aload_n C dX7_isKept_0 rfl 0 rfl ?_
  refine hs_get C u7 0 rfl rfl 4 (by decide) f162 rfl rfl dX7_isKept_1 ?_
  refine hs_iload_n C dX7_isKept_4 rfl 1 rfl ?_
  refine hs_ishr (z := 1) C (by decide) dX7_isKept_5 ?_
  refine hs_iconst C dX7_isKept_6 ?_
  refine hs_iand (z := 1) C (by decide) dX7_isKept_7 ?_
  refine hs_iconst C dX7_isKept_8 ?_
  refine hs_icmp_ne (tgt := 16) C dX7_isKept_9 (by decide) (by omega) (by omega) (fun c1 => ?_) (fun c1 => ?_)
  ·
    exact absurd c1 (by decide)
  ·
    refine hs_iconst C dX7_isKept_12 ?_
    refine hs_goto (tgt := 17) C dX7_isKept_13 (by decide) ?_
    exact hret _ _ _ () (by first | rw [if_pos (show mo_kept 1 2 by unfold mo_kept; omega)] | rw [if_neg (show ¬ mo_kept 1 2 by unfold mo_kept; omega)]) dX7_isKept_17 rfl

set_option maxHeartbeats 4000000 in
set_option maxRecDepth 100000 in
theorem c_X7_keep_12 (l : Launch) (D : va_G) (cI cO : ClassId) (y0 : Nat) (y1 : Nat) (y2 : Nat) (y3 : Nat) (y4 : Nat) (y5 : Nat) (y6 : Nat) (y7 : Nat) (y8 : Nat) (y9 : Nat) (pm : Int) (pt : Int) (h : Int → Int) (im : Int → Int) (hh : ∀ k, 0 ≤ h k ∧ h k ≤ 50) (hN : 0 ≤ h 40 ∧ h 40 ≤ 40) (him : ∀ k, 0 ≤ im k ∧ im k ≤ 50) : hs_M l D cI cO yX7_keep wsX7_keep ({ frames := 2, cells := 0, slots := 0, locals := 42 } : Room) [.ref y0, hs_V 1] [hs_ob y0 7 [.ref y1, .ref y2, hs_V pm, .ref y3, hs_V 2, .ref y4, .ref y5, .ref y6, .ref y7, hs_V pt, .ref y8, .ref y9], hs_ia cI y1 41 h, hs_ia cI y3 82 im] (fun r (_ : Unit) => r = hs_I (h 40)) (fun _ => [hs_ob y0 7 [.ref y1, .ref y2, hs_V pm, .ref y3, hs_V (mo_fl 1 2), .ref y4, .ref y5, .ref y6, .ref y7, hs_V pt, .ref y8, .ref y9], hs_ia cI y1 41 h, hs_ia cI y3 82 (mo_cpy h 1 im)]) 0 0 := by
  refine hs_enter (cc := cX7_keep) (maxL := 3) (by decide +kernel) rfl (Nat.le_of_ble_eq_true rfl) (fun p e s m args below meth c A H0 Q C hret => ?_)
  have f162 := C.1.2.2.2.2 (.fieldLink RX7 162 "HistogramStairsModel" "filled" "I") (by decide +kernel)
  have u7 : ∀ w ∈ wsX70, w ∈ wsX7_keep := by decide +kernel
  have f16 := C.1.2.2.2.2 (.fieldLink RX7 16 "HistogramStairsModel" "images" "[I") (by decide +kernel)
  have f7 := C.1.2.2.2.2 (.fieldLink RX7 7 "HistogramStairsModel" "h" "[I") (by decide +kernel)
  refine hs_lvs (lv' := [(0, .ref y0), (1, hs_V 1)]) [0, 1] rfl ?_
  refine hs_iload_n C dX7_keep_0 rfl 1 rfl ?_
  refine hs_callSi (win := []) (wr := [hs_ob y0 7 [.ref y1, .ref y2, hs_V pm, .ref y3, hs_V 2, .ref y4, .ref y5, .ref y6, .ref y7, hs_V pt, .ref y8, .ref y9], hs_ia cI y1 41 h, hs_ia cI y3 82 im]) (As := [hs_V 1]) (rest := []) C (c_X7_isImage l D cI cO 1 (by omega)) (va_cwS 1 C.1.2.2.2.2 gX7_keep_X7_isImage rfl rfl rfl (by decide +kernel) ⟨Nat.le_of_ble_eq_true rfl, Nat.le_of_ble_eq_true rfl⟩) rfl rfl (Nat.le_of_ble_eq_true rfl) dX7_keep_1 ⟨Nat.le_of_ble_eq_true rfl, Nat.le_of_ble_eq_true rfl⟩ (fun rr uu1 hp => ?_)
  obtain rfl := hp
  refine hs_re0 (w' := [hs_ob y0 7 [.ref y1, .ref y2, hs_V pm, .ref y3, hs_V 2, .ref y4, .ref y5, .ref y6, .ref y7, hs_V pt, .ref y8, .ref y9], hs_ia cI y1 41 h, hs_ia cI y3 82 im]) [0, 1, 2] rfl (by decide) ?_
  refine hs_ifne_b (tgt := 9) C dX7_keep_4 (by decide) (fun c2 => ?_) (fun c2 => ?_)
  ·
    refine hs_iconst C dX7_keep_9 ?_
    refine hs_istore_n (lv' := [(0, .ref y0), (1, hs_V 1), (2, hs_V 0)]) C dX7_keep_10 rfl (by decide) [1, 2, 0] rfl ?_
    have Lp3 : ∀ (k : Nat) (q : Int) (x : Int → Int), (0 ≤ q ∧ q ≤ 41) → (hs_up (fun k x => hs_u x (41 * 1 + k) (h k)) q 41 x = mo_cpy h 1 im) → (41 - q < (k : Int)) → hs_J p l e ({ frames := 2, cells := 0, slots := 0, locals := 42 } : Room) s m args below meth c D A H0 3 0 0 Q 11 [(0, .ref y0), (1, hs_V 1), (2, hs_V q)] [] [hs_ob y0 7 [.ref y1, .ref y2, hs_V pm, .ref y3, hs_V 2, .ref y4, .ref y5, .ref y6, .ref y7, hs_V pt, .ref y8, .ref y9], hs_ia cI y1 41 h, hs_ia cI y3 82 x] := by
      intro k
      induction k with
      | zero =>
        intro q x hq hL hk
        exact absurd hk (by omega)
      | succ k ih =>
        intro q x hq hL hk
        have ih4 := ih
        refine hs_iload_n C dX7_keep_11 rfl 2 rfl ?_
        refine hs_bipush C dX7_keep_12 (by decide) ?_
        refine hs_icmp_ge (tgt := 40) C dX7_keep_14 (by decide) (by omega) (by omega) (fun c5 => ?_) (fun c5 => ?_)
        ·
          refine hs_aload_n C dX7_keep_40 rfl 0 rfl ?_
          refine hs_dup C dX7_keep_41 rfl ?_
          refine hs_get C u7 0 rfl rfl 4 (by decide) f162 rfl rfl dX7_keep_42 ?_
          refine hs_iconst C dX7_keep_45 ?_
          refine hs_iload_n C dX7_keep_46 rfl 1 rfl ?_
          refine hs_ishl (z := 2) C (by decide) dX7_keep_47 ?_
          refine hs_ior (z := 2) C (by decide) dX7_keep_48 ?_
          refine hs_put (ty := .int) (ws' := [hs_ob y0 7 [.ref y1, .ref y2, hs_V pm, .ref y3, hs_V 2, .ref y4, .ref y5, .ref y6, .ref y7, hs_V pt, .ref y8, .ref y9], hs_ia cI y1 41 h, hs_ia cI y3 82 x]) C u7 tyX7 tyX7_ok nmX7 0 rfl rfl 4 (by decide) f162 rfl rfl (by decide +kernel) rfl rfl (Nat.le_of_ble_eq_true rfl) rfl dX7_keep_49 ?_
          refine hs_aload_n C dX7_keep_52 rfl 0 rfl ?_
          refine hs_callVi (win := [hs_ob y0 7 [.ref y1, .ref y2, hs_V pm, .ref y3, hs_V 2, .ref y4, .ref y5, .ref y6, .ref y7, hs_V pt, .ref y8, .ref y9], hs_ia cI y1 41 h]) (wr := [hs_ia cI y3 82 x]) (As := []) (rest := []) C (c_X7_many l D cI cO y0 y1 y2 y3 y4 y5 y6 y7 y8 y9 pm 2 pt h ) 7 0 rfl rfl rfl (cwV 0 C.1.2.2.2.2 gX7_keep_X7_many rfl rfl rfl (by decide +kernel) ⟨Nat.le_of_ble_eq_true rfl, Nat.le_of_ble_eq_true rfl⟩) rfl rfl (Nat.le_of_ble_eq_true rfl) dX7_keep_53 ⟨Nat.le_of_ble_eq_true rfl, Nat.le_of_ble_eq_true rfl⟩ (fun rr uu6 hp => ?_)
          obtain rfl := hp
          refine hs_re0 (w' := [hs_ob y0 7 [.ref y1, .ref y2, hs_V pm, .ref y3, hs_V 2, .ref y4, .ref y5, .ref y6, .ref y7, hs_V pt, .ref y8, .ref y9], hs_ia cI y1 41 h, hs_ia cI y3 82 x]) [0, 1, 2] rfl (by decide) ?_
          refine hs_cast (ws' := [hs_ob y0 7 [.ref y1, .ref y2, hs_V pm, .ref y3, hs_V (mo_fl 1 2), .ref y4, .ref y5, .ref y6, .ref y7, hs_V pt, .ref y8, .ref y9], hs_ia cI y1 41 h, hs_ia cI y3 82 (mo_cpy h 1 im)]) ?_ rfl rfl rfl (by rw [← hL, hs_up_done (by omega)] <;> rfl)
          exact hret _ _ _ () (by first | rfl | (rw [if_pos (by omega)]) | (rw [if_neg (by omega)])) dX7_keep_56 rfl
        ·
          refine hs_aload_n C dX7_keep_17 rfl 0 rfl ?_
          refine hs_get C u7 0 rfl rfl 3 (by decide) f16 rfl rfl dX7_keep_18 ?_
          refine hs_bipush C dX7_keep_21 (by decide) ?_
          refine hs_iload_n C dX7_keep_23 rfl 1 rfl ?_
          refine hs_imul C dX7_keep_24 ?_
          refine hs_iload_n C dX7_keep_25 rfl 2 rfl ?_
          refine hs_iadd C dX7_keep_26 ?_
          refine hs_aload_n C dX7_keep_27 rfl 0 rfl ?_
          refine hs_get C u7 0 rfl rfl 0 (by decide) f7 rfl rfl dX7_keep_28 ?_
          refine hs_iload_n C dX7_keep_31 rfl 2 rfl ?_
          refine hs_iald C 1 rfl (by omega) dX7_keep_32 ?_
          have b7 := hh q
          refine hs_iast (ws' := [hs_ob y0 7 [.ref y1, .ref y2, hs_V pm, .ref y3, hs_V 2, .ref y4, .ref y5, .ref y6, .ref y7, hs_V pt, .ref y8, .ref y9], hs_ia cI y1 41 h, hs_ia cI y3 82 (hs_u x ((41 * 1) + q) (h q))]) C 2 rfl (by omega) rfl dX7_keep_33 ?_
          refine hs_iinc (lv' := [(0, .ref y0), (1, hs_V 1), (2, hs_V (q + 1))]) C dX7_keep_34 2 rfl (by decide) [1, 2, 0] rfl ?_
          refine hs_goto (tgt := 11) C dX7_keep_37 (by decide) ?_
          exact ih4 (q + 1) (hs_u x ((41 * 1) + q) (h q)) (by omega) (by have hz := (hs_up_step (by omega)).symm.trans hL; (try dsimp only at hz); first | exact hz | (split at hz <;> first | exact hz | (exfalso; omega) | (split at hz <;> first | exact hz | (exfalso; omega) | (split at hz <;> first | exact hz | (exfalso; omega))))) (by omega)
    exact Lp3 ((41 - 0 : Int).toNat + 1) 0 im (by omega) (rfl) (by omega)
  ·
    exact absurd trivial (by omega)

set_option maxHeartbeats 4000000 in
set_option maxRecDepth 100000 in
theorem c_X7_isKept_13 (l : Launch) (D : va_G) (cI cO : ClassId) (y0 : Nat) (y1 : Nat) (y2 : Nat) (y3 : Nat) (y4 : Nat) (y5 : Nat) (y6 : Nat) (y7 : Nat) (y8 : Nat) (y9 : Nat) (pm : Int) (pt : Int) : hs_M l D cI cO yX7_isKept wsX7_isKept ({ frames := 0, cells := 0, slots := 0, locals := 0 } : Room) [.ref y0, hs_V 1] [hs_ob y0 7 [.ref y1, .ref y2, hs_V pm, .ref y3, hs_V 3, .ref y4, .ref y5, .ref y6, .ref y7, hs_V pt, .ref y8, .ref y9]] (fun r (_ : Unit) => r = hs_I (if mo_kept 1 3 then 1 else 0)) (fun _ => [hs_ob y0 7 [.ref y1, .ref y2, hs_V pm, .ref y3, hs_V 3, .ref y4, .ref y5, .ref y6, .ref y7, hs_V pt, .ref y8, .ref y9]]) 0 0 := by
  refine hs_enter (cc := cX7_isKept) (maxL := 2) (by decide +kernel) rfl (Nat.le_of_ble_eq_true rfl) (fun p e s m args below meth c A H0 Q C hret => ?_)
  have f162 := C.1.2.2.2.2 (.fieldLink RX7 162 "HistogramStairsModel" "filled" "I") (by decide +kernel)
  have u7 : ∀ w ∈ wsX70, w ∈ wsX7_isKept := by decide +kernel
  refine hs_lvs (lv' := [(0, .ref y0), (1, hs_V 1)]) [0, 1] rfl ?_
  refine hs_aload_n C dX7_isKept_0 rfl 0 rfl ?_
  refine hs_get C u7 0 rfl rfl 4 (by decide) f162 rfl rfl dX7_isKept_1 ?_
  refine hs_iload_n C dX7_isKept_4 rfl 1 rfl ?_
  refine hs_ishr (z := 1) C (by decide) dX7_isKept_5 ?_
  refine hs_iconst C dX7_isKept_6 ?_
  refine hs_iand (z := 1) C (by decide) dX7_isKept_7 ?_
  refine hs_iconst C dX7_isKept_8 ?_
  refine hs_icmp_ne (tgt := 16) C dX7_isKept_9 (by decide) (by omega) (by omega) (fun c1 => ?_) (fun c1 => ?_)
  ·
    exact absurd c1 (by decide)
  ·
    refine hs_iconst C dX7_isKept_12 ?_
    refine hs_goto (tgt := 17) C dX7_isKept_13 (by decide) ?_
    exact hret _ _ _ () (by first | rw [if_pos (show mo_kept 1 3 by unfold mo_kept; omega)] | rw [if_neg (show ¬ mo_kept 1 3 by unfold mo_kept; omega)]) dX7_isKept_17 rfl

set_option maxHeartbeats 4000000 in
set_option maxRecDepth 100000 in
theorem c_X7_keep_13 (l : Launch) (D : va_G) (cI cO : ClassId) (y0 : Nat) (y1 : Nat) (y2 : Nat) (y3 : Nat) (y4 : Nat) (y5 : Nat) (y6 : Nat) (y7 : Nat) (y8 : Nat) (y9 : Nat) (pm : Int) (pt : Int) (h : Int → Int) (im : Int → Int) (hh : ∀ k, 0 ≤ h k ∧ h k ≤ 50) (hN : 0 ≤ h 40 ∧ h 40 ≤ 40) (him : ∀ k, 0 ≤ im k ∧ im k ≤ 50) : hs_M l D cI cO yX7_keep wsX7_keep ({ frames := 2, cells := 0, slots := 0, locals := 42 } : Room) [.ref y0, hs_V 1] [hs_ob y0 7 [.ref y1, .ref y2, hs_V pm, .ref y3, hs_V 3, .ref y4, .ref y5, .ref y6, .ref y7, hs_V pt, .ref y8, .ref y9], hs_ia cI y1 41 h, hs_ia cI y3 82 im] (fun r (_ : Unit) => r = hs_I (h 40)) (fun _ => [hs_ob y0 7 [.ref y1, .ref y2, hs_V pm, .ref y3, hs_V (mo_fl 1 3), .ref y4, .ref y5, .ref y6, .ref y7, hs_V pt, .ref y8, .ref y9], hs_ia cI y1 41 h, hs_ia cI y3 82 (mo_cpy h 1 im)]) 0 0 := by
  refine hs_enter (cc := cX7_keep) (maxL := 3) (by decide +kernel) rfl (Nat.le_of_ble_eq_true rfl) (fun p e s m args below meth c A H0 Q C hret => ?_)
  have f162 := C.1.2.2.2.2 (.fieldLink RX7 162 "HistogramStairsModel" "filled" "I") (by decide +kernel)
  have u7 : ∀ w ∈ wsX70, w ∈ wsX7_keep := by decide +kernel
  have f16 := C.1.2.2.2.2 (.fieldLink RX7 16 "HistogramStairsModel" "images" "[I") (by decide +kernel)
  have f7 := C.1.2.2.2.2 (.fieldLink RX7 7 "HistogramStairsModel" "h" "[I") (by decide +kernel)
  refine hs_lvs (lv' := [(0, .ref y0), (1, hs_V 1)]) [0, 1] rfl ?_
  refine hs_iload_n C dX7_keep_0 rfl 1 rfl ?_
  refine hs_callSi (win := []) (wr := [hs_ob y0 7 [.ref y1, .ref y2, hs_V pm, .ref y3, hs_V 3, .ref y4, .ref y5, .ref y6, .ref y7, hs_V pt, .ref y8, .ref y9], hs_ia cI y1 41 h, hs_ia cI y3 82 im]) (As := [hs_V 1]) (rest := []) C (c_X7_isImage l D cI cO 1 (by omega)) (va_cwS 1 C.1.2.2.2.2 gX7_keep_X7_isImage rfl rfl rfl (by decide +kernel) ⟨Nat.le_of_ble_eq_true rfl, Nat.le_of_ble_eq_true rfl⟩) rfl rfl (Nat.le_of_ble_eq_true rfl) dX7_keep_1 ⟨Nat.le_of_ble_eq_true rfl, Nat.le_of_ble_eq_true rfl⟩ (fun rr uu1 hp => ?_)
  obtain rfl := hp
  refine hs_re0 (w' := [hs_ob y0 7 [.ref y1, .ref y2, hs_V pm, .ref y3, hs_V 3, .ref y4, .ref y5, .ref y6, .ref y7, hs_V pt, .ref y8, .ref y9], hs_ia cI y1 41 h, hs_ia cI y3 82 im]) [0, 1, 2] rfl (by decide) ?_
  refine hs_ifne_b (tgt := 9) C dX7_keep_4 (by decide) (fun c2 => ?_) (fun c2 => ?_)
  ·
    refine hs_iconst C dX7_keep_9 ?_
    refine hs_istore_n (lv' := [(0, .ref y0), (1, hs_V 1), (2, hs_V 0)]) C dX7_keep_10 rfl (by decide) [1, 2, 0] rfl ?_
    have Lp3 : ∀ (k : Nat) (q : Int) (x : Int → Int), (0 ≤ q ∧ q ≤ 41) → (hs_up (fun k x => hs_u x (41 * 1 + k) (h k)) q 41 x = mo_cpy h 1 im) → (41 - q < (k : Int)) → hs_J p l e ({ frames := 2, cells := 0, slots := 0, locals := 42 } : Room) s m args below meth c D A H0 3 0 0 Q 11 [(0, .ref y0), (1, hs_V 1), (2, hs_V q)] [] [hs_ob y0 7 [.ref y1, .ref y2, hs_V pm, .ref y3, hs_V 3, .ref y4, .ref y5, .ref y6, .ref y7, hs_V pt, .ref y8, .ref y9], hs_ia cI y1 41 h, hs_ia cI y3 82 x] := by
      intro k
      induction k with
      | zero =>
        intro q x hq hL hk
        exact absurd hk (by omega)
      | succ k ih =>
        intro q x hq hL hk
        have ih4 := ih
        refine hs_iload_n C dX7_keep_11 rfl 2 rfl ?_
        refine hs_bipush C dX7_keep_12 (by decide) ?_
        refine hs_icmp_ge (tgt := 40) C dX7_keep_14 (by decide) (by omega) (by omega) (fun c5 => ?_) (fun c5 => ?_)
        ·
          refine hs_aload_n C dX7_keep_40 rfl 0 rfl ?_
          refine hs_dup C dX7_keep_41 rfl ?_
          refine hs_get C u7 0 rfl rfl 4 (by decide) f162 rfl rfl dX7_keep_42 ?_
          refine hs_iconst C dX7_keep_45 ?_
          refine hs_iload_n C dX7_keep_46 rfl 1 rfl ?_
          refine hs_ishl (z := 2) C (by decide) dX7_keep_47 ?_
          refine hs_ior (z := 3) C (by decide) dX7_keep_48 ?_
          refine hs_put (ty := .int) (ws' := [hs_ob y0 7 [.ref y1, .ref y2, hs_V pm, .ref y3, hs_V 3, .ref y4, .ref y5, .ref y6, .ref y7, hs_V pt, .ref y8, .ref y9], hs_ia cI y1 41 h, hs_ia cI y3 82 x]) C u7 tyX7 tyX7_ok nmX7 0 rfl rfl 4 (by decide) f162 rfl rfl (by decide +kernel) rfl rfl (Nat.le_of_ble_eq_true rfl) rfl dX7_keep_49 ?_
          refine hs_aload_n C dX7_keep_52 rfl 0 rfl ?_
          refine hs_callVi (win := [hs_ob y0 7 [.ref y1, .ref y2, hs_V pm, .ref y3, hs_V 3, .ref y4, .ref y5, .ref y6, .ref y7, hs_V pt, .ref y8, .ref y9], hs_ia cI y1 41 h]) (wr := [hs_ia cI y3 82 x]) (As := []) (rest := []) C (c_X7_many l D cI cO y0 y1 y2 y3 y4 y5 y6 y7 y8 y9 pm 3 pt h ) 7 0 rfl rfl rfl (cwV 0 C.1.2.2.2.2 gX7_keep_X7_many rfl rfl rfl (by decide +kernel) ⟨Nat.le_of_ble_eq_true rfl, Nat.le_of_ble_eq_true rfl⟩) rfl rfl (Nat.le_of_ble_eq_true rfl) dX7_keep_53 ⟨Nat.le_of_ble_eq_true rfl, Nat.le_of_ble_eq_true rfl⟩ (fun rr uu6 hp => ?_)
          obtain rfl := hp
          refine hs_re0 (w' := [hs_ob y0 7 [.ref y1, .ref y2, hs_V pm, .ref y3, hs_V 3, .ref y4, .ref y5, .ref y6, .ref y7, hs_V pt, .ref y8, .ref y9], hs_ia cI y1 41 h, hs_ia cI y3 82 x]) [0, 1, 2] rfl (by decide) ?_
          refine hs_cast (ws' := [hs_ob y0 7 [.ref y1, .ref y2, hs_V pm, .ref y3, hs_V (mo_fl 1 3), .ref y4, .ref y5, .ref y6, .ref y7, hs_V pt, .ref y8, .ref y9], hs_ia cI y1 41 h, hs_ia cI y3 82 (mo_cpy h 1 im)]) ?_ rfl rfl rfl (by rw [← hL, hs_up_done (by omega)] <;> rfl)
          exact hret _ _ _ () (by first | rfl | (rw [if_pos (by omega)]) | (rw [if_neg (by omega)])) dX7_keep_56 rfl
        ·
          refine hs_aload_n C dX7_keep_17 rfl 0 rfl ?_
          refine hs_get C u7 0 rfl rfl 3 (by decide) f16 rfl rfl dX7_keep_18 ?_
          refine hs_bipush C dX7_keep_21 (by decide) ?_
          refine hs_iload_n C dX7_keep_23 rfl 1 rfl ?_
          refine hs_imul C dX7_keep_24 ?_
          refine hs_iload_n C dX7_keep_25 rfl 2 rfl ?_
          refine hs_iadd C dX7_keep_26 ?_
          refine hs_aload_n C dX7_keep_27 rfl 0 rfl ?_
          refine hs_get C u7 0 rfl rfl 0 (by decide) f7 rfl rfl dX7_keep_28 ?_
          refine hs_iload_n C dX7_keep_31 rfl 2 rfl ?_
          refine hs_iald C 1 rfl (by omega) dX7_keep_32 ?_
          have b7 := hh q
          refine hs_iast (ws' := [hs_ob y0 7 [.ref y1, .ref y2, hs_V pm, .ref y3, hs_V 3, .ref y4, .ref y5, .ref y6, .ref y7, hs_V pt, .ref y8, .ref y9], hs_ia cI y1 41 h, hs_ia cI y3 82 (hs_u x ((41 * 1) + q) (h q))]) C 2 rfl (by omega) rfl dX7_keep_33 ?_
          refine hs_iinc (lv' := [(0, .ref y0), (1, hs_V 1), (2, hs_V (q + 1))]) C dX7_keep_34 2 rfl (by decide) [1, 2, 0] rfl ?_
          refine hs_goto (tgt := 11) C dX7_keep_37 (by decide) ?_
          exact ih4 (q + 1) (hs_u x ((41 * 1) + q) (h q)) (by omega) (by have hz := (hs_up_step (by omega)).symm.trans hL; (try dsimp only at hz); first | exact hz | (split at hz <;> first | exact hz | (exfalso; omega) | (split at hz <;> first | exact hz | (exfalso; omega) | (split at hz <;> first | exact hz | (exfalso; omega))))) (by omega)
    exact Lp3 ((41 - 0 : Int).toNat + 1) 0 im (by omega) (rfl) (by omega)
  ·
    exact absurd trivial (by omega)
theorem c_X7_isKept (l : Launch) (D : va_G) (cI cO : ClassId) (y0 : Nat) (y1 : Nat) (y2 : Nat) (y3 : Nat) (y4 : Nat) (y5 : Nat) (y6 : Nat) (y7 : Nat) (y8 : Nat) (y9 : Nat) (pm : Int) (fl : Int) (pt : Int) (z : Int) (hz : 0 ≤ z ∧ z ≤ 1) (hfl : 0 ≤ fl ∧ fl ≤ 3) : hs_M l D cI cO yX7_isKept wsX7_isKept ({ frames := 0, cells := 0, slots := 0, locals := 0 } : Room) [.ref y0, hs_V z] [hs_ob y0 7 [.ref y1, .ref y2, hs_V pm, .ref y3, hs_V fl, .ref y4, .ref y5, .ref y6, .ref y7, hs_V pt, .ref y8, .ref y9]] (fun r (_ : Unit) => r = hs_I (if mo_kept z fl then 1 else 0)) (fun _ => [hs_ob y0 7 [.ref y1, .ref y2, hs_V pm, .ref y3, hs_V fl, .ref y4, .ref y5, .ref y6, .ref y7, hs_V pt, .ref y8, .ref y9]]) 0 0 := by
  rcases (show (z = 0 ∧ fl = 0) ∨ (z = 0 ∧ fl = 1) ∨ (z = 0 ∧ fl = 2) ∨ (z = 0 ∧ fl = 3) ∨ (z = 1 ∧ fl = 0) ∨ (z = 1 ∧ fl = 1) ∨ (z = 1 ∧ fl = 2) ∨ (z = 1 ∧ fl = 3) by omega) with ⟨rfl, rfl⟩ | ⟨rfl, rfl⟩ | ⟨rfl, rfl⟩ | ⟨rfl, rfl⟩ | ⟨rfl, rfl⟩ | ⟨rfl, rfl⟩ | ⟨rfl, rfl⟩ | ⟨rfl, rfl⟩
  · exact c_X7_isKept_00 l D cI cO y0 y1 y2 y3 y4 y5 y6 y7 y8 y9 pm pt
  · exact c_X7_isKept_01 l D cI cO y0 y1 y2 y3 y4 y5 y6 y7 y8 y9 pm pt
  · exact c_X7_isKept_02 l D cI cO y0 y1 y2 y3 y4 y5 y6 y7 y8 y9 pm pt
  · exact c_X7_isKept_03 l D cI cO y0 y1 y2 y3 y4 y5 y6 y7 y8 y9 pm pt
  · exact c_X7_isKept_10 l D cI cO y0 y1 y2 y3 y4 y5 y6 y7 y8 y9 pm pt
  · exact c_X7_isKept_11 l D cI cO y0 y1 y2 y3 y4 y5 y6 y7 y8 y9 pm pt
  · exact c_X7_isKept_12 l D cI cO y0 y1 y2 y3 y4 y5 y6 y7 y8 y9 pm pt
  · exact c_X7_isKept_13 l D cI cO y0 y1 y2 y3 y4 y5 y6 y7 y8 y9 pm pt
theorem c_X7_keepx (l : Launch) (D : va_G) (cI cO : ClassId) (y0 : Nat) (y1 : Nat) (y2 : Nat) (y3 : Nat) (y4 : Nat) (y5 : Nat) (y6 : Nat) (y7 : Nat) (y8 : Nat) (y9 : Nat) (pm : Int) (fl : Int) (pt : Int) (h : Int → Int) (im : Int → Int) (z : Int) (hh : ∀ k, 0 ≤ h k ∧ h k ≤ 50) (hN : 0 ≤ h 40 ∧ h 40 ≤ 40) (him : ∀ k, 0 ≤ im k ∧ im k ≤ 50) (hz : 0 ≤ z ∧ z ≤ 1) (hfl : 0 ≤ fl ∧ fl ≤ 3) : hs_M l D cI cO yX7_keep wsX7_keep ({ frames := 2, cells := 0, slots := 0, locals := 42 } : Room) [.ref y0, hs_V z] [hs_ob y0 7 [.ref y1, .ref y2, hs_V pm, .ref y3, hs_V fl, .ref y4, .ref y5, .ref y6, .ref y7, hs_V pt, .ref y8, .ref y9], hs_ia cI y1 41 h, hs_ia cI y3 82 im] (fun r (_ : Unit) => r = hs_I (h 40)) (fun _ => [hs_ob y0 7 [.ref y1, .ref y2, hs_V pm, .ref y3, hs_V (mo_fl z fl), .ref y4, .ref y5, .ref y6, .ref y7, hs_V pt, .ref y8, .ref y9], hs_ia cI y1 41 h, hs_ia cI y3 82 (mo_cpy h z im)]) 0 0 := by
  rcases (show (z = 0 ∧ fl = 0) ∨ (z = 0 ∧ fl = 1) ∨ (z = 0 ∧ fl = 2) ∨ (z = 0 ∧ fl = 3) ∨ (z = 1 ∧ fl = 0) ∨ (z = 1 ∧ fl = 1) ∨ (z = 1 ∧ fl = 2) ∨ (z = 1 ∧ fl = 3) by omega) with ⟨rfl, rfl⟩ | ⟨rfl, rfl⟩ | ⟨rfl, rfl⟩ | ⟨rfl, rfl⟩ | ⟨rfl, rfl⟩ | ⟨rfl, rfl⟩ | ⟨rfl, rfl⟩ | ⟨rfl, rfl⟩
  · exact c_X7_keep_00 l D cI cO y0 y1 y2 y3 y4 y5 y6 y7 y8 y9 pm pt h im hh hN him
  · exact c_X7_keep_01 l D cI cO y0 y1 y2 y3 y4 y5 y6 y7 y8 y9 pm pt h im hh hN him
  · exact c_X7_keep_02 l D cI cO y0 y1 y2 y3 y4 y5 y6 y7 y8 y9 pm pt h im hh hN him
  · exact c_X7_keep_03 l D cI cO y0 y1 y2 y3 y4 y5 y6 y7 y8 y9 pm pt h im hh hN him
  · exact c_X7_keep_10 l D cI cO y0 y1 y2 y3 y4 y5 y6 y7 y8 y9 pm pt h im hh hN him
  · exact c_X7_keep_11 l D cI cO y0 y1 y2 y3 y4 y5 y6 y7 y8 y9 pm pt h im hh hN him
  · exact c_X7_keep_12 l D cI cO y0 y1 y2 y3 y4 y5 y6 y7 y8 y9 pm pt h im hh hN him
  · exact c_X7_keep_13 l D cI cO y0 y1 y2 y3 y4 y5 y6 y7 y8 y9 pm pt h im hh hN him
