set_option maxHeartbeats 4000000 in
set_option maxRecDepth 100000 in
theorem c_X7_isIn (l : Launch) (D : va_G) (cI cO : ClassId) (v : Int) (lo : Int) (hi : Int) (h1 : hs_in v) (h2 : hs_in lo) (h3 : hs_in hi) : hs_M l D cI cO yX7_isIn wsX7_isIn ({ frames := 0, cells := 0, slots := 0, locals := 0 } : Room) [hs_V v, hs_V lo, hs_V hi] [] (fun r (_ : Unit) => r = hs_I (if lo ≤ v ∧ v ≤ hi then 1 else 0)) (fun _ => []) 0 0 := by
  refine hs_enter (cc := cX7_isIn) (maxL := 3) (by decide +kernel) rfl (Nat.le_of_ble_eq_true rfl) (fun p e s m args below meth c A H0 Q C hret => ?_)
  refine hs_lvs (lv' := [(0, hs_V v), (1, hs_V lo), (2, hs_V hi)]) [0, 1, 2] rfl ?_
  refine hs_iload_n C dX7_isIn_0 rfl 0 rfl ?_
  refine hs_iload_n C dX7_isIn_1 rfl 1 rfl ?_
  refine hs_icmp_lt (tgt := 14) C dX7_isIn_2 (by decide) (by omega) (by omega) (fun c1 => ?_) (fun c1 => ?_)
  ·
    refine hs_iconst C dX7_isIn_14 ?_
    exact hret _ _ _ () (by first | rfl | (rw [if_pos (by omega)]) | (rw [if_neg (by omega)])) dX7_isIn_15 rfl
  ·
    refine hs_iload_n C dX7_isIn_5 rfl 0 rfl ?_
    refine hs_iload_n C dX7_isIn_6 rfl 2 rfl ?_
    refine hs_icmp_gt (tgt := 14) C dX7_isIn_7 (by decide) (by omega) (by omega) (fun c2 => ?_) (fun c2 => ?_)
    ·
      refine hs_iconst C dX7_isIn_14 ?_
      exact hret _ _ _ () (by first | rfl | (rw [if_pos (by omega)]) | (rw [if_neg (by omega)])) dX7_isIn_15 rfl
    ·
      refine hs_iconst C dX7_isIn_10 ?_
      refine hs_goto (tgt := 15) C dX7_isIn_11 (by decide) ?_
      exact hret _ _ _ () (by first | rfl | (rw [if_pos (by omega)]) | (rw [if_neg (by omega)])) dX7_isIn_15 rfl

set_option maxHeartbeats 4000000 in
set_option maxRecDepth 100000 in
theorem c_X7_many (l : Launch) (D : va_G) (cI cO : ClassId) (y0 : Nat) (y1 : Nat) (y2 : Nat) (y3 : Nat) (y4 : Nat) (y5 : Nat) (y6 : Nat) (y7 : Nat) (y8 : Nat) (y9 : Nat) (pm : Int) (fl : Int) (pt : Int) (h : Int → Int) : hs_M l D cI cO yX7_many wsX7_many ({ frames := 0, cells := 0, slots := 0, locals := 0 } : Room) [.ref y0] [hs_ob y0 7 [.ref y1, .ref y2, hs_V pm, .ref y3, hs_V fl, .ref y4, .ref y5, .ref y6, .ref y7, hs_V pt, .ref y8, .ref y9], hs_ia cI y1 41 h] (fun r (_ : Unit) => r = hs_I (h 40)) (fun _ => [hs_ob y0 7 [.ref y1, .ref y2, hs_V pm, .ref y3, hs_V fl, .ref y4, .ref y5, .ref y6, .ref y7, hs_V pt, .ref y8, .ref y9], hs_ia cI y1 41 h]) 0 0 := by
  refine hs_enter (cc := cX7_many) (maxL := 1) (by decide +kernel) rfl (Nat.le_of_ble_eq_true rfl) (fun p e s m args below meth c A H0 Q C hret => ?_)
  have f7 := C.1.2.2.2.2 (.fieldLink RX7 7 "HistogramStairsModel" "h" "[I") (by decide +kernel)
  have u7 : ∀ w ∈ wsX70, w ∈ wsX7_many := by decide +kernel
  refine hs_lvs (lv' := [(0, .ref y0)]) [0] rfl ?_
  refine hs_aload_n C dX7_many_0 rfl 0 rfl ?_
  refine hs_get C u7 0 rfl rfl 0 (by decide) f7 rfl rfl dX7_many_1 ?_
  refine hs_bipush C dX7_many_4 (by decide) ?_
  refine hs_iald C 1 rfl (by omega) dX7_many_6 ?_
  exact hret _ _ _ () (by first | rfl | (rw [if_pos (by omega)]) | (rw [if_neg (by omega)])) dX7_many_7 rfl

set_option maxHeartbeats 4000000 in
set_option maxRecDepth 100000 in
theorem c_X7_isColumn (l : Launch) (D : va_G) (cI cO : ClassId) (y0 : Nat) (y1 : Nat) (y2 : Nat) (y3 : Nat) (y4 : Nat) (y5 : Nat) (y6 : Nat) (y7 : Nat) (y8 : Nat) (y9 : Nat) (pm : Int) (fl : Int) (pt : Int) (h : Int → Int) (i : Int) (hN : 0 ≤ h 40 ∧ h 40 ≤ 40) (hzi : hs_in i) : hs_M l D cI cO yX7_isColumn wsX7_isColumn ({ frames := 1, cells := 0, slots := 0, locals := 22 } : Room) [.ref y0, hs_V i] [hs_ob y0 7 [.ref y1, .ref y2, hs_V pm, .ref y3, hs_V fl, .ref y4, .ref y5, .ref y6, .ref y7, hs_V pt, .ref y8, .ref y9], hs_ia cI y1 41 h] (fun r (_ : Unit) => r = hs_I (if 0 ≤ i ∧ i ≤ h 40 - 1 then 1 else 0)) (fun _ => [hs_ob y0 7 [.ref y1, .ref y2, hs_V pm, .ref y3, hs_V fl, .ref y4, .ref y5, .ref y6, .ref y7, hs_V pt, .ref y8, .ref y9], hs_ia cI y1 41 h]) 0 0 := by
  refine hs_enter (cc := cX7_isColumn) (maxL := 2) (by decide +kernel) rfl (Nat.le_of_ble_eq_true rfl) (fun p e s m args below meth c A H0 Q C hret => ?_)
  refine hs_lvs (lv' := [(0, .ref y0), (1, hs_V i)]) [0, 1] rfl ?_
  refine hs_iload_n C dX7_isColumn_0 rfl 1 rfl ?_
  refine hs_iconst C dX7_isColumn_1 ?_
  refine hs_aload_n C dX7_isColumn_2 rfl 0 rfl ?_
  refine hs_callVi (win := [hs_ob y0 7 [.ref y1, .ref y2, hs_V pm, .ref y3, hs_V fl, .ref y4, .ref y5, .ref y6, .ref y7, hs_V pt, .ref y8, .ref y9], hs_ia cI y1 41 h]) (wr := []) (As := []) (rest := [hs_V 0, hs_V i]) C (c_X7_many l D cI cO y0 y1 y2 y3 y4 y5 y6 y7 y8 y9 pm fl pt h ) 7 0 rfl rfl rfl (cwV 0 C.1.2.2.2.2 gX7_isColumn_X7_many rfl rfl rfl (by decide +kernel) ⟨Nat.le_of_ble_eq_true rfl, Nat.le_of_ble_eq_true rfl⟩) rfl rfl (Nat.le_of_ble_eq_true rfl) dX7_isColumn_3 ⟨Nat.le_of_ble_eq_true rfl, Nat.le_of_ble_eq_true rfl⟩ (fun rr uu1 hp => ?_)
  obtain rfl := hp
  refine hs_re0 (w' := [hs_ob y0 7 [.ref y1, .ref y2, hs_V pm, .ref y3, hs_V fl, .ref y4, .ref y5, .ref y6, .ref y7, hs_V pt, .ref y8, .ref y9], hs_ia cI y1 41 h]) [0, 1] rfl (by decide) ?_
  refine hs_iconst C dX7_isColumn_6 ?_
  refine hs_isub C dX7_isColumn_7 ?_
  refine hs_callSi (win := []) (wr := [hs_ob y0 7 [.ref y1, .ref y2, hs_V pm, .ref y3, hs_V fl, .ref y4, .ref y5, .ref y6, .ref y7, hs_V pt, .ref y8, .ref y9], hs_ia cI y1 41 h]) (As := [hs_V i, hs_V 0, hs_V ((h 40) - 1)]) (rest := []) C (c_X7_isIn l D cI cO i 0 ((h 40) - 1) (by omega) (by omega) (by omega)) (va_cwS 3 C.1.2.2.2.2 gX7_isColumn_X7_isIn rfl rfl rfl (by decide +kernel) ⟨Nat.le_of_ble_eq_true rfl, Nat.le_of_ble_eq_true rfl⟩) rfl rfl (Nat.le_of_ble_eq_true rfl) dX7_isColumn_8 ⟨Nat.le_of_ble_eq_true rfl, Nat.le_of_ble_eq_true rfl⟩ (fun rr uu2 hp => ?_)
  obtain rfl := hp
  refine hs_re0 (w' := [hs_ob y0 7 [.ref y1, .ref y2, hs_V pm, .ref y3, hs_V fl, .ref y4, .ref y5, .ref y6, .ref y7, hs_V pt, .ref y8, .ref y9], hs_ia cI y1 41 h]) [0, 1] rfl (by decide) ?_
  exact hret _ _ _ () (by first | rfl | (rw [if_pos (by omega)]) | (rw [if_neg (by omega)])) dX7_isColumn_11 (hs_nb _)

set_option maxHeartbeats 4000000 in
set_option maxRecDepth 100000 in
theorem c_X7_isRange (l : Launch) (D : va_G) (cI cO : ClassId) (y0 : Nat) (y1 : Nat) (y2 : Nat) (y3 : Nat) (y4 : Nat) (y5 : Nat) (y6 : Nat) (y7 : Nat) (y8 : Nat) (y9 : Nat) (pm : Int) (fl : Int) (pt : Int) (h : Int → Int) (a : Int) (b : Int) (hN : 0 ≤ h 40 ∧ h 40 ≤ 40) (hza : hs_in a) (hzb : hs_in b) : hs_M l D cI cO yX7_isRange wsX7_isRange ({ frames := 2, cells := 0, slots := 0, locals := 43 } : Room) [.ref y0, hs_V a, hs_V b] [hs_ob y0 7 [.ref y1, .ref y2, hs_V pm, .ref y3, hs_V fl, .ref y4, .ref y5, .ref y6, .ref y7, hs_V pt, .ref y8, .ref y9], hs_ia cI y1 41 h] (fun r (_ : Unit) => r = hs_I (if 0 ≤ a ∧ a ≤ b ∧ b ≤ h 40 - 1 then 1 else 0)) (fun _ => [hs_ob y0 7 [.ref y1, .ref y2, hs_V pm, .ref y3, hs_V fl, .ref y4, .ref y5, .ref y6, .ref y7, hs_V pt, .ref y8, .ref y9], hs_ia cI y1 41 h]) 0 0 := by
  refine hs_enter (cc := cX7_isRange) (maxL := 3) (by decide +kernel) rfl (Nat.le_of_ble_eq_true rfl) (fun p e s m args below meth c A H0 Q C hret => ?_)
  refine hs_lvs (lv' := [(0, .ref y0), (1, hs_V a), (2, hs_V b)]) [0, 1, 2] rfl ?_
  refine hs_aload_n C dX7_isRange_0 rfl 0 rfl ?_
  refine hs_iload_n C dX7_isRange_1 rfl 1 rfl ?_
  refine hs_callVi (win := [hs_ob y0 7 [.ref y1, .ref y2, hs_V pm, .ref y3, hs_V fl, .ref y4, .ref y5, .ref y6, .ref y7, hs_V pt, .ref y8, .ref y9], hs_ia cI y1 41 h]) (wr := []) (As := [hs_V a]) (rest := []) C (c_X7_isColumn l D cI cO y0 y1 y2 y3 y4 y5 y6 y7 y8 y9 pm fl pt h a (by omega) (by omega)) 7 0 rfl rfl rfl (cwV 1 C.1.2.2.2.2 gX7_isRange_X7_isColumn rfl rfl rfl (by decide +kernel) ⟨Nat.le_of_ble_eq_true rfl, Nat.le_of_ble_eq_true rfl⟩) rfl rfl (Nat.le_of_ble_eq_true rfl) dX7_isRange_2 ⟨Nat.le_of_ble_eq_true rfl, Nat.le_of_ble_eq_true rfl⟩ (fun rr uu1 hp => ?_)
  obtain rfl := hp
  refine hs_re0 (w' := [hs_ob y0 7 [.ref y1, .ref y2, hs_V pm, .ref y3, hs_V fl, .ref y4, .ref y5, .ref y6, .ref y7, hs_V pt, .ref y8, .ref y9], hs_ia cI y1 41 h]) [0, 1] rfl (by decide) ?_
  refine hs_ifeq_b (tgt := 25) C dX7_isRange_5 (by decide) (fun c2 => ?_) (fun c2 => ?_)
  ·
    refine hs_iconst C dX7_isRange_25 ?_
    exact hret _ _ _ () (by first | rfl | (rw [if_pos (by omega)]) | (rw [if_neg (by omega)])) dX7_isRange_26 rfl
  ·
    refine hs_aload_n C dX7_isRange_8 rfl 0 rfl ?_
    refine hs_iload_n C dX7_isRange_9 rfl 2 rfl ?_
    refine hs_callVi (win := [hs_ob y0 7 [.ref y1, .ref y2, hs_V pm, .ref y3, hs_V fl, .ref y4, .ref y5, .ref y6, .ref y7, hs_V pt, .ref y8, .ref y9], hs_ia cI y1 41 h]) (wr := []) (As := [hs_V b]) (rest := []) C (c_X7_isColumn l D cI cO y0 y1 y2 y3 y4 y5 y6 y7 y8 y9 pm fl pt h b (by omega) (by omega)) 7 0 rfl rfl rfl (cwV 1 C.1.2.2.2.2 gX7_isRange_X7_isColumn rfl rfl rfl (by decide +kernel) ⟨Nat.le_of_ble_eq_true rfl, Nat.le_of_ble_eq_true rfl⟩) rfl rfl (Nat.le_of_ble_eq_true rfl) dX7_isRange_10 ⟨Nat.le_of_ble_eq_true rfl, Nat.le_of_ble_eq_true rfl⟩ (fun rr uu3 hp => ?_)
    obtain rfl := hp
    refine hs_re0 (w' := [hs_ob y0 7 [.ref y1, .ref y2, hs_V pm, .ref y3, hs_V fl, .ref y4, .ref y5, .ref y6, .ref y7, hs_V pt, .ref y8, .ref y9], hs_ia cI y1 41 h]) [0, 1] rfl (by decide) ?_
    refine hs_ifeq_b (tgt := 25) C dX7_isRange_13 (by decide) (fun c4 => ?_) (fun c4 => ?_)
    ·
      refine hs_iconst C dX7_isRange_25 ?_
      exact hret _ _ _ () (by first | rfl | (rw [if_pos (by omega)]) | (rw [if_neg (by omega)])) dX7_isRange_26 rfl
    ·
      refine hs_iload_n C dX7_isRange_16 rfl 1 rfl ?_
      refine hs_iload_n C dX7_isRange_17 rfl 2 rfl ?_
      refine hs_icmp_gt (tgt := 25) C dX7_isRange_18 (by decide) (by omega) (by omega) (fun c5 => ?_) (fun c5 => ?_)
      ·
        refine hs_iconst C dX7_isRange_25 ?_
        exact hret _ _ _ () (by first | rfl | (rw [if_pos (by omega)]) | (rw [if_neg (by omega)])) dX7_isRange_26 rfl
      ·
        refine hs_iconst C dX7_isRange_21 ?_
        refine hs_goto (tgt := 26) C dX7_isRange_22 (by decide) ?_
        exact hret _ _ _ () (by first | rfl | (rw [if_pos (by omega)]) | (rw [if_neg (by omega)])) dX7_isRange_26 rfl

set_option maxHeartbeats 4000000 in
set_option maxRecDepth 100000 in
theorem c_X7_before (l : Launch) (D : va_G) (cI cO : ClassId) (y0 : Nat) (y1 : Nat) (y2 : Nat) (y3 : Nat) (y4 : Nat) (y5 : Nat) (y6 : Nat) (y7 : Nat) (y8 : Nat) (y9 : Nat) (pm : Int) (fl : Int) (pt : Int) (pa : Int → Int) (i : Int) (hpm : 1 ≤ pm ∧ pm ≤ 8) (hi : 0 ≤ i ∧ i ≤ 40) : hs_M l D cI cO yX7_before wsX7_before ({ frames := 0, cells := 0, slots := 0, locals := 0 } : Room) [.ref y0, hs_V i] [hs_ob y0 7 [.ref y1, .ref y2, hs_V pm, .ref y3, hs_V fl, .ref y4, .ref y5, .ref y6, .ref y7, hs_V pt, .ref y8, .ref y9], hs_ia cI y2 328 pa] (fun r (_ : Unit) => r = hs_I (pa (41 * (pm - 1) + i))) (fun _ => [hs_ob y0 7 [.ref y1, .ref y2, hs_V pm, .ref y3, hs_V fl, .ref y4, .ref y5, .ref y6, .ref y7, hs_V pt, .ref y8, .ref y9], hs_ia cI y2 328 pa]) 0 0 := by
  refine hs_enter (cc := cX7_before) (maxL := 2) (by decide +kernel) rfl (Nat.le_of_ble_eq_true rfl) (fun p e s m args below meth c A H0 Q C hret => ?_)
  have f13 := C.1.2.2.2.2 (.fieldLink RX7 13 "HistogramStairsModel" "past" "[I") (by decide +kernel)
  have u7 : ∀ w ∈ wsX70, w ∈ wsX7_before := by decide +kernel
  have f49 := C.1.2.2.2.2 (.fieldLink RX7 49 "HistogramStairsModel" "pastMany" "I") (by decide +kernel)
  refine hs_lvs (lv' := [(0, .ref y0), (1, hs_V i)]) [0, 1] rfl ?_
  refine hs_aload_n C dX7_before_0 rfl 0 rfl ?_
  refine hs_get C u7 0 rfl rfl 1 (by decide) f13 rfl rfl dX7_before_1 ?_
  refine hs_bipush C dX7_before_4 (by decide) ?_
  refine hs_aload_n C dX7_before_6 rfl 0 rfl ?_
  refine hs_get C u7 0 rfl rfl 2 (by decide) f49 rfl rfl dX7_before_7 ?_
  refine hs_iconst C dX7_before_10 ?_
  refine hs_isub C dX7_before_11 ?_
  refine hs_imul C dX7_before_12 ?_
  refine hs_iload_n C dX7_before_13 rfl 1 rfl ?_
  refine hs_iadd C dX7_before_14 ?_
  refine hs_iald C 1 rfl (by omega) dX7_before_15 ?_
  exact hret _ _ _ () (by first | rfl | (rw [if_pos (by omega)]) | (rw [if_neg (by omega)])) dX7_before_16 rfl

set_option maxHeartbeats 4000000 in
set_option maxRecDepth 100000 in
theorem c_X7_changed (l : Launch) (D : va_G) (cI cO : ClassId) (y0 : Nat) (y1 : Nat) (y2 : Nat) (y3 : Nat) (y4 : Nat) (y5 : Nat) (y6 : Nat) (y7 : Nat) (y8 : Nat) (y9 : Nat) (pm : Int) (fl : Int) (pt : Int) (h : Int → Int) (pa : Int → Int) (a : Int) (b : Int) (hh : ∀ k, 0 ≤ h k ∧ h k ≤ 50) (hpa : ∀ k, 0 ≤ pa k ∧ pa k ≤ 50) (hpm : 1 ≤ pm ∧ pm ≤ 8) (hab : 0 ≤ a ∧ a ≤ b + 1 ∧ b ≤ 39) : hs_M l D cI cO yX7_changed wsX7_changed ({ frames := 1, cells := 0, slots := 0, locals := 21 } : Room) [.ref y0, hs_V a, hs_V b] [hs_ob y0 7 [.ref y1, .ref y2, hs_V pm, .ref y3, hs_V fl, .ref y4, .ref y5, .ref y6, .ref y7, hs_V pt, .ref y8, .ref y9], hs_ia cI y1 41 h, hs_ia cI y2 328 pa] (fun r (_ : Unit) => r = hs_I (hs_up (fun i x => if h i = pa (41 * (pm - 1) + i) then x + 0 else x + 1) a (b + 1) 0)) (fun _ => [hs_ob y0 7 [.ref y1, .ref y2, hs_V pm, .ref y3, hs_V fl, .ref y4, .ref y5, .ref y6, .ref y7, hs_V pt, .ref y8, .ref y9], hs_ia cI y1 41 h, hs_ia cI y2 328 pa]) 0 0 := by
  refine hs_enter (cc := cX7_changed) (maxL := 5) (by decide +kernel) rfl (Nat.le_of_ble_eq_true rfl) (fun p e s m args below meth c A H0 Q C hret => ?_)
  have f7 := C.1.2.2.2.2 (.fieldLink RX7 7 "HistogramStairsModel" "h" "[I") (by decide +kernel)
  have u7 : ∀ w ∈ wsX70, w ∈ wsX7_changed := by decide +kernel
  refine hs_lvs (lv' := [(0, .ref y0), (1, hs_V a), (2, hs_V b)]) [0, 1, 2] rfl ?_
  refine hs_iconst C dX7_changed_0 ?_
  refine hs_istore_n (lv' := [(0, .ref y0), (1, hs_V a), (2, hs_V b), (3, hs_V 0)]) C dX7_changed_1 rfl (by decide) [1, 2, 3, 0] rfl ?_
  refine hs_iload_n C dX7_changed_2 rfl 1 rfl ?_
  refine hs_istore (lv' := [(0, .ref y0), (1, hs_V a), (2, hs_V b), (3, hs_V 0), (4, hs_V a)]) C dX7_changed_3 (by decide) [1, 2, 3, 4, 0] rfl ?_
  have Lp1 : ∀ (k : Nat) (i : Int) (x : Int), (a ≤ i ∧ i ≤ b + 1) → (hs_up (fun i x => if h i = pa (41 * (pm - 1) + i) then x + 0 else x + 1) i (b + 1) x = hs_up (fun i x => if h i = pa (41 * (pm - 1) + i) then x + 0 else x + 1) a (b + 1) 0) → (b + 1 - i < (k : Int)) → hs_J p l e ({ frames := 1, cells := 0, slots := 0, locals := 21 } : Room) s m args below meth c D A H0 5 0 0 Q 5 [(0, .ref y0), (1, hs_V a), (2, hs_V b), (3, hs_V x), (4, hs_V i)] [] [hs_ob y0 7 [.ref y1, .ref y2, hs_V pm, .ref y3, hs_V fl, .ref y4, .ref y5, .ref y6, .ref y7, hs_V pt, .ref y8, .ref y9], hs_ia cI y1 41 h, hs_ia cI y2 328 pa] := by
    intro k
    induction k with
    | zero =>
      intro i x hi hL hk
      exact absurd hk (by omega)
    | succ k ih =>
      intro i x hi hL hk
      have ih2 := ih
      refine hs_iload C dX7_changed_5 4 rfl ?_
      refine hs_iload_n C dX7_changed_7 rfl 2 rfl ?_
      refine hs_icmp_gt (tgt := 41) C dX7_changed_8 (by decide) (by omega) (by omega) (fun c3 => ?_) (fun c3 => ?_)
      ·
        refine hs_iload_n C dX7_changed_41 rfl 3 rfl ?_
        exact hret _ _ _ () (by rw [← hL, hs_up_done (by omega)]) dX7_changed_42 rfl
      ·
        refine hs_iload_n C dX7_changed_11 rfl 3 rfl ?_
        refine hs_aload_n C dX7_changed_12 rfl 0 rfl ?_
        refine hs_get C u7 0 rfl rfl 0 (by decide) f7 rfl rfl dX7_changed_13 ?_
        refine hs_iload C dX7_changed_16 4 rfl ?_
        refine hs_iald C 1 rfl (by omega) dX7_changed_18 ?_
        have b4 := hh i
        refine hs_aload_n C dX7_changed_19 rfl 0 rfl ?_
        refine hs_iload C dX7_changed_20 4 rfl ?_
        refine hs_re0 (w' := [hs_ob y0 7 [.ref y1, .ref y2, hs_V pm, .ref y3, hs_V fl, .ref y4, .ref y5, .ref y6, .ref y7, hs_V pt, .ref y8, .ref y9], hs_ia cI y2 328 pa, hs_ia cI y1 41 h]) [0, 2, 1] rfl (by decide) ?_
        refine hs_callVi (win := [hs_ob y0 7 [.ref y1, .ref y2, hs_V pm, .ref y3, hs_V fl, .ref y4, .ref y5, .ref y6, .ref y7, hs_V pt, .ref y8, .ref y9], hs_ia cI y2 328 pa]) (wr := [hs_ia cI y1 41 h]) (As := [hs_V i]) (rest := [hs_V (h i), hs_V x]) C (c_X7_before l D cI cO y0 y1 y2 y3 y4 y5 y6 y7 y8 y9 pm fl pt pa i (by omega) (by omega)) 7 0 rfl rfl rfl (cwV 1 C.1.2.2.2.2 gX7_changed_X7_before rfl rfl rfl (by decide +kernel) ⟨Nat.le_of_ble_eq_true rfl, Nat.le_of_ble_eq_true rfl⟩) rfl rfl (Nat.le_of_ble_eq_true rfl) dX7_changed_22 ⟨Nat.le_of_ble_eq_true rfl, Nat.le_of_ble_eq_true rfl⟩ (fun rr uu5 hp => ?_)
        obtain rfl := hp
        refine hs_re0 (w' := [hs_ob y0 7 [.ref y1, .ref y2, hs_V pm, .ref y3, hs_V fl, .ref y4, .ref y5, .ref y6, .ref y7, hs_V pt, .ref y8, .ref y9], hs_ia cI y1 41 h, hs_ia cI y2 328 pa]) [0, 2, 1] rfl (by decide) ?_
        have hb22 := hpa (41 * (pm - 1) + i)
        refine hs_icmp_eq (tgt := 32) C dX7_changed_25 (by decide) (by omega) (by omega) (fun c6 => ?_) (fun c6 => ?_)
        ·
          refine hs_iconst C dX7_changed_32 ?_
          refine hs_iadd C dX7_changed_33 ?_
          refine hs_istore_n (lv' := [(0, .ref y0), (1, hs_V a), (2, hs_V b), (3, hs_V (x + 0)), (4, hs_V i)]) C dX7_changed_34 rfl (by decide) [1, 2, 3, 0, 4] rfl ?_
          refine hs_iinc (lv' := [(0, .ref y0), (1, hs_V a), (2, hs_V b), (3, hs_V (x + 0)), (4, hs_V (i + 1))]) C dX7_changed_35 4 rfl (by decide) [1, 2, 3, 4, 0] rfl ?_
          refine hs_goto (tgt := 5) C dX7_changed_38 (by decide) ?_
          exact ih2 (i + 1) (x + 0) (by omega) (by have hz := (hs_up_step (by omega)).symm.trans hL; (try dsimp only at hz); first | exact hz | (split at hz <;> first | exact hz | (exfalso; omega) | (split at hz <;> first | exact hz | (exfalso; omega) | (split at hz <;> first | exact hz | (exfalso; omega))))) (by omega)
        ·
          refine hs_iconst C dX7_changed_28 ?_
          refine hs_goto (tgt := 33) C dX7_changed_29 (by decide) ?_
          refine hs_iadd C dX7_changed_33 ?_
          refine hs_istore_n (lv' := [(0, .ref y0), (1, hs_V a), (2, hs_V b), (3, hs_V (x + 1)), (4, hs_V i)]) C dX7_changed_34 rfl (by decide) [1, 2, 3, 0, 4] rfl ?_
          refine hs_iinc (lv' := [(0, .ref y0), (1, hs_V a), (2, hs_V b), (3, hs_V (x + 1)), (4, hs_V (i + 1))]) C dX7_changed_35 4 rfl (by decide) [1, 2, 3, 4, 0] rfl ?_
          refine hs_goto (tgt := 5) C dX7_changed_38 (by decide) ?_
          exact ih2 (i + 1) (x + 1) (by omega) (by have hz := (hs_up_step (by omega)).symm.trans hL; (try dsimp only at hz); first | exact hz | (split at hz <;> first | exact hz | (exfalso; omega) | (split at hz <;> first | exact hz | (exfalso; omega) | (split at hz <;> first | exact hz | (exfalso; omega))))) (by omega)
  exact Lp1 ((b + 1 - a : Int).toNat + 1) a 0 (by omega) (rfl) (by omega)

set_option maxHeartbeats 4000000 in
set_option maxRecDepth 100000 in
theorem c_X7_capped (l : Launch) (D : va_G) (cI cO : ClassId) (v : Int) (hz : hs_in v) : hs_M l D cI cO yX7_capped wsX7_capped ({ frames := 0, cells := 0, slots := 0, locals := 0 } : Room) [hs_V v] [] (fun r (_ : Unit) => r = hs_I (max 0 (min v 50))) (fun _ => []) 0 0 := by
  refine hs_enter (cc := cX7_capped) (maxL := 1) (by decide +kernel) rfl (Nat.le_of_ble_eq_true rfl) (fun p e s m args below meth c A H0 Q C hret => ?_)
  refine hs_lvs (lv' := [(0, hs_V v)]) [0] rfl ?_
  refine hs_iload_n C dX7_capped_0 rfl 0 rfl ?_
  refine hs_if_ge (tgt := 8) C dX7_capped_1 (by decide) (by omega) (fun c1 => ?_) (fun c1 => ?_)
  ·
    refine hs_iload_n C dX7_capped_8 rfl 0 rfl ?_
    refine hs_bipush C dX7_capped_9 (by decide) ?_
    refine hs_icmp_le (tgt := 19) C dX7_capped_11 (by decide) (by omega) (by omega) (fun c2 => ?_) (fun c2 => ?_)
    ·
      refine hs_iload_n C dX7_capped_19 rfl 0 rfl ?_
      exact hret _ _ _ () (by congr 1; omega) dX7_capped_20 rfl
    ·
      refine hs_bipush C dX7_capped_14 (by decide) ?_
      refine hs_goto (tgt := 20) C dX7_capped_16 (by decide) ?_
      exact hret _ _ _ () (by congr 1; omega) dX7_capped_20 rfl
  ·
    refine hs_iconst C dX7_capped_4 ?_
    refine hs_goto (tgt := 20) C dX7_capped_5 (by decide) ?_
    exact hret _ _ _ () (by congr 1; omega) dX7_capped_20 rfl

set_option maxHeartbeats 4000000 in
set_option maxRecDepth 100000 in
theorem c_X7_least (l : Launch) (D : va_G) (cI cO : ClassId) (y0 : Nat) (y1 : Nat) (y2 : Nat) (y3 : Nat) (y4 : Nat) (y5 : Nat) (y6 : Nat) (y7 : Nat) (y8 : Nat) (y9 : Nat) (pm : Int) (fl : Int) (pt : Int) (h : Int → Int) (a : Int) (b : Int) (hh : ∀ k, 0 ≤ h k ∧ h k ≤ 50) (hab : 0 ≤ a ∧ a ≤ 40 ∧ -1 ≤ b ∧ b ≤ 40) : hs_M l D cI cO yX7_least wsX7_least ({ frames := 0, cells := 0, slots := 0, locals := 0 } : Room) [.ref y0, hs_V a, hs_V b] [hs_ob y0 7 [.ref y1, .ref y2, hs_V pm, .ref y3, hs_V fl, .ref y4, .ref y5, .ref y6, .ref y7, hs_V pt, .ref y8, .ref y9], hs_ia cI y1 41 h] (fun r (_ : Unit) => r = hs_I (mo_mn h a b)) (fun _ => [hs_ob y0 7 [.ref y1, .ref y2, hs_V pm, .ref y3, hs_V fl, .ref y4, .ref y5, .ref y6, .ref y7, hs_V pt, .ref y8, .ref y9], hs_ia cI y1 41 h]) 0 0 := by
  refine hs_enter (cc := cX7_least) (maxL := 5) (by decide +kernel) rfl (Nat.le_of_ble_eq_true rfl) (fun p e s m args below meth c A H0 Q C hret => ?_)
  have f7 := C.1.2.2.2.2 (.fieldLink RX7 7 "HistogramStairsModel" "h" "[I") (by decide +kernel)
  have u7 : ∀ w ∈ wsX70, w ∈ wsX7_least := by decide +kernel
  refine hs_lvs (lv' := [(0, .ref y0), (1, hs_V a), (2, hs_V b)]) [0, 1, 2] rfl ?_
  refine hs_aload_n C dX7_least_0 rfl 0 rfl ?_
  refine hs_get C u7 0 rfl rfl 0 (by decide) f7 rfl rfl dX7_least_1 ?_
  refine hs_iload_n C dX7_least_4 rfl 1 rfl ?_
  refine hs_iald C 1 rfl (by omega) dX7_least_5 ?_
  have b1 := hh a
  refine hs_istore_n (lv' := [(0, .ref y0), (1, hs_V a), (2, hs_V b), (3, hs_V (h a))]) C dX7_least_6 rfl (by decide) [1, 2, 3, 0] rfl ?_
  refine hs_iload_n C dX7_least_7 rfl 1 rfl ?_
  refine hs_istore (lv' := [(0, .ref y0), (1, hs_V a), (2, hs_V b), (3, hs_V (h a)), (4, hs_V a)]) C dX7_least_8 (by decide) [1, 2, 3, 4, 0] rfl ?_
  have Lp2 : ∀ (k : Nat) (i : Int) (x : Int), (a ≤ i ∧ i ≤ 41) → (0 ≤ x ∧ x ≤ 50) → (hs_up (fun i x => if h i < x then h i else x) i (b + 1) x = mo_mn h a b) → (42 - i < (k : Int)) → hs_J p l e ({ frames := 0, cells := 0, slots := 0, locals := 0 } : Room) s m args below meth c D A H0 5 0 0 Q 10 [(0, .ref y0), (1, hs_V a), (2, hs_V b), (3, hs_V x), (4, hs_V i)] [] [hs_ob y0 7 [.ref y1, .ref y2, hs_V pm, .ref y3, hs_V fl, .ref y4, .ref y5, .ref y6, .ref y7, hs_V pt, .ref y8, .ref y9], hs_ia cI y1 41 h] := by
    intro k
    induction k with
    | zero =>
      intro i x hi hx hL hk
      exact absurd hk (by omega)
    | succ k ih =>
      intro i x hi hx hL hk
      have ih3 := ih
      refine hs_iload C dX7_least_10 4 rfl ?_
      refine hs_iload_n C dX7_least_12 rfl 2 rfl ?_
      refine hs_icmp_gt (tgt := 45) C dX7_least_13 (by decide) (by omega) (by omega) (fun c4 => ?_) (fun c4 => ?_)
      ·
        refine hs_iload_n C dX7_least_45 rfl 3 rfl ?_
        exact hret _ _ _ () (by rw [← hL, hs_up_done (by omega)]) dX7_least_46 rfl
      ·
        refine hs_aload_n C dX7_least_16 rfl 0 rfl ?_
        refine hs_get C u7 0 rfl rfl 0 (by decide) f7 rfl rfl dX7_least_17 ?_
        refine hs_iload C dX7_least_20 4 rfl ?_
        refine hs_iald C 1 rfl (by omega) dX7_least_22 ?_
        have b5 := hh i
        refine hs_iload_n C dX7_least_23 rfl 3 rfl ?_
        refine hs_icmp_ge (tgt := 37) C dX7_least_24 (by decide) (by omega) (by omega) (fun c6 => ?_) (fun c6 => ?_)
        ·
          refine hs_iload_n C dX7_least_37 rfl 3 rfl ?_
          refine hs_istore_n (lv' := [(0, .ref y0), (1, hs_V a), (2, hs_V b), (3, hs_V x), (4, hs_V i)]) C dX7_least_38 rfl (by decide) [1, 2, 3, 0, 4] rfl ?_
          refine hs_iinc (lv' := [(0, .ref y0), (1, hs_V a), (2, hs_V b), (3, hs_V x), (4, hs_V (i + 1))]) C dX7_least_39 4 rfl (by decide) [1, 2, 3, 4, 0] rfl ?_
          refine hs_goto (tgt := 10) C dX7_least_42 (by decide) ?_
          exact ih3 (i + 1) x (by omega) (by omega) (by have hz := (hs_up_step (by omega)).symm.trans hL; (try dsimp only at hz); first | exact hz | (split at hz <;> first | exact hz | (exfalso; omega) | (split at hz <;> first | exact hz | (exfalso; omega) | (split at hz <;> first | exact hz | (exfalso; omega))))) (by omega)
        ·
          refine hs_aload_n C dX7_least_27 rfl 0 rfl ?_
          refine hs_get C u7 0 rfl rfl 0 (by decide) f7 rfl rfl dX7_least_28 ?_
          refine hs_iload C dX7_least_31 4 rfl ?_
          refine hs_iald C 1 rfl (by omega) dX7_least_33 ?_
          have b7 := hh i
          refine hs_goto (tgt := 38) C dX7_least_34 (by decide) ?_
          refine hs_istore_n (lv' := [(0, .ref y0), (1, hs_V a), (2, hs_V b), (3, hs_V (h i)), (4, hs_V i)]) C dX7_least_38 rfl (by decide) [1, 2, 3, 0, 4] rfl ?_
          refine hs_iinc (lv' := [(0, .ref y0), (1, hs_V a), (2, hs_V b), (3, hs_V (h i)), (4, hs_V (i + 1))]) C dX7_least_39 4 rfl (by decide) [1, 2, 3, 4, 0] rfl ?_
          refine hs_goto (tgt := 10) C dX7_least_42 (by decide) ?_
          exact ih3 (i + 1) (h i) (by omega) (by omega) (by have hz := (hs_up_step (by omega)).symm.trans hL; (try dsimp only at hz); first | exact hz | (split at hz <;> first | exact hz | (exfalso; omega) | (split at hz <;> first | exact hz | (exfalso; omega) | (split at hz <;> first | exact hz | (exfalso; omega))))) (by omega)
  exact Lp2 ((42 - a : Int).toNat + 1) a (h a) (by omega) (by omega) (rfl) (by omega)

set_option maxHeartbeats 4000000 in
set_option maxRecDepth 100000 in
theorem c_X7_greatest (l : Launch) (D : va_G) (cI cO : ClassId) (y0 : Nat) (y1 : Nat) (y2 : Nat) (y3 : Nat) (y4 : Nat) (y5 : Nat) (y6 : Nat) (y7 : Nat) (y8 : Nat) (y9 : Nat) (pm : Int) (fl : Int) (pt : Int) (h : Int → Int) (a : Int) (b : Int) (hh : ∀ k, 0 ≤ h k ∧ h k ≤ 50) (hab : 0 ≤ a ∧ a ≤ 40 ∧ -1 ≤ b ∧ b ≤ 40) : hs_M l D cI cO yX7_greatest wsX7_greatest ({ frames := 0, cells := 0, slots := 0, locals := 0 } : Room) [.ref y0, hs_V a, hs_V b] [hs_ob y0 7 [.ref y1, .ref y2, hs_V pm, .ref y3, hs_V fl, .ref y4, .ref y5, .ref y6, .ref y7, hs_V pt, .ref y8, .ref y9], hs_ia cI y1 41 h] (fun r (_ : Unit) => r = hs_I (mo_mx h a b)) (fun _ => [hs_ob y0 7 [.ref y1, .ref y2, hs_V pm, .ref y3, hs_V fl, .ref y4, .ref y5, .ref y6, .ref y7, hs_V pt, .ref y8, .ref y9], hs_ia cI y1 41 h]) 0 0 := by
  refine hs_enter (cc := cX7_greatest) (maxL := 5) (by decide +kernel) rfl (Nat.le_of_ble_eq_true rfl) (fun p e s m args below meth c A H0 Q C hret => ?_)
  have f7 := C.1.2.2.2.2 (.fieldLink RX7 7 "HistogramStairsModel" "h" "[I") (by decide +kernel)
  have u7 : ∀ w ∈ wsX70, w ∈ wsX7_greatest := by decide +kernel
  refine hs_lvs (lv' := [(0, .ref y0), (1, hs_V a), (2, hs_V b)]) [0, 1, 2] rfl ?_
  refine hs_aload_n C dX7_greatest_0 rfl 0 rfl ?_
  refine hs_get C u7 0 rfl rfl 0 (by decide) f7 rfl rfl dX7_greatest_1 ?_
  refine hs_iload_n C dX7_greatest_4 rfl 1 rfl ?_
  refine hs_iald C 1 rfl (by omega) dX7_greatest_5 ?_
  have b1 := hh a
  refine hs_istore_n (lv' := [(0, .ref y0), (1, hs_V a), (2, hs_V b), (3, hs_V (h a))]) C dX7_greatest_6 rfl (by decide) [1, 2, 3, 0] rfl ?_
  refine hs_iload_n C dX7_greatest_7 rfl 1 rfl ?_
  refine hs_istore (lv' := [(0, .ref y0), (1, hs_V a), (2, hs_V b), (3, hs_V (h a)), (4, hs_V a)]) C dX7_greatest_8 (by decide) [1, 2, 3, 4, 0] rfl ?_
  have Lp2 : ∀ (k : Nat) (i : Int) (x : Int), (a ≤ i ∧ i ≤ 41) → (0 ≤ x ∧ x ≤ 50) → (hs_up (fun i x => if x < h i then h i else x) i (b + 1) x = mo_mx h a b) → (42 - i < (k : Int)) → hs_J p l e ({ frames := 0, cells := 0, slots := 0, locals := 0 } : Room) s m args below meth c D A H0 5 0 0 Q 10 [(0, .ref y0), (1, hs_V a), (2, hs_V b), (3, hs_V x), (4, hs_V i)] [] [hs_ob y0 7 [.ref y1, .ref y2, hs_V pm, .ref y3, hs_V fl, .ref y4, .ref y5, .ref y6, .ref y7, hs_V pt, .ref y8, .ref y9], hs_ia cI y1 41 h] := by
    intro k
    induction k with
    | zero =>
      intro i x hi hx hL hk
      exact absurd hk (by omega)
    | succ k ih =>
      intro i x hi hx hL hk
      have ih3 := ih
      refine hs_iload C dX7_greatest_10 4 rfl ?_
      refine hs_iload_n C dX7_greatest_12 rfl 2 rfl ?_
      refine hs_icmp_gt (tgt := 45) C dX7_greatest_13 (by decide) (by omega) (by omega) (fun c4 => ?_) (fun c4 => ?_)
      ·
        refine hs_iload_n C dX7_greatest_45 rfl 3 rfl ?_
        exact hret _ _ _ () (by rw [← hL, hs_up_done (by omega)]) dX7_greatest_46 rfl
      ·
        refine hs_aload_n C dX7_greatest_16 rfl 0 rfl ?_
        refine hs_get C u7 0 rfl rfl 0 (by decide) f7 rfl rfl dX7_greatest_17 ?_
        refine hs_iload C dX7_greatest_20 4 rfl ?_
        refine hs_iald C 1 rfl (by omega) dX7_greatest_22 ?_
        have b5 := hh i
        refine hs_iload_n C dX7_greatest_23 rfl 3 rfl ?_
        refine hs_icmp_le (tgt := 37) C dX7_greatest_24 (by decide) (by omega) (by omega) (fun c6 => ?_) (fun c6 => ?_)
        ·
          refine hs_iload_n C dX7_greatest_37 rfl 3 rfl ?_
          refine hs_istore_n (lv' := [(0, .ref y0), (1, hs_V a), (2, hs_V b), (3, hs_V x), (4, hs_V i)]) C dX7_greatest_38 rfl (by decide) [1, 2, 3, 0, 4] rfl ?_
          refine hs_iinc (lv' := [(0, .ref y0), (1, hs_V a), (2, hs_V b), (3, hs_V x), (4, hs_V (i + 1))]) C dX7_greatest_39 4 rfl (by decide) [1, 2, 3, 4, 0] rfl ?_
          refine hs_goto (tgt := 10) C dX7_greatest_42 (by decide) ?_
          exact ih3 (i + 1) x (by omega) (by omega) (by have hz := (hs_up_step (by omega)).symm.trans hL; (try dsimp only at hz); first | exact hz | (split at hz <;> first | exact hz | (exfalso; omega) | (split at hz <;> first | exact hz | (exfalso; omega) | (split at hz <;> first | exact hz | (exfalso; omega))))) (by omega)
        ·
          refine hs_aload_n C dX7_greatest_27 rfl 0 rfl ?_
          refine hs_get C u7 0 rfl rfl 0 (by decide) f7 rfl rfl dX7_greatest_28 ?_
          refine hs_iload C dX7_greatest_31 4 rfl ?_
          refine hs_iald C 1 rfl (by omega) dX7_greatest_33 ?_
          have b7 := hh i
          refine hs_goto (tgt := 38) C dX7_greatest_34 (by decide) ?_
          refine hs_istore_n (lv' := [(0, .ref y0), (1, hs_V a), (2, hs_V b), (3, hs_V (h i)), (4, hs_V i)]) C dX7_greatest_38 rfl (by decide) [1, 2, 3, 0, 4] rfl ?_
          refine hs_iinc (lv' := [(0, .ref y0), (1, hs_V a), (2, hs_V b), (3, hs_V (h i)), (4, hs_V (i + 1))]) C dX7_greatest_39 4 rfl (by decide) [1, 2, 3, 4, 0] rfl ?_
          refine hs_goto (tgt := 10) C dX7_greatest_42 (by decide) ?_
          exact ih3 (i + 1) (h i) (by omega) (by omega) (by have hz := (hs_up_step (by omega)).symm.trans hL; (try dsimp only at hz); first | exact hz | (split at hz <;> first | exact hz | (exfalso; omega) | (split at hz <;> first | exact hz | (exfalso; omega) | (split at hz <;> first | exact hz | (exfalso; omega))))) (by omega)
  exact Lp2 ((42 - a : Int).toNat + 1) a (h a) (by omega) (by omega) (rfl) (by omega)

set_option maxHeartbeats 4000000 in
set_option maxRecDepth 100000 in
theorem c_X7_firstWith (l : Launch) (D : va_G) (cI cO : ClassId) (y0 : Nat) (y1 : Nat) (y2 : Nat) (y3 : Nat) (y4 : Nat) (y5 : Nat) (y6 : Nat) (y7 : Nat) (y8 : Nat) (y9 : Nat) (pm : Int) (fl : Int) (pt : Int) (h : Int → Int) (a : Int) (v : Int) (hh : ∀ k, 0 ≤ h k ∧ h k ≤ 50) (ha : 0 ≤ a) (hzv : hs_in v) (hx : ∃ j, a ≤ j ∧ j ≤ 40 ∧ h j = v) : hs_M l D cI cO yX7_firstWith wsX7_firstWith ({ frames := 0, cells := 0, slots := 0, locals := 0 } : Room) [.ref y0, hs_V a, hs_V v] [hs_ob y0 7 [.ref y1, .ref y2, hs_V pm, .ref y3, hs_V fl, .ref y4, .ref y5, .ref y6, .ref y7, hs_V pt, .ref y8, .ref y9], hs_ia cI y1 41 h] (fun r (_ : Unit) => r = hs_I (mo_fw h a v)) (fun _ => [hs_ob y0 7 [.ref y1, .ref y2, hs_V pm, .ref y3, hs_V fl, .ref y4, .ref y5, .ref y6, .ref y7, hs_V pt, .ref y8, .ref y9], hs_ia cI y1 41 h]) 0 0 := by
  refine hs_enter (cc := cX7_firstWith) (maxL := 4) (by decide +kernel) rfl (Nat.le_of_ble_eq_true rfl) (fun p e s m args below meth c A H0 Q C hret => ?_)
  have f7 := C.1.2.2.2.2 (.fieldLink RX7 7 "HistogramStairsModel" "h" "[I") (by decide +kernel)
  have u7 : ∀ w ∈ wsX70, w ∈ wsX7_firstWith := by decide +kernel
  obtain ⟨j, hj1, hj2, hj3⟩ := hx
  refine hs_lvs (lv' := [(0, .ref y0), (1, hs_V a), (2, hs_V v)]) [0, 1, 2] rfl ?_
  refine hs_iload_n C dX7_firstWith_0 rfl 1 rfl ?_
  refine hs_istore_n (lv' := [(0, .ref y0), (1, hs_V a), (2, hs_V v), (3, hs_V a)]) C dX7_firstWith_1 rfl (by decide) [1, 2, 3, 0] rfl ?_
  have Lp1 : ∀ (k : Nat) (i : Int), (a ≤ i ∧ i ≤ j) → (hs_fu1 (fun i => h i = v) i 41 = mo_fw h a v) → (41 - i < (k : Int)) → hs_J p l e ({ frames := 0, cells := 0, slots := 0, locals := 0 } : Room) s m args below meth c D A H0 4 0 0 Q 2 [(0, .ref y0), (1, hs_V a), (2, hs_V v), (3, hs_V i)] [] [hs_ob y0 7 [.ref y1, .ref y2, hs_V pm, .ref y3, hs_V fl, .ref y4, .ref y5, .ref y6, .ref y7, hs_V pt, .ref y8, .ref y9], hs_ia cI y1 41 h] := by
    intro k
    induction k with
    | zero =>
      intro i hi hL hk
      exact absurd hk (by omega)
    | succ k ih =>
      intro i hi hL hk
      have ih2 := ih
      refine hs_aload_n C dX7_firstWith_2 rfl 0 rfl ?_
      refine hs_get C u7 0 rfl rfl 0 (by decide) f7 rfl rfl dX7_firstWith_3 ?_
      refine hs_iload_n C dX7_firstWith_6 rfl 3 rfl ?_
      refine hs_iald C 1 rfl (by omega) dX7_firstWith_7 ?_
      have b3 := hh i
      refine hs_iload_n C dX7_firstWith_8 rfl 2 rfl ?_
      refine hs_icmp_eq (tgt := 18) C dX7_firstWith_9 (by decide) (by omega) (by omega) (fun c4 => ?_) (fun c4 => ?_)
      ·
        refine hs_iload_n C dX7_firstWith_18 rfl 3 rfl ?_
        exact hret _ _ _ () (by rw [← hL, hs_fu1_step (by omega), if_pos (by omega)]) dX7_firstWith_19 rfl
      ·
        refine hs_iinc (lv' := [(0, .ref y0), (1, hs_V a), (2, hs_V v), (3, hs_V (i + 1))]) C dX7_firstWith_12 3 rfl (by decide) [1, 2, 3, 0] rfl ?_
        refine hs_goto (tgt := 2) C dX7_firstWith_15 (by decide) ?_
        exact ih2 (i + 1) (by have hij : ¬ i = j := (fun q => absurd (q ▸ hj3) (by assumption)); omega) (by have hz := (hs_fu1_step (by omega)).symm.trans hL; (try dsimp only at hz); first | exact hz | (split at hz <;> first | exact hz | (exfalso; omega) | (split at hz <;> first | exact hz | (exfalso; omega) | (split at hz <;> first | exact hz | (exfalso; omega))))) (by omega)
  exact Lp1 ((41 - a : Int).toNat + 1) a (by omega) (rfl) (by omega)

set_option maxHeartbeats 4000000 in
set_option maxRecDepth 100000 in
theorem c_X7_sum (l : Launch) (D : va_G) (cI cO : ClassId) (y0 : Nat) (y1 : Nat) (y2 : Nat) (y3 : Nat) (y4 : Nat) (y5 : Nat) (y6 : Nat) (y7 : Nat) (y8 : Nat) (y9 : Nat) (pm : Int) (fl : Int) (pt : Int) (h : Int → Int) (a : Int) (b : Int) (hab : 0 ≤ a ∧ a ≤ 41 ∧ b ≤ 40 ∧ -1 ≤ b) : hs_M l D cI cO yX7_sum wsX7_sum ({ frames := 0, cells := 0, slots := 0, locals := 0 } : Room) [.ref y0, hs_V a, hs_V b] [hs_ob y0 7 [.ref y1, .ref y2, hs_V pm, .ref y3, hs_V fl, .ref y4, .ref y5, .ref y6, .ref y7, hs_V pt, .ref y8, .ref y9], hs_ia cI y1 41 h] (fun r (_ : Unit) => r = hs_I (pu_sum h a b)) (fun _ => [hs_ob y0 7 [.ref y1, .ref y2, hs_V pm, .ref y3, hs_V fl, .ref y4, .ref y5, .ref y6, .ref y7, hs_V pt, .ref y8, .ref y9], hs_ia cI y1 41 h]) 0 0 := by
  refine hs_enter (cc := cX7_sum) (maxL := 5) (by decide +kernel) rfl (Nat.le_of_ble_eq_true rfl) (fun p e s m args below meth c A H0 Q C hret => ?_)
  have f7 := C.1.2.2.2.2 (.fieldLink RX7 7 "HistogramStairsModel" "h" "[I") (by decide +kernel)
  have u7 : ∀ w ∈ wsX70, w ∈ wsX7_sum := by decide +kernel
  refine hs_lvs (lv' := [(0, .ref y0), (1, hs_V a), (2, hs_V b)]) [0, 1, 2] rfl ?_
  refine hs_iconst C dX7_sum_0 ?_
  refine hs_istore_n (lv' := [(0, .ref y0), (1, hs_V a), (2, hs_V b), (3, hs_V 0)]) C dX7_sum_1 rfl (by decide) [1, 2, 3, 0] rfl ?_
  refine hs_iload_n C dX7_sum_2 rfl 1 rfl ?_
  refine hs_istore (lv' := [(0, .ref y0), (1, hs_V a), (2, hs_V b), (3, hs_V 0), (4, hs_V a)]) C dX7_sum_3 (by decide) [1, 2, 3, 4, 0] rfl ?_
  have Lp1 : ∀ (k : Nat) (i : Int) (x : Int), (a ≤ i ∧ i ≤ 41) → (hs_up (fun i x => x + h i) i (b + 1) x = pu_sum h a b) → (42 - i < (k : Int)) → hs_J p l e ({ frames := 0, cells := 0, slots := 0, locals := 0 } : Room) s m args below meth c D A H0 5 0 0 Q 5 [(0, .ref y0), (1, hs_V a), (2, hs_V b), (3, hs_V x), (4, hs_V i)] [] [hs_ob y0 7 [.ref y1, .ref y2, hs_V pm, .ref y3, hs_V fl, .ref y4, .ref y5, .ref y6, .ref y7, hs_V pt, .ref y8, .ref y9], hs_ia cI y1 41 h] := by
    intro k
    induction k with
    | zero =>
      intro i x hi hL hk
      exact absurd hk (by omega)
    | succ k ih =>
      intro i x hi hL hk
      have ih2 := ih
      refine hs_iload C dX7_sum_5 4 rfl ?_
      refine hs_iload_n C dX7_sum_7 rfl 2 rfl ?_
      refine hs_icmp_gt (tgt := 27) C dX7_sum_8 (by decide) (by omega) (by omega) (fun c3 => ?_) (fun c3 => ?_)
      ·
        refine hs_iload_n C dX7_sum_27 rfl 3 rfl ?_
        exact hret _ _ _ () (by rw [← hL, hs_up_done (by omega)]) dX7_sum_28 rfl
      ·
        refine hs_iload_n C dX7_sum_11 rfl 3 rfl ?_
        refine hs_aload_n C dX7_sum_12 rfl 0 rfl ?_
        refine hs_get C u7 0 rfl rfl 0 (by decide) f7 rfl rfl dX7_sum_13 ?_
        refine hs_iload C dX7_sum_16 4 rfl ?_
        refine hs_iald C 1 rfl (by omega) dX7_sum_18 ?_
        refine hs_iadd C dX7_sum_19 ?_
        refine hs_istore_n (lv' := [(0, .ref y0), (1, hs_V a), (2, hs_V b), (3, hs_V (x + (h i))), (4, hs_V i)]) C dX7_sum_20 rfl (by decide) [1, 2, 3, 0, 4] rfl ?_
        refine hs_iinc (lv' := [(0, .ref y0), (1, hs_V a), (2, hs_V b), (3, hs_V (x + (h i))), (4, hs_V (i + 1))]) C dX7_sum_21 4 rfl (by decide) [1, 2, 3, 4, 0] rfl ?_
        refine hs_goto (tgt := 5) C dX7_sum_24 (by decide) ?_
        exact ih2 (i + 1) (x + (h i)) (by omega) (by have hz := (hs_up_step (by omega)).symm.trans hL; (try dsimp only at hz); first | exact hz | (split at hz <;> first | exact hz | (exfalso; omega) | (split at hz <;> first | exact hz | (exfalso; omega) | (split at hz <;> first | exact hz | (exfalso; omega))))) (by omega)
  exact Lp1 ((42 - a : Int).toNat + 1) a 0 (by omega) (rfl) (by omega)

set_option maxHeartbeats 4000000 in
set_option maxRecDepth 100000 in
theorem c_X7_depth (l : Launch) (D : va_G) (cI cO : ClassId) (y0 : Nat) (y1 : Nat) (y2 : Nat) (y3 : Nat) (y4 : Nat) (y5 : Nat) (y6 : Nat) (y7 : Nat) (y8 : Nat) (y9 : Nat) (pm : Int) (fl : Int) (pt : Int) (h : Int → Int) (a : Int) (b : Int) (i : Int) (hh : ∀ k, 0 ≤ h k ∧ h k ≤ 50) (hab : 0 ≤ a ∧ a ≤ 40 ∧ -1 ≤ b ∧ b ≤ 40 ∧ 0 ≤ i ∧ i ≤ 40) : hs_M l D cI cO yX7_depth wsX7_depth ({ frames := 1, cells := 0, slots := 0, locals := 24 } : Room) [.ref y0, hs_V a, hs_V b, hs_V i] [hs_ob y0 7 [.ref y1, .ref y2, hs_V pm, .ref y3, hs_V fl, .ref y4, .ref y5, .ref y6, .ref y7, hs_V pt, .ref y8, .ref y9], hs_ia cI y1 41 h] (fun r (_ : Unit) => r = hs_I (mo_dep h a b i)) (fun _ => [hs_ob y0 7 [.ref y1, .ref y2, hs_V pm, .ref y3, hs_V fl, .ref y4, .ref y5, .ref y6, .ref y7, hs_V pt, .ref y8, .ref y9], hs_ia cI y1 41 h]) 0 0 := by
  refine hs_enter (cc := cX7_depth) (maxL := 6) (by decide +kernel) rfl (Nat.le_of_ble_eq_true rfl) (fun p e s m args below meth c A H0 Q C hret => ?_)
  have f7 := C.1.2.2.2.2 (.fieldLink RX7 7 "HistogramStairsModel" "h" "[I") (by decide +kernel)
  have u7 : ∀ w ∈ wsX70, w ∈ wsX7_depth := by decide +kernel
  have q1 := mo_mx_bd (a := a) (b := i) hh
  have q2 := mo_mx_bd (a := i) (b := b) hh
  refine hs_lvs (lv' := [(0, .ref y0), (1, hs_V a), (2, hs_V b), (3, hs_V i)]) [0, 1, 2, 3] rfl ?_
  refine hs_aload_n C dX7_depth_0 rfl 0 rfl ?_
  refine hs_iload_n C dX7_depth_1 rfl 1 rfl ?_
  refine hs_iload_n C dX7_depth_2 rfl 3 rfl ?_
  refine hs_callVi (win := [hs_ob y0 7 [.ref y1, .ref y2, hs_V pm, .ref y3, hs_V fl, .ref y4, .ref y5, .ref y6, .ref y7, hs_V pt, .ref y8, .ref y9], hs_ia cI y1 41 h]) (wr := []) (As := [hs_V a, hs_V i]) (rest := []) C (c_X7_greatest l D cI cO y0 y1 y2 y3 y4 y5 y6 y7 y8 y9 pm fl pt h a i hh (by omega)) 7 0 rfl rfl rfl (cwV 2 C.1.2.2.2.2 gX7_depth_X7_greatest rfl rfl rfl (by decide +kernel) ⟨Nat.le_of_ble_eq_true rfl, Nat.le_of_ble_eq_true rfl⟩) rfl rfl (Nat.le_of_ble_eq_true rfl) dX7_depth_3 ⟨Nat.le_of_ble_eq_true rfl, Nat.le_of_ble_eq_true rfl⟩ (fun rr uu1 hp => ?_)
  obtain rfl := hp
  refine hs_re0 (w' := [hs_ob y0 7 [.ref y1, .ref y2, hs_V pm, .ref y3, hs_V fl, .ref y4, .ref y5, .ref y6, .ref y7, hs_V pt, .ref y8, .ref y9], hs_ia cI y1 41 h]) [0, 1] rfl (by decide) ?_
  refine hs_istore (lv' := [(0, .ref y0), (1, hs_V a), (2, hs_V b), (3, hs_V i), (4, hs_V (mo_mx h a i))]) C dX7_depth_6 (by decide) [1, 2, 3, 4, 0] rfl ?_
  refine hs_aload_n C dX7_depth_8 rfl 0 rfl ?_
  refine hs_iload_n C dX7_depth_9 rfl 3 rfl ?_
  refine hs_iload_n C dX7_depth_10 rfl 2 rfl ?_
  refine hs_callVi (win := [hs_ob y0 7 [.ref y1, .ref y2, hs_V pm, .ref y3, hs_V fl, .ref y4, .ref y5, .ref y6, .ref y7, hs_V pt, .ref y8, .ref y9], hs_ia cI y1 41 h]) (wr := []) (As := [hs_V i, hs_V b]) (rest := []) C (c_X7_greatest l D cI cO y0 y1 y2 y3 y4 y5 y6 y7 y8 y9 pm fl pt h i b hh (by omega)) 7 0 rfl rfl rfl (cwV 2 C.1.2.2.2.2 gX7_depth_X7_greatest rfl rfl rfl (by decide +kernel) ⟨Nat.le_of_ble_eq_true rfl, Nat.le_of_ble_eq_true rfl⟩) rfl rfl (Nat.le_of_ble_eq_true rfl) dX7_depth_11 ⟨Nat.le_of_ble_eq_true rfl, Nat.le_of_ble_eq_true rfl⟩ (fun rr uu2 hp => ?_)
  obtain rfl := hp
  refine hs_re0 (w' := [hs_ob y0 7 [.ref y1, .ref y2, hs_V pm, .ref y3, hs_V fl, .ref y4, .ref y5, .ref y6, .ref y7, hs_V pt, .ref y8, .ref y9], hs_ia cI y1 41 h]) [0, 1] rfl (by decide) ?_
  refine hs_istore (lv' := [(0, .ref y0), (1, hs_V a), (2, hs_V b), (3, hs_V i), (4, hs_V (mo_mx h a i)), (5, hs_V (mo_mx h i b))]) C dX7_depth_14 (by decide) [1, 2, 3, 4, 5, 0] rfl ?_
  refine hs_iload C dX7_depth_16 4 rfl ?_
  refine hs_iload C dX7_depth_18 5 rfl ?_
  refine hs_icmp_ge (tgt := 28) C dX7_depth_20 (by decide) (by omega) (by omega) (fun c3 => ?_) (fun c3 => ?_)
  ·
    refine hs_iload C dX7_depth_28 5 rfl ?_
    refine hs_aload_n C dX7_depth_30 rfl 0 rfl ?_
    refine hs_get C u7 0 rfl rfl 0 (by decide) f7 rfl rfl dX7_depth_31 ?_
    refine hs_iload_n C dX7_depth_34 rfl 3 rfl ?_
    refine hs_iald C 1 rfl (by omega) dX7_depth_35 ?_
    have b4 := hh i
    refine hs_isub C dX7_depth_36 ?_
    exact hret _ _ _ () (by unfold mo_dep; first | rw [if_pos (by omega)] | rw [if_neg (by omega)]) dX7_depth_37 rfl
  ·
    refine hs_iload C dX7_depth_23 4 rfl ?_
    refine hs_goto (tgt := 30) C dX7_depth_25 (by decide) ?_
    refine hs_aload_n C dX7_depth_30 rfl 0 rfl ?_
    refine hs_get C u7 0 rfl rfl 0 (by decide) f7 rfl rfl dX7_depth_31 ?_
    refine hs_iload_n C dX7_depth_34 rfl 3 rfl ?_
    refine hs_iald C 1 rfl (by omega) dX7_depth_35 ?_
    have b5 := hh i
    refine hs_isub C dX7_depth_36 ?_
    exact hret _ _ _ () (by unfold mo_dep; first | rw [if_pos (by omega)] | rw [if_neg (by omega)]) dX7_depth_37 rfl

set_option maxHeartbeats 4000000 in
set_option maxRecDepth 100000 in
theorem c_X7_water (l : Launch) (D : va_G) (cI cO : ClassId) (y0 : Nat) (y1 : Nat) (y2 : Nat) (y3 : Nat) (y4 : Nat) (y5 : Nat) (y6 : Nat) (y7 : Nat) (y8 : Nat) (y9 : Nat) (pm : Int) (fl : Int) (pt : Int) (h : Int → Int) (a : Int) (b : Int) (hh : ∀ k, 0 ≤ h k ∧ h k ≤ 50) (hab : 0 ≤ a ∧ a ≤ 40 ∧ b ≤ 39 ∧ -1 ≤ b) : hs_M l D cI cO yX7_water wsX7_water ({ frames := 2, cells := 0, slots := 0, locals := 49 } : Room) [.ref y0, hs_V a, hs_V b] [hs_ob y0 7 [.ref y1, .ref y2, hs_V pm, .ref y3, hs_V fl, .ref y4, .ref y5, .ref y6, .ref y7, hs_V pt, .ref y8, .ref y9], hs_ia cI y1 41 h] (fun r (_ : Unit) => r = hs_I (mo_wat h a b)) (fun _ => [hs_ob y0 7 [.ref y1, .ref y2, hs_V pm, .ref y3, hs_V fl, .ref y4, .ref y5, .ref y6, .ref y7, hs_V pt, .ref y8, .ref y9], hs_ia cI y1 41 h]) 0 0 := by
  refine hs_enter (cc := cX7_water) (maxL := 5) (by decide +kernel) rfl (Nat.le_of_ble_eq_true rfl) (fun p e s m args below meth c A H0 Q C hret => ?_)
  refine hs_lvs (lv' := [(0, .ref y0), (1, hs_V a), (2, hs_V b)]) [0, 1, 2] rfl ?_
  refine hs_iconst C dX7_water_0 ?_
  refine hs_istore_n (lv' := [(0, .ref y0), (1, hs_V a), (2, hs_V b), (3, hs_V 0)]) C dX7_water_1 rfl (by decide) [1, 2, 3, 0] rfl ?_
  refine hs_iload_n C dX7_water_2 rfl 1 rfl ?_
  refine hs_istore (lv' := [(0, .ref y0), (1, hs_V a), (2, hs_V b), (3, hs_V 0), (4, hs_V a)]) C dX7_water_3 (by decide) [1, 2, 3, 4, 0] rfl ?_
  have Lp1 : ∀ (k : Nat) (i : Int) (x : Int), (a ≤ i ∧ i ≤ 40) → (hs_up (fun i x => x + mo_dep h a b i) i (b + 1) x = mo_wat h a b) → (41 - i < (k : Int)) → hs_J p l e ({ frames := 2, cells := 0, slots := 0, locals := 49 } : Room) s m args below meth c D A H0 5 0 0 Q 5 [(0, .ref y0), (1, hs_V a), (2, hs_V b), (3, hs_V x), (4, hs_V i)] [] [hs_ob y0 7 [.ref y1, .ref y2, hs_V pm, .ref y3, hs_V fl, .ref y4, .ref y5, .ref y6, .ref y7, hs_V pt, .ref y8, .ref y9], hs_ia cI y1 41 h] := by
    intro k
    induction k with
    | zero =>
      intro i x hi hL hk
      exact absurd hk (by omega)
    | succ k ih =>
      intro i x hi hL hk
      have ih2 := ih
      refine hs_iload C dX7_water_5 4 rfl ?_
      refine hs_iload_n C dX7_water_7 rfl 2 rfl ?_
      refine hs_icmp_gt (tgt := 28) C dX7_water_8 (by decide) (by omega) (by omega) (fun c3 => ?_) (fun c3 => ?_)
      ·
        refine hs_iload_n C dX7_water_28 rfl 3 rfl ?_
        exact hret _ _ _ () (by rw [← hL, hs_up_done (by omega)]) dX7_water_29 rfl
      ·
        refine hs_iload_n C dX7_water_11 rfl 3 rfl ?_
        refine hs_aload_n C dX7_water_12 rfl 0 rfl ?_
        refine hs_iload_n C dX7_water_13 rfl 1 rfl ?_
        refine hs_iload_n C dX7_water_14 rfl 2 rfl ?_
        refine hs_iload C dX7_water_15 4 rfl ?_
        refine hs_callVi (win := [hs_ob y0 7 [.ref y1, .ref y2, hs_V pm, .ref y3, hs_V fl, .ref y4, .ref y5, .ref y6, .ref y7, hs_V pt, .ref y8, .ref y9], hs_ia cI y1 41 h]) (wr := []) (As := [hs_V a, hs_V b, hs_V i]) (rest := [hs_V x]) C (c_X7_depth l D cI cO y0 y1 y2 y3 y4 y5 y6 y7 y8 y9 pm fl pt h a b i hh (by omega)) 7 0 rfl rfl rfl (cwV 3 C.1.2.2.2.2 gX7_water_X7_depth rfl rfl rfl (by decide +kernel) ⟨Nat.le_of_ble_eq_true rfl, Nat.le_of_ble_eq_true rfl⟩) rfl rfl (Nat.le_of_ble_eq_true rfl) dX7_water_17 ⟨Nat.le_of_ble_eq_true rfl, Nat.le_of_ble_eq_true rfl⟩ (fun rr uu4 hp => ?_)
        obtain rfl := hp
        refine hs_re0 (w' := [hs_ob y0 7 [.ref y1, .ref y2, hs_V pm, .ref y3, hs_V fl, .ref y4, .ref y5, .ref y6, .ref y7, hs_V pt, .ref y8, .ref y9], hs_ia cI y1 41 h]) [0, 1] rfl (by decide) ?_
        refine hs_iadd C dX7_water_20 ?_
        refine hs_istore_n (lv' := [(0, .ref y0), (1, hs_V a), (2, hs_V b), (3, hs_V (x + (mo_dep h a b i))), (4, hs_V i)]) C dX7_water_21 rfl (by decide) [1, 2, 3, 0, 4] rfl ?_
        refine hs_iinc (lv' := [(0, .ref y0), (1, hs_V a), (2, hs_V b), (3, hs_V (x + (mo_dep h a b i))), (4, hs_V (i + 1))]) C dX7_water_22 4 rfl (by decide) [1, 2, 3, 4, 0] rfl ?_
        refine hs_goto (tgt := 5) C dX7_water_25 (by decide) ?_
        exact ih2 (i + 1) (x + (mo_dep h a b i)) (by omega) (by have hz := (hs_up_step (by omega)).symm.trans hL; (try dsimp only at hz); first | exact hz | (split at hz <;> first | exact hz | (exfalso; omega) | (split at hz <;> first | exact hz | (exfalso; omega) | (split at hz <;> first | exact hz | (exfalso; omega))))) (by omega)
  exact Lp1 ((41 - a : Int).toNat + 1) a 0 (by omega) (rfl) (by omega)

set_option maxHeartbeats 4000000 in
set_option maxRecDepth 100000 in
theorem c_X7_isWet (l : Launch) (D : va_G) (cI cO : ClassId) (y0 : Nat) (y1 : Nat) (y2 : Nat) (y3 : Nat) (y4 : Nat) (y5 : Nat) (y6 : Nat) (y7 : Nat) (y8 : Nat) (y9 : Nat) (pm : Int) (fl : Int) (pt : Int) (h : Int → Int) (i : Int) (hh : ∀ k, 0 ≤ h k ∧ h k ≤ 50) (hN : 0 ≤ h 40 ∧ h 40 ≤ 40) (hzi : hs_in i) : hs_M l D cI cO yX7_isWet wsX7_isWet ({ frames := 2, cells := 0, slots := 0, locals := 49 } : Room) [.ref y0, hs_V i] [hs_ob y0 7 [.ref y1, .ref y2, hs_V pm, .ref y3, hs_V fl, .ref y4, .ref y5, .ref y6, .ref y7, hs_V pt, .ref y8, .ref y9], hs_ia cI y1 41 h] (fun r (_ : Unit) => r = hs_I (if mo_wet h i then 1 else 0)) (fun _ => [hs_ob y0 7 [.ref y1, .ref y2, hs_V pm, .ref y3, hs_V fl, .ref y4, .ref y5, .ref y6, .ref y7, hs_V pt, .ref y8, .ref y9], hs_ia cI y1 41 h]) 0 0 := by
  refine hs_enter (cc := cX7_isWet) (maxL := 2) (by decide +kernel) rfl (Nat.le_of_ble_eq_true rfl) (fun p e s m args below meth c A H0 Q C hret => ?_)
  have q1 := mo_dep_bd (a := 0) (b := h 40 - 1) (i := i) hh
  refine hs_lvs (lv' := [(0, .ref y0), (1, hs_V i)]) [0, 1] rfl ?_
  refine hs_aload_n C dX7_isWet_0 rfl 0 rfl ?_
  refine hs_iload_n C dX7_isWet_1 rfl 1 rfl ?_
  refine hs_callVi (win := [hs_ob y0 7 [.ref y1, .ref y2, hs_V pm, .ref y3, hs_V fl, .ref y4, .ref y5, .ref y6, .ref y7, hs_V pt, .ref y8, .ref y9], hs_ia cI y1 41 h]) (wr := []) (As := [hs_V i]) (rest := []) C (c_X7_isColumn l D cI cO y0 y1 y2 y3 y4 y5 y6 y7 y8 y9 pm fl pt h i (by omega) (by omega)) 7 0 rfl rfl rfl (cwV 1 C.1.2.2.2.2 gX7_isWet_X7_isColumn rfl rfl rfl (by decide +kernel) ⟨Nat.le_of_ble_eq_true rfl, Nat.le_of_ble_eq_true rfl⟩) rfl rfl (Nat.le_of_ble_eq_true rfl) dX7_isWet_2 ⟨Nat.le_of_ble_eq_true rfl, Nat.le_of_ble_eq_true rfl⟩ (fun rr uu1 hp => ?_)
  obtain rfl := hp
  refine hs_re0 (w' := [hs_ob y0 7 [.ref y1, .ref y2, hs_V pm, .ref y3, hs_V fl, .ref y4, .ref y5, .ref y6, .ref y7, hs_V pt, .ref y8, .ref y9], hs_ia cI y1 41 h]) [0, 1] rfl (by decide) ?_
  refine hs_ifeq_b (tgt := 27) C dX7_isWet_5 (by decide) (fun c2 => ?_) (fun c2 => ?_)
  ·
    refine hs_iconst C dX7_isWet_27 ?_
    exact hret _ _ _ () (by first | (rw [if_pos (show mo_wet h i by unfold mo_wet; omega)]) | (rw [if_neg (show ¬ mo_wet h i by unfold mo_wet; omega)])) dX7_isWet_28 rfl
  ·
    refine hs_aload_n C dX7_isWet_8 rfl 0 rfl ?_
    refine hs_iconst C dX7_isWet_9 ?_
    refine hs_aload_n C dX7_isWet_10 rfl 0 rfl ?_
    refine hs_callVi (win := [hs_ob y0 7 [.ref y1, .ref y2, hs_V pm, .ref y3, hs_V fl, .ref y4, .ref y5, .ref y6, .ref y7, hs_V pt, .ref y8, .ref y9], hs_ia cI y1 41 h]) (wr := []) (As := []) (rest := [hs_V 0, .ref y0]) C (c_X7_many l D cI cO y0 y1 y2 y3 y4 y5 y6 y7 y8 y9 pm fl pt h ) 7 0 rfl rfl rfl (cwV 0 C.1.2.2.2.2 gX7_isWet_X7_many rfl rfl rfl (by decide +kernel) ⟨Nat.le_of_ble_eq_true rfl, Nat.le_of_ble_eq_true rfl⟩) rfl rfl (Nat.le_of_ble_eq_true rfl) dX7_isWet_11 ⟨Nat.le_of_ble_eq_true rfl, Nat.le_of_ble_eq_true rfl⟩ (fun rr uu3 hp => ?_)
    obtain rfl := hp
    refine hs_re0 (w' := [hs_ob y0 7 [.ref y1, .ref y2, hs_V pm, .ref y3, hs_V fl, .ref y4, .ref y5, .ref y6, .ref y7, hs_V pt, .ref y8, .ref y9], hs_ia cI y1 41 h]) [0, 1] rfl (by decide) ?_
    refine hs_iconst C dX7_isWet_14 ?_
    refine hs_isub C dX7_isWet_15 ?_
    refine hs_iload_n C dX7_isWet_16 rfl 1 rfl ?_
    refine hs_callVi (win := [hs_ob y0 7 [.ref y1, .ref y2, hs_V pm, .ref y3, hs_V fl, .ref y4, .ref y5, .ref y6, .ref y7, hs_V pt, .ref y8, .ref y9], hs_ia cI y1 41 h]) (wr := []) (As := [hs_V 0, hs_V ((h 40) - 1), hs_V i]) (rest := []) C (c_X7_depth l D cI cO y0 y1 y2 y3 y4 y5 y6 y7 y8 y9 pm fl pt h 0 ((h 40) - 1) i hh (by omega)) 7 0 rfl rfl rfl (cwV 3 C.1.2.2.2.2 gX7_isWet_X7_depth rfl rfl rfl (by decide +kernel) ⟨Nat.le_of_ble_eq_true rfl, Nat.le_of_ble_eq_true rfl⟩) rfl rfl (Nat.le_of_ble_eq_true rfl) dX7_isWet_17 ⟨Nat.le_of_ble_eq_true rfl, Nat.le_of_ble_eq_true rfl⟩ (fun rr uu4 hp => ?_)
    obtain rfl := hp
    refine hs_re0 (w' := [hs_ob y0 7 [.ref y1, .ref y2, hs_V pm, .ref y3, hs_V fl, .ref y4, .ref y5, .ref y6, .ref y7, hs_V pt, .ref y8, .ref y9], hs_ia cI y1 41 h]) [0, 1] rfl (by decide) ?_
    refine hs_if_le (tgt := 27) C dX7_isWet_20 (by decide) (by omega) (fun c5 => ?_) (fun c5 => ?_)
    ·
      refine hs_iconst C dX7_isWet_27 ?_
      exact hret _ _ _ () (by first | (rw [if_pos (show mo_wet h i by unfold mo_wet; omega)]) | (rw [if_neg (show ¬ mo_wet h i by unfold mo_wet; omega)])) dX7_isWet_28 rfl
    ·
      refine hs_iconst C dX7_isWet_23 ?_
      refine hs_goto (tgt := 28) C dX7_isWet_24 (by decide) ?_
      exact hret _ _ _ () (by first | (rw [if_pos (show mo_wet h i by unfold mo_wet; omega)]) | (rw [if_neg (show ¬ mo_wet h i by unfold mo_wet; omega)])) dX7_isWet_28 rfl

set_option maxHeartbeats 4000000 in
set_option maxRecDepth 100000 in
theorem c_X7_beginsPool (l : Launch) (D : va_G) (cI cO : ClassId) (y0 : Nat) (y1 : Nat) (y2 : Nat) (y3 : Nat) (y4 : Nat) (y5 : Nat) (y6 : Nat) (y7 : Nat) (y8 : Nat) (y9 : Nat) (pm : Int) (fl : Int) (pt : Int) (h : Int → Int) (i : Int) (hh : ∀ k, 0 ≤ h k ∧ h k ≤ 50) (hN : 0 ≤ h 40 ∧ h 40 ≤ 40) (hzi : -1 ≤ i ∧ i ≤ 50) : hs_M l D cI cO yX7_beginsPool wsX7_beginsPool ({ frames := 3, cells := 0, slots := 0, locals := 70 } : Room) [.ref y0, hs_V i] [hs_ob y0 7 [.ref y1, .ref y2, hs_V pm, .ref y3, hs_V fl, .ref y4, .ref y5, .ref y6, .ref y7, hs_V pt, .ref y8, .ref y9], hs_ia cI y1 41 h] (fun r (_ : Unit) => r = hs_I (if mo_bp h i then 1 else 0)) (fun _ => [hs_ob y0 7 [.ref y1, .ref y2, hs_V pm, .ref y3, hs_V fl, .ref y4, .ref y5, .ref y6, .ref y7, hs_V pt, .ref y8, .ref y9], hs_ia cI y1 41 h]) 0 0 := by
  refine hs_enter (cc := cX7_beginsPool) (maxL := 2) (by decide +kernel) rfl (Nat.le_of_ble_eq_true rfl) (fun p e s m args below meth c A H0 Q C hret => ?_)
  refine hs_lvs (lv' := [(0, .ref y0), (1, hs_V i)]) [0, 1] rfl ?_
  refine hs_aload_n C dX7_beginsPool_0 rfl 0 rfl ?_
  refine hs_iload_n C dX7_beginsPool_1 rfl 1 rfl ?_
  refine hs_callVi (win := [hs_ob y0 7 [.ref y1, .ref y2, hs_V pm, .ref y3, hs_V fl, .ref y4, .ref y5, .ref y6, .ref y7, hs_V pt, .ref y8, .ref y9], hs_ia cI y1 41 h]) (wr := []) (As := [hs_V i]) (rest := []) C (c_X7_isWet l D cI cO y0 y1 y2 y3 y4 y5 y6 y7 y8 y9 pm fl pt h i hh (by omega) (by omega)) 7 0 rfl rfl rfl (cwV 1 C.1.2.2.2.2 gX7_beginsPool_X7_isWet rfl rfl rfl (by decide +kernel) ⟨Nat.le_of_ble_eq_true rfl, Nat.le_of_ble_eq_true rfl⟩) rfl rfl (Nat.le_of_ble_eq_true rfl) dX7_beginsPool_2 ⟨Nat.le_of_ble_eq_true rfl, Nat.le_of_ble_eq_true rfl⟩ (fun rr uu1 hp => ?_)
  obtain rfl := hp
  refine hs_re0 (w' := [hs_ob y0 7 [.ref y1, .ref y2, hs_V pm, .ref y3, hs_V fl, .ref y4, .ref y5, .ref y6, .ref y7, hs_V pt, .ref y8, .ref y9], hs_ia cI y1 41 h]) [0, 1] rfl (by decide) ?_
  refine hs_ifeq_b (tgt := 22) C dX7_beginsPool_5 (by decide) (fun c2 => ?_) (fun c2 => ?_)
  ·
    refine hs_iconst C dX7_beginsPool_22 ?_
    exact hret _ _ _ () (by first | (rw [if_pos (show mo_bp h i from ⟨by assumption, by assumption⟩)]) | (rw [if_neg (show ¬ mo_bp h i from fun z => by first | exact absurd z.1 (by assumption) | exact absurd (by assumption) z.2)])) dX7_beginsPool_23 rfl
  ·
    refine hs_aload_n C dX7_beginsPool_8 rfl 0 rfl ?_
    refine hs_iload_n C dX7_beginsPool_9 rfl 1 rfl ?_
    refine hs_iconst C dX7_beginsPool_10 ?_
    refine hs_isub C dX7_beginsPool_11 ?_
    refine hs_callVi (win := [hs_ob y0 7 [.ref y1, .ref y2, hs_V pm, .ref y3, hs_V fl, .ref y4, .ref y5, .ref y6, .ref y7, hs_V pt, .ref y8, .ref y9], hs_ia cI y1 41 h]) (wr := []) (As := [hs_V (i - 1)]) (rest := []) C (c_X7_isWet l D cI cO y0 y1 y2 y3 y4 y5 y6 y7 y8 y9 pm fl pt h (i - 1) hh (by omega) (by omega)) 7 0 rfl rfl rfl (cwV 1 C.1.2.2.2.2 gX7_beginsPool_X7_isWet rfl rfl rfl (by decide +kernel) ⟨Nat.le_of_ble_eq_true rfl, Nat.le_of_ble_eq_true rfl⟩) rfl rfl (Nat.le_of_ble_eq_true rfl) dX7_beginsPool_12 ⟨Nat.le_of_ble_eq_true rfl, Nat.le_of_ble_eq_true rfl⟩ (fun rr uu3 hp => ?_)
    obtain rfl := hp
    refine hs_re0 (w' := [hs_ob y0 7 [.ref y1, .ref y2, hs_V pm, .ref y3, hs_V fl, .ref y4, .ref y5, .ref y6, .ref y7, hs_V pt, .ref y8, .ref y9], hs_ia cI y1 41 h]) [0, 1] rfl (by decide) ?_
    refine hs_ifne_b (tgt := 22) C dX7_beginsPool_15 (by decide) (fun c4 => ?_) (fun c4 => ?_)
    ·
      refine hs_iconst C dX7_beginsPool_22 ?_
      exact hret _ _ _ () (by first | (rw [if_pos (show mo_bp h i from ⟨by assumption, by assumption⟩)]) | (rw [if_neg (show ¬ mo_bp h i from fun z => by first | exact absurd z.1 (by assumption) | exact absurd (by assumption) z.2)])) dX7_beginsPool_23 rfl
    ·
      refine hs_iconst C dX7_beginsPool_18 ?_
      refine hs_goto (tgt := 23) C dX7_beginsPool_19 (by decide) ?_
      exact hret _ _ _ () (by first | (rw [if_pos (show mo_bp h i from ⟨by assumption, by assumption⟩)]) | (rw [if_neg (show ¬ mo_bp h i from fun z => by first | exact absurd z.1 (by assumption) | exact absurd (by assumption) z.2)])) dX7_beginsPool_23 rfl

set_option maxHeartbeats 4000000 in
set_option maxRecDepth 100000 in
theorem c_X7_pools (l : Launch) (D : va_G) (cI cO : ClassId) (y0 : Nat) (y1 : Nat) (y2 : Nat) (y3 : Nat) (y4 : Nat) (y5 : Nat) (y6 : Nat) (y7 : Nat) (y8 : Nat) (y9 : Nat) (pm : Int) (fl : Int) (pt : Int) (h : Int → Int) (hh : ∀ k, 0 ≤ h k ∧ h k ≤ 50) (hN : 0 ≤ h 40 ∧ h 40 ≤ 40) : hs_M l D cI cO yX7_pools wsX7_pools ({ frames := 4, cells := 0, slots := 0, locals := 91 } : Room) [.ref y0] [hs_ob y0 7 [.ref y1, .ref y2, hs_V pm, .ref y3, hs_V fl, .ref y4, .ref y5, .ref y6, .ref y7, hs_V pt, .ref y8, .ref y9], hs_ia cI y1 41 h] (fun r (_ : Unit) => r = hs_I (mo_pools h)) (fun _ => [hs_ob y0 7 [.ref y1, .ref y2, hs_V pm, .ref y3, hs_V fl, .ref y4, .ref y5, .ref y6, .ref y7, hs_V pt, .ref y8, .ref y9], hs_ia cI y1 41 h]) 0 0 := by
  refine hs_enter (cc := cX7_pools) (maxL := 3) (by decide +kernel) rfl (Nat.le_of_ble_eq_true rfl) (fun p e s m args below meth c A H0 Q C hret => ?_)
  refine hs_lvs (lv' := [(0, .ref y0)]) [0] rfl ?_
  refine hs_iconst C dX7_pools_0 ?_
  refine hs_istore_n (lv' := [(0, .ref y0), (1, hs_V 0)]) C dX7_pools_1 rfl (by decide) [1, 0] rfl ?_
  refine hs_iconst C dX7_pools_2 ?_
  refine hs_istore_n (lv' := [(0, .ref y0), (1, hs_V 0), (2, hs_V 0)]) C dX7_pools_3 rfl (by decide) [1, 2, 0] rfl ?_
  have Lp1 : ∀ (k : Nat) (i : Int) (x : Int), (0 ≤ i ∧ i ≤ h 40) → (hs_up (fun i x => if mo_bp h i then x + 1 else x + 0) i (h 40) x = mo_pools h) → (h 40 - i < (k : Int)) → hs_J p l e ({ frames := 4, cells := 0, slots := 0, locals := 91 } : Room) s m args below meth c D A H0 3 0 0 Q 4 [(0, .ref y0), (1, hs_V x), (2, hs_V i)] [] [hs_ob y0 7 [.ref y1, .ref y2, hs_V pm, .ref y3, hs_V fl, .ref y4, .ref y5, .ref y6, .ref y7, hs_V pt, .ref y8, .ref y9], hs_ia cI y1 41 h] := by
    intro k
    induction k with
    | zero =>
      intro i x hi hL hk
      exact absurd hk (by omega)
    | succ k ih =>
      intro i x hi hL hk
      have ih2 := ih
      refine hs_iload_n C dX7_pools_4 rfl 2 rfl ?_
      refine hs_aload_n C dX7_pools_5 rfl 0 rfl ?_
      refine hs_callVi (win := [hs_ob y0 7 [.ref y1, .ref y2, hs_V pm, .ref y3, hs_V fl, .ref y4, .ref y5, .ref y6, .ref y7, hs_V pt, .ref y8, .ref y9], hs_ia cI y1 41 h]) (wr := []) (As := []) (rest := [hs_V i]) C (c_X7_many l D cI cO y0 y1 y2 y3 y4 y5 y6 y7 y8 y9 pm fl pt h ) 7 0 rfl rfl rfl (cwV 0 C.1.2.2.2.2 gX7_pools_X7_many rfl rfl rfl (by decide +kernel) ⟨Nat.le_of_ble_eq_true rfl, Nat.le_of_ble_eq_true rfl⟩) rfl rfl (Nat.le_of_ble_eq_true rfl) dX7_pools_6 ⟨Nat.le_of_ble_eq_true rfl, Nat.le_of_ble_eq_true rfl⟩ (fun rr uu3 hp => ?_)
      obtain rfl := hp
      refine hs_re0 (w' := [hs_ob y0 7 [.ref y1, .ref y2, hs_V pm, .ref y3, hs_V fl, .ref y4, .ref y5, .ref y6, .ref y7, hs_V pt, .ref y8, .ref y9], hs_ia cI y1 41 h]) [0, 1] rfl (by decide) ?_
      refine hs_icmp_ge (tgt := 34) C dX7_pools_9 (by decide) (by omega) (by omega) (fun c4 => ?_) (fun c4 => ?_)
      ·
        refine hs_iload_n C dX7_pools_34 rfl 1 rfl ?_
        exact hret _ _ _ () (by rw [← hL, hs_up_done (by omega)]) dX7_pools_35 rfl
      ·
        refine hs_iload_n C dX7_pools_12 rfl 1 rfl ?_
        refine hs_aload_n C dX7_pools_13 rfl 0 rfl ?_
        refine hs_iload_n C dX7_pools_14 rfl 2 rfl ?_
        refine hs_callVi (win := [hs_ob y0 7 [.ref y1, .ref y2, hs_V pm, .ref y3, hs_V fl, .ref y4, .ref y5, .ref y6, .ref y7, hs_V pt, .ref y8, .ref y9], hs_ia cI y1 41 h]) (wr := []) (As := [hs_V i]) (rest := [hs_V x]) C (c_X7_beginsPool l D cI cO y0 y1 y2 y3 y4 y5 y6 y7 y8 y9 pm fl pt h i hh (by omega) (by omega)) 7 0 rfl rfl rfl (cwV 1 C.1.2.2.2.2 gX7_pools_X7_beginsPool rfl rfl rfl (by decide +kernel) ⟨Nat.le_of_ble_eq_true rfl, Nat.le_of_ble_eq_true rfl⟩) rfl rfl (Nat.le_of_ble_eq_true rfl) dX7_pools_15 ⟨Nat.le_of_ble_eq_true rfl, Nat.le_of_ble_eq_true rfl⟩ (fun rr uu5 hp => ?_)
        obtain rfl := hp
        refine hs_re0 (w' := [hs_ob y0 7 [.ref y1, .ref y2, hs_V pm, .ref y3, hs_V fl, .ref y4, .ref y5, .ref y6, .ref y7, hs_V pt, .ref y8, .ref y9], hs_ia cI y1 41 h]) [0, 1] rfl (by decide) ?_
        refine hs_ifeq_b (tgt := 25) C dX7_pools_18 (by decide) (fun c6 => ?_) (fun c6 => ?_)
        ·
          refine hs_iconst C dX7_pools_25 ?_
          refine hs_iadd C dX7_pools_26 ?_
          refine hs_istore_n (lv' := [(0, .ref y0), (1, hs_V (x + 0)), (2, hs_V i)]) C dX7_pools_27 rfl (by decide) [1, 0, 2] rfl ?_
          refine hs_iinc (lv' := [(0, .ref y0), (1, hs_V (x + 0)), (2, hs_V (i + 1))]) C dX7_pools_28 2 rfl (by decide) [1, 2, 0] rfl ?_
          refine hs_goto (tgt := 4) C dX7_pools_31 (by decide) ?_
          exact ih2 (i + 1) (x + 0) (by omega) (by have hz := (hs_up_step (by omega)).symm.trans hL; first | (rw [if_pos (by assumption)] at hz; exact hz) | (rw [if_neg (by assumption)] at hz; exact hz)) (by omega)
        ·
          refine hs_iconst C dX7_pools_21 ?_
          refine hs_goto (tgt := 26) C dX7_pools_22 (by decide) ?_
          refine hs_iadd C dX7_pools_26 ?_
          refine hs_istore_n (lv' := [(0, .ref y0), (1, hs_V (x + 1)), (2, hs_V i)]) C dX7_pools_27 rfl (by decide) [1, 0, 2] rfl ?_
          refine hs_iinc (lv' := [(0, .ref y0), (1, hs_V (x + 1)), (2, hs_V (i + 1))]) C dX7_pools_28 2 rfl (by decide) [1, 2, 0] rfl ?_
          refine hs_goto (tgt := 4) C dX7_pools_31 (by decide) ?_
          exact ih2 (i + 1) (x + 1) (by omega) (by have hz := (hs_up_step (by omega)).symm.trans hL; first | (rw [if_pos (by assumption)] at hz; exact hz) | (rw [if_neg (by assumption)] at hz; exact hz)) (by omega)
  exact Lp1 ((h 40 - 0 : Int).toNat + 1) 0 0 (by omega) (rfl) (by omega)

set_option maxHeartbeats 4000000 in
set_option maxRecDepth 100000 in
theorem c_X7_poolBegin (l : Launch) (D : va_G) (cI cO : ClassId) (y0 : Nat) (y1 : Nat) (y2 : Nat) (y3 : Nat) (y4 : Nat) (y5 : Nat) (y6 : Nat) (y7 : Nat) (y8 : Nat) (y9 : Nat) (pm : Int) (fl : Int) (pt : Int) (h : Int → Int) (q : Int) (hh : ∀ k, 0 ≤ h k ∧ h k ≤ 50) (hN : 0 ≤ h 40 ∧ h 40 ≤ 40) (hzq : 0 ≤ q ∧ hs_in q) : hs_M l D cI cO yX7_poolBegin wsX7_poolBegin ({ frames := 4, cells := 0, slots := 0, locals := 91 } : Room) [.ref y0, hs_V q] [hs_ob y0 7 [.ref y1, .ref y2, hs_V pm, .ref y3, hs_V fl, .ref y4, .ref y5, .ref y6, .ref y7, hs_V pt, .ref y8, .ref y9], hs_ia cI y1 41 h] (fun r (_ : Unit) => r = hs_I (mo_pb h q)) (fun _ => [hs_ob y0 7 [.ref y1, .ref y2, hs_V pm, .ref y3, hs_V fl, .ref y4, .ref y5, .ref y6, .ref y7, hs_V pt, .ref y8, .ref y9], hs_ia cI y1 41 h]) 0 0 := by
  refine hs_enter (cc := cX7_poolBegin) (maxL := 4) (by decide +kernel) rfl (Nat.le_of_ble_eq_true rfl) (fun p e s m args below meth c A H0 Q C hret => ?_)
  refine hs_lvs (lv' := [(0, .ref y0), (1, hs_V q)]) [0, 1] rfl ?_
  refine hs_iload_n C dX7_poolBegin_0 rfl 1 rfl ?_
  refine hs_istore_n (lv' := [(0, .ref y0), (1, hs_V q), (2, hs_V q)]) C dX7_poolBegin_1 rfl (by decide) [1, 2, 0] rfl ?_
  refine hs_iconst C dX7_poolBegin_2 ?_
  refine hs_istore_n (lv' := [(0, .ref y0), (1, hs_V q), (2, hs_V q), (3, hs_V 0)]) C dX7_poolBegin_3 rfl (by decide) [1, 2, 3, 0] rfl ?_
  have Lp1 : ∀ (k : Nat) (i : Int) (x : Int), (0 ≤ i ∧ i ≤ h 40) → (0 ≤ x ∧ x ≤ q) → (mo_pbU h i x = mo_pb h q) → (h 40 - i < (k : Int)) → hs_J p l e ({ frames := 4, cells := 0, slots := 0, locals := 91 } : Room) s m args below meth c D A H0 4 0 0 Q 4 [(0, .ref y0), (1, hs_V q), (2, hs_V x), (3, hs_V i)] [] [hs_ob y0 7 [.ref y1, .ref y2, hs_V pm, .ref y3, hs_V fl, .ref y4, .ref y5, .ref y6, .ref y7, hs_V pt, .ref y8, .ref y9], hs_ia cI y1 41 h] := by
    intro k
    induction k with
    | zero =>
      intro i x hi hx hL hk
      exact absurd hk (by omega)
    | succ k ih =>
      intro i x hi hx hL hk
      have ih2 := ih
      refine hs_iload_n C dX7_poolBegin_4 rfl 3 rfl ?_
      refine hs_aload_n C dX7_poolBegin_5 rfl 0 rfl ?_
      refine hs_callVi (win := [hs_ob y0 7 [.ref y1, .ref y2, hs_V pm, .ref y3, hs_V fl, .ref y4, .ref y5, .ref y6, .ref y7, hs_V pt, .ref y8, .ref y9], hs_ia cI y1 41 h]) (wr := []) (As := []) (rest := [hs_V i]) C (c_X7_many l D cI cO y0 y1 y2 y3 y4 y5 y6 y7 y8 y9 pm fl pt h ) 7 0 rfl rfl rfl (cwV 0 C.1.2.2.2.2 gX7_poolBegin_X7_many rfl rfl rfl (by decide +kernel) ⟨Nat.le_of_ble_eq_true rfl, Nat.le_of_ble_eq_true rfl⟩) rfl rfl (Nat.le_of_ble_eq_true rfl) dX7_poolBegin_6 ⟨Nat.le_of_ble_eq_true rfl, Nat.le_of_ble_eq_true rfl⟩ (fun rr uu3 hp => ?_)
      obtain rfl := hp
      refine hs_re0 (w' := [hs_ob y0 7 [.ref y1, .ref y2, hs_V pm, .ref y3, hs_V fl, .ref y4, .ref y5, .ref y6, .ref y7, hs_V pt, .ref y8, .ref y9], hs_ia cI y1 41 h]) [0, 1] rfl (by decide) ?_
      refine hs_icmp_ge (tgt := 35) C dX7_poolBegin_9 (by decide) (by omega) (by omega) (fun c4 => ?_) (fun c4 => ?_)
      ·
        refine hs_bipush C dX7_poolBegin_35 (by decide) ?_
        exact hret _ _ _ () (by rw [← hL, mo_pbU_done (by omega)]) dX7_poolBegin_37 rfl
      ·
        refine hs_aload_n C dX7_poolBegin_12 rfl 0 rfl ?_
        refine hs_iload_n C dX7_poolBegin_13 rfl 3 rfl ?_
        refine hs_callVi (win := [hs_ob y0 7 [.ref y1, .ref y2, hs_V pm, .ref y3, hs_V fl, .ref y4, .ref y5, .ref y6, .ref y7, hs_V pt, .ref y8, .ref y9], hs_ia cI y1 41 h]) (wr := []) (As := [hs_V i]) (rest := []) C (c_X7_beginsPool l D cI cO y0 y1 y2 y3 y4 y5 y6 y7 y8 y9 pm fl pt h i hh (by omega) (by omega)) 7 0 rfl rfl rfl (cwV 1 C.1.2.2.2.2 gX7_poolBegin_X7_beginsPool rfl rfl rfl (by decide +kernel) ⟨Nat.le_of_ble_eq_true rfl, Nat.le_of_ble_eq_true rfl⟩) rfl rfl (Nat.le_of_ble_eq_true rfl) dX7_poolBegin_14 ⟨Nat.le_of_ble_eq_true rfl, Nat.le_of_ble_eq_true rfl⟩ (fun rr uu5 hp => ?_)
        obtain rfl := hp
        refine hs_re0 (w' := [hs_ob y0 7 [.ref y1, .ref y2, hs_V pm, .ref y3, hs_V fl, .ref y4, .ref y5, .ref y6, .ref y7, hs_V pt, .ref y8, .ref y9], hs_ia cI y1 41 h]) [0, 1] rfl (by decide) ?_
        refine hs_ifeq_b (tgt := 29) C dX7_poolBegin_17 (by decide) (fun c6 => ?_) (fun c6 => ?_)
        ·
          refine hs_iinc (lv' := [(0, .ref y0), (1, hs_V q), (2, hs_V x), (3, hs_V (i + 1))]) C dX7_poolBegin_29 3 rfl (by decide) [1, 2, 3, 0] rfl ?_
          refine hs_goto (tgt := 4) C dX7_poolBegin_32 (by decide) ?_
          exact ih2 (i + 1) x (by omega) (by omega) (by have hz := (mo_pbU_step (by omega)).symm.trans hL; first | (rw [if_pos (by assumption), if_neg (by omega)] at hz; exact hz) | (rw [if_neg (by assumption)] at hz; exact hz)) (by omega)
        ·
          refine hs_iload_n C dX7_poolBegin_20 rfl 2 rfl ?_
          refine hs_if_ne (tgt := 26) C dX7_poolBegin_21 (by decide) (by omega) (fun c7 => ?_) (fun c7 => ?_)
          ·
            refine hs_iinc (lv' := [(0, .ref y0), (1, hs_V q), (2, hs_V (x + (-1))), (3, hs_V i)]) C dX7_poolBegin_26 2 rfl (by decide) [1, 2, 0, 3] rfl ?_
            refine hs_iinc (lv' := [(0, .ref y0), (1, hs_V q), (2, hs_V (x + (-1))), (3, hs_V (i + 1))]) C dX7_poolBegin_29 3 rfl (by decide) [1, 2, 3, 0] rfl ?_
            refine hs_goto (tgt := 4) C dX7_poolBegin_32 (by decide) ?_
            exact ih2 (i + 1) (x + (-1)) (by omega) (by omega) (by have hz := (mo_pbU_step (by omega)).symm.trans hL; first | (rw [if_pos (by assumption), if_neg (by omega)] at hz; exact hz) | (rw [if_neg (by assumption)] at hz; exact hz)) (by omega)
          ·
            refine hs_iload_n C dX7_poolBegin_24 rfl 3 rfl ?_
            exact hret _ _ _ () (by rw [← hL, mo_pbU_step (by omega), if_pos (by assumption), if_pos (by omega)]) dX7_poolBegin_25 rfl
  exact Lp1 ((h 40 - 0 : Int).toNat + 1) 0 q (by omega) (by omega) (rfl) (by omega)

set_option maxHeartbeats 4000000 in
set_option maxRecDepth 100000 in
theorem c_X7_area (l : Launch) (D : va_G) (cI cO : ClassId) (y0 : Nat) (y1 : Nat) (y2 : Nat) (y3 : Nat) (y4 : Nat) (y5 : Nat) (y6 : Nat) (y7 : Nat) (y8 : Nat) (y9 : Nat) (pm : Int) (fl : Int) (pt : Int) (h : Int → Int) (a : Int) (b : Int) (hh : ∀ k, 0 ≤ h k ∧ h k ≤ 50) (hab : 0 ≤ a ∧ a ≤ 40 ∧ -1 ≤ b ∧ b ≤ 40) : hs_M l D cI cO yX7_area wsX7_area ({ frames := 1, cells := 0, slots := 0, locals := 24 } : Room) [.ref y0, hs_V a, hs_V b] [hs_ob y0 7 [.ref y1, .ref y2, hs_V pm, .ref y3, hs_V fl, .ref y4, .ref y5, .ref y6, .ref y7, hs_V pt, .ref y8, .ref y9], hs_ia cI y1 41 h] (fun r (_ : Unit) => r = hs_I (mo_mn h a b * (b - a + 1))) (fun _ => [hs_ob y0 7 [.ref y1, .ref y2, hs_V pm, .ref y3, hs_V fl, .ref y4, .ref y5, .ref y6, .ref y7, hs_V pt, .ref y8, .ref y9], hs_ia cI y1 41 h]) 0 0 := by
  refine hs_enter (cc := cX7_area) (maxL := 3) (by decide +kernel) rfl (Nat.le_of_ble_eq_true rfl) (fun p e s m args below meth c A H0 Q C hret => ?_)
  refine hs_lvs (lv' := [(0, .ref y0), (1, hs_V a), (2, hs_V b)]) [0, 1, 2] rfl ?_
  refine hs_aload_n C dX7_area_0 rfl 0 rfl ?_
  refine hs_iload_n C dX7_area_1 rfl 1 rfl ?_
  refine hs_iload_n C dX7_area_2 rfl 2 rfl ?_
  refine hs_callVi (win := [hs_ob y0 7 [.ref y1, .ref y2, hs_V pm, .ref y3, hs_V fl, .ref y4, .ref y5, .ref y6, .ref y7, hs_V pt, .ref y8, .ref y9], hs_ia cI y1 41 h]) (wr := []) (As := [hs_V a, hs_V b]) (rest := []) C (c_X7_least l D cI cO y0 y1 y2 y3 y4 y5 y6 y7 y8 y9 pm fl pt h a b hh (by omega)) 7 0 rfl rfl rfl (cwV 2 C.1.2.2.2.2 gX7_area_X7_least rfl rfl rfl (by decide +kernel) ⟨Nat.le_of_ble_eq_true rfl, Nat.le_of_ble_eq_true rfl⟩) rfl rfl (Nat.le_of_ble_eq_true rfl) dX7_area_3 ⟨Nat.le_of_ble_eq_true rfl, Nat.le_of_ble_eq_true rfl⟩ (fun rr uu1 hp => ?_)
  obtain rfl := hp
  refine hs_re0 (w' := [hs_ob y0 7 [.ref y1, .ref y2, hs_V pm, .ref y3, hs_V fl, .ref y4, .ref y5, .ref y6, .ref y7, hs_V pt, .ref y8, .ref y9], hs_ia cI y1 41 h]) [0, 1] rfl (by decide) ?_
  refine hs_iload_n C dX7_area_6 rfl 2 rfl ?_
  refine hs_iload_n C dX7_area_7 rfl 1 rfl ?_
  refine hs_isub C dX7_area_8 ?_
  refine hs_iconst C dX7_area_9 ?_
  refine hs_iadd C dX7_area_10 ?_
  refine hs_imul C dX7_area_11 ?_
  exact hret _ _ _ () (by first | rfl | (rw [if_pos (by omega)]) | (rw [if_neg (by omega)])) dX7_area_12 rfl

set_option maxHeartbeats 4000000 in
set_option maxRecDepth 100000 in
theorem c_X7_isMaximal (l : Launch) (D : va_G) (cI cO : ClassId) (y0 : Nat) (y1 : Nat) (y2 : Nat) (y3 : Nat) (y4 : Nat) (y5 : Nat) (y6 : Nat) (y7 : Nat) (y8 : Nat) (y9 : Nat) (pm : Int) (fl : Int) (pt : Int) (h : Int → Int) (a : Int) (b : Int) (hh : ∀ k, 0 ≤ h k ∧ h k ≤ 50) (hN : 0 ≤ h 40 ∧ h 40 ≤ 40) (hab : 0 ≤ a ∧ a ≤ b ∧ b ≤ h 40 - 1) : hs_M l D cI cO yX7_isMaximal wsX7_isMaximal ({ frames := 1, cells := 0, slots := 0, locals := 24 } : Room) [.ref y0, hs_V a, hs_V b] [hs_ob y0 7 [.ref y1, .ref y2, hs_V pm, .ref y3, hs_V fl, .ref y4, .ref y5, .ref y6, .ref y7, hs_V pt, .ref y8, .ref y9], hs_ia cI y1 41 h] (fun r (_ : Unit) => r = hs_I (if mo_max h a b then 1 else 0)) (fun _ => [hs_ob y0 7 [.ref y1, .ref y2, hs_V pm, .ref y3, hs_V fl, .ref y4, .ref y5, .ref y6, .ref y7, hs_V pt, .ref y8, .ref y9], hs_ia cI y1 41 h]) 0 0 := by
  refine hs_enter (cc := cX7_isMaximal) (maxL := 6) (by decide +kernel) rfl (Nat.le_of_ble_eq_true rfl) (fun p e s m args below meth c A H0 Q C hret => ?_)
  have f7 := C.1.2.2.2.2 (.fieldLink RX7 7 "HistogramStairsModel" "h" "[I") (by decide +kernel)
  have u7 : ∀ w ∈ wsX70, w ∈ wsX7_isMaximal := by decide +kernel
  have q1 := mo_mn_bd (a := a) (b := b) hh
  refine hs_lvs (lv' := [(0, .ref y0), (1, hs_V a), (2, hs_V b)]) [0, 1, 2] rfl ?_
  refine hs_aload_n C dX7_isMaximal_0 rfl 0 rfl ?_
  refine hs_iload_n C dX7_isMaximal_1 rfl 1 rfl ?_
  refine hs_iload_n C dX7_isMaximal_2 rfl 2 rfl ?_
  refine hs_callVi (win := [hs_ob y0 7 [.ref y1, .ref y2, hs_V pm, .ref y3, hs_V fl, .ref y4, .ref y5, .ref y6, .ref y7, hs_V pt, .ref y8, .ref y9], hs_ia cI y1 41 h]) (wr := []) (As := [hs_V a, hs_V b]) (rest := []) C (c_X7_least l D cI cO y0 y1 y2 y3 y4 y5 y6 y7 y8 y9 pm fl pt h a b hh (by omega)) 7 0 rfl rfl rfl (cwV 2 C.1.2.2.2.2 gX7_isMaximal_X7_least rfl rfl rfl (by decide +kernel) ⟨Nat.le_of_ble_eq_true rfl, Nat.le_of_ble_eq_true rfl⟩) rfl rfl (Nat.le_of_ble_eq_true rfl) dX7_isMaximal_3 ⟨Nat.le_of_ble_eq_true rfl, Nat.le_of_ble_eq_true rfl⟩ (fun rr uu1 hp => ?_)
  obtain rfl := hp
  refine hs_re0 (w' := [hs_ob y0 7 [.ref y1, .ref y2, hs_V pm, .ref y3, hs_V fl, .ref y4, .ref y5, .ref y6, .ref y7, hs_V pt, .ref y8, .ref y9], hs_ia cI y1 41 h]) [0, 1] rfl (by decide) ?_
  refine hs_istore_n (lv' := [(0, .ref y0), (1, hs_V a), (2, hs_V b), (3, hs_V (mo_mn h a b))]) C dX7_isMaximal_6 rfl (by decide) [1, 2, 3, 0] rfl ?_
  refine hs_iload_n C dX7_isMaximal_7 rfl 1 rfl ?_
  refine hs_if_eq (tgt := 23) C dX7_isMaximal_8 (by decide) (by omega) (fun c2 => ?_) (fun c2 => ?_)
  ·
    refine hs_iconst C dX7_isMaximal_23 ?_
    refine hs_goto (tgt := 28) C dX7_isMaximal_24 (by decide) ?_
    refine hs_istore (lv' := [(0, .ref y0), (1, hs_V a), (2, hs_V b), (3, hs_V (mo_mn h a b)), (4, hs_V 1)]) C dX7_isMaximal_28 (by decide) [1, 2, 3, 4, 0] rfl ?_
    refine hs_iload_n C dX7_isMaximal_30 rfl 2 rfl ?_
    refine hs_aload_n C dX7_isMaximal_31 rfl 0 rfl ?_
    refine hs_callVi (win := [hs_ob y0 7 [.ref y1, .ref y2, hs_V pm, .ref y3, hs_V fl, .ref y4, .ref y5, .ref y6, .ref y7, hs_V pt, .ref y8, .ref y9], hs_ia cI y1 41 h]) (wr := []) (As := []) (rest := [hs_V b]) C (c_X7_many l D cI cO y0 y1 y2 y3 y4 y5 y6 y7 y8 y9 pm fl pt h ) 7 0 rfl rfl rfl (cwV 0 C.1.2.2.2.2 gX7_isMaximal_X7_many rfl rfl rfl (by decide +kernel) ⟨Nat.le_of_ble_eq_true rfl, Nat.le_of_ble_eq_true rfl⟩) rfl rfl (Nat.le_of_ble_eq_true rfl) dX7_isMaximal_32 ⟨Nat.le_of_ble_eq_true rfl, Nat.le_of_ble_eq_true rfl⟩ (fun rr uu3 hp => ?_)
    obtain rfl := hp
    refine hs_re0 (w' := [hs_ob y0 7 [.ref y1, .ref y2, hs_V pm, .ref y3, hs_V fl, .ref y4, .ref y5, .ref y6, .ref y7, hs_V pt, .ref y8, .ref y9], hs_ia cI y1 41 h]) [0, 1] rfl (by decide) ?_
    refine hs_iconst C dX7_isMaximal_35 ?_
    refine hs_isub C dX7_isMaximal_36 ?_
    refine hs_icmp_eq (tgt := 52) C dX7_isMaximal_37 (by decide) (by omega) (by omega) (fun c4 => ?_) (fun c4 => ?_)
    ·
      refine hs_iconst C dX7_isMaximal_52 ?_
      refine hs_goto (tgt := 57) C dX7_isMaximal_53 (by decide) ?_
      refine hs_istore (lv' := [(0, .ref y0), (1, hs_V a), (2, hs_V b), (3, hs_V (mo_mn h a b)), (4, hs_V 1), (5, hs_V 1)]) C dX7_isMaximal_57 (by decide) [1, 2, 3, 4, 5, 0] rfl ?_
      refine hs_iload_n C dX7_isMaximal_59 rfl 3 rfl ?_
      refine hs_if_le (tgt := 77) C dX7_isMaximal_60 (by decide) (by omega) (fun c5 => ?_) (fun c5 => ?_)
      ·
        refine hs_iconst C dX7_isMaximal_77 ?_
        exact hret _ _ _ () (by first | (exfalso; omega) | (rw [if_pos (show mo_max h a b by unfold mo_max; omega)]) | (rw [if_neg (show ¬ mo_max h a b by unfold mo_max; omega)])) dX7_isMaximal_78 rfl
      ·
        refine hs_iload C dX7_isMaximal_63 4 rfl ?_
        refine hs_if_eq (tgt := 77) C dX7_isMaximal_65 (by decide) (by omega) (fun c6 => ?_) (fun c6 => ?_)
        ·
          exact absurd c6 (by decide)
        ·
          refine hs_iload C dX7_isMaximal_68 5 rfl ?_
          refine hs_if_eq (tgt := 77) C dX7_isMaximal_70 (by decide) (by omega) (fun c7 => ?_) (fun c7 => ?_)
          ·
            exact absurd c7 (by decide)
          ·
            refine hs_iconst C dX7_isMaximal_73 ?_
            refine hs_goto (tgt := 78) C dX7_isMaximal_74 (by decide) ?_
            exact hret _ _ _ () (by first | (exfalso; omega) | (rw [if_pos (show mo_max h a b by unfold mo_max; omega)]) | (rw [if_neg (show ¬ mo_max h a b by unfold mo_max; omega)])) dX7_isMaximal_78 rfl
    ·
      refine hs_aload_n C dX7_isMaximal_40 rfl 0 rfl ?_
      refine hs_get C u7 0 rfl rfl 0 (by decide) f7 rfl rfl dX7_isMaximal_41 ?_
      refine hs_iload_n C dX7_isMaximal_44 rfl 2 rfl ?_
      refine hs_iconst C dX7_isMaximal_45 ?_
      refine hs_iadd C dX7_isMaximal_46 ?_
      refine hs_iald C 1 rfl (by omega) dX7_isMaximal_47 ?_
      have b8 := hh (b + 1)
      refine hs_iload_n C dX7_isMaximal_48 rfl 3 rfl ?_
      refine hs_icmp_ge (tgt := 56) C dX7_isMaximal_49 (by decide) (by omega) (by omega) (fun c9 => ?_) (fun c9 => ?_)
      ·
        refine hs_iconst C dX7_isMaximal_56 ?_
        refine hs_istore (lv' := [(0, .ref y0), (1, hs_V a), (2, hs_V b), (3, hs_V (mo_mn h a b)), (4, hs_V 1), (5, hs_V 0)]) C dX7_isMaximal_57 (by decide) [1, 2, 3, 4, 5, 0] rfl ?_
        refine hs_iload_n C dX7_isMaximal_59 rfl 3 rfl ?_
        refine hs_if_le (tgt := 77) C dX7_isMaximal_60 (by decide) (by omega) (fun c10 => ?_) (fun c10 => ?_)
        ·
          refine hs_iconst C dX7_isMaximal_77 ?_
          exact hret _ _ _ () (by first | (exfalso; omega) | (rw [if_pos (show mo_max h a b by unfold mo_max; omega)]) | (rw [if_neg (show ¬ mo_max h a b by unfold mo_max; omega)])) dX7_isMaximal_78 rfl
        ·
          refine hs_iload C dX7_isMaximal_63 4 rfl ?_
          refine hs_if_eq (tgt := 77) C dX7_isMaximal_65 (by decide) (by omega) (fun c11 => ?_) (fun c11 => ?_)
          ·
            exact absurd c11 (by decide)
          ·
            refine hs_iload C dX7_isMaximal_68 5 rfl ?_
            refine hs_if_eq (tgt := 77) C dX7_isMaximal_70 (by decide) (by omega) (fun c12 => ?_) (fun c12 => ?_)
            ·
              refine hs_iconst C dX7_isMaximal_77 ?_
              exact hret _ _ _ () (by first | (exfalso; omega) | (rw [if_pos (show mo_max h a b by unfold mo_max; omega)]) | (rw [if_neg (show ¬ mo_max h a b by unfold mo_max; omega)])) dX7_isMaximal_78 rfl
            ·
              exact absurd c12 (by decide)
      ·
        refine hs_iconst C dX7_isMaximal_52 ?_
        refine hs_goto (tgt := 57) C dX7_isMaximal_53 (by decide) ?_
        refine hs_istore (lv' := [(0, .ref y0), (1, hs_V a), (2, hs_V b), (3, hs_V (mo_mn h a b)), (4, hs_V 1), (5, hs_V 1)]) C dX7_isMaximal_57 (by decide) [1, 2, 3, 4, 5, 0] rfl ?_
        refine hs_iload_n C dX7_isMaximal_59 rfl 3 rfl ?_
        refine hs_if_le (tgt := 77) C dX7_isMaximal_60 (by decide) (by omega) (fun c13 => ?_) (fun c13 => ?_)
        ·
          refine hs_iconst C dX7_isMaximal_77 ?_
          exact hret _ _ _ () (by first | (exfalso; omega) | (rw [if_pos (show mo_max h a b by unfold mo_max; omega)]) | (rw [if_neg (show ¬ mo_max h a b by unfold mo_max; omega)])) dX7_isMaximal_78 rfl
        ·
          refine hs_iload C dX7_isMaximal_63 4 rfl ?_
          refine hs_if_eq (tgt := 77) C dX7_isMaximal_65 (by decide) (by omega) (fun c14 => ?_) (fun c14 => ?_)
          ·
            exact absurd c14 (by decide)
          ·
            refine hs_iload C dX7_isMaximal_68 5 rfl ?_
            refine hs_if_eq (tgt := 77) C dX7_isMaximal_70 (by decide) (by omega) (fun c15 => ?_) (fun c15 => ?_)
            ·
              exact absurd c15 (by decide)
            ·
              refine hs_iconst C dX7_isMaximal_73 ?_
              refine hs_goto (tgt := 78) C dX7_isMaximal_74 (by decide) ?_
              exact hret _ _ _ () (by first | (exfalso; omega) | (rw [if_pos (show mo_max h a b by unfold mo_max; omega)]) | (rw [if_neg (show ¬ mo_max h a b by unfold mo_max; omega)])) dX7_isMaximal_78 rfl
  ·
    refine hs_aload_n C dX7_isMaximal_11 rfl 0 rfl ?_
    refine hs_get C u7 0 rfl rfl 0 (by decide) f7 rfl rfl dX7_isMaximal_12 ?_
    refine hs_iload_n C dX7_isMaximal_15 rfl 1 rfl ?_
    refine hs_iconst C dX7_isMaximal_16 ?_
    refine hs_isub C dX7_isMaximal_17 ?_
    refine hs_iald C 1 rfl (by omega) dX7_isMaximal_18 ?_
    have b16 := hh (a - 1)
    refine hs_iload_n C dX7_isMaximal_19 rfl 3 rfl ?_
    refine hs_icmp_ge (tgt := 27) C dX7_isMaximal_20 (by decide) (by omega) (by omega) (fun c17 => ?_) (fun c17 => ?_)
    ·
      refine hs_iconst C dX7_isMaximal_27 ?_
      refine hs_istore (lv' := [(0, .ref y0), (1, hs_V a), (2, hs_V b), (3, hs_V (mo_mn h a b)), (4, hs_V 0)]) C dX7_isMaximal_28 (by decide) [1, 2, 3, 4, 0] rfl ?_
      refine hs_iload_n C dX7_isMaximal_30 rfl 2 rfl ?_
      refine hs_aload_n C dX7_isMaximal_31 rfl 0 rfl ?_
      refine hs_callVi (win := [hs_ob y0 7 [.ref y1, .ref y2, hs_V pm, .ref y3, hs_V fl, .ref y4, .ref y5, .ref y6, .ref y7, hs_V pt, .ref y8, .ref y9], hs_ia cI y1 41 h]) (wr := []) (As := []) (rest := [hs_V b]) C (c_X7_many l D cI cO y0 y1 y2 y3 y4 y5 y6 y7 y8 y9 pm fl pt h ) 7 0 rfl rfl rfl (cwV 0 C.1.2.2.2.2 gX7_isMaximal_X7_many rfl rfl rfl (by decide +kernel) ⟨Nat.le_of_ble_eq_true rfl, Nat.le_of_ble_eq_true rfl⟩) rfl rfl (Nat.le_of_ble_eq_true rfl) dX7_isMaximal_32 ⟨Nat.le_of_ble_eq_true rfl, Nat.le_of_ble_eq_true rfl⟩ (fun rr uu18 hp => ?_)
      obtain rfl := hp
      refine hs_re0 (w' := [hs_ob y0 7 [.ref y1, .ref y2, hs_V pm, .ref y3, hs_V fl, .ref y4, .ref y5, .ref y6, .ref y7, hs_V pt, .ref y8, .ref y9], hs_ia cI y1 41 h]) [0, 1] rfl (by decide) ?_
      refine hs_iconst C dX7_isMaximal_35 ?_
      refine hs_isub C dX7_isMaximal_36 ?_
      refine hs_icmp_eq (tgt := 52) C dX7_isMaximal_37 (by decide) (by omega) (by omega) (fun c19 => ?_) (fun c19 => ?_)
      ·
        refine hs_iconst C dX7_isMaximal_52 ?_
        refine hs_goto (tgt := 57) C dX7_isMaximal_53 (by decide) ?_
        refine hs_istore (lv' := [(0, .ref y0), (1, hs_V a), (2, hs_V b), (3, hs_V (mo_mn h a b)), (4, hs_V 0), (5, hs_V 1)]) C dX7_isMaximal_57 (by decide) [1, 2, 3, 4, 5, 0] rfl ?_
        refine hs_iload_n C dX7_isMaximal_59 rfl 3 rfl ?_
        refine hs_if_le (tgt := 77) C dX7_isMaximal_60 (by decide) (by omega) (fun c20 => ?_) (fun c20 => ?_)
        ·
          refine hs_iconst C dX7_isMaximal_77 ?_
          exact hret _ _ _ () (by first | (exfalso; omega) | (rw [if_pos (show mo_max h a b by unfold mo_max; omega)]) | (rw [if_neg (show ¬ mo_max h a b by unfold mo_max; omega)])) dX7_isMaximal_78 rfl
        ·
          refine hs_iload C dX7_isMaximal_63 4 rfl ?_
          refine hs_if_eq (tgt := 77) C dX7_isMaximal_65 (by decide) (by omega) (fun c21 => ?_) (fun c21 => ?_)
          ·
            refine hs_iconst C dX7_isMaximal_77 ?_
            exact hret _ _ _ () (by first | (exfalso; omega) | (rw [if_pos (show mo_max h a b by unfold mo_max; omega)]) | (rw [if_neg (show ¬ mo_max h a b by unfold mo_max; omega)])) dX7_isMaximal_78 rfl
          ·
            exact absurd c21 (by decide)
      ·
        refine hs_aload_n C dX7_isMaximal_40 rfl 0 rfl ?_
        refine hs_get C u7 0 rfl rfl 0 (by decide) f7 rfl rfl dX7_isMaximal_41 ?_
        refine hs_iload_n C dX7_isMaximal_44 rfl 2 rfl ?_
        refine hs_iconst C dX7_isMaximal_45 ?_
        refine hs_iadd C dX7_isMaximal_46 ?_
        refine hs_iald C 1 rfl (by omega) dX7_isMaximal_47 ?_
        have b22 := hh (b + 1)
        refine hs_iload_n C dX7_isMaximal_48 rfl 3 rfl ?_
        refine hs_icmp_ge (tgt := 56) C dX7_isMaximal_49 (by decide) (by omega) (by omega) (fun c23 => ?_) (fun c23 => ?_)
        ·
          refine hs_iconst C dX7_isMaximal_56 ?_
          refine hs_istore (lv' := [(0, .ref y0), (1, hs_V a), (2, hs_V b), (3, hs_V (mo_mn h a b)), (4, hs_V 0), (5, hs_V 0)]) C dX7_isMaximal_57 (by decide) [1, 2, 3, 4, 5, 0] rfl ?_
          refine hs_iload_n C dX7_isMaximal_59 rfl 3 rfl ?_
          refine hs_if_le (tgt := 77) C dX7_isMaximal_60 (by decide) (by omega) (fun c24 => ?_) (fun c24 => ?_)
          ·
            refine hs_iconst C dX7_isMaximal_77 ?_
            exact hret _ _ _ () (by first | (exfalso; omega) | (rw [if_pos (show mo_max h a b by unfold mo_max; omega)]) | (rw [if_neg (show ¬ mo_max h a b by unfold mo_max; omega)])) dX7_isMaximal_78 rfl
          ·
            refine hs_iload C dX7_isMaximal_63 4 rfl ?_
            refine hs_if_eq (tgt := 77) C dX7_isMaximal_65 (by decide) (by omega) (fun c25 => ?_) (fun c25 => ?_)
            ·
              refine hs_iconst C dX7_isMaximal_77 ?_
              exact hret _ _ _ () (by first | (exfalso; omega) | (rw [if_pos (show mo_max h a b by unfold mo_max; omega)]) | (rw [if_neg (show ¬ mo_max h a b by unfold mo_max; omega)])) dX7_isMaximal_78 rfl
            ·
              exact absurd c25 (by decide)
        ·
          refine hs_iconst C dX7_isMaximal_52 ?_
          refine hs_goto (tgt := 57) C dX7_isMaximal_53 (by decide) ?_
          refine hs_istore (lv' := [(0, .ref y0), (1, hs_V a), (2, hs_V b), (3, hs_V (mo_mn h a b)), (4, hs_V 0), (5, hs_V 1)]) C dX7_isMaximal_57 (by decide) [1, 2, 3, 4, 5, 0] rfl ?_
          refine hs_iload_n C dX7_isMaximal_59 rfl 3 rfl ?_
          refine hs_if_le (tgt := 77) C dX7_isMaximal_60 (by decide) (by omega) (fun c26 => ?_) (fun c26 => ?_)
          ·
            refine hs_iconst C dX7_isMaximal_77 ?_
            exact hret _ _ _ () (by first | (exfalso; omega) | (rw [if_pos (show mo_max h a b by unfold mo_max; omega)]) | (rw [if_neg (show ¬ mo_max h a b by unfold mo_max; omega)])) dX7_isMaximal_78 rfl
          ·
            refine hs_iload C dX7_isMaximal_63 4 rfl ?_
            refine hs_if_eq (tgt := 77) C dX7_isMaximal_65 (by decide) (by omega) (fun c27 => ?_) (fun c27 => ?_)
            ·
              refine hs_iconst C dX7_isMaximal_77 ?_
              exact hret _ _ _ () (by first | (exfalso; omega) | (rw [if_pos (show mo_max h a b by unfold mo_max; omega)]) | (rw [if_neg (show ¬ mo_max h a b by unfold mo_max; omega)])) dX7_isMaximal_78 rfl
            ·
              exact absurd c27 (by decide)
    ·
      refine hs_iconst C dX7_isMaximal_23 ?_
      refine hs_goto (tgt := 28) C dX7_isMaximal_24 (by decide) ?_
      refine hs_istore (lv' := [(0, .ref y0), (1, hs_V a), (2, hs_V b), (3, hs_V (mo_mn h a b)), (4, hs_V 1)]) C dX7_isMaximal_28 (by decide) [1, 2, 3, 4, 0] rfl ?_
      refine hs_iload_n C dX7_isMaximal_30 rfl 2 rfl ?_
      refine hs_aload_n C dX7_isMaximal_31 rfl 0 rfl ?_
      refine hs_callVi (win := [hs_ob y0 7 [.ref y1, .ref y2, hs_V pm, .ref y3, hs_V fl, .ref y4, .ref y5, .ref y6, .ref y7, hs_V pt, .ref y8, .ref y9], hs_ia cI y1 41 h]) (wr := []) (As := []) (rest := [hs_V b]) C (c_X7_many l D cI cO y0 y1 y2 y3 y4 y5 y6 y7 y8 y9 pm fl pt h ) 7 0 rfl rfl rfl (cwV 0 C.1.2.2.2.2 gX7_isMaximal_X7_many rfl rfl rfl (by decide +kernel) ⟨Nat.le_of_ble_eq_true rfl, Nat.le_of_ble_eq_true rfl⟩) rfl rfl (Nat.le_of_ble_eq_true rfl) dX7_isMaximal_32 ⟨Nat.le_of_ble_eq_true rfl, Nat.le_of_ble_eq_true rfl⟩ (fun rr uu28 hp => ?_)
      obtain rfl := hp
      refine hs_re0 (w' := [hs_ob y0 7 [.ref y1, .ref y2, hs_V pm, .ref y3, hs_V fl, .ref y4, .ref y5, .ref y6, .ref y7, hs_V pt, .ref y8, .ref y9], hs_ia cI y1 41 h]) [0, 1] rfl (by decide) ?_
      refine hs_iconst C dX7_isMaximal_35 ?_
      refine hs_isub C dX7_isMaximal_36 ?_
      refine hs_icmp_eq (tgt := 52) C dX7_isMaximal_37 (by decide) (by omega) (by omega) (fun c29 => ?_) (fun c29 => ?_)
      ·
        refine hs_iconst C dX7_isMaximal_52 ?_
        refine hs_goto (tgt := 57) C dX7_isMaximal_53 (by decide) ?_
        refine hs_istore (lv' := [(0, .ref y0), (1, hs_V a), (2, hs_V b), (3, hs_V (mo_mn h a b)), (4, hs_V 1), (5, hs_V 1)]) C dX7_isMaximal_57 (by decide) [1, 2, 3, 4, 5, 0] rfl ?_
        refine hs_iload_n C dX7_isMaximal_59 rfl 3 rfl ?_
        refine hs_if_le (tgt := 77) C dX7_isMaximal_60 (by decide) (by omega) (fun c30 => ?_) (fun c30 => ?_)
        ·
          refine hs_iconst C dX7_isMaximal_77 ?_
          exact hret _ _ _ () (by first | (exfalso; omega) | (rw [if_pos (show mo_max h a b by unfold mo_max; omega)]) | (rw [if_neg (show ¬ mo_max h a b by unfold mo_max; omega)])) dX7_isMaximal_78 rfl
        ·
          refine hs_iload C dX7_isMaximal_63 4 rfl ?_
          refine hs_if_eq (tgt := 77) C dX7_isMaximal_65 (by decide) (by omega) (fun c31 => ?_) (fun c31 => ?_)
          ·
            exact absurd c31 (by decide)
          ·
            refine hs_iload C dX7_isMaximal_68 5 rfl ?_
            refine hs_if_eq (tgt := 77) C dX7_isMaximal_70 (by decide) (by omega) (fun c32 => ?_) (fun c32 => ?_)
            ·
              exact absurd c32 (by decide)
            ·
              refine hs_iconst C dX7_isMaximal_73 ?_
              refine hs_goto (tgt := 78) C dX7_isMaximal_74 (by decide) ?_
              exact hret _ _ _ () (by first | (exfalso; omega) | (rw [if_pos (show mo_max h a b by unfold mo_max; omega)]) | (rw [if_neg (show ¬ mo_max h a b by unfold mo_max; omega)])) dX7_isMaximal_78 rfl
      ·
        refine hs_aload_n C dX7_isMaximal_40 rfl 0 rfl ?_
        refine hs_get C u7 0 rfl rfl 0 (by decide) f7 rfl rfl dX7_isMaximal_41 ?_
        refine hs_iload_n C dX7_isMaximal_44 rfl 2 rfl ?_
        refine hs_iconst C dX7_isMaximal_45 ?_
        refine hs_iadd C dX7_isMaximal_46 ?_
        refine hs_iald C 1 rfl (by omega) dX7_isMaximal_47 ?_
        have b33 := hh (b + 1)
        refine hs_iload_n C dX7_isMaximal_48 rfl 3 rfl ?_
        refine hs_icmp_ge (tgt := 56) C dX7_isMaximal_49 (by decide) (by omega) (by omega) (fun c34 => ?_) (fun c34 => ?_)
        ·
          refine hs_iconst C dX7_isMaximal_56 ?_
          refine hs_istore (lv' := [(0, .ref y0), (1, hs_V a), (2, hs_V b), (3, hs_V (mo_mn h a b)), (4, hs_V 1), (5, hs_V 0)]) C dX7_isMaximal_57 (by decide) [1, 2, 3, 4, 5, 0] rfl ?_
          refine hs_iload_n C dX7_isMaximal_59 rfl 3 rfl ?_
          refine hs_if_le (tgt := 77) C dX7_isMaximal_60 (by decide) (by omega) (fun c35 => ?_) (fun c35 => ?_)
          ·
            refine hs_iconst C dX7_isMaximal_77 ?_
            exact hret _ _ _ () (by first | (exfalso; omega) | (rw [if_pos (show mo_max h a b by unfold mo_max; omega)]) | (rw [if_neg (show ¬ mo_max h a b by unfold mo_max; omega)])) dX7_isMaximal_78 rfl
          ·
            refine hs_iload C dX7_isMaximal_63 4 rfl ?_
            refine hs_if_eq (tgt := 77) C dX7_isMaximal_65 (by decide) (by omega) (fun c36 => ?_) (fun c36 => ?_)
            ·
              exact absurd c36 (by decide)
            ·
              refine hs_iload C dX7_isMaximal_68 5 rfl ?_
              refine hs_if_eq (tgt := 77) C dX7_isMaximal_70 (by decide) (by omega) (fun c37 => ?_) (fun c37 => ?_)
              ·
                refine hs_iconst C dX7_isMaximal_77 ?_
                exact hret _ _ _ () (by first | (exfalso; omega) | (rw [if_pos (show mo_max h a b by unfold mo_max; omega)]) | (rw [if_neg (show ¬ mo_max h a b by unfold mo_max; omega)])) dX7_isMaximal_78 rfl
              ·
                exact absurd c37 (by decide)
        ·
          refine hs_iconst C dX7_isMaximal_52 ?_
          refine hs_goto (tgt := 57) C dX7_isMaximal_53 (by decide) ?_
          refine hs_istore (lv' := [(0, .ref y0), (1, hs_V a), (2, hs_V b), (3, hs_V (mo_mn h a b)), (4, hs_V 1), (5, hs_V 1)]) C dX7_isMaximal_57 (by decide) [1, 2, 3, 4, 5, 0] rfl ?_
          refine hs_iload_n C dX7_isMaximal_59 rfl 3 rfl ?_
          refine hs_if_le (tgt := 77) C dX7_isMaximal_60 (by decide) (by omega) (fun c38 => ?_) (fun c38 => ?_)
          ·
            refine hs_iconst C dX7_isMaximal_77 ?_
            exact hret _ _ _ () (by first | (exfalso; omega) | (rw [if_pos (show mo_max h a b by unfold mo_max; omega)]) | (rw [if_neg (show ¬ mo_max h a b by unfold mo_max; omega)])) dX7_isMaximal_78 rfl
          ·
            refine hs_iload C dX7_isMaximal_63 4 rfl ?_
            refine hs_if_eq (tgt := 77) C dX7_isMaximal_65 (by decide) (by omega) (fun c39 => ?_) (fun c39 => ?_)
            ·
              exact absurd c39 (by decide)
            ·
              refine hs_iload C dX7_isMaximal_68 5 rfl ?_
              refine hs_if_eq (tgt := 77) C dX7_isMaximal_70 (by decide) (by omega) (fun c40 => ?_) (fun c40 => ?_)
              ·
                exact absurd c40 (by decide)
              ·
                refine hs_iconst C dX7_isMaximal_73 ?_
                refine hs_goto (tgt := 78) C dX7_isMaximal_74 (by decide) ?_
                exact hret _ _ _ () (by first | (exfalso; omega) | (rw [if_pos (show mo_max h a b by unfold mo_max; omega)]) | (rw [if_neg (show ¬ mo_max h a b by unfold mo_max; omega)])) dX7_isMaximal_78 rfl

set_option maxHeartbeats 4000000 in
set_option maxRecDepth 100000 in
theorem c_X7_rootOf (l : Launch) (D : va_G) (cI cO : ClassId) (y0 : Nat) (y1 : Nat) (y2 : Nat) (y3 : Nat) (y4 : Nat) (y5 : Nat) (y6 : Nat) (y7 : Nat) (y8 : Nat) (y9 : Nat) (pm : Int) (fl : Int) (pt : Int) (h : Int → Int) (a : Int) (b : Int) (hh : ∀ k, 0 ≤ h k ∧ h k ≤ 50) (hab : 0 ≤ a ∧ a ≤ b ∧ b ≤ 40) : hs_M l D cI cO yX7_rootOf wsX7_rootOf ({ frames := 1, cells := 0, slots := 0, locals := 24 } : Room) [.ref y0, hs_V a, hs_V b] [hs_ob y0 7 [.ref y1, .ref y2, hs_V pm, .ref y3, hs_V fl, .ref y4, .ref y5, .ref y6, .ref y7, hs_V pt, .ref y8, .ref y9], hs_ia cI y1 41 h] (fun r (_ : Unit) => r = hs_I (mo_rt h a b)) (fun _ => [hs_ob y0 7 [.ref y1, .ref y2, hs_V pm, .ref y3, hs_V fl, .ref y4, .ref y5, .ref y6, .ref y7, hs_V pt, .ref y8, .ref y9], hs_ia cI y1 41 h]) 0 0 := by
  refine hs_enter (cc := cX7_rootOf) (maxL := 3) (by decide +kernel) rfl (Nat.le_of_ble_eq_true rfl) (fun p e s m args below meth c A H0 Q C hret => ?_)
  have q1 := mo_mn_bd (a := a) (b := b) hh
  refine hs_lvs (lv' := [(0, .ref y0), (1, hs_V a), (2, hs_V b)]) [0, 1, 2] rfl ?_
  refine hs_aload_n C dX7_rootOf_0 rfl 0 rfl ?_
  refine hs_iload_n C dX7_rootOf_1 rfl 1 rfl ?_
  refine hs_aload_n C dX7_rootOf_2 rfl 0 rfl ?_
  refine hs_iload_n C dX7_rootOf_3 rfl 1 rfl ?_
  refine hs_iload_n C dX7_rootOf_4 rfl 2 rfl ?_
  refine hs_callVi (win := [hs_ob y0 7 [.ref y1, .ref y2, hs_V pm, .ref y3, hs_V fl, .ref y4, .ref y5, .ref y6, .ref y7, hs_V pt, .ref y8, .ref y9], hs_ia cI y1 41 h]) (wr := []) (As := [hs_V a, hs_V b]) (rest := [hs_V a, .ref y0]) C (c_X7_least l D cI cO y0 y1 y2 y3 y4 y5 y6 y7 y8 y9 pm fl pt h a b hh (by omega)) 7 0 rfl rfl rfl (cwV 2 C.1.2.2.2.2 gX7_rootOf_X7_least rfl rfl rfl (by decide +kernel) ⟨Nat.le_of_ble_eq_true rfl, Nat.le_of_ble_eq_true rfl⟩) rfl rfl (Nat.le_of_ble_eq_true rfl) dX7_rootOf_5 ⟨Nat.le_of_ble_eq_true rfl, Nat.le_of_ble_eq_true rfl⟩ (fun rr uu1 hp => ?_)
  obtain rfl := hp
  refine hs_re0 (w' := [hs_ob y0 7 [.ref y1, .ref y2, hs_V pm, .ref y3, hs_V fl, .ref y4, .ref y5, .ref y6, .ref y7, hs_V pt, .ref y8, .ref y9], hs_ia cI y1 41 h]) [0, 1] rfl (by decide) ?_
  refine hs_callVi (win := [hs_ob y0 7 [.ref y1, .ref y2, hs_V pm, .ref y3, hs_V fl, .ref y4, .ref y5, .ref y6, .ref y7, hs_V pt, .ref y8, .ref y9], hs_ia cI y1 41 h]) (wr := []) (As := [hs_V a, hs_V (mo_mn h a b)]) (rest := []) C (c_X7_firstWith l D cI cO y0 y1 y2 y3 y4 y5 y6 y7 y8 y9 pm fl pt h a (mo_mn h a b) hh (by omega) (by omega) (by obtain ⟨j, j1, j2, j3⟩ := mo_mn_ex (h := h) (a := a) (b := b) (by omega); exact ⟨j, j1, by omega, j3⟩)) 7 0 rfl rfl rfl (cwV 2 C.1.2.2.2.2 gX7_rootOf_X7_firstWith rfl rfl rfl (by decide +kernel) ⟨Nat.le_of_ble_eq_true rfl, Nat.le_of_ble_eq_true rfl⟩) rfl rfl (Nat.le_of_ble_eq_true rfl) dX7_rootOf_8 ⟨Nat.le_of_ble_eq_true rfl, Nat.le_of_ble_eq_true rfl⟩ (fun rr uu2 hp => ?_)
  obtain rfl := hp
  refine hs_re0 (w' := [hs_ob y0 7 [.ref y1, .ref y2, hs_V pm, .ref y3, hs_V fl, .ref y4, .ref y5, .ref y6, .ref y7, hs_V pt, .ref y8, .ref y9], hs_ia cI y1 41 h]) [0, 1] rfl (by decide) ?_
  exact hret _ _ _ () (by first | rfl | (rw [if_pos (by omega)]) | (rw [if_neg (by omega)])) dX7_rootOf_11 rfl

set_option maxHeartbeats 4000000 in
set_option maxRecDepth 100000 in
theorem c_X7_treeDepth (l : Launch) (D : va_G) (cI cO : ClassId) (y0 : Nat) (y1 : Nat) (y2 : Nat) (y3 : Nat) (y4 : Nat) (y5 : Nat) (y6 : Nat) (y7 : Nat) (y8 : Nat) (y9 : Nat) (pm : Int) (fl : Int) (pt : Int) (h : Int → Int) (i : Int) (hh : ∀ k, 0 ≤ h k ∧ h k ≤ 50) (hN : 0 ≤ h 40 ∧ h 40 ≤ 40) (hi : 0 ≤ i ∧ i ≤ h 40 - 1) : hs_M l D cI cO yX7_treeDepth wsX7_treeDepth ({ frames := 2, cells := 0, slots := 0, locals := 46 } : Room) [.ref y0, hs_V i] [hs_ob y0 7 [.ref y1, .ref y2, hs_V pm, .ref y3, hs_V fl, .ref y4, .ref y5, .ref y6, .ref y7, hs_V pt, .ref y8, .ref y9], hs_ia cI y1 41 h] (fun r (_ : Unit) => r = hs_I (mo_td h i).2.2.1) (fun _ => [hs_ob y0 7 [.ref y1, .ref y2, hs_V pm, .ref y3, hs_V fl, .ref y4, .ref y5, .ref y6, .ref y7, hs_V (mo_td h i).2.2.2, .ref y8, .ref y9], hs_ia cI y1 41 h]) 0 0 := by
  refine hs_enter (cc := cX7_treeDepth) (maxL := 6) (by decide +kernel) rfl (Nat.le_of_ble_eq_true rfl) (fun p e s m args below meth c A H0 Q C hret => ?_)
  have f99 := C.1.2.2.2.2 (.fieldLink RX7 99 "HistogramStairsModel" "parent" "I") (by decide +kernel)
  have u7 : ∀ w ∈ wsX70, w ∈ wsX7_treeDepth := by decide +kernel
  refine hs_lvs (lv' := [(0, .ref y0), (1, hs_V i)]) [0, 1] rfl ?_
  refine hs_iconst C dX7_treeDepth_0 ?_
  refine hs_istore_n (lv' := [(0, .ref y0), (1, hs_V i), (2, hs_V 0)]) C dX7_treeDepth_1 rfl (by decide) [1, 2, 0] rfl ?_
  refine hs_aload_n C dX7_treeDepth_2 rfl 0 rfl ?_
  refine hs_callVi (win := [hs_ob y0 7 [.ref y1, .ref y2, hs_V pm, .ref y3, hs_V fl, .ref y4, .ref y5, .ref y6, .ref y7, hs_V pt, .ref y8, .ref y9], hs_ia cI y1 41 h]) (wr := []) (As := []) (rest := []) C (c_X7_many l D cI cO y0 y1 y2 y3 y4 y5 y6 y7 y8 y9 pm fl pt h ) 7 0 rfl rfl rfl (cwV 0 C.1.2.2.2.2 gX7_treeDepth_X7_many rfl rfl rfl (by decide +kernel) ⟨Nat.le_of_ble_eq_true rfl, Nat.le_of_ble_eq_true rfl⟩) rfl rfl (Nat.le_of_ble_eq_true rfl) dX7_treeDepth_3 ⟨Nat.le_of_ble_eq_true rfl, Nat.le_of_ble_eq_true rfl⟩ (fun rr uu1 hp => ?_)
  obtain rfl := hp
  refine hs_re0 (w' := [hs_ob y0 7 [.ref y1, .ref y2, hs_V pm, .ref y3, hs_V fl, .ref y4, .ref y5, .ref y6, .ref y7, hs_V pt, .ref y8, .ref y9], hs_ia cI y1 41 h]) [0, 1] rfl (by decide) ?_
  refine hs_iconst C dX7_treeDepth_6 ?_
  refine hs_isub C dX7_treeDepth_7 ?_
  refine hs_istore_n (lv' := [(0, .ref y0), (1, hs_V i), (2, hs_V 0), (3, hs_V ((h 40) - 1))]) C dX7_treeDepth_8 rfl (by decide) [1, 2, 3, 0] rfl ?_
  refine hs_iconst C dX7_treeDepth_9 ?_
  refine hs_istore (lv' := [(0, .ref y0), (1, hs_V i), (2, hs_V 0), (3, hs_V ((h 40) - 1)), (4, hs_V 0)]) C dX7_treeDepth_10 (by decide) [1, 2, 3, 4, 0] rfl ?_
  refine hs_aload_n C dX7_treeDepth_12 rfl 0 rfl ?_
  refine hs_bipush C dX7_treeDepth_13 (by decide) ?_
  refine hs_put (ty := .int) (ws' := [hs_ob y0 7 [.ref y1, .ref y2, hs_V pm, .ref y3, hs_V fl, .ref y4, .ref y5, .ref y6, .ref y7, hs_V (-9), .ref y8, .ref y9], hs_ia cI y1 41 h]) C u7 tyX7 tyX7_ok nmX7 0 rfl rfl 9 (by decide) f99 rfl rfl (by decide +kernel) rfl rfl (Nat.le_of_ble_eq_true rfl) rfl dX7_treeDepth_15 ?_
  refine hs_aload_n C dX7_treeDepth_18 rfl 0 rfl ?_
  refine hs_iload_n C dX7_treeDepth_19 rfl 2 rfl ?_
  refine hs_iload_n C dX7_treeDepth_20 rfl 3 rfl ?_
  refine hs_callVi (win := [hs_ob y0 7 [.ref y1, .ref y2, hs_V pm, .ref y3, hs_V fl, .ref y4, .ref y5, .ref y6, .ref y7, hs_V (-9), .ref y8, .ref y9], hs_ia cI y1 41 h]) (wr := []) (As := [hs_V 0, hs_V ((h 40) - 1)]) (rest := []) C (c_X7_rootOf l D cI cO y0 y1 y2 y3 y4 y5 y6 y7 y8 y9 pm fl (-9) h 0 ((h 40) - 1) hh (by omega)) 7 0 rfl rfl rfl (cwV 2 C.1.2.2.2.2 gX7_treeDepth_X7_rootOf rfl rfl rfl (by decide +kernel) ⟨Nat.le_of_ble_eq_true rfl, Nat.le_of_ble_eq_true rfl⟩) rfl rfl (Nat.le_of_ble_eq_true rfl) dX7_treeDepth_21 ⟨Nat.le_of_ble_eq_true rfl, Nat.le_of_ble_eq_true rfl⟩ (fun rr uu2 hp => ?_)
  obtain rfl := hp
  refine hs_re0 (w' := [hs_ob y0 7 [.ref y1, .ref y2, hs_V pm, .ref y3, hs_V fl, .ref y4, .ref y5, .ref y6, .ref y7, hs_V (-9), .ref y8, .ref y9], hs_ia cI y1 41 h]) [0, 1] rfl (by decide) ?_
  refine hs_istore (lv' := [(0, .ref y0), (1, hs_V i), (2, hs_V 0), (3, hs_V ((h 40) - 1)), (4, hs_V 0), (5, hs_V (mo_rt h 0 ((h 40) - 1)))]) C dX7_treeDepth_24 (by decide) [1, 2, 3, 4, 5, 0] rfl ?_
  have Lp3 : ∀ (k : Nat) (a : Int) (b : Int) (x : Int) (rt : Int) (pr : Int), (0 ≤ a ∧ a ≤ i ∧ i ≤ b ∧ b ≤ h 40 - 1) → (rt = mo_rt h a b) → (hs_wh (mo_tdP h i) (mo_tdF h i) k (a, b, x, pr) = mo_td h i) → (b - a < (k : Int)) → hs_J p l e ({ frames := 2, cells := 0, slots := 0, locals := 46 } : Room) s m args below meth c D A H0 6 0 0 Q 26 [(0, .ref y0), (1, hs_V i), (2, hs_V a), (3, hs_V b), (4, hs_V x), (5, hs_V rt)] [] [hs_ob y0 7 [.ref y1, .ref y2, hs_V pm, .ref y3, hs_V fl, .ref y4, .ref y5, .ref y6, .ref y7, hs_V pr, .ref y8, .ref y9], hs_ia cI y1 41 h] := by
    intro k
    induction k with
    | zero =>
      intro a b x rt pr hab hrt hM hk
      exact absurd hk (by omega)
    | succ k ih =>
      intro a b x rt pr hab hrt hM hk
      have ih4 := ih
      have hrg := mo_rt_rg (h := h) (a := a) (b := b) (by omega) (by omega)
      refine hs_iload C dX7_treeDepth_26 5 rfl ?_
      refine hs_iload_n C dX7_treeDepth_28 rfl 1 rfl ?_
      refine hs_icmp_eq (tgt := 82) C dX7_treeDepth_29 (by decide) (by omega) (by omega) (fun c5 => ?_) (fun c5 => ?_)
      ·
        have htd : mo_td h i = (a, b, x, pr) := by rw [← hM, hs_wh_done (show ¬ mo_tdP h i (a, b, x, pr) by unfold mo_tdP; dsimp only; omega)]
        refine hs_iload C dX7_treeDepth_82 4 rfl ?_
        refine hs_cast (ws' := [hs_ob y0 7 [.ref y1, .ref y2, hs_V pm, .ref y3, hs_V fl, .ref y4, .ref y5, .ref y6, .ref y7, hs_V (mo_td h i).2.2.2, .ref y8, .ref y9], hs_ia cI y1 41 h]) ?_ rfl rfl rfl (by rw [htd])
        exact hret _ _ _ () (by rw [htd]) dX7_treeDepth_84 rfl
      ·
        refine hs_aload_n C dX7_treeDepth_32 rfl 0 rfl ?_
        refine hs_iload C dX7_treeDepth_33 5 rfl ?_
        refine hs_put (ty := .int) (ws' := [hs_ob y0 7 [.ref y1, .ref y2, hs_V pm, .ref y3, hs_V fl, .ref y4, .ref y5, .ref y6, .ref y7, hs_V rt, .ref y8, .ref y9], hs_ia cI y1 41 h]) C u7 tyX7 tyX7_ok nmX7 0 rfl rfl 9 (by decide) f99 rfl rfl (by decide +kernel) rfl rfl (Nat.le_of_ble_eq_true rfl) rfl dX7_treeDepth_35 ?_
        refine hs_iload_n C dX7_treeDepth_38 rfl 1 rfl ?_
        refine hs_iload C dX7_treeDepth_39 5 rfl ?_
        refine hs_icmp_le (tgt := 51) C dX7_treeDepth_41 (by decide) (by omega) (by omega) (fun c6 => ?_) (fun c6 => ?_)
        ·
          refine hs_iload_n C dX7_treeDepth_51 rfl 2 rfl ?_
          refine hs_istore_n (lv' := [(0, .ref y0), (1, hs_V i), (2, hs_V a), (3, hs_V b), (4, hs_V x), (5, hs_V rt)]) C dX7_treeDepth_52 rfl (by decide) [1, 2, 0, 3, 4, 5] rfl ?_
          refine hs_iload_n C dX7_treeDepth_53 rfl 1 rfl ?_
          refine hs_iload C dX7_treeDepth_54 5 rfl ?_
          refine hs_icmp_ge (tgt := 66) C dX7_treeDepth_56 (by decide) (by omega) (by omega) (fun c7 => ?_) (fun c7 => ?_)
          ·
            refine hs_iload_n C dX7_treeDepth_66 rfl 3 rfl ?_
            refine hs_istore_n (lv' := [(0, .ref y0), (1, hs_V i), (2, hs_V a), (3, hs_V b), (4, hs_V x), (5, hs_V rt)]) C dX7_treeDepth_67 rfl (by decide) [1, 2, 3, 0, 4, 5] rfl ?_
            refine hs_aload_n C dX7_treeDepth_68 rfl 0 rfl ?_
            refine hs_iload_n C dX7_treeDepth_69 rfl 2 rfl ?_
            refine hs_iload_n C dX7_treeDepth_70 rfl 3 rfl ?_
            refine hs_callVi (win := [hs_ob y0 7 [.ref y1, .ref y2, hs_V pm, .ref y3, hs_V fl, .ref y4, .ref y5, .ref y6, .ref y7, hs_V rt, .ref y8, .ref y9], hs_ia cI y1 41 h]) (wr := []) (As := [hs_V a, hs_V b]) (rest := []) C (c_X7_rootOf l D cI cO y0 y1 y2 y3 y4 y5 y6 y7 y8 y9 pm fl rt h a b hh (by omega)) 7 0 rfl rfl rfl (cwV 2 C.1.2.2.2.2 gX7_treeDepth_X7_rootOf rfl rfl rfl (by decide +kernel) ⟨Nat.le_of_ble_eq_true rfl, Nat.le_of_ble_eq_true rfl⟩) rfl rfl (Nat.le_of_ble_eq_true rfl) dX7_treeDepth_71 ⟨Nat.le_of_ble_eq_true rfl, Nat.le_of_ble_eq_true rfl⟩ (fun rr uu8 hp => ?_)
            obtain rfl := hp
            refine hs_re0 (w' := [hs_ob y0 7 [.ref y1, .ref y2, hs_V pm, .ref y3, hs_V fl, .ref y4, .ref y5, .ref y6, .ref y7, hs_V rt, .ref y8, .ref y9], hs_ia cI y1 41 h]) [0, 1] rfl (by decide) ?_
            refine hs_istore (lv' := [(0, .ref y0), (1, hs_V i), (2, hs_V a), (3, hs_V b), (4, hs_V x), (5, hs_V (mo_rt h a b))]) C dX7_treeDepth_74 (by decide) [1, 2, 3, 4, 5, 0] rfl ?_
            refine hs_iinc (lv' := [(0, .ref y0), (1, hs_V i), (2, hs_V a), (3, hs_V b), (4, hs_V (x + 1)), (5, hs_V (mo_rt h a b))]) C dX7_treeDepth_76 4 rfl (by decide) [1, 2, 3, 4, 0, 5] rfl ?_
            refine hs_goto (tgt := 26) C dX7_treeDepth_79 (by decide) ?_
            exact ih4 a b (x + 1) (mo_rt h a b) rt (by omega) (rfl) (by first | (exfalso; omega) | (have hz := (hs_wh_step (P := mo_tdP h i) (f := mo_tdF h i) (n := k) (x := (a, b, x, pr)) (show mo_tdP h i (a, b, x, pr) by unfold mo_tdP; dsimp only; omega)).symm.trans hM; rw [show mo_tdF h i (a, b, x, pr) = (rt + 1, b, x + 1, rt) by unfold mo_tdF; dsimp only; rw [← hrt, if_pos (by omega), if_neg (by omega)]] at hz; exact hz) | (have hz := (hs_wh_step (P := mo_tdP h i) (f := mo_tdF h i) (n := k) (x := (a, b, x, pr)) (show mo_tdP h i (a, b, x, pr) by unfold mo_tdP; dsimp only; omega)).symm.trans hM; rw [show mo_tdF h i (a, b, x, pr) = (a, rt - 1, x + 1, rt) by unfold mo_tdF; dsimp only; rw [← hrt, if_neg (by omega), if_pos (by omega)]] at hz; exact hz)) (by omega)
          ·
            refine hs_iload C dX7_treeDepth_59 5 rfl ?_
            refine hs_iconst C dX7_treeDepth_61 ?_
            refine hs_isub C dX7_treeDepth_62 ?_
            refine hs_goto (tgt := 67) C dX7_treeDepth_63 (by decide) ?_
            refine hs_istore_n (lv' := [(0, .ref y0), (1, hs_V i), (2, hs_V a), (3, hs_V (rt - 1)), (4, hs_V x), (5, hs_V rt)]) C dX7_treeDepth_67 rfl (by decide) [1, 2, 3, 0, 4, 5] rfl ?_
            refine hs_aload_n C dX7_treeDepth_68 rfl 0 rfl ?_
            refine hs_iload_n C dX7_treeDepth_69 rfl 2 rfl ?_
            refine hs_iload_n C dX7_treeDepth_70 rfl 3 rfl ?_
            refine hs_callVi (win := [hs_ob y0 7 [.ref y1, .ref y2, hs_V pm, .ref y3, hs_V fl, .ref y4, .ref y5, .ref y6, .ref y7, hs_V rt, .ref y8, .ref y9], hs_ia cI y1 41 h]) (wr := []) (As := [hs_V a, hs_V (rt - 1)]) (rest := []) C (c_X7_rootOf l D cI cO y0 y1 y2 y3 y4 y5 y6 y7 y8 y9 pm fl rt h a (rt - 1) hh (by omega)) 7 0 rfl rfl rfl (cwV 2 C.1.2.2.2.2 gX7_treeDepth_X7_rootOf rfl rfl rfl (by decide +kernel) ⟨Nat.le_of_ble_eq_true rfl, Nat.le_of_ble_eq_true rfl⟩) rfl rfl (Nat.le_of_ble_eq_true rfl) dX7_treeDepth_71 ⟨Nat.le_of_ble_eq_true rfl, Nat.le_of_ble_eq_true rfl⟩ (fun rr uu9 hp => ?_)
            obtain rfl := hp
            refine hs_re0 (w' := [hs_ob y0 7 [.ref y1, .ref y2, hs_V pm, .ref y3, hs_V fl, .ref y4, .ref y5, .ref y6, .ref y7, hs_V rt, .ref y8, .ref y9], hs_ia cI y1 41 h]) [0, 1] rfl (by decide) ?_
            refine hs_istore (lv' := [(0, .ref y0), (1, hs_V i), (2, hs_V a), (3, hs_V (rt - 1)), (4, hs_V x), (5, hs_V (mo_rt h a (rt - 1)))]) C dX7_treeDepth_74 (by decide) [1, 2, 3, 4, 5, 0] rfl ?_
            refine hs_iinc (lv' := [(0, .ref y0), (1, hs_V i), (2, hs_V a), (3, hs_V (rt - 1)), (4, hs_V (x + 1)), (5, hs_V (mo_rt h a (rt - 1)))]) C dX7_treeDepth_76 4 rfl (by decide) [1, 2, 3, 4, 0, 5] rfl ?_
            refine hs_goto (tgt := 26) C dX7_treeDepth_79 (by decide) ?_
            exact ih4 a (rt - 1) (x + 1) (mo_rt h a (rt - 1)) rt (by omega) (rfl) (by first | (exfalso; omega) | (have hz := (hs_wh_step (P := mo_tdP h i) (f := mo_tdF h i) (n := k) (x := (a, b, x, pr)) (show mo_tdP h i (a, b, x, pr) by unfold mo_tdP; dsimp only; omega)).symm.trans hM; rw [show mo_tdF h i (a, b, x, pr) = (rt + 1, b, x + 1, rt) by unfold mo_tdF; dsimp only; rw [← hrt, if_pos (by omega), if_neg (by omega)]] at hz; exact hz) | (have hz := (hs_wh_step (P := mo_tdP h i) (f := mo_tdF h i) (n := k) (x := (a, b, x, pr)) (show mo_tdP h i (a, b, x, pr) by unfold mo_tdP; dsimp only; omega)).symm.trans hM; rw [show mo_tdF h i (a, b, x, pr) = (a, rt - 1, x + 1, rt) by unfold mo_tdF; dsimp only; rw [← hrt, if_neg (by omega), if_pos (by omega)]] at hz; exact hz)) (by omega)
        ·
          refine hs_iload C dX7_treeDepth_44 5 rfl ?_
          refine hs_iconst C dX7_treeDepth_46 ?_
          refine hs_iadd C dX7_treeDepth_47 ?_
          refine hs_goto (tgt := 52) C dX7_treeDepth_48 (by decide) ?_
          refine hs_istore_n (lv' := [(0, .ref y0), (1, hs_V i), (2, hs_V (rt + 1)), (3, hs_V b), (4, hs_V x), (5, hs_V rt)]) C dX7_treeDepth_52 rfl (by decide) [1, 2, 0, 3, 4, 5] rfl ?_
          refine hs_iload_n C dX7_treeDepth_53 rfl 1 rfl ?_
          refine hs_iload C dX7_treeDepth_54 5 rfl ?_
          refine hs_icmp_ge (tgt := 66) C dX7_treeDepth_56 (by decide) (by omega) (by omega) (fun c10 => ?_) (fun c10 => ?_)
          ·
            refine hs_iload_n C dX7_treeDepth_66 rfl 3 rfl ?_
            refine hs_istore_n (lv' := [(0, .ref y0), (1, hs_V i), (2, hs_V (rt + 1)), (3, hs_V b), (4, hs_V x), (5, hs_V rt)]) C dX7_treeDepth_67 rfl (by decide) [1, 2, 3, 0, 4, 5] rfl ?_
            refine hs_aload_n C dX7_treeDepth_68 rfl 0 rfl ?_
            refine hs_iload_n C dX7_treeDepth_69 rfl 2 rfl ?_
            refine hs_iload_n C dX7_treeDepth_70 rfl 3 rfl ?_
            refine hs_callVi (win := [hs_ob y0 7 [.ref y1, .ref y2, hs_V pm, .ref y3, hs_V fl, .ref y4, .ref y5, .ref y6, .ref y7, hs_V rt, .ref y8, .ref y9], hs_ia cI y1 41 h]) (wr := []) (As := [hs_V (rt + 1), hs_V b]) (rest := []) C (c_X7_rootOf l D cI cO y0 y1 y2 y3 y4 y5 y6 y7 y8 y9 pm fl rt h (rt + 1) b hh (by omega)) 7 0 rfl rfl rfl (cwV 2 C.1.2.2.2.2 gX7_treeDepth_X7_rootOf rfl rfl rfl (by decide +kernel) ⟨Nat.le_of_ble_eq_true rfl, Nat.le_of_ble_eq_true rfl⟩) rfl rfl (Nat.le_of_ble_eq_true rfl) dX7_treeDepth_71 ⟨Nat.le_of_ble_eq_true rfl, Nat.le_of_ble_eq_true rfl⟩ (fun rr uu11 hp => ?_)
            obtain rfl := hp
            refine hs_re0 (w' := [hs_ob y0 7 [.ref y1, .ref y2, hs_V pm, .ref y3, hs_V fl, .ref y4, .ref y5, .ref y6, .ref y7, hs_V rt, .ref y8, .ref y9], hs_ia cI y1 41 h]) [0, 1] rfl (by decide) ?_
            refine hs_istore (lv' := [(0, .ref y0), (1, hs_V i), (2, hs_V (rt + 1)), (3, hs_V b), (4, hs_V x), (5, hs_V (mo_rt h (rt + 1) b))]) C dX7_treeDepth_74 (by decide) [1, 2, 3, 4, 5, 0] rfl ?_
            refine hs_iinc (lv' := [(0, .ref y0), (1, hs_V i), (2, hs_V (rt + 1)), (3, hs_V b), (4, hs_V (x + 1)), (5, hs_V (mo_rt h (rt + 1) b))]) C dX7_treeDepth_76 4 rfl (by decide) [1, 2, 3, 4, 0, 5] rfl ?_
            refine hs_goto (tgt := 26) C dX7_treeDepth_79 (by decide) ?_
            exact ih4 (rt + 1) b (x + 1) (mo_rt h (rt + 1) b) rt (by omega) (rfl) (by first | (exfalso; omega) | (have hz := (hs_wh_step (P := mo_tdP h i) (f := mo_tdF h i) (n := k) (x := (a, b, x, pr)) (show mo_tdP h i (a, b, x, pr) by unfold mo_tdP; dsimp only; omega)).symm.trans hM; rw [show mo_tdF h i (a, b, x, pr) = (rt + 1, b, x + 1, rt) by unfold mo_tdF; dsimp only; rw [← hrt, if_pos (by omega), if_neg (by omega)]] at hz; exact hz) | (have hz := (hs_wh_step (P := mo_tdP h i) (f := mo_tdF h i) (n := k) (x := (a, b, x, pr)) (show mo_tdP h i (a, b, x, pr) by unfold mo_tdP; dsimp only; omega)).symm.trans hM; rw [show mo_tdF h i (a, b, x, pr) = (a, rt - 1, x + 1, rt) by unfold mo_tdF; dsimp only; rw [← hrt, if_neg (by omega), if_pos (by omega)]] at hz; exact hz)) (by omega)
          ·
            refine hs_iload C dX7_treeDepth_59 5 rfl ?_
            refine hs_iconst C dX7_treeDepth_61 ?_
            refine hs_isub C dX7_treeDepth_62 ?_
            refine hs_goto (tgt := 67) C dX7_treeDepth_63 (by decide) ?_
            refine hs_istore_n (lv' := [(0, .ref y0), (1, hs_V i), (2, hs_V (rt + 1)), (3, hs_V (rt - 1)), (4, hs_V x), (5, hs_V rt)]) C dX7_treeDepth_67 rfl (by decide) [1, 2, 3, 0, 4, 5] rfl ?_
            refine hs_aload_n C dX7_treeDepth_68 rfl 0 rfl ?_
            refine hs_iload_n C dX7_treeDepth_69 rfl 2 rfl ?_
            refine hs_iload_n C dX7_treeDepth_70 rfl 3 rfl ?_
            refine hs_callVi (win := [hs_ob y0 7 [.ref y1, .ref y2, hs_V pm, .ref y3, hs_V fl, .ref y4, .ref y5, .ref y6, .ref y7, hs_V rt, .ref y8, .ref y9], hs_ia cI y1 41 h]) (wr := []) (As := [hs_V (rt + 1), hs_V (rt - 1)]) (rest := []) C (c_X7_rootOf l D cI cO y0 y1 y2 y3 y4 y5 y6 y7 y8 y9 pm fl rt h (rt + 1) (rt - 1) hh (by omega)) 7 0 rfl rfl rfl (cwV 2 C.1.2.2.2.2 gX7_treeDepth_X7_rootOf rfl rfl rfl (by decide +kernel) ⟨Nat.le_of_ble_eq_true rfl, Nat.le_of_ble_eq_true rfl⟩) rfl rfl (Nat.le_of_ble_eq_true rfl) dX7_treeDepth_71 ⟨Nat.le_of_ble_eq_true rfl, Nat.le_of_ble_eq_true rfl⟩ (fun rr uu12 hp => ?_)
            obtain rfl := hp
            refine hs_re0 (w' := [hs_ob y0 7 [.ref y1, .ref y2, hs_V pm, .ref y3, hs_V fl, .ref y4, .ref y5, .ref y6, .ref y7, hs_V rt, .ref y8, .ref y9], hs_ia cI y1 41 h]) [0, 1] rfl (by decide) ?_
            refine hs_istore (lv' := [(0, .ref y0), (1, hs_V i), (2, hs_V (rt + 1)), (3, hs_V (rt - 1)), (4, hs_V x), (5, hs_V (mo_rt h (rt + 1) (rt - 1)))]) C dX7_treeDepth_74 (by decide) [1, 2, 3, 4, 5, 0] rfl ?_
            refine hs_iinc (lv' := [(0, .ref y0), (1, hs_V i), (2, hs_V (rt + 1)), (3, hs_V (rt - 1)), (4, hs_V (x + 1)), (5, hs_V (mo_rt h (rt + 1) (rt - 1)))]) C dX7_treeDepth_76 4 rfl (by decide) [1, 2, 3, 4, 0, 5] rfl ?_
            refine hs_goto (tgt := 26) C dX7_treeDepth_79 (by decide) ?_
            exact ih4 (rt + 1) (rt - 1) (x + 1) (mo_rt h (rt + 1) (rt - 1)) rt (by omega) (rfl) (by first | (exfalso; omega) | (have hz := (hs_wh_step (P := mo_tdP h i) (f := mo_tdF h i) (n := k) (x := (a, b, x, pr)) (show mo_tdP h i (a, b, x, pr) by unfold mo_tdP; dsimp only; omega)).symm.trans hM; rw [show mo_tdF h i (a, b, x, pr) = (rt + 1, b, x + 1, rt) by unfold mo_tdF; dsimp only; rw [← hrt, if_pos (by omega), if_neg (by omega)]] at hz; exact hz) | (have hz := (hs_wh_step (P := mo_tdP h i) (f := mo_tdF h i) (n := k) (x := (a, b, x, pr)) (show mo_tdP h i (a, b, x, pr) by unfold mo_tdP; dsimp only; omega)).symm.trans hM; rw [show mo_tdF h i (a, b, x, pr) = (a, rt - 1, x + 1, rt) by unfold mo_tdF; dsimp only; rw [← hrt, if_neg (by omega), if_pos (by omega)]] at hz; exact hz)) (by omega)
  exact Lp3 ((((h 40) - 1) - 0 : Int).toNat + 1) 0 ((h 40) - 1) 0 (mo_rt h 0 ((h 40) - 1)) (-9) (by omega) (rfl) (rfl) (by omega)

set_option maxHeartbeats 4000000 in
set_option maxRecDepth 100000 in
theorem c_X7_parentOf (l : Launch) (D : va_G) (cI cO : ClassId) (y0 : Nat) (y1 : Nat) (y2 : Nat) (y3 : Nat) (y4 : Nat) (y5 : Nat) (y6 : Nat) (y7 : Nat) (y8 : Nat) (y9 : Nat) (pm : Int) (fl : Int) (pt : Int) (h : Int → Int) (i : Int) (hh : ∀ k, 0 ≤ h k ∧ h k ≤ 50) (hN : 0 ≤ h 40 ∧ h 40 ≤ 40) (hi : 0 ≤ i ∧ i ≤ h 40 - 1) : hs_M l D cI cO yX7_parentOf wsX7_parentOf ({ frames := 3, cells := 0, slots := 0, locals := 71 } : Room) [.ref y0, hs_V i] [hs_ob y0 7 [.ref y1, .ref y2, hs_V pm, .ref y3, hs_V fl, .ref y4, .ref y5, .ref y6, .ref y7, hs_V pt, .ref y8, .ref y9], hs_ia cI y1 41 h] (fun r (_ : Unit) => r = hs_I (mo_td h i).2.2.2) (fun _ => [hs_ob y0 7 [.ref y1, .ref y2, hs_V pm, .ref y3, hs_V fl, .ref y4, .ref y5, .ref y6, .ref y7, hs_V (mo_td h i).2.2.2, .ref y8, .ref y9], hs_ia cI y1 41 h]) 0 0 := by
  refine hs_enter (cc := cX7_parentOf) (maxL := 3) (by decide +kernel) rfl (Nat.le_of_ble_eq_true rfl) (fun p e s m args below meth c A H0 Q C hret => ?_)
  have f99 := C.1.2.2.2.2 (.fieldLink RX7 99 "HistogramStairsModel" "parent" "I") (by decide +kernel)
  have u7 : ∀ w ∈ wsX70, w ∈ wsX7_parentOf := by decide +kernel
  refine hs_lvs (lv' := [(0, .ref y0), (1, hs_V i)]) [0, 1] rfl ?_
  refine hs_aload_n C dX7_parentOf_0 rfl 0 rfl ?_
  refine hs_iload_n C dX7_parentOf_1 rfl 1 rfl ?_
  refine hs_callVi (win := [hs_ob y0 7 [.ref y1, .ref y2, hs_V pm, .ref y3, hs_V fl, .ref y4, .ref y5, .ref y6, .ref y7, hs_V pt, .ref y8, .ref y9], hs_ia cI y1 41 h]) (wr := []) (As := [hs_V i]) (rest := []) C (c_X7_treeDepth l D cI cO y0 y1 y2 y3 y4 y5 y6 y7 y8 y9 pm fl pt h i hh (by omega) (by omega)) 7 0 rfl rfl rfl (cwV 1 C.1.2.2.2.2 gX7_parentOf_X7_treeDepth rfl rfl rfl (by decide +kernel) ⟨Nat.le_of_ble_eq_true rfl, Nat.le_of_ble_eq_true rfl⟩) rfl rfl (Nat.le_of_ble_eq_true rfl) dX7_parentOf_2 ⟨Nat.le_of_ble_eq_true rfl, Nat.le_of_ble_eq_true rfl⟩ (fun rr uu1 hp => ?_)
  obtain rfl := hp
  refine hs_re0 (w' := [hs_ob y0 7 [.ref y1, .ref y2, hs_V pm, .ref y3, hs_V fl, .ref y4, .ref y5, .ref y6, .ref y7, hs_V (mo_td h i).2.2.2, .ref y8, .ref y9], hs_ia cI y1 41 h]) [0, 1] rfl (by decide) ?_
  refine hs_istore_n (lv' := [(0, .ref y0), (1, hs_V i), (2, hs_V (mo_td h i).2.2.1)]) C dX7_parentOf_5 rfl (by decide) [1, 2, 0] rfl ?_
  refine hs_aload_n C dX7_parentOf_6 rfl 0 rfl ?_
  refine hs_get C u7 0 rfl rfl 9 (by decide) f99 rfl rfl dX7_parentOf_7 ?_
  exact hret _ _ _ () (by first | rfl | (rw [if_pos (by omega)]) | (rw [if_neg (by omega)])) dX7_parentOf_10 rfl

set_option maxHeartbeats 4000000 in
set_option maxRecDepth 100000 in
theorem c_X7_deepest (l : Launch) (D : va_G) (cI cO : ClassId) (y0 : Nat) (y1 : Nat) (y2 : Nat) (y3 : Nat) (y4 : Nat) (y5 : Nat) (y6 : Nat) (y7 : Nat) (y8 : Nat) (y9 : Nat) (pm : Int) (fl : Int) (pt : Int) (h : Int → Int) (hh : ∀ k, 0 ≤ h k ∧ h k ≤ 50) (hN : 0 ≤ h 40 ∧ h 40 ≤ 40) : hs_M l D cI cO yX7_deepest wsX7_deepest ({ frames := 3, cells := 0, slots := 0, locals := 71 } : Room) [.ref y0] [hs_ob y0 7 [.ref y1, .ref y2, hs_V pm, .ref y3, hs_V fl, .ref y4, .ref y5, .ref y6, .ref y7, hs_V pt, .ref y8, .ref y9], hs_ia cI y1 41 h] (fun r (u : Int) => r = hs_I (mo_deep h) ∧ True) (fun u => [hs_ob y0 7 [.ref y1, .ref y2, hs_V pm, .ref y3, hs_V fl, .ref y4, .ref y5, .ref y6, .ref y7, hs_V u, .ref y8, .ref y9], hs_ia cI y1 41 h]) 0 0 := by
  refine hs_enter (cc := cX7_deepest) (maxL := 4) (by decide +kernel) rfl (Nat.le_of_ble_eq_true rfl) (fun p e s m args below meth c A H0 Q C hret => ?_)
  refine hs_lvs (lv' := [(0, .ref y0)]) [0] rfl ?_
  refine hs_bipush C dX7_deepest_0 (by decide) ?_
  refine hs_istore_n (lv' := [(0, .ref y0), (1, hs_V (-9))]) C dX7_deepest_2 rfl (by decide) [1, 0] rfl ?_
  refine hs_iconst C dX7_deepest_3 ?_
  refine hs_istore_n (lv' := [(0, .ref y0), (1, hs_V (-9)), (2, hs_V 0)]) C dX7_deepest_4 rfl (by decide) [1, 2, 0] rfl ?_
  have Lp1 : ∀ (k : Nat) (i : Int) (x : Int) (pr : Int), (0 ≤ i ∧ i ≤ h 40) → (-9 ≤ x ∧ x ≤ 40) → (hs_up (fun i x => if (mo_td h i).2.2.1 ≤ x then x else (mo_td h i).2.2.1) i (h 40) x = mo_deep h) → (h 40 - i < (k : Int)) → hs_J p l e ({ frames := 3, cells := 0, slots := 0, locals := 71 } : Room) s m args below meth c D A H0 4 0 0 Q 5 [(0, .ref y0), (1, hs_V x), (2, hs_V i)] [] [hs_ob y0 7 [.ref y1, .ref y2, hs_V pm, .ref y3, hs_V fl, .ref y4, .ref y5, .ref y6, .ref y7, hs_V pr, .ref y8, .ref y9], hs_ia cI y1 41 h] := by
    intro k
    induction k with
    | zero =>
      intro i x pr hi hx hL hk
      exact absurd hk (by omega)
    | succ k ih =>
      intro i x pr hi hx hL hk
      have ih2 := ih
      refine hs_iload_n C dX7_deepest_5 rfl 2 rfl ?_
      refine hs_aload_n C dX7_deepest_6 rfl 0 rfl ?_
      refine hs_callVi (win := [hs_ob y0 7 [.ref y1, .ref y2, hs_V pm, .ref y3, hs_V fl, .ref y4, .ref y5, .ref y6, .ref y7, hs_V pr, .ref y8, .ref y9], hs_ia cI y1 41 h]) (wr := []) (As := []) (rest := [hs_V i]) C (c_X7_many l D cI cO y0 y1 y2 y3 y4 y5 y6 y7 y8 y9 pm fl pr h ) 7 0 rfl rfl rfl (cwV 0 C.1.2.2.2.2 gX7_deepest_X7_many rfl rfl rfl (by decide +kernel) ⟨Nat.le_of_ble_eq_true rfl, Nat.le_of_ble_eq_true rfl⟩) rfl rfl (Nat.le_of_ble_eq_true rfl) dX7_deepest_7 ⟨Nat.le_of_ble_eq_true rfl, Nat.le_of_ble_eq_true rfl⟩ (fun rr uu3 hp => ?_)
      obtain rfl := hp
      refine hs_re0 (w' := [hs_ob y0 7 [.ref y1, .ref y2, hs_V pm, .ref y3, hs_V fl, .ref y4, .ref y5, .ref y6, .ref y7, hs_V pr, .ref y8, .ref y9], hs_ia cI y1 41 h]) [0, 1] rfl (by decide) ?_
      refine hs_icmp_ge (tgt := 36) C dX7_deepest_10 (by decide) (by omega) (by omega) (fun c4 => ?_) (fun c4 => ?_)
      ·
        refine hs_iload_n C dX7_deepest_36 rfl 1 rfl ?_
        exact hret _ _ _ (pr) ⟨by rw [← hL, hs_up_done (by omega)], trivial⟩ dX7_deepest_37 rfl
      ·
        refine hs_aload_n C dX7_deepest_13 rfl 0 rfl ?_
        refine hs_iload_n C dX7_deepest_14 rfl 2 rfl ?_
        refine hs_callVi (win := [hs_ob y0 7 [.ref y1, .ref y2, hs_V pm, .ref y3, hs_V fl, .ref y4, .ref y5, .ref y6, .ref y7, hs_V pr, .ref y8, .ref y9], hs_ia cI y1 41 h]) (wr := []) (As := [hs_V i]) (rest := []) C (c_X7_treeDepth l D cI cO y0 y1 y2 y3 y4 y5 y6 y7 y8 y9 pm fl pr h i hh (by omega) (by omega)) 7 0 rfl rfl rfl (cwV 1 C.1.2.2.2.2 gX7_deepest_X7_treeDepth rfl rfl rfl (by decide +kernel) ⟨Nat.le_of_ble_eq_true rfl, Nat.le_of_ble_eq_true rfl⟩) rfl rfl (Nat.le_of_ble_eq_true rfl) dX7_deepest_15 ⟨Nat.le_of_ble_eq_true rfl, Nat.le_of_ble_eq_true rfl⟩ (fun rr uu5 hp => ?_)
        obtain rfl := hp
        refine hs_re0 (w' := [hs_ob y0 7 [.ref y1, .ref y2, hs_V pm, .ref y3, hs_V fl, .ref y4, .ref y5, .ref y6, .ref y7, hs_V (mo_td h i).2.2.2, .ref y8, .ref y9], hs_ia cI y1 41 h]) [0, 1] rfl (by decide) ?_
        have hb15 := mo_td_bd (h := h) (i := i) (by omega) (by omega)
        refine hs_istore_n (lv' := [(0, .ref y0), (1, hs_V x), (2, hs_V i), (3, hs_V (mo_td h i).2.2.1)]) C dX7_deepest_18 rfl (by decide) [1, 2, 3, 0] rfl ?_
        refine hs_iload_n C dX7_deepest_19 rfl 3 rfl ?_
        refine hs_iload_n C dX7_deepest_20 rfl 1 rfl ?_
        refine hs_icmp_le (tgt := 28) C dX7_deepest_21 (by decide) (by omega) (by omega) (fun c6 => ?_) (fun c6 => ?_)
        ·
          refine hs_iload_n C dX7_deepest_28 rfl 1 rfl ?_
          refine hs_istore_n (lv' := [(0, .ref y0), (1, hs_V x), (2, hs_V i), (3, hs_V (mo_td h i).2.2.1)]) C dX7_deepest_29 rfl (by decide) [1, 0, 2, 3] rfl ?_
          refine hs_iinc (lv' := [(0, .ref y0), (1, hs_V x), (2, hs_V (i + 1)), (3, hs_V (mo_td h i).2.2.1)]) C dX7_deepest_30 2 rfl (by decide) [1, 2, 0, 3] rfl ?_
          refine hs_goto (tgt := 5) C dX7_deepest_33 (by decide) ?_
          refine hs_lvs (lv' := [(0, .ref y0), (1, hs_V x), (2, hs_V (i + 1))]) [0, 1, 2] rfl ?_
          exact ih2 (i + 1) x (mo_td h i).2.2.2 (by omega) (by omega) (by have hz := (hs_up_step (by omega)).symm.trans hL; (try dsimp only at hz); first | exact hz | (split at hz <;> first | exact hz | (exfalso; omega) | (split at hz <;> first | exact hz | (exfalso; omega) | (split at hz <;> first | exact hz | (exfalso; omega))))) (by omega)
        ·
          refine hs_iload_n C dX7_deepest_24 rfl 3 rfl ?_
          refine hs_goto (tgt := 29) C dX7_deepest_25 (by decide) ?_
          refine hs_istore_n (lv' := [(0, .ref y0), (1, hs_V (mo_td h i).2.2.1), (2, hs_V i), (3, hs_V (mo_td h i).2.2.1)]) C dX7_deepest_29 rfl (by decide) [1, 0, 2, 3] rfl ?_
          refine hs_iinc (lv' := [(0, .ref y0), (1, hs_V (mo_td h i).2.2.1), (2, hs_V (i + 1)), (3, hs_V (mo_td h i).2.2.1)]) C dX7_deepest_30 2 rfl (by decide) [1, 2, 0, 3] rfl ?_
          refine hs_goto (tgt := 5) C dX7_deepest_33 (by decide) ?_
          refine hs_lvs (lv' := [(0, .ref y0), (1, hs_V (mo_td h i).2.2.1), (2, hs_V (i + 1))]) [0, 1, 2] rfl ?_
          exact ih2 (i + 1) (mo_td h i).2.2.1 (mo_td h i).2.2.2 (by omega) (by omega) (by have hz := (hs_up_step (by omega)).symm.trans hL; (try dsimp only at hz); first | exact hz | (split at hz <;> first | exact hz | (exfalso; omega) | (split at hz <;> first | exact hz | (exfalso; omega) | (split at hz <;> first | exact hz | (exfalso; omega))))) (by omega)
  exact Lp1 ((h 40 - 0 : Int).toNat + 1) 0 (-9) pt (by omega) (by omega) (rfl) (by omega)

set_option maxHeartbeats 4000000 in
set_option maxRecDepth 100000 in
theorem c_X7_horizontal (l : Launch) (D : va_G) (cI cO : ClassId) (y0 : Nat) (y1 : Nat) (y2 : Nat) (y3 : Nat) (y4 : Nat) (y5 : Nat) (y6 : Nat) (y7 : Nat) (y8 : Nat) (y9 : Nat) (pm : Int) (fl : Int) (pt : Int) (h : Int → Int) (hh : ∀ k, 0 ≤ h k ∧ h k ≤ 50) (hN : 0 ≤ h 40 ∧ h 40 ≤ 40) : hs_M l D cI cO yX7_horizontal wsX7_horizontal ({ frames := 1, cells := 0, slots := 0, locals := 20 } : Room) [.ref y0] [hs_ob y0 7 [.ref y1, .ref y2, hs_V pm, .ref y3, hs_V fl, .ref y4, .ref y5, .ref y6, .ref y7, hs_V pt, .ref y8, .ref y9], hs_ia cI y1 41 h] (fun r (_ : Unit) => r = hs_I (mo_hor h)) (fun _ => [hs_ob y0 7 [.ref y1, .ref y2, hs_V pm, .ref y3, hs_V fl, .ref y4, .ref y5, .ref y6, .ref y7, hs_V pt, .ref y8, .ref y9], hs_ia cI y1 41 h]) 0 0 := by
  refine hs_enter (cc := cX7_horizontal) (maxL := 4) (by decide +kernel) rfl (Nat.le_of_ble_eq_true rfl) (fun p e s m args below meth c A H0 Q C hret => ?_)
  have f7 := C.1.2.2.2.2 (.fieldLink RX7 7 "HistogramStairsModel" "h" "[I") (by decide +kernel)
  have u7 : ∀ w ∈ wsX70, w ∈ wsX7_horizontal := by decide +kernel
  refine hs_lvs (lv' := [(0, .ref y0)]) [0] rfl ?_
  refine hs_iconst C dX7_horizontal_0 ?_
  refine hs_istore_n (lv' := [(0, .ref y0), (1, hs_V 0)]) C dX7_horizontal_1 rfl (by decide) [1, 0] rfl ?_
  refine hs_iconst C dX7_horizontal_2 ?_
  refine hs_istore_n (lv' := [(0, .ref y0), (1, hs_V 0), (2, hs_V 0)]) C dX7_horizontal_3 rfl (by decide) [1, 2, 0] rfl ?_
  have Lp1 : ∀ (k : Nat) (i : Int) (x : Int), (0 ≤ i ∧ i ≤ h 40) → (hs_up (fun i x => if h i ≤ (if i = 0 then 0 else h (i - 1)) then x + 0 else x + (h i - (if i = 0 then 0 else h (i - 1)))) i (h 40) x = mo_hor h) → (h 40 - i < (k : Int)) → hs_J p l e ({ frames := 1, cells := 0, slots := 0, locals := 20 } : Room) s m args below meth c D A H0 4 0 0 Q 4 [(0, .ref y0), (1, hs_V x), (2, hs_V i)] [] [hs_ob y0 7 [.ref y1, .ref y2, hs_V pm, .ref y3, hs_V fl, .ref y4, .ref y5, .ref y6, .ref y7, hs_V pt, .ref y8, .ref y9], hs_ia cI y1 41 h] := by
    intro k
    induction k with
    | zero =>
      intro i x hi hL hk
      exact absurd hk (by omega)
    | succ k ih =>
      intro i x hi hL hk
      have ih2 := ih
      refine hs_iload_n C dX7_horizontal_4 rfl 2 rfl ?_
      refine hs_aload_n C dX7_horizontal_5 rfl 0 rfl ?_
      refine hs_callVi (win := [hs_ob y0 7 [.ref y1, .ref y2, hs_V pm, .ref y3, hs_V fl, .ref y4, .ref y5, .ref y6, .ref y7, hs_V pt, .ref y8, .ref y9], hs_ia cI y1 41 h]) (wr := []) (As := []) (rest := [hs_V i]) C (c_X7_many l D cI cO y0 y1 y2 y3 y4 y5 y6 y7 y8 y9 pm fl pt h ) 7 0 rfl rfl rfl (cwV 0 C.1.2.2.2.2 gX7_horizontal_X7_many rfl rfl rfl (by decide +kernel) ⟨Nat.le_of_ble_eq_true rfl, Nat.le_of_ble_eq_true rfl⟩) rfl rfl (Nat.le_of_ble_eq_true rfl) dX7_horizontal_6 ⟨Nat.le_of_ble_eq_true rfl, Nat.le_of_ble_eq_true rfl⟩ (fun rr uu3 hp => ?_)
      obtain rfl := hp
      refine hs_re0 (w' := [hs_ob y0 7 [.ref y1, .ref y2, hs_V pm, .ref y3, hs_V fl, .ref y4, .ref y5, .ref y6, .ref y7, hs_V pt, .ref y8, .ref y9], hs_ia cI y1 41 h]) [0, 1] rfl (by decide) ?_
      refine hs_icmp_ge (tgt := 60) C dX7_horizontal_9 (by decide) (by omega) (by omega) (fun c4 => ?_) (fun c4 => ?_)
      ·
        refine hs_iload_n C dX7_horizontal_60 rfl 1 rfl ?_
        exact hret _ _ _ () (by rw [← hL, hs_up_done (by omega)]) dX7_horizontal_61 rfl
      ·
        refine hs_iload_n C dX7_horizontal_12 rfl 2 rfl ?_
        refine hs_if_ne (tgt := 20) C dX7_horizontal_13 (by decide) (by omega) (fun c5 => ?_) (fun c5 => ?_)
        ·
          refine hs_aload_n C dX7_horizontal_20 rfl 0 rfl ?_
          refine hs_get C u7 0 rfl rfl 0 (by decide) f7 rfl rfl dX7_horizontal_21 ?_
          refine hs_iload_n C dX7_horizontal_24 rfl 2 rfl ?_
          refine hs_iconst C dX7_horizontal_25 ?_
          refine hs_isub C dX7_horizontal_26 ?_
          refine hs_iald C 1 rfl (by omega) dX7_horizontal_27 ?_
          have b6 := hh (i - 1)
          refine hs_istore_n (lv' := [(0, .ref y0), (1, hs_V x), (2, hs_V i), (3, hs_V (h (i - 1)))]) C dX7_horizontal_28 rfl (by decide) [1, 2, 3, 0] rfl ?_
          refine hs_iload_n C dX7_horizontal_29 rfl 1 rfl ?_
          refine hs_aload_n C dX7_horizontal_30 rfl 0 rfl ?_
          refine hs_get C u7 0 rfl rfl 0 (by decide) f7 rfl rfl dX7_horizontal_31 ?_
          refine hs_iload_n C dX7_horizontal_34 rfl 2 rfl ?_
          refine hs_iald C 1 rfl (by omega) dX7_horizontal_35 ?_
          have b7 := hh i
          refine hs_iload_n C dX7_horizontal_36 rfl 3 rfl ?_
          refine hs_icmp_le (tgt := 51) C dX7_horizontal_37 (by decide) (by omega) (by omega) (fun c8 => ?_) (fun c8 => ?_)
          ·
            refine hs_iconst C dX7_horizontal_51 ?_
            refine hs_iadd C dX7_horizontal_52 ?_
            refine hs_istore_n (lv' := [(0, .ref y0), (1, hs_V (x + 0)), (2, hs_V i), (3, hs_V (h (i - 1)))]) C dX7_horizontal_53 rfl (by decide) [1, 0, 2, 3] rfl ?_
            refine hs_iinc (lv' := [(0, .ref y0), (1, hs_V (x + 0)), (2, hs_V (i + 1)), (3, hs_V (h (i - 1)))]) C dX7_horizontal_54 2 rfl (by decide) [1, 2, 0, 3] rfl ?_
            refine hs_goto (tgt := 4) C dX7_horizontal_57 (by decide) ?_
            refine hs_lvs (lv' := [(0, .ref y0), (1, hs_V (x + 0)), (2, hs_V (i + 1))]) [0, 1, 2] rfl ?_
            exact ih2 (i + 1) (x + 0) (by omega) (by have hz := (hs_up_step (by omega)).symm.trans hL; (try dsimp only at hz); first | (simp only [if_pos (show i = 0 by omega)] at hz; first | (rw [if_pos (by omega)] at hz; exact hz) | (rw [if_neg (by omega)] at hz; exact hz)) | (simp only [if_neg (show ¬ i = 0 by omega)] at hz; first | (rw [if_pos (by omega)] at hz; exact hz) | (rw [if_neg (by omega)] at hz; exact hz))) (by omega)
          ·
            refine hs_aload_n C dX7_horizontal_40 rfl 0 rfl ?_
            refine hs_get C u7 0 rfl rfl 0 (by decide) f7 rfl rfl dX7_horizontal_41 ?_
            refine hs_iload_n C dX7_horizontal_44 rfl 2 rfl ?_
            refine hs_iald C 1 rfl (by omega) dX7_horizontal_45 ?_
            have b9 := hh i
            refine hs_iload_n C dX7_horizontal_46 rfl 3 rfl ?_
            refine hs_isub C dX7_horizontal_47 ?_
            refine hs_goto (tgt := 52) C dX7_horizontal_48 (by decide) ?_
            refine hs_iadd C dX7_horizontal_52 ?_
            refine hs_istore_n (lv' := [(0, .ref y0), (1, hs_V (x + ((h i) - (h (i - 1))))), (2, hs_V i), (3, hs_V (h (i - 1)))]) C dX7_horizontal_53 rfl (by decide) [1, 0, 2, 3] rfl ?_
            refine hs_iinc (lv' := [(0, .ref y0), (1, hs_V (x + ((h i) - (h (i - 1))))), (2, hs_V (i + 1)), (3, hs_V (h (i - 1)))]) C dX7_horizontal_54 2 rfl (by decide) [1, 2, 0, 3] rfl ?_
            refine hs_goto (tgt := 4) C dX7_horizontal_57 (by decide) ?_
            refine hs_lvs (lv' := [(0, .ref y0), (1, hs_V (x + ((h i) - (h (i - 1))))), (2, hs_V (i + 1))]) [0, 1, 2] rfl ?_
            exact ih2 (i + 1) (x + ((h i) - (h (i - 1)))) (by omega) (by have hz := (hs_up_step (by omega)).symm.trans hL; (try dsimp only at hz); first | (simp only [if_pos (show i = 0 by omega)] at hz; first | (rw [if_pos (by omega)] at hz; exact hz) | (rw [if_neg (by omega)] at hz; exact hz)) | (simp only [if_neg (show ¬ i = 0 by omega)] at hz; first | (rw [if_pos (by omega)] at hz; exact hz) | (rw [if_neg (by omega)] at hz; exact hz))) (by omega)
        ·
          refine hs_iconst C dX7_horizontal_16 ?_
          refine hs_goto (tgt := 28) C dX7_horizontal_17 (by decide) ?_
          refine hs_istore_n (lv' := [(0, .ref y0), (1, hs_V x), (2, hs_V i), (3, hs_V 0)]) C dX7_horizontal_28 rfl (by decide) [1, 2, 3, 0] rfl ?_
          refine hs_iload_n C dX7_horizontal_29 rfl 1 rfl ?_
          refine hs_aload_n C dX7_horizontal_30 rfl 0 rfl ?_
          refine hs_get C u7 0 rfl rfl 0 (by decide) f7 rfl rfl dX7_horizontal_31 ?_
          refine hs_iload_n C dX7_horizontal_34 rfl 2 rfl ?_
          refine hs_iald C 1 rfl (by omega) dX7_horizontal_35 ?_
          have b10 := hh i
          refine hs_iload_n C dX7_horizontal_36 rfl 3 rfl ?_
          refine hs_icmp_le (tgt := 51) C dX7_horizontal_37 (by decide) (by omega) (by omega) (fun c11 => ?_) (fun c11 => ?_)
          ·
            refine hs_iconst C dX7_horizontal_51 ?_
            refine hs_iadd C dX7_horizontal_52 ?_
            refine hs_istore_n (lv' := [(0, .ref y0), (1, hs_V (x + 0)), (2, hs_V i), (3, hs_V 0)]) C dX7_horizontal_53 rfl (by decide) [1, 0, 2, 3] rfl ?_
            refine hs_iinc (lv' := [(0, .ref y0), (1, hs_V (x + 0)), (2, hs_V (i + 1)), (3, hs_V 0)]) C dX7_horizontal_54 2 rfl (by decide) [1, 2, 0, 3] rfl ?_
            refine hs_goto (tgt := 4) C dX7_horizontal_57 (by decide) ?_
            refine hs_lvs (lv' := [(0, .ref y0), (1, hs_V (x + 0)), (2, hs_V (i + 1))]) [0, 1, 2] rfl ?_
            exact ih2 (i + 1) (x + 0) (by omega) (by have hz := (hs_up_step (by omega)).symm.trans hL; (try dsimp only at hz); first | (simp only [if_pos (show i = 0 by omega)] at hz; first | (rw [if_pos (by omega)] at hz; exact hz) | (rw [if_neg (by omega)] at hz; exact hz)) | (simp only [if_neg (show ¬ i = 0 by omega)] at hz; first | (rw [if_pos (by omega)] at hz; exact hz) | (rw [if_neg (by omega)] at hz; exact hz))) (by omega)
          ·
            refine hs_aload_n C dX7_horizontal_40 rfl 0 rfl ?_
            refine hs_get C u7 0 rfl rfl 0 (by decide) f7 rfl rfl dX7_horizontal_41 ?_
            refine hs_iload_n C dX7_horizontal_44 rfl 2 rfl ?_
            refine hs_iald C 1 rfl (by omega) dX7_horizontal_45 ?_
            have b12 := hh i
            refine hs_iload_n C dX7_horizontal_46 rfl 3 rfl ?_
            refine hs_isub C dX7_horizontal_47 ?_
            refine hs_goto (tgt := 52) C dX7_horizontal_48 (by decide) ?_
            refine hs_iadd C dX7_horizontal_52 ?_
            refine hs_istore_n (lv' := [(0, .ref y0), (1, hs_V (x + ((h i) - 0))), (2, hs_V i), (3, hs_V 0)]) C dX7_horizontal_53 rfl (by decide) [1, 0, 2, 3] rfl ?_
            refine hs_iinc (lv' := [(0, .ref y0), (1, hs_V (x + ((h i) - 0))), (2, hs_V (i + 1)), (3, hs_V 0)]) C dX7_horizontal_54 2 rfl (by decide) [1, 2, 0, 3] rfl ?_
            refine hs_goto (tgt := 4) C dX7_horizontal_57 (by decide) ?_
            refine hs_lvs (lv' := [(0, .ref y0), (1, hs_V (x + ((h i) - 0))), (2, hs_V (i + 1))]) [0, 1, 2] rfl ?_
            exact ih2 (i + 1) (x + ((h i) - 0)) (by omega) (by have hz := (hs_up_step (by omega)).symm.trans hL; (try dsimp only at hz); first | (simp only [if_pos (show i = 0 by omega)] at hz; first | (rw [if_pos (by omega)] at hz; exact hz) | (rw [if_neg (by omega)] at hz; exact hz)) | (simp only [if_neg (show ¬ i = 0 by omega)] at hz; first | (rw [if_pos (by omega)] at hz; exact hz) | (rw [if_neg (by omega)] at hz; exact hz))) (by omega)
  exact Lp1 ((h 40 - 0 : Int).toNat + 1) 0 0 (by omega) (rfl) (by omega)

set_option maxHeartbeats 4000000 in
set_option maxRecDepth 100000 in
theorem c_X7_endAbove (l : Launch) (D : va_G) (cI cO : ClassId) (y0 : Nat) (y1 : Nat) (y2 : Nat) (y3 : Nat) (y4 : Nat) (y5 : Nat) (y6 : Nat) (y7 : Nat) (y8 : Nat) (y9 : Nat) (pm : Int) (fl : Int) (pt : Int) (h : Int → Int) (i : Int) (v : Int) (hh : ∀ k, 0 ≤ h k ∧ h k ≤ 50) (hN : 0 ≤ h 40 ∧ h 40 ≤ 40) (hi : 0 ≤ i ∧ i ≤ h 40 - 1) (hv : 0 ≤ v ∧ v ≤ 50) : hs_M l D cI cO yX7_endAbove wsX7_endAbove ({ frames := 1, cells := 0, slots := 0, locals := 20 } : Room) [.ref y0, hs_V i, hs_V v] [hs_ob y0 7 [.ref y1, .ref y2, hs_V pm, .ref y3, hs_V fl, .ref y4, .ref y5, .ref y6, .ref y7, hs_V pt, .ref y8, .ref y9], hs_ia cI y1 41 h] (fun r (_ : Unit) => r = hs_I (mo_ea h i v)) (fun _ => [hs_ob y0 7 [.ref y1, .ref y2, hs_V pm, .ref y3, hs_V fl, .ref y4, .ref y5, .ref y6, .ref y7, hs_V pt, .ref y8, .ref y9], hs_ia cI y1 41 h]) 0 0 := by
  refine hs_enter (cc := cX7_endAbove) (maxL := 4) (by decide +kernel) rfl (Nat.le_of_ble_eq_true rfl) (fun p e s m args below meth c A H0 Q C hret => ?_)
  have f7 := C.1.2.2.2.2 (.fieldLink RX7 7 "HistogramStairsModel" "h" "[I") (by decide +kernel)
  have u7 : ∀ w ∈ wsX70, w ∈ wsX7_endAbove := by decide +kernel
  refine hs_lvs (lv' := [(0, .ref y0), (1, hs_V i), (2, hs_V v)]) [0, 1, 2] rfl ?_
  refine hs_iload_n C dX7_endAbove_0 rfl 1 rfl ?_
  refine hs_istore_n (lv' := [(0, .ref y0), (1, hs_V i), (2, hs_V v), (3, hs_V i)]) C dX7_endAbove_1 rfl (by decide) [1, 2, 3, 0] rfl ?_
  have Lp1 : ∀ (k : Nat) (x : Int), (0 ≤ x ∧ x ≤ h 40 - 1) → (hs_wh (mo_eaP h v) (fun x => x + 1) k x = mo_ea h i v) → (h 40 - x < (k : Int)) → hs_J p l e ({ frames := 1, cells := 0, slots := 0, locals := 20 } : Room) s m args below meth c D A H0 4 0 0 Q 2 [(0, .ref y0), (1, hs_V i), (2, hs_V v), (3, hs_V x)] [] [hs_ob y0 7 [.ref y1, .ref y2, hs_V pm, .ref y3, hs_V fl, .ref y4, .ref y5, .ref y6, .ref y7, hs_V pt, .ref y8, .ref y9], hs_ia cI y1 41 h] := by
    intro k
    induction k with
    | zero =>
      intro x hx hL hk
      exact absurd hk (by omega)
    | succ k ih =>
      intro x hx hL hk
      have ih2 := ih
      refine hs_iload_n C dX7_endAbove_2 rfl 3 rfl ?_
      refine hs_iconst C dX7_endAbove_3 ?_
      refine hs_iadd C dX7_endAbove_4 ?_
      refine hs_aload_n C dX7_endAbove_5 rfl 0 rfl ?_
      refine hs_callVi (win := [hs_ob y0 7 [.ref y1, .ref y2, hs_V pm, .ref y3, hs_V fl, .ref y4, .ref y5, .ref y6, .ref y7, hs_V pt, .ref y8, .ref y9], hs_ia cI y1 41 h]) (wr := []) (As := []) (rest := [hs_V (x + 1)]) C (c_X7_many l D cI cO y0 y1 y2 y3 y4 y5 y6 y7 y8 y9 pm fl pt h ) 7 0 rfl rfl rfl (cwV 0 C.1.2.2.2.2 gX7_endAbove_X7_many rfl rfl rfl (by decide +kernel) ⟨Nat.le_of_ble_eq_true rfl, Nat.le_of_ble_eq_true rfl⟩) rfl rfl (Nat.le_of_ble_eq_true rfl) dX7_endAbove_6 ⟨Nat.le_of_ble_eq_true rfl, Nat.le_of_ble_eq_true rfl⟩ (fun rr uu3 hp => ?_)
      obtain rfl := hp
      refine hs_re0 (w' := [hs_ob y0 7 [.ref y1, .ref y2, hs_V pm, .ref y3, hs_V fl, .ref y4, .ref y5, .ref y6, .ref y7, hs_V pt, .ref y8, .ref y9], hs_ia cI y1 41 h]) [0, 1] rfl (by decide) ?_
      refine hs_icmp_ge (tgt := 30) C dX7_endAbove_9 (by decide) (by omega) (by omega) (fun c4 => ?_) (fun c4 => ?_)
      ·
        refine hs_iload_n C dX7_endAbove_30 rfl 3 rfl ?_
        exact hret _ _ _ () (by rw [← hL, hs_wh_done (show ¬ mo_eaP h v x by unfold mo_eaP; omega)]) dX7_endAbove_31 rfl
      ·
        refine hs_aload_n C dX7_endAbove_12 rfl 0 rfl ?_
        refine hs_get C u7 0 rfl rfl 0 (by decide) f7 rfl rfl dX7_endAbove_13 ?_
        refine hs_iload_n C dX7_endAbove_16 rfl 3 rfl ?_
        refine hs_iconst C dX7_endAbove_17 ?_
        refine hs_iadd C dX7_endAbove_18 ?_
        refine hs_iald C 1 rfl (by omega) dX7_endAbove_19 ?_
        have b5 := hh (x + 1)
        refine hs_iload_n C dX7_endAbove_20 rfl 2 rfl ?_
        refine hs_icmp_le (tgt := 30) C dX7_endAbove_21 (by decide) (by omega) (by omega) (fun c6 => ?_) (fun c6 => ?_)
        ·
          refine hs_iload_n C dX7_endAbove_30 rfl 3 rfl ?_
          exact hret _ _ _ () (by rw [← hL, hs_wh_done (show ¬ mo_eaP h v x by unfold mo_eaP; omega)]) dX7_endAbove_31 rfl
        ·
          refine hs_iinc (lv' := [(0, .ref y0), (1, hs_V i), (2, hs_V v), (3, hs_V (x + 1))]) C dX7_endAbove_24 3 rfl (by decide) [1, 2, 3, 0] rfl ?_
          refine hs_goto (tgt := 2) C dX7_endAbove_27 (by decide) ?_
          exact ih2 (x + 1) (by omega) ((hs_wh_step (P := mo_eaP h v) (f := fun x => x + 1) (n := k) (x := x) ⟨by omega, by omega⟩).symm.trans hL) (by omega)
  exact Lp1 ((h 40 - i : Int).toNat + 1) i (by omega) (rfl) (by omega)

set_option maxHeartbeats 4000000 in
set_option maxRecDepth 100000 in
theorem c_X7_layLevel (l : Launch) (D : va_G) (cI cO : ClassId) (y0 : Nat) (y1 : Nat) (y2 : Nat) (y3 : Nat) (y4 : Nat) (y5 : Nat) (y6 : Nat) (y7 : Nat) (y8 : Nat) (y9 : Nat) (pm : Int) (fl : Int) (pt : Int) (h : Int → Int) (Ab : Int → Int) (Nx : Int → Int) (v : Int) (hh : ∀ k, 0 ≤ h k ∧ h k ≤ 50) (hN : 0 ≤ h 40 ∧ h 40 ≤ 40) (hAb : ∀ k, 0 ≤ Ab k ∧ Ab k ≤ 40) (hNx : ∀ k, 0 ≤ Nx k ∧ Nx k ≤ 40) (hv : 0 ≤ v ∧ v ≤ 49) : hs_Mv l D cI cO yX7_layLevel wsX7_layLevel ({ frames := 2, cells := 0, slots := 0, locals := 43 } : Room) [.ref y0, hs_V v] [hs_ob y0 7 [.ref y1, .ref y2, hs_V pm, .ref y3, hs_V fl, .ref y4, .ref y5, .ref y6, .ref y7, hs_V pt, .ref y8, .ref y9], hs_ia cI y1 41 h, hs_ia cI y8 41 Ab, hs_ia cI y9 41 Nx] (fun (_ : Unit) => True) (fun _ => [hs_ob y0 7 [.ref y1, .ref y2, hs_V pm, .ref y3, hs_V fl, .ref y4, .ref y5, .ref y6, .ref y7, hs_V pt, .ref y8, .ref y9], hs_ia cI y1 41 h, hs_ia cI y8 41 (mo_lev h v (Ab, Nx)).1, hs_ia cI y9 41 (mo_lev h v (Ab, Nx)).2]) 0 0 := by
  refine hs_enterV (cc := cX7_layLevel) (maxL := 6) (by decide +kernel) rfl (Nat.le_of_ble_eq_true rfl) (fun p e s m args below meth c A H0 Q C hin2 hret => ?_)
  have f31 := C.1.2.2.2.2 (.fieldLink RX7 31 "HistogramStairsModel" "above" "[I") (by decide +kernel)
  have u7 : ∀ w ∈ wsX70, w ∈ wsX7_layLevel := by decide +kernel
  have f34 := C.1.2.2.2.2 (.fieldLink RX7 34 "HistogramStairsModel" "next" "[I") (by decide +kernel)
  have f7 := C.1.2.2.2.2 (.fieldLink RX7 7 "HistogramStairsModel" "h" "[I") (by decide +kernel)
  refine hs_lvs (lv' := [(0, .ref y0), (1, hs_V v)]) [0, 1] rfl ?_
  refine hs_iconst C dX7_layLevel_0 ?_
  refine hs_istore_n (lv' := [(0, .ref y0), (1, hs_V v), (2, hs_V 0)]) C dX7_layLevel_1 rfl (by decide) [1, 2, 0] rfl ?_
  have Lp1 : ∀ (k : Nat) (i : Int) (X : Int → Int), (0 ≤ i ∧ i ≤ h 40) → (hs_up (mo_l1F h Ab v) i (h 40) X = mo_l1 h Ab v Nx) → (h 40 - i < (k : Int)) → hs_J p l e ({ frames := 2, cells := 0, slots := 0, locals := 43 } : Room) s m args below meth c D A H0 6 0 0 Q 2 [(0, .ref y0), (1, hs_V v), (2, hs_V i)] [] [hs_ob y0 7 [.ref y1, .ref y2, hs_V pm, .ref y3, hs_V fl, .ref y4, .ref y5, .ref y6, .ref y7, hs_V pt, .ref y8, .ref y9], hs_ia cI y1 41 h, hs_ia cI y8 41 Ab, hs_ia cI y9 41 X] := by
    intro k
    induction k with
    | zero =>
      intro i X hi hL hk
      exact absurd hk (by omega)
    | succ k ih =>
      intro i X hi hL hk
      have ih2 := ih
      refine hs_iload_n C dX7_layLevel_2 rfl 2 rfl ?_
      refine hs_aload_n C dX7_layLevel_3 rfl 0 rfl ?_
      refine hs_callVi (win := [hs_ob y0 7 [.ref y1, .ref y2, hs_V pm, .ref y3, hs_V fl, .ref y4, .ref y5, .ref y6, .ref y7, hs_V pt, .ref y8, .ref y9], hs_ia cI y1 41 h]) (wr := [hs_ia cI y8 41 Ab, hs_ia cI y9 41 X]) (As := []) (rest := [hs_V i]) C (c_X7_many l D cI cO y0 y1 y2 y3 y4 y5 y6 y7 y8 y9 pm fl pt h ) 7 0 rfl rfl rfl (cwV 0 C.1.2.2.2.2 gX7_layLevel_X7_many rfl rfl rfl (by decide +kernel) ⟨Nat.le_of_ble_eq_true rfl, Nat.le_of_ble_eq_true rfl⟩) rfl rfl (Nat.le_of_ble_eq_true rfl) dX7_layLevel_4 ⟨Nat.le_of_ble_eq_true rfl, Nat.le_of_ble_eq_true rfl⟩ (fun rr uu3 hp => ?_)
      obtain rfl := hp
      refine hs_re0 (w' := [hs_ob y0 7 [.ref y1, .ref y2, hs_V pm, .ref y3, hs_V fl, .ref y4, .ref y5, .ref y6, .ref y7, hs_V pt, .ref y8, .ref y9], hs_ia cI y1 41 h, hs_ia cI y8 41 Ab, hs_ia cI y9 41 X]) [0, 1, 2, 3] rfl (by decide) ?_
      refine hs_icmp_ge (tgt := 112) C dX7_layLevel_7 (by decide) (by omega) (by omega) (fun c4 => ?_) (fun c4 => ?_)
      ·
        have hX1 : mo_l1 h Ab v Nx = X := by rw [← hL, hs_up_done (by omega)]
        refine hs_iconst C dX7_layLevel_112 ?_
        refine hs_istore_n (lv' := [(0, .ref y0), (1, hs_V v), (2, hs_V 0)]) C dX7_layLevel_113 rfl (by decide) [1, 2, 0] rfl ?_
        have Lp5 : ∀ (k : Nat) (j : Int) (Y : Int → Int), (0 ≤ j ∧ j ≤ h 40) → (hs_up (fun i x => hs_u x i (mo_l1 h Ab v Nx i)) j (h 40) Y = mo_l2 h (mo_l1 h Ab v Nx) Ab) → (h 40 - j < (k : Int)) → hs_J p l e ({ frames := 2, cells := 0, slots := 0, locals := 43 } : Room) s m args below meth c D A H0 6 0 0 Q 114 [(0, .ref y0), (1, hs_V v), (2, hs_V j)] [] [hs_ob y0 7 [.ref y1, .ref y2, hs_V pm, .ref y3, hs_V fl, .ref y4, .ref y5, .ref y6, .ref y7, hs_V pt, .ref y8, .ref y9], hs_ia cI y1 41 h, hs_ia cI y8 41 Y, hs_ia cI y9 41 X] := by
          intro k
          induction k with
          | zero =>
            intro j Y hj hM2 hk
            exact absurd hk (by omega)
          | succ k ih =>
            intro j Y hj hM2 hk
            have ih6 := ih
            refine hs_iload_n C dX7_layLevel_114 rfl 2 rfl ?_
            refine hs_aload_n C dX7_layLevel_115 rfl 0 rfl ?_
            refine hs_callVi (win := [hs_ob y0 7 [.ref y1, .ref y2, hs_V pm, .ref y3, hs_V fl, .ref y4, .ref y5, .ref y6, .ref y7, hs_V pt, .ref y8, .ref y9], hs_ia cI y1 41 h]) (wr := [hs_ia cI y8 41 Y, hs_ia cI y9 41 X]) (As := []) (rest := [hs_V j]) C (c_X7_many l D cI cO y0 y1 y2 y3 y4 y5 y6 y7 y8 y9 pm fl pt h ) 7 0 rfl rfl rfl (cwV 0 C.1.2.2.2.2 gX7_layLevel_X7_many rfl rfl rfl (by decide +kernel) ⟨Nat.le_of_ble_eq_true rfl, Nat.le_of_ble_eq_true rfl⟩) rfl rfl (Nat.le_of_ble_eq_true rfl) dX7_layLevel_116 ⟨Nat.le_of_ble_eq_true rfl, Nat.le_of_ble_eq_true rfl⟩ (fun rr uu7 hp => ?_)
            obtain rfl := hp
            refine hs_re0 (w' := [hs_ob y0 7 [.ref y1, .ref y2, hs_V pm, .ref y3, hs_V fl, .ref y4, .ref y5, .ref y6, .ref y7, hs_V pt, .ref y8, .ref y9], hs_ia cI y1 41 h, hs_ia cI y8 41 Y, hs_ia cI y9 41 X]) [0, 1, 2, 3] rfl (by decide) ?_
            refine hs_icmp_ge (tgt := 140) C dX7_layLevel_119 (by decide) (by omega) (by omega) (fun c8 => ?_) (fun c8 => ?_)
            ·
              refine hs_cast (ws' := [hs_ob y0 7 [.ref y1, .ref y2, hs_V pm, .ref y3, hs_V fl, .ref y4, .ref y5, .ref y6, .ref y7, hs_V pt, .ref y8, .ref y9], hs_ia cI y1 41 h, hs_ia cI y8 41 (mo_lev h v (Ab, Nx)).1, hs_ia cI y9 41 (mo_lev h v (Ab, Nx)).2]) ?_ rfl rfl rfl (by unfold mo_lev; dsimp only; rw [← hM2, hs_up_done (by omega), hX1])
              exact hret _ _ () trivial dX7_layLevel_140
            ·
              refine hs_aload_n C dX7_layLevel_122 rfl 0 rfl ?_
              refine hs_get C u7 0 rfl rfl 10 (by decide) f31 rfl rfl dX7_layLevel_123 ?_
              refine hs_iload_n C dX7_layLevel_126 rfl 2 rfl ?_
              refine hs_aload_n C dX7_layLevel_127 rfl 0 rfl ?_
              refine hs_get C u7 0 rfl rfl 11 (by decide) f34 rfl rfl dX7_layLevel_128 ?_
              refine hs_iload_n C dX7_layLevel_131 rfl 2 rfl ?_
              refine hs_iald C 3 rfl (by omega) dX7_layLevel_132 ?_
              refine hs_iast (ws' := [hs_ob y0 7 [.ref y1, .ref y2, hs_V pm, .ref y3, hs_V fl, .ref y4, .ref y5, .ref y6, .ref y7, hs_V pt, .ref y8, .ref y9], hs_ia cI y1 41 h, hs_ia cI y8 41 (hs_u Y j (X j)), hs_ia cI y9 41 X]) C 2 rfl (by omega) rfl dX7_layLevel_133 ?_
              refine hs_iinc (lv' := [(0, .ref y0), (1, hs_V v), (2, hs_V (j + 1))]) C dX7_layLevel_134 2 rfl (by decide) [1, 2, 0] rfl ?_
              refine hs_goto (tgt := 114) C dX7_layLevel_137 (by decide) ?_
              exact ih6 (j + 1) (hs_u Y j (X j)) (by omega) (by have hz := (hs_up_step (by omega)).symm.trans hM2; rw [hX1] at hz ⊢; exact hz) (by omega)
        exact Lp5 ((h 40 - 0 : Int).toNat + 1) 0 Ab (by omega) (rfl) (by omega)
      ·
        refine hs_aload_n C dX7_layLevel_10 rfl 0 rfl ?_
        refine hs_get C u7 0 rfl rfl 11 (by decide) f34 rfl rfl dX7_layLevel_11 ?_
        refine hs_iload_n C dX7_layLevel_14 rfl 2 rfl ?_
        refine hs_iconst C dX7_layLevel_15 ?_
        refine hs_iast (ws' := [hs_ob y0 7 [.ref y1, .ref y2, hs_V pm, .ref y3, hs_V fl, .ref y4, .ref y5, .ref y6, .ref y7, hs_V pt, .ref y8, .ref y9], hs_ia cI y1 41 h, hs_ia cI y8 41 Ab, hs_ia cI y9 41 (hs_u X i 0)]) C 3 rfl (by omega) rfl dX7_layLevel_16 ?_
        refine hs_aload_n C dX7_layLevel_17 rfl 0 rfl ?_
        refine hs_get C u7 0 rfl rfl 0 (by decide) f7 rfl rfl dX7_layLevel_18 ?_
        refine hs_iload_n C dX7_layLevel_21 rfl 2 rfl ?_
        refine hs_iald C 1 rfl (by omega) dX7_layLevel_22 ?_
        have b9 := hh i
        refine hs_iload_n C dX7_layLevel_23 rfl 1 rfl ?_
        refine hs_icmp_le (tgt := 106) C dX7_layLevel_24 (by decide) (by omega) (by omega) (fun c10 => ?_) (fun c10 => ?_)
        ·
          refine hs_iinc (lv' := [(0, .ref y0), (1, hs_V v), (2, hs_V (i + 1))]) C dX7_layLevel_106 2 rfl (by decide) [1, 2, 0] rfl ?_
          refine hs_goto (tgt := 2) C dX7_layLevel_109 (by decide) ?_
          exact ih2 (i + 1) (hs_u X i 0) (by omega) (by have hz := (hs_up_step (by omega)).symm.trans hL; first | (rw [show mo_l1F h Ab v i X = hs_u X i 0 by unfold mo_l1F; rw [if_neg (by omega)]] at hz; exact hz) | (rw [show mo_l1F h Ab v i X = hs_u (hs_u X i 0) i y by unfold mo_l1F; rw [if_pos (by omega), hls, if_pos (by omega)]] at hz; exact hz) | (rw [show mo_l1F h Ab v i X = hs_u (hs_u X i 0) i (mo_ea h i v - i + 1) by unfold mo_l1F; rw [if_pos (by omega), hls, if_neg (by omega)]] at hz; exact hz)) (by omega)
        ·
          refine hs_iload_n C dX7_layLevel_27 rfl 2 rfl ?_
          refine hs_if_eq (tgt := 43) C dX7_layLevel_28 (by decide) (by omega) (fun c11 => ?_) (fun c11 => ?_)
          ·
            refine hs_aload_n C dX7_layLevel_43 rfl 0 rfl ?_
            refine hs_iload_n C dX7_layLevel_44 rfl 2 rfl ?_
            refine hs_iload_n C dX7_layLevel_45 rfl 1 rfl ?_
            refine hs_callVi (win := [hs_ob y0 7 [.ref y1, .ref y2, hs_V pm, .ref y3, hs_V fl, .ref y4, .ref y5, .ref y6, .ref y7, hs_V pt, .ref y8, .ref y9], hs_ia cI y1 41 h]) (wr := [hs_ia cI y8 41 Ab, hs_ia cI y9 41 (hs_u X i 0)]) (As := [hs_V i, hs_V v]) (rest := []) C (c_X7_endAbove l D cI cO y0 y1 y2 y3 y4 y5 y6 y7 y8 y9 pm fl pt h i v hh (by omega) (by omega) (by omega)) 7 0 rfl rfl rfl (cwV 2 C.1.2.2.2.2 gX7_layLevel_X7_endAbove rfl rfl rfl (by decide +kernel) ⟨Nat.le_of_ble_eq_true rfl, Nat.le_of_ble_eq_true rfl⟩) rfl rfl (Nat.le_of_ble_eq_true rfl) dX7_layLevel_46 ⟨Nat.le_of_ble_eq_true rfl, Nat.le_of_ble_eq_true rfl⟩ (fun rr uu12 hp => ?_)
            obtain rfl := hp
            refine hs_re0 (w' := [hs_ob y0 7 [.ref y1, .ref y2, hs_V pm, .ref y3, hs_V fl, .ref y4, .ref y5, .ref y6, .ref y7, hs_V pt, .ref y8, .ref y9], hs_ia cI y1 41 h, hs_ia cI y8 41 Ab, hs_ia cI y9 41 (hs_u X i 0)]) [0, 1, 2, 3] rfl (by decide) ?_
            have hrg := mo_ea_rg (h := h) (i := i) (v := v) (by omega)
            refine hs_istore_n (lv' := [(0, .ref y0), (1, hs_V v), (2, hs_V i), (3, hs_V (mo_ea h i v))]) C dX7_layLevel_49 rfl (by decide) [1, 2, 3, 0] rfl ?_
            refine hs_iconst C dX7_layLevel_50 ?_
            refine hs_istore (lv' := [(0, .ref y0), (1, hs_V v), (2, hs_V i), (3, hs_V (mo_ea h i v)), (4, hs_V 1)]) C dX7_layLevel_51 (by decide) [1, 2, 3, 4, 0] rfl ?_
            refine hs_iload_n C dX7_layLevel_53 rfl 2 rfl ?_
            refine hs_istore (lv' := [(0, .ref y0), (1, hs_V v), (2, hs_V i), (3, hs_V (mo_ea h i v)), (4, hs_V 1), (5, hs_V i)]) C dX7_layLevel_54 (by decide) [1, 2, 3, 4, 5, 0] rfl ?_
            have Lp13 : ∀ (k : Nat) (q : Int) (y : Int), (i ≤ q ∧ q ≤ mo_ea h i v + 1) → (0 ≤ y ∧ y ≤ 1 + 40 * (q - i)) → (hs_up (fun q x => x + Ab q) q (mo_ea h i v + 1) y = mo_lsum Ab i (mo_ea h i v)) → (mo_ea h i v + 1 - q < (k : Int)) → hs_J p l e ({ frames := 2, cells := 0, slots := 0, locals := 43 } : Room) s m args below meth c D A H0 6 0 0 Q 56 [(0, .ref y0), (1, hs_V v), (2, hs_V i), (3, hs_V (mo_ea h i v)), (4, hs_V y), (5, hs_V q)] [] [hs_ob y0 7 [.ref y1, .ref y2, hs_V pm, .ref y3, hs_V fl, .ref y4, .ref y5, .ref y6, .ref y7, hs_V pt, .ref y8, .ref y9], hs_ia cI y1 41 h, hs_ia cI y8 41 Ab, hs_ia cI y9 41 (hs_u X i 0)] := by
              intro k
              induction k with
              | zero =>
                intro q y hq hy hM hk
                exact absurd hk (by omega)
              | succ k ih =>
                intro q y hq hy hM hk
                have ih14 := ih
                refine hs_iload C dX7_layLevel_56 5 rfl ?_
                refine hs_iload_n C dX7_layLevel_58 rfl 3 rfl ?_
                refine hs_icmp_gt (tgt := 80) C dX7_layLevel_59 (by decide) (by omega) (by omega) (fun c15 => ?_) (fun c15 => ?_)
                ·
                  have hls : mo_lsum Ab i (mo_ea h i v) = y := by rw [← hM, hs_up_done (by omega)]
                  refine hs_aload_n C dX7_layLevel_80 rfl 0 rfl ?_
                  refine hs_get C u7 0 rfl rfl 11 (by decide) f34 rfl rfl dX7_layLevel_81 ?_
                  refine hs_iload_n C dX7_layLevel_84 rfl 2 rfl ?_
                  refine hs_iload C dX7_layLevel_85 4 rfl ?_
                  refine hs_iload_n C dX7_layLevel_87 rfl 3 rfl ?_
                  refine hs_iload_n C dX7_layLevel_88 rfl 2 rfl ?_
                  refine hs_isub C dX7_layLevel_89 ?_
                  refine hs_iconst C dX7_layLevel_90 ?_
                  refine hs_iadd C dX7_layLevel_91 ?_
                  refine hs_icmp_ge (tgt := 100) C dX7_layLevel_92 (by decide) (by omega) (by omega) (fun c16 => ?_) (fun c16 => ?_)
                  ·
                    refine hs_iload_n C dX7_layLevel_100 rfl 3 rfl ?_
                    refine hs_iload_n C dX7_layLevel_101 rfl 2 rfl ?_
                    refine hs_isub C dX7_layLevel_102 ?_
                    refine hs_iconst C dX7_layLevel_103 ?_
                    refine hs_iadd C dX7_layLevel_104 ?_
                    refine hs_iast (ws' := [hs_ob y0 7 [.ref y1, .ref y2, hs_V pm, .ref y3, hs_V fl, .ref y4, .ref y5, .ref y6, .ref y7, hs_V pt, .ref y8, .ref y9], hs_ia cI y1 41 h, hs_ia cI y8 41 Ab, hs_ia cI y9 41 (hs_u (hs_u X i 0) i (((mo_ea h i v) - i) + 1))]) C 3 rfl (by omega) rfl dX7_layLevel_105 ?_
                    refine hs_iinc (lv' := [(0, .ref y0), (1, hs_V v), (2, hs_V (i + 1)), (3, hs_V (mo_ea h i v)), (4, hs_V y), (5, hs_V q)]) C dX7_layLevel_106 2 rfl (by decide) [1, 2, 0, 3, 4, 5] rfl ?_
                    refine hs_goto (tgt := 2) C dX7_layLevel_109 (by decide) ?_
                    refine hs_lvs (lv' := [(0, .ref y0), (1, hs_V v), (2, hs_V (i + 1))]) [0, 1, 2] rfl ?_
                    exact ih2 (i + 1) (hs_u (hs_u X i 0) i (((mo_ea h i v) - i) + 1)) (by omega) (by have hz := (hs_up_step (by omega)).symm.trans hL; first | (rw [show mo_l1F h Ab v i X = hs_u X i 0 by unfold mo_l1F; rw [if_neg (by omega)]] at hz; exact hz) | (rw [show mo_l1F h Ab v i X = hs_u (hs_u X i 0) i y by unfold mo_l1F; rw [if_pos (by omega), hls, if_pos (by omega)]] at hz; exact hz) | (rw [show mo_l1F h Ab v i X = hs_u (hs_u X i 0) i (mo_ea h i v - i + 1) by unfold mo_l1F; rw [if_pos (by omega), hls, if_neg (by omega)]] at hz; exact hz)) (by omega)
                  ·
                    refine hs_iload C dX7_layLevel_95 4 rfl ?_
                    refine hs_goto (tgt := 105) C dX7_layLevel_97 (by decide) ?_
                    refine hs_iast (ws' := [hs_ob y0 7 [.ref y1, .ref y2, hs_V pm, .ref y3, hs_V fl, .ref y4, .ref y5, .ref y6, .ref y7, hs_V pt, .ref y8, .ref y9], hs_ia cI y1 41 h, hs_ia cI y8 41 Ab, hs_ia cI y9 41 (hs_u (hs_u X i 0) i y)]) C 3 rfl (by omega) rfl dX7_layLevel_105 ?_
                    refine hs_iinc (lv' := [(0, .ref y0), (1, hs_V v), (2, hs_V (i + 1)), (3, hs_V (mo_ea h i v)), (4, hs_V y), (5, hs_V q)]) C dX7_layLevel_106 2 rfl (by decide) [1, 2, 0, 3, 4, 5] rfl ?_
                    refine hs_goto (tgt := 2) C dX7_layLevel_109 (by decide) ?_
                    refine hs_lvs (lv' := [(0, .ref y0), (1, hs_V v), (2, hs_V (i + 1))]) [0, 1, 2] rfl ?_
                    exact ih2 (i + 1) (hs_u (hs_u X i 0) i y) (by omega) (by have hz := (hs_up_step (by omega)).symm.trans hL; first | (rw [show mo_l1F h Ab v i X = hs_u X i 0 by unfold mo_l1F; rw [if_neg (by omega)]] at hz; exact hz) | (rw [show mo_l1F h Ab v i X = hs_u (hs_u X i 0) i y by unfold mo_l1F; rw [if_pos (by omega), hls, if_pos (by omega)]] at hz; exact hz) | (rw [show mo_l1F h Ab v i X = hs_u (hs_u X i 0) i (mo_ea h i v - i + 1) by unfold mo_l1F; rw [if_pos (by omega), hls, if_neg (by omega)]] at hz; exact hz)) (by omega)
                ·
                  refine hs_iload C dX7_layLevel_62 4 rfl ?_
                  refine hs_aload_n C dX7_layLevel_64 rfl 0 rfl ?_
                  refine hs_get C u7 0 rfl rfl 10 (by decide) f31 rfl rfl dX7_layLevel_65 ?_
                  refine hs_iload C dX7_layLevel_68 5 rfl ?_
                  refine hs_iald C 2 rfl (by omega) dX7_layLevel_70 ?_
                  have b17 := hAb q
                  refine hs_iadd C dX7_layLevel_71 ?_
                  refine hs_istore (lv' := [(0, .ref y0), (1, hs_V v), (2, hs_V i), (3, hs_V (mo_ea h i v)), (4, hs_V (y + (Ab q))), (5, hs_V q)]) C dX7_layLevel_72 (by decide) [1, 2, 3, 4, 0, 5] rfl ?_
                  refine hs_iinc (lv' := [(0, .ref y0), (1, hs_V v), (2, hs_V i), (3, hs_V (mo_ea h i v)), (4, hs_V (y + (Ab q))), (5, hs_V (q + 1))]) C dX7_layLevel_74 5 rfl (by decide) [1, 2, 3, 4, 5, 0] rfl ?_
                  refine hs_goto (tgt := 56) C dX7_layLevel_77 (by decide) ?_
                  exact ih14 (q + 1) (y + (Ab q)) (by omega) (by omega) ((hs_up_step (by omega)).symm.trans hM) (by omega)
            exact Lp13 ((mo_ea h i v + 1 - i : Int).toNat + 1) i 1 (by omega) (by omega) (rfl) (by omega)
          ·
            refine hs_aload_n C dX7_layLevel_31 rfl 0 rfl ?_
            refine hs_get C u7 0 rfl rfl 0 (by decide) f7 rfl rfl dX7_layLevel_32 ?_
            refine hs_iload_n C dX7_layLevel_35 rfl 2 rfl ?_
            refine hs_iconst C dX7_layLevel_36 ?_
            refine hs_isub C dX7_layLevel_37 ?_
            refine hs_iald C 1 rfl (by omega) dX7_layLevel_38 ?_
            have b18 := hh (i - 1)
            refine hs_iload_n C dX7_layLevel_39 rfl 1 rfl ?_
            refine hs_icmp_gt (tgt := 106) C dX7_layLevel_40 (by decide) (by omega) (by omega) (fun c19 => ?_) (fun c19 => ?_)
            ·
              refine hs_iinc (lv' := [(0, .ref y0), (1, hs_V v), (2, hs_V (i + 1))]) C dX7_layLevel_106 2 rfl (by decide) [1, 2, 0] rfl ?_
              refine hs_goto (tgt := 2) C dX7_layLevel_109 (by decide) ?_
              exact ih2 (i + 1) (hs_u X i 0) (by omega) (by have hz := (hs_up_step (by omega)).symm.trans hL; first | (rw [show mo_l1F h Ab v i X = hs_u X i 0 by unfold mo_l1F; rw [if_neg (by omega)]] at hz; exact hz) | (rw [show mo_l1F h Ab v i X = hs_u (hs_u X i 0) i y by unfold mo_l1F; rw [if_pos (by omega), hls, if_pos (by omega)]] at hz; exact hz) | (rw [show mo_l1F h Ab v i X = hs_u (hs_u X i 0) i (mo_ea h i v - i + 1) by unfold mo_l1F; rw [if_pos (by omega), hls, if_neg (by omega)]] at hz; exact hz)) (by omega)
            ·
              refine hs_aload_n C dX7_layLevel_43 rfl 0 rfl ?_
              refine hs_iload_n C dX7_layLevel_44 rfl 2 rfl ?_
              refine hs_iload_n C dX7_layLevel_45 rfl 1 rfl ?_
              refine hs_callVi (win := [hs_ob y0 7 [.ref y1, .ref y2, hs_V pm, .ref y3, hs_V fl, .ref y4, .ref y5, .ref y6, .ref y7, hs_V pt, .ref y8, .ref y9], hs_ia cI y1 41 h]) (wr := [hs_ia cI y8 41 Ab, hs_ia cI y9 41 (hs_u X i 0)]) (As := [hs_V i, hs_V v]) (rest := []) C (c_X7_endAbove l D cI cO y0 y1 y2 y3 y4 y5 y6 y7 y8 y9 pm fl pt h i v hh (by omega) (by omega) (by omega)) 7 0 rfl rfl rfl (cwV 2 C.1.2.2.2.2 gX7_layLevel_X7_endAbove rfl rfl rfl (by decide +kernel) ⟨Nat.le_of_ble_eq_true rfl, Nat.le_of_ble_eq_true rfl⟩) rfl rfl (Nat.le_of_ble_eq_true rfl) dX7_layLevel_46 ⟨Nat.le_of_ble_eq_true rfl, Nat.le_of_ble_eq_true rfl⟩ (fun rr uu20 hp => ?_)
              obtain rfl := hp
              refine hs_re0 (w' := [hs_ob y0 7 [.ref y1, .ref y2, hs_V pm, .ref y3, hs_V fl, .ref y4, .ref y5, .ref y6, .ref y7, hs_V pt, .ref y8, .ref y9], hs_ia cI y1 41 h, hs_ia cI y8 41 Ab, hs_ia cI y9 41 (hs_u X i 0)]) [0, 1, 2, 3] rfl (by decide) ?_
              have hrg := mo_ea_rg (h := h) (i := i) (v := v) (by omega)
              refine hs_istore_n (lv' := [(0, .ref y0), (1, hs_V v), (2, hs_V i), (3, hs_V (mo_ea h i v))]) C dX7_layLevel_49 rfl (by decide) [1, 2, 3, 0] rfl ?_
              refine hs_iconst C dX7_layLevel_50 ?_
              refine hs_istore (lv' := [(0, .ref y0), (1, hs_V v), (2, hs_V i), (3, hs_V (mo_ea h i v)), (4, hs_V 1)]) C dX7_layLevel_51 (by decide) [1, 2, 3, 4, 0] rfl ?_
              refine hs_iload_n C dX7_layLevel_53 rfl 2 rfl ?_
              refine hs_istore (lv' := [(0, .ref y0), (1, hs_V v), (2, hs_V i), (3, hs_V (mo_ea h i v)), (4, hs_V 1), (5, hs_V i)]) C dX7_layLevel_54 (by decide) [1, 2, 3, 4, 5, 0] rfl ?_
              have Lp21 : ∀ (k : Nat) (q : Int) (y : Int), (i ≤ q ∧ q ≤ mo_ea h i v + 1) → (0 ≤ y ∧ y ≤ 1 + 40 * (q - i)) → (hs_up (fun q x => x + Ab q) q (mo_ea h i v + 1) y = mo_lsum Ab i (mo_ea h i v)) → (mo_ea h i v + 1 - q < (k : Int)) → hs_J p l e ({ frames := 2, cells := 0, slots := 0, locals := 43 } : Room) s m args below meth c D A H0 6 0 0 Q 56 [(0, .ref y0), (1, hs_V v), (2, hs_V i), (3, hs_V (mo_ea h i v)), (4, hs_V y), (5, hs_V q)] [] [hs_ob y0 7 [.ref y1, .ref y2, hs_V pm, .ref y3, hs_V fl, .ref y4, .ref y5, .ref y6, .ref y7, hs_V pt, .ref y8, .ref y9], hs_ia cI y1 41 h, hs_ia cI y8 41 Ab, hs_ia cI y9 41 (hs_u X i 0)] := by
                intro k
                induction k with
                | zero =>
                  intro q y hq hy hM hk
                  exact absurd hk (by omega)
                | succ k ih =>
                  intro q y hq hy hM hk
                  have ih22 := ih
                  refine hs_iload C dX7_layLevel_56 5 rfl ?_
                  refine hs_iload_n C dX7_layLevel_58 rfl 3 rfl ?_
                  refine hs_icmp_gt (tgt := 80) C dX7_layLevel_59 (by decide) (by omega) (by omega) (fun c23 => ?_) (fun c23 => ?_)
                  ·
                    have hls : mo_lsum Ab i (mo_ea h i v) = y := by rw [← hM, hs_up_done (by omega)]
                    refine hs_aload_n C dX7_layLevel_80 rfl 0 rfl ?_
                    refine hs_get C u7 0 rfl rfl 11 (by decide) f34 rfl rfl dX7_layLevel_81 ?_
                    refine hs_iload_n C dX7_layLevel_84 rfl 2 rfl ?_
                    refine hs_iload C dX7_layLevel_85 4 rfl ?_
                    refine hs_iload_n C dX7_layLevel_87 rfl 3 rfl ?_
                    refine hs_iload_n C dX7_layLevel_88 rfl 2 rfl ?_
                    refine hs_isub C dX7_layLevel_89 ?_
                    refine hs_iconst C dX7_layLevel_90 ?_
                    refine hs_iadd C dX7_layLevel_91 ?_
                    refine hs_icmp_ge (tgt := 100) C dX7_layLevel_92 (by decide) (by omega) (by omega) (fun c24 => ?_) (fun c24 => ?_)
                    ·
                      refine hs_iload_n C dX7_layLevel_100 rfl 3 rfl ?_
                      refine hs_iload_n C dX7_layLevel_101 rfl 2 rfl ?_
                      refine hs_isub C dX7_layLevel_102 ?_
                      refine hs_iconst C dX7_layLevel_103 ?_
                      refine hs_iadd C dX7_layLevel_104 ?_
                      refine hs_iast (ws' := [hs_ob y0 7 [.ref y1, .ref y2, hs_V pm, .ref y3, hs_V fl, .ref y4, .ref y5, .ref y6, .ref y7, hs_V pt, .ref y8, .ref y9], hs_ia cI y1 41 h, hs_ia cI y8 41 Ab, hs_ia cI y9 41 (hs_u (hs_u X i 0) i (((mo_ea h i v) - i) + 1))]) C 3 rfl (by omega) rfl dX7_layLevel_105 ?_
                      refine hs_iinc (lv' := [(0, .ref y0), (1, hs_V v), (2, hs_V (i + 1)), (3, hs_V (mo_ea h i v)), (4, hs_V y), (5, hs_V q)]) C dX7_layLevel_106 2 rfl (by decide) [1, 2, 0, 3, 4, 5] rfl ?_
                      refine hs_goto (tgt := 2) C dX7_layLevel_109 (by decide) ?_
                      refine hs_lvs (lv' := [(0, .ref y0), (1, hs_V v), (2, hs_V (i + 1))]) [0, 1, 2] rfl ?_
                      exact ih2 (i + 1) (hs_u (hs_u X i 0) i (((mo_ea h i v) - i) + 1)) (by omega) (by have hz := (hs_up_step (by omega)).symm.trans hL; first | (rw [show mo_l1F h Ab v i X = hs_u X i 0 by unfold mo_l1F; rw [if_neg (by omega)]] at hz; exact hz) | (rw [show mo_l1F h Ab v i X = hs_u (hs_u X i 0) i y by unfold mo_l1F; rw [if_pos (by omega), hls, if_pos (by omega)]] at hz; exact hz) | (rw [show mo_l1F h Ab v i X = hs_u (hs_u X i 0) i (mo_ea h i v - i + 1) by unfold mo_l1F; rw [if_pos (by omega), hls, if_neg (by omega)]] at hz; exact hz)) (by omega)
                    ·
                      refine hs_iload C dX7_layLevel_95 4 rfl ?_
                      refine hs_goto (tgt := 105) C dX7_layLevel_97 (by decide) ?_
                      refine hs_iast (ws' := [hs_ob y0 7 [.ref y1, .ref y2, hs_V pm, .ref y3, hs_V fl, .ref y4, .ref y5, .ref y6, .ref y7, hs_V pt, .ref y8, .ref y9], hs_ia cI y1 41 h, hs_ia cI y8 41 Ab, hs_ia cI y9 41 (hs_u (hs_u X i 0) i y)]) C 3 rfl (by omega) rfl dX7_layLevel_105 ?_
                      refine hs_iinc (lv' := [(0, .ref y0), (1, hs_V v), (2, hs_V (i + 1)), (3, hs_V (mo_ea h i v)), (4, hs_V y), (5, hs_V q)]) C dX7_layLevel_106 2 rfl (by decide) [1, 2, 0, 3, 4, 5] rfl ?_
                      refine hs_goto (tgt := 2) C dX7_layLevel_109 (by decide) ?_
                      refine hs_lvs (lv' := [(0, .ref y0), (1, hs_V v), (2, hs_V (i + 1))]) [0, 1, 2] rfl ?_
                      exact ih2 (i + 1) (hs_u (hs_u X i 0) i y) (by omega) (by have hz := (hs_up_step (by omega)).symm.trans hL; first | (rw [show mo_l1F h Ab v i X = hs_u X i 0 by unfold mo_l1F; rw [if_neg (by omega)]] at hz; exact hz) | (rw [show mo_l1F h Ab v i X = hs_u (hs_u X i 0) i y by unfold mo_l1F; rw [if_pos (by omega), hls, if_pos (by omega)]] at hz; exact hz) | (rw [show mo_l1F h Ab v i X = hs_u (hs_u X i 0) i (mo_ea h i v - i + 1) by unfold mo_l1F; rw [if_pos (by omega), hls, if_neg (by omega)]] at hz; exact hz)) (by omega)
                  ·
                    refine hs_iload C dX7_layLevel_62 4 rfl ?_
                    refine hs_aload_n C dX7_layLevel_64 rfl 0 rfl ?_
                    refine hs_get C u7 0 rfl rfl 10 (by decide) f31 rfl rfl dX7_layLevel_65 ?_
                    refine hs_iload C dX7_layLevel_68 5 rfl ?_
                    refine hs_iald C 2 rfl (by omega) dX7_layLevel_70 ?_
                    have b25 := hAb q
                    refine hs_iadd C dX7_layLevel_71 ?_
                    refine hs_istore (lv' := [(0, .ref y0), (1, hs_V v), (2, hs_V i), (3, hs_V (mo_ea h i v)), (4, hs_V (y + (Ab q))), (5, hs_V q)]) C dX7_layLevel_72 (by decide) [1, 2, 3, 4, 0, 5] rfl ?_
                    refine hs_iinc (lv' := [(0, .ref y0), (1, hs_V v), (2, hs_V i), (3, hs_V (mo_ea h i v)), (4, hs_V (y + (Ab q))), (5, hs_V (q + 1))]) C dX7_layLevel_74 5 rfl (by decide) [1, 2, 3, 4, 5, 0] rfl ?_
                    refine hs_goto (tgt := 56) C dX7_layLevel_77 (by decide) ?_
                    exact ih22 (q + 1) (y + (Ab q)) (by omega) (by omega) ((hs_up_step (by omega)).symm.trans hM) (by omega)
              exact Lp21 ((mo_ea h i v + 1 - i : Int).toNat + 1) i 1 (by omega) (by omega) (rfl) (by omega)
  exact Lp1 ((h 40 - 0 : Int).toNat + 1) 0 Nx (by omega) (rfl) (by omega)

set_option maxHeartbeats 4000000 in
set_option maxRecDepth 100000 in
theorem c_X7_strokes (l : Launch) (D : va_G) (cI cO : ClassId) (y0 : Nat) (y1 : Nat) (y2 : Nat) (y3 : Nat) (y4 : Nat) (y5 : Nat) (y6 : Nat) (y7 : Nat) (y8 : Nat) (y9 : Nat) (pm : Int) (fl : Int) (pt : Int) (h : Int → Int) (Ab : Int → Int) (Nx : Int → Int) (hh : ∀ k, 0 ≤ h k ∧ h k ≤ 50) (hN : 0 ≤ h 40 ∧ h 40 ≤ 40) (hAb : ∀ k, 0 ≤ Ab k ∧ Ab k ≤ 40) (hNx : ∀ k, 0 ≤ Nx k ∧ Nx k ≤ 40) : hs_M l D cI cO yX7_strokes wsX7_strokes ({ frames := 3, cells := 0, slots := 0, locals := 68 } : Room) [.ref y0] [hs_ob y0 7 [.ref y1, .ref y2, hs_V pm, .ref y3, hs_V fl, .ref y4, .ref y5, .ref y6, .ref y7, hs_V pt, .ref y8, .ref y9], hs_ia cI y1 41 h, hs_ia cI y8 41 Ab, hs_ia cI y9 41 Nx] (fun r (_ : Unit) => r = hs_I (pu_sum (mo_str h Ab Nx).1 0 (h 40 - 1))) (fun _ => [hs_ob y0 7 [.ref y1, .ref y2, hs_V pm, .ref y3, hs_V fl, .ref y4, .ref y5, .ref y6, .ref y7, hs_V pt, .ref y8, .ref y9], hs_ia cI y1 41 h, hs_ia cI y8 41 (mo_str h Ab Nx).1, hs_ia cI y9 41 (mo_str h Ab Nx).2]) 0 0 := by
  refine hs_enter (cc := cX7_strokes) (maxL := 3) (by decide +kernel) rfl (Nat.le_of_ble_eq_true rfl) (fun p e s m args below meth c A H0 Q C hret => ?_)
  have f31 := C.1.2.2.2.2 (.fieldLink RX7 31 "HistogramStairsModel" "above" "[I") (by decide +kernel)
  have u7 : ∀ w ∈ wsX70, w ∈ wsX7_strokes := by decide +kernel
  refine hs_lvs (lv' := [(0, .ref y0)]) [0] rfl ?_
  refine hs_iconst C dX7_strokes_0 ?_
  refine hs_istore_n (lv' := [(0, .ref y0), (1, hs_V 0)]) C dX7_strokes_1 rfl (by decide) [1, 0] rfl ?_
  have Lp1 : ∀ (k : Nat) (i : Int) (A1 : Int → Int), (0 ≤ i ∧ i ≤ 41) → (∀ k, 0 ≤ A1 k ∧ A1 k ≤ 40) → (hs_up (fun i x => hs_u x i 0) i 41 A1 = pu_fill Ab 0 41 0) → (41 - i < (k : Int)) → hs_J p l e ({ frames := 3, cells := 0, slots := 0, locals := 68 } : Room) s m args below meth c D A H0 3 0 0 Q 2 [(0, .ref y0), (1, hs_V i)] [] [hs_ob y0 7 [.ref y1, .ref y2, hs_V pm, .ref y3, hs_V fl, .ref y4, .ref y5, .ref y6, .ref y7, hs_V pt, .ref y8, .ref y9], hs_ia cI y1 41 h, hs_ia cI y8 41 A1, hs_ia cI y9 41 Nx] := by
    intro k
    induction k with
    | zero =>
      intro i A1 hi hA1 hL hk
      exact absurd hk (by omega)
    | succ k ih =>
      intro i A1 hi hA1 hL hk
      have ih2 := ih
      refine hs_iload_n C dX7_strokes_2 rfl 1 rfl ?_
      refine hs_bipush C dX7_strokes_3 (by decide) ?_
      refine hs_icmp_gt (tgt := 21) C dX7_strokes_5 (by decide) (by omega) (by omega) (fun c3 => ?_) (fun c3 => ?_)
      ·
        have hfl : pu_fill Ab 0 41 0 = A1 := by rw [← hL, hs_up_done (by omega)]
        refine hs_bipush C dX7_strokes_21 (by decide) ?_
        refine hs_istore_n (lv' := [(0, .ref y0), (1, hs_V 49)]) C dX7_strokes_23 rfl (by decide) [1, 0] rfl ?_
        have Lp4 : ∀ (k : Nat) (v : Int) (A2 : Int → Int) (N2 : Int → Int), (-1 ≤ v ∧ v ≤ 49) → (∀ k, 0 ≤ A2 k ∧ A2 k ≤ 40) → (∀ k, 0 ≤ N2 k ∧ N2 k ≤ 40) → (hs_dn (fun v x => mo_lev h v x) v 0 (A2, N2) = mo_str h Ab Nx) → (v + 1 < (k : Int)) → hs_J p l e ({ frames := 3, cells := 0, slots := 0, locals := 68 } : Room) s m args below meth c D A H0 3 0 0 Q 24 [(0, .ref y0), (1, hs_V v)] [] [hs_ob y0 7 [.ref y1, .ref y2, hs_V pm, .ref y3, hs_V fl, .ref y4, .ref y5, .ref y6, .ref y7, hs_V pt, .ref y8, .ref y9], hs_ia cI y1 41 h, hs_ia cI y8 41 A2, hs_ia cI y9 41 N2] := by
          intro k
          induction k with
          | zero =>
            intro v A2 N2 hv hA2 hN2 hM hk
            exact absurd hk (by omega)
          | succ k ih =>
            intro v A2 N2 hv hA2 hN2 hM hk
            have ih5 := ih
            refine hs_iload_n C dX7_strokes_24 rfl 1 rfl ?_
            refine hs_if_lt (tgt := 39) C dX7_strokes_25 (by decide) (by omega) (fun c6 => ?_) (fun c6 => ?_)
            ·
              have hst : mo_str h Ab Nx = (A2, N2) := by rw [← hM, hs_dn_done (by omega)]
              refine hs_iconst C dX7_strokes_39 ?_
              refine hs_istore_n (lv' := [(0, .ref y0), (1, hs_V 0)]) C dX7_strokes_40 rfl (by decide) [1, 0] rfl ?_
              refine hs_iconst C dX7_strokes_41 ?_
              refine hs_istore_n (lv' := [(0, .ref y0), (1, hs_V 0), (2, hs_V 0)]) C dX7_strokes_42 rfl (by decide) [1, 2, 0] rfl ?_
              have Lp7 : ∀ (k : Nat) (j : Int) (x : Int), (0 ≤ j ∧ j ≤ h 40) → (hs_up (fun i x => x + A2 i) j (h 40 - 1 + 1) x = pu_sum A2 0 (h 40 - 1)) → (h 40 - j < (k : Int)) → hs_J p l e ({ frames := 3, cells := 0, slots := 0, locals := 68 } : Room) s m args below meth c D A H0 3 0 0 Q 43 [(0, .ref y0), (1, hs_V x), (2, hs_V j)] [] [hs_ob y0 7 [.ref y1, .ref y2, hs_V pm, .ref y3, hs_V fl, .ref y4, .ref y5, .ref y6, .ref y7, hs_V pt, .ref y8, .ref y9], hs_ia cI y1 41 h, hs_ia cI y8 41 A2, hs_ia cI y9 41 N2] := by
                intro k
                induction k with
                | zero =>
                  intro j x hj hM2 hk
                  exact absurd hk (by omega)
                | succ k ih =>
                  intro j x hj hM2 hk
                  have ih8 := ih
                  refine hs_iload_n C dX7_strokes_43 rfl 2 rfl ?_
                  refine hs_aload_n C dX7_strokes_44 rfl 0 rfl ?_
                  refine hs_callVi (win := [hs_ob y0 7 [.ref y1, .ref y2, hs_V pm, .ref y3, hs_V fl, .ref y4, .ref y5, .ref y6, .ref y7, hs_V pt, .ref y8, .ref y9], hs_ia cI y1 41 h]) (wr := [hs_ia cI y8 41 A2, hs_ia cI y9 41 N2]) (As := []) (rest := [hs_V j]) C (c_X7_many l D cI cO y0 y1 y2 y3 y4 y5 y6 y7 y8 y9 pm fl pt h ) 7 0 rfl rfl rfl (cwV 0 C.1.2.2.2.2 gX7_strokes_X7_many rfl rfl rfl (by decide +kernel) ⟨Nat.le_of_ble_eq_true rfl, Nat.le_of_ble_eq_true rfl⟩) rfl rfl (Nat.le_of_ble_eq_true rfl) dX7_strokes_45 ⟨Nat.le_of_ble_eq_true rfl, Nat.le_of_ble_eq_true rfl⟩ (fun rr uu9 hp => ?_)
                  obtain rfl := hp
                  refine hs_re0 (w' := [hs_ob y0 7 [.ref y1, .ref y2, hs_V pm, .ref y3, hs_V fl, .ref y4, .ref y5, .ref y6, .ref y7, hs_V pt, .ref y8, .ref y9], hs_ia cI y1 41 h, hs_ia cI y8 41 A2, hs_ia cI y9 41 N2]) [0, 1, 2, 3] rfl (by decide) ?_
                  refine hs_icmp_ge (tgt := 66) C dX7_strokes_48 (by decide) (by omega) (by omega) (fun c10 => ?_) (fun c10 => ?_)
                  ·
                    refine hs_iload_n C dX7_strokes_66 rfl 1 rfl ?_
                    refine hs_cast (ws' := [hs_ob y0 7 [.ref y1, .ref y2, hs_V pm, .ref y3, hs_V fl, .ref y4, .ref y5, .ref y6, .ref y7, hs_V pt, .ref y8, .ref y9], hs_ia cI y1 41 h, hs_ia cI y8 41 (mo_str h Ab Nx).1, hs_ia cI y9 41 (mo_str h Ab Nx).2]) ?_ rfl rfl rfl (by rw [hst])
                    exact hret _ _ _ () (by rw [hst, ← hM2, hs_up_done (by omega)]) dX7_strokes_67 rfl
                  ·
                    refine hs_iload_n C dX7_strokes_51 rfl 1 rfl ?_
                    refine hs_aload_n C dX7_strokes_52 rfl 0 rfl ?_
                    refine hs_get C u7 0 rfl rfl 10 (by decide) f31 rfl rfl dX7_strokes_53 ?_
                    refine hs_iload_n C dX7_strokes_56 rfl 2 rfl ?_
                    refine hs_iald C 2 rfl (by omega) dX7_strokes_57 ?_
                    have b11 := hA2 j
                    refine hs_iadd C dX7_strokes_58 ?_
                    refine hs_istore_n (lv' := [(0, .ref y0), (1, hs_V (x + (A2 j))), (2, hs_V j)]) C dX7_strokes_59 rfl (by decide) [1, 0, 2] rfl ?_
                    refine hs_iinc (lv' := [(0, .ref y0), (1, hs_V (x + (A2 j))), (2, hs_V (j + 1))]) C dX7_strokes_60 2 rfl (by decide) [1, 2, 0] rfl ?_
                    refine hs_goto (tgt := 43) C dX7_strokes_63 (by decide) ?_
                    exact ih8 (j + 1) (x + (A2 j)) (by omega) ((hs_up_step (by omega)).symm.trans hM2) (by omega)
              exact Lp7 ((h 40 - 0 : Int).toNat + 1) 0 0 (by omega) (rfl) (by omega)
            ·
              refine hs_aload_n C dX7_strokes_28 rfl 0 rfl ?_
              refine hs_iload_n C dX7_strokes_29 rfl 1 rfl ?_
              refine hs_callVv (win := [hs_ob y0 7 [.ref y1, .ref y2, hs_V pm, .ref y3, hs_V fl, .ref y4, .ref y5, .ref y6, .ref y7, hs_V pt, .ref y8, .ref y9], hs_ia cI y1 41 h, hs_ia cI y8 41 A2, hs_ia cI y9 41 N2]) (wr := []) (As := [hs_V v]) (rest := []) C (c_X7_layLevel l D cI cO y0 y1 y2 y3 y4 y5 y6 y7 y8 y9 pm fl pt h A2 N2 v hh (by omega) hA2 hN2 (by omega)) 7 0 rfl rfl rfl (cwV 1 C.1.2.2.2.2 gX7_strokes_X7_layLevel rfl rfl rfl (by decide +kernel) ⟨Nat.le_of_ble_eq_true rfl, Nat.le_of_ble_eq_true rfl⟩) rfl rfl (Nat.le_of_ble_eq_true rfl) dX7_strokes_30 ⟨Nat.le_of_ble_eq_true rfl, Nat.le_of_ble_eq_true rfl⟩ (fun uu12 hp => ?_)
              refine hs_re0 (w' := [hs_ob y0 7 [.ref y1, .ref y2, hs_V pm, .ref y3, hs_V fl, .ref y4, .ref y5, .ref y6, .ref y7, hs_V pt, .ref y8, .ref y9], hs_ia cI y1 41 h, hs_ia cI y8 41 (mo_lev h v (A2, N2)).1, hs_ia cI y9 41 (mo_lev h v (A2, N2)).2]) [0, 1, 2, 3] rfl (by decide) ?_
              have hlb := mo_lev_bd (h := h) (v := v) (x := (A2, N2)) hN hA2 hN2
              refine hs_iinc (lv' := [(0, .ref y0), (1, hs_V (v + (-1)))]) C dX7_strokes_33 1 rfl (by decide) [1, 0] rfl ?_
              refine hs_goto (tgt := 24) C dX7_strokes_36 (by decide) ?_
              exact ih5 (v + (-1)) (mo_lev h v (A2, N2)).1 (mo_lev h v (A2, N2)).2 (by omega) hlb.1 hlb.2 ((hs_dn_step (by omega)).symm.trans hM) (by omega)
        exact Lp4 ((49 + 1 : Int).toNat + 1) 49 A1 Nx (by omega) hA1 hNx (by rw [← hfl]; rfl) (by omega)
      ·
        refine hs_aload_n C dX7_strokes_8 rfl 0 rfl ?_
        refine hs_get C u7 0 rfl rfl 10 (by decide) f31 rfl rfl dX7_strokes_9 ?_
        refine hs_iload_n C dX7_strokes_12 rfl 1 rfl ?_
        refine hs_iconst C dX7_strokes_13 ?_
        refine hs_iast (ws' := [hs_ob y0 7 [.ref y1, .ref y2, hs_V pm, .ref y3, hs_V fl, .ref y4, .ref y5, .ref y6, .ref y7, hs_V pt, .ref y8, .ref y9], hs_ia cI y1 41 h, hs_ia cI y8 41 (hs_u A1 i 0), hs_ia cI y9 41 Nx]) C 2 rfl (by omega) rfl dX7_strokes_14 ?_
        have b13 := hs_u_bd (i := i) hA1 (show 0 ≤ 0 ∧ 0 ≤ 40 by omega)
        refine hs_iinc (lv' := [(0, .ref y0), (1, hs_V (i + 1))]) C dX7_strokes_15 1 rfl (by decide) [1, 0] rfl ?_
        refine hs_goto (tgt := 2) C dX7_strokes_18 (by decide) ?_
        exact ih2 (i + 1) (hs_u A1 i 0) (by omega) b13 (by have hz := (hs_up_step (by omega)).symm.trans hL; (try dsimp only at hz); first | exact hz | (split at hz <;> first | exact hz | (exfalso; omega) | (split at hz <;> first | exact hz | (exfalso; omega) | (split at hz <;> first | exact hz | (exfalso; omega))))) (by omega)
  exact Lp1 ((41 - 0 : Int).toNat + 1) 0 Ab (by omega) hAb (rfl) (by omega)

set_option maxHeartbeats 4000000 in
set_option maxRecDepth 100000 in
theorem c_X7_standing_1 (l : Launch) (D : va_G) (cI cO : ClassId) (y0 : Nat) (y1 : Nat) (y2 : Nat) (y3 : Nat) (y4 : Nat) (y5 : Nat) (y6 : Nat) (y7 : Nat) (y8 : Nat) (y9 : Nat) (pm : Int) (fl : Int) (pt : Int) (h : Int → Int) (hh : ∀ k, 0 ≤ h k ∧ h k ≤ 50) (hN : 0 ≤ h 40 ∧ h 40 ≤ 40) : hs_M l D cI cO yX7_standing wsX7_standing ({ frames := 1, cells := 0, slots := 0, locals := 24 } : Room) [.ref y0, hs_V 1] [hs_ob y0 7 [.ref y1, .ref y2, hs_V pm, .ref y3, hs_V fl, .ref y4, .ref y5, .ref y6, .ref y7, hs_V pt, .ref y8, .ref y9], hs_ia cI y1 41 h] (fun r (_ : Unit) => r = hs_I (mo_stdL h)) (fun _ => [hs_ob y0 7 [.ref y1, .ref y2, hs_V pm, .ref y3, hs_V fl, .ref y4, .ref y5, .ref y6, .ref y7, hs_V pt, .ref y8, .ref y9], hs_ia cI y1 41 h]) 0 0 := by
  refine hs_enter (cc := cX7_standing) (maxL := 5) (by decide +kernel) rfl (Nat.le_of_ble_eq_true rfl) (fun p e s m args below meth c A H0 Q C hret => ?_)
  have f7 := C.1.2.2.2.2 (.fieldLink RX7 7 "HistogramStairsModel" "h" "[I") (by decide +kernel)
  have u7 : ∀ w ∈ wsX70, w ∈ wsX7_standing := by decide +kernel
  refine hs_lvs (lv' := [(0, .ref y0), (1, hs_V 1)]) [0, 1] rfl ?_
  refine hs_iconst C dX7_standing_0 ?_
  refine hs_istore_n (lv' := [(0, .ref y0), (1, hs_V 1), (2, hs_V 0)]) C dX7_standing_1 rfl (by decide) [1, 2, 0] rfl ?_
  refine hs_iconst C dX7_standing_2 ?_
  refine hs_istore_n (lv' := [(0, .ref y0), (1, hs_V 1), (2, hs_V 0), (3, hs_V 0)]) C dX7_standing_3 rfl (by decide) [1, 2, 3, 0] rfl ?_
  have Lp1 : ∀ (k : Nat) (i : Int) (x : Int), (0 ≤ i ∧ i ≤ h 40) → (hs_up (fun i x => if i = 0 ∨ mo_mx h 0 (i - 1) < h i then x + 1 else x + 0) i (h 40) x = mo_stdL h) → (h 40 - i < (k : Int)) → hs_J p l e ({ frames := 1, cells := 0, slots := 0, locals := 24 } : Room) s m args below meth c D A H0 5 0 0 Q 4 [(0, .ref y0), (1, hs_V 1), (2, hs_V x), (3, hs_V i)] [] [hs_ob y0 7 [.ref y1, .ref y2, hs_V pm, .ref y3, hs_V fl, .ref y4, .ref y5, .ref y6, .ref y7, hs_V pt, .ref y8, .ref y9], hs_ia cI y1 41 h] := by
    intro k
    induction k with
    | zero =>
      intro i x hi hL hk
      exact absurd hk (by omega)
    | succ k ih =>
      intro i x hi hL hk
      have ih2 := ih
      have q1 := mo_mx_bd (a := 0) (b := i - 1) hh
      have q2 := mo_mx_bd (a := i + 1) (b := h 40 - 1) hh
      refine hs_iload_n C dX7_standing_4 rfl 3 rfl ?_
      refine hs_aload_n C dX7_standing_5 rfl 0 rfl ?_
      refine hs_callVi (win := [hs_ob y0 7 [.ref y1, .ref y2, hs_V pm, .ref y3, hs_V fl, .ref y4, .ref y5, .ref y6, .ref y7, hs_V pt, .ref y8, .ref y9], hs_ia cI y1 41 h]) (wr := []) (As := []) (rest := [hs_V i]) C (c_X7_many l D cI cO y0 y1 y2 y3 y4 y5 y6 y7 y8 y9 pm fl pt h ) 7 0 rfl rfl rfl (cwV 0 C.1.2.2.2.2 gX7_standing_X7_many rfl rfl rfl (by decide +kernel) ⟨Nat.le_of_ble_eq_true rfl, Nat.le_of_ble_eq_true rfl⟩) rfl rfl (Nat.le_of_ble_eq_true rfl) dX7_standing_6 ⟨Nat.le_of_ble_eq_true rfl, Nat.le_of_ble_eq_true rfl⟩ (fun rr uu3 hp => ?_)
      obtain rfl := hp
      refine hs_re0 (w' := [hs_ob y0 7 [.ref y1, .ref y2, hs_V pm, .ref y3, hs_V fl, .ref y4, .ref y5, .ref y6, .ref y7, hs_V pt, .ref y8, .ref y9], hs_ia cI y1 41 h]) [0, 1] rfl (by decide) ?_
      refine hs_icmp_ge (tgt := 103) C dX7_standing_9 (by decide) (by omega) (by omega) (fun c4 => ?_) (fun c4 => ?_)
      ·
        refine hs_iload_n C dX7_standing_103 rfl 2 rfl ?_
        exact hret _ _ _ () (by rw [← hL, hs_up_done (by omega)]) dX7_standing_104 rfl
      ·
        refine hs_iload_n C dX7_standing_12 rfl 1 rfl ?_
        refine hs_if_eq (tgt := 45) C dX7_standing_13 (by decide) (by omega) (fun c5 => ?_) (fun c5 => ?_)
        ·
          exact absurd c5 (by decide)
        ·
          refine hs_iload_n C dX7_standing_16 rfl 3 rfl ?_
          refine hs_if_eq (tgt := 37) C dX7_standing_17 (by decide) (by omega) (fun c6 => ?_) (fun c6 => ?_)
          ·
            refine hs_iconst C dX7_standing_37 ?_
            refine hs_goto (tgt := 82) C dX7_standing_38 (by decide) ?_
            refine hs_istore (lv' := [(0, .ref y0), (1, hs_V 1), (2, hs_V x), (3, hs_V i), (4, hs_V 1)]) C dX7_standing_82 (by decide) [1, 2, 3, 4, 0] rfl ?_
            refine hs_iload_n C dX7_standing_84 rfl 2 rfl ?_
            refine hs_iload C dX7_standing_85 4 rfl ?_
            refine hs_if_eq (tgt := 94) C dX7_standing_87 (by decide) (by omega) (fun c7 => ?_) (fun c7 => ?_)
            ·
              exact absurd c7 (by decide)
            ·
              refine hs_iconst C dX7_standing_90 ?_
              refine hs_goto (tgt := 95) C dX7_standing_91 (by decide) ?_
              refine hs_iadd C dX7_standing_95 ?_
              refine hs_istore_n (lv' := [(0, .ref y0), (1, hs_V 1), (2, hs_V (x + 1)), (3, hs_V i), (4, hs_V 1)]) C dX7_standing_96 rfl (by decide) [1, 2, 0, 3, 4] rfl ?_
              refine hs_iinc (lv' := [(0, .ref y0), (1, hs_V 1), (2, hs_V (x + 1)), (3, hs_V (i + 1)), (4, hs_V 1)]) C dX7_standing_97 3 rfl (by decide) [1, 2, 3, 0, 4] rfl ?_
              refine hs_goto (tgt := 4) C dX7_standing_100 (by decide) ?_
              refine hs_lvs (lv' := [(0, .ref y0), (1, hs_V 1), (2, hs_V (x + 1)), (3, hs_V (i + 1))]) [0, 1, 2, 3] rfl ?_
              exact ih2 (i + 1) (x + 1) (by omega) (by have hz := (hs_up_step (by omega)).symm.trans hL; (try dsimp only at hz); first | exact hz | (split at hz <;> first | exact hz | (exfalso; omega) | (split at hz <;> first | exact hz | (exfalso; omega) | (split at hz <;> first | exact hz | (exfalso; omega))))) (by omega)
          ·
            refine hs_aload_n C dX7_standing_20 rfl 0 rfl ?_
            refine hs_iconst C dX7_standing_21 ?_
            refine hs_iload_n C dX7_standing_22 rfl 3 rfl ?_
            refine hs_iconst C dX7_standing_23 ?_
            refine hs_isub C dX7_standing_24 ?_
            refine hs_callVi (win := [hs_ob y0 7 [.ref y1, .ref y2, hs_V pm, .ref y3, hs_V fl, .ref y4, .ref y5, .ref y6, .ref y7, hs_V pt, .ref y8, .ref y9], hs_ia cI y1 41 h]) (wr := []) (As := [hs_V 0, hs_V (i - 1)]) (rest := []) C (c_X7_greatest l D cI cO y0 y1 y2 y3 y4 y5 y6 y7 y8 y9 pm fl pt h 0 (i - 1) hh (by omega)) 7 0 rfl rfl rfl (cwV 2 C.1.2.2.2.2 gX7_standing_X7_greatest rfl rfl rfl (by decide +kernel) ⟨Nat.le_of_ble_eq_true rfl, Nat.le_of_ble_eq_true rfl⟩) rfl rfl (Nat.le_of_ble_eq_true rfl) dX7_standing_25 ⟨Nat.le_of_ble_eq_true rfl, Nat.le_of_ble_eq_true rfl⟩ (fun rr uu8 hp => ?_)
            obtain rfl := hp
            refine hs_re0 (w' := [hs_ob y0 7 [.ref y1, .ref y2, hs_V pm, .ref y3, hs_V fl, .ref y4, .ref y5, .ref y6, .ref y7, hs_V pt, .ref y8, .ref y9], hs_ia cI y1 41 h]) [0, 1] rfl (by decide) ?_
            refine hs_aload_n C dX7_standing_28 rfl 0 rfl ?_
            refine hs_get C u7 0 rfl rfl 0 (by decide) f7 rfl rfl dX7_standing_29 ?_
            refine hs_iload_n C dX7_standing_32 rfl 3 rfl ?_
            refine hs_iald C 1 rfl (by omega) dX7_standing_33 ?_
            have b9 := hh i
            refine hs_icmp_ge (tgt := 41) C dX7_standing_34 (by decide) (by omega) (by omega) (fun c10 => ?_) (fun c10 => ?_)
            ·
              refine hs_iconst C dX7_standing_41 ?_
              refine hs_goto (tgt := 82) C dX7_standing_42 (by decide) ?_
              refine hs_istore (lv' := [(0, .ref y0), (1, hs_V 1), (2, hs_V x), (3, hs_V i), (4, hs_V 0)]) C dX7_standing_82 (by decide) [1, 2, 3, 4, 0] rfl ?_
              refine hs_iload_n C dX7_standing_84 rfl 2 rfl ?_
              refine hs_iload C dX7_standing_85 4 rfl ?_
              refine hs_if_eq (tgt := 94) C dX7_standing_87 (by decide) (by omega) (fun c11 => ?_) (fun c11 => ?_)
              ·
                refine hs_iconst C dX7_standing_94 ?_
                refine hs_iadd C dX7_standing_95 ?_
                refine hs_istore_n (lv' := [(0, .ref y0), (1, hs_V 1), (2, hs_V (x + 0)), (3, hs_V i), (4, hs_V 0)]) C dX7_standing_96 rfl (by decide) [1, 2, 0, 3, 4] rfl ?_
                refine hs_iinc (lv' := [(0, .ref y0), (1, hs_V 1), (2, hs_V (x + 0)), (3, hs_V (i + 1)), (4, hs_V 0)]) C dX7_standing_97 3 rfl (by decide) [1, 2, 3, 0, 4] rfl ?_
                refine hs_goto (tgt := 4) C dX7_standing_100 (by decide) ?_
                refine hs_lvs (lv' := [(0, .ref y0), (1, hs_V 1), (2, hs_V (x + 0)), (3, hs_V (i + 1))]) [0, 1, 2, 3] rfl ?_
                exact ih2 (i + 1) (x + 0) (by omega) (by have hz := (hs_up_step (by omega)).symm.trans hL; (try dsimp only at hz); first | exact hz | (split at hz <;> first | exact hz | (exfalso; omega) | (split at hz <;> first | exact hz | (exfalso; omega) | (split at hz <;> first | exact hz | (exfalso; omega))))) (by omega)
              ·
                exact absurd c11 (by decide)
            ·
              refine hs_iconst C dX7_standing_37 ?_
              refine hs_goto (tgt := 82) C dX7_standing_38 (by decide) ?_
              refine hs_istore (lv' := [(0, .ref y0), (1, hs_V 1), (2, hs_V x), (3, hs_V i), (4, hs_V 1)]) C dX7_standing_82 (by decide) [1, 2, 3, 4, 0] rfl ?_
              refine hs_iload_n C dX7_standing_84 rfl 2 rfl ?_
              refine hs_iload C dX7_standing_85 4 rfl ?_
              refine hs_if_eq (tgt := 94) C dX7_standing_87 (by decide) (by omega) (fun c12 => ?_) (fun c12 => ?_)
              ·
                exact absurd c12 (by decide)
              ·
                refine hs_iconst C dX7_standing_90 ?_
                refine hs_goto (tgt := 95) C dX7_standing_91 (by decide) ?_
                refine hs_iadd C dX7_standing_95 ?_
                refine hs_istore_n (lv' := [(0, .ref y0), (1, hs_V 1), (2, hs_V (x + 1)), (3, hs_V i), (4, hs_V 1)]) C dX7_standing_96 rfl (by decide) [1, 2, 0, 3, 4] rfl ?_
                refine hs_iinc (lv' := [(0, .ref y0), (1, hs_V 1), (2, hs_V (x + 1)), (3, hs_V (i + 1)), (4, hs_V 1)]) C dX7_standing_97 3 rfl (by decide) [1, 2, 3, 0, 4] rfl ?_
                refine hs_goto (tgt := 4) C dX7_standing_100 (by decide) ?_
                refine hs_lvs (lv' := [(0, .ref y0), (1, hs_V 1), (2, hs_V (x + 1)), (3, hs_V (i + 1))]) [0, 1, 2, 3] rfl ?_
                exact ih2 (i + 1) (x + 1) (by omega) (by have hz := (hs_up_step (by omega)).symm.trans hL; (try dsimp only at hz); first | exact hz | (split at hz <;> first | exact hz | (exfalso; omega) | (split at hz <;> first | exact hz | (exfalso; omega) | (split at hz <;> first | exact hz | (exfalso; omega))))) (by omega)
  exact Lp1 ((h 40 - 0 : Int).toNat + 1) 0 0 (by omega) (rfl) (by omega)

set_option maxHeartbeats 4000000 in
set_option maxRecDepth 100000 in
theorem c_X7_standing_0 (l : Launch) (D : va_G) (cI cO : ClassId) (y0 : Nat) (y1 : Nat) (y2 : Nat) (y3 : Nat) (y4 : Nat) (y5 : Nat) (y6 : Nat) (y7 : Nat) (y8 : Nat) (y9 : Nat) (pm : Int) (fl : Int) (pt : Int) (h : Int → Int) (hh : ∀ k, 0 ≤ h k ∧ h k ≤ 50) (hN : 0 ≤ h 40 ∧ h 40 ≤ 40) : hs_M l D cI cO yX7_standing wsX7_standing ({ frames := 1, cells := 0, slots := 0, locals := 24 } : Room) [.ref y0, hs_V 0] [hs_ob y0 7 [.ref y1, .ref y2, hs_V pm, .ref y3, hs_V fl, .ref y4, .ref y5, .ref y6, .ref y7, hs_V pt, .ref y8, .ref y9], hs_ia cI y1 41 h] (fun r (_ : Unit) => r = hs_I (mo_stdR h)) (fun _ => [hs_ob y0 7 [.ref y1, .ref y2, hs_V pm, .ref y3, hs_V fl, .ref y4, .ref y5, .ref y6, .ref y7, hs_V pt, .ref y8, .ref y9], hs_ia cI y1 41 h]) 0 0 := by
  refine hs_enter (cc := cX7_standing) (maxL := 5) (by decide +kernel) rfl (Nat.le_of_ble_eq_true rfl) (fun p e s m args below meth c A H0 Q C hret => ?_)
  have f7 := C.1.2.2.2.2 (.fieldLink RX7 7 "HistogramStairsModel" "h" "[I") (by decide +kernel)
  have u7 : ∀ w ∈ wsX70, w ∈ wsX7_standing := by decide +kernel
  refine hs_lvs (lv' := [(0, .ref y0), (1, hs_V 0)]) [0, 1] rfl ?_
  refine hs_iconst C dX7_standing_0 ?_
  refine hs_istore_n (lv' := [(0, .ref y0), (1, hs_V 0), (2, hs_V 0)]) C dX7_standing_1 rfl (by decide) [1, 2, 0] rfl ?_
  refine hs_iconst C dX7_standing_2 ?_
  refine hs_istore_n (lv' := [(0, .ref y0), (1, hs_V 0), (2, hs_V 0), (3, hs_V 0)]) C dX7_standing_3 rfl (by decide) [1, 2, 3, 0] rfl ?_
  have Lp1 : ∀ (k : Nat) (i : Int) (x : Int), (0 ≤ i ∧ i ≤ h 40) → (hs_up (fun i x => if i = h 40 - 1 ∨ mo_mx h (i + 1) (h 40 - 1) < h i then x + 1 else x + 0) i (h 40) x = mo_stdR h) → (h 40 - i < (k : Int)) → hs_J p l e ({ frames := 1, cells := 0, slots := 0, locals := 24 } : Room) s m args below meth c D A H0 5 0 0 Q 4 [(0, .ref y0), (1, hs_V 0), (2, hs_V x), (3, hs_V i)] [] [hs_ob y0 7 [.ref y1, .ref y2, hs_V pm, .ref y3, hs_V fl, .ref y4, .ref y5, .ref y6, .ref y7, hs_V pt, .ref y8, .ref y9], hs_ia cI y1 41 h] := by
    intro k
    induction k with
    | zero =>
      intro i x hi hL hk
      exact absurd hk (by omega)
    | succ k ih =>
      intro i x hi hL hk
      have ih2 := ih
      have q1 := mo_mx_bd (a := 0) (b := i - 1) hh
      have q2 := mo_mx_bd (a := i + 1) (b := h 40 - 1) hh
      refine hs_iload_n C dX7_standing_4 rfl 3 rfl ?_
      refine hs_aload_n C dX7_standing_5 rfl 0 rfl ?_
      refine hs_callVi (win := [hs_ob y0 7 [.ref y1, .ref y2, hs_V pm, .ref y3, hs_V fl, .ref y4, .ref y5, .ref y6, .ref y7, hs_V pt, .ref y8, .ref y9], hs_ia cI y1 41 h]) (wr := []) (As := []) (rest := [hs_V i]) C (c_X7_many l D cI cO y0 y1 y2 y3 y4 y5 y6 y7 y8 y9 pm fl pt h ) 7 0 rfl rfl rfl (cwV 0 C.1.2.2.2.2 gX7_standing_X7_many rfl rfl rfl (by decide +kernel) ⟨Nat.le_of_ble_eq_true rfl, Nat.le_of_ble_eq_true rfl⟩) rfl rfl (Nat.le_of_ble_eq_true rfl) dX7_standing_6 ⟨Nat.le_of_ble_eq_true rfl, Nat.le_of_ble_eq_true rfl⟩ (fun rr uu3 hp => ?_)
      obtain rfl := hp
      refine hs_re0 (w' := [hs_ob y0 7 [.ref y1, .ref y2, hs_V pm, .ref y3, hs_V fl, .ref y4, .ref y5, .ref y6, .ref y7, hs_V pt, .ref y8, .ref y9], hs_ia cI y1 41 h]) [0, 1] rfl (by decide) ?_
      refine hs_icmp_ge (tgt := 103) C dX7_standing_9 (by decide) (by omega) (by omega) (fun c4 => ?_) (fun c4 => ?_)
      ·
        refine hs_iload_n C dX7_standing_103 rfl 2 rfl ?_
        exact hret _ _ _ () (by rw [← hL, hs_up_done (by omega)]) dX7_standing_104 rfl
      ·
        refine hs_iload_n C dX7_standing_12 rfl 1 rfl ?_
        refine hs_if_eq (tgt := 45) C dX7_standing_13 (by decide) (by omega) (fun c5 => ?_) (fun c5 => ?_)
        ·
          refine hs_iload_n C dX7_standing_45 rfl 3 rfl ?_
          refine hs_aload_n C dX7_standing_46 rfl 0 rfl ?_
          refine hs_callVi (win := [hs_ob y0 7 [.ref y1, .ref y2, hs_V pm, .ref y3, hs_V fl, .ref y4, .ref y5, .ref y6, .ref y7, hs_V pt, .ref y8, .ref y9], hs_ia cI y1 41 h]) (wr := []) (As := []) (rest := [hs_V i]) C (c_X7_many l D cI cO y0 y1 y2 y3 y4 y5 y6 y7 y8 y9 pm fl pt h ) 7 0 rfl rfl rfl (cwV 0 C.1.2.2.2.2 gX7_standing_X7_many rfl rfl rfl (by decide +kernel) ⟨Nat.le_of_ble_eq_true rfl, Nat.le_of_ble_eq_true rfl⟩) rfl rfl (Nat.le_of_ble_eq_true rfl) dX7_standing_47 ⟨Nat.le_of_ble_eq_true rfl, Nat.le_of_ble_eq_true rfl⟩ (fun rr uu6 hp => ?_)
          obtain rfl := hp
          refine hs_re0 (w' := [hs_ob y0 7 [.ref y1, .ref y2, hs_V pm, .ref y3, hs_V fl, .ref y4, .ref y5, .ref y6, .ref y7, hs_V pt, .ref y8, .ref y9], hs_ia cI y1 41 h]) [0, 1] rfl (by decide) ?_
          refine hs_iconst C dX7_standing_50 ?_
          refine hs_isub C dX7_standing_51 ?_
          refine hs_icmp_eq (tgt := 77) C dX7_standing_52 (by decide) (by omega) (by omega) (fun c7 => ?_) (fun c7 => ?_)
          ·
            refine hs_iconst C dX7_standing_77 ?_
            refine hs_goto (tgt := 82) C dX7_standing_78 (by decide) ?_
            refine hs_istore (lv' := [(0, .ref y0), (1, hs_V 0), (2, hs_V x), (3, hs_V i), (4, hs_V 1)]) C dX7_standing_82 (by decide) [1, 2, 3, 4, 0] rfl ?_
            refine hs_iload_n C dX7_standing_84 rfl 2 rfl ?_
            refine hs_iload C dX7_standing_85 4 rfl ?_
            refine hs_if_eq (tgt := 94) C dX7_standing_87 (by decide) (by omega) (fun c8 => ?_) (fun c8 => ?_)
            ·
              exact absurd c8 (by decide)
            ·
              refine hs_iconst C dX7_standing_90 ?_
              refine hs_goto (tgt := 95) C dX7_standing_91 (by decide) ?_
              refine hs_iadd C dX7_standing_95 ?_
              refine hs_istore_n (lv' := [(0, .ref y0), (1, hs_V 0), (2, hs_V (x + 1)), (3, hs_V i), (4, hs_V 1)]) C dX7_standing_96 rfl (by decide) [1, 2, 0, 3, 4] rfl ?_
              refine hs_iinc (lv' := [(0, .ref y0), (1, hs_V 0), (2, hs_V (x + 1)), (3, hs_V (i + 1)), (4, hs_V 1)]) C dX7_standing_97 3 rfl (by decide) [1, 2, 3, 0, 4] rfl ?_
              refine hs_goto (tgt := 4) C dX7_standing_100 (by decide) ?_
              refine hs_lvs (lv' := [(0, .ref y0), (1, hs_V 0), (2, hs_V (x + 1)), (3, hs_V (i + 1))]) [0, 1, 2, 3] rfl ?_
              exact ih2 (i + 1) (x + 1) (by omega) (by have hz := (hs_up_step (by omega)).symm.trans hL; (try dsimp only at hz); first | exact hz | (split at hz <;> first | exact hz | (exfalso; omega) | (split at hz <;> first | exact hz | (exfalso; omega) | (split at hz <;> first | exact hz | (exfalso; omega))))) (by omega)
          ·
            refine hs_aload_n C dX7_standing_55 rfl 0 rfl ?_
            refine hs_iload_n C dX7_standing_56 rfl 3 rfl ?_
            refine hs_iconst C dX7_standing_57 ?_
            refine hs_iadd C dX7_standing_58 ?_
            refine hs_aload_n C dX7_standing_59 rfl 0 rfl ?_
            refine hs_callVi (win := [hs_ob y0 7 [.ref y1, .ref y2, hs_V pm, .ref y3, hs_V fl, .ref y4, .ref y5, .ref y6, .ref y7, hs_V pt, .ref y8, .ref y9], hs_ia cI y1 41 h]) (wr := []) (As := []) (rest := [hs_V (i + 1), .ref y0]) C (c_X7_many l D cI cO y0 y1 y2 y3 y4 y5 y6 y7 y8 y9 pm fl pt h ) 7 0 rfl rfl rfl (cwV 0 C.1.2.2.2.2 gX7_standing_X7_many rfl rfl rfl (by decide +kernel) ⟨Nat.le_of_ble_eq_true rfl, Nat.le_of_ble_eq_true rfl⟩) rfl rfl (Nat.le_of_ble_eq_true rfl) dX7_standing_60 ⟨Nat.le_of_ble_eq_true rfl, Nat.le_of_ble_eq_true rfl⟩ (fun rr uu9 hp => ?_)
            obtain rfl := hp
            refine hs_re0 (w' := [hs_ob y0 7 [.ref y1, .ref y2, hs_V pm, .ref y3, hs_V fl, .ref y4, .ref y5, .ref y6, .ref y7, hs_V pt, .ref y8, .ref y9], hs_ia cI y1 41 h]) [0, 1] rfl (by decide) ?_
            refine hs_iconst C dX7_standing_63 ?_
            refine hs_isub C dX7_standing_64 ?_
            refine hs_callVi (win := [hs_ob y0 7 [.ref y1, .ref y2, hs_V pm, .ref y3, hs_V fl, .ref y4, .ref y5, .ref y6, .ref y7, hs_V pt, .ref y8, .ref y9], hs_ia cI y1 41 h]) (wr := []) (As := [hs_V (i + 1), hs_V ((h 40) - 1)]) (rest := []) C (c_X7_greatest l D cI cO y0 y1 y2 y3 y4 y5 y6 y7 y8 y9 pm fl pt h (i + 1) ((h 40) - 1) hh (by omega)) 7 0 rfl rfl rfl (cwV 2 C.1.2.2.2.2 gX7_standing_X7_greatest rfl rfl rfl (by decide +kernel) ⟨Nat.le_of_ble_eq_true rfl, Nat.le_of_ble_eq_true rfl⟩) rfl rfl (Nat.le_of_ble_eq_true rfl) dX7_standing_65 ⟨Nat.le_of_ble_eq_true rfl, Nat.le_of_ble_eq_true rfl⟩ (fun rr uu10 hp => ?_)
            obtain rfl := hp
            refine hs_re0 (w' := [hs_ob y0 7 [.ref y1, .ref y2, hs_V pm, .ref y3, hs_V fl, .ref y4, .ref y5, .ref y6, .ref y7, hs_V pt, .ref y8, .ref y9], hs_ia cI y1 41 h]) [0, 1] rfl (by decide) ?_
            refine hs_aload_n C dX7_standing_68 rfl 0 rfl ?_
            refine hs_get C u7 0 rfl rfl 0 (by decide) f7 rfl rfl dX7_standing_69 ?_
            refine hs_iload_n C dX7_standing_72 rfl 3 rfl ?_
            refine hs_iald C 1 rfl (by omega) dX7_standing_73 ?_
            have b11 := hh i
            refine hs_icmp_ge (tgt := 81) C dX7_standing_74 (by decide) (by omega) (by omega) (fun c12 => ?_) (fun c12 => ?_)
            ·
              refine hs_iconst C dX7_standing_81 ?_
              refine hs_istore (lv' := [(0, .ref y0), (1, hs_V 0), (2, hs_V x), (3, hs_V i), (4, hs_V 0)]) C dX7_standing_82 (by decide) [1, 2, 3, 4, 0] rfl ?_
              refine hs_iload_n C dX7_standing_84 rfl 2 rfl ?_
              refine hs_iload C dX7_standing_85 4 rfl ?_
              refine hs_if_eq (tgt := 94) C dX7_standing_87 (by decide) (by omega) (fun c13 => ?_) (fun c13 => ?_)
              ·
                refine hs_iconst C dX7_standing_94 ?_
                refine hs_iadd C dX7_standing_95 ?_
                refine hs_istore_n (lv' := [(0, .ref y0), (1, hs_V 0), (2, hs_V (x + 0)), (3, hs_V i), (4, hs_V 0)]) C dX7_standing_96 rfl (by decide) [1, 2, 0, 3, 4] rfl ?_
                refine hs_iinc (lv' := [(0, .ref y0), (1, hs_V 0), (2, hs_V (x + 0)), (3, hs_V (i + 1)), (4, hs_V 0)]) C dX7_standing_97 3 rfl (by decide) [1, 2, 3, 0, 4] rfl ?_
                refine hs_goto (tgt := 4) C dX7_standing_100 (by decide) ?_
                refine hs_lvs (lv' := [(0, .ref y0), (1, hs_V 0), (2, hs_V (x + 0)), (3, hs_V (i + 1))]) [0, 1, 2, 3] rfl ?_
                exact ih2 (i + 1) (x + 0) (by omega) (by have hz := (hs_up_step (by omega)).symm.trans hL; (try dsimp only at hz); first | exact hz | (split at hz <;> first | exact hz | (exfalso; omega) | (split at hz <;> first | exact hz | (exfalso; omega) | (split at hz <;> first | exact hz | (exfalso; omega))))) (by omega)
              ·
                exact absurd c13 (by decide)
            ·
              refine hs_iconst C dX7_standing_77 ?_
              refine hs_goto (tgt := 82) C dX7_standing_78 (by decide) ?_
              refine hs_istore (lv' := [(0, .ref y0), (1, hs_V 0), (2, hs_V x), (3, hs_V i), (4, hs_V 1)]) C dX7_standing_82 (by decide) [1, 2, 3, 4, 0] rfl ?_
              refine hs_iload_n C dX7_standing_84 rfl 2 rfl ?_
              refine hs_iload C dX7_standing_85 4 rfl ?_
              refine hs_if_eq (tgt := 94) C dX7_standing_87 (by decide) (by omega) (fun c14 => ?_) (fun c14 => ?_)
              ·
                exact absurd c14 (by decide)
              ·
                refine hs_iconst C dX7_standing_90 ?_
                refine hs_goto (tgt := 95) C dX7_standing_91 (by decide) ?_
                refine hs_iadd C dX7_standing_95 ?_
                refine hs_istore_n (lv' := [(0, .ref y0), (1, hs_V 0), (2, hs_V (x + 1)), (3, hs_V i), (4, hs_V 1)]) C dX7_standing_96 rfl (by decide) [1, 2, 0, 3, 4] rfl ?_
                refine hs_iinc (lv' := [(0, .ref y0), (1, hs_V 0), (2, hs_V (x + 1)), (3, hs_V (i + 1)), (4, hs_V 1)]) C dX7_standing_97 3 rfl (by decide) [1, 2, 3, 0, 4] rfl ?_
                refine hs_goto (tgt := 4) C dX7_standing_100 (by decide) ?_
                refine hs_lvs (lv' := [(0, .ref y0), (1, hs_V 0), (2, hs_V (x + 1)), (3, hs_V (i + 1))]) [0, 1, 2, 3] rfl ?_
                exact ih2 (i + 1) (x + 1) (by omega) (by have hz := (hs_up_step (by omega)).symm.trans hL; (try dsimp only at hz); first | exact hz | (split at hz <;> first | exact hz | (exfalso; omega) | (split at hz <;> first | exact hz | (exfalso; omega) | (split at hz <;> first | exact hz | (exfalso; omega))))) (by omega)
        ·
          exact absurd c5 (by decide)
  exact Lp1 ((h 40 - 0 : Int).toNat + 1) 0 0 (by omega) (rfl) (by omega)

set_option maxHeartbeats 4000000 in
set_option maxRecDepth 100000 in
theorem c_X7_nearest_m1 (l : Launch) (D : va_G) (cI cO : ClassId) (y0 : Nat) (y1 : Nat) (y2 : Nat) (y3 : Nat) (y4 : Nat) (y5 : Nat) (y6 : Nat) (y7 : Nat) (y8 : Nat) (y9 : Nat) (pm : Int) (fl : Int) (pt : Int) (h : Int → Int) (i : Int) (hh : ∀ k, 0 ≤ h k ∧ h k ≤ 50) (hN : 0 ≤ h 40 ∧ h 40 ≤ 40) (hi : 0 ≤ i ∧ i ≤ h 40 - 1) : hs_M l D cI cO yX7_nearest wsX7_nearest ({ frames := 2, cells := 0, slots := 0, locals := 43 } : Room) [.ref y0, hs_V i, hs_V (-1), hs_V 1] [hs_ob y0 7 [.ref y1, .ref y2, hs_V pm, .ref y3, hs_V fl, .ref y4, .ref y5, .ref y6, .ref y7, hs_V pt, .ref y8, .ref y9], hs_ia cI y1 41 h] (fun r (_ : Unit) => r = hs_I (pu_sl h i)) (fun _ => [hs_ob y0 7 [.ref y1, .ref y2, hs_V pm, .ref y3, hs_V fl, .ref y4, .ref y5, .ref y6, .ref y7, hs_V pt, .ref y8, .ref y9], hs_ia cI y1 41 h]) 0 0 := by
  refine hs_enter (cc := cX7_nearest) (maxL := 5) (by decide +kernel) rfl (Nat.le_of_ble_eq_true rfl) (fun p e s m args below meth c A H0 Q C hret => ?_)
  have f7 := C.1.2.2.2.2 (.fieldLink RX7 7 "HistogramStairsModel" "h" "[I") (by decide +kernel)
  have u7 : ∀ w ∈ wsX70, w ∈ wsX7_nearest := by decide +kernel
  refine hs_lvs (lv' := [(0, .ref y0), (1, hs_V i), (2, hs_V (-1)), (3, hs_V 1)]) [0, 1, 2, 3] rfl ?_
  refine hs_iload_n C dX7_nearest_0 rfl 1 rfl ?_
  refine hs_iload_n C dX7_nearest_1 rfl 2 rfl ?_
  refine hs_iadd C dX7_nearest_2 ?_
  refine hs_istore (lv' := [(0, .ref y0), (1, hs_V i), (2, hs_V (-1)), (3, hs_V 1), (4, hs_V (i + (-1)))]) C dX7_nearest_3 (by decide) [1, 2, 3, 4, 0] rfl ?_
  have Lp1 : ∀ (k : Nat) (j : Int), (-1 ≤ j ∧ j < i) → (hs_fd1 (fun j => h j < h i) j = pu_sl h i) → (j + 1 < (k : Int)) → hs_J p l e ({ frames := 2, cells := 0, slots := 0, locals := 43 } : Room) s m args below meth c D A H0 5 0 0 Q 5 [(0, .ref y0), (1, hs_V i), (2, hs_V (-1)), (3, hs_V 1), (4, hs_V j)] [] [hs_ob y0 7 [.ref y1, .ref y2, hs_V pm, .ref y3, hs_V fl, .ref y4, .ref y5, .ref y6, .ref y7, hs_V pt, .ref y8, .ref y9], hs_ia cI y1 41 h] := by
    intro k
    induction k with
    | zero =>
      intro j hj hL hk
      exact absurd hk (by omega)
    | succ k ih =>
      intro j hj hL hk
      have ih2 := ih
      refine hs_aload_n C dX7_nearest_5 rfl 0 rfl ?_
      refine hs_iload C dX7_nearest_6 4 rfl ?_
      refine hs_callVi (win := [hs_ob y0 7 [.ref y1, .ref y2, hs_V pm, .ref y3, hs_V fl, .ref y4, .ref y5, .ref y6, .ref y7, hs_V pt, .ref y8, .ref y9], hs_ia cI y1 41 h]) (wr := []) (As := [hs_V j]) (rest := []) C (c_X7_isColumn l D cI cO y0 y1 y2 y3 y4 y5 y6 y7 y8 y9 pm fl pt h j (by omega) (by omega)) 7 0 rfl rfl rfl (cwV 1 C.1.2.2.2.2 gX7_nearest_X7_isColumn rfl rfl rfl (by decide +kernel) ⟨Nat.le_of_ble_eq_true rfl, Nat.le_of_ble_eq_true rfl⟩) rfl rfl (Nat.le_of_ble_eq_true rfl) dX7_nearest_8 ⟨Nat.le_of_ble_eq_true rfl, Nat.le_of_ble_eq_true rfl⟩ (fun rr uu3 hp => ?_)
      obtain rfl := hp
      refine hs_re0 (w' := [hs_ob y0 7 [.ref y1, .ref y2, hs_V pm, .ref y3, hs_V fl, .ref y4, .ref y5, .ref y6, .ref y7, hs_V pt, .ref y8, .ref y9], hs_ia cI y1 41 h]) [0, 1] rfl (by decide) ?_
      refine hs_ifeq_b (tgt := 62) C dX7_nearest_11 (by decide) (fun c4 => ?_) (fun c4 => ?_)
      ·
        refine hs_aload_n C dX7_nearest_62 rfl 0 rfl ?_
        refine hs_iload C dX7_nearest_63 4 rfl ?_
        refine hs_callVi (win := [hs_ob y0 7 [.ref y1, .ref y2, hs_V pm, .ref y3, hs_V fl, .ref y4, .ref y5, .ref y6, .ref y7, hs_V pt, .ref y8, .ref y9], hs_ia cI y1 41 h]) (wr := []) (As := [hs_V j]) (rest := []) C (c_X7_isColumn l D cI cO y0 y1 y2 y3 y4 y5 y6 y7 y8 y9 pm fl pt h j (by omega) (by omega)) 7 0 rfl rfl rfl (cwV 1 C.1.2.2.2.2 gX7_nearest_X7_isColumn rfl rfl rfl (by decide +kernel) ⟨Nat.le_of_ble_eq_true rfl, Nat.le_of_ble_eq_true rfl⟩) rfl rfl (Nat.le_of_ble_eq_true rfl) dX7_nearest_65 ⟨Nat.le_of_ble_eq_true rfl, Nat.le_of_ble_eq_true rfl⟩ (fun rr uu5 hp => ?_)
        obtain rfl := hp
        refine hs_re0 (w' := [hs_ob y0 7 [.ref y1, .ref y2, hs_V pm, .ref y3, hs_V fl, .ref y4, .ref y5, .ref y6, .ref y7, hs_V pt, .ref y8, .ref y9], hs_ia cI y1 41 h]) [0, 1] rfl (by decide) ?_
        refine hs_ifeq_b (tgt := 76) C dX7_nearest_68 (by decide) (fun c6 => ?_) (fun c6 => ?_)
        ·
          refine hs_bipush C dX7_nearest_76 (by decide) ?_
          exact hret _ _ _ () (by first | (exfalso; omega) | rw [← hL, hs_fd1_done (by omega)] | rw [← hL, hs_fd1_step (by omega), if_pos (by omega)]) dX7_nearest_78 rfl
        ·
          refine hs_iload C dX7_nearest_71 4 rfl ?_
          refine hs_goto (tgt := 78) C dX7_nearest_73 (by decide) ?_
          exact hret _ _ _ () (by first | (exfalso; omega) | rw [← hL, hs_fd1_done (by omega)] | rw [← hL, hs_fd1_step (by omega), if_pos (by omega)]) dX7_nearest_78 rfl
      ·
        refine hs_iload_n C dX7_nearest_14 rfl 3 rfl ?_
        refine hs_if_eq (tgt := 37) C dX7_nearest_15 (by decide) (by omega) (fun c7 => ?_) (fun c7 => ?_)
        ·
          exact absurd c7 (by decide)
        ·
          refine hs_aload_n C dX7_nearest_18 rfl 0 rfl ?_
          refine hs_get C u7 0 rfl rfl 0 (by decide) f7 rfl rfl dX7_nearest_19 ?_
          refine hs_iload C dX7_nearest_22 4 rfl ?_
          refine hs_iald C 1 rfl (by omega) dX7_nearest_24 ?_
          have b8 := hh j
          refine hs_aload_n C dX7_nearest_25 rfl 0 rfl ?_
          refine hs_get C u7 0 rfl rfl 0 (by decide) f7 rfl rfl dX7_nearest_26 ?_
          refine hs_iload_n C dX7_nearest_29 rfl 1 rfl ?_
          refine hs_iald C 1 rfl (by omega) dX7_nearest_30 ?_
          have b9 := hh i
          refine hs_icmp_lt (tgt := 62) C dX7_nearest_31 (by decide) (by omega) (by omega) (fun c10 => ?_) (fun c10 => ?_)
          ·
            refine hs_aload_n C dX7_nearest_62 rfl 0 rfl ?_
            refine hs_iload C dX7_nearest_63 4 rfl ?_
            refine hs_callVi (win := [hs_ob y0 7 [.ref y1, .ref y2, hs_V pm, .ref y3, hs_V fl, .ref y4, .ref y5, .ref y6, .ref y7, hs_V pt, .ref y8, .ref y9], hs_ia cI y1 41 h]) (wr := []) (As := [hs_V j]) (rest := []) C (c_X7_isColumn l D cI cO y0 y1 y2 y3 y4 y5 y6 y7 y8 y9 pm fl pt h j (by omega) (by omega)) 7 0 rfl rfl rfl (cwV 1 C.1.2.2.2.2 gX7_nearest_X7_isColumn rfl rfl rfl (by decide +kernel) ⟨Nat.le_of_ble_eq_true rfl, Nat.le_of_ble_eq_true rfl⟩) rfl rfl (Nat.le_of_ble_eq_true rfl) dX7_nearest_65 ⟨Nat.le_of_ble_eq_true rfl, Nat.le_of_ble_eq_true rfl⟩ (fun rr uu11 hp => ?_)
            obtain rfl := hp
            refine hs_re0 (w' := [hs_ob y0 7 [.ref y1, .ref y2, hs_V pm, .ref y3, hs_V fl, .ref y4, .ref y5, .ref y6, .ref y7, hs_V pt, .ref y8, .ref y9], hs_ia cI y1 41 h]) [0, 1] rfl (by decide) ?_
            refine hs_ifeq_b (tgt := 76) C dX7_nearest_68 (by decide) (fun c12 => ?_) (fun c12 => ?_)
            ·
              refine hs_bipush C dX7_nearest_76 (by decide) ?_
              exact hret _ _ _ () (by first | (exfalso; omega) | rw [← hL, hs_fd1_done (by omega)] | rw [← hL, hs_fd1_step (by omega), if_pos (by omega)]) dX7_nearest_78 rfl
            ·
              refine hs_iload C dX7_nearest_71 4 rfl ?_
              refine hs_goto (tgt := 78) C dX7_nearest_73 (by decide) ?_
              exact hret _ _ _ () (by first | (exfalso; omega) | rw [← hL, hs_fd1_done (by omega)] | rw [← hL, hs_fd1_step (by omega), if_pos (by omega)]) dX7_nearest_78 rfl
          ·
            refine hs_goto (tgt := 53) C dX7_nearest_34 (by decide) ?_
            refine hs_iload C dX7_nearest_53 4 rfl ?_
            refine hs_iload_n C dX7_nearest_55 rfl 2 rfl ?_
            refine hs_iadd C dX7_nearest_56 ?_
            refine hs_istore (lv' := [(0, .ref y0), (1, hs_V i), (2, hs_V (-1)), (3, hs_V 1), (4, hs_V (j + (-1)))]) C dX7_nearest_57 (by decide) [1, 2, 3, 4, 0] rfl ?_
            refine hs_goto (tgt := 5) C dX7_nearest_59 (by decide) ?_
            exact ih2 (j + (-1)) (by omega) (by have hz := (hs_fd1_step (by omega)).symm.trans hL; (try dsimp only at hz); first | exact hz | (split at hz <;> first | exact hz | (exfalso; omega) | (split at hz <;> first | exact hz | (exfalso; omega) | (split at hz <;> first | exact hz | (exfalso; omega))))) (by omega)
  exact Lp1 (((i + (-1)) + 1 : Int).toNat + 1) (i + (-1)) (by omega) (by unfold pu_sl; rfl) (by omega)

set_option maxHeartbeats 4000000 in
set_option maxRecDepth 100000 in
theorem c_X7_nearest_p1 (l : Launch) (D : va_G) (cI cO : ClassId) (y0 : Nat) (y1 : Nat) (y2 : Nat) (y3 : Nat) (y4 : Nat) (y5 : Nat) (y6 : Nat) (y7 : Nat) (y8 : Nat) (y9 : Nat) (pm : Int) (fl : Int) (pt : Int) (h : Int → Int) (i : Int) (hh : ∀ k, 0 ≤ h k ∧ h k ≤ 50) (hN : 0 ≤ h 40 ∧ h 40 ≤ 40) (hi : 0 ≤ i ∧ i ≤ h 40 - 1) : hs_M l D cI cO yX7_nearest wsX7_nearest ({ frames := 2, cells := 0, slots := 0, locals := 43 } : Room) [.ref y0, hs_V i, hs_V 1, hs_V 1] [hs_ob y0 7 [.ref y1, .ref y2, hs_V pm, .ref y3, hs_V fl, .ref y4, .ref y5, .ref y6, .ref y7, hs_V pt, .ref y8, .ref y9], hs_ia cI y1 41 h] (fun r (_ : Unit) => r = hs_I (pu_sr h (h 40) i)) (fun _ => [hs_ob y0 7 [.ref y1, .ref y2, hs_V pm, .ref y3, hs_V fl, .ref y4, .ref y5, .ref y6, .ref y7, hs_V pt, .ref y8, .ref y9], hs_ia cI y1 41 h]) 0 0 := by
  refine hs_enter (cc := cX7_nearest) (maxL := 5) (by decide +kernel) rfl (Nat.le_of_ble_eq_true rfl) (fun p e s m args below meth c A H0 Q C hret => ?_)
  have f7 := C.1.2.2.2.2 (.fieldLink RX7 7 "HistogramStairsModel" "h" "[I") (by decide +kernel)
  have u7 : ∀ w ∈ wsX70, w ∈ wsX7_nearest := by decide +kernel
  refine hs_lvs (lv' := [(0, .ref y0), (1, hs_V i), (2, hs_V 1), (3, hs_V 1)]) [0, 1, 2, 3] rfl ?_
  refine hs_iload_n C dX7_nearest_0 rfl 1 rfl ?_
  refine hs_iload_n C dX7_nearest_1 rfl 2 rfl ?_
  refine hs_iadd C dX7_nearest_2 ?_
  refine hs_istore (lv' := [(0, .ref y0), (1, hs_V i), (2, hs_V 1), (3, hs_V 1), (4, hs_V (i + 1))]) C dX7_nearest_3 (by decide) [1, 2, 3, 4, 0] rfl ?_
  have Lp1 : ∀ (k : Nat) (j : Int), (i < j ∧ j ≤ h 40) → (hs_fu1 (fun j => h j < h i) j (h 40) = pu_sr h (h 40) i) → (h 40 - j < (k : Int)) → hs_J p l e ({ frames := 2, cells := 0, slots := 0, locals := 43 } : Room) s m args below meth c D A H0 5 0 0 Q 5 [(0, .ref y0), (1, hs_V i), (2, hs_V 1), (3, hs_V 1), (4, hs_V j)] [] [hs_ob y0 7 [.ref y1, .ref y2, hs_V pm, .ref y3, hs_V fl, .ref y4, .ref y5, .ref y6, .ref y7, hs_V pt, .ref y8, .ref y9], hs_ia cI y1 41 h] := by
    intro k
    induction k with
    | zero =>
      intro j hj hL hk
      exact absurd hk (by omega)
    | succ k ih =>
      intro j hj hL hk
      have ih2 := ih
      refine hs_aload_n C dX7_nearest_5 rfl 0 rfl ?_
      refine hs_iload C dX7_nearest_6 4 rfl ?_
      refine hs_callVi (win := [hs_ob y0 7 [.ref y1, .ref y2, hs_V pm, .ref y3, hs_V fl, .ref y4, .ref y5, .ref y6, .ref y7, hs_V pt, .ref y8, .ref y9], hs_ia cI y1 41 h]) (wr := []) (As := [hs_V j]) (rest := []) C (c_X7_isColumn l D cI cO y0 y1 y2 y3 y4 y5 y6 y7 y8 y9 pm fl pt h j (by omega) (by omega)) 7 0 rfl rfl rfl (cwV 1 C.1.2.2.2.2 gX7_nearest_X7_isColumn rfl rfl rfl (by decide +kernel) ⟨Nat.le_of_ble_eq_true rfl, Nat.le_of_ble_eq_true rfl⟩) rfl rfl (Nat.le_of_ble_eq_true rfl) dX7_nearest_8 ⟨Nat.le_of_ble_eq_true rfl, Nat.le_of_ble_eq_true rfl⟩ (fun rr uu3 hp => ?_)
      obtain rfl := hp
      refine hs_re0 (w' := [hs_ob y0 7 [.ref y1, .ref y2, hs_V pm, .ref y3, hs_V fl, .ref y4, .ref y5, .ref y6, .ref y7, hs_V pt, .ref y8, .ref y9], hs_ia cI y1 41 h]) [0, 1] rfl (by decide) ?_
      refine hs_ifeq_b (tgt := 62) C dX7_nearest_11 (by decide) (fun c4 => ?_) (fun c4 => ?_)
      ·
        refine hs_aload_n C dX7_nearest_62 rfl 0 rfl ?_
        refine hs_iload C dX7_nearest_63 4 rfl ?_
        refine hs_callVi (win := [hs_ob y0 7 [.ref y1, .ref y2, hs_V pm, .ref y3, hs_V fl, .ref y4, .ref y5, .ref y6, .ref y7, hs_V pt, .ref y8, .ref y9], hs_ia cI y1 41 h]) (wr := []) (As := [hs_V j]) (rest := []) C (c_X7_isColumn l D cI cO y0 y1 y2 y3 y4 y5 y6 y7 y8 y9 pm fl pt h j (by omega) (by omega)) 7 0 rfl rfl rfl (cwV 1 C.1.2.2.2.2 gX7_nearest_X7_isColumn rfl rfl rfl (by decide +kernel) ⟨Nat.le_of_ble_eq_true rfl, Nat.le_of_ble_eq_true rfl⟩) rfl rfl (Nat.le_of_ble_eq_true rfl) dX7_nearest_65 ⟨Nat.le_of_ble_eq_true rfl, Nat.le_of_ble_eq_true rfl⟩ (fun rr uu5 hp => ?_)
        obtain rfl := hp
        refine hs_re0 (w' := [hs_ob y0 7 [.ref y1, .ref y2, hs_V pm, .ref y3, hs_V fl, .ref y4, .ref y5, .ref y6, .ref y7, hs_V pt, .ref y8, .ref y9], hs_ia cI y1 41 h]) [0, 1] rfl (by decide) ?_
        refine hs_ifeq_b (tgt := 76) C dX7_nearest_68 (by decide) (fun c6 => ?_) (fun c6 => ?_)
        ·
          refine hs_bipush C dX7_nearest_76 (by decide) ?_
          exact hret _ _ _ () (by first | (exfalso; omega) | rw [← hL, hs_fu1_done (by omega)] | rw [← hL, hs_fu1_step (by omega), if_pos (by omega)]) dX7_nearest_78 rfl
        ·
          refine hs_iload C dX7_nearest_71 4 rfl ?_
          refine hs_goto (tgt := 78) C dX7_nearest_73 (by decide) ?_
          exact hret _ _ _ () (by first | (exfalso; omega) | rw [← hL, hs_fu1_done (by omega)] | rw [← hL, hs_fu1_step (by omega), if_pos (by omega)]) dX7_nearest_78 rfl
      ·
        refine hs_iload_n C dX7_nearest_14 rfl 3 rfl ?_
        refine hs_if_eq (tgt := 37) C dX7_nearest_15 (by decide) (by omega) (fun c7 => ?_) (fun c7 => ?_)
        ·
          exact absurd c7 (by decide)
        ·
          refine hs_aload_n C dX7_nearest_18 rfl 0 rfl ?_
          refine hs_get C u7 0 rfl rfl 0 (by decide) f7 rfl rfl dX7_nearest_19 ?_
          refine hs_iload C dX7_nearest_22 4 rfl ?_
          refine hs_iald C 1 rfl (by omega) dX7_nearest_24 ?_
          have b8 := hh j
          refine hs_aload_n C dX7_nearest_25 rfl 0 rfl ?_
          refine hs_get C u7 0 rfl rfl 0 (by decide) f7 rfl rfl dX7_nearest_26 ?_
          refine hs_iload_n C dX7_nearest_29 rfl 1 rfl ?_
          refine hs_iald C 1 rfl (by omega) dX7_nearest_30 ?_
          have b9 := hh i
          refine hs_icmp_lt (tgt := 62) C dX7_nearest_31 (by decide) (by omega) (by omega) (fun c10 => ?_) (fun c10 => ?_)
          ·
            refine hs_aload_n C dX7_nearest_62 rfl 0 rfl ?_
            refine hs_iload C dX7_nearest_63 4 rfl ?_
            refine hs_callVi (win := [hs_ob y0 7 [.ref y1, .ref y2, hs_V pm, .ref y3, hs_V fl, .ref y4, .ref y5, .ref y6, .ref y7, hs_V pt, .ref y8, .ref y9], hs_ia cI y1 41 h]) (wr := []) (As := [hs_V j]) (rest := []) C (c_X7_isColumn l D cI cO y0 y1 y2 y3 y4 y5 y6 y7 y8 y9 pm fl pt h j (by omega) (by omega)) 7 0 rfl rfl rfl (cwV 1 C.1.2.2.2.2 gX7_nearest_X7_isColumn rfl rfl rfl (by decide +kernel) ⟨Nat.le_of_ble_eq_true rfl, Nat.le_of_ble_eq_true rfl⟩) rfl rfl (Nat.le_of_ble_eq_true rfl) dX7_nearest_65 ⟨Nat.le_of_ble_eq_true rfl, Nat.le_of_ble_eq_true rfl⟩ (fun rr uu11 hp => ?_)
            obtain rfl := hp
            refine hs_re0 (w' := [hs_ob y0 7 [.ref y1, .ref y2, hs_V pm, .ref y3, hs_V fl, .ref y4, .ref y5, .ref y6, .ref y7, hs_V pt, .ref y8, .ref y9], hs_ia cI y1 41 h]) [0, 1] rfl (by decide) ?_
            refine hs_ifeq_b (tgt := 76) C dX7_nearest_68 (by decide) (fun c12 => ?_) (fun c12 => ?_)
            ·
              refine hs_bipush C dX7_nearest_76 (by decide) ?_
              exact hret _ _ _ () (by first | (exfalso; omega) | rw [← hL, hs_fu1_done (by omega)] | rw [← hL, hs_fu1_step (by omega), if_pos (by omega)]) dX7_nearest_78 rfl
            ·
              refine hs_iload C dX7_nearest_71 4 rfl ?_
              refine hs_goto (tgt := 78) C dX7_nearest_73 (by decide) ?_
              exact hret _ _ _ () (by first | (exfalso; omega) | rw [← hL, hs_fu1_done (by omega)] | rw [← hL, hs_fu1_step (by omega), if_pos (by omega)]) dX7_nearest_78 rfl
          ·
            refine hs_goto (tgt := 53) C dX7_nearest_34 (by decide) ?_
            refine hs_iload C dX7_nearest_53 4 rfl ?_
            refine hs_iload_n C dX7_nearest_55 rfl 2 rfl ?_
            refine hs_iadd C dX7_nearest_56 ?_
            refine hs_istore (lv' := [(0, .ref y0), (1, hs_V i), (2, hs_V 1), (3, hs_V 1), (4, hs_V (j + 1))]) C dX7_nearest_57 (by decide) [1, 2, 3, 4, 0] rfl ?_
            refine hs_goto (tgt := 5) C dX7_nearest_59 (by decide) ?_
            exact ih2 (j + 1) (by omega) (by have hz := (hs_fu1_step (by omega)).symm.trans hL; (try dsimp only at hz); first | exact hz | (split at hz <;> first | exact hz | (exfalso; omega) | (split at hz <;> first | exact hz | (exfalso; omega) | (split at hz <;> first | exact hz | (exfalso; omega))))) (by omega)
  exact Lp1 ((h 40 - (i + 1) : Int).toNat + 1) (i + 1) (by omega) (by unfold pu_sr; rfl) (by omega)

set_option maxHeartbeats 4000000 in
set_option maxRecDepth 100000 in
theorem c_X7_nearest_m0 (l : Launch) (D : va_G) (cI cO : ClassId) (y0 : Nat) (y1 : Nat) (y2 : Nat) (y3 : Nat) (y4 : Nat) (y5 : Nat) (y6 : Nat) (y7 : Nat) (y8 : Nat) (y9 : Nat) (pm : Int) (fl : Int) (pt : Int) (h : Int → Int) (i : Int) (hh : ∀ k, 0 ≤ h k ∧ h k ≤ 50) (hN : 0 ≤ h 40 ∧ h 40 ≤ 40) (hi : 0 ≤ i ∧ i ≤ h 40 - 1) : hs_M l D cI cO yX7_nearest wsX7_nearest ({ frames := 2, cells := 0, slots := 0, locals := 43 } : Room) [.ref y0, hs_V i, hs_V (-1), hs_V 0] [hs_ob y0 7 [.ref y1, .ref y2, hs_V pm, .ref y3, hs_V fl, .ref y4, .ref y5, .ref y6, .ref y7, hs_V pt, .ref y8, .ref y9], hs_ia cI y1 41 h] (fun r (_ : Unit) => r = hs_I (pu_gl h i)) (fun _ => [hs_ob y0 7 [.ref y1, .ref y2, hs_V pm, .ref y3, hs_V fl, .ref y4, .ref y5, .ref y6, .ref y7, hs_V pt, .ref y8, .ref y9], hs_ia cI y1 41 h]) 0 0 := by
  refine hs_enter (cc := cX7_nearest) (maxL := 5) (by decide +kernel) rfl (Nat.le_of_ble_eq_true rfl) (fun p e s m args below meth c A H0 Q C hret => ?_)
  have f7 := C.1.2.2.2.2 (.fieldLink RX7 7 "HistogramStairsModel" "h" "[I") (by decide +kernel)
  have u7 : ∀ w ∈ wsX70, w ∈ wsX7_nearest := by decide +kernel
  refine hs_lvs (lv' := [(0, .ref y0), (1, hs_V i), (2, hs_V (-1)), (3, hs_V 0)]) [0, 1, 2, 3] rfl ?_
  refine hs_iload_n C dX7_nearest_0 rfl 1 rfl ?_
  refine hs_iload_n C dX7_nearest_1 rfl 2 rfl ?_
  refine hs_iadd C dX7_nearest_2 ?_
  refine hs_istore (lv' := [(0, .ref y0), (1, hs_V i), (2, hs_V (-1)), (3, hs_V 0), (4, hs_V (i + (-1)))]) C dX7_nearest_3 (by decide) [1, 2, 3, 4, 0] rfl ?_
  have Lp1 : ∀ (k : Nat) (j : Int), (-1 ≤ j ∧ j < i) → (hs_fd1 (fun j => h j > h i) j = pu_gl h i) → (j + 1 < (k : Int)) → hs_J p l e ({ frames := 2, cells := 0, slots := 0, locals := 43 } : Room) s m args below meth c D A H0 5 0 0 Q 5 [(0, .ref y0), (1, hs_V i), (2, hs_V (-1)), (3, hs_V 0), (4, hs_V j)] [] [hs_ob y0 7 [.ref y1, .ref y2, hs_V pm, .ref y3, hs_V fl, .ref y4, .ref y5, .ref y6, .ref y7, hs_V pt, .ref y8, .ref y9], hs_ia cI y1 41 h] := by
    intro k
    induction k with
    | zero =>
      intro j hj hL hk
      exact absurd hk (by omega)
    | succ k ih =>
      intro j hj hL hk
      have ih2 := ih
      refine hs_aload_n C dX7_nearest_5 rfl 0 rfl ?_
      refine hs_iload C dX7_nearest_6 4 rfl ?_
      refine hs_callVi (win := [hs_ob y0 7 [.ref y1, .ref y2, hs_V pm, .ref y3, hs_V fl, .ref y4, .ref y5, .ref y6, .ref y7, hs_V pt, .ref y8, .ref y9], hs_ia cI y1 41 h]) (wr := []) (As := [hs_V j]) (rest := []) C (c_X7_isColumn l D cI cO y0 y1 y2 y3 y4 y5 y6 y7 y8 y9 pm fl pt h j (by omega) (by omega)) 7 0 rfl rfl rfl (cwV 1 C.1.2.2.2.2 gX7_nearest_X7_isColumn rfl rfl rfl (by decide +kernel) ⟨Nat.le_of_ble_eq_true rfl, Nat.le_of_ble_eq_true rfl⟩) rfl rfl (Nat.le_of_ble_eq_true rfl) dX7_nearest_8 ⟨Nat.le_of_ble_eq_true rfl, Nat.le_of_ble_eq_true rfl⟩ (fun rr uu3 hp => ?_)
      obtain rfl := hp
      refine hs_re0 (w' := [hs_ob y0 7 [.ref y1, .ref y2, hs_V pm, .ref y3, hs_V fl, .ref y4, .ref y5, .ref y6, .ref y7, hs_V pt, .ref y8, .ref y9], hs_ia cI y1 41 h]) [0, 1] rfl (by decide) ?_
      refine hs_ifeq_b (tgt := 62) C dX7_nearest_11 (by decide) (fun c4 => ?_) (fun c4 => ?_)
      ·
        refine hs_aload_n C dX7_nearest_62 rfl 0 rfl ?_
        refine hs_iload C dX7_nearest_63 4 rfl ?_
        refine hs_callVi (win := [hs_ob y0 7 [.ref y1, .ref y2, hs_V pm, .ref y3, hs_V fl, .ref y4, .ref y5, .ref y6, .ref y7, hs_V pt, .ref y8, .ref y9], hs_ia cI y1 41 h]) (wr := []) (As := [hs_V j]) (rest := []) C (c_X7_isColumn l D cI cO y0 y1 y2 y3 y4 y5 y6 y7 y8 y9 pm fl pt h j (by omega) (by omega)) 7 0 rfl rfl rfl (cwV 1 C.1.2.2.2.2 gX7_nearest_X7_isColumn rfl rfl rfl (by decide +kernel) ⟨Nat.le_of_ble_eq_true rfl, Nat.le_of_ble_eq_true rfl⟩) rfl rfl (Nat.le_of_ble_eq_true rfl) dX7_nearest_65 ⟨Nat.le_of_ble_eq_true rfl, Nat.le_of_ble_eq_true rfl⟩ (fun rr uu5 hp => ?_)
        obtain rfl := hp
        refine hs_re0 (w' := [hs_ob y0 7 [.ref y1, .ref y2, hs_V pm, .ref y3, hs_V fl, .ref y4, .ref y5, .ref y6, .ref y7, hs_V pt, .ref y8, .ref y9], hs_ia cI y1 41 h]) [0, 1] rfl (by decide) ?_
        refine hs_ifeq_b (tgt := 76) C dX7_nearest_68 (by decide) (fun c6 => ?_) (fun c6 => ?_)
        ·
          refine hs_bipush C dX7_nearest_76 (by decide) ?_
          exact hret _ _ _ () (by first | (exfalso; omega) | rw [← hL, hs_fd1_done (by omega)] | rw [← hL, hs_fd1_step (by omega), if_pos (by omega)]) dX7_nearest_78 rfl
        ·
          refine hs_iload C dX7_nearest_71 4 rfl ?_
          refine hs_goto (tgt := 78) C dX7_nearest_73 (by decide) ?_
          exact hret _ _ _ () (by first | (exfalso; omega) | rw [← hL, hs_fd1_done (by omega)] | rw [← hL, hs_fd1_step (by omega), if_pos (by omega)]) dX7_nearest_78 rfl
      ·
        refine hs_iload_n C dX7_nearest_14 rfl 3 rfl ?_
        refine hs_if_eq (tgt := 37) C dX7_nearest_15 (by decide) (by omega) (fun c7 => ?_) (fun c7 => ?_)
        ·
          refine hs_aload_n C dX7_nearest_37 rfl 0 rfl ?_
          refine hs_get C u7 0 rfl rfl 0 (by decide) f7 rfl rfl dX7_nearest_38 ?_
          refine hs_iload C dX7_nearest_41 4 rfl ?_
          refine hs_iald C 1 rfl (by omega) dX7_nearest_43 ?_
          have b8 := hh j
          refine hs_aload_n C dX7_nearest_44 rfl 0 rfl ?_
          refine hs_get C u7 0 rfl rfl 0 (by decide) f7 rfl rfl dX7_nearest_45 ?_
          refine hs_iload_n C dX7_nearest_48 rfl 1 rfl ?_
          refine hs_iald C 1 rfl (by omega) dX7_nearest_49 ?_
          have b9 := hh i
          refine hs_icmp_gt (tgt := 62) C dX7_nearest_50 (by decide) (by omega) (by omega) (fun c10 => ?_) (fun c10 => ?_)
          ·
            refine hs_aload_n C dX7_nearest_62 rfl 0 rfl ?_
            refine hs_iload C dX7_nearest_63 4 rfl ?_
            refine hs_callVi (win := [hs_ob y0 7 [.ref y1, .ref y2, hs_V pm, .ref y3, hs_V fl, .ref y4, .ref y5, .ref y6, .ref y7, hs_V pt, .ref y8, .ref y9], hs_ia cI y1 41 h]) (wr := []) (As := [hs_V j]) (rest := []) C (c_X7_isColumn l D cI cO y0 y1 y2 y3 y4 y5 y6 y7 y8 y9 pm fl pt h j (by omega) (by omega)) 7 0 rfl rfl rfl (cwV 1 C.1.2.2.2.2 gX7_nearest_X7_isColumn rfl rfl rfl (by decide +kernel) ⟨Nat.le_of_ble_eq_true rfl, Nat.le_of_ble_eq_true rfl⟩) rfl rfl (Nat.le_of_ble_eq_true rfl) dX7_nearest_65 ⟨Nat.le_of_ble_eq_true rfl, Nat.le_of_ble_eq_true rfl⟩ (fun rr uu11 hp => ?_)
            obtain rfl := hp
            refine hs_re0 (w' := [hs_ob y0 7 [.ref y1, .ref y2, hs_V pm, .ref y3, hs_V fl, .ref y4, .ref y5, .ref y6, .ref y7, hs_V pt, .ref y8, .ref y9], hs_ia cI y1 41 h]) [0, 1] rfl (by decide) ?_
            refine hs_ifeq_b (tgt := 76) C dX7_nearest_68 (by decide) (fun c12 => ?_) (fun c12 => ?_)
            ·
              refine hs_bipush C dX7_nearest_76 (by decide) ?_
              exact hret _ _ _ () (by first | (exfalso; omega) | rw [← hL, hs_fd1_done (by omega)] | rw [← hL, hs_fd1_step (by omega), if_pos (by omega)]) dX7_nearest_78 rfl
            ·
              refine hs_iload C dX7_nearest_71 4 rfl ?_
              refine hs_goto (tgt := 78) C dX7_nearest_73 (by decide) ?_
              exact hret _ _ _ () (by first | (exfalso; omega) | rw [← hL, hs_fd1_done (by omega)] | rw [← hL, hs_fd1_step (by omega), if_pos (by omega)]) dX7_nearest_78 rfl
          ·
            refine hs_iload C dX7_nearest_53 4 rfl ?_
            refine hs_iload_n C dX7_nearest_55 rfl 2 rfl ?_
            refine hs_iadd C dX7_nearest_56 ?_
            refine hs_istore (lv' := [(0, .ref y0), (1, hs_V i), (2, hs_V (-1)), (3, hs_V 0), (4, hs_V (j + (-1)))]) C dX7_nearest_57 (by decide) [1, 2, 3, 4, 0] rfl ?_
            refine hs_goto (tgt := 5) C dX7_nearest_59 (by decide) ?_
            exact ih2 (j + (-1)) (by omega) (by have hz := (hs_fd1_step (by omega)).symm.trans hL; (try dsimp only at hz); first | exact hz | (split at hz <;> first | exact hz | (exfalso; omega) | (split at hz <;> first | exact hz | (exfalso; omega) | (split at hz <;> first | exact hz | (exfalso; omega))))) (by omega)
        ·
          exact absurd c7 (by decide)
  exact Lp1 (((i + (-1)) + 1 : Int).toNat + 1) (i + (-1)) (by omega) (by unfold pu_gl; rfl) (by omega)

set_option maxHeartbeats 4000000 in
set_option maxRecDepth 100000 in
theorem c_X7_nearest_p0 (l : Launch) (D : va_G) (cI cO : ClassId) (y0 : Nat) (y1 : Nat) (y2 : Nat) (y3 : Nat) (y4 : Nat) (y5 : Nat) (y6 : Nat) (y7 : Nat) (y8 : Nat) (y9 : Nat) (pm : Int) (fl : Int) (pt : Int) (h : Int → Int) (i : Int) (hh : ∀ k, 0 ≤ h k ∧ h k ≤ 50) (hN : 0 ≤ h 40 ∧ h 40 ≤ 40) (hi : 0 ≤ i ∧ i ≤ h 40 - 1) : hs_M l D cI cO yX7_nearest wsX7_nearest ({ frames := 2, cells := 0, slots := 0, locals := 43 } : Room) [.ref y0, hs_V i, hs_V 1, hs_V 0] [hs_ob y0 7 [.ref y1, .ref y2, hs_V pm, .ref y3, hs_V fl, .ref y4, .ref y5, .ref y6, .ref y7, hs_V pt, .ref y8, .ref y9], hs_ia cI y1 41 h] (fun r (_ : Unit) => r = hs_I (pu_gr h (h 40) i)) (fun _ => [hs_ob y0 7 [.ref y1, .ref y2, hs_V pm, .ref y3, hs_V fl, .ref y4, .ref y5, .ref y6, .ref y7, hs_V pt, .ref y8, .ref y9], hs_ia cI y1 41 h]) 0 0 := by
  refine hs_enter (cc := cX7_nearest) (maxL := 5) (by decide +kernel) rfl (Nat.le_of_ble_eq_true rfl) (fun p e s m args below meth c A H0 Q C hret => ?_)
  have f7 := C.1.2.2.2.2 (.fieldLink RX7 7 "HistogramStairsModel" "h" "[I") (by decide +kernel)
  have u7 : ∀ w ∈ wsX70, w ∈ wsX7_nearest := by decide +kernel
  refine hs_lvs (lv' := [(0, .ref y0), (1, hs_V i), (2, hs_V 1), (3, hs_V 0)]) [0, 1, 2, 3] rfl ?_
  refine hs_iload_n C dX7_nearest_0 rfl 1 rfl ?_
  refine hs_iload_n C dX7_nearest_1 rfl 2 rfl ?_
  refine hs_iadd C dX7_nearest_2 ?_
  refine hs_istore (lv' := [(0, .ref y0), (1, hs_V i), (2, hs_V 1), (3, hs_V 0), (4, hs_V (i + 1))]) C dX7_nearest_3 (by decide) [1, 2, 3, 4, 0] rfl ?_
  have Lp1 : ∀ (k : Nat) (j : Int), (i < j ∧ j ≤ h 40) → (hs_fu1 (fun j => h j > h i) j (h 40) = pu_gr h (h 40) i) → (h 40 - j < (k : Int)) → hs_J p l e ({ frames := 2, cells := 0, slots := 0, locals := 43 } : Room) s m args below meth c D A H0 5 0 0 Q 5 [(0, .ref y0), (1, hs_V i), (2, hs_V 1), (3, hs_V 0), (4, hs_V j)] [] [hs_ob y0 7 [.ref y1, .ref y2, hs_V pm, .ref y3, hs_V fl, .ref y4, .ref y5, .ref y6, .ref y7, hs_V pt, .ref y8, .ref y9], hs_ia cI y1 41 h] := by
    intro k
    induction k with
    | zero =>
      intro j hj hL hk
      exact absurd hk (by omega)
    | succ k ih =>
      intro j hj hL hk
      have ih2 := ih
      refine hs_aload_n C dX7_nearest_5 rfl 0 rfl ?_
      refine hs_iload C dX7_nearest_6 4 rfl ?_
      refine hs_callVi (win := [hs_ob y0 7 [.ref y1, .ref y2, hs_V pm, .ref y3, hs_V fl, .ref y4, .ref y5, .ref y6, .ref y7, hs_V pt, .ref y8, .ref y9], hs_ia cI y1 41 h]) (wr := []) (As := [hs_V j]) (rest := []) C (c_X7_isColumn l D cI cO y0 y1 y2 y3 y4 y5 y6 y7 y8 y9 pm fl pt h j (by omega) (by omega)) 7 0 rfl rfl rfl (cwV 1 C.1.2.2.2.2 gX7_nearest_X7_isColumn rfl rfl rfl (by decide +kernel) ⟨Nat.le_of_ble_eq_true rfl, Nat.le_of_ble_eq_true rfl⟩) rfl rfl (Nat.le_of_ble_eq_true rfl) dX7_nearest_8 ⟨Nat.le_of_ble_eq_true rfl, Nat.le_of_ble_eq_true rfl⟩ (fun rr uu3 hp => ?_)
      obtain rfl := hp
      refine hs_re0 (w' := [hs_ob y0 7 [.ref y1, .ref y2, hs_V pm, .ref y3, hs_V fl, .ref y4, .ref y5, .ref y6, .ref y7, hs_V pt, .ref y8, .ref y9], hs_ia cI y1 41 h]) [0, 1] rfl (by decide) ?_
      refine hs_ifeq_b (tgt := 62) C dX7_nearest_11 (by decide) (fun c4 => ?_) (fun c4 => ?_)
      ·
        refine hs_aload_n C dX7_nearest_62 rfl 0 rfl ?_
        refine hs_iload C dX7_nearest_63 4 rfl ?_
        refine hs_callVi (win := [hs_ob y0 7 [.ref y1, .ref y2, hs_V pm, .ref y3, hs_V fl, .ref y4, .ref y5, .ref y6, .ref y7, hs_V pt, .ref y8, .ref y9], hs_ia cI y1 41 h]) (wr := []) (As := [hs_V j]) (rest := []) C (c_X7_isColumn l D cI cO y0 y1 y2 y3 y4 y5 y6 y7 y8 y9 pm fl pt h j (by omega) (by omega)) 7 0 rfl rfl rfl (cwV 1 C.1.2.2.2.2 gX7_nearest_X7_isColumn rfl rfl rfl (by decide +kernel) ⟨Nat.le_of_ble_eq_true rfl, Nat.le_of_ble_eq_true rfl⟩) rfl rfl (Nat.le_of_ble_eq_true rfl) dX7_nearest_65 ⟨Nat.le_of_ble_eq_true rfl, Nat.le_of_ble_eq_true rfl⟩ (fun rr uu5 hp => ?_)
        obtain rfl := hp
        refine hs_re0 (w' := [hs_ob y0 7 [.ref y1, .ref y2, hs_V pm, .ref y3, hs_V fl, .ref y4, .ref y5, .ref y6, .ref y7, hs_V pt, .ref y8, .ref y9], hs_ia cI y1 41 h]) [0, 1] rfl (by decide) ?_
        refine hs_ifeq_b (tgt := 76) C dX7_nearest_68 (by decide) (fun c6 => ?_) (fun c6 => ?_)
        ·
          refine hs_bipush C dX7_nearest_76 (by decide) ?_
          exact hret _ _ _ () (by first | (exfalso; omega) | rw [← hL, hs_fu1_done (by omega)] | rw [← hL, hs_fu1_step (by omega), if_pos (by omega)]) dX7_nearest_78 rfl
        ·
          refine hs_iload C dX7_nearest_71 4 rfl ?_
          refine hs_goto (tgt := 78) C dX7_nearest_73 (by decide) ?_
          exact hret _ _ _ () (by first | (exfalso; omega) | rw [← hL, hs_fu1_done (by omega)] | rw [← hL, hs_fu1_step (by omega), if_pos (by omega)]) dX7_nearest_78 rfl
      ·
        refine hs_iload_n C dX7_nearest_14 rfl 3 rfl ?_
        refine hs_if_eq (tgt := 37) C dX7_nearest_15 (by decide) (by omega) (fun c7 => ?_) (fun c7 => ?_)
        ·
          refine hs_aload_n C dX7_nearest_37 rfl 0 rfl ?_
          refine hs_get C u7 0 rfl rfl 0 (by decide) f7 rfl rfl dX7_nearest_38 ?_
          refine hs_iload C dX7_nearest_41 4 rfl ?_
          refine hs_iald C 1 rfl (by omega) dX7_nearest_43 ?_
          have b8 := hh j
          refine hs_aload_n C dX7_nearest_44 rfl 0 rfl ?_
          refine hs_get C u7 0 rfl rfl 0 (by decide) f7 rfl rfl dX7_nearest_45 ?_
          refine hs_iload_n C dX7_nearest_48 rfl 1 rfl ?_
          refine hs_iald C 1 rfl (by omega) dX7_nearest_49 ?_
          have b9 := hh i
          refine hs_icmp_gt (tgt := 62) C dX7_nearest_50 (by decide) (by omega) (by omega) (fun c10 => ?_) (fun c10 => ?_)
          ·
            refine hs_aload_n C dX7_nearest_62 rfl 0 rfl ?_
            refine hs_iload C dX7_nearest_63 4 rfl ?_
            refine hs_callVi (win := [hs_ob y0 7 [.ref y1, .ref y2, hs_V pm, .ref y3, hs_V fl, .ref y4, .ref y5, .ref y6, .ref y7, hs_V pt, .ref y8, .ref y9], hs_ia cI y1 41 h]) (wr := []) (As := [hs_V j]) (rest := []) C (c_X7_isColumn l D cI cO y0 y1 y2 y3 y4 y5 y6 y7 y8 y9 pm fl pt h j (by omega) (by omega)) 7 0 rfl rfl rfl (cwV 1 C.1.2.2.2.2 gX7_nearest_X7_isColumn rfl rfl rfl (by decide +kernel) ⟨Nat.le_of_ble_eq_true rfl, Nat.le_of_ble_eq_true rfl⟩) rfl rfl (Nat.le_of_ble_eq_true rfl) dX7_nearest_65 ⟨Nat.le_of_ble_eq_true rfl, Nat.le_of_ble_eq_true rfl⟩ (fun rr uu11 hp => ?_)
            obtain rfl := hp
            refine hs_re0 (w' := [hs_ob y0 7 [.ref y1, .ref y2, hs_V pm, .ref y3, hs_V fl, .ref y4, .ref y5, .ref y6, .ref y7, hs_V pt, .ref y8, .ref y9], hs_ia cI y1 41 h]) [0, 1] rfl (by decide) ?_
            refine hs_ifeq_b (tgt := 76) C dX7_nearest_68 (by decide) (fun c12 => ?_) (fun c12 => ?_)
            ·
              refine hs_bipush C dX7_nearest_76 (by decide) ?_
              exact hret _ _ _ () (by first | (exfalso; omega) | rw [← hL, hs_fu1_done (by omega)] | rw [← hL, hs_fu1_step (by omega), if_pos (by omega)]) dX7_nearest_78 rfl
            ·
              refine hs_iload C dX7_nearest_71 4 rfl ?_
              refine hs_goto (tgt := 78) C dX7_nearest_73 (by decide) ?_
              exact hret _ _ _ () (by first | (exfalso; omega) | rw [← hL, hs_fu1_done (by omega)] | rw [← hL, hs_fu1_step (by omega), if_pos (by omega)]) dX7_nearest_78 rfl
          ·
            refine hs_iload C dX7_nearest_53 4 rfl ?_
            refine hs_iload_n C dX7_nearest_55 rfl 2 rfl ?_
            refine hs_iadd C dX7_nearest_56 ?_
            refine hs_istore (lv' := [(0, .ref y0), (1, hs_V i), (2, hs_V 1), (3, hs_V 0), (4, hs_V (j + 1))]) C dX7_nearest_57 (by decide) [1, 2, 3, 4, 0] rfl ?_
            refine hs_goto (tgt := 5) C dX7_nearest_59 (by decide) ?_
            exact ih2 (j + 1) (by omega) (by have hz := (hs_fu1_step (by omega)).symm.trans hL; (try dsimp only at hz); first | exact hz | (split at hz <;> first | exact hz | (exfalso; omega) | (split at hz <;> first | exact hz | (exfalso; omega) | (split at hz <;> first | exact hz | (exfalso; omega))))) (by omega)
        ·
          exact absurd c7 (by decide)
  exact Lp1 ((h 40 - (i + 1) : Int).toNat + 1) (i + 1) (by omega) (by unfold pu_gr; rfl) (by omega)

set_option maxHeartbeats 4000000 in
set_option maxRecDepth 100000 in
theorem c_X7_reach (l : Launch) (D : va_G) (cI cO : ClassId) (y0 : Nat) (y1 : Nat) (y2 : Nat) (y3 : Nat) (y4 : Nat) (y5 : Nat) (y6 : Nat) (y7 : Nat) (y8 : Nat) (y9 : Nat) (pm : Int) (fl : Int) (pt : Int) (h : Int → Int) (i : Int) (hh : ∀ k, 0 ≤ h k ∧ h k ≤ 50) (hN : 0 ≤ h 40 ∧ h 40 ≤ 40) (hi : 0 ≤ i ∧ i ≤ h 40 - 1) : hs_M l D cI cO yX7_reach wsX7_reach ({ frames := 1, cells := 0, slots := 0, locals := 20 } : Room) [.ref y0, hs_V i] [hs_ob y0 7 [.ref y1, .ref y2, hs_V pm, .ref y3, hs_V fl, .ref y4, .ref y5, .ref y6, .ref y7, hs_V pt, .ref y8, .ref y9], hs_ia cI y1 41 h] (fun r (_ : Unit) => r = hs_I (mo_r2 h i - mo_r1 h i + 1)) (fun _ => [hs_ob y0 7 [.ref y1, .ref y2, hs_V pm, .ref y3, hs_V fl, .ref y4, .ref y5, .ref y6, .ref y7, hs_V pt, .ref y8, .ref y9], hs_ia cI y1 41 h]) 0 0 := by
  refine hs_enter (cc := cX7_reach) (maxL := 4) (by decide +kernel) rfl (Nat.le_of_ble_eq_true rfl) (fun p e s m args below meth c A H0 Q C hret => ?_)
  have f7 := C.1.2.2.2.2 (.fieldLink RX7 7 "HistogramStairsModel" "h" "[I") (by decide +kernel)
  have u7 : ∀ w ∈ wsX70, w ∈ wsX7_reach := by decide +kernel
  refine hs_lvs (lv' := [(0, .ref y0), (1, hs_V i)]) [0, 1] rfl ?_
  refine hs_iload_n C dX7_reach_0 rfl 1 rfl ?_
  refine hs_istore_n (lv' := [(0, .ref y0), (1, hs_V i), (2, hs_V i)]) C dX7_reach_1 rfl (by decide) [1, 2, 0] rfl ?_
  refine hs_iload_n C dX7_reach_2 rfl 1 rfl ?_
  refine hs_istore_n (lv' := [(0, .ref y0), (1, hs_V i), (2, hs_V i), (3, hs_V i)]) C dX7_reach_3 rfl (by decide) [1, 2, 3, 0] rfl ?_
  have Lp1 : ∀ (k : Nat) (x : Int), (0 ≤ x ∧ x ≤ i) → (hs_wh (mo_r1P h i) (fun x => x + (-1)) k x = mo_r1 h i) → (x < (k : Int)) → hs_J p l e ({ frames := 1, cells := 0, slots := 0, locals := 20 } : Room) s m args below meth c D A H0 4 0 0 Q 4 [(0, .ref y0), (1, hs_V i), (2, hs_V x), (3, hs_V i)] [] [hs_ob y0 7 [.ref y1, .ref y2, hs_V pm, .ref y3, hs_V fl, .ref y4, .ref y5, .ref y6, .ref y7, hs_V pt, .ref y8, .ref y9], hs_ia cI y1 41 h] := by
    intro k
    induction k with
    | zero =>
      intro x hx hM hk
      exact absurd hk (by omega)
    | succ k ih =>
      intro x hx hM hk
      have ih2 := ih
      refine hs_iload_n C dX7_reach_4 rfl 2 rfl ?_
      refine hs_if_le (tgt := 31) C dX7_reach_5 (by decide) (by omega) (fun c3 => ?_) (fun c3 => ?_)
      ·
        have Lp4 : ∀ (k : Nat) (y : Int), (i ≤ y ∧ y ≤ h 40 - 1) → (hs_wh (mo_r2P h i) (fun x => x + 1) k y = mo_r2 h i) → (h 40 - y < (k : Int)) → hs_J p l e ({ frames := 1, cells := 0, slots := 0, locals := 20 } : Room) s m args below meth c D A H0 4 0 0 Q 31 [(0, .ref y0), (1, hs_V i), (2, hs_V x), (3, hs_V y)] [] [hs_ob y0 7 [.ref y1, .ref y2, hs_V pm, .ref y3, hs_V fl, .ref y4, .ref y5, .ref y6, .ref y7, hs_V pt, .ref y8, .ref y9], hs_ia cI y1 41 h] := by
          intro k
          induction k with
          | zero =>
            intro y hy hM2 hk
            exact absurd hk (by omega)
          | succ k ih =>
            intro y hy hM2 hk
            have ih5 := ih
            have hr1 : mo_r1 h i = x := by rw [← hM, hs_wh_done (show ¬ mo_r1P h i x by unfold mo_r1P; omega)]
            refine hs_iload_n C dX7_reach_31 rfl 3 rfl ?_
            refine hs_aload_n C dX7_reach_32 rfl 0 rfl ?_
            refine hs_callVi (win := [hs_ob y0 7 [.ref y1, .ref y2, hs_V pm, .ref y3, hs_V fl, .ref y4, .ref y5, .ref y6, .ref y7, hs_V pt, .ref y8, .ref y9], hs_ia cI y1 41 h]) (wr := []) (As := []) (rest := [hs_V y]) C (c_X7_many l D cI cO y0 y1 y2 y3 y4 y5 y6 y7 y8 y9 pm fl pt h ) 7 0 rfl rfl rfl (cwV 0 C.1.2.2.2.2 gX7_reach_X7_many rfl rfl rfl (by decide +kernel) ⟨Nat.le_of_ble_eq_true rfl, Nat.le_of_ble_eq_true rfl⟩) rfl rfl (Nat.le_of_ble_eq_true rfl) dX7_reach_33 ⟨Nat.le_of_ble_eq_true rfl, Nat.le_of_ble_eq_true rfl⟩ (fun rr uu6 hp => ?_)
            obtain rfl := hp
            refine hs_re0 (w' := [hs_ob y0 7 [.ref y1, .ref y2, hs_V pm, .ref y3, hs_V fl, .ref y4, .ref y5, .ref y6, .ref y7, hs_V pt, .ref y8, .ref y9], hs_ia cI y1 41 h]) [0, 1] rfl (by decide) ?_
            refine hs_iconst C dX7_reach_36 ?_
            refine hs_isub C dX7_reach_37 ?_
            refine hs_icmp_ge (tgt := 64) C dX7_reach_38 (by decide) (by omega) (by omega) (fun c7 => ?_) (fun c7 => ?_)
            ·
              refine hs_iload_n C dX7_reach_64 rfl 3 rfl ?_
              refine hs_iload_n C dX7_reach_65 rfl 2 rfl ?_
              refine hs_isub C dX7_reach_66 ?_
              refine hs_iconst C dX7_reach_67 ?_
              refine hs_iadd C dX7_reach_68 ?_
              exact hret _ _ _ () (by rw [hr1, ← hM2, hs_wh_done (show ¬ mo_r2P h i y by unfold mo_r2P; omega)]) dX7_reach_69 rfl
            ·
              refine hs_aload_n C dX7_reach_41 rfl 0 rfl ?_
              refine hs_get C u7 0 rfl rfl 0 (by decide) f7 rfl rfl dX7_reach_42 ?_
              refine hs_iload_n C dX7_reach_45 rfl 3 rfl ?_
              refine hs_iconst C dX7_reach_46 ?_
              refine hs_iadd C dX7_reach_47 ?_
              refine hs_iald C 1 rfl (by omega) dX7_reach_48 ?_
              have b8 := hh (y + 1)
              refine hs_aload_n C dX7_reach_49 rfl 0 rfl ?_
              refine hs_get C u7 0 rfl rfl 0 (by decide) f7 rfl rfl dX7_reach_50 ?_
              refine hs_iload_n C dX7_reach_53 rfl 1 rfl ?_
              refine hs_iald C 1 rfl (by omega) dX7_reach_54 ?_
              have b9 := hh i
              refine hs_icmp_lt (tgt := 64) C dX7_reach_55 (by decide) (by omega) (by omega) (fun c10 => ?_) (fun c10 => ?_)
              ·
                refine hs_iload_n C dX7_reach_64 rfl 3 rfl ?_
                refine hs_iload_n C dX7_reach_65 rfl 2 rfl ?_
                refine hs_isub C dX7_reach_66 ?_
                refine hs_iconst C dX7_reach_67 ?_
                refine hs_iadd C dX7_reach_68 ?_
                exact hret _ _ _ () (by rw [hr1, ← hM2, hs_wh_done (show ¬ mo_r2P h i y by unfold mo_r2P; omega)]) dX7_reach_69 rfl
              ·
                refine hs_iinc (lv' := [(0, .ref y0), (1, hs_V i), (2, hs_V x), (3, hs_V (y + 1))]) C dX7_reach_58 3 rfl (by decide) [1, 2, 3, 0] rfl ?_
                refine hs_goto (tgt := 31) C dX7_reach_61 (by decide) ?_
                exact ih5 (y + 1) (by omega) ((hs_wh_step (P := mo_r2P h i) (f := fun x => x + 1) (n := k) (x := y) ⟨by omega, by omega⟩).symm.trans hM2) (by omega)
        exact Lp4 ((h 40 - i : Int).toNat + 1) i (by omega) (rfl) (by omega)
      ·
        refine hs_aload_n C dX7_reach_8 rfl 0 rfl ?_
        refine hs_get C u7 0 rfl rfl 0 (by decide) f7 rfl rfl dX7_reach_9 ?_
        refine hs_iload_n C dX7_reach_12 rfl 2 rfl ?_
        refine hs_iconst C dX7_reach_13 ?_
        refine hs_isub C dX7_reach_14 ?_
        refine hs_iald C 1 rfl (by omega) dX7_reach_15 ?_
        have b11 := hh (x - 1)
        refine hs_aload_n C dX7_reach_16 rfl 0 rfl ?_
        refine hs_get C u7 0 rfl rfl 0 (by decide) f7 rfl rfl dX7_reach_17 ?_
        refine hs_iload_n C dX7_reach_20 rfl 1 rfl ?_
        refine hs_iald C 1 rfl (by omega) dX7_reach_21 ?_
        have b12 := hh i
        refine hs_icmp_lt (tgt := 31) C dX7_reach_22 (by decide) (by omega) (by omega) (fun c13 => ?_) (fun c13 => ?_)
        ·
          have Lp14 : ∀ (k : Nat) (y : Int), (i ≤ y ∧ y ≤ h 40 - 1) → (hs_wh (mo_r2P h i) (fun x => x + 1) k y = mo_r2 h i) → (h 40 - y < (k : Int)) → hs_J p l e ({ frames := 1, cells := 0, slots := 0, locals := 20 } : Room) s m args below meth c D A H0 4 0 0 Q 31 [(0, .ref y0), (1, hs_V i), (2, hs_V x), (3, hs_V y)] [] [hs_ob y0 7 [.ref y1, .ref y2, hs_V pm, .ref y3, hs_V fl, .ref y4, .ref y5, .ref y6, .ref y7, hs_V pt, .ref y8, .ref y9], hs_ia cI y1 41 h] := by
            intro k
            induction k with
            | zero =>
              intro y hy hM2 hk
              exact absurd hk (by omega)
            | succ k ih =>
              intro y hy hM2 hk
              have ih15 := ih
              have hr1 : mo_r1 h i = x := by rw [← hM, hs_wh_done (show ¬ mo_r1P h i x by unfold mo_r1P; omega)]
              refine hs_iload_n C dX7_reach_31 rfl 3 rfl ?_
              refine hs_aload_n C dX7_reach_32 rfl 0 rfl ?_
              refine hs_callVi (win := [hs_ob y0 7 [.ref y1, .ref y2, hs_V pm, .ref y3, hs_V fl, .ref y4, .ref y5, .ref y6, .ref y7, hs_V pt, .ref y8, .ref y9], hs_ia cI y1 41 h]) (wr := []) (As := []) (rest := [hs_V y]) C (c_X7_many l D cI cO y0 y1 y2 y3 y4 y5 y6 y7 y8 y9 pm fl pt h ) 7 0 rfl rfl rfl (cwV 0 C.1.2.2.2.2 gX7_reach_X7_many rfl rfl rfl (by decide +kernel) ⟨Nat.le_of_ble_eq_true rfl, Nat.le_of_ble_eq_true rfl⟩) rfl rfl (Nat.le_of_ble_eq_true rfl) dX7_reach_33 ⟨Nat.le_of_ble_eq_true rfl, Nat.le_of_ble_eq_true rfl⟩ (fun rr uu16 hp => ?_)
              obtain rfl := hp
              refine hs_re0 (w' := [hs_ob y0 7 [.ref y1, .ref y2, hs_V pm, .ref y3, hs_V fl, .ref y4, .ref y5, .ref y6, .ref y7, hs_V pt, .ref y8, .ref y9], hs_ia cI y1 41 h]) [0, 1] rfl (by decide) ?_
              refine hs_iconst C dX7_reach_36 ?_
              refine hs_isub C dX7_reach_37 ?_
              refine hs_icmp_ge (tgt := 64) C dX7_reach_38 (by decide) (by omega) (by omega) (fun c17 => ?_) (fun c17 => ?_)
              ·
                refine hs_iload_n C dX7_reach_64 rfl 3 rfl ?_
                refine hs_iload_n C dX7_reach_65 rfl 2 rfl ?_
                refine hs_isub C dX7_reach_66 ?_
                refine hs_iconst C dX7_reach_67 ?_
                refine hs_iadd C dX7_reach_68 ?_
                exact hret _ _ _ () (by rw [hr1, ← hM2, hs_wh_done (show ¬ mo_r2P h i y by unfold mo_r2P; omega)]) dX7_reach_69 rfl
              ·
                refine hs_aload_n C dX7_reach_41 rfl 0 rfl ?_
                refine hs_get C u7 0 rfl rfl 0 (by decide) f7 rfl rfl dX7_reach_42 ?_
                refine hs_iload_n C dX7_reach_45 rfl 3 rfl ?_
                refine hs_iconst C dX7_reach_46 ?_
                refine hs_iadd C dX7_reach_47 ?_
                refine hs_iald C 1 rfl (by omega) dX7_reach_48 ?_
                have b18 := hh (y + 1)
                refine hs_aload_n C dX7_reach_49 rfl 0 rfl ?_
                refine hs_get C u7 0 rfl rfl 0 (by decide) f7 rfl rfl dX7_reach_50 ?_
                refine hs_iload_n C dX7_reach_53 rfl 1 rfl ?_
                refine hs_iald C 1 rfl (by omega) dX7_reach_54 ?_
                have b19 := hh i
                refine hs_icmp_lt (tgt := 64) C dX7_reach_55 (by decide) (by omega) (by omega) (fun c20 => ?_) (fun c20 => ?_)
                ·
                  refine hs_iload_n C dX7_reach_64 rfl 3 rfl ?_
                  refine hs_iload_n C dX7_reach_65 rfl 2 rfl ?_
                  refine hs_isub C dX7_reach_66 ?_
                  refine hs_iconst C dX7_reach_67 ?_
                  refine hs_iadd C dX7_reach_68 ?_
                  exact hret _ _ _ () (by rw [hr1, ← hM2, hs_wh_done (show ¬ mo_r2P h i y by unfold mo_r2P; omega)]) dX7_reach_69 rfl
                ·
                  refine hs_iinc (lv' := [(0, .ref y0), (1, hs_V i), (2, hs_V x), (3, hs_V (y + 1))]) C dX7_reach_58 3 rfl (by decide) [1, 2, 3, 0] rfl ?_
                  refine hs_goto (tgt := 31) C dX7_reach_61 (by decide) ?_
                  exact ih15 (y + 1) (by omega) ((hs_wh_step (P := mo_r2P h i) (f := fun x => x + 1) (n := k) (x := y) ⟨by omega, by omega⟩).symm.trans hM2) (by omega)
          exact Lp14 ((h 40 - i : Int).toNat + 1) i (by omega) (rfl) (by omega)
        ·
          refine hs_iinc (lv' := [(0, .ref y0), (1, hs_V i), (2, hs_V (x + (-1))), (3, hs_V i)]) C dX7_reach_25 2 rfl (by decide) [1, 2, 0, 3] rfl ?_
          refine hs_goto (tgt := 4) C dX7_reach_28 (by decide) ?_
          exact ih2 (x + (-1)) (by omega) ((hs_wh_step (P := mo_r1P h i) (f := fun x => x + (-1)) (n := k) (x := x) ⟨by omega, by omega⟩).symm.trans hM) (by omega)
  exact Lp1 ((i : Int).toNat + 1) i (by omega) (rfl) (by omega)

set_option maxHeartbeats 4000000 in
set_option maxRecDepth 100000 in
theorem c_X7_stairLength (l : Launch) (D : va_G) (cI cO : ClassId) (y0 : Nat) (y1 : Nat) (y2 : Nat) (y3 : Nat) (y4 : Nat) (y5 : Nat) (y6 : Nat) (y7 : Nat) (y8 : Nat) (y9 : Nat) (pm : Int) (fl : Int) (pt : Int) (h : Int → Int) (i : Int) (hh : ∀ k, 0 ≤ h k ∧ h k ≤ 50) (hN : 0 ≤ h 40 ∧ h 40 ≤ 40) (hi : 0 ≤ i ∧ i ≤ h 40 - 1) : hs_M l D cI cO yX7_stairLength wsX7_stairLength ({ frames := 3, cells := 0, slots := 0, locals := 67 } : Room) [.ref y0, hs_V i] [hs_ob y0 7 [.ref y1, .ref y2, hs_V pm, .ref y3, hs_V fl, .ref y4, .ref y5, .ref y6, .ref y7, hs_V pt, .ref y8, .ref y9], hs_ia cI y1 41 h] (fun r (_ : Unit) => r = hs_I (mo_stl h i).2) (fun _ => [hs_ob y0 7 [.ref y1, .ref y2, hs_V pm, .ref y3, hs_V fl, .ref y4, .ref y5, .ref y6, .ref y7, hs_V pt, .ref y8, .ref y9], hs_ia cI y1 41 h]) 0 0 := by
  refine hs_enter (cc := cX7_stairLength) (maxL := 4) (by decide +kernel) rfl (Nat.le_of_ble_eq_true rfl) (fun p e s m args below meth c A H0 Q C hret => ?_)
  refine hs_lvs (lv' := [(0, .ref y0), (1, hs_V i)]) [0, 1] rfl ?_
  refine hs_iconst C dX7_stairLength_0 ?_
  refine hs_istore_n (lv' := [(0, .ref y0), (1, hs_V i), (2, hs_V 0)]) C dX7_stairLength_1 rfl (by decide) [1, 2, 0] rfl ?_
  refine hs_iload_n C dX7_stairLength_2 rfl 1 rfl ?_
  refine hs_istore_n (lv' := [(0, .ref y0), (1, hs_V i), (2, hs_V 0), (3, hs_V i)]) C dX7_stairLength_3 rfl (by decide) [1, 2, 3, 0] rfl ?_
  have Lp1 : ∀ (k : Nat) (q : Int) (x : Int), (q = -9 ∨ (0 ≤ q ∧ q ≤ i)) → (hs_wh mo_slP (mo_slF h) k (q, x) = mo_stl h i) → (q + 9 < (k : Int)) → hs_J p l e ({ frames := 3, cells := 0, slots := 0, locals := 67 } : Room) s m args below meth c D A H0 4 0 0 Q 4 [(0, .ref y0), (1, hs_V i), (2, hs_V x), (3, hs_V q)] [] [hs_ob y0 7 [.ref y1, .ref y2, hs_V pm, .ref y3, hs_V fl, .ref y4, .ref y5, .ref y6, .ref y7, hs_V pt, .ref y8, .ref y9], hs_ia cI y1 41 h] := by
    intro k
    induction k with
    | zero =>
      intro q x hq hM hk
      exact absurd hk (by omega)
    | succ k ih =>
      intro q x hq hM hk
      have ih2 := ih
      have hsl := pu_sl_rg h q
      refine hs_iload_n C dX7_stairLength_4 rfl 3 rfl ?_
      refine hs_bipush C dX7_stairLength_5 (by decide) ?_
      refine hs_icmp_eq (tgt := 24) C dX7_stairLength_7 (by decide) (by omega) (by omega) (fun c3 => ?_) (fun c3 => ?_)
      ·
        refine hs_iload_n C dX7_stairLength_24 rfl 2 rfl ?_
        exact hret _ _ _ () (by rw [← hM, hs_wh_done (show ¬ mo_slP (q, x) by unfold mo_slP; dsimp only; omega)]) dX7_stairLength_25 rfl
      ·
        refine hs_iinc (lv' := [(0, .ref y0), (1, hs_V i), (2, hs_V (x + 1)), (3, hs_V q)]) C dX7_stairLength_10 2 rfl (by decide) [1, 2, 0, 3] rfl ?_
        refine hs_aload_n C dX7_stairLength_13 rfl 0 rfl ?_
        refine hs_iload_n C dX7_stairLength_14 rfl 3 rfl ?_
        refine hs_iconst C dX7_stairLength_15 ?_
        refine hs_iconst C dX7_stairLength_16 ?_
        refine hs_callVi (win := [hs_ob y0 7 [.ref y1, .ref y2, hs_V pm, .ref y3, hs_V fl, .ref y4, .ref y5, .ref y6, .ref y7, hs_V pt, .ref y8, .ref y9], hs_ia cI y1 41 h]) (wr := []) (As := [hs_V q, hs_V (-1), hs_V 1]) (rest := []) C (c_X7_nearest_m1 l D cI cO y0 y1 y2 y3 y4 y5 y6 y7 y8 y9 pm fl pt h q hh (by omega) (by omega)) 7 0 rfl rfl rfl (cwV 3 C.1.2.2.2.2 gX7_stairLength_X7_nearest rfl rfl rfl (by decide +kernel) ⟨Nat.le_of_ble_eq_true rfl, Nat.le_of_ble_eq_true rfl⟩) rfl rfl (Nat.le_of_ble_eq_true rfl) dX7_stairLength_17 ⟨Nat.le_of_ble_eq_true rfl, Nat.le_of_ble_eq_true rfl⟩ (fun rr uu4 hp => ?_)
        obtain rfl := hp
        refine hs_re0 (w' := [hs_ob y0 7 [.ref y1, .ref y2, hs_V pm, .ref y3, hs_V fl, .ref y4, .ref y5, .ref y6, .ref y7, hs_V pt, .ref y8, .ref y9], hs_ia cI y1 41 h]) [0, 1] rfl (by decide) ?_
        refine hs_istore_n (lv' := [(0, .ref y0), (1, hs_V i), (2, hs_V (x + 1)), (3, hs_V (pu_sl h q))]) C dX7_stairLength_20 rfl (by decide) [1, 2, 3, 0] rfl ?_
        refine hs_goto (tgt := 4) C dX7_stairLength_21 (by decide) ?_
        exact ih2 (pu_sl h q) (x + 1) (by omega) ((hs_wh_step (P := mo_slP) (f := mo_slF h) (n := k) (x := (q, x)) (by unfold mo_slP; dsimp only; omega)).symm.trans hM) (by omega)
  exact Lp1 ((i + 9 : Int).toNat + 1) i 0 (by omega) (rfl) (by omega)
