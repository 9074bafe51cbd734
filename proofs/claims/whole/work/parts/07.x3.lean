set_option maxHeartbeats 4000000 in
set_option maxRecDepth 100000 in
theorem c_X3_area (l : Launch) (D : va_G) (cI cO : ClassId) (r0 : Nat) (r1 : Nat) (r2 : Nat) (r3 : Nat) (r4 : Nat) (ct : Int) (F : Int → Int) (L : Int → Int) (T : Int → Int) (O : Int → Int) (q : Int) (hq : 0 ≤ q ∧ q < 40) : hs_M l D cI cO yX3_area wsX3_area ({ frames := 0, cells := 0, slots := 0, locals := 0 } : Room) [.ref r0, hs_V q] [hs_ob r0 3 [.ref r1, .ref r2, .ref r3, .ref r4, hs_V ct], hs_ia cI r1 40 F, hs_ia cI r2 40 L, hs_ia cI r3 40 T, hs_ia cI r4 40 O] (fun r (_ : Unit) => r = hs_I (T q * (L q - F q + 1))) (fun _ => [hs_ob r0 3 [.ref r1, .ref r2, .ref r3, .ref r4, hs_V ct], hs_ia cI r1 40 F, hs_ia cI r2 40 L, hs_ia cI r3 40 T, hs_ia cI r4 40 O]) 0 0 := by
  refine hs_enter (cc := cX3_area) (maxL := 2) (by decide +kernel) rfl (Nat.le_of_ble_eq_true rfl) (fun p e s m args below meth c A H0 Q C hret => ?_)
  have f18 := C.1.2.2.2.2 (.fieldLink RX3 18 "HistogramStairs$Rectangles" "tops" "[I") (by decide +kernel)
  have u3 : ∀ w ∈ wsX30, w ∈ wsX3_area := by decide +kernel
  have f15 := C.1.2.2.2.2 (.fieldLink RX3 15 "HistogramStairs$Rectangles" "lasts" "[I") (by decide +kernel)
  have f9 := C.1.2.2.2.2 (.fieldLink RX3 9 "HistogramStairs$Rectangles" "firsts" "[I") (by decide +kernel)
  refine hs_lvs (lv' := [(0, .ref r0), (1, hs_V q)]) [0, 1] rfl ?_
  refine hs_aload_n C dX3_area_0 rfl 0 rfl ?_
  refine hs_get C u3 0 rfl rfl 2 (by decide) f18 rfl rfl dX3_area_1 ?_
  refine hs_iload_n C dX3_area_4 rfl 1 rfl ?_
  refine hs_iald C 3 rfl (by omega) dX3_area_5 ?_
  refine hs_aload_n C dX3_area_6 rfl 0 rfl ?_
  refine hs_get C u3 0 rfl rfl 1 (by decide) f15 rfl rfl dX3_area_7 ?_
  refine hs_iload_n C dX3_area_10 rfl 1 rfl ?_
  refine hs_iald C 2 rfl (by omega) dX3_area_11 ?_
  refine hs_aload_n C dX3_area_12 rfl 0 rfl ?_
  refine hs_get C u3 0 rfl rfl 0 (by decide) f9 rfl rfl dX3_area_13 ?_
  refine hs_iload_n C dX3_area_16 rfl 1 rfl ?_
  refine hs_iald C 1 rfl (by omega) dX3_area_17 ?_
  refine hs_isub C dX3_area_18 ?_
  refine hs_iconst C dX3_area_19 ?_
  refine hs_iadd C dX3_area_20 ?_
  refine hs_imul C dX3_area_21 ?_
  exact hret _ _ _ () (by first | rfl | (rw [if_pos (by omega)]) | (rw [if_neg (by omega)])) dX3_area_22 rfl

set_option maxHeartbeats 4000000 in
set_option maxRecDepth 100000 in
theorem c_X3_property (l : Launch) (D : va_G) (cI cO : ClassId) (r0 : Nat) (r1 : Nat) (r2 : Nat) (r3 : Nat) (r4 : Nat) (ct : Int) (F : Int → Int) (L : Int → Int) (T : Int → Int) (O : Int → Int) (q : Int) (wh : Int) (hq : 0 ≤ q ∧ q < 40) (hw : 0 ≤ wh ∧ wh ≤ 3) : hs_M l D cI cO yX3_property wsX3_property ({ frames := 1, cells := 0, slots := 0, locals := 21 } : Room) [.ref r0, hs_V q, hs_V wh] [hs_ob r0 3 [.ref r1, .ref r2, .ref r3, .ref r4, hs_V ct], hs_ia cI r1 40 F, hs_ia cI r2 40 L, hs_ia cI r3 40 T, hs_ia cI r4 40 O] (fun r (_ : Unit) => r = hs_I (if wh = 0 then T q * (L q - F q + 1) else if wh = 1 then F q else if wh = 2 then L q else T q)) (fun _ => [hs_ob r0 3 [.ref r1, .ref r2, .ref r3, .ref r4, hs_V ct], hs_ia cI r1 40 F, hs_ia cI r2 40 L, hs_ia cI r3 40 T, hs_ia cI r4 40 O]) 0 0 := by
  refine hs_enter (cc := cX3_property) (maxL := 3) (by decide +kernel) rfl (Nat.le_of_ble_eq_true rfl) (fun p e s m args below meth c A H0 Q C hret => ?_)
  have f18 := C.1.2.2.2.2 (.fieldLink RX3 18 "HistogramStairs$Rectangles" "tops" "[I") (by decide +kernel)
  have u3 : ∀ w ∈ wsX30, w ∈ wsX3_property := by decide +kernel
  have f9 := C.1.2.2.2.2 (.fieldLink RX3 9 "HistogramStairs$Rectangles" "firsts" "[I") (by decide +kernel)
  have f15 := C.1.2.2.2.2 (.fieldLink RX3 15 "HistogramStairs$Rectangles" "lasts" "[I") (by decide +kernel)
  refine hs_lvs (lv' := [(0, .ref r0), (1, hs_V q), (2, hs_V wh)]) [0, 1, 2] rfl ?_
  refine hs_iload_n C dX3_property_0 rfl 2 rfl ?_
  rcases (show ((wh < 0 ∨ 2 < wh) ∨ wh = 0 ∨ wh = 1 ∨ wh = 2) by omega) with c1 | c1 | c1 | c1
  · refine hs_tableOut (tgt := 48) C dX3_property_1 (by omega) c1 (by decide) ?_
    refine hs_aload_n C dX3_property_48 rfl 0 rfl ?_
    refine hs_get C u3 0 rfl rfl 2 (by decide) f18 rfl rfl dX3_property_49 ?_
    refine hs_iload_n C dX3_property_52 rfl 1 rfl ?_
    refine hs_iald C 3 rfl (by omega) dX3_property_53 ?_
    exact hret _ _ _ () (by first | (rw [if_pos (by omega)]) | (rw [if_neg (by omega), if_pos (by omega)]) | (rw [if_neg (by omega), if_neg (by omega), if_pos (by omega)]) | (rw [if_neg (by omega), if_neg (by omega), if_neg (by omega)])) dX3_property_54 rfl
  · refine hs_tableIn (tgt := 28) (off := 27) C dX3_property_1 (by omega) (by omega) (by omega) (by rw [c1]; rfl) (by decide) ?_
    refine hs_aload_n C dX3_property_28 rfl 0 rfl ?_
    refine hs_iload_n C dX3_property_29 rfl 1 rfl ?_
    refine hs_callVi (win := [hs_ob r0 3 [.ref r1, .ref r2, .ref r3, .ref r4, hs_V ct], hs_ia cI r1 40 F, hs_ia cI r2 40 L, hs_ia cI r3 40 T, hs_ia cI r4 40 O]) (wr := []) (As := [hs_V q]) (rest := []) C (c_X3_area l D cI cO r0 r1 r2 r3 r4 ct F L T O q (by omega)) 3 0 rfl rfl rfl (cwV 1 C.1.2.2.2.2 gX3_property_X3_area rfl rfl rfl (by decide +kernel) ⟨Nat.le_of_ble_eq_true rfl, Nat.le_of_ble_eq_true rfl⟩) rfl rfl (Nat.le_of_ble_eq_true rfl) dX3_property_30 ⟨Nat.le_of_ble_eq_true rfl, Nat.le_of_ble_eq_true rfl⟩ (fun rr uu2 hp => ?_)
    obtain rfl := hp
    refine hs_re0 (w' := [hs_ob r0 3 [.ref r1, .ref r2, .ref r3, .ref r4, hs_V ct], hs_ia cI r1 40 F, hs_ia cI r2 40 L, hs_ia cI r3 40 T, hs_ia cI r4 40 O]) [0, 1, 2, 3, 4] rfl (by decide) ?_
    exact hret _ _ _ () (by first | (rw [if_pos (by omega)]) | (rw [if_neg (by omega), if_pos (by omega)]) | (rw [if_neg (by omega), if_neg (by omega), if_pos (by omega)]) | (rw [if_neg (by omega), if_neg (by omega), if_neg (by omega)])) dX3_property_33 rfl
  · refine hs_tableIn (tgt := 34) (off := 33) C dX3_property_1 (by omega) (by omega) (by omega) (by rw [c1]; rfl) (by decide) ?_
    refine hs_aload_n C dX3_property_34 rfl 0 rfl ?_
    refine hs_get C u3 0 rfl rfl 0 (by decide) f9 rfl rfl dX3_property_35 ?_
    refine hs_iload_n C dX3_property_38 rfl 1 rfl ?_
    refine hs_iald C 1 rfl (by omega) dX3_property_39 ?_
    exact hret _ _ _ () (by first | (rw [if_pos (by omega)]) | (rw [if_neg (by omega), if_pos (by omega)]) | (rw [if_neg (by omega), if_neg (by omega), if_pos (by omega)]) | (rw [if_neg (by omega), if_neg (by omega), if_neg (by omega)])) dX3_property_40 rfl
  · refine hs_tableIn (tgt := 41) (off := 40) C dX3_property_1 (by omega) (by omega) (by omega) (by rw [c1]; rfl) (by decide) ?_
    refine hs_aload_n C dX3_property_41 rfl 0 rfl ?_
    refine hs_get C u3 0 rfl rfl 1 (by decide) f15 rfl rfl dX3_property_42 ?_
    refine hs_iload_n C dX3_property_45 rfl 1 rfl ?_
    refine hs_iald C 2 rfl (by omega) dX3_property_46 ?_
    exact hret _ _ _ () (by first | (rw [if_pos (by omega)]) | (rw [if_neg (by omega), if_pos (by omega)]) | (rw [if_neg (by omega), if_neg (by omega), if_pos (by omega)]) | (rw [if_neg (by omega), if_neg (by omega), if_neg (by omega)])) dX3_property_47 rfl

set_option maxHeartbeats 4000000 in
set_option maxRecDepth 100000 in
theorem c_X3_comesBefore (l : Launch) (D : va_G) (cI cO : ClassId) (r0 : Nat) (r1 : Nat) (r2 : Nat) (r3 : Nat) (r4 : Nat) (ct : Int) (F : Int → Int) (L : Int → Int) (T : Int → Int) (O : Int → Int) (f1 : Int) (l1 : Int) (t1 : Int) (q : Int) (hF : ∀ k, 0 ≤ F k ∧ F k ≤ 39) (hLb : ∀ k, 0 ≤ L k ∧ L k ≤ 39) (hT : ∀ k, 0 ≤ T k ∧ T k ≤ 50) (hO : ∀ k, 0 ≤ O k ∧ O k ≤ 39) (hf1 : 0 ≤ f1 ∧ f1 ≤ 39) (hl1 : 0 ≤ l1 ∧ l1 ≤ 39) (ht1 : 0 ≤ t1 ∧ t1 ≤ 50) (hq : 0 ≤ q ∧ q < 40) : hs_M l D cI cO yX3_comesBefore wsX3_comesBefore ({ frames := 1, cells := 0, slots := 0, locals := 21 } : Room) [.ref r0, hs_V f1, hs_V l1, hs_V t1, hs_V q] [hs_ob r0 3 [.ref r1, .ref r2, .ref r3, .ref r4, hs_V ct], hs_ia cI r1 40 F, hs_ia cI r2 40 L, hs_ia cI r3 40 T, hs_ia cI r4 40 O] (fun r (_ : Unit) => r = hs_I (if pu_cb f1 l1 t1 (F q) (L q) (T q) then 1 else 0)) (fun _ => [hs_ob r0 3 [.ref r1, .ref r2, .ref r3, .ref r4, hs_V ct], hs_ia cI r1 40 F, hs_ia cI r2 40 L, hs_ia cI r3 40 T, hs_ia cI r4 40 O]) 0 0 := by
  refine hs_enter (cc := cX3_comesBefore) (maxL := 6) (by decide +kernel) rfl (Nat.le_of_ble_eq_true rfl) (fun p e s m args below meth c A H0 Q C hret => ?_)
  have f9 := C.1.2.2.2.2 (.fieldLink RX3 9 "HistogramStairs$Rectangles" "firsts" "[I") (by decide +kernel)
  have u3 : ∀ w ∈ wsX30, w ∈ wsX3_comesBefore := by decide +kernel
  have f15 := C.1.2.2.2.2 (.fieldLink RX3 15 "HistogramStairs$Rectangles" "lasts" "[I") (by decide +kernel)
  have hFq := hF q
  have hLq := hLb q
  have hTq := hT q
  have hm1 := pu_mulb (x := t1) (y := l1 - f1 + 1) (by omega) (by omega)
  have hm2 := pu_mulb (x := T q) (y := L q - F q + 1) (by omega) (by omega)
  refine hs_lvs (lv' := [(0, .ref r0), (1, hs_V f1), (2, hs_V l1), (3, hs_V t1), (4, hs_V q)]) [0, 1, 2, 3, 4] rfl ?_
  refine hs_iload_n C dX3_comesBefore_0 rfl 3 rfl ?_
  refine hs_iload_n C dX3_comesBefore_1 rfl 2 rfl ?_
  refine hs_iload_n C dX3_comesBefore_2 rfl 1 rfl ?_
  refine hs_isub C dX3_comesBefore_3 ?_
  refine hs_iconst C dX3_comesBefore_4 ?_
  refine hs_iadd C dX3_comesBefore_5 ?_
  refine hs_imul C dX3_comesBefore_6 ?_
  refine hs_istore (lv' := [(0, .ref r0), (1, hs_V f1), (2, hs_V l1), (3, hs_V t1), (4, hs_V q), (5, hs_V (t1 * ((l1 - f1) + 1)))]) C dX3_comesBefore_7 (by decide) [1, 2, 3, 4, 5, 0] rfl ?_
  refine hs_iload C dX3_comesBefore_9 5 rfl ?_
  refine hs_aload_n C dX3_comesBefore_11 rfl 0 rfl ?_
  refine hs_iload C dX3_comesBefore_12 4 rfl ?_
  refine hs_callVi (win := [hs_ob r0 3 [.ref r1, .ref r2, .ref r3, .ref r4, hs_V ct], hs_ia cI r1 40 F, hs_ia cI r2 40 L, hs_ia cI r3 40 T, hs_ia cI r4 40 O]) (wr := []) (As := [hs_V q]) (rest := [hs_V (t1 * ((l1 - f1) + 1))]) C (c_X3_area l D cI cO r0 r1 r2 r3 r4 ct F L T O q (by omega)) 3 0 rfl rfl rfl (cwV 1 C.1.2.2.2.2 gX3_comesBefore_X3_area rfl rfl rfl (by decide +kernel) ⟨Nat.le_of_ble_eq_true rfl, Nat.le_of_ble_eq_true rfl⟩) rfl rfl (Nat.le_of_ble_eq_true rfl) dX3_comesBefore_14 ⟨Nat.le_of_ble_eq_true rfl, Nat.le_of_ble_eq_true rfl⟩ (fun rr uu1 hp => ?_)
  obtain rfl := hp
  refine hs_re0 (w' := [hs_ob r0 3 [.ref r1, .ref r2, .ref r3, .ref r4, hs_V ct], hs_ia cI r1 40 F, hs_ia cI r2 40 L, hs_ia cI r3 40 T, hs_ia cI r4 40 O]) [0, 1, 2, 3, 4] rfl (by decide) ?_
  refine hs_icmp_eq (tgt := 37) C dX3_comesBefore_17 (by decide) (by omega) (by omega) (fun c2 => ?_) (fun c2 => ?_)
  ·
    refine hs_iload_n C dX3_comesBefore_37 rfl 1 rfl ?_
    refine hs_aload_n C dX3_comesBefore_38 rfl 0 rfl ?_
    refine hs_get C u3 0 rfl rfl 0 (by decide) f9 rfl rfl dX3_comesBefore_39 ?_
    refine hs_iload C dX3_comesBefore_42 4 rfl ?_
    refine hs_iald C 1 rfl (by omega) dX3_comesBefore_44 ?_
    have b3 := hF q
    refine hs_icmp_eq (tgt := 65) C dX3_comesBefore_45 (by decide) (by omega) (by omega) (fun c4 => ?_) (fun c4 => ?_)
    ·
      refine hs_iload_n C dX3_comesBefore_65 rfl 2 rfl ?_
      refine hs_aload_n C dX3_comesBefore_66 rfl 0 rfl ?_
      refine hs_get C u3 0 rfl rfl 1 (by decide) f15 rfl rfl dX3_comesBefore_67 ?_
      refine hs_iload C dX3_comesBefore_70 4 rfl ?_
      refine hs_iald C 2 rfl (by omega) dX3_comesBefore_72 ?_
      have b5 := hLb q
      refine hs_icmp_ge (tgt := 80) C dX3_comesBefore_73 (by decide) (by omega) (by omega) (fun c6 => ?_) (fun c6 => ?_)
      ·
        refine hs_iconst C dX3_comesBefore_80 ?_
        exact hret _ _ _ () (by first | (rw [if_pos (show pu_cb f1 l1 t1 (F q) (L q) (T q) by unfold pu_cb; omega)]) | (rw [if_neg (show ¬ pu_cb f1 l1 t1 (F q) (L q) (T q) by unfold pu_cb; omega)])) dX3_comesBefore_81 rfl
      ·
        refine hs_iconst C dX3_comesBefore_76 ?_
        refine hs_goto (tgt := 81) C dX3_comesBefore_77 (by decide) ?_
        exact hret _ _ _ () (by first | (rw [if_pos (show pu_cb f1 l1 t1 (F q) (L q) (T q) by unfold pu_cb; omega)]) | (rw [if_neg (show ¬ pu_cb f1 l1 t1 (F q) (L q) (T q) by unfold pu_cb; omega)])) dX3_comesBefore_81 rfl
    ·
      refine hs_iload_n C dX3_comesBefore_48 rfl 1 rfl ?_
      refine hs_aload_n C dX3_comesBefore_49 rfl 0 rfl ?_
      refine hs_get C u3 0 rfl rfl 0 (by decide) f9 rfl rfl dX3_comesBefore_50 ?_
      refine hs_iload C dX3_comesBefore_53 4 rfl ?_
      refine hs_iald C 1 rfl (by omega) dX3_comesBefore_55 ?_
      have b7 := hF q
      refine hs_icmp_ge (tgt := 63) C dX3_comesBefore_56 (by decide) (by omega) (by omega) (fun c8 => ?_) (fun c8 => ?_)
      ·
        refine hs_iconst C dX3_comesBefore_63 ?_
        exact hret _ _ _ () (by first | (rw [if_pos (show pu_cb f1 l1 t1 (F q) (L q) (T q) by unfold pu_cb; omega)]) | (rw [if_neg (show ¬ pu_cb f1 l1 t1 (F q) (L q) (T q) by unfold pu_cb; omega)])) dX3_comesBefore_64 rfl
      ·
        refine hs_iconst C dX3_comesBefore_59 ?_
        refine hs_goto (tgt := 64) C dX3_comesBefore_60 (by decide) ?_
        exact hret _ _ _ () (by first | (rw [if_pos (show pu_cb f1 l1 t1 (F q) (L q) (T q) by unfold pu_cb; omega)]) | (rw [if_neg (show ¬ pu_cb f1 l1 t1 (F q) (L q) (T q) by unfold pu_cb; omega)])) dX3_comesBefore_64 rfl
  ·
    refine hs_iload C dX3_comesBefore_20 5 rfl ?_
    refine hs_aload_n C dX3_comesBefore_22 rfl 0 rfl ?_
    refine hs_iload C dX3_comesBefore_23 4 rfl ?_
    refine hs_callVi (win := [hs_ob r0 3 [.ref r1, .ref r2, .ref r3, .ref r4, hs_V ct], hs_ia cI r1 40 F, hs_ia cI r2 40 L, hs_ia cI r3 40 T, hs_ia cI r4 40 O]) (wr := []) (As := [hs_V q]) (rest := [hs_V (t1 * ((l1 - f1) + 1))]) C (c_X3_area l D cI cO r0 r1 r2 r3 r4 ct F L T O q (by omega)) 3 0 rfl rfl rfl (cwV 1 C.1.2.2.2.2 gX3_comesBefore_X3_area rfl rfl rfl (by decide +kernel) ⟨Nat.le_of_ble_eq_true rfl, Nat.le_of_ble_eq_true rfl⟩) rfl rfl (Nat.le_of_ble_eq_true rfl) dX3_comesBefore_25 ⟨Nat.le_of_ble_eq_true rfl, Nat.le_of_ble_eq_true rfl⟩ (fun rr uu9 hp => ?_)
    obtain rfl := hp
    refine hs_re0 (w' := [hs_ob r0 3 [.ref r1, .ref r2, .ref r3, .ref r4, hs_V ct], hs_ia cI r1 40 F, hs_ia cI r2 40 L, hs_ia cI r3 40 T, hs_ia cI r4 40 O]) [0, 1, 2, 3, 4] rfl (by decide) ?_
    refine hs_icmp_le (tgt := 35) C dX3_comesBefore_28 (by decide) (by omega) (by omega) (fun c10 => ?_) (fun c10 => ?_)
    ·
      refine hs_iconst C dX3_comesBefore_35 ?_
      exact hret _ _ _ () (by first | (rw [if_pos (show pu_cb f1 l1 t1 (F q) (L q) (T q) by unfold pu_cb; omega)]) | (rw [if_neg (show ¬ pu_cb f1 l1 t1 (F q) (L q) (T q) by unfold pu_cb; omega)])) dX3_comesBefore_36 rfl
    ·
      refine hs_iconst C dX3_comesBefore_31 ?_
      refine hs_goto (tgt := 36) C dX3_comesBefore_32 (by decide) ?_
      exact hret _ _ _ () (by first | (rw [if_pos (show pu_cb f1 l1 t1 (F q) (L q) (T q) by unfold pu_cb; omega)]) | (rw [if_neg (show ¬ pu_cb f1 l1 t1 (F q) (L q) (T q) by unfold pu_cb; omega)])) dX3_comesBefore_36 rfl

set_option maxHeartbeats 4000000 in
set_option maxRecDepth 100000 in
theorem c_X3_place (l : Launch) (D : va_G) (cI cO : ClassId) (r0 : Nat) (r1 : Nat) (r2 : Nat) (r3 : Nat) (r4 : Nat) (ct : Int) (F : Int → Int) (L : Int → Int) (T : Int → Int) (O : Int → Int) (f1 : Int) (l1 : Int) (t1 : Int) (o1 : Int) (hF : ∀ k, 0 ≤ F k ∧ F k ≤ 39) (hLb : ∀ k, 0 ≤ L k ∧ L k ≤ 39) (hT : ∀ k, 0 ≤ T k ∧ T k ≤ 50) (hO : ∀ k, 0 ≤ O k ∧ O k ≤ 39) (hf1 : 0 ≤ f1 ∧ f1 ≤ 39) (hl1 : 0 ≤ l1 ∧ l1 ≤ 39) (ht1 : 0 ≤ t1 ∧ t1 ≤ 50) (ho1 : 0 ≤ o1 ∧ o1 ≤ 39) (hct : 0 ≤ ct ∧ ct < 40) : hs_Mv l D cI cO yX3_place wsX3_place ({ frames := 2, cells := 0, slots := 0, locals := 46 } : Room) [.ref r0, hs_V f1, hs_V l1, hs_V t1, hs_V o1] [hs_ob r0 3 [.ref r1, .ref r2, .ref r3, .ref r4, hs_V ct], hs_ia cI r1 40 F, hs_ia cI r2 40 L, hs_ia cI r3 40 T, hs_ia cI r4 40 O] (fun (_ : Unit) => True) (fun _ => [hs_ob r0 3 [.ref r1, .ref r2, .ref r3, .ref r4, hs_V (pu_place f1 l1 t1 o1 (ct, F, L, T, O)).1], hs_ia cI r1 40 (pu_place f1 l1 t1 o1 (ct, F, L, T, O)).2.1, hs_ia cI r2 40 (pu_place f1 l1 t1 o1 (ct, F, L, T, O)).2.2.1, hs_ia cI r3 40 (pu_place f1 l1 t1 o1 (ct, F, L, T, O)).2.2.2.1, hs_ia cI r4 40 (pu_place f1 l1 t1 o1 (ct, F, L, T, O)).2.2.2.2]) 0 0 := by
  refine hs_enterV (cc := cX3_place) (maxL := 6) (by decide +kernel) rfl (Nat.le_of_ble_eq_true rfl) (fun p e s m args below meth c A H0 Q C hin2 hret => ?_)
  have f24 := C.1.2.2.2.2 (.fieldLink RX3 24 "HistogramStairs$Rectangles" "count" "I") (by decide +kernel)
  have u3 : ∀ w ∈ wsX30, w ∈ wsX3_place := by decide +kernel
  have f9 := C.1.2.2.2.2 (.fieldLink RX3 9 "HistogramStairs$Rectangles" "firsts" "[I") (by decide +kernel)
  have f15 := C.1.2.2.2.2 (.fieldLink RX3 15 "HistogramStairs$Rectangles" "lasts" "[I") (by decide +kernel)
  have f18 := C.1.2.2.2.2 (.fieldLink RX3 18 "HistogramStairs$Rectangles" "tops" "[I") (by decide +kernel)
  have f21 := C.1.2.2.2.2 (.fieldLink RX3 21 "HistogramStairs$Rectangles" "owners" "[I") (by decide +kernel)
  refine hs_lvs (lv' := [(0, .ref r0), (1, hs_V f1), (2, hs_V l1), (3, hs_V t1), (4, hs_V o1)]) [0, 1, 2, 3, 4] rfl ?_
  refine hs_aload_n C dX3_place_0 rfl 0 rfl ?_
  refine hs_get C u3 0 rfl rfl 4 (by decide) f24 rfl rfl dX3_place_1 ?_
  refine hs_istore (lv' := [(0, .ref r0), (1, hs_V f1), (2, hs_V l1), (3, hs_V t1), (4, hs_V o1), (5, hs_V ct)]) C dX3_place_4 (by decide) [1, 2, 3, 4, 5, 0] rfl ?_
  have Lp1 : ∀ (k : Nat) (j : Int) (F1 : Int → Int) (L1 : Int → Int) (T1 : Int → Int) (O1 : Int → Int), (0 ≤ j ∧ j ≤ ct) → (∀ k, 0 ≤ F1 k ∧ F1 k ≤ 39) → (∀ k, 0 ≤ L1 k ∧ L1 k ≤ 39) → (∀ k, 0 ≤ T1 k ∧ T1 k ≤ 50) → (∀ k, 0 ≤ O1 k ∧ O1 k ≤ 39) → (hs_wh (pu_plP f1 l1 t1) pu_plF k (j, F1, L1, T1, O1) = pu_pl f1 l1 t1 (ct, F, L, T, O)) → (j < (k : Int)) → hs_J p l e ({ frames := 2, cells := 0, slots := 0, locals := 46 } : Room) s m args below meth c D A H0 6 0 0 Q 6 [(0, .ref r0), (1, hs_V f1), (2, hs_V l1), (3, hs_V t1), (4, hs_V o1), (5, hs_V j)] [] [hs_ob r0 3 [.ref r1, .ref r2, .ref r3, .ref r4, hs_V ct], hs_ia cI r1 40 F1, hs_ia cI r2 40 L1, hs_ia cI r3 40 T1, hs_ia cI r4 40 O1] := by
    intro k
    induction k with
    | zero =>
      intro j F1 L1 T1 O1 hj hF1 hL1 hT1 hO1 hM hk
      exact absurd hk (by omega)
    | succ k ih =>
      intro j F1 L1 T1 O1 hj hF1 hL1 hT1 hO1 hM hk
      have ih2 := ih
      refine hs_iload C dX3_place_6 5 rfl ?_
      refine hs_if_le (tgt := 95) C dX3_place_8 (by decide) (by omega) (fun c3 => ?_) (fun c3 => ?_)
      ·
        refine hs_aload_n C dX3_place_95 rfl 0 rfl ?_
        refine hs_get C u3 0 rfl rfl 0 (by decide) f9 rfl rfl dX3_place_96 ?_
        refine hs_iload C dX3_place_99 5 rfl ?_
        refine hs_iload_n C dX3_place_101 rfl 1 rfl ?_
        refine hs_iast (ws' := [hs_ob r0 3 [.ref r1, .ref r2, .ref r3, .ref r4, hs_V ct], hs_ia cI r1 40 (hs_u F1 j f1), hs_ia cI r2 40 L1, hs_ia cI r3 40 T1, hs_ia cI r4 40 O1]) C 1 rfl (by omega) rfl dX3_place_102 ?_
        have b4 := hs_u_bd (i := j) hF1 (show 0 ≤ f1 ∧ f1 ≤ 39 by omega)
        refine hs_aload_n C dX3_place_103 rfl 0 rfl ?_
        refine hs_get C u3 0 rfl rfl 1 (by decide) f15 rfl rfl dX3_place_104 ?_
        refine hs_iload C dX3_place_107 5 rfl ?_
        refine hs_iload_n C dX3_place_109 rfl 2 rfl ?_
        refine hs_iast (ws' := [hs_ob r0 3 [.ref r1, .ref r2, .ref r3, .ref r4, hs_V ct], hs_ia cI r1 40 (hs_u F1 j f1), hs_ia cI r2 40 (hs_u L1 j l1), hs_ia cI r3 40 T1, hs_ia cI r4 40 O1]) C 2 rfl (by omega) rfl dX3_place_110 ?_
        have b5 := hs_u_bd (i := j) hL1 (show 0 ≤ l1 ∧ l1 ≤ 39 by omega)
        refine hs_aload_n C dX3_place_111 rfl 0 rfl ?_
        refine hs_get C u3 0 rfl rfl 2 (by decide) f18 rfl rfl dX3_place_112 ?_
        refine hs_iload C dX3_place_115 5 rfl ?_
        refine hs_iload_n C dX3_place_117 rfl 3 rfl ?_
        refine hs_iast (ws' := [hs_ob r0 3 [.ref r1, .ref r2, .ref r3, .ref r4, hs_V ct], hs_ia cI r1 40 (hs_u F1 j f1), hs_ia cI r2 40 (hs_u L1 j l1), hs_ia cI r3 40 (hs_u T1 j t1), hs_ia cI r4 40 O1]) C 3 rfl (by omega) rfl dX3_place_118 ?_
        have b6 := hs_u_bd (i := j) hT1 (show 0 ≤ t1 ∧ t1 ≤ 50 by omega)
        refine hs_aload_n C dX3_place_119 rfl 0 rfl ?_
        refine hs_get C u3 0 rfl rfl 3 (by decide) f21 rfl rfl dX3_place_120 ?_
        refine hs_iload C dX3_place_123 5 rfl ?_
        refine hs_iload C dX3_place_125 4 rfl ?_
        refine hs_iast (ws' := [hs_ob r0 3 [.ref r1, .ref r2, .ref r3, .ref r4, hs_V ct], hs_ia cI r1 40 (hs_u F1 j f1), hs_ia cI r2 40 (hs_u L1 j l1), hs_ia cI r3 40 (hs_u T1 j t1), hs_ia cI r4 40 (hs_u O1 j o1)]) C 4 rfl (by omega) rfl dX3_place_127 ?_
        have b7 := hs_u_bd (i := j) hO1 (show 0 ≤ o1 ∧ o1 ≤ 39 by omega)
        refine hs_aload_n C dX3_place_128 rfl 0 rfl ?_
        refine hs_dup C dX3_place_129 rfl ?_
        refine hs_get C u3 0 rfl rfl 4 (by decide) f24 rfl rfl dX3_place_130 ?_
        refine hs_iconst C dX3_place_133 ?_
        refine hs_iadd C dX3_place_134 ?_
        refine hs_put (ty := .int) (ws' := [hs_ob r0 3 [.ref r1, .ref r2, .ref r3, .ref r4, hs_V (ct + 1)], hs_ia cI r1 40 (hs_u F1 j f1), hs_ia cI r2 40 (hs_u L1 j l1), hs_ia cI r3 40 (hs_u T1 j t1), hs_ia cI r4 40 (hs_u O1 j o1)]) C u3 tyX3 tyX3_ok nmX3 0 rfl rfl 4 (by decide) f24 rfl rfl (by decide +kernel) rfl rfl (Nat.le_of_ble_eq_true rfl) rfl dX3_place_135 ?_
        refine hs_cast (ws' := [hs_ob r0 3 [.ref r1, .ref r2, .ref r3, .ref r4, hs_V (pu_place f1 l1 t1 o1 (ct, F, L, T, O)).1], hs_ia cI r1 40 (pu_place f1 l1 t1 o1 (ct, F, L, T, O)).2.1, hs_ia cI r2 40 (pu_place f1 l1 t1 o1 (ct, F, L, T, O)).2.2.1, hs_ia cI r3 40 (pu_place f1 l1 t1 o1 (ct, F, L, T, O)).2.2.2.1, hs_ia cI r4 40 (pu_place f1 l1 t1 o1 (ct, F, L, T, O)).2.2.2.2]) ?_ rfl rfl rfl (by
      have hP : ¬ pu_plP f1 l1 t1 (j, F1, L1, T1, O1) := fun h => by first | exact absurd h.1 (by simp only []; omega) | exact absurd h.2 (by assumption)
      have hz := hM
      rw [hs_wh_done hP] at hz
      unfold pu_place
      rw [← hz])
        exact hret _ _ () trivial dX3_place_138
      ·
        refine hs_aload_n C dX3_place_11 rfl 0 rfl ?_
        refine hs_iload_n C dX3_place_12 rfl 1 rfl ?_
        refine hs_iload_n C dX3_place_13 rfl 2 rfl ?_
        refine hs_iload_n C dX3_place_14 rfl 3 rfl ?_
        refine hs_iload C dX3_place_15 5 rfl ?_
        refine hs_iconst C dX3_place_17 ?_
        refine hs_isub C dX3_place_18 ?_
        refine hs_callVi (win := [hs_ob r0 3 [.ref r1, .ref r2, .ref r3, .ref r4, hs_V ct], hs_ia cI r1 40 F1, hs_ia cI r2 40 L1, hs_ia cI r3 40 T1, hs_ia cI r4 40 O1]) (wr := []) (As := [hs_V f1, hs_V l1, hs_V t1, hs_V (j - 1)]) (rest := []) C (c_X3_comesBefore l D cI cO r0 r1 r2 r3 r4 ct F1 L1 T1 O1 f1 l1 t1 (j - 1) hF1 hL1 hT1 hO1 (by omega) (by omega) (by omega) (by omega)) 3 0 rfl rfl rfl (cwV 4 C.1.2.2.2.2 gX3_place_X3_comesBefore rfl rfl rfl (by decide +kernel) ⟨Nat.le_of_ble_eq_true rfl, Nat.le_of_ble_eq_true rfl⟩) rfl rfl (Nat.le_of_ble_eq_true rfl) dX3_place_19 ⟨Nat.le_of_ble_eq_true rfl, Nat.le_of_ble_eq_true rfl⟩ (fun rr uu8 hp => ?_)
        obtain rfl := hp
        refine hs_re0 (w' := [hs_ob r0 3 [.ref r1, .ref r2, .ref r3, .ref r4, hs_V ct], hs_ia cI r1 40 F1, hs_ia cI r2 40 L1, hs_ia cI r3 40 T1, hs_ia cI r4 40 O1]) [0, 1, 2, 3, 4] rfl (by decide) ?_
        refine hs_ifeq_b (tgt := 95) C dX3_place_22 (by decide) (fun c9 => ?_) (fun c9 => ?_)
        ·
          refine hs_aload_n C dX3_place_95 rfl 0 rfl ?_
          refine hs_get C u3 0 rfl rfl 0 (by decide) f9 rfl rfl dX3_place_96 ?_
          refine hs_iload C dX3_place_99 5 rfl ?_
          refine hs_iload_n C dX3_place_101 rfl 1 rfl ?_
          refine hs_iast (ws' := [hs_ob r0 3 [.ref r1, .ref r2, .ref r3, .ref r4, hs_V ct], hs_ia cI r1 40 (hs_u F1 j f1), hs_ia cI r2 40 L1, hs_ia cI r3 40 T1, hs_ia cI r4 40 O1]) C 1 rfl (by omega) rfl dX3_place_102 ?_
          have b10 := hs_u_bd (i := j) hF1 (show 0 ≤ f1 ∧ f1 ≤ 39 by omega)
          refine hs_aload_n C dX3_place_103 rfl 0 rfl ?_
          refine hs_get C u3 0 rfl rfl 1 (by decide) f15 rfl rfl dX3_place_104 ?_
          refine hs_iload C dX3_place_107 5 rfl ?_
          refine hs_iload_n C dX3_place_109 rfl 2 rfl ?_
          refine hs_iast (ws' := [hs_ob r0 3 [.ref r1, .ref r2, .ref r3, .ref r4, hs_V ct], hs_ia cI r1 40 (hs_u F1 j f1), hs_ia cI r2 40 (hs_u L1 j l1), hs_ia cI r3 40 T1, hs_ia cI r4 40 O1]) C 2 rfl (by omega) rfl dX3_place_110 ?_
          have b11 := hs_u_bd (i := j) hL1 (show 0 ≤ l1 ∧ l1 ≤ 39 by omega)
          refine hs_aload_n C dX3_place_111 rfl 0 rfl ?_
          refine hs_get C u3 0 rfl rfl 2 (by decide) f18 rfl rfl dX3_place_112 ?_
          refine hs_iload C dX3_place_115 5 rfl ?_
          refine hs_iload_n C dX3_place_117 rfl 3 rfl ?_
          refine hs_iast (ws' := [hs_ob r0 3 [.ref r1, .ref r2, .ref r3, .ref r4, hs_V ct], hs_ia cI r1 40 (hs_u F1 j f1), hs_ia cI r2 40 (hs_u L1 j l1), hs_ia cI r3 40 (hs_u T1 j t1), hs_ia cI r4 40 O1]) C 3 rfl (by omega) rfl dX3_place_118 ?_
          have b12 := hs_u_bd (i := j) hT1 (show 0 ≤ t1 ∧ t1 ≤ 50 by omega)
          refine hs_aload_n C dX3_place_119 rfl 0 rfl ?_
          refine hs_get C u3 0 rfl rfl 3 (by decide) f21 rfl rfl dX3_place_120 ?_
          refine hs_iload C dX3_place_123 5 rfl ?_
          refine hs_iload C dX3_place_125 4 rfl ?_
          refine hs_iast (ws' := [hs_ob r0 3 [.ref r1, .ref r2, .ref r3, .ref r4, hs_V ct], hs_ia cI r1 40 (hs_u F1 j f1), hs_ia cI r2 40 (hs_u L1 j l1), hs_ia cI r3 40 (hs_u T1 j t1), hs_ia cI r4 40 (hs_u O1 j o1)]) C 4 rfl (by omega) rfl dX3_place_127 ?_
          have b13 := hs_u_bd (i := j) hO1 (show 0 ≤ o1 ∧ o1 ≤ 39 by omega)
          refine hs_aload_n C dX3_place_128 rfl 0 rfl ?_
          refine hs_dup C dX3_place_129 rfl ?_
          refine hs_get C u3 0 rfl rfl 4 (by decide) f24 rfl rfl dX3_place_130 ?_
          refine hs_iconst C dX3_place_133 ?_
          refine hs_iadd C dX3_place_134 ?_
          refine hs_put (ty := .int) (ws' := [hs_ob r0 3 [.ref r1, .ref r2, .ref r3, .ref r4, hs_V (ct + 1)], hs_ia cI r1 40 (hs_u F1 j f1), hs_ia cI r2 40 (hs_u L1 j l1), hs_ia cI r3 40 (hs_u T1 j t1), hs_ia cI r4 40 (hs_u O1 j o1)]) C u3 tyX3 tyX3_ok nmX3 0 rfl rfl 4 (by decide) f24 rfl rfl (by decide +kernel) rfl rfl (Nat.le_of_ble_eq_true rfl) rfl dX3_place_135 ?_
          refine hs_cast (ws' := [hs_ob r0 3 [.ref r1, .ref r2, .ref r3, .ref r4, hs_V (pu_place f1 l1 t1 o1 (ct, F, L, T, O)).1], hs_ia cI r1 40 (pu_place f1 l1 t1 o1 (ct, F, L, T, O)).2.1, hs_ia cI r2 40 (pu_place f1 l1 t1 o1 (ct, F, L, T, O)).2.2.1, hs_ia cI r3 40 (pu_place f1 l1 t1 o1 (ct, F, L, T, O)).2.2.2.1, hs_ia cI r4 40 (pu_place f1 l1 t1 o1 (ct, F, L, T, O)).2.2.2.2]) ?_ rfl rfl rfl (by
      have hP : ¬ pu_plP f1 l1 t1 (j, F1, L1, T1, O1) := fun h => by first | exact absurd h.1 (by simp only []; omega) | exact absurd h.2 (by assumption)
      have hz := hM
      rw [hs_wh_done hP] at hz
      unfold pu_place
      rw [← hz])
          exact hret _ _ () trivial dX3_place_138
        ·
          refine hs_aload_n C dX3_place_25 rfl 0 rfl ?_
          refine hs_get C u3 0 rfl rfl 0 (by decide) f9 rfl rfl dX3_place_26 ?_
          refine hs_iload C dX3_place_29 5 rfl ?_
          refine hs_aload_n C dX3_place_31 rfl 0 rfl ?_
          refine hs_get C u3 0 rfl rfl 0 (by decide) f9 rfl rfl dX3_place_32 ?_
          refine hs_iload C dX3_place_35 5 rfl ?_
          refine hs_iconst C dX3_place_37 ?_
          refine hs_isub C dX3_place_38 ?_
          refine hs_iald C 1 rfl (by omega) dX3_place_39 ?_
          have b14 := hF1 (j - 1)
          refine hs_iast (ws' := [hs_ob r0 3 [.ref r1, .ref r2, .ref r3, .ref r4, hs_V ct], hs_ia cI r1 40 (hs_u F1 j (F1 (j - 1))), hs_ia cI r2 40 L1, hs_ia cI r3 40 T1, hs_ia cI r4 40 O1]) C 1 rfl (by omega) rfl dX3_place_40 ?_
          have b15 := hs_u_bd (i := j) hF1 (show 0 ≤ F1 (j - 1) ∧ F1 (j - 1) ≤ 39 by omega)
          refine hs_aload_n C dX3_place_41 rfl 0 rfl ?_
          refine hs_get C u3 0 rfl rfl 1 (by decide) f15 rfl rfl dX3_place_42 ?_
          refine hs_iload C dX3_place_45 5 rfl ?_
          refine hs_aload_n C dX3_place_47 rfl 0 rfl ?_
          refine hs_get C u3 0 rfl rfl 1 (by decide) f15 rfl rfl dX3_place_48 ?_
          refine hs_iload C dX3_place_51 5 rfl ?_
          refine hs_iconst C dX3_place_53 ?_
          refine hs_isub C dX3_place_54 ?_
          refine hs_iald C 2 rfl (by omega) dX3_place_55 ?_
          have b16 := hL1 (j - 1)
          refine hs_iast (ws' := [hs_ob r0 3 [.ref r1, .ref r2, .ref r3, .ref r4, hs_V ct], hs_ia cI r1 40 (hs_u F1 j (F1 (j - 1))), hs_ia cI r2 40 (hs_u L1 j (L1 (j - 1))), hs_ia cI r3 40 T1, hs_ia cI r4 40 O1]) C 2 rfl (by omega) rfl dX3_place_56 ?_
          have b17 := hs_u_bd (i := j) hL1 (show 0 ≤ L1 (j - 1) ∧ L1 (j - 1) ≤ 39 by omega)
          refine hs_aload_n C dX3_place_57 rfl 0 rfl ?_
          refine hs_get C u3 0 rfl rfl 2 (by decide) f18 rfl rfl dX3_place_58 ?_
          refine hs_iload C dX3_place_61 5 rfl ?_
          refine hs_aload_n C dX3_place_63 rfl 0 rfl ?_
          refine hs_get C u3 0 rfl rfl 2 (by decide) f18 rfl rfl dX3_place_64 ?_
          refine hs_iload C dX3_place_67 5 rfl ?_
          refine hs_iconst C dX3_place_69 ?_
          refine hs_isub C dX3_place_70 ?_
          refine hs_iald C 3 rfl (by omega) dX3_place_71 ?_
          have b18 := hT1 (j - 1)
          refine hs_iast (ws' := [hs_ob r0 3 [.ref r1, .ref r2, .ref r3, .ref r4, hs_V ct], hs_ia cI r1 40 (hs_u F1 j (F1 (j - 1))), hs_ia cI r2 40 (hs_u L1 j (L1 (j - 1))), hs_ia cI r3 40 (hs_u T1 j (T1 (j - 1))), hs_ia cI r4 40 O1]) C 3 rfl (by omega) rfl dX3_place_72 ?_
          have b19 := hs_u_bd (i := j) hT1 (show 0 ≤ T1 (j - 1) ∧ T1 (j - 1) ≤ 50 by omega)
          refine hs_aload_n C dX3_place_73 rfl 0 rfl ?_
          refine hs_get C u3 0 rfl rfl 3 (by decide) f21 rfl rfl dX3_place_74 ?_
          refine hs_iload C dX3_place_77 5 rfl ?_
          refine hs_aload_n C dX3_place_79 rfl 0 rfl ?_
          refine hs_get C u3 0 rfl rfl 3 (by decide) f21 rfl rfl dX3_place_80 ?_
          refine hs_iload C dX3_place_83 5 rfl ?_
          refine hs_iconst C dX3_place_85 ?_
          refine hs_isub C dX3_place_86 ?_
          refine hs_iald C 4 rfl (by omega) dX3_place_87 ?_
          have b20 := hO1 (j - 1)
          refine hs_iast (ws' := [hs_ob r0 3 [.ref r1, .ref r2, .ref r3, .ref r4, hs_V ct], hs_ia cI r1 40 (hs_u F1 j (F1 (j - 1))), hs_ia cI r2 40 (hs_u L1 j (L1 (j - 1))), hs_ia cI r3 40 (hs_u T1 j (T1 (j - 1))), hs_ia cI r4 40 (hs_u O1 j (O1 (j - 1)))]) C 4 rfl (by omega) rfl dX3_place_88 ?_
          have b21 := hs_u_bd (i := j) hO1 (show 0 ≤ O1 (j - 1) ∧ O1 (j - 1) ≤ 39 by omega)
          refine hs_iinc (lv' := [(0, .ref r0), (1, hs_V f1), (2, hs_V l1), (3, hs_V t1), (4, hs_V o1), (5, hs_V (j + (-1)))]) C dX3_place_89 5 rfl (by decide) [1, 2, 3, 4, 5, 0] rfl ?_
          refine hs_goto (tgt := 6) C dX3_place_92 (by decide) ?_
          exact ih2 (j + (-1)) (hs_u F1 j (F1 (j - 1))) (hs_u L1 j (L1 (j - 1))) (hs_u T1 j (T1 (j - 1))) (hs_u O1 j (O1 (j - 1))) (by omega) b15 b17 b19 b21 ((hs_wh_step (P := pu_plP f1 l1 t1) (f := pu_plF) (n := k) (x := (j, F1, L1, T1, O1)) ⟨by omega, by assumption⟩).symm.trans hM) (by omega)
  exact Lp1 ((ct : Int).toNat + 1) ct F L T O (by omega) hF hLb hT hO (rfl) (by omega)

set_option maxHeartbeats 4000000 in
set_option maxRecDepth 100000 in
theorem c_X3_findOwnedBy (l : Launch) (D : va_G) (cI cO : ClassId) (r0 : Nat) (r1 : Nat) (r2 : Nat) (r3 : Nat) (r4 : Nat) (ct : Int) (F : Int → Int) (L : Int → Int) (T : Int → Int) (O : Int → Int) (h1 : Nat) (g : Int → Int) (i : Int) (a : Int) (b : Int) (hF : ∀ k, 0 ≤ F k ∧ F k ≤ 39) (hLb : ∀ k, 0 ≤ L k ∧ L k ≤ 39) (hT : ∀ k, 0 ≤ T k ∧ T k ≤ 50) (hO : ∀ k, 0 ≤ O k ∧ O k ≤ 39) (hg : ∀ k, 0 ≤ g k ∧ g k ≤ 50) (hab : 0 ≤ a ∧ a ≤ i ∧ i ≤ b ∧ b ≤ 39) (hct : 0 ≤ ct ∧ ct < 40) : hs_Mv l D cI cO yX3_findOwnedBy wsX3_findOwnedBy ({ frames := 3, cells := 0, slots := 0, locals := 71 } : Room) [.ref r0, hs_V i, .ref h1, hs_V a, hs_V b] [hs_ob r0 3 [.ref r1, .ref r2, .ref r3, .ref r4, hs_V ct], hs_ia cI r1 40 F, hs_ia cI r2 40 L, hs_ia cI r3 40 T, hs_ia cI r4 40 O, hs_ia cI h1 40 g] (fun (_ : Unit) => True) (fun _ => [hs_ob r0 3 [.ref r1, .ref r2, .ref r3, .ref r4, hs_V (pu_fob g i a b (ct, F, L, T, O)).1], hs_ia cI r1 40 (pu_fob g i a b (ct, F, L, T, O)).2.1, hs_ia cI r2 40 (pu_fob g i a b (ct, F, L, T, O)).2.2.1, hs_ia cI r3 40 (pu_fob g i a b (ct, F, L, T, O)).2.2.2.1, hs_ia cI r4 40 (pu_fob g i a b (ct, F, L, T, O)).2.2.2.2, hs_ia cI h1 40 g]) 0 0 := by
  refine hs_enterV (cc := cX3_findOwnedBy) (maxL := 7) (by decide +kernel) rfl (Nat.le_of_ble_eq_true rfl) (fun p e s m args below meth c A H0 Q C hin2 hret => ?_)
  refine hs_lvs (lv' := [(0, .ref r0), (1, hs_V i), (2, .ref h1), (3, hs_V a), (4, hs_V b)]) [0, 1, 2, 3, 4] rfl ?_
  refine hs_iload_n C dX3_findOwnedBy_0 rfl 1 rfl ?_
  refine hs_istore (lv' := [(0, .ref r0), (1, hs_V i), (2, .ref h1), (3, hs_V a), (4, hs_V b), (5, hs_V i)]) C dX3_findOwnedBy_1 (by decide) [1, 2, 3, 4, 5, 0] rfl ?_
  have Lp1 : ∀ (k : Nat) (x : Int), (a ≤ x ∧ x ≤ i) → (hs_wh (pu_foP g i a) (fun x => x + (-1)) k x = pu_fo g i a) → (x - a < (k : Int)) → hs_J p l e ({ frames := 3, cells := 0, slots := 0, locals := 71 } : Room) s m args below meth c D A H0 7 0 0 Q 3 [(0, .ref r0), (1, hs_V i), (2, .ref h1), (3, hs_V a), (4, hs_V b), (5, hs_V x)] [] [hs_ob r0 3 [.ref r1, .ref r2, .ref r3, .ref r4, hs_V ct], hs_ia cI r1 40 F, hs_ia cI r2 40 L, hs_ia cI r3 40 T, hs_ia cI r4 40 O, hs_ia cI h1 40 g] := by
    intro k
    induction k with
    | zero =>
      intro x hx hM hk
      exact absurd hk (by omega)
    | succ k ih =>
      intro x hx hM hk
      have ih2 := ih
      refine hs_iload C dX3_findOwnedBy_3 5 rfl ?_
      refine hs_iload_n C dX3_findOwnedBy_5 rfl 3 rfl ?_
      refine hs_icmp_le (tgt := 27) C dX3_findOwnedBy_6 (by decide) (by omega) (by omega) (fun c3 => ?_) (fun c3 => ?_)
      ·
        have hfo : pu_fo g i a = x := by rw [← hM, hs_wh_done (show ¬ pu_foP g i a x by unfold pu_foP; omega)]
        refine hs_iload C dX3_findOwnedBy_27 5 rfl ?_
        refine hs_iload_n C dX3_findOwnedBy_29 rfl 3 rfl ?_
        refine hs_icmp_le (tgt := 46) C dX3_findOwnedBy_30 (by decide) (by omega) (by omega) (fun c4 => ?_) (fun c4 => ?_)
        ·
          refine hs_iload_n C dX3_findOwnedBy_46 rfl 1 rfl ?_
          refine hs_istore (lv' := [(0, .ref r0), (1, hs_V i), (2, .ref h1), (3, hs_V a), (4, hs_V b), (5, hs_V x), (6, hs_V i)]) C dX3_findOwnedBy_47 (by decide) [1, 2, 3, 4, 5, 6, 0] rfl ?_
          have Lp5 : ∀ (k : Nat) (y : Int), (i ≤ y ∧ y ≤ b) → (hs_wh (pu_flP g i b) (fun x => x + 1) k y = pu_fl g i b) → (b - y < (k : Int)) → hs_J p l e ({ frames := 3, cells := 0, slots := 0, locals := 71 } : Room) s m args below meth c D A H0 7 0 0 Q 49 [(0, .ref r0), (1, hs_V i), (2, .ref h1), (3, hs_V a), (4, hs_V b), (5, hs_V x), (6, hs_V y)] [] [hs_ob r0 3 [.ref r1, .ref r2, .ref r3, .ref r4, hs_V ct], hs_ia cI r1 40 F, hs_ia cI r2 40 L, hs_ia cI r3 40 T, hs_ia cI r4 40 O, hs_ia cI h1 40 g] := by
            intro k
            induction k with
            | zero =>
              intro y hy hM2 hk
              exact absurd hk (by omega)
            | succ k ih =>
              intro y hy hM2 hk
              have ih6 := ih
              refine hs_iload C dX3_findOwnedBy_49 6 rfl ?_
              refine hs_iload C dX3_findOwnedBy_51 4 rfl ?_
              refine hs_icmp_ge (tgt := 74) C dX3_findOwnedBy_53 (by decide) (by omega) (by omega) (fun c7 => ?_) (fun c7 => ?_)
              ·
                have hfl : pu_fl g i b = y := by rw [← hM2, hs_wh_done (show ¬ pu_flP g i b y by unfold pu_flP; omega)]
                have hgi := hg i
                refine hs_aload_n C dX3_findOwnedBy_74 rfl 0 rfl ?_
                refine hs_iload C dX3_findOwnedBy_75 5 rfl ?_
                refine hs_iload C dX3_findOwnedBy_77 6 rfl ?_
                refine hs_aload_n C dX3_findOwnedBy_79 rfl 2 rfl ?_
                refine hs_iload_n C dX3_findOwnedBy_80 rfl 1 rfl ?_
                refine hs_iald C 5 rfl (by omega) dX3_findOwnedBy_81 ?_
                have b8 := hg i
                refine hs_iload_n C dX3_findOwnedBy_82 rfl 1 rfl ?_
                refine hs_callVv (win := [hs_ob r0 3 [.ref r1, .ref r2, .ref r3, .ref r4, hs_V ct], hs_ia cI r1 40 F, hs_ia cI r2 40 L, hs_ia cI r3 40 T, hs_ia cI r4 40 O]) (wr := [hs_ia cI h1 40 g]) (As := [hs_V x, hs_V y, hs_V (g i), hs_V i]) (rest := []) C (c_X3_place l D cI cO r0 r1 r2 r3 r4 ct F L T O x y (g i) i hF hLb hT hO (by omega) (by omega) (by omega) (by omega) (by omega)) 3 0 rfl rfl rfl (cwV 4 C.1.2.2.2.2 gX3_findOwnedBy_X3_place rfl rfl rfl (by decide +kernel) ⟨Nat.le_of_ble_eq_true rfl, Nat.le_of_ble_eq_true rfl⟩) rfl rfl (Nat.le_of_ble_eq_true rfl) dX3_findOwnedBy_83 ⟨Nat.le_of_ble_eq_true rfl, Nat.le_of_ble_eq_true rfl⟩ (fun uu9 hp => ?_)
                refine hs_re0 (w' := [hs_ob r0 3 [.ref r1, .ref r2, .ref r3, .ref r4, hs_V (pu_place x y (g i) i (ct, F, L, T, O)).1], hs_ia cI r1 40 (pu_place x y (g i) i (ct, F, L, T, O)).2.1, hs_ia cI r2 40 (pu_place x y (g i) i (ct, F, L, T, O)).2.2.1, hs_ia cI r3 40 (pu_place x y (g i) i (ct, F, L, T, O)).2.2.2.1, hs_ia cI r4 40 (pu_place x y (g i) i (ct, F, L, T, O)).2.2.2.2, hs_ia cI h1 40 g]) [0, 1, 2, 3, 4, 5] rfl (by decide) ?_
                refine hs_cast (ws' := [hs_ob r0 3 [.ref r1, .ref r2, .ref r3, .ref r4, hs_V (pu_fob g i a b (ct, F, L, T, O)).1], hs_ia cI r1 40 (pu_fob g i a b (ct, F, L, T, O)).2.1, hs_ia cI r2 40 (pu_fob g i a b (ct, F, L, T, O)).2.2.1, hs_ia cI r3 40 (pu_fob g i a b (ct, F, L, T, O)).2.2.2.1, hs_ia cI r4 40 (pu_fob g i a b (ct, F, L, T, O)).2.2.2.2, hs_ia cI h1 40 g]) ?_ rfl rfl rfl (by unfold pu_fob; rw [hfo, if_neg (show ¬ (a < x ∧ g (x - 1) = g i) by omega), hfl])
                exact hret _ _ () trivial dX3_findOwnedBy_86
              ·
                refine hs_aload_n C dX3_findOwnedBy_56 rfl 2 rfl ?_
                refine hs_iload C dX3_findOwnedBy_57 6 rfl ?_
                refine hs_iconst C dX3_findOwnedBy_59 ?_
                refine hs_iadd C dX3_findOwnedBy_60 ?_
                refine hs_iald C 5 rfl (by omega) dX3_findOwnedBy_61 ?_
                have b10 := hg (y + 1)
                refine hs_aload_n C dX3_findOwnedBy_62 rfl 2 rfl ?_
                refine hs_iload_n C dX3_findOwnedBy_63 rfl 1 rfl ?_
                refine hs_iald C 5 rfl (by omega) dX3_findOwnedBy_64 ?_
                have b11 := hg i
                refine hs_icmp_lt (tgt := 74) C dX3_findOwnedBy_65 (by decide) (by omega) (by omega) (fun c12 => ?_) (fun c12 => ?_)
                ·
                  have hfl : pu_fl g i b = y := by rw [← hM2, hs_wh_done (show ¬ pu_flP g i b y by unfold pu_flP; omega)]
                  have hgi := hg i
                  refine hs_aload_n C dX3_findOwnedBy_74 rfl 0 rfl ?_
                  refine hs_iload C dX3_findOwnedBy_75 5 rfl ?_
                  refine hs_iload C dX3_findOwnedBy_77 6 rfl ?_
                  refine hs_aload_n C dX3_findOwnedBy_79 rfl 2 rfl ?_
                  refine hs_iload_n C dX3_findOwnedBy_80 rfl 1 rfl ?_
                  refine hs_iald C 5 rfl (by omega) dX3_findOwnedBy_81 ?_
                  have b13 := hg i
                  refine hs_iload_n C dX3_findOwnedBy_82 rfl 1 rfl ?_
                  refine hs_callVv (win := [hs_ob r0 3 [.ref r1, .ref r2, .ref r3, .ref r4, hs_V ct], hs_ia cI r1 40 F, hs_ia cI r2 40 L, hs_ia cI r3 40 T, hs_ia cI r4 40 O]) (wr := [hs_ia cI h1 40 g]) (As := [hs_V x, hs_V y, hs_V (g i), hs_V i]) (rest := []) C (c_X3_place l D cI cO r0 r1 r2 r3 r4 ct F L T O x y (g i) i hF hLb hT hO (by omega) (by omega) (by omega) (by omega) (by omega)) 3 0 rfl rfl rfl (cwV 4 C.1.2.2.2.2 gX3_findOwnedBy_X3_place rfl rfl rfl (by decide +kernel) ⟨Nat.le_of_ble_eq_true rfl, Nat.le_of_ble_eq_true rfl⟩) rfl rfl (Nat.le_of_ble_eq_true rfl) dX3_findOwnedBy_83 ⟨Nat.le_of_ble_eq_true rfl, Nat.le_of_ble_eq_true rfl⟩ (fun uu14 hp => ?_)
                  refine hs_re0 (w' := [hs_ob r0 3 [.ref r1, .ref r2, .ref r3, .ref r4, hs_V (pu_place x y (g i) i (ct, F, L, T, O)).1], hs_ia cI r1 40 (pu_place x y (g i) i (ct, F, L, T, O)).2.1, hs_ia cI r2 40 (pu_place x y (g i) i (ct, F, L, T, O)).2.2.1, hs_ia cI r3 40 (pu_place x y (g i) i (ct, F, L, T, O)).2.2.2.1, hs_ia cI r4 40 (pu_place x y (g i) i (ct, F, L, T, O)).2.2.2.2, hs_ia cI h1 40 g]) [0, 1, 2, 3, 4, 5] rfl (by decide) ?_
                  refine hs_cast (ws' := [hs_ob r0 3 [.ref r1, .ref r2, .ref r3, .ref r4, hs_V (pu_fob g i a b (ct, F, L, T, O)).1], hs_ia cI r1 40 (pu_fob g i a b (ct, F, L, T, O)).2.1, hs_ia cI r2 40 (pu_fob g i a b (ct, F, L, T, O)).2.2.1, hs_ia cI r3 40 (pu_fob g i a b (ct, F, L, T, O)).2.2.2.1, hs_ia cI r4 40 (pu_fob g i a b (ct, F, L, T, O)).2.2.2.2, hs_ia cI h1 40 g]) ?_ rfl rfl rfl (by unfold pu_fob; rw [hfo, if_neg (show ¬ (a < x ∧ g (x - 1) = g i) by omega), hfl])
                  exact hret _ _ () trivial dX3_findOwnedBy_86
                ·
                  refine hs_iinc (lv' := [(0, .ref r0), (1, hs_V i), (2, .ref h1), (3, hs_V a), (4, hs_V b), (5, hs_V x), (6, hs_V (y + 1))]) C dX3_findOwnedBy_68 6 rfl (by decide) [1, 2, 3, 4, 5, 6, 0] rfl ?_
                  refine hs_goto (tgt := 49) C dX3_findOwnedBy_71 (by decide) ?_
                  exact ih6 (y + 1) (by omega) ((hs_wh_step (P := pu_flP g i b) (f := fun x => x + 1) (n := k) (x := y) ⟨by omega, by omega⟩).symm.trans hM2) (by omega)
          exact Lp5 ((b - i : Int).toNat + 1) i (by omega) (rfl) (by omega)
        ·
          refine hs_aload_n C dX3_findOwnedBy_33 rfl 2 rfl ?_
          refine hs_iload C dX3_findOwnedBy_34 5 rfl ?_
          refine hs_iconst C dX3_findOwnedBy_36 ?_
          refine hs_isub C dX3_findOwnedBy_37 ?_
          refine hs_iald C 5 rfl (by omega) dX3_findOwnedBy_38 ?_
          have b15 := hg (x - 1)
          refine hs_aload_n C dX3_findOwnedBy_39 rfl 2 rfl ?_
          refine hs_iload_n C dX3_findOwnedBy_40 rfl 1 rfl ?_
          refine hs_iald C 5 rfl (by omega) dX3_findOwnedBy_41 ?_
          have b16 := hg i
          refine hs_icmp_ne (tgt := 46) C dX3_findOwnedBy_42 (by decide) (by omega) (by omega) (fun c17 => ?_) (fun c17 => ?_)
          ·
            refine hs_iload_n C dX3_findOwnedBy_46 rfl 1 rfl ?_
            refine hs_istore (lv' := [(0, .ref r0), (1, hs_V i), (2, .ref h1), (3, hs_V a), (4, hs_V b), (5, hs_V x), (6, hs_V i)]) C dX3_findOwnedBy_47 (by decide) [1, 2, 3, 4, 5, 6, 0] rfl ?_
            have Lp18 : ∀ (k : Nat) (y : Int), (i ≤ y ∧ y ≤ b) → (hs_wh (pu_flP g i b) (fun x => x + 1) k y = pu_fl g i b) → (b - y < (k : Int)) → hs_J p l e ({ frames := 3, cells := 0, slots := 0, locals := 71 } : Room) s m args below meth c D A H0 7 0 0 Q 49 [(0, .ref r0), (1, hs_V i), (2, .ref h1), (3, hs_V a), (4, hs_V b), (5, hs_V x), (6, hs_V y)] [] [hs_ob r0 3 [.ref r1, .ref r2, .ref r3, .ref r4, hs_V ct], hs_ia cI r1 40 F, hs_ia cI r2 40 L, hs_ia cI r3 40 T, hs_ia cI r4 40 O, hs_ia cI h1 40 g] := by
              intro k
              induction k with
              | zero =>
                intro y hy hM2 hk
                exact absurd hk (by omega)
              | succ k ih =>
                intro y hy hM2 hk
                have ih19 := ih
                refine hs_iload C dX3_findOwnedBy_49 6 rfl ?_
                refine hs_iload C dX3_findOwnedBy_51 4 rfl ?_
                refine hs_icmp_ge (tgt := 74) C dX3_findOwnedBy_53 (by decide) (by omega) (by omega) (fun c20 => ?_) (fun c20 => ?_)
                ·
                  have hfl : pu_fl g i b = y := by rw [← hM2, hs_wh_done (show ¬ pu_flP g i b y by unfold pu_flP; omega)]
                  have hgi := hg i
                  refine hs_aload_n C dX3_findOwnedBy_74 rfl 0 rfl ?_
                  refine hs_iload C dX3_findOwnedBy_75 5 rfl ?_
                  refine hs_iload C dX3_findOwnedBy_77 6 rfl ?_
                  refine hs_aload_n C dX3_findOwnedBy_79 rfl 2 rfl ?_
                  refine hs_iload_n C dX3_findOwnedBy_80 rfl 1 rfl ?_
                  refine hs_iald C 5 rfl (by omega) dX3_findOwnedBy_81 ?_
                  have b21 := hg i
                  refine hs_iload_n C dX3_findOwnedBy_82 rfl 1 rfl ?_
                  refine hs_callVv (win := [hs_ob r0 3 [.ref r1, .ref r2, .ref r3, .ref r4, hs_V ct], hs_ia cI r1 40 F, hs_ia cI r2 40 L, hs_ia cI r3 40 T, hs_ia cI r4 40 O]) (wr := [hs_ia cI h1 40 g]) (As := [hs_V x, hs_V y, hs_V (g i), hs_V i]) (rest := []) C (c_X3_place l D cI cO r0 r1 r2 r3 r4 ct F L T O x y (g i) i hF hLb hT hO (by omega) (by omega) (by omega) (by omega) (by omega)) 3 0 rfl rfl rfl (cwV 4 C.1.2.2.2.2 gX3_findOwnedBy_X3_place rfl rfl rfl (by decide +kernel) ⟨Nat.le_of_ble_eq_true rfl, Nat.le_of_ble_eq_true rfl⟩) rfl rfl (Nat.le_of_ble_eq_true rfl) dX3_findOwnedBy_83 ⟨Nat.le_of_ble_eq_true rfl, Nat.le_of_ble_eq_true rfl⟩ (fun uu22 hp => ?_)
                  refine hs_re0 (w' := [hs_ob r0 3 [.ref r1, .ref r2, .ref r3, .ref r4, hs_V (pu_place x y (g i) i (ct, F, L, T, O)).1], hs_ia cI r1 40 (pu_place x y (g i) i (ct, F, L, T, O)).2.1, hs_ia cI r2 40 (pu_place x y (g i) i (ct, F, L, T, O)).2.2.1, hs_ia cI r3 40 (pu_place x y (g i) i (ct, F, L, T, O)).2.2.2.1, hs_ia cI r4 40 (pu_place x y (g i) i (ct, F, L, T, O)).2.2.2.2, hs_ia cI h1 40 g]) [0, 1, 2, 3, 4, 5] rfl (by decide) ?_
                  refine hs_cast (ws' := [hs_ob r0 3 [.ref r1, .ref r2, .ref r3, .ref r4, hs_V (pu_fob g i a b (ct, F, L, T, O)).1], hs_ia cI r1 40 (pu_fob g i a b (ct, F, L, T, O)).2.1, hs_ia cI r2 40 (pu_fob g i a b (ct, F, L, T, O)).2.2.1, hs_ia cI r3 40 (pu_fob g i a b (ct, F, L, T, O)).2.2.2.1, hs_ia cI r4 40 (pu_fob g i a b (ct, F, L, T, O)).2.2.2.2, hs_ia cI h1 40 g]) ?_ rfl rfl rfl (by unfold pu_fob; rw [hfo, if_neg (show ¬ (a < x ∧ g (x - 1) = g i) by omega), hfl])
                  exact hret _ _ () trivial dX3_findOwnedBy_86
                ·
                  refine hs_aload_n C dX3_findOwnedBy_56 rfl 2 rfl ?_
                  refine hs_iload C dX3_findOwnedBy_57 6 rfl ?_
                  refine hs_iconst C dX3_findOwnedBy_59 ?_
                  refine hs_iadd C dX3_findOwnedBy_60 ?_
                  refine hs_iald C 5 rfl (by omega) dX3_findOwnedBy_61 ?_
                  have b23 := hg (y + 1)
                  refine hs_aload_n C dX3_findOwnedBy_62 rfl 2 rfl ?_
                  refine hs_iload_n C dX3_findOwnedBy_63 rfl 1 rfl ?_
                  refine hs_iald C 5 rfl (by omega) dX3_findOwnedBy_64 ?_
                  have b24 := hg i
                  refine hs_icmp_lt (tgt := 74) C dX3_findOwnedBy_65 (by decide) (by omega) (by omega) (fun c25 => ?_) (fun c25 => ?_)
                  ·
                    have hfl : pu_fl g i b = y := by rw [← hM2, hs_wh_done (show ¬ pu_flP g i b y by unfold pu_flP; omega)]
                    have hgi := hg i
                    refine hs_aload_n C dX3_findOwnedBy_74 rfl 0 rfl ?_
                    refine hs_iload C dX3_findOwnedBy_75 5 rfl ?_
                    refine hs_iload C dX3_findOwnedBy_77 6 rfl ?_
                    refine hs_aload_n C dX3_findOwnedBy_79 rfl 2 rfl ?_
                    refine hs_iload_n C dX3_findOwnedBy_80 rfl 1 rfl ?_
                    refine hs_iald C 5 rfl (by omega) dX3_findOwnedBy_81 ?_
                    have b26 := hg i
                    refine hs_iload_n C dX3_findOwnedBy_82 rfl 1 rfl ?_
                    refine hs_callVv (win := [hs_ob r0 3 [.ref r1, .ref r2, .ref r3, .ref r4, hs_V ct], hs_ia cI r1 40 F, hs_ia cI r2 40 L, hs_ia cI r3 40 T, hs_ia cI r4 40 O]) (wr := [hs_ia cI h1 40 g]) (As := [hs_V x, hs_V y, hs_V (g i), hs_V i]) (rest := []) C (c_X3_place l D cI cO r0 r1 r2 r3 r4 ct F L T O x y (g i) i hF hLb hT hO (by omega) (by omega) (by omega) (by omega) (by omega)) 3 0 rfl rfl rfl (cwV 4 C.1.2.2.2.2 gX3_findOwnedBy_X3_place rfl rfl rfl (by decide +kernel) ⟨Nat.le_of_ble_eq_true rfl, Nat.le_of_ble_eq_true rfl⟩) rfl rfl (Nat.le_of_ble_eq_true rfl) dX3_findOwnedBy_83 ⟨Nat.le_of_ble_eq_true rfl, Nat.le_of_ble_eq_true rfl⟩ (fun uu27 hp => ?_)
                    refine hs_re0 (w' := [hs_ob r0 3 [.ref r1, .ref r2, .ref r3, .ref r4, hs_V (pu_place x y (g i) i (ct, F, L, T, O)).1], hs_ia cI r1 40 (pu_place x y (g i) i (ct, F, L, T, O)).2.1, hs_ia cI r2 40 (pu_place x y (g i) i (ct, F, L, T, O)).2.2.1, hs_ia cI r3 40 (pu_place x y (g i) i (ct, F, L, T, O)).2.2.2.1, hs_ia cI r4 40 (pu_place x y (g i) i (ct, F, L, T, O)).2.2.2.2, hs_ia cI h1 40 g]) [0, 1, 2, 3, 4, 5] rfl (by decide) ?_
                    refine hs_cast (ws' := [hs_ob r0 3 [.ref r1, .ref r2, .ref r3, .ref r4, hs_V (pu_fob g i a b (ct, F, L, T, O)).1], hs_ia cI r1 40 (pu_fob g i a b (ct, F, L, T, O)).2.1, hs_ia cI r2 40 (pu_fob g i a b (ct, F, L, T, O)).2.2.1, hs_ia cI r3 40 (pu_fob g i a b (ct, F, L, T, O)).2.2.2.1, hs_ia cI r4 40 (pu_fob g i a b (ct, F, L, T, O)).2.2.2.2, hs_ia cI h1 40 g]) ?_ rfl rfl rfl (by unfold pu_fob; rw [hfo, if_neg (show ¬ (a < x ∧ g (x - 1) = g i) by omega), hfl])
                    exact hret _ _ () trivial dX3_findOwnedBy_86
                  ·
                    refine hs_iinc (lv' := [(0, .ref r0), (1, hs_V i), (2, .ref h1), (3, hs_V a), (4, hs_V b), (5, hs_V x), (6, hs_V (y + 1))]) C dX3_findOwnedBy_68 6 rfl (by decide) [1, 2, 3, 4, 5, 6, 0] rfl ?_
                    refine hs_goto (tgt := 49) C dX3_findOwnedBy_71 (by decide) ?_
                    exact ih19 (y + 1) (by omega) ((hs_wh_step (P := pu_flP g i b) (f := fun x => x + 1) (n := k) (x := y) ⟨by omega, by omega⟩).symm.trans hM2) (by omega)
            exact Lp18 ((b - i : Int).toNat + 1) i (by omega) (rfl) (by omega)
          ·
            refine hs_cast (ws' := [hs_ob r0 3 [.ref r1, .ref r2, .ref r3, .ref r4, hs_V (pu_fob g i a b (ct, F, L, T, O)).1], hs_ia cI r1 40 (pu_fob g i a b (ct, F, L, T, O)).2.1, hs_ia cI r2 40 (pu_fob g i a b (ct, F, L, T, O)).2.2.1, hs_ia cI r3 40 (pu_fob g i a b (ct, F, L, T, O)).2.2.2.1, hs_ia cI r4 40 (pu_fob g i a b (ct, F, L, T, O)).2.2.2.2, hs_ia cI h1 40 g]) ?_ rfl rfl rfl (by unfold pu_fob; rw [hfo, if_pos (show a < x ∧ g (x - 1) = g i by omega)])
            exact hret _ _ () trivial dX3_findOwnedBy_45
      ·
        refine hs_aload_n C dX3_findOwnedBy_9 rfl 2 rfl ?_
        refine hs_iload C dX3_findOwnedBy_10 5 rfl ?_
        refine hs_iconst C dX3_findOwnedBy_12 ?_
        refine hs_isub C dX3_findOwnedBy_13 ?_
        refine hs_iald C 5 rfl (by omega) dX3_findOwnedBy_14 ?_
        have b28 := hg (x - 1)
        refine hs_aload_n C dX3_findOwnedBy_15 rfl 2 rfl ?_
        refine hs_iload_n C dX3_findOwnedBy_16 rfl 1 rfl ?_
        refine hs_iald C 5 rfl (by omega) dX3_findOwnedBy_17 ?_
        have b29 := hg i
        refine hs_icmp_le (tgt := 27) C dX3_findOwnedBy_18 (by decide) (by omega) (by omega) (fun c30 => ?_) (fun c30 => ?_)
        ·
          have hfo : pu_fo g i a = x := by rw [← hM, hs_wh_done (show ¬ pu_foP g i a x by unfold pu_foP; omega)]
          refine hs_iload C dX3_findOwnedBy_27 5 rfl ?_
          refine hs_iload_n C dX3_findOwnedBy_29 rfl 3 rfl ?_
          refine hs_icmp_le (tgt := 46) C dX3_findOwnedBy_30 (by decide) (by omega) (by omega) (fun c31 => ?_) (fun c31 => ?_)
          ·
            refine hs_iload_n C dX3_findOwnedBy_46 rfl 1 rfl ?_
            refine hs_istore (lv' := [(0, .ref r0), (1, hs_V i), (2, .ref h1), (3, hs_V a), (4, hs_V b), (5, hs_V x), (6, hs_V i)]) C dX3_findOwnedBy_47 (by decide) [1, 2, 3, 4, 5, 6, 0] rfl ?_
            have Lp32 : ∀ (k : Nat) (y : Int), (i ≤ y ∧ y ≤ b) → (hs_wh (pu_flP g i b) (fun x => x + 1) k y = pu_fl g i b) → (b - y < (k : Int)) → hs_J p l e ({ frames := 3, cells := 0, slots := 0, locals := 71 } : Room) s m args below meth c D A H0 7 0 0 Q 49 [(0, .ref r0), (1, hs_V i), (2, .ref h1), (3, hs_V a), (4, hs_V b), (5, hs_V x), (6, hs_V y)] [] [hs_ob r0 3 [.ref r1, .ref r2, .ref r3, .ref r4, hs_V ct], hs_ia cI r1 40 F, hs_ia cI r2 40 L, hs_ia cI r3 40 T, hs_ia cI r4 40 O, hs_ia cI h1 40 g] := by
              intro k
              induction k with
              | zero =>
                intro y hy hM2 hk
                exact absurd hk (by omega)
              | succ k ih =>
                intro y hy hM2 hk
                have ih33 := ih
                refine hs_iload C dX3_findOwnedBy_49 6 rfl ?_
                refine hs_iload C dX3_findOwnedBy_51 4 rfl ?_
                refine hs_icmp_ge (tgt := 74) C dX3_findOwnedBy_53 (by decide) (by omega) (by omega) (fun c34 => ?_) (fun c34 => ?_)
                ·
                  have hfl : pu_fl g i b = y := by rw [← hM2, hs_wh_done (show ¬ pu_flP g i b y by unfold pu_flP; omega)]
                  have hgi := hg i
                  refine hs_aload_n C dX3_findOwnedBy_74 rfl 0 rfl ?_
                  refine hs_iload C dX3_findOwnedBy_75 5 rfl ?_
                  refine hs_iload C dX3_findOwnedBy_77 6 rfl ?_
                  refine hs_aload_n C dX3_findOwnedBy_79 rfl 2 rfl ?_
                  refine hs_iload_n C dX3_findOwnedBy_80 rfl 1 rfl ?_
                  refine hs_iald C 5 rfl (by omega) dX3_findOwnedBy_81 ?_
                  have b35 := hg i
                  refine hs_iload_n C dX3_findOwnedBy_82 rfl 1 rfl ?_
                  refine hs_callVv (win := [hs_ob r0 3 [.ref r1, .ref r2, .ref r3, .ref r4, hs_V ct], hs_ia cI r1 40 F, hs_ia cI r2 40 L, hs_ia cI r3 40 T, hs_ia cI r4 40 O]) (wr := [hs_ia cI h1 40 g]) (As := [hs_V x, hs_V y, hs_V (g i), hs_V i]) (rest := []) C (c_X3_place l D cI cO r0 r1 r2 r3 r4 ct F L T O x y (g i) i hF hLb hT hO (by omega) (by omega) (by omega) (by omega) (by omega)) 3 0 rfl rfl rfl (cwV 4 C.1.2.2.2.2 gX3_findOwnedBy_X3_place rfl rfl rfl (by decide +kernel) ⟨Nat.le_of_ble_eq_true rfl, Nat.le_of_ble_eq_true rfl⟩) rfl rfl (Nat.le_of_ble_eq_true rfl) dX3_findOwnedBy_83 ⟨Nat.le_of_ble_eq_true rfl, Nat.le_of_ble_eq_true rfl⟩ (fun uu36 hp => ?_)
                  refine hs_re0 (w' := [hs_ob r0 3 [.ref r1, .ref r2, .ref r3, .ref r4, hs_V (pu_place x y (g i) i (ct, F, L, T, O)).1], hs_ia cI r1 40 (pu_place x y (g i) i (ct, F, L, T, O)).2.1, hs_ia cI r2 40 (pu_place x y (g i) i (ct, F, L, T, O)).2.2.1, hs_ia cI r3 40 (pu_place x y (g i) i (ct, F, L, T, O)).2.2.2.1, hs_ia cI r4 40 (pu_place x y (g i) i (ct, F, L, T, O)).2.2.2.2, hs_ia cI h1 40 g]) [0, 1, 2, 3, 4, 5] rfl (by decide) ?_
                  refine hs_cast (ws' := [hs_ob r0 3 [.ref r1, .ref r2, .ref r3, .ref r4, hs_V (pu_fob g i a b (ct, F, L, T, O)).1], hs_ia cI r1 40 (pu_fob g i a b (ct, F, L, T, O)).2.1, hs_ia cI r2 40 (pu_fob g i a b (ct, F, L, T, O)).2.2.1, hs_ia cI r3 40 (pu_fob g i a b (ct, F, L, T, O)).2.2.2.1, hs_ia cI r4 40 (pu_fob g i a b (ct, F, L, T, O)).2.2.2.2, hs_ia cI h1 40 g]) ?_ rfl rfl rfl (by unfold pu_fob; rw [hfo, if_neg (show ¬ (a < x ∧ g (x - 1) = g i) by omega), hfl])
                  exact hret _ _ () trivial dX3_findOwnedBy_86
                ·
                  refine hs_aload_n C dX3_findOwnedBy_56 rfl 2 rfl ?_
                  refine hs_iload C dX3_findOwnedBy_57 6 rfl ?_
                  refine hs_iconst C dX3_findOwnedBy_59 ?_
                  refine hs_iadd C dX3_findOwnedBy_60 ?_
                  refine hs_iald C 5 rfl (by omega) dX3_findOwnedBy_61 ?_
                  have b37 := hg (y + 1)
                  refine hs_aload_n C dX3_findOwnedBy_62 rfl 2 rfl ?_
                  refine hs_iload_n C dX3_findOwnedBy_63 rfl 1 rfl ?_
                  refine hs_iald C 5 rfl (by omega) dX3_findOwnedBy_64 ?_
                  have b38 := hg i
                  refine hs_icmp_lt (tgt := 74) C dX3_findOwnedBy_65 (by decide) (by omega) (by omega) (fun c39 => ?_) (fun c39 => ?_)
                  ·
                    have hfl : pu_fl g i b = y := by rw [← hM2, hs_wh_done (show ¬ pu_flP g i b y by unfold pu_flP; omega)]
                    have hgi := hg i
                    refine hs_aload_n C dX3_findOwnedBy_74 rfl 0 rfl ?_
                    refine hs_iload C dX3_findOwnedBy_75 5 rfl ?_
                    refine hs_iload C dX3_findOwnedBy_77 6 rfl ?_
                    refine hs_aload_n C dX3_findOwnedBy_79 rfl 2 rfl ?_
                    refine hs_iload_n C dX3_findOwnedBy_80 rfl 1 rfl ?_
                    refine hs_iald C 5 rfl (by omega) dX3_findOwnedBy_81 ?_
                    have b40 := hg i
                    refine hs_iload_n C dX3_findOwnedBy_82 rfl 1 rfl ?_
                    refine hs_callVv (win := [hs_ob r0 3 [.ref r1, .ref r2, .ref r3, .ref r4, hs_V ct], hs_ia cI r1 40 F, hs_ia cI r2 40 L, hs_ia cI r3 40 T, hs_ia cI r4 40 O]) (wr := [hs_ia cI h1 40 g]) (As := [hs_V x, hs_V y, hs_V (g i), hs_V i]) (rest := []) C (c_X3_place l D cI cO r0 r1 r2 r3 r4 ct F L T O x y (g i) i hF hLb hT hO (by omega) (by omega) (by omega) (by omega) (by omega)) 3 0 rfl rfl rfl (cwV 4 C.1.2.2.2.2 gX3_findOwnedBy_X3_place rfl rfl rfl (by decide +kernel) ⟨Nat.le_of_ble_eq_true rfl, Nat.le_of_ble_eq_true rfl⟩) rfl rfl (Nat.le_of_ble_eq_true rfl) dX3_findOwnedBy_83 ⟨Nat.le_of_ble_eq_true rfl, Nat.le_of_ble_eq_true rfl⟩ (fun uu41 hp => ?_)
                    refine hs_re0 (w' := [hs_ob r0 3 [.ref r1, .ref r2, .ref r3, .ref r4, hs_V (pu_place x y (g i) i (ct, F, L, T, O)).1], hs_ia cI r1 40 (pu_place x y (g i) i (ct, F, L, T, O)).2.1, hs_ia cI r2 40 (pu_place x y (g i) i (ct, F, L, T, O)).2.2.1, hs_ia cI r3 40 (pu_place x y (g i) i (ct, F, L, T, O)).2.2.2.1, hs_ia cI r4 40 (pu_place x y (g i) i (ct, F, L, T, O)).2.2.2.2, hs_ia cI h1 40 g]) [0, 1, 2, 3, 4, 5] rfl (by decide) ?_
                    refine hs_cast (ws' := [hs_ob r0 3 [.ref r1, .ref r2, .ref r3, .ref r4, hs_V (pu_fob g i a b (ct, F, L, T, O)).1], hs_ia cI r1 40 (pu_fob g i a b (ct, F, L, T, O)).2.1, hs_ia cI r2 40 (pu_fob g i a b (ct, F, L, T, O)).2.2.1, hs_ia cI r3 40 (pu_fob g i a b (ct, F, L, T, O)).2.2.2.1, hs_ia cI r4 40 (pu_fob g i a b (ct, F, L, T, O)).2.2.2.2, hs_ia cI h1 40 g]) ?_ rfl rfl rfl (by unfold pu_fob; rw [hfo, if_neg (show ¬ (a < x ∧ g (x - 1) = g i) by omega), hfl])
                    exact hret _ _ () trivial dX3_findOwnedBy_86
                  ·
                    refine hs_iinc (lv' := [(0, .ref r0), (1, hs_V i), (2, .ref h1), (3, hs_V a), (4, hs_V b), (5, hs_V x), (6, hs_V (y + 1))]) C dX3_findOwnedBy_68 6 rfl (by decide) [1, 2, 3, 4, 5, 6, 0] rfl ?_
                    refine hs_goto (tgt := 49) C dX3_findOwnedBy_71 (by decide) ?_
                    exact ih33 (y + 1) (by omega) ((hs_wh_step (P := pu_flP g i b) (f := fun x => x + 1) (n := k) (x := y) ⟨by omega, by omega⟩).symm.trans hM2) (by omega)
            exact Lp32 ((b - i : Int).toNat + 1) i (by omega) (rfl) (by omega)
          ·
            refine hs_aload_n C dX3_findOwnedBy_33 rfl 2 rfl ?_
            refine hs_iload C dX3_findOwnedBy_34 5 rfl ?_
            refine hs_iconst C dX3_findOwnedBy_36 ?_
            refine hs_isub C dX3_findOwnedBy_37 ?_
            refine hs_iald C 5 rfl (by omega) dX3_findOwnedBy_38 ?_
            have b42 := hg (x - 1)
            refine hs_aload_n C dX3_findOwnedBy_39 rfl 2 rfl ?_
            refine hs_iload_n C dX3_findOwnedBy_40 rfl 1 rfl ?_
            refine hs_iald C 5 rfl (by omega) dX3_findOwnedBy_41 ?_
            have b43 := hg i
            refine hs_icmp_ne (tgt := 46) C dX3_findOwnedBy_42 (by decide) (by omega) (by omega) (fun c44 => ?_) (fun c44 => ?_)
            ·
              refine hs_iload_n C dX3_findOwnedBy_46 rfl 1 rfl ?_
              refine hs_istore (lv' := [(0, .ref r0), (1, hs_V i), (2, .ref h1), (3, hs_V a), (4, hs_V b), (5, hs_V x), (6, hs_V i)]) C dX3_findOwnedBy_47 (by decide) [1, 2, 3, 4, 5, 6, 0] rfl ?_
              have Lp45 : ∀ (k : Nat) (y : Int), (i ≤ y ∧ y ≤ b) → (hs_wh (pu_flP g i b) (fun x => x + 1) k y = pu_fl g i b) → (b - y < (k : Int)) → hs_J p l e ({ frames := 3, cells := 0, slots := 0, locals := 71 } : Room) s m args below meth c D A H0 7 0 0 Q 49 [(0, .ref r0), (1, hs_V i), (2, .ref h1), (3, hs_V a), (4, hs_V b), (5, hs_V x), (6, hs_V y)] [] [hs_ob r0 3 [.ref r1, .ref r2, .ref r3, .ref r4, hs_V ct], hs_ia cI r1 40 F, hs_ia cI r2 40 L, hs_ia cI r3 40 T, hs_ia cI r4 40 O, hs_ia cI h1 40 g] := by
                intro k
                induction k with
                | zero =>
                  intro y hy hM2 hk
                  exact absurd hk (by omega)
                | succ k ih =>
                  intro y hy hM2 hk
                  have ih46 := ih
                  refine hs_iload C dX3_findOwnedBy_49 6 rfl ?_
                  refine hs_iload C dX3_findOwnedBy_51 4 rfl ?_
                  refine hs_icmp_ge (tgt := 74) C dX3_findOwnedBy_53 (by decide) (by omega) (by omega) (fun c47 => ?_) (fun c47 => ?_)
                  ·
                    have hfl : pu_fl g i b = y := by rw [← hM2, hs_wh_done (show ¬ pu_flP g i b y by unfold pu_flP; omega)]
                    have hgi := hg i
                    refine hs_aload_n C dX3_findOwnedBy_74 rfl 0 rfl ?_
                    refine hs_iload C dX3_findOwnedBy_75 5 rfl ?_
                    refine hs_iload C dX3_findOwnedBy_77 6 rfl ?_
                    refine hs_aload_n C dX3_findOwnedBy_79 rfl 2 rfl ?_
                    refine hs_iload_n C dX3_findOwnedBy_80 rfl 1 rfl ?_
                    refine hs_iald C 5 rfl (by omega) dX3_findOwnedBy_81 ?_
                    have b48 := hg i
                    refine hs_iload_n C dX3_findOwnedBy_82 rfl 1 rfl ?_
                    refine hs_callVv (win := [hs_ob r0 3 [.ref r1, .ref r2, .ref r3, .ref r4, hs_V ct], hs_ia cI r1 40 F, hs_ia cI r2 40 L, hs_ia cI r3 40 T, hs_ia cI r4 40 O]) (wr := [hs_ia cI h1 40 g]) (As := [hs_V x, hs_V y, hs_V (g i), hs_V i]) (rest := []) C (c_X3_place l D cI cO r0 r1 r2 r3 r4 ct F L T O x y (g i) i hF hLb hT hO (by omega) (by omega) (by omega) (by omega) (by omega)) 3 0 rfl rfl rfl (cwV 4 C.1.2.2.2.2 gX3_findOwnedBy_X3_place rfl rfl rfl (by decide +kernel) ⟨Nat.le_of_ble_eq_true rfl, Nat.le_of_ble_eq_true rfl⟩) rfl rfl (Nat.le_of_ble_eq_true rfl) dX3_findOwnedBy_83 ⟨Nat.le_of_ble_eq_true rfl, Nat.le_of_ble_eq_true rfl⟩ (fun uu49 hp => ?_)
                    refine hs_re0 (w' := [hs_ob r0 3 [.ref r1, .ref r2, .ref r3, .ref r4, hs_V (pu_place x y (g i) i (ct, F, L, T, O)).1], hs_ia cI r1 40 (pu_place x y (g i) i (ct, F, L, T, O)).2.1, hs_ia cI r2 40 (pu_place x y (g i) i (ct, F, L, T, O)).2.2.1, hs_ia cI r3 40 (pu_place x y (g i) i (ct, F, L, T, O)).2.2.2.1, hs_ia cI r4 40 (pu_place x y (g i) i (ct, F, L, T, O)).2.2.2.2, hs_ia cI h1 40 g]) [0, 1, 2, 3, 4, 5] rfl (by decide) ?_
                    refine hs_cast (ws' := [hs_ob r0 3 [.ref r1, .ref r2, .ref r3, .ref r4, hs_V (pu_fob g i a b (ct, F, L, T, O)).1], hs_ia cI r1 40 (pu_fob g i a b (ct, F, L, T, O)).2.1, hs_ia cI r2 40 (pu_fob g i a b (ct, F, L, T, O)).2.2.1, hs_ia cI r3 40 (pu_fob g i a b (ct, F, L, T, O)).2.2.2.1, hs_ia cI r4 40 (pu_fob g i a b (ct, F, L, T, O)).2.2.2.2, hs_ia cI h1 40 g]) ?_ rfl rfl rfl (by unfold pu_fob; rw [hfo, if_neg (show ¬ (a < x ∧ g (x - 1) = g i) by omega), hfl])
                    exact hret _ _ () trivial dX3_findOwnedBy_86
                  ·
                    refine hs_aload_n C dX3_findOwnedBy_56 rfl 2 rfl ?_
                    refine hs_iload C dX3_findOwnedBy_57 6 rfl ?_
                    refine hs_iconst C dX3_findOwnedBy_59 ?_
                    refine hs_iadd C dX3_findOwnedBy_60 ?_
                    refine hs_iald C 5 rfl (by omega) dX3_findOwnedBy_61 ?_
                    have b50 := hg (y + 1)
                    refine hs_aload_n C dX3_findOwnedBy_62 rfl 2 rfl ?_
                    refine hs_iload_n C dX3_findOwnedBy_63 rfl 1 rfl ?_
                    refine hs_iald C 5 rfl (by omega) dX3_findOwnedBy_64 ?_
                    have b51 := hg i
                    refine hs_icmp_lt (tgt := 74) C dX3_findOwnedBy_65 (by decide) (by omega) (by omega) (fun c52 => ?_) (fun c52 => ?_)
                    ·
                      have hfl : pu_fl g i b = y := by rw [← hM2, hs_wh_done (show ¬ pu_flP g i b y by unfold pu_flP; omega)]
                      have hgi := hg i
                      refine hs_aload_n C dX3_findOwnedBy_74 rfl 0 rfl ?_
                      refine hs_iload C dX3_findOwnedBy_75 5 rfl ?_
                      refine hs_iload C dX3_findOwnedBy_77 6 rfl ?_
                      refine hs_aload_n C dX3_findOwnedBy_79 rfl 2 rfl ?_
                      refine hs_iload_n C dX3_findOwnedBy_80 rfl 1 rfl ?_
                      refine hs_iald C 5 rfl (by omega) dX3_findOwnedBy_81 ?_
                      have b53 := hg i
                      refine hs_iload_n C dX3_findOwnedBy_82 rfl 1 rfl ?_
                      refine hs_callVv (win := [hs_ob r0 3 [.ref r1, .ref r2, .ref r3, .ref r4, hs_V ct], hs_ia cI r1 40 F, hs_ia cI r2 40 L, hs_ia cI r3 40 T, hs_ia cI r4 40 O]) (wr := [hs_ia cI h1 40 g]) (As := [hs_V x, hs_V y, hs_V (g i), hs_V i]) (rest := []) C (c_X3_place l D cI cO r0 r1 r2 r3 r4 ct F L T O x y (g i) i hF hLb hT hO (by omega) (by omega) (by omega) (by omega) (by omega)) 3 0 rfl rfl rfl (cwV 4 C.1.2.2.2.2 gX3_findOwnedBy_X3_place rfl rfl rfl (by decide +kernel) ⟨Nat.le_of_ble_eq_true rfl, Nat.le_of_ble_eq_true rfl⟩) rfl rfl (Nat.le_of_ble_eq_true rfl) dX3_findOwnedBy_83 ⟨Nat.le_of_ble_eq_true rfl, Nat.le_of_ble_eq_true rfl⟩ (fun uu54 hp => ?_)
                      refine hs_re0 (w' := [hs_ob r0 3 [.ref r1, .ref r2, .ref r3, .ref r4, hs_V (pu_place x y (g i) i (ct, F, L, T, O)).1], hs_ia cI r1 40 (pu_place x y (g i) i (ct, F, L, T, O)).2.1, hs_ia cI r2 40 (pu_place x y (g i) i (ct, F, L, T, O)).2.2.1, hs_ia cI r3 40 (pu_place x y (g i) i (ct, F, L, T, O)).2.2.2.1, hs_ia cI r4 40 (pu_place x y (g i) i (ct, F, L, T, O)).2.2.2.2, hs_ia cI h1 40 g]) [0, 1, 2, 3, 4, 5] rfl (by decide) ?_
                      refine hs_cast (ws' := [hs_ob r0 3 [.ref r1, .ref r2, .ref r3, .ref r4, hs_V (pu_fob g i a b (ct, F, L, T, O)).1], hs_ia cI r1 40 (pu_fob g i a b (ct, F, L, T, O)).2.1, hs_ia cI r2 40 (pu_fob g i a b (ct, F, L, T, O)).2.2.1, hs_ia cI r3 40 (pu_fob g i a b (ct, F, L, T, O)).2.2.2.1, hs_ia cI r4 40 (pu_fob g i a b (ct, F, L, T, O)).2.2.2.2, hs_ia cI h1 40 g]) ?_ rfl rfl rfl (by unfold pu_fob; rw [hfo, if_neg (show ¬ (a < x ∧ g (x - 1) = g i) by omega), hfl])
                      exact hret _ _ () trivial dX3_findOwnedBy_86
                    ·
                      refine hs_iinc (lv' := [(0, .ref r0), (1, hs_V i), (2, .ref h1), (3, hs_V a), (4, hs_V b), (5, hs_V x), (6, hs_V (y + 1))]) C dX3_findOwnedBy_68 6 rfl (by decide) [1, 2, 3, 4, 5, 6, 0] rfl ?_
                      refine hs_goto (tgt := 49) C dX3_findOwnedBy_71 (by decide) ?_
                      exact ih46 (y + 1) (by omega) ((hs_wh_step (P := pu_flP g i b) (f := fun x => x + 1) (n := k) (x := y) ⟨by omega, by omega⟩).symm.trans hM2) (by omega)
              exact Lp45 ((b - i : Int).toNat + 1) i (by omega) (rfl) (by omega)
            ·
              refine hs_cast (ws' := [hs_ob r0 3 [.ref r1, .ref r2, .ref r3, .ref r4, hs_V (pu_fob g i a b (ct, F, L, T, O)).1], hs_ia cI r1 40 (pu_fob g i a b (ct, F, L, T, O)).2.1, hs_ia cI r2 40 (pu_fob g i a b (ct, F, L, T, O)).2.2.1, hs_ia cI r3 40 (pu_fob g i a b (ct, F, L, T, O)).2.2.2.1, hs_ia cI r4 40 (pu_fob g i a b (ct, F, L, T, O)).2.2.2.2, hs_ia cI h1 40 g]) ?_ rfl rfl rfl (by unfold pu_fob; rw [hfo, if_pos (show a < x ∧ g (x - 1) = g i by omega)])
              exact hret _ _ () trivial dX3_findOwnedBy_45
        ·
          refine hs_iinc (lv' := [(0, .ref r0), (1, hs_V i), (2, .ref h1), (3, hs_V a), (4, hs_V b), (5, hs_V (x + (-1)))]) C dX3_findOwnedBy_21 5 rfl (by decide) [1, 2, 3, 4, 5, 0] rfl ?_
          refine hs_goto (tgt := 3) C dX3_findOwnedBy_24 (by decide) ?_
          exact ih2 (x + (-1)) (by omega) ((hs_wh_step (P := pu_foP g i a) (f := fun x => x + (-1)) (n := k) (x := x) ⟨by omega, by omega⟩).symm.trans hM) (by omega)
  exact Lp1 ((i - a : Int).toNat + 1) i (by omega) (rfl) (by omega)

set_option maxHeartbeats 4000000 in
set_option maxRecDepth 100000 in
theorem c_X3_find (l : Launch) (D : va_G) (cI cO : ClassId) (r0 : Nat) (r1 : Nat) (r2 : Nat) (r3 : Nat) (r4 : Nat) (ct : Int) (F : Int → Int) (L : Int → Int) (T : Int → Int) (O : Int → Int) (h1 : Nat) (g : Int → Int) (a : Int) (b : Int) (hF : ∀ k, 0 ≤ F k ∧ F k ≤ 39) (hLb : ∀ k, 0 ≤ L k ∧ L k ≤ 39) (hT : ∀ k, 0 ≤ T k ∧ T k ≤ 50) (hO : ∀ k, 0 ≤ O k ∧ O k ≤ 39) (hg : ∀ k, 0 ≤ g k ∧ g k ≤ 50) (hab : 0 ≤ a ∧ a ≤ b + 1 ∧ b ≤ 39) : hs_Mv l D cI cO yX3_find wsX3_find ({ frames := 4, cells := 0, slots := 0, locals := 97 } : Room) [.ref r0, .ref h1, hs_V a, hs_V b] [hs_ob r0 3 [.ref r1, .ref r2, .ref r3, .ref r4, hs_V ct], hs_ia cI r1 40 F, hs_ia cI r2 40 L, hs_ia cI r3 40 T, hs_ia cI r4 40 O, hs_ia cI h1 40 g] (fun (_ : Unit) => True) (fun _ => [hs_ob r0 3 [.ref r1, .ref r2, .ref r3, .ref r4, hs_V (pu_find g a b (ct, F, L, T, O)).1], hs_ia cI r1 40 (pu_find g a b (ct, F, L, T, O)).2.1, hs_ia cI r2 40 (pu_find g a b (ct, F, L, T, O)).2.2.1, hs_ia cI r3 40 (pu_find g a b (ct, F, L, T, O)).2.2.2.1, hs_ia cI r4 40 (pu_find g a b (ct, F, L, T, O)).2.2.2.2, hs_ia cI h1 40 g]) 0 0 := by
  refine hs_enterV (cc := cX3_find) (maxL := 5) (by decide +kernel) rfl (Nat.le_of_ble_eq_true rfl) (fun p e s m args below meth c A H0 Q C hin2 hret => ?_)
  have f24 := C.1.2.2.2.2 (.fieldLink RX3 24 "HistogramStairs$Rectangles" "count" "I") (by decide +kernel)
  have u3 : ∀ w ∈ wsX30, w ∈ wsX3_find := by decide +kernel
  refine hs_lvs (lv' := [(0, .ref r0), (1, .ref h1), (2, hs_V a), (3, hs_V b)]) [0, 1, 2, 3] rfl ?_
  refine hs_aload_n C dX3_find_0 rfl 0 rfl ?_
  refine hs_iconst C dX3_find_1 ?_
  refine hs_put (ty := .int) (ws' := [hs_ob r0 3 [.ref r1, .ref r2, .ref r3, .ref r4, hs_V 0], hs_ia cI r1 40 F, hs_ia cI r2 40 L, hs_ia cI r3 40 T, hs_ia cI r4 40 O, hs_ia cI h1 40 g]) C u3 tyX3 tyX3_ok nmX3 0 rfl rfl 4 (by decide) f24 rfl rfl (by decide +kernel) rfl rfl (Nat.le_of_ble_eq_true rfl) rfl dX3_find_2 ?_
  refine hs_iload_n C dX3_find_5 rfl 2 rfl ?_
  refine hs_istore (lv' := [(0, .ref r0), (1, .ref h1), (2, hs_V a), (3, hs_V b), (4, hs_V a)]) C dX3_find_6 (by decide) [1, 2, 3, 4, 0] rfl ?_
  have Lp1 : ∀ (k : Nat) (i : Int) (c1 : Int) (F1 : Int → Int) (L1 : Int → Int) (T1 : Int → Int) (O1 : Int → Int), (a ≤ i ∧ i ≤ b + 1) → (0 ≤ c1 ∧ c1 ≤ i - a) → (∀ k, 0 ≤ F1 k ∧ F1 k ≤ 39) → (∀ k, 0 ≤ L1 k ∧ L1 k ≤ 39) → (∀ k, 0 ≤ T1 k ∧ T1 k ≤ 50) → (∀ k, 0 ≤ O1 k ∧ O1 k ≤ 39) → (hs_up (fun i x => if g i ≤ 0 then x else pu_fob g i a b x) i (b + 1) (c1, F1, L1, T1, O1) = pu_find g a b (ct, F, L, T, O)) → (b + 1 - i < (k : Int)) → hs_J p l e ({ frames := 4, cells := 0, slots := 0, locals := 97 } : Room) s m args below meth c D A H0 5 0 0 Q 8 [(0, .ref r0), (1, .ref h1), (2, hs_V a), (3, hs_V b), (4, hs_V i)] [] [hs_ob r0 3 [.ref r1, .ref r2, .ref r3, .ref r4, hs_V c1], hs_ia cI r1 40 F1, hs_ia cI r2 40 L1, hs_ia cI r3 40 T1, hs_ia cI r4 40 O1, hs_ia cI h1 40 g] := by
    intro k
    induction k with
    | zero =>
      intro i c1 F1 L1 T1 O1 hi hc1 hF1 hL1 hT1 hO1 hL hk
      exact absurd hk (by omega)
    | succ k ih =>
      intro i c1 F1 L1 T1 O1 hi hc1 hF1 hL1 hT1 hO1 hL hk
      have ih2 := ih
      refine hs_iload C dX3_find_8 4 rfl ?_
      refine hs_iload_n C dX3_find_10 rfl 3 rfl ?_
      refine hs_icmp_gt (tgt := 36) C dX3_find_11 (by decide) (by omega) (by omega) (fun c3 => ?_) (fun c3 => ?_)
      ·
        refine hs_cast (ws' := [hs_ob r0 3 [.ref r1, .ref r2, .ref r3, .ref r4, hs_V (pu_find g a b (ct, F, L, T, O)).1], hs_ia cI r1 40 (pu_find g a b (ct, F, L, T, O)).2.1, hs_ia cI r2 40 (pu_find g a b (ct, F, L, T, O)).2.2.1, hs_ia cI r3 40 (pu_find g a b (ct, F, L, T, O)).2.2.2.1, hs_ia cI r4 40 (pu_find g a b (ct, F, L, T, O)).2.2.2.2, hs_ia cI h1 40 g]) ?_ rfl rfl rfl (by rw [← hL, hs_up_done (by omega)])
        exact hret _ _ () trivial dX3_find_36
      ·
        refine hs_aload_n C dX3_find_14 rfl 1 rfl ?_
        refine hs_iload C dX3_find_15 4 rfl ?_
        refine hs_iald C 5 rfl (by omega) dX3_find_17 ?_
        have b4 := hg i
        refine hs_if_le (tgt := 30) C dX3_find_18 (by decide) (by omega) (fun c5 => ?_) (fun c5 => ?_)
        ·
          refine hs_iinc (lv' := [(0, .ref r0), (1, .ref h1), (2, hs_V a), (3, hs_V b), (4, hs_V (i + 1))]) C dX3_find_30 4 rfl (by decide) [1, 2, 3, 4, 0] rfl ?_
          refine hs_goto (tgt := 8) C dX3_find_33 (by decide) ?_
          exact ih2 (i + 1) c1 F1 L1 T1 O1 (by omega) (by omega) hF1 hL1 hT1 hO1 (by have hz := (hs_up_step (by omega)).symm.trans hL; (try dsimp only at hz); first | exact hz | (split at hz <;> first | exact hz | (exfalso; omega) | (split at hz <;> first | exact hz | (exfalso; omega) | (split at hz <;> first | exact hz | (exfalso; omega))))) (by omega)
        ·
          refine hs_aload_n C dX3_find_21 rfl 0 rfl ?_
          refine hs_iload C dX3_find_22 4 rfl ?_
          refine hs_aload_n C dX3_find_24 rfl 1 rfl ?_
          refine hs_iload_n C dX3_find_25 rfl 2 rfl ?_
          refine hs_iload_n C dX3_find_26 rfl 3 rfl ?_
          refine hs_callVv (win := [hs_ob r0 3 [.ref r1, .ref r2, .ref r3, .ref r4, hs_V c1], hs_ia cI r1 40 F1, hs_ia cI r2 40 L1, hs_ia cI r3 40 T1, hs_ia cI r4 40 O1, hs_ia cI h1 40 g]) (wr := []) (As := [hs_V i, .ref h1, hs_V a, hs_V b]) (rest := []) C (c_X3_findOwnedBy l D cI cO r0 r1 r2 r3 r4 c1 F1 L1 T1 O1 h1 g i a b hF1 hL1 hT1 hO1 hg (by omega) (by omega)) 3 0 rfl rfl rfl (cwV 4 C.1.2.2.2.2 gX3_find_X3_findOwnedBy rfl rfl rfl (by decide +kernel) ⟨Nat.le_of_ble_eq_true rfl, Nat.le_of_ble_eq_true rfl⟩) rfl rfl (Nat.le_of_ble_eq_true rfl) dX3_find_27 ⟨Nat.le_of_ble_eq_true rfl, Nat.le_of_ble_eq_true rfl⟩ (fun uu6 hp => ?_)
          refine hs_re0 (w' := [hs_ob r0 3 [.ref r1, .ref r2, .ref r3, .ref r4, hs_V (pu_fob g i a b (c1, F1, L1, T1, O1)).1], hs_ia cI r1 40 (pu_fob g i a b (c1, F1, L1, T1, O1)).2.1, hs_ia cI r2 40 (pu_fob g i a b (c1, F1, L1, T1, O1)).2.2.1, hs_ia cI r3 40 (pu_fob g i a b (c1, F1, L1, T1, O1)).2.2.2.1, hs_ia cI r4 40 (pu_fob g i a b (c1, F1, L1, T1, O1)).2.2.2.2, hs_ia cI h1 40 g]) [0, 1, 2, 3, 4, 5] rfl (by decide) ?_
          have hfb := pu_fob_bd (g := g) (i := i) (a := a) (b := b) (x := (c1, F1, L1, T1, O1)) hg (by omega) hF1 hL1 hT1 hO1
          have hfc := pu_fob_ct g i a b (c1, F1, L1, T1, O1)
          simp only [] at hfc
          refine hs_iinc (lv' := [(0, .ref r0), (1, .ref h1), (2, hs_V a), (3, hs_V b), (4, hs_V (i + 1))]) C dX3_find_30 4 rfl (by decide) [1, 2, 3, 4, 0] rfl ?_
          refine hs_goto (tgt := 8) C dX3_find_33 (by decide) ?_
          exact ih2 (i + 1) (pu_fob g i a b (c1, F1, L1, T1, O1)).1 (pu_fob g i a b (c1, F1, L1, T1, O1)).2.1 (pu_fob g i a b (c1, F1, L1, T1, O1)).2.2.1 (pu_fob g i a b (c1, F1, L1, T1, O1)).2.2.2.1 (pu_fob g i a b (c1, F1, L1, T1, O1)).2.2.2.2 (by omega) (by omega) hfb.1 (hfb.2.1) (hfb.2.2.1) (hfb.2.2.2) (by have hz := (hs_up_step (by omega)).symm.trans hL; (try dsimp only at hz); first | exact hz | (split at hz <;> first | exact hz | (exfalso; omega) | (split at hz <;> first | exact hz | (exfalso; omega) | (split at hz <;> first | exact hz | (exfalso; omega))))) (by omega)
  exact Lp1 ((b + 1 - a : Int).toNat + 1) a 0 F L T O (by omega) (by omega) hF hLb hT hO (rfl) (by omega)

set_option maxHeartbeats 4000000 in
set_option maxRecDepth 100000 in
theorem c_X3_countOwners (l : Launch) (D : va_G) (cI cO : ClassId) (r0 : Nat) (r1 : Nat) (r2 : Nat) (r3 : Nat) (r4 : Nat) (ct : Int) (F : Int → Int) (L : Int → Int) (T : Int → Int) (O : Int → Int) (q : Int) (h1 : Nat) (g : Int → Int) (hF : ∀ k, 0 ≤ F k ∧ F k ≤ 39) (hLb : ∀ k, 0 ≤ L k ∧ L k ≤ 39) (hT : ∀ k, 0 ≤ T k ∧ T k ≤ 50) (hO : ∀ k, 0 ≤ O k ∧ O k ≤ 39) (hg : ∀ k, 0 ≤ g k ∧ g k ≤ 50) (hq : 0 ≤ q ∧ q < 40) : hs_M l D cI cO yX3_countOwners wsX3_countOwners ({ frames := 0, cells := 0, slots := 0, locals := 0 } : Room) [.ref r0, hs_V q, .ref h1] [hs_ob r0 3 [.ref r1, .ref r2, .ref r3, .ref r4, hs_V ct], hs_ia cI r1 40 F, hs_ia cI r2 40 L, hs_ia cI r3 40 T, hs_ia cI r4 40 O, hs_ia cI h1 40 g] (fun r (_ : Unit) => r = hs_I (pu_own g (ct, F, L, T, O) q)) (fun _ => [hs_ob r0 3 [.ref r1, .ref r2, .ref r3, .ref r4, hs_V ct], hs_ia cI r1 40 F, hs_ia cI r2 40 L, hs_ia cI r3 40 T, hs_ia cI r4 40 O, hs_ia cI h1 40 g]) 0 0 := by
  refine hs_enter (cc := cX3_countOwners) (maxL := 5) (by decide +kernel) rfl (Nat.le_of_ble_eq_true rfl) (fun p e s m args below meth c A H0 Q C hret => ?_)
  have f9 := C.1.2.2.2.2 (.fieldLink RX3 9 "HistogramStairs$Rectangles" "firsts" "[I") (by decide +kernel)
  have u3 : ∀ w ∈ wsX30, w ∈ wsX3_countOwners := by decide +kernel
  have f15 := C.1.2.2.2.2 (.fieldLink RX3 15 "HistogramStairs$Rectangles" "lasts" "[I") (by decide +kernel)
  have f18 := C.1.2.2.2.2 (.fieldLink RX3 18 "HistogramStairs$Rectangles" "tops" "[I") (by decide +kernel)
  refine hs_lvs (lv' := [(0, .ref r0), (1, hs_V q), (2, .ref h1)]) [0, 1, 2] rfl ?_
  refine hs_iconst C dX3_countOwners_0 ?_
  refine hs_istore_n (lv' := [(0, .ref r0), (1, hs_V q), (2, .ref h1), (3, hs_V 0)]) C dX3_countOwners_1 rfl (by decide) [1, 2, 3, 0] rfl ?_
  refine hs_aload_n C dX3_countOwners_2 rfl 0 rfl ?_
  refine hs_get C u3 0 rfl rfl 0 (by decide) f9 rfl rfl dX3_countOwners_3 ?_
  refine hs_iload_n C dX3_countOwners_6 rfl 1 rfl ?_
  refine hs_iald C 1 rfl (by omega) dX3_countOwners_7 ?_
  have b1 := hF q
  refine hs_istore (lv' := [(0, .ref r0), (1, hs_V q), (2, .ref h1), (3, hs_V 0), (4, hs_V (F q))]) C dX3_countOwners_8 (by decide) [1, 2, 3, 4, 0] rfl ?_
  have Lp2 : ∀ (k : Nat) (i : Int) (y : Int), (0 ≤ i ∧ i ≤ 40) → (hs_up (fun i y => if g i = T q then y + 1 else y) i (L q + 1) y = pu_own g (ct, F, L, T, O) q) → (40 - i < (k : Int)) → hs_J p l e ({ frames := 0, cells := 0, slots := 0, locals := 0 } : Room) s m args below meth c D A H0 5 0 0 Q 10 [(0, .ref r0), (1, hs_V q), (2, .ref h1), (3, hs_V y), (4, hs_V i)] [] [hs_ob r0 3 [.ref r1, .ref r2, .ref r3, .ref r4, hs_V ct], hs_ia cI r1 40 F, hs_ia cI r2 40 L, hs_ia cI r3 40 T, hs_ia cI r4 40 O, hs_ia cI h1 40 g] := by
    intro k
    induction k with
    | zero =>
      intro i y hi hL hk
      exact absurd hk (by omega)
    | succ k ih =>
      intro i y hi hL hk
      have ih3 := ih
      refine hs_iload C dX3_countOwners_10 4 rfl ?_
      refine hs_aload_n C dX3_countOwners_12 rfl 0 rfl ?_
      refine hs_get C u3 0 rfl rfl 1 (by decide) f15 rfl rfl dX3_countOwners_13 ?_
      refine hs_iload_n C dX3_countOwners_16 rfl 1 rfl ?_
      refine hs_iald C 2 rfl (by omega) dX3_countOwners_17 ?_
      have b4 := hLb q
      refine hs_icmp_gt (tgt := 43) C dX3_countOwners_18 (by decide) (by omega) (by omega) (fun c5 => ?_) (fun c5 => ?_)
      ·
        refine hs_iload_n C dX3_countOwners_43 rfl 3 rfl ?_
        exact hret _ _ _ () (by rw [← hL, hs_up_done (by omega)]) dX3_countOwners_44 rfl
      ·
        refine hs_aload_n C dX3_countOwners_21 rfl 2 rfl ?_
        refine hs_iload C dX3_countOwners_22 4 rfl ?_
        refine hs_iald C 5 rfl (by omega) dX3_countOwners_24 ?_
        have b6 := hg i
        refine hs_aload_n C dX3_countOwners_25 rfl 0 rfl ?_
        refine hs_get C u3 0 rfl rfl 2 (by decide) f18 rfl rfl dX3_countOwners_26 ?_
        refine hs_iload_n C dX3_countOwners_29 rfl 1 rfl ?_
        refine hs_iald C 3 rfl (by omega) dX3_countOwners_30 ?_
        have b7 := hT q
        refine hs_icmp_ne (tgt := 37) C dX3_countOwners_31 (by decide) (by omega) (by omega) (fun c8 => ?_) (fun c8 => ?_)
        ·
          refine hs_iinc (lv' := [(0, .ref r0), (1, hs_V q), (2, .ref h1), (3, hs_V y), (4, hs_V (i + 1))]) C dX3_countOwners_37 4 rfl (by decide) [1, 2, 3, 4, 0] rfl ?_
          refine hs_goto (tgt := 10) C dX3_countOwners_40 (by decide) ?_
          exact ih3 (i + 1) y (by omega) (by have hz := (hs_up_step (by omega)).symm.trans hL; (try dsimp only at hz); first | exact hz | (split at hz <;> first | exact hz | (exfalso; omega) | (split at hz <;> first | exact hz | (exfalso; omega) | (split at hz <;> first | exact hz | (exfalso; omega))))) (by omega)
        ·
          refine hs_iinc (lv' := [(0, .ref r0), (1, hs_V q), (2, .ref h1), (3, hs_V (y + 1)), (4, hs_V i)]) C dX3_countOwners_34 3 rfl (by decide) [1, 2, 3, 0, 4] rfl ?_
          refine hs_iinc (lv' := [(0, .ref r0), (1, hs_V q), (2, .ref h1), (3, hs_V (y + 1)), (4, hs_V (i + 1))]) C dX3_countOwners_37 4 rfl (by decide) [1, 2, 3, 4, 0] rfl ?_
          refine hs_goto (tgt := 10) C dX3_countOwners_40 (by decide) ?_
          exact ih3 (i + 1) (y + 1) (by omega) (by have hz := (hs_up_step (by omega)).symm.trans hL; (try dsimp only at hz); first | exact hz | (split at hz <;> first | exact hz | (exfalso; omega) | (split at hz <;> first | exact hz | (exfalso; omega) | (split at hz <;> first | exact hz | (exfalso; omega))))) (by omega)
  exact Lp2 ((40 - (F q) : Int).toNat + 1) (F q) 0 (by omega) (rfl) (by omega)
