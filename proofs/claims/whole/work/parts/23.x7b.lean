set_option maxHeartbeats 4000000 in
set_option maxRecDepth 100000 in
theorem c_X7_remember_8 (l : Launch) (D : va_G) (cI cO : ClassId) (y0 : Nat) (y1 : Nat) (y2 : Nat) (y3 : Nat) (y4 : Nat) (y5 : Nat) (y6 : Nat) (y7 : Nat) (y8 : Nat) (y9 : Nat) (fl : Int) (pt : Int) (h : Int → Int) (pa : Int → Int) (hh : ∀ k, 0 ≤ h k ∧ h k ≤ 50) (hpa : ∀ k, 0 ≤ pa k ∧ pa k ≤ 50) : hs_Mv l D cI cO yX7_remember wsX7_remember ({ frames := 0, cells := 0, slots := 0, locals := 0 } : Room) [.ref y0] [hs_ob y0 7 [.ref y1, .ref y2, hs_V 8, .ref y3, hs_V fl, .ref y4, .ref y5, .ref y6, .ref y7, hs_V pt, .ref y8, .ref y9], hs_ia cI y1 41 h, hs_ia cI y2 328 pa] (fun (_ : Unit) => True) (fun _ => [hs_ob y0 7 [.ref y1, .ref y2, hs_V 8, .ref y3, hs_V fl, .ref y4, .ref y5, .ref y6, .ref y7, hs_V pt, .ref y8, .ref y9], hs_ia cI y1 41 h, hs_ia cI y2 328 (mo_cpy h (8 - 1) (mo_sh pa))]) 0 0 := by
  refine hs_enterV (cc := cX7_remember) (maxL := 2) (by decide +kernel) rfl (Nat.le_of_ble_eq_true rfl) (fun p e s m args below meth c A H0 Q C hin2 hret => ?_)
  have f49 := C.1.2.2.2.2 (.fieldLink RX7 49 "HistogramStairsModel" "pastMany" "I") (by decide +kernel)
  have u7 : ∀ w ∈ wsX70, w ∈ wsX7_remember := by decide +kernel
  have f13 := C.1.2.2.2.2 (.fieldLink RX7 13 "HistogramStairsModel" "past" "[I") (by decide +kernel)
  have f7 := C.1.2.2.2.2 (.fieldLink RX7 7 "HistogramStairsModel" "h" "[I") (by decide +kernel)
  refine hs_lvs (lv' := [(0, .ref y0)]) [0] rfl ?_
  refine hs_aload_n C dX7_remember_0 rfl 0 rfl ?_
  refine hs_get C u7 0 rfl rfl 2 (by decide) f49 rfl rfl dX7_remember_1 ?_
  refine hs_bipush C dX7_remember_4 (by decide) ?_
  refine hs_icmp_ne (tgt := 49) C dX7_remember_6 (by decide) (by omega) (by omega) (fun c1 => ?_) (fun c1 => ?_)
  ·
    exact absurd c1 (by decide)
  ·
    refine hs_iconst C dX7_remember_9 ?_
    refine hs_istore_n (lv' := [(0, .ref y0), (1, hs_V 0)]) C dX7_remember_10 rfl (by decide) [1, 0] rfl ?_
    have Lp2 : ∀ (k : Nat) (q : Int) (x : Int → Int), (0 ≤ q ∧ q ≤ 287) → (hs_up (fun k x => hs_u x k (x (k + 41))) q 287 x = mo_sh pa) → (287 - q < (k : Int)) → hs_J p l e ({ frames := 0, cells := 0, slots := 0, locals := 0 } : Room) s m args below meth c D A H0 2 0 0 Q 11 [(0, .ref y0), (1, hs_V q)] [] [hs_ob y0 7 [.ref y1, .ref y2, hs_V 8, .ref y3, hs_V fl, .ref y4, .ref y5, .ref y6, .ref y7, hs_V pt, .ref y8, .ref y9], hs_ia cI y1 41 h, hs_ia cI y2 328 x] := by
      intro k
      induction k with
      | zero =>
        intro q x hq hL hk
        exact absurd hk (by omega)
      | succ k ih =>
        intro q x hq hL hk
        have ih3 := ih
        refine hs_iload_n C dX7_remember_11 rfl 1 rfl ?_
        refine hs_sipush C dX7_remember_12 (by decide) ?_
        refine hs_icmp_ge (tgt := 39) C dX7_remember_15 (by decide) (by omega) (by omega) (fun c4 => ?_) (fun c4 => ?_)
        ·
          refine hs_aload_n C dX7_remember_39 rfl 0 rfl ?_
          refine hs_dup C dX7_remember_40 rfl ?_
          refine hs_get C u7 0 rfl rfl 2 (by decide) f49 rfl rfl dX7_remember_41 ?_
          refine hs_iconst C dX7_remember_44 ?_
          refine hs_isub C dX7_remember_45 ?_
          refine hs_put (ty := .int) (ws' := [hs_ob y0 7 [.ref y1, .ref y2, hs_V (8 - 1), .ref y3, hs_V fl, .ref y4, .ref y5, .ref y6, .ref y7, hs_V pt, .ref y8, .ref y9], hs_ia cI y1 41 h, hs_ia cI y2 328 x]) C u7 tyX7 tyX7_ok nmX7 0 rfl rfl 2 (by decide) f49 rfl rfl (by decide +kernel) rfl rfl (Nat.le_of_ble_eq_true rfl) rfl dX7_remember_46 ?_
          refine hs_iconst C dX7_remember_49 ?_
          refine hs_istore_n (lv' := [(0, .ref y0), (1, hs_V 0)]) C dX7_remember_50 rfl (by decide) [1, 0] rfl ?_
          have Lp5 : ∀ (k : Nat) (j : Int) (y : Int → Int), (0 ≤ j ∧ j ≤ 41) → (hs_up (fun k x => hs_u x (41 * (8 - 1) + k) (h k)) j 41 y = mo_cpy h (8 - 1) (mo_sh pa)) → (41 - j < (k : Int)) → hs_J p l e ({ frames := 0, cells := 0, slots := 0, locals := 0 } : Room) s m args below meth c D A H0 2 0 0 Q 51 [(0, .ref y0), (1, hs_V j)] [] [hs_ob y0 7 [.ref y1, .ref y2, hs_V (8 - 1), .ref y3, hs_V fl, .ref y4, .ref y5, .ref y6, .ref y7, hs_V pt, .ref y8, .ref y9], hs_ia cI y1 41 h, hs_ia cI y2 328 y] := by
            intro k
            induction k with
            | zero =>
              intro j y hj hM hk
              exact absurd hk (by omega)
            | succ k ih =>
              intro j y hj hM hk
              have ih6 := ih
              refine hs_iload_n C dX7_remember_51 rfl 1 rfl ?_
              refine hs_bipush C dX7_remember_52 (by decide) ?_
              refine hs_icmp_ge (tgt := 83) C dX7_remember_54 (by decide) (by omega) (by omega) (fun c7 => ?_) (fun c7 => ?_)
              ·
                refine hs_aload_n C dX7_remember_83 rfl 0 rfl ?_
                refine hs_dup C dX7_remember_84 rfl ?_
                refine hs_get C u7 0 rfl rfl 2 (by decide) f49 rfl rfl dX7_remember_85 ?_
                refine hs_iconst C dX7_remember_88 ?_
                refine hs_iadd C dX7_remember_89 ?_
                refine hs_put (ty := .int) (ws' := [hs_ob y0 7 [.ref y1, .ref y2, hs_V ((8 - 1) + 1), .ref y3, hs_V fl, .ref y4, .ref y5, .ref y6, .ref y7, hs_V pt, .ref y8, .ref y9], hs_ia cI y1 41 h, hs_ia cI y2 328 y]) C u7 tyX7 tyX7_ok nmX7 0 rfl rfl 2 (by decide) f49 rfl rfl (by decide +kernel) rfl rfl (Nat.le_of_ble_eq_true rfl) rfl dX7_remember_90 ?_
                refine hs_cast (ws' := [hs_ob y0 7 [.ref y1, .ref y2, hs_V 8, .ref y3, hs_V fl, .ref y4, .ref y5, .ref y6, .ref y7, hs_V pt, .ref y8, .ref y9], hs_ia cI y1 41 h, hs_ia cI y2 328 (mo_cpy h (8 - 1) (mo_sh pa))]) ?_ rfl rfl rfl (by rw [← hM, hs_up_done (by omega)] <;> rfl)
                exact hret _ _ () trivial dX7_remember_93
              ·
                refine hs_aload_n C dX7_remember_57 rfl 0 rfl ?_
                refine hs_get C u7 0 rfl rfl 1 (by decide) f13 rfl rfl dX7_remember_58 ?_
                refine hs_bipush C dX7_remember_61 (by decide) ?_
                refine hs_aload_n C dX7_remember_63 rfl 0 rfl ?_
                refine hs_get C u7 0 rfl rfl 2 (by decide) f49 rfl rfl dX7_remember_64 ?_
                refine hs_imul C dX7_remember_67 ?_
                refine hs_iload_n C dX7_remember_68 rfl 1 rfl ?_
                refine hs_iadd C dX7_remember_69 ?_
                refine hs_aload_n C dX7_remember_70 rfl 0 rfl ?_
                refine hs_get C u7 0 rfl rfl 0 (by decide) f7 rfl rfl dX7_remember_71 ?_
                refine hs_iload_n C dX7_remember_74 rfl 1 rfl ?_
                refine hs_iald C 1 rfl (by omega) dX7_remember_75 ?_
                have b8 := hh j
                refine hs_iast (ws' := [hs_ob y0 7 [.ref y1, .ref y2, hs_V (8 - 1), .ref y3, hs_V fl, .ref y4, .ref y5, .ref y6, .ref y7, hs_V pt, .ref y8, .ref y9], hs_ia cI y1 41 h, hs_ia cI y2 328 (hs_u y ((41 * (8 - 1)) + j) (h j))]) C 2 rfl (by omega) rfl dX7_remember_76 ?_
                refine hs_iinc (lv' := [(0, .ref y0), (1, hs_V (j + 1))]) C dX7_remember_77 1 rfl (by decide) [1, 0] rfl ?_
                refine hs_goto (tgt := 51) C dX7_remember_80 (by decide) ?_
                exact ih6 (j + 1) (hs_u y ((41 * (8 - 1)) + j) (h j)) (by omega) ((hs_up_step (by omega)).symm.trans hM) (by omega)
          exact Lp5 ((41 - 0 : Int).toNat + 1) 0 x (by omega) (by have e : mo_sh pa = x := (by rw [← hL, hs_up_done (by omega)]); rw [e]; rfl) (by omega)
        ·
          refine hs_aload_n C dX7_remember_18 rfl 0 rfl ?_
          refine hs_get C u7 0 rfl rfl 1 (by decide) f13 rfl rfl dX7_remember_19 ?_
          refine hs_iload_n C dX7_remember_22 rfl 1 rfl ?_
          refine hs_aload_n C dX7_remember_23 rfl 0 rfl ?_
          refine hs_get C u7 0 rfl rfl 1 (by decide) f13 rfl rfl dX7_remember_24 ?_
          refine hs_iload_n C dX7_remember_27 rfl 1 rfl ?_
          refine hs_bipush C dX7_remember_28 (by decide) ?_
          refine hs_iadd C dX7_remember_30 ?_
          refine hs_iald C 2 rfl (by omega) dX7_remember_31 ?_
          refine hs_iast (ws' := [hs_ob y0 7 [.ref y1, .ref y2, hs_V 8, .ref y3, hs_V fl, .ref y4, .ref y5, .ref y6, .ref y7, hs_V pt, .ref y8, .ref y9], hs_ia cI y1 41 h, hs_ia cI y2 328 (hs_u x q (x (q + 41)))]) C 2 rfl (by omega) rfl dX7_remember_32 ?_
          refine hs_iinc (lv' := [(0, .ref y0), (1, hs_V (q + 1))]) C dX7_remember_33 1 rfl (by decide) [1, 0] rfl ?_
          refine hs_goto (tgt := 11) C dX7_remember_36 (by decide) ?_
          exact ih3 (q + 1) (hs_u x q (x (q + 41))) (by omega) (by have hz := (hs_up_step (by omega)).symm.trans hL; (try dsimp only at hz); first | exact hz | (split at hz <;> first | exact hz | (exfalso; omega) | (split at hz <;> first | exact hz | (exfalso; omega) | (split at hz <;> first | exact hz | (exfalso; omega))))) (by omega)
    exact Lp2 ((287 - 0 : Int).toNat + 1) 0 pa (by omega) (rfl) (by omega)

set_option maxHeartbeats 4000000 in
set_option maxRecDepth 100000 in
theorem c_X7_remember_n (l : Launch) (D : va_G) (cI cO : ClassId) (y0 : Nat) (y1 : Nat) (y2 : Nat) (y3 : Nat) (y4 : Nat) (y5 : Nat) (y6 : Nat) (y7 : Nat) (y8 : Nat) (y9 : Nat) (pm : Int) (fl : Int) (pt : Int) (h : Int → Int) (pa : Int → Int) (hh : ∀ k, 0 ≤ h k ∧ h k ≤ 50) (hpa : ∀ k, 0 ≤ pa k ∧ pa k ≤ 50) (hpm : 0 ≤ pm ∧ pm < 8) : hs_Mv l D cI cO yX7_remember wsX7_remember ({ frames := 0, cells := 0, slots := 0, locals := 0 } : Room) [.ref y0] [hs_ob y0 7 [.ref y1, .ref y2, hs_V pm, .ref y3, hs_V fl, .ref y4, .ref y5, .ref y6, .ref y7, hs_V pt, .ref y8, .ref y9], hs_ia cI y1 41 h, hs_ia cI y2 328 pa] (fun (_ : Unit) => True) (fun _ => [hs_ob y0 7 [.ref y1, .ref y2, hs_V (pm + 1), .ref y3, hs_V fl, .ref y4, .ref y5, .ref y6, .ref y7, hs_V pt, .ref y8, .ref y9], hs_ia cI y1 41 h, hs_ia cI y2 328 (mo_cpy h pm pa)]) 0 0 := by
  refine hs_enterV (cc := cX7_remember) (maxL := 2) (by decide +kernel) rfl (Nat.le_of_ble_eq_true rfl) (fun p e s m args below meth c A H0 Q C hin2 hret => ?_)
  have f49 := C.1.2.2.2.2 (.fieldLink RX7 49 "HistogramStairsModel" "pastMany" "I") (by decide +kernel)
  have u7 : ∀ w ∈ wsX70, w ∈ wsX7_remember := by decide +kernel
  have f13 := C.1.2.2.2.2 (.fieldLink RX7 13 "HistogramStairsModel" "past" "[I") (by decide +kernel)
  have f7 := C.1.2.2.2.2 (.fieldLink RX7 7 "HistogramStairsModel" "h" "[I") (by decide +kernel)
  refine hs_lvs (lv' := [(0, .ref y0)]) [0] rfl ?_
  refine hs_aload_n C dX7_remember_0 rfl 0 rfl ?_
  refine hs_get C u7 0 rfl rfl 2 (by decide) f49 rfl rfl dX7_remember_1 ?_
  refine hs_bipush C dX7_remember_4 (by decide) ?_
  refine hs_icmp_ne (tgt := 49) C dX7_remember_6 (by decide) (by omega) (by omega) (fun c1 => ?_) (fun c1 => ?_)
  ·
    refine hs_iconst C dX7_remember_49 ?_
    refine hs_istore_n (lv' := [(0, .ref y0), (1, hs_V 0)]) C dX7_remember_50 rfl (by decide) [1, 0] rfl ?_
    have Lp2 : ∀ (k : Nat) (j : Int) (y : Int → Int), (0 ≤ j ∧ j ≤ 41) → (hs_up (fun k x => hs_u x (41 * pm + k) (h k)) j 41 y = mo_cpy h pm pa) → (41 - j < (k : Int)) → hs_J p l e ({ frames := 0, cells := 0, slots := 0, locals := 0 } : Room) s m args below meth c D A H0 2 0 0 Q 51 [(0, .ref y0), (1, hs_V j)] [] [hs_ob y0 7 [.ref y1, .ref y2, hs_V pm, .ref y3, hs_V fl, .ref y4, .ref y5, .ref y6, .ref y7, hs_V pt, .ref y8, .ref y9], hs_ia cI y1 41 h, hs_ia cI y2 328 y] := by
      intro k
      induction k with
      | zero =>
        intro j y hj hM hk
        exact absurd hk (by omega)
      | succ k ih =>
        intro j y hj hM hk
        have ih3 := ih
        refine hs_iload_n C dX7_remember_51 rfl 1 rfl ?_
        refine hs_bipush C dX7_remember_52 (by decide) ?_
        refine hs_icmp_ge (tgt := 83) C dX7_remember_54 (by decide) (by omega) (by omega) (fun c4 => ?_) (fun c4 => ?_)
        ·
          refine hs_aload_n C dX7_remember_83 rfl 0 rfl ?_
          refine hs_dup C dX7_remember_84 rfl ?_
          refine hs_get C u7 0 rfl rfl 2 (by decide) f49 rfl rfl dX7_remember_85 ?_
          refine hs_iconst C dX7_remember_88 ?_
          refine hs_iadd C dX7_remember_89 ?_
          refine hs_put (ty := .int) (ws' := [hs_ob y0 7 [.ref y1, .ref y2, hs_V (pm + 1), .ref y3, hs_V fl, .ref y4, .ref y5, .ref y6, .ref y7, hs_V pt, .ref y8, .ref y9], hs_ia cI y1 41 h, hs_ia cI y2 328 y]) C u7 tyX7 tyX7_ok nmX7 0 rfl rfl 2 (by decide) f49 rfl rfl (by decide +kernel) rfl rfl (Nat.le_of_ble_eq_true rfl) rfl dX7_remember_90 ?_
          refine hs_cast (ws' := [hs_ob y0 7 [.ref y1, .ref y2, hs_V (pm + 1), .ref y3, hs_V fl, .ref y4, .ref y5, .ref y6, .ref y7, hs_V pt, .ref y8, .ref y9], hs_ia cI y1 41 h, hs_ia cI y2 328 (mo_cpy h pm pa)]) ?_ rfl rfl rfl (by rw [← hM, hs_up_done (by omega)])
          exact hret _ _ () trivial dX7_remember_93
        ·
          refine hs_aload_n C dX7_remember_57 rfl 0 rfl ?_
          refine hs_get C u7 0 rfl rfl 1 (by decide) f13 rfl rfl dX7_remember_58 ?_
          refine hs_bipush C dX7_remember_61 (by decide) ?_
          refine hs_aload_n C dX7_remember_63 rfl 0 rfl ?_
          refine hs_get C u7 0 rfl rfl 2 (by decide) f49 rfl rfl dX7_remember_64 ?_
          refine hs_imul C dX7_remember_67 ?_
          refine hs_iload_n C dX7_remember_68 rfl 1 rfl ?_
          refine hs_iadd C dX7_remember_69 ?_
          refine hs_aload_n C dX7_remember_70 rfl 0 rfl ?_
          refine hs_get C u7 0 rfl rfl 0 (by decide) f7 rfl rfl dX7_remember_71 ?_
          refine hs_iload_n C dX7_remember_74 rfl 1 rfl ?_
          refine hs_iald C 1 rfl (by omega) dX7_remember_75 ?_
          have b5 := hh j
          refine hs_iast (ws' := [hs_ob y0 7 [.ref y1, .ref y2, hs_V pm, .ref y3, hs_V fl, .ref y4, .ref y5, .ref y6, .ref y7, hs_V pt, .ref y8, .ref y9], hs_ia cI y1 41 h, hs_ia cI y2 328 (hs_u y ((41 * pm) + j) (h j))]) C 2 rfl (by omega) rfl dX7_remember_76 ?_
          refine hs_iinc (lv' := [(0, .ref y0), (1, hs_V (j + 1))]) C dX7_remember_77 1 rfl (by decide) [1, 0] rfl ?_
          refine hs_goto (tgt := 51) C dX7_remember_80 (by decide) ?_
          exact ih3 (j + 1) (hs_u y ((41 * pm) + j) (h j)) (by omega) ((hs_up_step (by omega)).symm.trans hM) (by omega)
    exact Lp2 ((41 - 0 : Int).toNat + 1) 0 pa (by omega) (rfl) (by omega)
  ·
    exact absurd trivial (by omega)
theorem c_X7_remember (l : Launch) (D : va_G) (cI cO : ClassId) (y0 : Nat) (y1 : Nat) (y2 : Nat) (y3 : Nat) (y4 : Nat) (y5 : Nat) (y6 : Nat) (y7 : Nat) (y8 : Nat) (y9 : Nat) (pm : Int) (fl : Int) (pt : Int) (h : Int → Int) (pa : Int → Int) (hh : ∀ k, 0 ≤ h k ∧ h k ≤ 50) (hpa : ∀ k, 0 ≤ pa k ∧ pa k ≤ 50) (hpm : 0 ≤ pm ∧ pm ≤ 8) : hs_Mv l D cI cO yX7_remember wsX7_remember ({ frames := 0, cells := 0, slots := 0, locals := 0 } : Room) [.ref y0] [hs_ob y0 7 [.ref y1, .ref y2, hs_V pm, .ref y3, hs_V fl, .ref y4, .ref y5, .ref y6, .ref y7, hs_V pt, .ref y8, .ref y9], hs_ia cI y1 41 h, hs_ia cI y2 328 pa] (fun (_ : Unit) => True) (fun _ => [hs_ob y0 7 [.ref y1, .ref y2, hs_V (mo_rC pm), .ref y3, hs_V fl, .ref y4, .ref y5, .ref y6, .ref y7, hs_V pt, .ref y8, .ref y9], hs_ia cI y1 41 h, hs_ia cI y2 328 (mo_rP h pa pm)]) 0 0 := by
  by_cases hp : pm = 8
  · subst hp
    exact c_X7_remember_8 l D cI cO y0 y1 y2 y3 y4 y5 y6 y7 y8 y9 fl pt h pa hh hpa
  · rw [show mo_rC pm = pm + 1 from if_neg hp, show mo_rP h pa pm = mo_cpy h pm pa from if_neg hp]
    exact c_X7_remember_n l D cI cO y0 y1 y2 y3 y4 y5 y6 y7 y8 y9 pm fl pt h pa hh hpa (by omega)
