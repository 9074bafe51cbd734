set_option maxHeartbeats 4000000 in
set_option maxRecDepth 100000 in
theorem c_X7_insert (l : Launch) (D : va_G) (cI cO : ClassId) (y0 : Nat) (y1 : Nat) (y2 : Nat) (y3 : Nat) (y4 : Nat) (y5 : Nat) (y6 : Nat) (y7 : Nat) (y8 : Nat) (y9 : Nat) (pm : Int) (fl : Int) (pt : Int) (h : Int → Int) (pa : Int → Int) (a : Int) (v : Int) (hh : ∀ k, 0 ≤ h k ∧ h k ≤ 50) (hN : 0 ≤ h 40 ∧ h 40 ≤ 40) (hpa : ∀ k, 0 ≤ pa k ∧ pa k ≤ 50) (hpm : 0 ≤ pm ∧ pm ≤ 8) (hza : hs_in a) (hzv : hs_in v) : hs_M l D cI cO yX7_insert wsX7_insert ({ frames := 1, cells := 0, slots := 0, locals := 22 } : Room) [.ref y0, hs_V a, hs_V v] [hs_ob y0 7 [.ref y1, .ref y2, hs_V pm, .ref y3, hs_V fl, .ref y4, .ref y5, .ref y6, .ref y7, hs_V pt, .ref y8, .ref y9], hs_ia cI y1 41 h, hs_ia cI y2 328 pa] (fun r (_ : Unit) => r = hs_I (mo_insert a v (h, pa, pm)).1) (fun _ => [hs_ob y0 7 [.ref y1, .ref y2, hs_V (mo_insert a v (h, pa, pm)).2.2.2, .ref y3, hs_V fl, .ref y4, .ref y5, .ref y6, .ref y7, hs_V pt, .ref y8, .ref y9], hs_ia cI y1 41 (mo_insert a v (h, pa, pm)).2.1, hs_ia cI y2 328 (mo_insert a v (h, pa, pm)).2.2.1]) 0 0 := by
  refine hs_enter (cc := cX7_insert) (maxL := 4) (by decide +kernel) rfl (Nat.le_of_ble_eq_true rfl) (fun p e s m args below meth c A H0 Q C hret => ?_)
  have f7 := C.1.2.2.2.2 (.fieldLink RX7 7 "HistogramStairsModel" "h" "[I") (by decide +kernel)
  have u7 : ∀ w ∈ wsX70, w ∈ wsX7_insert := by decide +kernel
  refine hs_lvs (lv' := [(0, .ref y0), (1, hs_V a), (2, hs_V v)]) [0, 1, 2] rfl ?_
  refine hs_iload_n C dX7_insert_0 rfl 1 rfl ?_
  refine hs_iconst C dX7_insert_1 ?_
  refine hs_aload_n C dX7_insert_2 rfl 0 rfl ?_
  refine hs_callVi (win := [hs_ob y0 7 [.ref y1, .ref y2, hs_V pm, .ref y3, hs_V fl, .ref y4, .ref y5, .ref y6, .ref y7, hs_V pt, .ref y8, .ref y9], hs_ia cI y1 41 h]) (wr := [hs_ia cI y2 328 pa]) (As := []) (rest := [hs_V 0, hs_V a]) C (c_X7_many l D cI cO y0 y1 y2 y3 y4 y5 y6 y7 y8 y9 pm fl pt h ) 7 0 rfl rfl rfl (cwV 0 C.1.2.2.2.2 gX7_insert_X7_many rfl rfl rfl (by decide +kernel) ⟨Nat.le_of_ble_eq_true rfl, Nat.le_of_ble_eq_true rfl⟩) rfl rfl (Nat.le_of_ble_eq_true rfl) dX7_insert_3 ⟨Nat.le_of_ble_eq_true rfl, Nat.le_of_ble_eq_true rfl⟩ (fun rr uu1 hp => ?_)
  obtain rfl := hp
  refine hs_re0 (w' := [hs_ob y0 7 [.ref y1, .ref y2, hs_V pm, .ref y3, hs_V fl, .ref y4, .ref y5, .ref y6, .ref y7, hs_V pt, .ref y8, .ref y9], hs_ia cI y1 41 h, hs_ia cI y2 328 pa]) [0, 1, 2] rfl (by decide) ?_
  refine hs_callSi (win := []) (wr := [hs_ob y0 7 [.ref y1, .ref y2, hs_V pm, .ref y3, hs_V fl, .ref y4, .ref y5, .ref y6, .ref y7, hs_V pt, .ref y8, .ref y9], hs_ia cI y1 41 h, hs_ia cI y2 328 pa]) (As := [hs_V a, hs_V 0, hs_V (h 40)]) (rest := []) C (c_X7_isIn l D cI cO a 0 (h 40) (by omega) (by omega) (by omega)) (va_cwS 3 C.1.2.2.2.2 gX7_insert_X7_isIn rfl rfl rfl (by decide +kernel) ⟨Nat.le_of_ble_eq_true rfl, Nat.le_of_ble_eq_true rfl⟩) rfl rfl (Nat.le_of_ble_eq_true rfl) dX7_insert_6 ⟨Nat.le_of_ble_eq_true rfl, Nat.le_of_ble_eq_true rfl⟩ (fun rr uu2 hp => ?_)
  obtain rfl := hp
  refine hs_re0 (w' := [hs_ob y0 7 [.ref y1, .ref y2, hs_V pm, .ref y3, hs_V fl, .ref y4, .ref y5, .ref y6, .ref y7, hs_V pt, .ref y8, .ref y9], hs_ia cI y1 41 h, hs_ia cI y2 328 pa]) [0, 1, 2] rfl (by decide) ?_
  refine hs_ifeq_b (tgt := 22) C dX7_insert_9 (by decide) (fun c3 => ?_) (fun c3 => ?_)
  ·
    have hE : mo_insert a v (h, pa, pm) = (-1, (h, pa, pm)) := by unfold mo_insert; dsimp only; rw [if_pos (by omega)]
    refine hs_iconst C dX7_insert_22 ?_
    refine hs_cast (ws' := [hs_ob y0 7 [.ref y1, .ref y2, hs_V (mo_insert a v (h, pa, pm)).2.2.2, .ref y3, hs_V fl, .ref y4, .ref y5, .ref y6, .ref y7, hs_V pt, .ref y8, .ref y9], hs_ia cI y1 41 (mo_insert a v (h, pa, pm)).2.1, hs_ia cI y2 328 (mo_insert a v (h, pa, pm)).2.2.1]) ?_ rfl rfl rfl (by rw [hE] <;> rfl)
    exact hret _ _ _ () (by rw [hE] <;> rfl) dX7_insert_23 rfl
  ·
    refine hs_iload_n C dX7_insert_12 rfl 2 rfl ?_
    refine hs_iconst C dX7_insert_13 ?_
    refine hs_bipush C dX7_insert_14 (by decide) ?_
    refine hs_callSi (win := []) (wr := [hs_ob y0 7 [.ref y1, .ref y2, hs_V pm, .ref y3, hs_V fl, .ref y4, .ref y5, .ref y6, .ref y7, hs_V pt, .ref y8, .ref y9], hs_ia cI y1 41 h, hs_ia cI y2 328 pa]) (As := [hs_V v, hs_V 0, hs_V 50]) (rest := []) C (c_X7_isIn l D cI cO v 0 50 (by omega) (by omega) (by omega)) (va_cwS 3 C.1.2.2.2.2 gX7_insert_X7_isIn rfl rfl rfl (by decide +kernel) ⟨Nat.le_of_ble_eq_true rfl, Nat.le_of_ble_eq_true rfl⟩) rfl rfl (Nat.le_of_ble_eq_true rfl) dX7_insert_16 ⟨Nat.le_of_ble_eq_true rfl, Nat.le_of_ble_eq_true rfl⟩ (fun rr uu4 hp => ?_)
    obtain rfl := hp
    refine hs_re0 (w' := [hs_ob y0 7 [.ref y1, .ref y2, hs_V pm, .ref y3, hs_V fl, .ref y4, .ref y5, .ref y6, .ref y7, hs_V pt, .ref y8, .ref y9], hs_ia cI y1 41 h, hs_ia cI y2 328 pa]) [0, 1, 2] rfl (by decide) ?_
    refine hs_ifne_b (tgt := 24) C dX7_insert_19 (by decide) (fun c5 => ?_) (fun c5 => ?_)
    ·
      refine hs_aload_n C dX7_insert_24 rfl 0 rfl ?_
      refine hs_callVi (win := [hs_ob y0 7 [.ref y1, .ref y2, hs_V pm, .ref y3, hs_V fl, .ref y4, .ref y5, .ref y6, .ref y7, hs_V pt, .ref y8, .ref y9], hs_ia cI y1 41 h]) (wr := [hs_ia cI y2 328 pa]) (As := []) (rest := []) C (c_X7_many l D cI cO y0 y1 y2 y3 y4 y5 y6 y7 y8 y9 pm fl pt h ) 7 0 rfl rfl rfl (cwV 0 C.1.2.2.2.2 gX7_insert_X7_many rfl rfl rfl (by decide +kernel) ⟨Nat.le_of_ble_eq_true rfl, Nat.le_of_ble_eq_true rfl⟩) rfl rfl (Nat.le_of_ble_eq_true rfl) dX7_insert_25 ⟨Nat.le_of_ble_eq_true rfl, Nat.le_of_ble_eq_true rfl⟩ (fun rr uu6 hp => ?_)
      obtain rfl := hp
      refine hs_re0 (w' := [hs_ob y0 7 [.ref y1, .ref y2, hs_V pm, .ref y3, hs_V fl, .ref y4, .ref y5, .ref y6, .ref y7, hs_V pt, .ref y8, .ref y9], hs_ia cI y1 41 h, hs_ia cI y2 328 pa]) [0, 1, 2] rfl (by decide) ?_
      refine hs_bipush C dX7_insert_28 (by decide) ?_
      refine hs_icmp_ne (tgt := 36) C dX7_insert_30 (by decide) (by omega) (by omega) (fun c7 => ?_) (fun c7 => ?_)
      ·
        refine hs_aload_n C dX7_insert_36 rfl 0 rfl ?_
        refine hs_callVv (win := [hs_ob y0 7 [.ref y1, .ref y2, hs_V pm, .ref y3, hs_V fl, .ref y4, .ref y5, .ref y6, .ref y7, hs_V pt, .ref y8, .ref y9], hs_ia cI y1 41 h, hs_ia cI y2 328 pa]) (wr := []) (As := []) (rest := []) C (c_X7_remember l D cI cO y0 y1 y2 y3 y4 y5 y6 y7 y8 y9 pm fl pt h pa hh hpa (by omega)) 7 0 rfl rfl rfl (cwV 0 C.1.2.2.2.2 gX7_insert_X7_remember rfl rfl rfl (by decide +kernel) ⟨Nat.le_of_ble_eq_true rfl, Nat.le_of_ble_eq_true rfl⟩) rfl rfl (Nat.le_of_ble_eq_true rfl) dX7_insert_37 ⟨Nat.le_of_ble_eq_true rfl, Nat.le_of_ble_eq_true rfl⟩ (fun uu8 hp => ?_)
        refine hs_re0 (w' := [hs_ob y0 7 [.ref y1, .ref y2, hs_V (mo_rC pm), .ref y3, hs_V fl, .ref y4, .ref y5, .ref y6, .ref y7, hs_V pt, .ref y8, .ref y9], hs_ia cI y1 41 h, hs_ia cI y2 328 (mo_rP h pa pm)]) [0, 1, 2] rfl (by decide) ?_
        have hrb := mo_rP_bd (pm := pm) hh hpa
        have hrc := mo_rC_rg hpm
        refine hs_aload_n C dX7_insert_40 rfl 0 rfl ?_
        refine hs_callVi (win := [hs_ob y0 7 [.ref y1, .ref y2, hs_V (mo_rC pm), .ref y3, hs_V fl, .ref y4, .ref y5, .ref y6, .ref y7, hs_V pt, .ref y8, .ref y9], hs_ia cI y1 41 h]) (wr := [hs_ia cI y2 328 (mo_rP h pa pm)]) (As := []) (rest := []) C (c_X7_many l D cI cO y0 y1 y2 y3 y4 y5 y6 y7 y8 y9 (mo_rC pm) fl pt h ) 7 0 rfl rfl rfl (cwV 0 C.1.2.2.2.2 gX7_insert_X7_many rfl rfl rfl (by decide +kernel) ⟨Nat.le_of_ble_eq_true rfl, Nat.le_of_ble_eq_true rfl⟩) rfl rfl (Nat.le_of_ble_eq_true rfl) dX7_insert_41 ⟨Nat.le_of_ble_eq_true rfl, Nat.le_of_ble_eq_true rfl⟩ (fun rr uu9 hp => ?_)
        obtain rfl := hp
        refine hs_re0 (w' := [hs_ob y0 7 [.ref y1, .ref y2, hs_V (mo_rC pm), .ref y3, hs_V fl, .ref y4, .ref y5, .ref y6, .ref y7, hs_V pt, .ref y8, .ref y9], hs_ia cI y1 41 h, hs_ia cI y2 328 (mo_rP h pa pm)]) [0, 1, 2] rfl (by decide) ?_
        refine hs_istore_n (lv' := [(0, .ref y0), (1, hs_V a), (2, hs_V v), (3, hs_V (h 40))]) C dX7_insert_44 rfl (by decide) [1, 2, 3, 0] rfl ?_
        have Lp10 : ∀ (k : Nat) (i : Int) (x : Int → Int), (a ≤ i ∧ i ≤ h 40) → (hs_dn (fun i x => hs_u x i (h (i - 1))) i (a + 1) x = hs_dn (fun i x => hs_u x i (h (i - 1))) (h 40) (a + 1) h) → (i - a < (k : Int)) → hs_J p l e ({ frames := 1, cells := 0, slots := 0, locals := 22 } : Room) s m args below meth c D A H0 4 0 0 Q 45 [(0, .ref y0), (1, hs_V a), (2, hs_V v), (3, hs_V i)] [] [hs_ob y0 7 [.ref y1, .ref y2, hs_V (mo_rC pm), .ref y3, hs_V fl, .ref y4, .ref y5, .ref y6, .ref y7, hs_V pt, .ref y8, .ref y9], hs_ia cI y1 41 x, hs_ia cI y2 328 (mo_rP h pa pm)] := by
          intro k
          induction k with
          | zero =>
            intro i x hi hL hk
            exact absurd hk (by omega)
          | succ k ih =>
            intro i x hi hL hk
            have ih11 := ih
            refine hs_iload_n C dX7_insert_45 rfl 3 rfl ?_
            refine hs_iload_n C dX7_insert_46 rfl 1 rfl ?_
            refine hs_icmp_le (tgt := 69) C dX7_insert_47 (by decide) (by omega) (by omega) (fun c12 => ?_) (fun c12 => ?_)
            ·
              have hdn : hs_dn (fun i x => hs_u x i (h (i - 1))) (h 40) (a + 1) h = x := by rw [← hL, hs_dn_done (by omega)]
              refine hs_aload_n C dX7_insert_69 rfl 0 rfl ?_
              refine hs_get C u7 0 rfl rfl 0 (by decide) f7 rfl rfl dX7_insert_70 ?_
              refine hs_bipush C dX7_insert_73 (by decide) ?_
              refine hs_aload_n C dX7_insert_75 rfl 0 rfl ?_
              refine hs_bipush C dX7_insert_76 (by decide) ?_
              refine hs_re0 (w' := [hs_ob y0 7 [.ref y1, .ref y2, hs_V (mo_rC pm), .ref y3, hs_V fl, .ref y4, .ref y5, .ref y6, .ref y7, hs_V pt, .ref y8, .ref y9], hs_ia cI y2 328 (mo_rP h pa pm), hs_ia cI y1 41 x]) [0, 2, 1] rfl (by decide) ?_
              refine hs_callVi (win := [hs_ob y0 7 [.ref y1, .ref y2, hs_V (mo_rC pm), .ref y3, hs_V fl, .ref y4, .ref y5, .ref y6, .ref y7, hs_V pt, .ref y8, .ref y9], hs_ia cI y2 328 (mo_rP h pa pm)]) (wr := [hs_ia cI y1 41 x]) (As := [hs_V 40]) (rest := [hs_V 40, .ref y1]) C (c_X7_before l D cI cO y0 y1 y2 y3 y4 y5 y6 y7 y8 y9 (mo_rC pm) fl pt (mo_rP h pa pm) 40 (by omega) (by omega)) 7 0 rfl rfl rfl (cwV 1 C.1.2.2.2.2 gX7_insert_X7_before rfl rfl rfl (by decide +kernel) ⟨Nat.le_of_ble_eq_true rfl, Nat.le_of_ble_eq_true rfl⟩) rfl rfl (Nat.le_of_ble_eq_true rfl) dX7_insert_78 ⟨Nat.le_of_ble_eq_true rfl, Nat.le_of_ble_eq_true rfl⟩ (fun rr uu13 hp => ?_)
              obtain rfl := hp
              refine hs_re0 (w' := [hs_ob y0 7 [.ref y1, .ref y2, hs_V (mo_rC pm), .ref y3, hs_V fl, .ref y4, .ref y5, .ref y6, .ref y7, hs_V pt, .ref y8, .ref y9], hs_ia cI y1 41 x, hs_ia cI y2 328 (mo_rP h pa pm)]) [0, 2, 1] rfl (by decide) ?_
              rw [mo_before (by omega)]
              refine hs_iconst C dX7_insert_81 ?_
              refine hs_iadd C dX7_insert_82 ?_
              refine hs_iast (ws' := [hs_ob y0 7 [.ref y1, .ref y2, hs_V (mo_rC pm), .ref y3, hs_V fl, .ref y4, .ref y5, .ref y6, .ref y7, hs_V pt, .ref y8, .ref y9], hs_ia cI y1 41 (hs_u x 40 ((h (40)) + 1)), hs_ia cI y2 328 (mo_rP h pa pm)]) C 1 rfl (by omega) rfl dX7_insert_83 ?_
              have hIH : hs_u (hs_u x 40 (h 40 + 1)) a v = mo_insH a v h := by unfold mo_insH; rw [hdn]
              refine hs_aload_n C dX7_insert_84 rfl 0 rfl ?_
              refine hs_get C u7 0 rfl rfl 0 (by decide) f7 rfl rfl dX7_insert_85 ?_
              refine hs_iload_n C dX7_insert_88 rfl 1 rfl ?_
              refine hs_iload_n C dX7_insert_89 rfl 2 rfl ?_
              refine hs_iast (ws' := [hs_ob y0 7 [.ref y1, .ref y2, hs_V (mo_rC pm), .ref y3, hs_V fl, .ref y4, .ref y5, .ref y6, .ref y7, hs_V pt, .ref y8, .ref y9], hs_ia cI y1 41 (hs_u (hs_u x 40 ((h (40)) + 1)) a v), hs_ia cI y2 328 (mo_rP h pa pm)]) C 1 rfl (by omega) rfl dX7_insert_90 ?_
              refine hs_cast (ws' := [hs_ob y0 7 [.ref y1, .ref y2, hs_V (mo_rC pm), .ref y3, hs_V fl, .ref y4, .ref y5, .ref y6, .ref y7, hs_V pt, .ref y8, .ref y9], hs_ia cI y1 41 (mo_insH a v h), hs_ia cI y2 328 (mo_rP h pa pm)]) ?_ rfl rfl rfl (by rw [hIH])
              have hE : mo_insert a v (h, pa, pm) = (mo_insH a v h 40, mo_insH a v h, mo_rP h pa pm, mo_rC pm) := by unfold mo_insert; dsimp only; rw [if_neg (by omega), if_neg (by omega)]
              refine hs_aload_n C dX7_insert_91 rfl 0 rfl ?_
              refine hs_callVi (win := [hs_ob y0 7 [.ref y1, .ref y2, hs_V (mo_rC pm), .ref y3, hs_V fl, .ref y4, .ref y5, .ref y6, .ref y7, hs_V pt, .ref y8, .ref y9], hs_ia cI y1 41 (mo_insH a v h)]) (wr := [hs_ia cI y2 328 (mo_rP h pa pm)]) (As := []) (rest := []) C (c_X7_many l D cI cO y0 y1 y2 y3 y4 y5 y6 y7 y8 y9 (mo_rC pm) fl pt (mo_insH a v h) ) 7 0 rfl rfl rfl (cwV 0 C.1.2.2.2.2 gX7_insert_X7_many rfl rfl rfl (by decide +kernel) ⟨Nat.le_of_ble_eq_true rfl, Nat.le_of_ble_eq_true rfl⟩) rfl rfl (Nat.le_of_ble_eq_true rfl) dX7_insert_92 ⟨Nat.le_of_ble_eq_true rfl, Nat.le_of_ble_eq_true rfl⟩ (fun rr uu14 hp => ?_)
              obtain rfl := hp
              refine hs_re0 (w' := [hs_ob y0 7 [.ref y1, .ref y2, hs_V (mo_rC pm), .ref y3, hs_V fl, .ref y4, .ref y5, .ref y6, .ref y7, hs_V pt, .ref y8, .ref y9], hs_ia cI y1 41 (mo_insH a v h), hs_ia cI y2 328 (mo_rP h pa pm)]) [0, 1, 2] rfl (by decide) ?_
              refine hs_cast (ws' := [hs_ob y0 7 [.ref y1, .ref y2, hs_V (mo_insert a v (h, pa, pm)).2.2.2, .ref y3, hs_V fl, .ref y4, .ref y5, .ref y6, .ref y7, hs_V pt, .ref y8, .ref y9], hs_ia cI y1 41 (mo_insert a v (h, pa, pm)).2.1, hs_ia cI y2 328 (mo_insert a v (h, pa, pm)).2.2.1]) ?_ rfl rfl rfl (by rw [hE] <;> rfl)
              exact hret _ _ _ () (by rw [hE] <;> rfl) dX7_insert_95 rfl
            ·
              refine hs_aload_n C dX7_insert_50 rfl 0 rfl ?_
              refine hs_get C u7 0 rfl rfl 0 (by decide) f7 rfl rfl dX7_insert_51 ?_
              refine hs_iload_n C dX7_insert_54 rfl 3 rfl ?_
              refine hs_aload_n C dX7_insert_55 rfl 0 rfl ?_
              refine hs_iload_n C dX7_insert_56 rfl 3 rfl ?_
              refine hs_iconst C dX7_insert_57 ?_
              refine hs_isub C dX7_insert_58 ?_
              refine hs_re0 (w' := [hs_ob y0 7 [.ref y1, .ref y2, hs_V (mo_rC pm), .ref y3, hs_V fl, .ref y4, .ref y5, .ref y6, .ref y7, hs_V pt, .ref y8, .ref y9], hs_ia cI y2 328 (mo_rP h pa pm), hs_ia cI y1 41 x]) [0, 2, 1] rfl (by decide) ?_
              refine hs_callVi (win := [hs_ob y0 7 [.ref y1, .ref y2, hs_V (mo_rC pm), .ref y3, hs_V fl, .ref y4, .ref y5, .ref y6, .ref y7, hs_V pt, .ref y8, .ref y9], hs_ia cI y2 328 (mo_rP h pa pm)]) (wr := [hs_ia cI y1 41 x]) (As := [hs_V (i - 1)]) (rest := [hs_V i, .ref y1]) C (c_X7_before l D cI cO y0 y1 y2 y3 y4 y5 y6 y7 y8 y9 (mo_rC pm) fl pt (mo_rP h pa pm) (i - 1) (by omega) (by omega)) 7 0 rfl rfl rfl (cwV 1 C.1.2.2.2.2 gX7_insert_X7_before rfl rfl rfl (by decide +kernel) ⟨Nat.le_of_ble_eq_true rfl, Nat.le_of_ble_eq_true rfl⟩) rfl rfl (Nat.le_of_ble_eq_true rfl) dX7_insert_59 ⟨Nat.le_of_ble_eq_true rfl, Nat.le_of_ble_eq_true rfl⟩ (fun rr uu15 hp => ?_)
              obtain rfl := hp
              refine hs_re0 (w' := [hs_ob y0 7 [.ref y1, .ref y2, hs_V (mo_rC pm), .ref y3, hs_V fl, .ref y4, .ref y5, .ref y6, .ref y7, hs_V pt, .ref y8, .ref y9], hs_ia cI y1 41 x, hs_ia cI y2 328 (mo_rP h pa pm)]) [0, 2, 1] rfl (by decide) ?_
              rw [mo_before (by omega)]
              refine hs_iast (ws' := [hs_ob y0 7 [.ref y1, .ref y2, hs_V (mo_rC pm), .ref y3, hs_V fl, .ref y4, .ref y5, .ref y6, .ref y7, hs_V pt, .ref y8, .ref y9], hs_ia cI y1 41 (hs_u x i (h (i - 1))), hs_ia cI y2 328 (mo_rP h pa pm)]) C 1 rfl (by omega) rfl dX7_insert_62 ?_
              refine hs_iinc (lv' := [(0, .ref y0), (1, hs_V a), (2, hs_V v), (3, hs_V (i + (-1)))]) C dX7_insert_63 3 rfl (by decide) [1, 2, 3, 0] rfl ?_
              refine hs_goto (tgt := 45) C dX7_insert_66 (by decide) ?_
              exact ih11 (i + (-1)) (hs_u x i (h (i - 1))) (by omega) (by have hz := (hs_dn_step (by omega)).symm.trans hL; (try dsimp only at hz); first | exact hz | (split at hz <;> first | exact hz | (exfalso; omega) | (split at hz <;> first | exact hz | (exfalso; omega) | (split at hz <;> first | exact hz | (exfalso; omega))))) (by omega)
        exact Lp10 (((h 40) - a : Int).toNat + 1) (h 40) h (by omega) (rfl) (by omega)
      ·
        have hE : mo_insert a v (h, pa, pm) = (-3, (h, pa, pm)) := by unfold mo_insert; dsimp only; rw [if_neg (by omega), if_pos (by omega)]
        refine hs_bipush C dX7_insert_33 (by decide) ?_
        refine hs_cast (ws' := [hs_ob y0 7 [.ref y1, .ref y2, hs_V (mo_insert a v (h, pa, pm)).2.2.2, .ref y3, hs_V fl, .ref y4, .ref y5, .ref y6, .ref y7, hs_V pt, .ref y8, .ref y9], hs_ia cI y1 41 (mo_insert a v (h, pa, pm)).2.1, hs_ia cI y2 328 (mo_insert a v (h, pa, pm)).2.2.1]) ?_ rfl rfl rfl (by rw [hE] <;> rfl)
        exact hret _ _ _ () (by rw [hE] <;> rfl) dX7_insert_35 rfl
    ·
      have hE : mo_insert a v (h, pa, pm) = (-1, (h, pa, pm)) := by unfold mo_insert; dsimp only; rw [if_pos (by omega)]
      refine hs_iconst C dX7_insert_22 ?_
      refine hs_cast (ws' := [hs_ob y0 7 [.ref y1, .ref y2, hs_V (mo_insert a v (h, pa, pm)).2.2.2, .ref y3, hs_V fl, .ref y4, .ref y5, .ref y6, .ref y7, hs_V pt, .ref y8, .ref y9], hs_ia cI y1 41 (mo_insert a v (h, pa, pm)).2.1, hs_ia cI y2 328 (mo_insert a v (h, pa, pm)).2.2.1]) ?_ rfl rfl rfl (by rw [hE] <;> rfl)
      exact hret _ _ _ () (by rw [hE] <;> rfl) dX7_insert_23 rfl

set_option maxHeartbeats 4000000 in
set_option maxRecDepth 100000 in
theorem c_X7_remove (l : Launch) (D : va_G) (cI cO : ClassId) (y0 : Nat) (y1 : Nat) (y2 : Nat) (y3 : Nat) (y4 : Nat) (y5 : Nat) (y6 : Nat) (y7 : Nat) (y8 : Nat) (y9 : Nat) (pm : Int) (fl : Int) (pt : Int) (h : Int → Int) (pa : Int → Int) (i : Int) (hh : ∀ k, 0 ≤ h k ∧ h k ≤ 50) (hN : 0 ≤ h 40 ∧ h 40 ≤ 40) (hpa : ∀ k, 0 ≤ pa k ∧ pa k ≤ 50) (hpm : 0 ≤ pm ∧ pm ≤ 8) (hzi : hs_in i) : hs_M l D cI cO yX7_remove wsX7_remove ({ frames := 2, cells := 0, slots := 0, locals := 43 } : Room) [.ref y0, hs_V i] [hs_ob y0 7 [.ref y1, .ref y2, hs_V pm, .ref y3, hs_V fl, .ref y4, .ref y5, .ref y6, .ref y7, hs_V pt, .ref y8, .ref y9], hs_ia cI y1 41 h, hs_ia cI y2 328 pa] (fun r (_ : Unit) => r = hs_I (mo_remove i (h, pa, pm)).1) (fun _ => [hs_ob y0 7 [.ref y1, .ref y2, hs_V (mo_remove i (h, pa, pm)).2.2.2, .ref y3, hs_V fl, .ref y4, .ref y5, .ref y6, .ref y7, hs_V pt, .ref y8, .ref y9], hs_ia cI y1 41 (mo_remove i (h, pa, pm)).2.1, hs_ia cI y2 328 (mo_remove i (h, pa, pm)).2.2.1]) 0 0 := by
  refine hs_enter (cc := cX7_remove) (maxL := 3) (by decide +kernel) rfl (Nat.le_of_ble_eq_true rfl) (fun p e s m args below meth c A H0 Q C hret => ?_)
  have f7 := C.1.2.2.2.2 (.fieldLink RX7 7 "HistogramStairsModel" "h" "[I") (by decide +kernel)
  have u7 : ∀ w ∈ wsX70, w ∈ wsX7_remove := by decide +kernel
  refine hs_lvs (lv' := [(0, .ref y0), (1, hs_V i)]) [0, 1] rfl ?_
  refine hs_aload_n C dX7_remove_0 rfl 0 rfl ?_
  refine hs_iload_n C dX7_remove_1 rfl 1 rfl ?_
  refine hs_callVi (win := [hs_ob y0 7 [.ref y1, .ref y2, hs_V pm, .ref y3, hs_V fl, .ref y4, .ref y5, .ref y6, .ref y7, hs_V pt, .ref y8, .ref y9], hs_ia cI y1 41 h]) (wr := [hs_ia cI y2 328 pa]) (As := [hs_V i]) (rest := []) C (c_X7_isColumn l D cI cO y0 y1 y2 y3 y4 y5 y6 y7 y8 y9 pm fl pt h i (by omega) (by omega)) 7 0 rfl rfl rfl (cwV 1 C.1.2.2.2.2 gX7_remove_X7_isColumn rfl rfl rfl (by decide +kernel) ⟨Nat.le_of_ble_eq_true rfl, Nat.le_of_ble_eq_true rfl⟩) rfl rfl (Nat.le_of_ble_eq_true rfl) dX7_remove_2 ⟨Nat.le_of_ble_eq_true rfl, Nat.le_of_ble_eq_true rfl⟩ (fun rr uu1 hp => ?_)
  obtain rfl := hp
  refine hs_re0 (w' := [hs_ob y0 7 [.ref y1, .ref y2, hs_V pm, .ref y3, hs_V fl, .ref y4, .ref y5, .ref y6, .ref y7, hs_V pt, .ref y8, .ref y9], hs_ia cI y1 41 h, hs_ia cI y2 328 pa]) [0, 1, 2] rfl (by decide) ?_
  refine hs_ifne_b (tgt := 10) C dX7_remove_5 (by decide) (fun c2 => ?_) (fun c2 => ?_)
  ·
    refine hs_aload_n C dX7_remove_10 rfl 0 rfl ?_
    refine hs_callVv (win := [hs_ob y0 7 [.ref y1, .ref y2, hs_V pm, .ref y3, hs_V fl, .ref y4, .ref y5, .ref y6, .ref y7, hs_V pt, .ref y8, .ref y9], hs_ia cI y1 41 h, hs_ia cI y2 328 pa]) (wr := []) (As := []) (rest := []) C (c_X7_remember l D cI cO y0 y1 y2 y3 y4 y5 y6 y7 y8 y9 pm fl pt h pa hh hpa (by omega)) 7 0 rfl rfl rfl (cwV 0 C.1.2.2.2.2 gX7_remove_X7_remember rfl rfl rfl (by decide +kernel) ⟨Nat.le_of_ble_eq_true rfl, Nat.le_of_ble_eq_true rfl⟩) rfl rfl (Nat.le_of_ble_eq_true rfl) dX7_remove_11 ⟨Nat.le_of_ble_eq_true rfl, Nat.le_of_ble_eq_true rfl⟩ (fun uu3 hp => ?_)
    refine hs_re0 (w' := [hs_ob y0 7 [.ref y1, .ref y2, hs_V (mo_rC pm), .ref y3, hs_V fl, .ref y4, .ref y5, .ref y6, .ref y7, hs_V pt, .ref y8, .ref y9], hs_ia cI y1 41 h, hs_ia cI y2 328 (mo_rP h pa pm)]) [0, 1, 2] rfl (by decide) ?_
    have hrb := mo_rP_bd (pm := pm) hh hpa
    have hrc := mo_rC_rg hpm
    refine hs_aload_n C dX7_remove_14 rfl 0 rfl ?_
    refine hs_get C u7 0 rfl rfl 0 (by decide) f7 rfl rfl dX7_remove_15 ?_
    refine hs_bipush C dX7_remove_18 (by decide) ?_
    refine hs_dup2 C dX7_remove_20 rfl rfl ?_
    refine hs_iald C 1 rfl (by omega) dX7_remove_21 ?_
    have b4 := hh 40
    refine hs_iconst C dX7_remove_22 ?_
    refine hs_isub C dX7_remove_23 ?_
    refine hs_iast (ws' := [hs_ob y0 7 [.ref y1, .ref y2, hs_V (mo_rC pm), .ref y3, hs_V fl, .ref y4, .ref y5, .ref y6, .ref y7, hs_V pt, .ref y8, .ref y9], hs_ia cI y1 41 (hs_u h 40 ((h 40) - 1)), hs_ia cI y2 328 (mo_rP h pa pm)]) C 1 rfl (by omega) rfl dX7_remove_24 ?_
    refine hs_iload_n C dX7_remove_25 rfl 1 rfl ?_
    refine hs_istore_n (lv' := [(0, .ref y0), (1, hs_V i), (2, hs_V i)]) C dX7_remove_26 rfl (by decide) [1, 2, 0] rfl ?_
    have Lp6 : ∀ (k : Nat) (q : Int) (x : Int → Int), (i ≤ q ∧ q ≤ h 40 - 1) → (x 40 = h 40 - 1) → (hs_up (fun k x => hs_u x k (x (k + 1))) q (h 40 - 1) x = mo_remH i h) → (h 40 - q < (k : Int)) → hs_J p l e ({ frames := 2, cells := 0, slots := 0, locals := 43 } : Room) s m args below meth c D A H0 3 0 0 Q 27 [(0, .ref y0), (1, hs_V i), (2, hs_V q)] [] [hs_ob y0 7 [.ref y1, .ref y2, hs_V (mo_rC pm), .ref y3, hs_V fl, .ref y4, .ref y5, .ref y6, .ref y7, hs_V pt, .ref y8, .ref y9], hs_ia cI y1 41 x, hs_ia cI y2 328 (mo_rP h pa pm)] := by
      intro k
      induction k with
      | zero =>
        intro q x hq hx40 hL hk
        exact absurd hk (by omega)
      | succ k ih =>
        intro q x hq hx40 hL hk
        have ih7 := ih
        refine hs_iload_n C dX7_remove_27 rfl 2 rfl ?_
        refine hs_aload_n C dX7_remove_28 rfl 0 rfl ?_
        refine hs_callVi (win := [hs_ob y0 7 [.ref y1, .ref y2, hs_V (mo_rC pm), .ref y3, hs_V fl, .ref y4, .ref y5, .ref y6, .ref y7, hs_V pt, .ref y8, .ref y9], hs_ia cI y1 41 x]) (wr := [hs_ia cI y2 328 (mo_rP h pa pm)]) (As := []) (rest := [hs_V q]) C (c_X7_many l D cI cO y0 y1 y2 y3 y4 y5 y6 y7 y8 y9 (mo_rC pm) fl pt x ) 7 0 rfl rfl rfl (cwV 0 C.1.2.2.2.2 gX7_remove_X7_many rfl rfl rfl (by decide +kernel) ⟨Nat.le_of_ble_eq_true rfl, Nat.le_of_ble_eq_true rfl⟩) rfl rfl (Nat.le_of_ble_eq_true rfl) dX7_remove_29 ⟨Nat.le_of_ble_eq_true rfl, Nat.le_of_ble_eq_true rfl⟩ (fun rr uu8 hp => ?_)
        obtain rfl := hp
        refine hs_re0 (w' := [hs_ob y0 7 [.ref y1, .ref y2, hs_V (mo_rC pm), .ref y3, hs_V fl, .ref y4, .ref y5, .ref y6, .ref y7, hs_V pt, .ref y8, .ref y9], hs_ia cI y1 41 x, hs_ia cI y2 328 (mo_rP h pa pm)]) [0, 1, 2] rfl (by decide) ?_
        refine hs_icmp_ge (tgt := 55) C dX7_remove_32 (by decide) (by omega) (by omega) (fun c9 => ?_) (fun c9 => ?_)
        ·
          have hRH : mo_remH i h = x := by rw [← hL, hs_up_done (by omega)]
          have hE : mo_remove i (h, pa, pm) = (h i, mo_remH i h, mo_rP h pa pm, mo_rC pm) := by unfold mo_remove; dsimp only; rw [if_neg (by omega)]
          refine hs_aload_n C dX7_remove_55 rfl 0 rfl ?_
          refine hs_iload_n C dX7_remove_56 rfl 1 rfl ?_
          refine hs_cast (ws' := [hs_ob y0 7 [.ref y1, .ref y2, hs_V (mo_rC pm), .ref y3, hs_V fl, .ref y4, .ref y5, .ref y6, .ref y7, hs_V pt, .ref y8, .ref y9], hs_ia cI y1 41 (mo_remH i h), hs_ia cI y2 328 (mo_rP h pa pm)]) ?_ rfl rfl rfl (by rw [hRH])
          refine hs_re0 (w' := [hs_ob y0 7 [.ref y1, .ref y2, hs_V (mo_rC pm), .ref y3, hs_V fl, .ref y4, .ref y5, .ref y6, .ref y7, hs_V pt, .ref y8, .ref y9], hs_ia cI y2 328 (mo_rP h pa pm), hs_ia cI y1 41 (mo_remH i h)]) [0, 2, 1] rfl (by decide) ?_
          refine hs_callVi (win := [hs_ob y0 7 [.ref y1, .ref y2, hs_V (mo_rC pm), .ref y3, hs_V fl, .ref y4, .ref y5, .ref y6, .ref y7, hs_V pt, .ref y8, .ref y9], hs_ia cI y2 328 (mo_rP h pa pm)]) (wr := [hs_ia cI y1 41 (mo_remH i h)]) (As := [hs_V i]) (rest := []) C (c_X7_before l D cI cO y0 y1 y2 y3 y4 y5 y6 y7 y8 y9 (mo_rC pm) fl pt (mo_rP h pa pm) i (by omega) (by omega)) 7 0 rfl rfl rfl (cwV 1 C.1.2.2.2.2 gX7_remove_X7_before rfl rfl rfl (by decide +kernel) ⟨Nat.le_of_ble_eq_true rfl, Nat.le_of_ble_eq_true rfl⟩) rfl rfl (Nat.le_of_ble_eq_true rfl) dX7_remove_57 ⟨Nat.le_of_ble_eq_true rfl, Nat.le_of_ble_eq_true rfl⟩ (fun rr uu10 hp => ?_)
          obtain rfl := hp
          refine hs_re0 (w' := [hs_ob y0 7 [.ref y1, .ref y2, hs_V (mo_rC pm), .ref y3, hs_V fl, .ref y4, .ref y5, .ref y6, .ref y7, hs_V pt, .ref y8, .ref y9], hs_ia cI y1 41 (mo_remH i h), hs_ia cI y2 328 (mo_rP h pa pm)]) [0, 2, 1] rfl (by decide) ?_
          rw [mo_before (by omega)]
          refine hs_cast (ws' := [hs_ob y0 7 [.ref y1, .ref y2, hs_V (mo_remove i (h, pa, pm)).2.2.2, .ref y3, hs_V fl, .ref y4, .ref y5, .ref y6, .ref y7, hs_V pt, .ref y8, .ref y9], hs_ia cI y1 41 (mo_remove i (h, pa, pm)).2.1, hs_ia cI y2 328 (mo_remove i (h, pa, pm)).2.2.1]) ?_ rfl rfl rfl (by rw [hE] <;> rfl)
          exact hret _ _ _ () (by rw [hE] <;> rfl) dX7_remove_60 rfl
        ·
          refine hs_aload_n C dX7_remove_35 rfl 0 rfl ?_
          refine hs_get C u7 0 rfl rfl 0 (by decide) f7 rfl rfl dX7_remove_36 ?_
          refine hs_iload_n C dX7_remove_39 rfl 2 rfl ?_
          refine hs_aload_n C dX7_remove_40 rfl 0 rfl ?_
          refine hs_get C u7 0 rfl rfl 0 (by decide) f7 rfl rfl dX7_remove_41 ?_
          refine hs_iload_n C dX7_remove_44 rfl 2 rfl ?_
          refine hs_iconst C dX7_remove_45 ?_
          refine hs_iadd C dX7_remove_46 ?_
          refine hs_iald C 1 rfl (by omega) dX7_remove_47 ?_
          refine hs_iast (ws' := [hs_ob y0 7 [.ref y1, .ref y2, hs_V (mo_rC pm), .ref y3, hs_V fl, .ref y4, .ref y5, .ref y6, .ref y7, hs_V pt, .ref y8, .ref y9], hs_ia cI y1 41 (hs_u x q (x (q + 1))), hs_ia cI y2 328 (mo_rP h pa pm)]) C 1 rfl (by omega) rfl dX7_remove_48 ?_
          refine hs_iinc (lv' := [(0, .ref y0), (1, hs_V i), (2, hs_V (q + 1))]) C dX7_remove_49 2 rfl (by decide) [1, 2, 0] rfl ?_
          refine hs_goto (tgt := 27) C dX7_remove_52 (by decide) ?_
          exact ih7 (q + 1) (hs_u x q (x (q + 1))) (by omega) (by rw [hs_u_ne (by omega)]; exact hx40) (by have hz := (hs_up_step (by omega)).symm.trans hL; (try dsimp only at hz); first | exact hz | (split at hz <;> first | exact hz | (exfalso; omega) | (split at hz <;> first | exact hz | (exfalso; omega) | (split at hz <;> first | exact hz | (exfalso; omega))))) (by omega)
    exact Lp6 ((h 40 - i : Int).toNat + 1) i (hs_u h 40 ((h 40) - 1)) (by omega) (hs_u_self h 40 (h 40 - 1)) (rfl) (by omega)
  ·
    have hE : mo_remove i (h, pa, pm) = (-1, (h, pa, pm)) := by unfold mo_remove; dsimp only; rw [if_pos (by omega)]
    refine hs_iconst C dX7_remove_8 ?_
    refine hs_cast (ws' := [hs_ob y0 7 [.ref y1, .ref y2, hs_V (mo_remove i (h, pa, pm)).2.2.2, .ref y3, hs_V fl, .ref y4, .ref y5, .ref y6, .ref y7, hs_V pt, .ref y8, .ref y9], hs_ia cI y1 41 (mo_remove i (h, pa, pm)).2.1, hs_ia cI y2 328 (mo_remove i (h, pa, pm)).2.2.1]) ?_ rfl rfl rfl (by rw [hE] <;> rfl)
    exact hret _ _ _ () (by rw [hE] <;> rfl) dX7_remove_9 rfl

set_option maxHeartbeats 4000000 in
set_option maxRecDepth 100000 in
theorem c_X7_set (l : Launch) (D : va_G) (cI cO : ClassId) (y0 : Nat) (y1 : Nat) (y2 : Nat) (y3 : Nat) (y4 : Nat) (y5 : Nat) (y6 : Nat) (y7 : Nat) (y8 : Nat) (y9 : Nat) (pm : Int) (fl : Int) (pt : Int) (h : Int → Int) (pa : Int → Int) (i : Int) (v : Int) (hh : ∀ k, 0 ≤ h k ∧ h k ≤ 50) (hN : 0 ≤ h 40 ∧ h 40 ≤ 40) (hpa : ∀ k, 0 ≤ pa k ∧ pa k ≤ 50) (hpm : 0 ≤ pm ∧ pm ≤ 8) (hzi : hs_in i) (hzv : hs_in v) : hs_M l D cI cO yX7_set wsX7_set ({ frames := 2, cells := 0, slots := 0, locals := 43 } : Room) [.ref y0, hs_V i, hs_V v] [hs_ob y0 7 [.ref y1, .ref y2, hs_V pm, .ref y3, hs_V fl, .ref y4, .ref y5, .ref y6, .ref y7, hs_V pt, .ref y8, .ref y9], hs_ia cI y1 41 h, hs_ia cI y2 328 pa] (fun r (_ : Unit) => r = hs_I (mo_set i v (h, pa, pm)).1) (fun _ => [hs_ob y0 7 [.ref y1, .ref y2, hs_V (mo_set i v (h, pa, pm)).2.2.2, .ref y3, hs_V fl, .ref y4, .ref y5, .ref y6, .ref y7, hs_V pt, .ref y8, .ref y9], hs_ia cI y1 41 (mo_set i v (h, pa, pm)).2.1, hs_ia cI y2 328 (mo_set i v (h, pa, pm)).2.2.1]) 0 0 := by
  refine hs_enter (cc := cX7_set) (maxL := 3) (by decide +kernel) rfl (Nat.le_of_ble_eq_true rfl) (fun p e s m args below meth c A H0 Q C hret => ?_)
  have f7 := C.1.2.2.2.2 (.fieldLink RX7 7 "HistogramStairsModel" "h" "[I") (by decide +kernel)
  have u7 : ∀ w ∈ wsX70, w ∈ wsX7_set := by decide +kernel
  refine hs_lvs (lv' := [(0, .ref y0), (1, hs_V i), (2, hs_V v)]) [0, 1, 2] rfl ?_
  refine hs_aload_n C dX7_set_0 rfl 0 rfl ?_
  refine hs_iload_n C dX7_set_1 rfl 1 rfl ?_
  refine hs_callVi (win := [hs_ob y0 7 [.ref y1, .ref y2, hs_V pm, .ref y3, hs_V fl, .ref y4, .ref y5, .ref y6, .ref y7, hs_V pt, .ref y8, .ref y9], hs_ia cI y1 41 h]) (wr := [hs_ia cI y2 328 pa]) (As := [hs_V i]) (rest := []) C (c_X7_isColumn l D cI cO y0 y1 y2 y3 y4 y5 y6 y7 y8 y9 pm fl pt h i (by omega) (by omega)) 7 0 rfl rfl rfl (cwV 1 C.1.2.2.2.2 gX7_set_X7_isColumn rfl rfl rfl (by decide +kernel) ⟨Nat.le_of_ble_eq_true rfl, Nat.le_of_ble_eq_true rfl⟩) rfl rfl (Nat.le_of_ble_eq_true rfl) dX7_set_2 ⟨Nat.le_of_ble_eq_true rfl, Nat.le_of_ble_eq_true rfl⟩ (fun rr uu1 hp => ?_)
  obtain rfl := hp
  refine hs_re0 (w' := [hs_ob y0 7 [.ref y1, .ref y2, hs_V pm, .ref y3, hs_V fl, .ref y4, .ref y5, .ref y6, .ref y7, hs_V pt, .ref y8, .ref y9], hs_ia cI y1 41 h, hs_ia cI y2 328 pa]) [0, 1, 2] rfl (by decide) ?_
  refine hs_ifeq_b (tgt := 18) C dX7_set_5 (by decide) (fun c2 => ?_) (fun c2 => ?_)
  ·
    have hE : mo_set i v (h, pa, pm) = (-1, (h, pa, pm)) := by unfold mo_set; dsimp only; rw [if_pos (by omega)]
    refine hs_iconst C dX7_set_18 ?_
    refine hs_cast (ws' := [hs_ob y0 7 [.ref y1, .ref y2, hs_V (mo_set i v (h, pa, pm)).2.2.2, .ref y3, hs_V fl, .ref y4, .ref y5, .ref y6, .ref y7, hs_V pt, .ref y8, .ref y9], hs_ia cI y1 41 (mo_set i v (h, pa, pm)).2.1, hs_ia cI y2 328 (mo_set i v (h, pa, pm)).2.2.1]) ?_ rfl rfl rfl (by rw [hE] <;> rfl)
    exact hret _ _ _ () (by rw [hE] <;> rfl) dX7_set_19 rfl
  ·
    refine hs_iload_n C dX7_set_8 rfl 2 rfl ?_
    refine hs_iconst C dX7_set_9 ?_
    refine hs_bipush C dX7_set_10 (by decide) ?_
    refine hs_callSi (win := []) (wr := [hs_ob y0 7 [.ref y1, .ref y2, hs_V pm, .ref y3, hs_V fl, .ref y4, .ref y5, .ref y6, .ref y7, hs_V pt, .ref y8, .ref y9], hs_ia cI y1 41 h, hs_ia cI y2 328 pa]) (As := [hs_V v, hs_V 0, hs_V 50]) (rest := []) C (c_X7_isIn l D cI cO v 0 50 (by omega) (by omega) (by omega)) (va_cwS 3 C.1.2.2.2.2 gX7_set_X7_isIn rfl rfl rfl (by decide +kernel) ⟨Nat.le_of_ble_eq_true rfl, Nat.le_of_ble_eq_true rfl⟩) rfl rfl (Nat.le_of_ble_eq_true rfl) dX7_set_12 ⟨Nat.le_of_ble_eq_true rfl, Nat.le_of_ble_eq_true rfl⟩ (fun rr uu3 hp => ?_)
    obtain rfl := hp
    refine hs_re0 (w' := [hs_ob y0 7 [.ref y1, .ref y2, hs_V pm, .ref y3, hs_V fl, .ref y4, .ref y5, .ref y6, .ref y7, hs_V pt, .ref y8, .ref y9], hs_ia cI y1 41 h, hs_ia cI y2 328 pa]) [0, 1, 2] rfl (by decide) ?_
    refine hs_ifne_b (tgt := 20) C dX7_set_15 (by decide) (fun c4 => ?_) (fun c4 => ?_)
    ·
      refine hs_aload_n C dX7_set_20 rfl 0 rfl ?_
      refine hs_callVv (win := [hs_ob y0 7 [.ref y1, .ref y2, hs_V pm, .ref y3, hs_V fl, .ref y4, .ref y5, .ref y6, .ref y7, hs_V pt, .ref y8, .ref y9], hs_ia cI y1 41 h, hs_ia cI y2 328 pa]) (wr := []) (As := []) (rest := []) C (c_X7_remember l D cI cO y0 y1 y2 y3 y4 y5 y6 y7 y8 y9 pm fl pt h pa hh hpa (by omega)) 7 0 rfl rfl rfl (cwV 0 C.1.2.2.2.2 gX7_set_X7_remember rfl rfl rfl (by decide +kernel) ⟨Nat.le_of_ble_eq_true rfl, Nat.le_of_ble_eq_true rfl⟩) rfl rfl (Nat.le_of_ble_eq_true rfl) dX7_set_21 ⟨Nat.le_of_ble_eq_true rfl, Nat.le_of_ble_eq_true rfl⟩ (fun uu5 hp => ?_)
      refine hs_re0 (w' := [hs_ob y0 7 [.ref y1, .ref y2, hs_V (mo_rC pm), .ref y3, hs_V fl, .ref y4, .ref y5, .ref y6, .ref y7, hs_V pt, .ref y8, .ref y9], hs_ia cI y1 41 h, hs_ia cI y2 328 (mo_rP h pa pm)]) [0, 1, 2] rfl (by decide) ?_
      have hrb := mo_rP_bd (pm := pm) hh hpa
      have hrc := mo_rC_rg hpm
      refine hs_aload_n C dX7_set_24 rfl 0 rfl ?_
      refine hs_get C u7 0 rfl rfl 0 (by decide) f7 rfl rfl dX7_set_25 ?_
      refine hs_iload_n C dX7_set_28 rfl 1 rfl ?_
      refine hs_iload_n C dX7_set_29 rfl 2 rfl ?_
      refine hs_iast (ws' := [hs_ob y0 7 [.ref y1, .ref y2, hs_V (mo_rC pm), .ref y3, hs_V fl, .ref y4, .ref y5, .ref y6, .ref y7, hs_V pt, .ref y8, .ref y9], hs_ia cI y1 41 (hs_u h i v), hs_ia cI y2 328 (mo_rP h pa pm)]) C 1 rfl (by omega) rfl dX7_set_30 ?_
      have b6 := hs_u_bd (i := i) hh (show 0 ≤ v ∧ v ≤ 50 by omega)
      have hE : mo_set i v (h, pa, pm) = (h i, hs_u h i v, mo_rP h pa pm, mo_rC pm) := by unfold mo_set; dsimp only; rw [if_neg (by omega)]
      refine hs_aload_n C dX7_set_31 rfl 0 rfl ?_
      refine hs_iload_n C dX7_set_32 rfl 1 rfl ?_
      refine hs_re0 (w' := [hs_ob y0 7 [.ref y1, .ref y2, hs_V (mo_rC pm), .ref y3, hs_V fl, .ref y4, .ref y5, .ref y6, .ref y7, hs_V pt, .ref y8, .ref y9], hs_ia cI y2 328 (mo_rP h pa pm), hs_ia cI y1 41 (hs_u h i v)]) [0, 2, 1] rfl (by decide) ?_
      refine hs_callVi (win := [hs_ob y0 7 [.ref y1, .ref y2, hs_V (mo_rC pm), .ref y3, hs_V fl, .ref y4, .ref y5, .ref y6, .ref y7, hs_V pt, .ref y8, .ref y9], hs_ia cI y2 328 (mo_rP h pa pm)]) (wr := [hs_ia cI y1 41 (hs_u h i v)]) (As := [hs_V i]) (rest := []) C (c_X7_before l D cI cO y0 y1 y2 y3 y4 y5 y6 y7 y8 y9 (mo_rC pm) fl pt (mo_rP h pa pm) i (by omega) (by omega)) 7 0 rfl rfl rfl (cwV 1 C.1.2.2.2.2 gX7_set_X7_before rfl rfl rfl (by decide +kernel) ⟨Nat.le_of_ble_eq_true rfl, Nat.le_of_ble_eq_true rfl⟩) rfl rfl (Nat.le_of_ble_eq_true rfl) dX7_set_33 ⟨Nat.le_of_ble_eq_true rfl, Nat.le_of_ble_eq_true rfl⟩ (fun rr uu7 hp => ?_)
      obtain rfl := hp
      refine hs_re0 (w' := [hs_ob y0 7 [.ref y1, .ref y2, hs_V (mo_rC pm), .ref y3, hs_V fl, .ref y4, .ref y5, .ref y6, .ref y7, hs_V pt, .ref y8, .ref y9], hs_ia cI y1 41 (hs_u h i v), hs_ia cI y2 328 (mo_rP h pa pm)]) [0, 2, 1] rfl (by decide) ?_
      rw [mo_before (by omega)]
      refine hs_cast (ws' := [hs_ob y0 7 [.ref y1, .ref y2, hs_V (mo_set i v (h, pa, pm)).2.2.2, .ref y3, hs_V fl, .ref y4, .ref y5, .ref y6, .ref y7, hs_V pt, .ref y8, .ref y9], hs_ia cI y1 41 (mo_set i v (h, pa, pm)).2.1, hs_ia cI y2 328 (mo_set i v (h, pa, pm)).2.2.1]) ?_ rfl rfl rfl (by rw [hE] <;> rfl)
      exact hret _ _ _ () (by rw [hE] <;> rfl) dX7_set_36 rfl
    ·
      have hE : mo_set i v (h, pa, pm) = (-1, (h, pa, pm)) := by unfold mo_set; dsimp only; rw [if_pos (by omega)]
      refine hs_iconst C dX7_set_18 ?_
      refine hs_cast (ws' := [hs_ob y0 7 [.ref y1, .ref y2, hs_V (mo_set i v (h, pa, pm)).2.2.2, .ref y3, hs_V fl, .ref y4, .ref y5, .ref y6, .ref y7, hs_V pt, .ref y8, .ref y9], hs_ia cI y1 41 (mo_set i v (h, pa, pm)).2.1, hs_ia cI y2 328 (mo_set i v (h, pa, pm)).2.2.1]) ?_ rfl rfl rfl (by rw [hE] <;> rfl)
      exact hret _ _ _ () (by rw [hE] <;> rfl) dX7_set_19 rfl

set_option maxHeartbeats 4000000 in
set_option maxRecDepth 100000 in
theorem c_X7_raise (l : Launch) (D : va_G) (cI cO : ClassId) (y0 : Nat) (y1 : Nat) (y2 : Nat) (y3 : Nat) (y4 : Nat) (y5 : Nat) (y6 : Nat) (y7 : Nat) (y8 : Nat) (y9 : Nat) (pm : Int) (fl : Int) (pt : Int) (h : Int → Int) (pa : Int → Int) (a : Int) (b : Int) (d : Int) (hh : ∀ k, 0 ≤ h k ∧ h k ≤ 50) (hN : 0 ≤ h 40 ∧ h 40 ≤ 40) (hpa : ∀ k, 0 ≤ pa k ∧ pa k ≤ 50) (hpm : 0 ≤ pm ∧ pm ≤ 8) (hza : hs_in a) (hzb : hs_in b) (hzd : hs_in d) : hs_M l D cI cO yX7_raise wsX7_raise ({ frames := 3, cells := 0, slots := 0, locals := 65 } : Room) [.ref y0, hs_V a, hs_V b, hs_V d] [hs_ob y0 7 [.ref y1, .ref y2, hs_V pm, .ref y3, hs_V fl, .ref y4, .ref y5, .ref y6, .ref y7, hs_V pt, .ref y8, .ref y9], hs_ia cI y1 41 h, hs_ia cI y2 328 pa] (fun r (_ : Unit) => r = hs_I (mo_raise a b d (h, pa, pm)).1) (fun _ => [hs_ob y0 7 [.ref y1, .ref y2, hs_V (mo_raise a b d (h, pa, pm)).2.2.2, .ref y3, hs_V fl, .ref y4, .ref y5, .ref y6, .ref y7, hs_V pt, .ref y8, .ref y9], hs_ia cI y1 41 (mo_raise a b d (h, pa, pm)).2.1, hs_ia cI y2 328 (mo_raise a b d (h, pa, pm)).2.2.1]) 0 0 := by
  refine hs_enter (cc := cX7_raise) (maxL := 5) (by decide +kernel) rfl (Nat.le_of_ble_eq_true rfl) (fun p e s m args below meth c A H0 Q C hret => ?_)
  have f7 := C.1.2.2.2.2 (.fieldLink RX7 7 "HistogramStairsModel" "h" "[I") (by decide +kernel)
  have u7 : ∀ w ∈ wsX70, w ∈ wsX7_raise := by decide +kernel
  refine hs_lvs (lv' := [(0, .ref y0), (1, hs_V a), (2, hs_V b), (3, hs_V d)]) [0, 1, 2, 3] rfl ?_
  refine hs_aload_n C dX7_raise_0 rfl 0 rfl ?_
  refine hs_iload_n C dX7_raise_1 rfl 1 rfl ?_
  refine hs_iload_n C dX7_raise_2 rfl 2 rfl ?_
  refine hs_callVi (win := [hs_ob y0 7 [.ref y1, .ref y2, hs_V pm, .ref y3, hs_V fl, .ref y4, .ref y5, .ref y6, .ref y7, hs_V pt, .ref y8, .ref y9], hs_ia cI y1 41 h]) (wr := [hs_ia cI y2 328 pa]) (As := [hs_V a, hs_V b]) (rest := []) C (c_X7_isRange l D cI cO y0 y1 y2 y3 y4 y5 y6 y7 y8 y9 pm fl pt h a b (by omega) (by omega) (by omega)) 7 0 rfl rfl rfl (cwV 2 C.1.2.2.2.2 gX7_raise_X7_isRange rfl rfl rfl (by decide +kernel) ⟨Nat.le_of_ble_eq_true rfl, Nat.le_of_ble_eq_true rfl⟩) rfl rfl (Nat.le_of_ble_eq_true rfl) dX7_raise_3 ⟨Nat.le_of_ble_eq_true rfl, Nat.le_of_ble_eq_true rfl⟩ (fun rr uu1 hp => ?_)
  obtain rfl := hp
  refine hs_re0 (w' := [hs_ob y0 7 [.ref y1, .ref y2, hs_V pm, .ref y3, hs_V fl, .ref y4, .ref y5, .ref y6, .ref y7, hs_V pt, .ref y8, .ref y9], hs_ia cI y1 41 h, hs_ia cI y2 328 pa]) [0, 1, 2] rfl (by decide) ?_
  refine hs_ifeq_b (tgt := 20) C dX7_raise_6 (by decide) (fun c2 => ?_) (fun c2 => ?_)
  ·
    have hE : mo_raise a b d (h, pa, pm) = (-1, (h, pa, pm)) := by unfold mo_raise; dsimp only; rw [if_pos (by omega)]
    refine hs_iconst C dX7_raise_20 ?_
    refine hs_cast (ws' := [hs_ob y0 7 [.ref y1, .ref y2, hs_V (mo_raise a b d (h, pa, pm)).2.2.2, .ref y3, hs_V fl, .ref y4, .ref y5, .ref y6, .ref y7, hs_V pt, .ref y8, .ref y9], hs_ia cI y1 41 (mo_raise a b d (h, pa, pm)).2.1, hs_ia cI y2 328 (mo_raise a b d (h, pa, pm)).2.2.1]) ?_ rfl rfl rfl (by rw [hE] <;> rfl)
    exact hret _ _ _ () (by rw [hE] <;> rfl) dX7_raise_21 rfl
  ·
    refine hs_iload_n C dX7_raise_9 rfl 3 rfl ?_
    refine hs_bipush C dX7_raise_10 (by decide) ?_
    refine hs_bipush C dX7_raise_12 (by decide) ?_
    refine hs_callSi (win := []) (wr := [hs_ob y0 7 [.ref y1, .ref y2, hs_V pm, .ref y3, hs_V fl, .ref y4, .ref y5, .ref y6, .ref y7, hs_V pt, .ref y8, .ref y9], hs_ia cI y1 41 h, hs_ia cI y2 328 pa]) (As := [hs_V d, hs_V (-50), hs_V 50]) (rest := []) C (c_X7_isIn l D cI cO d (-50) 50 (by omega) (by omega) (by omega)) (va_cwS 3 C.1.2.2.2.2 gX7_raise_X7_isIn rfl rfl rfl (by decide +kernel) ⟨Nat.le_of_ble_eq_true rfl, Nat.le_of_ble_eq_true rfl⟩) rfl rfl (Nat.le_of_ble_eq_true rfl) dX7_raise_14 ⟨Nat.le_of_ble_eq_true rfl, Nat.le_of_ble_eq_true rfl⟩ (fun rr uu3 hp => ?_)
    obtain rfl := hp
    refine hs_re0 (w' := [hs_ob y0 7 [.ref y1, .ref y2, hs_V pm, .ref y3, hs_V fl, .ref y4, .ref y5, .ref y6, .ref y7, hs_V pt, .ref y8, .ref y9], hs_ia cI y1 41 h, hs_ia cI y2 328 pa]) [0, 1, 2] rfl (by decide) ?_
    refine hs_ifne_b (tgt := 22) C dX7_raise_17 (by decide) (fun c4 => ?_) (fun c4 => ?_)
    ·
      refine hs_aload_n C dX7_raise_22 rfl 0 rfl ?_
      refine hs_callVv (win := [hs_ob y0 7 [.ref y1, .ref y2, hs_V pm, .ref y3, hs_V fl, .ref y4, .ref y5, .ref y6, .ref y7, hs_V pt, .ref y8, .ref y9], hs_ia cI y1 41 h, hs_ia cI y2 328 pa]) (wr := []) (As := []) (rest := []) C (c_X7_remember l D cI cO y0 y1 y2 y3 y4 y5 y6 y7 y8 y9 pm fl pt h pa hh hpa (by omega)) 7 0 rfl rfl rfl (cwV 0 C.1.2.2.2.2 gX7_raise_X7_remember rfl rfl rfl (by decide +kernel) ⟨Nat.le_of_ble_eq_true rfl, Nat.le_of_ble_eq_true rfl⟩) rfl rfl (Nat.le_of_ble_eq_true rfl) dX7_raise_23 ⟨Nat.le_of_ble_eq_true rfl, Nat.le_of_ble_eq_true rfl⟩ (fun uu5 hp => ?_)
      refine hs_re0 (w' := [hs_ob y0 7 [.ref y1, .ref y2, hs_V (mo_rC pm), .ref y3, hs_V fl, .ref y4, .ref y5, .ref y6, .ref y7, hs_V pt, .ref y8, .ref y9], hs_ia cI y1 41 h, hs_ia cI y2 328 (mo_rP h pa pm)]) [0, 1, 2] rfl (by decide) ?_
      have hrb := mo_rP_bd (pm := pm) hh hpa
      have hrc := mo_rC_rg hpm
      refine hs_iload_n C dX7_raise_26 rfl 1 rfl ?_
      refine hs_istore (lv' := [(0, .ref y0), (1, hs_V a), (2, hs_V b), (3, hs_V d), (4, hs_V a)]) C dX7_raise_27 (by decide) [1, 2, 3, 4, 0] rfl ?_
      have Lp6 : ∀ (k : Nat) (i : Int) (x : Int → Int), (a ≤ i ∧ i ≤ b + 1) → (∀ k, 0 ≤ x k ∧ x k ≤ 50) → (hs_up (fun i x => hs_u x i (max 0 (min (x i + d) 50))) i (b + 1) x = mo_raiH a b d h) → (b + 1 - i < (k : Int)) → hs_J p l e ({ frames := 3, cells := 0, slots := 0, locals := 65 } : Room) s m args below meth c D A H0 5 0 0 Q 29 [(0, .ref y0), (1, hs_V a), (2, hs_V b), (3, hs_V d), (4, hs_V i)] [] [hs_ob y0 7 [.ref y1, .ref y2, hs_V (mo_rC pm), .ref y3, hs_V fl, .ref y4, .ref y5, .ref y6, .ref y7, hs_V pt, .ref y8, .ref y9], hs_ia cI y1 41 x, hs_ia cI y2 328 (mo_rP h pa pm)] := by
        intro k
        induction k with
        | zero =>
          intro i x hi hx hL hk
          exact absurd hk (by omega)
        | succ k ih =>
          intro i x hi hx hL hk
          have ih7 := ih
          refine hs_iload C dX7_raise_29 4 rfl ?_
          refine hs_iload_n C dX7_raise_31 rfl 2 rfl ?_
          refine hs_icmp_gt (tgt := 60) C dX7_raise_32 (by decide) (by omega) (by omega) (fun c8 => ?_) (fun c8 => ?_)
          ·
            have hRH : mo_raiH a b d h = x := by rw [← hL, hs_up_done (by omega)]
            have hxb : ∀ k, 0 ≤ mo_raiH a b d h k ∧ mo_raiH a b d h k ≤ 50 := by rw [hRH]; exact hx
            refine hs_aload_n C dX7_raise_60 rfl 0 rfl ?_
            refine hs_cast (ws' := [hs_ob y0 7 [.ref y1, .ref y2, hs_V (mo_rC pm), .ref y3, hs_V fl, .ref y4, .ref y5, .ref y6, .ref y7, hs_V pt, .ref y8, .ref y9], hs_ia cI y1 41 (mo_raiH a b d h), hs_ia cI y2 328 (mo_rP h pa pm)]) ?_ rfl rfl rfl (by rw [hRH])
            refine hs_iload_n C dX7_raise_61 rfl 1 rfl ?_
            refine hs_iload_n C dX7_raise_62 rfl 2 rfl ?_
            refine hs_callVi (win := [hs_ob y0 7 [.ref y1, .ref y2, hs_V (mo_rC pm), .ref y3, hs_V fl, .ref y4, .ref y5, .ref y6, .ref y7, hs_V pt, .ref y8, .ref y9], hs_ia cI y1 41 (mo_raiH a b d h), hs_ia cI y2 328 (mo_rP h pa pm)]) (wr := []) (As := [hs_V a, hs_V b]) (rest := []) C (c_X7_changed l D cI cO y0 y1 y2 y3 y4 y5 y6 y7 y8 y9 (mo_rC pm) fl pt (mo_raiH a b d h) (mo_rP h pa pm) a b (by omega) hrb (by omega) (by omega)) 7 0 rfl rfl rfl (cwV 2 C.1.2.2.2.2 gX7_raise_X7_changed rfl rfl rfl (by decide +kernel) ⟨Nat.le_of_ble_eq_true rfl, Nat.le_of_ble_eq_true rfl⟩) rfl rfl (Nat.le_of_ble_eq_true rfl) dX7_raise_63 ⟨Nat.le_of_ble_eq_true rfl, Nat.le_of_ble_eq_true rfl⟩ (fun rr uu9 hp => ?_)
            obtain rfl := hp
            refine hs_re0 (w' := [hs_ob y0 7 [.ref y1, .ref y2, hs_V (mo_rC pm), .ref y3, hs_V fl, .ref y4, .ref y5, .ref y6, .ref y7, hs_V pt, .ref y8, .ref y9], hs_ia cI y1 41 (mo_raiH a b d h), hs_ia cI y2 328 (mo_rP h pa pm)]) [0, 1, 2] rfl (by decide) ?_
            have hE : mo_raise a b d (h, pa, pm) = (mo_chg (mo_raiH a b d h) (mo_rP h pa pm) (mo_rC pm) a b, mo_raiH a b d h, mo_rP h pa pm, mo_rC pm) := by unfold mo_raise; dsimp only; rw [if_neg (by omega)]
            refine hs_cast (ws' := [hs_ob y0 7 [.ref y1, .ref y2, hs_V (mo_raise a b d (h, pa, pm)).2.2.2, .ref y3, hs_V fl, .ref y4, .ref y5, .ref y6, .ref y7, hs_V pt, .ref y8, .ref y9], hs_ia cI y1 41 (mo_raise a b d (h, pa, pm)).2.1, hs_ia cI y2 328 (mo_raise a b d (h, pa, pm)).2.2.1]) ?_ rfl rfl rfl (by rw [hE] <;> rfl)
            exact hret _ _ _ () (by rw [hE] <;> rfl) dX7_raise_66 rfl
          ·
            refine hs_aload_n C dX7_raise_35 rfl 0 rfl ?_
            refine hs_get C u7 0 rfl rfl 0 (by decide) f7 rfl rfl dX7_raise_36 ?_
            refine hs_iload C dX7_raise_39 4 rfl ?_
            refine hs_aload_n C dX7_raise_41 rfl 0 rfl ?_
            refine hs_get C u7 0 rfl rfl 0 (by decide) f7 rfl rfl dX7_raise_42 ?_
            refine hs_iload C dX7_raise_45 4 rfl ?_
            refine hs_iald C 1 rfl (by omega) dX7_raise_47 ?_
            have b10 := hx i
            refine hs_iload_n C dX7_raise_48 rfl 3 rfl ?_
            refine hs_iadd C dX7_raise_49 ?_
            refine hs_callSi (win := []) (wr := [hs_ob y0 7 [.ref y1, .ref y2, hs_V (mo_rC pm), .ref y3, hs_V fl, .ref y4, .ref y5, .ref y6, .ref y7, hs_V pt, .ref y8, .ref y9], hs_ia cI y1 41 x, hs_ia cI y2 328 (mo_rP h pa pm)]) (As := [hs_V ((x i) + d)]) (rest := [hs_V i, .ref y1]) C (c_X7_capped l D cI cO ((x i) + d) (by omega)) (va_cwS 1 C.1.2.2.2.2 gX7_raise_X7_capped rfl rfl rfl (by decide +kernel) ⟨Nat.le_of_ble_eq_true rfl, Nat.le_of_ble_eq_true rfl⟩) rfl rfl (Nat.le_of_ble_eq_true rfl) dX7_raise_50 ⟨Nat.le_of_ble_eq_true rfl, Nat.le_of_ble_eq_true rfl⟩ (fun rr uu11 hp => ?_)
            obtain rfl := hp
            refine hs_re0 (w' := [hs_ob y0 7 [.ref y1, .ref y2, hs_V (mo_rC pm), .ref y3, hs_V fl, .ref y4, .ref y5, .ref y6, .ref y7, hs_V pt, .ref y8, .ref y9], hs_ia cI y1 41 x, hs_ia cI y2 328 (mo_rP h pa pm)]) [0, 1, 2] rfl (by decide) ?_
            refine hs_iast (ws' := [hs_ob y0 7 [.ref y1, .ref y2, hs_V (mo_rC pm), .ref y3, hs_V fl, .ref y4, .ref y5, .ref y6, .ref y7, hs_V pt, .ref y8, .ref y9], hs_ia cI y1 41 (hs_u x i (max 0 (min ((x i) + d) 50))), hs_ia cI y2 328 (mo_rP h pa pm)]) C 1 rfl (by omega) rfl dX7_raise_53 ?_
            have b12 := hs_u_bd (i := i) hx (show 0 ≤ max 0 (min ((x i) + d) 50) ∧ max 0 (min ((x i) + d) 50) ≤ 50 by omega)
            refine hs_iinc (lv' := [(0, .ref y0), (1, hs_V a), (2, hs_V b), (3, hs_V d), (4, hs_V (i + 1))]) C dX7_raise_54 4 rfl (by decide) [1, 2, 3, 4, 0] rfl ?_
            refine hs_goto (tgt := 29) C dX7_raise_57 (by decide) ?_
            exact ih7 (i + 1) (hs_u x i (max 0 (min ((x i) + d) 50))) (by omega) b12 (by have hz := (hs_up_step (by omega)).symm.trans hL; (try dsimp only at hz); first | exact hz | (split at hz <;> first | exact hz | (exfalso; omega) | (split at hz <;> first | exact hz | (exfalso; omega) | (split at hz <;> first | exact hz | (exfalso; omega))))) (by omega)
      exact Lp6 ((b + 1 - a : Int).toNat + 1) a h (by omega) hh (rfl) (by omega)
    ·
      have hE : mo_raise a b d (h, pa, pm) = (-1, (h, pa, pm)) := by unfold mo_raise; dsimp only; rw [if_pos (by omega)]
      refine hs_iconst C dX7_raise_20 ?_
      refine hs_cast (ws' := [hs_ob y0 7 [.ref y1, .ref y2, hs_V (mo_raise a b d (h, pa, pm)).2.2.2, .ref y3, hs_V fl, .ref y4, .ref y5, .ref y6, .ref y7, hs_V pt, .ref y8, .ref y9], hs_ia cI y1 41 (mo_raise a b d (h, pa, pm)).2.1, hs_ia cI y2 328 (mo_raise a b d (h, pa, pm)).2.2.1]) ?_ rfl rfl rfl (by rw [hE] <;> rfl)
      exact hret _ _ _ () (by rw [hE] <;> rfl) dX7_raise_21 rfl

set_option maxHeartbeats 4000000 in
set_option maxRecDepth 100000 in
theorem c_X7_reverse (l : Launch) (D : va_G) (cI cO : ClassId) (y0 : Nat) (y1 : Nat) (y2 : Nat) (y3 : Nat) (y4 : Nat) (y5 : Nat) (y6 : Nat) (y7 : Nat) (y8 : Nat) (y9 : Nat) (pm : Int) (fl : Int) (pt : Int) (h : Int → Int) (pa : Int → Int) (a : Int) (b : Int) (hh : ∀ k, 0 ≤ h k ∧ h k ≤ 50) (hN : 0 ≤ h 40 ∧ h 40 ≤ 40) (hpa : ∀ k, 0 ≤ pa k ∧ pa k ≤ 50) (hpm : 0 ≤ pm ∧ pm ≤ 8) (hza : hs_in a) (hzb : hs_in b) : hs_M l D cI cO yX7_reverse wsX7_reverse ({ frames := 3, cells := 0, slots := 0, locals := 65 } : Room) [.ref y0, hs_V a, hs_V b] [hs_ob y0 7 [.ref y1, .ref y2, hs_V pm, .ref y3, hs_V fl, .ref y4, .ref y5, .ref y6, .ref y7, hs_V pt, .ref y8, .ref y9], hs_ia cI y1 41 h, hs_ia cI y2 328 pa] (fun r (_ : Unit) => r = hs_I (mo_reverse a b (h, pa, pm)).1) (fun _ => [hs_ob y0 7 [.ref y1, .ref y2, hs_V (mo_reverse a b (h, pa, pm)).2.2.2, .ref y3, hs_V fl, .ref y4, .ref y5, .ref y6, .ref y7, hs_V pt, .ref y8, .ref y9], hs_ia cI y1 41 (mo_reverse a b (h, pa, pm)).2.1, hs_ia cI y2 328 (mo_reverse a b (h, pa, pm)).2.2.1]) 0 0 := by
  refine hs_enter (cc := cX7_reverse) (maxL := 4) (by decide +kernel) rfl (Nat.le_of_ble_eq_true rfl) (fun p e s m args below meth c A H0 Q C hret => ?_)
  have f7 := C.1.2.2.2.2 (.fieldLink RX7 7 "HistogramStairsModel" "h" "[I") (by decide +kernel)
  have u7 : ∀ w ∈ wsX70, w ∈ wsX7_reverse := by decide +kernel
  refine hs_lvs (lv' := [(0, .ref y0), (1, hs_V a), (2, hs_V b)]) [0, 1, 2] rfl ?_
  refine hs_aload_n C dX7_reverse_0 rfl 0 rfl ?_
  refine hs_iload_n C dX7_reverse_1 rfl 1 rfl ?_
  refine hs_iload_n C dX7_reverse_2 rfl 2 rfl ?_
  refine hs_callVi (win := [hs_ob y0 7 [.ref y1, .ref y2, hs_V pm, .ref y3, hs_V fl, .ref y4, .ref y5, .ref y6, .ref y7, hs_V pt, .ref y8, .ref y9], hs_ia cI y1 41 h]) (wr := [hs_ia cI y2 328 pa]) (As := [hs_V a, hs_V b]) (rest := []) C (c_X7_isRange l D cI cO y0 y1 y2 y3 y4 y5 y6 y7 y8 y9 pm fl pt h a b (by omega) (by omega) (by omega)) 7 0 rfl rfl rfl (cwV 2 C.1.2.2.2.2 gX7_reverse_X7_isRange rfl rfl rfl (by decide +kernel) ⟨Nat.le_of_ble_eq_true rfl, Nat.le_of_ble_eq_true rfl⟩) rfl rfl (Nat.le_of_ble_eq_true rfl) dX7_reverse_3 ⟨Nat.le_of_ble_eq_true rfl, Nat.le_of_ble_eq_true rfl⟩ (fun rr uu1 hp => ?_)
  obtain rfl := hp
  refine hs_re0 (w' := [hs_ob y0 7 [.ref y1, .ref y2, hs_V pm, .ref y3, hs_V fl, .ref y4, .ref y5, .ref y6, .ref y7, hs_V pt, .ref y8, .ref y9], hs_ia cI y1 41 h, hs_ia cI y2 328 pa]) [0, 1, 2] rfl (by decide) ?_
  refine hs_ifne_b (tgt := 11) C dX7_reverse_6 (by decide) (fun c2 => ?_) (fun c2 => ?_)
  ·
    refine hs_aload_n C dX7_reverse_11 rfl 0 rfl ?_
    refine hs_callVv (win := [hs_ob y0 7 [.ref y1, .ref y2, hs_V pm, .ref y3, hs_V fl, .ref y4, .ref y5, .ref y6, .ref y7, hs_V pt, .ref y8, .ref y9], hs_ia cI y1 41 h, hs_ia cI y2 328 pa]) (wr := []) (As := []) (rest := []) C (c_X7_remember l D cI cO y0 y1 y2 y3 y4 y5 y6 y7 y8 y9 pm fl pt h pa hh hpa (by omega)) 7 0 rfl rfl rfl (cwV 0 C.1.2.2.2.2 gX7_reverse_X7_remember rfl rfl rfl (by decide +kernel) ⟨Nat.le_of_ble_eq_true rfl, Nat.le_of_ble_eq_true rfl⟩) rfl rfl (Nat.le_of_ble_eq_true rfl) dX7_reverse_12 ⟨Nat.le_of_ble_eq_true rfl, Nat.le_of_ble_eq_true rfl⟩ (fun uu3 hp => ?_)
    refine hs_re0 (w' := [hs_ob y0 7 [.ref y1, .ref y2, hs_V (mo_rC pm), .ref y3, hs_V fl, .ref y4, .ref y5, .ref y6, .ref y7, hs_V pt, .ref y8, .ref y9], hs_ia cI y1 41 h, hs_ia cI y2 328 (mo_rP h pa pm)]) [0, 1, 2] rfl (by decide) ?_
    have hrb := mo_rP_bd (pm := pm) hh hpa
    have hrc := mo_rC_rg hpm
    refine hs_iload_n C dX7_reverse_15 rfl 1 rfl ?_
    refine hs_istore_n (lv' := [(0, .ref y0), (1, hs_V a), (2, hs_V b), (3, hs_V a)]) C dX7_reverse_16 rfl (by decide) [1, 2, 3, 0] rfl ?_
    have Lp4 : ∀ (k : Nat) (i : Int) (x : Int → Int), (a ≤ i ∧ i ≤ b + 1) → (∀ k, 0 ≤ x k ∧ x k ≤ 50) → (hs_up (fun i x => hs_u x i (h (a + b - i))) i (b + 1) x = mo_revH a b h) → (b + 1 - i < (k : Int)) → hs_J p l e ({ frames := 3, cells := 0, slots := 0, locals := 65 } : Room) s m args below meth c D A H0 4 0 0 Q 17 [(0, .ref y0), (1, hs_V a), (2, hs_V b), (3, hs_V i)] [] [hs_ob y0 7 [.ref y1, .ref y2, hs_V (mo_rC pm), .ref y3, hs_V fl, .ref y4, .ref y5, .ref y6, .ref y7, hs_V pt, .ref y8, .ref y9], hs_ia cI y1 41 x, hs_ia cI y2 328 (mo_rP h pa pm)] := by
      intro k
      induction k with
      | zero =>
        intro i x hi hx hL hk
        exact absurd hk (by omega)
      | succ k ih =>
        intro i x hi hx hL hk
        have ih5 := ih
        have hbi := hh (a + b - i)
        refine hs_iload_n C dX7_reverse_17 rfl 3 rfl ?_
        refine hs_iload_n C dX7_reverse_18 rfl 2 rfl ?_
        refine hs_icmp_gt (tgt := 43) C dX7_reverse_19 (by decide) (by omega) (by omega) (fun c6 => ?_) (fun c6 => ?_)
        ·
          have hRH : mo_revH a b h = x := by rw [← hL, hs_up_done (by omega)]
          have hxb : ∀ k, 0 ≤ mo_revH a b h k ∧ mo_revH a b h k ≤ 50 := by rw [hRH]; exact hx
          refine hs_aload_n C dX7_reverse_43 rfl 0 rfl ?_
          refine hs_cast (ws' := [hs_ob y0 7 [.ref y1, .ref y2, hs_V (mo_rC pm), .ref y3, hs_V fl, .ref y4, .ref y5, .ref y6, .ref y7, hs_V pt, .ref y8, .ref y9], hs_ia cI y1 41 (mo_revH a b h), hs_ia cI y2 328 (mo_rP h pa pm)]) ?_ rfl rfl rfl (by rw [hRH])
          refine hs_iload_n C dX7_reverse_44 rfl 1 rfl ?_
          refine hs_iload_n C dX7_reverse_45 rfl 2 rfl ?_
          refine hs_callVi (win := [hs_ob y0 7 [.ref y1, .ref y2, hs_V (mo_rC pm), .ref y3, hs_V fl, .ref y4, .ref y5, .ref y6, .ref y7, hs_V pt, .ref y8, .ref y9], hs_ia cI y1 41 (mo_revH a b h), hs_ia cI y2 328 (mo_rP h pa pm)]) (wr := []) (As := [hs_V a, hs_V b]) (rest := []) C (c_X7_changed l D cI cO y0 y1 y2 y3 y4 y5 y6 y7 y8 y9 (mo_rC pm) fl pt (mo_revH a b h) (mo_rP h pa pm) a b (by omega) hrb (by omega) (by omega)) 7 0 rfl rfl rfl (cwV 2 C.1.2.2.2.2 gX7_reverse_X7_changed rfl rfl rfl (by decide +kernel) ⟨Nat.le_of_ble_eq_true rfl, Nat.le_of_ble_eq_true rfl⟩) rfl rfl (Nat.le_of_ble_eq_true rfl) dX7_reverse_46 ⟨Nat.le_of_ble_eq_true rfl, Nat.le_of_ble_eq_true rfl⟩ (fun rr uu7 hp => ?_)
          obtain rfl := hp
          refine hs_re0 (w' := [hs_ob y0 7 [.ref y1, .ref y2, hs_V (mo_rC pm), .ref y3, hs_V fl, .ref y4, .ref y5, .ref y6, .ref y7, hs_V pt, .ref y8, .ref y9], hs_ia cI y1 41 (mo_revH a b h), hs_ia cI y2 328 (mo_rP h pa pm)]) [0, 1, 2] rfl (by decide) ?_
          have hE : mo_reverse a b (h, pa, pm) = (mo_chg (mo_revH a b h) (mo_rP h pa pm) (mo_rC pm) a b, mo_revH a b h, mo_rP h pa pm, mo_rC pm) := by unfold mo_reverse; dsimp only; rw [if_neg (by omega)]
          refine hs_cast (ws' := [hs_ob y0 7 [.ref y1, .ref y2, hs_V (mo_reverse a b (h, pa, pm)).2.2.2, .ref y3, hs_V fl, .ref y4, .ref y5, .ref y6, .ref y7, hs_V pt, .ref y8, .ref y9], hs_ia cI y1 41 (mo_reverse a b (h, pa, pm)).2.1, hs_ia cI y2 328 (mo_reverse a b (h, pa, pm)).2.2.1]) ?_ rfl rfl rfl (by rw [hE] <;> rfl)
          exact hret _ _ _ () (by rw [hE] <;> rfl) dX7_reverse_49 rfl
        ·
          refine hs_aload_n C dX7_reverse_22 rfl 0 rfl ?_
          refine hs_get C u7 0 rfl rfl 0 (by decide) f7 rfl rfl dX7_reverse_23 ?_
          refine hs_iload_n C dX7_reverse_26 rfl 3 rfl ?_
          refine hs_aload_n C dX7_reverse_27 rfl 0 rfl ?_
          refine hs_iload_n C dX7_reverse_28 rfl 1 rfl ?_
          refine hs_iload_n C dX7_reverse_29 rfl 2 rfl ?_
          refine hs_iadd C dX7_reverse_30 ?_
          refine hs_iload_n C dX7_reverse_31 rfl 3 rfl ?_
          refine hs_isub C dX7_reverse_32 ?_
          refine hs_re0 (w' := [hs_ob y0 7 [.ref y1, .ref y2, hs_V (mo_rC pm), .ref y3, hs_V fl, .ref y4, .ref y5, .ref y6, .ref y7, hs_V pt, .ref y8, .ref y9], hs_ia cI y2 328 (mo_rP h pa pm), hs_ia cI y1 41 x]) [0, 2, 1] rfl (by decide) ?_
          refine hs_callVi (win := [hs_ob y0 7 [.ref y1, .ref y2, hs_V (mo_rC pm), .ref y3, hs_V fl, .ref y4, .ref y5, .ref y6, .ref y7, hs_V pt, .ref y8, .ref y9], hs_ia cI y2 328 (mo_rP h pa pm)]) (wr := [hs_ia cI y1 41 x]) (As := [hs_V ((a + b) - i)]) (rest := [hs_V i, .ref y1]) C (c_X7_before l D cI cO y0 y1 y2 y3 y4 y5 y6 y7 y8 y9 (mo_rC pm) fl pt (mo_rP h pa pm) ((a + b) - i) (by omega) (by omega)) 7 0 rfl rfl rfl (cwV 1 C.1.2.2.2.2 gX7_reverse_X7_before rfl rfl rfl (by decide +kernel) ⟨Nat.le_of_ble_eq_true rfl, Nat.le_of_ble_eq_true rfl⟩) rfl rfl (Nat.le_of_ble_eq_true rfl) dX7_reverse_33 ⟨Nat.le_of_ble_eq_true rfl, Nat.le_of_ble_eq_true rfl⟩ (fun rr uu8 hp => ?_)
          obtain rfl := hp
          refine hs_re0 (w' := [hs_ob y0 7 [.ref y1, .ref y2, hs_V (mo_rC pm), .ref y3, hs_V fl, .ref y4, .ref y5, .ref y6, .ref y7, hs_V pt, .ref y8, .ref y9], hs_ia cI y1 41 x, hs_ia cI y2 328 (mo_rP h pa pm)]) [0, 2, 1] rfl (by decide) ?_
          rw [mo_before (by omega)]
          refine hs_iast (ws' := [hs_ob y0 7 [.ref y1, .ref y2, hs_V (mo_rC pm), .ref y3, hs_V fl, .ref y4, .ref y5, .ref y6, .ref y7, hs_V pt, .ref y8, .ref y9], hs_ia cI y1 41 (hs_u x i (h (a + b - i))), hs_ia cI y2 328 (mo_rP h pa pm)]) C 1 rfl (by omega) rfl dX7_reverse_36 ?_
          have b9 := hs_u_bd (i := i) hx (show 0 ≤ h (a + b - i) ∧ h (a + b - i) ≤ 50 by omega)
          refine hs_iinc (lv' := [(0, .ref y0), (1, hs_V a), (2, hs_V b), (3, hs_V (i + 1))]) C dX7_reverse_37 3 rfl (by decide) [1, 2, 3, 0] rfl ?_
          refine hs_goto (tgt := 17) C dX7_reverse_40 (by decide) ?_
          exact ih5 (i + 1) (hs_u x i (h (a + b - i))) (by omega) b9 (by have hz := (hs_up_step (by omega)).symm.trans hL; (try dsimp only at hz); first | exact hz | (split at hz <;> first | exact hz | (exfalso; omega) | (split at hz <;> first | exact hz | (exfalso; omega) | (split at hz <;> first | exact hz | (exfalso; omega))))) (by omega)
    exact Lp4 ((b + 1 - a : Int).toNat + 1) a h (by omega) hh (rfl) (by omega)
  ·
    have hE : mo_reverse a b (h, pa, pm) = (-1, (h, pa, pm)) := by unfold mo_reverse; dsimp only; rw [if_pos (by omega)]
    refine hs_iconst C dX7_reverse_9 ?_
    refine hs_cast (ws' := [hs_ob y0 7 [.ref y1, .ref y2, hs_V (mo_reverse a b (h, pa, pm)).2.2.2, .ref y3, hs_V fl, .ref y4, .ref y5, .ref y6, .ref y7, hs_V pt, .ref y8, .ref y9], hs_ia cI y1 41 (mo_reverse a b (h, pa, pm)).2.1, hs_ia cI y2 328 (mo_reverse a b (h, pa, pm)).2.2.1]) ?_ rfl rfl rfl (by rw [hE] <;> rfl)
    exact hret _ _ _ () (by rw [hE] <;> rfl) dX7_reverse_10 rfl

set_option maxHeartbeats 4000000 in
set_option maxRecDepth 100000 in
theorem c_X7_sort (l : Launch) (D : va_G) (cI cO : ClassId) (y0 : Nat) (y1 : Nat) (y2 : Nat) (y3 : Nat) (y4 : Nat) (y5 : Nat) (y6 : Nat) (y7 : Nat) (y8 : Nat) (y9 : Nat) (pm : Int) (fl : Int) (pt : Int) (h : Int → Int) (pa : Int → Int) (a : Int) (b : Int) (u1 : Int) (hh : ∀ k, 0 ≤ h k ∧ h k ≤ 50) (hN : 0 ≤ h 40 ∧ h 40 ≤ 40) (hpa : ∀ k, 0 ≤ pa k ∧ pa k ≤ 50) (hpm : 0 ≤ pm ∧ pm ≤ 8) (hza : hs_in a) (hzb : hs_in b) (hzu : hs_in u1) : hs_M l D cI cO yX7_sort wsX7_sort ({ frames := 3, cells := 0, slots := 0, locals := 65 } : Room) [.ref y0, hs_V a, hs_V b, hs_V u1] [hs_ob y0 7 [.ref y1, .ref y2, hs_V pm, .ref y3, hs_V fl, .ref y4, .ref y5, .ref y6, .ref y7, hs_V pt, .ref y8, .ref y9], hs_ia cI y1 41 h, hs_ia cI y2 328 pa] (fun r (_ : Unit) => r = hs_I (mo_sort a b u1 (h, pa, pm)).1) (fun _ => [hs_ob y0 7 [.ref y1, .ref y2, hs_V (mo_sort a b u1 (h, pa, pm)).2.2.2, .ref y3, hs_V fl, .ref y4, .ref y5, .ref y6, .ref y7, hs_V pt, .ref y8, .ref y9], hs_ia cI y1 41 (mo_sort a b u1 (h, pa, pm)).2.1, hs_ia cI y2 328 (mo_sort a b u1 (h, pa, pm)).2.2.1]) 0 0 := by
  refine hs_enter (cc := cX7_sort) (maxL := 8) (by decide +kernel) rfl (Nat.le_of_ble_eq_true rfl) (fun p e s m args below meth c A H0 Q C hret => ?_)
  have f7 := C.1.2.2.2.2 (.fieldLink RX7 7 "HistogramStairsModel" "h" "[I") (by decide +kernel)
  have u7 : ∀ w ∈ wsX70, w ∈ wsX7_sort := by decide +kernel
  refine hs_lvs (lv' := [(0, .ref y0), (1, hs_V a), (2, hs_V b), (3, hs_V u1)]) [0, 1, 2, 3] rfl ?_
  refine hs_aload_n C dX7_sort_0 rfl 0 rfl ?_
  refine hs_iload_n C dX7_sort_1 rfl 1 rfl ?_
  refine hs_iload_n C dX7_sort_2 rfl 2 rfl ?_
  refine hs_callVi (win := [hs_ob y0 7 [.ref y1, .ref y2, hs_V pm, .ref y3, hs_V fl, .ref y4, .ref y5, .ref y6, .ref y7, hs_V pt, .ref y8, .ref y9], hs_ia cI y1 41 h]) (wr := [hs_ia cI y2 328 pa]) (As := [hs_V a, hs_V b]) (rest := []) C (c_X7_isRange l D cI cO y0 y1 y2 y3 y4 y5 y6 y7 y8 y9 pm fl pt h a b (by omega) (by omega) (by omega)) 7 0 rfl rfl rfl (cwV 2 C.1.2.2.2.2 gX7_sort_X7_isRange rfl rfl rfl (by decide +kernel) ⟨Nat.le_of_ble_eq_true rfl, Nat.le_of_ble_eq_true rfl⟩) rfl rfl (Nat.le_of_ble_eq_true rfl) dX7_sort_3 ⟨Nat.le_of_ble_eq_true rfl, Nat.le_of_ble_eq_true rfl⟩ (fun rr uu1 hp => ?_)
  obtain rfl := hp
  refine hs_re0 (w' := [hs_ob y0 7 [.ref y1, .ref y2, hs_V pm, .ref y3, hs_V fl, .ref y4, .ref y5, .ref y6, .ref y7, hs_V pt, .ref y8, .ref y9], hs_ia cI y1 41 h, hs_ia cI y2 328 pa]) [0, 1, 2] rfl (by decide) ?_
  refine hs_ifeq_b (tgt := 18) C dX7_sort_6 (by decide) (fun c2 => ?_) (fun c2 => ?_)
  ·
    have hE : mo_sort a b u1 (h, pa, pm) = (-1, (h, pa, pm)) := by unfold mo_sort; dsimp only; rw [if_pos (by omega)]
    refine hs_iconst C dX7_sort_18 ?_
    refine hs_cast (ws' := [hs_ob y0 7 [.ref y1, .ref y2, hs_V (mo_sort a b u1 (h, pa, pm)).2.2.2, .ref y3, hs_V fl, .ref y4, .ref y5, .ref y6, .ref y7, hs_V pt, .ref y8, .ref y9], hs_ia cI y1 41 (mo_sort a b u1 (h, pa, pm)).2.1, hs_ia cI y2 328 (mo_sort a b u1 (h, pa, pm)).2.2.1]) ?_ rfl rfl rfl (by rw [hE] <;> rfl)
    exact hret _ _ _ () (by rw [hE] <;> rfl) dX7_sort_19 rfl
  ·
    refine hs_iload_n C dX7_sort_9 rfl 3 rfl ?_
    refine hs_iconst C dX7_sort_10 ?_
    refine hs_iconst C dX7_sort_11 ?_
    refine hs_callSi (win := []) (wr := [hs_ob y0 7 [.ref y1, .ref y2, hs_V pm, .ref y3, hs_V fl, .ref y4, .ref y5, .ref y6, .ref y7, hs_V pt, .ref y8, .ref y9], hs_ia cI y1 41 h, hs_ia cI y2 328 pa]) (As := [hs_V u1, hs_V 0, hs_V 1]) (rest := []) C (c_X7_isIn l D cI cO u1 0 1 (by omega) (by omega) (by omega)) (va_cwS 3 C.1.2.2.2.2 gX7_sort_X7_isIn rfl rfl rfl (by decide +kernel) ⟨Nat.le_of_ble_eq_true rfl, Nat.le_of_ble_eq_true rfl⟩) rfl rfl (Nat.le_of_ble_eq_true rfl) dX7_sort_12 ⟨Nat.le_of_ble_eq_true rfl, Nat.le_of_ble_eq_true rfl⟩ (fun rr uu3 hp => ?_)
    obtain rfl := hp
    refine hs_re0 (w' := [hs_ob y0 7 [.ref y1, .ref y2, hs_V pm, .ref y3, hs_V fl, .ref y4, .ref y5, .ref y6, .ref y7, hs_V pt, .ref y8, .ref y9], hs_ia cI y1 41 h, hs_ia cI y2 328 pa]) [0, 1, 2] rfl (by decide) ?_
    refine hs_ifne_b (tgt := 20) C dX7_sort_15 (by decide) (fun c4 => ?_) (fun c4 => ?_)
    ·
      refine hs_aload_n C dX7_sort_20 rfl 0 rfl ?_
      refine hs_callVv (win := [hs_ob y0 7 [.ref y1, .ref y2, hs_V pm, .ref y3, hs_V fl, .ref y4, .ref y5, .ref y6, .ref y7, hs_V pt, .ref y8, .ref y9], hs_ia cI y1 41 h, hs_ia cI y2 328 pa]) (wr := []) (As := []) (rest := []) C (c_X7_remember l D cI cO y0 y1 y2 y3 y4 y5 y6 y7 y8 y9 pm fl pt h pa hh hpa (by omega)) 7 0 rfl rfl rfl (cwV 0 C.1.2.2.2.2 gX7_sort_X7_remember rfl rfl rfl (by decide +kernel) ⟨Nat.le_of_ble_eq_true rfl, Nat.le_of_ble_eq_true rfl⟩) rfl rfl (Nat.le_of_ble_eq_true rfl) dX7_sort_21 ⟨Nat.le_of_ble_eq_true rfl, Nat.le_of_ble_eq_true rfl⟩ (fun uu5 hp => ?_)
      refine hs_re0 (w' := [hs_ob y0 7 [.ref y1, .ref y2, hs_V (mo_rC pm), .ref y3, hs_V fl, .ref y4, .ref y5, .ref y6, .ref y7, hs_V pt, .ref y8, .ref y9], hs_ia cI y1 41 h, hs_ia cI y2 328 (mo_rP h pa pm)]) [0, 1, 2] rfl (by decide) ?_
      have hrb := mo_rP_bd (pm := pm) hh hpa
      have hrc := mo_rC_rg hpm
      refine hs_iconst C dX7_sort_24 ?_
      refine hs_istore (lv' := [(0, .ref y0), (1, hs_V a), (2, hs_V b), (3, hs_V u1), (4, hs_V 0)]) C dX7_sort_25 (by decide) [1, 2, 3, 4, 0] rfl ?_
      refine hs_iload_n C dX7_sort_27 rfl 1 rfl ?_
      refine hs_istore (lv' := [(0, .ref y0), (1, hs_V a), (2, hs_V b), (3, hs_V u1), (4, hs_V 0), (5, hs_V a)]) C dX7_sort_28 (by decide) [1, 2, 3, 4, 5, 0] rfl ?_
      have Lp6 : ∀ (k : Nat) (i : Int) (ch : Int) (g1 : Int → Int), (a ≤ i ∧ i ≤ b + 1) → (∀ k, 0 ≤ g1 k ∧ g1 k ≤ 50) → (hs_up (fun i (x : Int × (Int → Int)) => (pu_ins a u1 i x.1 x.2).2) i (b + 1) (ch, g1) = mo_arr h a b u1) → (b + 1 - i < (k : Int)) → hs_J p l e ({ frames := 3, cells := 0, slots := 0, locals := 65 } : Room) s m args below meth c D A H0 8 0 0 Q 30 [(0, .ref y0), (1, hs_V a), (2, hs_V b), (3, hs_V u1), (4, hs_V ch), (5, hs_V i)] [] [hs_ob y0 7 [.ref y1, .ref y2, hs_V (mo_rC pm), .ref y3, hs_V fl, .ref y4, .ref y5, .ref y6, .ref y7, hs_V pt, .ref y8, .ref y9], hs_ia cI y1 41 g1, hs_ia cI y2 328 (mo_rP h pa pm)] := by
        intro k
        induction k with
        | zero =>
          intro i ch g1 hi hg1 hL hk
          exact absurd hk (by omega)
        | succ k ih =>
          intro i ch g1 hi hg1 hL hk
          have ih7 := ih
          refine hs_iload C dX7_sort_30 5 rfl ?_
          refine hs_iload_n C dX7_sort_32 rfl 2 rfl ?_
          refine hs_icmp_gt (tgt := 143) C dX7_sort_33 (by decide) (by omega) (by omega) (fun c8 => ?_) (fun c8 => ?_)
          ·
            have hRH : mo_arr h a b u1 = (ch, g1) := by rw [← hL, hs_up_done (by omega)]
            have hE : mo_sort a b u1 (h, pa, pm) = (ch, g1, mo_rP h pa pm, mo_rC pm) := by unfold mo_sort; dsimp only; rw [if_neg (by omega), hRH]
            refine hs_iload C dX7_sort_143 4 rfl ?_
            refine hs_cast (ws' := [hs_ob y0 7 [.ref y1, .ref y2, hs_V (mo_sort a b u1 (h, pa, pm)).2.2.2, .ref y3, hs_V fl, .ref y4, .ref y5, .ref y6, .ref y7, hs_V pt, .ref y8, .ref y9], hs_ia cI y1 41 (mo_sort a b u1 (h, pa, pm)).2.1, hs_ia cI y2 328 (mo_sort a b u1 (h, pa, pm)).2.2.1]) ?_ rfl rfl rfl (by rw [hE] <;> rfl)
            exact hret _ _ _ () (by rw [hE] <;> rfl) dX7_sort_145 rfl
          ·
            refine hs_iload C dX7_sort_36 5 rfl ?_
            refine hs_istore (lv' := [(0, .ref y0), (1, hs_V a), (2, hs_V b), (3, hs_V u1), (4, hs_V ch), (5, hs_V i), (6, hs_V i)]) C dX7_sort_38 (by decide) [1, 2, 3, 4, 5, 6, 0] rfl ?_
            have Lp9 : ∀ (k : Nat) (j : Int) (c2 : Int) (g2 : Int → Int), (a ≤ j ∧ j ≤ i) → (∀ k, 0 ≤ g2 k ∧ g2 k ≤ 50) → (hs_wh (pu_insP a u1) pu_insF k (j, c2, g2) = pu_ins a u1 i ch g1) → (j - a < (k : Int)) → hs_J p l e ({ frames := 3, cells := 0, slots := 0, locals := 65 } : Room) s m args below meth c D A H0 8 0 0 Q 40 [(0, .ref y0), (1, hs_V a), (2, hs_V b), (3, hs_V u1), (4, hs_V c2), (5, hs_V i), (6, hs_V j)] [] [hs_ob y0 7 [.ref y1, .ref y2, hs_V (mo_rC pm), .ref y3, hs_V fl, .ref y4, .ref y5, .ref y6, .ref y7, hs_V pt, .ref y8, .ref y9], hs_ia cI y1 41 g2, hs_ia cI y2 328 (mo_rP h pa pm)] := by
              intro k
              induction k with
              | zero =>
                intro j c2 g2 hj hg2 hM hk
                exact absurd hk (by omega)
              | succ k ih =>
                intro j c2 g2 hj hg2 hM hk
                have ih10 := ih
                refine hs_iload C dX7_sort_40 6 rfl ?_
                refine hs_iload_n C dX7_sort_42 rfl 1 rfl ?_
                refine hs_icmp_le (tgt := 137) C dX7_sort_43 (by decide) (by omega) (by omega) (fun c11 => ?_) (fun c11 => ?_)
                ·
                  refine hs_iinc (lv' := [(0, .ref y0), (1, hs_V a), (2, hs_V b), (3, hs_V u1), (4, hs_V c2), (5, hs_V (i + 1)), (6, hs_V j)]) C dX7_sort_137 5 rfl (by decide) [1, 2, 3, 4, 5, 0, 6] rfl ?_
                  refine hs_goto (tgt := 30) C dX7_sort_140 (by decide) ?_
                  refine hs_lvs (lv' := [(0, .ref y0), (1, hs_V a), (2, hs_V b), (3, hs_V u1), (4, hs_V c2), (5, hs_V (i + 1))]) [0, 1, 2, 3, 4, 5] rfl ?_
                  exact ih7 (i + 1) c2 g2 (by omega) hg2 (by have hz := (hs_up_step (by omega)).symm.trans hL; simp only [] at hz; rw [← hM, hs_wh_done (show ¬ pu_insP a u1 (j, c2, g2) by unfold pu_insP; simp only []; omega)] at hz; exact hz) (by omega)
                ·
                  refine hs_iload_n C dX7_sort_46 rfl 3 rfl ?_
                  refine hs_iconst C dX7_sort_47 ?_
                  refine hs_icmp_ne (tgt := 73) C dX7_sort_48 (by decide) (by omega) (by omega) (fun c12 => ?_) (fun c12 => ?_)
                  ·
                    refine hs_aload_n C dX7_sort_73 rfl 0 rfl ?_
                    refine hs_get C u7 0 rfl rfl 0 (by decide) f7 rfl rfl dX7_sort_74 ?_
                    refine hs_iload C dX7_sort_77 6 rfl ?_
                    refine hs_iconst C dX7_sort_79 ?_
                    refine hs_isub C dX7_sort_80 ?_
                    refine hs_iald C 1 rfl (by omega) dX7_sort_81 ?_
                    have b13 := hg2 (j - 1)
                    refine hs_aload_n C dX7_sort_82 rfl 0 rfl ?_
                    refine hs_get C u7 0 rfl rfl 0 (by decide) f7 rfl rfl dX7_sort_83 ?_
                    refine hs_iload C dX7_sort_86 6 rfl ?_
                    refine hs_iald C 1 rfl (by omega) dX7_sort_88 ?_
                    have b14 := hg2 j
                    refine hs_icmp_ge (tgt := 137) C dX7_sort_89 (by decide) (by omega) (by omega) (fun c15 => ?_) (fun c15 => ?_)
                    ·
                      refine hs_iinc (lv' := [(0, .ref y0), (1, hs_V a), (2, hs_V b), (3, hs_V u1), (4, hs_V c2), (5, hs_V (i + 1)), (6, hs_V j)]) C dX7_sort_137 5 rfl (by decide) [1, 2, 3, 4, 5, 0, 6] rfl ?_
                      refine hs_goto (tgt := 30) C dX7_sort_140 (by decide) ?_
                      refine hs_lvs (lv' := [(0, .ref y0), (1, hs_V a), (2, hs_V b), (3, hs_V u1), (4, hs_V c2), (5, hs_V (i + 1))]) [0, 1, 2, 3, 4, 5] rfl ?_
                      exact ih7 (i + 1) c2 g2 (by omega) hg2 (by have hz := (hs_up_step (by omega)).symm.trans hL; simp only [] at hz; rw [← hM, hs_wh_done (show ¬ pu_insP a u1 (j, c2, g2) by unfold pu_insP; simp only []; omega)] at hz; exact hz) (by omega)
                    ·
                      refine hs_aload_n C dX7_sort_92 rfl 0 rfl ?_
                      refine hs_get C u7 0 rfl rfl 0 (by decide) f7 rfl rfl dX7_sort_93 ?_
                      refine hs_iload C dX7_sort_96 6 rfl ?_
                      refine hs_iald C 1 rfl (by omega) dX7_sort_98 ?_
                      have b16 := hg2 j
                      refine hs_istore (lv' := [(0, .ref y0), (1, hs_V a), (2, hs_V b), (3, hs_V u1), (4, hs_V c2), (5, hs_V i), (6, hs_V j), (7, hs_V (g2 j))]) C dX7_sort_99 (by decide) [1, 2, 3, 4, 5, 6, 7, 0] rfl ?_
                      refine hs_aload_n C dX7_sort_101 rfl 0 rfl ?_
                      refine hs_get C u7 0 rfl rfl 0 (by decide) f7 rfl rfl dX7_sort_102 ?_
                      refine hs_iload C dX7_sort_105 6 rfl ?_
                      refine hs_aload_n C dX7_sort_107 rfl 0 rfl ?_
                      refine hs_get C u7 0 rfl rfl 0 (by decide) f7 rfl rfl dX7_sort_108 ?_
                      refine hs_iload C dX7_sort_111 6 rfl ?_
                      refine hs_iconst C dX7_sort_113 ?_
                      refine hs_isub C dX7_sort_114 ?_
                      refine hs_iald C 1 rfl (by omega) dX7_sort_115 ?_
                      have b17 := hg2 (j - 1)
                      refine hs_iast (ws' := [hs_ob y0 7 [.ref y1, .ref y2, hs_V (mo_rC pm), .ref y3, hs_V fl, .ref y4, .ref y5, .ref y6, .ref y7, hs_V pt, .ref y8, .ref y9], hs_ia cI y1 41 (hs_u g2 j (g2 (j - 1))), hs_ia cI y2 328 (mo_rP h pa pm)]) C 1 rfl (by omega) rfl dX7_sort_116 ?_
                      have b18 := hs_u_bd (i := j) hg2 (show 0 ≤ g2 (j - 1) ∧ g2 (j - 1) ≤ 50 by omega)
                      refine hs_aload_n C dX7_sort_117 rfl 0 rfl ?_
                      refine hs_get C u7 0 rfl rfl 0 (by decide) f7 rfl rfl dX7_sort_118 ?_
                      refine hs_iload C dX7_sort_121 6 rfl ?_
                      refine hs_iconst C dX7_sort_123 ?_
                      refine hs_isub C dX7_sort_124 ?_
                      refine hs_iload C dX7_sort_125 7 rfl ?_
                      refine hs_iast (ws' := [hs_ob y0 7 [.ref y1, .ref y2, hs_V (mo_rC pm), .ref y3, hs_V fl, .ref y4, .ref y5, .ref y6, .ref y7, hs_V pt, .ref y8, .ref y9], hs_ia cI y1 41 (hs_u (hs_u g2 j (g2 (j - 1))) (j - 1) (g2 j)), hs_ia cI y2 328 (mo_rP h pa pm)]) C 1 rfl (by omega) rfl dX7_sort_127 ?_
                      have b19 := hs_u_bd (i := j - 1) b18 (show 0 ≤ g2 j ∧ g2 j ≤ 50 by omega)
                      refine hs_iinc (lv' := [(0, .ref y0), (1, hs_V a), (2, hs_V b), (3, hs_V u1), (4, hs_V c2), (5, hs_V i), (6, hs_V (j + (-1))), (7, hs_V (g2 j))]) C dX7_sort_128 6 rfl (by decide) [1, 2, 3, 4, 5, 6, 0, 7] rfl ?_
                      refine hs_iinc (lv' := [(0, .ref y0), (1, hs_V a), (2, hs_V b), (3, hs_V u1), (4, hs_V (c2 + 1)), (5, hs_V i), (6, hs_V (j + (-1))), (7, hs_V (g2 j))]) C dX7_sort_131 4 rfl (by decide) [1, 2, 3, 4, 0, 5, 6, 7] rfl ?_
                      refine hs_goto (tgt := 40) C dX7_sort_134 (by decide) ?_
                      refine hs_lvs (lv' := [(0, .ref y0), (1, hs_V a), (2, hs_V b), (3, hs_V u1), (4, hs_V (c2 + 1)), (5, hs_V i), (6, hs_V (j + (-1)))]) [0, 1, 2, 3, 4, 5, 6] rfl ?_
                      exact ih10 (j + (-1)) (c2 + 1) (hs_u (hs_u g2 j (g2 (j - 1))) (j - 1) (g2 j)) (by omega) b19 (by have hz := (hs_wh_step (P := pu_insP a u1) (f := pu_insF) (n := k) (x := (j, c2, g2)) (by unfold pu_insP; simp only []; omega)).symm.trans hM; rw [mo_ex]; exact hz) (by omega)
                  ·
                    refine hs_aload_n C dX7_sort_51 rfl 0 rfl ?_
                    refine hs_get C u7 0 rfl rfl 0 (by decide) f7 rfl rfl dX7_sort_52 ?_
                    refine hs_iload C dX7_sort_55 6 rfl ?_
                    refine hs_iconst C dX7_sort_57 ?_
                    refine hs_isub C dX7_sort_58 ?_
                    refine hs_iald C 1 rfl (by omega) dX7_sort_59 ?_
                    have b20 := hg2 (j - 1)
                    refine hs_aload_n C dX7_sort_60 rfl 0 rfl ?_
                    refine hs_get C u7 0 rfl rfl 0 (by decide) f7 rfl rfl dX7_sort_61 ?_
                    refine hs_iload C dX7_sort_64 6 rfl ?_
                    refine hs_iald C 1 rfl (by omega) dX7_sort_66 ?_
                    have b21 := hg2 j
                    refine hs_icmp_le (tgt := 137) C dX7_sort_67 (by decide) (by omega) (by omega) (fun c22 => ?_) (fun c22 => ?_)
                    ·
                      refine hs_iinc (lv' := [(0, .ref y0), (1, hs_V a), (2, hs_V b), (3, hs_V u1), (4, hs_V c2), (5, hs_V (i + 1)), (6, hs_V j)]) C dX7_sort_137 5 rfl (by decide) [1, 2, 3, 4, 5, 0, 6] rfl ?_
                      refine hs_goto (tgt := 30) C dX7_sort_140 (by decide) ?_
                      refine hs_lvs (lv' := [(0, .ref y0), (1, hs_V a), (2, hs_V b), (3, hs_V u1), (4, hs_V c2), (5, hs_V (i + 1))]) [0, 1, 2, 3, 4, 5] rfl ?_
                      exact ih7 (i + 1) c2 g2 (by omega) hg2 (by have hz := (hs_up_step (by omega)).symm.trans hL; simp only [] at hz; rw [← hM, hs_wh_done (show ¬ pu_insP a u1 (j, c2, g2) by unfold pu_insP; simp only []; omega)] at hz; exact hz) (by omega)
                    ·
                      refine hs_goto (tgt := 92) C dX7_sort_70 (by decide) ?_
                      refine hs_aload_n C dX7_sort_92 rfl 0 rfl ?_
                      refine hs_get C u7 0 rfl rfl 0 (by decide) f7 rfl rfl dX7_sort_93 ?_
                      refine hs_iload C dX7_sort_96 6 rfl ?_
                      refine hs_iald C 1 rfl (by omega) dX7_sort_98 ?_
                      have b23 := hg2 j
                      refine hs_istore (lv' := [(0, .ref y0), (1, hs_V a), (2, hs_V b), (3, hs_V u1), (4, hs_V c2), (5, hs_V i), (6, hs_V j), (7, hs_V (g2 j))]) C dX7_sort_99 (by decide) [1, 2, 3, 4, 5, 6, 7, 0] rfl ?_
                      refine hs_aload_n C dX7_sort_101 rfl 0 rfl ?_
                      refine hs_get C u7 0 rfl rfl 0 (by decide) f7 rfl rfl dX7_sort_102 ?_
                      refine hs_iload C dX7_sort_105 6 rfl ?_
                      refine hs_aload_n C dX7_sort_107 rfl 0 rfl ?_
                      refine hs_get C u7 0 rfl rfl 0 (by decide) f7 rfl rfl dX7_sort_108 ?_
                      refine hs_iload C dX7_sort_111 6 rfl ?_
                      refine hs_iconst C dX7_sort_113 ?_
                      refine hs_isub C dX7_sort_114 ?_
                      refine hs_iald C 1 rfl (by omega) dX7_sort_115 ?_
                      have b24 := hg2 (j - 1)
                      refine hs_iast (ws' := [hs_ob y0 7 [.ref y1, .ref y2, hs_V (mo_rC pm), .ref y3, hs_V fl, .ref y4, .ref y5, .ref y6, .ref y7, hs_V pt, .ref y8, .ref y9], hs_ia cI y1 41 (hs_u g2 j (g2 (j - 1))), hs_ia cI y2 328 (mo_rP h pa pm)]) C 1 rfl (by omega) rfl dX7_sort_116 ?_
                      have b25 := hs_u_bd (i := j) hg2 (show 0 ≤ g2 (j - 1) ∧ g2 (j - 1) ≤ 50 by omega)
                      refine hs_aload_n C dX7_sort_117 rfl 0 rfl ?_
                      refine hs_get C u7 0 rfl rfl 0 (by decide) f7 rfl rfl dX7_sort_118 ?_
                      refine hs_iload C dX7_sort_121 6 rfl ?_
                      refine hs_iconst C dX7_sort_123 ?_
                      refine hs_isub C dX7_sort_124 ?_
                      refine hs_iload C dX7_sort_125 7 rfl ?_
                      refine hs_iast (ws' := [hs_ob y0 7 [.ref y1, .ref y2, hs_V (mo_rC pm), .ref y3, hs_V fl, .ref y4, .ref y5, .ref y6, .ref y7, hs_V pt, .ref y8, .ref y9], hs_ia cI y1 41 (hs_u (hs_u g2 j (g2 (j - 1))) (j - 1) (g2 j)), hs_ia cI y2 328 (mo_rP h pa pm)]) C 1 rfl (by omega) rfl dX7_sort_127 ?_
                      have b26 := hs_u_bd (i := j - 1) b25 (show 0 ≤ g2 j ∧ g2 j ≤ 50 by omega)
                      refine hs_iinc (lv' := [(0, .ref y0), (1, hs_V a), (2, hs_V b), (3, hs_V u1), (4, hs_V c2), (5, hs_V i), (6, hs_V (j + (-1))), (7, hs_V (g2 j))]) C dX7_sort_128 6 rfl (by decide) [1, 2, 3, 4, 5, 6, 0, 7] rfl ?_
                      refine hs_iinc (lv' := [(0, .ref y0), (1, hs_V a), (2, hs_V b), (3, hs_V u1), (4, hs_V (c2 + 1)), (5, hs_V i), (6, hs_V (j + (-1))), (7, hs_V (g2 j))]) C dX7_sort_131 4 rfl (by decide) [1, 2, 3, 4, 0, 5, 6, 7] rfl ?_
                      refine hs_goto (tgt := 40) C dX7_sort_134 (by decide) ?_
                      refine hs_lvs (lv' := [(0, .ref y0), (1, hs_V a), (2, hs_V b), (3, hs_V u1), (4, hs_V (c2 + 1)), (5, hs_V i), (6, hs_V (j + (-1)))]) [0, 1, 2, 3, 4, 5, 6] rfl ?_
                      exact ih10 (j + (-1)) (c2 + 1) (hs_u (hs_u g2 j (g2 (j - 1))) (j - 1) (g2 j)) (by omega) b26 (by have hz := (hs_wh_step (P := pu_insP a u1) (f := pu_insF) (n := k) (x := (j, c2, g2)) (by unfold pu_insP; simp only []; omega)).symm.trans hM; rw [mo_ex]; exact hz) (by omega)
            exact Lp9 ((i - a : Int).toNat + 1) i ch g1 (by omega) hg1 (rfl) (by omega)
      exact Lp6 ((b + 1 - a : Int).toNat + 1) a 0 h (by omega) hh (rfl) (by omega)
    ·
      have hE : mo_sort a b u1 (h, pa, pm) = (-1, (h, pa, pm)) := by unfold mo_sort; dsimp only; rw [if_pos (by omega)]
      refine hs_iconst C dX7_sort_18 ?_
      refine hs_cast (ws' := [hs_ob y0 7 [.ref y1, .ref y2, hs_V (mo_sort a b u1 (h, pa, pm)).2.2.2, .ref y3, hs_V fl, .ref y4, .ref y5, .ref y6, .ref y7, hs_V pt, .ref y8, .ref y9], hs_ia cI y1 41 (mo_sort a b u1 (h, pa, pm)).2.1, hs_ia cI y2 328 (mo_sort a b u1 (h, pa, pm)).2.2.1]) ?_ rfl rfl rfl (by rw [hE] <;> rfl)
      exact hret _ _ _ () (by rw [hE] <;> rfl) dX7_sort_19 rfl

set_option maxHeartbeats 4000000 in
set_option maxRecDepth 100000 in
theorem c_X7_clear (l : Launch) (D : va_G) (cI cO : ClassId) (y0 : Nat) (y1 : Nat) (y2 : Nat) (y3 : Nat) (y4 : Nat) (y5 : Nat) (y6 : Nat) (y7 : Nat) (y8 : Nat) (y9 : Nat) (pm : Int) (fl : Int) (pt : Int) (h : Int → Int) (pa : Int → Int) (hh : ∀ k, 0 ≤ h k ∧ h k ≤ 50) (hN : 0 ≤ h 40 ∧ h 40 ≤ 40) (hpa : ∀ k, 0 ≤ pa k ∧ pa k ≤ 50) (hpm : 0 ≤ pm ∧ pm ≤ 8) : hs_M l D cI cO yX7_clear wsX7_clear ({ frames := 1, cells := 0, slots := 0, locals := 21 } : Room) [.ref y0] [hs_ob y0 7 [.ref y1, .ref y2, hs_V pm, .ref y3, hs_V fl, .ref y4, .ref y5, .ref y6, .ref y7, hs_V pt, .ref y8, .ref y9], hs_ia cI y1 41 h, hs_ia cI y2 328 pa] (fun r (_ : Unit) => r = hs_I (mo_clear (h, pa, pm)).1) (fun _ => [hs_ob y0 7 [.ref y1, .ref y2, hs_V (mo_clear (h, pa, pm)).2.2.2, .ref y3, hs_V fl, .ref y4, .ref y5, .ref y6, .ref y7, hs_V pt, .ref y8, .ref y9], hs_ia cI y1 41 (mo_clear (h, pa, pm)).2.1, hs_ia cI y2 328 (mo_clear (h, pa, pm)).2.2.1]) 0 0 := by
  refine hs_enter (cc := cX7_clear) (maxL := 1) (by decide +kernel) rfl (Nat.le_of_ble_eq_true rfl) (fun p e s m args below meth c A H0 Q C hret => ?_)
  have f7 := C.1.2.2.2.2 (.fieldLink RX7 7 "HistogramStairsModel" "h" "[I") (by decide +kernel)
  have u7 : ∀ w ∈ wsX70, w ∈ wsX7_clear := by decide +kernel
  refine hs_lvs (lv' := [(0, .ref y0)]) [0] rfl ?_
  refine hs_aload_n C dX7_clear_0 rfl 0 rfl ?_
  refine hs_callVv (win := [hs_ob y0 7 [.ref y1, .ref y2, hs_V pm, .ref y3, hs_V fl, .ref y4, .ref y5, .ref y6, .ref y7, hs_V pt, .ref y8, .ref y9], hs_ia cI y1 41 h, hs_ia cI y2 328 pa]) (wr := []) (As := []) (rest := []) C (c_X7_remember l D cI cO y0 y1 y2 y3 y4 y5 y6 y7 y8 y9 pm fl pt h pa hh hpa (by omega)) 7 0 rfl rfl rfl (cwV 0 C.1.2.2.2.2 gX7_clear_X7_remember rfl rfl rfl (by decide +kernel) ⟨Nat.le_of_ble_eq_true rfl, Nat.le_of_ble_eq_true rfl⟩) rfl rfl (Nat.le_of_ble_eq_true rfl) dX7_clear_1 ⟨Nat.le_of_ble_eq_true rfl, Nat.le_of_ble_eq_true rfl⟩ (fun uu1 hp => ?_)
  refine hs_re0 (w' := [hs_ob y0 7 [.ref y1, .ref y2, hs_V (mo_rC pm), .ref y3, hs_V fl, .ref y4, .ref y5, .ref y6, .ref y7, hs_V pt, .ref y8, .ref y9], hs_ia cI y1 41 h, hs_ia cI y2 328 (mo_rP h pa pm)]) [0, 1, 2] rfl (by decide) ?_
  have hrb := mo_rP_bd (pm := pm) hh hpa
  have hrc := mo_rC_rg hpm
  refine hs_aload_n C dX7_clear_4 rfl 0 rfl ?_
  refine hs_get C u7 0 rfl rfl 0 (by decide) f7 rfl rfl dX7_clear_5 ?_
  refine hs_bipush C dX7_clear_8 (by decide) ?_
  refine hs_iconst C dX7_clear_10 ?_
  refine hs_iast (ws' := [hs_ob y0 7 [.ref y1, .ref y2, hs_V (mo_rC pm), .ref y3, hs_V fl, .ref y4, .ref y5, .ref y6, .ref y7, hs_V pt, .ref y8, .ref y9], hs_ia cI y1 41 (hs_u h 40 0), hs_ia cI y2 328 (mo_rP h pa pm)]) C 1 rfl (by omega) rfl dX7_clear_11 ?_
  have b2 := hs_u_bd (i := 40) hh (show 0 ≤ 0 ∧ 0 ≤ 50 by omega)
  have hE : mo_clear (h, pa, pm) = (h 40, hs_u h 40 0, mo_rP h pa pm, mo_rC pm) := by unfold mo_clear; dsimp only; (try rfl)
  refine hs_aload_n C dX7_clear_12 rfl 0 rfl ?_
  refine hs_bipush C dX7_clear_13 (by decide) ?_
  refine hs_re0 (w' := [hs_ob y0 7 [.ref y1, .ref y2, hs_V (mo_rC pm), .ref y3, hs_V fl, .ref y4, .ref y5, .ref y6, .ref y7, hs_V pt, .ref y8, .ref y9], hs_ia cI y2 328 (mo_rP h pa pm), hs_ia cI y1 41 (hs_u h 40 0)]) [0, 2, 1] rfl (by decide) ?_
  refine hs_callVi (win := [hs_ob y0 7 [.ref y1, .ref y2, hs_V (mo_rC pm), .ref y3, hs_V fl, .ref y4, .ref y5, .ref y6, .ref y7, hs_V pt, .ref y8, .ref y9], hs_ia cI y2 328 (mo_rP h pa pm)]) (wr := [hs_ia cI y1 41 (hs_u h 40 0)]) (As := [hs_V 40]) (rest := []) C (c_X7_before l D cI cO y0 y1 y2 y3 y4 y5 y6 y7 y8 y9 (mo_rC pm) fl pt (mo_rP h pa pm) 40 (by omega) (by omega)) 7 0 rfl rfl rfl (cwV 1 C.1.2.2.2.2 gX7_clear_X7_before rfl rfl rfl (by decide +kernel) ⟨Nat.le_of_ble_eq_true rfl, Nat.le_of_ble_eq_true rfl⟩) rfl rfl (Nat.le_of_ble_eq_true rfl) dX7_clear_15 ⟨Nat.le_of_ble_eq_true rfl, Nat.le_of_ble_eq_true rfl⟩ (fun rr uu3 hp => ?_)
  obtain rfl := hp
  refine hs_re0 (w' := [hs_ob y0 7 [.ref y1, .ref y2, hs_V (mo_rC pm), .ref y3, hs_V fl, .ref y4, .ref y5, .ref y6, .ref y7, hs_V pt, .ref y8, .ref y9], hs_ia cI y1 41 (hs_u h 40 0), hs_ia cI y2 328 (mo_rP h pa pm)]) [0, 2, 1] rfl (by decide) ?_
  rw [mo_before (by omega)]
  refine hs_cast (ws' := [hs_ob y0 7 [.ref y1, .ref y2, hs_V (mo_clear (h, pa, pm)).2.2.2, .ref y3, hs_V fl, .ref y4, .ref y5, .ref y6, .ref y7, hs_V pt, .ref y8, .ref y9], hs_ia cI y1 41 (mo_clear (h, pa, pm)).2.1, hs_ia cI y2 328 (mo_clear (h, pa, pm)).2.2.1]) ?_ rfl rfl rfl (by rw [hE] <;> rfl)
  exact hret _ _ _ () (by rw [hE] <;> rfl) dX7_clear_18 rfl

set_option maxHeartbeats 4000000 in
set_option maxRecDepth 100000 in
theorem c_X7_undo (l : Launch) (D : va_G) (cI cO : ClassId) (y0 : Nat) (y1 : Nat) (y2 : Nat) (y3 : Nat) (y4 : Nat) (y5 : Nat) (y6 : Nat) (y7 : Nat) (y8 : Nat) (y9 : Nat) (pm : Int) (fl : Int) (pt : Int) (h : Int → Int) (pa : Int → Int) (hh : ∀ k, 0 ≤ h k ∧ h k ≤ 50) (hN : 0 ≤ h 40 ∧ h 40 ≤ 40) (hpa : ∀ k, 0 ≤ pa k ∧ pa k ≤ 50) (hpm : 0 ≤ pm ∧ pm ≤ 8) : hs_M l D cI cO yX7_undo wsX7_undo ({ frames := 0, cells := 0, slots := 0, locals := 0 } : Room) [.ref y0] [hs_ob y0 7 [.ref y1, .ref y2, hs_V pm, .ref y3, hs_V fl, .ref y4, .ref y5, .ref y6, .ref y7, hs_V pt, .ref y8, .ref y9], hs_ia cI y1 41 h, hs_ia cI y2 328 pa] (fun r (_ : Unit) => r = hs_I (mo_undo (h, pa, pm)).1) (fun _ => [hs_ob y0 7 [.ref y1, .ref y2, hs_V (mo_undo (h, pa, pm)).2.2.2, .ref y3, hs_V fl, .ref y4, .ref y5, .ref y6, .ref y7, hs_V pt, .ref y8, .ref y9], hs_ia cI y1 41 (mo_undo (h, pa, pm)).2.1, hs_ia cI y2 328 (mo_undo (h, pa, pm)).2.2.1]) 0 0 := by
  refine hs_enter (cc := cX7_undo) (maxL := 2) (by decide +kernel) rfl (Nat.le_of_ble_eq_true rfl) (fun p e s m args below meth c A H0 Q C hret => ?_)
  have f49 := C.1.2.2.2.2 (.fieldLink RX7 49 "HistogramStairsModel" "pastMany" "I") (by decide +kernel)
  have u7 : ∀ w ∈ wsX70, w ∈ wsX7_undo := by decide +kernel
  have f7 := C.1.2.2.2.2 (.fieldLink RX7 7 "HistogramStairsModel" "h" "[I") (by decide +kernel)
  have f13 := C.1.2.2.2.2 (.fieldLink RX7 13 "HistogramStairsModel" "past" "[I") (by decide +kernel)
  refine hs_lvs (lv' := [(0, .ref y0)]) [0] rfl ?_
  refine hs_aload_n C dX7_undo_0 rfl 0 rfl ?_
  refine hs_get C u7 0 rfl rfl 2 (by decide) f49 rfl rfl dX7_undo_1 ?_
  refine hs_if_ne (tgt := 10) C dX7_undo_4 (by decide) (by omega) (fun c1 => ?_) (fun c1 => ?_)
  ·
    refine hs_aload_n C dX7_undo_10 rfl 0 rfl ?_
    refine hs_dup C dX7_undo_11 rfl ?_
    refine hs_get C u7 0 rfl rfl 2 (by decide) f49 rfl rfl dX7_undo_12 ?_
    refine hs_iconst C dX7_undo_15 ?_
    refine hs_isub C dX7_undo_16 ?_
    refine hs_put (ty := .int) (ws' := [hs_ob y0 7 [.ref y1, .ref y2, hs_V (pm - 1), .ref y3, hs_V fl, .ref y4, .ref y5, .ref y6, .ref y7, hs_V pt, .ref y8, .ref y9], hs_ia cI y1 41 h, hs_ia cI y2 328 pa]) C u7 tyX7 tyX7_ok nmX7 0 rfl rfl 2 (by decide) f49 rfl rfl (by decide +kernel) rfl rfl (Nat.le_of_ble_eq_true rfl) rfl dX7_undo_17 ?_
    refine hs_iconst C dX7_undo_20 ?_
    refine hs_istore_n (lv' := [(0, .ref y0), (1, hs_V 0)]) C dX7_undo_21 rfl (by decide) [1, 0] rfl ?_
    have Lp2 : ∀ (k : Nat) (q : Int) (x : Int → Int), (0 ≤ q ∧ q ≤ 41) → (hs_up (fun k x => hs_u x k (pa (41 * (pm - 1) + k))) q 41 x = mo_getH pa (pm - 1) h) → (41 - q < (k : Int)) → hs_J p l e ({ frames := 0, cells := 0, slots := 0, locals := 0 } : Room) s m args below meth c D A H0 2 0 0 Q 22 [(0, .ref y0), (1, hs_V q)] [] [hs_ob y0 7 [.ref y1, .ref y2, hs_V (pm - 1), .ref y3, hs_V fl, .ref y4, .ref y5, .ref y6, .ref y7, hs_V pt, .ref y8, .ref y9], hs_ia cI y1 41 x, hs_ia cI y2 328 pa] := by
      intro k
      induction k with
      | zero =>
        intro q x hq hL hk
        exact absurd hk (by omega)
      | succ k ih =>
        intro q x hq hL hk
        have ih3 := ih
        refine hs_iload_n C dX7_undo_22 rfl 1 rfl ?_
        refine hs_bipush C dX7_undo_23 (by decide) ?_
        refine hs_icmp_ge (tgt := 54) C dX7_undo_25 (by decide) (by omega) (by omega) (fun c4 => ?_) (fun c4 => ?_)
        ·
          have hRH : mo_getH pa (pm - 1) h = x := by rw [← hL, hs_up_done (by omega)]
          have hE : mo_undo (h, pa, pm) = (pm - 1, x, pa, pm - 1) := by unfold mo_undo; dsimp only; rw [if_neg (by omega), hRH]
          refine hs_aload_n C dX7_undo_54 rfl 0 rfl ?_
          refine hs_get C u7 0 rfl rfl 2 (by decide) f49 rfl rfl dX7_undo_55 ?_
          refine hs_cast (ws' := [hs_ob y0 7 [.ref y1, .ref y2, hs_V (mo_undo (h, pa, pm)).2.2.2, .ref y3, hs_V fl, .ref y4, .ref y5, .ref y6, .ref y7, hs_V pt, .ref y8, .ref y9], hs_ia cI y1 41 (mo_undo (h, pa, pm)).2.1, hs_ia cI y2 328 (mo_undo (h, pa, pm)).2.2.1]) ?_ rfl rfl rfl (by rw [hE] <;> rfl)
          exact hret _ _ _ () (by rw [hE] <;> rfl) dX7_undo_58 rfl
        ·
          refine hs_aload_n C dX7_undo_28 rfl 0 rfl ?_
          refine hs_get C u7 0 rfl rfl 0 (by decide) f7 rfl rfl dX7_undo_29 ?_
          refine hs_iload_n C dX7_undo_32 rfl 1 rfl ?_
          refine hs_aload_n C dX7_undo_33 rfl 0 rfl ?_
          refine hs_get C u7 0 rfl rfl 1 (by decide) f13 rfl rfl dX7_undo_34 ?_
          refine hs_bipush C dX7_undo_37 (by decide) ?_
          refine hs_aload_n C dX7_undo_39 rfl 0 rfl ?_
          refine hs_get C u7 0 rfl rfl 2 (by decide) f49 rfl rfl dX7_undo_40 ?_
          refine hs_imul C dX7_undo_43 ?_
          refine hs_iload_n C dX7_undo_44 rfl 1 rfl ?_
          refine hs_iadd C dX7_undo_45 ?_
          refine hs_iald C 2 rfl (by omega) dX7_undo_46 ?_
          have b5 := hpa ((41 * (pm - 1)) + q)
          refine hs_iast (ws' := [hs_ob y0 7 [.ref y1, .ref y2, hs_V (pm - 1), .ref y3, hs_V fl, .ref y4, .ref y5, .ref y6, .ref y7, hs_V pt, .ref y8, .ref y9], hs_ia cI y1 41 (hs_u x q (pa ((41 * (pm - 1)) + q))), hs_ia cI y2 328 pa]) C 1 rfl (by omega) rfl dX7_undo_47 ?_
          refine hs_iinc (lv' := [(0, .ref y0), (1, hs_V (q + 1))]) C dX7_undo_48 1 rfl (by decide) [1, 0] rfl ?_
          refine hs_goto (tgt := 22) C dX7_undo_51 (by decide) ?_
          exact ih3 (q + 1) (hs_u x q (pa ((41 * (pm - 1)) + q))) (by omega) (by have hz := (hs_up_step (by omega)).symm.trans hL; (try dsimp only at hz); first | exact hz | (split at hz <;> first | exact hz | (exfalso; omega) | (split at hz <;> first | exact hz | (exfalso; omega) | (split at hz <;> first | exact hz | (exfalso; omega))))) (by omega)
    exact Lp2 ((41 - 0 : Int).toNat + 1) 0 h (by omega) (rfl) (by omega)
  ·
    have hE : mo_undo (h, pa, pm) = (-2, (h, pa, pm)) := by unfold mo_undo; dsimp only; rw [if_pos (by omega)]
    refine hs_bipush C dX7_undo_7 (by decide) ?_
    refine hs_cast (ws' := [hs_ob y0 7 [.ref y1, .ref y2, hs_V (mo_undo (h, pa, pm)).2.2.2, .ref y3, hs_V fl, .ref y4, .ref y5, .ref y6, .ref y7, hs_V pt, .ref y8, .ref y9], hs_ia cI y1 41 (mo_undo (h, pa, pm)).2.1, hs_ia cI y2 328 (mo_undo (h, pa, pm)).2.2.1]) ?_ rfl rfl rfl (by rw [hE] <;> rfl)
    exact hret _ _ _ () (by rw [hE] <;> rfl) dX7_undo_9 rfl

set_option maxHeartbeats 4000000 in
set_option maxRecDepth 100000 in
theorem c_X7_freeze (l : Launch) (D : va_G) (cI cO : ClassId) (y0 : Nat) (y1 : Nat) (y2 : Nat) (y3 : Nat) (y4 : Nat) (y5 : Nat) (y6 : Nat) (y7 : Nat) (y8 : Nat) (y9 : Nat) (pm : Int) (fl : Int) (pt : Int) (h : Int → Int) (pa : Int → Int) (wt : Int → Int) (hh : ∀ k, 0 ≤ h k ∧ h k ≤ 50) (hN : 0 ≤ h 40 ∧ h 40 ≤ 40) (hpa : ∀ k, 0 ≤ pa k ∧ pa k ≤ 50) (hpm : 0 ≤ pm ∧ pm ≤ 8) : hs_M l D cI cO yX7_freeze wsX7_freeze ({ frames := 3, cells := 0, slots := 0, locals := 73 } : Room) [.ref y0] [hs_ob y0 7 [.ref y1, .ref y2, hs_V pm, .ref y3, hs_V fl, .ref y4, .ref y5, .ref y6, .ref y7, hs_V pt, .ref y8, .ref y9], hs_ia cI y1 41 h, hs_ia cI y2 328 pa, hs_ia cI y4 40 wt] (fun r (_ : Unit) => r = hs_I (mo_freeze wt (h, pa, pm)).1) (fun _ => [hs_ob y0 7 [.ref y1, .ref y2, hs_V (mo_freeze wt (h, pa, pm)).2.2.2, .ref y3, hs_V fl, .ref y4, .ref y5, .ref y6, .ref y7, hs_V pt, .ref y8, .ref y9], hs_ia cI y1 41 (mo_freeze wt (h, pa, pm)).2.1, hs_ia cI y2 328 (mo_freeze wt (h, pa, pm)).2.2.1, hs_ia cI y4 40 (mo_wetA h wt)]) 0 0 := by
  refine hs_enter (cc := cX7_freeze) (maxL := 3) (by decide +kernel) rfl (Nat.le_of_ble_eq_true rfl) (fun p e s m args below meth c A H0 Q C hret => ?_)
  have f7 := C.1.2.2.2.2 (.fieldLink RX7 7 "HistogramStairsModel" "h" "[I") (by decide +kernel)
  have u7 : ∀ w ∈ wsX70, w ∈ wsX7_freeze := by decide +kernel
  have f19 := C.1.2.2.2.2 (.fieldLink RX7 19 "HistogramStairsModel" "wet" "[I") (by decide +kernel)
  refine hs_lvs (lv' := [(0, .ref y0)]) [0] rfl ?_
  refine hs_aload_n C dX7_freeze_0 rfl 0 rfl ?_
  refine hs_callVv (win := [hs_ob y0 7 [.ref y1, .ref y2, hs_V pm, .ref y3, hs_V fl, .ref y4, .ref y5, .ref y6, .ref y7, hs_V pt, .ref y8, .ref y9], hs_ia cI y1 41 h, hs_ia cI y2 328 pa]) (wr := [hs_ia cI y4 40 wt]) (As := []) (rest := []) C (c_X7_remember l D cI cO y0 y1 y2 y3 y4 y5 y6 y7 y8 y9 pm fl pt h pa hh hpa (by omega)) 7 0 rfl rfl rfl (cwV 0 C.1.2.2.2.2 gX7_freeze_X7_remember rfl rfl rfl (by decide +kernel) ⟨Nat.le_of_ble_eq_true rfl, Nat.le_of_ble_eq_true rfl⟩) rfl rfl (Nat.le_of_ble_eq_true rfl) dX7_freeze_1 ⟨Nat.le_of_ble_eq_true rfl, Nat.le_of_ble_eq_true rfl⟩ (fun uu1 hp => ?_)
  refine hs_re0 (w' := [hs_ob y0 7 [.ref y1, .ref y2, hs_V (mo_rC pm), .ref y3, hs_V fl, .ref y4, .ref y5, .ref y6, .ref y7, hs_V pt, .ref y8, .ref y9], hs_ia cI y1 41 h, hs_ia cI y2 328 (mo_rP h pa pm), hs_ia cI y4 40 wt]) [0, 1, 2, 3] rfl (by decide) ?_
  have hrb := mo_rP_bd (pm := pm) hh hpa
  have hrc := mo_rC_rg hpm
  refine hs_aload_n C dX7_freeze_4 rfl 0 rfl ?_
  refine hs_iconst C dX7_freeze_5 ?_
  refine hs_aload_n C dX7_freeze_6 rfl 0 rfl ?_
  refine hs_callVi (win := [hs_ob y0 7 [.ref y1, .ref y2, hs_V (mo_rC pm), .ref y3, hs_V fl, .ref y4, .ref y5, .ref y6, .ref y7, hs_V pt, .ref y8, .ref y9], hs_ia cI y1 41 h]) (wr := [hs_ia cI y2 328 (mo_rP h pa pm), hs_ia cI y4 40 wt]) (As := []) (rest := [hs_V 0, .ref y0]) C (c_X7_many l D cI cO y0 y1 y2 y3 y4 y5 y6 y7 y8 y9 (mo_rC pm) fl pt h ) 7 0 rfl rfl rfl (cwV 0 C.1.2.2.2.2 gX7_freeze_X7_many rfl rfl rfl (by decide +kernel) ⟨Nat.le_of_ble_eq_true rfl, Nat.le_of_ble_eq_true rfl⟩) rfl rfl (Nat.le_of_ble_eq_true rfl) dX7_freeze_7 ⟨Nat.le_of_ble_eq_true rfl, Nat.le_of_ble_eq_true rfl⟩ (fun rr uu2 hp => ?_)
  obtain rfl := hp
  refine hs_re0 (w' := [hs_ob y0 7 [.ref y1, .ref y2, hs_V (mo_rC pm), .ref y3, hs_V fl, .ref y4, .ref y5, .ref y6, .ref y7, hs_V pt, .ref y8, .ref y9], hs_ia cI y1 41 h, hs_ia cI y2 328 (mo_rP h pa pm), hs_ia cI y4 40 wt]) [0, 1, 2, 3] rfl (by decide) ?_
  refine hs_iconst C dX7_freeze_10 ?_
  refine hs_isub C dX7_freeze_11 ?_
  refine hs_callVi (win := [hs_ob y0 7 [.ref y1, .ref y2, hs_V (mo_rC pm), .ref y3, hs_V fl, .ref y4, .ref y5, .ref y6, .ref y7, hs_V pt, .ref y8, .ref y9], hs_ia cI y1 41 h]) (wr := [hs_ia cI y2 328 (mo_rP h pa pm), hs_ia cI y4 40 wt]) (As := [hs_V 0, hs_V ((h 40) - 1)]) (rest := []) C (c_X7_water l D cI cO y0 y1 y2 y3 y4 y5 y6 y7 y8 y9 (mo_rC pm) fl pt h 0 ((h 40) - 1) hh (by omega)) 7 0 rfl rfl rfl (cwV 2 C.1.2.2.2.2 gX7_freeze_X7_water rfl rfl rfl (by decide +kernel) ⟨Nat.le_of_ble_eq_true rfl, Nat.le_of_ble_eq_true rfl⟩) rfl rfl (Nat.le_of_ble_eq_true rfl) dX7_freeze_12 ⟨Nat.le_of_ble_eq_true rfl, Nat.le_of_ble_eq_true rfl⟩ (fun rr uu3 hp => ?_)
  obtain rfl := hp
  refine hs_re0 (w' := [hs_ob y0 7 [.ref y1, .ref y2, hs_V (mo_rC pm), .ref y3, hs_V fl, .ref y4, .ref y5, .ref y6, .ref y7, hs_V pt, .ref y8, .ref y9], hs_ia cI y1 41 h, hs_ia cI y2 328 (mo_rP h pa pm), hs_ia cI y4 40 wt]) [0, 1, 2, 3] rfl (by decide) ?_
  refine hs_istore_n (lv' := [(0, .ref y0), (1, hs_V (mo_wat h 0 ((h 40) - 1)))]) C dX7_freeze_15 rfl (by decide) [1, 0] rfl ?_
  refine hs_iconst C dX7_freeze_16 ?_
  refine hs_istore_n (lv' := [(0, .ref y0), (1, hs_V (mo_wat h 0 ((h 40) - 1))), (2, hs_V 0)]) C dX7_freeze_17 rfl (by decide) [1, 2, 0] rfl ?_
  have Lp4 : ∀ (k : Nat) (i : Int) (w : Int → Int), (0 ≤ i ∧ i ≤ h 40) → (hs_up (fun i x => hs_u x i (mo_dep h 0 (h 40 - 1) i)) i (h 40) w = mo_wetA h wt) → (h 40 - i < (k : Int)) → hs_J p l e ({ frames := 3, cells := 0, slots := 0, locals := 73 } : Room) s m args below meth c D A H0 3 0 0 Q 18 [(0, .ref y0), (1, hs_V (mo_wat h 0 ((h 40) - 1))), (2, hs_V i)] [] [hs_ob y0 7 [.ref y1, .ref y2, hs_V (mo_rC pm), .ref y3, hs_V fl, .ref y4, .ref y5, .ref y6, .ref y7, hs_V pt, .ref y8, .ref y9], hs_ia cI y1 41 h, hs_ia cI y2 328 (mo_rP h pa pm), hs_ia cI y4 40 w] := by
    intro k
    induction k with
    | zero =>
      intro i w hi hL hk
      exact absurd hk (by omega)
    | succ k ih =>
      intro i w hi hL hk
      have ih5 := ih
      refine hs_iload_n C dX7_freeze_18 rfl 2 rfl ?_
      refine hs_aload_n C dX7_freeze_19 rfl 0 rfl ?_
      refine hs_callVi (win := [hs_ob y0 7 [.ref y1, .ref y2, hs_V (mo_rC pm), .ref y3, hs_V fl, .ref y4, .ref y5, .ref y6, .ref y7, hs_V pt, .ref y8, .ref y9], hs_ia cI y1 41 h]) (wr := [hs_ia cI y2 328 (mo_rP h pa pm), hs_ia cI y4 40 w]) (As := []) (rest := [hs_V i]) C (c_X7_many l D cI cO y0 y1 y2 y3 y4 y5 y6 y7 y8 y9 (mo_rC pm) fl pt h ) 7 0 rfl rfl rfl (cwV 0 C.1.2.2.2.2 gX7_freeze_X7_many rfl rfl rfl (by decide +kernel) ⟨Nat.le_of_ble_eq_true rfl, Nat.le_of_ble_eq_true rfl⟩) rfl rfl (Nat.le_of_ble_eq_true rfl) dX7_freeze_20 ⟨Nat.le_of_ble_eq_true rfl, Nat.le_of_ble_eq_true rfl⟩ (fun rr uu6 hp => ?_)
      obtain rfl := hp
      refine hs_re0 (w' := [hs_ob y0 7 [.ref y1, .ref y2, hs_V (mo_rC pm), .ref y3, hs_V fl, .ref y4, .ref y5, .ref y6, .ref y7, hs_V pt, .ref y8, .ref y9], hs_ia cI y1 41 h, hs_ia cI y2 328 (mo_rP h pa pm), hs_ia cI y4 40 w]) [0, 1, 2, 3] rfl (by decide) ?_
      refine hs_icmp_ge (tgt := 50) C dX7_freeze_23 (by decide) (by omega) (by omega) (fun c7 => ?_) (fun c7 => ?_)
      ·
        have hWT : mo_wetA h wt = w := by rw [← hL, hs_up_done (by omega)]
        refine hs_iconst C dX7_freeze_50 ?_
        refine hs_cast (ws' := [hs_ob y0 7 [.ref y1, .ref y2, hs_V (mo_rC pm), .ref y3, hs_V fl, .ref y4, .ref y5, .ref y6, .ref y7, hs_V pt, .ref y8, .ref y9], hs_ia cI y1 41 h, hs_ia cI y2 328 (mo_rP h pa pm), hs_ia cI y4 40 (mo_wetA h wt)]) ?_ rfl rfl rfl (by rw [hWT])
        refine hs_istore_n (lv' := [(0, .ref y0), (1, hs_V (mo_wat h 0 ((h 40) - 1))), (2, hs_V 0)]) C dX7_freeze_51 rfl (by decide) [1, 2, 0] rfl ?_
        have Lp8 : ∀ (k : Nat) (j : Int) (x : Int → Int), (0 ≤ j ∧ j ≤ h 40) → (x 40 = h 40) → (hs_up (fun i x => hs_u x i (x i + mo_wetA h wt i)) j (h 40) x = mo_frzH h wt) → (h 40 - j < (k : Int)) → hs_J p l e ({ frames := 3, cells := 0, slots := 0, locals := 73 } : Room) s m args below meth c D A H0 3 0 0 Q 52 [(0, .ref y0), (1, hs_V (mo_wat h 0 ((h 40) - 1))), (2, hs_V j)] [] [hs_ob y0 7 [.ref y1, .ref y2, hs_V (mo_rC pm), .ref y3, hs_V fl, .ref y4, .ref y5, .ref y6, .ref y7, hs_V pt, .ref y8, .ref y9], hs_ia cI y1 41 x, hs_ia cI y2 328 (mo_rP h pa pm), hs_ia cI y4 40 (mo_wetA h wt)] := by
          intro k
          induction k with
          | zero =>
            intro j x hj hx40 hM hk
            exact absurd hk (by omega)
          | succ k ih =>
            intro j x hj hx40 hM hk
            have ih9 := ih
            refine hs_iload_n C dX7_freeze_52 rfl 2 rfl ?_
            refine hs_aload_n C dX7_freeze_53 rfl 0 rfl ?_
            refine hs_callVi (win := [hs_ob y0 7 [.ref y1, .ref y2, hs_V (mo_rC pm), .ref y3, hs_V fl, .ref y4, .ref y5, .ref y6, .ref y7, hs_V pt, .ref y8, .ref y9], hs_ia cI y1 41 x]) (wr := [hs_ia cI y2 328 (mo_rP h pa pm), hs_ia cI y4 40 (mo_wetA h wt)]) (As := []) (rest := [hs_V j]) C (c_X7_many l D cI cO y0 y1 y2 y3 y4 y5 y6 y7 y8 y9 (mo_rC pm) fl pt x ) 7 0 rfl rfl rfl (cwV 0 C.1.2.2.2.2 gX7_freeze_X7_many rfl rfl rfl (by decide +kernel) ⟨Nat.le_of_ble_eq_true rfl, Nat.le_of_ble_eq_true rfl⟩) rfl rfl (Nat.le_of_ble_eq_true rfl) dX7_freeze_54 ⟨Nat.le_of_ble_eq_true rfl, Nat.le_of_ble_eq_true rfl⟩ (fun rr uu10 hp => ?_)
            obtain rfl := hp
            refine hs_re0 (w' := [hs_ob y0 7 [.ref y1, .ref y2, hs_V (mo_rC pm), .ref y3, hs_V fl, .ref y4, .ref y5, .ref y6, .ref y7, hs_V pt, .ref y8, .ref y9], hs_ia cI y1 41 x, hs_ia cI y2 328 (mo_rP h pa pm), hs_ia cI y4 40 (mo_wetA h wt)]) [0, 1, 2, 3] rfl (by decide) ?_
            refine hs_icmp_ge (tgt := 81) C dX7_freeze_57 (by decide) (by omega) (by omega) (fun c11 => ?_) (fun c11 => ?_)
            ·
              have hRH : mo_frzH h wt = x := by rw [← hM, hs_up_done (by omega)]
              have hE : mo_freeze wt (h, pa, pm) = (mo_wat h 0 (h 40 - 1), x, mo_rP h pa pm, mo_rC pm) := by unfold mo_freeze; dsimp only; rw [hRH]
              refine hs_iload_n C dX7_freeze_81 rfl 1 rfl ?_
              refine hs_cast (ws' := [hs_ob y0 7 [.ref y1, .ref y2, hs_V (mo_freeze wt (h, pa, pm)).2.2.2, .ref y3, hs_V fl, .ref y4, .ref y5, .ref y6, .ref y7, hs_V pt, .ref y8, .ref y9], hs_ia cI y1 41 (mo_freeze wt (h, pa, pm)).2.1, hs_ia cI y2 328 (mo_freeze wt (h, pa, pm)).2.2.1, hs_ia cI y4 40 (mo_wetA h wt)]) ?_ rfl rfl rfl (by rw [hE] <;> rfl)
              exact hret _ _ _ () (by rw [hE] <;> rfl) dX7_freeze_82 rfl
            ·
              refine hs_aload_n C dX7_freeze_60 rfl 0 rfl ?_
              refine hs_get C u7 0 rfl rfl 0 (by decide) f7 rfl rfl dX7_freeze_61 ?_
              refine hs_iload_n C dX7_freeze_64 rfl 2 rfl ?_
              refine hs_dup2 C dX7_freeze_65 rfl rfl ?_
              refine hs_iald C 1 rfl (by omega) dX7_freeze_66 ?_
              refine hs_aload_n C dX7_freeze_67 rfl 0 rfl ?_
              refine hs_get C u7 0 rfl rfl 5 (by decide) f19 rfl rfl dX7_freeze_68 ?_
              refine hs_iload_n C dX7_freeze_71 rfl 2 rfl ?_
              refine hs_iald C 3 rfl (by omega) dX7_freeze_72 ?_
              refine hs_iadd C dX7_freeze_73 ?_
              refine hs_iast (ws' := [hs_ob y0 7 [.ref y1, .ref y2, hs_V (mo_rC pm), .ref y3, hs_V fl, .ref y4, .ref y5, .ref y6, .ref y7, hs_V pt, .ref y8, .ref y9], hs_ia cI y1 41 (hs_u x j ((x j) + ((mo_wetA h wt) j))), hs_ia cI y2 328 (mo_rP h pa pm), hs_ia cI y4 40 (mo_wetA h wt)]) C 1 rfl (by omega) rfl dX7_freeze_74 ?_
              refine hs_iinc (lv' := [(0, .ref y0), (1, hs_V (mo_wat h 0 ((h 40) - 1))), (2, hs_V (j + 1))]) C dX7_freeze_75 2 rfl (by decide) [1, 2, 0] rfl ?_
              refine hs_goto (tgt := 52) C dX7_freeze_78 (by decide) ?_
              exact ih9 (j + 1) (hs_u x j ((x j) + ((mo_wetA h wt) j))) (by omega) (by rw [hs_u_ne (by omega)]; exact hx40) ((hs_up_step (by omega)).symm.trans hM) (by omega)
        exact Lp8 ((h 40 - 0 : Int).toNat + 1) 0 h (by omega) (rfl) (rfl) (by omega)
      ·
        refine hs_aload_n C dX7_freeze_26 rfl 0 rfl ?_
        refine hs_get C u7 0 rfl rfl 5 (by decide) f19 rfl rfl dX7_freeze_27 ?_
        refine hs_iload_n C dX7_freeze_30 rfl 2 rfl ?_
        refine hs_aload_n C dX7_freeze_31 rfl 0 rfl ?_
        refine hs_iconst C dX7_freeze_32 ?_
        refine hs_aload_n C dX7_freeze_33 rfl 0 rfl ?_
        refine hs_callVi (win := [hs_ob y0 7 [.ref y1, .ref y2, hs_V (mo_rC pm), .ref y3, hs_V fl, .ref y4, .ref y5, .ref y6, .ref y7, hs_V pt, .ref y8, .ref y9], hs_ia cI y1 41 h]) (wr := [hs_ia cI y2 328 (mo_rP h pa pm), hs_ia cI y4 40 w]) (As := []) (rest := [hs_V 0, .ref y0, hs_V i, .ref y4]) C (c_X7_many l D cI cO y0 y1 y2 y3 y4 y5 y6 y7 y8 y9 (mo_rC pm) fl pt h ) 7 0 rfl rfl rfl (cwV 0 C.1.2.2.2.2 gX7_freeze_X7_many rfl rfl rfl (by decide +kernel) ⟨Nat.le_of_ble_eq_true rfl, Nat.le_of_ble_eq_true rfl⟩) rfl rfl (Nat.le_of_ble_eq_true rfl) dX7_freeze_34 ⟨Nat.le_of_ble_eq_true rfl, Nat.le_of_ble_eq_true rfl⟩ (fun rr uu12 hp => ?_)
        obtain rfl := hp
        refine hs_re0 (w' := [hs_ob y0 7 [.ref y1, .ref y2, hs_V (mo_rC pm), .ref y3, hs_V fl, .ref y4, .ref y5, .ref y6, .ref y7, hs_V pt, .ref y8, .ref y9], hs_ia cI y1 41 h, hs_ia cI y2 328 (mo_rP h pa pm), hs_ia cI y4 40 w]) [0, 1, 2, 3] rfl (by decide) ?_
        refine hs_iconst C dX7_freeze_37 ?_
        refine hs_isub C dX7_freeze_38 ?_
        refine hs_iload_n C dX7_freeze_39 rfl 2 rfl ?_
        refine hs_callVi (win := [hs_ob y0 7 [.ref y1, .ref y2, hs_V (mo_rC pm), .ref y3, hs_V fl, .ref y4, .ref y5, .ref y6, .ref y7, hs_V pt, .ref y8, .ref y9], hs_ia cI y1 41 h]) (wr := [hs_ia cI y2 328 (mo_rP h pa pm), hs_ia cI y4 40 w]) (As := [hs_V 0, hs_V ((h 40) - 1), hs_V i]) (rest := [hs_V i, .ref y4]) C (c_X7_depth l D cI cO y0 y1 y2 y3 y4 y5 y6 y7 y8 y9 (mo_rC pm) fl pt h 0 ((h 40) - 1) i hh (by omega)) 7 0 rfl rfl rfl (cwV 3 C.1.2.2.2.2 gX7_freeze_X7_depth rfl rfl rfl (by decide +kernel) ⟨Nat.le_of_ble_eq_true rfl, Nat.le_of_ble_eq_true rfl⟩) rfl rfl (Nat.le_of_ble_eq_true rfl) dX7_freeze_40 ⟨Nat.le_of_ble_eq_true rfl, Nat.le_of_ble_eq_true rfl⟩ (fun rr uu13 hp => ?_)
        obtain rfl := hp
        refine hs_re0 (w' := [hs_ob y0 7 [.ref y1, .ref y2, hs_V (mo_rC pm), .ref y3, hs_V fl, .ref y4, .ref y5, .ref y6, .ref y7, hs_V pt, .ref y8, .ref y9], hs_ia cI y1 41 h, hs_ia cI y2 328 (mo_rP h pa pm), hs_ia cI y4 40 w]) [0, 1, 2, 3] rfl (by decide) ?_
        refine hs_iast (ws' := [hs_ob y0 7 [.ref y1, .ref y2, hs_V (mo_rC pm), .ref y3, hs_V fl, .ref y4, .ref y5, .ref y6, .ref y7, hs_V pt, .ref y8, .ref y9], hs_ia cI y1 41 h, hs_ia cI y2 328 (mo_rP h pa pm), hs_ia cI y4 40 (hs_u w i (mo_dep h 0 ((h 40) - 1) i))]) C 3 rfl (by omega) rfl dX7_freeze_43 ?_
        refine hs_iinc (lv' := [(0, .ref y0), (1, hs_V (mo_wat h 0 ((h 40) - 1))), (2, hs_V (i + 1))]) C dX7_freeze_44 2 rfl (by decide) [1, 2, 0] rfl ?_
        refine hs_goto (tgt := 18) C dX7_freeze_47 (by decide) ?_
        exact ih5 (i + 1) (hs_u w i (mo_dep h 0 ((h 40) - 1) i)) (by omega) (by have hz := (hs_up_step (by omega)).symm.trans hL; (try dsimp only at hz); first | exact hz | (split at hz <;> first | exact hz | (exfalso; omega) | (split at hz <;> first | exact hz | (exfalso; omega) | (split at hz <;> first | exact hz | (exfalso; omega))))) (by omega)
  exact Lp4 ((h 40 - 0 : Int).toNat + 1) 0 wt (by omega) (rfl) (by omega)
