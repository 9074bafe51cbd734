set_option maxHeartbeats 4000000 in
set_option maxRecDepth 100000 in
theorem c_X7_layRectangles (l : Launch) (D : va_G) (cI cO : ClassId) (y0 : Nat) (y1 : Nat) (y2 : Nat) (y3 : Nat) (y4 : Nat) (y5 : Nat) (y6 : Nat) (y7 : Nat) (y8 : Nat) (y9 : Nat) (pm : Int) (fl : Int) (pt : Int) (h : Int → Int) (Ar : Int → Int) (Fi : Int → Int) (La : Int → Int) (hh : ∀ k, 0 ≤ h k ∧ h k ≤ 50) (hN : 0 ≤ h 40 ∧ h 40 ≤ 40) (hAr : ∀ k, 0 ≤ Ar k ∧ Ar k ≤ 2500) (hFi : ∀ k, 0 ≤ Fi k ∧ Fi k ≤ 39) (hLa : ∀ k, 0 ≤ La k ∧ La k ≤ 39) : hs_M l D cI cO yX7_layRectangles wsX7_layRectangles ({ frames := 2, cells := 0, slots := 0, locals := 49 } : Room) [.ref y0] [hs_ob y0 7 [.ref y1, .ref y2, hs_V pm, .ref y3, hs_V fl, .ref y4, .ref y5, .ref y6, .ref y7, hs_V pt, .ref y8, .ref y9], hs_ia cI y1 41 h, hs_ia cI y5 60 Ar, hs_ia cI y6 60 Fi, hs_ia cI y7 60 La] (fun r (_ : Unit) => r = hs_I (mo_ly h (0, Ar, Fi, La)).1) (fun _ => [hs_ob y0 7 [.ref y1, .ref y2, hs_V pm, .ref y3, hs_V fl, .ref y4, .ref y5, .ref y6, .ref y7, hs_V pt, .ref y8, .ref y9], hs_ia cI y1 41 h, hs_ia cI y5 60 (mo_ly h (0, Ar, Fi, La)).2.1, hs_ia cI y6 60 (mo_ly h (0, Ar, Fi, La)).2.2.1, hs_ia cI y7 60 (mo_ly h (0, Ar, Fi, La)).2.2.2]) 0 0 := by
  refine hs_enter (cc := cX7_layRectangles) (maxL := 6) (by decide +kernel) rfl (Nat.le_of_ble_eq_true rfl) (fun p e s m args below meth c A H0 Q C hret => ?_)
  have f22 := C.1.2.2.2.2 (.fieldLink RX7 22 "HistogramStairsModel" "areas" "[I") (by decide +kernel)
  have u7 : ∀ w ∈ wsX70, w ∈ wsX7_layRectangles := by decide +kernel
  have f25 := C.1.2.2.2.2 (.fieldLink RX7 25 "HistogramStairsModel" "firsts" "[I") (by decide +kernel)
  have f28 := C.1.2.2.2.2 (.fieldLink RX7 28 "HistogramStairsModel" "lasts" "[I") (by decide +kernel)
  have hle := mo_ly_le (h := h) (x := (0, Ar, Fi, La)) hN
  refine hs_lvs (lv' := [(0, .ref y0)]) [0] rfl ?_
  refine hs_iconst C dX7_layRectangles_0 ?_
  refine hs_istore_n (lv' := [(0, .ref y0), (1, hs_V 0)]) C dX7_layRectangles_1 rfl (by decide) [1, 0] rfl ?_
  refine hs_iconst C dX7_layRectangles_2 ?_
  refine hs_istore_n (lv' := [(0, .ref y0), (1, hs_V 0), (2, hs_V 0)]) C dX7_layRectangles_3 rfl (by decide) [1, 2, 0] rfl ?_
  have Lp1 : ∀ (k : Nat) (a : Int) (c0 : Int) (A0 : Int → Int) (F0 : Int → Int) (L0 : Int → Int), (0 ≤ a ∧ a ≤ h 40) → (0 ≤ c0) → (∀ k, 0 ≤ A0 k ∧ A0 k ≤ 2500) → (∀ k, 0 ≤ F0 k ∧ F0 k ≤ 39) → (∀ k, 0 ≤ L0 k ∧ L0 k ≤ 39) → (hs_up (mo_lyO h) a (h 40) (c0, A0, F0, L0) = mo_ly h (0, Ar, Fi, La)) → (h 40 - a < (k : Int)) → hs_J p l e ({ frames := 2, cells := 0, slots := 0, locals := 49 } : Room) s m args below meth c D A H0 6 0 0 Q 4 [(0, .ref y0), (1, hs_V c0), (2, hs_V a)] [] [hs_ob y0 7 [.ref y1, .ref y2, hs_V pm, .ref y3, hs_V fl, .ref y4, .ref y5, .ref y6, .ref y7, hs_V pt, .ref y8, .ref y9], hs_ia cI y1 41 h, hs_ia cI y5 60 A0, hs_ia cI y6 60 F0, hs_ia cI y7 60 L0] := by
    intro k
    induction k with
    | zero =>
      intro a c0 A0 F0 L0 ha hc0 hA0 hF0 hL0 hL hk
      exact absurd hk (by omega)
    | succ k ih =>
      intro a c0 A0 F0 L0 ha hc0 hA0 hF0 hL0 hL hk
      have ih2 := ih
      refine hs_iload_n C dX7_layRectangles_4 rfl 2 rfl ?_
      refine hs_aload_n C dX7_layRectangles_5 rfl 0 rfl ?_
      refine hs_callVi (win := [hs_ob y0 7 [.ref y1, .ref y2, hs_V pm, .ref y3, hs_V fl, .ref y4, .ref y5, .ref y6, .ref y7, hs_V pt, .ref y8, .ref y9], hs_ia cI y1 41 h]) (wr := [hs_ia cI y5 60 A0, hs_ia cI y6 60 F0, hs_ia cI y7 60 L0]) (As := []) (rest := [hs_V a]) C (c_X7_many l D cI cO y0 y1 y2 y3 y4 y5 y6 y7 y8 y9 pm fl pt h ) 7 0 rfl rfl rfl (cwV 0 C.1.2.2.2.2 gX7_layRectangles_X7_many rfl rfl rfl (by decide +kernel) ⟨Nat.le_of_ble_eq_true rfl, Nat.le_of_ble_eq_true rfl⟩) rfl rfl (Nat.le_of_ble_eq_true rfl) dX7_layRectangles_6 ⟨Nat.le_of_ble_eq_true rfl, Nat.le_of_ble_eq_true rfl⟩ (fun rr uu3 hp => ?_)
      obtain rfl := hp
      refine hs_re0 (w' := [hs_ob y0 7 [.ref y1, .ref y2, hs_V pm, .ref y3, hs_V fl, .ref y4, .ref y5, .ref y6, .ref y7, hs_V pt, .ref y8, .ref y9], hs_ia cI y1 41 h, hs_ia cI y5 60 A0, hs_ia cI y6 60 F0, hs_ia cI y7 60 L0]) [0, 1, 2, 3, 4] rfl (by decide) ?_
      refine hs_icmp_ge (tgt := 155) C dX7_layRectangles_9 (by decide) (by omega) (by omega) (fun c4 => ?_) (fun c4 => ?_)
      ·
        have hly : mo_ly h (0, Ar, Fi, La) = (c0, A0, F0, L0) := by rw [← hL, hs_up_done (by omega)]
        refine hs_iload_n C dX7_layRectangles_155 rfl 1 rfl ?_
        refine hs_cast (ws' := [hs_ob y0 7 [.ref y1, .ref y2, hs_V pm, .ref y3, hs_V fl, .ref y4, .ref y5, .ref y6, .ref y7, hs_V pt, .ref y8, .ref y9], hs_ia cI y1 41 h, hs_ia cI y5 60 (mo_ly h (0, Ar, Fi, La)).2.1, hs_ia cI y6 60 (mo_ly h (0, Ar, Fi, La)).2.2.1, hs_ia cI y7 60 (mo_ly h (0, Ar, Fi, La)).2.2.2]) ?_ rfl rfl rfl (by rw [hly])
        exact hret _ _ _ () (by rw [hly]) dX7_layRectangles_156 rfl
      ·
        refine hs_iload_n C dX7_layRectangles_12 rfl 2 rfl ?_
        refine hs_istore_n (lv' := [(0, .ref y0), (1, hs_V c0), (2, hs_V a), (3, hs_V a)]) C dX7_layRectangles_13 rfl (by decide) [1, 2, 3, 0] rfl ?_
        have Lp5 : ∀ (k : Nat) (b : Int) (c1 : Int) (A1 : Int → Int) (F1 : Int → Int) (L1 : Int → Int), (a ≤ b ∧ b ≤ h 40) → (0 ≤ c1) → (∀ k, 0 ≤ A1 k ∧ A1 k ≤ 2500) → (∀ k, 0 ≤ F1 k ∧ F1 k ≤ 39) → (∀ k, 0 ≤ L1 k ∧ L1 k ≤ 39) → (hs_up (mo_lyI h a) b (h 40) (c1, A1, F1, L1) = hs_up (mo_lyI h a) a (h 40) (c0, A0, F0, L0)) → (h 40 - b < (k : Int)) → hs_J p l e ({ frames := 2, cells := 0, slots := 0, locals := 49 } : Room) s m args below meth c D A H0 6 0 0 Q 14 [(0, .ref y0), (1, hs_V c1), (2, hs_V a), (3, hs_V b)] [] [hs_ob y0 7 [.ref y1, .ref y2, hs_V pm, .ref y3, hs_V fl, .ref y4, .ref y5, .ref y6, .ref y7, hs_V pt, .ref y8, .ref y9], hs_ia cI y1 41 h, hs_ia cI y5 60 A1, hs_ia cI y6 60 F1, hs_ia cI y7 60 L1] := by
          intro k
          induction k with
          | zero =>
            intro b c1 A1 F1 L1 hb hc1 hA1 hF1 hL1 hM hk
            exact absurd hk (by omega)
          | succ k ih =>
            intro b c1 A1 F1 L1 hb hc1 hA1 hF1 hL1 hM hk
            have ih6 := ih
            refine hs_iload_n C dX7_layRectangles_14 rfl 3 rfl ?_
            refine hs_aload_n C dX7_layRectangles_15 rfl 0 rfl ?_
            refine hs_callVi (win := [hs_ob y0 7 [.ref y1, .ref y2, hs_V pm, .ref y3, hs_V fl, .ref y4, .ref y5, .ref y6, .ref y7, hs_V pt, .ref y8, .ref y9], hs_ia cI y1 41 h]) (wr := [hs_ia cI y5 60 A1, hs_ia cI y6 60 F1, hs_ia cI y7 60 L1]) (As := []) (rest := [hs_V b]) C (c_X7_many l D cI cO y0 y1 y2 y3 y4 y5 y6 y7 y8 y9 pm fl pt h ) 7 0 rfl rfl rfl (cwV 0 C.1.2.2.2.2 gX7_layRectangles_X7_many rfl rfl rfl (by decide +kernel) ⟨Nat.le_of_ble_eq_true rfl, Nat.le_of_ble_eq_true rfl⟩) rfl rfl (Nat.le_of_ble_eq_true rfl) dX7_layRectangles_16 ⟨Nat.le_of_ble_eq_true rfl, Nat.le_of_ble_eq_true rfl⟩ (fun rr uu7 hp => ?_)
            obtain rfl := hp
            refine hs_re0 (w' := [hs_ob y0 7 [.ref y1, .ref y2, hs_V pm, .ref y3, hs_V fl, .ref y4, .ref y5, .ref y6, .ref y7, hs_V pt, .ref y8, .ref y9], hs_ia cI y1 41 h, hs_ia cI y5 60 A1, hs_ia cI y6 60 F1, hs_ia cI y7 60 L1]) [0, 1, 2, 3, 4] rfl (by decide) ?_
            refine hs_icmp_ge (tgt := 149) C dX7_layRectangles_19 (by decide) (by omega) (by omega) (fun c8 => ?_) (fun c8 => ?_)
            ·
              refine hs_iinc (lv' := [(0, .ref y0), (1, hs_V c1), (2, hs_V (a + 1)), (3, hs_V b)]) C dX7_layRectangles_149 2 rfl (by decide) [1, 2, 0, 3] rfl ?_
              refine hs_goto (tgt := 4) C dX7_layRectangles_152 (by decide) ?_
              refine hs_lvs (lv' := [(0, .ref y0), (1, hs_V c1), (2, hs_V (a + 1))]) [0, 1, 2] rfl ?_
              exact ih2 (a + 1) c1 A1 F1 L1 (by omega) (by omega) hA1 hF1 hL1 (by have hz := (hs_up_step (by omega)).symm.trans hL; have he : mo_lyO h a (c0, A0, F0, L0) = (c1, A1, F1, L1) := (by unfold mo_lyO; rw [← hM, hs_up_done (by omega)]); rw [he] at hz; exact hz) (by omega)
            ·
              refine hs_aload_n C dX7_layRectangles_22 rfl 0 rfl ?_
              refine hs_iload_n C dX7_layRectangles_23 rfl 2 rfl ?_
              refine hs_iload_n C dX7_layRectangles_24 rfl 3 rfl ?_
              refine hs_callVi (win := [hs_ob y0 7 [.ref y1, .ref y2, hs_V pm, .ref y3, hs_V fl, .ref y4, .ref y5, .ref y6, .ref y7, hs_V pt, .ref y8, .ref y9], hs_ia cI y1 41 h]) (wr := [hs_ia cI y5 60 A1, hs_ia cI y6 60 F1, hs_ia cI y7 60 L1]) (As := [hs_V a, hs_V b]) (rest := []) C (c_X7_isMaximal l D cI cO y0 y1 y2 y3 y4 y5 y6 y7 y8 y9 pm fl pt h a b hh (by omega) (by omega)) 7 0 rfl rfl rfl (cwV 2 C.1.2.2.2.2 gX7_layRectangles_X7_isMaximal rfl rfl rfl (by decide +kernel) ⟨Nat.le_of_ble_eq_true rfl, Nat.le_of_ble_eq_true rfl⟩) rfl rfl (Nat.le_of_ble_eq_true rfl) dX7_layRectangles_25 ⟨Nat.le_of_ble_eq_true rfl, Nat.le_of_ble_eq_true rfl⟩ (fun rr uu9 hp => ?_)
              obtain rfl := hp
              refine hs_re0 (w' := [hs_ob y0 7 [.ref y1, .ref y2, hs_V pm, .ref y3, hs_V fl, .ref y4, .ref y5, .ref y6, .ref y7, hs_V pt, .ref y8, .ref y9], hs_ia cI y1 41 h, hs_ia cI y5 60 A1, hs_ia cI y6 60 F1, hs_ia cI y7 60 L1]) [0, 1, 2, 3, 4] rfl (by decide) ?_
              refine hs_ifeq_b (tgt := 143) C dX7_layRectangles_28 (by decide) (fun c10 => ?_) (fun c10 => ?_)
              ·
                refine hs_iinc (lv' := [(0, .ref y0), (1, hs_V c1), (2, hs_V a), (3, hs_V (b + 1))]) C dX7_layRectangles_143 3 rfl (by decide) [1, 2, 3, 0] rfl ?_
                refine hs_goto (tgt := 14) C dX7_layRectangles_146 (by decide) ?_
                exact ih6 (b + 1) c1 A1 F1 L1 (by omega) (by omega) hA1 hF1 hL1 (by have hz := (hs_up_step (by omega)).symm.trans hM; first | (rw [show mo_lyI h a b (c1, A1, F1, L1) = (c1, A1, F1, L1) from if_neg (by assumption)] at hz; exact hz) | (rw [hput] at hz; exact hz)) (by omega)
              ·
                have hlt : b < h 40 := by omega
                have hpu : (mo_lyI h a b (c1, A1, F1, L1)).1 = c1 + 1 := by unfold mo_lyI; rw [if_pos (by assumption)]; rfl
                have hm1 := mo_lyU_mono (h := h) (a := a) (b + 1) (h 40) (mo_lyI h a b (c1, A1, F1, L1))
                rw [hpu, ← hs_up_step hlt, hM] at hm1
                have hm2 := mo_lyV_mono (h := h) (a + 1) (h 40) (mo_lyO h a (c0, A0, F0, L0))
                rw [← hs_up_step (show a < h 40 by omega), hL] at hm2
                have hm3 : (mo_lyO h a (c0, A0, F0, L0)).1 = (hs_up (mo_lyI h a) a (h 40) (c0, A0, F0, L0)).1 := rfl
                have hab := mo_area_bd (a := a) (b := b) hh (by omega) (by omega)
                refine hs_aload_n C dX7_layRectangles_31 rfl 0 rfl ?_
                refine hs_iload_n C dX7_layRectangles_32 rfl 2 rfl ?_
                refine hs_iload_n C dX7_layRectangles_33 rfl 3 rfl ?_
                refine hs_callVi (win := [hs_ob y0 7 [.ref y1, .ref y2, hs_V pm, .ref y3, hs_V fl, .ref y4, .ref y5, .ref y6, .ref y7, hs_V pt, .ref y8, .ref y9], hs_ia cI y1 41 h]) (wr := [hs_ia cI y5 60 A1, hs_ia cI y6 60 F1, hs_ia cI y7 60 L1]) (As := [hs_V a, hs_V b]) (rest := []) C (c_X7_area l D cI cO y0 y1 y2 y3 y4 y5 y6 y7 y8 y9 pm fl pt h a b hh (by omega)) 7 0 rfl rfl rfl (cwV 2 C.1.2.2.2.2 gX7_layRectangles_X7_area rfl rfl rfl (by decide +kernel) ⟨Nat.le_of_ble_eq_true rfl, Nat.le_of_ble_eq_true rfl⟩) rfl rfl (Nat.le_of_ble_eq_true rfl) dX7_layRectangles_34 ⟨Nat.le_of_ble_eq_true rfl, Nat.le_of_ble_eq_true rfl⟩ (fun rr uu11 hp => ?_)
                obtain rfl := hp
                refine hs_re0 (w' := [hs_ob y0 7 [.ref y1, .ref y2, hs_V pm, .ref y3, hs_V fl, .ref y4, .ref y5, .ref y6, .ref y7, hs_V pt, .ref y8, .ref y9], hs_ia cI y1 41 h, hs_ia cI y5 60 A1, hs_ia cI y6 60 F1, hs_ia cI y7 60 L1]) [0, 1, 2, 3, 4] rfl (by decide) ?_
                refine hs_istore (lv' := [(0, .ref y0), (1, hs_V c1), (2, hs_V a), (3, hs_V b), (4, hs_V (mo_mn h a b * (b - a + 1)))]) C dX7_layRectangles_37 (by decide) [1, 2, 3, 4, 0] rfl ?_
                refine hs_iload_n C dX7_layRectangles_39 rfl 1 rfl ?_
                refine hs_istore (lv' := [(0, .ref y0), (1, hs_V c1), (2, hs_V a), (3, hs_V b), (4, hs_V (mo_mn h a b * (b - a + 1))), (5, hs_V c1)]) C dX7_layRectangles_40 (by decide) [1, 2, 3, 4, 5, 0] rfl ?_
                have Lp12 : ∀ (k : Nat) (q : Int) (A2 : Int → Int) (F2 : Int → Int) (L2 : Int → Int), (0 ≤ q ∧ q ≤ c1) → (∀ k, 0 ≤ A2 k ∧ A2 k ≤ 2500) → (∀ k, 0 ≤ F2 k ∧ F2 k ≤ 39) → (∀ k, 0 ≤ L2 k ∧ L2 k ≤ 39) → (hs_wh (mo_inP (mo_mn h a b * (b - a + 1))) mo_inF k (q, A2, F2, L2) = mo_in (mo_mn h a b * (b - a + 1)) (c1, A1, F1, L1)) → (q < (k : Int)) → hs_J p l e ({ frames := 2, cells := 0, slots := 0, locals := 49 } : Room) s m args below meth c D A H0 6 0 0 Q 42 [(0, .ref y0), (1, hs_V c1), (2, hs_V a), (3, hs_V b), (4, hs_V (mo_mn h a b * (b - a + 1))), (5, hs_V q)] [] [hs_ob y0 7 [.ref y1, .ref y2, hs_V pm, .ref y3, hs_V fl, .ref y4, .ref y5, .ref y6, .ref y7, hs_V pt, .ref y8, .ref y9], hs_ia cI y1 41 h, hs_ia cI y5 60 A2, hs_ia cI y6 60 F2, hs_ia cI y7 60 L2] := by
                  intro k
                  induction k with
                  | zero =>
                    intro q A2 F2 L2 hq hA2 hF2 hL2 hW hk
                    exact absurd hk (by omega)
                  | succ k ih =>
                    intro q A2 F2 L2 hq hA2 hF2 hL2 hW hk
                    have ih13 := ih
                    refine hs_iload C dX7_layRectangles_42 5 rfl ?_
                    refine hs_if_le (tgt := 115) C dX7_layRectangles_44 (by decide) (by omega) (fun c14 => ?_) (fun c14 => ?_)
                    ·
                      have hin : mo_in (mo_mn h a b * (b - a + 1)) (c1, A1, F1, L1) = (q, A2, F2, L2) := by rw [← hW, hs_wh_done (show ¬ mo_inP (mo_mn h a b * (b - a + 1)) (q, A2, F2, L2) by unfold mo_inP; dsimp only; omega)]
                      have hput : mo_lyI h a b (c1, A1, F1, L1) = (c1 + 1, hs_u A2 q (mo_mn h a b * (b - a + 1)), hs_u F2 q a, hs_u L2 q b) := by unfold mo_lyI; rw [if_pos (by assumption)]; unfold mo_put; rw [hin]
                      refine hs_aload_n C dX7_layRectangles_115 rfl 0 rfl ?_
                      refine hs_get C u7 0 rfl rfl 6 (by decide) f22 rfl rfl dX7_layRectangles_116 ?_
                      refine hs_iload C dX7_layRectangles_119 5 rfl ?_
                      refine hs_iload C dX7_layRectangles_121 4 rfl ?_
                      refine hs_iast (ws' := [hs_ob y0 7 [.ref y1, .ref y2, hs_V pm, .ref y3, hs_V fl, .ref y4, .ref y5, .ref y6, .ref y7, hs_V pt, .ref y8, .ref y9], hs_ia cI y1 41 h, hs_ia cI y5 60 (hs_u A2 q (mo_mn h a b * (b - a + 1))), hs_ia cI y6 60 F2, hs_ia cI y7 60 L2]) C 2 rfl (by omega) rfl dX7_layRectangles_123 ?_
                      have b15 := hs_u_bd (i := q) hA2 (show 0 ≤ mo_mn h a b * (b - a + 1) ∧ mo_mn h a b * (b - a + 1) ≤ 2500 by omega)
                      refine hs_aload_n C dX7_layRectangles_124 rfl 0 rfl ?_
                      refine hs_get C u7 0 rfl rfl 7 (by decide) f25 rfl rfl dX7_layRectangles_125 ?_
                      refine hs_iload C dX7_layRectangles_128 5 rfl ?_
                      refine hs_iload_n C dX7_layRectangles_130 rfl 2 rfl ?_
                      refine hs_iast (ws' := [hs_ob y0 7 [.ref y1, .ref y2, hs_V pm, .ref y3, hs_V fl, .ref y4, .ref y5, .ref y6, .ref y7, hs_V pt, .ref y8, .ref y9], hs_ia cI y1 41 h, hs_ia cI y5 60 (hs_u A2 q (mo_mn h a b * (b - a + 1))), hs_ia cI y6 60 (hs_u F2 q a), hs_ia cI y7 60 L2]) C 3 rfl (by omega) rfl dX7_layRectangles_131 ?_
                      have b16 := hs_u_bd (i := q) hF2 (show 0 ≤ a ∧ a ≤ 39 by omega)
                      refine hs_aload_n C dX7_layRectangles_132 rfl 0 rfl ?_
                      refine hs_get C u7 0 rfl rfl 8 (by decide) f28 rfl rfl dX7_layRectangles_133 ?_
                      refine hs_iload C dX7_layRectangles_136 5 rfl ?_
                      refine hs_iload_n C dX7_layRectangles_138 rfl 3 rfl ?_
                      refine hs_iast (ws' := [hs_ob y0 7 [.ref y1, .ref y2, hs_V pm, .ref y3, hs_V fl, .ref y4, .ref y5, .ref y6, .ref y7, hs_V pt, .ref y8, .ref y9], hs_ia cI y1 41 h, hs_ia cI y5 60 (hs_u A2 q (mo_mn h a b * (b - a + 1))), hs_ia cI y6 60 (hs_u F2 q a), hs_ia cI y7 60 (hs_u L2 q b)]) C 4 rfl (by omega) rfl dX7_layRectangles_139 ?_
                      have b17 := hs_u_bd (i := q) hL2 (show 0 ≤ b ∧ b ≤ 39 by omega)
                      refine hs_iinc (lv' := [(0, .ref y0), (1, hs_V (c1 + 1)), (2, hs_V a), (3, hs_V b), (4, hs_V (mo_mn h a b * (b - a + 1))), (5, hs_V q)]) C dX7_layRectangles_140 1 rfl (by decide) [1, 0, 2, 3, 4, 5] rfl ?_
                      refine hs_iinc (lv' := [(0, .ref y0), (1, hs_V (c1 + 1)), (2, hs_V a), (3, hs_V (b + 1)), (4, hs_V (mo_mn h a b * (b - a + 1))), (5, hs_V q)]) C dX7_layRectangles_143 3 rfl (by decide) [1, 2, 3, 0, 4, 5] rfl ?_
                      refine hs_goto (tgt := 14) C dX7_layRectangles_146 (by decide) ?_
                      refine hs_lvs (lv' := [(0, .ref y0), (1, hs_V (c1 + 1)), (2, hs_V a), (3, hs_V (b + 1))]) [0, 1, 2, 3] rfl ?_
                      exact ih6 (b + 1) (c1 + 1) (hs_u A2 q (mo_mn h a b * (b - a + 1))) (hs_u F2 q a) (hs_u L2 q b) (by omega) (by omega) b15 b16 b17 (by have hz := (hs_up_step (by omega)).symm.trans hM; first | (rw [show mo_lyI h a b (c1, A1, F1, L1) = (c1, A1, F1, L1) from if_neg (by assumption)] at hz; exact hz) | (rw [hput] at hz; exact hz)) (by omega)
                    ·
                      refine hs_aload_n C dX7_layRectangles_47 rfl 0 rfl ?_
                      refine hs_get C u7 0 rfl rfl 6 (by decide) f22 rfl rfl dX7_layRectangles_48 ?_
                      refine hs_iload C dX7_layRectangles_51 5 rfl ?_
                      refine hs_iconst C dX7_layRectangles_53 ?_
                      refine hs_isub C dX7_layRectangles_54 ?_
                      refine hs_iald C 2 rfl (by omega) dX7_layRectangles_55 ?_
                      have b18 := hA2 (q - 1)
                      refine hs_iload C dX7_layRectangles_56 4 rfl ?_
                      refine hs_icmp_ge (tgt := 115) C dX7_layRectangles_58 (by decide) (by omega) (by omega) (fun c19 => ?_) (fun c19 => ?_)
                      ·
                        have hin : mo_in (mo_mn h a b * (b - a + 1)) (c1, A1, F1, L1) = (q, A2, F2, L2) := by rw [← hW, hs_wh_done (show ¬ mo_inP (mo_mn h a b * (b - a + 1)) (q, A2, F2, L2) by unfold mo_inP; dsimp only; omega)]
                        have hput : mo_lyI h a b (c1, A1, F1, L1) = (c1 + 1, hs_u A2 q (mo_mn h a b * (b - a + 1)), hs_u F2 q a, hs_u L2 q b) := by unfold mo_lyI; rw [if_pos (by assumption)]; unfold mo_put; rw [hin]
                        refine hs_aload_n C dX7_layRectangles_115 rfl 0 rfl ?_
                        refine hs_get C u7 0 rfl rfl 6 (by decide) f22 rfl rfl dX7_layRectangles_116 ?_
                        refine hs_iload C dX7_layRectangles_119 5 rfl ?_
                        refine hs_iload C dX7_layRectangles_121 4 rfl ?_
                        refine hs_iast (ws' := [hs_ob y0 7 [.ref y1, .ref y2, hs_V pm, .ref y3, hs_V fl, .ref y4, .ref y5, .ref y6, .ref y7, hs_V pt, .ref y8, .ref y9], hs_ia cI y1 41 h, hs_ia cI y5 60 (hs_u A2 q (mo_mn h a b * (b - a + 1))), hs_ia cI y6 60 F2, hs_ia cI y7 60 L2]) C 2 rfl (by omega) rfl dX7_layRectangles_123 ?_
                        have b20 := hs_u_bd (i := q) hA2 (show 0 ≤ mo_mn h a b * (b - a + 1) ∧ mo_mn h a b * (b - a + 1) ≤ 2500 by omega)
                        refine hs_aload_n C dX7_layRectangles_124 rfl 0 rfl ?_
                        refine hs_get C u7 0 rfl rfl 7 (by decide) f25 rfl rfl dX7_layRectangles_125 ?_
                        refine hs_iload C dX7_layRectangles_128 5 rfl ?_
                        refine hs_iload_n C dX7_layRectangles_130 rfl 2 rfl ?_
                        refine hs_iast (ws' := [hs_ob y0 7 [.ref y1, .ref y2, hs_V pm, .ref y3, hs_V fl, .ref y4, .ref y5, .ref y6, .ref y7, hs_V pt, .ref y8, .ref y9], hs_ia cI y1 41 h, hs_ia cI y5 60 (hs_u A2 q (mo_mn h a b * (b - a + 1))), hs_ia cI y6 60 (hs_u F2 q a), hs_ia cI y7 60 L2]) C 3 rfl (by omega) rfl dX7_layRectangles_131 ?_
                        have b21 := hs_u_bd (i := q) hF2 (show 0 ≤ a ∧ a ≤ 39 by omega)
                        refine hs_aload_n C dX7_layRectangles_132 rfl 0 rfl ?_
                        refine hs_get C u7 0 rfl rfl 8 (by decide) f28 rfl rfl dX7_layRectangles_133 ?_
                        refine hs_iload C dX7_layRectangles_136 5 rfl ?_
                        refine hs_iload_n C dX7_layRectangles_138 rfl 3 rfl ?_
                        refine hs_iast (ws' := [hs_ob y0 7 [.ref y1, .ref y2, hs_V pm, .ref y3, hs_V fl, .ref y4, .ref y5, .ref y6, .ref y7, hs_V pt, .ref y8, .ref y9], hs_ia cI y1 41 h, hs_ia cI y5 60 (hs_u A2 q (mo_mn h a b * (b - a + 1))), hs_ia cI y6 60 (hs_u F2 q a), hs_ia cI y7 60 (hs_u L2 q b)]) C 4 rfl (by omega) rfl dX7_layRectangles_139 ?_
                        have b22 := hs_u_bd (i := q) hL2 (show 0 ≤ b ∧ b ≤ 39 by omega)
                        refine hs_iinc (lv' := [(0, .ref y0), (1, hs_V (c1 + 1)), (2, hs_V a), (3, hs_V b), (4, hs_V (mo_mn h a b * (b - a + 1))), (5, hs_V q)]) C dX7_layRectangles_140 1 rfl (by decide) [1, 0, 2, 3, 4, 5] rfl ?_
                        refine hs_iinc (lv' := [(0, .ref y0), (1, hs_V (c1 + 1)), (2, hs_V a), (3, hs_V (b + 1)), (4, hs_V (mo_mn h a b * (b - a + 1))), (5, hs_V q)]) C dX7_layRectangles_143 3 rfl (by decide) [1, 2, 3, 0, 4, 5] rfl ?_
                        refine hs_goto (tgt := 14) C dX7_layRectangles_146 (by decide) ?_
                        refine hs_lvs (lv' := [(0, .ref y0), (1, hs_V (c1 + 1)), (2, hs_V a), (3, hs_V (b + 1))]) [0, 1, 2, 3] rfl ?_
                        exact ih6 (b + 1) (c1 + 1) (hs_u A2 q (mo_mn h a b * (b - a + 1))) (hs_u F2 q a) (hs_u L2 q b) (by omega) (by omega) b20 b21 b22 (by have hz := (hs_up_step (by omega)).symm.trans hM; first | (rw [show mo_lyI h a b (c1, A1, F1, L1) = (c1, A1, F1, L1) from if_neg (by assumption)] at hz; exact hz) | (rw [hput] at hz; exact hz)) (by omega)
                      ·
                        refine hs_aload_n C dX7_layRectangles_61 rfl 0 rfl ?_
                        refine hs_get C u7 0 rfl rfl 6 (by decide) f22 rfl rfl dX7_layRectangles_62 ?_
                        refine hs_iload C dX7_layRectangles_65 5 rfl ?_
                        refine hs_aload_n C dX7_layRectangles_67 rfl 0 rfl ?_
                        refine hs_get C u7 0 rfl rfl 6 (by decide) f22 rfl rfl dX7_layRectangles_68 ?_
                        refine hs_iload C dX7_layRectangles_71 5 rfl ?_
                        refine hs_iconst C dX7_layRectangles_73 ?_
                        refine hs_isub C dX7_layRectangles_74 ?_
                        refine hs_iald C 2 rfl (by omega) dX7_layRectangles_75 ?_
                        have b23 := hA2 (q - 1)
                        refine hs_iast (ws' := [hs_ob y0 7 [.ref y1, .ref y2, hs_V pm, .ref y3, hs_V fl, .ref y4, .ref y5, .ref y6, .ref y7, hs_V pt, .ref y8, .ref y9], hs_ia cI y1 41 h, hs_ia cI y5 60 (hs_u A2 q (A2 (q - 1))), hs_ia cI y6 60 F2, hs_ia cI y7 60 L2]) C 2 rfl (by omega) rfl dX7_layRectangles_76 ?_
                        have b24 := hs_u_bd (i := q) hA2 (show 0 ≤ A2 (q - 1) ∧ A2 (q - 1) ≤ 2500 by omega)
                        refine hs_aload_n C dX7_layRectangles_77 rfl 0 rfl ?_
                        refine hs_get C u7 0 rfl rfl 7 (by decide) f25 rfl rfl dX7_layRectangles_78 ?_
                        refine hs_iload C dX7_layRectangles_81 5 rfl ?_
                        refine hs_aload_n C dX7_layRectangles_83 rfl 0 rfl ?_
                        refine hs_get C u7 0 rfl rfl 7 (by decide) f25 rfl rfl dX7_layRectangles_84 ?_
                        refine hs_iload C dX7_layRectangles_87 5 rfl ?_
                        refine hs_iconst C dX7_layRectangles_89 ?_
                        refine hs_isub C dX7_layRectangles_90 ?_
                        refine hs_iald C 3 rfl (by omega) dX7_layRectangles_91 ?_
                        have b25 := hF2 (q - 1)
                        refine hs_iast (ws' := [hs_ob y0 7 [.ref y1, .ref y2, hs_V pm, .ref y3, hs_V fl, .ref y4, .ref y5, .ref y6, .ref y7, hs_V pt, .ref y8, .ref y9], hs_ia cI y1 41 h, hs_ia cI y5 60 (hs_u A2 q (A2 (q - 1))), hs_ia cI y6 60 (hs_u F2 q (F2 (q - 1))), hs_ia cI y7 60 L2]) C 3 rfl (by omega) rfl dX7_layRectangles_92 ?_
                        have b26 := hs_u_bd (i := q) hF2 (show 0 ≤ F2 (q - 1) ∧ F2 (q - 1) ≤ 39 by omega)
                        refine hs_aload_n C dX7_layRectangles_93 rfl 0 rfl ?_
                        refine hs_get C u7 0 rfl rfl 8 (by decide) f28 rfl rfl dX7_layRectangles_94 ?_
                        refine hs_iload C dX7_layRectangles_97 5 rfl ?_
                        refine hs_aload_n C dX7_layRectangles_99 rfl 0 rfl ?_
                        refine hs_get C u7 0 rfl rfl 8 (by decide) f28 rfl rfl dX7_layRectangles_100 ?_
                        refine hs_iload C dX7_layRectangles_103 5 rfl ?_
                        refine hs_iconst C dX7_layRectangles_105 ?_
                        refine hs_isub C dX7_layRectangles_106 ?_
                        refine hs_iald C 4 rfl (by omega) dX7_layRectangles_107 ?_
                        have b27 := hL2 (q - 1)
                        refine hs_iast (ws' := [hs_ob y0 7 [.ref y1, .ref y2, hs_V pm, .ref y3, hs_V fl, .ref y4, .ref y5, .ref y6, .ref y7, hs_V pt, .ref y8, .ref y9], hs_ia cI y1 41 h, hs_ia cI y5 60 (hs_u A2 q (A2 (q - 1))), hs_ia cI y6 60 (hs_u F2 q (F2 (q - 1))), hs_ia cI y7 60 (hs_u L2 q (L2 (q - 1)))]) C 4 rfl (by omega) rfl dX7_layRectangles_108 ?_
                        have b28 := hs_u_bd (i := q) hL2 (show 0 ≤ L2 (q - 1) ∧ L2 (q - 1) ≤ 39 by omega)
                        refine hs_iinc (lv' := [(0, .ref y0), (1, hs_V c1), (2, hs_V a), (3, hs_V b), (4, hs_V (mo_mn h a b * (b - a + 1))), (5, hs_V (q + (-1)))]) C dX7_layRectangles_109 5 rfl (by decide) [1, 2, 3, 4, 5, 0] rfl ?_
                        refine hs_goto (tgt := 42) C dX7_layRectangles_112 (by decide) ?_
                        exact ih13 (q + (-1)) (hs_u A2 q (A2 (q - 1))) (hs_u F2 q (F2 (q - 1))) (hs_u L2 q (L2 (q - 1))) (by omega) b24 b26 b28 ((hs_wh_step (P := mo_inP (mo_mn h a b * (b - a + 1))) (f := mo_inF) (n := k) (x := (q, A2, F2, L2)) ⟨by (try dsimp only); omega, by (try dsimp only); omega⟩).symm.trans hW) (by omega)
                exact Lp12 ((c1 : Int).toNat + 1) c1 A1 F1 L1 (by omega) hA1 hF1 hL1 (rfl) (by omega)
        exact Lp5 ((h 40 - a : Int).toNat + 1) a c0 A0 F0 L0 (by omega) (by omega) hA0 hF0 hL0 (rfl) (by omega)
  exact Lp1 ((h 40 - 0 : Int).toNat + 1) 0 0 Ar Fi La (by omega) (by omega) hAr hFi hLa (rfl) (by omega)

set_option maxHeartbeats 4000000 in
set_option maxRecDepth 100000 in
theorem c_X7_owners (l : Launch) (D : va_G) (cI cO : ClassId) (y0 : Nat) (y1 : Nat) (y2 : Nat) (y3 : Nat) (y4 : Nat) (y5 : Nat) (y6 : Nat) (y7 : Nat) (y8 : Nat) (y9 : Nat) (pm : Int) (fl : Int) (pt : Int) (h : Int → Int) (Ar : Int → Int) (Fi : Int → Int) (La : Int → Int) (q : Int) (hh : ∀ k, 0 ≤ h k ∧ h k ≤ 50) (hN : 0 ≤ h 40 ∧ h 40 ≤ 40) (hAr : ∀ k, 0 ≤ Ar k ∧ Ar k ≤ 2500) (hFi : ∀ k, 0 ≤ Fi k ∧ Fi k ≤ 39) (hLa : ∀ k, 0 ≤ La k ∧ La k ≤ 39) (hq : 0 ≤ q ∧ q < 60) : hs_M l D cI cO yX7_owners wsX7_owners ({ frames := 1, cells := 0, slots := 0, locals := 24 } : Room) [.ref y0, hs_V q] [hs_ob y0 7 [.ref y1, .ref y2, hs_V pm, .ref y3, hs_V fl, .ref y4, .ref y5, .ref y6, .ref y7, hs_V pt, .ref y8, .ref y9], hs_ia cI y1 41 h, hs_ia cI y5 60 Ar, hs_ia cI y6 60 Fi, hs_ia cI y7 60 La] (fun r (_ : Unit) => r = hs_I (mo_own h Fi La q)) (fun _ => [hs_ob y0 7 [.ref y1, .ref y2, hs_V pm, .ref y3, hs_V fl, .ref y4, .ref y5, .ref y6, .ref y7, hs_V pt, .ref y8, .ref y9], hs_ia cI y1 41 h, hs_ia cI y5 60 Ar, hs_ia cI y6 60 Fi, hs_ia cI y7 60 La]) 0 0 := by
  refine hs_enter (cc := cX7_owners) (maxL := 4) (by decide +kernel) rfl (Nat.le_of_ble_eq_true rfl) (fun p e s m args below meth c A H0 Q C hret => ?_)
  have f25 := C.1.2.2.2.2 (.fieldLink RX7 25 "HistogramStairsModel" "firsts" "[I") (by decide +kernel)
  have u7 : ∀ w ∈ wsX70, w ∈ wsX7_owners := by decide +kernel
  have f28 := C.1.2.2.2.2 (.fieldLink RX7 28 "HistogramStairsModel" "lasts" "[I") (by decide +kernel)
  have f7 := C.1.2.2.2.2 (.fieldLink RX7 7 "HistogramStairsModel" "h" "[I") (by decide +kernel)
  have qm := mo_mn_bd (a := Fi q) (b := La q) hh
  have qf := hFi q
  have ql := hLa q
  refine hs_lvs (lv' := [(0, .ref y0), (1, hs_V q)]) [0, 1] rfl ?_
  refine hs_iconst C dX7_owners_0 ?_
  refine hs_istore_n (lv' := [(0, .ref y0), (1, hs_V q), (2, hs_V 0)]) C dX7_owners_1 rfl (by decide) [1, 2, 0] rfl ?_
  refine hs_aload_n C dX7_owners_2 rfl 0 rfl ?_
  refine hs_get C u7 0 rfl rfl 7 (by decide) f25 rfl rfl dX7_owners_3 ?_
  refine hs_iload_n C dX7_owners_6 rfl 1 rfl ?_
  refine hs_iald C 3 rfl (by omega) dX7_owners_7 ?_
  have b1 := hFi q
  refine hs_istore_n (lv' := [(0, .ref y0), (1, hs_V q), (2, hs_V 0), (3, hs_V (Fi q))]) C dX7_owners_8 rfl (by decide) [1, 2, 3, 0] rfl ?_
  have Lp2 : ∀ (k : Nat) (i : Int) (x : Int), (0 ≤ i ∧ i ≤ 40) → (hs_up (fun i x => if h i = mo_mn h (Fi q) (La q) then x + 1 else x + 0) i (La q + 1) x = mo_own h Fi La q) → (41 - i < (k : Int)) → hs_J p l e ({ frames := 1, cells := 0, slots := 0, locals := 24 } : Room) s m args below meth c D A H0 4 0 0 Q 9 [(0, .ref y0), (1, hs_V q), (2, hs_V x), (3, hs_V i)] [] [hs_ob y0 7 [.ref y1, .ref y2, hs_V pm, .ref y3, hs_V fl, .ref y4, .ref y5, .ref y6, .ref y7, hs_V pt, .ref y8, .ref y9], hs_ia cI y1 41 h, hs_ia cI y5 60 Ar, hs_ia cI y6 60 Fi, hs_ia cI y7 60 La] := by
    intro k
    induction k with
    | zero =>
      intro i x hi hL hk
      exact absurd hk (by omega)
    | succ k ih =>
      intro i x hi hL hk
      have ih3 := ih
      refine hs_iload_n C dX7_owners_9 rfl 3 rfl ?_
      refine hs_aload_n C dX7_owners_10 rfl 0 rfl ?_
      refine hs_get C u7 0 rfl rfl 8 (by decide) f28 rfl rfl dX7_owners_11 ?_
      refine hs_iload_n C dX7_owners_14 rfl 1 rfl ?_
      refine hs_iald C 4 rfl (by omega) dX7_owners_15 ?_
      have b4 := hLa q
      refine hs_icmp_gt (tgt := 58) C dX7_owners_16 (by decide) (by omega) (by omega) (fun c5 => ?_) (fun c5 => ?_)
      ·
        refine hs_iload_n C dX7_owners_58 rfl 2 rfl ?_
        exact hret _ _ _ () (by rw [← hL, hs_up_done (by omega)]) dX7_owners_59 rfl
      ·
        refine hs_iload_n C dX7_owners_19 rfl 2 rfl ?_
        refine hs_aload_n C dX7_owners_20 rfl 0 rfl ?_
        refine hs_get C u7 0 rfl rfl 0 (by decide) f7 rfl rfl dX7_owners_21 ?_
        refine hs_iload_n C dX7_owners_24 rfl 3 rfl ?_
        refine hs_iald C 1 rfl (by omega) dX7_owners_25 ?_
        have b6 := hh i
        refine hs_aload_n C dX7_owners_26 rfl 0 rfl ?_
        refine hs_aload_n C dX7_owners_27 rfl 0 rfl ?_
        refine hs_get C u7 0 rfl rfl 7 (by decide) f25 rfl rfl dX7_owners_28 ?_
        refine hs_iload_n C dX7_owners_31 rfl 1 rfl ?_
        refine hs_iald C 3 rfl (by omega) dX7_owners_32 ?_
        have b7 := hFi q
        refine hs_aload_n C dX7_owners_33 rfl 0 rfl ?_
        refine hs_get C u7 0 rfl rfl 8 (by decide) f28 rfl rfl dX7_owners_34 ?_
        refine hs_iload_n C dX7_owners_37 rfl 1 rfl ?_
        refine hs_iald C 4 rfl (by omega) dX7_owners_38 ?_
        have b8 := hLa q
        refine hs_callVi (win := [hs_ob y0 7 [.ref y1, .ref y2, hs_V pm, .ref y3, hs_V fl, .ref y4, .ref y5, .ref y6, .ref y7, hs_V pt, .ref y8, .ref y9], hs_ia cI y1 41 h]) (wr := [hs_ia cI y5 60 Ar, hs_ia cI y6 60 Fi, hs_ia cI y7 60 La]) (As := [hs_V (Fi q), hs_V (La q)]) (rest := [hs_V (h i), hs_V x]) C (c_X7_least l D cI cO y0 y1 y2 y3 y4 y5 y6 y7 y8 y9 pm fl pt h (Fi q) (La q) hh (by omega)) 7 0 rfl rfl rfl (cwV 2 C.1.2.2.2.2 gX7_owners_X7_least rfl rfl rfl (by decide +kernel) ⟨Nat.le_of_ble_eq_true rfl, Nat.le_of_ble_eq_true rfl⟩) rfl rfl (Nat.le_of_ble_eq_true rfl) dX7_owners_39 ⟨Nat.le_of_ble_eq_true rfl, Nat.le_of_ble_eq_true rfl⟩ (fun rr uu9 hp => ?_)
        obtain rfl := hp
        refine hs_re0 (w' := [hs_ob y0 7 [.ref y1, .ref y2, hs_V pm, .ref y3, hs_V fl, .ref y4, .ref y5, .ref y6, .ref y7, hs_V pt, .ref y8, .ref y9], hs_ia cI y1 41 h, hs_ia cI y5 60 Ar, hs_ia cI y6 60 Fi, hs_ia cI y7 60 La]) [0, 1, 2, 3, 4] rfl (by decide) ?_
        refine hs_icmp_ne (tgt := 49) C dX7_owners_42 (by decide) (by omega) (by omega) (fun c10 => ?_) (fun c10 => ?_)
        ·
          refine hs_iconst C dX7_owners_49 ?_
          refine hs_iadd C dX7_owners_50 ?_
          refine hs_istore_n (lv' := [(0, .ref y0), (1, hs_V q), (2, hs_V (x + 0)), (3, hs_V i)]) C dX7_owners_51 rfl (by decide) [1, 2, 0, 3] rfl ?_
          refine hs_iinc (lv' := [(0, .ref y0), (1, hs_V q), (2, hs_V (x + 0)), (3, hs_V (i + 1))]) C dX7_owners_52 3 rfl (by decide) [1, 2, 3, 0] rfl ?_
          refine hs_goto (tgt := 9) C dX7_owners_55 (by decide) ?_
          exact ih3 (i + 1) (x + 0) (by omega) (by have hz := (hs_up_step (by omega)).symm.trans hL; (try dsimp only at hz); first | exact hz | (split at hz <;> first | exact hz | (exfalso; omega) | (split at hz <;> first | exact hz | (exfalso; omega) | (split at hz <;> first | exact hz | (exfalso; omega))))) (by omega)
        ·
          refine hs_iconst C dX7_owners_45 ?_
          refine hs_goto (tgt := 50) C dX7_owners_46 (by decide) ?_
          refine hs_iadd C dX7_owners_50 ?_
          refine hs_istore_n (lv' := [(0, .ref y0), (1, hs_V q), (2, hs_V (x + 1)), (3, hs_V i)]) C dX7_owners_51 rfl (by decide) [1, 2, 0, 3] rfl ?_
          refine hs_iinc (lv' := [(0, .ref y0), (1, hs_V q), (2, hs_V (x + 1)), (3, hs_V (i + 1))]) C dX7_owners_52 3 rfl (by decide) [1, 2, 3, 0] rfl ?_
          refine hs_goto (tgt := 9) C dX7_owners_55 (by decide) ?_
          exact ih3 (i + 1) (x + 1) (by omega) (by have hz := (hs_up_step (by omega)).symm.trans hL; (try dsimp only at hz); first | exact hz | (split at hz <;> first | exact hz | (exfalso; omega) | (split at hz <;> first | exact hz | (exfalso; omega) | (split at hz <;> first | exact hz | (exfalso; omega))))) (by omega)
  exact Lp2 ((41 - (Fi q) : Int).toNat + 1) (Fi q) 0 (by omega) (rfl) (by omega)

set_option maxHeartbeats 4000000 in
set_option maxRecDepth 100000 in
theorem c_X7_largest (l : Launch) (D : va_G) (cI cO : ClassId) (y0 : Nat) (y1 : Nat) (y2 : Nat) (y3 : Nat) (y4 : Nat) (y5 : Nat) (y6 : Nat) (y7 : Nat) (y8 : Nat) (y9 : Nat) (pm : Int) (fl : Int) (pt : Int) (h : Int → Int) (a : Int) (b : Int) (wh : Int) (hh : ∀ k, 0 ≤ h k ∧ h k ≤ 50) (hN : 0 ≤ h 40 ∧ h 40 ≤ 40) (hab : 0 ≤ a ∧ a ≤ b ∧ b ≤ h 40 - 1) (hw : 5 ≤ wh ∧ wh ≤ 8) : hs_M l D cI cO yX7_largest wsX7_largest ({ frames := 2, cells := 0, slots := 0, locals := 46 } : Room) [.ref y0, hs_V a, hs_V b, hs_V wh] [hs_ob y0 7 [.ref y1, .ref y2, hs_V pm, .ref y3, hs_V fl, .ref y4, .ref y5, .ref y6, .ref y7, hs_V pt, .ref y8, .ref y9], hs_ia cI y1 41 h] (fun r (_ : Unit) => r = hs_I (if wh = 5 then (mo_la h a b).1 else if wh = 6 then (mo_la h a b).2.1 else if wh = 7 then (mo_la h a b).2.2 else if (mo_la h a b).2.1 = -9 then -9 else mo_mn h (mo_la h a b).2.1 (mo_la h a b).2.2)) (fun _ => [hs_ob y0 7 [.ref y1, .ref y2, hs_V pm, .ref y3, hs_V fl, .ref y4, .ref y5, .ref y6, .ref y7, hs_V pt, .ref y8, .ref y9], hs_ia cI y1 41 h]) 0 0 := by
  refine hs_enter (cc := cX7_largest) (maxL := 9) (by decide +kernel) rfl (Nat.le_of_ble_eq_true rfl) (fun p e s m args below meth c A H0 Q C hret => ?_)
  refine hs_lvs (lv' := [(0, .ref y0), (1, hs_V a), (2, hs_V b), (3, hs_V wh)]) [0, 1, 2, 3] rfl ?_
  refine hs_iconst C dX7_largest_0 ?_
  refine hs_istore (lv' := [(0, .ref y0), (1, hs_V a), (2, hs_V b), (3, hs_V wh), (4, hs_V 0)]) C dX7_largest_1 (by decide) [1, 2, 3, 4, 0] rfl ?_
  refine hs_bipush C dX7_largest_3 (by decide) ?_
  refine hs_istore (lv' := [(0, .ref y0), (1, hs_V a), (2, hs_V b), (3, hs_V wh), (4, hs_V 0), (5, hs_V (-9))]) C dX7_largest_5 (by decide) [1, 2, 3, 4, 5, 0] rfl ?_
  refine hs_bipush C dX7_largest_7 (by decide) ?_
  refine hs_istore (lv' := [(0, .ref y0), (1, hs_V a), (2, hs_V b), (3, hs_V wh), (4, hs_V 0), (5, hs_V (-9)), (6, hs_V (-9))]) C dX7_largest_9 (by decide) [1, 2, 3, 4, 5, 6, 0] rfl ?_
  refine hs_iload_n C dX7_largest_11 rfl 1 rfl ?_
  refine hs_istore (lv' := [(0, .ref y0), (1, hs_V a), (2, hs_V b), (3, hs_V wh), (4, hs_V 0), (5, hs_V (-9)), (6, hs_V (-9)), (7, hs_V a)]) C dX7_largest_12 (by decide) [1, 2, 3, 4, 5, 6, 7, 0] rfl ?_
  have Lp1 : ∀ (k : Nat) (c1 : Int) (x : Int) (y : Int) (z : Int), (a ≤ c1 ∧ c1 ≤ b + 1) → (0 ≤ x ∧ x ≤ 2500) → ((y = -9 ∧ z = -9) ∨ (0 ≤ y ∧ y ≤ z ∧ z ≤ 39)) → (hs_up (mo_laO h b) c1 (b + 1) (x, y, z) = mo_la h a b) → (b + 1 - c1 < (k : Int)) → hs_J p l e ({ frames := 2, cells := 0, slots := 0, locals := 46 } : Room) s m args below meth c D A H0 9 0 0 Q 14 [(0, .ref y0), (1, hs_V a), (2, hs_V b), (3, hs_V wh), (4, hs_V x), (5, hs_V y), (6, hs_V z), (7, hs_V c1)] [] [hs_ob y0 7 [.ref y1, .ref y2, hs_V pm, .ref y3, hs_V fl, .ref y4, .ref y5, .ref y6, .ref y7, hs_V pt, .ref y8, .ref y9], hs_ia cI y1 41 h] := by
    intro k
    induction k with
    | zero =>
      intro c1 x y z hc hx hyz hL hk
      exact absurd hk (by omega)
    | succ k ih =>
      intro c1 x y z hc hx hyz hL hk
      have ih2 := ih
      refine hs_iload C dX7_largest_14 7 rfl ?_
      refine hs_iload_n C dX7_largest_16 rfl 2 rfl ?_
      refine hs_icmp_gt (tgt := 73) C dX7_largest_17 (by decide) (by omega) (by omega) (fun c3 => ?_) (fun c3 => ?_)
      ·
        have hla : mo_la h a b = (x, y, z) := by rw [← hL, hs_up_done (by omega)]
        refine hs_iload_n C dX7_largest_73 rfl 3 rfl ?_
        rcases (show ((wh < 5 ∨ 7 < wh) ∨ wh = 5 ∨ wh = 6 ∨ wh = 7) by omega) with c4 | c4 | c4 | c4
        · refine hs_tableOut (tgt := 109) C dX7_largest_74 (by omega) c4 (by decide) ?_
          refine hs_iload C dX7_largest_109 5 rfl ?_
          refine hs_bipush C dX7_largest_111 (by decide) ?_
          refine hs_icmp_ne (tgt := 121) C dX7_largest_113 (by decide) (by omega) (by omega) (fun c5 => ?_) (fun c5 => ?_)
          ·
            refine hs_aload_n C dX7_largest_121 rfl 0 rfl ?_
            refine hs_iload C dX7_largest_122 5 rfl ?_
            refine hs_iload C dX7_largest_124 6 rfl ?_
            refine hs_callVi (win := [hs_ob y0 7 [.ref y1, .ref y2, hs_V pm, .ref y3, hs_V fl, .ref y4, .ref y5, .ref y6, .ref y7, hs_V pt, .ref y8, .ref y9], hs_ia cI y1 41 h]) (wr := []) (As := [hs_V y, hs_V z]) (rest := []) C (c_X7_least l D cI cO y0 y1 y2 y3 y4 y5 y6 y7 y8 y9 pm fl pt h y z hh (by omega)) 7 0 rfl rfl rfl (cwV 2 C.1.2.2.2.2 gX7_largest_X7_least rfl rfl rfl (by decide +kernel) ⟨Nat.le_of_ble_eq_true rfl, Nat.le_of_ble_eq_true rfl⟩) rfl rfl (Nat.le_of_ble_eq_true rfl) dX7_largest_126 ⟨Nat.le_of_ble_eq_true rfl, Nat.le_of_ble_eq_true rfl⟩ (fun rr uu6 hp => ?_)
            obtain rfl := hp
            refine hs_re0 (w' := [hs_ob y0 7 [.ref y1, .ref y2, hs_V pm, .ref y3, hs_V fl, .ref y4, .ref y5, .ref y6, .ref y7, hs_V pt, .ref y8, .ref y9], hs_ia cI y1 41 h]) [0, 1] rfl (by decide) ?_
            exact hret _ _ _ () (by rw [hla]; dsimp only; rw [if_neg (by omega), if_neg (by omega), if_neg (by omega)]; first | (exfalso; omega) | rw [if_pos (by omega)] | rw [if_neg (by omega)]) dX7_largest_129 rfl
          ·
            refine hs_bipush C dX7_largest_116 (by decide) ?_
            refine hs_goto (tgt := 129) C dX7_largest_118 (by decide) ?_
            exact hret _ _ _ () (by rw [hla]; dsimp only; rw [if_neg (by omega), if_neg (by omega), if_neg (by omega)]; first | (exfalso; omega) | rw [if_pos (by omega)] | rw [if_neg (by omega)]) dX7_largest_129 rfl
        · refine hs_tableIn (tgt := 100) (off := 26) C dX7_largest_74 (by omega) (by omega) (by omega) (by rw [c4]; rfl) (by decide) ?_
          refine hs_iload C dX7_largest_100 4 rfl ?_
          exact hret _ _ _ () (by rw [hla, c4]; rfl) dX7_largest_102 rfl
        · refine hs_tableIn (tgt := 103) (off := 29) C dX7_largest_74 (by omega) (by omega) (by omega) (by rw [c4]; rfl) (by decide) ?_
          refine hs_iload C dX7_largest_103 5 rfl ?_
          exact hret _ _ _ () (by rw [hla, c4]; rfl) dX7_largest_105 rfl
        · refine hs_tableIn (tgt := 106) (off := 32) C dX7_largest_74 (by omega) (by omega) (by omega) (by rw [c4]; rfl) (by decide) ?_
          refine hs_iload C dX7_largest_106 6 rfl ?_
          exact hret _ _ _ () (by rw [hla, c4]; rfl) dX7_largest_108 rfl
      ·
        refine hs_iload C dX7_largest_20 7 rfl ?_
        refine hs_istore (lv' := [(0, .ref y0), (1, hs_V a), (2, hs_V b), (3, hs_V wh), (4, hs_V x), (5, hs_V y), (6, hs_V z), (7, hs_V c1), (8, hs_V c1)]) C dX7_largest_22 (by decide) [1, 2, 3, 4, 5, 6, 7, 8, 0] rfl ?_
        have Lp7 : ∀ (k : Nat) (d : Int) (x1 : Int) (yy : Int) (zz : Int), (c1 ≤ d ∧ d ≤ b + 1) → (0 ≤ x1 ∧ x1 ≤ 2500) → ((yy = -9 ∧ zz = -9) ∨ (0 ≤ yy ∧ yy ≤ zz ∧ zz ≤ 39)) → (hs_up (mo_laI h c1) d (b + 1) (x1, yy, zz) = hs_up (mo_laI h c1) c1 (b + 1) (x, y, z)) → (b + 1 - d < (k : Int)) → hs_J p l e ({ frames := 2, cells := 0, slots := 0, locals := 46 } : Room) s m args below meth c D A H0 9 0 0 Q 24 [(0, .ref y0), (1, hs_V a), (2, hs_V b), (3, hs_V wh), (4, hs_V x1), (5, hs_V yy), (6, hs_V zz), (7, hs_V c1), (8, hs_V d)] [] [hs_ob y0 7 [.ref y1, .ref y2, hs_V pm, .ref y3, hs_V fl, .ref y4, .ref y5, .ref y6, .ref y7, hs_V pt, .ref y8, .ref y9], hs_ia cI y1 41 h] := by
          intro k
          induction k with
          | zero =>
            intro d x1 yy zz hd hx1 hyz1 hM hk
            exact absurd hk (by omega)
          | succ k ih =>
            intro d x1 yy zz hd hx1 hyz1 hM hk
            have ih8 := ih
            refine hs_iload C dX7_largest_24 8 rfl ?_
            refine hs_iload_n C dX7_largest_26 rfl 2 rfl ?_
            refine hs_icmp_gt (tgt := 67) C dX7_largest_27 (by decide) (by omega) (by omega) (fun c9 => ?_) (fun c9 => ?_)
            ·
              refine hs_iinc (lv' := [(0, .ref y0), (1, hs_V a), (2, hs_V b), (3, hs_V wh), (4, hs_V x1), (5, hs_V yy), (6, hs_V zz), (7, hs_V (c1 + 1)), (8, hs_V d)]) C dX7_largest_67 7 rfl (by decide) [1, 2, 3, 4, 5, 6, 7, 0, 8] rfl ?_
              refine hs_goto (tgt := 14) C dX7_largest_70 (by decide) ?_
              refine hs_lvs (lv' := [(0, .ref y0), (1, hs_V a), (2, hs_V b), (3, hs_V wh), (4, hs_V x1), (5, hs_V yy), (6, hs_V zz), (7, hs_V (c1 + 1))]) [0, 1, 2, 3, 4, 5, 6, 7] rfl ?_
              exact ih2 (c1 + 1) x1 yy zz (by omega) (by omega) (by omega) (by have hz := (hs_up_step (by omega)).symm.trans hL; have he : mo_laO h b c1 (x, y, z) = (x1, yy, zz) := (by unfold mo_laO; rw [← hM, hs_up_done (by omega)]); rw [he] at hz; exact hz) (by omega)
            ·
              have har := mo_area_bd (a := c1) (b := d) hh (by omega) (by omega)
              refine hs_aload_n C dX7_largest_30 rfl 0 rfl ?_
              refine hs_iload C dX7_largest_31 7 rfl ?_
              refine hs_iload C dX7_largest_33 8 rfl ?_
              refine hs_callVi (win := [hs_ob y0 7 [.ref y1, .ref y2, hs_V pm, .ref y3, hs_V fl, .ref y4, .ref y5, .ref y6, .ref y7, hs_V pt, .ref y8, .ref y9], hs_ia cI y1 41 h]) (wr := []) (As := [hs_V c1, hs_V d]) (rest := []) C (c_X7_area l D cI cO y0 y1 y2 y3 y4 y5 y6 y7 y8 y9 pm fl pt h c1 d hh (by omega)) 7 0 rfl rfl rfl (cwV 2 C.1.2.2.2.2 gX7_largest_X7_area rfl rfl rfl (by decide +kernel) ⟨Nat.le_of_ble_eq_true rfl, Nat.le_of_ble_eq_true rfl⟩) rfl rfl (Nat.le_of_ble_eq_true rfl) dX7_largest_35 ⟨Nat.le_of_ble_eq_true rfl, Nat.le_of_ble_eq_true rfl⟩ (fun rr uu10 hp => ?_)
              obtain rfl := hp
              refine hs_re0 (w' := [hs_ob y0 7 [.ref y1, .ref y2, hs_V pm, .ref y3, hs_V fl, .ref y4, .ref y5, .ref y6, .ref y7, hs_V pt, .ref y8, .ref y9], hs_ia cI y1 41 h]) [0, 1] rfl (by decide) ?_
              refine hs_iload C dX7_largest_38 4 rfl ?_
              refine hs_icmp_le (tgt := 61) C dX7_largest_40 (by decide) (by omega) (by omega) (fun c11 => ?_) (fun c11 => ?_)
              ·
                refine hs_iinc (lv' := [(0, .ref y0), (1, hs_V a), (2, hs_V b), (3, hs_V wh), (4, hs_V x1), (5, hs_V yy), (6, hs_V zz), (7, hs_V c1), (8, hs_V (d + 1))]) C dX7_largest_61 8 rfl (by decide) [1, 2, 3, 4, 5, 6, 7, 8, 0] rfl ?_
                refine hs_goto (tgt := 24) C dX7_largest_64 (by decide) ?_
                exact ih8 (d + 1) x1 yy zz (by omega) (by omega) (by omega) (by have hz := (hs_up_step (by omega)).symm.trans hM; first | (rw [show mo_laI h c1 d (x1, yy, zz) = (x1, yy, zz) from if_pos (by assumption)] at hz; exact hz) | (rw [show mo_laI h c1 d (x1, yy, zz) = (mo_mn h c1 d * (d - c1 + 1), c1, d) from if_neg (by assumption)] at hz; exact hz)) (by omega)
              ·
                refine hs_aload_n C dX7_largest_43 rfl 0 rfl ?_
                refine hs_iload C dX7_largest_44 7 rfl ?_
                refine hs_iload C dX7_largest_46 8 rfl ?_
                refine hs_callVi (win := [hs_ob y0 7 [.ref y1, .ref y2, hs_V pm, .ref y3, hs_V fl, .ref y4, .ref y5, .ref y6, .ref y7, hs_V pt, .ref y8, .ref y9], hs_ia cI y1 41 h]) (wr := []) (As := [hs_V c1, hs_V d]) (rest := []) C (c_X7_area l D cI cO y0 y1 y2 y3 y4 y5 y6 y7 y8 y9 pm fl pt h c1 d hh (by omega)) 7 0 rfl rfl rfl (cwV 2 C.1.2.2.2.2 gX7_largest_X7_area rfl rfl rfl (by decide +kernel) ⟨Nat.le_of_ble_eq_true rfl, Nat.le_of_ble_eq_true rfl⟩) rfl rfl (Nat.le_of_ble_eq_true rfl) dX7_largest_48 ⟨Nat.le_of_ble_eq_true rfl, Nat.le_of_ble_eq_true rfl⟩ (fun rr uu12 hp => ?_)
                obtain rfl := hp
                refine hs_re0 (w' := [hs_ob y0 7 [.ref y1, .ref y2, hs_V pm, .ref y3, hs_V fl, .ref y4, .ref y5, .ref y6, .ref y7, hs_V pt, .ref y8, .ref y9], hs_ia cI y1 41 h]) [0, 1] rfl (by decide) ?_
                refine hs_istore (lv' := [(0, .ref y0), (1, hs_V a), (2, hs_V b), (3, hs_V wh), (4, hs_V (mo_mn h c1 d * (d - c1 + 1))), (5, hs_V yy), (6, hs_V zz), (7, hs_V c1), (8, hs_V d)]) C dX7_largest_51 (by decide) [1, 2, 3, 4, 0, 5, 6, 7, 8] rfl ?_
                refine hs_iload C dX7_largest_53 7 rfl ?_
                refine hs_istore (lv' := [(0, .ref y0), (1, hs_V a), (2, hs_V b), (3, hs_V wh), (4, hs_V (mo_mn h c1 d * (d - c1 + 1))), (5, hs_V c1), (6, hs_V zz), (7, hs_V c1), (8, hs_V d)]) C dX7_largest_55 (by decide) [1, 2, 3, 4, 5, 0, 6, 7, 8] rfl ?_
                refine hs_iload C dX7_largest_57 8 rfl ?_
                refine hs_istore (lv' := [(0, .ref y0), (1, hs_V a), (2, hs_V b), (3, hs_V wh), (4, hs_V (mo_mn h c1 d * (d - c1 + 1))), (5, hs_V c1), (6, hs_V d), (7, hs_V c1), (8, hs_V d)]) C dX7_largest_59 (by decide) [1, 2, 3, 4, 5, 6, 0, 7, 8] rfl ?_
                refine hs_iinc (lv' := [(0, .ref y0), (1, hs_V a), (2, hs_V b), (3, hs_V wh), (4, hs_V (mo_mn h c1 d * (d - c1 + 1))), (5, hs_V c1), (6, hs_V d), (7, hs_V c1), (8, hs_V (d + 1))]) C dX7_largest_61 8 rfl (by decide) [1, 2, 3, 4, 5, 6, 7, 8, 0] rfl ?_
                refine hs_goto (tgt := 24) C dX7_largest_64 (by decide) ?_
                exact ih8 (d + 1) (mo_mn h c1 d * (d - c1 + 1)) c1 d (by omega) (by omega) (by omega) (by have hz := (hs_up_step (by omega)).symm.trans hM; first | (rw [show mo_laI h c1 d (x1, yy, zz) = (x1, yy, zz) from if_pos (by assumption)] at hz; exact hz) | (rw [show mo_laI h c1 d (x1, yy, zz) = (mo_mn h c1 d * (d - c1 + 1), c1, d) from if_neg (by assumption)] at hz; exact hz)) (by omega)
        exact Lp7 ((b + 1 - c1 : Int).toNat + 1) c1 x y z (by omega) (by omega) (by omega) (rfl) (by omega)
  exact Lp1 ((b + 1 - a : Int).toNat + 1) a 0 (-9) (-9) (by omega) (by omega) (by omega) (rfl) (by omega)
