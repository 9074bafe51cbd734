set_option maxHeartbeats 4000000 in
set_option maxRecDepth 100000 in
theorem c_X4_grow (l : Launch) (D : va_G) (cI cO : ClassId) (t0 : Nat) (t1 : Nat) (t2 : Nat) (P : Int → Int) (S : Int → Int) (h0 : Nat) (h1 : Nat) (n : Int) (g : Int → Int) (hS : ∀ k, 0 ≤ S k ∧ S k ≤ 39) (hn : 0 ≤ n ∧ n ≤ 40) (hg : ∀ k, 0 ≤ g k ∧ g k ≤ 50) : hs_Mv l D cI cO yX4_grow wsX4_grow ({ frames := 0, cells := 0, slots := 0, locals := 0 } : Room) [.ref t0, .ref h0] [hs_ob t0 4 [.ref t1, .ref t2], hs_ia cI t1 40 P, hs_ia cI t2 40 S, hs_ob h0 0 [.ref h1, hs_V n], hs_ia cI h1 40 g] (fun (_ : Unit) => True) (fun _ => [hs_ob t0 4 [.ref t1, .ref t2], hs_ia cI t1 40 (pu_grow g n P S).2.1, hs_ia cI t2 40 (pu_grow g n P S).2.2, hs_ob h0 0 [.ref h1, hs_V n], hs_ia cI h1 40 g]) 0 0 := by
  refine hs_enterV (cc := cX4_grow) (maxL := 5) (by decide +kernel) rfl (Nat.le_of_ble_eq_true rfl) (fun p e s m args below meth c A H0 Q C hin2 hret => ?_)
  have f18 : (Cond.fieldLinkNest RX4 18 RX0 "size" "I" RX6).before args s = true := va_Nw.use (A := args) rfl (C.2.2.1.1 (RX4, 18, RX0, "size", "I") (by decide +kernel))
  have u0 : ∀ w ∈ wsX00, w ∈ wsX4_grow := by decide +kernel
  have f9 := C.1.2.2.2.2 (.fieldLink RX4 9 "HistogramStairs$Tree" "parents" "[I") (by decide +kernel)
  have u4 : ∀ w ∈ wsX40, w ∈ wsX4_grow := by decide +kernel
  have f15 := C.1.2.2.2.2 (.fieldLink RX4 15 "HistogramStairs$Tree" "spine" "[I") (by decide +kernel)
  have f24 : (Cond.fieldLinkNest RX4 24 RX0 "heights" "[I" RX6).before args s = true := va_Nw.use (A := args) rfl (C.2.2.1.1 (RX4, 24, RX0, "heights", "[I") (by decide +kernel))
  refine hs_lvs (lv' := [(0, .ref t0), (1, .ref h0)]) [0, 1] rfl ?_
  refine hs_iconst C dX4_grow_0 ?_
  refine hs_istore_n (lv' := [(0, .ref t0), (1, .ref h0), (2, hs_V 0)]) C dX4_grow_1 rfl (by decide) [1, 2, 0] rfl ?_
  refine hs_iconst C dX4_grow_2 ?_
  refine hs_istore_n (lv' := [(0, .ref t0), (1, .ref h0), (2, hs_V 0), (3, hs_V 0)]) C dX4_grow_3 rfl (by decide) [1, 2, 3, 0] rfl ?_
  have Lp1 : ∀ (k : Nat) (i : Int) (ln : Int) (P1 : Int → Int) (S1 : Int → Int), (0 ≤ i ∧ i ≤ n) → (0 ≤ ln ∧ ln ≤ i) → (∀ k, 0 ≤ S1 k ∧ S1 k ≤ 39) → (hs_up (pu_gs g) i n (ln, P1, S1) = pu_grow g n P S) → (n - i < (k : Int)) → hs_J p l e ({ frames := 0, cells := 0, slots := 0, locals := 0 } : Room) s m args below meth c D A H0 5 0 0 Q 4 [(0, .ref t0), (1, .ref h0), (2, hs_V ln), (3, hs_V i)] [] [hs_ob t0 4 [.ref t1, .ref t2], hs_ia cI t1 40 P1, hs_ia cI t2 40 S1, hs_ob h0 0 [.ref h1, hs_V n], hs_ia cI h1 40 g] := by
    intro k
    induction k with
    | zero =>
      intro i ln P1 S1 hi hln hS1 hL hk
      exact absurd hk (by omega)
    | succ k ih =>
      intro i ln P1 S1 hi hln hS1 hL hk
      have ih2 := ih
      refine hs_iload_n C dX4_grow_4 rfl 3 rfl ?_
      refine hs_aload_n C dX4_grow_5 rfl 1 rfl ?_
      refine hs_getN C u0 3 rfl rfl 1 (by decide) f18 rfl rfl dX4_grow_6 ?_
      refine hs_icmp_ge (tgt := 110) C dX4_grow_9 (by decide) (by omega) (by omega) (fun c3 => ?_) (fun c3 => ?_)
      ·
        refine hs_cast (ws' := [hs_ob t0 4 [.ref t1, .ref t2], hs_ia cI t1 40 (pu_grow g n P S).2.1, hs_ia cI t2 40 (pu_grow g n P S).2.2, hs_ob h0 0 [.ref h1, hs_V n], hs_ia cI h1 40 g]) ?_ rfl rfl rfl (by rw [← hL, hs_up_done (by omega)])
        exact hret _ _ () trivial dX4_grow_110
      ·
        refine hs_bipush C dX4_grow_12 (by decide) ?_
        refine hs_istore (lv' := [(0, .ref t0), (1, .ref h0), (2, hs_V ln), (3, hs_V i), (4, hs_V (-9))]) C dX4_grow_14 (by decide) [1, 2, 3, 4, 0] rfl ?_
        have Lp4 : ∀ (k : Nat) (q : Int) (bl : Int), (0 ≤ q ∧ q ≤ ln) → (bl = -9 ∨ (0 ≤ bl ∧ bl ≤ 39)) → (hs_wh (pu_gwP g S1 i) (pu_gwF S1) k (q, bl) = pu_gw g S1 i ln) → (q < (k : Int)) → hs_J p l e ({ frames := 0, cells := 0, slots := 0, locals := 0 } : Room) s m args below meth c D A H0 5 0 0 Q 16 [(0, .ref t0), (1, .ref h0), (2, hs_V q), (3, hs_V i), (4, hs_V bl)] [] [hs_ob t0 4 [.ref t1, .ref t2], hs_ia cI t1 40 P1, hs_ia cI t2 40 S1, hs_ob h0 0 [.ref h1, hs_V n], hs_ia cI h1 40 g] := by
          intro k
          induction k with
          | zero =>
            intro q bl hq hbl hM hk
            exact absurd hk (by omega)
          | succ k ih =>
            intro q bl hq hbl hM hk
            have ih5 := ih
            refine hs_iload_n C dX4_grow_16 rfl 2 rfl ?_
            refine hs_if_le (tgt := 56) C dX4_grow_17 (by decide) (by omega) (fun c6 => ?_) (fun c6 => ?_)
            ·
              have hgw : pu_gw g S1 i ln = (q, bl) := by rw [← hM, hs_wh_done (show ¬ pu_gwP g S1 i (q, bl) by unfold pu_gwP; dsimp only; omega)]
              refine hs_iload C dX4_grow_56 4 rfl ?_
              refine hs_bipush C dX4_grow_58 (by decide) ?_
              refine hs_icmp_eq (tgt := 71) C dX4_grow_60 (by decide) (by omega) (by omega) (fun c7 => ?_) (fun c7 => ?_)
              ·
                refine hs_aload_n C dX4_grow_71 rfl 0 rfl ?_
                refine hs_get C u4 0 rfl rfl 0 (by decide) f9 rfl rfl dX4_grow_72 ?_
                refine hs_iload_n C dX4_grow_75 rfl 3 rfl ?_
                refine hs_iload_n C dX4_grow_76 rfl 2 rfl ?_
                refine hs_if_le (tgt := 91) C dX4_grow_77 (by decide) (by omega) (fun c8 => ?_) (fun c8 => ?_)
                ·
                  refine hs_bipush C dX4_grow_91 (by decide) ?_
                  refine hs_iast (ws' := [hs_ob t0 4 [.ref t1, .ref t2], hs_ia cI t1 40 (hs_u P1 i (-9)), hs_ia cI t2 40 S1, hs_ob h0 0 [.ref h1, hs_V n], hs_ia cI h1 40 g]) C 1 rfl (by omega) rfl dX4_grow_93 ?_
                  refine hs_aload_n C dX4_grow_94 rfl 0 rfl ?_
                  refine hs_get C u4 0 rfl rfl 1 (by decide) f15 rfl rfl dX4_grow_95 ?_
                  refine hs_iload_n C dX4_grow_98 rfl 2 rfl ?_
                  refine hs_iload_n C dX4_grow_99 rfl 3 rfl ?_
                  refine hs_iast (ws' := [hs_ob t0 4 [.ref t1, .ref t2], hs_ia cI t1 40 (hs_u P1 i (-9)), hs_ia cI t2 40 (hs_u S1 q i), hs_ob h0 0 [.ref h1, hs_V n], hs_ia cI h1 40 g]) C 2 rfl (by omega) rfl dX4_grow_100 ?_
                  have b9 := hs_u_bd (i := q) hS1 (show 0 ≤ i ∧ i ≤ 39 by omega)
                  refine hs_iinc (lv' := [(0, .ref t0), (1, .ref h0), (2, hs_V (q + 1)), (3, hs_V i), (4, hs_V bl)]) C dX4_grow_101 2 rfl (by decide) [1, 2, 0, 3, 4] rfl ?_
                  refine hs_iinc (lv' := [(0, .ref t0), (1, .ref h0), (2, hs_V (q + 1)), (3, hs_V (i + 1)), (4, hs_V bl)]) C dX4_grow_104 3 rfl (by decide) [1, 2, 3, 0, 4] rfl ?_
                  refine hs_goto (tgt := 4) C dX4_grow_107 (by decide) ?_
                  refine hs_lvs (lv' := [(0, .ref t0), (1, .ref h0), (2, hs_V (q + 1)), (3, hs_V (i + 1))]) [0, 1, 2, 3] rfl ?_
                  exact ih2 (i + 1) (q + 1) (hs_u P1 i (-9)) (hs_u S1 q i) (by omega) (by omega) b9 (by have hz := (hs_up_step (by omega)).symm.trans hL; unfold pu_gs at hz; dsimp only at hz; rw [hgw] at hz; (try dsimp only at hz); first | exact hz | (split at hz <;> first | exact hz | (exfalso; omega) | (split at hz <;> first | exact hz | (exfalso; omega) | (split at hz <;> first | exact hz | (exfalso; omega))))) (by omega)
                ·
                  refine hs_aload_n C dX4_grow_80 rfl 0 rfl ?_
                  refine hs_get C u4 0 rfl rfl 1 (by decide) f15 rfl rfl dX4_grow_81 ?_
                  refine hs_iload_n C dX4_grow_84 rfl 2 rfl ?_
                  refine hs_iconst C dX4_grow_85 ?_
                  refine hs_isub C dX4_grow_86 ?_
                  refine hs_iald C 2 rfl (by omega) dX4_grow_87 ?_
                  have b10 := hS1 (q - 1)
                  refine hs_goto (tgt := 93) C dX4_grow_88 (by decide) ?_
                  refine hs_iast (ws' := [hs_ob t0 4 [.ref t1, .ref t2], hs_ia cI t1 40 (hs_u P1 i (S1 (q - 1))), hs_ia cI t2 40 S1, hs_ob h0 0 [.ref h1, hs_V n], hs_ia cI h1 40 g]) C 1 rfl (by omega) rfl dX4_grow_93 ?_
                  refine hs_aload_n C dX4_grow_94 rfl 0 rfl ?_
                  refine hs_get C u4 0 rfl rfl 1 (by decide) f15 rfl rfl dX4_grow_95 ?_
                  refine hs_iload_n C dX4_grow_98 rfl 2 rfl ?_
                  refine hs_iload_n C dX4_grow_99 rfl 3 rfl ?_
                  refine hs_iast (ws' := [hs_ob t0 4 [.ref t1, .ref t2], hs_ia cI t1 40 (hs_u P1 i (S1 (q - 1))), hs_ia cI t2 40 (hs_u S1 q i), hs_ob h0 0 [.ref h1, hs_V n], hs_ia cI h1 40 g]) C 2 rfl (by omega) rfl dX4_grow_100 ?_
                  have b11 := hs_u_bd (i := q) hS1 (show 0 ≤ i ∧ i ≤ 39 by omega)
                  refine hs_iinc (lv' := [(0, .ref t0), (1, .ref h0), (2, hs_V (q + 1)), (3, hs_V i), (4, hs_V bl)]) C dX4_grow_101 2 rfl (by decide) [1, 2, 0, 3, 4] rfl ?_
                  refine hs_iinc (lv' := [(0, .ref t0), (1, .ref h0), (2, hs_V (q + 1)), (3, hs_V (i + 1)), (4, hs_V bl)]) C dX4_grow_104 3 rfl (by decide) [1, 2, 3, 0, 4] rfl ?_
                  refine hs_goto (tgt := 4) C dX4_grow_107 (by decide) ?_
                  refine hs_lvs (lv' := [(0, .ref t0), (1, .ref h0), (2, hs_V (q + 1)), (3, hs_V (i + 1))]) [0, 1, 2, 3] rfl ?_
                  exact ih2 (i + 1) (q + 1) (hs_u P1 i (S1 (q - 1))) (hs_u S1 q i) (by omega) (by omega) b11 (by have hz := (hs_up_step (by omega)).symm.trans hL; unfold pu_gs at hz; dsimp only at hz; rw [hgw] at hz; (try dsimp only at hz); first | exact hz | (split at hz <;> first | exact hz | (exfalso; omega) | (split at hz <;> first | exact hz | (exfalso; omega) | (split at hz <;> first | exact hz | (exfalso; omega))))) (by omega)
              ·
                refine hs_aload_n C dX4_grow_63 rfl 0 rfl ?_
                refine hs_get C u4 0 rfl rfl 0 (by decide) f9 rfl rfl dX4_grow_64 ?_
                refine hs_iload C dX4_grow_67 4 rfl ?_
                refine hs_iload_n C dX4_grow_69 rfl 3 rfl ?_
                refine hs_iast (ws' := [hs_ob t0 4 [.ref t1, .ref t2], hs_ia cI t1 40 (hs_u P1 bl i), hs_ia cI t2 40 S1, hs_ob h0 0 [.ref h1, hs_V n], hs_ia cI h1 40 g]) C 1 rfl (by omega) rfl dX4_grow_70 ?_
                refine hs_aload_n C dX4_grow_71 rfl 0 rfl ?_
                refine hs_get C u4 0 rfl rfl 0 (by decide) f9 rfl rfl dX4_grow_72 ?_
                refine hs_iload_n C dX4_grow_75 rfl 3 rfl ?_
                refine hs_iload_n C dX4_grow_76 rfl 2 rfl ?_
                refine hs_if_le (tgt := 91) C dX4_grow_77 (by decide) (by omega) (fun c12 => ?_) (fun c12 => ?_)
                ·
                  refine hs_bipush C dX4_grow_91 (by decide) ?_
                  refine hs_iast (ws' := [hs_ob t0 4 [.ref t1, .ref t2], hs_ia cI t1 40 (hs_u (hs_u P1 bl i) i (-9)), hs_ia cI t2 40 S1, hs_ob h0 0 [.ref h1, hs_V n], hs_ia cI h1 40 g]) C 1 rfl (by omega) rfl dX4_grow_93 ?_
                  refine hs_aload_n C dX4_grow_94 rfl 0 rfl ?_
                  refine hs_get C u4 0 rfl rfl 1 (by decide) f15 rfl rfl dX4_grow_95 ?_
                  refine hs_iload_n C dX4_grow_98 rfl 2 rfl ?_
                  refine hs_iload_n C dX4_grow_99 rfl 3 rfl ?_
                  refine hs_iast (ws' := [hs_ob t0 4 [.ref t1, .ref t2], hs_ia cI t1 40 (hs_u (hs_u P1 bl i) i (-9)), hs_ia cI t2 40 (hs_u S1 q i), hs_ob h0 0 [.ref h1, hs_V n], hs_ia cI h1 40 g]) C 2 rfl (by omega) rfl dX4_grow_100 ?_
                  have b13 := hs_u_bd (i := q) hS1 (show 0 ≤ i ∧ i ≤ 39 by omega)
                  refine hs_iinc (lv' := [(0, .ref t0), (1, .ref h0), (2, hs_V (q + 1)), (3, hs_V i), (4, hs_V bl)]) C dX4_grow_101 2 rfl (by decide) [1, 2, 0, 3, 4] rfl ?_
                  refine hs_iinc (lv' := [(0, .ref t0), (1, .ref h0), (2, hs_V (q + 1)), (3, hs_V (i + 1)), (4, hs_V bl)]) C dX4_grow_104 3 rfl (by decide) [1, 2, 3, 0, 4] rfl ?_
                  refine hs_goto (tgt := 4) C dX4_grow_107 (by decide) ?_
                  refine hs_lvs (lv' := [(0, .ref t0), (1, .ref h0), (2, hs_V (q + 1)), (3, hs_V (i + 1))]) [0, 1, 2, 3] rfl ?_
                  exact ih2 (i + 1) (q + 1) (hs_u (hs_u P1 bl i) i (-9)) (hs_u S1 q i) (by omega) (by omega) b13 (by have hz := (hs_up_step (by omega)).symm.trans hL; unfold pu_gs at hz; dsimp only at hz; rw [hgw] at hz; (try dsimp only at hz); first | exact hz | (split at hz <;> first | exact hz | (exfalso; omega) | (split at hz <;> first | exact hz | (exfalso; omega) | (split at hz <;> first | exact hz | (exfalso; omega))))) (by omega)
                ·
                  refine hs_aload_n C dX4_grow_80 rfl 0 rfl ?_
                  refine hs_get C u4 0 rfl rfl 1 (by decide) f15 rfl rfl dX4_grow_81 ?_
                  refine hs_iload_n C dX4_grow_84 rfl 2 rfl ?_
                  refine hs_iconst C dX4_grow_85 ?_
                  refine hs_isub C dX4_grow_86 ?_
                  refine hs_iald C 2 rfl (by omega) dX4_grow_87 ?_
                  have b14 := hS1 (q - 1)
                  refine hs_goto (tgt := 93) C dX4_grow_88 (by decide) ?_
                  refine hs_iast (ws' := [hs_ob t0 4 [.ref t1, .ref t2], hs_ia cI t1 40 (hs_u (hs_u P1 bl i) i (S1 (q - 1))), hs_ia cI t2 40 S1, hs_ob h0 0 [.ref h1, hs_V n], hs_ia cI h1 40 g]) C 1 rfl (by omega) rfl dX4_grow_93 ?_
                  refine hs_aload_n C dX4_grow_94 rfl 0 rfl ?_
                  refine hs_get C u4 0 rfl rfl 1 (by decide) f15 rfl rfl dX4_grow_95 ?_
                  refine hs_iload_n C dX4_grow_98 rfl 2 rfl ?_
                  refine hs_iload_n C dX4_grow_99 rfl 3 rfl ?_
                  refine hs_iast (ws' := [hs_ob t0 4 [.ref t1, .ref t2], hs_ia cI t1 40 (hs_u (hs_u P1 bl i) i (S1 (q - 1))), hs_ia cI t2 40 (hs_u S1 q i), hs_ob h0 0 [.ref h1, hs_V n], hs_ia cI h1 40 g]) C 2 rfl (by omega) rfl dX4_grow_100 ?_
                  have b15 := hs_u_bd (i := q) hS1 (show 0 ≤ i ∧ i ≤ 39 by omega)
                  refine hs_iinc (lv' := [(0, .ref t0), (1, .ref h0), (2, hs_V (q + 1)), (3, hs_V i), (4, hs_V bl)]) C dX4_grow_101 2 rfl (by decide) [1, 2, 0, 3, 4] rfl ?_
                  refine hs_iinc (lv' := [(0, .ref t0), (1, .ref h0), (2, hs_V (q + 1)), (3, hs_V (i + 1)), (4, hs_V bl)]) C dX4_grow_104 3 rfl (by decide) [1, 2, 3, 0, 4] rfl ?_
                  refine hs_goto (tgt := 4) C dX4_grow_107 (by decide) ?_
                  refine hs_lvs (lv' := [(0, .ref t0), (1, .ref h0), (2, hs_V (q + 1)), (3, hs_V (i + 1))]) [0, 1, 2, 3] rfl ?_
                  exact ih2 (i + 1) (q + 1) (hs_u (hs_u P1 bl i) i (S1 (q - 1))) (hs_u S1 q i) (by omega) (by omega) b15 (by have hz := (hs_up_step (by omega)).symm.trans hL; unfold pu_gs at hz; dsimp only at hz; rw [hgw] at hz; (try dsimp only at hz); first | exact hz | (split at hz <;> first | exact hz | (exfalso; omega) | (split at hz <;> first | exact hz | (exfalso; omega) | (split at hz <;> first | exact hz | (exfalso; omega))))) (by omega)
            ·
              refine hs_aload_n C dX4_grow_20 rfl 1 rfl ?_
              refine hs_getN C u0 3 rfl rfl 0 (by decide) f24 rfl rfl dX4_grow_21 ?_
              refine hs_aload_n C dX4_grow_24 rfl 0 rfl ?_
              refine hs_get C u4 0 rfl rfl 1 (by decide) f15 rfl rfl dX4_grow_25 ?_
              refine hs_iload_n C dX4_grow_28 rfl 2 rfl ?_
              refine hs_iconst C dX4_grow_29 ?_
              refine hs_isub C dX4_grow_30 ?_
              refine hs_iald C 2 rfl (by omega) dX4_grow_31 ?_
              have b16 := hS1 (q - 1)
              refine hs_iald C 4 rfl (by omega) dX4_grow_32 ?_
              have b17 := hg (S1 (q - 1))
              refine hs_aload_n C dX4_grow_33 rfl 1 rfl ?_
              refine hs_getN C u0 3 rfl rfl 0 (by decide) f24 rfl rfl dX4_grow_34 ?_
              refine hs_iload_n C dX4_grow_37 rfl 3 rfl ?_
              refine hs_iald C 4 rfl (by omega) dX4_grow_38 ?_
              have b18 := hg i
              refine hs_icmp_le (tgt := 56) C dX4_grow_39 (by decide) (by omega) (by omega) (fun c19 => ?_) (fun c19 => ?_)
              ·
                have hgw : pu_gw g S1 i ln = (q, bl) := by rw [← hM, hs_wh_done (show ¬ pu_gwP g S1 i (q, bl) by unfold pu_gwP; dsimp only; omega)]
                refine hs_iload C dX4_grow_56 4 rfl ?_
                refine hs_bipush C dX4_grow_58 (by decide) ?_
                refine hs_icmp_eq (tgt := 71) C dX4_grow_60 (by decide) (by omega) (by omega) (fun c20 => ?_) (fun c20 => ?_)
                ·
                  refine hs_aload_n C dX4_grow_71 rfl 0 rfl ?_
                  refine hs_get C u4 0 rfl rfl 0 (by decide) f9 rfl rfl dX4_grow_72 ?_
                  refine hs_iload_n C dX4_grow_75 rfl 3 rfl ?_
                  refine hs_iload_n C dX4_grow_76 rfl 2 rfl ?_
                  refine hs_if_le (tgt := 91) C dX4_grow_77 (by decide) (by omega) (fun c21 => ?_) (fun c21 => ?_)
                  ·
                    refine hs_bipush C dX4_grow_91 (by decide) ?_
                    refine hs_iast (ws' := [hs_ob t0 4 [.ref t1, .ref t2], hs_ia cI t1 40 (hs_u P1 i (-9)), hs_ia cI t2 40 S1, hs_ob h0 0 [.ref h1, hs_V n], hs_ia cI h1 40 g]) C 1 rfl (by omega) rfl dX4_grow_93 ?_
                    refine hs_aload_n C dX4_grow_94 rfl 0 rfl ?_
                    refine hs_get C u4 0 rfl rfl 1 (by decide) f15 rfl rfl dX4_grow_95 ?_
                    refine hs_iload_n C dX4_grow_98 rfl 2 rfl ?_
                    refine hs_iload_n C dX4_grow_99 rfl 3 rfl ?_
                    refine hs_iast (ws' := [hs_ob t0 4 [.ref t1, .ref t2], hs_ia cI t1 40 (hs_u P1 i (-9)), hs_ia cI t2 40 (hs_u S1 q i), hs_ob h0 0 [.ref h1, hs_V n], hs_ia cI h1 40 g]) C 2 rfl (by omega) rfl dX4_grow_100 ?_
                    have b22 := hs_u_bd (i := q) hS1 (show 0 ≤ i ∧ i ≤ 39 by omega)
                    refine hs_iinc (lv' := [(0, .ref t0), (1, .ref h0), (2, hs_V (q + 1)), (3, hs_V i), (4, hs_V bl)]) C dX4_grow_101 2 rfl (by decide) [1, 2, 0, 3, 4] rfl ?_
                    refine hs_iinc (lv' := [(0, .ref t0), (1, .ref h0), (2, hs_V (q + 1)), (3, hs_V (i + 1)), (4, hs_V bl)]) C dX4_grow_104 3 rfl (by decide) [1, 2, 3, 0, 4] rfl ?_
                    refine hs_goto (tgt := 4) C dX4_grow_107 (by decide) ?_
                    refine hs_lvs (lv' := [(0, .ref t0), (1, .ref h0), (2, hs_V (q + 1)), (3, hs_V (i + 1))]) [0, 1, 2, 3] rfl ?_
                    exact ih2 (i + 1) (q + 1) (hs_u P1 i (-9)) (hs_u S1 q i) (by omega) (by omega) b22 (by have hz := (hs_up_step (by omega)).symm.trans hL; unfold pu_gs at hz; dsimp only at hz; rw [hgw] at hz; (try dsimp only at hz); first | exact hz | (split at hz <;> first | exact hz | (exfalso; omega) | (split at hz <;> first | exact hz | (exfalso; omega) | (split at hz <;> first | exact hz | (exfalso; omega))))) (by omega)
                  ·
                    refine hs_aload_n C dX4_grow_80 rfl 0 rfl ?_
                    refine hs_get C u4 0 rfl rfl 1 (by decide) f15 rfl rfl dX4_grow_81 ?_
                    refine hs_iload_n C dX4_grow_84 rfl 2 rfl ?_
                    refine hs_iconst C dX4_grow_85 ?_
                    refine hs_isub C dX4_grow_86 ?_
                    refine hs_iald C 2 rfl (by omega) dX4_grow_87 ?_
                    have b23 := hS1 (q - 1)
                    refine hs_goto (tgt := 93) C dX4_grow_88 (by decide) ?_
                    refine hs_iast (ws' := [hs_ob t0 4 [.ref t1, .ref t2], hs_ia cI t1 40 (hs_u P1 i (S1 (q - 1))), hs_ia cI t2 40 S1, hs_ob h0 0 [.ref h1, hs_V n], hs_ia cI h1 40 g]) C 1 rfl (by omega) rfl dX4_grow_93 ?_
                    refine hs_aload_n C dX4_grow_94 rfl 0 rfl ?_
                    refine hs_get C u4 0 rfl rfl 1 (by decide) f15 rfl rfl dX4_grow_95 ?_
                    refine hs_iload_n C dX4_grow_98 rfl 2 rfl ?_
                    refine hs_iload_n C dX4_grow_99 rfl 3 rfl ?_
                    refine hs_iast (ws' := [hs_ob t0 4 [.ref t1, .ref t2], hs_ia cI t1 40 (hs_u P1 i (S1 (q - 1))), hs_ia cI t2 40 (hs_u S1 q i), hs_ob h0 0 [.ref h1, hs_V n], hs_ia cI h1 40 g]) C 2 rfl (by omega) rfl dX4_grow_100 ?_
                    have b24 := hs_u_bd (i := q) hS1 (show 0 ≤ i ∧ i ≤ 39 by omega)
                    refine hs_iinc (lv' := [(0, .ref t0), (1, .ref h0), (2, hs_V (q + 1)), (3, hs_V i), (4, hs_V bl)]) C dX4_grow_101 2 rfl (by decide) [1, 2, 0, 3, 4] rfl ?_
                    refine hs_iinc (lv' := [(0, .ref t0), (1, .ref h0), (2, hs_V (q + 1)), (3, hs_V (i + 1)), (4, hs_V bl)]) C dX4_grow_104 3 rfl (by decide) [1, 2, 3, 0, 4] rfl ?_
                    refine hs_goto (tgt := 4) C dX4_grow_107 (by decide) ?_
                    refine hs_lvs (lv' := [(0, .ref t0), (1, .ref h0), (2, hs_V (q + 1)), (3, hs_V (i + 1))]) [0, 1, 2, 3] rfl ?_
                    exact ih2 (i + 1) (q + 1) (hs_u P1 i (S1 (q - 1))) (hs_u S1 q i) (by omega) (by omega) b24 (by have hz := (hs_up_step (by omega)).symm.trans hL; unfold pu_gs at hz; dsimp only at hz; rw [hgw] at hz; (try dsimp only at hz); first | exact hz | (split at hz <;> first | exact hz | (exfalso; omega) | (split at hz <;> first | exact hz | (exfalso; omega) | (split at hz <;> first | exact hz | (exfalso; omega))))) (by omega)
                ·
                  refine hs_aload_n C dX4_grow_63 rfl 0 rfl ?_
                  refine hs_get C u4 0 rfl rfl 0 (by decide) f9 rfl rfl dX4_grow_64 ?_
                  refine hs_iload C dX4_grow_67 4 rfl ?_
                  refine hs_iload_n C dX4_grow_69 rfl 3 rfl ?_
                  refine hs_iast (ws' := [hs_ob t0 4 [.ref t1, .ref t2], hs_ia cI t1 40 (hs_u P1 bl i), hs_ia cI t2 40 S1, hs_ob h0 0 [.ref h1, hs_V n], hs_ia cI h1 40 g]) C 1 rfl (by omega) rfl dX4_grow_70 ?_
                  refine hs_aload_n C dX4_grow_71 rfl 0 rfl ?_
                  refine hs_get C u4 0 rfl rfl 0 (by decide) f9 rfl rfl dX4_grow_72 ?_
                  refine hs_iload_n C dX4_grow_75 rfl 3 rfl ?_
                  refine hs_iload_n C dX4_grow_76 rfl 2 rfl ?_
                  refine hs_if_le (tgt := 91) C dX4_grow_77 (by decide) (by omega) (fun c25 => ?_) (fun c25 => ?_)
                  ·
                    refine hs_bipush C dX4_grow_91 (by decide) ?_
                    refine hs_iast (ws' := [hs_ob t0 4 [.ref t1, .ref t2], hs_ia cI t1 40 (hs_u (hs_u P1 bl i) i (-9)), hs_ia cI t2 40 S1, hs_ob h0 0 [.ref h1, hs_V n], hs_ia cI h1 40 g]) C 1 rfl (by omega) rfl dX4_grow_93 ?_
                    refine hs_aload_n C dX4_grow_94 rfl 0 rfl ?_
                    refine hs_get C u4 0 rfl rfl 1 (by decide) f15 rfl rfl dX4_grow_95 ?_
                    refine hs_iload_n C dX4_grow_98 rfl 2 rfl ?_
                    refine hs_iload_n C dX4_grow_99 rfl 3 rfl ?_
                    refine hs_iast (ws' := [hs_ob t0 4 [.ref t1, .ref t2], hs_ia cI t1 40 (hs_u (hs_u P1 bl i) i (-9)), hs_ia cI t2 40 (hs_u S1 q i), hs_ob h0 0 [.ref h1, hs_V n], hs_ia cI h1 40 g]) C 2 rfl (by omega) rfl dX4_grow_100 ?_
                    have b26 := hs_u_bd (i := q) hS1 (show 0 ≤ i ∧ i ≤ 39 by omega)
                    refine hs_iinc (lv' := [(0, .ref t0), (1, .ref h0), (2, hs_V (q + 1)), (3, hs_V i), (4, hs_V bl)]) C dX4_grow_101 2 rfl (by decide) [1, 2, 0, 3, 4] rfl ?_
                    refine hs_iinc (lv' := [(0, .ref t0), (1, .ref h0), (2, hs_V (q + 1)), (3, hs_V (i + 1)), (4, hs_V bl)]) C dX4_grow_104 3 rfl (by decide) [1, 2, 3, 0, 4] rfl ?_
                    refine hs_goto (tgt := 4) C dX4_grow_107 (by decide) ?_
                    refine hs_lvs (lv' := [(0, .ref t0), (1, .ref h0), (2, hs_V (q + 1)), (3, hs_V (i + 1))]) [0, 1, 2, 3] rfl ?_
                    exact ih2 (i + 1) (q + 1) (hs_u (hs_u P1 bl i) i (-9)) (hs_u S1 q i) (by omega) (by omega) b26 (by have hz := (hs_up_step (by omega)).symm.trans hL; unfold pu_gs at hz; dsimp only at hz; rw [hgw] at hz; (try dsimp only at hz); first | exact hz | (split at hz <;> first | exact hz | (exfalso; omega) | (split at hz <;> first | exact hz | (exfalso; omega) | (split at hz <;> first | exact hz | (exfalso; omega))))) (by omega)
                  ·
                    refine hs_aload_n C dX4_grow_80 rfl 0 rfl ?_
                    refine hs_get C u4 0 rfl rfl 1 (by decide) f15 rfl rfl dX4_grow_81 ?_
                    refine hs_iload_n C dX4_grow_84 rfl 2 rfl ?_
                    refine hs_iconst C dX4_grow_85 ?_
                    refine hs_isub C dX4_grow_86 ?_
                    refine hs_iald C 2 rfl (by omega) dX4_grow_87 ?_
                    have b27 := hS1 (q - 1)
                    refine hs_goto (tgt := 93) C dX4_grow_88 (by decide) ?_
                    refine hs_iast (ws' := [hs_ob t0 4 [.ref t1, .ref t2], hs_ia cI t1 40 (hs_u (hs_u P1 bl i) i (S1 (q - 1))), hs_ia cI t2 40 S1, hs_ob h0 0 [.ref h1, hs_V n], hs_ia cI h1 40 g]) C 1 rfl (by omega) rfl dX4_grow_93 ?_
                    refine hs_aload_n C dX4_grow_94 rfl 0 rfl ?_
                    refine hs_get C u4 0 rfl rfl 1 (by decide) f15 rfl rfl dX4_grow_95 ?_
                    refine hs_iload_n C dX4_grow_98 rfl 2 rfl ?_
                    refine hs_iload_n C dX4_grow_99 rfl 3 rfl ?_
                    refine hs_iast (ws' := [hs_ob t0 4 [.ref t1, .ref t2], hs_ia cI t1 40 (hs_u (hs_u P1 bl i) i (S1 (q - 1))), hs_ia cI t2 40 (hs_u S1 q i), hs_ob h0 0 [.ref h1, hs_V n], hs_ia cI h1 40 g]) C 2 rfl (by omega) rfl dX4_grow_100 ?_
                    have b28 := hs_u_bd (i := q) hS1 (show 0 ≤ i ∧ i ≤ 39 by omega)
                    refine hs_iinc (lv' := [(0, .ref t0), (1, .ref h0), (2, hs_V (q + 1)), (3, hs_V i), (4, hs_V bl)]) C dX4_grow_101 2 rfl (by decide) [1, 2, 0, 3, 4] rfl ?_
                    refine hs_iinc (lv' := [(0, .ref t0), (1, .ref h0), (2, hs_V (q + 1)), (3, hs_V (i + 1)), (4, hs_V bl)]) C dX4_grow_104 3 rfl (by decide) [1, 2, 3, 0, 4] rfl ?_
                    refine hs_goto (tgt := 4) C dX4_grow_107 (by decide) ?_
                    refine hs_lvs (lv' := [(0, .ref t0), (1, .ref h0), (2, hs_V (q + 1)), (3, hs_V (i + 1))]) [0, 1, 2, 3] rfl ?_
                    exact ih2 (i + 1) (q + 1) (hs_u (hs_u P1 bl i) i (S1 (q - 1))) (hs_u S1 q i) (by omega) (by omega) b28 (by have hz := (hs_up_step (by omega)).symm.trans hL; unfold pu_gs at hz; dsimp only at hz; rw [hgw] at hz; (try dsimp only at hz); first | exact hz | (split at hz <;> first | exact hz | (exfalso; omega) | (split at hz <;> first | exact hz | (exfalso; omega) | (split at hz <;> first | exact hz | (exfalso; omega))))) (by omega)
              ·
                refine hs_iinc (lv' := [(0, .ref t0), (1, .ref h0), (2, hs_V (q + (-1))), (3, hs_V i), (4, hs_V bl)]) C dX4_grow_42 2 rfl (by decide) [1, 2, 0, 3, 4] rfl ?_
                refine hs_aload_n C dX4_grow_45 rfl 0 rfl ?_
                refine hs_get C u4 0 rfl rfl 1 (by decide) f15 rfl rfl dX4_grow_46 ?_
                refine hs_iload_n C dX4_grow_49 rfl 2 rfl ?_
                refine hs_iald C 2 rfl (by omega) dX4_grow_50 ?_
                have b29 := hS1 (q + (-1))
                refine hs_istore (lv' := [(0, .ref t0), (1, .ref h0), (2, hs_V (q + (-1))), (3, hs_V i), (4, hs_V (S1 (q + (-1))))]) C dX4_grow_51 (by decide) [1, 2, 3, 4, 0] rfl ?_
                refine hs_goto (tgt := 16) C dX4_grow_53 (by decide) ?_
                exact ih5 (q + (-1)) (S1 (q + (-1))) (by omega) (by omega) ((hs_wh_step (P := pu_gwP g S1 i) (f := pu_gwF S1) (n := k) (x := (q, bl)) ⟨by (try dsimp only); omega, by (try dsimp only); omega⟩).symm.trans hM) (by omega)
        exact Lp4 ((ln : Int).toNat + 1) ln (-9) (by omega) (by omega) (rfl) (by omega)
  exact Lp1 ((n - 0 : Int).toNat + 1) 0 0 P S (by omega) (by omega) hS (rfl) (by omega)

set_option maxHeartbeats 4000000 in
set_option maxRecDepth 100000 in
theorem c_X4_depthOf (l : Launch) (D : va_G) (cI cO : ClassId) (t0 : Nat) (t1 : Nat) (t2 : Nat) (P : Int → Int) (i : Int) (hP : ∀ k, P k = -9 ∨ (0 ≤ P k ∧ P k ≤ 39)) (hi : 0 ≤ i ∧ i < 40) : hs_M l D cI cO yX4_depthOf wsX4_depthOf ({ frames := 0, cells := 0, slots := 0, locals := 0 } : Room) [.ref t0, hs_V i] [hs_ob t0 4 [.ref t1, .ref t2], hs_ia cI t1 40 P] (fun r (_ : Unit) => r = hs_I (pu_dp P i).1) (fun _ => [hs_ob t0 4 [.ref t1, .ref t2], hs_ia cI t1 40 P]) 0 0 := by
  refine hs_enter (cc := cX4_depthOf) (maxL := 4) (by decide +kernel) rfl (Nat.le_of_ble_eq_true rfl) (fun p e s m args below meth c A H0 Q C hret => ?_)
  have f9 := C.1.2.2.2.2 (.fieldLink RX4 9 "HistogramStairs$Tree" "parents" "[I") (by decide +kernel)
  have u4 : ∀ w ∈ wsX40, w ∈ wsX4_depthOf := by decide +kernel
  refine hs_lvs (lv' := [(0, .ref t0), (1, hs_V i)]) [0, 1] rfl ?_
  refine hs_iconst C dX4_depthOf_0 ?_
  refine hs_istore_n (lv' := [(0, .ref t0), (1, hs_V i), (2, hs_V 0)]) C dX4_depthOf_1 rfl (by decide) [1, 2, 0] rfl ?_
  refine hs_aload_n C dX4_depthOf_2 rfl 0 rfl ?_
  refine hs_get C u4 0 rfl rfl 0 (by decide) f9 rfl rfl dX4_depthOf_3 ?_
  refine hs_iload_n C dX4_depthOf_6 rfl 1 rfl ?_
  refine hs_iald C 1 rfl (by omega) dX4_depthOf_7 ?_
  have b1 := hP i
  refine hs_istore_n (lv' := [(0, .ref t0), (1, hs_V i), (2, hs_V 0), (3, hs_V (P i))]) C dX4_depthOf_8 rfl (by decide) [1, 2, 3, 0] rfl ?_
  have Lp2 : ∀ (k : Nat) (x : Int) (y : Int), (0 ≤ x ∧ x ≤ 40) → (y = -9 ∨ (0 ≤ y ∧ y ≤ 39)) → (hs_wh pu_dpP (pu_dpF P) k (x, y) = pu_dp P i) → (40 - x < (k : Int)) → hs_J p l e ({ frames := 0, cells := 0, slots := 0, locals := 0 } : Room) s m args below meth c D A H0 4 0 0 Q 9 [(0, .ref t0), (1, hs_V i), (2, hs_V x), (3, hs_V y)] [] [hs_ob t0 4 [.ref t1, .ref t2], hs_ia cI t1 40 P] := by
    intro k
    induction k with
    | zero =>
      intro x y hx hy hM hk
      exact absurd hk (by omega)
    | succ k ih =>
      intro x y hx hy hM hk
      have ih3 := ih
      refine hs_iload_n C dX4_depthOf_9 rfl 2 rfl ?_
      refine hs_bipush C dX4_depthOf_10 (by decide) ?_
      refine hs_icmp_ge (tgt := 34) C dX4_depthOf_12 (by decide) (by omega) (by omega) (fun c4 => ?_) (fun c4 => ?_)
      ·
        refine hs_iload_n C dX4_depthOf_34 rfl 2 rfl ?_
        exact hret _ _ _ () (by rw [← hM, hs_wh_done (show ¬ pu_dpP (x, y) by unfold pu_dpP; dsimp only; omega)]) dX4_depthOf_35 rfl
      ·
        refine hs_iload_n C dX4_depthOf_15 rfl 3 rfl ?_
        refine hs_bipush C dX4_depthOf_16 (by decide) ?_
        refine hs_icmp_eq (tgt := 34) C dX4_depthOf_18 (by decide) (by omega) (by omega) (fun c5 => ?_) (fun c5 => ?_)
        ·
          refine hs_iload_n C dX4_depthOf_34 rfl 2 rfl ?_
          exact hret _ _ _ () (by rw [← hM, hs_wh_done (show ¬ pu_dpP (x, y) by unfold pu_dpP; dsimp only; omega)]) dX4_depthOf_35 rfl
        ·
          refine hs_iinc (lv' := [(0, .ref t0), (1, hs_V i), (2, hs_V (x + 1)), (3, hs_V y)]) C dX4_depthOf_21 2 rfl (by decide) [1, 2, 0, 3] rfl ?_
          refine hs_aload_n C dX4_depthOf_24 rfl 0 rfl ?_
          refine hs_get C u4 0 rfl rfl 0 (by decide) f9 rfl rfl dX4_depthOf_25 ?_
          refine hs_iload_n C dX4_depthOf_28 rfl 3 rfl ?_
          refine hs_iald C 1 rfl (by omega) dX4_depthOf_29 ?_
          have b6 := hP y
          refine hs_istore_n (lv' := [(0, .ref t0), (1, hs_V i), (2, hs_V (x + 1)), (3, hs_V (P y))]) C dX4_depthOf_30 rfl (by decide) [1, 2, 3, 0] rfl ?_
          refine hs_goto (tgt := 9) C dX4_depthOf_31 (by decide) ?_
          exact ih3 (x + 1) (P y) (by omega) (by omega) ((hs_wh_step (P := pu_dpP) (f := pu_dpF P) (n := k) (x := (x, y)) ⟨by dsimp only; omega, by dsimp only; omega⟩).symm.trans hM) (by omega)
  exact Lp2 ((40 - 0 : Int).toNat + 1) 0 (P i) (by omega) (by omega) (rfl) (by omega)
