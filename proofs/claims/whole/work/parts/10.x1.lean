/-! the history: 8 states, the oldest first -/
def hs_r8 (s0 s1 s2 s3 s4 s5 s6 s7 : Nat) : Nat → Option Nat := fun k => match k with
  | 0 => some s0
  | 1 => some s1
  | 2 => some s2
  | 3 => some s3
  | 4 => some s4
  | 5 => some s5
  | 6 => some s6
  | 7 => some s7
  | _ => none
theorem hs_r8_u0 {s0 s1 s2 s3 s4 s5 s6 s7 v : Nat} : va_up (hs_r8 s0 s1 s2 s3 s4 s5 s6 s7) 0 (some v) = hs_r8 v s1 s2 s3 s4 s5 s6 s7 := by
  funext k
  match k with
  | 0 => rfl
  | 1 => rfl
  | 2 => rfl
  | 3 => rfl
  | 4 => rfl
  | 5 => rfl
  | 6 => rfl
  | 7 => rfl
  | k + 8 => rfl
theorem hs_r8_u1 {s0 s1 s2 s3 s4 s5 s6 s7 v : Nat} : va_up (hs_r8 s0 s1 s2 s3 s4 s5 s6 s7) 1 (some v) = hs_r8 s0 v s2 s3 s4 s5 s6 s7 := by
  funext k
  match k with
  | 0 => rfl
  | 1 => rfl
  | 2 => rfl
  | 3 => rfl
  | 4 => rfl
  | 5 => rfl
  | 6 => rfl
  | 7 => rfl
  | k + 8 => rfl
theorem hs_r8_u2 {s0 s1 s2 s3 s4 s5 s6 s7 v : Nat} : va_up (hs_r8 s0 s1 s2 s3 s4 s5 s6 s7) 2 (some v) = hs_r8 s0 s1 v s3 s4 s5 s6 s7 := by
  funext k
  match k with
  | 0 => rfl
  | 1 => rfl
  | 2 => rfl
  | 3 => rfl
  | 4 => rfl
  | 5 => rfl
  | 6 => rfl
  | 7 => rfl
  | k + 8 => rfl
theorem hs_r8_u3 {s0 s1 s2 s3 s4 s5 s6 s7 v : Nat} : va_up (hs_r8 s0 s1 s2 s3 s4 s5 s6 s7) 3 (some v) = hs_r8 s0 s1 s2 v s4 s5 s6 s7 := by
  funext k
  match k with
  | 0 => rfl
  | 1 => rfl
  | 2 => rfl
  | 3 => rfl
  | 4 => rfl
  | 5 => rfl
  | 6 => rfl
  | 7 => rfl
  | k + 8 => rfl
theorem hs_r8_u4 {s0 s1 s2 s3 s4 s5 s6 s7 v : Nat} : va_up (hs_r8 s0 s1 s2 s3 s4 s5 s6 s7) 4 (some v) = hs_r8 s0 s1 s2 s3 v s5 s6 s7 := by
  funext k
  match k with
  | 0 => rfl
  | 1 => rfl
  | 2 => rfl
  | 3 => rfl
  | 4 => rfl
  | 5 => rfl
  | 6 => rfl
  | 7 => rfl
  | k + 8 => rfl
theorem hs_r8_u5 {s0 s1 s2 s3 s4 s5 s6 s7 v : Nat} : va_up (hs_r8 s0 s1 s2 s3 s4 s5 s6 s7) 5 (some v) = hs_r8 s0 s1 s2 s3 s4 v s6 s7 := by
  funext k
  match k with
  | 0 => rfl
  | 1 => rfl
  | 2 => rfl
  | 3 => rfl
  | 4 => rfl
  | 5 => rfl
  | 6 => rfl
  | 7 => rfl
  | k + 8 => rfl
theorem hs_r8_u6 {s0 s1 s2 s3 s4 s5 s6 s7 v : Nat} : va_up (hs_r8 s0 s1 s2 s3 s4 s5 s6 s7) 6 (some v) = hs_r8 s0 s1 s2 s3 s4 s5 v s7 := by
  funext k
  match k with
  | 0 => rfl
  | 1 => rfl
  | 2 => rfl
  | 3 => rfl
  | 4 => rfl
  | 5 => rfl
  | 6 => rfl
  | 7 => rfl
  | k + 8 => rfl
theorem hs_r8_u7 {s0 s1 s2 s3 s4 s5 s6 s7 v : Nat} : va_up (hs_r8 s0 s1 s2 s3 s4 s5 s6 s7) 7 (some v) = hs_r8 s0 s1 s2 s3 s4 s5 s6 v := by
  funext k
  match k with
  | 0 => rfl
  | 1 => rfl
  | 2 => rfl
  | 3 => rfl
  | 4 => rfl
  | 5 => rfl
  | 6 => rfl
  | 7 => rfl
  | k + 8 => rfl
abbrev pu_Z : Type := Nat × Nat × Int × (Int → Int)
def hs_hist (cI cO : ClassId) (k0 k1 : Nat) (ct : Int) (Z : Int → pu_Z) : va_W := hs_ob k0 1 [.ref k1, hs_V ct] :: hs_ra cO k1 8 (hs_r8 (Z 0).1 (Z 1).1 (Z 2).1 (Z 3).1 (Z 4).1 (Z 5).1 (Z 6).1 (Z 7).1) :: hs_ob (Z 0).1 0 [.ref (Z 0).2.1, hs_V (Z 0).2.2.1] :: hs_ia cI (Z 0).2.1 40 (Z 0).2.2.2 :: hs_ob (Z 1).1 0 [.ref (Z 1).2.1, hs_V (Z 1).2.2.1] :: hs_ia cI (Z 1).2.1 40 (Z 1).2.2.2 :: hs_ob (Z 2).1 0 [.ref (Z 2).2.1, hs_V (Z 2).2.2.1] :: hs_ia cI (Z 2).2.1 40 (Z 2).2.2.2 :: hs_ob (Z 3).1 0 [.ref (Z 3).2.1, hs_V (Z 3).2.2.1] :: hs_ia cI (Z 3).2.1 40 (Z 3).2.2.2 :: hs_ob (Z 4).1 0 [.ref (Z 4).2.1, hs_V (Z 4).2.2.1] :: hs_ia cI (Z 4).2.1 40 (Z 4).2.2.2 :: hs_ob (Z 5).1 0 [.ref (Z 5).2.1, hs_V (Z 5).2.2.1] :: hs_ia cI (Z 5).2.1 40 (Z 5).2.2.2 :: hs_ob (Z 6).1 0 [.ref (Z 6).2.1, hs_V (Z 6).2.2.1] :: hs_ia cI (Z 6).2.1 40 (Z 6).2.2.2 :: hs_ob (Z 7).1 0 [.ref (Z 7).2.1, hs_V (Z 7).2.2.1] :: hs_ia cI (Z 7).2.1 40 (Z 7).2.2.2 :: []
def pu_remC (ct : Int) : Int := if ct = 8 then 8 else ct + 1
def pu_remZ (ct : Int) (Z : Int → pu_Z) (n : Int) (g : Int → Int) : Int → pu_Z := fun j => if ct = 8 then (if j = 7 then ((Z 0).1, (Z 0).2.1, n, hs_cp g (Z 0).2.2.2 0 0 n) else Z (j + 1)) else (if j = ct then ((Z ct).1, (Z ct).2.1, n, hs_cp g (Z ct).2.2.2 0 0 n) else Z j)
set_option maxHeartbeats 4000000 in
set_option maxRecDepth 100000 in
theorem c_X1_dropOldest (l : Launch) (D : va_G) (cI cO : ClassId) (k0 : Nat) (k1 : Nat) (ct : Int) (s0 : Nat) (s1 : Nat) (s2 : Nat) (s3 : Nat) (s4 : Nat) (s5 : Nat) (s6 : Nat) (s7 : Nat) (e0 : Nat) (e1 : Nat) (e2 : Nat) (e3 : Nat) (e4 : Nat) (e5 : Nat) (e6 : Nat) (e7 : Nat) (n0 : Int) (n1 : Int) (n2 : Int) (n3 : Int) (n4 : Int) (n5 : Int) (n6 : Int) (n7 : Int) : hs_Mv l D cI cO yX1_dropOldest wsX1_dropOldest ({ frames := 0, cells := 0, slots := 0, locals := 0 } : Room) [.ref k0] [hs_ob k0 1 [.ref k1, hs_V ct], hs_ra cO k1 8 (hs_r8 s0 s1 s2 s3 s4 s5 s6 s7), hs_ob s0 0 [.ref e0, hs_V n0], hs_ob s1 0 [.ref e1, hs_V n1], hs_ob s2 0 [.ref e2, hs_V n2], hs_ob s3 0 [.ref e3, hs_V n3], hs_ob s4 0 [.ref e4, hs_V n4], hs_ob s5 0 [.ref e5, hs_V n5], hs_ob s6 0 [.ref e6, hs_V n6], hs_ob s7 0 [.ref e7, hs_V n7]] (fun (_ : Unit) => True) (fun _ => [hs_ob k0 1 [.ref k1, hs_V (ct - 1)], hs_ra cO k1 8 (hs_r8 s1 s2 s3 s4 s5 s6 s7 s0), hs_ob s0 0 [.ref e0, hs_V n0], hs_ob s1 0 [.ref e1, hs_V n1], hs_ob s2 0 [.ref e2, hs_V n2], hs_ob s3 0 [.ref e3, hs_V n3], hs_ob s4 0 [.ref e4, hs_V n4], hs_ob s5 0 [.ref e5, hs_V n5], hs_ob s6 0 [.ref e6, hs_V n6], hs_ob s7 0 [.ref e7, hs_V n7]]) 0 0 := by
  refine hs_enterV (cc := cX1_dropOldest) (maxL := 3) (by decide +kernel) rfl (Nat.le_of_ble_eq_true rfl) (fun p e s m args below meth c A H0 Q C hin2 hret => ?_)
  have f11 := C.1.2.2.2.2 (.fieldLink RX1 11 "HistogramStairs$History" "states" "[LHistogramStairs$Columns;") (by decide +kernel)
  have u1 : ∀ w ∈ wsX10, w ∈ wsX1_dropOldest := by decide +kernel
  have f17 := C.1.2.2.2.2 (.fieldLink RX1 17 "HistogramStairs$History" "count" "I") (by decide +kernel)
  refine hs_lvs (lv' := [(0, .ref k0)]) [0] rfl ?_
  refine hs_aload_n C dX1_dropOldest_0 rfl 0 rfl ?_
  refine hs_get C u1 0 rfl rfl 0 (by decide) f11 rfl rfl dX1_dropOldest_1 ?_
  refine hs_iconst C dX1_dropOldest_4 ?_
  refine hs_aald (v := .ref s0) C 1 rfl (by omega) rfl dX1_dropOldest_5 ?_
  refine hs_astore_n (lv' := [(0, .ref k0), (1, .ref s0)]) C dX1_dropOldest_6 rfl (by decide) [1, 0] rfl ?_
  refine hs_iconst C dX1_dropOldest_7 ?_
  refine hs_istore_n (lv' := [(0, .ref k0), (1, .ref s0), (2, hs_V 1)]) C dX1_dropOldest_8 rfl (by decide) [1, 2, 0] rfl ?_
  refine hs_iload_n C dX1_dropOldest_9 rfl 2 rfl ?_
  refine hs_bipush C dX1_dropOldest_10 (by decide) ?_
  refine hs_icmp_ge (tgt := 35) C dX1_dropOldest_12 (by decide) (by omega) (by omega) (fun c1 => ?_) (fun c1 => ?_)
  ·
    exact absurd c1 (by decide)
  ·
    refine hs_aload_n C dX1_dropOldest_15 rfl 0 rfl ?_
    refine hs_get C u1 0 rfl rfl 0 (by decide) f11 rfl rfl dX1_dropOldest_16 ?_
    refine hs_iload_n C dX1_dropOldest_19 rfl 2 rfl ?_
    refine hs_iconst C dX1_dropOldest_20 ?_
    refine hs_isub C dX1_dropOldest_21 ?_
    refine hs_aload_n C dX1_dropOldest_22 rfl 0 rfl ?_
    refine hs_get C u1 0 rfl rfl 0 (by decide) f11 rfl rfl dX1_dropOldest_23 ?_
    refine hs_iload_n C dX1_dropOldest_26 rfl 2 rfl ?_
    refine hs_aald (v := .ref s1) C 1 rfl (by omega) rfl dX1_dropOldest_27 ?_
    refine hs_aast (f' := hs_r8 s1 s1 s2 s3 s4 s5 s6 s7) (ws' := [hs_ob k0 1 [.ref k1, hs_V ct], hs_ra cO k1 8 (hs_r8 s1 s1 s2 s3 s4 s5 s6 s7), hs_ob s0 0 [.ref e0, hs_V n0], hs_ob s1 0 [.ref e1, hs_V n1], hs_ob s2 0 [.ref e2, hs_V n2], hs_ob s3 0 [.ref e3, hs_V n3], hs_ob s4 0 [.ref e4, hs_V n4], hs_ob s5 0 [.ref e5, hs_V n5], hs_ob s6 0 [.ref e6, hs_V n6], hs_ob s7 0 [.ref e7, hs_V n7]]) C 1 3 rfl rfl (by omega) hs_r8_u0 rfl dX1_dropOldest_28 ?_
    refine hs_iinc (lv' := [(0, .ref k0), (1, .ref s0), (2, hs_V (1 + 1))]) C dX1_dropOldest_29 2 rfl (by decide) [1, 2, 0] rfl ?_
    refine hs_goto (tgt := 9) C dX1_dropOldest_32 (by decide) ?_
    refine hs_iload_n C dX1_dropOldest_9 rfl 2 rfl ?_
    refine hs_bipush C dX1_dropOldest_10 (by decide) ?_
    refine hs_icmp_ge (tgt := 35) C dX1_dropOldest_12 (by decide) (by omega) (by omega) (fun c2 => ?_) (fun c2 => ?_)
    ·
      exact absurd c2 (by decide)
    ·
      refine hs_aload_n C dX1_dropOldest_15 rfl 0 rfl ?_
      refine hs_get C u1 0 rfl rfl 0 (by decide) f11 rfl rfl dX1_dropOldest_16 ?_
      refine hs_iload_n C dX1_dropOldest_19 rfl 2 rfl ?_
      refine hs_iconst C dX1_dropOldest_20 ?_
      refine hs_isub C dX1_dropOldest_21 ?_
      refine hs_aload_n C dX1_dropOldest_22 rfl 0 rfl ?_
      refine hs_get C u1 0 rfl rfl 0 (by decide) f11 rfl rfl dX1_dropOldest_23 ?_
      refine hs_iload_n C dX1_dropOldest_26 rfl 2 rfl ?_
      refine hs_aald (v := .ref s2) C 1 rfl (by omega) rfl dX1_dropOldest_27 ?_
      refine hs_aast (f' := hs_r8 s1 s2 s2 s3 s4 s5 s6 s7) (ws' := [hs_ob k0 1 [.ref k1, hs_V ct], hs_ra cO k1 8 (hs_r8 s1 s2 s2 s3 s4 s5 s6 s7), hs_ob s0 0 [.ref e0, hs_V n0], hs_ob s1 0 [.ref e1, hs_V n1], hs_ob s2 0 [.ref e2, hs_V n2], hs_ob s3 0 [.ref e3, hs_V n3], hs_ob s4 0 [.ref e4, hs_V n4], hs_ob s5 0 [.ref e5, hs_V n5], hs_ob s6 0 [.ref e6, hs_V n6], hs_ob s7 0 [.ref e7, hs_V n7]]) C 1 4 rfl rfl (by omega) hs_r8_u1 rfl dX1_dropOldest_28 ?_
      refine hs_iinc (lv' := [(0, .ref k0), (1, .ref s0), (2, hs_V ((1 + 1) + 1))]) C dX1_dropOldest_29 2 rfl (by decide) [1, 2, 0] rfl ?_
      refine hs_goto (tgt := 9) C dX1_dropOldest_32 (by decide) ?_
      refine hs_iload_n C dX1_dropOldest_9 rfl 2 rfl ?_
      refine hs_bipush C dX1_dropOldest_10 (by decide) ?_
      refine hs_icmp_ge (tgt := 35) C dX1_dropOldest_12 (by decide) (by omega) (by omega) (fun c3 => ?_) (fun c3 => ?_)
      ·
        exact absurd c3 (by decide)
      ·
        refine hs_aload_n C dX1_dropOldest_15 rfl 0 rfl ?_
        refine hs_get C u1 0 rfl rfl 0 (by decide) f11 rfl rfl dX1_dropOldest_16 ?_
        refine hs_iload_n C dX1_dropOldest_19 rfl 2 rfl ?_
        refine hs_iconst C dX1_dropOldest_20 ?_
        refine hs_isub C dX1_dropOldest_21 ?_
        refine hs_aload_n C dX1_dropOldest_22 rfl 0 rfl ?_
        refine hs_get C u1 0 rfl rfl 0 (by decide) f11 rfl rfl dX1_dropOldest_23 ?_
        refine hs_iload_n C dX1_dropOldest_26 rfl 2 rfl ?_
        refine hs_aald (v := .ref s3) C 1 rfl (by omega) rfl dX1_dropOldest_27 ?_
        refine hs_aast (f' := hs_r8 s1 s2 s3 s3 s4 s5 s6 s7) (ws' := [hs_ob k0 1 [.ref k1, hs_V ct], hs_ra cO k1 8 (hs_r8 s1 s2 s3 s3 s4 s5 s6 s7), hs_ob s0 0 [.ref e0, hs_V n0], hs_ob s1 0 [.ref e1, hs_V n1], hs_ob s2 0 [.ref e2, hs_V n2], hs_ob s3 0 [.ref e3, hs_V n3], hs_ob s4 0 [.ref e4, hs_V n4], hs_ob s5 0 [.ref e5, hs_V n5], hs_ob s6 0 [.ref e6, hs_V n6], hs_ob s7 0 [.ref e7, hs_V n7]]) C 1 5 rfl rfl (by omega) hs_r8_u2 rfl dX1_dropOldest_28 ?_
        refine hs_iinc (lv' := [(0, .ref k0), (1, .ref s0), (2, hs_V (((1 + 1) + 1) + 1))]) C dX1_dropOldest_29 2 rfl (by decide) [1, 2, 0] rfl ?_
        refine hs_goto (tgt := 9) C dX1_dropOldest_32 (by decide) ?_
        refine hs_iload_n C dX1_dropOldest_9 rfl 2 rfl ?_
        refine hs_bipush C dX1_dropOldest_10 (by decide) ?_
        refine hs_icmp_ge (tgt := 35) C dX1_dropOldest_12 (by decide) (by omega) (by omega) (fun c4 => ?_) (fun c4 => ?_)
        ·
          exact absurd c4 (by decide)
        ·
          refine hs_aload_n C dX1_dropOldest_15 rfl 0 rfl ?_
          refine hs_get C u1 0 rfl rfl 0 (by decide) f11 rfl rfl dX1_dropOldest_16 ?_
          refine hs_iload_n C dX1_dropOldest_19 rfl 2 rfl ?_
          refine hs_iconst C dX1_dropOldest_20 ?_
          refine hs_isub C dX1_dropOldest_21 ?_
          refine hs_aload_n C dX1_dropOldest_22 rfl 0 rfl ?_
          refine hs_get C u1 0 rfl rfl 0 (by decide) f11 rfl rfl dX1_dropOldest_23 ?_
          refine hs_iload_n C dX1_dropOldest_26 rfl 2 rfl ?_
          refine hs_aald (v := .ref s4) C 1 rfl (by omega) rfl dX1_dropOldest_27 ?_
          refine hs_aast (f' := hs_r8 s1 s2 s3 s4 s4 s5 s6 s7) (ws' := [hs_ob k0 1 [.ref k1, hs_V ct], hs_ra cO k1 8 (hs_r8 s1 s2 s3 s4 s4 s5 s6 s7), hs_ob s0 0 [.ref e0, hs_V n0], hs_ob s1 0 [.ref e1, hs_V n1], hs_ob s2 0 [.ref e2, hs_V n2], hs_ob s3 0 [.ref e3, hs_V n3], hs_ob s4 0 [.ref e4, hs_V n4], hs_ob s5 0 [.ref e5, hs_V n5], hs_ob s6 0 [.ref e6, hs_V n6], hs_ob s7 0 [.ref e7, hs_V n7]]) C 1 6 rfl rfl (by omega) hs_r8_u3 rfl dX1_dropOldest_28 ?_
          refine hs_iinc (lv' := [(0, .ref k0), (1, .ref s0), (2, hs_V ((((1 + 1) + 1) + 1) + 1))]) C dX1_dropOldest_29 2 rfl (by decide) [1, 2, 0] rfl ?_
          refine hs_goto (tgt := 9) C dX1_dropOldest_32 (by decide) ?_
          refine hs_iload_n C dX1_dropOldest_9 rfl 2 rfl ?_
          refine hs_bipush C dX1_dropOldest_10 (by decide) ?_
          refine hs_icmp_ge (tgt := 35) C dX1_dropOldest_12 (by decide) (by omega) (by omega) (fun c5 => ?_) (fun c5 => ?_)
          ·
            exact absurd c5 (by decide)
          ·
            refine hs_aload_n C dX1_dropOldest_15 rfl 0 rfl ?_
            refine hs_get C u1 0 rfl rfl 0 (by decide) f11 rfl rfl dX1_dropOldest_16 ?_
            refine hs_iload_n C dX1_dropOldest_19 rfl 2 rfl ?_
            refine hs_iconst C dX1_dropOldest_20 ?_
            refine hs_isub C dX1_dropOldest_21 ?_
            refine hs_aload_n C dX1_dropOldest_22 rfl 0 rfl ?_
            refine hs_get C u1 0 rfl rfl 0 (by decide) f11 rfl rfl dX1_dropOldest_23 ?_
            refine hs_iload_n C dX1_dropOldest_26 rfl 2 rfl ?_
            refine hs_aald (v := .ref s5) C 1 rfl (by omega) rfl dX1_dropOldest_27 ?_
            refine hs_aast (f' := hs_r8 s1 s2 s3 s4 s5 s5 s6 s7) (ws' := [hs_ob k0 1 [.ref k1, hs_V ct], hs_ra cO k1 8 (hs_r8 s1 s2 s3 s4 s5 s5 s6 s7), hs_ob s0 0 [.ref e0, hs_V n0], hs_ob s1 0 [.ref e1, hs_V n1], hs_ob s2 0 [.ref e2, hs_V n2], hs_ob s3 0 [.ref e3, hs_V n3], hs_ob s4 0 [.ref e4, hs_V n4], hs_ob s5 0 [.ref e5, hs_V n5], hs_ob s6 0 [.ref e6, hs_V n6], hs_ob s7 0 [.ref e7, hs_V n7]]) C 1 7 rfl rfl (by omega) hs_r8_u4 rfl dX1_dropOldest_28 ?_
            refine hs_iinc (lv' := [(0, .ref k0), (1, .ref s0), (2, hs_V (((((1 + 1) + 1) + 1) + 1) + 1))]) C dX1_dropOldest_29 2 rfl (by decide) [1, 2, 0] rfl ?_
            refine hs_goto (tgt := 9) C dX1_dropOldest_32 (by decide) ?_
            refine hs_iload_n C dX1_dropOldest_9 rfl 2 rfl ?_
            refine hs_bipush C dX1_dropOldest_10 (by decide) ?_
            refine hs_icmp_ge (tgt := 35) C dX1_dropOldest_12 (by decide) (by omega) (by omega) (fun c6 => ?_) (fun c6 => ?_)
            ·
              exact absurd c6 (by decide)
            ·
              refine hs_aload_n C dX1_dropOldest_15 rfl 0 rfl ?_
              refine hs_get C u1 0 rfl rfl 0 (by decide) f11 rfl rfl dX1_dropOldest_16 ?_
              refine hs_iload_n C dX1_dropOldest_19 rfl 2 rfl ?_
              refine hs_iconst C dX1_dropOldest_20 ?_
              refine hs_isub C dX1_dropOldest_21 ?_
              refine hs_aload_n C dX1_dropOldest_22 rfl 0 rfl ?_
              refine hs_get C u1 0 rfl rfl 0 (by decide) f11 rfl rfl dX1_dropOldest_23 ?_
              refine hs_iload_n C dX1_dropOldest_26 rfl 2 rfl ?_
              refine hs_aald (v := .ref s6) C 1 rfl (by omega) rfl dX1_dropOldest_27 ?_
              refine hs_aast (f' := hs_r8 s1 s2 s3 s4 s5 s6 s6 s7) (ws' := [hs_ob k0 1 [.ref k1, hs_V ct], hs_ra cO k1 8 (hs_r8 s1 s2 s3 s4 s5 s6 s6 s7), hs_ob s0 0 [.ref e0, hs_V n0], hs_ob s1 0 [.ref e1, hs_V n1], hs_ob s2 0 [.ref e2, hs_V n2], hs_ob s3 0 [.ref e3, hs_V n3], hs_ob s4 0 [.ref e4, hs_V n4], hs_ob s5 0 [.ref e5, hs_V n5], hs_ob s6 0 [.ref e6, hs_V n6], hs_ob s7 0 [.ref e7, hs_V n7]]) C 1 8 rfl rfl (by omega) hs_r8_u5 rfl dX1_dropOldest_28 ?_
              refine hs_iinc (lv' := [(0, .ref k0), (1, .ref s0), (2, hs_V ((((((1 + 1) + 1) + 1) + 1) + 1) + 1))]) C dX1_dropOldest_29 2 rfl (by decide) [1, 2, 0] rfl ?_
              refine hs_goto (tgt := 9) C dX1_dropOldest_32 (by decide) ?_
              refine hs_iload_n C dX1_dropOldest_9 rfl 2 rfl ?_
              refine hs_bipush C dX1_dropOldest_10 (by decide) ?_
              refine hs_icmp_ge (tgt := 35) C dX1_dropOldest_12 (by decide) (by omega) (by omega) (fun c7 => ?_) (fun c7 => ?_)
              ·
                exact absurd c7 (by decide)
              ·
                refine hs_aload_n C dX1_dropOldest_15 rfl 0 rfl ?_
                refine hs_get C u1 0 rfl rfl 0 (by decide) f11 rfl rfl dX1_dropOldest_16 ?_
                refine hs_iload_n C dX1_dropOldest_19 rfl 2 rfl ?_
                refine hs_iconst C dX1_dropOldest_20 ?_
                refine hs_isub C dX1_dropOldest_21 ?_
                refine hs_aload_n C dX1_dropOldest_22 rfl 0 rfl ?_
                refine hs_get C u1 0 rfl rfl 0 (by decide) f11 rfl rfl dX1_dropOldest_23 ?_
                refine hs_iload_n C dX1_dropOldest_26 rfl 2 rfl ?_
                refine hs_aald (v := .ref s7) C 1 rfl (by omega) rfl dX1_dropOldest_27 ?_
                refine hs_aast (f' := hs_r8 s1 s2 s3 s4 s5 s6 s7 s7) (ws' := [hs_ob k0 1 [.ref k1, hs_V ct], hs_ra cO k1 8 (hs_r8 s1 s2 s3 s4 s5 s6 s7 s7), hs_ob s0 0 [.ref e0, hs_V n0], hs_ob s1 0 [.ref e1, hs_V n1], hs_ob s2 0 [.ref e2, hs_V n2], hs_ob s3 0 [.ref e3, hs_V n3], hs_ob s4 0 [.ref e4, hs_V n4], hs_ob s5 0 [.ref e5, hs_V n5], hs_ob s6 0 [.ref e6, hs_V n6], hs_ob s7 0 [.ref e7, hs_V n7]]) C 1 9 rfl rfl (by omega) hs_r8_u6 rfl dX1_dropOldest_28 ?_
                refine hs_iinc (lv' := [(0, .ref k0), (1, .ref s0), (2, hs_V (((((((1 + 1) + 1) + 1) + 1) + 1) + 1) + 1))]) C dX1_dropOldest_29 2 rfl (by decide) [1, 2, 0] rfl ?_
                refine hs_goto (tgt := 9) C dX1_dropOldest_32 (by decide) ?_
                refine hs_iload_n C dX1_dropOldest_9 rfl 2 rfl ?_
                refine hs_bipush C dX1_dropOldest_10 (by decide) ?_
                refine hs_icmp_ge (tgt := 35) C dX1_dropOldest_12 (by decide) (by omega) (by omega) (fun c8 => ?_) (fun c8 => ?_)
                ·
                  refine hs_aload_n C dX1_dropOldest_35 rfl 0 rfl ?_
                  refine hs_get C u1 0 rfl rfl 0 (by decide) f11 rfl rfl dX1_dropOldest_36 ?_
                  refine hs_bipush C dX1_dropOldest_39 (by decide) ?_
                  refine hs_aload_n C dX1_dropOldest_41 rfl 1 rfl ?_
                  refine hs_aast (f' := hs_r8 s1 s2 s3 s4 s5 s6 s7 s0) (ws' := [hs_ob k0 1 [.ref k1, hs_V ct], hs_ra cO k1 8 (hs_r8 s1 s2 s3 s4 s5 s6 s7 s0), hs_ob s0 0 [.ref e0, hs_V n0], hs_ob s1 0 [.ref e1, hs_V n1], hs_ob s2 0 [.ref e2, hs_V n2], hs_ob s3 0 [.ref e3, hs_V n3], hs_ob s4 0 [.ref e4, hs_V n4], hs_ob s5 0 [.ref e5, hs_V n5], hs_ob s6 0 [.ref e6, hs_V n6], hs_ob s7 0 [.ref e7, hs_V n7]]) C 1 2 rfl rfl (by omega) hs_r8_u7 rfl dX1_dropOldest_42 ?_
                  refine hs_aload_n C dX1_dropOldest_43 rfl 0 rfl ?_
                  refine hs_dup C dX1_dropOldest_44 rfl ?_
                  refine hs_get C u1 0 rfl rfl 1 (by decide) f17 rfl rfl dX1_dropOldest_45 ?_
                  refine hs_iconst C dX1_dropOldest_48 ?_
                  refine hs_isub C dX1_dropOldest_49 ?_
                  refine hs_put (ty := .int) (ws' := [hs_ob k0 1 [.ref k1, hs_V (ct - 1)], hs_ra cO k1 8 (hs_r8 s1 s2 s3 s4 s5 s6 s7 s0), hs_ob s0 0 [.ref e0, hs_V n0], hs_ob s1 0 [.ref e1, hs_V n1], hs_ob s2 0 [.ref e2, hs_V n2], hs_ob s3 0 [.ref e3, hs_V n3], hs_ob s4 0 [.ref e4, hs_V n4], hs_ob s5 0 [.ref e5, hs_V n5], hs_ob s6 0 [.ref e6, hs_V n6], hs_ob s7 0 [.ref e7, hs_V n7]]) C u1 tyX1 tyX1_ok nmX1 0 rfl rfl 1 (by decide) f17 rfl rfl (by decide +kernel) rfl rfl (Nat.le_of_ble_eq_true rfl) rfl dX1_dropOldest_50 ?_
                  exact hret _ _ () trivial dX1_dropOldest_53
                ·
                  exact absurd c8 (by decide)

set_option maxHeartbeats 4000000 in
set_option maxRecDepth 100000 in
theorem c_X1_remember_0 (l : Launch) (D : va_G) (cI cO : ClassId) (k0 : Nat) (k1 : Nat) (s0 : Nat) (s1 : Nat) (s2 : Nat) (s3 : Nat) (s4 : Nat) (s5 : Nat) (s6 : Nat) (s7 : Nat) (e0 : Nat) (e1 : Nat) (e2 : Nat) (e3 : Nat) (e4 : Nat) (e5 : Nat) (e6 : Nat) (e7 : Nat) (n0 : Int) (n1 : Int) (n2 : Int) (n3 : Int) (n4 : Int) (n5 : Int) (n6 : Int) (n7 : Int) (g0 : Int → Int) (g1 : Int → Int) (g2 : Int → Int) (g3 : Int → Int) (g4 : Int → Int) (g5 : Int → Int) (g6 : Int → Int) (g7 : Int → Int) (h0 : Nat) (h1 : Nat) (n : Int) (g : Int → Int) (hn : 0 ≤ n ∧ n ≤ 40) : hs_Mv l D cI cO yX1_remember wsX1_remember ({ frames := 2, cells := 0, slots := 0, locals := 48 } : Room) [.ref k0, .ref h0] [hs_ob h0 0 [.ref h1, hs_V n], hs_ia cI h1 40 g, hs_ob k0 1 [.ref k1, hs_V 0], hs_ra cO k1 8 (hs_r8 s0 s1 s2 s3 s4 s5 s6 s7), hs_ob s0 0 [.ref e0, hs_V n0], hs_ia cI e0 40 g0, hs_ob s1 0 [.ref e1, hs_V n1], hs_ia cI e1 40 g1, hs_ob s2 0 [.ref e2, hs_V n2], hs_ia cI e2 40 g2, hs_ob s3 0 [.ref e3, hs_V n3], hs_ia cI e3 40 g3, hs_ob s4 0 [.ref e4, hs_V n4], hs_ia cI e4 40 g4, hs_ob s5 0 [.ref e5, hs_V n5], hs_ia cI e5 40 g5, hs_ob s6 0 [.ref e6, hs_V n6], hs_ia cI e6 40 g6, hs_ob s7 0 [.ref e7, hs_V n7], hs_ia cI e7 40 g7] (fun (_ : Unit) => True) (fun _ => [hs_ob h0 0 [.ref h1, hs_V n], hs_ia cI h1 40 g, hs_ob k0 1 [.ref k1, hs_V 1], hs_ra cO k1 8 (hs_r8 s0 s1 s2 s3 s4 s5 s6 s7), hs_ob s0 0 [.ref e0, hs_V n], hs_ia cI e0 40 (hs_cp g g0 0 0 n), hs_ob s1 0 [.ref e1, hs_V n1], hs_ia cI e1 40 g1, hs_ob s2 0 [.ref e2, hs_V n2], hs_ia cI e2 40 g2, hs_ob s3 0 [.ref e3, hs_V n3], hs_ia cI e3 40 g3, hs_ob s4 0 [.ref e4, hs_V n4], hs_ia cI e4 40 g4, hs_ob s5 0 [.ref e5, hs_V n5], hs_ia cI e5 40 g5, hs_ob s6 0 [.ref e6, hs_V n6], hs_ia cI e6 40 g6, hs_ob s7 0 [.ref e7, hs_V n7], hs_ia cI e7 40 g7]) 0 0 := by
  refine hs_enterV (cc := cX1_remember) (maxL := 2) (by decide +kernel) rfl (Nat.le_of_ble_eq_true rfl) (fun p e s m args below meth c A H0 Q C hin2 hret => ?_)
  have f17 := C.1.2.2.2.2 (.fieldLink RX1 17 "HistogramStairs$History" "count" "I") (by decide +kernel)
  have u1 : ∀ w ∈ wsX10, w ∈ wsX1_remember := by decide +kernel
  have f11 := C.1.2.2.2.2 (.fieldLink RX1 11 "HistogramStairs$History" "states" "[LHistogramStairs$Columns;") (by decide +kernel)
  refine hs_lvs (lv' := [(0, .ref k0), (1, .ref h0)]) [0, 1] rfl ?_
  refine hs_aload_n C dX1_remember_0 rfl 0 rfl ?_
  refine hs_get C u1 2 rfl rfl 1 (by decide) f17 rfl rfl dX1_remember_1 ?_
  refine hs_bipush C dX1_remember_4 (by decide) ?_
  refine hs_icmp_ne (tgt := 13) C dX1_remember_6 (by decide) (by omega) (by omega) (fun c1 => ?_) (fun c1 => ?_)
  ·
    refine hs_aload_n C dX1_remember_13 rfl 0 rfl ?_
    refine hs_get C u1 2 rfl rfl 0 (by decide) f11 rfl rfl dX1_remember_14 ?_
    refine hs_aload_n C dX1_remember_17 rfl 0 rfl ?_
    refine hs_get C u1 2 rfl rfl 1 (by decide) f17 rfl rfl dX1_remember_18 ?_
    refine hs_aald (v := .ref s0) C 3 rfl (by omega) rfl dX1_remember_21 ?_
    refine hs_aload_n C dX1_remember_22 rfl 1 rfl ?_
    refine hs_re0 (w' := [hs_ob s0 0 [.ref e0, hs_V n0], hs_ia cI e0 40 g0, hs_ob h0 0 [.ref h1, hs_V n], hs_ia cI h1 40 g, hs_ob k0 1 [.ref k1, hs_V 0], hs_ra cO k1 8 (hs_r8 s0 s1 s2 s3 s4 s5 s6 s7), hs_ob s1 0 [.ref e1, hs_V n1], hs_ia cI e1 40 g1, hs_ob s2 0 [.ref e2, hs_V n2], hs_ia cI e2 40 g2, hs_ob s3 0 [.ref e3, hs_V n3], hs_ia cI e3 40 g3, hs_ob s4 0 [.ref e4, hs_V n4], hs_ia cI e4 40 g4, hs_ob s5 0 [.ref e5, hs_V n5], hs_ia cI e5 40 g5, hs_ob s6 0 [.ref e6, hs_V n6], hs_ia cI e6 40 g6, hs_ob s7 0 [.ref e7, hs_V n7], hs_ia cI e7 40 g7]) [4, 5, 0, 1, 2, 3, 6, 7, 8, 9, 10, 11, 12, 13, 14, 15, 16, 17, 18, 19] rfl (by decide) ?_
    refine hs_callVv (win := [hs_ob s0 0 [.ref e0, hs_V n0], hs_ia cI e0 40 g0, hs_ob h0 0 [.ref h1, hs_V n], hs_ia cI h1 40 g]) (wr := [hs_ob k0 1 [.ref k1, hs_V 0], hs_ra cO k1 8 (hs_r8 s0 s1 s2 s3 s4 s5 s6 s7), hs_ob s1 0 [.ref e1, hs_V n1], hs_ia cI e1 40 g1, hs_ob s2 0 [.ref e2, hs_V n2], hs_ia cI e2 40 g2, hs_ob s3 0 [.ref e3, hs_V n3], hs_ia cI e3 40 g3, hs_ob s4 0 [.ref e4, hs_V n4], hs_ia cI e4 40 g4, hs_ob s5 0 [.ref e5, hs_V n5], hs_ia cI e5 40 g5, hs_ob s6 0 [.ref e6, hs_V n6], hs_ia cI e6 40 g6, hs_ob s7 0 [.ref e7, hs_V n7], hs_ia cI e7 40 g7]) (As := [.ref h0]) (rest := []) C (c_X0_copyFrom l D cI cO s0 e0 n0 g0 h0 h1 n g (by omega)) 0 0 rfl rfl rfl (cwV 1 C.1.2.2.2.2 gX1_remember_X0_copyFrom rfl rfl rfl (by decide +kernel) ⟨Nat.le_of_ble_eq_true rfl, Nat.le_of_ble_eq_true rfl⟩) rfl rfl (Nat.le_of_ble_eq_true rfl) dX1_remember_23 ⟨Nat.le_of_ble_eq_true rfl, Nat.le_of_ble_eq_true rfl⟩ (fun uu2 hp => ?_)
    refine hs_re0 (w' := [hs_ob h0 0 [.ref h1, hs_V n], hs_ia cI h1 40 g, hs_ob k0 1 [.ref k1, hs_V 0], hs_ra cO k1 8 (hs_r8 s0 s1 s2 s3 s4 s5 s6 s7), hs_ob s0 0 [.ref e0, hs_V n], hs_ia cI e0 40 (hs_cp g g0 0 0 n), hs_ob s1 0 [.ref e1, hs_V n1], hs_ia cI e1 40 g1, hs_ob s2 0 [.ref e2, hs_V n2], hs_ia cI e2 40 g2, hs_ob s3 0 [.ref e3, hs_V n3], hs_ia cI e3 40 g3, hs_ob s4 0 [.ref e4, hs_V n4], hs_ia cI e4 40 g4, hs_ob s5 0 [.ref e5, hs_V n5], hs_ia cI e5 40 g5, hs_ob s6 0 [.ref e6, hs_V n6], hs_ia cI e6 40 g6, hs_ob s7 0 [.ref e7, hs_V n7], hs_ia cI e7 40 g7]) [2, 3, 4, 5, 0, 1, 6, 7, 8, 9, 10, 11, 12, 13, 14, 15, 16, 17, 18, 19] rfl (by decide) ?_
    refine hs_aload_n C dX1_remember_26 rfl 0 rfl ?_
    refine hs_dup C dX1_remember_27 rfl ?_
    refine hs_get C u1 2 rfl rfl 1 (by decide) f17 rfl rfl dX1_remember_28 ?_
    refine hs_iconst C dX1_remember_31 ?_
    refine hs_iadd C dX1_remember_32 ?_
    refine hs_put (ty := .int) (ws' := [hs_ob h0 0 [.ref h1, hs_V n], hs_ia cI h1 40 g, hs_ob k0 1 [.ref k1, hs_V (0 + 1)], hs_ra cO k1 8 (hs_r8 s0 s1 s2 s3 s4 s5 s6 s7), hs_ob s0 0 [.ref e0, hs_V n], hs_ia cI e0 40 (hs_cp g g0 0 0 n), hs_ob s1 0 [.ref e1, hs_V n1], hs_ia cI e1 40 g1, hs_ob s2 0 [.ref e2, hs_V n2], hs_ia cI e2 40 g2, hs_ob s3 0 [.ref e3, hs_V n3], hs_ia cI e3 40 g3, hs_ob s4 0 [.ref e4, hs_V n4], hs_ia cI e4 40 g4, hs_ob s5 0 [.ref e5, hs_V n5], hs_ia cI e5 40 g5, hs_ob s6 0 [.ref e6, hs_V n6], hs_ia cI e6 40 g6, hs_ob s7 0 [.ref e7, hs_V n7], hs_ia cI e7 40 g7]) C u1 tyX1 tyX1_ok nmX1 2 rfl rfl 1 (by decide) f17 rfl rfl (by decide +kernel) rfl rfl (Nat.le_of_ble_eq_true rfl) rfl dX1_remember_33 ?_
    exact hret _ _ () trivial dX1_remember_36
  ·
    exact absurd c1 (by decide)

set_option maxHeartbeats 4000000 in
set_option maxRecDepth 100000 in
theorem c_X1_remember_1 (l : Launch) (D : va_G) (cI cO : ClassId) (k0 : Nat) (k1 : Nat) (s0 : Nat) (s1 : Nat) (s2 : Nat) (s3 : Nat) (s4 : Nat) (s5 : Nat) (s6 : Nat) (s7 : Nat) (e0 : Nat) (e1 : Nat) (e2 : Nat) (e3 : Nat) (e4 : Nat) (e5 : Nat) (e6 : Nat) (e7 : Nat) (n0 : Int) (n1 : Int) (n2 : Int) (n3 : Int) (n4 : Int) (n5 : Int) (n6 : Int) (n7 : Int) (g0 : Int → Int) (g1 : Int → Int) (g2 : Int → Int) (g3 : Int → Int) (g4 : Int → Int) (g5 : Int → Int) (g6 : Int → Int) (g7 : Int → Int) (h0 : Nat) (h1 : Nat) (n : Int) (g : Int → Int) (hn : 0 ≤ n ∧ n ≤ 40) : hs_Mv l D cI cO yX1_remember wsX1_remember ({ frames := 2, cells := 0, slots := 0, locals := 48 } : Room) [.ref k0, .ref h0] [hs_ob h0 0 [.ref h1, hs_V n], hs_ia cI h1 40 g, hs_ob k0 1 [.ref k1, hs_V 1], hs_ra cO k1 8 (hs_r8 s0 s1 s2 s3 s4 s5 s6 s7), hs_ob s0 0 [.ref e0, hs_V n0], hs_ia cI e0 40 g0, hs_ob s1 0 [.ref e1, hs_V n1], hs_ia cI e1 40 g1, hs_ob s2 0 [.ref e2, hs_V n2], hs_ia cI e2 40 g2, hs_ob s3 0 [.ref e3, hs_V n3], hs_ia cI e3 40 g3, hs_ob s4 0 [.ref e4, hs_V n4], hs_ia cI e4 40 g4, hs_ob s5 0 [.ref e5, hs_V n5], hs_ia cI e5 40 g5, hs_ob s6 0 [.ref e6, hs_V n6], hs_ia cI e6 40 g6, hs_ob s7 0 [.ref e7, hs_V n7], hs_ia cI e7 40 g7] (fun (_ : Unit) => True) (fun _ => [hs_ob h0 0 [.ref h1, hs_V n], hs_ia cI h1 40 g, hs_ob k0 1 [.ref k1, hs_V 2], hs_ra cO k1 8 (hs_r8 s0 s1 s2 s3 s4 s5 s6 s7), hs_ob s0 0 [.ref e0, hs_V n0], hs_ia cI e0 40 g0, hs_ob s1 0 [.ref e1, hs_V n], hs_ia cI e1 40 (hs_cp g g1 0 0 n), hs_ob s2 0 [.ref e2, hs_V n2], hs_ia cI e2 40 g2, hs_ob s3 0 [.ref e3, hs_V n3], hs_ia cI e3 40 g3, hs_ob s4 0 [.ref e4, hs_V n4], hs_ia cI e4 40 g4, hs_ob s5 0 [.ref e5, hs_V n5], hs_ia cI e5 40 g5, hs_ob s6 0 [.ref e6, hs_V n6], hs_ia cI e6 40 g6, hs_ob s7 0 [.ref e7, hs_V n7], hs_ia cI e7 40 g7]) 0 0 := by
  refine hs_enterV (cc := cX1_remember) (maxL := 2) (by decide +kernel) rfl (Nat.le_of_ble_eq_true rfl) (fun p e s m args below meth c A H0 Q C hin2 hret => ?_)
  have f17 := C.1.2.2.2.2 (.fieldLink RX1 17 "HistogramStairs$History" "count" "I") (by decide +kernel)
  have u1 : ∀ w ∈ wsX10, w ∈ wsX1_remember := by decide +kernel
  have f11 := C.1.2.2.2.2 (.fieldLink RX1 11 "HistogramStairs$History" "states" "[LHistogramStairs$Columns;") (by decide +kernel)
  refine hs_lvs (lv' := [(0, .ref k0), (1, .ref h0)]) [0, 1] rfl ?_
  refine hs_aload_n C dX1_remember_0 rfl 0 rfl ?_
  refine hs_get C u1 2 rfl rfl 1 (by decide) f17 rfl rfl dX1_remember_1 ?_
  refine hs_bipush C dX1_remember_4 (by decide) ?_
  refine hs_icmp_ne (tgt := 13) C dX1_remember_6 (by decide) (by omega) (by omega) (fun c1 => ?_) (fun c1 => ?_)
  ·
    refine hs_aload_n C dX1_remember_13 rfl 0 rfl ?_
    refine hs_get C u1 2 rfl rfl 0 (by decide) f11 rfl rfl dX1_remember_14 ?_
    refine hs_aload_n C dX1_remember_17 rfl 0 rfl ?_
    refine hs_get C u1 2 rfl rfl 1 (by decide) f17 rfl rfl dX1_remember_18 ?_
    refine hs_aald (v := .ref s1) C 3 rfl (by omega) rfl dX1_remember_21 ?_
    refine hs_aload_n C dX1_remember_22 rfl 1 rfl ?_
    refine hs_re0 (w' := [hs_ob s1 0 [.ref e1, hs_V n1], hs_ia cI e1 40 g1, hs_ob h0 0 [.ref h1, hs_V n], hs_ia cI h1 40 g, hs_ob k0 1 [.ref k1, hs_V 1], hs_ra cO k1 8 (hs_r8 s0 s1 s2 s3 s4 s5 s6 s7), hs_ob s0 0 [.ref e0, hs_V n0], hs_ia cI e0 40 g0, hs_ob s2 0 [.ref e2, hs_V n2], hs_ia cI e2 40 g2, hs_ob s3 0 [.ref e3, hs_V n3], hs_ia cI e3 40 g3, hs_ob s4 0 [.ref e4, hs_V n4], hs_ia cI e4 40 g4, hs_ob s5 0 [.ref e5, hs_V n5], hs_ia cI e5 40 g5, hs_ob s6 0 [.ref e6, hs_V n6], hs_ia cI e6 40 g6, hs_ob s7 0 [.ref e7, hs_V n7], hs_ia cI e7 40 g7]) [6, 7, 0, 1, 2, 3, 4, 5, 8, 9, 10, 11, 12, 13, 14, 15, 16, 17, 18, 19] rfl (by decide) ?_
    refine hs_callVv (win := [hs_ob s1 0 [.ref e1, hs_V n1], hs_ia cI e1 40 g1, hs_ob h0 0 [.ref h1, hs_V n], hs_ia cI h1 40 g]) (wr := [hs_ob k0 1 [.ref k1, hs_V 1], hs_ra cO k1 8 (hs_r8 s0 s1 s2 s3 s4 s5 s6 s7), hs_ob s0 0 [.ref e0, hs_V n0], hs_ia cI e0 40 g0, hs_ob s2 0 [.ref e2, hs_V n2], hs_ia cI e2 40 g2, hs_ob s3 0 [.ref e3, hs_V n3], hs_ia cI e3 40 g3, hs_ob s4 0 [.ref e4, hs_V n4], hs_ia cI e4 40 g4, hs_ob s5 0 [.ref e5, hs_V n5], hs_ia cI e5 40 g5, hs_ob s6 0 [.ref e6, hs_V n6], hs_ia cI e6 40 g6, hs_ob s7 0 [.ref e7, hs_V n7], hs_ia cI e7 40 g7]) (As := [.ref h0]) (rest := []) C (c_X0_copyFrom l D cI cO s1 e1 n1 g1 h0 h1 n g (by omega)) 0 0 rfl rfl rfl (cwV 1 C.1.2.2.2.2 gX1_remember_X0_copyFrom rfl rfl rfl (by decide +kernel) ⟨Nat.le_of_ble_eq_true rfl, Nat.le_of_ble_eq_true rfl⟩) rfl rfl (Nat.le_of_ble_eq_true rfl) dX1_remember_23 ⟨Nat.le_of_ble_eq_true rfl, Nat.le_of_ble_eq_true rfl⟩ (fun uu2 hp => ?_)
    refine hs_re0 (w' := [hs_ob h0 0 [.ref h1, hs_V n], hs_ia cI h1 40 g, hs_ob k0 1 [.ref k1, hs_V 1], hs_ra cO k1 8 (hs_r8 s0 s1 s2 s3 s4 s5 s6 s7), hs_ob s0 0 [.ref e0, hs_V n0], hs_ia cI e0 40 g0, hs_ob s1 0 [.ref e1, hs_V n], hs_ia cI e1 40 (hs_cp g g1 0 0 n), hs_ob s2 0 [.ref e2, hs_V n2], hs_ia cI e2 40 g2, hs_ob s3 0 [.ref e3, hs_V n3], hs_ia cI e3 40 g3, hs_ob s4 0 [.ref e4, hs_V n4], hs_ia cI e4 40 g4, hs_ob s5 0 [.ref e5, hs_V n5], hs_ia cI e5 40 g5, hs_ob s6 0 [.ref e6, hs_V n6], hs_ia cI e6 40 g6, hs_ob s7 0 [.ref e7, hs_V n7], hs_ia cI e7 40 g7]) [2, 3, 4, 5, 6, 7, 0, 1, 8, 9, 10, 11, 12, 13, 14, 15, 16, 17, 18, 19] rfl (by decide) ?_
    refine hs_aload_n C dX1_remember_26 rfl 0 rfl ?_
    refine hs_dup C dX1_remember_27 rfl ?_
    refine hs_get C u1 2 rfl rfl 1 (by decide) f17 rfl rfl dX1_remember_28 ?_
    refine hs_iconst C dX1_remember_31 ?_
    refine hs_iadd C dX1_remember_32 ?_
    refine hs_put (ty := .int) (ws' := [hs_ob h0 0 [.ref h1, hs_V n], hs_ia cI h1 40 g, hs_ob k0 1 [.ref k1, hs_V (1 + 1)], hs_ra cO k1 8 (hs_r8 s0 s1 s2 s3 s4 s5 s6 s7), hs_ob s0 0 [.ref e0, hs_V n0], hs_ia cI e0 40 g0, hs_ob s1 0 [.ref e1, hs_V n], hs_ia cI e1 40 (hs_cp g g1 0 0 n), hs_ob s2 0 [.ref e2, hs_V n2], hs_ia cI e2 40 g2, hs_ob s3 0 [.ref e3, hs_V n3], hs_ia cI e3 40 g3, hs_ob s4 0 [.ref e4, hs_V n4], hs_ia cI e4 40 g4, hs_ob s5 0 [.ref e5, hs_V n5], hs_ia cI e5 40 g5, hs_ob s6 0 [.ref e6, hs_V n6], hs_ia cI e6 40 g6, hs_ob s7 0 [.ref e7, hs_V n7], hs_ia cI e7 40 g7]) C u1 tyX1 tyX1_ok nmX1 2 rfl rfl 1 (by decide) f17 rfl rfl (by decide +kernel) rfl rfl (Nat.le_of_ble_eq_true rfl) rfl dX1_remember_33 ?_
    exact hret _ _ () trivial dX1_remember_36
  ·
    exact absurd c1 (by decide)

set_option maxHeartbeats 4000000 in
set_option maxRecDepth 100000 in
theorem c_X1_remember_2 (l : Launch) (D : va_G) (cI cO : ClassId) (k0 : Nat) (k1 : Nat) (s0 : Nat) (s1 : Nat) (s2 : Nat) (s3 : Nat) (s4 : Nat) (s5 : Nat) (s6 : Nat) (s7 : Nat) (e0 : Nat) (e1 : Nat) (e2 : Nat) (e3 : Nat) (e4 : Nat) (e5 : Nat) (e6 : Nat) (e7 : Nat) (n0 : Int) (n1 : Int) (n2 : Int) (n3 : Int) (n4 : Int) (n5 : Int) (n6 : Int) (n7 : Int) (g0 : Int → Int) (g1 : Int → Int) (g2 : Int → Int) (g3 : Int → Int) (g4 : Int → Int) (g5 : Int → Int) (g6 : Int → Int) (g7 : Int → Int) (h0 : Nat) (h1 : Nat) (n : Int) (g : Int → Int) (hn : 0 ≤ n ∧ n ≤ 40) : hs_Mv l D cI cO yX1_remember wsX1_remember ({ frames := 2, cells := 0, slots := 0, locals := 48 } : Room) [.ref k0, .ref h0] [hs_ob h0 0 [.ref h1, hs_V n], hs_ia cI h1 40 g, hs_ob k0 1 [.ref k1, hs_V 2], hs_ra cO k1 8 (hs_r8 s0 s1 s2 s3 s4 s5 s6 s7), hs_ob s0 0 [.ref e0, hs_V n0], hs_ia cI e0 40 g0, hs_ob s1 0 [.ref e1, hs_V n1], hs_ia cI e1 40 g1, hs_ob s2 0 [.ref e2, hs_V n2], hs_ia cI e2 40 g2, hs_ob s3 0 [.ref e3, hs_V n3], hs_ia cI e3 40 g3, hs_ob s4 0 [.ref e4, hs_V n4], hs_ia cI e4 40 g4, hs_ob s5 0 [.ref e5, hs_V n5], hs_ia cI e5 40 g5, hs_ob s6 0 [.ref e6, hs_V n6], hs_ia cI e6 40 g6, hs_ob s7 0 [.ref e7, hs_V n7], hs_ia cI e7 40 g7] (fun (_ : Unit) => True) (fun _ => [hs_ob h0 0 [.ref h1, hs_V n], hs_ia cI h1 40 g, hs_ob k0 1 [.ref k1, hs_V 3], hs_ra cO k1 8 (hs_r8 s0 s1 s2 s3 s4 s5 s6 s7), hs_ob s0 0 [.ref e0, hs_V n0], hs_ia cI e0 40 g0, hs_ob s1 0 [.ref e1, hs_V n1], hs_ia cI e1 40 g1, hs_ob s2 0 [.ref e2, hs_V n], hs_ia cI e2 40 (hs_cp g g2 0 0 n), hs_ob s3 0 [.ref e3, hs_V n3], hs_ia cI e3 40 g3, hs_ob s4 0 [.ref e4, hs_V n4], hs_ia cI e4 40 g4, hs_ob s5 0 [.ref e5, hs_V n5], hs_ia cI e5 40 g5, hs_ob s6 0 [.ref e6, hs_V n6], hs_ia cI e6 40 g6, hs_ob s7 0 [.ref e7, hs_V n7], hs_ia cI e7 40 g7]) 0 0 := by
  refine hs_enterV (cc := cX1_remember) (maxL := 2) (by decide +kernel) rfl (Nat.le_of_ble_eq_true rfl) (fun p e s m args below meth c A H0 Q C hin2 hret => ?_)
  have f17 := C.1.2.2.2.2 (.fieldLink RX1 17 "HistogramStairs$History" "count" "I") (by decide +kernel)
  have u1 : ∀ w ∈ wsX10, w ∈ wsX1_remember := by decide +kernel
  have f11 := C.1.2.2.2.2 (.fieldLink RX1 11 "HistogramStairs$History" "states" "[LHistogramStairs$Columns;") (by decide +kernel)
  refine hs_lvs (lv' := [(0, .ref k0), (1, .ref h0)]) [0, 1] rfl ?_
  refine hs_aload_n C dX1_remember_0 rfl 0 rfl ?_
  refine hs_get C u1 2 rfl rfl 1 (by decide) f17 rfl rfl dX1_remember_1 ?_
  refine hs_bipush C dX1_remember_4 (by decide) ?_
  refine hs_icmp_ne (tgt := 13) C dX1_remember_6 (by decide) (by omega) (by omega) (fun c1 => ?_) (fun c1 => ?_)
  ·
    refine hs_aload_n C dX1_remember_13 rfl 0 rfl ?_
    refine hs_get C u1 2 rfl rfl 0 (by decide) f11 rfl rfl dX1_remember_14 ?_
    refine hs_aload_n C dX1_remember_17 rfl 0 rfl ?_
    refine hs_get C u1 2 rfl rfl 1 (by decide) f17 rfl rfl dX1_remember_18 ?_
    refine hs_aald (v := .ref s2) C 3 rfl (by omega) rfl dX1_remember_21 ?_
    refine hs_aload_n C dX1_remember_22 rfl 1 rfl ?_
    refine hs_re0 (w' := [hs_ob s2 0 [.ref e2, hs_V n2], hs_ia cI e2 40 g2, hs_ob h0 0 [.ref h1, hs_V n], hs_ia cI h1 40 g, hs_ob k0 1 [.ref k1, hs_V 2], hs_ra cO k1 8 (hs_r8 s0 s1 s2 s3 s4 s5 s6 s7), hs_ob s0 0 [.ref e0, hs_V n0], hs_ia cI e0 40 g0, hs_ob s1 0 [.ref e1, hs_V n1], hs_ia cI e1 40 g1, hs_ob s3 0 [.ref e3, hs_V n3], hs_ia cI e3 40 g3, hs_ob s4 0 [.ref e4, hs_V n4], hs_ia cI e4 40 g4, hs_ob s5 0 [.ref e5, hs_V n5], hs_ia cI e5 40 g5, hs_ob s6 0 [.ref e6, hs_V n6], hs_ia cI e6 40 g6, hs_ob s7 0 [.ref e7, hs_V n7], hs_ia cI e7 40 g7]) [8, 9, 0, 1, 2, 3, 4, 5, 6, 7, 10, 11, 12, 13, 14, 15, 16, 17, 18, 19] rfl (by decide) ?_
    refine hs_callVv (win := [hs_ob s2 0 [.ref e2, hs_V n2], hs_ia cI e2 40 g2, hs_ob h0 0 [.ref h1, hs_V n], hs_ia cI h1 40 g]) (wr := [hs_ob k0 1 [.ref k1, hs_V 2], hs_ra cO k1 8 (hs_r8 s0 s1 s2 s3 s4 s5 s6 s7), hs_ob s0 0 [.ref e0, hs_V n0], hs_ia cI e0 40 g0, hs_ob s1 0 [.ref e1, hs_V n1], hs_ia cI e1 40 g1, hs_ob s3 0 [.ref e3, hs_V n3], hs_ia cI e3 40 g3, hs_ob s4 0 [.ref e4, hs_V n4], hs_ia cI e4 40 g4, hs_ob s5 0 [.ref e5, hs_V n5], hs_ia cI e5 40 g5, hs_ob s6 0 [.ref e6, hs_V n6], hs_ia cI e6 40 g6, hs_ob s7 0 [.ref e7, hs_V n7], hs_ia cI e7 40 g7]) (As := [.ref h0]) (rest := []) C (c_X0_copyFrom l D cI cO s2 e2 n2 g2 h0 h1 n g (by omega)) 0 0 rfl rfl rfl (cwV 1 C.1.2.2.2.2 gX1_remember_X0_copyFrom rfl rfl rfl (by decide +kernel) ⟨Nat.le_of_ble_eq_true rfl, Nat.le_of_ble_eq_true rfl⟩) rfl rfl (Nat.le_of_ble_eq_true rfl) dX1_remember_23 ⟨Nat.le_of_ble_eq_true rfl, Nat.le_of_ble_eq_true rfl⟩ (fun uu2 hp => ?_)
    refine hs_re0 (w' := [hs_ob h0 0 [.ref h1, hs_V n], hs_ia cI h1 40 g, hs_ob k0 1 [.ref k1, hs_V 2], hs_ra cO k1 8 (hs_r8 s0 s1 s2 s3 s4 s5 s6 s7), hs_ob s0 0 [.ref e0, hs_V n0], hs_ia cI e0 40 g0, hs_ob s1 0 [.ref e1, hs_V n1], hs_ia cI e1 40 g1, hs_ob s2 0 [.ref e2, hs_V n], hs_ia cI e2 40 (hs_cp g g2 0 0 n), hs_ob s3 0 [.ref e3, hs_V n3], hs_ia cI e3 40 g3, hs_ob s4 0 [.ref e4, hs_V n4], hs_ia cI e4 40 g4, hs_ob s5 0 [.ref e5, hs_V n5], hs_ia cI e5 40 g5, hs_ob s6 0 [.ref e6, hs_V n6], hs_ia cI e6 40 g6, hs_ob s7 0 [.ref e7, hs_V n7], hs_ia cI e7 40 g7]) [2, 3, 4, 5, 6, 7, 8, 9, 0, 1, 10, 11, 12, 13, 14, 15, 16, 17, 18, 19] rfl (by decide) ?_
    refine hs_aload_n C dX1_remember_26 rfl 0 rfl ?_
    refine hs_dup C dX1_remember_27 rfl ?_
    refine hs_get C u1 2 rfl rfl 1 (by decide) f17 rfl rfl dX1_remember_28 ?_
    refine hs_iconst C dX1_remember_31 ?_
    refine hs_iadd C dX1_remember_32 ?_
    refine hs_put (ty := .int) (ws' := [hs_ob h0 0 [.ref h1, hs_V n], hs_ia cI h1 40 g, hs_ob k0 1 [.ref k1, hs_V (2 + 1)], hs_ra cO k1 8 (hs_r8 s0 s1 s2 s3 s4 s5 s6 s7), hs_ob s0 0 [.ref e0, hs_V n0], hs_ia cI e0 40 g0, hs_ob s1 0 [.ref e1, hs_V n1], hs_ia cI e1 40 g1, hs_ob s2 0 [.ref e2, hs_V n], hs_ia cI e2 40 (hs_cp g g2 0 0 n), hs_ob s3 0 [.ref e3, hs_V n3], hs_ia cI e3 40 g3, hs_ob s4 0 [.ref e4, hs_V n4], hs_ia cI e4 40 g4, hs_ob s5 0 [.ref e5, hs_V n5], hs_ia cI e5 40 g5, hs_ob s6 0 [.ref e6, hs_V n6], hs_ia cI e6 40 g6, hs_ob s7 0 [.ref e7, hs_V n7], hs_ia cI e7 40 g7]) C u1 tyX1 tyX1_ok nmX1 2 rfl rfl 1 (by decide) f17 rfl rfl (by decide +kernel) rfl rfl (Nat.le_of_ble_eq_true rfl) rfl dX1_remember_33 ?_
    exact hret _ _ () trivial dX1_remember_36
  ·
    exact absurd c1 (by decide)

set_option maxHeartbeats 4000000 in
set_option maxRecDepth 100000 in
theorem c_X1_remember_3 (l : Launch) (D : va_G) (cI cO : ClassId) (k0 : Nat) (k1 : Nat) (s0 : Nat) (s1 : Nat) (s2 : Nat) (s3 : Nat) (s4 : Nat) (s5 : Nat) (s6 : Nat) (s7 : Nat) (e0 : Nat) (e1 : Nat) (e2 : Nat) (e3 : Nat) (e4 : Nat) (e5 : Nat) (e6 : Nat) (e7 : Nat) (n0 : Int) (n1 : Int) (n2 : Int) (n3 : Int) (n4 : Int) (n5 : Int) (n6 : Int) (n7 : Int) (g0 : Int → Int) (g1 : Int → Int) (g2 : Int → Int) (g3 : Int → Int) (g4 : Int → Int) (g5 : Int → Int) (g6 : Int → Int) (g7 : Int → Int) (h0 : Nat) (h1 : Nat) (n : Int) (g : Int → Int) (hn : 0 ≤ n ∧ n ≤ 40) : hs_Mv l D cI cO yX1_remember wsX1_remember ({ frames := 2, cells := 0, slots := 0, locals := 48 } : Room) [.ref k0, .ref h0] [hs_ob h0 0 [.ref h1, hs_V n], hs_ia cI h1 40 g, hs_ob k0 1 [.ref k1, hs_V 3], hs_ra cO k1 8 (hs_r8 s0 s1 s2 s3 s4 s5 s6 s7), hs_ob s0 0 [.ref e0, hs_V n0], hs_ia cI e0 40 g0, hs_ob s1 0 [.ref e1, hs_V n1], hs_ia cI e1 40 g1, hs_ob s2 0 [.ref e2, hs_V n2], hs_ia cI e2 40 g2, hs_ob s3 0 [.ref e3, hs_V n3], hs_ia cI e3 40 g3, hs_ob s4 0 [.ref e4, hs_V n4], hs_ia cI e4 40 g4, hs_ob s5 0 [.ref e5, hs_V n5], hs_ia cI e5 40 g5, hs_ob s6 0 [.ref e6, hs_V n6], hs_ia cI e6 40 g6, hs_ob s7 0 [.ref e7, hs_V n7], hs_ia cI e7 40 g7] (fun (_ : Unit) => True) (fun _ => [hs_ob h0 0 [.ref h1, hs_V n], hs_ia cI h1 40 g, hs_ob k0 1 [.ref k1, hs_V 4], hs_ra cO k1 8 (hs_r8 s0 s1 s2 s3 s4 s5 s6 s7), hs_ob s0 0 [.ref e0, hs_V n0], hs_ia cI e0 40 g0, hs_ob s1 0 [.ref e1, hs_V n1], hs_ia cI e1 40 g1, hs_ob s2 0 [.ref e2, hs_V n2], hs_ia cI e2 40 g2, hs_ob s3 0 [.ref e3, hs_V n], hs_ia cI e3 40 (hs_cp g g3 0 0 n), hs_ob s4 0 [.ref e4, hs_V n4], hs_ia cI e4 40 g4, hs_ob s5 0 [.ref e5, hs_V n5], hs_ia cI e5 40 g5, hs_ob s6 0 [.ref e6, hs_V n6], hs_ia cI e6 40 g6, hs_ob s7 0 [.ref e7, hs_V n7], hs_ia cI e7 40 g7]) 0 0 := by
  refine hs_enterV (cc := cX1_remember) (maxL := 2) (by decide +kernel) rfl (Nat.le_of_ble_eq_true rfl) (fun p e s m args below meth c A H0 Q C hin2 hret => ?_)
  have f17 := C.1.2.2.2.2 (.fieldLink RX1 17 "HistogramStairs$History" "count" "I") (by decide +kernel)
  have u1 : ∀ w ∈ wsX10, w ∈ wsX1_remember := by decide +kernel
  have f11 := C.1.2.2.2.2 (.fieldLink RX1 11 "HistogramStairs$History" "states" "[LHistogramStairs$Columns;") (by decide +kernel)
  refine hs_lvs (lv' := [(0, .ref k0), (1, .ref h0)]) [0, 1] rfl ?_
  refine hs_aload_n C dX1_remember_0 rfl 0 rfl ?_
  refine hs_get C u1 2 rfl rfl 1 (by decide) f17 rfl rfl dX1_remember_1 ?_
  refine hs_bipush C dX1_remember_4 (by decide) ?_
  refine hs_icmp_ne (tgt := 13) C dX1_remember_6 (by decide) (by omega) (by omega) (fun c1 => ?_) (fun c1 => ?_)
  ·
    refine hs_aload_n C dX1_remember_13 rfl 0 rfl ?_
    refine hs_get C u1 2 rfl rfl 0 (by decide) f11 rfl rfl dX1_remember_14 ?_
    refine hs_aload_n C dX1_remember_17 rfl 0 rfl ?_
    refine hs_get C u1 2 rfl rfl 1 (by decide) f17 rfl rfl dX1_remember_18 ?_
    refine hs_aald (v := .ref s3) C 3 rfl (by omega) rfl dX1_remember_21 ?_
    refine hs_aload_n C dX1_remember_22 rfl 1 rfl ?_
    refine hs_re0 (w' := [hs_ob s3 0 [.ref e3, hs_V n3], hs_ia cI e3 40 g3, hs_ob h0 0 [.ref h1, hs_V n], hs_ia cI h1 40 g, hs_ob k0 1 [.ref k1, hs_V 3], hs_ra cO k1 8 (hs_r8 s0 s1 s2 s3 s4 s5 s6 s7), hs_ob s0 0 [.ref e0, hs_V n0], hs_ia cI e0 40 g0, hs_ob s1 0 [.ref e1, hs_V n1], hs_ia cI e1 40 g1, hs_ob s2 0 [.ref e2, hs_V n2], hs_ia cI e2 40 g2, hs_ob s4 0 [.ref e4, hs_V n4], hs_ia cI e4 40 g4, hs_ob s5 0 [.ref e5, hs_V n5], hs_ia cI e5 40 g5, hs_ob s6 0 [.ref e6, hs_V n6], hs_ia cI e6 40 g6, hs_ob s7 0 [.ref e7, hs_V n7], hs_ia cI e7 40 g7]) [10, 11, 0, 1, 2, 3, 4, 5, 6, 7, 8, 9, 12, 13, 14, 15, 16, 17, 18, 19] rfl (by decide) ?_
    refine hs_callVv (win := [hs_ob s3 0 [.ref e3, hs_V n3], hs_ia cI e3 40 g3, hs_ob h0 0 [.ref h1, hs_V n], hs_ia cI h1 40 g]) (wr := [hs_ob k0 1 [.ref k1, hs_V 3], hs_ra cO k1 8 (hs_r8 s0 s1 s2 s3 s4 s5 s6 s7), hs_ob s0 0 [.ref e0, hs_V n0], hs_ia cI e0 40 g0, hs_ob s1 0 [.ref e1, hs_V n1], hs_ia cI e1 40 g1, hs_ob s2 0 [.ref e2, hs_V n2], hs_ia cI e2 40 g2, hs_ob s4 0 [.ref e4, hs_V n4], hs_ia cI e4 40 g4, hs_ob s5 0 [.ref e5, hs_V n5], hs_ia cI e5 40 g5, hs_ob s6 0 [.ref e6, hs_V n6], hs_ia cI e6 40 g6, hs_ob s7 0 [.ref e7, hs_V n7], hs_ia cI e7 40 g7]) (As := [.ref h0]) (rest := []) C (c_X0_copyFrom l D cI cO s3 e3 n3 g3 h0 h1 n g (by omega)) 0 0 rfl rfl rfl (cwV 1 C.1.2.2.2.2 gX1_remember_X0_copyFrom rfl rfl rfl (by decide +kernel) ⟨Nat.le_of_ble_eq_true rfl, Nat.le_of_ble_eq_true rfl⟩) rfl rfl (Nat.le_of_ble_eq_true rfl) dX1_remember_23 ⟨Nat.le_of_ble_eq_true rfl, Nat.le_of_ble_eq_true rfl⟩ (fun uu2 hp => ?_)
    refine hs_re0 (w' := [hs_ob h0 0 [.ref h1, hs_V n], hs_ia cI h1 40 g, hs_ob k0 1 [.ref k1, hs_V 3], hs_ra cO k1 8 (hs_r8 s0 s1 s2 s3 s4 s5 s6 s7), hs_ob s0 0 [.ref e0, hs_V n0], hs_ia cI e0 40 g0, hs_ob s1 0 [.ref e1, hs_V n1], hs_ia cI e1 40 g1, hs_ob s2 0 [.ref e2, hs_V n2], hs_ia cI e2 40 g2, hs_ob s3 0 [.ref e3, hs_V n], hs_ia cI e3 40 (hs_cp g g3 0 0 n), hs_ob s4 0 [.ref e4, hs_V n4], hs_ia cI e4 40 g4, hs_ob s5 0 [.ref e5, hs_V n5], hs_ia cI e5 40 g5, hs_ob s6 0 [.ref e6, hs_V n6], hs_ia cI e6 40 g6, hs_ob s7 0 [.ref e7, hs_V n7], hs_ia cI e7 40 g7]) [2, 3, 4, 5, 6, 7, 8, 9, 10, 11, 0, 1, 12, 13, 14, 15, 16, 17, 18, 19] rfl (by decide) ?_
    refine hs_aload_n C dX1_remember_26 rfl 0 rfl ?_
    refine hs_dup C dX1_remember_27 rfl ?_
    refine hs_get C u1 2 rfl rfl 1 (by decide) f17 rfl rfl dX1_remember_28 ?_
    refine hs_iconst C dX1_remember_31 ?_
    refine hs_iadd C dX1_remember_32 ?_
    refine hs_put (ty := .int) (ws' := [hs_ob h0 0 [.ref h1, hs_V n], hs_ia cI h1 40 g, hs_ob k0 1 [.ref k1, hs_V (3 + 1)], hs_ra cO k1 8 (hs_r8 s0 s1 s2 s3 s4 s5 s6 s7), hs_ob s0 0 [.ref e0, hs_V n0], hs_ia cI e0 40 g0, hs_ob s1 0 [.ref e1, hs_V n1], hs_ia cI e1 40 g1, hs_ob s2 0 [.ref e2, hs_V n2], hs_ia cI e2 40 g2, hs_ob s3 0 [.ref e3, hs_V n], hs_ia cI e3 40 (hs_cp g g3 0 0 n), hs_ob s4 0 [.ref e4, hs_V n4], hs_ia cI e4 40 g4, hs_ob s5 0 [.ref e5, hs_V n5], hs_ia cI e5 40 g5, hs_ob s6 0 [.ref e6, hs_V n6], hs_ia cI e6 40 g6, hs_ob s7 0 [.ref e7, hs_V n7], hs_ia cI e7 40 g7]) C u1 tyX1 tyX1_ok nmX1 2 rfl rfl 1 (by decide) f17 rfl rfl (by decide +kernel) rfl rfl (Nat.le_of_ble_eq_true rfl) rfl dX1_remember_33 ?_
    exact hret _ _ () trivial dX1_remember_36
  ·
    exact absurd c1 (by decide)

set_option maxHeartbeats 4000000 in
set_option maxRecDepth 100000 in
theorem c_X1_remember_4 (l : Launch) (D : va_G) (cI cO : ClassId) (k0 : Nat) (k1 : Nat) (s0 : Nat) (s1 : Nat) (s2 : Nat) (s3 : Nat) (s4 : Nat) (s5 : Nat) (s6 : Nat) (s7 : Nat) (e0 : Nat) (e1 : Nat) (e2 : Nat) (e3 : Nat) (e4 : Nat) (e5 : Nat) (e6 : Nat) (e7 : Nat) (n0 : Int) (n1 : Int) (n2 : Int) (n3 : Int) (n4 : Int) (n5 : Int) (n6 : Int) (n7 : Int) (g0 : Int → Int) (g1 : Int → Int) (g2 : Int → Int) (g3 : Int → Int) (g4 : Int → Int) (g5 : Int → Int) (g6 : Int → Int) (g7 : Int → Int) (h0 : Nat) (h1 : Nat) (n : Int) (g : Int → Int) (hn : 0 ≤ n ∧ n ≤ 40) : hs_Mv l D cI cO yX1_remember wsX1_remember ({ frames := 2, cells := 0, slots := 0, locals := 48 } : Room) [.ref k0, .ref h0] [hs_ob h0 0 [.ref h1, hs_V n], hs_ia cI h1 40 g, hs_ob k0 1 [.ref k1, hs_V 4], hs_ra cO k1 8 (hs_r8 s0 s1 s2 s3 s4 s5 s6 s7), hs_ob s0 0 [.ref e0, hs_V n0], hs_ia cI e0 40 g0, hs_ob s1 0 [.ref e1, hs_V n1], hs_ia cI e1 40 g1, hs_ob s2 0 [.ref e2, hs_V n2], hs_ia cI e2 40 g2, hs_ob s3 0 [.ref e3, hs_V n3], hs_ia cI e3 40 g3, hs_ob s4 0 [.ref e4, hs_V n4], hs_ia cI e4 40 g4, hs_ob s5 0 [.ref e5, hs_V n5], hs_ia cI e5 40 g5, hs_ob s6 0 [.ref e6, hs_V n6], hs_ia cI e6 40 g6, hs_ob s7 0 [.ref e7, hs_V n7], hs_ia cI e7 40 g7] (fun (_ : Unit) => True) (fun _ => [hs_ob h0 0 [.ref h1, hs_V n], hs_ia cI h1 40 g, hs_ob k0 1 [.ref k1, hs_V 5], hs_ra cO k1 8 (hs_r8 s0 s1 s2 s3 s4 s5 s6 s7), hs_ob s0 0 [.ref e0, hs_V n0], hs_ia cI e0 40 g0, hs_ob s1 0 [.ref e1, hs_V n1], hs_ia cI e1 40 g1, hs_ob s2 0 [.ref e2, hs_V n2], hs_ia cI e2 40 g2, hs_ob s3 0 [.ref e3, hs_V n3], hs_ia cI e3 40 g3, hs_ob s4 0 [.ref e4, hs_V n], hs_ia cI e4 40 (hs_cp g g4 0 0 n), hs_ob s5 0 [.ref e5, hs_V n5], hs_ia cI e5 40 g5, hs_ob s6 0 [.ref e6, hs_V n6], hs_ia cI e6 40 g6, hs_ob s7 0 [.ref e7, hs_V n7], hs_ia cI e7 40 g7]) 0 0 := by
  refine hs_enterV (cc := cX1_remember) (maxL := 2) (by decide +kernel) rfl (Nat.le_of_ble_eq_true rfl) (fun p e s m args below meth c A H0 Q C hin2 hret => ?_)
  have f17 := C.1.2.2.2.2 (.fieldLink RX1 17 "HistogramStairs$History" "count" "I") (by decide +kernel)
  have u1 : ∀ w ∈ wsX10, w ∈ wsX1_remember := by decide +kernel
  have f11 := C.1.2.2.2.2 (.fieldLink RX1 11 "HistogramStairs$History" "states" "[LHistogramStairs$Columns;") (by decide +kernel)
  refine hs_lvs (lv' := [(0, .ref k0), (1, .ref h0)]) [0, 1] rfl ?_
  refine hs_aload_n C dX1_remember_0 rfl 0 rfl ?_
  refine hs_get C u1 2 rfl rfl 1 (by decide) f17 rfl rfl dX1_remember_1 ?_
  refine hs_bipush C dX1_remember_4 (by decide) ?_
  refine hs_icmp_ne (tgt := 13) C dX1_remember_6 (by decide) (by omega) (by omega) (fun c1 => ?_) (fun c1 => ?_)
  ·
    refine hs_aload_n C dX1_remember_13 rfl 0 rfl ?_
    refine hs_get C u1 2 rfl rfl 0 (by decide) f11 rfl rfl dX1_remember_14 ?_
    refine hs_aload_n C dX1_remember_17 rfl 0 rfl ?_
    refine hs_get C u1 2 rfl rfl 1 (by decide) f17 rfl rfl dX1_remember_18 ?_
    refine hs_aald (v := .ref s4) C 3 rfl (by omega) rfl dX1_remember_21 ?_
    refine hs_aload_n C dX1_remember_22 rfl 1 rfl ?_
    refine hs_re0 (w' := [hs_ob s4 0 [.ref e4, hs_V n4], hs_ia cI e4 40 g4, hs_ob h0 0 [.ref h1, hs_V n], hs_ia cI h1 40 g, hs_ob k0 1 [.ref k1, hs_V 4], hs_ra cO k1 8 (hs_r8 s0 s1 s2 s3 s4 s5 s6 s7), hs_ob s0 0 [.ref e0, hs_V n0], hs_ia cI e0 40 g0, hs_ob s1 0 [.ref e1, hs_V n1], hs_ia cI e1 40 g1, hs_ob s2 0 [.ref e2, hs_V n2], hs_ia cI e2 40 g2, hs_ob s3 0 [.ref e3, hs_V n3], hs_ia cI e3 40 g3, hs_ob s5 0 [.ref e5, hs_V n5], hs_ia cI e5 40 g5, hs_ob s6 0 [.ref e6, hs_V n6], hs_ia cI e6 40 g6, hs_ob s7 0 [.ref e7, hs_V n7], hs_ia cI e7 40 g7]) [12, 13, 0, 1, 2, 3, 4, 5, 6, 7, 8, 9, 10, 11, 14, 15, 16, 17, 18, 19] rfl (by decide) ?_
    refine hs_callVv (win := [hs_ob s4 0 [.ref e4, hs_V n4], hs_ia cI e4 40 g4, hs_ob h0 0 [.ref h1, hs_V n], hs_ia cI h1 40 g]) (wr := [hs_ob k0 1 [.ref k1, hs_V 4], hs_ra cO k1 8 (hs_r8 s0 s1 s2 s3 s4 s5 s6 s7), hs_ob s0 0 [.ref e0, hs_V n0], hs_ia cI e0 40 g0, hs_ob s1 0 [.ref e1, hs_V n1], hs_ia cI e1 40 g1, hs_ob s2 0 [.ref e2, hs_V n2], hs_ia cI e2 40 g2, hs_ob s3 0 [.ref e3, hs_V n3], hs_ia cI e3 40 g3, hs_ob s5 0 [.ref e5, hs_V n5], hs_ia cI e5 40 g5, hs_ob s6 0 [.ref e6, hs_V n6], hs_ia cI e6 40 g6, hs_ob s7 0 [.ref e7, hs_V n7], hs_ia cI e7 40 g7]) (As := [.ref h0]) (rest := []) C (c_X0_copyFrom l D cI cO s4 e4 n4 g4 h0 h1 n g (by omega)) 0 0 rfl rfl rfl (cwV 1 C.1.2.2.2.2 gX1_remember_X0_copyFrom rfl rfl rfl (by decide +kernel) ⟨Nat.le_of_ble_eq_true rfl, Nat.le_of_ble_eq_true rfl⟩) rfl rfl (Nat.le_of_ble_eq_true rfl) dX1_remember_23 ⟨Nat.le_of_ble_eq_true rfl, Nat.le_of_ble_eq_true rfl⟩ (fun uu2 hp => ?_)
    refine hs_re0 (w' := [hs_ob h0 0 [.ref h1, hs_V n], hs_ia cI h1 40 g, hs_ob k0 1 [.ref k1, hs_V 4], hs_ra cO k1 8 (hs_r8 s0 s1 s2 s3 s4 s5 s6 s7), hs_ob s0 0 [.ref e0, hs_V n0], hs_ia cI e0 40 g0, hs_ob s1 0 [.ref e1, hs_V n1], hs_ia cI e1 40 g1, hs_ob s2 0 [.ref e2, hs_V n2], hs_ia cI e2 40 g2, hs_ob s3 0 [.ref e3, hs_V n3], hs_ia cI e3 40 g3, hs_ob s4 0 [.ref e4, hs_V n], hs_ia cI e4 40 (hs_cp g g4 0 0 n), hs_ob s5 0 [.ref e5, hs_V n5], hs_ia cI e5 40 g5, hs_ob s6 0 [.ref e6, hs_V n6], hs_ia cI e6 40 g6, hs_ob s7 0 [.ref e7, hs_V n7], hs_ia cI e7 40 g7]) [2, 3, 4, 5, 6, 7, 8, 9, 10, 11, 12, 13, 0, 1, 14, 15, 16, 17, 18, 19] rfl (by decide) ?_
    refine hs_aload_n C dX1_remember_26 rfl 0 rfl ?_
    refine hs_dup C dX1_remember_27 rfl ?_
    refine hs_get C u1 2 rfl rfl 1 (by decide) f17 rfl rfl dX1_remember_28 ?_
    refine hs_iconst C dX1_remember_31 ?_
    refine hs_iadd C dX1_remember_32 ?_
    refine hs_put (ty := .int) (ws' := [hs_ob h0 0 [.ref h1, hs_V n], hs_ia cI h1 40 g, hs_ob k0 1 [.ref k1, hs_V (4 + 1)], hs_ra cO k1 8 (hs_r8 s0 s1 s2 s3 s4 s5 s6 s7), hs_ob s0 0 [.ref e0, hs_V n0], hs_ia cI e0 40 g0, hs_ob s1 0 [.ref e1, hs_V n1], hs_ia cI e1 40 g1, hs_ob s2 0 [.ref e2, hs_V n2], hs_ia cI e2 40 g2, hs_ob s3 0 [.ref e3, hs_V n3], hs_ia cI e3 40 g3, hs_ob s4 0 [.ref e4, hs_V n], hs_ia cI e4 40 (hs_cp g g4 0 0 n), hs_ob s5 0 [.ref e5, hs_V n5], hs_ia cI e5 40 g5, hs_ob s6 0 [.ref e6, hs_V n6], hs_ia cI e6 40 g6, hs_ob s7 0 [.ref e7, hs_V n7], hs_ia cI e7 40 g7]) C u1 tyX1 tyX1_ok nmX1 2 rfl rfl 1 (by decide) f17 rfl rfl (by decide +kernel) rfl rfl (Nat.le_of_ble_eq_true rfl) rfl dX1_remember_33 ?_
    exact hret _ _ () trivial dX1_remember_36
  ·
    exact absurd c1 (by decide)

set_option maxHeartbeats 4000000 in
set_option maxRecDepth 100000 in
theorem c_X1_remember_5 (l : Launch) (D : va_G) (cI cO : ClassId) (k0 : Nat) (k1 : Nat) (s0 : Nat) (s1 : Nat) (s2 : Nat) (s3 : Nat) (s4 : Nat) (s5 : Nat) (s6 : Nat) (s7 : Nat) (e0 : Nat) (e1 : Nat) (e2 : Nat) (e3 : Nat) (e4 : Nat) (e5 : Nat) (e6 : Nat) (e7 : Nat) (n0 : Int) (n1 : Int) (n2 : Int) (n3 : Int) (n4 : Int) (n5 : Int) (n6 : Int) (n7 : Int) (g0 : Int → Int) (g1 : Int → Int) (g2 : Int → Int) (g3 : Int → Int) (g4 : Int → Int) (g5 : Int → Int) (g6 : Int → Int) (g7 : Int → Int) (h0 : Nat) (h1 : Nat) (n : Int) (g : Int → Int) (hn : 0 ≤ n ∧ n ≤ 40) : hs_Mv l D cI cO yX1_remember wsX1_remember ({ frames := 2, cells := 0, slots := 0, locals := 48 } : Room) [.ref k0, .ref h0] [hs_ob h0 0 [.ref h1, hs_V n], hs_ia cI h1 40 g, hs_ob k0 1 [.ref k1, hs_V 5], hs_ra cO k1 8 (hs_r8 s0 s1 s2 s3 s4 s5 s6 s7), hs_ob s0 0 [.ref e0, hs_V n0], hs_ia cI e0 40 g0, hs_ob s1 0 [.ref e1, hs_V n1], hs_ia cI e1 40 g1, hs_ob s2 0 [.ref e2, hs_V n2], hs_ia cI e2 40 g2, hs_ob s3 0 [.ref e3, hs_V n3], hs_ia cI e3 40 g3, hs_ob s4 0 [.ref e4, hs_V n4], hs_ia cI e4 40 g4, hs_ob s5 0 [.ref e5, hs_V n5], hs_ia cI e5 40 g5, hs_ob s6 0 [.ref e6, hs_V n6], hs_ia cI e6 40 g6, hs_ob s7 0 [.ref e7, hs_V n7], hs_ia cI e7 40 g7] (fun (_ : Unit) => True) (fun _ => [hs_ob h0 0 [.ref h1, hs_V n], hs_ia cI h1 40 g, hs_ob k0 1 [.ref k1, hs_V 6], hs_ra cO k1 8 (hs_r8 s0 s1 s2 s3 s4 s5 s6 s7), hs_ob s0 0 [.ref e0, hs_V n0], hs_ia cI e0 40 g0, hs_ob s1 0 [.ref e1, hs_V n1], hs_ia cI e1 40 g1, hs_ob s2 0 [.ref e2, hs_V n2], hs_ia cI e2 40 g2, hs_ob s3 0 [.ref e3, hs_V n3], hs_ia cI e3 40 g3, hs_ob s4 0 [.ref e4, hs_V n4], hs_ia cI e4 40 g4, hs_ob s5 0 [.ref e5, hs_V n], hs_ia cI e5 40 (hs_cp g g5 0 0 n), hs_ob s6 0 [.ref e6, hs_V n6], hs_ia cI e6 40 g6, hs_ob s7 0 [.ref e7, hs_V n7], hs_ia cI e7 40 g7]) 0 0 := by
  refine hs_enterV (cc := cX1_remember) (maxL := 2) (by decide +kernel) rfl (Nat.le_of_ble_eq_true rfl) (fun p e s m args below meth c A H0 Q C hin2 hret => ?_)
  have f17 := C.1.2.2.2.2 (.fieldLink RX1 17 "HistogramStairs$History" "count" "I") (by decide +kernel)
  have u1 : ∀ w ∈ wsX10, w ∈ wsX1_remember := by decide +kernel
  have f11 := C.1.2.2.2.2 (.fieldLink RX1 11 "HistogramStairs$History" "states" "[LHistogramStairs$Columns;") (by decide +kernel)
  refine hs_lvs (lv' := [(0, .ref k0), (1, .ref h0)]) [0, 1] rfl ?_
  refine hs_aload_n C dX1_remember_0 rfl 0 rfl ?_
  refine hs_get C u1 2 rfl rfl 1 (by decide) f17 rfl rfl dX1_remember_1 ?_
  refine hs_bipush C dX1_remember_4 (by decide) ?_
  refine hs_icmp_ne (tgt := 13) C dX1_remember_6 (by decide) (by omega) (by omega) (fun c1 => ?_) (fun c1 => ?_)
  ·
    refine hs_aload_n C dX1_remember_13 rfl 0 rfl ?_
    refine hs_get C u1 2 rfl rfl 0 (by decide) f11 rfl rfl dX1_remember_14 ?_
    refine hs_aload_n C dX1_remember_17 rfl 0 rfl ?_
    refine hs_get C u1 2 rfl rfl 1 (by decide) f17 rfl rfl dX1_remember_18 ?_
    refine hs_aald (v := .ref s5) C 3 rfl (by omega) rfl dX1_remember_21 ?_
    refine hs_aload_n C dX1_remember_22 rfl 1 rfl ?_
    refine hs_re0 (w' := [hs_ob s5 0 [.ref e5, hs_V n5], hs_ia cI e5 40 g5, hs_ob h0 0 [.ref h1, hs_V n], hs_ia cI h1 40 g, hs_ob k0 1 [.ref k1, hs_V 5], hs_ra cO k1 8 (hs_r8 s0 s1 s2 s3 s4 s5 s6 s7), hs_ob s0 0 [.ref e0, hs_V n0], hs_ia cI e0 40 g0, hs_ob s1 0 [.ref e1, hs_V n1], hs_ia cI e1 40 g1, hs_ob s2 0 [.ref e2, hs_V n2], hs_ia cI e2 40 g2, hs_ob s3 0 [.ref e3, hs_V n3], hs_ia cI e3 40 g3, hs_ob s4 0 [.ref e4, hs_V n4], hs_ia cI e4 40 g4, hs_ob s6 0 [.ref e6, hs_V n6], hs_ia cI e6 40 g6, hs_ob s7 0 [.ref e7, hs_V n7], hs_ia cI e7 40 g7]) [14, 15, 0, 1, 2, 3, 4, 5, 6, 7, 8, 9, 10, 11, 12, 13, 16, 17, 18, 19] rfl (by decide) ?_
    refine hs_callVv (win := [hs_ob s5 0 [.ref e5, hs_V n5], hs_ia cI e5 40 g5, hs_ob h0 0 [.ref h1, hs_V n], hs_ia cI h1 40 g]) (wr := [hs_ob k0 1 [.ref k1, hs_V 5], hs_ra cO k1 8 (hs_r8 s0 s1 s2 s3 s4 s5 s6 s7), hs_ob s0 0 [.ref e0, hs_V n0], hs_ia cI e0 40 g0, hs_ob s1 0 [.ref e1, hs_V n1], hs_ia cI e1 40 g1, hs_ob s2 0 [.ref e2, hs_V n2], hs_ia cI e2 40 g2, hs_ob s3 0 [.ref e3, hs_V n3], hs_ia cI e3 40 g3, hs_ob s4 0 [.ref e4, hs_V n4], hs_ia cI e4 40 g4, hs_ob s6 0 [.ref e6, hs_V n6], hs_ia cI e6 40 g6, hs_ob s7 0 [.ref e7, hs_V n7], hs_ia cI e7 40 g7]) (As := [.ref h0]) (rest := []) C (c_X0_copyFrom l D cI cO s5 e5 n5 g5 h0 h1 n g (by omega)) 0 0 rfl rfl rfl (cwV 1 C.1.2.2.2.2 gX1_remember_X0_copyFrom rfl rfl rfl (by decide +kernel) ⟨Nat.le_of_ble_eq_true rfl, Nat.le_of_ble_eq_true rfl⟩) rfl rfl (Nat.le_of_ble_eq_true rfl) dX1_remember_23 ⟨Nat.le_of_ble_eq_true rfl, Nat.le_of_ble_eq_true rfl⟩ (fun uu2 hp => ?_)
    refine hs_re0 (w' := [hs_ob h0 0 [.ref h1, hs_V n], hs_ia cI h1 40 g, hs_ob k0 1 [.ref k1, hs_V 5], hs_ra cO k1 8 (hs_r8 s0 s1 s2 s3 s4 s5 s6 s7), hs_ob s0 0 [.ref e0, hs_V n0], hs_ia cI e0 40 g0, hs_ob s1 0 [.ref e1, hs_V n1], hs_ia cI e1 40 g1, hs_ob s2 0 [.ref e2, hs_V n2], hs_ia cI e2 40 g2, hs_ob s3 0 [.ref e3, hs_V n3], hs_ia cI e3 40 g3, hs_ob s4 0 [.ref e4, hs_V n4], hs_ia cI e4 40 g4, hs_ob s5 0 [.ref e5, hs_V n], hs_ia cI e5 40 (hs_cp g g5 0 0 n), hs_ob s6 0 [.ref e6, hs_V n6], hs_ia cI e6 40 g6, hs_ob s7 0 [.ref e7, hs_V n7], hs_ia cI e7 40 g7]) [2, 3, 4, 5, 6, 7, 8, 9, 10, 11, 12, 13, 14, 15, 0, 1, 16, 17, 18, 19] rfl (by decide) ?_
    refine hs_aload_n C dX1_remember_26 rfl 0 rfl ?_
    refine hs_dup C dX1_remember_27 rfl ?_
    refine hs_get C u1 2 rfl rfl 1 (by decide) f17 rfl rfl dX1_remember_28 ?_
    refine hs_iconst C dX1_remember_31 ?_
    refine hs_iadd C dX1_remember_32 ?_
    refine hs_put (ty := .int) (ws' := [hs_ob h0 0 [.ref h1, hs_V n], hs_ia cI h1 40 g, hs_ob k0 1 [.ref k1, hs_V (5 + 1)], hs_ra cO k1 8 (hs_r8 s0 s1 s2 s3 s4 s5 s6 s7), hs_ob s0 0 [.ref e0, hs_V n0], hs_ia cI e0 40 g0, hs_ob s1 0 [.ref e1, hs_V n1], hs_ia cI e1 40 g1, hs_ob s2 0 [.ref e2, hs_V n2], hs_ia cI e2 40 g2, hs_ob s3 0 [.ref e3, hs_V n3], hs_ia cI e3 40 g3, hs_ob s4 0 [.ref e4, hs_V n4], hs_ia cI e4 40 g4, hs_ob s5 0 [.ref e5, hs_V n], hs_ia cI e5 40 (hs_cp g g5 0 0 n), hs_ob s6 0 [.ref e6, hs_V n6], hs_ia cI e6 40 g6, hs_ob s7 0 [.ref e7, hs_V n7], hs_ia cI e7 40 g7]) C u1 tyX1 tyX1_ok nmX1 2 rfl rfl 1 (by decide) f17 rfl rfl (by decide +kernel) rfl rfl (Nat.le_of_ble_eq_true rfl) rfl dX1_remember_33 ?_
    exact hret _ _ () trivial dX1_remember_36
  ·
    exact absurd c1 (by decide)

set_option maxHeartbeats 4000000 in
set_option maxRecDepth 100000 in
theorem c_X1_remember_6 (l : Launch) (D : va_G) (cI cO : ClassId) (k0 : Nat) (k1 : Nat) (s0 : Nat) (s1 : Nat) (s2 : Nat) (s3 : Nat) (s4 : Nat) (s5 : Nat) (s6 : Nat) (s7 : Nat) (e0 : Nat) (e1 : Nat) (e2 : Nat) (e3 : Nat) (e4 : Nat) (e5 : Nat) (e6 : Nat) (e7 : Nat) (n0 : Int) (n1 : Int) (n2 : Int) (n3 : Int) (n4 : Int) (n5 : Int) (n6 : Int) (n7 : Int) (g0 : Int → Int) (g1 : Int → Int) (g2 : Int → Int) (g3 : Int → Int) (g4 : Int → Int) (g5 : Int → Int) (g6 : Int → Int) (g7 : Int → Int) (h0 : Nat) (h1 : Nat) (n : Int) (g : Int → Int) (hn : 0 ≤ n ∧ n ≤ 40) : hs_Mv l D cI cO yX1_remember wsX1_remember ({ frames := 2, cells := 0, slots := 0, locals := 48 } : Room) [.ref k0, .ref h0] [hs_ob h0 0 [.ref h1, hs_V n], hs_ia cI h1 40 g, hs_ob k0 1 [.ref k1, hs_V 6], hs_ra cO k1 8 (hs_r8 s0 s1 s2 s3 s4 s5 s6 s7), hs_ob s0 0 [.ref e0, hs_V n0], hs_ia cI e0 40 g0, hs_ob s1 0 [.ref e1, hs_V n1], hs_ia cI e1 40 g1, hs_ob s2 0 [.ref e2, hs_V n2], hs_ia cI e2 40 g2, hs_ob s3 0 [.ref e3, hs_V n3], hs_ia cI e3 40 g3, hs_ob s4 0 [.ref e4, hs_V n4], hs_ia cI e4 40 g4, hs_ob s5 0 [.ref e5, hs_V n5], hs_ia cI e5 40 g5, hs_ob s6 0 [.ref e6, hs_V n6], hs_ia cI e6 40 g6, hs_ob s7 0 [.ref e7, hs_V n7], hs_ia cI e7 40 g7] (fun (_ : Unit) => True) (fun _ => [hs_ob h0 0 [.ref h1, hs_V n], hs_ia cI h1 40 g, hs_ob k0 1 [.ref k1, hs_V 7], hs_ra cO k1 8 (hs_r8 s0 s1 s2 s3 s4 s5 s6 s7), hs_ob s0 0 [.ref e0, hs_V n0], hs_ia cI e0 40 g0, hs_ob s1 0 [.ref e1, hs_V n1], hs_ia cI e1 40 g1, hs_ob s2 0 [.ref e2, hs_V n2], hs_ia cI e2 40 g2, hs_ob s3 0 [.ref e3, hs_V n3], hs_ia cI e3 40 g3, hs_ob s4 0 [.ref e4, hs_V n4], hs_ia cI e4 40 g4, hs_ob s5 0 [.ref e5, hs_V n5], hs_ia cI e5 40 g5, hs_ob s6 0 [.ref e6, hs_V n], hs_ia cI e6 40 (hs_cp g g6 0 0 n), hs_ob s7 0 [.ref e7, hs_V n7], hs_ia cI e7 40 g7]) 0 0 := by
  refine hs_enterV (cc := cX1_remember) (maxL := 2) (by decide +kernel) rfl (Nat.le_of_ble_eq_true rfl) (fun p e s m args below meth c A H0 Q C hin2 hret => ?_)
  have f17 := C.1.2.2.2.2 (.fieldLink RX1 17 "HistogramStairs$History" "count" "I") (by decide +kernel)
  have u1 : ∀ w ∈ wsX10, w ∈ wsX1_remember := by decide +kernel
  have f11 := C.1.2.2.2.2 (.fieldLink RX1 11 "HistogramStairs$History" "states" "[LHistogramStairs$Columns;") (by decide +kernel)
  refine hs_lvs (lv' := [(0, .ref k0), (1, .ref h0)]) [0, 1] rfl ?_
  refine hs_aload_n C dX1_remember_0 rfl 0 rfl ?_
  refine hs_get C u1 2 rfl rfl 1 (by decide) f17 rfl rfl dX1_remember_1 ?_
  refine hs_bipush C dX1_remember_4 (by decide) ?_
  refine hs_icmp_ne (tgt := 13) C dX1_remember_6 (by decide) (by omega) (by omega) (fun c1 => ?_) (fun c1 => ?_)
  ·
    refine hs_aload_n C dX1_remember_13 rfl 0 rfl ?_
    refine hs_get C u1 2 rfl rfl 0 (by decide) f11 rfl rfl dX1_remember_14 ?_
    refine hs_aload_n C dX1_remember_17 rfl 0 rfl ?_
    refine hs_get C u1 2 rfl rfl 1 (by decide) f17 rfl rfl dX1_remember_18 ?_
    refine hs_aald (v := .ref s6) C 3 rfl (by omega) rfl dX1_remember_21 ?_
    refine hs_aload_n C dX1_remember_22 rfl 1 rfl ?_
    refine hs_re0 (w' := [hs_ob s6 0 [.ref e6, hs_V n6], hs_ia cI e6 40 g6, hs_ob h0 0 [.ref h1, hs_V n], hs_ia cI h1 40 g, hs_ob k0 1 [.ref k1, hs_V 6], hs_ra cO k1 8 (hs_r8 s0 s1 s2 s3 s4 s5 s6 s7), hs_ob s0 0 [.ref e0, hs_V n0], hs_ia cI e0 40 g0, hs_ob s1 0 [.ref e1, hs_V n1], hs_ia cI e1 40 g1, hs_ob s2 0 [.ref e2, hs_V n2], hs_ia cI e2 40 g2, hs_ob s3 0 [.ref e3, hs_V n3], hs_ia cI e3 40 g3, hs_ob s4 0 [.ref e4, hs_V n4], hs_ia cI e4 40 g4, hs_ob s5 0 [.ref e5, hs_V n5], hs_ia cI e5 40 g5, hs_ob s7 0 [.ref e7, hs_V n7], hs_ia cI e7 40 g7]) [16, 17, 0, 1, 2, 3, 4, 5, 6, 7, 8, 9, 10, 11, 12, 13, 14, 15, 18, 19] rfl (by decide) ?_
    refine hs_callVv (win := [hs_ob s6 0 [.ref e6, hs_V n6], hs_ia cI e6 40 g6, hs_ob h0 0 [.ref h1, hs_V n], hs_ia cI h1 40 g]) (wr := [hs_ob k0 1 [.ref k1, hs_V 6], hs_ra cO k1 8 (hs_r8 s0 s1 s2 s3 s4 s5 s6 s7), hs_ob s0 0 [.ref e0, hs_V n0], hs_ia cI e0 40 g0, hs_ob s1 0 [.ref e1, hs_V n1], hs_ia cI e1 40 g1, hs_ob s2 0 [.ref e2, hs_V n2], hs_ia cI e2 40 g2, hs_ob s3 0 [.ref e3, hs_V n3], hs_ia cI e3 40 g3, hs_ob s4 0 [.ref e4, hs_V n4], hs_ia cI e4 40 g4, hs_ob s5 0 [.ref e5, hs_V n5], hs_ia cI e5 40 g5, hs_ob s7 0 [.ref e7, hs_V n7], hs_ia cI e7 40 g7]) (As := [.ref h0]) (rest := []) C (c_X0_copyFrom l D cI cO s6 e6 n6 g6 h0 h1 n g (by omega)) 0 0 rfl rfl rfl (cwV 1 C.1.2.2.2.2 gX1_remember_X0_copyFrom rfl rfl rfl (by decide +kernel) ⟨Nat.le_of_ble_eq_true rfl, Nat.le_of_ble_eq_true rfl⟩) rfl rfl (Nat.le_of_ble_eq_true rfl) dX1_remember_23 ⟨Nat.le_of_ble_eq_true rfl, Nat.le_of_ble_eq_true rfl⟩ (fun uu2 hp => ?_)
    refine hs_re0 (w' := [hs_ob h0 0 [.ref h1, hs_V n], hs_ia cI h1 40 g, hs_ob k0 1 [.ref k1, hs_V 6], hs_ra cO k1 8 (hs_r8 s0 s1 s2 s3 s4 s5 s6 s7), hs_ob s0 0 [.ref e0, hs_V n0], hs_ia cI e0 40 g0, hs_ob s1 0 [.ref e1, hs_V n1], hs_ia cI e1 40 g1, hs_ob s2 0 [.ref e2, hs_V n2], hs_ia cI e2 40 g2, hs_ob s3 0 [.ref e3, hs_V n3], hs_ia cI e3 40 g3, hs_ob s4 0 [.ref e4, hs_V n4], hs_ia cI e4 40 g4, hs_ob s5 0 [.ref e5, hs_V n5], hs_ia cI e5 40 g5, hs_ob s6 0 [.ref e6, hs_V n], hs_ia cI e6 40 (hs_cp g g6 0 0 n), hs_ob s7 0 [.ref e7, hs_V n7], hs_ia cI e7 40 g7]) [2, 3, 4, 5, 6, 7, 8, 9, 10, 11, 12, 13, 14, 15, 16, 17, 0, 1, 18, 19] rfl (by decide) ?_
    refine hs_aload_n C dX1_remember_26 rfl 0 rfl ?_
    refine hs_dup C dX1_remember_27 rfl ?_
    refine hs_get C u1 2 rfl rfl 1 (by decide) f17 rfl rfl dX1_remember_28 ?_
    refine hs_iconst C dX1_remember_31 ?_
    refine hs_iadd C dX1_remember_32 ?_
    refine hs_put (ty := .int) (ws' := [hs_ob h0 0 [.ref h1, hs_V n], hs_ia cI h1 40 g, hs_ob k0 1 [.ref k1, hs_V (6 + 1)], hs_ra cO k1 8 (hs_r8 s0 s1 s2 s3 s4 s5 s6 s7), hs_ob s0 0 [.ref e0, hs_V n0], hs_ia cI e0 40 g0, hs_ob s1 0 [.ref e1, hs_V n1], hs_ia cI e1 40 g1, hs_ob s2 0 [.ref e2, hs_V n2], hs_ia cI e2 40 g2, hs_ob s3 0 [.ref e3, hs_V n3], hs_ia cI e3 40 g3, hs_ob s4 0 [.ref e4, hs_V n4], hs_ia cI e4 40 g4, hs_ob s5 0 [.ref e5, hs_V n5], hs_ia cI e5 40 g5, hs_ob s6 0 [.ref e6, hs_V n], hs_ia cI e6 40 (hs_cp g g6 0 0 n), hs_ob s7 0 [.ref e7, hs_V n7], hs_ia cI e7 40 g7]) C u1 tyX1 tyX1_ok nmX1 2 rfl rfl 1 (by decide) f17 rfl rfl (by decide +kernel) rfl rfl (Nat.le_of_ble_eq_true rfl) rfl dX1_remember_33 ?_
    exact hret _ _ () trivial dX1_remember_36
  ·
    exact absurd c1 (by decide)

set_option maxHeartbeats 4000000 in
set_option maxRecDepth 100000 in
theorem c_X1_remember_7 (l : Launch) (D : va_G) (cI cO : ClassId) (k0 : Nat) (k1 : Nat) (s0 : Nat) (s1 : Nat) (s2 : Nat) (s3 : Nat) (s4 : Nat) (s5 : Nat) (s6 : Nat) (s7 : Nat) (e0 : Nat) (e1 : Nat) (e2 : Nat) (e3 : Nat) (e4 : Nat) (e5 : Nat) (e6 : Nat) (e7 : Nat) (n0 : Int) (n1 : Int) (n2 : Int) (n3 : Int) (n4 : Int) (n5 : Int) (n6 : Int) (n7 : Int) (g0 : Int → Int) (g1 : Int → Int) (g2 : Int → Int) (g3 : Int → Int) (g4 : Int → Int) (g5 : Int → Int) (g6 : Int → Int) (g7 : Int → Int) (h0 : Nat) (h1 : Nat) (n : Int) (g : Int → Int) (hn : 0 ≤ n ∧ n ≤ 40) : hs_Mv l D cI cO yX1_remember wsX1_remember ({ frames := 2, cells := 0, slots := 0, locals := 48 } : Room) [.ref k0, .ref h0] [hs_ob h0 0 [.ref h1, hs_V n], hs_ia cI h1 40 g, hs_ob k0 1 [.ref k1, hs_V 7], hs_ra cO k1 8 (hs_r8 s0 s1 s2 s3 s4 s5 s6 s7), hs_ob s0 0 [.ref e0, hs_V n0], hs_ia cI e0 40 g0, hs_ob s1 0 [.ref e1, hs_V n1], hs_ia cI e1 40 g1, hs_ob s2 0 [.ref e2, hs_V n2], hs_ia cI e2 40 g2, hs_ob s3 0 [.ref e3, hs_V n3], hs_ia cI e3 40 g3, hs_ob s4 0 [.ref e4, hs_V n4], hs_ia cI e4 40 g4, hs_ob s5 0 [.ref e5, hs_V n5], hs_ia cI e5 40 g5, hs_ob s6 0 [.ref e6, hs_V n6], hs_ia cI e6 40 g6, hs_ob s7 0 [.ref e7, hs_V n7], hs_ia cI e7 40 g7] (fun (_ : Unit) => True) (fun _ => [hs_ob h0 0 [.ref h1, hs_V n], hs_ia cI h1 40 g, hs_ob k0 1 [.ref k1, hs_V 8], hs_ra cO k1 8 (hs_r8 s0 s1 s2 s3 s4 s5 s6 s7), hs_ob s0 0 [.ref e0, hs_V n0], hs_ia cI e0 40 g0, hs_ob s1 0 [.ref e1, hs_V n1], hs_ia cI e1 40 g1, hs_ob s2 0 [.ref e2, hs_V n2], hs_ia cI e2 40 g2, hs_ob s3 0 [.ref e3, hs_V n3], hs_ia cI e3 40 g3, hs_ob s4 0 [.ref e4, hs_V n4], hs_ia cI e4 40 g4, hs_ob s5 0 [.ref e5, hs_V n5], hs_ia cI e5 40 g5, hs_ob s6 0 [.ref e6, hs_V n6], hs_ia cI e6 40 g6, hs_ob s7 0 [.ref e7, hs_V n], hs_ia cI e7 40 (hs_cp g g7 0 0 n)]) 0 0 := by
  refine hs_enterV (cc := cX1_remember) (maxL := 2) (by decide +kernel) rfl (Nat.le_of_ble_eq_true rfl) (fun p e s m args below meth c A H0 Q C hin2 hret => ?_)
  have f17 := C.1.2.2.2.2 (.fieldLink RX1 17 "HistogramStairs$History" "count" "I") (by decide +kernel)
  have u1 : ∀ w ∈ wsX10, w ∈ wsX1_remember := by decide +kernel
  have f11 := C.1.2.2.2.2 (.fieldLink RX1 11 "HistogramStairs$History" "states" "[LHistogramStairs$Columns;") (by decide +kernel)
  refine hs_lvs (lv' := [(0, .ref k0), (1, .ref h0)]) [0, 1] rfl ?_
  refine hs_aload_n C dX1_remember_0 rfl 0 rfl ?_
  refine hs_get C u1 2 rfl rfl 1 (by decide) f17 rfl rfl dX1_remember_1 ?_
  refine hs_bipush C dX1_remember_4 (by decide) ?_
  refine hs_icmp_ne (tgt := 13) C dX1_remember_6 (by decide) (by omega) (by omega) (fun c1 => ?_) (fun c1 => ?_)
  ·
    refine hs_aload_n C dX1_remember_13 rfl 0 rfl ?_
    refine hs_get C u1 2 rfl rfl 0 (by decide) f11 rfl rfl dX1_remember_14 ?_
    refine hs_aload_n C dX1_remember_17 rfl 0 rfl ?_
    refine hs_get C u1 2 rfl rfl 1 (by decide) f17 rfl rfl dX1_remember_18 ?_
    refine hs_aald (v := .ref s7) C 3 rfl (by omega) rfl dX1_remember_21 ?_
    refine hs_aload_n C dX1_remember_22 rfl 1 rfl ?_
    refine hs_re0 (w' := [hs_ob s7 0 [.ref e7, hs_V n7], hs_ia cI e7 40 g7, hs_ob h0 0 [.ref h1, hs_V n], hs_ia cI h1 40 g, hs_ob k0 1 [.ref k1, hs_V 7], hs_ra cO k1 8 (hs_r8 s0 s1 s2 s3 s4 s5 s6 s7), hs_ob s0 0 [.ref e0, hs_V n0], hs_ia cI e0 40 g0, hs_ob s1 0 [.ref e1, hs_V n1], hs_ia cI e1 40 g1, hs_ob s2 0 [.ref e2, hs_V n2], hs_ia cI e2 40 g2, hs_ob s3 0 [.ref e3, hs_V n3], hs_ia cI e3 40 g3, hs_ob s4 0 [.ref e4, hs_V n4], hs_ia cI e4 40 g4, hs_ob s5 0 [.ref e5, hs_V n5], hs_ia cI e5 40 g5, hs_ob s6 0 [.ref e6, hs_V n6], hs_ia cI e6 40 g6]) [18, 19, 0, 1, 2, 3, 4, 5, 6, 7, 8, 9, 10, 11, 12, 13, 14, 15, 16, 17] rfl (by decide) ?_
    refine hs_callVv (win := [hs_ob s7 0 [.ref e7, hs_V n7], hs_ia cI e7 40 g7, hs_ob h0 0 [.ref h1, hs_V n], hs_ia cI h1 40 g]) (wr := [hs_ob k0 1 [.ref k1, hs_V 7], hs_ra cO k1 8 (hs_r8 s0 s1 s2 s3 s4 s5 s6 s7), hs_ob s0 0 [.ref e0, hs_V n0], hs_ia cI e0 40 g0, hs_ob s1 0 [.ref e1, hs_V n1], hs_ia cI e1 40 g1, hs_ob s2 0 [.ref e2, hs_V n2], hs_ia cI e2 40 g2, hs_ob s3 0 [.ref e3, hs_V n3], hs_ia cI e3 40 g3, hs_ob s4 0 [.ref e4, hs_V n4], hs_ia cI e4 40 g4, hs_ob s5 0 [.ref e5, hs_V n5], hs_ia cI e5 40 g5, hs_ob s6 0 [.ref e6, hs_V n6], hs_ia cI e6 40 g6]) (As := [.ref h0]) (rest := []) C (c_X0_copyFrom l D cI cO s7 e7 n7 g7 h0 h1 n g (by omega)) 0 0 rfl rfl rfl (cwV 1 C.1.2.2.2.2 gX1_remember_X0_copyFrom rfl rfl rfl (by decide +kernel) ⟨Nat.le_of_ble_eq_true rfl, Nat.le_of_ble_eq_true rfl⟩) rfl rfl (Nat.le_of_ble_eq_true rfl) dX1_remember_23 ⟨Nat.le_of_ble_eq_true rfl, Nat.le_of_ble_eq_true rfl⟩ (fun uu2 hp => ?_)
    refine hs_re0 (w' := [hs_ob h0 0 [.ref h1, hs_V n], hs_ia cI h1 40 g, hs_ob k0 1 [.ref k1, hs_V 7], hs_ra cO k1 8 (hs_r8 s0 s1 s2 s3 s4 s5 s6 s7), hs_ob s0 0 [.ref e0, hs_V n0], hs_ia cI e0 40 g0, hs_ob s1 0 [.ref e1, hs_V n1], hs_ia cI e1 40 g1, hs_ob s2 0 [.ref e2, hs_V n2], hs_ia cI e2 40 g2, hs_ob s3 0 [.ref e3, hs_V n3], hs_ia cI e3 40 g3, hs_ob s4 0 [.ref e4, hs_V n4], hs_ia cI e4 40 g4, hs_ob s5 0 [.ref e5, hs_V n5], hs_ia cI e5 40 g5, hs_ob s6 0 [.ref e6, hs_V n6], hs_ia cI e6 40 g6, hs_ob s7 0 [.ref e7, hs_V n], hs_ia cI e7 40 (hs_cp g g7 0 0 n)]) [2, 3, 4, 5, 6, 7, 8, 9, 10, 11, 12, 13, 14, 15, 16, 17, 18, 19, 0, 1] rfl (by decide) ?_
    refine hs_aload_n C dX1_remember_26 rfl 0 rfl ?_
    refine hs_dup C dX1_remember_27 rfl ?_
    refine hs_get C u1 2 rfl rfl 1 (by decide) f17 rfl rfl dX1_remember_28 ?_
    refine hs_iconst C dX1_remember_31 ?_
    refine hs_iadd C dX1_remember_32 ?_
    refine hs_put (ty := .int) (ws' := [hs_ob h0 0 [.ref h1, hs_V n], hs_ia cI h1 40 g, hs_ob k0 1 [.ref k1, hs_V (7 + 1)], hs_ra cO k1 8 (hs_r8 s0 s1 s2 s3 s4 s5 s6 s7), hs_ob s0 0 [.ref e0, hs_V n0], hs_ia cI e0 40 g0, hs_ob s1 0 [.ref e1, hs_V n1], hs_ia cI e1 40 g1, hs_ob s2 0 [.ref e2, hs_V n2], hs_ia cI e2 40 g2, hs_ob s3 0 [.ref e3, hs_V n3], hs_ia cI e3 40 g3, hs_ob s4 0 [.ref e4, hs_V n4], hs_ia cI e4 40 g4, hs_ob s5 0 [.ref e5, hs_V n5], hs_ia cI e5 40 g5, hs_ob s6 0 [.ref e6, hs_V n6], hs_ia cI e6 40 g6, hs_ob s7 0 [.ref e7, hs_V n], hs_ia cI e7 40 (hs_cp g g7 0 0 n)]) C u1 tyX1 tyX1_ok nmX1 2 rfl rfl 1 (by decide) f17 rfl rfl (by decide +kernel) rfl rfl (Nat.le_of_ble_eq_true rfl) rfl dX1_remember_33 ?_
    exact hret _ _ () trivial dX1_remember_36
  ·
    exact absurd c1 (by decide)

set_option maxHeartbeats 4000000 in
set_option maxRecDepth 100000 in
theorem c_X1_remember_8 (l : Launch) (D : va_G) (cI cO : ClassId) (k0 : Nat) (k1 : Nat) (s0 : Nat) (s1 : Nat) (s2 : Nat) (s3 : Nat) (s4 : Nat) (s5 : Nat) (s6 : Nat) (s7 : Nat) (e0 : Nat) (e1 : Nat) (e2 : Nat) (e3 : Nat) (e4 : Nat) (e5 : Nat) (e6 : Nat) (e7 : Nat) (n0 : Int) (n1 : Int) (n2 : Int) (n3 : Int) (n4 : Int) (n5 : Int) (n6 : Int) (n7 : Int) (g0 : Int → Int) (g1 : Int → Int) (g2 : Int → Int) (g3 : Int → Int) (g4 : Int → Int) (g5 : Int → Int) (g6 : Int → Int) (g7 : Int → Int) (h0 : Nat) (h1 : Nat) (n : Int) (g : Int → Int) (hn : 0 ≤ n ∧ n ≤ 40) : hs_Mv l D cI cO yX1_remember wsX1_remember ({ frames := 2, cells := 0, slots := 0, locals := 48 } : Room) [.ref k0, .ref h0] [hs_ob h0 0 [.ref h1, hs_V n], hs_ia cI h1 40 g, hs_ob k0 1 [.ref k1, hs_V 8], hs_ra cO k1 8 (hs_r8 s0 s1 s2 s3 s4 s5 s6 s7), hs_ob s0 0 [.ref e0, hs_V n0], hs_ia cI e0 40 g0, hs_ob s1 0 [.ref e1, hs_V n1], hs_ia cI e1 40 g1, hs_ob s2 0 [.ref e2, hs_V n2], hs_ia cI e2 40 g2, hs_ob s3 0 [.ref e3, hs_V n3], hs_ia cI e3 40 g3, hs_ob s4 0 [.ref e4, hs_V n4], hs_ia cI e4 40 g4, hs_ob s5 0 [.ref e5, hs_V n5], hs_ia cI e5 40 g5, hs_ob s6 0 [.ref e6, hs_V n6], hs_ia cI e6 40 g6, hs_ob s7 0 [.ref e7, hs_V n7], hs_ia cI e7 40 g7] (fun (_ : Unit) => True) (fun _ => [hs_ob h0 0 [.ref h1, hs_V n], hs_ia cI h1 40 g, hs_ob k0 1 [.ref k1, hs_V 8], hs_ra cO k1 8 (hs_r8 s1 s2 s3 s4 s5 s6 s7 s0), hs_ob s1 0 [.ref e1, hs_V n1], hs_ia cI e1 40 g1, hs_ob s2 0 [.ref e2, hs_V n2], hs_ia cI e2 40 g2, hs_ob s3 0 [.ref e3, hs_V n3], hs_ia cI e3 40 g3, hs_ob s4 0 [.ref e4, hs_V n4], hs_ia cI e4 40 g4, hs_ob s5 0 [.ref e5, hs_V n5], hs_ia cI e5 40 g5, hs_ob s6 0 [.ref e6, hs_V n6], hs_ia cI e6 40 g6, hs_ob s7 0 [.ref e7, hs_V n7], hs_ia cI e7 40 g7, hs_ob s0 0 [.ref e0, hs_V n], hs_ia cI e0 40 (hs_cp g g0 0 0 n)]) 0 0 := by
  refine hs_enterV (cc := cX1_remember) (maxL := 2) (by decide +kernel) rfl (Nat.le_of_ble_eq_true rfl) (fun p e s m args below meth c A H0 Q C hin2 hret => ?_)
  have f17 := C.1.2.2.2.2 (.fieldLink RX1 17 "HistogramStairs$History" "count" "I") (by decide +kernel)
  have u1 : ∀ w ∈ wsX10, w ∈ wsX1_remember := by decide +kernel
  have f11 := C.1.2.2.2.2 (.fieldLink RX1 11 "HistogramStairs$History" "states" "[LHistogramStairs$Columns;") (by decide +kernel)
  refine hs_lvs (lv' := [(0, .ref k0), (1, .ref h0)]) [0, 1] rfl ?_
  refine hs_aload_n C dX1_remember_0 rfl 0 rfl ?_
  refine hs_get C u1 2 rfl rfl 1 (by decide) f17 rfl rfl dX1_remember_1 ?_
  refine hs_bipush C dX1_remember_4 (by decide) ?_
  refine hs_icmp_ne (tgt := 13) C dX1_remember_6 (by decide) (by omega) (by omega) (fun c1 => ?_) (fun c1 => ?_)
  ·
    exact absurd c1 (by decide)
  ·
    refine hs_aload_n C dX1_remember_9 rfl 0 rfl ?_
    refine hs_re0 (w' := [hs_ob k0 1 [.ref k1, hs_V 8], hs_ra cO k1 8 (hs_r8 s0 s1 s2 s3 s4 s5 s6 s7), hs_ob s0 0 [.ref e0, hs_V n0], hs_ob s1 0 [.ref e1, hs_V n1], hs_ob s2 0 [.ref e2, hs_V n2], hs_ob s3 0 [.ref e3, hs_V n3], hs_ob s4 0 [.ref e4, hs_V n4], hs_ob s5 0 [.ref e5, hs_V n5], hs_ob s6 0 [.ref e6, hs_V n6], hs_ob s7 0 [.ref e7, hs_V n7], hs_ob h0 0 [.ref h1, hs_V n], hs_ia cI h1 40 g, hs_ia cI e0 40 g0, hs_ia cI e1 40 g1, hs_ia cI e2 40 g2, hs_ia cI e3 40 g3, hs_ia cI e4 40 g4, hs_ia cI e5 40 g5, hs_ia cI e6 40 g6, hs_ia cI e7 40 g7]) [2, 3, 4, 6, 8, 10, 12, 14, 16, 18, 0, 1, 5, 7, 9, 11, 13, 15, 17, 19] rfl (by decide) ?_
    refine hs_callVv (win := [hs_ob k0 1 [.ref k1, hs_V 8], hs_ra cO k1 8 (hs_r8 s0 s1 s2 s3 s4 s5 s6 s7), hs_ob s0 0 [.ref e0, hs_V n0], hs_ob s1 0 [.ref e1, hs_V n1], hs_ob s2 0 [.ref e2, hs_V n2], hs_ob s3 0 [.ref e3, hs_V n3], hs_ob s4 0 [.ref e4, hs_V n4], hs_ob s5 0 [.ref e5, hs_V n5], hs_ob s6 0 [.ref e6, hs_V n6], hs_ob s7 0 [.ref e7, hs_V n7]]) (wr := [hs_ob h0 0 [.ref h1, hs_V n], hs_ia cI h1 40 g, hs_ia cI e0 40 g0, hs_ia cI e1 40 g1, hs_ia cI e2 40 g2, hs_ia cI e3 40 g3, hs_ia cI e4 40 g4, hs_ia cI e5 40 g5, hs_ia cI e6 40 g6, hs_ia cI e7 40 g7]) (As := []) (rest := []) C (c_X1_dropOldest l D cI cO k0 k1 8 s0 s1 s2 s3 s4 s5 s6 s7 e0 e1 e2 e3 e4 e5 e6 e7 n0 n1 n2 n3 n4 n5 n6 n7 ) 1 0 rfl rfl rfl (cwV 0 C.1.2.2.2.2 gX1_remember_X1_dropOldest rfl rfl rfl (by decide +kernel) ⟨Nat.le_of_ble_eq_true rfl, Nat.le_of_ble_eq_true rfl⟩) rfl rfl (Nat.le_of_ble_eq_true rfl) dX1_remember_10 ⟨Nat.le_of_ble_eq_true rfl, Nat.le_of_ble_eq_true rfl⟩ (fun uu2 hp => ?_)
    refine hs_re0 (w' := [hs_ob h0 0 [.ref h1, hs_V n], hs_ia cI h1 40 g, hs_ob k0 1 [.ref k1, hs_V (8 - 1)], hs_ra cO k1 8 (hs_r8 s1 s2 s3 s4 s5 s6 s7 s0), hs_ob s0 0 [.ref e0, hs_V n0], hs_ia cI e0 40 g0, hs_ob s1 0 [.ref e1, hs_V n1], hs_ia cI e1 40 g1, hs_ob s2 0 [.ref e2, hs_V n2], hs_ia cI e2 40 g2, hs_ob s3 0 [.ref e3, hs_V n3], hs_ia cI e3 40 g3, hs_ob s4 0 [.ref e4, hs_V n4], hs_ia cI e4 40 g4, hs_ob s5 0 [.ref e5, hs_V n5], hs_ia cI e5 40 g5, hs_ob s6 0 [.ref e6, hs_V n6], hs_ia cI e6 40 g6, hs_ob s7 0 [.ref e7, hs_V n7], hs_ia cI e7 40 g7]) [10, 11, 0, 1, 2, 12, 3, 13, 4, 14, 5, 15, 6, 16, 7, 17, 8, 18, 9, 19] rfl (by decide) ?_
    refine hs_aload_n C dX1_remember_13 rfl 0 rfl ?_
    refine hs_get C u1 2 rfl rfl 0 (by decide) f11 rfl rfl dX1_remember_14 ?_
    refine hs_aload_n C dX1_remember_17 rfl 0 rfl ?_
    refine hs_get C u1 2 rfl rfl 1 (by decide) f17 rfl rfl dX1_remember_18 ?_
    refine hs_aald (v := .ref s0) C 3 rfl (by omega) rfl dX1_remember_21 ?_
    refine hs_aload_n C dX1_remember_22 rfl 1 rfl ?_
    refine hs_re0 (w' := [hs_ob s0 0 [.ref e0, hs_V n0], hs_ia cI e0 40 g0, hs_ob h0 0 [.ref h1, hs_V n], hs_ia cI h1 40 g, hs_ob k0 1 [.ref k1, hs_V (8 - 1)], hs_ra cO k1 8 (hs_r8 s1 s2 s3 s4 s5 s6 s7 s0), hs_ob s1 0 [.ref e1, hs_V n1], hs_ia cI e1 40 g1, hs_ob s2 0 [.ref e2, hs_V n2], hs_ia cI e2 40 g2, hs_ob s3 0 [.ref e3, hs_V n3], hs_ia cI e3 40 g3, hs_ob s4 0 [.ref e4, hs_V n4], hs_ia cI e4 40 g4, hs_ob s5 0 [.ref e5, hs_V n5], hs_ia cI e5 40 g5, hs_ob s6 0 [.ref e6, hs_V n6], hs_ia cI e6 40 g6, hs_ob s7 0 [.ref e7, hs_V n7], hs_ia cI e7 40 g7]) [4, 5, 0, 1, 2, 3, 6, 7, 8, 9, 10, 11, 12, 13, 14, 15, 16, 17, 18, 19] rfl (by decide) ?_
    refine hs_callVv (win := [hs_ob s0 0 [.ref e0, hs_V n0], hs_ia cI e0 40 g0, hs_ob h0 0 [.ref h1, hs_V n], hs_ia cI h1 40 g]) (wr := [hs_ob k0 1 [.ref k1, hs_V (8 - 1)], hs_ra cO k1 8 (hs_r8 s1 s2 s3 s4 s5 s6 s7 s0), hs_ob s1 0 [.ref e1, hs_V n1], hs_ia cI e1 40 g1, hs_ob s2 0 [.ref e2, hs_V n2], hs_ia cI e2 40 g2, hs_ob s3 0 [.ref e3, hs_V n3], hs_ia cI e3 40 g3, hs_ob s4 0 [.ref e4, hs_V n4], hs_ia cI e4 40 g4, hs_ob s5 0 [.ref e5, hs_V n5], hs_ia cI e5 40 g5, hs_ob s6 0 [.ref e6, hs_V n6], hs_ia cI e6 40 g6, hs_ob s7 0 [.ref e7, hs_V n7], hs_ia cI e7 40 g7]) (As := [.ref h0]) (rest := []) C (c_X0_copyFrom l D cI cO s0 e0 n0 g0 h0 h1 n g (by omega)) 0 0 rfl rfl rfl (cwV 1 C.1.2.2.2.2 gX1_remember_X0_copyFrom rfl rfl rfl (by decide +kernel) ⟨Nat.le_of_ble_eq_true rfl, Nat.le_of_ble_eq_true rfl⟩) rfl rfl (Nat.le_of_ble_eq_true rfl) dX1_remember_23 ⟨Nat.le_of_ble_eq_true rfl, Nat.le_of_ble_eq_true rfl⟩ (fun uu3 hp => ?_)
    refine hs_re0 (w' := [hs_ob h0 0 [.ref h1, hs_V n], hs_ia cI h1 40 g, hs_ob k0 1 [.ref k1, hs_V (8 - 1)], hs_ra cO k1 8 (hs_r8 s1 s2 s3 s4 s5 s6 s7 s0), hs_ob s0 0 [.ref e0, hs_V n], hs_ia cI e0 40 (hs_cp g g0 0 0 n), hs_ob s1 0 [.ref e1, hs_V n1], hs_ia cI e1 40 g1, hs_ob s2 0 [.ref e2, hs_V n2], hs_ia cI e2 40 g2, hs_ob s3 0 [.ref e3, hs_V n3], hs_ia cI e3 40 g3, hs_ob s4 0 [.ref e4, hs_V n4], hs_ia cI e4 40 g4, hs_ob s5 0 [.ref e5, hs_V n5], hs_ia cI e5 40 g5, hs_ob s6 0 [.ref e6, hs_V n6], hs_ia cI e6 40 g6, hs_ob s7 0 [.ref e7, hs_V n7], hs_ia cI e7 40 g7]) [2, 3, 4, 5, 0, 1, 6, 7, 8, 9, 10, 11, 12, 13, 14, 15, 16, 17, 18, 19] rfl (by decide) ?_
    refine hs_aload_n C dX1_remember_26 rfl 0 rfl ?_
    refine hs_dup C dX1_remember_27 rfl ?_
    refine hs_get C u1 2 rfl rfl 1 (by decide) f17 rfl rfl dX1_remember_28 ?_
    refine hs_iconst C dX1_remember_31 ?_
    refine hs_iadd C dX1_remember_32 ?_
    refine hs_put (ty := .int) (ws' := [hs_ob h0 0 [.ref h1, hs_V n], hs_ia cI h1 40 g, hs_ob k0 1 [.ref k1, hs_V ((8 - 1) + 1)], hs_ra cO k1 8 (hs_r8 s1 s2 s3 s4 s5 s6 s7 s0), hs_ob s0 0 [.ref e0, hs_V n], hs_ia cI e0 40 (hs_cp g g0 0 0 n), hs_ob s1 0 [.ref e1, hs_V n1], hs_ia cI e1 40 g1, hs_ob s2 0 [.ref e2, hs_V n2], hs_ia cI e2 40 g2, hs_ob s3 0 [.ref e3, hs_V n3], hs_ia cI e3 40 g3, hs_ob s4 0 [.ref e4, hs_V n4], hs_ia cI e4 40 g4, hs_ob s5 0 [.ref e5, hs_V n5], hs_ia cI e5 40 g5, hs_ob s6 0 [.ref e6, hs_V n6], hs_ia cI e6 40 g6, hs_ob s7 0 [.ref e7, hs_V n7], hs_ia cI e7 40 g7]) C u1 tyX1 tyX1_ok nmX1 2 rfl rfl 1 (by decide) f17 rfl rfl (by decide +kernel) rfl rfl (Nat.le_of_ble_eq_true rfl) rfl dX1_remember_33 ?_
    refine hs_re0 (w' := [hs_ob h0 0 [.ref h1, hs_V n], hs_ia cI h1 40 g, hs_ob k0 1 [.ref k1, hs_V ((8 - 1) + 1)], hs_ra cO k1 8 (hs_r8 s1 s2 s3 s4 s5 s6 s7 s0), hs_ob s1 0 [.ref e1, hs_V n1], hs_ia cI e1 40 g1, hs_ob s2 0 [.ref e2, hs_V n2], hs_ia cI e2 40 g2, hs_ob s3 0 [.ref e3, hs_V n3], hs_ia cI e3 40 g3, hs_ob s4 0 [.ref e4, hs_V n4], hs_ia cI e4 40 g4, hs_ob s5 0 [.ref e5, hs_V n5], hs_ia cI e5 40 g5, hs_ob s6 0 [.ref e6, hs_V n6], hs_ia cI e6 40 g6, hs_ob s7 0 [.ref e7, hs_V n7], hs_ia cI e7 40 g7, hs_ob s0 0 [.ref e0, hs_V n], hs_ia cI e0 40 (hs_cp g g0 0 0 n)]) [0, 1, 2, 3, 6, 7, 8, 9, 10, 11, 12, 13, 14, 15, 16, 17, 18, 19, 4, 5] rfl (by decide) ?_
    exact hret _ _ () trivial dX1_remember_36

set_option maxHeartbeats 4000000 in
set_option maxRecDepth 100000 in
theorem c_X1_restore_1 (l : Launch) (D : va_G) (cI cO : ClassId) (k0 : Nat) (k1 : Nat) (s0 : Nat) (s1 : Nat) (s2 : Nat) (s3 : Nat) (s4 : Nat) (s5 : Nat) (s6 : Nat) (s7 : Nat) (e0 : Nat) (e1 : Nat) (e2 : Nat) (e3 : Nat) (e4 : Nat) (e5 : Nat) (e6 : Nat) (e7 : Nat) (n0 : Int) (n1 : Int) (n2 : Int) (n3 : Int) (n4 : Int) (n5 : Int) (n6 : Int) (n7 : Int) (g0 : Int → Int) (g1 : Int → Int) (g2 : Int → Int) (g3 : Int → Int) (g4 : Int → Int) (g5 : Int → Int) (g6 : Int → Int) (g7 : Int → Int) (h0 : Nat) (h1 : Nat) (n : Int) (g : Int → Int) (hn : 0 ≤ n ∧ n ≤ 40) (hnj : 0 ≤ n0 ∧ n0 ≤ 40) : hs_Mv l D cI cO yX1_restore wsX1_restore ({ frames := 2, cells := 0, slots := 0, locals := 47 } : Room) [.ref k0, .ref h0] [hs_ob h0 0 [.ref h1, hs_V n], hs_ia cI h1 40 g, hs_ob k0 1 [.ref k1, hs_V 1], hs_ra cO k1 8 (hs_r8 s0 s1 s2 s3 s4 s5 s6 s7), hs_ob s0 0 [.ref e0, hs_V n0], hs_ia cI e0 40 g0, hs_ob s1 0 [.ref e1, hs_V n1], hs_ia cI e1 40 g1, hs_ob s2 0 [.ref e2, hs_V n2], hs_ia cI e2 40 g2, hs_ob s3 0 [.ref e3, hs_V n3], hs_ia cI e3 40 g3, hs_ob s4 0 [.ref e4, hs_V n4], hs_ia cI e4 40 g4, hs_ob s5 0 [.ref e5, hs_V n5], hs_ia cI e5 40 g5, hs_ob s6 0 [.ref e6, hs_V n6], hs_ia cI e6 40 g6, hs_ob s7 0 [.ref e7, hs_V n7], hs_ia cI e7 40 g7] (fun (_ : Unit) => True) (fun _ => [hs_ob h0 0 [.ref h1, hs_V n0], hs_ia cI h1 40 (hs_cp g0 g 0 0 n0), hs_ob k0 1 [.ref k1, hs_V 0], hs_ra cO k1 8 (hs_r8 s0 s1 s2 s3 s4 s5 s6 s7), hs_ob s0 0 [.ref e0, hs_V n0], hs_ia cI e0 40 g0, hs_ob s1 0 [.ref e1, hs_V n1], hs_ia cI e1 40 g1, hs_ob s2 0 [.ref e2, hs_V n2], hs_ia cI e2 40 g2, hs_ob s3 0 [.ref e3, hs_V n3], hs_ia cI e3 40 g3, hs_ob s4 0 [.ref e4, hs_V n4], hs_ia cI e4 40 g4, hs_ob s5 0 [.ref e5, hs_V n5], hs_ia cI e5 40 g5, hs_ob s6 0 [.ref e6, hs_V n6], hs_ia cI e6 40 g6, hs_ob s7 0 [.ref e7, hs_V n7], hs_ia cI e7 40 g7]) 0 0 := by
  refine hs_enterV (cc := cX1_restore) (maxL := 2) (by decide +kernel) rfl (Nat.le_of_ble_eq_true rfl) (fun p e s m args below meth c A H0 Q C hin2 hret => ?_)
  have f17 := C.1.2.2.2.2 (.fieldLink RX1 17 "HistogramStairs$History" "count" "I") (by decide +kernel)
  have u1 : ∀ w ∈ wsX10, w ∈ wsX1_restore := by decide +kernel
  have f11 := C.1.2.2.2.2 (.fieldLink RX1 11 "HistogramStairs$History" "states" "[LHistogramStairs$Columns;") (by decide +kernel)
  refine hs_lvs (lv' := [(0, .ref k0), (1, .ref h0)]) [0, 1] rfl ?_
  refine hs_aload_n C dX1_restore_0 rfl 0 rfl ?_
  refine hs_dup C dX1_restore_1 rfl ?_
  refine hs_get C u1 2 rfl rfl 1 (by decide) f17 rfl rfl dX1_restore_2 ?_
  refine hs_iconst C dX1_restore_5 ?_
  refine hs_isub C dX1_restore_6 ?_
  refine hs_put (ty := .int) (ws' := [hs_ob h0 0 [.ref h1, hs_V n], hs_ia cI h1 40 g, hs_ob k0 1 [.ref k1, hs_V (1 - 1)], hs_ra cO k1 8 (hs_r8 s0 s1 s2 s3 s4 s5 s6 s7), hs_ob s0 0 [.ref e0, hs_V n0], hs_ia cI e0 40 g0, hs_ob s1 0 [.ref e1, hs_V n1], hs_ia cI e1 40 g1, hs_ob s2 0 [.ref e2, hs_V n2], hs_ia cI e2 40 g2, hs_ob s3 0 [.ref e3, hs_V n3], hs_ia cI e3 40 g3, hs_ob s4 0 [.ref e4, hs_V n4], hs_ia cI e4 40 g4, hs_ob s5 0 [.ref e5, hs_V n5], hs_ia cI e5 40 g5, hs_ob s6 0 [.ref e6, hs_V n6], hs_ia cI e6 40 g6, hs_ob s7 0 [.ref e7, hs_V n7], hs_ia cI e7 40 g7]) C u1 tyX1 tyX1_ok nmX1 2 rfl rfl 1 (by decide) f17 rfl rfl (by decide +kernel) rfl rfl (Nat.le_of_ble_eq_true rfl) rfl dX1_restore_7 ?_
  refine hs_aload_n C dX1_restore_10 rfl 1 rfl ?_
  refine hs_aload_n C dX1_restore_11 rfl 0 rfl ?_
  refine hs_get C u1 2 rfl rfl 0 (by decide) f11 rfl rfl dX1_restore_12 ?_
  refine hs_aload_n C dX1_restore_15 rfl 0 rfl ?_
  refine hs_get C u1 2 rfl rfl 1 (by decide) f17 rfl rfl dX1_restore_16 ?_
  refine hs_aald (v := .ref s0) C 3 rfl (by omega) rfl dX1_restore_19 ?_
  refine hs_re0 (w' := [hs_ob h0 0 [.ref h1, hs_V n], hs_ia cI h1 40 g, hs_ob s0 0 [.ref e0, hs_V n0], hs_ia cI e0 40 g0, hs_ob k0 1 [.ref k1, hs_V (1 - 1)], hs_ra cO k1 8 (hs_r8 s0 s1 s2 s3 s4 s5 s6 s7), hs_ob s1 0 [.ref e1, hs_V n1], hs_ia cI e1 40 g1, hs_ob s2 0 [.ref e2, hs_V n2], hs_ia cI e2 40 g2, hs_ob s3 0 [.ref e3, hs_V n3], hs_ia cI e3 40 g3, hs_ob s4 0 [.ref e4, hs_V n4], hs_ia cI e4 40 g4, hs_ob s5 0 [.ref e5, hs_V n5], hs_ia cI e5 40 g5, hs_ob s6 0 [.ref e6, hs_V n6], hs_ia cI e6 40 g6, hs_ob s7 0 [.ref e7, hs_V n7], hs_ia cI e7 40 g7]) [0, 1, 4, 5, 2, 3, 6, 7, 8, 9, 10, 11, 12, 13, 14, 15, 16, 17, 18, 19] rfl (by decide) ?_
  refine hs_callVv (win := [hs_ob h0 0 [.ref h1, hs_V n], hs_ia cI h1 40 g, hs_ob s0 0 [.ref e0, hs_V n0], hs_ia cI e0 40 g0]) (wr := [hs_ob k0 1 [.ref k1, hs_V (1 - 1)], hs_ra cO k1 8 (hs_r8 s0 s1 s2 s3 s4 s5 s6 s7), hs_ob s1 0 [.ref e1, hs_V n1], hs_ia cI e1 40 g1, hs_ob s2 0 [.ref e2, hs_V n2], hs_ia cI e2 40 g2, hs_ob s3 0 [.ref e3, hs_V n3], hs_ia cI e3 40 g3, hs_ob s4 0 [.ref e4, hs_V n4], hs_ia cI e4 40 g4, hs_ob s5 0 [.ref e5, hs_V n5], hs_ia cI e5 40 g5, hs_ob s6 0 [.ref e6, hs_V n6], hs_ia cI e6 40 g6, hs_ob s7 0 [.ref e7, hs_V n7], hs_ia cI e7 40 g7]) (As := [.ref s0]) (rest := []) C (c_X0_copyFrom l D cI cO h0 h1 n g s0 e0 n0 g0 (by omega)) 0 0 rfl rfl rfl (cwV 1 C.1.2.2.2.2 gX1_restore_X0_copyFrom rfl rfl rfl (by decide +kernel) ⟨Nat.le_of_ble_eq_true rfl, Nat.le_of_ble_eq_true rfl⟩) rfl rfl (Nat.le_of_ble_eq_true rfl) dX1_restore_20 ⟨Nat.le_of_ble_eq_true rfl, Nat.le_of_ble_eq_true rfl⟩ (fun uu1 hp => ?_)
  refine hs_re0 (w' := [hs_ob h0 0 [.ref h1, hs_V n0], hs_ia cI h1 40 (hs_cp g0 g 0 0 n0), hs_ob k0 1 [.ref k1, hs_V (1 - 1)], hs_ra cO k1 8 (hs_r8 s0 s1 s2 s3 s4 s5 s6 s7), hs_ob s0 0 [.ref e0, hs_V n0], hs_ia cI e0 40 g0, hs_ob s1 0 [.ref e1, hs_V n1], hs_ia cI e1 40 g1, hs_ob s2 0 [.ref e2, hs_V n2], hs_ia cI e2 40 g2, hs_ob s3 0 [.ref e3, hs_V n3], hs_ia cI e3 40 g3, hs_ob s4 0 [.ref e4, hs_V n4], hs_ia cI e4 40 g4, hs_ob s5 0 [.ref e5, hs_V n5], hs_ia cI e5 40 g5, hs_ob s6 0 [.ref e6, hs_V n6], hs_ia cI e6 40 g6, hs_ob s7 0 [.ref e7, hs_V n7], hs_ia cI e7 40 g7]) [0, 1, 4, 5, 2, 3, 6, 7, 8, 9, 10, 11, 12, 13, 14, 15, 16, 17, 18, 19] rfl (by decide) ?_
  exact hret _ _ () trivial dX1_restore_23

set_option maxHeartbeats 4000000 in
set_option maxRecDepth 100000 in
theorem c_X1_restore_2 (l : Launch) (D : va_G) (cI cO : ClassId) (k0 : Nat) (k1 : Nat) (s0 : Nat) (s1 : Nat) (s2 : Nat) (s3 : Nat) (s4 : Nat) (s5 : Nat) (s6 : Nat) (s7 : Nat) (e0 : Nat) (e1 : Nat) (e2 : Nat) (e3 : Nat) (e4 : Nat) (e5 : Nat) (e6 : Nat) (e7 : Nat) (n0 : Int) (n1 : Int) (n2 : Int) (n3 : Int) (n4 : Int) (n5 : Int) (n6 : Int) (n7 : Int) (g0 : Int → Int) (g1 : Int → Int) (g2 : Int → Int) (g3 : Int → Int) (g4 : Int → Int) (g5 : Int → Int) (g6 : Int → Int) (g7 : Int → Int) (h0 : Nat) (h1 : Nat) (n : Int) (g : Int → Int) (hn : 0 ≤ n ∧ n ≤ 40) (hnj : 0 ≤ n1 ∧ n1 ≤ 40) : hs_Mv l D cI cO yX1_restore wsX1_restore ({ frames := 2, cells := 0, slots := 0, locals := 47 } : Room) [.ref k0, .ref h0] [hs_ob h0 0 [.ref h1, hs_V n], hs_ia cI h1 40 g, hs_ob k0 1 [.ref k1, hs_V 2], hs_ra cO k1 8 (hs_r8 s0 s1 s2 s3 s4 s5 s6 s7), hs_ob s0 0 [.ref e0, hs_V n0], hs_ia cI e0 40 g0, hs_ob s1 0 [.ref e1, hs_V n1], hs_ia cI e1 40 g1, hs_ob s2 0 [.ref e2, hs_V n2], hs_ia cI e2 40 g2, hs_ob s3 0 [.ref e3, hs_V n3], hs_ia cI e3 40 g3, hs_ob s4 0 [.ref e4, hs_V n4], hs_ia cI e4 40 g4, hs_ob s5 0 [.ref e5, hs_V n5], hs_ia cI e5 40 g5, hs_ob s6 0 [.ref e6, hs_V n6], hs_ia cI e6 40 g6, hs_ob s7 0 [.ref e7, hs_V n7], hs_ia cI e7 40 g7] (fun (_ : Unit) => True) (fun _ => [hs_ob h0 0 [.ref h1, hs_V n1], hs_ia cI h1 40 (hs_cp g1 g 0 0 n1), hs_ob k0 1 [.ref k1, hs_V 1], hs_ra cO k1 8 (hs_r8 s0 s1 s2 s3 s4 s5 s6 s7), hs_ob s0 0 [.ref e0, hs_V n0], hs_ia cI e0 40 g0, hs_ob s1 0 [.ref e1, hs_V n1], hs_ia cI e1 40 g1, hs_ob s2 0 [.ref e2, hs_V n2], hs_ia cI e2 40 g2, hs_ob s3 0 [.ref e3, hs_V n3], hs_ia cI e3 40 g3, hs_ob s4 0 [.ref e4, hs_V n4], hs_ia cI e4 40 g4, hs_ob s5 0 [.ref e5, hs_V n5], hs_ia cI e5 40 g5, hs_ob s6 0 [.ref e6, hs_V n6], hs_ia cI e6 40 g6, hs_ob s7 0 [.ref e7, hs_V n7], hs_ia cI e7 40 g7]) 0 0 := by
  refine hs_enterV (cc := cX1_restore) (maxL := 2) (by decide +kernel) rfl (Nat.le_of_ble_eq_true rfl) (fun p e s m args below meth c A H0 Q C hin2 hret => ?_)
  have f17 := C.1.2.2.2.2 (.fieldLink RX1 17 "HistogramStairs$History" "count" "I") (by decide +kernel)
  have u1 : ∀ w ∈ wsX10, w ∈ wsX1_restore := by decide +kernel
  have f11 := C.1.2.2.2.2 (.fieldLink RX1 11 "HistogramStairs$History" "states" "[LHistogramStairs$Columns;") (by decide +kernel)
  refine hs_lvs (lv' := [(0, .ref k0), (1, .ref h0)]) [0, 1] rfl ?_
  refine hs_aload_n C dX1_restore_0 rfl 0 rfl ?_
  refine hs_dup C dX1_restore_1 rfl ?_
  refine hs_get C u1 2 rfl rfl 1 (by decide) f17 rfl rfl dX1_restore_2 ?_
  refine hs_iconst C dX1_restore_5 ?_
  refine hs_isub C dX1_restore_6 ?_
  refine hs_put (ty := .int) (ws' := [hs_ob h0 0 [.ref h1, hs_V n], hs_ia cI h1 40 g, hs_ob k0 1 [.ref k1, hs_V (2 - 1)], hs_ra cO k1 8 (hs_r8 s0 s1 s2 s3 s4 s5 s6 s7), hs_ob s0 0 [.ref e0, hs_V n0], hs_ia cI e0 40 g0, hs_ob s1 0 [.ref e1, hs_V n1], hs_ia cI e1 40 g1, hs_ob s2 0 [.ref e2, hs_V n2], hs_ia cI e2 40 g2, hs_ob s3 0 [.ref e3, hs_V n3], hs_ia cI e3 40 g3, hs_ob s4 0 [.ref e4, hs_V n4], hs_ia cI e4 40 g4, hs_ob s5 0 [.ref e5, hs_V n5], hs_ia cI e5 40 g5, hs_ob s6 0 [.ref e6, hs_V n6], hs_ia cI e6 40 g6, hs_ob s7 0 [.ref e7, hs_V n7], hs_ia cI e7 40 g7]) C u1 tyX1 tyX1_ok nmX1 2 rfl rfl 1 (by decide) f17 rfl rfl (by decide +kernel) rfl rfl (Nat.le_of_ble_eq_true rfl) rfl dX1_restore_7 ?_
  refine hs_aload_n C dX1_restore_10 rfl 1 rfl ?_
  refine hs_aload_n C dX1_restore_11 rfl 0 rfl ?_
  refine hs_get C u1 2 rfl rfl 0 (by decide) f11 rfl rfl dX1_restore_12 ?_
  refine hs_aload_n C dX1_restore_15 rfl 0 rfl ?_
  refine hs_get C u1 2 rfl rfl 1 (by decide) f17 rfl rfl dX1_restore_16 ?_
  refine hs_aald (v := .ref s1) C 3 rfl (by omega) rfl dX1_restore_19 ?_
  refine hs_re0 (w' := [hs_ob h0 0 [.ref h1, hs_V n], hs_ia cI h1 40 g, hs_ob s1 0 [.ref e1, hs_V n1], hs_ia cI e1 40 g1, hs_ob k0 1 [.ref k1, hs_V (2 - 1)], hs_ra cO k1 8 (hs_r8 s0 s1 s2 s3 s4 s5 s6 s7), hs_ob s0 0 [.ref e0, hs_V n0], hs_ia cI e0 40 g0, hs_ob s2 0 [.ref e2, hs_V n2], hs_ia cI e2 40 g2, hs_ob s3 0 [.ref e3, hs_V n3], hs_ia cI e3 40 g3, hs_ob s4 0 [.ref e4, hs_V n4], hs_ia cI e4 40 g4, hs_ob s5 0 [.ref e5, hs_V n5], hs_ia cI e5 40 g5, hs_ob s6 0 [.ref e6, hs_V n6], hs_ia cI e6 40 g6, hs_ob s7 0 [.ref e7, hs_V n7], hs_ia cI e7 40 g7]) [0, 1, 6, 7, 2, 3, 4, 5, 8, 9, 10, 11, 12, 13, 14, 15, 16, 17, 18, 19] rfl (by decide) ?_
  refine hs_callVv (win := [hs_ob h0 0 [.ref h1, hs_V n], hs_ia cI h1 40 g, hs_ob s1 0 [.ref e1, hs_V n1], hs_ia cI e1 40 g1]) (wr := [hs_ob k0 1 [.ref k1, hs_V (2 - 1)], hs_ra cO k1 8 (hs_r8 s0 s1 s2 s3 s4 s5 s6 s7), hs_ob s0 0 [.ref e0, hs_V n0], hs_ia cI e0 40 g0, hs_ob s2 0 [.ref e2, hs_V n2], hs_ia cI e2 40 g2, hs_ob s3 0 [.ref e3, hs_V n3], hs_ia cI e3 40 g3, hs_ob s4 0 [.ref e4, hs_V n4], hs_ia cI e4 40 g4, hs_ob s5 0 [.ref e5, hs_V n5], hs_ia cI e5 40 g5, hs_ob s6 0 [.ref e6, hs_V n6], hs_ia cI e6 40 g6, hs_ob s7 0 [.ref e7, hs_V n7], hs_ia cI e7 40 g7]) (As := [.ref s1]) (rest := []) C (c_X0_copyFrom l D cI cO h0 h1 n g s1 e1 n1 g1 (by omega)) 0 0 rfl rfl rfl (cwV 1 C.1.2.2.2.2 gX1_restore_X0_copyFrom rfl rfl rfl (by decide +kernel) ⟨Nat.le_of_ble_eq_true rfl, Nat.le_of_ble_eq_true rfl⟩) rfl rfl (Nat.le_of_ble_eq_true rfl) dX1_restore_20 ⟨Nat.le_of_ble_eq_true rfl, Nat.le_of_ble_eq_true rfl⟩ (fun uu1 hp => ?_)
  refine hs_re0 (w' := [hs_ob h0 0 [.ref h1, hs_V n1], hs_ia cI h1 40 (hs_cp g1 g 0 0 n1), hs_ob k0 1 [.ref k1, hs_V (2 - 1)], hs_ra cO k1 8 (hs_r8 s0 s1 s2 s3 s4 s5 s6 s7), hs_ob s0 0 [.ref e0, hs_V n0], hs_ia cI e0 40 g0, hs_ob s1 0 [.ref e1, hs_V n1], hs_ia cI e1 40 g1, hs_ob s2 0 [.ref e2, hs_V n2], hs_ia cI e2 40 g2, hs_ob s3 0 [.ref e3, hs_V n3], hs_ia cI e3 40 g3, hs_ob s4 0 [.ref e4, hs_V n4], hs_ia cI e4 40 g4, hs_ob s5 0 [.ref e5, hs_V n5], hs_ia cI e5 40 g5, hs_ob s6 0 [.ref e6, hs_V n6], hs_ia cI e6 40 g6, hs_ob s7 0 [.ref e7, hs_V n7], hs_ia cI e7 40 g7]) [0, 1, 4, 5, 6, 7, 2, 3, 8, 9, 10, 11, 12, 13, 14, 15, 16, 17, 18, 19] rfl (by decide) ?_
  exact hret _ _ () trivial dX1_restore_23

set_option maxHeartbeats 4000000 in
set_option maxRecDepth 100000 in
theorem c_X1_restore_3 (l : Launch) (D : va_G) (cI cO : ClassId) (k0 : Nat) (k1 : Nat) (s0 : Nat) (s1 : Nat) (s2 : Nat) (s3 : Nat) (s4 : Nat) (s5 : Nat) (s6 : Nat) (s7 : Nat) (e0 : Nat) (e1 : Nat) (e2 : Nat) (e3 : Nat) (e4 : Nat) (e5 : Nat) (e6 : Nat) (e7 : Nat) (n0 : Int) (n1 : Int) (n2 : Int) (n3 : Int) (n4 : Int) (n5 : Int) (n6 : Int) (n7 : Int) (g0 : Int → Int) (g1 : Int → Int) (g2 : Int → Int) (g3 : Int → Int) (g4 : Int → Int) (g5 : Int → Int) (g6 : Int → Int) (g7 : Int → Int) (h0 : Nat) (h1 : Nat) (n : Int) (g : Int → Int) (hn : 0 ≤ n ∧ n ≤ 40) (hnj : 0 ≤ n2 ∧ n2 ≤ 40) : hs_Mv l D cI cO yX1_restore wsX1_restore ({ frames := 2, cells := 0, slots := 0, locals := 47 } : Room) [.ref k0, .ref h0] [hs_ob h0 0 [.ref h1, hs_V n], hs_ia cI h1 40 g, hs_ob k0 1 [.ref k1, hs_V 3], hs_ra cO k1 8 (hs_r8 s0 s1 s2 s3 s4 s5 s6 s7), hs_ob s0 0 [.ref e0, hs_V n0], hs_ia cI e0 40 g0, hs_ob s1 0 [.ref e1, hs_V n1], hs_ia cI e1 40 g1, hs_ob s2 0 [.ref e2, hs_V n2], hs_ia cI e2 40 g2, hs_ob s3 0 [.ref e3, hs_V n3], hs_ia cI e3 40 g3, hs_ob s4 0 [.ref e4, hs_V n4], hs_ia cI e4 40 g4, hs_ob s5 0 [.ref e5, hs_V n5], hs_ia cI e5 40 g5, hs_ob s6 0 [.ref e6, hs_V n6], hs_ia cI e6 40 g6, hs_ob s7 0 [.ref e7, hs_V n7], hs_ia cI e7 40 g7] (fun (_ : Unit) => True) (fun _ => [hs_ob h0 0 [.ref h1, hs_V n2], hs_ia cI h1 40 (hs_cp g2 g 0 0 n2), hs_ob k0 1 [.ref k1, hs_V 2], hs_ra cO k1 8 (hs_r8 s0 s1 s2 s3 s4 s5 s6 s7), hs_ob s0 0 [.ref e0, hs_V n0], hs_ia cI e0 40 g0, hs_ob s1 0 [.ref e1, hs_V n1], hs_ia cI e1 40 g1, hs_ob s2 0 [.ref e2, hs_V n2], hs_ia cI e2 40 g2, hs_ob s3 0 [.ref e3, hs_V n3], hs_ia cI e3 40 g3, hs_ob s4 0 [.ref e4, hs_V n4], hs_ia cI e4 40 g4, hs_ob s5 0 [.ref e5, hs_V n5], hs_ia cI e5 40 g5, hs_ob s6 0 [.ref e6, hs_V n6], hs_ia cI e6 40 g6, hs_ob s7 0 [.ref e7, hs_V n7], hs_ia cI e7 40 g7]) 0 0 := by
  refine hs_enterV (cc := cX1_restore) (maxL := 2) (by decide +kernel) rfl (Nat.le_of_ble_eq_true rfl) (fun p e s m args below meth c A H0 Q C hin2 hret => ?_)
  have f17 := C.1.2.2.2.2 (.fieldLink RX1 17 "HistogramStairs$History" "count" "I") (by decide +kernel)
  have u1 : ∀ w ∈ wsX10, w ∈ wsX1_restore := by decide +kernel
  have f11 := C.1.2.2.2.2 (.fieldLink RX1 11 "HistogramStairs$History" "states" "[LHistogramStairs$Columns;") (by decide +kernel)
  refine hs_lvs (lv' := [(0, .ref k0), (1, .ref h0)]) [0, 1] rfl ?_
  refine hs_aload_n C dX1_restore_0 rfl 0 rfl ?_
  refine hs_dup C dX1_restore_1 rfl ?_
  refine hs_get C u1 2 rfl rfl 1 (by decide) f17 rfl rfl dX1_restore_2 ?_
  refine hs_iconst C dX1_restore_5 ?_
  refine hs_isub C dX1_restore_6 ?_
  refine hs_put (ty := .int) (ws' := [hs_ob h0 0 [.ref h1, hs_V n], hs_ia cI h1 40 g, hs_ob k0 1 [.ref k1, hs_V (3 - 1)], hs_ra cO k1 8 (hs_r8 s0 s1 s2 s3 s4 s5 s6 s7), hs_ob s0 0 [.ref e0, hs_V n0], hs_ia cI e0 40 g0, hs_ob s1 0 [.ref e1, hs_V n1], hs_ia cI e1 40 g1, hs_ob s2 0 [.ref e2, hs_V n2], hs_ia cI e2 40 g2, hs_ob s3 0 [.ref e3, hs_V n3], hs_ia cI e3 40 g3, hs_ob s4 0 [.ref e4, hs_V n4], hs_ia cI e4 40 g4, hs_ob s5 0 [.ref e5, hs_V n5], hs_ia cI e5 40 g5, hs_ob s6 0 [.ref e6, hs_V n6], hs_ia cI e6 40 g6, hs_ob s7 0 [.ref e7, hs_V n7], hs_ia cI e7 40 g7]) C u1 tyX1 tyX1_ok nmX1 2 rfl rfl 1 (by decide) f17 rfl rfl (by decide +kernel) rfl rfl (Nat.le_of_ble_eq_true rfl) rfl dX1_restore_7 ?_
  refine hs_aload_n C dX1_restore_10 rfl 1 rfl ?_
  refine hs_aload_n C dX1_restore_11 rfl 0 rfl ?_
  refine hs_get C u1 2 rfl rfl 0 (by decide) f11 rfl rfl dX1_restore_12 ?_
  refine hs_aload_n C dX1_restore_15 rfl 0 rfl ?_
  refine hs_get C u1 2 rfl rfl 1 (by decide) f17 rfl rfl dX1_restore_16 ?_
  refine hs_aald (v := .ref s2) C 3 rfl (by omega) rfl dX1_restore_19 ?_
  refine hs_re0 (w' := [hs_ob h0 0 [.ref h1, hs_V n], hs_ia cI h1 40 g, hs_ob s2 0 [.ref e2, hs_V n2], hs_ia cI e2 40 g2, hs_ob k0 1 [.ref k1, hs_V (3 - 1)], hs_ra cO k1 8 (hs_r8 s0 s1 s2 s3 s4 s5 s6 s7), hs_ob s0 0 [.ref e0, hs_V n0], hs_ia cI e0 40 g0, hs_ob s1 0 [.ref e1, hs_V n1], hs_ia cI e1 40 g1, hs_ob s3 0 [.ref e3, hs_V n3], hs_ia cI e3 40 g3, hs_ob s4 0 [.ref e4, hs_V n4], hs_ia cI e4 40 g4, hs_ob s5 0 [.ref e5, hs_V n5], hs_ia cI e5 40 g5, hs_ob s6 0 [.ref e6, hs_V n6], hs_ia cI e6 40 g6, hs_ob s7 0 [.ref e7, hs_V n7], hs_ia cI e7 40 g7]) [0, 1, 8, 9, 2, 3, 4, 5, 6, 7, 10, 11, 12, 13, 14, 15, 16, 17, 18, 19] rfl (by decide) ?_
  refine hs_callVv (win := [hs_ob h0 0 [.ref h1, hs_V n], hs_ia cI h1 40 g, hs_ob s2 0 [.ref e2, hs_V n2], hs_ia cI e2 40 g2]) (wr := [hs_ob k0 1 [.ref k1, hs_V (3 - 1)], hs_ra cO k1 8 (hs_r8 s0 s1 s2 s3 s4 s5 s6 s7), hs_ob s0 0 [.ref e0, hs_V n0], hs_ia cI e0 40 g0, hs_ob s1 0 [.ref e1, hs_V n1], hs_ia cI e1 40 g1, hs_ob s3 0 [.ref e3, hs_V n3], hs_ia cI e3 40 g3, hs_ob s4 0 [.ref e4, hs_V n4], hs_ia cI e4 40 g4, hs_ob s5 0 [.ref e5, hs_V n5], hs_ia cI e5 40 g5, hs_ob s6 0 [.ref e6, hs_V n6], hs_ia cI e6 40 g6, hs_ob s7 0 [.ref e7, hs_V n7], hs_ia cI e7 40 g7]) (As := [.ref s2]) (rest := []) C (c_X0_copyFrom l D cI cO h0 h1 n g s2 e2 n2 g2 (by omega)) 0 0 rfl rfl rfl (cwV 1 C.1.2.2.2.2 gX1_restore_X0_copyFrom rfl rfl rfl (by decide +kernel) ⟨Nat.le_of_ble_eq_true rfl, Nat.le_of_ble_eq_true rfl⟩) rfl rfl (Nat.le_of_ble_eq_true rfl) dX1_restore_20 ⟨Nat.le_of_ble_eq_true rfl, Nat.le_of_ble_eq_true rfl⟩ (fun uu1 hp => ?_)
  refine hs_re0 (w' := [hs_ob h0 0 [.ref h1, hs_V n2], hs_ia cI h1 40 (hs_cp g2 g 0 0 n2), hs_ob k0 1 [.ref k1, hs_V (3 - 1)], hs_ra cO k1 8 (hs_r8 s0 s1 s2 s3 s4 s5 s6 s7), hs_ob s0 0 [.ref e0, hs_V n0], hs_ia cI e0 40 g0, hs_ob s1 0 [.ref e1, hs_V n1], hs_ia cI e1 40 g1, hs_ob s2 0 [.ref e2, hs_V n2], hs_ia cI e2 40 g2, hs_ob s3 0 [.ref e3, hs_V n3], hs_ia cI e3 40 g3, hs_ob s4 0 [.ref e4, hs_V n4], hs_ia cI e4 40 g4, hs_ob s5 0 [.ref e5, hs_V n5], hs_ia cI e5 40 g5, hs_ob s6 0 [.ref e6, hs_V n6], hs_ia cI e6 40 g6, hs_ob s7 0 [.ref e7, hs_V n7], hs_ia cI e7 40 g7]) [0, 1, 4, 5, 6, 7, 8, 9, 2, 3, 10, 11, 12, 13, 14, 15, 16, 17, 18, 19] rfl (by decide) ?_
  exact hret _ _ () trivial dX1_restore_23

set_option maxHeartbeats 4000000 in
set_option maxRecDepth 100000 in
theorem c_X1_restore_4 (l : Launch) (D : va_G) (cI cO : ClassId) (k0 : Nat) (k1 : Nat) (s0 : Nat) (s1 : Nat) (s2 : Nat) (s3 : Nat) (s4 : Nat) (s5 : Nat) (s6 : Nat) (s7 : Nat) (e0 : Nat) (e1 : Nat) (e2 : Nat) (e3 : Nat) (e4 : Nat) (e5 : Nat) (e6 : Nat) (e7 : Nat) (n0 : Int) (n1 : Int) (n2 : Int) (n3 : Int) (n4 : Int) (n5 : Int) (n6 : Int) (n7 : Int) (g0 : Int → Int) (g1 : Int → Int) (g2 : Int → Int) (g3 : Int → Int) (g4 : Int → Int) (g5 : Int → Int) (g6 : Int → Int) (g7 : Int → Int) (h0 : Nat) (h1 : Nat) (n : Int) (g : Int → Int) (hn : 0 ≤ n ∧ n ≤ 40) (hnj : 0 ≤ n3 ∧ n3 ≤ 40) : hs_Mv l D cI cO yX1_restore wsX1_restore ({ frames := 2, cells := 0, slots := 0, locals := 47 } : Room) [.ref k0, .ref h0] [hs_ob h0 0 [.ref h1, hs_V n], hs_ia cI h1 40 g, hs_ob k0 1 [.ref k1, hs_V 4], hs_ra cO k1 8 (hs_r8 s0 s1 s2 s3 s4 s5 s6 s7), hs_ob s0 0 [.ref e0, hs_V n0], hs_ia cI e0 40 g0, hs_ob s1 0 [.ref e1, hs_V n1], hs_ia cI e1 40 g1, hs_ob s2 0 [.ref e2, hs_V n2], hs_ia cI e2 40 g2, hs_ob s3 0 [.ref e3, hs_V n3], hs_ia cI e3 40 g3, hs_ob s4 0 [.ref e4, hs_V n4], hs_ia cI e4 40 g4, hs_ob s5 0 [.ref e5, hs_V n5], hs_ia cI e5 40 g5, hs_ob s6 0 [.ref e6, hs_V n6], hs_ia cI e6 40 g6, hs_ob s7 0 [.ref e7, hs_V n7], hs_ia cI e7 40 g7] (fun (_ : Unit) => True) (fun _ => [hs_ob h0 0 [.ref h1, hs_V n3], hs_ia cI h1 40 (hs_cp g3 g 0 0 n3), hs_ob k0 1 [.ref k1, hs_V 3], hs_ra cO k1 8 (hs_r8 s0 s1 s2 s3 s4 s5 s6 s7), hs_ob s0 0 [.ref e0, hs_V n0], hs_ia cI e0 40 g0, hs_ob s1 0 [.ref e1, hs_V n1], hs_ia cI e1 40 g1, hs_ob s2 0 [.ref e2, hs_V n2], hs_ia cI e2 40 g2, hs_ob s3 0 [.ref e3, hs_V n3], hs_ia cI e3 40 g3, hs_ob s4 0 [.ref e4, hs_V n4], hs_ia cI e4 40 g4, hs_ob s5 0 [.ref e5, hs_V n5], hs_ia cI e5 40 g5, hs_ob s6 0 [.ref e6, hs_V n6], hs_ia cI e6 40 g6, hs_ob s7 0 [.ref e7, hs_V n7], hs_ia cI e7 40 g7]) 0 0 := by
  refine hs_enterV (cc := cX1_restore) (maxL := 2) (by decide +kernel) rfl (Nat.le_of_ble_eq_true rfl) (fun p e s m args below meth c A H0 Q C hin2 hret => ?_)
  have f17 := C.1.2.2.2.2 (.fieldLink RX1 17 "HistogramStairs$History" "count" "I") (by decide +kernel)
  have u1 : ∀ w ∈ wsX10, w ∈ wsX1_restore := by decide +kernel
  have f11 := C.1.2.2.2.2 (.fieldLink RX1 11 "HistogramStairs$History" "states" "[LHistogramStairs$Columns;") (by decide +kernel)
  refine hs_lvs (lv' := [(0, .ref k0), (1, .ref h0)]) [0, 1] rfl ?_
  refine hs_aload_n C dX1_restore_0 rfl 0 rfl ?_
  refine hs_dup C dX1_restore_1 rfl ?_
  refine hs_get C u1 2 rfl rfl 1 (by decide) f17 rfl rfl dX1_restore_2 ?_
  refine hs_iconst C dX1_restore_5 ?_
  refine hs_isub C dX1_restore_6 ?_
  refine hs_put (ty := .int) (ws' := [hs_ob h0 0 [.ref h1, hs_V n], hs_ia cI h1 40 g, hs_ob k0 1 [.ref k1, hs_V (4 - 1)], hs_ra cO k1 8 (hs_r8 s0 s1 s2 s3 s4 s5 s6 s7), hs_ob s0 0 [.ref e0, hs_V n0], hs_ia cI e0 40 g0, hs_ob s1 0 [.ref e1, hs_V n1], hs_ia cI e1 40 g1, hs_ob s2 0 [.ref e2, hs_V n2], hs_ia cI e2 40 g2, hs_ob s3 0 [.ref e3, hs_V n3], hs_ia cI e3 40 g3, hs_ob s4 0 [.ref e4, hs_V n4], hs_ia cI e4 40 g4, hs_ob s5 0 [.ref e5, hs_V n5], hs_ia cI e5 40 g5, hs_ob s6 0 [.ref e6, hs_V n6], hs_ia cI e6 40 g6, hs_ob s7 0 [.ref e7, hs_V n7], hs_ia cI e7 40 g7]) C u1 tyX1 tyX1_ok nmX1 2 rfl rfl 1 (by decide) f17 rfl rfl (by decide +kernel) rfl rfl (Nat.le_of_ble_eq_true rfl) rfl dX1_restore_7 ?_
  refine hs_aload_n C dX1_restore_10 rfl 1 rfl ?_
  refine hs_aload_n C dX1_restore_11 rfl 0 rfl ?_
  refine hs_get C u1 2 rfl rfl 0 (by decide) f11 rfl rfl dX1_restore_12 ?_
  refine hs_aload_n C dX1_restore_15 rfl 0 rfl ?_
  refine hs_get C u1 2 rfl rfl 1 (by decide) f17 rfl rfl dX1_restore_16 ?_
  refine hs_aald (v := .ref s3) C 3 rfl (by omega) rfl dX1_restore_19 ?_
  refine hs_re0 (w' := [hs_ob h0 0 [.ref h1, hs_V n], hs_ia cI h1 40 g, hs_ob s3 0 [.ref e3, hs_V n3], hs_ia cI e3 40 g3, hs_ob k0 1 [.ref k1, hs_V (4 - 1)], hs_ra cO k1 8 (hs_r8 s0 s1 s2 s3 s4 s5 s6 s7), hs_ob s0 0 [.ref e0, hs_V n0], hs_ia cI e0 40 g0, hs_ob s1 0 [.ref e1, hs_V n1], hs_ia cI e1 40 g1, hs_ob s2 0 [.ref e2, hs_V n2], hs_ia cI e2 40 g2, hs_ob s4 0 [.ref e4, hs_V n4], hs_ia cI e4 40 g4, hs_ob s5 0 [.ref e5, hs_V n5], hs_ia cI e5 40 g5, hs_ob s6 0 [.ref e6, hs_V n6], hs_ia cI e6 40 g6, hs_ob s7 0 [.ref e7, hs_V n7], hs_ia cI e7 40 g7]) [0, 1, 10, 11, 2, 3, 4, 5, 6, 7, 8, 9, 12, 13, 14, 15, 16, 17, 18, 19] rfl (by decide) ?_
  refine hs_callVv (win := [hs_ob h0 0 [.ref h1, hs_V n], hs_ia cI h1 40 g, hs_ob s3 0 [.ref e3, hs_V n3], hs_ia cI e3 40 g3]) (wr := [hs_ob k0 1 [.ref k1, hs_V (4 - 1)], hs_ra cO k1 8 (hs_r8 s0 s1 s2 s3 s4 s5 s6 s7), hs_ob s0 0 [.ref e0, hs_V n0], hs_ia cI e0 40 g0, hs_ob s1 0 [.ref e1, hs_V n1], hs_ia cI e1 40 g1, hs_ob s2 0 [.ref e2, hs_V n2], hs_ia cI e2 40 g2, hs_ob s4 0 [.ref e4, hs_V n4], hs_ia cI e4 40 g4, hs_ob s5 0 [.ref e5, hs_V n5], hs_ia cI e5 40 g5, hs_ob s6 0 [.ref e6, hs_V n6], hs_ia cI e6 40 g6, hs_ob s7 0 [.ref e7, hs_V n7], hs_ia cI e7 40 g7]) (As := [.ref s3]) (rest := []) C (c_X0_copyFrom l D cI cO h0 h1 n g s3 e3 n3 g3 (by omega)) 0 0 rfl rfl rfl (cwV 1 C.1.2.2.2.2 gX1_restore_X0_copyFrom rfl rfl rfl (by decide +kernel) ⟨Nat.le_of_ble_eq_true rfl, Nat.le_of_ble_eq_true rfl⟩) rfl rfl (Nat.le_of_ble_eq_true rfl) dX1_restore_20 ⟨Nat.le_of_ble_eq_true rfl, Nat.le_of_ble_eq_true rfl⟩ (fun uu1 hp => ?_)
  refine hs_re0 (w' := [hs_ob h0 0 [.ref h1, hs_V n3], hs_ia cI h1 40 (hs_cp g3 g 0 0 n3), hs_ob k0 1 [.ref k1, hs_V (4 - 1)], hs_ra cO k1 8 (hs_r8 s0 s1 s2 s3 s4 s5 s6 s7), hs_ob s0 0 [.ref e0, hs_V n0], hs_ia cI e0 40 g0, hs_ob s1 0 [.ref e1, hs_V n1], hs_ia cI e1 40 g1, hs_ob s2 0 [.ref e2, hs_V n2], hs_ia cI e2 40 g2, hs_ob s3 0 [.ref e3, hs_V n3], hs_ia cI e3 40 g3, hs_ob s4 0 [.ref e4, hs_V n4], hs_ia cI e4 40 g4, hs_ob s5 0 [.ref e5, hs_V n5], hs_ia cI e5 40 g5, hs_ob s6 0 [.ref e6, hs_V n6], hs_ia cI e6 40 g6, hs_ob s7 0 [.ref e7, hs_V n7], hs_ia cI e7 40 g7]) [0, 1, 4, 5, 6, 7, 8, 9, 10, 11, 2, 3, 12, 13, 14, 15, 16, 17, 18, 19] rfl (by decide) ?_
  exact hret _ _ () trivial dX1_restore_23

set_option maxHeartbeats 4000000 in
set_option maxRecDepth 100000 in
theorem c_X1_restore_5 (l : Launch) (D : va_G) (cI cO : ClassId) (k0 : Nat) (k1 : Nat) (s0 : Nat) (s1 : Nat) (s2 : Nat) (s3 : Nat) (s4 : Nat) (s5 : Nat) (s6 : Nat) (s7 : Nat) (e0 : Nat) (e1 : Nat) (e2 : Nat) (e3 : Nat) (e4 : Nat) (e5 : Nat) (e6 : Nat) (e7 : Nat) (n0 : Int) (n1 : Int) (n2 : Int) (n3 : Int) (n4 : Int) (n5 : Int) (n6 : Int) (n7 : Int) (g0 : Int → Int) (g1 : Int → Int) (g2 : Int → Int) (g3 : Int → Int) (g4 : Int → Int) (g5 : Int → Int) (g6 : Int → Int) (g7 : Int → Int) (h0 : Nat) (h1 : Nat) (n : Int) (g : Int → Int) (hn : 0 ≤ n ∧ n ≤ 40) (hnj : 0 ≤ n4 ∧ n4 ≤ 40) : hs_Mv l D cI cO yX1_restore wsX1_restore ({ frames := 2, cells := 0, slots := 0, locals := 47 } : Room) [.ref k0, .ref h0] [hs_ob h0 0 [.ref h1, hs_V n], hs_ia cI h1 40 g, hs_ob k0 1 [.ref k1, hs_V 5], hs_ra cO k1 8 (hs_r8 s0 s1 s2 s3 s4 s5 s6 s7), hs_ob s0 0 [.ref e0, hs_V n0], hs_ia cI e0 40 g0, hs_ob s1 0 [.ref e1, hs_V n1], hs_ia cI e1 40 g1, hs_ob s2 0 [.ref e2, hs_V n2], hs_ia cI e2 40 g2, hs_ob s3 0 [.ref e3, hs_V n3], hs_ia cI e3 40 g3, hs_ob s4 0 [.ref e4, hs_V n4], hs_ia cI e4 40 g4, hs_ob s5 0 [.ref e5, hs_V n5], hs_ia cI e5 40 g5, hs_ob s6 0 [.ref e6, hs_V n6], hs_ia cI e6 40 g6, hs_ob s7 0 [.ref e7, hs_V n7], hs_ia cI e7 40 g7] (fun (_ : Unit) => True) (fun _ => [hs_ob h0 0 [.ref h1, hs_V n4], hs_ia cI h1 40 (hs_cp g4 g 0 0 n4), hs_ob k0 1 [.ref k1, hs_V 4], hs_ra cO k1 8 (hs_r8 s0 s1 s2 s3 s4 s5 s6 s7), hs_ob s0 0 [.ref e0, hs_V n0], hs_ia cI e0 40 g0, hs_ob s1 0 [.ref e1, hs_V n1], hs_ia cI e1 40 g1, hs_ob s2 0 [.ref e2, hs_V n2], hs_ia cI e2 40 g2, hs_ob s3 0 [.ref e3, hs_V n3], hs_ia cI e3 40 g3, hs_ob s4 0 [.ref e4, hs_V n4], hs_ia cI e4 40 g4, hs_ob s5 0 [.ref e5, hs_V n5], hs_ia cI e5 40 g5, hs_ob s6 0 [.ref e6, hs_V n6], hs_ia cI e6 40 g6, hs_ob s7 0 [.ref e7, hs_V n7], hs_ia cI e7 40 g7]) 0 0 := by
  refine hs_enterV (cc := cX1_restore) (maxL := 2) (by decide +kernel) rfl (Nat.le_of_ble_eq_true rfl) (fun p e s m args below meth c A H0 Q C hin2 hret => ?_)
  have f17 := C.1.2.2.2.2 (.fieldLink RX1 17 "HistogramStairs$History" "count" "I") (by decide +kernel)
  have u1 : ∀ w ∈ wsX10, w ∈ wsX1_restore := by decide +kernel
  have f11 := C.1.2.2.2.2 (.fieldLink RX1 11 "HistogramStairs$History" "states" "[LHistogramStairs$Columns;") (by decide +kernel)
  refine hs_lvs (lv' := [(0, .ref k0), (1, .ref h0)]) [0, 1] rfl ?_
  refine hs_aload_n C dX1_restore_0 rfl 0 rfl ?_
  refine hs_dup C dX1_restore_1 rfl ?_
  refine hs_get C u1 2 rfl rfl 1 (by decide) f17 rfl rfl dX1_restore_2 ?_
  refine hs_iconst C dX1_restore_5 ?_
  refine hs_isub C dX1_restore_6 ?_
  refine hs_put (ty := .int) (ws' := [hs_ob h0 0 [.ref h1, hs_V n], hs_ia cI h1 40 g, hs_ob k0 1 [.ref k1, hs_V (5 - 1)], hs_ra cO k1 8 (hs_r8 s0 s1 s2 s3 s4 s5 s6 s7), hs_ob s0 0 [.ref e0, hs_V n0], hs_ia cI e0 40 g0, hs_ob s1 0 [.ref e1, hs_V n1], hs_ia cI e1 40 g1, hs_ob s2 0 [.ref e2, hs_V n2], hs_ia cI e2 40 g2, hs_ob s3 0 [.ref e3, hs_V n3], hs_ia cI e3 40 g3, hs_ob s4 0 [.ref e4, hs_V n4], hs_ia cI e4 40 g4, hs_ob s5 0 [.ref e5, hs_V n5], hs_ia cI e5 40 g5, hs_ob s6 0 [.ref e6, hs_V n6], hs_ia cI e6 40 g6, hs_ob s7 0 [.ref e7, hs_V n7], hs_ia cI e7 40 g7]) C u1 tyX1 tyX1_ok nmX1 2 rfl rfl 1 (by decide) f17 rfl rfl (by decide +kernel) rfl rfl (Nat.le_of_ble_eq_true rfl) rfl dX1_restore_7 ?_
  refine hs_aload_n C dX1_restore_10 rfl 1 rfl ?_
  refine hs_aload_n C dX1_restore_11 rfl 0 rfl ?_
  refine hs_get C u1 2 rfl rfl 0 (by decide) f11 rfl rfl dX1_restore_12 ?_
  refine hs_aload_n C dX1_restore_15 rfl 0 rfl ?_
  refine hs_get C u1 2 rfl rfl 1 (by decide) f17 rfl rfl dX1_restore_16 ?_
  refine hs_aald (v := .ref s4) C 3 rfl (by omega) rfl dX1_restore_19 ?_
  refine hs_re0 (w' := [hs_ob h0 0 [.ref h1, hs_V n], hs_ia cI h1 40 g, hs_ob s4 0 [.ref e4, hs_V n4], hs_ia cI e4 40 g4, hs_ob k0 1 [.ref k1, hs_V (5 - 1)], hs_ra cO k1 8 (hs_r8 s0 s1 s2 s3 s4 s5 s6 s7), hs_ob s0 0 [.ref e0, hs_V n0], hs_ia cI e0 40 g0, hs_ob s1 0 [.ref e1, hs_V n1], hs_ia cI e1 40 g1, hs_ob s2 0 [.ref e2, hs_V n2], hs_ia cI e2 40 g2, hs_ob s3 0 [.ref e3, hs_V n3], hs_ia cI e3 40 g3, hs_ob s5 0 [.ref e5, hs_V n5], hs_ia cI e5 40 g5, hs_ob s6 0 [.ref e6, hs_V n6], hs_ia cI e6 40 g6, hs_ob s7 0 [.ref e7, hs_V n7], hs_ia cI e7 40 g7]) [0, 1, 12, 13, 2, 3, 4, 5, 6, 7, 8, 9, 10, 11, 14, 15, 16, 17, 18, 19] rfl (by decide) ?_
  refine hs_callVv (win := [hs_ob h0 0 [.ref h1, hs_V n], hs_ia cI h1 40 g, hs_ob s4 0 [.ref e4, hs_V n4], hs_ia cI e4 40 g4]) (wr := [hs_ob k0 1 [.ref k1, hs_V (5 - 1)], hs_ra cO k1 8 (hs_r8 s0 s1 s2 s3 s4 s5 s6 s7), hs_ob s0 0 [.ref e0, hs_V n0], hs_ia cI e0 40 g0, hs_ob s1 0 [.ref e1, hs_V n1], hs_ia cI e1 40 g1, hs_ob s2 0 [.ref e2, hs_V n2], hs_ia cI e2 40 g2, hs_ob s3 0 [.ref e3, hs_V n3], hs_ia cI e3 40 g3, hs_ob s5 0 [.ref e5, hs_V n5], hs_ia cI e5 40 g5, hs_ob s6 0 [.ref e6, hs_V n6], hs_ia cI e6 40 g6, hs_ob s7 0 [.ref e7, hs_V n7], hs_ia cI e7 40 g7]) (As := [.ref s4]) (rest := []) C (c_X0_copyFrom l D cI cO h0 h1 n g s4 e4 n4 g4 (by omega)) 0 0 rfl rfl rfl (cwV 1 C.1.2.2.2.2 gX1_restore_X0_copyFrom rfl rfl rfl (by decide +kernel) ⟨Nat.le_of_ble_eq_true rfl, Nat.le_of_ble_eq_true rfl⟩) rfl rfl (Nat.le_of_ble_eq_true rfl) dX1_restore_20 ⟨Nat.le_of_ble_eq_true rfl, Nat.le_of_ble_eq_true rfl⟩ (fun uu1 hp => ?_)
  refine hs_re0 (w' := [hs_ob h0 0 [.ref h1, hs_V n4], hs_ia cI h1 40 (hs_cp g4 g 0 0 n4), hs_ob k0 1 [.ref k1, hs_V (5 - 1)], hs_ra cO k1 8 (hs_r8 s0 s1 s2 s3 s4 s5 s6 s7), hs_ob s0 0 [.ref e0, hs_V n0], hs_ia cI e0 40 g0, hs_ob s1 0 [.ref e1, hs_V n1], hs_ia cI e1 40 g1, hs_ob s2 0 [.ref e2, hs_V n2], hs_ia cI e2 40 g2, hs_ob s3 0 [.ref e3, hs_V n3], hs_ia cI e3 40 g3, hs_ob s4 0 [.ref e4, hs_V n4], hs_ia cI e4 40 g4, hs_ob s5 0 [.ref e5, hs_V n5], hs_ia cI e5 40 g5, hs_ob s6 0 [.ref e6, hs_V n6], hs_ia cI e6 40 g6, hs_ob s7 0 [.ref e7, hs_V n7], hs_ia cI e7 40 g7]) [0, 1, 4, 5, 6, 7, 8, 9, 10, 11, 12, 13, 2, 3, 14, 15, 16, 17, 18, 19] rfl (by decide) ?_
  exact hret _ _ () trivial dX1_restore_23

set_option maxHeartbeats 4000000 in
set_option maxRecDepth 100000 in
theorem c_X1_restore_6 (l : Launch) (D : va_G) (cI cO : ClassId) (k0 : Nat) (k1 : Nat) (s0 : Nat) (s1 : Nat) (s2 : Nat) (s3 : Nat) (s4 : Nat) (s5 : Nat) (s6 : Nat) (s7 : Nat) (e0 : Nat) (e1 : Nat) (e2 : Nat) (e3 : Nat) (e4 : Nat) (e5 : Nat) (e6 : Nat) (e7 : Nat) (n0 : Int) (n1 : Int) (n2 : Int) (n3 : Int) (n4 : Int) (n5 : Int) (n6 : Int) (n7 : Int) (g0 : Int → Int) (g1 : Int → Int) (g2 : Int → Int) (g3 : Int → Int) (g4 : Int → Int) (g5 : Int → Int) (g6 : Int → Int) (g7 : Int → Int) (h0 : Nat) (h1 : Nat) (n : Int) (g : Int → Int) (hn : 0 ≤ n ∧ n ≤ 40) (hnj : 0 ≤ n5 ∧ n5 ≤ 40) : hs_Mv l D cI cO yX1_restore wsX1_restore ({ frames := 2, cells := 0, slots := 0, locals := 47 } : Room) [.ref k0, .ref h0] [hs_ob h0 0 [.ref h1, hs_V n], hs_ia cI h1 40 g, hs_ob k0 1 [.ref k1, hs_V 6], hs_ra cO k1 8 (hs_r8 s0 s1 s2 s3 s4 s5 s6 s7), hs_ob s0 0 [.ref e0, hs_V n0], hs_ia cI e0 40 g0, hs_ob s1 0 [.ref e1, hs_V n1], hs_ia cI e1 40 g1, hs_ob s2 0 [.ref e2, hs_V n2], hs_ia cI e2 40 g2, hs_ob s3 0 [.ref e3, hs_V n3], hs_ia cI e3 40 g3, hs_ob s4 0 [.ref e4, hs_V n4], hs_ia cI e4 40 g4, hs_ob s5 0 [.ref e5, hs_V n5], hs_ia cI e5 40 g5, hs_ob s6 0 [.ref e6, hs_V n6], hs_ia cI e6 40 g6, hs_ob s7 0 [.ref e7, hs_V n7], hs_ia cI e7 40 g7] (fun (_ : Unit) => True) (fun _ => [hs_ob h0 0 [.ref h1, hs_V n5], hs_ia cI h1 40 (hs_cp g5 g 0 0 n5), hs_ob k0 1 [.ref k1, hs_V 5], hs_ra cO k1 8 (hs_r8 s0 s1 s2 s3 s4 s5 s6 s7), hs_ob s0 0 [.ref e0, hs_V n0], hs_ia cI e0 40 g0, hs_ob s1 0 [.ref e1, hs_V n1], hs_ia cI e1 40 g1, hs_ob s2 0 [.ref e2, hs_V n2], hs_ia cI e2 40 g2, hs_ob s3 0 [.ref e3, hs_V n3], hs_ia cI e3 40 g3, hs_ob s4 0 [.ref e4, hs_V n4], hs_ia cI e4 40 g4, hs_ob s5 0 [.ref e5, hs_V n5], hs_ia cI e5 40 g5, hs_ob s6 0 [.ref e6, hs_V n6], hs_ia cI e6 40 g6, hs_ob s7 0 [.ref e7, hs_V n7], hs_ia cI e7 40 g7]) 0 0 := by
  refine hs_enterV (cc := cX1_restore) (maxL := 2) (by decide +kernel) rfl (Nat.le_of_ble_eq_true rfl) (fun p e s m args below meth c A H0 Q C hin2 hret => ?_)
  have f17 := C.1.2.2.2.2 (.fieldLink RX1 17 "HistogramStairs$History" "count" "I") (by decide +kernel)
  have u1 : ∀ w ∈ wsX10, w ∈ wsX1_restore := by decide +kernel
  have f11 := C.1.2.2.2.2 (.fieldLink RX1 11 "HistogramStairs$History" "states" "[LHistogramStairs$Columns;") (by decide +kernel)
  refine hs_lvs (lv' := [(0, .ref k0), (1, .ref h0)]) [0, 1] rfl ?_
  refine hs_aload_n C dX1_restore_0 rfl 0 rfl ?_
  refine hs_dup C dX1_restore_1 rfl ?_
  refine hs_get C u1 2 rfl rfl 1 (by decide) f17 rfl rfl dX1_restore_2 ?_
  refine hs_iconst C dX1_restore_5 ?_
  refine hs_isub C dX1_restore_6 ?_
  refine hs_put (ty := .int) (ws' := [hs_ob h0 0 [.ref h1, hs_V n], hs_ia cI h1 40 g, hs_ob k0 1 [.ref k1, hs_V (6 - 1)], hs_ra cO k1 8 (hs_r8 s0 s1 s2 s3 s4 s5 s6 s7), hs_ob s0 0 [.ref e0, hs_V n0], hs_ia cI e0 40 g0, hs_ob s1 0 [.ref e1, hs_V n1], hs_ia cI e1 40 g1, hs_ob s2 0 [.ref e2, hs_V n2], hs_ia cI e2 40 g2, hs_ob s3 0 [.ref e3, hs_V n3], hs_ia cI e3 40 g3, hs_ob s4 0 [.ref e4, hs_V n4], hs_ia cI e4 40 g4, hs_ob s5 0 [.ref e5, hs_V n5], hs_ia cI e5 40 g5, hs_ob s6 0 [.ref e6, hs_V n6], hs_ia cI e6 40 g6, hs_ob s7 0 [.ref e7, hs_V n7], hs_ia cI e7 40 g7]) C u1 tyX1 tyX1_ok nmX1 2 rfl rfl 1 (by decide) f17 rfl rfl (by decide +kernel) rfl rfl (Nat.le_of_ble_eq_true rfl) rfl dX1_restore_7 ?_
  refine hs_aload_n C dX1_restore_10 rfl 1 rfl ?_
  refine hs_aload_n C dX1_restore_11 rfl 0 rfl ?_
  refine hs_get C u1 2 rfl rfl 0 (by decide) f11 rfl rfl dX1_restore_12 ?_
  refine hs_aload_n C dX1_restore_15 rfl 0 rfl ?_
  refine hs_get C u1 2 rfl rfl 1 (by decide) f17 rfl rfl dX1_restore_16 ?_
  refine hs_aald (v := .ref s5) C 3 rfl (by omega) rfl dX1_restore_19 ?_
  refine hs_re0 (w' := [hs_ob h0 0 [.ref h1, hs_V n], hs_ia cI h1 40 g, hs_ob s5 0 [.ref e5, hs_V n5], hs_ia cI e5 40 g5, hs_ob k0 1 [.ref k1, hs_V (6 - 1)], hs_ra cO k1 8 (hs_r8 s0 s1 s2 s3 s4 s5 s6 s7), hs_ob s0 0 [.ref e0, hs_V n0], hs_ia cI e0 40 g0, hs_ob s1 0 [.ref e1, hs_V n1], hs_ia cI e1 40 g1, hs_ob s2 0 [.ref e2, hs_V n2], hs_ia cI e2 40 g2, hs_ob s3 0 [.ref e3, hs_V n3], hs_ia cI e3 40 g3, hs_ob s4 0 [.ref e4, hs_V n4], hs_ia cI e4 40 g4, hs_ob s6 0 [.ref e6, hs_V n6], hs_ia cI e6 40 g6, hs_ob s7 0 [.ref e7, hs_V n7], hs_ia cI e7 40 g7]) [0, 1, 14, 15, 2, 3, 4, 5, 6, 7, 8, 9, 10, 11, 12, 13, 16, 17, 18, 19] rfl (by decide) ?_
  refine hs_callVv (win := [hs_ob h0 0 [.ref h1, hs_V n], hs_ia cI h1 40 g, hs_ob s5 0 [.ref e5, hs_V n5], hs_ia cI e5 40 g5]) (wr := [hs_ob k0 1 [.ref k1, hs_V (6 - 1)], hs_ra cO k1 8 (hs_r8 s0 s1 s2 s3 s4 s5 s6 s7), hs_ob s0 0 [.ref e0, hs_V n0], hs_ia cI e0 40 g0, hs_ob s1 0 [.ref e1, hs_V n1], hs_ia cI e1 40 g1, hs_ob s2 0 [.ref e2, hs_V n2], hs_ia cI e2 40 g2, hs_ob s3 0 [.ref e3, hs_V n3], hs_ia cI e3 40 g3, hs_ob s4 0 [.ref e4, hs_V n4], hs_ia cI e4 40 g4, hs_ob s6 0 [.ref e6, hs_V n6], hs_ia cI e6 40 g6, hs_ob s7 0 [.ref e7, hs_V n7], hs_ia cI e7 40 g7]) (As := [.ref s5]) (rest := []) C (c_X0_copyFrom l D cI cO h0 h1 n g s5 e5 n5 g5 (by omega)) 0 0 rfl rfl rfl (cwV 1 C.1.2.2.2.2 gX1_restore_X0_copyFrom rfl rfl rfl (by decide +kernel) ⟨Nat.le_of_ble_eq_true rfl, Nat.le_of_ble_eq_true rfl⟩) rfl rfl (Nat.le_of_ble_eq_true rfl) dX1_restore_20 ⟨Nat.le_of_ble_eq_true rfl, Nat.le_of_ble_eq_true rfl⟩ (fun uu1 hp => ?_)
  refine hs_re0 (w' := [hs_ob h0 0 [.ref h1, hs_V n5], hs_ia cI h1 40 (hs_cp g5 g 0 0 n5), hs_ob k0 1 [.ref k1, hs_V (6 - 1)], hs_ra cO k1 8 (hs_r8 s0 s1 s2 s3 s4 s5 s6 s7), hs_ob s0 0 [.ref e0, hs_V n0], hs_ia cI e0 40 g0, hs_ob s1 0 [.ref e1, hs_V n1], hs_ia cI e1 40 g1, hs_ob s2 0 [.ref e2, hs_V n2], hs_ia cI e2 40 g2, hs_ob s3 0 [.ref e3, hs_V n3], hs_ia cI e3 40 g3, hs_ob s4 0 [.ref e4, hs_V n4], hs_ia cI e4 40 g4, hs_ob s5 0 [.ref e5, hs_V n5], hs_ia cI e5 40 g5, hs_ob s6 0 [.ref e6, hs_V n6], hs_ia cI e6 40 g6, hs_ob s7 0 [.ref e7, hs_V n7], hs_ia cI e7 40 g7]) [0, 1, 4, 5, 6, 7, 8, 9, 10, 11, 12, 13, 14, 15, 2, 3, 16, 17, 18, 19] rfl (by decide) ?_
  exact hret _ _ () trivial dX1_restore_23

set_option maxHeartbeats 4000000 in
set_option maxRecDepth 100000 in
theorem c_X1_restore_7 (l : Launch) (D : va_G) (cI cO : ClassId) (k0 : Nat) (k1 : Nat) (s0 : Nat) (s1 : Nat) (s2 : Nat) (s3 : Nat) (s4 : Nat) (s5 : Nat) (s6 : Nat) (s7 : Nat) (e0 : Nat) (e1 : Nat) (e2 : Nat) (e3 : Nat) (e4 : Nat) (e5 : Nat) (e6 : Nat) (e7 : Nat) (n0 : Int) (n1 : Int) (n2 : Int) (n3 : Int) (n4 : Int) (n5 : Int) (n6 : Int) (n7 : Int) (g0 : Int → Int) (g1 : Int → Int) (g2 : Int → Int) (g3 : Int → Int) (g4 : Int → Int) (g5 : Int → Int) (g6 : Int → Int) (g7 : Int → Int) (h0 : Nat) (h1 : Nat) (n : Int) (g : Int → Int) (hn : 0 ≤ n ∧ n ≤ 40) (hnj : 0 ≤ n6 ∧ n6 ≤ 40) : hs_Mv l D cI cO yX1_restore wsX1_restore ({ frames := 2, cells := 0, slots := 0, locals := 47 } : Room) [.ref k0, .ref h0] [hs_ob h0 0 [.ref h1, hs_V n], hs_ia cI h1 40 g, hs_ob k0 1 [.ref k1, hs_V 7], hs_ra cO k1 8 (hs_r8 s0 s1 s2 s3 s4 s5 s6 s7), hs_ob s0 0 [.ref e0, hs_V n0], hs_ia cI e0 40 g0, hs_ob s1 0 [.ref e1, hs_V n1], hs_ia cI e1 40 g1, hs_ob s2 0 [.ref e2, hs_V n2], hs_ia cI e2 40 g2, hs_ob s3 0 [.ref e3, hs_V n3], hs_ia cI e3 40 g3, hs_ob s4 0 [.ref e4, hs_V n4], hs_ia cI e4 40 g4, hs_ob s5 0 [.ref e5, hs_V n5], hs_ia cI e5 40 g5, hs_ob s6 0 [.ref e6, hs_V n6], hs_ia cI e6 40 g6, hs_ob s7 0 [.ref e7, hs_V n7], hs_ia cI e7 40 g7] (fun (_ : Unit) => True) (fun _ => [hs_ob h0 0 [.ref h1, hs_V n6], hs_ia cI h1 40 (hs_cp g6 g 0 0 n6), hs_ob k0 1 [.ref k1, hs_V 6], hs_ra cO k1 8 (hs_r8 s0 s1 s2 s3 s4 s5 s6 s7), hs_ob s0 0 [.ref e0, hs_V n0], hs_ia cI e0 40 g0, hs_ob s1 0 [.ref e1, hs_V n1], hs_ia cI e1 40 g1, hs_ob s2 0 [.ref e2, hs_V n2], hs_ia cI e2 40 g2, hs_ob s3 0 [.ref e3, hs_V n3], hs_ia cI e3 40 g3, hs_ob s4 0 [.ref e4, hs_V n4], hs_ia cI e4 40 g4, hs_ob s5 0 [.ref e5, hs_V n5], hs_ia cI e5 40 g5, hs_ob s6 0 [.ref e6, hs_V n6], hs_ia cI e6 40 g6, hs_ob s7 0 [.ref e7, hs_V n7], hs_ia cI e7 40 g7]) 0 0 := by
  refine hs_enterV (cc := cX1_restore) (maxL := 2) (by decide +kernel) rfl (Nat.le_of_ble_eq_true rfl) (fun p e s m args below meth c A H0 Q C hin2 hret => ?_)
  have f17 := C.1.2.2.2.2 (.fieldLink RX1 17 "HistogramStairs$History" "count" "I") (by decide +kernel)
  have u1 : ∀ w ∈ wsX10, w ∈ wsX1_restore := by decide +kernel
  have f11 := C.1.2.2.2.2 (.fieldLink RX1 11 "HistogramStairs$History" "states" "[LHistogramStairs$Columns;") (by decide +kernel)
  refine hs_lvs (lv' := [(0, .ref k0), (1, .ref h0)]) [0, 1] rfl ?_
  refine hs_aload_n C dX1_restore_0 rfl 0 rfl ?_
  refine hs_dup C dX1_restore_1 rfl ?_
  refine hs_get C u1 2 rfl rfl 1 (by decide) f17 rfl rfl dX1_restore_2 ?_
  refine hs_iconst C dX1_restore_5 ?_
  refine hs_isub C dX1_restore_6 ?_
  refine hs_put (ty := .int) (ws' := [hs_ob h0 0 [.ref h1, hs_V n], hs_ia cI h1 40 g, hs_ob k0 1 [.ref k1, hs_V (7 - 1)], hs_ra cO k1 8 (hs_r8 s0 s1 s2 s3 s4 s5 s6 s7), hs_ob s0 0 [.ref e0, hs_V n0], hs_ia cI e0 40 g0, hs_ob s1 0 [.ref e1, hs_V n1], hs_ia cI e1 40 g1, hs_ob s2 0 [.ref e2, hs_V n2], hs_ia cI e2 40 g2, hs_ob s3 0 [.ref e3, hs_V n3], hs_ia cI e3 40 g3, hs_ob s4 0 [.ref e4, hs_V n4], hs_ia cI e4 40 g4, hs_ob s5 0 [.ref e5, hs_V n5], hs_ia cI e5 40 g5, hs_ob s6 0 [.ref e6, hs_V n6], hs_ia cI e6 40 g6, hs_ob s7 0 [.ref e7, hs_V n7], hs_ia cI e7 40 g7]) C u1 tyX1 tyX1_ok nmX1 2 rfl rfl 1 (by decide) f17 rfl rfl (by decide +kernel) rfl rfl (Nat.le_of_ble_eq_true rfl) rfl dX1_restore_7 ?_
  refine hs_aload_n C dX1_restore_10 rfl 1 rfl ?_
  refine hs_aload_n C dX1_restore_11 rfl 0 rfl ?_
  refine hs_get C u1 2 rfl rfl 0 (by decide) f11 rfl rfl dX1_restore_12 ?_
  refine hs_aload_n C dX1_restore_15 rfl 0 rfl ?_
  refine hs_get C u1 2 rfl rfl 1 (by decide) f17 rfl rfl dX1_restore_16 ?_
  refine hs_aald (v := .ref s6) C 3 rfl (by omega) rfl dX1_restore_19 ?_
  refine hs_re0 (w' := [hs_ob h0 0 [.ref h1, hs_V n], hs_ia cI h1 40 g, hs_ob s6 0 [.ref e6, hs_V n6], hs_ia cI e6 40 g6, hs_ob k0 1 [.ref k1, hs_V (7 - 1)], hs_ra cO k1 8 (hs_r8 s0 s1 s2 s3 s4 s5 s6 s7), hs_ob s0 0 [.ref e0, hs_V n0], hs_ia cI e0 40 g0, hs_ob s1 0 [.ref e1, hs_V n1], hs_ia cI e1 40 g1, hs_ob s2 0 [.ref e2, hs_V n2], hs_ia cI e2 40 g2, hs_ob s3 0 [.ref e3, hs_V n3], hs_ia cI e3 40 g3, hs_ob s4 0 [.ref e4, hs_V n4], hs_ia cI e4 40 g4, hs_ob s5 0 [.ref e5, hs_V n5], hs_ia cI e5 40 g5, hs_ob s7 0 [.ref e7, hs_V n7], hs_ia cI e7 40 g7]) [0, 1, 16, 17, 2, 3, 4, 5, 6, 7, 8, 9, 10, 11, 12, 13, 14, 15, 18, 19] rfl (by decide) ?_
  refine hs_callVv (win := [hs_ob h0 0 [.ref h1, hs_V n], hs_ia cI h1 40 g, hs_ob s6 0 [.ref e6, hs_V n6], hs_ia cI e6 40 g6]) (wr := [hs_ob k0 1 [.ref k1, hs_V (7 - 1)], hs_ra cO k1 8 (hs_r8 s0 s1 s2 s3 s4 s5 s6 s7), hs_ob s0 0 [.ref e0, hs_V n0], hs_ia cI e0 40 g0, hs_ob s1 0 [.ref e1, hs_V n1], hs_ia cI e1 40 g1, hs_ob s2 0 [.ref e2, hs_V n2], hs_ia cI e2 40 g2, hs_ob s3 0 [.ref e3, hs_V n3], hs_ia cI e3 40 g3, hs_ob s4 0 [.ref e4, hs_V n4], hs_ia cI e4 40 g4, hs_ob s5 0 [.ref e5, hs_V n5], hs_ia cI e5 40 g5, hs_ob s7 0 [.ref e7, hs_V n7], hs_ia cI e7 40 g7]) (As := [.ref s6]) (rest := []) C (c_X0_copyFrom l D cI cO h0 h1 n g s6 e6 n6 g6 (by omega)) 0 0 rfl rfl rfl (cwV 1 C.1.2.2.2.2 gX1_restore_X0_copyFrom rfl rfl rfl (by decide +kernel) ⟨Nat.le_of_ble_eq_true rfl, Nat.le_of_ble_eq_true rfl⟩) rfl rfl (Nat.le_of_ble_eq_true rfl) dX1_restore_20 ⟨Nat.le_of_ble_eq_true rfl, Nat.le_of_ble_eq_true rfl⟩ (fun uu1 hp => ?_)
  refine hs_re0 (w' := [hs_ob h0 0 [.ref h1, hs_V n6], hs_ia cI h1 40 (hs_cp g6 g 0 0 n6), hs_ob k0 1 [.ref k1, hs_V (7 - 1)], hs_ra cO k1 8 (hs_r8 s0 s1 s2 s3 s4 s5 s6 s7), hs_ob s0 0 [.ref e0, hs_V n0], hs_ia cI e0 40 g0, hs_ob s1 0 [.ref e1, hs_V n1], hs_ia cI e1 40 g1, hs_ob s2 0 [.ref e2, hs_V n2], hs_ia cI e2 40 g2, hs_ob s3 0 [.ref e3, hs_V n3], hs_ia cI e3 40 g3, hs_ob s4 0 [.ref e4, hs_V n4], hs_ia cI e4 40 g4, hs_ob s5 0 [.ref e5, hs_V n5], hs_ia cI e5 40 g5, hs_ob s6 0 [.ref e6, hs_V n6], hs_ia cI e6 40 g6, hs_ob s7 0 [.ref e7, hs_V n7], hs_ia cI e7 40 g7]) [0, 1, 4, 5, 6, 7, 8, 9, 10, 11, 12, 13, 14, 15, 16, 17, 2, 3, 18, 19] rfl (by decide) ?_
  exact hret _ _ () trivial dX1_restore_23

set_option maxHeartbeats 4000000 in
set_option maxRecDepth 100000 in
theorem c_X1_restore_8 (l : Launch) (D : va_G) (cI cO : ClassId) (k0 : Nat) (k1 : Nat) (s0 : Nat) (s1 : Nat) (s2 : Nat) (s3 : Nat) (s4 : Nat) (s5 : Nat) (s6 : Nat) (s7 : Nat) (e0 : Nat) (e1 : Nat) (e2 : Nat) (e3 : Nat) (e4 : Nat) (e5 : Nat) (e6 : Nat) (e7 : Nat) (n0 : Int) (n1 : Int) (n2 : Int) (n3 : Int) (n4 : Int) (n5 : Int) (n6 : Int) (n7 : Int) (g0 : Int → Int) (g1 : Int → Int) (g2 : Int → Int) (g3 : Int → Int) (g4 : Int → Int) (g5 : Int → Int) (g6 : Int → Int) (g7 : Int → Int) (h0 : Nat) (h1 : Nat) (n : Int) (g : Int → Int) (hn : 0 ≤ n ∧ n ≤ 40) (hnj : 0 ≤ n7 ∧ n7 ≤ 40) : hs_Mv l D cI cO yX1_restore wsX1_restore ({ frames := 2, cells := 0, slots := 0, locals := 47 } : Room) [.ref k0, .ref h0] [hs_ob h0 0 [.ref h1, hs_V n], hs_ia cI h1 40 g, hs_ob k0 1 [.ref k1, hs_V 8], hs_ra cO k1 8 (hs_r8 s0 s1 s2 s3 s4 s5 s6 s7), hs_ob s0 0 [.ref e0, hs_V n0], hs_ia cI e0 40 g0, hs_ob s1 0 [.ref e1, hs_V n1], hs_ia cI e1 40 g1, hs_ob s2 0 [.ref e2, hs_V n2], hs_ia cI e2 40 g2, hs_ob s3 0 [.ref e3, hs_V n3], hs_ia cI e3 40 g3, hs_ob s4 0 [.ref e4, hs_V n4], hs_ia cI e4 40 g4, hs_ob s5 0 [.ref e5, hs_V n5], hs_ia cI e5 40 g5, hs_ob s6 0 [.ref e6, hs_V n6], hs_ia cI e6 40 g6, hs_ob s7 0 [.ref e7, hs_V n7], hs_ia cI e7 40 g7] (fun (_ : Unit) => True) (fun _ => [hs_ob h0 0 [.ref h1, hs_V n7], hs_ia cI h1 40 (hs_cp g7 g 0 0 n7), hs_ob k0 1 [.ref k1, hs_V 7], hs_ra cO k1 8 (hs_r8 s0 s1 s2 s3 s4 s5 s6 s7), hs_ob s0 0 [.ref e0, hs_V n0], hs_ia cI e0 40 g0, hs_ob s1 0 [.ref e1, hs_V n1], hs_ia cI e1 40 g1, hs_ob s2 0 [.ref e2, hs_V n2], hs_ia cI e2 40 g2, hs_ob s3 0 [.ref e3, hs_V n3], hs_ia cI e3 40 g3, hs_ob s4 0 [.ref e4, hs_V n4], hs_ia cI e4 40 g4, hs_ob s5 0 [.ref e5, hs_V n5], hs_ia cI e5 40 g5, hs_ob s6 0 [.ref e6, hs_V n6], hs_ia cI e6 40 g6, hs_ob s7 0 [.ref e7, hs_V n7], hs_ia cI e7 40 g7]) 0 0 := by
  refine hs_enterV (cc := cX1_restore) (maxL := 2) (by decide +kernel) rfl (Nat.le_of_ble_eq_true rfl) (fun p e s m args below meth c A H0 Q C hin2 hret => ?_)
  have f17 := C.1.2.2.2.2 (.fieldLink RX1 17 "HistogramStairs$History" "count" "I") (by decide +kernel)
  have u1 : ∀ w ∈ wsX10, w ∈ wsX1_restore := by decide +kernel
  have f11 := C.1.2.2.2.2 (.fieldLink RX1 11 "HistogramStairs$History" "states" "[LHistogramStairs$Columns;") (by decide +kernel)
  refine hs_lvs (lv' := [(0, .ref k0), (1, .ref h0)]) [0, 1] rfl ?_
  refine hs_aload_n C dX1_restore_0 rfl 0 rfl ?_
  refine hs_dup C dX1_restore_1 rfl ?_
  refine hs_get C u1 2 rfl rfl 1 (by decide) f17 rfl rfl dX1_restore_2 ?_
  refine hs_iconst C dX1_restore_5 ?_
  refine hs_isub C dX1_restore_6 ?_
  refine hs_put (ty := .int) (ws' := [hs_ob h0 0 [.ref h1, hs_V n], hs_ia cI h1 40 g, hs_ob k0 1 [.ref k1, hs_V (8 - 1)], hs_ra cO k1 8 (hs_r8 s0 s1 s2 s3 s4 s5 s6 s7), hs_ob s0 0 [.ref e0, hs_V n0], hs_ia cI e0 40 g0, hs_ob s1 0 [.ref e1, hs_V n1], hs_ia cI e1 40 g1, hs_ob s2 0 [.ref e2, hs_V n2], hs_ia cI e2 40 g2, hs_ob s3 0 [.ref e3, hs_V n3], hs_ia cI e3 40 g3, hs_ob s4 0 [.ref e4, hs_V n4], hs_ia cI e4 40 g4, hs_ob s5 0 [.ref e5, hs_V n5], hs_ia cI e5 40 g5, hs_ob s6 0 [.ref e6, hs_V n6], hs_ia cI e6 40 g6, hs_ob s7 0 [.ref e7, hs_V n7], hs_ia cI e7 40 g7]) C u1 tyX1 tyX1_ok nmX1 2 rfl rfl 1 (by decide) f17 rfl rfl (by decide +kernel) rfl rfl (Nat.le_of_ble_eq_true rfl) rfl dX1_restore_7 ?_
  refine hs_aload_n C dX1_restore_10 rfl 1 rfl ?_
  refine hs_aload_n C dX1_restore_11 rfl 0 rfl ?_
  refine hs_get C u1 2 rfl rfl 0 (by decide) f11 rfl rfl dX1_restore_12 ?_
  refine hs_aload_n C dX1_restore_15 rfl 0 rfl ?_
  refine hs_get C u1 2 rfl rfl 1 (by decide) f17 rfl rfl dX1_restore_16 ?_
  refine hs_aald (v := .ref s7) C 3 rfl (by omega) rfl dX1_restore_19 ?_
  refine hs_re0 (w' := [hs_ob h0 0 [.ref h1, hs_V n], hs_ia cI h1 40 g, hs_ob s7 0 [.ref e7, hs_V n7], hs_ia cI e7 40 g7, hs_ob k0 1 [.ref k1, hs_V (8 - 1)], hs_ra cO k1 8 (hs_r8 s0 s1 s2 s3 s4 s5 s6 s7), hs_ob s0 0 [.ref e0, hs_V n0], hs_ia cI e0 40 g0, hs_ob s1 0 [.ref e1, hs_V n1], hs_ia cI e1 40 g1, hs_ob s2 0 [.ref e2, hs_V n2], hs_ia cI e2 40 g2, hs_ob s3 0 [.ref e3, hs_V n3], hs_ia cI e3 40 g3, hs_ob s4 0 [.ref e4, hs_V n4], hs_ia cI e4 40 g4, hs_ob s5 0 [.ref e5, hs_V n5], hs_ia cI e5 40 g5, hs_ob s6 0 [.ref e6, hs_V n6], hs_ia cI e6 40 g6]) [0, 1, 18, 19, 2, 3, 4, 5, 6, 7, 8, 9, 10, 11, 12, 13, 14, 15, 16, 17] rfl (by decide) ?_
  refine hs_callVv (win := [hs_ob h0 0 [.ref h1, hs_V n], hs_ia cI h1 40 g, hs_ob s7 0 [.ref e7, hs_V n7], hs_ia cI e7 40 g7]) (wr := [hs_ob k0 1 [.ref k1, hs_V (8 - 1)], hs_ra cO k1 8 (hs_r8 s0 s1 s2 s3 s4 s5 s6 s7), hs_ob s0 0 [.ref e0, hs_V n0], hs_ia cI e0 40 g0, hs_ob s1 0 [.ref e1, hs_V n1], hs_ia cI e1 40 g1, hs_ob s2 0 [.ref e2, hs_V n2], hs_ia cI e2 40 g2, hs_ob s3 0 [.ref e3, hs_V n3], hs_ia cI e3 40 g3, hs_ob s4 0 [.ref e4, hs_V n4], hs_ia cI e4 40 g4, hs_ob s5 0 [.ref e5, hs_V n5], hs_ia cI e5 40 g5, hs_ob s6 0 [.ref e6, hs_V n6], hs_ia cI e6 40 g6]) (As := [.ref s7]) (rest := []) C (c_X0_copyFrom l D cI cO h0 h1 n g s7 e7 n7 g7 (by omega)) 0 0 rfl rfl rfl (cwV 1 C.1.2.2.2.2 gX1_restore_X0_copyFrom rfl rfl rfl (by decide +kernel) ⟨Nat.le_of_ble_eq_true rfl, Nat.le_of_ble_eq_true rfl⟩) rfl rfl (Nat.le_of_ble_eq_true rfl) dX1_restore_20 ⟨Nat.le_of_ble_eq_true rfl, Nat.le_of_ble_eq_true rfl⟩ (fun uu1 hp => ?_)
  refine hs_re0 (w' := [hs_ob h0 0 [.ref h1, hs_V n7], hs_ia cI h1 40 (hs_cp g7 g 0 0 n7), hs_ob k0 1 [.ref k1, hs_V (8 - 1)], hs_ra cO k1 8 (hs_r8 s0 s1 s2 s3 s4 s5 s6 s7), hs_ob s0 0 [.ref e0, hs_V n0], hs_ia cI e0 40 g0, hs_ob s1 0 [.ref e1, hs_V n1], hs_ia cI e1 40 g1, hs_ob s2 0 [.ref e2, hs_V n2], hs_ia cI e2 40 g2, hs_ob s3 0 [.ref e3, hs_V n3], hs_ia cI e3 40 g3, hs_ob s4 0 [.ref e4, hs_V n4], hs_ia cI e4 40 g4, hs_ob s5 0 [.ref e5, hs_V n5], hs_ia cI e5 40 g5, hs_ob s6 0 [.ref e6, hs_V n6], hs_ia cI e6 40 g6, hs_ob s7 0 [.ref e7, hs_V n7], hs_ia cI e7 40 g7]) [0, 1, 4, 5, 6, 7, 8, 9, 10, 11, 12, 13, 14, 15, 16, 17, 18, 19, 2, 3] rfl (by decide) ?_
  exact hret _ _ () trivial dX1_restore_23
set_option maxHeartbeats 4000000 in
set_option maxRecDepth 100000 in
theorem c_X1_remember (l : Launch) (D : va_G) (cI cO : ClassId) (k0 k1 : Nat) (ct : Int) (Z : Int → pu_Z) (h0 h1 : Nat) (n : Int) (g : Int → Int) (hct : 0 ≤ ct ∧ ct ≤ 8) (hn : 0 ≤ n ∧ n ≤ 40) : hs_Mv l D cI cO yX1_remember wsX1_remember ({ frames := 2, cells := 0, slots := 0, locals := 48 } : Room) [.ref k0, .ref h0] (hs_ob h0 0 [.ref h1, hs_V n] :: hs_ia cI h1 40 g :: hs_hist cI cO k0 k1 ct Z) (fun (_ : Unit) => True) (fun _ => hs_ob h0 0 [.ref h1, hs_V n] :: hs_ia cI h1 40 g :: hs_hist cI cO k0 k1 (pu_remC ct) (pu_remZ ct Z n g)) 0 0 := by
  rcases (show ct = 0 ∨ ct = 1 ∨ ct = 2 ∨ ct = 3 ∨ ct = 4 ∨ ct = 5 ∨ ct = 6 ∨ ct = 7 ∨ ct = 8 by omega) with rfl | rfl | rfl | rfl | rfl | rfl | rfl | rfl | rfl
  · exact c_X1_remember_0 l D cI cO k0 k1 (Z 0).1 (Z 1).1 (Z 2).1 (Z 3).1 (Z 4).1 (Z 5).1 (Z 6).1 (Z 7).1 (Z 0).2.1 (Z 1).2.1 (Z 2).2.1 (Z 3).2.1 (Z 4).2.1 (Z 5).2.1 (Z 6).2.1 (Z 7).2.1 (Z 0).2.2.1 (Z 1).2.2.1 (Z 2).2.2.1 (Z 3).2.2.1 (Z 4).2.2.1 (Z 5).2.2.1 (Z 6).2.2.1 (Z 7).2.2.1 (Z 0).2.2.2 (Z 1).2.2.2 (Z 2).2.2.2 (Z 3).2.2.2 (Z 4).2.2.2 (Z 5).2.2.2 (Z 6).2.2.2 (Z 7).2.2.2 h0 h1 n g hn
  · exact c_X1_remember_1 l D cI cO k0 k1 (Z 0).1 (Z 1).1 (Z 2).1 (Z 3).1 (Z 4).1 (Z 5).1 (Z 6).1 (Z 7).1 (Z 0).2.1 (Z 1).2.1 (Z 2).2.1 (Z 3).2.1 (Z 4).2.1 (Z 5).2.1 (Z 6).2.1 (Z 7).2.1 (Z 0).2.2.1 (Z 1).2.2.1 (Z 2).2.2.1 (Z 3).2.2.1 (Z 4).2.2.1 (Z 5).2.2.1 (Z 6).2.2.1 (Z 7).2.2.1 (Z 0).2.2.2 (Z 1).2.2.2 (Z 2).2.2.2 (Z 3).2.2.2 (Z 4).2.2.2 (Z 5).2.2.2 (Z 6).2.2.2 (Z 7).2.2.2 h0 h1 n g hn
  · exact c_X1_remember_2 l D cI cO k0 k1 (Z 0).1 (Z 1).1 (Z 2).1 (Z 3).1 (Z 4).1 (Z 5).1 (Z 6).1 (Z 7).1 (Z 0).2.1 (Z 1).2.1 (Z 2).2.1 (Z 3).2.1 (Z 4).2.1 (Z 5).2.1 (Z 6).2.1 (Z 7).2.1 (Z 0).2.2.1 (Z 1).2.2.1 (Z 2).2.2.1 (Z 3).2.2.1 (Z 4).2.2.1 (Z 5).2.2.1 (Z 6).2.2.1 (Z 7).2.2.1 (Z 0).2.2.2 (Z 1).2.2.2 (Z 2).2.2.2 (Z 3).2.2.2 (Z 4).2.2.2 (Z 5).2.2.2 (Z 6).2.2.2 (Z 7).2.2.2 h0 h1 n g hn
  · exact c_X1_remember_3 l D cI cO k0 k1 (Z 0).1 (Z 1).1 (Z 2).1 (Z 3).1 (Z 4).1 (Z 5).1 (Z 6).1 (Z 7).1 (Z 0).2.1 (Z 1).2.1 (Z 2).2.1 (Z 3).2.1 (Z 4).2.1 (Z 5).2.1 (Z 6).2.1 (Z 7).2.1 (Z 0).2.2.1 (Z 1).2.2.1 (Z 2).2.2.1 (Z 3).2.2.1 (Z 4).2.2.1 (Z 5).2.2.1 (Z 6).2.2.1 (Z 7).2.2.1 (Z 0).2.2.2 (Z 1).2.2.2 (Z 2).2.2.2 (Z 3).2.2.2 (Z 4).2.2.2 (Z 5).2.2.2 (Z 6).2.2.2 (Z 7).2.2.2 h0 h1 n g hn
  · exact c_X1_remember_4 l D cI cO k0 k1 (Z 0).1 (Z 1).1 (Z 2).1 (Z 3).1 (Z 4).1 (Z 5).1 (Z 6).1 (Z 7).1 (Z 0).2.1 (Z 1).2.1 (Z 2).2.1 (Z 3).2.1 (Z 4).2.1 (Z 5).2.1 (Z 6).2.1 (Z 7).2.1 (Z 0).2.2.1 (Z 1).2.2.1 (Z 2).2.2.1 (Z 3).2.2.1 (Z 4).2.2.1 (Z 5).2.2.1 (Z 6).2.2.1 (Z 7).2.2.1 (Z 0).2.2.2 (Z 1).2.2.2 (Z 2).2.2.2 (Z 3).2.2.2 (Z 4).2.2.2 (Z 5).2.2.2 (Z 6).2.2.2 (Z 7).2.2.2 h0 h1 n g hn
  · exact c_X1_remember_5 l D cI cO k0 k1 (Z 0).1 (Z 1).1 (Z 2).1 (Z 3).1 (Z 4).1 (Z 5).1 (Z 6).1 (Z 7).1 (Z 0).2.1 (Z 1).2.1 (Z 2).2.1 (Z 3).2.1 (Z 4).2.1 (Z 5).2.1 (Z 6).2.1 (Z 7).2.1 (Z 0).2.2.1 (Z 1).2.2.1 (Z 2).2.2.1 (Z 3).2.2.1 (Z 4).2.2.1 (Z 5).2.2.1 (Z 6).2.2.1 (Z 7).2.2.1 (Z 0).2.2.2 (Z 1).2.2.2 (Z 2).2.2.2 (Z 3).2.2.2 (Z 4).2.2.2 (Z 5).2.2.2 (Z 6).2.2.2 (Z 7).2.2.2 h0 h1 n g hn
  · exact c_X1_remember_6 l D cI cO k0 k1 (Z 0).1 (Z 1).1 (Z 2).1 (Z 3).1 (Z 4).1 (Z 5).1 (Z 6).1 (Z 7).1 (Z 0).2.1 (Z 1).2.1 (Z 2).2.1 (Z 3).2.1 (Z 4).2.1 (Z 5).2.1 (Z 6).2.1 (Z 7).2.1 (Z 0).2.2.1 (Z 1).2.2.1 (Z 2).2.2.1 (Z 3).2.2.1 (Z 4).2.2.1 (Z 5).2.2.1 (Z 6).2.2.1 (Z 7).2.2.1 (Z 0).2.2.2 (Z 1).2.2.2 (Z 2).2.2.2 (Z 3).2.2.2 (Z 4).2.2.2 (Z 5).2.2.2 (Z 6).2.2.2 (Z 7).2.2.2 h0 h1 n g hn
  · exact c_X1_remember_7 l D cI cO k0 k1 (Z 0).1 (Z 1).1 (Z 2).1 (Z 3).1 (Z 4).1 (Z 5).1 (Z 6).1 (Z 7).1 (Z 0).2.1 (Z 1).2.1 (Z 2).2.1 (Z 3).2.1 (Z 4).2.1 (Z 5).2.1 (Z 6).2.1 (Z 7).2.1 (Z 0).2.2.1 (Z 1).2.2.1 (Z 2).2.2.1 (Z 3).2.2.1 (Z 4).2.2.1 (Z 5).2.2.1 (Z 6).2.2.1 (Z 7).2.2.1 (Z 0).2.2.2 (Z 1).2.2.2 (Z 2).2.2.2 (Z 3).2.2.2 (Z 4).2.2.2 (Z 5).2.2.2 (Z 6).2.2.2 (Z 7).2.2.2 h0 h1 n g hn
  · exact c_X1_remember_8 l D cI cO k0 k1 (Z 0).1 (Z 1).1 (Z 2).1 (Z 3).1 (Z 4).1 (Z 5).1 (Z 6).1 (Z 7).1 (Z 0).2.1 (Z 1).2.1 (Z 2).2.1 (Z 3).2.1 (Z 4).2.1 (Z 5).2.1 (Z 6).2.1 (Z 7).2.1 (Z 0).2.2.1 (Z 1).2.2.1 (Z 2).2.2.1 (Z 3).2.2.1 (Z 4).2.2.1 (Z 5).2.2.1 (Z 6).2.2.1 (Z 7).2.2.1 (Z 0).2.2.2 (Z 1).2.2.2 (Z 2).2.2.2 (Z 3).2.2.2 (Z 4).2.2.2 (Z 5).2.2.2 (Z 6).2.2.2 (Z 7).2.2.2 h0 h1 n g hn
set_option maxHeartbeats 4000000 in
set_option maxRecDepth 100000 in
theorem c_X1_restore (l : Launch) (D : va_G) (cI cO : ClassId) (k0 k1 : Nat) (ct : Int) (Z : Int → pu_Z) (h0 h1 : Nat) (n : Int) (g : Int → Int) (hct : 1 ≤ ct ∧ ct ≤ 8) (hn : 0 ≤ n ∧ n ≤ 40) (hZ : ∀ j, 0 ≤ (Z j).2.2.1 ∧ (Z j).2.2.1 ≤ 40) : hs_Mv l D cI cO yX1_restore wsX1_restore ({ frames := 2, cells := 0, slots := 0, locals := 47 } : Room) [.ref k0, .ref h0] (hs_ob h0 0 [.ref h1, hs_V n] :: hs_ia cI h1 40 g :: hs_hist cI cO k0 k1 ct Z) (fun (_ : Unit) => True) (fun _ => hs_ob h0 0 [.ref h1, hs_V (Z (ct - 1)).2.2.1] :: hs_ia cI h1 40 (hs_cp (Z (ct - 1)).2.2.2 g 0 0 (Z (ct - 1)).2.2.1) :: hs_hist cI cO k0 k1 (ct - 1) (Z)) 0 0 := by
  rcases (show ct = 1 ∨ ct = 2 ∨ ct = 3 ∨ ct = 4 ∨ ct = 5 ∨ ct = 6 ∨ ct = 7 ∨ ct = 8 by omega) with rfl | rfl | rfl | rfl | rfl | rfl | rfl | rfl
  · exact c_X1_restore_1 l D cI cO k0 k1 (Z 0).1 (Z 1).1 (Z 2).1 (Z 3).1 (Z 4).1 (Z 5).1 (Z 6).1 (Z 7).1 (Z 0).2.1 (Z 1).2.1 (Z 2).2.1 (Z 3).2.1 (Z 4).2.1 (Z 5).2.1 (Z 6).2.1 (Z 7).2.1 (Z 0).2.2.1 (Z 1).2.2.1 (Z 2).2.2.1 (Z 3).2.2.1 (Z 4).2.2.1 (Z 5).2.2.1 (Z 6).2.2.1 (Z 7).2.2.1 (Z 0).2.2.2 (Z 1).2.2.2 (Z 2).2.2.2 (Z 3).2.2.2 (Z 4).2.2.2 (Z 5).2.2.2 (Z 6).2.2.2 (Z 7).2.2.2 h0 h1 n g hn (hZ 0)
  · exact c_X1_restore_2 l D cI cO k0 k1 (Z 0).1 (Z 1).1 (Z 2).1 (Z 3).1 (Z 4).1 (Z 5).1 (Z 6).1 (Z 7).1 (Z 0).2.1 (Z 1).2.1 (Z 2).2.1 (Z 3).2.1 (Z 4).2.1 (Z 5).2.1 (Z 6).2.1 (Z 7).2.1 (Z 0).2.2.1 (Z 1).2.2.1 (Z 2).2.2.1 (Z 3).2.2.1 (Z 4).2.2.1 (Z 5).2.2.1 (Z 6).2.2.1 (Z 7).2.2.1 (Z 0).2.2.2 (Z 1).2.2.2 (Z 2).2.2.2 (Z 3).2.2.2 (Z 4).2.2.2 (Z 5).2.2.2 (Z 6).2.2.2 (Z 7).2.2.2 h0 h1 n g hn (hZ 1)
  · exact c_X1_restore_3 l D cI cO k0 k1 (Z 0).1 (Z 1).1 (Z 2).1 (Z 3).1 (Z 4).1 (Z 5).1 (Z 6).1 (Z 7).1 (Z 0).2.1 (Z 1).2.1 (Z 2).2.1 (Z 3).2.1 (Z 4).2.1 (Z 5).2.1 (Z 6).2.1 (Z 7).2.1 (Z 0).2.2.1 (Z 1).2.2.1 (Z 2).2.2.1 (Z 3).2.2.1 (Z 4).2.2.1 (Z 5).2.2.1 (Z 6).2.2.1 (Z 7).2.2.1 (Z 0).2.2.2 (Z 1).2.2.2 (Z 2).2.2.2 (Z 3).2.2.2 (Z 4).2.2.2 (Z 5).2.2.2 (Z 6).2.2.2 (Z 7).2.2.2 h0 h1 n g hn (hZ 2)
  · exact c_X1_restore_4 l D cI cO k0 k1 (Z 0).1 (Z 1).1 (Z 2).1 (Z 3).1 (Z 4).1 (Z 5).1 (Z 6).1 (Z 7).1 (Z 0).2.1 (Z 1).2.1 (Z 2).2.1 (Z 3).2.1 (Z 4).2.1 (Z 5).2.1 (Z 6).2.1 (Z 7).2.1 (Z 0).2.2.1 (Z 1).2.2.1 (Z 2).2.2.1 (Z 3).2.2.1 (Z 4).2.2.1 (Z 5).2.2.1 (Z 6).2.2.1 (Z 7).2.2.1 (Z 0).2.2.2 (Z 1).2.2.2 (Z 2).2.2.2 (Z 3).2.2.2 (Z 4).2.2.2 (Z 5).2.2.2 (Z 6).2.2.2 (Z 7).2.2.2 h0 h1 n g hn (hZ 3)
  · exact c_X1_restore_5 l D cI cO k0 k1 (Z 0).1 (Z 1).1 (Z 2).1 (Z 3).1 (Z 4).1 (Z 5).1 (Z 6).1 (Z 7).1 (Z 0).2.1 (Z 1).2.1 (Z 2).2.1 (Z 3).2.1 (Z 4).2.1 (Z 5).2.1 (Z 6).2.1 (Z 7).2.1 (Z 0).2.2.1 (Z 1).2.2.1 (Z 2).2.2.1 (Z 3).2.2.1 (Z 4).2.2.1 (Z 5).2.2.1 (Z 6).2.2.1 (Z 7).2.2.1 (Z 0).2.2.2 (Z 1).2.2.2 (Z 2).2.2.2 (Z 3).2.2.2 (Z 4).2.2.2 (Z 5).2.2.2 (Z 6).2.2.2 (Z 7).2.2.2 h0 h1 n g hn (hZ 4)
  · exact c_X1_restore_6 l D cI cO k0 k1 (Z 0).1 (Z 1).1 (Z 2).1 (Z 3).1 (Z 4).1 (Z 5).1 (Z 6).1 (Z 7).1 (Z 0).2.1 (Z 1).2.1 (Z 2).2.1 (Z 3).2.1 (Z 4).2.1 (Z 5).2.1 (Z 6).2.1 (Z 7).2.1 (Z 0).2.2.1 (Z 1).2.2.1 (Z 2).2.2.1 (Z 3).2.2.1 (Z 4).2.2.1 (Z 5).2.2.1 (Z 6).2.2.1 (Z 7).2.2.1 (Z 0).2.2.2 (Z 1).2.2.2 (Z 2).2.2.2 (Z 3).2.2.2 (Z 4).2.2.2 (Z 5).2.2.2 (Z 6).2.2.2 (Z 7).2.2.2 h0 h1 n g hn (hZ 5)
  · exact c_X1_restore_7 l D cI cO k0 k1 (Z 0).1 (Z 1).1 (Z 2).1 (Z 3).1 (Z 4).1 (Z 5).1 (Z 6).1 (Z 7).1 (Z 0).2.1 (Z 1).2.1 (Z 2).2.1 (Z 3).2.1 (Z 4).2.1 (Z 5).2.1 (Z 6).2.1 (Z 7).2.1 (Z 0).2.2.1 (Z 1).2.2.1 (Z 2).2.2.1 (Z 3).2.2.1 (Z 4).2.2.1 (Z 5).2.2.1 (Z 6).2.2.1 (Z 7).2.2.1 (Z 0).2.2.2 (Z 1).2.2.2 (Z 2).2.2.2 (Z 3).2.2.2 (Z 4).2.2.2 (Z 5).2.2.2 (Z 6).2.2.2 (Z 7).2.2.2 h0 h1 n g hn (hZ 6)
  · exact c_X1_restore_8 l D cI cO k0 k1 (Z 0).1 (Z 1).1 (Z 2).1 (Z 3).1 (Z 4).1 (Z 5).1 (Z 6).1 (Z 7).1 (Z 0).2.1 (Z 1).2.1 (Z 2).2.1 (Z 3).2.1 (Z 4).2.1 (Z 5).2.1 (Z 6).2.1 (Z 7).2.1 (Z 0).2.2.1 (Z 1).2.2.1 (Z 2).2.2.1 (Z 3).2.2.1 (Z 4).2.2.1 (Z 5).2.2.1 (Z 6).2.2.1 (Z 7).2.2.1 (Z 0).2.2.2 (Z 1).2.2.2 (Z 2).2.2.2 (Z 3).2.2.2 (Z 4).2.2.2 (Z 5).2.2.2 (Z 6).2.2.2 (Z 7).2.2.2 h0 h1 n g hn (hZ 7)
