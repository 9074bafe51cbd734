/-! HistogramStairs: the questions -/
def pu_stair (n : Int) (g : Int → Int) (i q : Int) : Int := if ¬ (0 ≤ i ∧ i < n) ∨ q < 0 then -1 else pu_sts g i q
def pu_ctI (g : Int → Int) (i j : Int) (x : Int × Int × Int) : Int × Int × Int := if min (g i) (g j) * (j - i) ≤ x.1 then x else (min (g i) (g j) * (j - i), i, j)
def pu_ctO (n : Int) (g : Int → Int) (i : Int) (x : Int × Int × Int) : Int × Int × Int := hs_up (pu_ctI g i) (i + 1) n x
def pu_ct (n : Int) (g : Int → Int) : Int × Int × Int := hs_up (pu_ctO n g) 0 n (-1, 0, 0)
def pu_container (n : Int) (g : Int → Int) (wh : Int) : Int := if wh < 0 ∨ 2 < wh then -1 else if n < 2 then -9 else if wh = 0 then (pu_ct n g).1 else if wh = 1 then (pu_ct n g).2.1 else (pu_ct n g).2.2
def pu_somI (g : Int → Int) (b : Int) (x : Int × Int) : Int × Int := (min x.1 (g b), x.2 + min x.1 (g b))
def pu_somO (n : Int) (g : Int → Int) (a : Int) (x : Int) : Int := (hs_up (pu_somI g) a n (50, x)).2
def pu_som (n : Int) (g : Int → Int) : Int := hs_up (pu_somO n g) 0 n 0
def pu_rgF (g : Int → Int) (lo i : Int) (x : Int × Int) : Int × Int := if g i < lo then (x.1 + 0, 0) else (x.1 + (x.2 + 1), x.2 + 1)
def pu_rg (n : Int) (g : Int → Int) (lo : Int) : Int × Int := hs_up (pu_rgF g lo) 0 n (0, 0)
def pu_ranges (n : Int) (g : Int → Int) (lo : Int) : Int := if ¬ (0 ≤ lo ∧ lo ≤ 50) then -1 else (pu_rg n g lo).1
def pu_fzF (d : Int → Int) (i : Int) (x : Int → Int) : Int → Int := hs_u x i (x i + d i)
def pu_freeze (d : Int → Int) (e : pu_E) : Int × pu_E := ((pu_pour e.2.1 0 (e.1 - 1) d).1, e.1, hs_up (pu_fzF (pu_pour e.2.1 0 (e.1 - 1) d).2) 0 e.1 e.2.1, pu_remC e.2.2.1, pu_remZ e.2.2.1 e.2.2.2 e.1 e.2.1)
/-! scratch rows: depths, rectangles, parents, spine, strokes -/
abbrev pu_K : Type := (Int → Int) × pu_R × (Int → Int) × (Int → Int) × (Int → Int)
abbrev pu_KB (u : pu_K) : Prop := (∀ k, -50 ≤ u.1 k ∧ u.1 k ≤ 50) ∧ pu_RB u.2.1 ∧ pu_okP u.2.2.1 ∧ (∀ k, 0 ≤ u.2.2.2.1 k ∧ u.2.2.2.1 k ≤ 39) ∧ (∀ k, 0 ≤ u.2.2.2.2 k ∧ u.2.2.2.2 k ≤ 40)
theorem pu_cs_bd {g K : Int → Int} {n : Int} (hn : 0 ≤ n ∧ n ≤ 40) (hK : ∀ k, 0 ≤ K k ∧ K k ≤ 40) (hg : ∀ k, 0 ≤ g k ∧ g k ≤ 50) : ∀ k, 0 ≤ pu_cs g n K k ∧ pu_cs g n K k ≤ 40 := by
  have hh := pu_gh_bd (n := n) hg
  unfold pu_cs
  exact hs_dn_ind (f := fun r x => pu_row g n r x) (fun _ (x : Int → Int) => ∀ k, 0 ≤ x k ∧ x k ≤ 40) (e := 1) _ (pu_gh g n) _ (Nat.le_refl _) (by omega) (pu_fill_bd hK (by omega)) (fun j y h1 h2 hy => pu_row_bd hn hy)
def pu_told (wh n : Int) (g : Int → Int) (ct : Int) (u : pu_K) : Int :=
  if wh = 0 then n else if wh = 1 then pu_sum g 0 (n - 1) else if wh = 2 then pu_gh g n else if wh = 3 then (pu_pour g 0 (n - 1) u.1).1 else if wh = 4 then pu_pc (pu_pour g 0 (n - 1) u.1).2 n else if wh = 5 then (pu_find g 0 (n - 1) u.2.1).1 else if wh = 6 then (pu_seenL g n).1 else if wh = 7 then (pu_seenR g n).1 else if wh = 8 then pu_gtd g n u.2.2.1 u.2.2.2.1 else if wh = 9 then (pu_rises g n).1 else if wh = 10 then pu_sum (pu_cs g n u.2.2.2.2) 0 (n - 1) else if wh = 11 then ct else -1
def pu_column (i wh n : Int) (g : Int → Int) (u : pu_K) : Int :=
  if ¬ (0 ≤ i ∧ i < n) then -1 else if wh = 0 then g i else if wh = 1 then pu_sl g i else if wh = 2 then pu_sr g n i else if wh = 3 then pu_gl g i else if wh = 4 then pu_gr g n i else if wh = 5 then (pu_pour g 0 (n - 1) u.1).2 i else if wh = 6 then (pu_grow g n u.2.2.1 u.2.2.2.1).2.1 i else if wh = 7 then (pu_dp (pu_grow g n u.2.2.1 u.2.2.2.1).2.1 i).1 else if wh = 8 then pu_span g n i else if wh = 9 then (pu_stl g i).2 else -1
def pu_range (a b wh n : Int) (g : Int → Int) (u : pu_K) : Int :=
  if ¬ (0 ≤ a ∧ a ≤ b ∧ b < n) then -1 else if wh = 0 then g (pu_ll g a b) else if wh = 1 then pu_ll g a b else if wh = 2 then g (pu_lg g a b) else if wh = 3 then pu_lg g a b else if wh = 4 then pu_sum g a b else if wh = 5 then pu_lr (pu_find g a b u.2.1) (wh - 5) else if wh = 6 then pu_lr (pu_find g a b u.2.1) (wh - 5) else if wh = 7 then pu_lr (pu_find g a b u.2.1) (wh - 5) else if wh = 8 then pu_lr (pu_find g a b u.2.1) (wh - 5) else -1
def pu_rectangle (q wh n : Int) (g : Int → Int) (u : pu_K) : Int :=
  if q < 0 ∨ wh < 0 ∨ 5 < wh then -1 else if (pu_find g 0 (n - 1) u.2.1).1 ≤ q then -9 else if wh = 4 then pu_own g (pu_find g 0 (n - 1) u.2.1) q else if wh = 5 then (pu_find g 0 (n - 1) u.2.1).2.2.2.2 q else if wh = 0 then (pu_find g 0 (n - 1) u.2.1).2.2.2.1 q * ((pu_find g 0 (n - 1) u.2.1).2.2.1 q - (pu_find g 0 (n - 1) u.2.1).2.1 q + 1) else if wh = 1 then (pu_find g 0 (n - 1) u.2.1).2.1 q else if wh = 2 then (pu_find g 0 (n - 1) u.2.1).2.2.1 q else (pu_find g 0 (n - 1) u.2.1).2.2.2.1 q
def pu_pool (q wh n : Int) (g : Int → Int) (u : pu_K) : Int :=
  if q < 0 ∨ wh < 0 ∨ 4 < wh then -1 else
  let d := (pu_pour g 0 (n - 1) u.1).2
  let f := pu_ps d q n
  let l := pu_pe d f n
  if f = -9 then -9 else if wh = 0 then f else if wh = 1 then l else if wh = 2 then pu_sum d f l else if wh = 3 then g f + d f else d (pu_lg d f l)
def pu_drained (i n : Int) (g : Int → Int) (u : pu_K) : Int :=
  if ¬ (0 ≤ i ∧ i < n) then -1 else (pu_pour g 0 (n - 1) (pu_pour g i (n - 1) (pu_pour g 0 i u.1).2).2).1 - (pu_pour g 0 i u.1).1 - (pu_pour g i (n - 1) (pu_pour g 0 i u.1).2).1
def pu_dmF (n : Int) (g : Int → Int) (d i : Int) (x : Int × Int × (Int → Int)) : Int × Int × (Int → Int) := if (pu_pour (hs_u g i (min (g i + d) 50)) 0 (n - 1) x.2.2).1 ≤ x.2.1 then (x.1, x.2.1, (pu_pour (hs_u g i (min (g i + d) 50)) 0 (n - 1) x.2.2).2) else (i, (pu_pour (hs_u g i (min (g i + d) 50)) 0 (n - 1) x.2.2).1, (pu_pour (hs_u g i (min (g i + d) 50)) 0 (n - 1) x.2.2).2)
def pu_dm (n : Int) (g : Int → Int) (d : Int) (dp : Int → Int) : Int × Int × (Int → Int) := hs_up (pu_dmF n g d) 0 n (0, -1, dp)
def pu_dam (d wh n : Int) (g : Int → Int) (u : pu_K) : Int := if d < 1 ∨ 50 < d ∨ wh < 0 ∨ 1 < wh then -1 else if n = 0 then -2 else if wh = 0 then (pu_dm n g d u.1).1 else (pu_dm n g d u.1).2.1
set_option maxHeartbeats 4000000 in
set_option maxRecDepth 100000 in
theorem c_X6_stair (l : Launch) (D : va_G) (cI cO : ClassId) (x0 : Nat) (h0 : Nat) (k0 : Nat) (i0 : Nat) (w0 : Nat) (r0 : Nat) (t0 : Nat) (p0 : Nat) (h1 : Nat) (n : Int) (g : Int → Int) (i : Int) (q : Int) (hn : 0 ≤ n ∧ n ≤ 40) (hg : ∀ k, 0 ≤ g k ∧ g k ≤ 50) (hzi : hs_in i) (hzq : hs_in q) : hs_M l D cI cO yX6_stair wsX6_stair ({ frames := 1, cells := 0, slots := 0, locals := 25 } : Room) [.ref x0, hs_V i, hs_V q] [hs_ob x0 6 [.ref h0, .ref k0, .ref i0, .ref w0, .ref r0, .ref t0, .ref p0], hs_ob h0 0 [.ref h1, hs_V n], hs_ia cI h1 40 g] (fun r (_ : Unit) => r = hs_I (pu_stair n g i q)) (fun _ => [hs_ob x0 6 [.ref h0, .ref k0, .ref i0, .ref w0, .ref r0, .ref t0, .ref p0], hs_ob h0 0 [.ref h1, hs_V n], hs_ia cI h1 40 g]) 0 0 := by
  refine hs_enter (cc := cX6_stair) (maxL := 3) (by decide +kernel) rfl (Nat.le_of_ble_eq_true rfl) (fun p e s m args below meth c A H0 Q C hret => ?_)
  have f10 := C.1.2.2.2.2 (.fieldLink RX6 10 "HistogramStairs" "columns" "LHistogramStairs$Columns;") (by decide +kernel)
  have u6 : ∀ w ∈ wsX60, w ∈ wsX6_stair := by decide +kernel
  refine hs_lvs (lv' := [(0, .ref x0), (1, hs_V i), (2, hs_V q)]) [0, 1, 2] rfl ?_
  refine hs_aload_n C dX6_stair_0 rfl 0 rfl ?_
  refine hs_get C u6 0 rfl rfl 0 (by decide) f10 rfl rfl dX6_stair_1 ?_
  refine hs_iload_n C dX6_stair_4 rfl 1 rfl ?_
  refine hs_re0 (w' := [hs_ob h0 0 [.ref h1, hs_V n], hs_ob x0 6 [.ref h0, .ref k0, .ref i0, .ref w0, .ref r0, .ref t0, .ref p0], hs_ia cI h1 40 g]) [1, 0, 2] rfl (by decide) ?_
  refine hs_callVi (win := [hs_ob h0 0 [.ref h1, hs_V n]]) (wr := [hs_ob x0 6 [.ref h0, .ref k0, .ref i0, .ref w0, .ref r0, .ref t0, .ref p0], hs_ia cI h1 40 g]) (As := [hs_V i]) (rest := []) C (c_X0_has l D cI cO h0 h1 n i (by omega) (by omega)) 0 0 rfl rfl rfl (cwV 1 C.1.2.2.2.2 gX6_stair_X0_has rfl rfl rfl (by decide +kernel) ⟨Nat.le_of_ble_eq_true rfl, Nat.le_of_ble_eq_true rfl⟩) rfl rfl (Nat.le_of_ble_eq_true rfl) dX6_stair_5 ⟨Nat.le_of_ble_eq_true rfl, Nat.le_of_ble_eq_true rfl⟩ (fun rr uu1 hp => ?_)
  obtain rfl := hp
  refine hs_re0 (w' := [hs_ob x0 6 [.ref h0, .ref k0, .ref i0, .ref w0, .ref r0, .ref t0, .ref p0], hs_ob h0 0 [.ref h1, hs_V n], hs_ia cI h1 40 g]) [1, 0, 2] rfl (by decide) ?_
  refine hs_ifeq_b (tgt := 15) C dX6_stair_8 (by decide) (fun c2 => ?_) (fun c2 => ?_)
  ·
    refine hs_iconst C dX6_stair_15 ?_
    exact hret _ _ _ () (by unfold pu_stair; rw [if_pos (by omega)]) dX6_stair_16 rfl
  ·
    refine hs_iload_n C dX6_stair_11 rfl 2 rfl ?_
    refine hs_if_ge (tgt := 17) C dX6_stair_12 (by decide) (by omega) (fun c3 => ?_) (fun c3 => ?_)
    ·
      refine hs_aload_n C dX6_stair_17 rfl 0 rfl ?_
      refine hs_get C u6 0 rfl rfl 0 (by decide) f10 rfl rfl dX6_stair_18 ?_
      refine hs_iload_n C dX6_stair_21 rfl 1 rfl ?_
      refine hs_iload_n C dX6_stair_22 rfl 2 rfl ?_
      refine hs_re0 (w' := [hs_ob h0 0 [.ref h1, hs_V n], hs_ia cI h1 40 g, hs_ob x0 6 [.ref h0, .ref k0, .ref i0, .ref w0, .ref r0, .ref t0, .ref p0]]) [1, 2, 0] rfl (by decide) ?_
      refine hs_callVi (win := [hs_ob h0 0 [.ref h1, hs_V n], hs_ia cI h1 40 g]) (wr := [hs_ob x0 6 [.ref h0, .ref k0, .ref i0, .ref w0, .ref r0, .ref t0, .ref p0]]) (As := [hs_V i, hs_V q]) (rest := []) C (c_X0_stairStep l D cI cO h0 h1 n g i q (by omega) hg (by omega) (by omega)) 0 0 rfl rfl rfl (cwV 2 C.1.2.2.2.2 gX6_stair_X0_stairStep rfl rfl rfl (by decide +kernel) ⟨Nat.le_of_ble_eq_true rfl, Nat.le_of_ble_eq_true rfl⟩) rfl rfl (Nat.le_of_ble_eq_true rfl) dX6_stair_23 ⟨Nat.le_of_ble_eq_true rfl, Nat.le_of_ble_eq_true rfl⟩ (fun rr uu4 hp => ?_)
      obtain rfl := hp
      refine hs_re0 (w' := [hs_ob x0 6 [.ref h0, .ref k0, .ref i0, .ref w0, .ref r0, .ref t0, .ref p0], hs_ob h0 0 [.ref h1, hs_V n], hs_ia cI h1 40 g]) [2, 0, 1] rfl (by decide) ?_
      exact hret _ _ _ () (by unfold pu_stair; rw [if_neg (by omega)]) dX6_stair_26 rfl
    ·
      refine hs_iconst C dX6_stair_15 ?_
      exact hret _ _ _ () (by unfold pu_stair; rw [if_pos (by omega)]) dX6_stair_16 rfl

set_option maxHeartbeats 4000000 in
set_option maxRecDepth 100000 in
theorem c_X6_container (l : Launch) (D : va_G) (cI cO : ClassId) (x0 : Nat) (h0 : Nat) (k0 : Nat) (i0 : Nat) (w0 : Nat) (r0 : Nat) (t0 : Nat) (p0 : Nat) (h1 : Nat) (n : Int) (g : Int → Int) (wh : Int) (hn : 0 ≤ n ∧ n ≤ 40) (hg : ∀ k, 0 ≤ g k ∧ g k ≤ 50) (hzw : hs_in wh) : hs_M l D cI cO yX6_container wsX6_container ({ frames := 1, cells := 0, slots := 0, locals := 21 } : Room) [.ref x0, hs_V wh] [hs_ob x0 6 [.ref h0, .ref k0, .ref i0, .ref w0, .ref r0, .ref t0, .ref p0], hs_ob h0 0 [.ref h1, hs_V n], hs_ia cI h1 40 g] (fun r (_ : Unit) => r = hs_I (pu_container n g wh)) (fun _ => [hs_ob x0 6 [.ref h0, .ref k0, .ref i0, .ref w0, .ref r0, .ref t0, .ref p0], hs_ob h0 0 [.ref h1, hs_V n], hs_ia cI h1 40 g]) 0 0 := by
  refine hs_enter (cc := cX6_container) (maxL := 8) (by decide +kernel) rfl (Nat.le_of_ble_eq_true rfl) (fun p e s m args below meth c A H0 Q C hret => ?_)
  have f10 := C.1.2.2.2.2 (.fieldLink RX6 10 "HistogramStairs" "columns" "LHistogramStairs$Columns;") (by decide +kernel)
  have u6 : ∀ w ∈ wsX60, w ∈ wsX6_container := by decide +kernel
  have f55 : (Cond.fieldLinkNest RX6 55 RX0 "size" "I" RX6).before args s = true := va_Nw.use (A := args) rfl (C.2.2.1.1 (RX6, 55, RX0, "size", "I") (by decide +kernel))
  have u0 : ∀ w ∈ wsX00, w ∈ wsX6_container := by decide +kernel
  have f78 : (Cond.fieldLinkNest RX6 78 RX0 "heights" "[I" RX6).before args s = true := va_Nw.use (A := args) rfl (C.2.2.1.1 (RX6, 78, RX0, "heights", "[I") (by decide +kernel))
  have m192 := C.1.2.2.2.2 (.methodLink RX6 192 Lib.Math.min.name) (by decide +kernel)
  have smin := C.1.2.2.2.2 (.static Lib.Math.min.name) (by decide +kernel)
  have iM := C.1.2.2.2.2 (.initialized "java/lang/Math") (by decide +kernel)
  have kmin := C.1.2.2.2.2 (.code Lib.Math.min.name Lib.Math.min.code 2 (some .int)) (by decide +kernel)
  refine hs_lvs (lv' := [(0, .ref x0), (1, hs_V wh)]) [0, 1] rfl ?_
  refine hs_iload_n C dX6_container_0 rfl 1 rfl ?_
  refine hs_if_lt (tgt := 9) C dX6_container_1 (by decide) (by omega) (fun c1 => ?_) (fun c1 => ?_)
  ·
    refine hs_iconst C dX6_container_9 ?_
    exact hret _ _ _ () (by unfold pu_container; rw [if_pos (by omega)]) dX6_container_10 rfl
  ·
    refine hs_iload_n C dX6_container_4 rfl 1 rfl ?_
    refine hs_iconst C dX6_container_5 ?_
    refine hs_icmp_le (tgt := 11) C dX6_container_6 (by decide) (by omega) (by omega) (fun c2 => ?_) (fun c2 => ?_)
    ·
      refine hs_aload_n C dX6_container_11 rfl 0 rfl ?_
      refine hs_get C u6 0 rfl rfl 0 (by decide) f10 rfl rfl dX6_container_12 ?_
      refine hs_getN C u0 1 rfl rfl 1 (by decide) f55 rfl rfl dX6_container_15 ?_
      refine hs_iconst C dX6_container_18 ?_
      refine hs_icmp_ge (tgt := 25) C dX6_container_19 (by decide) (by omega) (by omega) (fun c3 => ?_) (fun c3 => ?_)
      ·
        refine hs_iconst C dX6_container_25 ?_
        refine hs_istore_n (lv' := [(0, .ref x0), (1, hs_V wh), (2, hs_V (-1))]) C dX6_container_26 rfl (by decide) [1, 2, 0] rfl ?_
        refine hs_iconst C dX6_container_27 ?_
        refine hs_istore_n (lv' := [(0, .ref x0), (1, hs_V wh), (2, hs_V (-1)), (3, hs_V 0)]) C dX6_container_28 rfl (by decide) [1, 2, 3, 0] rfl ?_
        refine hs_iconst C dX6_container_29 ?_
        refine hs_istore (lv' := [(0, .ref x0), (1, hs_V wh), (2, hs_V (-1)), (3, hs_V 0), (4, hs_V 0)]) C dX6_container_30 (by decide) [1, 2, 3, 4, 0] rfl ?_
        refine hs_iconst C dX6_container_32 ?_
        refine hs_istore (lv' := [(0, .ref x0), (1, hs_V wh), (2, hs_V (-1)), (3, hs_V 0), (4, hs_V 0), (5, hs_V 0)]) C dX6_container_33 (by decide) [1, 2, 3, 4, 5, 0] rfl ?_
        have Lp4 : ∀ (k : Nat) (i : Int) (x : Int) (y : Int) (z : Int), (0 ≤ i ∧ i ≤ n) → (-1 ≤ x ∧ x ≤ 2500) → (hs_up (pu_ctO n g) i n (x, y, z) = pu_ct n g) → (n - i < (k : Int)) → hs_J p l e ({ frames := 1, cells := 0, slots := 0, locals := 21 } : Room) s m args below meth c D A H0 8 0 0 Q 35 [(0, .ref x0), (1, hs_V wh), (2, hs_V x), (3, hs_V y), (4, hs_V z), (5, hs_V i)] [] [hs_ob x0 6 [.ref h0, .ref k0, .ref i0, .ref w0, .ref r0, .ref t0, .ref p0], hs_ob h0 0 [.ref h1, hs_V n], hs_ia cI h1 40 g] := by
          intro k
          induction k with
          | zero =>
            intro i x y z hi hx hL hk
            exact absurd hk (by omega)
          | succ k ih =>
            intro i x y z hi hx hL hk
            have ih5 := ih
            refine hs_iload C dX6_container_35 5 rfl ?_
            refine hs_aload_n C dX6_container_37 rfl 0 rfl ?_
            refine hs_get C u6 0 rfl rfl 0 (by decide) f10 rfl rfl dX6_container_38 ?_
            refine hs_getN C u0 1 rfl rfl 1 (by decide) f55 rfl rfl dX6_container_41 ?_
            refine hs_icmp_ge (tgt := 124) C dX6_container_44 (by decide) (by omega) (by omega) (fun c6 => ?_) (fun c6 => ?_)
            ·
              have hct : pu_ct n g = (x, y, z) := by rw [← hL, hs_up_done (by omega)]
              refine hs_iload_n C dX6_container_124 rfl 1 rfl ?_
              rcases (show (wh = 0 ∨ wh = 1 ∨ (wh ≠ 0 ∧ wh ≠ 1)) by omega) with c7 | c7 | c7
              · refine hs_lookup (tgt := 152) (off := 27) C dX6_container_125 (by decide) (by omega) (by rw [c7]; rfl) (by decide) ?_
                refine hs_iload_n C dX6_container_152 rfl 2 rfl ?_
                exact hret _ _ _ () (by unfold pu_container; rw [if_neg (by omega), if_neg (by omega), hct]; first | (rw [c7]; rfl) | rw [if_neg c7.1, if_neg c7.2]) dX6_container_153 rfl
              · refine hs_lookup (tgt := 154) (off := 29) C dX6_container_125 (by decide) (by omega) (by rw [c7]; rfl) (by decide) ?_
                refine hs_iload_n C dX6_container_154 rfl 3 rfl ?_
                exact hret _ _ _ () (by unfold pu_container; rw [if_neg (by omega), if_neg (by omega), hct]; first | (rw [c7]; rfl) | rw [if_neg c7.1, if_neg c7.2]) dX6_container_155 rfl
              · refine hs_lookup (tgt := 156) (off := 31) C dX6_container_125 (by decide) (by omega) (by simp [Op.lookupswitch.offset, c7, Ne.symm c7.1, Ne.symm c7.2]) (by decide) ?_
                refine hs_iload C dX6_container_156 4 rfl ?_
                exact hret _ _ _ () (by unfold pu_container; rw [if_neg (by omega), if_neg (by omega), hct]; first | (rw [c7]; rfl) | rw [if_neg c7.1, if_neg c7.2]) dX6_container_158 rfl
            ·
              refine hs_iload C dX6_container_47 5 rfl ?_
              refine hs_iconst C dX6_container_49 ?_
              refine hs_iadd C dX6_container_50 ?_
              refine hs_istore (lv' := [(0, .ref x0), (1, hs_V wh), (2, hs_V x), (3, hs_V y), (4, hs_V z), (5, hs_V i), (6, hs_V (i + 1))]) C dX6_container_51 (by decide) [1, 2, 3, 4, 5, 6, 0] rfl ?_
              have Lp8 : ∀ (k : Nat) (j : Int) (x1 : Int) (y1 : Int) (z1 : Int), (i < j ∧ j ≤ n) → (-1 ≤ x1 ∧ x1 ≤ 2500) → (hs_up (pu_ctI g i) j n (x1, y1, z1) = hs_up (pu_ctI g i) (i + 1) n (x, y, z)) → (n - j < (k : Int)) → hs_J p l e ({ frames := 1, cells := 0, slots := 0, locals := 21 } : Room) s m args below meth c D A H0 8 0 0 Q 53 [(0, .ref x0), (1, hs_V wh), (2, hs_V x1), (3, hs_V y1), (4, hs_V z1), (5, hs_V i), (6, hs_V j)] [] [hs_ob x0 6 [.ref h0, .ref k0, .ref i0, .ref w0, .ref r0, .ref t0, .ref p0], hs_ob h0 0 [.ref h1, hs_V n], hs_ia cI h1 40 g] := by
                intro k
                induction k with
                | zero =>
                  intro j x1 y1 z1 hj hx1 hM hk
                  exact absurd hk (by omega)
                | succ k ih =>
                  intro j x1 y1 z1 hj hx1 hM hk
                  have ih9 := ih
                  refine hs_iload C dX6_container_53 6 rfl ?_
                  refine hs_aload_n C dX6_container_55 rfl 0 rfl ?_
                  refine hs_get C u6 0 rfl rfl 0 (by decide) f10 rfl rfl dX6_container_56 ?_
                  refine hs_getN C u0 1 rfl rfl 1 (by decide) f55 rfl rfl dX6_container_59 ?_
                  refine hs_icmp_ge (tgt := 118) C dX6_container_62 (by decide) (by omega) (by omega) (fun c10 => ?_) (fun c10 => ?_)
                  ·
                    refine hs_iinc (lv' := [(0, .ref x0), (1, hs_V wh), (2, hs_V x1), (3, hs_V y1), (4, hs_V z1), (5, hs_V (i + 1)), (6, hs_V j)]) C dX6_container_118 5 rfl (by decide) [1, 2, 3, 4, 5, 0, 6] rfl ?_
                    refine hs_goto (tgt := 35) C dX6_container_121 (by decide) ?_
                    refine hs_lvs (lv' := [(0, .ref x0), (1, hs_V wh), (2, hs_V x1), (3, hs_V y1), (4, hs_V z1), (5, hs_V (i + 1))]) [0, 1, 2, 3, 4, 5] rfl ?_
                    exact ih5 (i + 1) x1 y1 z1 (by omega) (by omega) (by have hz := (hs_up_step (by omega)).symm.trans hL; have he : pu_ctO n g i (x, y, z) = (x1, y1, z1) := (by unfold pu_ctO; rw [← hM, hs_up_done (by omega)]); rw [he] at hz; exact hz) (by omega)
                  ·
                    refine hs_aload_n C dX6_container_65 rfl 0 rfl ?_
                    refine hs_get C u6 0 rfl rfl 0 (by decide) f10 rfl rfl dX6_container_66 ?_
                    refine hs_getN C u0 1 rfl rfl 0 (by decide) f78 rfl rfl dX6_container_69 ?_
                    refine hs_iload C dX6_container_72 5 rfl ?_
                    refine hs_iald C 2 rfl (by omega) dX6_container_74 ?_
                    have b11 := hg i
                    refine hs_aload_n C dX6_container_75 rfl 0 rfl ?_
                    refine hs_get C u6 0 rfl rfl 0 (by decide) f10 rfl rfl dX6_container_76 ?_
                    refine hs_getN C u0 1 rfl rfl 0 (by decide) f78 rfl rfl dX6_container_79 ?_
                    refine hs_iload C dX6_container_82 6 rfl ?_
                    refine hs_iald C 2 rfl (by omega) dX6_container_84 ?_
                    have b12 := hg j
                    refine hs_min C m192 smin iM kmin (Nat.le_of_ble_eq_true rfl) (Nat.le_of_ble_eq_true rfl) (Nat.zero_le _) (Nat.zero_le _) (by omega) (by omega) dX6_container_85 ?_
                    refine hs_iload C dX6_container_88 6 rfl ?_
                    refine hs_iload C dX6_container_90 5 rfl ?_
                    refine hs_isub C dX6_container_92 ?_
                    have hmb := pu_mulb (x := min (g i) (g j)) (y := j - i) (by omega) (by omega)
                    refine hs_imul C dX6_container_93 ?_
                    refine hs_istore (lv' := [(0, .ref x0), (1, hs_V wh), (2, hs_V x1), (3, hs_V y1), (4, hs_V z1), (5, hs_V i), (6, hs_V j), (7, hs_V ((min (g i) (g j)) * (j - i)))]) C dX6_container_94 (by decide) [1, 2, 3, 4, 5, 6, 7, 0] rfl ?_
                    refine hs_iload C dX6_container_96 7 rfl ?_
                    refine hs_iload_n C dX6_container_98 rfl 2 rfl ?_
                    refine hs_icmp_le (tgt := 112) C dX6_container_99 (by decide) (by omega) (by omega) (fun c13 => ?_) (fun c13 => ?_)
                    ·
                      refine hs_iinc (lv' := [(0, .ref x0), (1, hs_V wh), (2, hs_V x1), (3, hs_V y1), (4, hs_V z1), (5, hs_V i), (6, hs_V (j + 1)), (7, hs_V ((min (g i) (g j)) * (j - i)))]) C dX6_container_112 6 rfl (by decide) [1, 2, 3, 4, 5, 6, 0, 7] rfl ?_
                      refine hs_goto (tgt := 53) C dX6_container_115 (by decide) ?_
                      refine hs_lvs (lv' := [(0, .ref x0), (1, hs_V wh), (2, hs_V x1), (3, hs_V y1), (4, hs_V z1), (5, hs_V i), (6, hs_V (j + 1))]) [0, 1, 2, 3, 4, 5, 6] rfl ?_
                      exact ih9 (j + 1) x1 y1 z1 (by omega) (by omega) (by have hz := (hs_up_step (by omega)).symm.trans hM; unfold pu_ctI at hz ⊢; (try dsimp only at hz); first | exact hz | (split at hz <;> first | exact hz | (exfalso; omega) | (split at hz <;> first | exact hz | (exfalso; omega) | (split at hz <;> first | exact hz | (exfalso; omega))))) (by omega)
                    ·
                      refine hs_iload C dX6_container_102 7 rfl ?_
                      refine hs_istore_n (lv' := [(0, .ref x0), (1, hs_V wh), (2, hs_V ((min (g i) (g j)) * (j - i))), (3, hs_V y1), (4, hs_V z1), (5, hs_V i), (6, hs_V j), (7, hs_V ((min (g i) (g j)) * (j - i)))]) C dX6_container_104 rfl (by decide) [1, 2, 0, 3, 4, 5, 6, 7] rfl ?_
                      refine hs_iload C dX6_container_105 5 rfl ?_
                      refine hs_istore_n (lv' := [(0, .ref x0), (1, hs_V wh), (2, hs_V ((min (g i) (g j)) * (j - i))), (3, hs_V i), (4, hs_V z1), (5, hs_V i), (6, hs_V j), (7, hs_V ((min (g i) (g j)) * (j - i)))]) C dX6_container_107 rfl (by decide) [1, 2, 3, 0, 4, 5, 6, 7] rfl ?_
                      refine hs_iload C dX6_container_108 6 rfl ?_
                      refine hs_istore (lv' := [(0, .ref x0), (1, hs_V wh), (2, hs_V ((min (g i) (g j)) * (j - i))), (3, hs_V i), (4, hs_V j), (5, hs_V i), (6, hs_V j), (7, hs_V ((min (g i) (g j)) * (j - i)))]) C dX6_container_110 (by decide) [1, 2, 3, 4, 0, 5, 6, 7] rfl ?_
                      refine hs_iinc (lv' := [(0, .ref x0), (1, hs_V wh), (2, hs_V ((min (g i) (g j)) * (j - i))), (3, hs_V i), (4, hs_V j), (5, hs_V i), (6, hs_V (j + 1)), (7, hs_V ((min (g i) (g j)) * (j - i)))]) C dX6_container_112 6 rfl (by decide) [1, 2, 3, 4, 5, 6, 0, 7] rfl ?_
                      refine hs_goto (tgt := 53) C dX6_container_115 (by decide) ?_
                      refine hs_lvs (lv' := [(0, .ref x0), (1, hs_V wh), (2, hs_V ((min (g i) (g j)) * (j - i))), (3, hs_V i), (4, hs_V j), (5, hs_V i), (6, hs_V (j + 1))]) [0, 1, 2, 3, 4, 5, 6] rfl ?_
                      exact ih9 (j + 1) ((min (g i) (g j)) * (j - i)) i j (by omega) (by omega) (by have hz := (hs_up_step (by omega)).symm.trans hM; unfold pu_ctI at hz ⊢; (try dsimp only at hz); first | exact hz | (split at hz <;> first | exact hz | (exfalso; omega) | (split at hz <;> first | exact hz | (exfalso; omega) | (split at hz <;> first | exact hz | (exfalso; omega))))) (by omega)
              exact Lp8 ((n - (i + 1) : Int).toNat + 1) (i + 1) x y z (by omega) (by omega) (rfl) (by omega)
        exact Lp4 ((n - 0 : Int).toNat + 1) 0 (-1) 0 0 (by omega) (by omega) (rfl) (by omega)
      ·
        refine hs_bipush C dX6_container_22 (by decide) ?_
        exact hret _ _ _ () (by unfold pu_container; rw [if_neg (by omega), if_pos (by omega)]) dX6_container_24 rfl
    ·
      refine hs_iconst C dX6_container_9 ?_
      exact hret _ _ _ () (by unfold pu_container; rw [if_pos (by omega)]) dX6_container_10 rfl

set_option maxHeartbeats 4000000 in
set_option maxRecDepth 100000 in
theorem c_X6_sumOfMinima (l : Launch) (D : va_G) (cI cO : ClassId) (x0 : Nat) (h0 : Nat) (k0 : Nat) (i0 : Nat) (w0 : Nat) (r0 : Nat) (t0 : Nat) (p0 : Nat) (h1 : Nat) (n : Int) (g : Int → Int) (hn : 0 ≤ n ∧ n ≤ 40) (hg : ∀ k, 0 ≤ g k ∧ g k ≤ 50) : hs_M l D cI cO yX6_sumOfMinima wsX6_sumOfMinima ({ frames := 1, cells := 0, slots := 0, locals := 21 } : Room) [.ref x0] [hs_ob x0 6 [.ref h0, .ref k0, .ref i0, .ref w0, .ref r0, .ref t0, .ref p0], hs_ob h0 0 [.ref h1, hs_V n], hs_ia cI h1 40 g] (fun r (_ : Unit) => r = hs_I (pu_som n g)) (fun _ => [hs_ob x0 6 [.ref h0, .ref k0, .ref i0, .ref w0, .ref r0, .ref t0, .ref p0], hs_ob h0 0 [.ref h1, hs_V n], hs_ia cI h1 40 g]) 0 0 := by
  refine hs_enter (cc := cX6_sumOfMinima) (maxL := 5) (by decide +kernel) rfl (Nat.le_of_ble_eq_true rfl) (fun p e s m args below meth c A H0 Q C hret => ?_)
  have f10 := C.1.2.2.2.2 (.fieldLink RX6 10 "HistogramStairs" "columns" "LHistogramStairs$Columns;") (by decide +kernel)
  have u6 : ∀ w ∈ wsX60, w ∈ wsX6_sumOfMinima := by decide +kernel
  have f55 : (Cond.fieldLinkNest RX6 55 RX0 "size" "I" RX6).before args s = true := va_Nw.use (A := args) rfl (C.2.2.1.1 (RX6, 55, RX0, "size", "I") (by decide +kernel))
  have u0 : ∀ w ∈ wsX00, w ∈ wsX6_sumOfMinima := by decide +kernel
  have f78 : (Cond.fieldLinkNest RX6 78 RX0 "heights" "[I" RX6).before args s = true := va_Nw.use (A := args) rfl (C.2.2.1.1 (RX6, 78, RX0, "heights", "[I") (by decide +kernel))
  have m192 := C.1.2.2.2.2 (.methodLink RX6 192 Lib.Math.min.name) (by decide +kernel)
  have smin := C.1.2.2.2.2 (.static Lib.Math.min.name) (by decide +kernel)
  have iM := C.1.2.2.2.2 (.initialized "java/lang/Math") (by decide +kernel)
  have kmin := C.1.2.2.2.2 (.code Lib.Math.min.name Lib.Math.min.code 2 (some .int)) (by decide +kernel)
  refine hs_lvs (lv' := [(0, .ref x0)]) [0] rfl ?_
  refine hs_iconst C dX6_sumOfMinima_0 ?_
  refine hs_istore_n (lv' := [(0, .ref x0), (1, hs_V 0)]) C dX6_sumOfMinima_1 rfl (by decide) [1, 0] rfl ?_
  refine hs_iconst C dX6_sumOfMinima_2 ?_
  refine hs_istore_n (lv' := [(0, .ref x0), (1, hs_V 0), (2, hs_V 0)]) C dX6_sumOfMinima_3 rfl (by decide) [1, 2, 0] rfl ?_
  have Lp1 : ∀ (k : Nat) (a : Int) (x : Int), (0 ≤ a ∧ a ≤ n) → (hs_up (pu_somO n g) a n x = pu_som n g) → (n - a < (k : Int)) → hs_J p l e ({ frames := 1, cells := 0, slots := 0, locals := 21 } : Room) s m args below meth c D A H0 5 0 0 Q 4 [(0, .ref x0), (1, hs_V x), (2, hs_V a)] [] [hs_ob x0 6 [.ref h0, .ref k0, .ref i0, .ref w0, .ref r0, .ref t0, .ref p0], hs_ob h0 0 [.ref h1, hs_V n], hs_ia cI h1 40 g] := by
    intro k
    induction k with
    | zero =>
      intro a x ha hL hk
      exact absurd hk (by omega)
    | succ k ih =>
      intro a x ha hL hk
      have ih2 := ih
      refine hs_iload_n C dX6_sumOfMinima_4 rfl 2 rfl ?_
      refine hs_aload_n C dX6_sumOfMinima_5 rfl 0 rfl ?_
      refine hs_get C u6 0 rfl rfl 0 (by decide) f10 rfl rfl dX6_sumOfMinima_6 ?_
      refine hs_getN C u0 1 rfl rfl 1 (by decide) f55 rfl rfl dX6_sumOfMinima_9 ?_
      refine hs_icmp_ge (tgt := 64) C dX6_sumOfMinima_12 (by decide) (by omega) (by omega) (fun c3 => ?_) (fun c3 => ?_)
      ·
        refine hs_iload_n C dX6_sumOfMinima_64 rfl 1 rfl ?_
        exact hret _ _ _ () (by rw [← hL, hs_up_done (by omega)]) dX6_sumOfMinima_65 rfl
      ·
        refine hs_bipush C dX6_sumOfMinima_15 (by decide) ?_
        refine hs_istore_n (lv' := [(0, .ref x0), (1, hs_V x), (2, hs_V a), (3, hs_V 50)]) C dX6_sumOfMinima_17 rfl (by decide) [1, 2, 3, 0] rfl ?_
        refine hs_iload_n C dX6_sumOfMinima_18 rfl 2 rfl ?_
        refine hs_istore (lv' := [(0, .ref x0), (1, hs_V x), (2, hs_V a), (3, hs_V 50), (4, hs_V a)]) C dX6_sumOfMinima_19 (by decide) [1, 2, 3, 4, 0] rfl ?_
        have Lp4 : ∀ (k : Nat) (b : Int) (y : Int) (x1 : Int), (a ≤ b ∧ b ≤ n) → (0 ≤ y ∧ y ≤ 50) → (hs_up (pu_somI g) b n (y, x1) = hs_up (pu_somI g) a n (50, x)) → (n - b < (k : Int)) → hs_J p l e ({ frames := 1, cells := 0, slots := 0, locals := 21 } : Room) s m args below meth c D A H0 5 0 0 Q 21 [(0, .ref x0), (1, hs_V x1), (2, hs_V a), (3, hs_V y), (4, hs_V b)] [] [hs_ob x0 6 [.ref h0, .ref k0, .ref i0, .ref w0, .ref r0, .ref t0, .ref p0], hs_ob h0 0 [.ref h1, hs_V n], hs_ia cI h1 40 g] := by
          intro k
          induction k with
          | zero =>
            intro b y x1 hb hy hM hk
            exact absurd hk (by omega)
          | succ k ih =>
            intro b y x1 hb hy hM hk
            have ih5 := ih
            refine hs_iload C dX6_sumOfMinima_21 4 rfl ?_
            refine hs_aload_n C dX6_sumOfMinima_23 rfl 0 rfl ?_
            refine hs_get C u6 0 rfl rfl 0 (by decide) f10 rfl rfl dX6_sumOfMinima_24 ?_
            refine hs_getN C u0 1 rfl rfl 1 (by decide) f55 rfl rfl dX6_sumOfMinima_27 ?_
            refine hs_icmp_ge (tgt := 58) C dX6_sumOfMinima_30 (by decide) (by omega) (by omega) (fun c6 => ?_) (fun c6 => ?_)
            ·
              refine hs_iinc (lv' := [(0, .ref x0), (1, hs_V x1), (2, hs_V (a + 1)), (3, hs_V y), (4, hs_V b)]) C dX6_sumOfMinima_58 2 rfl (by decide) [1, 2, 0, 3, 4] rfl ?_
              refine hs_goto (tgt := 4) C dX6_sumOfMinima_61 (by decide) ?_
              refine hs_lvs (lv' := [(0, .ref x0), (1, hs_V x1), (2, hs_V (a + 1))]) [0, 1, 2] rfl ?_
              exact ih2 (a + 1) x1 (by omega) (by have hz := (hs_up_step (by omega)).symm.trans hL; have he : pu_somO n g a x = x1 := (by unfold pu_somO; rw [← hM, hs_up_done (by omega)]); rw [he] at hz; exact hz) (by omega)
            ·
              refine hs_iload_n C dX6_sumOfMinima_33 rfl 3 rfl ?_
              refine hs_aload_n C dX6_sumOfMinima_34 rfl 0 rfl ?_
              refine hs_get C u6 0 rfl rfl 0 (by decide) f10 rfl rfl dX6_sumOfMinima_35 ?_
              refine hs_getN C u0 1 rfl rfl 0 (by decide) f78 rfl rfl dX6_sumOfMinima_38 ?_
              refine hs_iload C dX6_sumOfMinima_41 4 rfl ?_
              refine hs_iald C 2 rfl (by omega) dX6_sumOfMinima_43 ?_
              have b7 := hg b
              refine hs_min C m192 smin iM kmin (Nat.le_of_ble_eq_true rfl) (Nat.le_of_ble_eq_true rfl) (Nat.zero_le _) (Nat.zero_le _) (by omega) (by omega) dX6_sumOfMinima_44 ?_
              refine hs_istore_n (lv' := [(0, .ref x0), (1, hs_V x1), (2, hs_V a), (3, hs_V (min y (g b))), (4, hs_V b)]) C dX6_sumOfMinima_47 rfl (by decide) [1, 2, 3, 0, 4] rfl ?_
              refine hs_iload_n C dX6_sumOfMinima_48 rfl 1 rfl ?_
              refine hs_iload_n C dX6_sumOfMinima_49 rfl 3 rfl ?_
              refine hs_iadd C dX6_sumOfMinima_50 ?_
              refine hs_istore_n (lv' := [(0, .ref x0), (1, hs_V (x1 + (min y (g b)))), (2, hs_V a), (3, hs_V (min y (g b))), (4, hs_V b)]) C dX6_sumOfMinima_51 rfl (by decide) [1, 0, 2, 3, 4] rfl ?_
              refine hs_iinc (lv' := [(0, .ref x0), (1, hs_V (x1 + (min y (g b)))), (2, hs_V a), (3, hs_V (min y (g b))), (4, hs_V (b + 1))]) C dX6_sumOfMinima_52 4 rfl (by decide) [1, 2, 3, 4, 0] rfl ?_
              refine hs_goto (tgt := 21) C dX6_sumOfMinima_55 (by decide) ?_
              exact ih5 (b + 1) (min y (g b)) (x1 + (min y (g b))) (by omega) (by omega) ((hs_up_step (by omega)).symm.trans hM) (by omega)
        exact Lp4 ((n - a : Int).toNat + 1) a 50 x (by omega) (by omega) (rfl) (by omega)
  exact Lp1 ((n - 0 : Int).toNat + 1) 0 0 (by omega) (rfl) (by omega)

set_option maxHeartbeats 4000000 in
set_option maxRecDepth 100000 in
theorem c_X6_ranges (l : Launch) (D : va_G) (cI cO : ClassId) (x0 : Nat) (h0 : Nat) (k0 : Nat) (i0 : Nat) (w0 : Nat) (r0 : Nat) (t0 : Nat) (p0 : Nat) (h1 : Nat) (n : Int) (g : Int → Int) (lo : Int) (hn : 0 ≤ n ∧ n ≤ 40) (hg : ∀ k, 0 ≤ g k ∧ g k ≤ 50) (hzl : hs_in lo) : hs_M l D cI cO yX6_ranges wsX6_ranges ({ frames := 1, cells := 0, slots := 0, locals := 20 } : Room) [.ref x0, hs_V lo] [hs_ob x0 6 [.ref h0, .ref k0, .ref i0, .ref w0, .ref r0, .ref t0, .ref p0], hs_ob h0 0 [.ref h1, hs_V n], hs_ia cI h1 40 g] (fun r (_ : Unit) => r = hs_I (pu_ranges n g lo)) (fun _ => [hs_ob x0 6 [.ref h0, .ref k0, .ref i0, .ref w0, .ref r0, .ref t0, .ref p0], hs_ob h0 0 [.ref h1, hs_V n], hs_ia cI h1 40 g]) 0 0 := by
  refine hs_enter (cc := cX6_ranges) (maxL := 5) (by decide +kernel) rfl (Nat.le_of_ble_eq_true rfl) (fun p e s m args below meth c A H0 Q C hret => ?_)
  have f10 := C.1.2.2.2.2 (.fieldLink RX6 10 "HistogramStairs" "columns" "LHistogramStairs$Columns;") (by decide +kernel)
  have u6 : ∀ w ∈ wsX60, w ∈ wsX6_ranges := by decide +kernel
  have f55 : (Cond.fieldLinkNest RX6 55 RX0 "size" "I" RX6).before args s = true := va_Nw.use (A := args) rfl (C.2.2.1.1 (RX6, 55, RX0, "size", "I") (by decide +kernel))
  have u0 : ∀ w ∈ wsX00, w ∈ wsX6_ranges := by decide +kernel
  have f78 : (Cond.fieldLinkNest RX6 78 RX0 "heights" "[I" RX6).before args s = true := va_Nw.use (A := args) rfl (C.2.2.1.1 (RX6, 78, RX0, "heights", "[I") (by decide +kernel))
  refine hs_lvs (lv' := [(0, .ref x0), (1, hs_V lo)]) [0, 1] rfl ?_
  refine hs_iload_n C dX6_ranges_0 rfl 1 rfl ?_
  refine hs_callSi (win := []) (wr := [hs_ob x0 6 [.ref h0, .ref k0, .ref i0, .ref w0, .ref r0, .ref t0, .ref p0], hs_ob h0 0 [.ref h1, hs_V n], hs_ia cI h1 40 g]) (As := [hs_V lo]) (rest := []) C (c_X6_isHeight l D cI cO lo (by omega)) (va_cwS 1 C.1.2.2.2.2 gX6_ranges_X6_isHeight rfl rfl rfl (by decide +kernel) ⟨Nat.le_of_ble_eq_true rfl, Nat.le_of_ble_eq_true rfl⟩) rfl rfl (Nat.le_of_ble_eq_true rfl) dX6_ranges_1 ⟨Nat.le_of_ble_eq_true rfl, Nat.le_of_ble_eq_true rfl⟩ (fun rr uu1 hp => ?_)
  obtain rfl := hp
  refine hs_re0 (w' := [hs_ob x0 6 [.ref h0, .ref k0, .ref i0, .ref w0, .ref r0, .ref t0, .ref p0], hs_ob h0 0 [.ref h1, hs_V n], hs_ia cI h1 40 g]) [0, 1, 2] rfl (by decide) ?_
  refine hs_ifne_b (tgt := 9) C dX6_ranges_4 (by decide) (fun c2 => ?_) (fun c2 => ?_)
  ·
    refine hs_iconst C dX6_ranges_9 ?_
    refine hs_istore_n (lv' := [(0, .ref x0), (1, hs_V lo), (2, hs_V 0)]) C dX6_ranges_10 rfl (by decide) [1, 2, 0] rfl ?_
    refine hs_iconst C dX6_ranges_11 ?_
    refine hs_istore_n (lv' := [(0, .ref x0), (1, hs_V lo), (2, hs_V 0), (3, hs_V 0)]) C dX6_ranges_12 rfl (by decide) [1, 2, 3, 0] rfl ?_
    refine hs_iconst C dX6_ranges_13 ?_
    refine hs_istore (lv' := [(0, .ref x0), (1, hs_V lo), (2, hs_V 0), (3, hs_V 0), (4, hs_V 0)]) C dX6_ranges_14 (by decide) [1, 2, 3, 4, 0] rfl ?_
    have Lp3 : ∀ (k : Nat) (i : Int) (x : Int) (y : Int), (0 ≤ i ∧ i ≤ n) → (hs_up (pu_rgF g lo) i n (x, y) = pu_rg n g lo) → (n - i < (k : Int)) → hs_J p l e ({ frames := 1, cells := 0, slots := 0, locals := 20 } : Room) s m args below meth c D A H0 5 0 0 Q 16 [(0, .ref x0), (1, hs_V lo), (2, hs_V x), (3, hs_V y), (4, hs_V i)] [] [hs_ob x0 6 [.ref h0, .ref k0, .ref i0, .ref w0, .ref r0, .ref t0, .ref p0], hs_ob h0 0 [.ref h1, hs_V n], hs_ia cI h1 40 g] := by
      intro k
      induction k with
      | zero =>
        intro i x y hi hL hk
        exact absurd hk (by omega)
      | succ k ih =>
        intro i x y hi hL hk
        have ih4 := ih
        refine hs_iload C dX6_ranges_16 4 rfl ?_
        refine hs_aload_n C dX6_ranges_18 rfl 0 rfl ?_
        refine hs_get C u6 0 rfl rfl 0 (by decide) f10 rfl rfl dX6_ranges_19 ?_
        refine hs_getN C u0 1 rfl rfl 1 (by decide) f55 rfl rfl dX6_ranges_22 ?_
        refine hs_icmp_ge (tgt := 60) C dX6_ranges_25 (by decide) (by omega) (by omega) (fun c5 => ?_) (fun c5 => ?_)
        ·
          refine hs_iload_n C dX6_ranges_60 rfl 2 rfl ?_
          exact hret _ _ _ () (by unfold pu_ranges; rw [if_neg (by omega), ← hL, hs_up_done (by omega)]) dX6_ranges_61 rfl
        ·
          refine hs_aload_n C dX6_ranges_28 rfl 0 rfl ?_
          refine hs_get C u6 0 rfl rfl 0 (by decide) f10 rfl rfl dX6_ranges_29 ?_
          refine hs_getN C u0 1 rfl rfl 0 (by decide) f78 rfl rfl dX6_ranges_32 ?_
          refine hs_iload C dX6_ranges_35 4 rfl ?_
          refine hs_iald C 2 rfl (by omega) dX6_ranges_37 ?_
          have b6 := hg i
          refine hs_iload_n C dX6_ranges_38 rfl 1 rfl ?_
          refine hs_icmp_lt (tgt := 48) C dX6_ranges_39 (by decide) (by omega) (by omega) (fun c7 => ?_) (fun c7 => ?_)
          ·
            refine hs_iconst C dX6_ranges_48 ?_
            refine hs_istore_n (lv' := [(0, .ref x0), (1, hs_V lo), (2, hs_V x), (3, hs_V 0), (4, hs_V i)]) C dX6_ranges_49 rfl (by decide) [1, 2, 3, 0, 4] rfl ?_
            refine hs_iload_n C dX6_ranges_50 rfl 2 rfl ?_
            refine hs_iload_n C dX6_ranges_51 rfl 3 rfl ?_
            refine hs_iadd C dX6_ranges_52 ?_
            refine hs_istore_n (lv' := [(0, .ref x0), (1, hs_V lo), (2, hs_V (x + 0)), (3, hs_V 0), (4, hs_V i)]) C dX6_ranges_53 rfl (by decide) [1, 2, 0, 3, 4] rfl ?_
            refine hs_iinc (lv' := [(0, .ref x0), (1, hs_V lo), (2, hs_V (x + 0)), (3, hs_V 0), (4, hs_V (i + 1))]) C dX6_ranges_54 4 rfl (by decide) [1, 2, 3, 4, 0] rfl ?_
            refine hs_goto (tgt := 16) C dX6_ranges_57 (by decide) ?_
            exact ih4 (i + 1) (x + 0) 0 (by omega) (by have hz := (hs_up_step (by omega)).symm.trans hL; unfold pu_rgF at hz ⊢; (try dsimp only at hz); first | exact hz | (split at hz <;> first | exact hz | (exfalso; omega) | (split at hz <;> first | exact hz | (exfalso; omega) | (split at hz <;> first | exact hz | (exfalso; omega))))) (by omega)
          ·
            refine hs_iload_n C dX6_ranges_42 rfl 3 rfl ?_
            refine hs_iconst C dX6_ranges_43 ?_
            refine hs_iadd C dX6_ranges_44 ?_
            refine hs_goto (tgt := 49) C dX6_ranges_45 (by decide) ?_
            refine hs_istore_n (lv' := [(0, .ref x0), (1, hs_V lo), (2, hs_V x), (3, hs_V (y + 1)), (4, hs_V i)]) C dX6_ranges_49 rfl (by decide) [1, 2, 3, 0, 4] rfl ?_
            refine hs_iload_n C dX6_ranges_50 rfl 2 rfl ?_
            refine hs_iload_n C dX6_ranges_51 rfl 3 rfl ?_
            refine hs_iadd C dX6_ranges_52 ?_
            refine hs_istore_n (lv' := [(0, .ref x0), (1, hs_V lo), (2, hs_V (x + (y + 1))), (3, hs_V (y + 1)), (4, hs_V i)]) C dX6_ranges_53 rfl (by decide) [1, 2, 0, 3, 4] rfl ?_
            refine hs_iinc (lv' := [(0, .ref x0), (1, hs_V lo), (2, hs_V (x + (y + 1))), (3, hs_V (y + 1)), (4, hs_V (i + 1))]) C dX6_ranges_54 4 rfl (by decide) [1, 2, 3, 4, 0] rfl ?_
            refine hs_goto (tgt := 16) C dX6_ranges_57 (by decide) ?_
            exact ih4 (i + 1) (x + (y + 1)) (y + 1) (by omega) (by have hz := (hs_up_step (by omega)).symm.trans hL; unfold pu_rgF at hz ⊢; (try dsimp only at hz); first | exact hz | (split at hz <;> first | exact hz | (exfalso; omega) | (split at hz <;> first | exact hz | (exfalso; omega) | (split at hz <;> first | exact hz | (exfalso; omega))))) (by omega)
    exact Lp3 ((n - 0 : Int).toNat + 1) 0 0 0 (by omega) (rfl) (by omega)
  ·
    refine hs_iconst C dX6_ranges_7 ?_
    exact hret _ _ _ () (by unfold pu_ranges; rw [if_pos (by omega)]) dX6_ranges_8 rfl

set_option maxHeartbeats 4000000 in
set_option maxRecDepth 100000 in
theorem c_X6_freeze (l : Launch) (D : va_G) (cI cO : ClassId) (x0 : Nat) (h0 : Nat) (k0 : Nat) (i0 : Nat) (w0 : Nat) (r0 : Nat) (t0 : Nat) (p0 : Nat) (h1 : Nat) (n : Int) (g : Int → Int) (w1 : Nat) (dp : Int → Int) (k1 : Nat) (ct : Int) (Z : Int → pu_Z) (hn : 0 ≤ n ∧ n ≤ 40) (hg : ∀ k, 0 ≤ g k ∧ g k ≤ 50) (hdp : ∀ k, -50 ≤ dp k ∧ dp k ≤ 50) (hct : 0 ≤ ct ∧ ct ≤ 8) : hs_M l D cI cO yX6_freeze wsX6_freeze ({ frames := 3, cells := 0, slots := 0, locals := 69 } : Room) [.ref x0] (hs_ob x0 6 [.ref h0, .ref k0, .ref i0, .ref w0, .ref r0, .ref t0, .ref p0] :: hs_ob h0 0 [.ref h1, hs_V n] :: hs_ia cI h1 40 g :: hs_ob w0 5 [.ref w1] :: hs_ia cI w1 40 dp :: hs_hist cI cO k0 k1 ct Z) (fun r (_ : Unit) => r = hs_I (pu_freeze dp (n, g, ct, Z)).1) (fun _ => (hs_ob x0 6 [.ref h0, .ref k0, .ref i0, .ref w0, .ref r0, .ref t0, .ref p0] :: hs_ob h0 0 [.ref h1, hs_V (pu_freeze dp (n, g, ct, Z)).2.1] :: hs_ia cI h1 40 (pu_freeze dp (n, g, ct, Z)).2.2.1 :: hs_ob w0 5 [.ref w1] :: hs_ia cI w1 40 (pu_pour g 0 (n - 1) dp).2 :: hs_hist cI cO k0 k1 (pu_freeze dp (n, g, ct, Z)).2.2.2.1 (pu_freeze dp (n, g, ct, Z)).2.2.2.2)) 0 0 := by
  refine hs_enter (cc := cX6_freeze) (maxL := 3) (by decide +kernel) rfl (Nat.le_of_ble_eq_true rfl) (fun p e s m args below meth c A H0 Q C hret => ?_)
  have f19 := C.1.2.2.2.2 (.fieldLink RX6 19 "HistogramStairs" "history" "LHistogramStairs$History;") (by decide +kernel)
  have u6 : ∀ w ∈ wsX60, w ∈ wsX6_freeze := by decide +kernel
  have f10 := C.1.2.2.2.2 (.fieldLink RX6 10 "HistogramStairs" "columns" "LHistogramStairs$Columns;") (by decide +kernel)
  have f55 : (Cond.fieldLinkNest RX6 55 RX0 "size" "I" RX6).before args s = true := va_Nw.use (A := args) rfl (C.2.2.1.1 (RX6, 55, RX0, "size", "I") (by decide +kernel))
  have u0 : ∀ w ∈ wsX00, w ∈ wsX6_freeze := by decide +kernel
  have f78 : (Cond.fieldLinkNest RX6 78 RX0 "heights" "[I" RX6).before args s = true := va_Nw.use (A := args) rfl (C.2.2.1.1 (RX6, 78, RX0, "heights", "[I") (by decide +kernel))
  have f30 := C.1.2.2.2.2 (.fieldLink RX6 30 "HistogramStairs" "water" "LHistogramStairs$Water;") (by decide +kernel)
  have f102 : (Cond.fieldLinkNest RX6 102 RX5 "depths" "[I" RX6).before args s = true := va_Nw.use (A := args) rfl (C.2.2.1.1 (RX6, 102, RX5, "depths", "[I") (by decide +kernel))
  have u5 : ∀ w ∈ wsX50, w ∈ wsX6_freeze := by decide +kernel
  refine hs_lvs (lv' := [(0, .ref x0)]) [0] rfl ?_
  refine hs_aload_n C dX6_freeze_0 rfl 0 rfl ?_
  refine hs_get C u6 0 rfl rfl 1 (by decide) f19 rfl rfl dX6_freeze_1 ?_
  refine hs_aload_n C dX6_freeze_4 rfl 0 rfl ?_
  refine hs_get C u6 0 rfl rfl 0 (by decide) f10 rfl rfl dX6_freeze_5 ?_
  refine hs_re (w := [hs_ob x0 6 [.ref h0, .ref k0, .ref i0, .ref w0, .ref r0, .ref t0, .ref p0], hs_ob h0 0 [.ref h1, hs_V n], hs_ia cI h1 40 g, hs_ob w0 5 [.ref w1], hs_ia cI w1 40 dp]) (w' := [hs_ob x0 6 [.ref h0, .ref k0, .ref i0, .ref w0, .ref r0, .ref t0, .ref p0], hs_ob w0 5 [.ref w1], hs_ia cI w1 40 dp, hs_ob h0 0 [.ref h1, hs_V n], hs_ia cI h1 40 g]) (wi := hs_hist cI cO k0 k1 ct Z) [0, 3, 4, 1, 2] rfl (by decide) ?_
  refine hs_swap (w1 := [hs_ob x0 6 [.ref h0, .ref k0, .ref i0, .ref w0, .ref r0, .ref t0, .ref p0], hs_ob w0 5 [.ref w1], hs_ia cI w1 40 dp]) (w2 := (hs_ob h0 0 [.ref h1, hs_V n] :: hs_ia cI h1 40 g :: hs_hist cI cO k0 k1 ct Z)) ?_
  refine hs_callVv (win := (hs_ob h0 0 [.ref h1, hs_V n] :: hs_ia cI h1 40 g :: hs_hist cI cO k0 k1 ct Z)) (wr := [hs_ob x0 6 [.ref h0, .ref k0, .ref i0, .ref w0, .ref r0, .ref t0, .ref p0], hs_ob w0 5 [.ref w1], hs_ia cI w1 40 dp]) (As := [.ref h0]) (rest := []) C (c_X1_remember l D cI cO k0 k1 ct Z h0 h1 n g (by omega) (by omega)) 1 2 rfl rfl rfl (cwV 1 C.1.2.2.2.2 gX6_freeze_X1_remember rfl rfl rfl (by decide +kernel) ⟨Nat.le_of_ble_eq_true rfl, Nat.le_of_ble_eq_true rfl⟩) rfl rfl (Nat.le_of_ble_eq_true rfl) dX6_freeze_8 ⟨Nat.le_of_ble_eq_true rfl, Nat.le_of_ble_eq_true rfl⟩ (fun uu1 hp => ?_)
  refine hs_swap (w1 := (hs_ob h0 0 [.ref h1, hs_V n] :: hs_ia cI h1 40 g :: hs_hist cI cO k0 k1 (pu_remC ct) (pu_remZ ct Z n g))) (w2 := [hs_ob x0 6 [.ref h0, .ref k0, .ref i0, .ref w0, .ref r0, .ref t0, .ref p0], hs_ob w0 5 [.ref w1], hs_ia cI w1 40 dp]) ?_
  refine hs_re (w := [hs_ob x0 6 [.ref h0, .ref k0, .ref i0, .ref w0, .ref r0, .ref t0, .ref p0], hs_ob w0 5 [.ref w1], hs_ia cI w1 40 dp, hs_ob h0 0 [.ref h1, hs_V n], hs_ia cI h1 40 g]) (w' := [hs_ob x0 6 [.ref h0, .ref k0, .ref i0, .ref w0, .ref r0, .ref t0, .ref p0], hs_ob h0 0 [.ref h1, hs_V n], hs_ia cI h1 40 g, hs_ob w0 5 [.ref w1], hs_ia cI w1 40 dp]) (wi := hs_hist cI cO k0 k1 (pu_remC ct) (pu_remZ ct Z n g)) [0, 3, 4, 1, 2] rfl (by decide) ?_
  refine hs_aload_n C dX6_freeze_11 rfl 0 rfl ?_
  refine hs_callVi (win := [hs_ob x0 6 [.ref h0, .ref k0, .ref i0, .ref w0, .ref r0, .ref t0, .ref p0], hs_ob h0 0 [.ref h1, hs_V n], hs_ia cI h1 40 g, hs_ob w0 5 [.ref w1], hs_ia cI w1 40 dp]) (wr := (hs_hist cI cO k0 k1 (pu_remC ct) (pu_remZ ct Z n g))) (As := []) (rest := []) C (c_X6_pourAll l D cI cO x0 h0 k0 i0 w0 r0 t0 p0 h1 n g w1 dp (by omega) hg hdp) 6 0 rfl rfl rfl (cwV 0 C.1.2.2.2.2 gX6_freeze_X6_pourAll rfl rfl rfl (by decide +kernel) ⟨Nat.le_of_ble_eq_true rfl, Nat.le_of_ble_eq_true rfl⟩) rfl rfl (Nat.le_of_ble_eq_true rfl) dX6_freeze_12 ⟨Nat.le_of_ble_eq_true rfl, Nat.le_of_ble_eq_true rfl⟩ (fun rr uu2 hp => ?_)
  obtain rfl := hp
  refine hs_re (w := [hs_ob x0 6 [.ref h0, .ref k0, .ref i0, .ref w0, .ref r0, .ref t0, .ref p0], hs_ob h0 0 [.ref h1, hs_V n], hs_ia cI h1 40 g, hs_ob w0 5 [.ref w1], hs_ia cI w1 40 (pu_pour g 0 (n - 1) dp).2]) (w' := [hs_ob x0 6 [.ref h0, .ref k0, .ref i0, .ref w0, .ref r0, .ref t0, .ref p0], hs_ob h0 0 [.ref h1, hs_V n], hs_ia cI h1 40 g, hs_ob w0 5 [.ref w1], hs_ia cI w1 40 (pu_pour g 0 (n - 1) dp).2]) (wi := hs_hist cI cO k0 k1 (pu_remC ct) (pu_remZ ct Z n g)) [0, 1, 2, 3, 4] rfl (by decide) ?_
  refine hs_istore_n (lv' := [(0, .ref x0), (1, hs_V (pu_pour g 0 (n - 1) dp).1)]) C dX6_freeze_15 rfl (by decide) [1, 0] rfl ?_
  refine hs_iconst C dX6_freeze_16 ?_
  refine hs_istore_n (lv' := [(0, .ref x0), (1, hs_V (pu_pour g 0 (n - 1) dp).1), (2, hs_V 0)]) C dX6_freeze_17 rfl (by decide) [1, 2, 0] rfl ?_
  have Lp3 : ∀ (k : Nat) (i : Int) (g1 : Int → Int), (0 ≤ i ∧ i ≤ n) → (hs_up (pu_fzF (pu_pour g 0 (n - 1) dp).2) i n g1 = hs_up (pu_fzF (pu_pour g 0 (n - 1) dp).2) 0 n g) → (n - i < (k : Int)) → hs_J p l e ({ frames := 3, cells := 0, slots := 0, locals := 69 } : Room) s m args below meth c D A H0 3 0 0 Q 18 [(0, .ref x0), (1, hs_V (pu_pour g 0 (n - 1) dp).1), (2, hs_V i)] [] (hs_ob x0 6 [.ref h0, .ref k0, .ref i0, .ref w0, .ref r0, .ref t0, .ref p0] :: hs_ob h0 0 [.ref h1, hs_V n] :: hs_ia cI h1 40 g1 :: hs_ob w0 5 [.ref w1] :: hs_ia cI w1 40 (pu_pour g 0 (n - 1) dp).2 :: hs_hist cI cO k0 k1 (pu_remC ct) (pu_remZ ct Z n g)) := by
    intro k
    induction k with
    | zero =>
      intro i g1 hi hL hk
      exact absurd hk (by omega)
    | succ k ih =>
      intro i g1 hi hL hk
      have ih4 := ih
      refine hs_iload_n C dX6_freeze_18 rfl 2 rfl ?_
      refine hs_aload_n C dX6_freeze_19 rfl 0 rfl ?_
      refine hs_get C u6 0 rfl rfl 0 (by decide) f10 rfl rfl dX6_freeze_20 ?_
      refine hs_getN C u0 1 rfl rfl 1 (by decide) f55 rfl rfl dX6_freeze_23 ?_
      refine hs_icmp_ge (tgt := 56) C dX6_freeze_26 (by decide) (by omega) (by omega) (fun c5 => ?_) (fun c5 => ?_)
      ·
        have hfz : hs_up (pu_fzF (pu_pour g 0 (n - 1) dp).2) 0 n g = g1 := by rw [← hL, hs_up_done (by omega)]
        have hE : pu_freeze dp (n, g, ct, Z) = ((pu_pour g 0 (n - 1) dp).1, n, g1, pu_remC ct, pu_remZ ct Z n g) := by unfold pu_freeze; dsimp only; rw [hfz]
        refine hs_iload_n C dX6_freeze_56 rfl 1 rfl ?_
        refine hs_cast (ws' := (hs_ob x0 6 [.ref h0, .ref k0, .ref i0, .ref w0, .ref r0, .ref t0, .ref p0] :: hs_ob h0 0 [.ref h1, hs_V (pu_freeze dp (n, g, ct, Z)).2.1] :: hs_ia cI h1 40 (pu_freeze dp (n, g, ct, Z)).2.2.1 :: hs_ob w0 5 [.ref w1] :: hs_ia cI w1 40 (pu_pour g 0 (n - 1) dp).2 :: hs_hist cI cO k0 k1 (pu_freeze dp (n, g, ct, Z)).2.2.2.1 (pu_freeze dp (n, g, ct, Z)).2.2.2.2)) ?_ rfl rfl rfl (by rw [hE] <;> rfl)
        exact hret _ _ _ () (by rw [hE]) dX6_freeze_57 rfl
      ·
        refine hs_aload_n C dX6_freeze_29 rfl 0 rfl ?_
        refine hs_get C u6 0 rfl rfl 0 (by decide) f10 rfl rfl dX6_freeze_30 ?_
        refine hs_getN C u0 1 rfl rfl 0 (by decide) f78 rfl rfl dX6_freeze_33 ?_
        refine hs_iload_n C dX6_freeze_36 rfl 2 rfl ?_
        refine hs_dup2 C dX6_freeze_37 rfl rfl ?_
        refine hs_iald C 2 rfl (by omega) dX6_freeze_38 ?_
        refine hs_aload_n C dX6_freeze_39 rfl 0 rfl ?_
        refine hs_get C u6 0 rfl rfl 3 (by decide) f30 rfl rfl dX6_freeze_40 ?_
        refine hs_getN C u5 3 rfl rfl 0 (by decide) f102 rfl rfl dX6_freeze_43 ?_
        refine hs_iload_n C dX6_freeze_46 rfl 2 rfl ?_
        refine hs_iald C 4 rfl (by omega) dX6_freeze_47 ?_
        refine hs_iadd C dX6_freeze_48 ?_
        refine hs_iast (ws' := (hs_ob x0 6 [.ref h0, .ref k0, .ref i0, .ref w0, .ref r0, .ref t0, .ref p0] :: hs_ob h0 0 [.ref h1, hs_V n] :: hs_ia cI h1 40 (hs_u g1 i ((g1 i) + ((pu_pour g 0 (n - 1) dp).2 i))) :: hs_ob w0 5 [.ref w1] :: hs_ia cI w1 40 (pu_pour g 0 (n - 1) dp).2 :: hs_hist cI cO k0 k1 (pu_remC ct) (pu_remZ ct Z n g))) C 2 rfl (by omega) rfl dX6_freeze_49 ?_
        refine hs_iinc (lv' := [(0, .ref x0), (1, hs_V (pu_pour g 0 (n - 1) dp).1), (2, hs_V (i + 1))]) C dX6_freeze_50 2 rfl (by decide) [1, 2, 0] rfl ?_
        refine hs_goto (tgt := 18) C dX6_freeze_53 (by decide) ?_
        exact ih4 (i + 1) (hs_u g1 i ((g1 i) + ((pu_pour g 0 (n - 1) dp).2 i))) (by omega) ((hs_up_step (by omega)).symm.trans hL) (by omega)
  exact Lp3 ((n - 0 : Int).toNat + 1) 0 g (by omega) (rfl) (by omega)
