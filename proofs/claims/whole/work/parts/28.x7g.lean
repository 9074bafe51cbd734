/-! the reference's questions; its scratch: parent, (areas, firsts, lasts), above, next -/
abbrev mo_K : Type := Int × ((Int → Int) × (Int → Int) × (Int → Int)) × (Int → Int) × (Int → Int)
abbrev mo_KB (u : mo_K) : Prop := ((∀ k, 0 ≤ u.2.1.1 k ∧ u.2.1.1 k ≤ 2500) ∧ (∀ k, 0 ≤ u.2.1.2.1 k ∧ u.2.1.2.1 k ≤ 39) ∧ (∀ k, 0 ≤ u.2.1.2.2 k ∧ u.2.1.2.2 k ≤ 39)) ∧ (∀ k, 0 ≤ u.2.2.1 k ∧ u.2.2.1 k ≤ 40) ∧ (∀ k, 0 ≤ u.2.2.2 k ∧ u.2.2.2 k ≤ 40)
abbrev mo_U : Type := ((Int → Int) × (Int → Int) × (Int → Int)) × (Int → Int) × (Int → Int)
def mo_told (wh : Int) (h : Int → Int) (pm : Int) (u : mo_U) : Int :=
  if wh = 0 then h 40 else if wh = 1 then pu_sum h 0 (h 40 - 1) else if wh = 2 then (if h 40 = 0 then 0 else mo_mx h 0 (h 40 - 1)) else if wh = 3 then mo_wat h 0 (h 40 - 1) else if wh = 4 then mo_pools h else if wh = 5 then (mo_ly h (0, u.1.1, u.1.2.1, u.1.2.2)).1 else if wh = 6 then mo_stdL h else if wh = 7 then mo_stdR h else if wh = 8 then mo_deep h else if wh = 9 then mo_hor h else if wh = 10 then pu_sum (mo_str h u.2.1 u.2.2).1 0 (h 40 - 1) else if wh = 11 then pm else -1
def mo_column (i wh : Int) (h : Int → Int) : Int :=
  if ¬ (0 ≤ i ∧ i ≤ h 40 - 1) then -1 else if wh = 0 then h i else if wh = 1 then pu_sl h i else if wh = 2 then pu_sr h (h 40) i else if wh = 3 then pu_gl h i else if wh = 4 then pu_gr h (h 40) i else if wh = 5 then mo_dep h 0 (h 40 - 1) i else if wh = 6 then (mo_td h i).2.2.2 else if wh = 7 then (mo_td h i).2.2.1 else if wh = 8 then mo_r2 h i - mo_r1 h i + 1 else if wh = 9 then (mo_stl h i).2 else -1
def mo_stair (i q : Int) (h : Int → Int) : Int := if ¬ (0 ≤ i ∧ i ≤ h 40 - 1) ∨ q < 0 then -1 else (mo_sta h i q).1
def mo_range (a b wh : Int) (h : Int → Int) : Int :=
  if ¬ (0 ≤ a ∧ a ≤ b ∧ b ≤ h 40 - 1 ∧ 0 ≤ wh ∧ wh ≤ 8) then -1 else if wh = 0 then mo_mn h a b else if wh = 1 then mo_fw h a (mo_mn h a b) else if wh = 2 then mo_mx h a b else if wh = 3 then mo_fw h a (mo_mx h a b) else if wh = 4 then pu_sum h a b else if wh = 5 then (mo_la h a b).1 else if wh = 6 then (mo_la h a b).2.1 else if wh = 7 then (mo_la h a b).2.2 else if (mo_la h a b).2.1 = -9 then -9 else mo_mn h (mo_la h a b).2.1 (mo_la h a b).2.2
def mo_rectangle (q wh : Int) (h : Int → Int) (u : mo_U) : Int :=
  if q < 0 ∨ ¬ (0 ≤ wh ∧ wh ≤ 5) then -1 else
  let x := mo_ly h (0, u.1.1, u.1.2.1, u.1.2.2)
  if x.1 ≤ q then -9 else if wh = 0 then x.2.1 q else if wh = 1 then x.2.2.1 q else if wh = 2 then x.2.2.2 q else if wh = 3 then mo_mn h (x.2.2.1 q) (x.2.2.2 q) else if wh = 4 then mo_own h x.2.2.1 x.2.2.2 q else mo_fw h (x.2.2.1 q) (mo_mn h (x.2.2.1 q) (x.2.2.2 q))
def mo_ctI (h : Int → Int) (i j : Int) (x : Int × Int × Int) : Int × Int × Int := if (if h i < h j then h i else h j) * (j - i) ≤ x.1 then x else ((if h i < h j then h i else h j) * (j - i), i, j)
def mo_ctO (h : Int → Int) (i : Int) (x : Int × Int × Int) : Int × Int × Int := hs_up (mo_ctI h i) (i + 1) (h 40) x
def mo_ct (h : Int → Int) : Int × Int × Int := hs_up (mo_ctO h) 0 (h 40) (-9, -9, -9)
def mo_container (wh : Int) (h : Int → Int) : Int := if ¬ (0 ≤ wh ∧ wh ≤ 2) then -1 else if wh = 0 then (mo_ct h).1 else if wh = 1 then (mo_ct h).2.1 else (mo_ct h).2.2
abbrev mo_plP (h : Int → Int) : Int × Int × Int → Prop := fun x => mo_wet h x.1
def mo_plF (h : Int → Int) : Int × Int × Int → Int × Int × Int := fun x => (x.1 + 1, x.2.1 + mo_dep h 0 (h 40 - 1) x.1, if mo_dep h 0 (h 40 - 1) x.1 ≤ x.2.2 then x.2.2 else mo_dep h 0 (h 40 - 1) x.1)
def mo_pl (h : Int → Int) (b : Int) : Int × Int × Int := hs_wh (mo_plP h) (mo_plF h) ((h 40 - b).toNat + 1) (b, 0, 0)
def mo_pool (q wh : Int) (h : Int → Int) : Int :=
  if q < 0 ∨ ¬ (0 ≤ wh ∧ wh ≤ 4) then -1 else if mo_pb h q = -9 then -9 else if wh = 0 then mo_pb h q else if wh = 1 then (mo_pl h (mo_pb h q)).1 - 1 else if wh = 2 then (mo_pl h (mo_pb h q)).2.1 else if wh = 3 then h (mo_pb h q) + mo_dep h 0 (h 40 - 1) (mo_pb h q) else (mo_pl h (mo_pb h q)).2.2
def mo_drained (i : Int) (h : Int → Int) : Int := if ¬ (0 ≤ i ∧ i ≤ h 40 - 1) then -1 else mo_wat h 0 (h 40 - 1) - mo_wat h 0 i - mo_wat h i (h 40 - 1)
def mo_dmF (h : Int → Int) (d i : Int) (x : Int × Int) : Int × Int := if mo_wat (hs_u h i (max 0 (min (h i + d) 50))) 0 (h 40 - 1) ≤ x.2 then x else (i, mo_wat (hs_u h i (max 0 (min (h i + d) 50))) 0 (h 40 - 1))
def mo_dm (h : Int → Int) (d : Int) : Int × Int := hs_up (mo_dmF h d) 0 (h 40) (-9, -9)
def mo_dam (d wh : Int) (h : Int → Int) : Int := if ¬ (1 ≤ d ∧ d ≤ 50 ∧ 0 ≤ wh ∧ wh ≤ 1) then -1 else if h 40 = 0 then -2 else if wh = 0 then (mo_dm h d).1 else (mo_dm h d).2
def mo_somO (h : Int → Int) (a x : Int) : Int := hs_up (fun b x => x + mo_mn h a b) a (h 40) x
def mo_som (h : Int → Int) : Int := hs_up (mo_somO h) 0 (h 40) 0
def mo_rgO (h : Int → Int) (lo a x : Int) : Int := hs_up (fun b x => if mo_mn h a b < lo then x + 0 else x + 1) a (h 40) x
def mo_rg (h : Int → Int) (lo : Int) : Int := hs_up (mo_rgO h lo) 0 (h 40) 0
def mo_ranges (lo : Int) (h : Int → Int) : Int := if ¬ (0 ≤ lo ∧ lo ≤ 50) then -1 else mo_rg h lo
set_option maxHeartbeats 4000000 in
set_option maxRecDepth 100000 in
theorem c_X7_told (l : Launch) (D : va_G) (cI cO : ClassId) (y0 : Nat) (y1 : Nat) (y2 : Nat) (y3 : Nat) (y4 : Nat) (y5 : Nat) (y6 : Nat) (y7 : Nat) (y8 : Nat) (y9 : Nat) (pm : Int) (fl : Int) (pt : Int) (h : Int → Int) (Ar : Int → Int) (Fi : Int → Int) (La : Int → Int) (Ab : Int → Int) (Nx : Int → Int) (wh : Int) (hh : ∀ k, 0 ≤ h k ∧ h k ≤ 50) (hN : 0 ≤ h 40 ∧ h 40 ≤ 40) (hAr : ∀ k, 0 ≤ Ar k ∧ Ar k ≤ 2500) (hFi : ∀ k, 0 ≤ Fi k ∧ Fi k ≤ 39) (hLa : ∀ k, 0 ≤ La k ∧ La k ≤ 39) (hAb : ∀ k, 0 ≤ Ab k ∧ Ab k ≤ 40) (hNx : ∀ k, 0 ≤ Nx k ∧ Nx k ≤ 40) (hzw : hs_in wh) : hs_M l D cI cO yX7_told wsX7_told ({ frames := 5, cells := 0, slots := 0, locals := 113 } : Room) [.ref y0, hs_V wh] [hs_ob y0 7 [.ref y1, .ref y2, hs_V pm, .ref y3, hs_V fl, .ref y4, .ref y5, .ref y6, .ref y7, hs_V pt, .ref y8, .ref y9], hs_ia cI y1 41 h, hs_ia cI y5 60 Ar, hs_ia cI y6 60 Fi, hs_ia cI y7 60 La, hs_ia cI y8 41 Ab, hs_ia cI y9 41 Nx] (fun r (u : mo_K) => r = hs_I (mo_told wh h pm ((Ar, Fi, La), Ab, Nx)) ∧ mo_KB u) (fun u => [hs_ob y0 7 [.ref y1, .ref y2, hs_V pm, .ref y3, hs_V fl, .ref y4, .ref y5, .ref y6, .ref y7, hs_V u.1, .ref y8, .ref y9], hs_ia cI y1 41 h, hs_ia cI y5 60 (u.2.1.1), hs_ia cI y6 60 (u.2.1.2.1), hs_ia cI y7 60 (u.2.1.2.2), hs_ia cI y8 41 (u.2.2.1), hs_ia cI y9 41 (u.2.2.2)]) 0 0 := by
  refine hs_enter (cc := cX7_told) (maxL := 2) (by decide +kernel) rfl (Nat.le_of_ble_eq_true rfl) (fun p e s m args below meth c A H0 Q C hret => ?_)
  have f49 := C.1.2.2.2.2 (.fieldLink RX7 49 "HistogramStairsModel" "pastMany" "I") (by decide +kernel)
  have u7 : ∀ w ∈ wsX70, w ∈ wsX7_told := by decide +kernel
  refine hs_lvs (lv' := [(0, .ref y0), (1, hs_V wh)]) [0, 1] rfl ?_
  refine hs_iload_n C dX7_told_0 rfl 1 rfl ?_
  rcases (show ((wh < 0 ∨ 11 < wh) ∨ wh = 0 ∨ wh = 1 ∨ wh = 2 ∨ wh = 3 ∨ wh = 4 ∨ wh = 5 ∨ wh = 6 ∨ wh = 7 ∨ wh = 8 ∨ wh = 9 ∨ wh = 10 ∨ wh = 11) by omega) with c1 | c1 | c1 | c1 | c1 | c1 | c1 | c1 | c1 | c1 | c1 | c1 | c1
  · refine hs_tableOut (tgt := 158) C dX7_told_1 (by omega) c1 (by decide) ?_
    refine hs_iconst C dX7_told_158 ?_
    exact hret _ _ _ (pt, (Ar, Fi, La), Ab, Nx) ⟨by unfold mo_told; repeat rw [if_neg (by omega)], ⟨hAr, hFi, hLa⟩, hAb, hNx⟩ dX7_told_159 rfl
  · refine hs_tableIn (tgt := 64) (off := 63) C dX7_told_1 (by omega) (by omega) (by omega) (by rw [c1]; rfl) (by decide) ?_
    refine hs_aload_n C dX7_told_64 rfl 0 rfl ?_
    refine hs_callVi (win := [hs_ob y0 7 [.ref y1, .ref y2, hs_V pm, .ref y3, hs_V fl, .ref y4, .ref y5, .ref y6, .ref y7, hs_V pt, .ref y8, .ref y9], hs_ia cI y1 41 h]) (wr := [hs_ia cI y5 60 Ar, hs_ia cI y6 60 Fi, hs_ia cI y7 60 La, hs_ia cI y8 41 Ab, hs_ia cI y9 41 Nx]) (As := []) (rest := []) C (c_X7_many l D cI cO y0 y1 y2 y3 y4 y5 y6 y7 y8 y9 pm fl pt h ) 7 0 rfl rfl rfl (cwV 0 C.1.2.2.2.2 gX7_told_X7_many rfl rfl rfl (by decide +kernel) ⟨Nat.le_of_ble_eq_true rfl, Nat.le_of_ble_eq_true rfl⟩) rfl rfl (Nat.le_of_ble_eq_true rfl) dX7_told_65 ⟨Nat.le_of_ble_eq_true rfl, Nat.le_of_ble_eq_true rfl⟩ (fun rr uu2 hp => ?_)
    obtain rfl := hp
    refine hs_re0 (w' := [hs_ob y0 7 [.ref y1, .ref y2, hs_V pm, .ref y3, hs_V fl, .ref y4, .ref y5, .ref y6, .ref y7, hs_V pt, .ref y8, .ref y9], hs_ia cI y1 41 h, hs_ia cI y5 60 Ar, hs_ia cI y6 60 Fi, hs_ia cI y7 60 La, hs_ia cI y8 41 Ab, hs_ia cI y9 41 Nx]) [0, 1, 2, 3, 4, 5, 6] rfl (by decide) ?_
    exact hret _ _ _ (pt, (Ar, Fi, La), Ab, Nx) ⟨by rw [c1]; rfl, ⟨hAr, hFi, hLa⟩, hAb, hNx⟩ dX7_told_68 rfl
  · refine hs_tableIn (tgt := 69) (off := 68) C dX7_told_1 (by omega) (by omega) (by omega) (by rw [c1]; rfl) (by decide) ?_
    refine hs_aload_n C dX7_told_69 rfl 0 rfl ?_
    refine hs_iconst C dX7_told_70 ?_
    refine hs_aload_n C dX7_told_71 rfl 0 rfl ?_
    refine hs_callVi (win := [hs_ob y0 7 [.ref y1, .ref y2, hs_V pm, .ref y3, hs_V fl, .ref y4, .ref y5, .ref y6, .ref y7, hs_V pt, .ref y8, .ref y9], hs_ia cI y1 41 h]) (wr := [hs_ia cI y5 60 Ar, hs_ia cI y6 60 Fi, hs_ia cI y7 60 La, hs_ia cI y8 41 Ab, hs_ia cI y9 41 Nx]) (As := []) (rest := [hs_V 0, .ref y0]) C (c_X7_many l D cI cO y0 y1 y2 y3 y4 y5 y6 y7 y8 y9 pm fl pt h ) 7 0 rfl rfl rfl (cwV 0 C.1.2.2.2.2 gX7_told_X7_many rfl rfl rfl (by decide +kernel) ⟨Nat.le_of_ble_eq_true rfl, Nat.le_of_ble_eq_true rfl⟩) rfl rfl (Nat.le_of_ble_eq_true rfl) dX7_told_72 ⟨Nat.le_of_ble_eq_true rfl, Nat.le_of_ble_eq_true rfl⟩ (fun rr uu3 hp => ?_)
    obtain rfl := hp
    refine hs_re0 (w' := [hs_ob y0 7 [.ref y1, .ref y2, hs_V pm, .ref y3, hs_V fl, .ref y4, .ref y5, .ref y6, .ref y7, hs_V pt, .ref y8, .ref y9], hs_ia cI y1 41 h, hs_ia cI y5 60 Ar, hs_ia cI y6 60 Fi, hs_ia cI y7 60 La, hs_ia cI y8 41 Ab, hs_ia cI y9 41 Nx]) [0, 1, 2, 3, 4, 5, 6] rfl (by decide) ?_
    refine hs_iconst C dX7_told_75 ?_
    refine hs_isub C dX7_told_76 ?_
    refine hs_callVi (win := [hs_ob y0 7 [.ref y1, .ref y2, hs_V pm, .ref y3, hs_V fl, .ref y4, .ref y5, .ref y6, .ref y7, hs_V pt, .ref y8, .ref y9], hs_ia cI y1 41 h]) (wr := [hs_ia cI y5 60 Ar, hs_ia cI y6 60 Fi, hs_ia cI y7 60 La, hs_ia cI y8 41 Ab, hs_ia cI y9 41 Nx]) (As := [hs_V 0, hs_V ((h 40) - 1)]) (rest := []) C (c_X7_sum l D cI cO y0 y1 y2 y3 y4 y5 y6 y7 y8 y9 pm fl pt h 0 ((h 40) - 1) (by omega)) 7 0 rfl rfl rfl (cwV 2 C.1.2.2.2.2 gX7_told_X7_sum rfl rfl rfl (by decide +kernel) ⟨Nat.le_of_ble_eq_true rfl, Nat.le_of_ble_eq_true rfl⟩) rfl rfl (Nat.le_of_ble_eq_true rfl) dX7_told_77 ⟨Nat.le_of_ble_eq_true rfl, Nat.le_of_ble_eq_true rfl⟩ (fun rr uu4 hp => ?_)
    obtain rfl := hp
    refine hs_re0 (w' := [hs_ob y0 7 [.ref y1, .ref y2, hs_V pm, .ref y3, hs_V fl, .ref y4, .ref y5, .ref y6, .ref y7, hs_V pt, .ref y8, .ref y9], hs_ia cI y1 41 h, hs_ia cI y5 60 Ar, hs_ia cI y6 60 Fi, hs_ia cI y7 60 La, hs_ia cI y8 41 Ab, hs_ia cI y9 41 Nx]) [0, 1, 2, 3, 4, 5, 6] rfl (by decide) ?_
    exact hret _ _ _ (pt, (Ar, Fi, La), Ab, Nx) ⟨by rw [c1]; rfl, ⟨hAr, hFi, hLa⟩, hAb, hNx⟩ dX7_told_80 rfl
  · refine hs_tableIn (tgt := 81) (off := 80) C dX7_told_1 (by omega) (by omega) (by omega) (by rw [c1]; rfl) (by decide) ?_
    refine hs_aload_n C dX7_told_81 rfl 0 rfl ?_
    refine hs_callVi (win := [hs_ob y0 7 [.ref y1, .ref y2, hs_V pm, .ref y3, hs_V fl, .ref y4, .ref y5, .ref y6, .ref y7, hs_V pt, .ref y8, .ref y9], hs_ia cI y1 41 h]) (wr := [hs_ia cI y5 60 Ar, hs_ia cI y6 60 Fi, hs_ia cI y7 60 La, hs_ia cI y8 41 Ab, hs_ia cI y9 41 Nx]) (As := []) (rest := []) C (c_X7_many l D cI cO y0 y1 y2 y3 y4 y5 y6 y7 y8 y9 pm fl pt h ) 7 0 rfl rfl rfl (cwV 0 C.1.2.2.2.2 gX7_told_X7_many rfl rfl rfl (by decide +kernel) ⟨Nat.le_of_ble_eq_true rfl, Nat.le_of_ble_eq_true rfl⟩) rfl rfl (Nat.le_of_ble_eq_true rfl) dX7_told_82 ⟨Nat.le_of_ble_eq_true rfl, Nat.le_of_ble_eq_true rfl⟩ (fun rr uu5 hp => ?_)
    obtain rfl := hp
    refine hs_re0 (w' := [hs_ob y0 7 [.ref y1, .ref y2, hs_V pm, .ref y3, hs_V fl, .ref y4, .ref y5, .ref y6, .ref y7, hs_V pt, .ref y8, .ref y9], hs_ia cI y1 41 h, hs_ia cI y5 60 Ar, hs_ia cI y6 60 Fi, hs_ia cI y7 60 La, hs_ia cI y8 41 Ab, hs_ia cI y9 41 Nx]) [0, 1, 2, 3, 4, 5, 6] rfl (by decide) ?_
    refine hs_if_ne (tgt := 92) C dX7_told_85 (by decide) (by omega) (fun c6 => ?_) (fun c6 => ?_)
    ·
      refine hs_aload_n C dX7_told_92 rfl 0 rfl ?_
      refine hs_iconst C dX7_told_93 ?_
      refine hs_aload_n C dX7_told_94 rfl 0 rfl ?_
      refine hs_callVi (win := [hs_ob y0 7 [.ref y1, .ref y2, hs_V pm, .ref y3, hs_V fl, .ref y4, .ref y5, .ref y6, .ref y7, hs_V pt, .ref y8, .ref y9], hs_ia cI y1 41 h]) (wr := [hs_ia cI y5 60 Ar, hs_ia cI y6 60 Fi, hs_ia cI y7 60 La, hs_ia cI y8 41 Ab, hs_ia cI y9 41 Nx]) (As := []) (rest := [hs_V 0, .ref y0]) C (c_X7_many l D cI cO y0 y1 y2 y3 y4 y5 y6 y7 y8 y9 pm fl pt h ) 7 0 rfl rfl rfl (cwV 0 C.1.2.2.2.2 gX7_told_X7_many rfl rfl rfl (by decide +kernel) ⟨Nat.le_of_ble_eq_true rfl, Nat.le_of_ble_eq_true rfl⟩) rfl rfl (Nat.le_of_ble_eq_true rfl) dX7_told_95 ⟨Nat.le_of_ble_eq_true rfl, Nat.le_of_ble_eq_true rfl⟩ (fun rr uu7 hp => ?_)
      obtain rfl := hp
      refine hs_re0 (w' := [hs_ob y0 7 [.ref y1, .ref y2, hs_V pm, .ref y3, hs_V fl, .ref y4, .ref y5, .ref y6, .ref y7, hs_V pt, .ref y8, .ref y9], hs_ia cI y1 41 h, hs_ia cI y5 60 Ar, hs_ia cI y6 60 Fi, hs_ia cI y7 60 La, hs_ia cI y8 41 Ab, hs_ia cI y9 41 Nx]) [0, 1, 2, 3, 4, 5, 6] rfl (by decide) ?_
      refine hs_iconst C dX7_told_98 ?_
      refine hs_isub C dX7_told_99 ?_
      refine hs_callVi (win := [hs_ob y0 7 [.ref y1, .ref y2, hs_V pm, .ref y3, hs_V fl, .ref y4, .ref y5, .ref y6, .ref y7, hs_V pt, .ref y8, .ref y9], hs_ia cI y1 41 h]) (wr := [hs_ia cI y5 60 Ar, hs_ia cI y6 60 Fi, hs_ia cI y7 60 La, hs_ia cI y8 41 Ab, hs_ia cI y9 41 Nx]) (As := [hs_V 0, hs_V ((h 40) - 1)]) (rest := []) C (c_X7_greatest l D cI cO y0 y1 y2 y3 y4 y5 y6 y7 y8 y9 pm fl pt h 0 ((h 40) - 1) hh (by omega)) 7 0 rfl rfl rfl (cwV 2 C.1.2.2.2.2 gX7_told_X7_greatest rfl rfl rfl (by decide +kernel) ⟨Nat.le_of_ble_eq_true rfl, Nat.le_of_ble_eq_true rfl⟩) rfl rfl (Nat.le_of_ble_eq_true rfl) dX7_told_100 ⟨Nat.le_of_ble_eq_true rfl, Nat.le_of_ble_eq_true rfl⟩ (fun rr uu8 hp => ?_)
      obtain rfl := hp
      refine hs_re0 (w' := [hs_ob y0 7 [.ref y1, .ref y2, hs_V pm, .ref y3, hs_V fl, .ref y4, .ref y5, .ref y6, .ref y7, hs_V pt, .ref y8, .ref y9], hs_ia cI y1 41 h, hs_ia cI y5 60 Ar, hs_ia cI y6 60 Fi, hs_ia cI y7 60 La, hs_ia cI y8 41 Ab, hs_ia cI y9 41 Nx]) [0, 1, 2, 3, 4, 5, 6] rfl (by decide) ?_
      exact hret _ _ _ (pt, (Ar, Fi, La), Ab, Nx) ⟨by rw [c1]; show _ = hs_I (if h 40 = 0 then 0 else mo_mx h 0 (h 40 - 1)); first | rw [if_pos (by omega)] | rw [if_neg (by omega)], ⟨hAr, hFi, hLa⟩, hAb, hNx⟩ dX7_told_103 rfl
    ·
      refine hs_iconst C dX7_told_88 ?_
      refine hs_goto (tgt := 103) C dX7_told_89 (by decide) ?_
      exact hret _ _ _ (pt, (Ar, Fi, La), Ab, Nx) ⟨by rw [c1]; show _ = hs_I (if h 40 = 0 then 0 else mo_mx h 0 (h 40 - 1)); first | rw [if_pos (by omega)] | rw [if_neg (by omega)], ⟨hAr, hFi, hLa⟩, hAb, hNx⟩ dX7_told_103 rfl
  · refine hs_tableIn (tgt := 104) (off := 103) C dX7_told_1 (by omega) (by omega) (by omega) (by rw [c1]; rfl) (by decide) ?_
    refine hs_aload_n C dX7_told_104 rfl 0 rfl ?_
    refine hs_iconst C dX7_told_105 ?_
    refine hs_aload_n C dX7_told_106 rfl 0 rfl ?_
    refine hs_callVi (win := [hs_ob y0 7 [.ref y1, .ref y2, hs_V pm, .ref y3, hs_V fl, .ref y4, .ref y5, .ref y6, .ref y7, hs_V pt, .ref y8, .ref y9], hs_ia cI y1 41 h]) (wr := [hs_ia cI y5 60 Ar, hs_ia cI y6 60 Fi, hs_ia cI y7 60 La, hs_ia cI y8 41 Ab, hs_ia cI y9 41 Nx]) (As := []) (rest := [hs_V 0, .ref y0]) C (c_X7_many l D cI cO y0 y1 y2 y3 y4 y5 y6 y7 y8 y9 pm fl pt h ) 7 0 rfl rfl rfl (cwV 0 C.1.2.2.2.2 gX7_told_X7_many rfl rfl rfl (by decide +kernel) ⟨Nat.le_of_ble_eq_true rfl, Nat.le_of_ble_eq_true rfl⟩) rfl rfl (Nat.le_of_ble_eq_true rfl) dX7_told_107 ⟨Nat.le_of_ble_eq_true rfl, Nat.le_of_ble_eq_true rfl⟩ (fun rr uu9 hp => ?_)
    obtain rfl := hp
    refine hs_re0 (w' := [hs_ob y0 7 [.ref y1, .ref y2, hs_V pm, .ref y3, hs_V fl, .ref y4, .ref y5, .ref y6, .ref y7, hs_V pt, .ref y8, .ref y9], hs_ia cI y1 41 h, hs_ia cI y5 60 Ar, hs_ia cI y6 60 Fi, hs_ia cI y7 60 La, hs_ia cI y8 41 Ab, hs_ia cI y9 41 Nx]) [0, 1, 2, 3, 4, 5, 6] rfl (by decide) ?_
    refine hs_iconst C dX7_told_110 ?_
    refine hs_isub C dX7_told_111 ?_
    refine hs_callVi (win := [hs_ob y0 7 [.ref y1, .ref y2, hs_V pm, .ref y3, hs_V fl, .ref y4, .ref y5, .ref y6, .ref y7, hs_V pt, .ref y8, .ref y9], hs_ia cI y1 41 h]) (wr := [hs_ia cI y5 60 Ar, hs_ia cI y6 60 Fi, hs_ia cI y7 60 La, hs_ia cI y8 41 Ab, hs_ia cI y9 41 Nx]) (As := [hs_V 0, hs_V ((h 40) - 1)]) (rest := []) C (c_X7_water l D cI cO y0 y1 y2 y3 y4 y5 y6 y7 y8 y9 pm fl pt h 0 ((h 40) - 1) hh (by omega)) 7 0 rfl rfl rfl (cwV 2 C.1.2.2.2.2 gX7_told_X7_water rfl rfl rfl (by decide +kernel) ⟨Nat.le_of_ble_eq_true rfl, Nat.le_of_ble_eq_true rfl⟩) rfl rfl (Nat.le_of_ble_eq_true rfl) dX7_told_112 ⟨Nat.le_of_ble_eq_true rfl, Nat.le_of_ble_eq_true rfl⟩ (fun rr uu10 hp => ?_)
    obtain rfl := hp
    refine hs_re0 (w' := [hs_ob y0 7 [.ref y1, .ref y2, hs_V pm, .ref y3, hs_V fl, .ref y4, .ref y5, .ref y6, .ref y7, hs_V pt, .ref y8, .ref y9], hs_ia cI y1 41 h, hs_ia cI y5 60 Ar, hs_ia cI y6 60 Fi, hs_ia cI y7 60 La, hs_ia cI y8 41 Ab, hs_ia cI y9 41 Nx]) [0, 1, 2, 3, 4, 5, 6] rfl (by decide) ?_
    exact hret _ _ _ (pt, (Ar, Fi, La), Ab, Nx) ⟨by rw [c1]; rfl, ⟨hAr, hFi, hLa⟩, hAb, hNx⟩ dX7_told_115 rfl
  · refine hs_tableIn (tgt := 116) (off := 115) C dX7_told_1 (by omega) (by omega) (by omega) (by rw [c1]; rfl) (by decide) ?_
    refine hs_aload_n C dX7_told_116 rfl 0 rfl ?_
    refine hs_callVi (win := [hs_ob y0 7 [.ref y1, .ref y2, hs_V pm, .ref y3, hs_V fl, .ref y4, .ref y5, .ref y6, .ref y7, hs_V pt, .ref y8, .ref y9], hs_ia cI y1 41 h]) (wr := [hs_ia cI y5 60 Ar, hs_ia cI y6 60 Fi, hs_ia cI y7 60 La, hs_ia cI y8 41 Ab, hs_ia cI y9 41 Nx]) (As := []) (rest := []) C (c_X7_pools l D cI cO y0 y1 y2 y3 y4 y5 y6 y7 y8 y9 pm fl pt h hh (by omega)) 7 0 rfl rfl rfl (cwV 0 C.1.2.2.2.2 gX7_told_X7_pools rfl rfl rfl (by decide +kernel) ⟨Nat.le_of_ble_eq_true rfl, Nat.le_of_ble_eq_true rfl⟩) rfl rfl (Nat.le_of_ble_eq_true rfl) dX7_told_117 ⟨Nat.le_of_ble_eq_true rfl, Nat.le_of_ble_eq_true rfl⟩ (fun rr uu11 hp => ?_)
    obtain rfl := hp
    refine hs_re0 (w' := [hs_ob y0 7 [.ref y1, .ref y2, hs_V pm, .ref y3, hs_V fl, .ref y4, .ref y5, .ref y6, .ref y7, hs_V pt, .ref y8, .ref y9], hs_ia cI y1 41 h, hs_ia cI y5 60 Ar, hs_ia cI y6 60 Fi, hs_ia cI y7 60 La, hs_ia cI y8 41 Ab, hs_ia cI y9 41 Nx]) [0, 1, 2, 3, 4, 5, 6] rfl (by decide) ?_
    exact hret _ _ _ (pt, (Ar, Fi, La), Ab, Nx) ⟨by rw [c1]; rfl, ⟨hAr, hFi, hLa⟩, hAb, hNx⟩ dX7_told_120 rfl
  · refine hs_tableIn (tgt := 121) (off := 120) C dX7_told_1 (by omega) (by omega) (by omega) (by rw [c1]; rfl) (by decide) ?_
    refine hs_aload_n C dX7_told_121 rfl 0 rfl ?_
    refine hs_callVi (win := [hs_ob y0 7 [.ref y1, .ref y2, hs_V pm, .ref y3, hs_V fl, .ref y4, .ref y5, .ref y6, .ref y7, hs_V pt, .ref y8, .ref y9], hs_ia cI y1 41 h, hs_ia cI y5 60 Ar, hs_ia cI y6 60 Fi, hs_ia cI y7 60 La]) (wr := [hs_ia cI y8 41 Ab, hs_ia cI y9 41 Nx]) (As := []) (rest := []) C (c_X7_layRectangles l D cI cO y0 y1 y2 y3 y4 y5 y6 y7 y8 y9 pm fl pt h Ar Fi La hh (by omega) hAr hFi hLa) 7 0 rfl rfl rfl (cwV 0 C.1.2.2.2.2 gX7_told_X7_layRectangles rfl rfl rfl (by decide +kernel) ⟨Nat.le_of_ble_eq_true rfl, Nat.le_of_ble_eq_true rfl⟩) rfl rfl (Nat.le_of_ble_eq_true rfl) dX7_told_122 ⟨Nat.le_of_ble_eq_true rfl, Nat.le_of_ble_eq_true rfl⟩ (fun rr uu12 hp => ?_)
    obtain rfl := hp
    refine hs_re0 (w' := [hs_ob y0 7 [.ref y1, .ref y2, hs_V pm, .ref y3, hs_V fl, .ref y4, .ref y5, .ref y6, .ref y7, hs_V pt, .ref y8, .ref y9], hs_ia cI y1 41 h, hs_ia cI y5 60 (mo_ly h (0, Ar, Fi, La)).2.1, hs_ia cI y6 60 (mo_ly h (0, Ar, Fi, La)).2.2.1, hs_ia cI y7 60 (mo_ly h (0, Ar, Fi, La)).2.2.2, hs_ia cI y8 41 Ab, hs_ia cI y9 41 Nx]) [0, 1, 2, 3, 4, 5, 6] rfl (by decide) ?_
    have hlb := mo_ly_bd (x := (0, Ar, Fi, La)) hh hN ⟨hAr, hFi, hLa⟩
    have hle := mo_ly_le (h := h) (x := (0, Ar, Fi, La)) hN
    exact hret _ _ _ (pt, ((mo_ly h (0, Ar, Fi, La)).2.1, (mo_ly h (0, Ar, Fi, La)).2.2.1, (mo_ly h (0, Ar, Fi, La)).2.2.2), Ab, Nx) ⟨by rw [c1]; rfl, ⟨hlb.1, hlb.2.1, hlb.2.2⟩, hAb, hNx⟩ dX7_told_125 rfl
  · refine hs_tableIn (tgt := 126) (off := 125) C dX7_told_1 (by omega) (by omega) (by omega) (by rw [c1]; rfl) (by decide) ?_
    refine hs_aload_n C dX7_told_126 rfl 0 rfl ?_
    refine hs_iconst C dX7_told_127 ?_
    refine hs_callVi (win := [hs_ob y0 7 [.ref y1, .ref y2, hs_V pm, .ref y3, hs_V fl, .ref y4, .ref y5, .ref y6, .ref y7, hs_V pt, .ref y8, .ref y9], hs_ia cI y1 41 h]) (wr := [hs_ia cI y5 60 Ar, hs_ia cI y6 60 Fi, hs_ia cI y7 60 La, hs_ia cI y8 41 Ab, hs_ia cI y9 41 Nx]) (As := [hs_V 1]) (rest := []) C (c_X7_standing_1 l D cI cO y0 y1 y2 y3 y4 y5 y6 y7 y8 y9 pm fl pt h hh (by omega)) 7 0 rfl rfl rfl (cwV 1 C.1.2.2.2.2 gX7_told_X7_standing rfl rfl rfl (by decide +kernel) ⟨Nat.le_of_ble_eq_true rfl, Nat.le_of_ble_eq_true rfl⟩) rfl rfl (Nat.le_of_ble_eq_true rfl) dX7_told_128 ⟨Nat.le_of_ble_eq_true rfl, Nat.le_of_ble_eq_true rfl⟩ (fun rr uu13 hp => ?_)
    obtain rfl := hp
    refine hs_re0 (w' := [hs_ob y0 7 [.ref y1, .ref y2, hs_V pm, .ref y3, hs_V fl, .ref y4, .ref y5, .ref y6, .ref y7, hs_V pt, .ref y8, .ref y9], hs_ia cI y1 41 h, hs_ia cI y5 60 Ar, hs_ia cI y6 60 Fi, hs_ia cI y7 60 La, hs_ia cI y8 41 Ab, hs_ia cI y9 41 Nx]) [0, 1, 2, 3, 4, 5, 6] rfl (by decide) ?_
    exact hret _ _ _ (pt, (Ar, Fi, La), Ab, Nx) ⟨by rw [c1]; rfl, ⟨hAr, hFi, hLa⟩, hAb, hNx⟩ dX7_told_131 rfl
  · refine hs_tableIn (tgt := 132) (off := 131) C dX7_told_1 (by omega) (by omega) (by omega) (by rw [c1]; rfl) (by decide) ?_
    refine hs_aload_n C dX7_told_132 rfl 0 rfl ?_
    refine hs_iconst C dX7_told_133 ?_
    refine hs_callVi (win := [hs_ob y0 7 [.ref y1, .ref y2, hs_V pm, .ref y3, hs_V fl, .ref y4, .ref y5, .ref y6, .ref y7, hs_V pt, .ref y8, .ref y9], hs_ia cI y1 41 h]) (wr := [hs_ia cI y5 60 Ar, hs_ia cI y6 60 Fi, hs_ia cI y7 60 La, hs_ia cI y8 41 Ab, hs_ia cI y9 41 Nx]) (As := [hs_V 0]) (rest := []) C (c_X7_standing_0 l D cI cO y0 y1 y2 y3 y4 y5 y6 y7 y8 y9 pm fl pt h hh (by omega)) 7 0 rfl rfl rfl (cwV 1 C.1.2.2.2.2 gX7_told_X7_standing rfl rfl rfl (by decide +kernel) ⟨Nat.le_of_ble_eq_true rfl, Nat.le_of_ble_eq_true rfl⟩) rfl rfl (Nat.le_of_ble_eq_true rfl) dX7_told_134 ⟨Nat.le_of_ble_eq_true rfl, Nat.le_of_ble_eq_true rfl⟩ (fun rr uu14 hp => ?_)
    obtain rfl := hp
    refine hs_re0 (w' := [hs_ob y0 7 [.ref y1, .ref y2, hs_V pm, .ref y3, hs_V fl, .ref y4, .ref y5, .ref y6, .ref y7, hs_V pt, .ref y8, .ref y9], hs_ia cI y1 41 h, hs_ia cI y5 60 Ar, hs_ia cI y6 60 Fi, hs_ia cI y7 60 La, hs_ia cI y8 41 Ab, hs_ia cI y9 41 Nx]) [0, 1, 2, 3, 4, 5, 6] rfl (by decide) ?_
    exact hret _ _ _ (pt, (Ar, Fi, La), Ab, Nx) ⟨by rw [c1]; rfl, ⟨hAr, hFi, hLa⟩, hAb, hNx⟩ dX7_told_137 rfl
  · refine hs_tableIn (tgt := 138) (off := 137) C dX7_told_1 (by omega) (by omega) (by omega) (by rw [c1]; rfl) (by decide) ?_
    refine hs_aload_n C dX7_told_138 rfl 0 rfl ?_
    refine hs_callVi (win := [hs_ob y0 7 [.ref y1, .ref y2, hs_V pm, .ref y3, hs_V fl, .ref y4, .ref y5, .ref y6, .ref y7, hs_V pt, .ref y8, .ref y9], hs_ia cI y1 41 h]) (wr := [hs_ia cI y5 60 Ar, hs_ia cI y6 60 Fi, hs_ia cI y7 60 La, hs_ia cI y8 41 Ab, hs_ia cI y9 41 Nx]) (As := []) (rest := []) C (c_X7_deepest l D cI cO y0 y1 y2 y3 y4 y5 y6 y7 y8 y9 pm fl pt h hh (by omega)) 7 0 rfl rfl rfl (cwV 0 C.1.2.2.2.2 gX7_told_X7_deepest rfl rfl rfl (by decide +kernel) ⟨Nat.le_of_ble_eq_true rfl, Nat.le_of_ble_eq_true rfl⟩) rfl rfl (Nat.le_of_ble_eq_true rfl) dX7_told_139 ⟨Nat.le_of_ble_eq_true rfl, Nat.le_of_ble_eq_true rfl⟩ (fun rr uu15 hp => ?_)
    obtain ⟨rfl, hSB⟩ := hp
    refine hs_re0 (w' := [hs_ob y0 7 [.ref y1, .ref y2, hs_V pm, .ref y3, hs_V fl, .ref y4, .ref y5, .ref y6, .ref y7, hs_V uu15, .ref y8, .ref y9], hs_ia cI y1 41 h, hs_ia cI y5 60 Ar, hs_ia cI y6 60 Fi, hs_ia cI y7 60 La, hs_ia cI y8 41 Ab, hs_ia cI y9 41 Nx]) [0, 1, 2, 3, 4, 5, 6] rfl (by decide) ?_
    exact hret _ _ _ (uu15, (Ar, Fi, La), Ab, Nx) ⟨by rw [c1]; rfl, ⟨hAr, hFi, hLa⟩, hAb, hNx⟩ dX7_told_142 rfl
  · refine hs_tableIn (tgt := 143) (off := 142) C dX7_told_1 (by omega) (by omega) (by omega) (by rw [c1]; rfl) (by decide) ?_
    refine hs_aload_n C dX7_told_143 rfl 0 rfl ?_
    refine hs_callVi (win := [hs_ob y0 7 [.ref y1, .ref y2, hs_V pm, .ref y3, hs_V fl, .ref y4, .ref y5, .ref y6, .ref y7, hs_V pt, .ref y8, .ref y9], hs_ia cI y1 41 h]) (wr := [hs_ia cI y5 60 Ar, hs_ia cI y6 60 Fi, hs_ia cI y7 60 La, hs_ia cI y8 41 Ab, hs_ia cI y9 41 Nx]) (As := []) (rest := []) C (c_X7_horizontal l D cI cO y0 y1 y2 y3 y4 y5 y6 y7 y8 y9 pm fl pt h hh (by omega)) 7 0 rfl rfl rfl (cwV 0 C.1.2.2.2.2 gX7_told_X7_horizontal rfl rfl rfl (by decide +kernel) ⟨Nat.le_of_ble_eq_true rfl, Nat.le_of_ble_eq_true rfl⟩) rfl rfl (Nat.le_of_ble_eq_true rfl) dX7_told_144 ⟨Nat.le_of_ble_eq_true rfl, Nat.le_of_ble_eq_true rfl⟩ (fun rr uu16 hp => ?_)
    obtain rfl := hp
    refine hs_re0 (w' := [hs_ob y0 7 [.ref y1, .ref y2, hs_V pm, .ref y3, hs_V fl, .ref y4, .ref y5, .ref y6, .ref y7, hs_V pt, .ref y8, .ref y9], hs_ia cI y1 41 h, hs_ia cI y5 60 Ar, hs_ia cI y6 60 Fi, hs_ia cI y7 60 La, hs_ia cI y8 41 Ab, hs_ia cI y9 41 Nx]) [0, 1, 2, 3, 4, 5, 6] rfl (by decide) ?_
    exact hret _ _ _ (pt, (Ar, Fi, La), Ab, Nx) ⟨by rw [c1]; rfl, ⟨hAr, hFi, hLa⟩, hAb, hNx⟩ dX7_told_147 rfl
  · refine hs_tableIn (tgt := 148) (off := 147) C dX7_told_1 (by omega) (by omega) (by omega) (by rw [c1]; rfl) (by decide) ?_
    refine hs_aload_n C dX7_told_148 rfl 0 rfl ?_
    refine hs_re0 (w' := [hs_ob y0 7 [.ref y1, .ref y2, hs_V pm, .ref y3, hs_V fl, .ref y4, .ref y5, .ref y6, .ref y7, hs_V pt, .ref y8, .ref y9], hs_ia cI y1 41 h, hs_ia cI y8 41 Ab, hs_ia cI y9 41 Nx, hs_ia cI y5 60 Ar, hs_ia cI y6 60 Fi, hs_ia cI y7 60 La]) [0, 1, 5, 6, 2, 3, 4] rfl (by decide) ?_
    refine hs_callVi (win := [hs_ob y0 7 [.ref y1, .ref y2, hs_V pm, .ref y3, hs_V fl, .ref y4, .ref y5, .ref y6, .ref y7, hs_V pt, .ref y8, .ref y9], hs_ia cI y1 41 h, hs_ia cI y8 41 Ab, hs_ia cI y9 41 Nx]) (wr := [hs_ia cI y5 60 Ar, hs_ia cI y6 60 Fi, hs_ia cI y7 60 La]) (As := []) (rest := []) C (c_X7_strokes l D cI cO y0 y1 y2 y3 y4 y5 y6 y7 y8 y9 pm fl pt h Ab Nx hh (by omega) hAb hNx) 7 0 rfl rfl rfl (cwV 0 C.1.2.2.2.2 gX7_told_X7_strokes rfl rfl rfl (by decide +kernel) ⟨Nat.le_of_ble_eq_true rfl, Nat.le_of_ble_eq_true rfl⟩) rfl rfl (Nat.le_of_ble_eq_true rfl) dX7_told_149 ⟨Nat.le_of_ble_eq_true rfl, Nat.le_of_ble_eq_true rfl⟩ (fun rr uu17 hp => ?_)
    obtain rfl := hp
    refine hs_re0 (w' := [hs_ob y0 7 [.ref y1, .ref y2, hs_V pm, .ref y3, hs_V fl, .ref y4, .ref y5, .ref y6, .ref y7, hs_V pt, .ref y8, .ref y9], hs_ia cI y1 41 h, hs_ia cI y5 60 Ar, hs_ia cI y6 60 Fi, hs_ia cI y7 60 La, hs_ia cI y8 41 (mo_str h Ab Nx).1, hs_ia cI y9 41 (mo_str h Ab Nx).2]) [0, 1, 4, 5, 6, 2, 3] rfl (by decide) ?_
    have hsb := mo_str_bd (h := h) hN hAb hNx
    exact hret _ _ _ (pt, (Ar, Fi, La), (mo_str h Ab Nx).1, (mo_str h Ab Nx).2) ⟨by rw [c1]; rfl, ⟨hAr, hFi, hLa⟩, hsb.1, hsb.2⟩ dX7_told_152 rfl
  · refine hs_tableIn (tgt := 153) (off := 152) C dX7_told_1 (by omega) (by omega) (by omega) (by rw [c1]; rfl) (by decide) ?_
    refine hs_aload_n C dX7_told_153 rfl 0 rfl ?_
    refine hs_get C u7 0 rfl rfl 2 (by decide) f49 rfl rfl dX7_told_154 ?_
    exact hret _ _ _ (pt, (Ar, Fi, La), Ab, Nx) ⟨by rw [c1]; rfl, ⟨hAr, hFi, hLa⟩, hAb, hNx⟩ dX7_told_157 rfl

set_option maxHeartbeats 4000000 in
set_option maxRecDepth 100000 in
theorem c_X7_column (l : Launch) (D : va_G) (cI cO : ClassId) (y0 : Nat) (y1 : Nat) (y2 : Nat) (y3 : Nat) (y4 : Nat) (y5 : Nat) (y6 : Nat) (y7 : Nat) (y8 : Nat) (y9 : Nat) (pm : Int) (fl : Int) (pt : Int) (h : Int → Int) (Ar : Int → Int) (Fi : Int → Int) (La : Int → Int) (Ab : Int → Int) (Nx : Int → Int) (i : Int) (wh : Int) (hh : ∀ k, 0 ≤ h k ∧ h k ≤ 50) (hN : 0 ≤ h 40 ∧ h 40 ≤ 40) (hAr : ∀ k, 0 ≤ Ar k ∧ Ar k ≤ 2500) (hFi : ∀ k, 0 ≤ Fi k ∧ Fi k ≤ 39) (hLa : ∀ k, 0 ≤ La k ∧ La k ≤ 39) (hAb : ∀ k, 0 ≤ Ab k ∧ Ab k ≤ 40) (hNx : ∀ k, 0 ≤ Nx k ∧ Nx k ≤ 40) (hzi : hs_in i) (hzw : hs_in wh) : hs_M l D cI cO yX7_column wsX7_column ({ frames := 4, cells := 0, slots := 0, locals := 93 } : Room) [.ref y0, hs_V i, hs_V wh] [hs_ob y0 7 [.ref y1, .ref y2, hs_V pm, .ref y3, hs_V fl, .ref y4, .ref y5, .ref y6, .ref y7, hs_V pt, .ref y8, .ref y9], hs_ia cI y1 41 h, hs_ia cI y5 60 Ar, hs_ia cI y6 60 Fi, hs_ia cI y7 60 La, hs_ia cI y8 41 Ab, hs_ia cI y9 41 Nx] (fun r (u : mo_K) => r = hs_I (mo_column i wh h) ∧ mo_KB u) (fun u => [hs_ob y0 7 [.ref y1, .ref y2, hs_V pm, .ref y3, hs_V fl, .ref y4, .ref y5, .ref y6, .ref y7, hs_V u.1, .ref y8, .ref y9], hs_ia cI y1 41 h, hs_ia cI y5 60 (u.2.1.1), hs_ia cI y6 60 (u.2.1.2.1), hs_ia cI y7 60 (u.2.1.2.2), hs_ia cI y8 41 (u.2.2.1), hs_ia cI y9 41 (u.2.2.2)]) 0 0 := by
  refine hs_enter (cc := cX7_column) (maxL := 3) (by decide +kernel) rfl (Nat.le_of_ble_eq_true rfl) (fun p e s m args below meth c A H0 Q C hret => ?_)
  have f7 := C.1.2.2.2.2 (.fieldLink RX7 7 "HistogramStairsModel" "h" "[I") (by decide +kernel)
  have u7 : ∀ w ∈ wsX70, w ∈ wsX7_column := by decide +kernel
  refine hs_lvs (lv' := [(0, .ref y0), (1, hs_V i), (2, hs_V wh)]) [0, 1, 2] rfl ?_
  refine hs_aload_n C dX7_column_0 rfl 0 rfl ?_
  refine hs_iload_n C dX7_column_1 rfl 1 rfl ?_
  refine hs_callVi (win := [hs_ob y0 7 [.ref y1, .ref y2, hs_V pm, .ref y3, hs_V fl, .ref y4, .ref y5, .ref y6, .ref y7, hs_V pt, .ref y8, .ref y9], hs_ia cI y1 41 h]) (wr := [hs_ia cI y5 60 Ar, hs_ia cI y6 60 Fi, hs_ia cI y7 60 La, hs_ia cI y8 41 Ab, hs_ia cI y9 41 Nx]) (As := [hs_V i]) (rest := []) C (c_X7_isColumn l D cI cO y0 y1 y2 y3 y4 y5 y6 y7 y8 y9 pm fl pt h i (by omega) (by omega)) 7 0 rfl rfl rfl (cwV 1 C.1.2.2.2.2 gX7_column_X7_isColumn rfl rfl rfl (by decide +kernel) ⟨Nat.le_of_ble_eq_true rfl, Nat.le_of_ble_eq_true rfl⟩) rfl rfl (Nat.le_of_ble_eq_true rfl) dX7_column_2 ⟨Nat.le_of_ble_eq_true rfl, Nat.le_of_ble_eq_true rfl⟩ (fun rr uu1 hp => ?_)
  obtain rfl := hp
  refine hs_re0 (w' := [hs_ob y0 7 [.ref y1, .ref y2, hs_V pm, .ref y3, hs_V fl, .ref y4, .ref y5, .ref y6, .ref y7, hs_V pt, .ref y8, .ref y9], hs_ia cI y1 41 h, hs_ia cI y5 60 Ar, hs_ia cI y6 60 Fi, hs_ia cI y7 60 La, hs_ia cI y8 41 Ab, hs_ia cI y9 41 Nx]) [0, 1, 2, 3, 4, 5, 6] rfl (by decide) ?_
  refine hs_ifne_b (tgt := 10) C dX7_column_5 (by decide) (fun c2 => ?_) (fun c2 => ?_)
  ·
    refine hs_iload_n C dX7_column_10 rfl 2 rfl ?_
    rcases (show ((wh < 0 ∨ 9 < wh) ∨ wh = 0 ∨ wh = 1 ∨ wh = 2 ∨ wh = 3 ∨ wh = 4 ∨ wh = 5 ∨ wh = 6 ∨ wh = 7 ∨ wh = 8 ∨ wh = 9) by omega) with c3 | c3 | c3 | c3 | c3 | c3 | c3 | c3 | c3 | c3 | c3
    · refine hs_tableOut (tgt := 140) C dX7_column_11 (by omega) c3 (by decide) ?_
      refine hs_iconst C dX7_column_140 ?_
      exact hret _ _ _ (pt, (Ar, Fi, La), Ab, Nx) ⟨by unfold mo_column; repeat rw [if_neg (by omega)], ⟨hAr, hFi, hLa⟩, hAb, hNx⟩ dX7_column_141 rfl
    · refine hs_tableIn (tgt := 64) (off := 53) C dX7_column_11 (by omega) (by omega) (by omega) (by rw [c3]; rfl) (by decide) ?_
      refine hs_aload_n C dX7_column_64 rfl 0 rfl ?_
      refine hs_get C u7 0 rfl rfl 0 (by decide) f7 rfl rfl dX7_column_65 ?_
      refine hs_iload_n C dX7_column_68 rfl 1 rfl ?_
      refine hs_iald C 1 rfl (by omega) dX7_column_69 ?_
      have b4 := hh i
      exact hret _ _ _ (pt, (Ar, Fi, La), Ab, Nx) ⟨by unfold mo_column; rw [if_neg (by omega), c3]; rfl, ⟨hAr, hFi, hLa⟩, hAb, hNx⟩ dX7_column_70 rfl
    · refine hs_tableIn (tgt := 71) (off := 60) C dX7_column_11 (by omega) (by omega) (by omega) (by rw [c3]; rfl) (by decide) ?_
      refine hs_aload_n C dX7_column_71 rfl 0 rfl ?_
      refine hs_iload_n C dX7_column_72 rfl 1 rfl ?_
      refine hs_iconst C dX7_column_73 ?_
      refine hs_iconst C dX7_column_74 ?_
      refine hs_callVi (win := [hs_ob y0 7 [.ref y1, .ref y2, hs_V pm, .ref y3, hs_V fl, .ref y4, .ref y5, .ref y6, .ref y7, hs_V pt, .ref y8, .ref y9], hs_ia cI y1 41 h]) (wr := [hs_ia cI y5 60 Ar, hs_ia cI y6 60 Fi, hs_ia cI y7 60 La, hs_ia cI y8 41 Ab, hs_ia cI y9 41 Nx]) (As := [hs_V i, hs_V (-1), hs_V 1]) (rest := []) C (c_X7_nearest_m1 l D cI cO y0 y1 y2 y3 y4 y5 y6 y7 y8 y9 pm fl pt h i hh (by omega) (by omega)) 7 0 rfl rfl rfl (cwV 3 C.1.2.2.2.2 gX7_column_X7_nearest rfl rfl rfl (by decide +kernel) ⟨Nat.le_of_ble_eq_true rfl, Nat.le_of_ble_eq_true rfl⟩) rfl rfl (Nat.le_of_ble_eq_true rfl) dX7_column_75 ⟨Nat.le_of_ble_eq_true rfl, Nat.le_of_ble_eq_true rfl⟩ (fun rr uu5 hp => ?_)
      obtain rfl := hp
      refine hs_re0 (w' := [hs_ob y0 7 [.ref y1, .ref y2, hs_V pm, .ref y3, hs_V fl, .ref y4, .ref y5, .ref y6, .ref y7, hs_V pt, .ref y8, .ref y9], hs_ia cI y1 41 h, hs_ia cI y5 60 Ar, hs_ia cI y6 60 Fi, hs_ia cI y7 60 La, hs_ia cI y8 41 Ab, hs_ia cI y9 41 Nx]) [0, 1, 2, 3, 4, 5, 6] rfl (by decide) ?_
      exact hret _ _ _ (pt, (Ar, Fi, La), Ab, Nx) ⟨by unfold mo_column; rw [if_neg (by omega), c3]; rfl, ⟨hAr, hFi, hLa⟩, hAb, hNx⟩ dX7_column_78 rfl
    · refine hs_tableIn (tgt := 79) (off := 68) C dX7_column_11 (by omega) (by omega) (by omega) (by rw [c3]; rfl) (by decide) ?_
      refine hs_aload_n C dX7_column_79 rfl 0 rfl ?_
      refine hs_iload_n C dX7_column_80 rfl 1 rfl ?_
      refine hs_iconst C dX7_column_81 ?_
      refine hs_iconst C dX7_column_82 ?_
      refine hs_callVi (win := [hs_ob y0 7 [.ref y1, .ref y2, hs_V pm, .ref y3, hs_V fl, .ref y4, .ref y5, .ref y6, .ref y7, hs_V pt, .ref y8, .ref y9], hs_ia cI y1 41 h]) (wr := [hs_ia cI y5 60 Ar, hs_ia cI y6 60 Fi, hs_ia cI y7 60 La, hs_ia cI y8 41 Ab, hs_ia cI y9 41 Nx]) (As := [hs_V i, hs_V 1, hs_V 1]) (rest := []) C (c_X7_nearest_p1 l D cI cO y0 y1 y2 y3 y4 y5 y6 y7 y8 y9 pm fl pt h i hh (by omega) (by omega)) 7 0 rfl rfl rfl (cwV 3 C.1.2.2.2.2 gX7_column_X7_nearest rfl rfl rfl (by decide +kernel) ⟨Nat.le_of_ble_eq_true rfl, Nat.le_of_ble_eq_true rfl⟩) rfl rfl (Nat.le_of_ble_eq_true rfl) dX7_column_83 ⟨Nat.le_of_ble_eq_true rfl, Nat.le_of_ble_eq_true rfl⟩ (fun rr uu6 hp => ?_)
      obtain rfl := hp
      refine hs_re0 (w' := [hs_ob y0 7 [.ref y1, .ref y2, hs_V pm, .ref y3, hs_V fl, .ref y4, .ref y5, .ref y6, .ref y7, hs_V pt, .ref y8, .ref y9], hs_ia cI y1 41 h, hs_ia cI y5 60 Ar, hs_ia cI y6 60 Fi, hs_ia cI y7 60 La, hs_ia cI y8 41 Ab, hs_ia cI y9 41 Nx]) [0, 1, 2, 3, 4, 5, 6] rfl (by decide) ?_
      exact hret _ _ _ (pt, (Ar, Fi, La), Ab, Nx) ⟨by unfold mo_column; rw [if_neg (by omega), c3]; rfl, ⟨hAr, hFi, hLa⟩, hAb, hNx⟩ dX7_column_86 rfl
    · refine hs_tableIn (tgt := 87) (off := 76) C dX7_column_11 (by omega) (by omega) (by omega) (by rw [c3]; rfl) (by decide) ?_
      refine hs_aload_n C dX7_column_87 rfl 0 rfl ?_
      refine hs_iload_n C dX7_column_88 rfl 1 rfl ?_
      refine hs_iconst C dX7_column_89 ?_
      refine hs_iconst C dX7_column_90 ?_
      refine hs_callVi (win := [hs_ob y0 7 [.ref y1, .ref y2, hs_V pm, .ref y3, hs_V fl, .ref y4, .ref y5, .ref y6, .ref y7, hs_V pt, .ref y8, .ref y9], hs_ia cI y1 41 h]) (wr := [hs_ia cI y5 60 Ar, hs_ia cI y6 60 Fi, hs_ia cI y7 60 La, hs_ia cI y8 41 Ab, hs_ia cI y9 41 Nx]) (As := [hs_V i, hs_V (-1), hs_V 0]) (rest := []) C (c_X7_nearest_m0 l D cI cO y0 y1 y2 y3 y4 y5 y6 y7 y8 y9 pm fl pt h i hh (by omega) (by omega)) 7 0 rfl rfl rfl (cwV 3 C.1.2.2.2.2 gX7_column_X7_nearest rfl rfl rfl (by decide +kernel) ⟨Nat.le_of_ble_eq_true rfl, Nat.le_of_ble_eq_true rfl⟩) rfl rfl (Nat.le_of_ble_eq_true rfl) dX7_column_91 ⟨Nat.le_of_ble_eq_true rfl, Nat.le_of_ble_eq_true rfl⟩ (fun rr uu7 hp => ?_)
      obtain rfl := hp
      refine hs_re0 (w' := [hs_ob y0 7 [.ref y1, .ref y2, hs_V pm, .ref y3, hs_V fl, .ref y4, .ref y5, .ref y6, .ref y7, hs_V pt, .ref y8, .ref y9], hs_ia cI y1 41 h, hs_ia cI y5 60 Ar, hs_ia cI y6 60 Fi, hs_ia cI y7 60 La, hs_ia cI y8 41 Ab, hs_ia cI y9 41 Nx]) [0, 1, 2, 3, 4, 5, 6] rfl (by decide) ?_
      exact hret _ _ _ (pt, (Ar, Fi, La), Ab, Nx) ⟨by unfold mo_column; rw [if_neg (by omega), c3]; rfl, ⟨hAr, hFi, hLa⟩, hAb, hNx⟩ dX7_column_94 rfl
    · refine hs_tableIn (tgt := 95) (off := 84) C dX7_column_11 (by omega) (by omega) (by omega) (by rw [c3]; rfl) (by decide) ?_
      refine hs_aload_n C dX7_column_95 rfl 0 rfl ?_
      refine hs_iload_n C dX7_column_96 rfl 1 rfl ?_
      refine hs_iconst C dX7_column_97 ?_
      refine hs_iconst C dX7_column_98 ?_
      refine hs_callVi (win := [hs_ob y0 7 [.ref y1, .ref y2, hs_V pm, .ref y3, hs_V fl, .ref y4, .ref y5, .ref y6, .ref y7, hs_V pt, .ref y8, .ref y9], hs_ia cI y1 41 h]) (wr := [hs_ia cI y5 60 Ar, hs_ia cI y6 60 Fi, hs_ia cI y7 60 La, hs_ia cI y8 41 Ab, hs_ia cI y9 41 Nx]) (As := [hs_V i, hs_V 1, hs_V 0]) (rest := []) C (c_X7_nearest_p0 l D cI cO y0 y1 y2 y3 y4 y5 y6 y7 y8 y9 pm fl pt h i hh (by omega) (by omega)) 7 0 rfl rfl rfl (cwV 3 C.1.2.2.2.2 gX7_column_X7_nearest rfl rfl rfl (by decide +kernel) ⟨Nat.le_of_ble_eq_true rfl, Nat.le_of_ble_eq_true rfl⟩) rfl rfl (Nat.le_of_ble_eq_true rfl) dX7_column_99 ⟨Nat.le_of_ble_eq_true rfl, Nat.le_of_ble_eq_true rfl⟩ (fun rr uu8 hp => ?_)
      obtain rfl := hp
      refine hs_re0 (w' := [hs_ob y0 7 [.ref y1, .ref y2, hs_V pm, .ref y3, hs_V fl, .ref y4, .ref y5, .ref y6, .ref y7, hs_V pt, .ref y8, .ref y9], hs_ia cI y1 41 h, hs_ia cI y5 60 Ar, hs_ia cI y6 60 Fi, hs_ia cI y7 60 La, hs_ia cI y8 41 Ab, hs_ia cI y9 41 Nx]) [0, 1, 2, 3, 4, 5, 6] rfl (by decide) ?_
      exact hret _ _ _ (pt, (Ar, Fi, La), Ab, Nx) ⟨by unfold mo_column; rw [if_neg (by omega), c3]; rfl, ⟨hAr, hFi, hLa⟩, hAb, hNx⟩ dX7_column_102 rfl
    · refine hs_tableIn (tgt := 103) (off := 92) C dX7_column_11 (by omega) (by omega) (by omega) (by rw [c3]; rfl) (by decide) ?_
      refine hs_aload_n C dX7_column_103 rfl 0 rfl ?_
      refine hs_iconst C dX7_column_104 ?_
      refine hs_aload_n C dX7_column_105 rfl 0 rfl ?_
      refine hs_callVi (win := [hs_ob y0 7 [.ref y1, .ref y2, hs_V pm, .ref y3, hs_V fl, .ref y4, .ref y5, .ref y6, .ref y7, hs_V pt, .ref y8, .ref y9], hs_ia cI y1 41 h]) (wr := [hs_ia cI y5 60 Ar, hs_ia cI y6 60 Fi, hs_ia cI y7 60 La, hs_ia cI y8 41 Ab, hs_ia cI y9 41 Nx]) (As := []) (rest := [hs_V 0, .ref y0]) C (c_X7_many l D cI cO y0 y1 y2 y3 y4 y5 y6 y7 y8 y9 pm fl pt h ) 7 0 rfl rfl rfl (cwV 0 C.1.2.2.2.2 gX7_column_X7_many rfl rfl rfl (by decide +kernel) ⟨Nat.le_of_ble_eq_true rfl, Nat.le_of_ble_eq_true rfl⟩) rfl rfl (Nat.le_of_ble_eq_true rfl) dX7_column_106 ⟨Nat.le_of_ble_eq_true rfl, Nat.le_of_ble_eq_true rfl⟩ (fun rr uu9 hp => ?_)
      obtain rfl := hp
      refine hs_re0 (w' := [hs_ob y0 7 [.ref y1, .ref y2, hs_V pm, .ref y3, hs_V fl, .ref y4, .ref y5, .ref y6, .ref y7, hs_V pt, .ref y8, .ref y9], hs_ia cI y1 41 h, hs_ia cI y5 60 Ar, hs_ia cI y6 60 Fi, hs_ia cI y7 60 La, hs_ia cI y8 41 Ab, hs_ia cI y9 41 Nx]) [0, 1, 2, 3, 4, 5, 6] rfl (by decide) ?_
      refine hs_iconst C dX7_column_109 ?_
      refine hs_isub C dX7_column_110 ?_
      refine hs_iload_n C dX7_column_111 rfl 1 rfl ?_
      refine hs_callVi (win := [hs_ob y0 7 [.ref y1, .ref y2, hs_V pm, .ref y3, hs_V fl, .ref y4, .ref y5, .ref y6, .ref y7, hs_V pt, .ref y8, .ref y9], hs_ia cI y1 41 h]) (wr := [hs_ia cI y5 60 Ar, hs_ia cI y6 60 Fi, hs_ia cI y7 60 La, hs_ia cI y8 41 Ab, hs_ia cI y9 41 Nx]) (As := [hs_V 0, hs_V ((h 40) - 1), hs_V i]) (rest := []) C (c_X7_depth l D cI cO y0 y1 y2 y3 y4 y5 y6 y7 y8 y9 pm fl pt h 0 ((h 40) - 1) i hh (by omega)) 7 0 rfl rfl rfl (cwV 3 C.1.2.2.2.2 gX7_column_X7_depth rfl rfl rfl (by decide +kernel) ⟨Nat.le_of_ble_eq_true rfl, Nat.le_of_ble_eq_true rfl⟩) rfl rfl (Nat.le_of_ble_eq_true rfl) dX7_column_112 ⟨Nat.le_of_ble_eq_true rfl, Nat.le_of_ble_eq_true rfl⟩ (fun rr uu10 hp => ?_)
      obtain rfl := hp
      refine hs_re0 (w' := [hs_ob y0 7 [.ref y1, .ref y2, hs_V pm, .ref y3, hs_V fl, .ref y4, .ref y5, .ref y6, .ref y7, hs_V pt, .ref y8, .ref y9], hs_ia cI y1 41 h, hs_ia cI y5 60 Ar, hs_ia cI y6 60 Fi, hs_ia cI y7 60 La, hs_ia cI y8 41 Ab, hs_ia cI y9 41 Nx]) [0, 1, 2, 3, 4, 5, 6] rfl (by decide) ?_
      exact hret _ _ _ (pt, (Ar, Fi, La), Ab, Nx) ⟨by unfold mo_column; rw [if_neg (by omega), c3]; rfl, ⟨hAr, hFi, hLa⟩, hAb, hNx⟩ dX7_column_115 rfl
    · refine hs_tableIn (tgt := 116) (off := 105) C dX7_column_11 (by omega) (by omega) (by omega) (by rw [c3]; rfl) (by decide) ?_
      refine hs_aload_n C dX7_column_116 rfl 0 rfl ?_
      refine hs_iload_n C dX7_column_117 rfl 1 rfl ?_
      refine hs_callVi (win := [hs_ob y0 7 [.ref y1, .ref y2, hs_V pm, .ref y3, hs_V fl, .ref y4, .ref y5, .ref y6, .ref y7, hs_V pt, .ref y8, .ref y9], hs_ia cI y1 41 h]) (wr := [hs_ia cI y5 60 Ar, hs_ia cI y6 60 Fi, hs_ia cI y7 60 La, hs_ia cI y8 41 Ab, hs_ia cI y9 41 Nx]) (As := [hs_V i]) (rest := []) C (c_X7_parentOf l D cI cO y0 y1 y2 y3 y4 y5 y6 y7 y8 y9 pm fl pt h i hh (by omega) (by omega)) 7 0 rfl rfl rfl (cwV 1 C.1.2.2.2.2 gX7_column_X7_parentOf rfl rfl rfl (by decide +kernel) ⟨Nat.le_of_ble_eq_true rfl, Nat.le_of_ble_eq_true rfl⟩) rfl rfl (Nat.le_of_ble_eq_true rfl) dX7_column_118 ⟨Nat.le_of_ble_eq_true rfl, Nat.le_of_ble_eq_true rfl⟩ (fun rr uu11 hp => ?_)
      obtain rfl := hp
      refine hs_re0 (w' := [hs_ob y0 7 [.ref y1, .ref y2, hs_V pm, .ref y3, hs_V fl, .ref y4, .ref y5, .ref y6, .ref y7, hs_V (mo_td h i).2.2.2, .ref y8, .ref y9], hs_ia cI y1 41 h, hs_ia cI y5 60 Ar, hs_ia cI y6 60 Fi, hs_ia cI y7 60 La, hs_ia cI y8 41 Ab, hs_ia cI y9 41 Nx]) [0, 1, 2, 3, 4, 5, 6] rfl (by decide) ?_
      exact hret _ _ _ ((mo_td h i).2.2.2, (Ar, Fi, La), Ab, Nx) ⟨by unfold mo_column; rw [if_neg (by omega), c3]; rfl, ⟨hAr, hFi, hLa⟩, hAb, hNx⟩ dX7_column_121 rfl
    · refine hs_tableIn (tgt := 122) (off := 111) C dX7_column_11 (by omega) (by omega) (by omega) (by rw [c3]; rfl) (by decide) ?_
      refine hs_aload_n C dX7_column_122 rfl 0 rfl ?_
      refine hs_iload_n C dX7_column_123 rfl 1 rfl ?_
      refine hs_callVi (win := [hs_ob y0 7 [.ref y1, .ref y2, hs_V pm, .ref y3, hs_V fl, .ref y4, .ref y5, .ref y6, .ref y7, hs_V pt, .ref y8, .ref y9], hs_ia cI y1 41 h]) (wr := [hs_ia cI y5 60 Ar, hs_ia cI y6 60 Fi, hs_ia cI y7 60 La, hs_ia cI y8 41 Ab, hs_ia cI y9 41 Nx]) (As := [hs_V i]) (rest := []) C (c_X7_treeDepth l D cI cO y0 y1 y2 y3 y4 y5 y6 y7 y8 y9 pm fl pt h i hh (by omega) (by omega)) 7 0 rfl rfl rfl (cwV 1 C.1.2.2.2.2 gX7_column_X7_treeDepth rfl rfl rfl (by decide +kernel) ⟨Nat.le_of_ble_eq_true rfl, Nat.le_of_ble_eq_true rfl⟩) rfl rfl (Nat.le_of_ble_eq_true rfl) dX7_column_124 ⟨Nat.le_of_ble_eq_true rfl, Nat.le_of_ble_eq_true rfl⟩ (fun rr uu12 hp => ?_)
      obtain rfl := hp
      refine hs_re0 (w' := [hs_ob y0 7 [.ref y1, .ref y2, hs_V pm, .ref y3, hs_V fl, .ref y4, .ref y5, .ref y6, .ref y7, hs_V (mo_td h i).2.2.2, .ref y8, .ref y9], hs_ia cI y1 41 h, hs_ia cI y5 60 Ar, hs_ia cI y6 60 Fi, hs_ia cI y7 60 La, hs_ia cI y8 41 Ab, hs_ia cI y9 41 Nx]) [0, 1, 2, 3, 4, 5, 6] rfl (by decide) ?_
      exact hret _ _ _ ((mo_td h i).2.2.2, (Ar, Fi, La), Ab, Nx) ⟨by unfold mo_column; rw [if_neg (by omega), c3]; rfl, ⟨hAr, hFi, hLa⟩, hAb, hNx⟩ dX7_column_127 rfl
    · refine hs_tableIn (tgt := 128) (off := 117) C dX7_column_11 (by omega) (by omega) (by omega) (by rw [c3]; rfl) (by decide) ?_
      refine hs_aload_n C dX7_column_128 rfl 0 rfl ?_
      refine hs_iload_n C dX7_column_129 rfl 1 rfl ?_
      refine hs_callVi (win := [hs_ob y0 7 [.ref y1, .ref y2, hs_V pm, .ref y3, hs_V fl, .ref y4, .ref y5, .ref y6, .ref y7, hs_V pt, .ref y8, .ref y9], hs_ia cI y1 41 h]) (wr := [hs_ia cI y5 60 Ar, hs_ia cI y6 60 Fi, hs_ia cI y7 60 La, hs_ia cI y8 41 Ab, hs_ia cI y9 41 Nx]) (As := [hs_V i]) (rest := []) C (c_X7_reach l D cI cO y0 y1 y2 y3 y4 y5 y6 y7 y8 y9 pm fl pt h i hh (by omega) (by omega)) 7 0 rfl rfl rfl (cwV 1 C.1.2.2.2.2 gX7_column_X7_reach rfl rfl rfl (by decide +kernel) ⟨Nat.le_of_ble_eq_true rfl, Nat.le_of_ble_eq_true rfl⟩) rfl rfl (Nat.le_of_ble_eq_true rfl) dX7_column_130 ⟨Nat.le_of_ble_eq_true rfl, Nat.le_of_ble_eq_true rfl⟩ (fun rr uu13 hp => ?_)
      obtain rfl := hp
      refine hs_re0 (w' := [hs_ob y0 7 [.ref y1, .ref y2, hs_V pm, .ref y3, hs_V fl, .ref y4, .ref y5, .ref y6, .ref y7, hs_V pt, .ref y8, .ref y9], hs_ia cI y1 41 h, hs_ia cI y5 60 Ar, hs_ia cI y6 60 Fi, hs_ia cI y7 60 La, hs_ia cI y8 41 Ab, hs_ia cI y9 41 Nx]) [0, 1, 2, 3, 4, 5, 6] rfl (by decide) ?_
      exact hret _ _ _ (pt, (Ar, Fi, La), Ab, Nx) ⟨by unfold mo_column; rw [if_neg (by omega), c3]; rfl, ⟨hAr, hFi, hLa⟩, hAb, hNx⟩ dX7_column_133 rfl
    · refine hs_tableIn (tgt := 134) (off := 123) C dX7_column_11 (by omega) (by omega) (by omega) (by rw [c3]; rfl) (by decide) ?_
      refine hs_aload_n C dX7_column_134 rfl 0 rfl ?_
      refine hs_iload_n C dX7_column_135 rfl 1 rfl ?_
      refine hs_callVi (win := [hs_ob y0 7 [.ref y1, .ref y2, hs_V pm, .ref y3, hs_V fl, .ref y4, .ref y5, .ref y6, .ref y7, hs_V pt, .ref y8, .ref y9], hs_ia cI y1 41 h]) (wr := [hs_ia cI y5 60 Ar, hs_ia cI y6 60 Fi, hs_ia cI y7 60 La, hs_ia cI y8 41 Ab, hs_ia cI y9 41 Nx]) (As := [hs_V i]) (rest := []) C (c_X7_stairLength l D cI cO y0 y1 y2 y3 y4 y5 y6 y7 y8 y9 pm fl pt h i hh (by omega) (by omega)) 7 0 rfl rfl rfl (cwV 1 C.1.2.2.2.2 gX7_column_X7_stairLength rfl rfl rfl (by decide +kernel) ⟨Nat.le_of_ble_eq_true rfl, Nat.le_of_ble_eq_true rfl⟩) rfl rfl (Nat.le_of_ble_eq_true rfl) dX7_column_136 ⟨Nat.le_of_ble_eq_true rfl, Nat.le_of_ble_eq_true rfl⟩ (fun rr uu14 hp => ?_)
      obtain rfl := hp
      refine hs_re0 (w' := [hs_ob y0 7 [.ref y1, .ref y2, hs_V pm, .ref y3, hs_V fl, .ref y4, .ref y5, .ref y6, .ref y7, hs_V pt, .ref y8, .ref y9], hs_ia cI y1 41 h, hs_ia cI y5 60 Ar, hs_ia cI y6 60 Fi, hs_ia cI y7 60 La, hs_ia cI y8 41 Ab, hs_ia cI y9 41 Nx]) [0, 1, 2, 3, 4, 5, 6] rfl (by decide) ?_
      exact hret _ _ _ (pt, (Ar, Fi, La), Ab, Nx) ⟨by unfold mo_column; rw [if_neg (by omega), c3]; rfl, ⟨hAr, hFi, hLa⟩, hAb, hNx⟩ dX7_column_139 rfl
  ·
    refine hs_iconst C dX7_column_8 ?_
    exact hret _ _ _ (pt, (Ar, Fi, La), Ab, Nx) ⟨by unfold mo_column; rw [if_pos (by omega)], ⟨hAr, hFi, hLa⟩, hAb, hNx⟩ dX7_column_9 rfl

set_option maxHeartbeats 4000000 in
set_option maxRecDepth 100000 in
theorem c_X7_stair (l : Launch) (D : va_G) (cI cO : ClassId) (y0 : Nat) (y1 : Nat) (y2 : Nat) (y3 : Nat) (y4 : Nat) (y5 : Nat) (y6 : Nat) (y7 : Nat) (y8 : Nat) (y9 : Nat) (pm : Int) (fl : Int) (pt : Int) (h : Int → Int) (i : Int) (q : Int) (hh : ∀ k, 0 ≤ h k ∧ h k ≤ 50) (hN : 0 ≤ h 40 ∧ h 40 ≤ 40) (hzi : hs_in i) (hzq : hs_in q) : hs_M l D cI cO yX7_stair wsX7_stair ({ frames := 3, cells := 0, slots := 0, locals := 67 } : Room) [.ref y0, hs_V i, hs_V q] [hs_ob y0 7 [.ref y1, .ref y2, hs_V pm, .ref y3, hs_V fl, .ref y4, .ref y5, .ref y6, .ref y7, hs_V pt, .ref y8, .ref y9], hs_ia cI y1 41 h] (fun r (_ : Unit) => r = hs_I (mo_stair i q h)) (fun _ => [hs_ob y0 7 [.ref y1, .ref y2, hs_V pm, .ref y3, hs_V fl, .ref y4, .ref y5, .ref y6, .ref y7, hs_V pt, .ref y8, .ref y9], hs_ia cI y1 41 h]) 0 0 := by
  refine hs_enter (cc := cX7_stair) (maxL := 5) (by decide +kernel) rfl (Nat.le_of_ble_eq_true rfl) (fun p e s m args below meth c A H0 Q C hret => ?_)
  refine hs_lvs (lv' := [(0, .ref y0), (1, hs_V i), (2, hs_V q)]) [0, 1, 2] rfl ?_
  refine hs_aload_n C dX7_stair_0 rfl 0 rfl ?_
  refine hs_iload_n C dX7_stair_1 rfl 1 rfl ?_
  refine hs_callVi (win := [hs_ob y0 7 [.ref y1, .ref y2, hs_V pm, .ref y3, hs_V fl, .ref y4, .ref y5, .ref y6, .ref y7, hs_V pt, .ref y8, .ref y9], hs_ia cI y1 41 h]) (wr := []) (As := [hs_V i]) (rest := []) C (c_X7_isColumn l D cI cO y0 y1 y2 y3 y4 y5 y6 y7 y8 y9 pm fl pt h i (by omega) (by omega)) 7 0 rfl rfl rfl (cwV 1 C.1.2.2.2.2 gX7_stair_X7_isColumn rfl rfl rfl (by decide +kernel) ⟨Nat.le_of_ble_eq_true rfl, Nat.le_of_ble_eq_true rfl⟩) rfl rfl (Nat.le_of_ble_eq_true rfl) dX7_stair_2 ⟨Nat.le_of_ble_eq_true rfl, Nat.le_of_ble_eq_true rfl⟩ (fun rr uu1 hp => ?_)
  obtain rfl := hp
  refine hs_re0 (w' := [hs_ob y0 7 [.ref y1, .ref y2, hs_V pm, .ref y3, hs_V fl, .ref y4, .ref y5, .ref y6, .ref y7, hs_V pt, .ref y8, .ref y9], hs_ia cI y1 41 h]) [0, 1] rfl (by decide) ?_
  refine hs_ifeq_b (tgt := 12) C dX7_stair_5 (by decide) (fun c2 => ?_) (fun c2 => ?_)
  ·
    refine hs_iconst C dX7_stair_12 ?_
    exact hret _ _ _ () (by unfold mo_stair; rw [if_pos (by omega)]) dX7_stair_13 rfl
  ·
    refine hs_iload_n C dX7_stair_8 rfl 2 rfl ?_
    refine hs_if_ge (tgt := 14) C dX7_stair_9 (by decide) (by omega) (fun c3 => ?_) (fun c3 => ?_)
    ·
      refine hs_iload_n C dX7_stair_14 rfl 1 rfl ?_
      refine hs_istore_n (lv' := [(0, .ref y0), (1, hs_V i), (2, hs_V q), (3, hs_V i)]) C dX7_stair_15 rfl (by decide) [1, 2, 3, 0] rfl ?_
      refine hs_iconst C dX7_stair_16 ?_
      refine hs_istore (lv' := [(0, .ref y0), (1, hs_V i), (2, hs_V q), (3, hs_V i), (4, hs_V 0)]) C dX7_stair_17 (by decide) [1, 2, 3, 4, 0] rfl ?_
      have Lp4 : ∀ (k : Nat) (w : Int) (x : Int), (w = -9 ∨ (0 ≤ w ∧ w ≤ i)) → ((0 ≤ w ∧ 0 ≤ x ∧ x + w ≤ i) ∨ (w = -9 ∧ 0 ≤ x ∧ x ≤ i + 1)) → (hs_wh (mo_saP q) (mo_slF h) k (w, x) = mo_sta h i q) → (w + 9 < (k : Int)) → hs_J p l e ({ frames := 3, cells := 0, slots := 0, locals := 67 } : Room) s m args below meth c D A H0 5 0 0 Q 19 [(0, .ref y0), (1, hs_V i), (2, hs_V q), (3, hs_V w), (4, hs_V x)] [] [hs_ob y0 7 [.ref y1, .ref y2, hs_V pm, .ref y3, hs_V fl, .ref y4, .ref y5, .ref y6, .ref y7, hs_V pt, .ref y8, .ref y9], hs_ia cI y1 41 h] := by
        intro k
        induction k with
        | zero =>
          intro w x hat hx hM hk
          exact absurd hk (by omega)
        | succ k ih =>
          intro w x hat hx hM hk
          have ih5 := ih
          have hsl := pu_sl_rg h w
          refine hs_iload C dX7_stair_19 4 rfl ?_
          refine hs_iload_n C dX7_stair_21 rfl 2 rfl ?_
          refine hs_icmp_ge (tgt := 45) C dX7_stair_22 (by decide) (by omega) (by omega) (fun c6 => ?_) (fun c6 => ?_)
          ·
            refine hs_iload_n C dX7_stair_45 rfl 3 rfl ?_
            exact hret _ _ _ () (by unfold mo_stair; rw [if_neg (by omega), ← hM, hs_wh_done (show ¬ mo_saP q (w, x) by unfold mo_saP; dsimp only; omega)]) dX7_stair_46 rfl
          ·
            refine hs_iload_n C dX7_stair_25 rfl 3 rfl ?_
            refine hs_bipush C dX7_stair_26 (by decide) ?_
            refine hs_icmp_eq (tgt := 45) C dX7_stair_28 (by decide) (by omega) (by omega) (fun c7 => ?_) (fun c7 => ?_)
            ·
              refine hs_iload_n C dX7_stair_45 rfl 3 rfl ?_
              exact hret _ _ _ () (by unfold mo_stair; rw [if_neg (by omega), ← hM, hs_wh_done (show ¬ mo_saP q (w, x) by unfold mo_saP; dsimp only; omega)]) dX7_stair_46 rfl
            ·
              refine hs_aload_n C dX7_stair_31 rfl 0 rfl ?_
              refine hs_iload_n C dX7_stair_32 rfl 3 rfl ?_
              refine hs_iconst C dX7_stair_33 ?_
              refine hs_iconst C dX7_stair_34 ?_
              refine hs_callVi (win := [hs_ob y0 7 [.ref y1, .ref y2, hs_V pm, .ref y3, hs_V fl, .ref y4, .ref y5, .ref y6, .ref y7, hs_V pt, .ref y8, .ref y9], hs_ia cI y1 41 h]) (wr := []) (As := [hs_V w, hs_V (-1), hs_V 1]) (rest := []) C (c_X7_nearest_m1 l D cI cO y0 y1 y2 y3 y4 y5 y6 y7 y8 y9 pm fl pt h w hh (by omega) (by omega)) 7 0 rfl rfl rfl (cwV 3 C.1.2.2.2.2 gX7_stair_X7_nearest rfl rfl rfl (by decide +kernel) ⟨Nat.le_of_ble_eq_true rfl, Nat.le_of_ble_eq_true rfl⟩) rfl rfl (Nat.le_of_ble_eq_true rfl) dX7_stair_35 ⟨Nat.le_of_ble_eq_true rfl, Nat.le_of_ble_eq_true rfl⟩ (fun rr uu8 hp => ?_)
              obtain rfl := hp
              refine hs_re0 (w' := [hs_ob y0 7 [.ref y1, .ref y2, hs_V pm, .ref y3, hs_V fl, .ref y4, .ref y5, .ref y6, .ref y7, hs_V pt, .ref y8, .ref y9], hs_ia cI y1 41 h]) [0, 1] rfl (by decide) ?_
              refine hs_istore_n (lv' := [(0, .ref y0), (1, hs_V i), (2, hs_V q), (3, hs_V (pu_sl h w)), (4, hs_V x)]) C dX7_stair_38 rfl (by decide) [1, 2, 3, 0, 4] rfl ?_
              refine hs_iinc (lv' := [(0, .ref y0), (1, hs_V i), (2, hs_V q), (3, hs_V (pu_sl h w)), (4, hs_V (x + 1))]) C dX7_stair_39 4 rfl (by decide) [1, 2, 3, 4, 0] rfl ?_
              refine hs_goto (tgt := 19) C dX7_stair_42 (by decide) ?_
              exact ih5 (pu_sl h w) (x + 1) (by omega) (by omega) ((hs_wh_step (P := mo_saP q) (f := mo_slF h) (n := k) (x := (w, x)) ⟨by (try dsimp only); omega, by (try dsimp only); omega⟩).symm.trans hM) (by omega)
      exact Lp4 ((i + 9 : Int).toNat + 1) i 0 (by omega) (by omega) (rfl) (by omega)
    ·
      refine hs_iconst C dX7_stair_12 ?_
      exact hret _ _ _ () (by unfold mo_stair; rw [if_pos (by omega)]) dX7_stair_13 rfl

set_option maxHeartbeats 4000000 in
set_option maxRecDepth 100000 in
theorem c_X7_range (l : Launch) (D : va_G) (cI cO : ClassId) (y0 : Nat) (y1 : Nat) (y2 : Nat) (y3 : Nat) (y4 : Nat) (y5 : Nat) (y6 : Nat) (y7 : Nat) (y8 : Nat) (y9 : Nat) (pm : Int) (fl : Int) (pt : Int) (h : Int → Int) (a : Int) (b : Int) (wh : Int) (hh : ∀ k, 0 ≤ h k ∧ h k ≤ 50) (hN : 0 ≤ h 40 ∧ h 40 ≤ 40) (hza : hs_in a) (hzb : hs_in b) (hzw : hs_in wh) : hs_M l D cI cO yX7_range wsX7_range ({ frames := 3, cells := 0, slots := 0, locals := 74 } : Room) [.ref y0, hs_V a, hs_V b, hs_V wh] [hs_ob y0 7 [.ref y1, .ref y2, hs_V pm, .ref y3, hs_V fl, .ref y4, .ref y5, .ref y6, .ref y7, hs_V pt, .ref y8, .ref y9], hs_ia cI y1 41 h] (fun r (_ : Unit) => r = hs_I (mo_range a b wh h)) (fun _ => [hs_ob y0 7 [.ref y1, .ref y2, hs_V pm, .ref y3, hs_V fl, .ref y4, .ref y5, .ref y6, .ref y7, hs_V pt, .ref y8, .ref y9], hs_ia cI y1 41 h]) 0 0 := by
  refine hs_enter (cc := cX7_range) (maxL := 4) (by decide +kernel) rfl (Nat.le_of_ble_eq_true rfl) (fun p e s m args below meth c A H0 Q C hret => ?_)
  have qn := mo_mn_bd (a := a) (b := b) hh
  have qx := mo_mx_bd (a := a) (b := b) hh
  refine hs_lvs (lv' := [(0, .ref y0), (1, hs_V a), (2, hs_V b), (3, hs_V wh)]) [0, 1, 2, 3] rfl ?_
  refine hs_aload_n C dX7_range_0 rfl 0 rfl ?_
  refine hs_iload_n C dX7_range_1 rfl 1 rfl ?_
  refine hs_iload_n C dX7_range_2 rfl 2 rfl ?_
  refine hs_callVi (win := [hs_ob y0 7 [.ref y1, .ref y2, hs_V pm, .ref y3, hs_V fl, .ref y4, .ref y5, .ref y6, .ref y7, hs_V pt, .ref y8, .ref y9], hs_ia cI y1 41 h]) (wr := []) (As := [hs_V a, hs_V b]) (rest := []) C (c_X7_isRange l D cI cO y0 y1 y2 y3 y4 y5 y6 y7 y8 y9 pm fl pt h a b (by omega) (by omega) (by omega)) 7 0 rfl rfl rfl (cwV 2 C.1.2.2.2.2 gX7_range_X7_isRange rfl rfl rfl (by decide +kernel) ⟨Nat.le_of_ble_eq_true rfl, Nat.le_of_ble_eq_true rfl⟩) rfl rfl (Nat.le_of_ble_eq_true rfl) dX7_range_3 ⟨Nat.le_of_ble_eq_true rfl, Nat.le_of_ble_eq_true rfl⟩ (fun rr uu1 hp => ?_)
  obtain rfl := hp
  refine hs_re0 (w' := [hs_ob y0 7 [.ref y1, .ref y2, hs_V pm, .ref y3, hs_V fl, .ref y4, .ref y5, .ref y6, .ref y7, hs_V pt, .ref y8, .ref y9], hs_ia cI y1 41 h]) [0, 1] rfl (by decide) ?_
  refine hs_ifeq_b (tgt := 19) C dX7_range_6 (by decide) (fun c2 => ?_) (fun c2 => ?_)
  ·
    refine hs_iconst C dX7_range_19 ?_
    exact hret _ _ _ () (by unfold mo_range; rw [if_pos (by omega)]) dX7_range_20 rfl
  ·
    refine hs_iload_n C dX7_range_9 rfl 3 rfl ?_
    refine hs_iconst C dX7_range_10 ?_
    refine hs_bipush C dX7_range_11 (by decide) ?_
    refine hs_callSi (win := []) (wr := [hs_ob y0 7 [.ref y1, .ref y2, hs_V pm, .ref y3, hs_V fl, .ref y4, .ref y5, .ref y6, .ref y7, hs_V pt, .ref y8, .ref y9], hs_ia cI y1 41 h]) (As := [hs_V wh, hs_V 0, hs_V 8]) (rest := []) C (c_X7_isIn l D cI cO wh 0 8 (by omega) (by omega) (by omega)) (va_cwS 3 C.1.2.2.2.2 gX7_range_X7_isIn rfl rfl rfl (by decide +kernel) ⟨Nat.le_of_ble_eq_true rfl, Nat.le_of_ble_eq_true rfl⟩) rfl rfl (Nat.le_of_ble_eq_true rfl) dX7_range_13 ⟨Nat.le_of_ble_eq_true rfl, Nat.le_of_ble_eq_true rfl⟩ (fun rr uu3 hp => ?_)
    obtain rfl := hp
    refine hs_re0 (w' := [hs_ob y0 7 [.ref y1, .ref y2, hs_V pm, .ref y3, hs_V fl, .ref y4, .ref y5, .ref y6, .ref y7, hs_V pt, .ref y8, .ref y9], hs_ia cI y1 41 h]) [0, 1] rfl (by decide) ?_
    refine hs_ifne_b (tgt := 21) C dX7_range_16 (by decide) (fun c4 => ?_) (fun c4 => ?_)
    ·
      refine hs_iload_n C dX7_range_21 rfl 3 rfl ?_
      rcases (show ((wh < 0 ∨ 4 < wh) ∨ wh = 0 ∨ wh = 1 ∨ wh = 2 ∨ wh = 3 ∨ wh = 4) by omega) with c5 | c5 | c5 | c5 | c5 | c5
      · refine hs_tableOut (tgt := 101) C dX7_range_22 (by omega) c5 (by decide) ?_
        refine hs_aload_n C dX7_range_101 rfl 0 rfl ?_
        refine hs_iload_n C dX7_range_102 rfl 1 rfl ?_
        refine hs_iload_n C dX7_range_103 rfl 2 rfl ?_
        refine hs_iload_n C dX7_range_104 rfl 3 rfl ?_
        refine hs_callVi (win := [hs_ob y0 7 [.ref y1, .ref y2, hs_V pm, .ref y3, hs_V fl, .ref y4, .ref y5, .ref y6, .ref y7, hs_V pt, .ref y8, .ref y9], hs_ia cI y1 41 h]) (wr := []) (As := [hs_V a, hs_V b, hs_V wh]) (rest := []) C (c_X7_largest l D cI cO y0 y1 y2 y3 y4 y5 y6 y7 y8 y9 pm fl pt h a b wh hh (by omega) (by omega) (by omega)) 7 0 rfl rfl rfl (cwV 3 C.1.2.2.2.2 gX7_range_X7_largest rfl rfl rfl (by decide +kernel) ⟨Nat.le_of_ble_eq_true rfl, Nat.le_of_ble_eq_true rfl⟩) rfl rfl (Nat.le_of_ble_eq_true rfl) dX7_range_105 ⟨Nat.le_of_ble_eq_true rfl, Nat.le_of_ble_eq_true rfl⟩ (fun rr uu6 hp => ?_)
        obtain rfl := hp
        refine hs_re0 (w' := [hs_ob y0 7 [.ref y1, .ref y2, hs_V pm, .ref y3, hs_V fl, .ref y4, .ref y5, .ref y6, .ref y7, hs_V pt, .ref y8, .ref y9], hs_ia cI y1 41 h]) [0, 1] rfl (by decide) ?_
        exact hret _ _ _ () (by unfold mo_range; rw [if_neg (show ¬ ¬ (0 ≤ a ∧ a ≤ b ∧ b ≤ h 40 - 1 ∧ 0 ≤ wh ∧ wh ≤ 8) by omega), if_neg (show ¬ wh = 0 by omega), if_neg (show ¬ wh = 1 by omega), if_neg (show ¬ wh = 2 by omega), if_neg (show ¬ wh = 3 by omega), if_neg (show ¬ wh = 4 by omega)]) dX7_range_108 rfl
      · refine hs_tableIn (tgt := 56) (off := 34) C dX7_range_22 (by omega) (by omega) (by omega) (by rw [c5]; rfl) (by decide) ?_
        refine hs_aload_n C dX7_range_56 rfl 0 rfl ?_
        refine hs_iload_n C dX7_range_57 rfl 1 rfl ?_
        refine hs_iload_n C dX7_range_58 rfl 2 rfl ?_
        refine hs_callVi (win := [hs_ob y0 7 [.ref y1, .ref y2, hs_V pm, .ref y3, hs_V fl, .ref y4, .ref y5, .ref y6, .ref y7, hs_V pt, .ref y8, .ref y9], hs_ia cI y1 41 h]) (wr := []) (As := [hs_V a, hs_V b]) (rest := []) C (c_X7_least l D cI cO y0 y1 y2 y3 y4 y5 y6 y7 y8 y9 pm fl pt h a b hh (by omega)) 7 0 rfl rfl rfl (cwV 2 C.1.2.2.2.2 gX7_range_X7_least rfl rfl rfl (by decide +kernel) ⟨Nat.le_of_ble_eq_true rfl, Nat.le_of_ble_eq_true rfl⟩) rfl rfl (Nat.le_of_ble_eq_true rfl) dX7_range_59 ⟨Nat.le_of_ble_eq_true rfl, Nat.le_of_ble_eq_true rfl⟩ (fun rr uu7 hp => ?_)
        obtain rfl := hp
        refine hs_re0 (w' := [hs_ob y0 7 [.ref y1, .ref y2, hs_V pm, .ref y3, hs_V fl, .ref y4, .ref y5, .ref y6, .ref y7, hs_V pt, .ref y8, .ref y9], hs_ia cI y1 41 h]) [0, 1] rfl (by decide) ?_
        exact hret _ _ _ () (by unfold mo_range; rw [if_neg (by omega), c5]; rfl) dX7_range_62 rfl
      · refine hs_tableIn (tgt := 63) (off := 41) C dX7_range_22 (by omega) (by omega) (by omega) (by rw [c5]; rfl) (by decide) ?_
        refine hs_aload_n C dX7_range_63 rfl 0 rfl ?_
        refine hs_iload_n C dX7_range_64 rfl 1 rfl ?_
        refine hs_aload_n C dX7_range_65 rfl 0 rfl ?_
        refine hs_iload_n C dX7_range_66 rfl 1 rfl ?_
        refine hs_iload_n C dX7_range_67 rfl 2 rfl ?_
        refine hs_callVi (win := [hs_ob y0 7 [.ref y1, .ref y2, hs_V pm, .ref y3, hs_V fl, .ref y4, .ref y5, .ref y6, .ref y7, hs_V pt, .ref y8, .ref y9], hs_ia cI y1 41 h]) (wr := []) (As := [hs_V a, hs_V b]) (rest := [hs_V a, .ref y0]) C (c_X7_least l D cI cO y0 y1 y2 y3 y4 y5 y6 y7 y8 y9 pm fl pt h a b hh (by omega)) 7 0 rfl rfl rfl (cwV 2 C.1.2.2.2.2 gX7_range_X7_least rfl rfl rfl (by decide +kernel) ⟨Nat.le_of_ble_eq_true rfl, Nat.le_of_ble_eq_true rfl⟩) rfl rfl (Nat.le_of_ble_eq_true rfl) dX7_range_68 ⟨Nat.le_of_ble_eq_true rfl, Nat.le_of_ble_eq_true rfl⟩ (fun rr uu8 hp => ?_)
        obtain rfl := hp
        refine hs_re0 (w' := [hs_ob y0 7 [.ref y1, .ref y2, hs_V pm, .ref y3, hs_V fl, .ref y4, .ref y5, .ref y6, .ref y7, hs_V pt, .ref y8, .ref y9], hs_ia cI y1 41 h]) [0, 1] rfl (by decide) ?_
        refine hs_callVi (win := [hs_ob y0 7 [.ref y1, .ref y2, hs_V pm, .ref y3, hs_V fl, .ref y4, .ref y5, .ref y6, .ref y7, hs_V pt, .ref y8, .ref y9], hs_ia cI y1 41 h]) (wr := []) (As := [hs_V a, hs_V (mo_mn h a b)]) (rest := []) C (c_X7_firstWith l D cI cO y0 y1 y2 y3 y4 y5 y6 y7 y8 y9 pm fl pt h a (mo_mn h a b) hh (by omega) (by omega) (by obtain ⟨j, j1, j2, j3⟩ := mo_mn_ex (h := h) (a := a) (b := b) (by omega); exact ⟨j, j1, by omega, j3⟩)) 7 0 rfl rfl rfl (cwV 2 C.1.2.2.2.2 gX7_range_X7_firstWith rfl rfl rfl (by decide +kernel) ⟨Nat.le_of_ble_eq_true rfl, Nat.le_of_ble_eq_true rfl⟩) rfl rfl (Nat.le_of_ble_eq_true rfl) dX7_range_71 ⟨Nat.le_of_ble_eq_true rfl, Nat.le_of_ble_eq_true rfl⟩ (fun rr uu9 hp => ?_)
        obtain rfl := hp
        refine hs_re0 (w' := [hs_ob y0 7 [.ref y1, .ref y2, hs_V pm, .ref y3, hs_V fl, .ref y4, .ref y5, .ref y6, .ref y7, hs_V pt, .ref y8, .ref y9], hs_ia cI y1 41 h]) [0, 1] rfl (by decide) ?_
        exact hret _ _ _ () (by unfold mo_range; rw [if_neg (by omega), c5]; rfl) dX7_range_74 rfl
      · refine hs_tableIn (tgt := 75) (off := 53) C dX7_range_22 (by omega) (by omega) (by omega) (by rw [c5]; rfl) (by decide) ?_
        refine hs_aload_n C dX7_range_75 rfl 0 rfl ?_
        refine hs_iload_n C dX7_range_76 rfl 1 rfl ?_
        refine hs_iload_n C dX7_range_77 rfl 2 rfl ?_
        refine hs_callVi (win := [hs_ob y0 7 [.ref y1, .ref y2, hs_V pm, .ref y3, hs_V fl, .ref y4, .ref y5, .ref y6, .ref y7, hs_V pt, .ref y8, .ref y9], hs_ia cI y1 41 h]) (wr := []) (As := [hs_V a, hs_V b]) (rest := []) C (c_X7_greatest l D cI cO y0 y1 y2 y3 y4 y5 y6 y7 y8 y9 pm fl pt h a b hh (by omega)) 7 0 rfl rfl rfl (cwV 2 C.1.2.2.2.2 gX7_range_X7_greatest rfl rfl rfl (by decide +kernel) ⟨Nat.le_of_ble_eq_true rfl, Nat.le_of_ble_eq_true rfl⟩) rfl rfl (Nat.le_of_ble_eq_true rfl) dX7_range_78 ⟨Nat.le_of_ble_eq_true rfl, Nat.le_of_ble_eq_true rfl⟩ (fun rr uu10 hp => ?_)
        obtain rfl := hp
        refine hs_re0 (w' := [hs_ob y0 7 [.ref y1, .ref y2, hs_V pm, .ref y3, hs_V fl, .ref y4, .ref y5, .ref y6, .ref y7, hs_V pt, .ref y8, .ref y9], hs_ia cI y1 41 h]) [0, 1] rfl (by decide) ?_
        exact hret _ _ _ () (by unfold mo_range; rw [if_neg (by omega), c5]; rfl) dX7_range_81 rfl
      · refine hs_tableIn (tgt := 82) (off := 60) C dX7_range_22 (by omega) (by omega) (by omega) (by rw [c5]; rfl) (by decide) ?_
        refine hs_aload_n C dX7_range_82 rfl 0 rfl ?_
        refine hs_iload_n C dX7_range_83 rfl 1 rfl ?_
        refine hs_aload_n C dX7_range_84 rfl 0 rfl ?_
        refine hs_iload_n C dX7_range_85 rfl 1 rfl ?_
        refine hs_iload_n C dX7_range_86 rfl 2 rfl ?_
        refine hs_callVi (win := [hs_ob y0 7 [.ref y1, .ref y2, hs_V pm, .ref y3, hs_V fl, .ref y4, .ref y5, .ref y6, .ref y7, hs_V pt, .ref y8, .ref y9], hs_ia cI y1 41 h]) (wr := []) (As := [hs_V a, hs_V b]) (rest := [hs_V a, .ref y0]) C (c_X7_greatest l D cI cO y0 y1 y2 y3 y4 y5 y6 y7 y8 y9 pm fl pt h a b hh (by omega)) 7 0 rfl rfl rfl (cwV 2 C.1.2.2.2.2 gX7_range_X7_greatest rfl rfl rfl (by decide +kernel) ⟨Nat.le_of_ble_eq_true rfl, Nat.le_of_ble_eq_true rfl⟩) rfl rfl (Nat.le_of_ble_eq_true rfl) dX7_range_87 ⟨Nat.le_of_ble_eq_true rfl, Nat.le_of_ble_eq_true rfl⟩ (fun rr uu11 hp => ?_)
        obtain rfl := hp
        refine hs_re0 (w' := [hs_ob y0 7 [.ref y1, .ref y2, hs_V pm, .ref y3, hs_V fl, .ref y4, .ref y5, .ref y6, .ref y7, hs_V pt, .ref y8, .ref y9], hs_ia cI y1 41 h]) [0, 1] rfl (by decide) ?_
        refine hs_callVi (win := [hs_ob y0 7 [.ref y1, .ref y2, hs_V pm, .ref y3, hs_V fl, .ref y4, .ref y5, .ref y6, .ref y7, hs_V pt, .ref y8, .ref y9], hs_ia cI y1 41 h]) (wr := []) (As := [hs_V a, hs_V (mo_mx h a b)]) (rest := []) C (c_X7_firstWith l D cI cO y0 y1 y2 y3 y4 y5 y6 y7 y8 y9 pm fl pt h a (mo_mx h a b) hh (by omega) (by omega) (by obtain ⟨j, j1, j2, j3⟩ := mo_mx_ex (h := h) (a := a) (b := b) (by omega); exact ⟨j, j1, by omega, j3⟩)) 7 0 rfl rfl rfl (cwV 2 C.1.2.2.2.2 gX7_range_X7_firstWith rfl rfl rfl (by decide +kernel) ⟨Nat.le_of_ble_eq_true rfl, Nat.le_of_ble_eq_true rfl⟩) rfl rfl (Nat.le_of_ble_eq_true rfl) dX7_range_90 ⟨Nat.le_of_ble_eq_true rfl, Nat.le_of_ble_eq_true rfl⟩ (fun rr uu12 hp => ?_)
        obtain rfl := hp
        refine hs_re0 (w' := [hs_ob y0 7 [.ref y1, .ref y2, hs_V pm, .ref y3, hs_V fl, .ref y4, .ref y5, .ref y6, .ref y7, hs_V pt, .ref y8, .ref y9], hs_ia cI y1 41 h]) [0, 1] rfl (by decide) ?_
        exact hret _ _ _ () (by unfold mo_range; rw [if_neg (by omega), c5]; rfl) dX7_range_93 rfl
      · refine hs_tableIn (tgt := 94) (off := 72) C dX7_range_22 (by omega) (by omega) (by omega) (by rw [c5]; rfl) (by decide) ?_
        refine hs_aload_n C dX7_range_94 rfl 0 rfl ?_
        refine hs_iload_n C dX7_range_95 rfl 1 rfl ?_
        refine hs_iload_n C dX7_range_96 rfl 2 rfl ?_
        refine hs_callVi (win := [hs_ob y0 7 [.ref y1, .ref y2, hs_V pm, .ref y3, hs_V fl, .ref y4, .ref y5, .ref y6, .ref y7, hs_V pt, .ref y8, .ref y9], hs_ia cI y1 41 h]) (wr := []) (As := [hs_V a, hs_V b]) (rest := []) C (c_X7_sum l D cI cO y0 y1 y2 y3 y4 y5 y6 y7 y8 y9 pm fl pt h a b (by omega)) 7 0 rfl rfl rfl (cwV 2 C.1.2.2.2.2 gX7_range_X7_sum rfl rfl rfl (by decide +kernel) ⟨Nat.le_of_ble_eq_true rfl, Nat.le_of_ble_eq_true rfl⟩) rfl rfl (Nat.le_of_ble_eq_true rfl) dX7_range_97 ⟨Nat.le_of_ble_eq_true rfl, Nat.le_of_ble_eq_true rfl⟩ (fun rr uu13 hp => ?_)
        obtain rfl := hp
        refine hs_re0 (w' := [hs_ob y0 7 [.ref y1, .ref y2, hs_V pm, .ref y3, hs_V fl, .ref y4, .ref y5, .ref y6, .ref y7, hs_V pt, .ref y8, .ref y9], hs_ia cI y1 41 h]) [0, 1] rfl (by decide) ?_
        exact hret _ _ _ () (by unfold mo_range; rw [if_neg (by omega), c5]; rfl) dX7_range_100 rfl
    ·
      refine hs_iconst C dX7_range_19 ?_
      exact hret _ _ _ () (by unfold mo_range; rw [if_pos (by omega)]) dX7_range_20 rfl

set_option maxHeartbeats 4000000 in
set_option maxRecDepth 100000 in
theorem c_X7_rectangle (l : Launch) (D : va_G) (cI cO : ClassId) (y0 : Nat) (y1 : Nat) (y2 : Nat) (y3 : Nat) (y4 : Nat) (y5 : Nat) (y6 : Nat) (y7 : Nat) (y8 : Nat) (y9 : Nat) (pm : Int) (fl : Int) (pt : Int) (h : Int → Int) (Ar : Int → Int) (Fi : Int → Int) (La : Int → Int) (Ab : Int → Int) (Nx : Int → Int) (q : Int) (wh : Int) (hh : ∀ k, 0 ≤ h k ∧ h k ≤ 50) (hN : 0 ≤ h 40 ∧ h 40 ≤ 40) (hAr : ∀ k, 0 ≤ Ar k ∧ Ar k ≤ 2500) (hFi : ∀ k, 0 ≤ Fi k ∧ Fi k ≤ 39) (hLa : ∀ k, 0 ≤ La k ∧ La k ≤ 39) (hAb : ∀ k, 0 ≤ Ab k ∧ Ab k ≤ 40) (hNx : ∀ k, 0 ≤ Nx k ∧ Nx k ≤ 40) (hzq : hs_in q) (hzw : hs_in wh) : hs_M l D cI cO yX7_rectangle wsX7_rectangle ({ frames := 3, cells := 0, slots := 0, locals := 74 } : Room) [.ref y0, hs_V q, hs_V wh] [hs_ob y0 7 [.ref y1, .ref y2, hs_V pm, .ref y3, hs_V fl, .ref y4, .ref y5, .ref y6, .ref y7, hs_V pt, .ref y8, .ref y9], hs_ia cI y1 41 h, hs_ia cI y5 60 Ar, hs_ia cI y6 60 Fi, hs_ia cI y7 60 La, hs_ia cI y8 41 Ab, hs_ia cI y9 41 Nx] (fun r (u : mo_K) => r = hs_I (mo_rectangle q wh h ((Ar, Fi, La), Ab, Nx)) ∧ mo_KB u) (fun u => [hs_ob y0 7 [.ref y1, .ref y2, hs_V pm, .ref y3, hs_V fl, .ref y4, .ref y5, .ref y6, .ref y7, hs_V u.1, .ref y8, .ref y9], hs_ia cI y1 41 h, hs_ia cI y5 60 (u.2.1.1), hs_ia cI y6 60 (u.2.1.2.1), hs_ia cI y7 60 (u.2.1.2.2), hs_ia cI y8 41 (u.2.2.1), hs_ia cI y9 41 (u.2.2.2)]) 0 0 := by
  refine hs_enter (cc := cX7_rectangle) (maxL := 4) (by decide +kernel) rfl (Nat.le_of_ble_eq_true rfl) (fun p e s m args below meth c A H0 Q C hret => ?_)
  have f25 := C.1.2.2.2.2 (.fieldLink RX7 25 "HistogramStairsModel" "firsts" "[I") (by decide +kernel)
  have u7 : ∀ w ∈ wsX70, w ∈ wsX7_rectangle := by decide +kernel
  have f28 := C.1.2.2.2.2 (.fieldLink RX7 28 "HistogramStairsModel" "lasts" "[I") (by decide +kernel)
  have f22 := C.1.2.2.2.2 (.fieldLink RX7 22 "HistogramStairsModel" "areas" "[I") (by decide +kernel)
  refine hs_lvs (lv' := [(0, .ref y0), (1, hs_V q), (2, hs_V wh)]) [0, 1, 2] rfl ?_
  refine hs_iload_n C dX7_rectangle_0 rfl 1 rfl ?_
  refine hs_if_lt (tgt := 13) C dX7_rectangle_1 (by decide) (by omega) (fun c1 => ?_) (fun c1 => ?_)
  ·
    refine hs_iconst C dX7_rectangle_13 ?_
    exact hret _ _ _ (pt, (Ar, Fi, La), Ab, Nx) ⟨by unfold mo_rectangle; dsimp only; rw [if_pos (by omega)], ⟨hAr, hFi, hLa⟩, hAb, hNx⟩ dX7_rectangle_14 rfl
  ·
    refine hs_iload_n C dX7_rectangle_4 rfl 2 rfl ?_
    refine hs_iconst C dX7_rectangle_5 ?_
    refine hs_iconst C dX7_rectangle_6 ?_
    refine hs_callSi (win := []) (wr := [hs_ob y0 7 [.ref y1, .ref y2, hs_V pm, .ref y3, hs_V fl, .ref y4, .ref y5, .ref y6, .ref y7, hs_V pt, .ref y8, .ref y9], hs_ia cI y1 41 h, hs_ia cI y5 60 Ar, hs_ia cI y6 60 Fi, hs_ia cI y7 60 La, hs_ia cI y8 41 Ab, hs_ia cI y9 41 Nx]) (As := [hs_V wh, hs_V 0, hs_V 5]) (rest := []) C (c_X7_isIn l D cI cO wh 0 5 (by omega) (by omega) (by omega)) (va_cwS 3 C.1.2.2.2.2 gX7_rectangle_X7_isIn rfl rfl rfl (by decide +kernel) ⟨Nat.le_of_ble_eq_true rfl, Nat.le_of_ble_eq_true rfl⟩) rfl rfl (Nat.le_of_ble_eq_true rfl) dX7_rectangle_7 ⟨Nat.le_of_ble_eq_true rfl, Nat.le_of_ble_eq_true rfl⟩ (fun rr uu2 hp => ?_)
    obtain rfl := hp
    refine hs_re0 (w' := [hs_ob y0 7 [.ref y1, .ref y2, hs_V pm, .ref y3, hs_V fl, .ref y4, .ref y5, .ref y6, .ref y7, hs_V pt, .ref y8, .ref y9], hs_ia cI y1 41 h, hs_ia cI y5 60 Ar, hs_ia cI y6 60 Fi, hs_ia cI y7 60 La, hs_ia cI y8 41 Ab, hs_ia cI y9 41 Nx]) [0, 1, 2, 3, 4, 5, 6] rfl (by decide) ?_
    refine hs_ifne_b (tgt := 15) C dX7_rectangle_10 (by decide) (fun c3 => ?_) (fun c3 => ?_)
    ·
      refine hs_iload_n C dX7_rectangle_15 rfl 1 rfl ?_
      refine hs_aload_n C dX7_rectangle_16 rfl 0 rfl ?_
      refine hs_callVi (win := [hs_ob y0 7 [.ref y1, .ref y2, hs_V pm, .ref y3, hs_V fl, .ref y4, .ref y5, .ref y6, .ref y7, hs_V pt, .ref y8, .ref y9], hs_ia cI y1 41 h, hs_ia cI y5 60 Ar, hs_ia cI y6 60 Fi, hs_ia cI y7 60 La]) (wr := [hs_ia cI y8 41 Ab, hs_ia cI y9 41 Nx]) (As := []) (rest := [hs_V q]) C (c_X7_layRectangles l D cI cO y0 y1 y2 y3 y4 y5 y6 y7 y8 y9 pm fl pt h Ar Fi La hh (by omega) hAr hFi hLa) 7 0 rfl rfl rfl (cwV 0 C.1.2.2.2.2 gX7_rectangle_X7_layRectangles rfl rfl rfl (by decide +kernel) ⟨Nat.le_of_ble_eq_true rfl, Nat.le_of_ble_eq_true rfl⟩) rfl rfl (Nat.le_of_ble_eq_true rfl) dX7_rectangle_17 ⟨Nat.le_of_ble_eq_true rfl, Nat.le_of_ble_eq_true rfl⟩ (fun rr uu4 hp => ?_)
      obtain rfl := hp
      refine hs_re0 (w' := [hs_ob y0 7 [.ref y1, .ref y2, hs_V pm, .ref y3, hs_V fl, .ref y4, .ref y5, .ref y6, .ref y7, hs_V pt, .ref y8, .ref y9], hs_ia cI y1 41 h, hs_ia cI y5 60 (mo_ly h (0, Ar, Fi, La)).2.1, hs_ia cI y6 60 (mo_ly h (0, Ar, Fi, La)).2.2.1, hs_ia cI y7 60 (mo_ly h (0, Ar, Fi, La)).2.2.2, hs_ia cI y8 41 Ab, hs_ia cI y9 41 Nx]) [0, 1, 2, 3, 4, 5, 6] rfl (by decide) ?_
      have hlb := mo_ly_bd (x := (0, Ar, Fi, La)) hh hN ⟨hAr, hFi, hLa⟩
      have hle := mo_ly_le (h := h) (x := (0, Ar, Fi, La)) hN
      refine hs_icmp_lt (tgt := 26) C dX7_rectangle_20 (by decide) (by omega) (by omega) (fun c5 => ?_) (fun c5 => ?_)
      ·
        refine hs_aload_n C dX7_rectangle_26 rfl 0 rfl ?_
        refine hs_aload_n C dX7_rectangle_27 rfl 0 rfl ?_
        refine hs_get C u7 0 rfl rfl 7 (by decide) f25 rfl rfl dX7_rectangle_28 ?_
        refine hs_iload_n C dX7_rectangle_31 rfl 1 rfl ?_
        refine hs_iald C 3 rfl (by omega) dX7_rectangle_32 ?_
        have b6 := hlb.2.1 q
        refine hs_aload_n C dX7_rectangle_33 rfl 0 rfl ?_
        refine hs_get C u7 0 rfl rfl 8 (by decide) f28 rfl rfl dX7_rectangle_34 ?_
        refine hs_iload_n C dX7_rectangle_37 rfl 1 rfl ?_
        refine hs_iald C 4 rfl (by omega) dX7_rectangle_38 ?_
        have b7 := hlb.2.2 q
        refine hs_callVi (win := [hs_ob y0 7 [.ref y1, .ref y2, hs_V pm, .ref y3, hs_V fl, .ref y4, .ref y5, .ref y6, .ref y7, hs_V pt, .ref y8, .ref y9], hs_ia cI y1 41 h]) (wr := [hs_ia cI y5 60 (mo_ly h (0, Ar, Fi, La)).2.1, hs_ia cI y6 60 (mo_ly h (0, Ar, Fi, La)).2.2.1, hs_ia cI y7 60 (mo_ly h (0, Ar, Fi, La)).2.2.2, hs_ia cI y8 41 Ab, hs_ia cI y9 41 Nx]) (As := [hs_V ((mo_ly h (0, Ar, Fi, La)).2.2.1 q), hs_V ((mo_ly h (0, Ar, Fi, La)).2.2.2 q)]) (rest := []) C (c_X7_least l D cI cO y0 y1 y2 y3 y4 y5 y6 y7 y8 y9 pm fl pt h ((mo_ly h (0, Ar, Fi, La)).2.2.1 q) ((mo_ly h (0, Ar, Fi, La)).2.2.2 q) hh (by omega)) 7 0 rfl rfl rfl (cwV 2 C.1.2.2.2.2 gX7_rectangle_X7_least rfl rfl rfl (by decide +kernel) ⟨Nat.le_of_ble_eq_true rfl, Nat.le_of_ble_eq_true rfl⟩) rfl rfl (Nat.le_of_ble_eq_true rfl) dX7_rectangle_39 ⟨Nat.le_of_ble_eq_true rfl, Nat.le_of_ble_eq_true rfl⟩ (fun rr uu8 hp => ?_)
        obtain rfl := hp
        refine hs_re0 (w' := [hs_ob y0 7 [.ref y1, .ref y2, hs_V pm, .ref y3, hs_V fl, .ref y4, .ref y5, .ref y6, .ref y7, hs_V pt, .ref y8, .ref y9], hs_ia cI y1 41 h, hs_ia cI y5 60 (mo_ly h (0, Ar, Fi, La)).2.1, hs_ia cI y6 60 (mo_ly h (0, Ar, Fi, La)).2.2.1, hs_ia cI y7 60 (mo_ly h (0, Ar, Fi, La)).2.2.2, hs_ia cI y8 41 Ab, hs_ia cI y9 41 Nx]) [0, 1, 2, 3, 4, 5, 6] rfl (by decide) ?_
        have qm := mo_mn_bd (a := (mo_ly h (0, Ar, Fi, La)).2.2.1 q) (b := (mo_ly h (0, Ar, Fi, La)).2.2.2 q) hh
        refine hs_istore_n (lv' := [(0, .ref y0), (1, hs_V q), (2, hs_V wh), (3, hs_V (mo_mn h ((mo_ly h (0, Ar, Fi, La)).2.2.1 q) ((mo_ly h (0, Ar, Fi, La)).2.2.2 q)))]) C dX7_rectangle_42 rfl (by decide) [1, 2, 3, 0] rfl ?_
        refine hs_iload_n C dX7_rectangle_43 rfl 2 rfl ?_
        rcases (show ((wh < 0 ∨ 4 < wh) ∨ wh = 0 ∨ wh = 1 ∨ wh = 2 ∨ wh = 3 ∨ wh = 4) by omega) with c9 | c9 | c9 | c9 | c9 | c9
        · refine hs_tableOut (tgt := 109) C dX7_rectangle_44 (by omega) c9 (by decide) ?_
          refine hs_aload_n C dX7_rectangle_109 rfl 0 rfl ?_
          refine hs_aload_n C dX7_rectangle_110 rfl 0 rfl ?_
          refine hs_get C u7 0 rfl rfl 7 (by decide) f25 rfl rfl dX7_rectangle_111 ?_
          refine hs_iload_n C dX7_rectangle_114 rfl 1 rfl ?_
          refine hs_iald C 3 rfl (by omega) dX7_rectangle_115 ?_
          have b10 := hlb.2.1 q
          refine hs_iload_n C dX7_rectangle_116 rfl 3 rfl ?_
          refine hs_callVi (win := [hs_ob y0 7 [.ref y1, .ref y2, hs_V pm, .ref y3, hs_V fl, .ref y4, .ref y5, .ref y6, .ref y7, hs_V pt, .ref y8, .ref y9], hs_ia cI y1 41 h]) (wr := [hs_ia cI y5 60 (mo_ly h (0, Ar, Fi, La)).2.1, hs_ia cI y6 60 (mo_ly h (0, Ar, Fi, La)).2.2.1, hs_ia cI y7 60 (mo_ly h (0, Ar, Fi, La)).2.2.2, hs_ia cI y8 41 Ab, hs_ia cI y9 41 Nx]) (As := [hs_V ((mo_ly h (0, Ar, Fi, La)).2.2.1 q), hs_V (mo_mn h ((mo_ly h (0, Ar, Fi, La)).2.2.1 q) ((mo_ly h (0, Ar, Fi, La)).2.2.2 q))]) (rest := []) C (c_X7_firstWith l D cI cO y0 y1 y2 y3 y4 y5 y6 y7 y8 y9 pm fl pt h ((mo_ly h (0, Ar, Fi, La)).2.2.1 q) (mo_mn h ((mo_ly h (0, Ar, Fi, La)).2.2.1 q) ((mo_ly h (0, Ar, Fi, La)).2.2.2 q)) hh (by omega) (by omega) (by obtain ⟨j, j1, j2, j3⟩ := mo_mn_ex (h := h) (mo_ly_ord (h := h) (x := (0, Ar, Fi, La)) q (by omega) (by omega)); exact ⟨j, j1, by have := hlb.2.2 q; omega, j3⟩)) 7 0 rfl rfl rfl (cwV 2 C.1.2.2.2.2 gX7_rectangle_X7_firstWith rfl rfl rfl (by decide +kernel) ⟨Nat.le_of_ble_eq_true rfl, Nat.le_of_ble_eq_true rfl⟩) rfl rfl (Nat.le_of_ble_eq_true rfl) dX7_rectangle_117 ⟨Nat.le_of_ble_eq_true rfl, Nat.le_of_ble_eq_true rfl⟩ (fun rr uu11 hp => ?_)
          obtain rfl := hp
          refine hs_re0 (w' := [hs_ob y0 7 [.ref y1, .ref y2, hs_V pm, .ref y3, hs_V fl, .ref y4, .ref y5, .ref y6, .ref y7, hs_V pt, .ref y8, .ref y9], hs_ia cI y1 41 h, hs_ia cI y5 60 (mo_ly h (0, Ar, Fi, La)).2.1, hs_ia cI y6 60 (mo_ly h (0, Ar, Fi, La)).2.2.1, hs_ia cI y7 60 (mo_ly h (0, Ar, Fi, La)).2.2.2, hs_ia cI y8 41 Ab, hs_ia cI y9 41 Nx]) [0, 1, 2, 3, 4, 5, 6] rfl (by decide) ?_
          exact hret _ _ _ (pt, ((mo_ly h (0, Ar, Fi, La)).2.1, (mo_ly h (0, Ar, Fi, La)).2.2.1, (mo_ly h (0, Ar, Fi, La)).2.2.2), Ab, Nx) ⟨by unfold mo_rectangle; dsimp only; rw [if_neg (by omega), if_neg (by omega)]; first | (rw [c9]; rfl) | rw [if_neg (by omega), if_neg (by omega), if_neg (by omega), if_neg (by omega), if_neg (by omega)], ⟨hlb.1, hlb.2.1, hlb.2.2⟩, hAb, hNx⟩ dX7_rectangle_120 rfl
        · refine hs_tableIn (tgt := 80) (off := 36) C dX7_rectangle_44 (by omega) (by omega) (by omega) (by rw [c9]; rfl) (by decide) ?_
          refine hs_aload_n C dX7_rectangle_80 rfl 0 rfl ?_
          refine hs_get C u7 0 rfl rfl 6 (by decide) f22 rfl rfl dX7_rectangle_81 ?_
          refine hs_iload_n C dX7_rectangle_84 rfl 1 rfl ?_
          refine hs_iald C 2 rfl (by omega) dX7_rectangle_85 ?_
          have b12 := hlb.1 q
          exact hret _ _ _ (pt, ((mo_ly h (0, Ar, Fi, La)).2.1, (mo_ly h (0, Ar, Fi, La)).2.2.1, (mo_ly h (0, Ar, Fi, La)).2.2.2), Ab, Nx) ⟨by unfold mo_rectangle; dsimp only; rw [if_neg (by omega), if_neg (by omega)]; first | (rw [c9]; rfl) | rw [if_neg (by omega), if_neg (by omega), if_neg (by omega), if_neg (by omega), if_neg (by omega)], ⟨hlb.1, hlb.2.1, hlb.2.2⟩, hAb, hNx⟩ dX7_rectangle_86 rfl
        · refine hs_tableIn (tgt := 87) (off := 43) C dX7_rectangle_44 (by omega) (by omega) (by omega) (by rw [c9]; rfl) (by decide) ?_
          refine hs_aload_n C dX7_rectangle_87 rfl 0 rfl ?_
          refine hs_get C u7 0 rfl rfl 7 (by decide) f25 rfl rfl dX7_rectangle_88 ?_
          refine hs_iload_n C dX7_rectangle_91 rfl 1 rfl ?_
          refine hs_iald C 3 rfl (by omega) dX7_rectangle_92 ?_
          have b13 := hlb.2.1 q
          exact hret _ _ _ (pt, ((mo_ly h (0, Ar, Fi, La)).2.1, (mo_ly h (0, Ar, Fi, La)).2.2.1, (mo_ly h (0, Ar, Fi, La)).2.2.2), Ab, Nx) ⟨by unfold mo_rectangle; dsimp only; rw [if_neg (by omega), if_neg (by omega)]; first | (rw [c9]; rfl) | rw [if_neg (by omega), if_neg (by omega), if_neg (by omega), if_neg (by omega), if_neg (by omega)], ⟨hlb.1, hlb.2.1, hlb.2.2⟩, hAb, hNx⟩ dX7_rectangle_93 rfl
        · refine hs_tableIn (tgt := 94) (off := 50) C dX7_rectangle_44 (by omega) (by omega) (by omega) (by rw [c9]; rfl) (by decide) ?_
          refine hs_aload_n C dX7_rectangle_94 rfl 0 rfl ?_
          refine hs_get C u7 0 rfl rfl 8 (by decide) f28 rfl rfl dX7_rectangle_95 ?_
          refine hs_iload_n C dX7_rectangle_98 rfl 1 rfl ?_
          refine hs_iald C 4 rfl (by omega) dX7_rectangle_99 ?_
          have b14 := hlb.2.2 q
          exact hret _ _ _ (pt, ((mo_ly h (0, Ar, Fi, La)).2.1, (mo_ly h (0, Ar, Fi, La)).2.2.1, (mo_ly h (0, Ar, Fi, La)).2.2.2), Ab, Nx) ⟨by unfold mo_rectangle; dsimp only; rw [if_neg (by omega), if_neg (by omega)]; first | (rw [c9]; rfl) | rw [if_neg (by omega), if_neg (by omega), if_neg (by omega), if_neg (by omega), if_neg (by omega)], ⟨hlb.1, hlb.2.1, hlb.2.2⟩, hAb, hNx⟩ dX7_rectangle_100 rfl
        · refine hs_tableIn (tgt := 101) (off := 57) C dX7_rectangle_44 (by omega) (by omega) (by omega) (by rw [c9]; rfl) (by decide) ?_
          refine hs_iload_n C dX7_rectangle_101 rfl 3 rfl ?_
          exact hret _ _ _ (pt, ((mo_ly h (0, Ar, Fi, La)).2.1, (mo_ly h (0, Ar, Fi, La)).2.2.1, (mo_ly h (0, Ar, Fi, La)).2.2.2), Ab, Nx) ⟨by unfold mo_rectangle; dsimp only; rw [if_neg (by omega), if_neg (by omega)]; first | (rw [c9]; rfl) | rw [if_neg (by omega), if_neg (by omega), if_neg (by omega), if_neg (by omega), if_neg (by omega)], ⟨hlb.1, hlb.2.1, hlb.2.2⟩, hAb, hNx⟩ dX7_rectangle_102 rfl
        · refine hs_tableIn (tgt := 103) (off := 59) C dX7_rectangle_44 (by omega) (by omega) (by omega) (by rw [c9]; rfl) (by decide) ?_
          refine hs_aload_n C dX7_rectangle_103 rfl 0 rfl ?_
          refine hs_iload_n C dX7_rectangle_104 rfl 1 rfl ?_
          refine hs_callVi (win := [hs_ob y0 7 [.ref y1, .ref y2, hs_V pm, .ref y3, hs_V fl, .ref y4, .ref y5, .ref y6, .ref y7, hs_V pt, .ref y8, .ref y9], hs_ia cI y1 41 h, hs_ia cI y5 60 (mo_ly h (0, Ar, Fi, La)).2.1, hs_ia cI y6 60 (mo_ly h (0, Ar, Fi, La)).2.2.1, hs_ia cI y7 60 (mo_ly h (0, Ar, Fi, La)).2.2.2]) (wr := [hs_ia cI y8 41 Ab, hs_ia cI y9 41 Nx]) (As := [hs_V q]) (rest := []) C (c_X7_owners l D cI cO y0 y1 y2 y3 y4 y5 y6 y7 y8 y9 pm fl pt h (mo_ly h (0, Ar, Fi, La)).2.1 (mo_ly h (0, Ar, Fi, La)).2.2.1 (mo_ly h (0, Ar, Fi, La)).2.2.2 q hh (by omega) hlb.1 (hlb.2.1) (hlb.2.2) (by omega)) 7 0 rfl rfl rfl (cwV 1 C.1.2.2.2.2 gX7_rectangle_X7_owners rfl rfl rfl (by decide +kernel) ⟨Nat.le_of_ble_eq_true rfl, Nat.le_of_ble_eq_true rfl⟩) rfl rfl (Nat.le_of_ble_eq_true rfl) dX7_rectangle_105 ⟨Nat.le_of_ble_eq_true rfl, Nat.le_of_ble_eq_true rfl⟩ (fun rr uu15 hp => ?_)
          obtain rfl := hp
          refine hs_re0 (w' := [hs_ob y0 7 [.ref y1, .ref y2, hs_V pm, .ref y3, hs_V fl, .ref y4, .ref y5, .ref y6, .ref y7, hs_V pt, .ref y8, .ref y9], hs_ia cI y1 41 h, hs_ia cI y5 60 (mo_ly h (0, Ar, Fi, La)).2.1, hs_ia cI y6 60 (mo_ly h (0, Ar, Fi, La)).2.2.1, hs_ia cI y7 60 (mo_ly h (0, Ar, Fi, La)).2.2.2, hs_ia cI y8 41 Ab, hs_ia cI y9 41 Nx]) [0, 1, 2, 3, 4, 5, 6] rfl (by decide) ?_
          exact hret _ _ _ (pt, ((mo_ly h (0, Ar, Fi, La)).2.1, (mo_ly h (0, Ar, Fi, La)).2.2.1, (mo_ly h (0, Ar, Fi, La)).2.2.2), Ab, Nx) ⟨by unfold mo_rectangle; dsimp only; rw [if_neg (by omega), if_neg (by omega)]; first | (rw [c9]; rfl) | rw [if_neg (by omega), if_neg (by omega), if_neg (by omega), if_neg (by omega), if_neg (by omega)], ⟨hlb.1, hlb.2.1, hlb.2.2⟩, hAb, hNx⟩ dX7_rectangle_108 rfl
      ·
        refine hs_bipush C dX7_rectangle_23 (by decide) ?_
        exact hret _ _ _ (pt, ((mo_ly h (0, Ar, Fi, La)).2.1, (mo_ly h (0, Ar, Fi, La)).2.2.1, (mo_ly h (0, Ar, Fi, La)).2.2.2), Ab, Nx) ⟨by unfold mo_rectangle; dsimp only; rw [if_neg (by omega), if_pos (by omega)], ⟨hlb.1, hlb.2.1, hlb.2.2⟩, hAb, hNx⟩ dX7_rectangle_25 rfl
    ·
      refine hs_iconst C dX7_rectangle_13 ?_
      exact hret _ _ _ (pt, (Ar, Fi, La), Ab, Nx) ⟨by unfold mo_rectangle; dsimp only; rw [if_pos (by omega)], ⟨hAr, hFi, hLa⟩, hAb, hNx⟩ dX7_rectangle_14 rfl

set_option maxHeartbeats 4000000 in
set_option maxRecDepth 100000 in
theorem c_X7_container (l : Launch) (D : va_G) (cI cO : ClassId) (y0 : Nat) (y1 : Nat) (y2 : Nat) (y3 : Nat) (y4 : Nat) (y5 : Nat) (y6 : Nat) (y7 : Nat) (y8 : Nat) (y9 : Nat) (pm : Int) (fl : Int) (pt : Int) (h : Int → Int) (wh : Int) (hh : ∀ k, 0 ≤ h k ∧ h k ≤ 50) (hN : 0 ≤ h 40 ∧ h 40 ≤ 40) (hzw : hs_in wh) : hs_M l D cI cO yX7_container wsX7_container ({ frames := 1, cells := 0, slots := 0, locals := 22 } : Room) [.ref y0, hs_V wh] [hs_ob y0 7 [.ref y1, .ref y2, hs_V pm, .ref y3, hs_V fl, .ref y4, .ref y5, .ref y6, .ref y7, hs_V pt, .ref y8, .ref y9], hs_ia cI y1 41 h] (fun r (_ : Unit) => r = hs_I (mo_container wh h)) (fun _ => [hs_ob y0 7 [.ref y1, .ref y2, hs_V pm, .ref y3, hs_V fl, .ref y4, .ref y5, .ref y6, .ref y7, hs_V pt, .ref y8, .ref y9], hs_ia cI y1 41 h]) 0 0 := by
  refine hs_enter (cc := cX7_container) (maxL := 8) (by decide +kernel) rfl (Nat.le_of_ble_eq_true rfl) (fun p e s m args below meth c A H0 Q C hret => ?_)
  have f7 := C.1.2.2.2.2 (.fieldLink RX7 7 "HistogramStairsModel" "h" "[I") (by decide +kernel)
  have u7 : ∀ w ∈ wsX70, w ∈ wsX7_container := by decide +kernel
  refine hs_lvs (lv' := [(0, .ref y0), (1, hs_V wh)]) [0, 1] rfl ?_
  refine hs_iload_n C dX7_container_0 rfl 1 rfl ?_
  refine hs_iconst C dX7_container_1 ?_
  refine hs_iconst C dX7_container_2 ?_
  refine hs_callSi (win := []) (wr := [hs_ob y0 7 [.ref y1, .ref y2, hs_V pm, .ref y3, hs_V fl, .ref y4, .ref y5, .ref y6, .ref y7, hs_V pt, .ref y8, .ref y9], hs_ia cI y1 41 h]) (As := [hs_V wh, hs_V 0, hs_V 2]) (rest := []) C (c_X7_isIn l D cI cO wh 0 2 (by omega) (by omega) (by omega)) (va_cwS 3 C.1.2.2.2.2 gX7_container_X7_isIn rfl rfl rfl (by decide +kernel) ⟨Nat.le_of_ble_eq_true rfl, Nat.le_of_ble_eq_true rfl⟩) rfl rfl (Nat.le_of_ble_eq_true rfl) dX7_container_3 ⟨Nat.le_of_ble_eq_true rfl, Nat.le_of_ble_eq_true rfl⟩ (fun rr uu1 hp => ?_)
  obtain rfl := hp
  refine hs_re0 (w' := [hs_ob y0 7 [.ref y1, .ref y2, hs_V pm, .ref y3, hs_V fl, .ref y4, .ref y5, .ref y6, .ref y7, hs_V pt, .ref y8, .ref y9], hs_ia cI y1 41 h]) [0, 1] rfl (by decide) ?_
  refine hs_ifne_b (tgt := 11) C dX7_container_6 (by decide) (fun c2 => ?_) (fun c2 => ?_)
  ·
    refine hs_bipush C dX7_container_11 (by decide) ?_
    refine hs_istore_n (lv' := [(0, .ref y0), (1, hs_V wh), (2, hs_V (-9))]) C dX7_container_13 rfl (by decide) [1, 2, 0] rfl ?_
    refine hs_bipush C dX7_container_14 (by decide) ?_
    refine hs_istore_n (lv' := [(0, .ref y0), (1, hs_V wh), (2, hs_V (-9)), (3, hs_V (-9))]) C dX7_container_16 rfl (by decide) [1, 2, 3, 0] rfl ?_
    refine hs_bipush C dX7_container_17 (by decide) ?_
    refine hs_istore (lv' := [(0, .ref y0), (1, hs_V wh), (2, hs_V (-9)), (3, hs_V (-9)), (4, hs_V (-9))]) C dX7_container_19 (by decide) [1, 2, 3, 4, 0] rfl ?_
    refine hs_iconst C dX7_container_21 ?_
    refine hs_istore (lv' := [(0, .ref y0), (1, hs_V wh), (2, hs_V (-9)), (3, hs_V (-9)), (4, hs_V (-9)), (5, hs_V 0)]) C dX7_container_22 (by decide) [1, 2, 3, 4, 5, 0] rfl ?_
    have Lp3 : ∀ (k : Nat) (i : Int) (x : Int) (y : Int) (z : Int), (0 ≤ i ∧ i ≤ h 40) → (-9 ≤ x ∧ x ≤ 2500) → (hs_up (mo_ctO h) i (h 40) (x, y, z) = mo_ct h) → (h 40 - i < (k : Int)) → hs_J p l e ({ frames := 1, cells := 0, slots := 0, locals := 22 } : Room) s m args below meth c D A H0 8 0 0 Q 24 [(0, .ref y0), (1, hs_V wh), (2, hs_V x), (3, hs_V y), (4, hs_V z), (5, hs_V i)] [] [hs_ob y0 7 [.ref y1, .ref y2, hs_V pm, .ref y3, hs_V fl, .ref y4, .ref y5, .ref y6, .ref y7, hs_V pt, .ref y8, .ref y9], hs_ia cI y1 41 h] := by
      intro k
      induction k with
      | zero =>
        intro i x y z hi hx hL hk
        exact absurd hk (by omega)
      | succ k ih =>
        intro i x y z hi hx hL hk
        have ih4 := ih
        refine hs_iload C dX7_container_24 5 rfl ?_
        refine hs_aload_n C dX7_container_26 rfl 0 rfl ?_
        refine hs_callVi (win := [hs_ob y0 7 [.ref y1, .ref y2, hs_V pm, .ref y3, hs_V fl, .ref y4, .ref y5, .ref y6, .ref y7, hs_V pt, .ref y8, .ref y9], hs_ia cI y1 41 h]) (wr := []) (As := []) (rest := [hs_V i]) C (c_X7_many l D cI cO y0 y1 y2 y3 y4 y5 y6 y7 y8 y9 pm fl pt h ) 7 0 rfl rfl rfl (cwV 0 C.1.2.2.2.2 gX7_container_X7_many rfl rfl rfl (by decide +kernel) ⟨Nat.le_of_ble_eq_true rfl, Nat.le_of_ble_eq_true rfl⟩) rfl rfl (Nat.le_of_ble_eq_true rfl) dX7_container_27 ⟨Nat.le_of_ble_eq_true rfl, Nat.le_of_ble_eq_true rfl⟩ (fun rr uu5 hp => ?_)
        obtain rfl := hp
        refine hs_re0 (w' := [hs_ob y0 7 [.ref y1, .ref y2, hs_V pm, .ref y3, hs_V fl, .ref y4, .ref y5, .ref y6, .ref y7, hs_V pt, .ref y8, .ref y9], hs_ia cI y1 41 h]) [0, 1] rfl (by decide) ?_
        refine hs_icmp_ge (tgt := 118) C dX7_container_30 (by decide) (by omega) (by omega) (fun c6 => ?_) (fun c6 => ?_)
        ·
          have hct : mo_ct h = (x, y, z) := by rw [← hL, hs_up_done (by omega)]
          refine hs_iload_n C dX7_container_118 rfl 1 rfl ?_
          refine hs_if_ne (tgt := 126) C dX7_container_119 (by decide) (by omega) (fun c7 => ?_) (fun c7 => ?_)
          ·
            refine hs_iload_n C dX7_container_126 rfl 1 rfl ?_
            refine hs_iconst C dX7_container_127 ?_
            refine hs_icmp_ne (tgt := 135) C dX7_container_128 (by decide) (by omega) (by omega) (fun c8 => ?_) (fun c8 => ?_)
            ·
              refine hs_iload C dX7_container_135 4 rfl ?_
              exact hret _ _ _ () (by unfold mo_container; rw [if_neg (by omega), hct]; first | rw [if_pos (by omega)] | rw [if_neg (by omega), if_pos (by omega)] | rw [if_neg (by omega), if_neg (by omega)]) dX7_container_137 rfl
            ·
              refine hs_iload_n C dX7_container_131 rfl 3 rfl ?_
              refine hs_goto (tgt := 137) C dX7_container_132 (by decide) ?_
              exact hret _ _ _ () (by unfold mo_container; rw [if_neg (by omega), hct]; first | rw [if_pos (by omega)] | rw [if_neg (by omega), if_pos (by omega)] | rw [if_neg (by omega), if_neg (by omega)]) dX7_container_137 rfl
          ·
            refine hs_iload_n C dX7_container_122 rfl 2 rfl ?_
            refine hs_goto (tgt := 137) C dX7_container_123 (by decide) ?_
            exact hret _ _ _ () (by unfold mo_container; rw [if_neg (by omega), hct]; first | rw [if_pos (by omega)] | rw [if_neg (by omega), if_pos (by omega)] | rw [if_neg (by omega), if_neg (by omega)]) dX7_container_137 rfl
        ·
          refine hs_iload C dX7_container_33 5 rfl ?_
          refine hs_iconst C dX7_container_35 ?_
          refine hs_iadd C dX7_container_36 ?_
          refine hs_istore (lv' := [(0, .ref y0), (1, hs_V wh), (2, hs_V x), (3, hs_V y), (4, hs_V z), (5, hs_V i), (6, hs_V (i + 1))]) C dX7_container_37 (by decide) [1, 2, 3, 4, 5, 6, 0] rfl ?_
          have Lp9 : ∀ (k : Nat) (j : Int) (x1 : Int) (yy : Int) (z1 : Int), (i < j ∧ j ≤ h 40) → (-9 ≤ x1 ∧ x1 ≤ 2500) → (hs_up (mo_ctI h i) j (h 40) (x1, yy, z1) = hs_up (mo_ctI h i) (i + 1) (h 40) (x, y, z)) → (h 40 - j < (k : Int)) → hs_J p l e ({ frames := 1, cells := 0, slots := 0, locals := 22 } : Room) s m args below meth c D A H0 8 0 0 Q 39 [(0, .ref y0), (1, hs_V wh), (2, hs_V x1), (3, hs_V yy), (4, hs_V z1), (5, hs_V i), (6, hs_V j)] [] [hs_ob y0 7 [.ref y1, .ref y2, hs_V pm, .ref y3, hs_V fl, .ref y4, .ref y5, .ref y6, .ref y7, hs_V pt, .ref y8, .ref y9], hs_ia cI y1 41 h] := by
            intro k
            induction k with
            | zero =>
              intro j x1 yy z1 hj hx1 hM hk
              exact absurd hk (by omega)
            | succ k ih =>
              intro j x1 yy z1 hj hx1 hM hk
              have ih10 := ih
              refine hs_iload C dX7_container_39 6 rfl ?_
              refine hs_aload_n C dX7_container_41 rfl 0 rfl ?_
              refine hs_callVi (win := [hs_ob y0 7 [.ref y1, .ref y2, hs_V pm, .ref y3, hs_V fl, .ref y4, .ref y5, .ref y6, .ref y7, hs_V pt, .ref y8, .ref y9], hs_ia cI y1 41 h]) (wr := []) (As := []) (rest := [hs_V j]) C (c_X7_many l D cI cO y0 y1 y2 y3 y4 y5 y6 y7 y8 y9 pm fl pt h ) 7 0 rfl rfl rfl (cwV 0 C.1.2.2.2.2 gX7_container_X7_many rfl rfl rfl (by decide +kernel) ⟨Nat.le_of_ble_eq_true rfl, Nat.le_of_ble_eq_true rfl⟩) rfl rfl (Nat.le_of_ble_eq_true rfl) dX7_container_42 ⟨Nat.le_of_ble_eq_true rfl, Nat.le_of_ble_eq_true rfl⟩ (fun rr uu11 hp => ?_)
              obtain rfl := hp
              refine hs_re0 (w' := [hs_ob y0 7 [.ref y1, .ref y2, hs_V pm, .ref y3, hs_V fl, .ref y4, .ref y5, .ref y6, .ref y7, hs_V pt, .ref y8, .ref y9], hs_ia cI y1 41 h]) [0, 1] rfl (by decide) ?_
              refine hs_icmp_ge (tgt := 112) C dX7_container_45 (by decide) (by omega) (by omega) (fun c12 => ?_) (fun c12 => ?_)
              ·
                refine hs_iinc (lv' := [(0, .ref y0), (1, hs_V wh), (2, hs_V x1), (3, hs_V yy), (4, hs_V z1), (5, hs_V (i + 1)), (6, hs_V j)]) C dX7_container_112 5 rfl (by decide) [1, 2, 3, 4, 5, 0, 6] rfl ?_
                refine hs_goto (tgt := 24) C dX7_container_115 (by decide) ?_
                refine hs_lvs (lv' := [(0, .ref y0), (1, hs_V wh), (2, hs_V x1), (3, hs_V yy), (4, hs_V z1), (5, hs_V (i + 1))]) [0, 1, 2, 3, 4, 5] rfl ?_
                exact ih4 (i + 1) x1 yy z1 (by omega) (by omega) (by have hz := (hs_up_step (by omega)).symm.trans hL; have he : mo_ctO h i (x, y, z) = (x1, yy, z1) := (by unfold mo_ctO; rw [← hM, hs_up_done (by omega)]); rw [he] at hz; exact hz) (by omega)
              ·
                refine hs_aload_n C dX7_container_48 rfl 0 rfl ?_
                refine hs_get C u7 0 rfl rfl 0 (by decide) f7 rfl rfl dX7_container_49 ?_
                refine hs_iload C dX7_container_52 5 rfl ?_
                refine hs_iald C 1 rfl (by omega) dX7_container_54 ?_
                have b13 := hh i
                refine hs_aload_n C dX7_container_55 rfl 0 rfl ?_
                refine hs_get C u7 0 rfl rfl 0 (by decide) f7 rfl rfl dX7_container_56 ?_
                refine hs_iload C dX7_container_59 6 rfl ?_
                refine hs_iald C 1 rfl (by omega) dX7_container_61 ?_
                have b14 := hh j
                refine hs_icmp_ge (tgt := 75) C dX7_container_62 (by decide) (by omega) (by omega) (fun c15 => ?_) (fun c15 => ?_)
                ·
                  refine hs_aload_n C dX7_container_75 rfl 0 rfl ?_
                  refine hs_get C u7 0 rfl rfl 0 (by decide) f7 rfl rfl dX7_container_76 ?_
                  refine hs_iload C dX7_container_79 6 rfl ?_
                  refine hs_iald C 1 rfl (by omega) dX7_container_81 ?_
                  have b16 := hh j
                  refine hs_iload C dX7_container_82 6 rfl ?_
                  refine hs_iload C dX7_container_84 5 rfl ?_
                  refine hs_isub C dX7_container_86 ?_
                  have hmb := pu_mulb (x := (h j)) (y := j - i) (by omega) (by omega)
                  refine hs_imul C dX7_container_87 ?_
                  refine hs_istore (lv' := [(0, .ref y0), (1, hs_V wh), (2, hs_V x1), (3, hs_V yy), (4, hs_V z1), (5, hs_V i), (6, hs_V j), (7, hs_V ((h j) * (j - i)))]) C dX7_container_88 (by decide) [1, 2, 3, 4, 5, 6, 7, 0] rfl ?_
                  refine hs_iload C dX7_container_90 7 rfl ?_
                  refine hs_iload_n C dX7_container_92 rfl 2 rfl ?_
                  refine hs_icmp_le (tgt := 106) C dX7_container_93 (by decide) (by omega) (by omega) (fun c17 => ?_) (fun c17 => ?_)
                  ·
                    refine hs_iinc (lv' := [(0, .ref y0), (1, hs_V wh), (2, hs_V x1), (3, hs_V yy), (4, hs_V z1), (5, hs_V i), (6, hs_V (j + 1)), (7, hs_V ((h j) * (j - i)))]) C dX7_container_106 6 rfl (by decide) [1, 2, 3, 4, 5, 6, 0, 7] rfl ?_
                    refine hs_goto (tgt := 39) C dX7_container_109 (by decide) ?_
                    refine hs_lvs (lv' := [(0, .ref y0), (1, hs_V wh), (2, hs_V x1), (3, hs_V yy), (4, hs_V z1), (5, hs_V i), (6, hs_V (j + 1))]) [0, 1, 2, 3, 4, 5, 6] rfl ?_
                    exact ih10 (j + 1) x1 yy z1 (by omega) (by omega) (by have hz := (hs_up_step (by omega)).symm.trans hM; first | (rw [show mo_ctI h i j (x1, yy, z1) = (x1, yy, z1) by unfold mo_ctI; dsimp only; first | rw [if_pos (show h i < h j by omega), if_pos (by assumption)] | rw [if_neg (show ¬ h i < h j by omega), if_pos (by assumption)]] at hz; exact hz) | (rw [show mo_ctI h i j (x1, yy, z1) = (((h j) * (j - i)), i, j) by unfold mo_ctI; dsimp only; first | rw [if_pos (show h i < h j by omega), if_neg (by assumption)] | rw [if_neg (show ¬ h i < h j by omega), if_neg (by assumption)]] at hz; exact hz)) (by omega)
                  ·
                    refine hs_iload C dX7_container_96 7 rfl ?_
                    refine hs_istore_n (lv' := [(0, .ref y0), (1, hs_V wh), (2, hs_V ((h j) * (j - i))), (3, hs_V yy), (4, hs_V z1), (5, hs_V i), (6, hs_V j), (7, hs_V ((h j) * (j - i)))]) C dX7_container_98 rfl (by decide) [1, 2, 0, 3, 4, 5, 6, 7] rfl ?_
                    refine hs_iload C dX7_container_99 5 rfl ?_
                    refine hs_istore_n (lv' := [(0, .ref y0), (1, hs_V wh), (2, hs_V ((h j) * (j - i))), (3, hs_V i), (4, hs_V z1), (5, hs_V i), (6, hs_V j), (7, hs_V ((h j) * (j - i)))]) C dX7_container_101 rfl (by decide) [1, 2, 3, 0, 4, 5, 6, 7] rfl ?_
                    refine hs_iload C dX7_container_102 6 rfl ?_
                    refine hs_istore (lv' := [(0, .ref y0), (1, hs_V wh), (2, hs_V ((h j) * (j - i))), (3, hs_V i), (4, hs_V j), (5, hs_V i), (6, hs_V j), (7, hs_V ((h j) * (j - i)))]) C dX7_container_104 (by decide) [1, 2, 3, 4, 0, 5, 6, 7] rfl ?_
                    refine hs_iinc (lv' := [(0, .ref y0), (1, hs_V wh), (2, hs_V ((h j) * (j - i))), (3, hs_V i), (4, hs_V j), (5, hs_V i), (6, hs_V (j + 1)), (7, hs_V ((h j) * (j - i)))]) C dX7_container_106 6 rfl (by decide) [1, 2, 3, 4, 5, 6, 0, 7] rfl ?_
                    refine hs_goto (tgt := 39) C dX7_container_109 (by decide) ?_
                    refine hs_lvs (lv' := [(0, .ref y0), (1, hs_V wh), (2, hs_V ((h j) * (j - i))), (3, hs_V i), (4, hs_V j), (5, hs_V i), (6, hs_V (j + 1))]) [0, 1, 2, 3, 4, 5, 6] rfl ?_
                    exact ih10 (j + 1) ((h j) * (j - i)) i j (by omega) (by omega) (by have hz := (hs_up_step (by omega)).symm.trans hM; first | (rw [show mo_ctI h i j (x1, yy, z1) = (x1, yy, z1) by unfold mo_ctI; dsimp only; first | rw [if_pos (show h i < h j by omega), if_pos (by assumption)] | rw [if_neg (show ¬ h i < h j by omega), if_pos (by assumption)]] at hz; exact hz) | (rw [show mo_ctI h i j (x1, yy, z1) = (((h j) * (j - i)), i, j) by unfold mo_ctI; dsimp only; first | rw [if_pos (show h i < h j by omega), if_neg (by assumption)] | rw [if_neg (show ¬ h i < h j by omega), if_neg (by assumption)]] at hz; exact hz)) (by omega)
                ·
                  refine hs_aload_n C dX7_container_65 rfl 0 rfl ?_
                  refine hs_get C u7 0 rfl rfl 0 (by decide) f7 rfl rfl dX7_container_66 ?_
                  refine hs_iload C dX7_container_69 5 rfl ?_
                  refine hs_iald C 1 rfl (by omega) dX7_container_71 ?_
                  have b18 := hh i
                  refine hs_goto (tgt := 82) C dX7_container_72 (by decide) ?_
                  refine hs_iload C dX7_container_82 6 rfl ?_
                  refine hs_iload C dX7_container_84 5 rfl ?_
                  refine hs_isub C dX7_container_86 ?_
                  have hmb := pu_mulb (x := (h i)) (y := j - i) (by omega) (by omega)
                  refine hs_imul C dX7_container_87 ?_
                  refine hs_istore (lv' := [(0, .ref y0), (1, hs_V wh), (2, hs_V x1), (3, hs_V yy), (4, hs_V z1), (5, hs_V i), (6, hs_V j), (7, hs_V ((h i) * (j - i)))]) C dX7_container_88 (by decide) [1, 2, 3, 4, 5, 6, 7, 0] rfl ?_
                  refine hs_iload C dX7_container_90 7 rfl ?_
                  refine hs_iload_n C dX7_container_92 rfl 2 rfl ?_
                  refine hs_icmp_le (tgt := 106) C dX7_container_93 (by decide) (by omega) (by omega) (fun c19 => ?_) (fun c19 => ?_)
                  ·
                    refine hs_iinc (lv' := [(0, .ref y0), (1, hs_V wh), (2, hs_V x1), (3, hs_V yy), (4, hs_V z1), (5, hs_V i), (6, hs_V (j + 1)), (7, hs_V ((h i) * (j - i)))]) C dX7_container_106 6 rfl (by decide) [1, 2, 3, 4, 5, 6, 0, 7] rfl ?_
                    refine hs_goto (tgt := 39) C dX7_container_109 (by decide) ?_
                    refine hs_lvs (lv' := [(0, .ref y0), (1, hs_V wh), (2, hs_V x1), (3, hs_V yy), (4, hs_V z1), (5, hs_V i), (6, hs_V (j + 1))]) [0, 1, 2, 3, 4, 5, 6] rfl ?_
                    exact ih10 (j + 1) x1 yy z1 (by omega) (by omega) (by have hz := (hs_up_step (by omega)).symm.trans hM; first | (rw [show mo_ctI h i j (x1, yy, z1) = (x1, yy, z1) by unfold mo_ctI; dsimp only; first | rw [if_pos (show h i < h j by omega), if_pos (by assumption)] | rw [if_neg (show ¬ h i < h j by omega), if_pos (by assumption)]] at hz; exact hz) | (rw [show mo_ctI h i j (x1, yy, z1) = (((h i) * (j - i)), i, j) by unfold mo_ctI; dsimp only; first | rw [if_pos (show h i < h j by omega), if_neg (by assumption)] | rw [if_neg (show ¬ h i < h j by omega), if_neg (by assumption)]] at hz; exact hz)) (by omega)
                  ·
                    refine hs_iload C dX7_container_96 7 rfl ?_
                    refine hs_istore_n (lv' := [(0, .ref y0), (1, hs_V wh), (2, hs_V ((h i) * (j - i))), (3, hs_V yy), (4, hs_V z1), (5, hs_V i), (6, hs_V j), (7, hs_V ((h i) * (j - i)))]) C dX7_container_98 rfl (by decide) [1, 2, 0, 3, 4, 5, 6, 7] rfl ?_
                    refine hs_iload C dX7_container_99 5 rfl ?_
                    refine hs_istore_n (lv' := [(0, .ref y0), (1, hs_V wh), (2, hs_V ((h i) * (j - i))), (3, hs_V i), (4, hs_V z1), (5, hs_V i), (6, hs_V j), (7, hs_V ((h i) * (j - i)))]) C dX7_container_101 rfl (by decide) [1, 2, 3, 0, 4, 5, 6, 7] rfl ?_
                    refine hs_iload C dX7_container_102 6 rfl ?_
                    refine hs_istore (lv' := [(0, .ref y0), (1, hs_V wh), (2, hs_V ((h i) * (j - i))), (3, hs_V i), (4, hs_V j), (5, hs_V i), (6, hs_V j), (7, hs_V ((h i) * (j - i)))]) C dX7_container_104 (by decide) [1, 2, 3, 4, 0, 5, 6, 7] rfl ?_
                    refine hs_iinc (lv' := [(0, .ref y0), (1, hs_V wh), (2, hs_V ((h i) * (j - i))), (3, hs_V i), (4, hs_V j), (5, hs_V i), (6, hs_V (j + 1)), (7, hs_V ((h i) * (j - i)))]) C dX7_container_106 6 rfl (by decide) [1, 2, 3, 4, 5, 6, 0, 7] rfl ?_
                    refine hs_goto (tgt := 39) C dX7_container_109 (by decide) ?_
                    refine hs_lvs (lv' := [(0, .ref y0), (1, hs_V wh), (2, hs_V ((h i) * (j - i))), (3, hs_V i), (4, hs_V j), (5, hs_V i), (6, hs_V (j + 1))]) [0, 1, 2, 3, 4, 5, 6] rfl ?_
                    exact ih10 (j + 1) ((h i) * (j - i)) i j (by omega) (by omega) (by have hz := (hs_up_step (by omega)).symm.trans hM; first | (rw [show mo_ctI h i j (x1, yy, z1) = (x1, yy, z1) by unfold mo_ctI; dsimp only; first | rw [if_pos (show h i < h j by omega), if_pos (by assumption)] | rw [if_neg (show ¬ h i < h j by omega), if_pos (by assumption)]] at hz; exact hz) | (rw [show mo_ctI h i j (x1, yy, z1) = (((h i) * (j - i)), i, j) by unfold mo_ctI; dsimp only; first | rw [if_pos (show h i < h j by omega), if_neg (by assumption)] | rw [if_neg (show ¬ h i < h j by omega), if_neg (by assumption)]] at hz; exact hz)) (by omega)
          exact Lp9 ((h 40 - (i + 1) : Int).toNat + 1) (i + 1) x y z (by omega) (by omega) (rfl) (by omega)
    exact Lp3 ((h 40 - 0 : Int).toNat + 1) 0 (-9) (-9) (-9) (by omega) (by omega) (rfl) (by omega)
  ·
    refine hs_iconst C dX7_container_9 ?_
    exact hret _ _ _ () (by unfold mo_container; rw [if_pos (by omega)]) dX7_container_10 rfl

set_option maxHeartbeats 4000000 in
set_option maxRecDepth 100000 in
theorem c_X7_pool (l : Launch) (D : va_G) (cI cO : ClassId) (y0 : Nat) (y1 : Nat) (y2 : Nat) (y3 : Nat) (y4 : Nat) (y5 : Nat) (y6 : Nat) (y7 : Nat) (y8 : Nat) (y9 : Nat) (pm : Int) (fl : Int) (pt : Int) (h : Int → Int) (q : Int) (wh : Int) (hh : ∀ k, 0 ≤ h k ∧ h k ≤ 50) (hN : 0 ≤ h 40 ∧ h 40 ≤ 40) (hzq : hs_in q) (hzw : hs_in wh) : hs_M l D cI cO yX7_pool wsX7_pool ({ frames := 5, cells := 0, slots := 0, locals := 114 } : Room) [.ref y0, hs_V q, hs_V wh] [hs_ob y0 7 [.ref y1, .ref y2, hs_V pm, .ref y3, hs_V fl, .ref y4, .ref y5, .ref y6, .ref y7, hs_V pt, .ref y8, .ref y9], hs_ia cI y1 41 h] (fun r (_ : Unit) => r = hs_I (mo_pool q wh h)) (fun _ => [hs_ob y0 7 [.ref y1, .ref y2, hs_V pm, .ref y3, hs_V fl, .ref y4, .ref y5, .ref y6, .ref y7, hs_V pt, .ref y8, .ref y9], hs_ia cI y1 41 h]) 0 0 := by
  refine hs_enter (cc := cX7_pool) (maxL := 8) (by decide +kernel) rfl (Nat.le_of_ble_eq_true rfl) (fun p e s m args below meth c A H0 Q C hret => ?_)
  have f7 := C.1.2.2.2.2 (.fieldLink RX7 7 "HistogramStairsModel" "h" "[I") (by decide +kernel)
  have u7 : ∀ w ∈ wsX70, w ∈ wsX7_pool := by decide +kernel
  refine hs_lvs (lv' := [(0, .ref y0), (1, hs_V q), (2, hs_V wh)]) [0, 1, 2] rfl ?_
  refine hs_iload_n C dX7_pool_0 rfl 1 rfl ?_
  refine hs_if_lt (tgt := 13) C dX7_pool_1 (by decide) (by omega) (fun c1 => ?_) (fun c1 => ?_)
  ·
    refine hs_iconst C dX7_pool_13 ?_
    exact hret _ _ _ () (by unfold mo_pool; rw [if_pos (by omega)]) dX7_pool_14 rfl
  ·
    refine hs_iload_n C dX7_pool_4 rfl 2 rfl ?_
    refine hs_iconst C dX7_pool_5 ?_
    refine hs_iconst C dX7_pool_6 ?_
    refine hs_callSi (win := []) (wr := [hs_ob y0 7 [.ref y1, .ref y2, hs_V pm, .ref y3, hs_V fl, .ref y4, .ref y5, .ref y6, .ref y7, hs_V pt, .ref y8, .ref y9], hs_ia cI y1 41 h]) (As := [hs_V wh, hs_V 0, hs_V 4]) (rest := []) C (c_X7_isIn l D cI cO wh 0 4 (by omega) (by omega) (by omega)) (va_cwS 3 C.1.2.2.2.2 gX7_pool_X7_isIn rfl rfl rfl (by decide +kernel) ⟨Nat.le_of_ble_eq_true rfl, Nat.le_of_ble_eq_true rfl⟩) rfl rfl (Nat.le_of_ble_eq_true rfl) dX7_pool_7 ⟨Nat.le_of_ble_eq_true rfl, Nat.le_of_ble_eq_true rfl⟩ (fun rr uu2 hp => ?_)
    obtain rfl := hp
    refine hs_re0 (w' := [hs_ob y0 7 [.ref y1, .ref y2, hs_V pm, .ref y3, hs_V fl, .ref y4, .ref y5, .ref y6, .ref y7, hs_V pt, .ref y8, .ref y9], hs_ia cI y1 41 h]) [0, 1] rfl (by decide) ?_
    refine hs_ifne_b (tgt := 15) C dX7_pool_10 (by decide) (fun c3 => ?_) (fun c3 => ?_)
    ·
      refine hs_aload_n C dX7_pool_15 rfl 0 rfl ?_
      refine hs_iload_n C dX7_pool_16 rfl 1 rfl ?_
      refine hs_callVi (win := [hs_ob y0 7 [.ref y1, .ref y2, hs_V pm, .ref y3, hs_V fl, .ref y4, .ref y5, .ref y6, .ref y7, hs_V pt, .ref y8, .ref y9], hs_ia cI y1 41 h]) (wr := []) (As := [hs_V q]) (rest := []) C (c_X7_poolBegin l D cI cO y0 y1 y2 y3 y4 y5 y6 y7 y8 y9 pm fl pt h q hh (by omega) (by omega)) 7 0 rfl rfl rfl (cwV 1 C.1.2.2.2.2 gX7_pool_X7_poolBegin rfl rfl rfl (by decide +kernel) ⟨Nat.le_of_ble_eq_true rfl, Nat.le_of_ble_eq_true rfl⟩) rfl rfl (Nat.le_of_ble_eq_true rfl) dX7_pool_17 ⟨Nat.le_of_ble_eq_true rfl, Nat.le_of_ble_eq_true rfl⟩ (fun rr uu4 hp => ?_)
      obtain rfl := hp
      refine hs_re0 (w' := [hs_ob y0 7 [.ref y1, .ref y2, hs_V pm, .ref y3, hs_V fl, .ref y4, .ref y5, .ref y6, .ref y7, hs_V pt, .ref y8, .ref y9], hs_ia cI y1 41 h]) [0, 1] rfl (by decide) ?_
      have hpb := mo_pb_rg h q
      refine hs_istore_n (lv' := [(0, .ref y0), (1, hs_V q), (2, hs_V wh), (3, hs_V (mo_pb h q))]) C dX7_pool_20 rfl (by decide) [1, 2, 3, 0] rfl ?_
      refine hs_iload_n C dX7_pool_21 rfl 3 rfl ?_
      refine hs_bipush C dX7_pool_22 (by decide) ?_
      refine hs_icmp_ne (tgt := 30) C dX7_pool_24 (by decide) (by omega) (by omega) (fun c5 => ?_) (fun c5 => ?_)
      ·
        refine hs_iload_n C dX7_pool_30 rfl 3 rfl ?_
        refine hs_istore (lv' := [(0, .ref y0), (1, hs_V q), (2, hs_V wh), (3, hs_V (mo_pb h q)), (4, hs_V (mo_pb h q))]) C dX7_pool_31 (by decide) [1, 2, 3, 4, 0] rfl ?_
        refine hs_iconst C dX7_pool_33 ?_
        refine hs_istore (lv' := [(0, .ref y0), (1, hs_V q), (2, hs_V wh), (3, hs_V (mo_pb h q)), (4, hs_V (mo_pb h q)), (5, hs_V 0)]) C dX7_pool_34 (by decide) [1, 2, 3, 4, 5, 0] rfl ?_
        refine hs_iconst C dX7_pool_36 ?_
        refine hs_istore (lv' := [(0, .ref y0), (1, hs_V q), (2, hs_V wh), (3, hs_V (mo_pb h q)), (4, hs_V (mo_pb h q)), (5, hs_V 0), (6, hs_V 0)]) C dX7_pool_37 (by decide) [1, 2, 3, 4, 5, 6, 0] rfl ?_
        have Lp6 : ∀ (k : Nat) (e1 : Int) (x : Int) (y : Int), (0 ≤ e1 ∧ e1 ≤ h 40) → (0 ≤ y ∧ y ≤ 50) → (hs_wh (mo_plP h) (mo_plF h) k (e1, x, y) = mo_pl h (mo_pb h q)) → (h 40 - e1 < (k : Int)) → hs_J p l e ({ frames := 5, cells := 0, slots := 0, locals := 114 } : Room) s m args below meth c D A H0 8 0 0 Q 39 [(0, .ref y0), (1, hs_V q), (2, hs_V wh), (3, hs_V (mo_pb h q)), (4, hs_V e1), (5, hs_V x), (6, hs_V y)] [] [hs_ob y0 7 [.ref y1, .ref y2, hs_V pm, .ref y3, hs_V fl, .ref y4, .ref y5, .ref y6, .ref y7, hs_V pt, .ref y8, .ref y9], hs_ia cI y1 41 h] := by
          intro k
          induction k with
          | zero =>
            intro e1 x y he1 hy hM hk
            exact absurd hk (by omega)
          | succ k ih =>
            intro e1 x y he1 hy hM hk
            have ih7 := ih
            have hdb := mo_dep_bd (a := 0) (b := h 40 - 1) (i := e1) hh
            refine hs_aload_n C dX7_pool_39 rfl 0 rfl ?_
            refine hs_iload C dX7_pool_40 4 rfl ?_
            refine hs_callVi (win := [hs_ob y0 7 [.ref y1, .ref y2, hs_V pm, .ref y3, hs_V fl, .ref y4, .ref y5, .ref y6, .ref y7, hs_V pt, .ref y8, .ref y9], hs_ia cI y1 41 h]) (wr := []) (As := [hs_V e1]) (rest := []) C (c_X7_isWet l D cI cO y0 y1 y2 y3 y4 y5 y6 y7 y8 y9 pm fl pt h e1 hh (by omega) (by omega)) 7 0 rfl rfl rfl (cwV 1 C.1.2.2.2.2 gX7_pool_X7_isWet rfl rfl rfl (by decide +kernel) ⟨Nat.le_of_ble_eq_true rfl, Nat.le_of_ble_eq_true rfl⟩) rfl rfl (Nat.le_of_ble_eq_true rfl) dX7_pool_42 ⟨Nat.le_of_ble_eq_true rfl, Nat.le_of_ble_eq_true rfl⟩ (fun rr uu8 hp => ?_)
            obtain rfl := hp
            refine hs_re0 (w' := [hs_ob y0 7 [.ref y1, .ref y2, hs_V pm, .ref y3, hs_V fl, .ref y4, .ref y5, .ref y6, .ref y7, hs_V pt, .ref y8, .ref y9], hs_ia cI y1 41 h]) [0, 1] rfl (by decide) ?_
            refine hs_ifeq_b (tgt := 92) C dX7_pool_45 (by decide) (fun c9 => ?_) (fun c9 => ?_)
            ·
              have hpl : mo_pl h (mo_pb h q) = (e1, x, y) := by rw [← hM, hs_wh_done (show ¬ mo_plP h (e1, x, y) by assumption)]
              refine hs_iload_n C dX7_pool_92 rfl 2 rfl ?_
              rcases (show ((wh < 0 ∨ 3 < wh) ∨ wh = 0 ∨ wh = 1 ∨ wh = 2 ∨ wh = 3) by omega) with c10 | c10 | c10 | c10 | c10
              · refine hs_tableOut (tgt := 154) C dX7_pool_93 (by omega) c10 (by decide) ?_
                refine hs_iload C dX7_pool_154 6 rfl ?_
                exact hret _ _ _ () (by unfold mo_pool; rw [if_neg (by omega), if_neg (by omega), hpl]; first | (rw [c10]; rfl) | rw [if_neg (by omega), if_neg (by omega), if_neg (by omega), if_neg (by omega)]) dX7_pool_156 rfl
              · refine hs_tableIn (tgt := 124) (off := 31) C dX7_pool_93 (by omega) (by omega) (by omega) (by rw [c10]; rfl) (by decide) ?_
                refine hs_iload_n C dX7_pool_124 rfl 3 rfl ?_
                exact hret _ _ _ () (by unfold mo_pool; rw [if_neg (by omega), if_neg (by omega), hpl]; first | (rw [c10]; rfl) | rw [if_neg (by omega), if_neg (by omega), if_neg (by omega), if_neg (by omega)]) dX7_pool_125 rfl
              · refine hs_tableIn (tgt := 126) (off := 33) C dX7_pool_93 (by omega) (by omega) (by omega) (by rw [c10]; rfl) (by decide) ?_
                refine hs_iload C dX7_pool_126 4 rfl ?_
                refine hs_iconst C dX7_pool_128 ?_
                refine hs_isub C dX7_pool_129 ?_
                exact hret _ _ _ () (by unfold mo_pool; rw [if_neg (by omega), if_neg (by omega), hpl]; first | (rw [c10]; rfl) | rw [if_neg (by omega), if_neg (by omega), if_neg (by omega), if_neg (by omega)]) dX7_pool_130 rfl
              · refine hs_tableIn (tgt := 131) (off := 38) C dX7_pool_93 (by omega) (by omega) (by omega) (by rw [c10]; rfl) (by decide) ?_
                refine hs_iload C dX7_pool_131 5 rfl ?_
                exact hret _ _ _ () (by unfold mo_pool; rw [if_neg (by omega), if_neg (by omega), hpl]; first | (rw [c10]; rfl) | rw [if_neg (by omega), if_neg (by omega), if_neg (by omega), if_neg (by omega)]) dX7_pool_133 rfl
              · refine hs_tableIn (tgt := 134) (off := 41) C dX7_pool_93 (by omega) (by omega) (by omega) (by rw [c10]; rfl) (by decide) ?_
                refine hs_aload_n C dX7_pool_134 rfl 0 rfl ?_
                refine hs_get C u7 0 rfl rfl 0 (by decide) f7 rfl rfl dX7_pool_135 ?_
                refine hs_iload_n C dX7_pool_138 rfl 3 rfl ?_
                refine hs_iald C 1 rfl (by omega) dX7_pool_139 ?_
                have b11 := hh (mo_pb h q)
                refine hs_aload_n C dX7_pool_140 rfl 0 rfl ?_
                refine hs_iconst C dX7_pool_141 ?_
                refine hs_aload_n C dX7_pool_142 rfl 0 rfl ?_
                refine hs_callVi (win := [hs_ob y0 7 [.ref y1, .ref y2, hs_V pm, .ref y3, hs_V fl, .ref y4, .ref y5, .ref y6, .ref y7, hs_V pt, .ref y8, .ref y9], hs_ia cI y1 41 h]) (wr := []) (As := []) (rest := [hs_V 0, .ref y0, hs_V (h (mo_pb h q))]) C (c_X7_many l D cI cO y0 y1 y2 y3 y4 y5 y6 y7 y8 y9 pm fl pt h ) 7 0 rfl rfl rfl (cwV 0 C.1.2.2.2.2 gX7_pool_X7_many rfl rfl rfl (by decide +kernel) ⟨Nat.le_of_ble_eq_true rfl, Nat.le_of_ble_eq_true rfl⟩) rfl rfl (Nat.le_of_ble_eq_true rfl) dX7_pool_143 ⟨Nat.le_of_ble_eq_true rfl, Nat.le_of_ble_eq_true rfl⟩ (fun rr uu12 hp => ?_)
                obtain rfl := hp
                refine hs_re0 (w' := [hs_ob y0 7 [.ref y1, .ref y2, hs_V pm, .ref y3, hs_V fl, .ref y4, .ref y5, .ref y6, .ref y7, hs_V pt, .ref y8, .ref y9], hs_ia cI y1 41 h]) [0, 1] rfl (by decide) ?_
                refine hs_iconst C dX7_pool_146 ?_
                refine hs_isub C dX7_pool_147 ?_
                refine hs_iload_n C dX7_pool_148 rfl 3 rfl ?_
                refine hs_callVi (win := [hs_ob y0 7 [.ref y1, .ref y2, hs_V pm, .ref y3, hs_V fl, .ref y4, .ref y5, .ref y6, .ref y7, hs_V pt, .ref y8, .ref y9], hs_ia cI y1 41 h]) (wr := []) (As := [hs_V 0, hs_V ((h 40) - 1), hs_V (mo_pb h q)]) (rest := [hs_V (h (mo_pb h q))]) C (c_X7_depth l D cI cO y0 y1 y2 y3 y4 y5 y6 y7 y8 y9 pm fl pt h 0 ((h 40) - 1) (mo_pb h q) hh (by omega)) 7 0 rfl rfl rfl (cwV 3 C.1.2.2.2.2 gX7_pool_X7_depth rfl rfl rfl (by decide +kernel) ⟨Nat.le_of_ble_eq_true rfl, Nat.le_of_ble_eq_true rfl⟩) rfl rfl (Nat.le_of_ble_eq_true rfl) dX7_pool_149 ⟨Nat.le_of_ble_eq_true rfl, Nat.le_of_ble_eq_true rfl⟩ (fun rr uu13 hp => ?_)
                obtain rfl := hp
                refine hs_re0 (w' := [hs_ob y0 7 [.ref y1, .ref y2, hs_V pm, .ref y3, hs_V fl, .ref y4, .ref y5, .ref y6, .ref y7, hs_V pt, .ref y8, .ref y9], hs_ia cI y1 41 h]) [0, 1] rfl (by decide) ?_
                refine hs_iadd C dX7_pool_152 ?_
                exact hret _ _ _ () (by unfold mo_pool; rw [if_neg (by omega), if_neg (by omega), hpl]; first | (rw [c10]; rfl) | rw [if_neg (by omega), if_neg (by omega), if_neg (by omega), if_neg (by omega)]) dX7_pool_153 rfl
            ·
              have hin1 : 0 ≤ e1 ∧ e1 ≤ h 40 - 1 := by have hw : mo_wet h e1 := (by assumption); exact hw.1
              refine hs_aload_n C dX7_pool_48 rfl 0 rfl ?_
              refine hs_iconst C dX7_pool_49 ?_
              refine hs_aload_n C dX7_pool_50 rfl 0 rfl ?_
              refine hs_callVi (win := [hs_ob y0 7 [.ref y1, .ref y2, hs_V pm, .ref y3, hs_V fl, .ref y4, .ref y5, .ref y6, .ref y7, hs_V pt, .ref y8, .ref y9], hs_ia cI y1 41 h]) (wr := []) (As := []) (rest := [hs_V 0, .ref y0]) C (c_X7_many l D cI cO y0 y1 y2 y3 y4 y5 y6 y7 y8 y9 pm fl pt h ) 7 0 rfl rfl rfl (cwV 0 C.1.2.2.2.2 gX7_pool_X7_many rfl rfl rfl (by decide +kernel) ⟨Nat.le_of_ble_eq_true rfl, Nat.le_of_ble_eq_true rfl⟩) rfl rfl (Nat.le_of_ble_eq_true rfl) dX7_pool_51 ⟨Nat.le_of_ble_eq_true rfl, Nat.le_of_ble_eq_true rfl⟩ (fun rr uu14 hp => ?_)
              obtain rfl := hp
              refine hs_re0 (w' := [hs_ob y0 7 [.ref y1, .ref y2, hs_V pm, .ref y3, hs_V fl, .ref y4, .ref y5, .ref y6, .ref y7, hs_V pt, .ref y8, .ref y9], hs_ia cI y1 41 h]) [0, 1] rfl (by decide) ?_
              refine hs_iconst C dX7_pool_54 ?_
              refine hs_isub C dX7_pool_55 ?_
              refine hs_iload C dX7_pool_56 4 rfl ?_
              refine hs_callVi (win := [hs_ob y0 7 [.ref y1, .ref y2, hs_V pm, .ref y3, hs_V fl, .ref y4, .ref y5, .ref y6, .ref y7, hs_V pt, .ref y8, .ref y9], hs_ia cI y1 41 h]) (wr := []) (As := [hs_V 0, hs_V ((h 40) - 1), hs_V e1]) (rest := []) C (c_X7_depth l D cI cO y0 y1 y2 y3 y4 y5 y6 y7 y8 y9 pm fl pt h 0 ((h 40) - 1) e1 hh (by omega)) 7 0 rfl rfl rfl (cwV 3 C.1.2.2.2.2 gX7_pool_X7_depth rfl rfl rfl (by decide +kernel) ⟨Nat.le_of_ble_eq_true rfl, Nat.le_of_ble_eq_true rfl⟩) rfl rfl (Nat.le_of_ble_eq_true rfl) dX7_pool_58 ⟨Nat.le_of_ble_eq_true rfl, Nat.le_of_ble_eq_true rfl⟩ (fun rr uu15 hp => ?_)
              obtain rfl := hp
              refine hs_re0 (w' := [hs_ob y0 7 [.ref y1, .ref y2, hs_V pm, .ref y3, hs_V fl, .ref y4, .ref y5, .ref y6, .ref y7, hs_V pt, .ref y8, .ref y9], hs_ia cI y1 41 h]) [0, 1] rfl (by decide) ?_
              refine hs_istore (lv' := [(0, .ref y0), (1, hs_V q), (2, hs_V wh), (3, hs_V (mo_pb h q)), (4, hs_V e1), (5, hs_V x), (6, hs_V y), (7, hs_V (mo_dep h 0 ((h 40) - 1) e1))]) C dX7_pool_61 (by decide) [1, 2, 3, 4, 5, 6, 7, 0] rfl ?_
              refine hs_iload C dX7_pool_63 5 rfl ?_
              refine hs_iload C dX7_pool_65 7 rfl ?_
              refine hs_iadd C dX7_pool_67 ?_
              refine hs_istore (lv' := [(0, .ref y0), (1, hs_V q), (2, hs_V wh), (3, hs_V (mo_pb h q)), (4, hs_V e1), (5, hs_V (x + (mo_dep h 0 ((h 40) - 1) e1))), (6, hs_V y), (7, hs_V (mo_dep h 0 ((h 40) - 1) e1))]) C dX7_pool_68 (by decide) [1, 2, 3, 4, 5, 0, 6, 7] rfl ?_
              refine hs_iload C dX7_pool_70 7 rfl ?_
              refine hs_iload C dX7_pool_72 6 rfl ?_
              refine hs_icmp_le (tgt := 82) C dX7_pool_74 (by decide) (by omega) (by omega) (fun c16 => ?_) (fun c16 => ?_)
              ·
                refine hs_iload C dX7_pool_82 6 rfl ?_
                refine hs_istore (lv' := [(0, .ref y0), (1, hs_V q), (2, hs_V wh), (3, hs_V (mo_pb h q)), (4, hs_V e1), (5, hs_V (x + (mo_dep h 0 ((h 40) - 1) e1))), (6, hs_V y), (7, hs_V (mo_dep h 0 ((h 40) - 1) e1))]) C dX7_pool_84 (by decide) [1, 2, 3, 4, 5, 6, 0, 7] rfl ?_
                refine hs_iinc (lv' := [(0, .ref y0), (1, hs_V q), (2, hs_V wh), (3, hs_V (mo_pb h q)), (4, hs_V (e1 + 1)), (5, hs_V (x + (mo_dep h 0 ((h 40) - 1) e1))), (6, hs_V y), (7, hs_V (mo_dep h 0 ((h 40) - 1) e1))]) C dX7_pool_86 4 rfl (by decide) [1, 2, 3, 4, 0, 5, 6, 7] rfl ?_
                refine hs_goto (tgt := 39) C dX7_pool_89 (by decide) ?_
                refine hs_lvs (lv' := [(0, .ref y0), (1, hs_V q), (2, hs_V wh), (3, hs_V (mo_pb h q)), (4, hs_V (e1 + 1)), (5, hs_V (x + (mo_dep h 0 ((h 40) - 1) e1))), (6, hs_V y)]) [0, 1, 2, 3, 4, 5, 6] rfl ?_
                exact ih7 (e1 + 1) (x + (mo_dep h 0 ((h 40) - 1) e1)) y (by omega) (by omega) (by have hz := (hs_wh_step (P := mo_plP h) (f := mo_plF h) (n := k) (x := (e1, x, y)) (by assumption)).symm.trans hM; first | (rw [show mo_plF h (e1, x, y) = (e1 + 1, x + mo_dep h 0 (h 40 - 1) e1, y) by unfold mo_plF; dsimp only; rw [if_pos (by omega)]] at hz; exact hz) | (rw [show mo_plF h (e1, x, y) = (e1 + 1, x + mo_dep h 0 (h 40 - 1) e1, mo_dep h 0 (h 40 - 1) e1) by unfold mo_plF; dsimp only; rw [if_neg (by omega)]] at hz; exact hz)) (by omega)
              ·
                refine hs_iload C dX7_pool_77 7 rfl ?_
                refine hs_goto (tgt := 84) C dX7_pool_79 (by decide) ?_
                refine hs_istore (lv' := [(0, .ref y0), (1, hs_V q), (2, hs_V wh), (3, hs_V (mo_pb h q)), (4, hs_V e1), (5, hs_V (x + (mo_dep h 0 ((h 40) - 1) e1))), (6, hs_V (mo_dep h 0 ((h 40) - 1) e1)), (7, hs_V (mo_dep h 0 ((h 40) - 1) e1))]) C dX7_pool_84 (by decide) [1, 2, 3, 4, 5, 6, 0, 7] rfl ?_
                refine hs_iinc (lv' := [(0, .ref y0), (1, hs_V q), (2, hs_V wh), (3, hs_V (mo_pb h q)), (4, hs_V (e1 + 1)), (5, hs_V (x + (mo_dep h 0 ((h 40) - 1) e1))), (6, hs_V (mo_dep h 0 ((h 40) - 1) e1)), (7, hs_V (mo_dep h 0 ((h 40) - 1) e1))]) C dX7_pool_86 4 rfl (by decide) [1, 2, 3, 4, 0, 5, 6, 7] rfl ?_
                refine hs_goto (tgt := 39) C dX7_pool_89 (by decide) ?_
                refine hs_lvs (lv' := [(0, .ref y0), (1, hs_V q), (2, hs_V wh), (3, hs_V (mo_pb h q)), (4, hs_V (e1 + 1)), (5, hs_V (x + (mo_dep h 0 ((h 40) - 1) e1))), (6, hs_V (mo_dep h 0 ((h 40) - 1) e1))]) [0, 1, 2, 3, 4, 5, 6] rfl ?_
                exact ih7 (e1 + 1) (x + (mo_dep h 0 ((h 40) - 1) e1)) (mo_dep h 0 ((h 40) - 1) e1) (by omega) (by omega) (by have hz := (hs_wh_step (P := mo_plP h) (f := mo_plF h) (n := k) (x := (e1, x, y)) (by assumption)).symm.trans hM; first | (rw [show mo_plF h (e1, x, y) = (e1 + 1, x + mo_dep h 0 (h 40 - 1) e1, y) by unfold mo_plF; dsimp only; rw [if_pos (by omega)]] at hz; exact hz) | (rw [show mo_plF h (e1, x, y) = (e1 + 1, x + mo_dep h 0 (h 40 - 1) e1, mo_dep h 0 (h 40 - 1) e1) by unfold mo_plF; dsimp only; rw [if_neg (by omega)]] at hz; exact hz)) (by omega)
        exact Lp6 ((h 40 - (mo_pb h q) : Int).toNat + 1) (mo_pb h q) 0 0 (by omega) (by omega) (rfl) (by omega)
      ·
        refine hs_bipush C dX7_pool_27 (by decide) ?_
        exact hret _ _ _ () (by unfold mo_pool; rw [if_neg (by omega), if_pos (by omega)]) dX7_pool_29 rfl
    ·
      refine hs_iconst C dX7_pool_13 ?_
      exact hret _ _ _ () (by unfold mo_pool; rw [if_pos (by omega)]) dX7_pool_14 rfl

set_option maxHeartbeats 4000000 in
set_option maxRecDepth 100000 in
theorem c_X7_drained (l : Launch) (D : va_G) (cI cO : ClassId) (y0 : Nat) (y1 : Nat) (y2 : Nat) (y3 : Nat) (y4 : Nat) (y5 : Nat) (y6 : Nat) (y7 : Nat) (y8 : Nat) (y9 : Nat) (pm : Int) (fl : Int) (pt : Int) (h : Int → Int) (i : Int) (hh : ∀ k, 0 ≤ h k ∧ h k ≤ 50) (hN : 0 ≤ h 40 ∧ h 40 ≤ 40) (hzi : hs_in i) : hs_M l D cI cO yX7_drained wsX7_drained ({ frames := 3, cells := 0, slots := 0, locals := 73 } : Room) [.ref y0, hs_V i] [hs_ob y0 7 [.ref y1, .ref y2, hs_V pm, .ref y3, hs_V fl, .ref y4, .ref y5, .ref y6, .ref y7, hs_V pt, .ref y8, .ref y9], hs_ia cI y1 41 h] (fun r (_ : Unit) => r = hs_I (mo_drained i h)) (fun _ => [hs_ob y0 7 [.ref y1, .ref y2, hs_V pm, .ref y3, hs_V fl, .ref y4, .ref y5, .ref y6, .ref y7, hs_V pt, .ref y8, .ref y9], hs_ia cI y1 41 h]) 0 0 := by
  refine hs_enter (cc := cX7_drained) (maxL := 2) (by decide +kernel) rfl (Nat.le_of_ble_eq_true rfl) (fun p e s m args below meth c A H0 Q C hret => ?_)
  refine hs_lvs (lv' := [(0, .ref y0), (1, hs_V i)]) [0, 1] rfl ?_
  refine hs_aload_n C dX7_drained_0 rfl 0 rfl ?_
  refine hs_iload_n C dX7_drained_1 rfl 1 rfl ?_
  refine hs_callVi (win := [hs_ob y0 7 [.ref y1, .ref y2, hs_V pm, .ref y3, hs_V fl, .ref y4, .ref y5, .ref y6, .ref y7, hs_V pt, .ref y8, .ref y9], hs_ia cI y1 41 h]) (wr := []) (As := [hs_V i]) (rest := []) C (c_X7_isColumn l D cI cO y0 y1 y2 y3 y4 y5 y6 y7 y8 y9 pm fl pt h i (by omega) (by omega)) 7 0 rfl rfl rfl (cwV 1 C.1.2.2.2.2 gX7_drained_X7_isColumn rfl rfl rfl (by decide +kernel) ⟨Nat.le_of_ble_eq_true rfl, Nat.le_of_ble_eq_true rfl⟩) rfl rfl (Nat.le_of_ble_eq_true rfl) dX7_drained_2 ⟨Nat.le_of_ble_eq_true rfl, Nat.le_of_ble_eq_true rfl⟩ (fun rr uu1 hp => ?_)
  obtain rfl := hp
  refine hs_re0 (w' := [hs_ob y0 7 [.ref y1, .ref y2, hs_V pm, .ref y3, hs_V fl, .ref y4, .ref y5, .ref y6, .ref y7, hs_V pt, .ref y8, .ref y9], hs_ia cI y1 41 h]) [0, 1] rfl (by decide) ?_
  refine hs_ifeq_b (tgt := 41) C dX7_drained_5 (by decide) (fun c2 => ?_) (fun c2 => ?_)
  ·
    refine hs_iconst C dX7_drained_41 ?_
    exact hret _ _ _ () (by unfold mo_drained; first | rw [if_pos (by omega)] | rw [if_neg (by omega)]) dX7_drained_42 rfl
  ·
    refine hs_aload_n C dX7_drained_8 rfl 0 rfl ?_
    refine hs_iconst C dX7_drained_9 ?_
    refine hs_aload_n C dX7_drained_10 rfl 0 rfl ?_
    refine hs_callVi (win := [hs_ob y0 7 [.ref y1, .ref y2, hs_V pm, .ref y3, hs_V fl, .ref y4, .ref y5, .ref y6, .ref y7, hs_V pt, .ref y8, .ref y9], hs_ia cI y1 41 h]) (wr := []) (As := []) (rest := [hs_V 0, .ref y0]) C (c_X7_many l D cI cO y0 y1 y2 y3 y4 y5 y6 y7 y8 y9 pm fl pt h ) 7 0 rfl rfl rfl (cwV 0 C.1.2.2.2.2 gX7_drained_X7_many rfl rfl rfl (by decide +kernel) ⟨Nat.le_of_ble_eq_true rfl, Nat.le_of_ble_eq_true rfl⟩) rfl rfl (Nat.le_of_ble_eq_true rfl) dX7_drained_11 ⟨Nat.le_of_ble_eq_true rfl, Nat.le_of_ble_eq_true rfl⟩ (fun rr uu3 hp => ?_)
    obtain rfl := hp
    refine hs_re0 (w' := [hs_ob y0 7 [.ref y1, .ref y2, hs_V pm, .ref y3, hs_V fl, .ref y4, .ref y5, .ref y6, .ref y7, hs_V pt, .ref y8, .ref y9], hs_ia cI y1 41 h]) [0, 1] rfl (by decide) ?_
    refine hs_iconst C dX7_drained_14 ?_
    refine hs_isub C dX7_drained_15 ?_
    refine hs_callVi (win := [hs_ob y0 7 [.ref y1, .ref y2, hs_V pm, .ref y3, hs_V fl, .ref y4, .ref y5, .ref y6, .ref y7, hs_V pt, .ref y8, .ref y9], hs_ia cI y1 41 h]) (wr := []) (As := [hs_V 0, hs_V ((h 40) - 1)]) (rest := []) C (c_X7_water l D cI cO y0 y1 y2 y3 y4 y5 y6 y7 y8 y9 pm fl pt h 0 ((h 40) - 1) hh (by omega)) 7 0 rfl rfl rfl (cwV 2 C.1.2.2.2.2 gX7_drained_X7_water rfl rfl rfl (by decide +kernel) ⟨Nat.le_of_ble_eq_true rfl, Nat.le_of_ble_eq_true rfl⟩) rfl rfl (Nat.le_of_ble_eq_true rfl) dX7_drained_16 ⟨Nat.le_of_ble_eq_true rfl, Nat.le_of_ble_eq_true rfl⟩ (fun rr uu4 hp => ?_)
    obtain rfl := hp
    refine hs_re0 (w' := [hs_ob y0 7 [.ref y1, .ref y2, hs_V pm, .ref y3, hs_V fl, .ref y4, .ref y5, .ref y6, .ref y7, hs_V pt, .ref y8, .ref y9], hs_ia cI y1 41 h]) [0, 1] rfl (by decide) ?_
    refine hs_aload_n C dX7_drained_19 rfl 0 rfl ?_
    refine hs_iconst C dX7_drained_20 ?_
    refine hs_iload_n C dX7_drained_21 rfl 1 rfl ?_
    refine hs_callVi (win := [hs_ob y0 7 [.ref y1, .ref y2, hs_V pm, .ref y3, hs_V fl, .ref y4, .ref y5, .ref y6, .ref y7, hs_V pt, .ref y8, .ref y9], hs_ia cI y1 41 h]) (wr := []) (As := [hs_V 0, hs_V i]) (rest := [hs_V (mo_wat h 0 ((h 40) - 1))]) C (c_X7_water l D cI cO y0 y1 y2 y3 y4 y5 y6 y7 y8 y9 pm fl pt h 0 i hh (by omega)) 7 0 rfl rfl rfl (cwV 2 C.1.2.2.2.2 gX7_drained_X7_water rfl rfl rfl (by decide +kernel) ⟨Nat.le_of_ble_eq_true rfl, Nat.le_of_ble_eq_true rfl⟩) rfl rfl (Nat.le_of_ble_eq_true rfl) dX7_drained_22 ⟨Nat.le_of_ble_eq_true rfl, Nat.le_of_ble_eq_true rfl⟩ (fun rr uu5 hp => ?_)
    obtain rfl := hp
    refine hs_re0 (w' := [hs_ob y0 7 [.ref y1, .ref y2, hs_V pm, .ref y3, hs_V fl, .ref y4, .ref y5, .ref y6, .ref y7, hs_V pt, .ref y8, .ref y9], hs_ia cI y1 41 h]) [0, 1] rfl (by decide) ?_
    refine hs_isub C dX7_drained_25 ?_
    refine hs_aload_n C dX7_drained_26 rfl 0 rfl ?_
    refine hs_iload_n C dX7_drained_27 rfl 1 rfl ?_
    refine hs_aload_n C dX7_drained_28 rfl 0 rfl ?_
    refine hs_callVi (win := [hs_ob y0 7 [.ref y1, .ref y2, hs_V pm, .ref y3, hs_V fl, .ref y4, .ref y5, .ref y6, .ref y7, hs_V pt, .ref y8, .ref y9], hs_ia cI y1 41 h]) (wr := []) (As := []) (rest := [hs_V i, .ref y0, hs_V ((mo_wat h 0 ((h 40) - 1)) - (mo_wat h 0 i))]) C (c_X7_many l D cI cO y0 y1 y2 y3 y4 y5 y6 y7 y8 y9 pm fl pt h ) 7 0 rfl rfl rfl (cwV 0 C.1.2.2.2.2 gX7_drained_X7_many rfl rfl rfl (by decide +kernel) ⟨Nat.le_of_ble_eq_true rfl, Nat.le_of_ble_eq_true rfl⟩) rfl rfl (Nat.le_of_ble_eq_true rfl) dX7_drained_29 ⟨Nat.le_of_ble_eq_true rfl, Nat.le_of_ble_eq_true rfl⟩ (fun rr uu6 hp => ?_)
    obtain rfl := hp
    refine hs_re0 (w' := [hs_ob y0 7 [.ref y1, .ref y2, hs_V pm, .ref y3, hs_V fl, .ref y4, .ref y5, .ref y6, .ref y7, hs_V pt, .ref y8, .ref y9], hs_ia cI y1 41 h]) [0, 1] rfl (by decide) ?_
    refine hs_iconst C dX7_drained_32 ?_
    refine hs_isub C dX7_drained_33 ?_
    refine hs_callVi (win := [hs_ob y0 7 [.ref y1, .ref y2, hs_V pm, .ref y3, hs_V fl, .ref y4, .ref y5, .ref y6, .ref y7, hs_V pt, .ref y8, .ref y9], hs_ia cI y1 41 h]) (wr := []) (As := [hs_V i, hs_V ((h 40) - 1)]) (rest := [hs_V ((mo_wat h 0 ((h 40) - 1)) - (mo_wat h 0 i))]) C (c_X7_water l D cI cO y0 y1 y2 y3 y4 y5 y6 y7 y8 y9 pm fl pt h i ((h 40) - 1) hh (by omega)) 7 0 rfl rfl rfl (cwV 2 C.1.2.2.2.2 gX7_drained_X7_water rfl rfl rfl (by decide +kernel) ⟨Nat.le_of_ble_eq_true rfl, Nat.le_of_ble_eq_true rfl⟩) rfl rfl (Nat.le_of_ble_eq_true rfl) dX7_drained_34 ⟨Nat.le_of_ble_eq_true rfl, Nat.le_of_ble_eq_true rfl⟩ (fun rr uu7 hp => ?_)
    obtain rfl := hp
    refine hs_re0 (w' := [hs_ob y0 7 [.ref y1, .ref y2, hs_V pm, .ref y3, hs_V fl, .ref y4, .ref y5, .ref y6, .ref y7, hs_V pt, .ref y8, .ref y9], hs_ia cI y1 41 h]) [0, 1] rfl (by decide) ?_
    refine hs_isub C dX7_drained_37 ?_
    refine hs_goto (tgt := 42) C dX7_drained_38 (by decide) ?_
    exact hret _ _ _ () (by unfold mo_drained; first | rw [if_pos (by omega)] | rw [if_neg (by omega)]) dX7_drained_42 rfl

set_option maxHeartbeats 4000000 in
set_option maxRecDepth 100000 in
theorem c_X7_dam (l : Launch) (D : va_G) (cI cO : ClassId) (y0 : Nat) (y1 : Nat) (y2 : Nat) (y3 : Nat) (y4 : Nat) (y5 : Nat) (y6 : Nat) (y7 : Nat) (y8 : Nat) (y9 : Nat) (pm : Int) (fl : Int) (pt : Int) (h : Int → Int) (d : Int) (wh : Int) (hh : ∀ k, 0 ≤ h k ∧ h k ≤ 50) (hN : 0 ≤ h 40 ∧ h 40 ≤ 40) (hzd : hs_in d) (hzw : hs_in wh) : hs_M l D cI cO yX7_dam wsX7_dam ({ frames := 3, cells := 0, slots := 0, locals := 73 } : Room) [.ref y0, hs_V d, hs_V wh] [hs_ob y0 7 [.ref y1, .ref y2, hs_V pm, .ref y3, hs_V fl, .ref y4, .ref y5, .ref y6, .ref y7, hs_V pt, .ref y8, .ref y9], hs_ia cI y1 41 h] (fun r (_ : Unit) => r = hs_I (mo_dam d wh h)) (fun _ => [hs_ob y0 7 [.ref y1, .ref y2, hs_V pm, .ref y3, hs_V fl, .ref y4, .ref y5, .ref y6, .ref y7, hs_V pt, .ref y8, .ref y9], hs_ia cI y1 41 h]) 0 0 := by
  refine hs_enter (cc := cX7_dam) (maxL := 8) (by decide +kernel) rfl (Nat.le_of_ble_eq_true rfl) (fun p e s m args below meth c A H0 Q C hret => ?_)
  have f7 := C.1.2.2.2.2 (.fieldLink RX7 7 "HistogramStairsModel" "h" "[I") (by decide +kernel)
  have u7 : ∀ w ∈ wsX70, w ∈ wsX7_dam := by decide +kernel
  refine hs_lvs (lv' := [(0, .ref y0), (1, hs_V d), (2, hs_V wh)]) [0, 1, 2] rfl ?_
  refine hs_iload_n C dX7_dam_0 rfl 1 rfl ?_
  refine hs_iconst C dX7_dam_1 ?_
  refine hs_bipush C dX7_dam_2 (by decide) ?_
  refine hs_callSi (win := []) (wr := [hs_ob y0 7 [.ref y1, .ref y2, hs_V pm, .ref y3, hs_V fl, .ref y4, .ref y5, .ref y6, .ref y7, hs_V pt, .ref y8, .ref y9], hs_ia cI y1 41 h]) (As := [hs_V d, hs_V 1, hs_V 50]) (rest := []) C (c_X7_isIn l D cI cO d 1 50 (by omega) (by omega) (by omega)) (va_cwS 3 C.1.2.2.2.2 gX7_dam_X7_isIn rfl rfl rfl (by decide +kernel) ⟨Nat.le_of_ble_eq_true rfl, Nat.le_of_ble_eq_true rfl⟩) rfl rfl (Nat.le_of_ble_eq_true rfl) dX7_dam_4 ⟨Nat.le_of_ble_eq_true rfl, Nat.le_of_ble_eq_true rfl⟩ (fun rr uu1 hp => ?_)
  obtain rfl := hp
  refine hs_re0 (w' := [hs_ob y0 7 [.ref y1, .ref y2, hs_V pm, .ref y3, hs_V fl, .ref y4, .ref y5, .ref y6, .ref y7, hs_V pt, .ref y8, .ref y9], hs_ia cI y1 41 h]) [0, 1] rfl (by decide) ?_
  refine hs_ifeq_b (tgt := 19) C dX7_dam_7 (by decide) (fun c2 => ?_) (fun c2 => ?_)
  ·
    refine hs_iconst C dX7_dam_19 ?_
    exact hret _ _ _ () (by unfold mo_dam; rw [if_pos (by omega)]) dX7_dam_20 rfl
  ·
    refine hs_iload_n C dX7_dam_10 rfl 2 rfl ?_
    refine hs_iconst C dX7_dam_11 ?_
    refine hs_iconst C dX7_dam_12 ?_
    refine hs_callSi (win := []) (wr := [hs_ob y0 7 [.ref y1, .ref y2, hs_V pm, .ref y3, hs_V fl, .ref y4, .ref y5, .ref y6, .ref y7, hs_V pt, .ref y8, .ref y9], hs_ia cI y1 41 h]) (As := [hs_V wh, hs_V 0, hs_V 1]) (rest := []) C (c_X7_isIn l D cI cO wh 0 1 (by omega) (by omega) (by omega)) (va_cwS 3 C.1.2.2.2.2 gX7_dam_X7_isIn rfl rfl rfl (by decide +kernel) ⟨Nat.le_of_ble_eq_true rfl, Nat.le_of_ble_eq_true rfl⟩) rfl rfl (Nat.le_of_ble_eq_true rfl) dX7_dam_13 ⟨Nat.le_of_ble_eq_true rfl, Nat.le_of_ble_eq_true rfl⟩ (fun rr uu3 hp => ?_)
    obtain rfl := hp
    refine hs_re0 (w' := [hs_ob y0 7 [.ref y1, .ref y2, hs_V pm, .ref y3, hs_V fl, .ref y4, .ref y5, .ref y6, .ref y7, hs_V pt, .ref y8, .ref y9], hs_ia cI y1 41 h]) [0, 1] rfl (by decide) ?_
    refine hs_ifne_b (tgt := 21) C dX7_dam_16 (by decide) (fun c4 => ?_) (fun c4 => ?_)
    ·
      refine hs_aload_n C dX7_dam_21 rfl 0 rfl ?_
      refine hs_callVi (win := [hs_ob y0 7 [.ref y1, .ref y2, hs_V pm, .ref y3, hs_V fl, .ref y4, .ref y5, .ref y6, .ref y7, hs_V pt, .ref y8, .ref y9], hs_ia cI y1 41 h]) (wr := []) (As := []) (rest := []) C (c_X7_many l D cI cO y0 y1 y2 y3 y4 y5 y6 y7 y8 y9 pm fl pt h ) 7 0 rfl rfl rfl (cwV 0 C.1.2.2.2.2 gX7_dam_X7_many rfl rfl rfl (by decide +kernel) ⟨Nat.le_of_ble_eq_true rfl, Nat.le_of_ble_eq_true rfl⟩) rfl rfl (Nat.le_of_ble_eq_true rfl) dX7_dam_22 ⟨Nat.le_of_ble_eq_true rfl, Nat.le_of_ble_eq_true rfl⟩ (fun rr uu5 hp => ?_)
      obtain rfl := hp
      refine hs_re0 (w' := [hs_ob y0 7 [.ref y1, .ref y2, hs_V pm, .ref y3, hs_V fl, .ref y4, .ref y5, .ref y6, .ref y7, hs_V pt, .ref y8, .ref y9], hs_ia cI y1 41 h]) [0, 1] rfl (by decide) ?_
      refine hs_if_ne (tgt := 31) C dX7_dam_25 (by decide) (by omega) (fun c6 => ?_) (fun c6 => ?_)
      ·
        refine hs_bipush C dX7_dam_31 (by decide) ?_
        refine hs_istore_n (lv' := [(0, .ref y0), (1, hs_V d), (2, hs_V wh), (3, hs_V (-9))]) C dX7_dam_33 rfl (by decide) [1, 2, 3, 0] rfl ?_
        refine hs_bipush C dX7_dam_34 (by decide) ?_
        refine hs_istore (lv' := [(0, .ref y0), (1, hs_V d), (2, hs_V wh), (3, hs_V (-9)), (4, hs_V (-9))]) C dX7_dam_36 (by decide) [1, 2, 3, 4, 0] rfl ?_
        refine hs_iconst C dX7_dam_38 ?_
        refine hs_istore (lv' := [(0, .ref y0), (1, hs_V d), (2, hs_V wh), (3, hs_V (-9)), (4, hs_V (-9)), (5, hs_V 0)]) C dX7_dam_39 (by decide) [1, 2, 3, 4, 5, 0] rfl ?_
        have Lp7 : ∀ (k : Nat) (i : Int) (x : Int) (y : Int), (0 ≤ i ∧ i ≤ h 40) → (-9 ≤ y ∧ y ≤ 2050 ∨ (-2050 ≤ y ∧ y ≤ 2050)) → (hs_up (mo_dmF h d) i (h 40) (x, y) = mo_dm h d) → (h 40 - i < (k : Int)) → hs_J p l e ({ frames := 3, cells := 0, slots := 0, locals := 73 } : Room) s m args below meth c D A H0 8 0 0 Q 41 [(0, .ref y0), (1, hs_V d), (2, hs_V wh), (3, hs_V x), (4, hs_V y), (5, hs_V i)] [] [hs_ob y0 7 [.ref y1, .ref y2, hs_V pm, .ref y3, hs_V fl, .ref y4, .ref y5, .ref y6, .ref y7, hs_V pt, .ref y8, .ref y9], hs_ia cI y1 41 h] := by
          intro k
          induction k with
          | zero =>
            intro i x y hi hy hL hk
            exact absurd hk (by omega)
          | succ k ih =>
            intro i x y hi hy hL hk
            have ih8 := ih
            refine hs_iload C dX7_dam_41 5 rfl ?_
            refine hs_aload_n C dX7_dam_43 rfl 0 rfl ?_
            refine hs_callVi (win := [hs_ob y0 7 [.ref y1, .ref y2, hs_V pm, .ref y3, hs_V fl, .ref y4, .ref y5, .ref y6, .ref y7, hs_V pt, .ref y8, .ref y9], hs_ia cI y1 41 h]) (wr := []) (As := []) (rest := [hs_V i]) C (c_X7_many l D cI cO y0 y1 y2 y3 y4 y5 y6 y7 y8 y9 pm fl pt h ) 7 0 rfl rfl rfl (cwV 0 C.1.2.2.2.2 gX7_dam_X7_many rfl rfl rfl (by decide +kernel) ⟨Nat.le_of_ble_eq_true rfl, Nat.le_of_ble_eq_true rfl⟩) rfl rfl (Nat.le_of_ble_eq_true rfl) dX7_dam_44 ⟨Nat.le_of_ble_eq_true rfl, Nat.le_of_ble_eq_true rfl⟩ (fun rr uu9 hp => ?_)
            obtain rfl := hp
            refine hs_re0 (w' := [hs_ob y0 7 [.ref y1, .ref y2, hs_V pm, .ref y3, hs_V fl, .ref y4, .ref y5, .ref y6, .ref y7, hs_V pt, .ref y8, .ref y9], hs_ia cI y1 41 h]) [0, 1] rfl (by decide) ?_
            refine hs_icmp_ge (tgt := 115) C dX7_dam_47 (by decide) (by omega) (by omega) (fun c10 => ?_) (fun c10 => ?_)
            ·
              have hdm : mo_dm h d = (x, y) := by rw [← hL, hs_up_done (by omega)]
              refine hs_iload_n C dX7_dam_115 rfl 2 rfl ?_
              refine hs_if_ne (tgt := 123) C dX7_dam_116 (by decide) (by omega) (fun c11 => ?_) (fun c11 => ?_)
              ·
                refine hs_iload C dX7_dam_123 4 rfl ?_
                exact hret _ _ _ () (by unfold mo_dam; rw [if_neg (by omega), if_neg (by omega), hdm]; first | rw [if_pos (by omega)] | rw [if_neg (by omega)]) dX7_dam_125 rfl
              ·
                refine hs_iload_n C dX7_dam_119 rfl 3 rfl ?_
                refine hs_goto (tgt := 125) C dX7_dam_120 (by decide) ?_
                exact hret _ _ _ () (by unfold mo_dam; rw [if_neg (by omega), if_neg (by omega), hdm]; first | rw [if_pos (by omega)] | rw [if_neg (by omega)]) dX7_dam_125 rfl
            ·
              refine hs_aload_n C dX7_dam_50 rfl 0 rfl ?_
              refine hs_get C u7 0 rfl rfl 0 (by decide) f7 rfl rfl dX7_dam_51 ?_
              refine hs_iload C dX7_dam_54 5 rfl ?_
              refine hs_iald C 1 rfl (by omega) dX7_dam_56 ?_
              have b12 := hh i
              refine hs_istore (lv' := [(0, .ref y0), (1, hs_V d), (2, hs_V wh), (3, hs_V x), (4, hs_V y), (5, hs_V i), (6, hs_V (h i))]) C dX7_dam_57 (by decide) [1, 2, 3, 4, 5, 6, 0] rfl ?_
              refine hs_aload_n C dX7_dam_59 rfl 0 rfl ?_
              refine hs_get C u7 0 rfl rfl 0 (by decide) f7 rfl rfl dX7_dam_60 ?_
              refine hs_iload C dX7_dam_63 5 rfl ?_
              refine hs_iload C dX7_dam_65 6 rfl ?_
              refine hs_iload_n C dX7_dam_67 rfl 1 rfl ?_
              refine hs_iadd C dX7_dam_68 ?_
              refine hs_callSi (win := []) (wr := [hs_ob y0 7 [.ref y1, .ref y2, hs_V pm, .ref y3, hs_V fl, .ref y4, .ref y5, .ref y6, .ref y7, hs_V pt, .ref y8, .ref y9], hs_ia cI y1 41 h]) (As := [hs_V ((h i) + d)]) (rest := [hs_V i, .ref y1]) C (c_X7_capped l D cI cO ((h i) + d) (by omega)) (va_cwS 1 C.1.2.2.2.2 gX7_dam_X7_capped rfl rfl rfl (by decide +kernel) ⟨Nat.le_of_ble_eq_true rfl, Nat.le_of_ble_eq_true rfl⟩) rfl rfl (Nat.le_of_ble_eq_true rfl) dX7_dam_69 ⟨Nat.le_of_ble_eq_true rfl, Nat.le_of_ble_eq_true rfl⟩ (fun rr uu13 hp => ?_)
              obtain rfl := hp
              refine hs_re0 (w' := [hs_ob y0 7 [.ref y1, .ref y2, hs_V pm, .ref y3, hs_V fl, .ref y4, .ref y5, .ref y6, .ref y7, hs_V pt, .ref y8, .ref y9], hs_ia cI y1 41 h]) [0, 1] rfl (by decide) ?_
              refine hs_iast (ws' := [hs_ob y0 7 [.ref y1, .ref y2, hs_V pm, .ref y3, hs_V fl, .ref y4, .ref y5, .ref y6, .ref y7, hs_V pt, .ref y8, .ref y9], hs_ia cI y1 41 (hs_u h i (max 0 (min ((h i) + d) 50)))]) C 1 rfl (by omega) rfl dX7_dam_72 ?_
              have b14 := hs_u_bd (i := i) hh (show 0 ≤ max 0 (min ((h i) + d) 50) ∧ max 0 (min ((h i) + d) 50) ≤ 50 by omega)
              refine hs_aload_n C dX7_dam_73 rfl 0 rfl ?_
              refine hs_iconst C dX7_dam_74 ?_
              refine hs_aload_n C dX7_dam_75 rfl 0 rfl ?_
              refine hs_callVi (win := [hs_ob y0 7 [.ref y1, .ref y2, hs_V pm, .ref y3, hs_V fl, .ref y4, .ref y5, .ref y6, .ref y7, hs_V pt, .ref y8, .ref y9], hs_ia cI y1 41 (hs_u h i (max 0 (min ((h i) + d) 50)))]) (wr := []) (As := []) (rest := [hs_V 0, .ref y0]) C (c_X7_many l D cI cO y0 y1 y2 y3 y4 y5 y6 y7 y8 y9 pm fl pt (hs_u h i (max 0 (min ((h i) + d) 50))) ) 7 0 rfl rfl rfl (cwV 0 C.1.2.2.2.2 gX7_dam_X7_many rfl rfl rfl (by decide +kernel) ⟨Nat.le_of_ble_eq_true rfl, Nat.le_of_ble_eq_true rfl⟩) rfl rfl (Nat.le_of_ble_eq_true rfl) dX7_dam_76 ⟨Nat.le_of_ble_eq_true rfl, Nat.le_of_ble_eq_true rfl⟩ (fun rr uu15 hp => ?_)
              obtain rfl := hp
              refine hs_re0 (w' := [hs_ob y0 7 [.ref y1, .ref y2, hs_V pm, .ref y3, hs_V fl, .ref y4, .ref y5, .ref y6, .ref y7, hs_V pt, .ref y8, .ref y9], hs_ia cI y1 41 (hs_u h i (max 0 (min ((h i) + d) 50)))]) [0, 1] rfl (by decide) ?_
              rw [hs_u_ne (by omega)]
              refine hs_iconst C dX7_dam_79 ?_
              refine hs_isub C dX7_dam_80 ?_
              refine hs_callVi (win := [hs_ob y0 7 [.ref y1, .ref y2, hs_V pm, .ref y3, hs_V fl, .ref y4, .ref y5, .ref y6, .ref y7, hs_V pt, .ref y8, .ref y9], hs_ia cI y1 41 (hs_u h i (max 0 (min ((h i) + d) 50)))]) (wr := []) (As := [hs_V 0, hs_V ((h 40) - 1)]) (rest := []) C (c_X7_water l D cI cO y0 y1 y2 y3 y4 y5 y6 y7 y8 y9 pm fl pt (hs_u h i (max 0 (min ((h i) + d) 50))) 0 ((h 40) - 1) b14 (by omega)) 7 0 rfl rfl rfl (cwV 2 C.1.2.2.2.2 gX7_dam_X7_water rfl rfl rfl (by decide +kernel) ⟨Nat.le_of_ble_eq_true rfl, Nat.le_of_ble_eq_true rfl⟩) rfl rfl (Nat.le_of_ble_eq_true rfl) dX7_dam_81 ⟨Nat.le_of_ble_eq_true rfl, Nat.le_of_ble_eq_true rfl⟩ (fun rr uu16 hp => ?_)
              obtain rfl := hp
              refine hs_re0 (w' := [hs_ob y0 7 [.ref y1, .ref y2, hs_V pm, .ref y3, hs_V fl, .ref y4, .ref y5, .ref y6, .ref y7, hs_V pt, .ref y8, .ref y9], hs_ia cI y1 41 (hs_u h i (max 0 (min ((h i) + d) 50)))]) [0, 1] rfl (by decide) ?_
              have hwb := mo_wat_bd (h := (hs_u h i (max 0 (min (h i + d) 50)))) (a := 0) (b := h 40 - 1) (hs_u_bd hh (by omega)) (by omega)
              refine hs_istore (lv' := [(0, .ref y0), (1, hs_V d), (2, hs_V wh), (3, hs_V x), (4, hs_V y), (5, hs_V i), (6, hs_V (h i)), (7, hs_V (mo_wat (hs_u h i (max 0 (min ((h i) + d) 50))) 0 ((h 40) - 1)))]) C dX7_dam_84 (by decide) [1, 2, 3, 4, 5, 6, 7, 0] rfl ?_
              refine hs_aload_n C dX7_dam_86 rfl 0 rfl ?_
              refine hs_get C u7 0 rfl rfl 0 (by decide) f7 rfl rfl dX7_dam_87 ?_
              refine hs_iload C dX7_dam_90 5 rfl ?_
              refine hs_iload C dX7_dam_92 6 rfl ?_
              refine hs_iast (ws' := [hs_ob y0 7 [.ref y1, .ref y2, hs_V pm, .ref y3, hs_V fl, .ref y4, .ref y5, .ref y6, .ref y7, hs_V pt, .ref y8, .ref y9], hs_ia cI y1 41 (hs_u (hs_u h i (max 0 (min ((h i) + d) 50))) i (h i))]) C 1 rfl (by omega) rfl dX7_dam_94 ?_
              have b17 := hs_u_bd (i := i) b14 (show 0 ≤ h i ∧ h i ≤ 50 by omega)
              refine hs_cast (ws' := [hs_ob y0 7 [.ref y1, .ref y2, hs_V pm, .ref y3, hs_V fl, .ref y4, .ref y5, .ref y6, .ref y7, hs_V pt, .ref y8, .ref y9], hs_ia cI y1 41 h]) ?_ rfl rfl rfl (by rw [hs_u_u])
              refine hs_iload C dX7_dam_95 7 rfl ?_
              refine hs_iload C dX7_dam_97 4 rfl ?_
              refine hs_icmp_le (tgt := 109) C dX7_dam_99 (by decide) (by omega) (by omega) (fun c18 => ?_) (fun c18 => ?_)
              ·
                refine hs_iinc (lv' := [(0, .ref y0), (1, hs_V d), (2, hs_V wh), (3, hs_V x), (4, hs_V y), (5, hs_V (i + 1)), (6, hs_V (h i)), (7, hs_V (mo_wat (hs_u h i (max 0 (min ((h i) + d) 50))) 0 ((h 40) - 1)))]) C dX7_dam_109 5 rfl (by decide) [1, 2, 3, 4, 5, 0, 6, 7] rfl ?_
                refine hs_goto (tgt := 41) C dX7_dam_112 (by decide) ?_
                refine hs_lvs (lv' := [(0, .ref y0), (1, hs_V d), (2, hs_V wh), (3, hs_V x), (4, hs_V y), (5, hs_V (i + 1))]) [0, 1, 2, 3, 4, 5] rfl ?_
                exact ih8 (i + 1) x y (by omega) (by omega) (by have hz := (hs_up_step (by omega)).symm.trans hL; first | (rw [show mo_dmF h d i (x, y) = (x, y) from if_pos (by assumption)] at hz; exact hz) | (rw [show mo_dmF h d i (x, y) = (i, mo_wat (hs_u h i (max 0 (min (h i + d) 50))) 0 (h 40 - 1)) from if_neg (by assumption)] at hz; exact hz)) (by omega)
              ·
                refine hs_iload C dX7_dam_102 5 rfl ?_
                refine hs_istore_n (lv' := [(0, .ref y0), (1, hs_V d), (2, hs_V wh), (3, hs_V i), (4, hs_V y), (5, hs_V i), (6, hs_V (h i)), (7, hs_V (mo_wat (hs_u h i (max 0 (min ((h i) + d) 50))) 0 ((h 40) - 1)))]) C dX7_dam_104 rfl (by decide) [1, 2, 3, 0, 4, 5, 6, 7] rfl ?_
                refine hs_iload C dX7_dam_105 7 rfl ?_
                refine hs_istore (lv' := [(0, .ref y0), (1, hs_V d), (2, hs_V wh), (3, hs_V i), (4, hs_V (mo_wat (hs_u h i (max 0 (min ((h i) + d) 50))) 0 ((h 40) - 1))), (5, hs_V i), (6, hs_V (h i)), (7, hs_V (mo_wat (hs_u h i (max 0 (min ((h i) + d) 50))) 0 ((h 40) - 1)))]) C dX7_dam_107 (by decide) [1, 2, 3, 4, 0, 5, 6, 7] rfl ?_
                refine hs_iinc (lv' := [(0, .ref y0), (1, hs_V d), (2, hs_V wh), (3, hs_V i), (4, hs_V (mo_wat (hs_u h i (max 0 (min ((h i) + d) 50))) 0 ((h 40) - 1))), (5, hs_V (i + 1)), (6, hs_V (h i)), (7, hs_V (mo_wat (hs_u h i (max 0 (min ((h i) + d) 50))) 0 ((h 40) - 1)))]) C dX7_dam_109 5 rfl (by decide) [1, 2, 3, 4, 5, 0, 6, 7] rfl ?_
                refine hs_goto (tgt := 41) C dX7_dam_112 (by decide) ?_
                refine hs_lvs (lv' := [(0, .ref y0), (1, hs_V d), (2, hs_V wh), (3, hs_V i), (4, hs_V (mo_wat (hs_u h i (max 0 (min ((h i) + d) 50))) 0 ((h 40) - 1))), (5, hs_V (i + 1))]) [0, 1, 2, 3, 4, 5] rfl ?_
                exact ih8 (i + 1) i (mo_wat (hs_u h i (max 0 (min ((h i) + d) 50))) 0 ((h 40) - 1)) (by omega) (by omega) (by have hz := (hs_up_step (by omega)).symm.trans hL; first | (rw [show mo_dmF h d i (x, y) = (x, y) from if_pos (by assumption)] at hz; exact hz) | (rw [show mo_dmF h d i (x, y) = (i, mo_wat (hs_u h i (max 0 (min (h i + d) 50))) 0 (h 40 - 1)) from if_neg (by assumption)] at hz; exact hz)) (by omega)
        exact Lp7 ((h 40 - 0 : Int).toNat + 1) 0 (-9) (-9) (by omega) (by omega) (rfl) (by omega)
      ·
        refine hs_bipush C dX7_dam_28 (by decide) ?_
        exact hret _ _ _ () (by unfold mo_dam; rw [if_neg (by omega), if_pos (by omega)]) dX7_dam_30 rfl
    ·
      refine hs_iconst C dX7_dam_19 ?_
      exact hret _ _ _ () (by unfold mo_dam; rw [if_pos (by omega)]) dX7_dam_20 rfl

set_option maxHeartbeats 4000000 in
set_option maxRecDepth 100000 in
theorem c_X7_sumOfMinima (l : Launch) (D : va_G) (cI cO : ClassId) (y0 : Nat) (y1 : Nat) (y2 : Nat) (y3 : Nat) (y4 : Nat) (y5 : Nat) (y6 : Nat) (y7 : Nat) (y8 : Nat) (y9 : Nat) (pm : Int) (fl : Int) (pt : Int) (h : Int → Int) (hh : ∀ k, 0 ≤ h k ∧ h k ≤ 50) (hN : 0 ≤ h 40 ∧ h 40 ≤ 40) : hs_M l D cI cO yX7_sumOfMinima wsX7_sumOfMinima ({ frames := 1, cells := 0, slots := 0, locals := 24 } : Room) [.ref y0] [hs_ob y0 7 [.ref y1, .ref y2, hs_V pm, .ref y3, hs_V fl, .ref y4, .ref y5, .ref y6, .ref y7, hs_V pt, .ref y8, .ref y9], hs_ia cI y1 41 h] (fun r (_ : Unit) => r = hs_I (mo_som h)) (fun _ => [hs_ob y0 7 [.ref y1, .ref y2, hs_V pm, .ref y3, hs_V fl, .ref y4, .ref y5, .ref y6, .ref y7, hs_V pt, .ref y8, .ref y9], hs_ia cI y1 41 h]) 0 0 := by
  refine hs_enter (cc := cX7_sumOfMinima) (maxL := 4) (by decide +kernel) rfl (Nat.le_of_ble_eq_true rfl) (fun p e s m args below meth c A H0 Q C hret => ?_)
  refine hs_lvs (lv' := [(0, .ref y0)]) [0] rfl ?_
  refine hs_iconst C dX7_sumOfMinima_0 ?_
  refine hs_istore_n (lv' := [(0, .ref y0), (1, hs_V 0)]) C dX7_sumOfMinima_1 rfl (by decide) [1, 0] rfl ?_
  refine hs_iconst C dX7_sumOfMinima_2 ?_
  refine hs_istore_n (lv' := [(0, .ref y0), (1, hs_V 0), (2, hs_V 0)]) C dX7_sumOfMinima_3 rfl (by decide) [1, 2, 0] rfl ?_
  have Lp1 : ∀ (k : Nat) (a : Int) (x : Int), (0 ≤ a ∧ a ≤ h 40) → (hs_up (mo_somO h) a (h 40) x = mo_som h) → (h 40 - a < (k : Int)) → hs_J p l e ({ frames := 1, cells := 0, slots := 0, locals := 24 } : Room) s m args below meth c D A H0 4 0 0 Q 4 [(0, .ref y0), (1, hs_V x), (2, hs_V a)] [] [hs_ob y0 7 [.ref y1, .ref y2, hs_V pm, .ref y3, hs_V fl, .ref y4, .ref y5, .ref y6, .ref y7, hs_V pt, .ref y8, .ref y9], hs_ia cI y1 41 h] := by
    intro k
    induction k with
    | zero =>
      intro a x ha hL hk
      exact absurd hk (by omega)
    | succ k ih =>
      intro a x ha hL hk
      have ih2 := ih
      refine hs_iload_n C dX7_sumOfMinima_4 rfl 2 rfl ?_
      refine hs_aload_n C dX7_sumOfMinima_5 rfl 0 rfl ?_
      refine hs_callVi (win := [hs_ob y0 7 [.ref y1, .ref y2, hs_V pm, .ref y3, hs_V fl, .ref y4, .ref y5, .ref y6, .ref y7, hs_V pt, .ref y8, .ref y9], hs_ia cI y1 41 h]) (wr := []) (As := []) (rest := [hs_V a]) C (c_X7_many l D cI cO y0 y1 y2 y3 y4 y5 y6 y7 y8 y9 pm fl pt h ) 7 0 rfl rfl rfl (cwV 0 C.1.2.2.2.2 gX7_sumOfMinima_X7_many rfl rfl rfl (by decide +kernel) ⟨Nat.le_of_ble_eq_true rfl, Nat.le_of_ble_eq_true rfl⟩) rfl rfl (Nat.le_of_ble_eq_true rfl) dX7_sumOfMinima_6 ⟨Nat.le_of_ble_eq_true rfl, Nat.le_of_ble_eq_true rfl⟩ (fun rr uu3 hp => ?_)
      obtain rfl := hp
      refine hs_re0 (w' := [hs_ob y0 7 [.ref y1, .ref y2, hs_V pm, .ref y3, hs_V fl, .ref y4, .ref y5, .ref y6, .ref y7, hs_V pt, .ref y8, .ref y9], hs_ia cI y1 41 h]) [0, 1] rfl (by decide) ?_
      refine hs_icmp_ge (tgt := 43) C dX7_sumOfMinima_9 (by decide) (by omega) (by omega) (fun c4 => ?_) (fun c4 => ?_)
      ·
        refine hs_iload_n C dX7_sumOfMinima_43 rfl 1 rfl ?_
        exact hret _ _ _ () (by rw [← hL, hs_up_done (by omega)]) dX7_sumOfMinima_44 rfl
      ·
        refine hs_iload_n C dX7_sumOfMinima_12 rfl 2 rfl ?_
        refine hs_istore_n (lv' := [(0, .ref y0), (1, hs_V x), (2, hs_V a), (3, hs_V a)]) C dX7_sumOfMinima_13 rfl (by decide) [1, 2, 3, 0] rfl ?_
        have Lp5 : ∀ (k : Nat) (b : Int) (x1 : Int), (a ≤ b ∧ b ≤ h 40) → (hs_up (fun b x => x + mo_mn h a b) b (h 40) x1 = hs_up (fun b x => x + mo_mn h a b) a (h 40) x) → (h 40 - b < (k : Int)) → hs_J p l e ({ frames := 1, cells := 0, slots := 0, locals := 24 } : Room) s m args below meth c D A H0 4 0 0 Q 14 [(0, .ref y0), (1, hs_V x1), (2, hs_V a), (3, hs_V b)] [] [hs_ob y0 7 [.ref y1, .ref y2, hs_V pm, .ref y3, hs_V fl, .ref y4, .ref y5, .ref y6, .ref y7, hs_V pt, .ref y8, .ref y9], hs_ia cI y1 41 h] := by
          intro k
          induction k with
          | zero =>
            intro b x1 hb hM hk
            exact absurd hk (by omega)
          | succ k ih =>
            intro b x1 hb hM hk
            have ih6 := ih
            refine hs_iload_n C dX7_sumOfMinima_14 rfl 3 rfl ?_
            refine hs_aload_n C dX7_sumOfMinima_15 rfl 0 rfl ?_
            refine hs_callVi (win := [hs_ob y0 7 [.ref y1, .ref y2, hs_V pm, .ref y3, hs_V fl, .ref y4, .ref y5, .ref y6, .ref y7, hs_V pt, .ref y8, .ref y9], hs_ia cI y1 41 h]) (wr := []) (As := []) (rest := [hs_V b]) C (c_X7_many l D cI cO y0 y1 y2 y3 y4 y5 y6 y7 y8 y9 pm fl pt h ) 7 0 rfl rfl rfl (cwV 0 C.1.2.2.2.2 gX7_sumOfMinima_X7_many rfl rfl rfl (by decide +kernel) ⟨Nat.le_of_ble_eq_true rfl, Nat.le_of_ble_eq_true rfl⟩) rfl rfl (Nat.le_of_ble_eq_true rfl) dX7_sumOfMinima_16 ⟨Nat.le_of_ble_eq_true rfl, Nat.le_of_ble_eq_true rfl⟩ (fun rr uu7 hp => ?_)
            obtain rfl := hp
            refine hs_re0 (w' := [hs_ob y0 7 [.ref y1, .ref y2, hs_V pm, .ref y3, hs_V fl, .ref y4, .ref y5, .ref y6, .ref y7, hs_V pt, .ref y8, .ref y9], hs_ia cI y1 41 h]) [0, 1] rfl (by decide) ?_
            refine hs_icmp_ge (tgt := 37) C dX7_sumOfMinima_19 (by decide) (by omega) (by omega) (fun c8 => ?_) (fun c8 => ?_)
            ·
              refine hs_iinc (lv' := [(0, .ref y0), (1, hs_V x1), (2, hs_V (a + 1)), (3, hs_V b)]) C dX7_sumOfMinima_37 2 rfl (by decide) [1, 2, 0, 3] rfl ?_
              refine hs_goto (tgt := 4) C dX7_sumOfMinima_40 (by decide) ?_
              refine hs_lvs (lv' := [(0, .ref y0), (1, hs_V x1), (2, hs_V (a + 1))]) [0, 1, 2] rfl ?_
              exact ih2 (a + 1) x1 (by omega) (by have hz := (hs_up_step (by omega)).symm.trans hL; have he : mo_somO h a x = x1 := (by unfold mo_somO; rw [← hM, hs_up_done (by omega)]); rw [he] at hz; exact hz) (by omega)
            ·
              refine hs_iload_n C dX7_sumOfMinima_22 rfl 1 rfl ?_
              refine hs_aload_n C dX7_sumOfMinima_23 rfl 0 rfl ?_
              refine hs_iload_n C dX7_sumOfMinima_24 rfl 2 rfl ?_
              refine hs_iload_n C dX7_sumOfMinima_25 rfl 3 rfl ?_
              refine hs_callVi (win := [hs_ob y0 7 [.ref y1, .ref y2, hs_V pm, .ref y3, hs_V fl, .ref y4, .ref y5, .ref y6, .ref y7, hs_V pt, .ref y8, .ref y9], hs_ia cI y1 41 h]) (wr := []) (As := [hs_V a, hs_V b]) (rest := [hs_V x1]) C (c_X7_least l D cI cO y0 y1 y2 y3 y4 y5 y6 y7 y8 y9 pm fl pt h a b hh (by omega)) 7 0 rfl rfl rfl (cwV 2 C.1.2.2.2.2 gX7_sumOfMinima_X7_least rfl rfl rfl (by decide +kernel) ⟨Nat.le_of_ble_eq_true rfl, Nat.le_of_ble_eq_true rfl⟩) rfl rfl (Nat.le_of_ble_eq_true rfl) dX7_sumOfMinima_26 ⟨Nat.le_of_ble_eq_true rfl, Nat.le_of_ble_eq_true rfl⟩ (fun rr uu9 hp => ?_)
              obtain rfl := hp
              refine hs_re0 (w' := [hs_ob y0 7 [.ref y1, .ref y2, hs_V pm, .ref y3, hs_V fl, .ref y4, .ref y5, .ref y6, .ref y7, hs_V pt, .ref y8, .ref y9], hs_ia cI y1 41 h]) [0, 1] rfl (by decide) ?_
              refine hs_iadd C dX7_sumOfMinima_29 ?_
              refine hs_istore_n (lv' := [(0, .ref y0), (1, hs_V (x1 + (mo_mn h a b))), (2, hs_V a), (3, hs_V b)]) C dX7_sumOfMinima_30 rfl (by decide) [1, 0, 2, 3] rfl ?_
              refine hs_iinc (lv' := [(0, .ref y0), (1, hs_V (x1 + (mo_mn h a b))), (2, hs_V a), (3, hs_V (b + 1))]) C dX7_sumOfMinima_31 3 rfl (by decide) [1, 2, 3, 0] rfl ?_
              refine hs_goto (tgt := 14) C dX7_sumOfMinima_34 (by decide) ?_
              exact ih6 (b + 1) (x1 + (mo_mn h a b)) (by omega) ((hs_up_step (by omega)).symm.trans hM) (by omega)
        exact Lp5 ((h 40 - a : Int).toNat + 1) a x (by omega) (rfl) (by omega)
  exact Lp1 ((h 40 - 0 : Int).toNat + 1) 0 0 (by omega) (rfl) (by omega)

set_option maxHeartbeats 4000000 in
set_option maxRecDepth 100000 in
theorem c_X7_ranges (l : Launch) (D : va_G) (cI cO : ClassId) (y0 : Nat) (y1 : Nat) (y2 : Nat) (y3 : Nat) (y4 : Nat) (y5 : Nat) (y6 : Nat) (y7 : Nat) (y8 : Nat) (y9 : Nat) (pm : Int) (fl : Int) (pt : Int) (h : Int → Int) (lo : Int) (hh : ∀ k, 0 ≤ h k ∧ h k ≤ 50) (hN : 0 ≤ h 40 ∧ h 40 ≤ 40) (hzl : hs_in lo) : hs_M l D cI cO yX7_ranges wsX7_ranges ({ frames := 1, cells := 0, slots := 0, locals := 24 } : Room) [.ref y0, hs_V lo] [hs_ob y0 7 [.ref y1, .ref y2, hs_V pm, .ref y3, hs_V fl, .ref y4, .ref y5, .ref y6, .ref y7, hs_V pt, .ref y8, .ref y9], hs_ia cI y1 41 h] (fun r (_ : Unit) => r = hs_I (mo_ranges lo h)) (fun _ => [hs_ob y0 7 [.ref y1, .ref y2, hs_V pm, .ref y3, hs_V fl, .ref y4, .ref y5, .ref y6, .ref y7, hs_V pt, .ref y8, .ref y9], hs_ia cI y1 41 h]) 0 0 := by
  refine hs_enter (cc := cX7_ranges) (maxL := 5) (by decide +kernel) rfl (Nat.le_of_ble_eq_true rfl) (fun p e s m args below meth c A H0 Q C hret => ?_)
  refine hs_lvs (lv' := [(0, .ref y0), (1, hs_V lo)]) [0, 1] rfl ?_
  refine hs_iload_n C dX7_ranges_0 rfl 1 rfl ?_
  refine hs_iconst C dX7_ranges_1 ?_
  refine hs_bipush C dX7_ranges_2 (by decide) ?_
  refine hs_callSi (win := []) (wr := [hs_ob y0 7 [.ref y1, .ref y2, hs_V pm, .ref y3, hs_V fl, .ref y4, .ref y5, .ref y6, .ref y7, hs_V pt, .ref y8, .ref y9], hs_ia cI y1 41 h]) (As := [hs_V lo, hs_V 0, hs_V 50]) (rest := []) C (c_X7_isIn l D cI cO lo 0 50 (by omega) (by omega) (by omega)) (va_cwS 3 C.1.2.2.2.2 gX7_ranges_X7_isIn rfl rfl rfl (by decide +kernel) ⟨Nat.le_of_ble_eq_true rfl, Nat.le_of_ble_eq_true rfl⟩) rfl rfl (Nat.le_of_ble_eq_true rfl) dX7_ranges_4 ⟨Nat.le_of_ble_eq_true rfl, Nat.le_of_ble_eq_true rfl⟩ (fun rr uu1 hp => ?_)
  obtain rfl := hp
  refine hs_re0 (w' := [hs_ob y0 7 [.ref y1, .ref y2, hs_V pm, .ref y3, hs_V fl, .ref y4, .ref y5, .ref y6, .ref y7, hs_V pt, .ref y8, .ref y9], hs_ia cI y1 41 h]) [0, 1] rfl (by decide) ?_
  refine hs_ifne_b (tgt := 12) C dX7_ranges_7 (by decide) (fun c2 => ?_) (fun c2 => ?_)
  ·
    refine hs_iconst C dX7_ranges_12 ?_
    refine hs_istore_n (lv' := [(0, .ref y0), (1, hs_V lo), (2, hs_V 0)]) C dX7_ranges_13 rfl (by decide) [1, 2, 0] rfl ?_
    refine hs_iconst C dX7_ranges_14 ?_
    refine hs_istore_n (lv' := [(0, .ref y0), (1, hs_V lo), (2, hs_V 0), (3, hs_V 0)]) C dX7_ranges_15 rfl (by decide) [1, 2, 3, 0] rfl ?_
    have Lp3 : ∀ (k : Nat) (a : Int) (x : Int), (0 ≤ a ∧ a ≤ h 40) → (hs_up (mo_rgO h lo) a (h 40) x = mo_rg h lo) → (h 40 - a < (k : Int)) → hs_J p l e ({ frames := 1, cells := 0, slots := 0, locals := 24 } : Room) s m args below meth c D A H0 5 0 0 Q 16 [(0, .ref y0), (1, hs_V lo), (2, hs_V x), (3, hs_V a)] [] [hs_ob y0 7 [.ref y1, .ref y2, hs_V pm, .ref y3, hs_V fl, .ref y4, .ref y5, .ref y6, .ref y7, hs_V pt, .ref y8, .ref y9], hs_ia cI y1 41 h] := by
      intro k
      induction k with
      | zero =>
        intro a x ha hL hk
        exact absurd hk (by omega)
      | succ k ih =>
        intro a x ha hL hk
        have ih4 := ih
        refine hs_iload_n C dX7_ranges_16 rfl 3 rfl ?_
        refine hs_aload_n C dX7_ranges_17 rfl 0 rfl ?_
        refine hs_callVi (win := [hs_ob y0 7 [.ref y1, .ref y2, hs_V pm, .ref y3, hs_V fl, .ref y4, .ref y5, .ref y6, .ref y7, hs_V pt, .ref y8, .ref y9], hs_ia cI y1 41 h]) (wr := []) (As := []) (rest := [hs_V a]) C (c_X7_many l D cI cO y0 y1 y2 y3 y4 y5 y6 y7 y8 y9 pm fl pt h ) 7 0 rfl rfl rfl (cwV 0 C.1.2.2.2.2 gX7_ranges_X7_many rfl rfl rfl (by decide +kernel) ⟨Nat.le_of_ble_eq_true rfl, Nat.le_of_ble_eq_true rfl⟩) rfl rfl (Nat.le_of_ble_eq_true rfl) dX7_ranges_18 ⟨Nat.le_of_ble_eq_true rfl, Nat.le_of_ble_eq_true rfl⟩ (fun rr uu5 hp => ?_)
        obtain rfl := hp
        refine hs_re0 (w' := [hs_ob y0 7 [.ref y1, .ref y2, hs_V pm, .ref y3, hs_V fl, .ref y4, .ref y5, .ref y6, .ref y7, hs_V pt, .ref y8, .ref y9], hs_ia cI y1 41 h]) [0, 1] rfl (by decide) ?_
        refine hs_icmp_ge (tgt := 67) C dX7_ranges_21 (by decide) (by omega) (by omega) (fun c6 => ?_) (fun c6 => ?_)
        ·
          refine hs_iload_n C dX7_ranges_67 rfl 2 rfl ?_
          exact hret _ _ _ () (by unfold mo_ranges; rw [if_neg (by omega), ← hL, hs_up_done (by omega)]) dX7_ranges_68 rfl
        ·
          refine hs_iload_n C dX7_ranges_24 rfl 3 rfl ?_
          refine hs_istore (lv' := [(0, .ref y0), (1, hs_V lo), (2, hs_V x), (3, hs_V a), (4, hs_V a)]) C dX7_ranges_25 (by decide) [1, 2, 3, 4, 0] rfl ?_
          have Lp7 : ∀ (k : Nat) (b : Int) (x1 : Int), (a ≤ b ∧ b ≤ h 40) → (hs_up (fun b x => if mo_mn h a b < lo then x + 0 else x + 1) b (h 40) x1 = hs_up (fun b x => if mo_mn h a b < lo then x + 0 else x + 1) a (h 40) x) → (h 40 - b < (k : Int)) → hs_J p l e ({ frames := 1, cells := 0, slots := 0, locals := 24 } : Room) s m args below meth c D A H0 5 0 0 Q 27 [(0, .ref y0), (1, hs_V lo), (2, hs_V x1), (3, hs_V a), (4, hs_V b)] [] [hs_ob y0 7 [.ref y1, .ref y2, hs_V pm, .ref y3, hs_V fl, .ref y4, .ref y5, .ref y6, .ref y7, hs_V pt, .ref y8, .ref y9], hs_ia cI y1 41 h] := by
            intro k
            induction k with
            | zero =>
              intro b x1 hb hM hk
              exact absurd hk (by omega)
            | succ k ih =>
              intro b x1 hb hM hk
              have ih8 := ih
              have qm := mo_mn_bd (a := a) (b := b) hh
              refine hs_iload C dX7_ranges_27 4 rfl ?_
              refine hs_aload_n C dX7_ranges_29 rfl 0 rfl ?_
              refine hs_callVi (win := [hs_ob y0 7 [.ref y1, .ref y2, hs_V pm, .ref y3, hs_V fl, .ref y4, .ref y5, .ref y6, .ref y7, hs_V pt, .ref y8, .ref y9], hs_ia cI y1 41 h]) (wr := []) (As := []) (rest := [hs_V b]) C (c_X7_many l D cI cO y0 y1 y2 y3 y4 y5 y6 y7 y8 y9 pm fl pt h ) 7 0 rfl rfl rfl (cwV 0 C.1.2.2.2.2 gX7_ranges_X7_many rfl rfl rfl (by decide +kernel) ⟨Nat.le_of_ble_eq_true rfl, Nat.le_of_ble_eq_true rfl⟩) rfl rfl (Nat.le_of_ble_eq_true rfl) dX7_ranges_30 ⟨Nat.le_of_ble_eq_true rfl, Nat.le_of_ble_eq_true rfl⟩ (fun rr uu9 hp => ?_)
              obtain rfl := hp
              refine hs_re0 (w' := [hs_ob y0 7 [.ref y1, .ref y2, hs_V pm, .ref y3, hs_V fl, .ref y4, .ref y5, .ref y6, .ref y7, hs_V pt, .ref y8, .ref y9], hs_ia cI y1 41 h]) [0, 1] rfl (by decide) ?_
              refine hs_icmp_ge (tgt := 61) C dX7_ranges_33 (by decide) (by omega) (by omega) (fun c10 => ?_) (fun c10 => ?_)
              ·
                refine hs_iinc (lv' := [(0, .ref y0), (1, hs_V lo), (2, hs_V x1), (3, hs_V (a + 1)), (4, hs_V b)]) C dX7_ranges_61 3 rfl (by decide) [1, 2, 3, 0, 4] rfl ?_
                refine hs_goto (tgt := 16) C dX7_ranges_64 (by decide) ?_
                refine hs_lvs (lv' := [(0, .ref y0), (1, hs_V lo), (2, hs_V x1), (3, hs_V (a + 1))]) [0, 1, 2, 3] rfl ?_
                exact ih4 (a + 1) x1 (by omega) (by have hz := (hs_up_step (by omega)).symm.trans hL; have he : mo_rgO h lo a x = x1 := (by unfold mo_rgO; rw [← hM, hs_up_done (by omega)]); rw [he] at hz; exact hz) (by omega)
              ·
                refine hs_iload_n C dX7_ranges_36 rfl 2 rfl ?_
                refine hs_aload_n C dX7_ranges_37 rfl 0 rfl ?_
                refine hs_iload_n C dX7_ranges_38 rfl 3 rfl ?_
                refine hs_iload C dX7_ranges_39 4 rfl ?_
                refine hs_callVi (win := [hs_ob y0 7 [.ref y1, .ref y2, hs_V pm, .ref y3, hs_V fl, .ref y4, .ref y5, .ref y6, .ref y7, hs_V pt, .ref y8, .ref y9], hs_ia cI y1 41 h]) (wr := []) (As := [hs_V a, hs_V b]) (rest := [hs_V x1]) C (c_X7_least l D cI cO y0 y1 y2 y3 y4 y5 y6 y7 y8 y9 pm fl pt h a b hh (by omega)) 7 0 rfl rfl rfl (cwV 2 C.1.2.2.2.2 gX7_ranges_X7_least rfl rfl rfl (by decide +kernel) ⟨Nat.le_of_ble_eq_true rfl, Nat.le_of_ble_eq_true rfl⟩) rfl rfl (Nat.le_of_ble_eq_true rfl) dX7_ranges_41 ⟨Nat.le_of_ble_eq_true rfl, Nat.le_of_ble_eq_true rfl⟩ (fun rr uu11 hp => ?_)
                obtain rfl := hp
                refine hs_re0 (w' := [hs_ob y0 7 [.ref y1, .ref y2, hs_V pm, .ref y3, hs_V fl, .ref y4, .ref y5, .ref y6, .ref y7, hs_V pt, .ref y8, .ref y9], hs_ia cI y1 41 h]) [0, 1] rfl (by decide) ?_
                refine hs_iload_n C dX7_ranges_44 rfl 1 rfl ?_
                refine hs_icmp_lt (tgt := 52) C dX7_ranges_45 (by decide) (by omega) (by omega) (fun c12 => ?_) (fun c12 => ?_)
                ·
                  refine hs_iconst C dX7_ranges_52 ?_
                  refine hs_iadd C dX7_ranges_53 ?_
                  refine hs_istore_n (lv' := [(0, .ref y0), (1, hs_V lo), (2, hs_V (x1 + 0)), (3, hs_V a), (4, hs_V b)]) C dX7_ranges_54 rfl (by decide) [1, 2, 0, 3, 4] rfl ?_
                  refine hs_iinc (lv' := [(0, .ref y0), (1, hs_V lo), (2, hs_V (x1 + 0)), (3, hs_V a), (4, hs_V (b + 1))]) C dX7_ranges_55 4 rfl (by decide) [1, 2, 3, 4, 0] rfl ?_
                  refine hs_goto (tgt := 27) C dX7_ranges_58 (by decide) ?_
                  exact ih8 (b + 1) (x1 + 0) (by omega) (by have hz := (hs_up_step (by omega)).symm.trans hM; (try dsimp only at hz); first | exact hz | (split at hz <;> first | exact hz | (exfalso; omega) | (split at hz <;> first | exact hz | (exfalso; omega) | (split at hz <;> first | exact hz | (exfalso; omega))))) (by omega)
                ·
                  refine hs_iconst C dX7_ranges_48 ?_
                  refine hs_goto (tgt := 53) C dX7_ranges_49 (by decide) ?_
                  refine hs_iadd C dX7_ranges_53 ?_
                  refine hs_istore_n (lv' := [(0, .ref y0), (1, hs_V lo), (2, hs_V (x1 + 1)), (3, hs_V a), (4, hs_V b)]) C dX7_ranges_54 rfl (by decide) [1, 2, 0, 3, 4] rfl ?_
                  refine hs_iinc (lv' := [(0, .ref y0), (1, hs_V lo), (2, hs_V (x1 + 1)), (3, hs_V a), (4, hs_V (b + 1))]) C dX7_ranges_55 4 rfl (by decide) [1, 2, 3, 4, 0] rfl ?_
                  refine hs_goto (tgt := 27) C dX7_ranges_58 (by decide) ?_
                  exact ih8 (b + 1) (x1 + 1) (by omega) (by have hz := (hs_up_step (by omega)).symm.trans hM; (try dsimp only at hz); first | exact hz | (split at hz <;> first | exact hz | (exfalso; omega) | (split at hz <;> first | exact hz | (exfalso; omega) | (split at hz <;> first | exact hz | (exfalso; omega))))) (by omega)
          exact Lp7 ((h 40 - a : Int).toNat + 1) a x (by omega) (rfl) (by omega)
    exact Lp3 ((h 40 - 0 : Int).toNat + 1) 0 0 (by omega) (rfl) (by omega)
  ·
    refine hs_iconst C dX7_ranges_10 ?_
    exact hret _ _ _ () (by unfold mo_ranges; rw [if_pos (by omega)]) dX7_ranges_11 rfl

set_option maxHeartbeats 4000000 in
set_option maxRecDepth 100000 in
theorem c_X7_init (l : Launch) (D : va_G) (cI cO : ClassId) (q0 : Nat) : hs_Mv l D cI cO yX7_init wsX7_init ({ frames := 1, cells := 9, slots := 753, locals := 24 } : Room) [.ref q0] [hs_ob q0 7 [.null, .null, hs_V 0, .null, hs_V 0, .null, .null, .null, .null, hs_V 0, .null, .null]] (fun (u : Nat → Nat) => True) (fun u => [hs_ob q0 7 [.ref (u 0), .ref (u 1), hs_V 0, .ref (u 2), hs_V 0, .ref (u 3), .ref (u 4), .ref (u 5), .ref (u 6), hs_V 0, .ref (u 7), .ref (u 8)], hs_ia cI (u 0) 41 (hs_u (fun _ => 0) 40 0), hs_ia cI (u 1) 328 (fun _ => 0), hs_ia cI (u 2) 82 (fun _ => 0), hs_ia cI (u 3) 40 (fun _ => 0), hs_ia cI (u 4) 60 (fun _ => 0), hs_ia cI (u 5) 60 (fun _ => 0), hs_ia cI (u 6) 60 (fun _ => 0), hs_ia cI (u 7) 41 (fun _ => 0), hs_ia cI (u 8) 41 (fun _ => 0)]) 9 753 := by
  refine hs_enterV (cc := cX7_init) (maxL := 1) (by decide +kernel) rfl (Nat.le_of_ble_eq_true rfl) (fun p e s m args below meth c A H0 Q C hin2 hret => ?_)
  have ob1 := C.1.2.2.2.2 (.methodLink RX7 1 Lib.objectInit) (by decide +kernel)
  have ob2 := C.1.2.2.2.2 (.instanceMethod Lib.objectInit) (by decide +kernel)
  have ob3 := C.1.2.2.2.2 (.code Lib.objectInit ⟨#[0xb1]⟩ 1 none) (by decide +kernel)
  have arI := C.1.2.2.2.2 (.arrayClass .int) (by decide +kernel)
  have f7 := C.1.2.2.2.2 (.fieldLink RX7 7 "HistogramStairsModel" "h" "[I") (by decide +kernel)
  have u7 : ∀ w ∈ wsX70, w ∈ wsX7_init := by decide +kernel
  have f13 := C.1.2.2.2.2 (.fieldLink RX7 13 "HistogramStairsModel" "past" "[I") (by decide +kernel)
  have f16 := C.1.2.2.2.2 (.fieldLink RX7 16 "HistogramStairsModel" "images" "[I") (by decide +kernel)
  have f19 := C.1.2.2.2.2 (.fieldLink RX7 19 "HistogramStairsModel" "wet" "[I") (by decide +kernel)
  have f22 := C.1.2.2.2.2 (.fieldLink RX7 22 "HistogramStairsModel" "areas" "[I") (by decide +kernel)
  have f25 := C.1.2.2.2.2 (.fieldLink RX7 25 "HistogramStairsModel" "firsts" "[I") (by decide +kernel)
  have f28 := C.1.2.2.2.2 (.fieldLink RX7 28 "HistogramStairsModel" "lasts" "[I") (by decide +kernel)
  have f31 := C.1.2.2.2.2 (.fieldLink RX7 31 "HistogramStairsModel" "above" "[I") (by decide +kernel)
  have f34 := C.1.2.2.2.2 (.fieldLink RX7 34 "HistogramStairsModel" "next" "[I") (by decide +kernel)
  refine hs_lvs (lv' := [(0, .ref q0)]) [0] rfl ?_
  refine hs_aload_n C dX7_init_0 rfl 0 rfl ?_
  refine hs_obj C ob1 ob2 ob3 (Nat.le_of_ble_eq_true rfl) (Nat.le_of_ble_eq_true rfl) (Nat.le_of_ble_eq_true rfl) dX7_init_1 ?_
  refine hs_aload_n C dX7_init_4 rfl 0 rfl ?_
  refine hs_bipush C dX7_init_5 (by decide) ?_
  refine hs_newi (n := 41) C arI rfl (by decide) (Nat.le_of_ble_eq_true rfl) (Nat.le_of_ble_eq_true rfl) dX7_init_7 (fun q1 => ?_)
  refine hs_cast (ws' := [hs_ob q0 7 [.null, .null, hs_V 0, .null, hs_V 0, .null, .null, .null, .null, hs_V 0, .null, .null], hs_ia cI q1 41 (fun _ => 0)]) ?_ rfl rfl rfl rfl
  refine hs_putF (ty := .array .int) (ws' := [hs_ob q0 7 [.ref q1, .null, hs_V 0, .null, hs_V 0, .null, .null, .null, .null, hs_V 0, .null, .null], hs_ia cI q1 41 (fun _ => 0)]) C u7 tyX7 tyX7_ok nmX7 0 rfl rfl 0 (by decide) f7 rfl rfl hin2 rfl (by decide +kernel) rfl rfl (Nat.le_of_ble_eq_true rfl) rfl dX7_init_9 ?_
  refine hs_aload_n C dX7_init_12 rfl 0 rfl ?_
  refine hs_sipush C dX7_init_13 (by decide) ?_
  refine hs_newi (n := 328) C arI rfl (by decide) (Nat.le_of_ble_eq_true rfl) (Nat.le_of_ble_eq_true rfl) dX7_init_16 (fun q2 => ?_)
  refine hs_cast (ws' := [hs_ob q0 7 [.ref q1, .null, hs_V 0, .null, hs_V 0, .null, .null, .null, .null, hs_V 0, .null, .null], hs_ia cI q1 41 (fun _ => 0), hs_ia cI q2 328 (fun _ => 0)]) ?_ rfl rfl rfl rfl
  refine hs_putF (ty := .array .int) (ws' := [hs_ob q0 7 [.ref q1, .ref q2, hs_V 0, .null, hs_V 0, .null, .null, .null, .null, hs_V 0, .null, .null], hs_ia cI q1 41 (fun _ => 0), hs_ia cI q2 328 (fun _ => 0)]) C u7 tyX7 tyX7_ok nmX7 0 rfl rfl 1 (by decide) f13 rfl rfl hin2 rfl (by decide +kernel) rfl rfl (Nat.le_of_ble_eq_true rfl) rfl dX7_init_18 ?_
  refine hs_aload_n C dX7_init_21 rfl 0 rfl ?_
  refine hs_bipush C dX7_init_22 (by decide) ?_
  refine hs_newi (n := 82) C arI rfl (by decide) (Nat.le_of_ble_eq_true rfl) (Nat.le_of_ble_eq_true rfl) dX7_init_24 (fun q3 => ?_)
  refine hs_cast (ws' := [hs_ob q0 7 [.ref q1, .ref q2, hs_V 0, .null, hs_V 0, .null, .null, .null, .null, hs_V 0, .null, .null], hs_ia cI q1 41 (fun _ => 0), hs_ia cI q2 328 (fun _ => 0), hs_ia cI q3 82 (fun _ => 0)]) ?_ rfl rfl rfl rfl
  refine hs_putF (ty := .array .int) (ws' := [hs_ob q0 7 [.ref q1, .ref q2, hs_V 0, .ref q3, hs_V 0, .null, .null, .null, .null, hs_V 0, .null, .null], hs_ia cI q1 41 (fun _ => 0), hs_ia cI q2 328 (fun _ => 0), hs_ia cI q3 82 (fun _ => 0)]) C u7 tyX7 tyX7_ok nmX7 0 rfl rfl 3 (by decide) f16 rfl rfl hin2 rfl (by decide +kernel) rfl rfl (Nat.le_of_ble_eq_true rfl) rfl dX7_init_26 ?_
  refine hs_aload_n C dX7_init_29 rfl 0 rfl ?_
  refine hs_bipush C dX7_init_30 (by decide) ?_
  refine hs_newi (n := 40) C arI rfl (by decide) (Nat.le_of_ble_eq_true rfl) (Nat.le_of_ble_eq_true rfl) dX7_init_32 (fun q4 => ?_)
  refine hs_cast (ws' := [hs_ob q0 7 [.ref q1, .ref q2, hs_V 0, .ref q3, hs_V 0, .null, .null, .null, .null, hs_V 0, .null, .null], hs_ia cI q1 41 (fun _ => 0), hs_ia cI q2 328 (fun _ => 0), hs_ia cI q3 82 (fun _ => 0), hs_ia cI q4 40 (fun _ => 0)]) ?_ rfl rfl rfl rfl
  refine hs_putF (ty := .array .int) (ws' := [hs_ob q0 7 [.ref q1, .ref q2, hs_V 0, .ref q3, hs_V 0, .ref q4, .null, .null, .null, hs_V 0, .null, .null], hs_ia cI q1 41 (fun _ => 0), hs_ia cI q2 328 (fun _ => 0), hs_ia cI q3 82 (fun _ => 0), hs_ia cI q4 40 (fun _ => 0)]) C u7 tyX7 tyX7_ok nmX7 0 rfl rfl 5 (by decide) f19 rfl rfl hin2 rfl (by decide +kernel) rfl rfl (Nat.le_of_ble_eq_true rfl) rfl dX7_init_34 ?_
  refine hs_aload_n C dX7_init_37 rfl 0 rfl ?_
  refine hs_bipush C dX7_init_38 (by decide) ?_
  refine hs_newi (n := 60) C arI rfl (by decide) (Nat.le_of_ble_eq_true rfl) (Nat.le_of_ble_eq_true rfl) dX7_init_40 (fun q5 => ?_)
  refine hs_cast (ws' := [hs_ob q0 7 [.ref q1, .ref q2, hs_V 0, .ref q3, hs_V 0, .ref q4, .null, .null, .null, hs_V 0, .null, .null], hs_ia cI q1 41 (fun _ => 0), hs_ia cI q2 328 (fun _ => 0), hs_ia cI q3 82 (fun _ => 0), hs_ia cI q4 40 (fun _ => 0), hs_ia cI q5 60 (fun _ => 0)]) ?_ rfl rfl rfl rfl
  refine hs_putF (ty := .array .int) (ws' := [hs_ob q0 7 [.ref q1, .ref q2, hs_V 0, .ref q3, hs_V 0, .ref q4, .ref q5, .null, .null, hs_V 0, .null, .null], hs_ia cI q1 41 (fun _ => 0), hs_ia cI q2 328 (fun _ => 0), hs_ia cI q3 82 (fun _ => 0), hs_ia cI q4 40 (fun _ => 0), hs_ia cI q5 60 (fun _ => 0)]) C u7 tyX7 tyX7_ok nmX7 0 rfl rfl 6 (by decide) f22 rfl rfl hin2 rfl (by decide +kernel) rfl rfl (Nat.le_of_ble_eq_true rfl) rfl dX7_init_42 ?_
  refine hs_aload_n C dX7_init_45 rfl 0 rfl ?_
  refine hs_bipush C dX7_init_46 (by decide) ?_
  refine hs_newi (n := 60) C arI rfl (by decide) (Nat.le_of_ble_eq_true rfl) (Nat.le_of_ble_eq_true rfl) dX7_init_48 (fun q6 => ?_)
  refine hs_cast (ws' := [hs_ob q0 7 [.ref q1, .ref q2, hs_V 0, .ref q3, hs_V 0, .ref q4, .ref q5, .null, .null, hs_V 0, .null, .null], hs_ia cI q1 41 (fun _ => 0), hs_ia cI q2 328 (fun _ => 0), hs_ia cI q3 82 (fun _ => 0), hs_ia cI q4 40 (fun _ => 0), hs_ia cI q5 60 (fun _ => 0), hs_ia cI q6 60 (fun _ => 0)]) ?_ rfl rfl rfl rfl
  refine hs_putF (ty := .array .int) (ws' := [hs_ob q0 7 [.ref q1, .ref q2, hs_V 0, .ref q3, hs_V 0, .ref q4, .ref q5, .ref q6, .null, hs_V 0, .null, .null], hs_ia cI q1 41 (fun _ => 0), hs_ia cI q2 328 (fun _ => 0), hs_ia cI q3 82 (fun _ => 0), hs_ia cI q4 40 (fun _ => 0), hs_ia cI q5 60 (fun _ => 0), hs_ia cI q6 60 (fun _ => 0)]) C u7 tyX7 tyX7_ok nmX7 0 rfl rfl 7 (by decide) f25 rfl rfl hin2 rfl (by decide +kernel) rfl rfl (Nat.le_of_ble_eq_true rfl) rfl dX7_init_50 ?_
  refine hs_aload_n C dX7_init_53 rfl 0 rfl ?_
  refine hs_bipush C dX7_init_54 (by decide) ?_
  refine hs_newi (n := 60) C arI rfl (by decide) (Nat.le_of_ble_eq_true rfl) (Nat.le_of_ble_eq_true rfl) dX7_init_56 (fun q7 => ?_)
  refine hs_cast (ws' := [hs_ob q0 7 [.ref q1, .ref q2, hs_V 0, .ref q3, hs_V 0, .ref q4, .ref q5, .ref q6, .null, hs_V 0, .null, .null], hs_ia cI q1 41 (fun _ => 0), hs_ia cI q2 328 (fun _ => 0), hs_ia cI q3 82 (fun _ => 0), hs_ia cI q4 40 (fun _ => 0), hs_ia cI q5 60 (fun _ => 0), hs_ia cI q6 60 (fun _ => 0), hs_ia cI q7 60 (fun _ => 0)]) ?_ rfl rfl rfl rfl
  refine hs_putF (ty := .array .int) (ws' := [hs_ob q0 7 [.ref q1, .ref q2, hs_V 0, .ref q3, hs_V 0, .ref q4, .ref q5, .ref q6, .ref q7, hs_V 0, .null, .null], hs_ia cI q1 41 (fun _ => 0), hs_ia cI q2 328 (fun _ => 0), hs_ia cI q3 82 (fun _ => 0), hs_ia cI q4 40 (fun _ => 0), hs_ia cI q5 60 (fun _ => 0), hs_ia cI q6 60 (fun _ => 0), hs_ia cI q7 60 (fun _ => 0)]) C u7 tyX7 tyX7_ok nmX7 0 rfl rfl 8 (by decide) f28 rfl rfl hin2 rfl (by decide +kernel) rfl rfl (Nat.le_of_ble_eq_true rfl) rfl dX7_init_58 ?_
  refine hs_aload_n C dX7_init_61 rfl 0 rfl ?_
  refine hs_bipush C dX7_init_62 (by decide) ?_
  refine hs_newi (n := 41) C arI rfl (by decide) (Nat.le_of_ble_eq_true rfl) (Nat.le_of_ble_eq_true rfl) dX7_init_64 (fun q8 => ?_)
  refine hs_cast (ws' := [hs_ob q0 7 [.ref q1, .ref q2, hs_V 0, .ref q3, hs_V 0, .ref q4, .ref q5, .ref q6, .ref q7, hs_V 0, .null, .null], hs_ia cI q1 41 (fun _ => 0), hs_ia cI q2 328 (fun _ => 0), hs_ia cI q3 82 (fun _ => 0), hs_ia cI q4 40 (fun _ => 0), hs_ia cI q5 60 (fun _ => 0), hs_ia cI q6 60 (fun _ => 0), hs_ia cI q7 60 (fun _ => 0), hs_ia cI q8 41 (fun _ => 0)]) ?_ rfl rfl rfl rfl
  refine hs_putF (ty := .array .int) (ws' := [hs_ob q0 7 [.ref q1, .ref q2, hs_V 0, .ref q3, hs_V 0, .ref q4, .ref q5, .ref q6, .ref q7, hs_V 0, .ref q8, .null], hs_ia cI q1 41 (fun _ => 0), hs_ia cI q2 328 (fun _ => 0), hs_ia cI q3 82 (fun _ => 0), hs_ia cI q4 40 (fun _ => 0), hs_ia cI q5 60 (fun _ => 0), hs_ia cI q6 60 (fun _ => 0), hs_ia cI q7 60 (fun _ => 0), hs_ia cI q8 41 (fun _ => 0)]) C u7 tyX7 tyX7_ok nmX7 0 rfl rfl 10 (by decide) f31 rfl rfl hin2 rfl (by decide +kernel) rfl rfl (Nat.le_of_ble_eq_true rfl) rfl dX7_init_66 ?_
  refine hs_aload_n C dX7_init_69 rfl 0 rfl ?_
  refine hs_bipush C dX7_init_70 (by decide) ?_
  refine hs_newi (n := 41) C arI rfl (by decide) (Nat.le_of_ble_eq_true rfl) (Nat.le_of_ble_eq_true rfl) dX7_init_72 (fun q9 => ?_)
  refine hs_cast (ws' := [hs_ob q0 7 [.ref q1, .ref q2, hs_V 0, .ref q3, hs_V 0, .ref q4, .ref q5, .ref q6, .ref q7, hs_V 0, .ref q8, .null], hs_ia cI q1 41 (fun _ => 0), hs_ia cI q2 328 (fun _ => 0), hs_ia cI q3 82 (fun _ => 0), hs_ia cI q4 40 (fun _ => 0), hs_ia cI q5 60 (fun _ => 0), hs_ia cI q6 60 (fun _ => 0), hs_ia cI q7 60 (fun _ => 0), hs_ia cI q8 41 (fun _ => 0), hs_ia cI q9 41 (fun _ => 0)]) ?_ rfl rfl rfl rfl
  refine hs_putF (ty := .array .int) (ws' := [hs_ob q0 7 [.ref q1, .ref q2, hs_V 0, .ref q3, hs_V 0, .ref q4, .ref q5, .ref q6, .ref q7, hs_V 0, .ref q8, .ref q9], hs_ia cI q1 41 (fun _ => 0), hs_ia cI q2 328 (fun _ => 0), hs_ia cI q3 82 (fun _ => 0), hs_ia cI q4 40 (fun _ => 0), hs_ia cI q5 60 (fun _ => 0), hs_ia cI q6 60 (fun _ => 0), hs_ia cI q7 60 (fun _ => 0), hs_ia cI q8 41 (fun _ => 0), hs_ia cI q9 41 (fun _ => 0)]) C u7 tyX7 tyX7_ok nmX7 0 rfl rfl 11 (by decide) f34 rfl rfl hin2 rfl (by decide +kernel) rfl rfl (Nat.le_of_ble_eq_true rfl) rfl dX7_init_74 ?_
  refine hs_aload_n C dX7_init_77 rfl 0 rfl ?_
  refine hs_get C u7 0 rfl rfl 0 (by decide) f7 rfl rfl dX7_init_78 ?_
  refine hs_bipush C dX7_init_81 (by decide) ?_
  refine hs_iconst C dX7_init_83 ?_
  refine hs_iast (ws' := [hs_ob q0 7 [.ref q1, .ref q2, hs_V 0, .ref q3, hs_V 0, .ref q4, .ref q5, .ref q6, .ref q7, hs_V 0, .ref q8, .ref q9], hs_ia cI q1 41 (hs_u (fun _ => 0) 40 0), hs_ia cI q2 328 (fun _ => 0), hs_ia cI q3 82 (fun _ => 0), hs_ia cI q4 40 (fun _ => 0), hs_ia cI q5 60 (fun _ => 0), hs_ia cI q6 60 (fun _ => 0), hs_ia cI q7 60 (fun _ => 0), hs_ia cI q8 41 (fun _ => 0), hs_ia cI q9 41 (fun _ => 0)]) C 1 rfl (by omega) rfl dX7_init_84 ?_
  exact hret _ _ (fun (j : Nat) => match j with | 0 => q1 | 1 => q2 | 2 => q3 | 3 => q4 | 4 => q5 | 5 => q6 | 6 => q7 | 7 => q8 | _ => q9) trivial dX7_init_85
