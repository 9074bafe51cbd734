theorem hs_L0 {u : Int → pu_Z} (hu : ∀ j, (u j).2.2 = (0, fun _ => 0)) : hs_L 0 (fun _ => 0) 0 u ((fun _ => 0), (0, (fun _ => 0), (fun _ => 0), (fun _ => 0), (fun _ => 0)), (fun _ => 0), (fun _ => 0), (fun _ => 0)) none none (hs_u (fun _ => 0) 40 0) (fun _ => 0) 0 (fun _ => 0) 0 (0, ((fun _ => 0), (fun _ => 0), (fun _ => 0)), (fun _ => 0), (fun _ => 0)) := by
  have hz : ∀ k, hs_u (fun _ => 0) 40 0 k = 0 := fun k => by unfold hs_u; split <;> rfl
  refine ⟨⟨?_, ?_, ?_, ?_, ?_, ?_, ?_, ?_, ?_, ?_, ?_⟩, ⟨?_, ⟨?_, ?_, ?_, ?_⟩, ?_, ?_, ?_⟩, ⟨⟨?_, ?_, ?_⟩, ?_, ?_⟩, ?_, ?_, ?_, ?_⟩
  · show (0 : Int) ≤ 0 ∧ (0 : Int) ≤ 40; omega
  · intro k; show (0 : Int) ≤ 0 ∧ (0 : Int) ≤ 50; omega
  · show (0 : Int) ≤ 0 ∧ (0 : Int) ≤ 8; omega
  · intro j; show 0 ≤ (u j).2.2.1 ∧ (u j).2.2.1 ≤ 40; rw [hu j]; show (0 : Int) ≤ 0 ∧ (0 : Int) ≤ 40; omega
  · intro j k; show 0 ≤ (u j).2.2.2 k ∧ (u j).2.2.2 k ≤ 50; rw [hu j]; show (0 : Int) ≤ 0 ∧ (0 : Int) ≤ 50; omega
  · intro k; show 0 ≤ hs_u (fun _ => 0) 40 0 k ∧ hs_u (fun _ => 0) 40 0 k ≤ 50; rw [hz k]; omega
  · exact hz 40
  · intro k k0 k1; exact hz k
  · intro k; show (0 : Int) ≤ 0 ∧ (0 : Int) ≤ 50; omega
  · rfl
  · intro j j0 j1; exfalso; have j2 : j < 0 := j1; omega
  · intro k; show (-50 : Int) ≤ 0 ∧ (0 : Int) ≤ 50; omega
  · intro k; show (0 : Int) ≤ 0 ∧ (0 : Int) ≤ 39; omega
  · intro k; show (0 : Int) ≤ 0 ∧ (0 : Int) ≤ 39; omega
  · intro k; show (0 : Int) ≤ 0 ∧ (0 : Int) ≤ 50; omega
  · intro k; show (0 : Int) ≤ 0 ∧ (0 : Int) ≤ 39; omega
  · intro k; first | (show (0 : Int) = -9 ∨ ((0 : Int) ≤ 0 ∧ (0 : Int) ≤ 39); omega) | (unfold pu_okP; omega) | omega
  · intro k; show (0 : Int) ≤ 0 ∧ (0 : Int) ≤ 39; omega
  · intro k; show (0 : Int) ≤ 0 ∧ (0 : Int) ≤ 40; omega
  · intro k; show (0 : Int) ≤ 0 ∧ (0 : Int) ≤ 2500; omega
  · intro k; show (0 : Int) ≤ 0 ∧ (0 : Int) ≤ 39; omega
  · intro k; show (0 : Int) ≤ 0 ∧ (0 : Int) ≤ 39; omega
  · intro k; show (0 : Int) ≤ 0 ∧ (0 : Int) ≤ 40; omega
  · intro k; show (0 : Int) ≤ 0 ∧ (0 : Int) ≤ 40; omega
  · omega
  · intro k; show (0 : Int) ≤ 0 ∧ (0 : Int) ≤ 50; omega
  · intro q; unfold mo_kept at q; omega
  · intro q; unfold mo_kept at q; omega
theorem hs_nf_in : ∀ q ∈ hs_nf, Cond.fieldLinkNest q.1 q.2.1 q.2.2.1 q.2.2.2.1 q.2.2.2.2 RX6 ∈ lw_tbl := by decide +kernel
theorem hs_nm_in : ∀ q ∈ hs_nm, Cond.methodLinkNest q.1 q.2.1 q.2.2 RX6 ∈ lw_tbl := by decide +kernel
theorem hs_ao_in : Cond.arrayOver (.object RX0) ∈ lw_tbl := by decide +kernel
theorem hs_ai_in : Cond.arrayClass .int ∈ lw_tbl := by decide +kernel
theorem hs_st (a b c : va_W) : (a ++ (b ++ c)).Perm (b ++ ((a ++ c) ++ [])) := by
  rw [List.append_nil, ← List.append_assoc, ← List.append_assoc]
  exact List.Perm.append_right c List.perm_append_comm
set_option maxHeartbeats 8000000 in
set_option maxRecDepth 100000 in
/-- THE LAW, from its entry -/
theorem whole_start {p : Program} {e : Env} {s : State} {m : MethodId} {below : List Frame} {meth : Method} {c : Code} (l : Launch) (hflags : l.flags = flags0) {b L : Nat} {xs : Nat → Int32} (hL : L ≤ 2048) (C0 : lw_At p s m meth c b L xs) : W p l e room_1 s m #[Value.ref b] below meth c s.heap [] 0 0 (lw_Z below #[Value.ref b] s) (entryFrame m ([Value.ref b] : List Value).toArray 4) := by
  obtain ⟨hx, hb, hr, hml, hown, hts, hX, hbl, hlocks, hgv⟩ := id C0
  have hbA : ¬ (fun q : Nat => s.heap.size ≤ q) b := Nat.not_le.mpr hbl
  obtain ⟨c0, iS0, hKn0⟩ := u_known (C := RX0) (T := TX0) (N := 2) (n := 2) hts inX0 (hts (.instantiable RX0 2) (by decide +kernel))
  obtain ⟨c1, iS1, hKn1⟩ := u_known (C := RX1) (T := TX1) (N := 2) (n := 2) hts inX1 (hts (.instantiable RX1 2) (by decide +kernel))
  obtain ⟨c2, iS2, hKn2⟩ := u_known (C := RX2) (T := TX2) (N := 1) (n := 1) hts inX2 (hts (.instantiable RX2 1) (by decide +kernel))
  obtain ⟨c3, iS3, hKn3⟩ := u_known (C := RX3) (T := TX3) (N := 5) (n := 5) hts inX3 (hts (.instantiable RX3 5) (by decide +kernel))
  obtain ⟨c4, iS4, hKn4⟩ := u_known (C := RX4) (T := TX4) (N := 2) (n := 2) hts inX4 (hts (.instantiable RX4 2) (by decide +kernel))
  obtain ⟨c5, iS5, hKn5⟩ := u_known (C := RX5) (T := TX5) (N := 1) (n := 1) hts inX5 (hts (.instantiable RX5 1) (by decide +kernel))
  obtain ⟨c6, iS6, hKn6⟩ := u_known (C := RX6) (T := TX6) (N := 7) (n := 7) hts inX6 (hts (.instantiable RX6 7) (by decide +kernel))
  obtain ⟨c7, iS7, hKn7⟩ := u_known (C := RX7) (T := TX7) (N := 12) (n := 12) hts inX7 (hts (.instantiable RX7 12) (by decide +kernel))
  obtain ⟨dC, dI, hKc⟩ : ∃ (dC : Nat → ClassId) (dI : Nat → Nat → Nat), ∀ (k : Nat) (q : vw_C), vwCl[k]? = some q → u_Kn s q.1 q.2.1 q.2.2 (dC k) (dI k) := by
    refine ⟨fun k => match k with | 0 => c0 | 1 => c1 | 2 => c2 | 3 => c3 | 4 => c4 | 5 => c5 | 6 => c6 | _ => c7, fun k => match k with | 0 => iS0 | 1 => iS1 | 2 => iS2 | 3 => iS3 | 4 => iS4 | 5 => iS5 | 6 => iS6 | _ => iS7, ?_⟩
    intro k q hq
    match k, hq with
    | 0, hq => cases hq; exact hKn0
    | 1, hq => cases hq; exact hKn1
    | 2, hq => cases hq; exact hKn2
    | 3, hq => cases hq; exact hKn3
    | 4, hq => cases hq; exact hKn4
    | 5, hq => cases hq; exact hKn5
    | 6, hq => cases hq; exact hKn6
    | 7, hq => cases hq; exact hKn7
    | k + 8, hq => simp [vwCl] at hq
  obtain ⟨cI, kI, compI, f1, f2, f3⟩ := Cond.arrayClass_spec (hts _ hs_ai_in)
  obtain ⟨comp, cO, kO, g1, g2, g3, g4, g5⟩ := Cond.arrayOver_spec (hts _ hs_ao_in)
  have hK : va_K (dC, dI) vwCl (hs_t cI cO) s := ⟨hKc, fun k q h => by
    match k, h with
    | 0, h => cases h; exact ⟨fun n z => ⟨fun k h => (by cases h), kI, f2, compI, f3⟩, f1⟩
    | 1, h => cases h; exact ⟨fun n z => ⟨fun k h => (by cases h), kO, g3, comp, g4⟩, kO, comp, g3, g4, g1, g5⟩
    | k + 2, h => simp at h⟩
  have hN : hs_N s := ⟨fun q hq => va_Nw.of rfl (hts _ (hs_nf_in q hq)), fun q hq => va_Nw.of rfl (hts _ (hs_nm_in q hq)), va_AO.of (hts _ hs_ao_in)⟩
  have C : hs_C p s m #[Value.ref b] c cL_law 4 wsL_law RL (dC, dI) cI cO (fun q : Nat => s.heap.size ≤ q) s.heap := ⟨⟨hx, hb, hml, hown, fun w hw => hts w (wsL_law_in w hw)⟩, hK, hN, fun q h => h⟩
  have hl := lv_entry ([.ref b]) (n := 4) (Nat.le_of_ble_eq_true rfl)
  rw [lg_entry_eq]
  generalize (lg_sl ([.ref b]) ++ List.replicate (4 - (lg_sl ([.ref b])).length) Slot.unset).toArray = ls at hl ⊢
  have hl : lv_has ls 4 [(0, .ref b)] := hl
  suffices K : hs_J p l e room_1 s m #[Value.ref b] below meth c (dC, dI) (fun q : Nat => s.heap.size ≤ q) s.heap 4 0 0 (lw_Z below #[Value.ref b] s) 0 [(0, .ref b)] [] [] from K s.heap [] ls (hs_Pm.mpr (fun q hq => by cases hq)) (hs_Dm.mpr ⟨List.nodup_nil, fun q hq => by cases hq⟩) va_S.rf hl
  refine hs_new (ci := 6) (fs := [.null, .null, .null, .null, .null, .null, .null]) C inlX6 tyX6 tyX6_ok (hts (.classLink RL 7 RX6) (by decide +kernel)) (hts (.instantiable RX6 7) (by decide +kernel)) (hts (.initialized RX6) (by decide +kernel)) rfl (fun j hj => by rcases (show j = 0 ∨ j = 1 ∨ j = 2 ∨ j = 3 ∨ j = 4 ∨ j = 5 ∨ j = 6 by omega) with rfl | rfl | rfl | rfl | rfl | rfl | rfl <;> rfl) (Nat.le_of_ble_eq_true rfl) (Nat.le_of_ble_eq_true rfl) dL_law_0 (fun x0 => ?_)
  refine hs_dup C dL_law_3 rfl ?_
  refine hs_callIv (win := [hs_ob x0 6 [.null, .null, .null, .null, .null, .null, .null]]) (wr := []) (As := []) (rest := [.ref x0]) C (c_X6_init l (dC, dI) cI cO x0) (cwI 0 C.1.2.2.2.2 gL_law_X6_init rfl rfl rfl (hts (.initialized RX6) (by decide +kernel)) (hts (.methodLink RL 9 yX6_init) (by decide +kernel)) (hts (.instanceMethod yX6_init) (by decide +kernel)) rfl (by decide +kernel) ⟨(Nat.le_of_ble_eq_true rfl), (Nat.le_of_ble_eq_true rfl)⟩) rfl rfl (Nat.le_of_ble_eq_true rfl) dL_law_4 ⟨(Nat.le_of_ble_eq_true rfl), (Nat.le_of_ble_eq_true rfl)⟩ (fun u hu => ?_)
  refine hs_astore_n (lv' := [(0, .ref b), (1, .ref x0)]) C dL_law_7 rfl (by decide) [1, 0] rfl ?_
  refine hs_new (ci := 7) (fs := [.null, .null, hs_V 0, .null, hs_V 0, .null, .null, .null, .null, hs_V 0, .null, .null]) C inlX7 tyX7 tyX7_ok (hts (.classLink RL 10 RX7) (by decide +kernel)) (hts (.instantiable RX7 12) (by decide +kernel)) (hts (.initialized RX7) (by decide +kernel)) rfl (fun j hj => by rcases (show j = 0 ∨ j = 1 ∨ j = 2 ∨ j = 3 ∨ j = 4 ∨ j = 5 ∨ j = 6 ∨ j = 7 ∨ j = 8 ∨ j = 9 ∨ j = 10 ∨ j = 11 by omega) with rfl | rfl | rfl | rfl | rfl | rfl | rfl | rfl | rfl | rfl | rfl | rfl <;> rfl) (Nat.le_of_ble_eq_true rfl) (Nat.le_of_ble_eq_true rfl) dL_law_8 (fun y0 => ?_)
  refine hs_perm List.perm_append_comm ?_
  refine hs_dup C dL_law_11 rfl ?_
  refine hs_callIv (win := [hs_ob y0 7 [.null, .null, hs_V 0, .null, hs_V 0, .null, .null, .null, .null, hs_V 0, .null, .null]]) (As := []) (rest := [.ref y0]) C (c_X7_init l (dC, dI) cI cO y0) (cwI 0 C.1.2.2.2.2 gL_law_X7_init rfl rfl rfl (hts (.initialized RX7) (by decide +kernel)) (hts (.methodLink RL 12 yX7_init) (by decide +kernel)) (hts (.instanceMethod yX7_init) (by decide +kernel)) rfl (by decide +kernel) ⟨(Nat.le_of_ble_eq_true rfl), (Nat.le_of_ble_eq_true rfl)⟩) rfl rfl (Nat.le_of_ble_eq_true rfl) dL_law_12 ⟨(Nat.le_of_ble_eq_true rfl), (Nat.le_of_ble_eq_true rfl)⟩ (fun v hv => ?_)
  refine hs_astore_n (lv' := [(0, .ref b), (1, .ref x0), (2, .ref y0)]) C dL_law_15 rfl (by decide) [1, 2, 0] rfl ?_
  refine hs_iconst C dL_law_16 ?_
  refine hs_istore_n (lv' := [(0, .ref b), (1, .ref x0), (2, .ref y0), (3, hs_V 0)]) C dL_law_17 rfl (by decide) [1, 2, 3, 0] rfl ?_
  refine hs_perm (hs_st [hs_ob x0 6 [.ref (u.1 0), .ref (u.1 2), .ref (u.1 4), .ref (u.1 5), .ref (u.1 7), .ref (u.1 12), .ref (u.1 15)], hs_ob (u.1 0) 0 [.ref (u.1 1), hs_V 0], hs_ia cI (u.1 1) 40 (fun _ => 0), hs_ra cO (u.1 4) 2 (hs_o2 none none), hs_ob (u.1 5) 5 [.ref (u.1 6)], hs_ia cI (u.1 6) 40 (fun _ => 0), hs_ob (u.1 7) 3 [.ref (u.1 8), .ref (u.1 9), .ref (u.1 10), .ref (u.1 11), hs_V 0], hs_ia cI (u.1 8) 40 (fun _ => 0), hs_ia cI (u.1 9) 40 (fun _ => 0), hs_ia cI (u.1 10) 40 (fun _ => 0), hs_ia cI (u.1 11) 40 (fun _ => 0), hs_ob (u.1 12) 4 [.ref (u.1 13), .ref (u.1 14)], hs_ia cI (u.1 13) 40 (fun _ => 0), hs_ia cI (u.1 14) 40 (fun _ => 0), hs_ob (u.1 15) 2 [.ref (u.1 16)], hs_ia cI (u.1 16) 40 (fun _ => 0)] [hs_ob y0 7 [.ref (v 0), .ref (v 1), hs_V 0, .ref (v 2), hs_V 0, .ref (v 3), .ref (v 4), .ref (v 5), .ref (v 6), hs_V 0, .ref (v 7), .ref (v 8)], hs_ia cI (v 0) 41 (hs_u (fun _ => 0) 40 0), hs_ia cI (v 1) 328 (fun _ => 0), hs_ia cI (v 2) 82 (fun _ => 0), hs_ia cI (v 3) 40 (fun _ => 0), hs_ia cI (v 4) 60 (fun _ => 0), hs_ia cI (v 5) 60 (fun _ => 0), hs_ia cI (v 6) 60 (fun _ => 0), hs_ia cI (v 7) 41 (fun _ => 0), hs_ia cI (v 8) 41 (fun _ => 0)] (hs_hist cI cO (u.1 2) (u.1 3) 0 u.2)) ?_
  exact lc_loop C hX hbl hbA hL hr hlocks x0 (u.1 0) (u.1 2) (u.1 4) (u.1 5) (u.1 7) (u.1 12) (u.1 15) (u.1 1) (u.1 3) (u.1 6) (u.1 8) (u.1 9) (u.1 10) (u.1 11) (u.1 13) (u.1 14) (u.1 16) y0 (v 0) (v 1) (v 2) (v 3) (v 4) (v 5) (v 6) (v 7) (v 8) 2049 0 44 1491 0 (fun _ => 0) 0 u.2 (fun _ => 0) 0 (fun _ => 0) (fun _ => 0) (fun _ => 0) (fun _ => 0) (fun _ => 0) (fun _ => 0) (fun _ => 0) none none (hs_u (fun _ => 0) 40 0) (fun _ => 0) 0 (fun _ => 0) 0 (fun _ => 0) 0 (fun _ => 0) (fun _ => 0) (fun _ => 0) (fun _ => 0) (fun _ => 0) (by omega) (by omega) (by omega) (by omega) (by omega) (hs_L0 hu)
