set_option maxHeartbeats 8000000 in
set_option maxRecDepth 100000 in
/-- THE LAW'S LOOP -/
theorem lc_loop {p : Program} {l : Launch} {e : Env} {s : State} {m : MethodId} {below : List Frame} {meth : Method} {c : Code} {D : va_G} {cI cO : ClassId} {b Ls : Nat} {xs : Nat → Int32} (C : hs_C p s m #[Value.ref b] c cL_law 4 wsL_law RL D cI cO (fun q : Nat => s.heap.size ≤ q) s.heap) (hX : va_X b Ls xs s s.heap) (hbl : b < s.heap.size) (hbA : ¬ (fun q : Nat => s.heap.size ≤ q) b) (hLs : Ls ≤ 2048) (hr : meth.sig.returnType = ret) (hlk : meth.locks = false) (x0 h0 k0 i0 w0 r0 t0 p0 h1 k1 w1 r1 r2 r3 r4 t1 t2 p1 y0 y1 y2 y3 y4 y5 y6 y7 y8 y9 : Nat) : ∀ (N : Nat) (i : Int) (cells slots : Nat) (n : Int) (g : Int → Int) (ct : Int) (Z : Int → pu_Z) (dp : Int → Int) (rc : Int) (F : Int → Int) (L : Int → Int) (T : Int → Int) (O : Int → Int) (P : Int → Int) (S : Int → Int) (K : Int → Int) (o0 : Option pu_Z) (o1 : Option pu_Z) (h : Int → Int) (pa : Int → Int) (pm : Int) (im : Int → Int) (fl : Int) (wt : Int → Int) (pt : Int) (Ar : Int → Int) (Fi : Int → Int) (La : Int → Int) (Ab : Int → Int) (Nx : Int → Int), 0 ≤ i → i ≤ (Ls : Int) → (Ls : Int) - i < (N : Int) → cells + 2 * N ≤ 600000 → slots + 42 * N ≤ 7302250 → hs_L n g ct Z (dp, (rc, F, L, T, O), P, S, K) o0 o1 h pa pm im fl (pt, (Ar, Fi, La), Ab, Nx) → hs_J p l e room_1 s m #[Value.ref b] below meth c D (fun q : Nat => s.heap.size ≤ q) s.heap 4 (cells) (slots) (lw_Z below #[Value.ref b] s) 18 [(0, .ref b), (1, .ref x0), (2, .ref y0), (3, hs_V i)] [] (hs_ob x0 6 [.ref h0, .ref k0, .ref i0, .ref w0, .ref r0, .ref t0, .ref p0] :: hs_ob h0 0 [.ref h1, hs_V n] :: hs_ia cI h1 40 g :: hs_ra cO i0 2 (hs_o2 (Option.map (fun m : pu_Z => m.1) o0) (Option.map (fun m : pu_Z => m.1) o1)) :: hs_ob w0 5 [.ref w1] :: hs_ia cI w1 40 dp :: hs_ob r0 3 [.ref r1, .ref r2, .ref r3, .ref r4, hs_V rc] :: hs_ia cI r1 40 F :: hs_ia cI r2 40 L :: hs_ia cI r3 40 T :: hs_ia cI r4 40 O :: hs_ob t0 4 [.ref t1, .ref t2] :: hs_ia cI t1 40 P :: hs_ia cI t2 40 S :: hs_ob p0 2 [.ref p1] :: hs_ia cI p1 40 K :: hs_ob y0 7 [.ref y1, .ref y2, hs_V pm, .ref y3, hs_V fl, .ref y4, .ref y5, .ref y6, .ref y7, hs_V pt, .ref y8, .ref y9] :: hs_ia cI y1 41 h :: hs_ia cI y2 328 pa :: hs_ia cI y3 82 im :: hs_ia cI y4 40 wt :: hs_ia cI y5 60 Ar :: hs_ia cI y6 60 Fi :: hs_ia cI y7 60 La :: hs_ia cI y8 41 Ab :: hs_ia cI y9 41 Nx :: (hs_im cI o0 o1 ++ hs_hist cI cO k0 k1 ct Z)) := by
  intro N
  induction N with
  | zero => intro i cells slots n g ct Z dp rc F L T O P S K o0 o1 h pa pm im fl wt pt Ar Fi La Ab Nx q1 q2 q3; omega
  | succ N ih =>
    intro i cells slots n g ct Z dp rc F L T O P S K o0 o1 h pa pm im fl wt pt Ar Fi La Ab Nx q1 q2 q3 q4 q5 hL
    refine hs_iload_n C dL_law_18 rfl 3 rfl ?_
    refine hs_aload_n C dL_law_19 rfl 0 rfl ?_
    refine hs_slen C hX hbl hbA dL_law_20 ?_
    refine hs_iconst C dL_law_21 ?_
    refine hs_isub C dL_law_22 ?_
    refine hs_icmp_gt (tgt := 775) C dL_law_23 (by decide) (by omega) (by omega) (fun c1 => ?_) (fun c1 => ?_)
    · refine hs_iconst C dL_law_775 ?_
      intro H locs lls hP hD hS hl
      refine va_forget (fun q hq => hS.2.2 q hq) ?_
      refine W.widen (k := 600000) (n := 7302250) (by omega) (by omega) ?_
      exact lw_ret C.1.1 C.1.2.1 hr hlk dL_law_776
    · refine hs_aload_n C dL_law_26 rfl 0 rfl ?_
      refine hs_iload_n C dL_law_27 rfl 3 rfl ?_
      refine hs_sld C hX hbl hbA (by omega) dL_law_28 ?_
      refine hs_bipush C dL_law_29 (by decide) ?_
      refine hs_and31 C dL_law_31 (fun z hz => ?_)
      have hcont : ∀ (n : Int) (g : Int → Int) (ct : Int) (Z : Int → pu_Z) (dp : Int → Int) (rc : Int) (F : Int → Int) (L : Int → Int) (T : Int → Int) (O : Int → Int) (P : Int → Int) (S : Int → Int) (K : Int → Int) (o0 : Option pu_Z) (o1 : Option pu_Z) (h : Int → Int) (pa : Int → Int) (pm : Int) (im : Int → Int) (fl : Int) (wt : Int → Int) (pt : Int) (Ar : Int → Int) (Fi : Int → Int) (La : Int → Int) (Ab : Int → Int) (Nx : Int → Int), hs_L n g ct Z (dp, (rc, F, L, T, O), P, S, K) o0 o1 h pa pm im fl (pt, (Ar, Fi, La), Ab, Nx) → hs_J p l e room_1 s m #[Value.ref b] below meth c D (fun q : Nat => s.heap.size ≤ q) s.heap 4 (cells + 2) (slots + 42) (lw_Z below #[Value.ref b] s) 769 [(0, .ref b), (1, .ref x0), (2, .ref y0), (3, hs_V i)] [] (hs_ob x0 6 [.ref h0, .ref k0, .ref i0, .ref w0, .ref r0, .ref t0, .ref p0] :: hs_ob h0 0 [.ref h1, hs_V n] :: hs_ia cI h1 40 g :: hs_ra cO i0 2 (hs_o2 (Option.map (fun m : pu_Z => m.1) o0) (Option.map (fun m : pu_Z => m.1) o1)) :: hs_ob w0 5 [.ref w1] :: hs_ia cI w1 40 dp :: hs_ob r0 3 [.ref r1, .ref r2, .ref r3, .ref r4, hs_V rc] :: hs_ia cI r1 40 F :: hs_ia cI r2 40 L :: hs_ia cI r3 40 T :: hs_ia cI r4 40 O :: hs_ob t0 4 [.ref t1, .ref t2] :: hs_ia cI t1 40 P :: hs_ia cI t2 40 S :: hs_ob p0 2 [.ref p1] :: hs_ia cI p1 40 K :: hs_ob y0 7 [.ref y1, .ref y2, hs_V pm, .ref y3, hs_V fl, .ref y4, .ref y5, .ref y6, .ref y7, hs_V pt, .ref y8, .ref y9] :: hs_ia cI y1 41 h :: hs_ia cI y2 328 pa :: hs_ia cI y3 82 im :: hs_ia cI y4 40 wt :: hs_ia cI y5 60 Ar :: hs_ia cI y6 60 Fi :: hs_ia cI y7 60 La :: hs_ia cI y8 41 Ab :: hs_ia cI y9 41 Nx :: (hs_im cI o0 o1 ++ hs_hist cI cO k0 k1 ct Z)) := by
        intro n g ct Z dp rc F L T O P S K o0 o1 h pa pm im fl wt pt Ar Fi La Ab Nx hL
        refine hs_iinc (lv' := [(0, .ref b), (1, .ref x0), (2, .ref y0), (3, hs_V (i + 4))]) C dL_law_769 3 rfl (by decide) [1, 2, 3, 0] rfl ?_
        refine hs_goto (tgt := 18) C dL_law_772 (by decide) ?_
        exact ih (i + 4) (cells + 2) (slots + 42) n g ct Z dp rc F L T O P S K o0 o1 h pa pm im fl wt pt Ar Fi La Ab Nx (by omega) (by omega) (by omega) (by omega) (by omega) hL
      have hi : 0 ≤ i ∧ i + 4 ≤ (Ls : Int) := by omega
      rcases (show ((z < 0 ∨ 22 < z) ∨ z = 0 ∨ z = 1 ∨ z = 2 ∨ z = 3 ∨ z = 4 ∨ z = 5 ∨ z = 6 ∨ z = 7 ∨ z = 8 ∨ z = 9 ∨ z = 10 ∨ z = 11 ∨ z = 12 ∨ z = 13 ∨ z = 14 ∨ z = 15 ∨ z = 16 ∨ z = 17 ∨ z = 18 ∨ z = 19 ∨ z = 20 ∨ z = 21 ∨ z = 22) by omega) with hc | hc | hc | hc | hc | hc | hc | hc | hc | hc | hc | hc | hc | hc | hc | hc | hc | hc | hc | hc | hc | hc | hc | hc
      · refine hs_tableOut (tgt := 769) C dL_law_32 (by omega) hc (by decide) ?_
        refine hs_widen (cells' := cells + 2) (slots' := slots + 42) (by omega) (by omega) ?_
        exact hcont n g ct Z dp rc F L T O P S K o0 o1 h pa pm im fl wt pt Ar Fi La Ab Nx hL
      · refine hs_tableIn (tgt := 140) (off := 108) C dL_law_32 (by omega) (by omega) (by omega) (by rw [hc]; rfl) (by decide) ?_
        exact lc_insert C hX hbl hbA hLs hi (by omega) (by omega) x0 h0 k0 i0 w0 r0 t0 p0 h1 k1 w1 r1 r2 r3 r4 t1 t2 p1 y0 y1 y2 y3 y4 y5 y6 y7 y8 y9 n g ct Z dp rc F L T O P S K o0 o1 h pa pm im fl wt pt Ar Fi La Ab Nx hL hcont
      · refine hs_tableIn (tgt := 173) (off := 141) C dL_law_32 (by omega) (by omega) (by omega) (by rw [hc]; rfl) (by decide) ?_
        exact lc_remove C hX hbl hbA hLs hi (by omega) (by omega) x0 h0 k0 i0 w0 r0 t0 p0 h1 k1 w1 r1 r2 r3 r4 t1 t2 p1 y0 y1 y2 y3 y4 y5 y6 y7 y8 y9 n g ct Z dp rc F L T O P S K o0 o1 h pa pm im fl wt pt Ar Fi La Ab Nx hL hcont
      · refine hs_tableIn (tgt := 196) (off := 164) C dL_law_32 (by omega) (by omega) (by omega) (by rw [hc]; rfl) (by decide) ?_
        exact lc_set C hX hbl hbA hLs hi (by omega) (by omega) x0 h0 k0 i0 w0 r0 t0 p0 h1 k1 w1 r1 r2 r3 r4 t1 t2 p1 y0 y1 y2 y3 y4 y5 y6 y7 y8 y9 n g ct Z dp rc F L T O P S K o0 o1 h pa pm im fl wt pt Ar Fi La Ab Nx hL hcont
      · refine hs_tableIn (tgt := 229) (off := 197) C dL_law_32 (by omega) (by omega) (by omega) (by rw [hc]; rfl) (by decide) ?_
        exact lc_raise C hX hbl hbA hLs hi (by omega) (by omega) x0 h0 k0 i0 w0 r0 t0 p0 h1 k1 w1 r1 r2 r3 r4 t1 t2 p1 y0 y1 y2 y3 y4 y5 y6 y7 y8 y9 n g ct Z dp rc F L T O P S K o0 o1 h pa pm im fl wt pt Ar Fi La Ab Nx hL hcont
      · refine hs_tableIn (tgt := 272) (off := 240) C dL_law_32 (by omega) (by omega) (by omega) (by rw [hc]; rfl) (by decide) ?_
        exact lc_reverse C hX hbl hbA hLs hi (by omega) (by omega) x0 h0 k0 i0 w0 r0 t0 p0 h1 k1 w1 r1 r2 r3 r4 t1 t2 p1 y0 y1 y2 y3 y4 y5 y6 y7 y8 y9 n g ct Z dp rc F L T O P S K o0 o1 h pa pm im fl wt pt Ar Fi La Ab Nx hL hcont
      · refine hs_tableIn (tgt := 305) (off := 273) C dL_law_32 (by omega) (by omega) (by omega) (by rw [hc]; rfl) (by decide) ?_
        exact lc_sort C hX hbl hbA hLs hi (by omega) (by omega) x0 h0 k0 i0 w0 r0 t0 p0 h1 k1 w1 r1 r2 r3 r4 t1 t2 p1 y0 y1 y2 y3 y4 y5 y6 y7 y8 y9 n g ct Z dp rc F L T O P S K o0 o1 h pa pm im fl wt pt Ar Fi La Ab Nx hL hcont
      · refine hs_tableIn (tgt := 348) (off := 316) C dL_law_32 (by omega) (by omega) (by omega) (by rw [hc]; rfl) (by decide) ?_
        exact lc_freeze C hX hbl hbA hLs hi (by omega) (by omega) x0 h0 k0 i0 w0 r0 t0 p0 h1 k1 w1 r1 r2 r3 r4 t1 t2 p1 y0 y1 y2 y3 y4 y5 y6 y7 y8 y9 n g ct Z dp rc F L T O P S K o0 o1 h pa pm im fl wt pt Ar Fi La Ab Nx hL hcont
      · refine hs_tableIn (tgt := 361) (off := 329) C dL_law_32 (by omega) (by omega) (by omega) (by rw [hc]; rfl) (by decide) ?_
        exact lc_clear C hX hbl hbA hLs hi (by omega) (by omega) x0 h0 k0 i0 w0 r0 t0 p0 h1 k1 w1 r1 r2 r3 r4 t1 t2 p1 y0 y1 y2 y3 y4 y5 y6 y7 y8 y9 n g ct Z dp rc F L T O P S K o0 o1 h pa pm im fl wt pt Ar Fi La Ab Nx hL hcont
      · refine hs_tableIn (tgt := 374) (off := 342) C dL_law_32 (by omega) (by omega) (by omega) (by rw [hc]; rfl) (by decide) ?_
        exact lc_undo C hX hbl hbA hLs hi (by omega) (by omega) x0 h0 k0 i0 w0 r0 t0 p0 h1 k1 w1 r1 r2 r3 r4 t1 t2 p1 y0 y1 y2 y3 y4 y5 y6 y7 y8 y9 n g ct Z dp rc F L T O P S K o0 o1 h pa pm im fl wt pt Ar Fi La Ab Nx hL hcont
      · refine hs_tableIn (tgt := 387) (off := 355) C dL_law_32 (by omega) (by omega) (by omega) (by rw [hc]; rfl) (by decide) ?_
        exact lc_told C hX hbl hbA hLs hi (by omega) (by omega) x0 h0 k0 i0 w0 r0 t0 p0 h1 k1 w1 r1 r2 r3 r4 t1 t2 p1 y0 y1 y2 y3 y4 y5 y6 y7 y8 y9 n g ct Z dp rc F L T O P S K o0 o1 h pa pm im fl wt pt Ar Fi La Ab Nx hL hcont
      · refine hs_tableIn (tgt := 410) (off := 378) C dL_law_32 (by omega) (by omega) (by omega) (by rw [hc]; rfl) (by decide) ?_
        exact lc_column C hX hbl hbA hLs hi (by omega) (by omega) x0 h0 k0 i0 w0 r0 t0 p0 h1 k1 w1 r1 r2 r3 r4 t1 t2 p1 y0 y1 y2 y3 y4 y5 y6 y7 y8 y9 n g ct Z dp rc F L T O P S K o0 o1 h pa pm im fl wt pt Ar Fi La Ab Nx hL hcont
      · refine hs_tableIn (tgt := 443) (off := 411) C dL_law_32 (by omega) (by omega) (by omega) (by rw [hc]; rfl) (by decide) ?_
        exact lc_stair C hX hbl hbA hLs hi (by omega) (by omega) x0 h0 k0 i0 w0 r0 t0 p0 h1 k1 w1 r1 r2 r3 r4 t1 t2 p1 y0 y1 y2 y3 y4 y5 y6 y7 y8 y9 n g ct Z dp rc F L T O P S K o0 o1 h pa pm im fl wt pt Ar Fi La Ab Nx hL hcont
      · refine hs_tableIn (tgt := 476) (off := 444) C dL_law_32 (by omega) (by omega) (by omega) (by rw [hc]; rfl) (by decide) ?_
        exact lc_range C hX hbl hbA hLs hi (by omega) (by omega) x0 h0 k0 i0 w0 r0 t0 p0 h1 k1 w1 r1 r2 r3 r4 t1 t2 p1 y0 y1 y2 y3 y4 y5 y6 y7 y8 y9 n g ct Z dp rc F L T O P S K o0 o1 h pa pm im fl wt pt Ar Fi La Ab Nx hL hcont
      · refine hs_tableIn (tgt := 519) (off := 487) C dL_law_32 (by omega) (by omega) (by omega) (by rw [hc]; rfl) (by decide) ?_
        exact lc_rectangle C hX hbl hbA hLs hi (by omega) (by omega) x0 h0 k0 i0 w0 r0 t0 p0 h1 k1 w1 r1 r2 r3 r4 t1 t2 p1 y0 y1 y2 y3 y4 y5 y6 y7 y8 y9 n g ct Z dp rc F L T O P S K o0 o1 h pa pm im fl wt pt Ar Fi La Ab Nx hL hcont
      · refine hs_tableIn (tgt := 552) (off := 520) C dL_law_32 (by omega) (by omega) (by omega) (by rw [hc]; rfl) (by decide) ?_
        exact lc_container C hX hbl hbA hLs hi (by omega) (by omega) x0 h0 k0 i0 w0 r0 t0 p0 h1 k1 w1 r1 r2 r3 r4 t1 t2 p1 y0 y1 y2 y3 y4 y5 y6 y7 y8 y9 n g ct Z dp rc F L T O P S K o0 o1 h pa pm im fl wt pt Ar Fi La Ab Nx hL hcont
      · refine hs_tableIn (tgt := 575) (off := 543) C dL_law_32 (by omega) (by omega) (by omega) (by rw [hc]; rfl) (by decide) ?_
        exact lc_pool C hX hbl hbA hLs hi (by omega) (by omega) x0 h0 k0 i0 w0 r0 t0 p0 h1 k1 w1 r1 r2 r3 r4 t1 t2 p1 y0 y1 y2 y3 y4 y5 y6 y7 y8 y9 n g ct Z dp rc F L T O P S K o0 o1 h pa pm im fl wt pt Ar Fi La Ab Nx hL hcont
      · refine hs_tableIn (tgt := 608) (off := 576) C dL_law_32 (by omega) (by omega) (by omega) (by rw [hc]; rfl) (by decide) ?_
        exact lc_drained C hX hbl hbA hLs hi (by omega) (by omega) x0 h0 k0 i0 w0 r0 t0 p0 h1 k1 w1 r1 r2 r3 r4 t1 t2 p1 y0 y1 y2 y3 y4 y5 y6 y7 y8 y9 n g ct Z dp rc F L T O P S K o0 o1 h pa pm im fl wt pt Ar Fi La Ab Nx hL hcont
      · refine hs_tableIn (tgt := 631) (off := 599) C dL_law_32 (by omega) (by omega) (by omega) (by rw [hc]; rfl) (by decide) ?_
        exact lc_dam C hX hbl hbA hLs hi (by omega) (by omega) x0 h0 k0 i0 w0 r0 t0 p0 h1 k1 w1 r1 r2 r3 r4 t1 t2 p1 y0 y1 y2 y3 y4 y5 y6 y7 y8 y9 n g ct Z dp rc F L T O P S K o0 o1 h pa pm im fl wt pt Ar Fi La Ab Nx hL hcont
      · refine hs_tableIn (tgt := 664) (off := 632) C dL_law_32 (by omega) (by omega) (by omega) (by rw [hc]; rfl) (by decide) ?_
        exact lc_som C hX hbl hbA hLs hi (by omega) (by omega) x0 h0 k0 i0 w0 r0 t0 p0 h1 k1 w1 r1 r2 r3 r4 t1 t2 p1 y0 y1 y2 y3 y4 y5 y6 y7 y8 y9 n g ct Z dp rc F L T O P S K o0 o1 h pa pm im fl wt pt Ar Fi La Ab Nx hL hcont
      · refine hs_tableIn (tgt := 677) (off := 645) C dL_law_32 (by omega) (by omega) (by omega) (by rw [hc]; rfl) (by decide) ?_
        exact lc_ranges C hX hbl hbA hLs hi (by omega) (by omega) x0 h0 k0 i0 w0 r0 t0 p0 h1 k1 w1 r1 r2 r3 r4 t1 t2 p1 y0 y1 y2 y3 y4 y5 y6 y7 y8 y9 n g ct Z dp rc F L T O P S K o0 o1 h pa pm im fl wt pt Ar Fi La Ab Nx hL hcont
      · refine hs_tableIn (tgt := 700) (off := 668) C dL_law_32 (by omega) (by omega) (by omega) (by rw [hc]; rfl) (by decide) ?_
        by_cases hz2 : 0 ≤ (xs (i + 1).toNat).toInt ∧ (xs (i + 1).toNat).toInt < 2
        · rcases (show (xs (i + 1).toNat).toInt = 0 ∨ (xs (i + 1).toNat).toInt = 1 by omega) with hz0 | hz0
          · cases o0 with
            | none => exact lc_keep_0n C hX hbl hbA hLs hi (by omega) (by omega) x0 h0 k0 i0 w0 r0 t0 p0 h1 k1 w1 r1 r2 r3 r4 t1 t2 p1 y0 y1 y2 y3 y4 y5 y6 y7 y8 y9 n g ct Z dp rc F L T O P S K none o1 h pa pm im fl wt pt Ar Fi La Ab Nx hz0 hL hcont
            | some mm => obtain ⟨m0, m1, mn, mg⟩ := mm; exact lc_keep_0s C hX hbl hbA hLs hi (by omega) (by omega) x0 h0 k0 i0 w0 r0 t0 p0 h1 k1 w1 r1 r2 r3 r4 t1 t2 p1 y0 y1 y2 y3 y4 y5 y6 y7 y8 y9 n g ct Z dp rc F L T O P S K none o1 h pa pm im fl wt pt Ar Fi La Ab Nx m0 m1 mn mg hz0 hL hcont
          · cases o1 with
            | none => exact lc_keep_1n C hX hbl hbA hLs hi (by omega) (by omega) x0 h0 k0 i0 w0 r0 t0 p0 h1 k1 w1 r1 r2 r3 r4 t1 t2 p1 y0 y1 y2 y3 y4 y5 y6 y7 y8 y9 n g ct Z dp rc F L T O P S K o0 none h pa pm im fl wt pt Ar Fi La Ab Nx hz0 hL hcont
            | some mm => obtain ⟨m0, m1, mn, mg⟩ := mm; exact lc_keep_1s C hX hbl hbA hLs hi (by omega) (by omega) x0 h0 k0 i0 w0 r0 t0 p0 h1 k1 w1 r1 r2 r3 r4 t1 t2 p1 y0 y1 y2 y3 y4 y5 y6 y7 y8 y9 n g ct Z dp rc F L T O P S K o0 none h pa pm im fl wt pt Ar Fi La Ab Nx m0 m1 mn mg hz0 hL hcont
        · exact lc_keep_bad C hX hbl hbA hLs hi (by omega) (by omega) x0 h0 k0 i0 w0 r0 t0 p0 h1 k1 w1 r1 r2 r3 r4 t1 t2 p1 y0 y1 y2 y3 y4 y5 y6 y7 y8 y9 n g ct Z dp rc F L T O P S K o0 o1 h pa pm im fl wt pt Ar Fi La Ab Nx hz2 hL hcont
      · refine hs_tableIn (tgt := 723) (off := 691) C dL_law_32 (by omega) (by omega) (by omega) (by rw [hc]; rfl) (by decide) ?_
        by_cases hz2 : 0 ≤ (xs (i + 1).toNat).toInt ∧ (xs (i + 1).toNat).toInt < 2
        · rcases (show (xs (i + 1).toNat).toInt = 0 ∨ (xs (i + 1).toNat).toInt = 1 by omega) with hz0 | hz0
          · cases o0 with
            | none => exact lc_back_0n C hX hbl hbA hLs hi (by omega) (by omega) x0 h0 k0 i0 w0 r0 t0 p0 h1 k1 w1 r1 r2 r3 r4 t1 t2 p1 y0 y1 y2 y3 y4 y5 y6 y7 y8 y9 n g ct Z dp rc F L T O P S K none o1 h pa pm im fl wt pt Ar Fi La Ab Nx hz0 hL hcont
            | some mm => obtain ⟨m0, m1, mn, mg⟩ := mm; exact lc_back_0s C hX hbl hbA hLs hi (by omega) (by omega) x0 h0 k0 i0 w0 r0 t0 p0 h1 k1 w1 r1 r2 r3 r4 t1 t2 p1 y0 y1 y2 y3 y4 y5 y6 y7 y8 y9 n g ct Z dp rc F L T O P S K none o1 h pa pm im fl wt pt Ar Fi La Ab Nx m0 m1 mn mg hz0 hL hcont
          · cases o1 with
            | none => exact lc_back_1n C hX hbl hbA hLs hi (by omega) (by omega) x0 h0 k0 i0 w0 r0 t0 p0 h1 k1 w1 r1 r2 r3 r4 t1 t2 p1 y0 y1 y2 y3 y4 y5 y6 y7 y8 y9 n g ct Z dp rc F L T O P S K o0 none h pa pm im fl wt pt Ar Fi La Ab Nx hz0 hL hcont
            | some mm => obtain ⟨m0, m1, mn, mg⟩ := mm; exact lc_back_1s C hX hbl hbA hLs hi (by omega) (by omega) x0 h0 k0 i0 w0 r0 t0 p0 h1 k1 w1 r1 r2 r3 r4 t1 t2 p1 y0 y1 y2 y3 y4 y5 y6 y7 y8 y9 n g ct Z dp rc F L T O P S K o0 none h pa pm im fl wt pt Ar Fi La Ab Nx m0 m1 mn mg hz0 hL hcont
        · exact lc_back_bad C hX hbl hbA hLs hi (by omega) (by omega) x0 h0 k0 i0 w0 r0 t0 p0 h1 k1 w1 r1 r2 r3 r4 t1 t2 p1 y0 y1 y2 y3 y4 y5 y6 y7 y8 y9 n g ct Z dp rc F L T O P S K o0 o1 h pa pm im fl wt pt Ar Fi La Ab Nx hz2 hL hcont
      · refine hs_tableIn (tgt := 746) (off := 714) C dL_law_32 (by omega) (by omega) (by omega) (by rw [hc]; rfl) (by decide) ?_
        by_cases hz2 : 0 ≤ (xs (i + 1).toNat).toInt ∧ (xs (i + 1).toNat).toInt < 2
        · rcases (show (xs (i + 1).toNat).toInt = 0 ∨ (xs (i + 1).toNat).toInt = 1 by omega) with hz0 | hz0
          · cases o0 with
            | none => exact lc_parting_0n C hX hbl hbA hLs hi (by omega) (by omega) x0 h0 k0 i0 w0 r0 t0 p0 h1 k1 w1 r1 r2 r3 r4 t1 t2 p1 y0 y1 y2 y3 y4 y5 y6 y7 y8 y9 n g ct Z dp rc F L T O P S K none o1 h pa pm im fl wt pt Ar Fi La Ab Nx hz0 hL hcont
            | some mm => obtain ⟨m0, m1, mn, mg⟩ := mm; exact lc_parting_0s C hX hbl hbA hLs hi (by omega) (by omega) x0 h0 k0 i0 w0 r0 t0 p0 h1 k1 w1 r1 r2 r3 r4 t1 t2 p1 y0 y1 y2 y3 y4 y5 y6 y7 y8 y9 n g ct Z dp rc F L T O P S K none o1 h pa pm im fl wt pt Ar Fi La Ab Nx m0 m1 mn mg hz0 hL hcont
          · cases o1 with
            | none => exact lc_parting_1n C hX hbl hbA hLs hi (by omega) (by omega) x0 h0 k0 i0 w0 r0 t0 p0 h1 k1 w1 r1 r2 r3 r4 t1 t2 p1 y0 y1 y2 y3 y4 y5 y6 y7 y8 y9 n g ct Z dp rc F L T O P S K o0 none h pa pm im fl wt pt Ar Fi La Ab Nx hz0 hL hcont
            | some mm => obtain ⟨m0, m1, mn, mg⟩ := mm; exact lc_parting_1s C hX hbl hbA hLs hi (by omega) (by omega) x0 h0 k0 i0 w0 r0 t0 p0 h1 k1 w1 r1 r2 r3 r4 t1 t2 p1 y0 y1 y2 y3 y4 y5 y6 y7 y8 y9 n g ct Z dp rc F L T O P S K o0 none h pa pm im fl wt pt Ar Fi La Ab Nx m0 m1 mn mg hz0 hL hcont
        · exact lc_parting_bad C hX hbl hbA hLs hi (by omega) (by omega) x0 h0 k0 i0 w0 r0 t0 p0 h1 k1 w1 r1 r2 r3 r4 t1 t2 p1 y0 y1 y2 y3 y4 y5 y6 y7 y8 y9 n g ct Z dp rc F L T O P S K o0 o1 h pa pm im fl wt pt Ar Fi La Ab Nx hz2 hL hcont
