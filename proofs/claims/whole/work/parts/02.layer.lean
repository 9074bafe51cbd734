/-! THE LAYER: values are whole numbers z, held as hs_I z; an array of ints holds a function g : Int → Int; hs_J: the walk with heap, locals' array and locations hidden -/
def hs_I (z : Int) : Int32 := Int32.ofInt z
abbrev hs_in (z : Int) : Prop := -2147483648 ≤ z ∧ z ≤ 2147483647
theorem hs_toInt {z : Int} (h : hs_in z) : (hs_I z).toInt = z := Int32.toInt_ofInt_of_le (by have := h.1; omega) (by have := h.2; omega)
theorem hs_ofInt (x : Int32) : hs_I x.toInt = x := Int32.ofInt_toInt x
theorem hs_inOf (x : Int32) : hs_in x.toInt := ⟨by have := x.le_toInt; omega, by have := x.toInt_lt; omega⟩
theorem hs_add (a b : Int) : hs_I a + hs_I b = hs_I (a + b) := (Int32.ofInt_add a b).symm
theorem hs_sub (a b : Int) : hs_I a - hs_I b = hs_I (a - b) := (Int32.ofInt_sub a b).symm
theorem hs_mul (a b : Int) : hs_I a * hs_I b = hs_I (a * b) := (Int32.ofInt_mul a b).symm
theorem hs_eq {a b : Int} (ha : hs_in a) (hb : hs_in b) : hs_I a = hs_I b ↔ a = b := by rw [← Int32.toInt_inj, hs_toInt ha, hs_toInt hb]
theorem hs_lt {a b : Int} (ha : hs_in a) (hb : hs_in b) : hs_I a < hs_I b ↔ a < b := by rw [Int32.lt_iff_toInt_lt, hs_toInt ha, hs_toInt hb]
theorem hs_le {a b : Int} (ha : hs_in a) (hb : hs_in b) : hs_I a ≤ hs_I b ↔ a ≤ b := by rw [Int32.le_iff_toInt_le, hs_toInt ha, hs_toInt hb]
theorem hs_nat {z : Int} (h : hs_in z) : (hs_I z).toNatClampNeg = z.toNat := Int32.toNatClampNeg_ofInt_of_le (by have := h.1; omega) (by have := h.2; omega)
theorem hs_I0 : hs_I 0 = 0 := rfl
theorem hs_in0 : hs_in 0 := by omega
def hs_f (g : Int → Int) : Nat → Int32 := fun k => hs_I (g k)
def hs_u (g : Int → Int) (i v : Int) : Int → Int := fun k => if k = i then v else g k
theorem hs_u_self (g : Int → Int) (i v : Int) : hs_u g i v i = v := by simp [hs_u]
theorem hs_u_ne {g : Int → Int} {i v k : Int} (h : k ≠ i) : hs_u g i v k = g k := by simp [hs_u, h]
theorem hs_u_bd {g : Int → Int} {i v lo hi : Int} (hg : ∀ k, lo ≤ g k ∧ g k ≤ hi) (hv : lo ≤ v ∧ v ≤ hi) : ∀ k, lo ≤ hs_u g i v k ∧ hs_u g i v k ≤ hi := by
  intro k
  by_cases h : k = i
  · rw [h, hs_u_self]; exact hv
  · rw [hs_u_ne h]; exact hg k
/-- System.arraycopy over whole numbers -/
def hs_cp (f g : Int → Int) (sp dp n : Int) : Int → Int := fun k => if dp ≤ k ∧ k < dp + n then f (sp + (k - dp)) else g k
theorem hs_cp_bd {f g : Int → Int} {sp dp n lo hi : Int} (hf : ∀ k, lo ≤ f k ∧ f k ≤ hi) (hg : ∀ k, lo ≤ g k ∧ g k ≤ hi) : ∀ k, lo ≤ hs_cp f g sp dp n k ∧ hs_cp f g sp dp n k ≤ hi := by
  intro k
  unfold hs_cp
  split
  · exact hf _
  · exact hg k
theorem hs_fu {g : Int → Int} {z v : Int} (h : 0 ≤ z) : upd (hs_f g) z.toNat (hs_I v) = hs_f (hs_u g z v) := by
  funext k
  unfold upd hs_f hs_u
  by_cases hk : (k : Int) = z
  · rw [if_pos (by omega), if_pos hk]
  · rw [if_neg (by omega), if_neg hk]
theorem hs_fcp {f g : Int → Int} {sp dp n : Int} (h1 : 0 ≤ sp) (h2 : 0 ≤ dp) (h3 : 0 ≤ n) : va_cpy (hs_f f) (hs_f g) sp.toNat dp.toNat n.toNat = hs_f (hs_cp f g sp dp n) := by
  funext k
  unfold va_cpy hs_f hs_cp
  by_cases hk : dp ≤ (k : Int) ∧ (k : Int) < dp + n
  · rw [if_pos (by omega), if_pos hk]
    congr 1
    congr 1
    omega
  · rw [if_neg (by omega), if_neg hk]
theorem hs_vin {z : Int} {n : Nat} (h0 : 0 ≤ z) (h1 : z < n) (h2 : n ≤ 2147483647) : vp_in (hs_I z) n := by
  have hz : hs_in z := ⟨by omega, by omega⟩
  intro h
  rcases h with h | h
  · rw [← hs_I0, hs_lt hz hs_in0] at h; omega
  · rw [hs_nat hz] at h; omega
/-- which words of nest mates, and of the array of columns, every contract takes with it -/
def hs_nf : List (String × Nat × String × String × String) := [(RX4, 24, RX0, "heights", "[I"), (RX2, 39, RX0, "heights", "[I"), (RX6, 78, RX0, "heights", "[I"), (RX4, 18, RX0, "size", "I"), (RX6, 55, RX0, "size", "I"), (RX2, 31, RX0, "size", "I"), (RX6, 105, RX1, "count", "I"), (RX6, 102, RX5, "depths", "[I"), (RX6, 186, RX3, "owners", "[I"), (RX6, 181, RX3, "count", "I"), (RX6, 224, RX4, "parents", "[I")]
def hs_nm : List (String × Nat × MethodName) := [(RX6, 9, yX0_init), (RX1, 21, yX0_init), (RX6, 29, yX5_init), (RX6, 36, yX3_init), (RX6, 43, yX4_init), (RX6, 50, yX2_init), (RX0, 42, yX6_lowestGreatest), (RX2, 35, yX6_sumOf)]
def hs_N (U : State) : Prop := (∀ q ∈ hs_nf, va_Nw (.fieldLinkNest q.1 q.2.1 q.2.2.1 q.2.2.2.1 q.2.2.2.2 RX6) U) ∧ (∀ q ∈ hs_nm, va_Nw (.methodLinkNest q.1 q.2.1 q.2.2 RX6) U) ∧ va_AO RX0 U
theorem hs_N.warm {s U : State} (hW : s.WarmedH U.vm) (h : hs_N s) : hs_N U := ⟨fun q hq => va_Nw.warmF hW (h.1 q hq), fun q hq => va_Nw.warmM hW (h.2.1 q hq), va_AO.moved hW.alike h.2.2⟩
theorem hs_N.same {s U : State} (hW : s.vm = U.vm) (h : hs_N s) : hs_N U := ⟨fun q hq => va_Nw.same rfl hW (h.1 q hq), fun q hq => va_Nw.same rfl hW (h.2.1 q hq), va_AO.moved (by rw [hW]; exact Vm.Alike.refl U.vm) h.2.2⟩
theorem hs_Pm {D : va_G} {ws : va_W} {H : Heap} : va_P D vwCl ws H ↔ ∀ q ∈ ws, va_at D vwCl q H := by
  constructor
  · intro h q hq
    obtain ⟨i, hi⟩ := List.getElem?_of_mem hq
    exact h i q hi
  · intro h k q hk
    exact h q (List.mem_of_getElem? hk)
theorem hs_Dm {A : Nat → Prop} {ws : va_W} : va_D A ws ↔ (ws.map Prod.fst).Nodup ∧ ∀ q ∈ ws, A q.1 := by
  constructor
  · intro h
    refine ⟨?_, fun q hq => ?_⟩
    · unfold List.Nodup
      rw [List.pairwise_iff_getElem]
      intro i j hi hj hij e
      rw [List.length_map] at hi hj
      rw [List.getElem_map, List.getElem_map] at e
      have := h.1 i j ws[i] ws[j] (List.getElem?_eq_getElem hi) (List.getElem?_eq_getElem hj) e
      omega
    · obtain ⟨i, hi⟩ := List.getElem?_of_mem hq
      exact h.2 i q hi
  · intro h
    refine ⟨fun i j a b hi hj e => ?_, fun k q hk => h.2 q (List.mem_of_getElem? hk)⟩
    have hn := h.1
    unfold List.Nodup at hn
    rw [List.pairwise_iff_getElem] at hn
    obtain ⟨hi1, hi2⟩ := List.getElem?_eq_some_iff.mp hi
    obtain ⟨hj1, hj2⟩ := List.getElem?_eq_some_iff.mp hj
    rcases Nat.lt_trichotomy i j with g | g | g
    · exact absurd (by rw [List.getElem_map, List.getElem_map, hi2, hj2]; exact e) (hn i j (by rw [List.length_map]; exact hi1) (by rw [List.length_map]; exact hj1) g)
    · exact g
    · exact absurd (by rw [List.getElem_map, List.getElem_map, hi2, hj2]; exact e.symm) (hn j i (by rw [List.length_map]; exact hj1) (by rw [List.length_map]; exact hi1) g)
theorem hs_DL {A : Nat → Prop} {w1 w2 : va_W} (h : va_D A (w1 ++ w2)) : va_D A w1 := by
  rw [hs_Dm] at h ⊢
  rw [List.map_append, List.nodup_append] at h
  exact ⟨h.1.1, fun q hq => h.2 q (List.mem_append_left _ hq)⟩
theorem hs_PL {D : va_G} {w1 w2 : va_W} {H : Heap} (h : va_P D vwCl (w1 ++ w2) H) : va_P D vwCl w1 H := by
  rw [hs_Pm] at h ⊢
  exact fun q hq => h q (List.mem_append_left _ hq)
/-- behind a call: the callee's world ahead of the rest, which is unchanged -/
theorem hs_join {A : Nat → Prop} {D : va_G} {w1 w2 wr : va_W} {H H1 : Heap} (hP : va_P D vwCl (w1 ++ wr) H) (hD : va_D A (w1 ++ wr)) (hk : ∀ q : Nat, q < H.size → ¬ va_A w1 H.size q → H1[q]? = H[q]?) (hF : ∀ q, va_A w1 H.size q → A q) (hP1 : va_P D vwCl w2 H1) (hD1 : va_D (va_A w1 H.size) w2) : va_P D vwCl (w2 ++ wr) H1 ∧ va_D A (w2 ++ wr) := by
  have hlt : ∀ q ∈ wr, q.1 < H.size := fun q hq => (hs_Pm.mp hP q (List.mem_append_right _ hq)).lt
  have hnot : ∀ q ∈ wr, ¬ va_A w1 H.size q.1 := by
    intro q hq h
    rcases h with ⟨k, e, h⟩ | h
    · have hn := (hs_Dm.mp hD).1
      rw [List.map_append, List.nodup_append] at hn
      exact hn.2.2 q.1 (List.mem_map.mpr ⟨(q.1, e), List.mem_of_getElem? h, rfl⟩) q.1 (List.mem_map.mpr ⟨q, hq, rfl⟩) rfl
    · have := hlt q hq; omega
  constructor
  · rw [hs_Pm] at hP hP1 ⊢
    intro q hq
    rcases List.mem_append.mp hq with h | h
    · exact hP1 q h
    · exact (hP q (List.mem_append_right _ h)).kept (hk q.1 (hlt q h) (hnot q h))
  · rw [hs_Dm] at hD hD1 ⊢
    rw [List.map_append, List.nodup_append] at hD ⊢
    refine ⟨⟨hD1.1, hD.1.2.1, fun a ha b hb e => ?_⟩, fun q hq => ?_⟩
    · obtain ⟨x, hx, rfl⟩ := List.mem_map.mp ha
      obtain ⟨y, hy, rfl⟩ := List.mem_map.mp hb
      exact hnot y hy (by rw [← e]; exact hD1.2 x hx)
    · rcases List.mem_append.mp hq with h | h
      · exact hF q.1 (hD1.2 q h)
      · exact hD.2 q (List.mem_append_right _ h)
theorem hs_reP {D : va_G} {A : Nat → Prop} {w w' wi : va_W} {H : Heap} (pl : List Nat) (hpl : pl.map (fun i => w[i]?) = w'.map some) (hnd : va_nd pl = true) (hP : va_P D vwCl (w ++ wi) H) (hD : va_D A (w ++ wi)) : va_P D vwCl (w' ++ wi) H ∧ va_D A (w' ++ wi) := by
  have hm : ∀ q ∈ w', q ∈ w := by
    intro q hq
    have h1 : some q ∈ w'.map some := List.mem_map.mpr ⟨q, hq, rfl⟩
    rw [← hpl] at h1
    obtain ⟨i, -, hi⟩ := List.mem_map.mp h1
    exact List.mem_of_getElem? hi
  have hDw : va_D A w' := (hs_DL hD).sub pl hnd hpl
  constructor
  · rw [hs_Pm] at hP ⊢
    intro q hq
    rcases List.mem_append.mp hq with h | h
    · exact hP q (List.mem_append_left _ (hm q h))
    · exact hP q (List.mem_append_right _ h)
  · rw [hs_Dm] at hD hDw ⊢
    rw [List.map_append, List.nodup_append] at hD ⊢
    refine ⟨⟨hDw.1, hD.1.2.1, fun a ha b hb e => ?_⟩, fun q hq => ?_⟩
    · obtain ⟨x, hx, rfl⟩ := List.mem_map.mp ha
      exact hD.1.2.2 x.1 (List.mem_map.mpr ⟨x, hm x hx, rfl⟩) b hb e
    · rcases List.mem_append.mp hq with h | h
      · exact hDw.2 q h
      · exact hD.2 q (List.mem_append_right _ h)
/-- the array classes: of ints, of columns -/
abbrev hs_t (cI cO : ClassId) : List (ClassId × FieldType) := [(cI, .int), (cO, .object RX0)]
/-- cells: an array of ints, an array of columns, an object -/
abbrev hs_ia (cI : ClassId) (a n : Nat) (g : Int → Int) : Nat × va_E := (a, .inl (cI, n, .inl (hs_f g)))
abbrev hs_ra (cO : ClassId) (a n : Nat) (f : Nat → Option Nat) : Nat × va_E := (a, .inl (cO, n, .inr (.inr (.inr (.inr f)))))
abbrev hs_ob (a ci : Nat) (fs : List Value) : Nat × va_E := (a, .inr (ci, fs))
abbrev hs_V (z : Int) : Value := .int (hs_I z)
def hs_J (p : Program) (l : Launch) (e : Env) (R : Room) (s : State) (m : MethodId) (args : Array Value) (below : List Frame) (meth : Method) (c : Code) (D : va_G) (A : Nat → Prop) (H0 : Heap) (nL cells slots : Nat) (Q : State → Prop) (pc : Nat) (lv : List (Nat × Value)) (st : List Value) (ws : va_W) : Prop :=
  ∀ (H : Heap) (locs : List Loc) (ls : Array Slot), va_P D vwCl ws H → va_D A ws → va_S A H0 H locs → lv_has ls nL lv → W p l e R s m args below meth c H locs cells slots Q (F0 m pc ls st)
def hs_C (p : Program) (s : State) (m : MethodId) (args : Array Value) (c : Code) (cc : ByteArray) (nL : Nat) (Ts : List Cond) (own : String) (D : va_G) (cI cO : ClassId) (A : Nat → Prop) (H0 : Heap) : Prop :=
  CallFix p m c cc nL s args Ts own ∧ va_K D vwCl (hs_t cI cO) s ∧ hs_N s ∧ ∀ q, H0.size ≤ q → A q
section JL
variable {p : Program} {l : Launch} {e : Env} {R : Room} {s : State} {m : MethodId} {args : Array Value} {below : List Frame} {meth : Method} {c : Code} {D : va_G} {A : Nat → Prop} {H0 : Heap} {nL cells slots : Nat} {Q : State → Prop} {pc : Nat} {lv : List (Nat × Value)} {st : List Value} {ws : va_W}
variable {cc : ByteArray} {Ts : List Cond} {own : String} {cI cO : ClassId}

theorem hs_iconst (C : hs_C p s m args c cc nL Ts own D cI cO A H0) {n : Int} (d : decode cc pc = .ok (.iconst n, 1)) (k : hs_J p l e R s m args below meth c D A H0 nL cells slots Q (pc + 1) lv (hs_V n :: st) ws) : hs_J p l e R s m args below meth c D A H0 nL cells slots Q pc lv st ws := fun H locs ls hP hD hS hl => lv_iconst C.1.1 C.1.2.1 d rfl (k H locs ls hP hD hS hl)
theorem hs_bipush (C : hs_C p s m args c cc nL Ts own D cI cO A H0) {n : Int} (d : decode cc pc = .ok (.bipush n, 2)) (hv : (Int8.ofInt n).toInt32 = hs_I n) (k : hs_J p l e R s m args below meth c D A H0 nL cells slots Q (pc + 2) lv (hs_V n :: st) ws) : hs_J p l e R s m args below meth c D A H0 nL cells slots Q pc lv st ws := fun H locs ls hP hD hS hl => lv_bipush C.1.1 C.1.2.1 d hv (k H locs ls hP hD hS hl)
theorem hs_sipush (C : hs_C p s m args c cc nL Ts own D cI cO A H0) {n : Int} (d : decode cc pc = .ok (.sipush n, 3)) (hv : (Int16.ofInt n).toInt32 = hs_I n) (k : hs_J p l e R s m args below meth c D A H0 nL cells slots Q (pc + 3) lv (hs_V n :: st) ws) : hs_J p l e R s m args below meth c D A H0 nL cells slots Q pc lv st ws := fun H locs ls hP hD hS hl => lv_sipush C.1.1 C.1.2.1 d hv (k H locs ls hP hD hS hl)
theorem hs_iload_n (C : hs_C p s m args c cc nL Ts own D cI cO A H0) {j : Fin 4} {i : Nat} {x : Int32} (d : decode cc pc = .ok (.iload_n j, 1)) (hi : (j : Nat) = i) (q : Nat) (hq : lv[q]? = some (i, .int x)) (k : hs_J p l e R s m args below meth c D A H0 nL cells slots Q (pc + 1) lv (.int x :: st) ws) : hs_J p l e R s m args below meth c D A H0 nL cells slots Q pc lv st ws := fun H locs ls hP hD hS hl => lv_iload_n C.1.1 C.1.2.1 d hi (lv_at hl q hq) (k H locs ls hP hD hS hl)
theorem hs_iload (C : hs_C p s m args c cc nL Ts own D cI cO A H0) {i : Nat} {x : Int32} (d : decode cc pc = .ok (.iload i, 2)) (q : Nat) (hq : lv[q]? = some (i, .int x)) (k : hs_J p l e R s m args below meth c D A H0 nL cells slots Q (pc + 2) lv (.int x :: st) ws) : hs_J p l e R s m args below meth c D A H0 nL cells slots Q pc lv st ws := fun H locs ls hP hD hS hl => lv_iload C.1.1 C.1.2.1 d (lv_at hl q hq) (k H locs ls hP hD hS hl)
theorem hs_istore_n (C : hs_C p s m args c cc nL Ts own D cI cO A H0) {j : Fin 4} {i : Nat} {x : Int32} {lv' : List (Nat × Value)} (d : decode cc pc = .ok (.istore_n j, 1)) (hi : (j : Nat) = i) (hn : i < nL) (ks : List Nat) (hks : lv_pick ((i, (.int x : Value)) :: lv.filter (fun q => !(q.1 == i) && !(q.1 + 1 == i && q.2.category == 2))) ks = lv') (k : hs_J p l e R s m args below meth c D A H0 nL cells slots Q (pc + 1) lv' st ws) : hs_J p l e R s m args below meth c D A H0 nL cells slots Q pc lv (.int x :: st) ws := fun H locs ls hP hD hS hl => lv_istore_n C.1.1 C.1.2.1 d hi hl hn rfl (fun ls hl => k H locs ls hP hD hS (lv_sub hl ks hks))
theorem hs_istore (C : hs_C p s m args c cc nL Ts own D cI cO A H0) {i : Nat} {x : Int32} {lv' : List (Nat × Value)} (d : decode cc pc = .ok (.istore i, 2)) (hn : i < nL) (ks : List Nat) (hks : lv_pick ((i, (.int x : Value)) :: lv.filter (fun q => !(q.1 == i) && !(q.1 + 1 == i && q.2.category == 2))) ks = lv') (k : hs_J p l e R s m args below meth c D A H0 nL cells slots Q (pc + 2) lv' st ws) : hs_J p l e R s m args below meth c D A H0 nL cells slots Q pc lv (.int x :: st) ws := fun H locs ls hP hD hS hl => lv_istore C.1.1 C.1.2.1 d hl hn rfl (fun ls hl => k H locs ls hP hD hS (lv_sub hl ks hks))
theorem hs_aload_n (C : hs_C p s m args c cc nL Ts own D cI cO A H0) {j : Fin 4} {i : Nat} {x : Nat} (d : decode cc pc = .ok (.aload_n j, 1)) (hi : (j : Nat) = i) (q : Nat) (hq : lv[q]? = some (i, .ref x)) (k : hs_J p l e R s m args below meth c D A H0 nL cells slots Q (pc + 1) lv (.ref x :: st) ws) : hs_J p l e R s m args below meth c D A H0 nL cells slots Q pc lv st ws := fun H locs ls hP hD hS hl => lv_aload_n C.1.1 C.1.2.1 d hi (lv_at hl q hq) (k H locs ls hP hD hS hl)
theorem hs_aload (C : hs_C p s m args c cc nL Ts own D cI cO A H0) {i : Nat} {x : Nat} (d : decode cc pc = .ok (.aload i, 2)) (q : Nat) (hq : lv[q]? = some (i, .ref x)) (k : hs_J p l e R s m args below meth c D A H0 nL cells slots Q (pc + 2) lv (.ref x :: st) ws) : hs_J p l e R s m args below meth c D A H0 nL cells slots Q pc lv st ws := fun H locs ls hP hD hS hl => lv_aload C.1.1 C.1.2.1 d (lv_at hl q hq) (k H locs ls hP hD hS hl)
theorem hs_astore_n (C : hs_C p s m args c cc nL Ts own D cI cO A H0) {j : Fin 4} {i : Nat} {x : Nat} {lv' : List (Nat × Value)} (d : decode cc pc = .ok (.astore_n j, 1)) (hi : (j : Nat) = i) (hn : i < nL) (ks : List Nat) (hks : lv_pick ((i, (.ref x : Value)) :: lv.filter (fun q => !(q.1 == i) && !(q.1 + 1 == i && q.2.category == 2))) ks = lv') (k : hs_J p l e R s m args below meth c D A H0 nL cells slots Q (pc + 1) lv' st ws) : hs_J p l e R s m args below meth c D A H0 nL cells slots Q pc lv (.ref x :: st) ws := fun H locs ls hP hD hS hl => lv_astore_n C.1.1 C.1.2.1 d hi hl hn rfl (fun ls hl => k H locs ls hP hD hS (lv_sub hl ks hks))
theorem hs_astore (C : hs_C p s m args c cc nL Ts own D cI cO A H0) {i : Nat} {x : Nat} {lv' : List (Nat × Value)} (d : decode cc pc = .ok (.astore i, 2)) (hn : i < nL) (ks : List Nat) (hks : lv_pick ((i, (.ref x : Value)) :: lv.filter (fun q => !(q.1 == i) && !(q.1 + 1 == i && q.2.category == 2))) ks = lv') (k : hs_J p l e R s m args below meth c D A H0 nL cells slots Q (pc + 2) lv' st ws) : hs_J p l e R s m args below meth c D A H0 nL cells slots Q pc lv (.ref x :: st) ws := fun H locs ls hP hD hS hl => lv_astore C.1.1 C.1.2.1 d hl hn rfl (fun ls hl => k H locs ls hP hD hS (lv_sub hl ks hks))
theorem hs_aload_nN (C : hs_C p s m args c cc nL Ts own D cI cO A H0) {j : Fin 4} {i : Nat} (d : decode cc pc = .ok (.aload_n j, 1)) (hi : (j : Nat) = i) (q : Nat) (hq : lv[q]? = some (i, .null)) (k : hs_J p l e R s m args below meth c D A H0 nL cells slots Q (pc + 1) lv (.null :: st) ws) : hs_J p l e R s m args below meth c D A H0 nL cells slots Q pc lv st ws := fun H locs ls hP hD hS hl => lv_aload_nN C.1.1 C.1.2.1 d hi (lv_at hl q hq) (k H locs ls hP hD hS hl)
theorem hs_astore_nN (C : hs_C p s m args c cc nL Ts own D cI cO A H0) {j : Fin 4} {i : Nat} {lv' : List (Nat × Value)} (d : decode cc pc = .ok (.astore_n j, 1)) (hi : (j : Nat) = i) (hn : i < nL) (ks : List Nat) (hks : lv_pick ((i, (Value.null)) :: lv.filter (fun q => !(q.1 == i) && !(q.1 + 1 == i && q.2.category == 2))) ks = lv') (k : hs_J p l e R s m args below meth c D A H0 nL cells slots Q (pc + 1) lv' st ws) : hs_J p l e R s m args below meth c D A H0 nL cells slots Q pc lv (.null :: st) ws := fun H locs ls hP hD hS hl => lv_astore_nN C.1.1 C.1.2.1 d hi hl hn rfl (fun ls hl => k H locs ls hP hD hS (lv_sub hl ks hks))
theorem hs_iinc (C : hs_C p s m args c cc nL Ts own D cI cO A H0) {i : Nat} {n x : Int} {lv' : List (Nat × Value)} (d : decode cc pc = .ok (.iinc i n, 3)) (q : Nat) (hq : lv[q]? = some (i, hs_V x)) (hn : i < nL) (ks : List Nat) (hks : lv_pick ((i, hs_V (x + n)) :: lv.filter (fun q => !(q.1 == i) && !(q.1 + 1 == i && q.2.category == 2))) ks = lv') (k : hs_J p l e R s m args below meth c D A H0 nL cells slots Q (pc + 3) lv' st ws) : hs_J p l e R s m args below meth c D A H0 nL cells slots Q pc lv st ws := fun H locs ls hP hD hS hl => lv_iinc (v := hs_I (x + n)) C.1.1 C.1.2.1 d hl hq (hs_add x n) hn rfl (fun ls hl => k H locs ls hP hD hS (lv_sub hl ks hks))
theorem hs_iadd (C : hs_C p s m args c cc nL Ts own D cI cO A H0) {x y : Int} (d : decode cc pc = .ok (.iadd, 1)) (k : hs_J p l e R s m args below meth c D A H0 nL cells slots Q (pc + 1) lv (hs_V (x + y) :: st) ws) : hs_J p l e R s m args below meth c D A H0 nL cells slots Q pc lv (hs_V y :: hs_V x :: st) ws := fun H locs ls hP hD hS hl => lv_iadd C.1.1 C.1.2.1 d (by rw [hs_add]; exact k H locs ls hP hD hS hl)
theorem hs_isub (C : hs_C p s m args c cc nL Ts own D cI cO A H0) {x y : Int} (d : decode cc pc = .ok (.isub, 1)) (k : hs_J p l e R s m args below meth c D A H0 nL cells slots Q (pc + 1) lv (hs_V (x - y) :: st) ws) : hs_J p l e R s m args below meth c D A H0 nL cells slots Q pc lv (hs_V y :: hs_V x :: st) ws := fun H locs ls hP hD hS hl => lv_isub C.1.1 C.1.2.1 d (by rw [hs_sub]; exact k H locs ls hP hD hS hl)
theorem hs_imul (C : hs_C p s m args c cc nL Ts own D cI cO A H0) {x y : Int} (d : decode cc pc = .ok (.imul, 1)) (k : hs_J p l e R s m args below meth c D A H0 nL cells slots Q (pc + 1) lv (hs_V (x * y) :: st) ws) : hs_J p l e R s m args below meth c D A H0 nL cells slots Q pc lv (hs_V y :: hs_V x :: st) ws := fun H locs ls hP hD hS hl => lv_imul C.1.1 C.1.2.1 d (by rw [hs_mul]; exact k H locs ls hP hD hS hl)
theorem hs_dup (C : hs_C p s m args c cc nL Ts own D cI cO A H0) {v : Value} (d : decode cc pc = .ok (.dup, 1)) (hv : v.category = 1) (k : hs_J p l e R s m args below meth c D A H0 nL cells slots Q (pc + 1) lv (v :: v :: st) ws) : hs_J p l e R s m args below meth c D A H0 nL cells slots Q pc lv (v :: st) ws := fun H locs ls hP hD hS hl => lv_dup C.1.1 C.1.2.1 d hv (k H locs ls hP hD hS hl)
theorem hs_pop (C : hs_C p s m args c cc nL Ts own D cI cO A H0) {v : Value} (d : decode cc pc = .ok (.pop, 1)) (hv : v.category = 1) (k : hs_J p l e R s m args below meth c D A H0 nL cells slots Q (pc + 1) lv st ws) : hs_J p l e R s m args below meth c D A H0 nL cells slots Q pc lv (v :: st) ws := fun H locs ls hP hD hS hl => lv_pop C.1.1 C.1.2.1 d hv (k H locs ls hP hD hS hl)
theorem hs_dup2 (C : hs_C p s m args c cc nL Ts own D cI cO A H0) {v u : Value} (d : decode cc pc = .ok (.dup2, 1)) (hv : v.category = 1) (hu : u.category = 1) (k : hs_J p l e R s m args below meth c D A H0 nL cells slots Q (pc + 1) lv (v :: u :: v :: u :: st) ws) : hs_J p l e R s m args below meth c D A H0 nL cells slots Q pc lv (v :: u :: st) ws := fun H locs ls hP hD hS hl => lv_dup2_11 C.1.1 C.1.2.1 d hv hu (k H locs ls hP hD hS hl)
theorem hs_goto (C : hs_C p s m args c cc nL Ts own D cI cO A H0) {off : Int} {tgt : Nat} (d : decode cc pc = .ok (.goto off, 3)) (ht : (pc : Int) + off = (tgt : Int)) (k : hs_J p l e R s m args below meth c D A H0 nL cells slots Q tgt lv st ws) : hs_J p l e R s m args below meth c D A H0 nL cells slots Q pc lv st ws := fun H locs ls hP hD hS hl => lv_goto C.1.1 C.1.2.1 d ht (k H locs ls hP hD hS hl)
theorem hs_icmp_eq (C : hs_C p s m args c cc nL Ts own D cI cO A H0) {x y : Int} {off : Int} {tgt : Nat} (d : decode cc pc = .ok (.if_icmp .eq off, 3)) (ht : (pc : Int) + off = (tgt : Int)) (hx : hs_in x) (hy : hs_in y) (kt : x = y → hs_J p l e R s m args below meth c D A H0 nL cells slots Q tgt lv st ws) (kf : ¬ x = y → hs_J p l e R s m args below meth c D A H0 nL cells slots Q (pc + 3) lv st ws) : hs_J p l e R s m args below meth c D A H0 nL cells slots Q pc lv (hs_V y :: hs_V x :: st) ws := fun H locs ls hP hD hS hl => lv_icmp_eq C.1.1 C.1.2.1 d ht (fun h => kt ((hs_eq hx hy).mp h) H locs ls hP hD hS hl) (fun h => kf (fun z => h ((hs_eq hx hy).mpr z)) H locs ls hP hD hS hl)
theorem hs_if_eq (C : hs_C p s m args c cc nL Ts own D cI cO A H0) {x : Int} {off : Int} {tgt : Nat} (d : decode cc pc = .ok (.ifCond .eq off, 3)) (ht : (pc : Int) + off = (tgt : Int)) (hx : hs_in x) (kt : x = 0 → hs_J p l e R s m args below meth c D A H0 nL cells slots Q tgt lv st ws) (kf : ¬ x = 0 → hs_J p l e R s m args below meth c D A H0 nL cells slots Q (pc + 3) lv st ws) : hs_J p l e R s m args below meth c D A H0 nL cells slots Q pc lv (hs_V x :: st) ws := fun H locs ls hP hD hS hl => lv_if_eq C.1.1 C.1.2.1 d ht (fun h => kt ((hs_eq hx hs_in0).mp h) H locs ls hP hD hS hl) (fun h => kf (fun z => h ((hs_eq hx hs_in0).mpr z)) H locs ls hP hD hS hl)
theorem hs_icmp_ne (C : hs_C p s m args c cc nL Ts own D cI cO A H0) {x y : Int} {off : Int} {tgt : Nat} (d : decode cc pc = .ok (.if_icmp .ne off, 3)) (ht : (pc : Int) + off = (tgt : Int)) (hx : hs_in x) (hy : hs_in y) (kt : ¬ x = y → hs_J p l e R s m args below meth c D A H0 nL cells slots Q tgt lv st ws) (kf : x = y → hs_J p l e R s m args below meth c D A H0 nL cells slots Q (pc + 3) lv st ws) : hs_J p l e R s m args below meth c D A H0 nL cells slots Q pc lv (hs_V y :: hs_V x :: st) ws := fun H locs ls hP hD hS hl => lv_icmp_ne C.1.1 C.1.2.1 d ht (fun h => kt ((not_congr (hs_eq hx hy)).mp h) H locs ls hP hD hS hl) (fun h => kf ((hs_eq hx hy).mp h) H locs ls hP hD hS hl)
theorem hs_if_ne (C : hs_C p s m args c cc nL Ts own D cI cO A H0) {x : Int} {off : Int} {tgt : Nat} (d : decode cc pc = .ok (.ifCond .ne off, 3)) (ht : (pc : Int) + off = (tgt : Int)) (hx : hs_in x) (kt : ¬ x = 0 → hs_J p l e R s m args below meth c D A H0 nL cells slots Q tgt lv st ws) (kf : x = 0 → hs_J p l e R s m args below meth c D A H0 nL cells slots Q (pc + 3) lv st ws) : hs_J p l e R s m args below meth c D A H0 nL cells slots Q pc lv (hs_V x :: st) ws := fun H locs ls hP hD hS hl => lv_if_ne C.1.1 C.1.2.1 d ht (fun h => kt ((not_congr (hs_eq hx hs_in0)).mp h) H locs ls hP hD hS hl) (fun h => kf ((hs_eq hx hs_in0).mp h) H locs ls hP hD hS hl)
theorem hs_icmp_lt (C : hs_C p s m args c cc nL Ts own D cI cO A H0) {x y : Int} {off : Int} {tgt : Nat} (d : decode cc pc = .ok (.if_icmp .lt off, 3)) (ht : (pc : Int) + off = (tgt : Int)) (hx : hs_in x) (hy : hs_in y) (kt : x < y → hs_J p l e R s m args below meth c D A H0 nL cells slots Q tgt lv st ws) (kf : ¬ x < y → hs_J p l e R s m args below meth c D A H0 nL cells slots Q (pc + 3) lv st ws) : hs_J p l e R s m args below meth c D A H0 nL cells slots Q pc lv (hs_V y :: hs_V x :: st) ws := fun H locs ls hP hD hS hl => lv_icmp_lt C.1.1 C.1.2.1 d ht (fun h => kt ((hs_lt hx hy).mp h) H locs ls hP hD hS hl) (fun h => kf (fun z => h ((hs_lt hx hy).mpr z)) H locs ls hP hD hS hl)
theorem hs_if_lt (C : hs_C p s m args c cc nL Ts own D cI cO A H0) {x : Int} {off : Int} {tgt : Nat} (d : decode cc pc = .ok (.ifCond .lt off, 3)) (ht : (pc : Int) + off = (tgt : Int)) (hx : hs_in x) (kt : x < 0 → hs_J p l e R s m args below meth c D A H0 nL cells slots Q tgt lv st ws) (kf : ¬ x < 0 → hs_J p l e R s m args below meth c D A H0 nL cells slots Q (pc + 3) lv st ws) : hs_J p l e R s m args below meth c D A H0 nL cells slots Q pc lv (hs_V x :: st) ws := fun H locs ls hP hD hS hl => lv_if_lt C.1.1 C.1.2.1 d ht (fun h => kt ((hs_lt hx hs_in0).mp h) H locs ls hP hD hS hl) (fun h => kf (fun z => h ((hs_lt hx hs_in0).mpr z)) H locs ls hP hD hS hl)
theorem hs_icmp_ge (C : hs_C p s m args c cc nL Ts own D cI cO A H0) {x y : Int} {off : Int} {tgt : Nat} (d : decode cc pc = .ok (.if_icmp .ge off, 3)) (ht : (pc : Int) + off = (tgt : Int)) (hx : hs_in x) (hy : hs_in y) (kt : y ≤ x → hs_J p l e R s m args below meth c D A H0 nL cells slots Q tgt lv st ws) (kf : ¬ y ≤ x → hs_J p l e R s m args below meth c D A H0 nL cells slots Q (pc + 3) lv st ws) : hs_J p l e R s m args below meth c D A H0 nL cells slots Q pc lv (hs_V y :: hs_V x :: st) ws := fun H locs ls hP hD hS hl => lv_icmp_ge C.1.1 C.1.2.1 d ht (fun h => kt ((hs_le hy hx).mp h) H locs ls hP hD hS hl) (fun h => kf (fun z => h ((hs_le hy hx).mpr z)) H locs ls hP hD hS hl)
theorem hs_if_ge (C : hs_C p s m args c cc nL Ts own D cI cO A H0) {x : Int} {off : Int} {tgt : Nat} (d : decode cc pc = .ok (.ifCond .ge off, 3)) (ht : (pc : Int) + off = (tgt : Int)) (hx : hs_in x) (kt : 0 ≤ x → hs_J p l e R s m args below meth c D A H0 nL cells slots Q tgt lv st ws) (kf : ¬ 0 ≤ x → hs_J p l e R s m args below meth c D A H0 nL cells slots Q (pc + 3) lv st ws) : hs_J p l e R s m args below meth c D A H0 nL cells slots Q pc lv (hs_V x :: st) ws := fun H locs ls hP hD hS hl => lv_if_ge C.1.1 C.1.2.1 d ht (fun h => kt ((hs_le hs_in0 hx).mp h) H locs ls hP hD hS hl) (fun h => kf (fun z => h ((hs_le hs_in0 hx).mpr z)) H locs ls hP hD hS hl)
theorem hs_icmp_gt (C : hs_C p s m args c cc nL Ts own D cI cO A H0) {x y : Int} {off : Int} {tgt : Nat} (d : decode cc pc = .ok (.if_icmp .gt off, 3)) (ht : (pc : Int) + off = (tgt : Int)) (hx : hs_in x) (hy : hs_in y) (kt : y < x → hs_J p l e R s m args below meth c D A H0 nL cells slots Q tgt lv st ws) (kf : ¬ y < x → hs_J p l e R s m args below meth c D A H0 nL cells slots Q (pc + 3) lv st ws) : hs_J p l e R s m args below meth c D A H0 nL cells slots Q pc lv (hs_V y :: hs_V x :: st) ws := fun H locs ls hP hD hS hl => lv_icmp_gt C.1.1 C.1.2.1 d ht (fun h => kt ((hs_lt hy hx).mp h) H locs ls hP hD hS hl) (fun h => kf (fun z => h ((hs_lt hy hx).mpr z)) H locs ls hP hD hS hl)
theorem hs_if_gt (C : hs_C p s m args c cc nL Ts own D cI cO A H0) {x : Int} {off : Int} {tgt : Nat} (d : decode cc pc = .ok (.ifCond .gt off, 3)) (ht : (pc : Int) + off = (tgt : Int)) (hx : hs_in x) (kt : 0 < x → hs_J p l e R s m args below meth c D A H0 nL cells slots Q tgt lv st ws) (kf : ¬ 0 < x → hs_J p l e R s m args below meth c D A H0 nL cells slots Q (pc + 3) lv st ws) : hs_J p l e R s m args below meth c D A H0 nL cells slots Q pc lv (hs_V x :: st) ws := fun H locs ls hP hD hS hl => lv_if_gt C.1.1 C.1.2.1 d ht (fun h => kt ((hs_lt hs_in0 hx).mp h) H locs ls hP hD hS hl) (fun h => kf (fun z => h ((hs_lt hs_in0 hx).mpr z)) H locs ls hP hD hS hl)
theorem hs_icmp_le (C : hs_C p s m args c cc nL Ts own D cI cO A H0) {x y : Int} {off : Int} {tgt : Nat} (d : decode cc pc = .ok (.if_icmp .le off, 3)) (ht : (pc : Int) + off = (tgt : Int)) (hx : hs_in x) (hy : hs_in y) (kt : x ≤ y → hs_J p l e R s m args below meth c D A H0 nL cells slots Q tgt lv st ws) (kf : ¬ x ≤ y → hs_J p l e R s m args below meth c D A H0 nL cells slots Q (pc + 3) lv st ws) : hs_J p l e R s m args below meth c D A H0 nL cells slots Q pc lv (hs_V y :: hs_V x :: st) ws := fun H locs ls hP hD hS hl => lv_icmp_le C.1.1 C.1.2.1 d ht (fun h => kt ((hs_le hx hy).mp h) H locs ls hP hD hS hl) (fun h => kf (fun z => h ((hs_le hx hy).mpr z)) H locs ls hP hD hS hl)
theorem hs_if_le (C : hs_C p s m args c cc nL Ts own D cI cO A H0) {x : Int} {off : Int} {tgt : Nat} (d : decode cc pc = .ok (.ifCond .le off, 3)) (ht : (pc : Int) + off = (tgt : Int)) (hx : hs_in x) (kt : x ≤ 0 → hs_J p l e R s m args below meth c D A H0 nL cells slots Q tgt lv st ws) (kf : ¬ x ≤ 0 → hs_J p l e R s m args below meth c D A H0 nL cells slots Q (pc + 3) lv st ws) : hs_J p l e R s m args below meth c D A H0 nL cells slots Q pc lv (hs_V x :: st) ws := fun H locs ls hP hD hS hl => lv_if_le C.1.1 C.1.2.1 d ht (fun h => kt ((hs_le hx hs_in0).mp h) H locs ls hP hD hS hl) (fun h => kf (fun z => h ((hs_le hx hs_in0).mpr z)) H locs ls hP hD hS hl)
theorem hs_ifeq_b (C : hs_C p s m args c cc nL Ts own D cI cO A H0) {P : Prop} [Decidable P] {off : Int} {tgt : Nat} (d : decode cc pc = .ok (.ifCond .eq off, 3)) (ht : (pc : Int) + off = (tgt : Int)) (kt : ¬ P → hs_J p l e R s m args below meth c D A H0 nL cells slots Q tgt lv st ws) (kf : P → hs_J p l e R s m args below meth c D A H0 nL cells slots Q (pc + 3) lv st ws) : hs_J p l e R s m args below meth c D A H0 nL cells slots Q pc lv (hs_V (if P then 1 else 0) :: st) ws := fun H locs ls hP hD hS hl => lv_if_eq C.1.1 C.1.2.1 d ht (fun h => kt (fun z => by rw [if_pos z] at h; exact absurd h (by decide)) H locs ls hP hD hS hl) (fun h => kf (Classical.byContradiction fun z => h (by rw [if_neg z]; rfl)) H locs ls hP hD hS hl)
theorem hs_ifne_b (C : hs_C p s m args c cc nL Ts own D cI cO A H0) {P : Prop} [Decidable P] {off : Int} {tgt : Nat} (d : decode cc pc = .ok (.ifCond .ne off, 3)) (ht : (pc : Int) + off = (tgt : Int)) (kt : P → hs_J p l e R s m args below meth c D A H0 nL cells slots Q tgt lv st ws) (kf : ¬ P → hs_J p l e R s m args below meth c D A H0 nL cells slots Q (pc + 3) lv st ws) : hs_J p l e R s m args below meth c D A H0 nL cells slots Q pc lv (hs_V (if P then 1 else 0) :: st) ws := fun H locs ls hP hD hS hl => lv_if_ne C.1.1 C.1.2.1 d ht (fun h => kt (Classical.byContradiction fun z => h (by rw [if_neg z]; rfl)) H locs ls hP hD hS hl) (fun h => kf (fun z => by rw [if_pos z] at h; exact absurd h (by decide)) H locs ls hP hD hS hl)
theorem hs_ifnonnull (C : hs_C p s m args c cc nL Ts own D cI cO A H0) {x : Nat} {off : Int} {tgt : Nat} (d : decode cc pc = .ok (.ifnonnull off, 3)) (ht : (pc : Int) + off = (tgt : Int)) (k : hs_J p l e R s m args below meth c D A H0 nL cells slots Q tgt lv st ws) : hs_J p l e R s m args below meth c D A H0 nL cells slots Q pc lv (.ref x :: st) ws := fun H locs ls hP hD hS hl => lv_ifnonnull C.1.1 C.1.2.1 d ht (k H locs ls hP hD hS hl)
theorem hs_ifnonnullN (C : hs_C p s m args c cc nL Ts own D cI cO A H0) {off : Int} (d : decode cc pc = .ok (.ifnonnull off, 3)) (k : hs_J p l e R s m args below meth c D A H0 nL cells slots Q (pc + 3) lv st ws) : hs_J p l e R s m args below meth c D A H0 nL cells slots Q pc lv (.null :: st) ws := fun H locs ls hP hD hS hl => lv_ifnonnullN C.1.1 C.1.2.1 d (k H locs ls hP hD hS hl)
theorem hs_tableOut (C : hs_C p s m args c cc nL Ts own D cI cO A H0) {dflt lo hi : Int} {offs : Array Int} {len : Nat} {x : Int} {tgt : Nat} (d : decode cc pc = .ok (.tableswitch dflt lo hi offs, len)) (hx : hs_in x) (h : x < lo ∨ hi < x) (ht : (pc : Int) + dflt = (tgt : Int)) (k : hs_J p l e R s m args below meth c D A H0 nL cells slots Q tgt lv st ws) : hs_J p l e R s m args below meth c D A H0 nL cells slots Q pc lv (hs_V x :: st) ws := fun H locs ls hP hD hS hl => lv_tableOut C.1.1 C.1.2.1 d (by rw [hs_toInt hx]; exact h) ht (k H locs ls hP hD hS hl)
theorem hs_tableIn (C : hs_C p s m args c cc nL Ts own D cI cO A H0) {dflt lo hi : Int} {offs : Array Int} {len : Nat} {x off : Int} {tgt : Nat} (d : decode cc pc = .ok (.tableswitch dflt lo hi offs, len)) (hx : hs_in x) (h1 : ¬ x < lo) (h2 : ¬ hi < x) (ho : offs[(x - lo).toNat]? = some off) (ht : (pc : Int) + off = (tgt : Int)) (k : hs_J p l e R s m args below meth c D A H0 nL cells slots Q tgt lv st ws) : hs_J p l e R s m args below meth c D A H0 nL cells slots Q pc lv (hs_V x :: st) ws := fun H locs ls hP hD hS hl => lv_tableIn C.1.1 C.1.2.1 d (by rw [hs_toInt hx]; exact h1) (by rw [hs_toInt hx]; exact h2) (by rw [hs_toInt hx]; exact ho) ht (k H locs ls hP hD hS hl)
theorem hs_lookup (C : hs_C p s m args c cc nL Ts own D cI cO A H0) {dflt : Int} {ps : Array (Int × Int)} {len : Nat} {x off : Int} {tgt : Nat} (d : decode cc pc = .ok (.lookupswitch dflt ps, len)) (hp : (ps.toList.zip (ps.toList.drop 1)).all (fun (a, next) => a.1 < next.1) = true) (hx : hs_in x) (ho : Op.lookupswitch.offset ps.toList dflt x = off) (ht : (pc : Int) + off = (tgt : Int)) (k : hs_J p l e R s m args below meth c D A H0 nL cells slots Q tgt lv st ws) : hs_J p l e R s m args below meth c D A H0 nL cells slots Q pc lv (hs_V x :: st) ws := fun H locs ls hP hD hS hl => lv_lookup C.1.1 C.1.2.1 d hp (by rw [hs_toInt hx]; exact ho) ht (k H locs ls hP hD hS hl)
theorem hs_get (C : hs_C p s m args c cc nL Ts own D cI cO A H0) {ref Cn : String} {T : u_T} {N ci index a : Nat} (hin : ∀ w ∈ u_ws Cn T N, w ∈ Ts) (q0 : Nat) {fs : List Value} (he : ws[q0]? = some (a, .inr (ci, fs))) (hc : vwCl[ci]? = some (Cn, T, N)) (j : Nat) (hj : j < N) (hlink : (Cond.fieldLink own index ref (T j).2.1 (T j).2.2.1).before args s = true) (hsame : (T j).1 = ref) {v : Value} (hv : fs[j]? = some v) (d : decode cc pc = .ok (.getfield index, 3)) (k : hs_J p l e R s m args below meth c D A H0 nL cells slots Q (pc + 3) lv (v :: st) ws) : hs_J p l e R s m args below meth c D A H0 nL cells slots Q pc lv (.ref a :: st) ws := fun H locs ls hP hD hS hl => va_get C.1.1 C.1.2.1 C.1.2.2.2.2 hin C.1.2.2.2.1 C.2.1 hP q0 he hc j hj hlink (fun _ h => by rw [← hsame]; exact h) hv d (k H locs ls hP hD hS hl)
theorem hs_getN (C : hs_C p s m args c cc nL Ts own D cI cO A H0) {ref Cn host : String} {T : u_T} {N ci index a : Nat} (hin : ∀ w ∈ u_ws Cn T N, w ∈ Ts) (q0 : Nat) {fs : List Value} (he : ws[q0]? = some (a, .inr (ci, fs))) (hc : vwCl[ci]? = some (Cn, T, N)) (j : Nat) (hj : j < N) (hlink : (Cond.fieldLinkNest own index ref (T j).2.1 (T j).2.2.1 host).before args s = true) (hsame : (T j).1 = ref) {v : Value} (hv : fs[j]? = some v) (d : decode cc pc = .ok (.getfield index, 3)) (k : hs_J p l e R s m args below meth c D A H0 nL cells slots Q (pc + 3) lv (v :: st) ws) : hs_J p l e R s m args below meth c D A H0 nL cells slots Q pc lv (.ref a :: st) ws := fun H locs ls hP hD hS hl => va_getN C.1.1 C.1.2.1 C.1.2.2.2.2 hin C.1.2.2.2.1 C.2.1 hP q0 he hc j hj hlink (fun _ h => by rw [← hsame]; exact h) hv d (k H locs ls hP hD hS hl)
theorem hs_put (C : hs_C p s m args c cc nL Ts own D cI cO A H0) {ref Cn : String} {T : u_T} {N ci index a : Nat} (hin : ∀ w ∈ u_ws Cn T N, w ∈ Ts) (ty0 : Nat → FieldType) (hty : ∀ k, k < N → parseFieldDescriptor (T k).2.2.1 = some (ty0 k)) (hnm : ∀ a, a < N → ∀ b, b < N → a ≠ b → (T a).2.1 ≠ (T b).2.1) (q0 : Nat) {fs : List Value} (he : ws[q0]? = some (a, .inr (ci, fs))) (hc : vwCl[ci]? = some (Cn, T, N)) (j : Nat) (hj : j < N) (hlink : (Cond.fieldLink own index ref (T j).2.1 (T j).2.2.1).before args s = true) (hsame : (T j).1 = ref) (hfin : (T j).2.2.2 = false) {v : Value} {ty : FieldType} (hd : parseFieldDescriptor (T j).2.2.1 = some ty) (hn : narrow ty v = v) (hfit : fits ty v = true) (hl0 : j < fs.length) {ws' : va_W} (hws : ws.set q0 (a, .inr (ci, fs.set j v)) = ws') (d : decode cc pc = .ok (.putfield index, 3)) (k : hs_J p l e R s m args below meth c D A H0 nL cells slots Q (pc + 3) lv st ws') : hs_J p l e R s m args below meth c D A H0 nL cells slots Q pc lv (v :: .ref a :: st) ws := fun H locs ls hP hD hS hl => va_put C.1.1 C.1.2.1 C.1.2.2.2.2 hin ty0 hty hnm C.1.2.2.2.1 C.2.1 hP hD hS q0 he hc j hj hlink (fun _ h => by rw [← hsame]; exact h) hfin hd hn hfit hl0 d (fun H locs hP hD hS => k H locs ls (hws ▸ hP) (hws ▸ hD) hS hl)
theorem hs_putN (C : hs_C p s m args c cc nL Ts own D cI cO A H0) {ref Cn : String} {host : String} {T : u_T} {N ci index a : Nat} (hin : ∀ w ∈ u_ws Cn T N, w ∈ Ts) (ty0 : Nat → FieldType) (hty : ∀ k, k < N → parseFieldDescriptor (T k).2.2.1 = some (ty0 k)) (hnm : ∀ a, a < N → ∀ b, b < N → a ≠ b → (T a).2.1 ≠ (T b).2.1) (q0 : Nat) {fs : List Value} (he : ws[q0]? = some (a, .inr (ci, fs))) (hc : vwCl[ci]? = some (Cn, T, N)) (j : Nat) (hj : j < N) (hlink : (Cond.fieldLinkNest own index ref (T j).2.1 (T j).2.2.1 host).before args s = true) (hsame : (T j).1 = ref) (hfin : (T j).2.2.2 = false) {v : Value} {ty : FieldType} (hd : parseFieldDescriptor (T j).2.2.1 = some ty) (hn : narrow ty v = v) (hfit : fits ty v = true) (hl0 : j < fs.length) {ws' : va_W} (hws : ws.set q0 (a, .inr (ci, fs.set j v)) = ws') (d : decode cc pc = .ok (.putfield index, 3)) (k : hs_J p l e R s m args below meth c D A H0 nL cells slots Q (pc + 3) lv st ws') : hs_J p l e R s m args below meth c D A H0 nL cells slots Q pc lv (v :: .ref a :: st) ws := fun H locs ls hP hD hS hl => va_putN C.1.1 C.1.2.1 C.1.2.2.2.2 hin ty0 hty hnm C.1.2.2.2.1 C.2.1 hP hD hS q0 he hc j hj hlink (fun _ h => by rw [← hsame]; exact h) hfin hd hn hfit hl0 d (fun H locs hP hD hS => k H locs ls (hws ▸ hP) (hws ▸ hD) hS hl)
theorem hs_putF (C : hs_C p s m args c cc nL Ts own D cI cO A H0) {ref Cn : String} {T : u_T} {N ci index a : Nat} (hin : ∀ w ∈ u_ws Cn T N, w ∈ Ts) (ty0 : Nat → FieldType) (hty : ∀ k, k < N → parseFieldDescriptor (T k).2.2.1 = some (ty0 k)) (hnm : ∀ a, a < N → ∀ b, b < N → a ≠ b → (T a).2.1 ≠ (T b).2.1) (q0 : Nat) {fs : List Value} (he : ws[q0]? = some (a, .inr (ci, fs))) (hc : vwCl[ci]? = some (Cn, T, N)) (j : Nat) (hj : j < N) (hlink : (Cond.fieldLink own index ref (T j).2.1 (T j).2.2.1).before args s = true) (hsame : (T j).1 = ref) (hfin : (T j).2.2.2 = true) (hin2 : meth.name = "<init>") (hdecl : (T j).1 = own) {v : Value} {ty : FieldType} (hd : parseFieldDescriptor (T j).2.2.1 = some ty) (hn : narrow ty v = v) (hfit : fits ty v = true) (hl0 : j < fs.length) {ws' : va_W} (hws : ws.set q0 (a, .inr (ci, fs.set j v)) = ws') (d : decode cc pc = .ok (.putfield index, 3)) (k : hs_J p l e R s m args below meth c D A H0 nL cells slots Q (pc + 3) lv st ws') : hs_J p l e R s m args below meth c D A H0 nL cells slots Q pc lv (v :: .ref a :: st) ws := fun H locs ls hP hD hS hl => va_putF C.1.1 C.1.2.1 C.1.2.2.2.2 hin ty0 hty hnm C.1.2.2.2.1 C.2.1 hP hD hS q0 he hc j hj hlink (fun _ h => by rw [← hsame]; exact h) hfin hin2 hdecl hd hn hfit hl0 d (fun H locs hP hD hS => k H locs ls (hws ▸ hP) (hws ▸ hD) hS hl)
theorem hs_iald (C : hs_C p s m args c cc nL Ts own D cI cO A H0) {a n : Nat} {g : Int → Int} {z : Int} (q0 : Nat) (he : ws[q0]? = some (hs_ia cI a n g)) (hz : 0 ≤ z ∧ z < (n : Int) ∧ (n : Int) ≤ 2147483647) (d : decode cc pc = .ok (.iaload, 1)) (k : hs_J p l e R s m args below meth c D A H0 nL cells slots Q (pc + 1) lv (hs_V (g z) :: st) ws) : hs_J p l e R s m args below meth c D A H0 nL cells slots Q pc lv (hs_V z :: .ref a :: st) ws := fun H locs ls hP hD hS hl => va_iald C.1.1 C.1.2.1 C.2.1 hP q0 0 he rfl (hs_vin hz.1 hz.2.1 (by omega)) d (by
  have e : hs_f g (hs_I z).toNatClampNeg = hs_I (g z) := by
    rw [hs_nat ⟨by omega, by omega⟩]
    show hs_I (g ((z.toNat : Nat) : Int)) = _
    rw [Int.toNat_of_nonneg hz.1]
  rw [e]; exact k H locs ls hP hD hS hl)
theorem hs_iast (C : hs_C p s m args c cc nL Ts own D cI cO A H0) {a n : Nat} {g : Int → Int} {z v : Int} (q0 : Nat) (he : ws[q0]? = some (hs_ia cI a n g)) (hz : 0 ≤ z ∧ z < (n : Int) ∧ (n : Int) ≤ 2147483647) {ws' : va_W} (hws : ws.set q0 (hs_ia cI a n (hs_u g z v)) = ws') (d : decode cc pc = .ok (.iastore, 1)) (k : hs_J p l e R s m args below meth c D A H0 nL cells slots Q (pc + 1) lv st ws') : hs_J p l e R s m args below meth c D A H0 nL cells slots Q pc lv (hs_V v :: hs_V z :: .ref a :: st) ws := fun H locs ls hP hD hS hl => va_iast C.1.1 C.1.2.1 C.2.1 hP hD hS q0 0 he rfl (hs_vin hz.1 hz.2.1 (by omega)) d (fun H locs hP hD hS => by
  rw [hs_nat ⟨by omega, by omega⟩, hs_fu hz.1] at hP hD
  exact k H locs ls (hws ▸ hP) (hws ▸ hD) hS hl)
theorem hs_aald (C : hs_C p s m args c cc nL Ts own D cI cO A H0) {a n : Nat} {f : Nat → Option Nat} {z : Int} {v : Value} (q0 : Nat) (he : ws[q0]? = some (hs_ra cO a n f)) (hz : 0 ≤ z ∧ z < (n : Int) ∧ (n : Int) ≤ 2147483647) (hv : va_rf (f z.toNat) = v) (d : decode cc pc = .ok (.aaload, 1)) (k : hs_J p l e R s m args below meth c D A H0 nL cells slots Q (pc + 1) lv (v :: st) ws) : hs_J p l e R s m args below meth c D A H0 nL cells slots Q pc lv (hs_V z :: .ref a :: st) ws := fun H locs ls hP hD hS hl => va_aldq (C := RX0) C.1.1 C.1.2.1 C.2.1 hP q0 1 he rfl (hs_vin hz.1 hz.2.1 (by omega)) d (by
  rw [hs_nat ⟨by omega, by omega⟩, hv]; exact k H locs ls hP hD hS hl)
theorem hs_aast (C : hs_C p s m args c cc nL Ts own D cI cO A H0) {a n : Nat} {f : Nat → Option Nat} {z : Int} {v : Nat} {vs : List Value} (q0 qk : Nat) (he : ws[q0]? = some (hs_ra cO a n f)) (hk : ws[qk]? = some (v, .inr (0, vs))) (hz : 0 ≤ z ∧ z < (n : Int) ∧ (n : Int) ≤ 2147483647) {f' : Nat → Option Nat} (hf : va_up f z.toNat (some v) = f') {ws' : va_W} (hws : ws.set q0 (hs_ra cO a n f') = ws') (d : decode cc pc = .ok (.aastore, 1)) (k : hs_J p l e R s m args below meth c D A H0 nL cells slots Q (pc + 1) lv st ws') : hs_J p l e R s m args below meth c D A H0 nL cells slots Q pc lv (.ref v :: hs_V z :: .ref a :: st) ws := fun H locs ls hP hD hS hl => va_astq C.1.1 C.1.2.1 C.2.1 hP hD hS q0 1 qk 0 (r := (RX0, TX0, 2)) he rfl hk rfl (hs_vin hz.1 hz.2.1 (by omega)) d (fun H locs hP hD hS => by
  rw [hs_nat ⟨by omega, by omega⟩, hf] at hP hD
  exact k H locs ls (hws ▸ hP) (hws ▸ hD) hS hl)
theorem hs_alen (C : hs_C p s m args c cc nL Ts own D cI cO A H0) {a n : Nat} {g : Int → Int} (q0 : Nat) (he : ws[q0]? = some (hs_ia cI a n g)) {z : Int} (hz : (n : Int) = z) (d : decode cc pc = .ok (.arraylength, 1)) (k : hs_J p l e R s m args below meth c D A H0 nL cells slots Q (pc + 1) lv (hs_V z :: st) ws) : hs_J p l e R s m args below meth c D A H0 nL cells slots Q pc lv (.ref a :: st) ws := fun H locs ls hP hD hS hl => va_alen C.1.1 C.1.2.1 C.2.1 hP q0 0 he rfl (v := hs_I z) (by rw [← hz]; rfl) d (k H locs ls hP hD hS hl)
theorem hs_copy (C : hs_C p s m args c cc nL Ts own D cI cO A H0) {index : Nat} (hlink : (Cond.methodLink own index arraycopyName).before args s = true) (hnat : (Cond.native arraycopyName).before args s = true) (hstat : (Cond.static arraycopyName).before args s = true) (hini : (Cond.initialized "java/lang/System").before args s = true) {a0 a1 n0 n1 : Nat} {f g : Int → Int} {sp dp n : Int} (q0 q1 : Nat) (he0 : ws[q0]? = some (hs_ia cI a0 n0 f)) (he1 : ws[q1]? = some (hs_ia cI a1 n1 g)) (hz : 0 ≤ sp ∧ 0 ≤ dp ∧ 0 ≤ n ∧ sp + n ≤ (n0 : Int) ∧ dp + n ≤ (n1 : Int) ∧ (n0 : Int) ≤ 2147483647 ∧ (n1 : Int) ≤ 2147483647) (hfr : 1 ≤ R.frames) (hlo : (st.map fun v => v.category).sum + (nativeFrameWords "java/lang/System" "arraycopy" 5 + 11) ≤ R.locals) {ws' : va_W} (hws : ws.set q1 (hs_ia cI a1 n1 (hs_cp f g sp dp n)) = ws') (d : decode cc pc = .ok (.invokestatic index, 3)) (k : hs_J p l e R s m args below meth c D A H0 nL cells slots Q (pc + 3) lv st ws') : hs_J p l e R s m args below meth c D A H0 nL cells slots Q pc lv (hs_V n :: hs_V dp :: .ref a1 :: hs_V sp :: .ref a0 :: st) ws := fun H locs ls hP hD hS hl => by
  have i1 : hs_in sp := ⟨by omega, by omega⟩
  have i2 : hs_in dp := ⟨by omega, by omega⟩
  have i3 : hs_in n := ⟨by omega, by omega⟩
  refine va_copyi C.1.1 C.1.2.1 (C.1.2.2.1.trans hl.1.symm) C.1.2.2.2.1 hlink hnat hstat hini C.2.1 hP hD hS q0 q1 0 0 he0 he1 rfl rfl rfl (by rw [← hs_I0, hs_lt i1 hs_in0]; omega) (by rw [← hs_I0, hs_lt i2 hs_in0]; omega) (by rw [← hs_I0, hs_lt i3 hs_in0]; omega) (by rw [hs_nat i1, hs_nat i3]; omega) (by rw [hs_nat i2, hs_nat i3]; omega) (fun i hi => rfl) hfr hlo d (fun H locs hP hD hS => ?_)
  rw [hs_nat i1, hs_nat i2, hs_nat i3, hs_fcp hz.1 hz.2.1 hz.2.2.1] at hP hD
  exact k H locs ls (hws ▸ hP) (hws ▸ hD) hS hl
theorem hs_max (C : hs_C p s m args c cc nL Ts own D cI cO A H0) {index : Nat} (hlink : (Cond.methodLink own index Lib.Math.max.name).before args s = true) (hstat : (Cond.static Lib.Math.max.name).before args s = true) (hini : (Cond.initialized "java/lang/Math").before args s = true) (hcode : (Cond.code Lib.Math.max.name Lib.Math.max.code 2 (some .int)).before args s = true) (hfr : 1 ≤ R.frames) (hlo : (st.map fun v => v.category).sum + 13 ≤ R.locals) (hc : cells ≤ R.cells) (hs : slots ≤ R.slots) {x y : Int} (hx : hs_in x) (hy : hs_in y) (d : decode cc pc = .ok (.invokestatic index, 3)) (k : hs_J p l e R s m args below meth c D A H0 nL cells slots Q (pc + 3) lv (hs_V (max x y) :: st) ws) : hs_J p l e R s m args below meth c D A H0 nL cells slots Q pc lv (hs_V y :: hs_V x :: st) ws := fun H locs ls hP hD hS hl => va_mmax C.1.1 C.1.2.1 (C.1.2.2.1.trans hl.1.symm) C.1.2.2.2.1 hlink hstat hini hcode hfr hlo hc hs d (by
  have e : (if hs_I x < hs_I y then hs_I y else hs_I x) = hs_I (max x y) := by
    by_cases h : x < y
    · rw [if_pos ((hs_lt hx hy).mpr h), Int.max_eq_right (by omega)]
    · rw [if_neg (fun z => h ((hs_lt hx hy).mp z)), Int.max_eq_left (by omega)]
  rw [e]; exact k H locs ls hP hD hS hl)
theorem hs_min (C : hs_C p s m args c cc nL Ts own D cI cO A H0) {index : Nat} (hlink : (Cond.methodLink own index Lib.Math.min.name).before args s = true) (hstat : (Cond.static Lib.Math.min.name).before args s = true) (hini : (Cond.initialized "java/lang/Math").before args s = true) (hcode : (Cond.code Lib.Math.min.name Lib.Math.min.code 2 (some .int)).before args s = true) (hfr : 1 ≤ R.frames) (hlo : (st.map fun v => v.category).sum + 13 ≤ R.locals) (hc : cells ≤ R.cells) (hs : slots ≤ R.slots) {x y : Int} (hx : hs_in x) (hy : hs_in y) (d : decode cc pc = .ok (.invokestatic index, 3)) (k : hs_J p l e R s m args below meth c D A H0 nL cells slots Q (pc + 3) lv (hs_V (min x y) :: st) ws) : hs_J p l e R s m args below meth c D A H0 nL cells slots Q pc lv (hs_V y :: hs_V x :: st) ws := fun H locs ls hP hD hS hl => va_mmin C.1.1 C.1.2.1 (C.1.2.2.1.trans hl.1.symm) C.1.2.2.2.1 hlink hstat hini hcode hfr hlo hc hs d (by
  have e : (if hs_I y < hs_I x then hs_I y else hs_I x) = hs_I (min x y) := by
    by_cases h : y < x
    · rw [if_pos ((hs_lt hy hx).mpr h), Int.min_eq_right (by omega)]
    · rw [if_neg (fun z => h ((hs_lt hy hx).mp z)), Int.min_eq_left (by omega)]
  rw [e]; exact k H locs ls hP hD hS hl)

theorem hs_re {w w' wi : va_W} (pl : List Nat) (hpl : pl.map (fun i => w[i]?) = w'.map some) (hnd : va_nd pl = true) (k : hs_J p l e R s m args below meth c D A H0 nL cells slots Q pc lv st (w' ++ wi)) : hs_J p l e R s m args below meth c D A H0 nL cells slots Q pc lv st (w ++ wi) := fun H locs ls hP hD hS hl => by
  obtain ⟨h1, h2⟩ := hs_reP pl hpl hnd hP hD
  exact k H locs ls h1 h2 hS hl
theorem hs_re0 {w w' : va_W} (pl : List Nat) (hpl : pl.map (fun i => w[i]?) = w'.map some) (hnd : va_nd pl = true) (k : hs_J p l e R s m args below meth c D A H0 nL cells slots Q pc lv st w') : hs_J p l e R s m args below meth c D A H0 nL cells slots Q pc lv st w := fun H locs ls hP hD hS hl => by
  obtain ⟨h1, h2⟩ := hs_reP (wi := []) pl hpl hnd (by rw [List.append_nil]; exact hP) (by rw [List.append_nil]; exact hD)
  rw [List.append_nil] at h1 h2
  exact k H locs ls h1 h2 hS hl
theorem hs_swap {w1 w2 : va_W} (k : hs_J p l e R s m args below meth c D A H0 nL cells slots Q pc lv st (w2 ++ w1)) : hs_J p l e R s m args below meth c D A H0 nL cells slots Q pc lv st (w1 ++ w2) := fun H locs ls hP hD hS hl => by
  refine k H locs ls ?_ ?_ hS hl
  · rw [hs_Pm] at hP ⊢
    intro q hq
    exact hP q (List.mem_append.mpr ((List.mem_append.mp hq).symm))
  · rw [hs_Dm] at hD ⊢
    rw [List.map_append, List.nodup_append] at hD ⊢
    exact ⟨⟨hD.1.2.1, hD.1.1, fun a ha b hb e => hD.1.2.2 b hb a ha e.symm⟩, fun q hq => hD.2 q (List.mem_append.mpr ((List.mem_append.mp hq).symm))⟩
theorem hs_lvs {lv' : List (Nat × Value)} (ks : List Nat) (hks : lv_pick lv ks = lv') (k : hs_J p l e R s m args below meth c D A H0 nL cells slots Q pc lv' st ws) : hs_J p l e R s m args below meth c D A H0 nL cells slots Q pc lv st ws := fun H locs ls hP hD hS hl => k H locs ls hP hD hS (lv_sub hl ks hks)
theorem hs_widen {cells' slots' : Nat} (h1 : cells ≤ cells') (h2 : slots ≤ slots') (k : hs_J p l e R s m args below meth c D A H0 nL cells' slots' Q pc lv st ws) : hs_J p l e R s m args below meth c D A H0 nL cells slots Q pc lv st ws := fun H locs ls hP hD hS hl => W.widen h1 h2 (k H locs ls hP hD hS hl)
theorem hs_cast {pc' : Nat} {lv' : List (Nat × Value)} {st' : List Value} {ws' : va_W} (k : hs_J p l e R s m args below meth c D A H0 nL cells slots Q pc' lv' st' ws') (h1 : pc' = pc) (h2 : lv' = lv) (h3 : st' = st) (h4 : ws' = ws) : hs_J p l e R s m args below meth c D A H0 nL cells slots Q pc lv st ws := by subst h1; subst h2; subst h3; subst h4; exact k
/-- new int[n] -/
theorem hs_newi (C : hs_C p s m args c cc nL Ts own D cI cO A H0) (harr : (Cond.arrayClass .int).before args s = true) {z : Int} {n : Nat} (hz : z = (n : Int)) (hn : n ≤ 100000) (hc : cells + 1 ≤ R.cells) (hs : slots + n ≤ R.slots) (d : decode cc pc = .ok (.newarray .int, 2)) (k : ∀ q : Nat, hs_J p l e R s m args below meth c D A H0 nL (cells + 1) (slots + n) Q (pc + 2) lv (.ref q :: st) (ws ++ [hs_ia cI q n (fun _ => 0)])) : hs_J p l e R s m args below meth c D A H0 nL cells slots Q pc lv (hs_V z :: st) ws := fun H locs ls hP hD hS hl => by
  have iz : hs_in z := ⟨by omega, by omega⟩
  refine va_newa (atype := .int) (ty := .int) (N' := n) (a0 := (n, .inl (hs_f (fun _ => 0)))) C.1.1 C.1.2.1 harr rfl C.2.1 hP hD hS C.2.2.2 (fun cA => by rw [vp_cell_i]; rfl) (by rw [← hs_I0, hs_lt iz hs_in0]; omega) (by rw [hs_nat iz]; omega) (by show n * 4 ≤ _; omega) hc hs d (fun q cA H1 hK hP hD hS => ?_)
  have e1 : s.vm.findClass ("[" ++ FieldType.int.toString) = some cA := (hK.2 2 (cA, .int) rfl).2
  have e2 : s.vm.findClass ("[" ++ FieldType.int.toString) = some cI := (C.2.1.2 0 (cI, .int) rfl).2
  have e3 : cA = cI := Option.some.inj (e1.symm.trans e2)
  subst e3
  exact k q H1 locs ls hP hD hS hl
/-- new Columns[n] -/
theorem hs_newr (C : hs_C p s m args c cc nL Ts own D cI cO A H0) {index : Nat} (hlink : (Cond.classLink own index RX0).before args s = true) {z : Int} {n : Nat} (hz : z = (n : Int)) (hn : n ≤ 100000) (hc : cells + 1 ≤ R.cells) (hs : slots + n ≤ R.slots) (d : decode cc pc = .ok (.anewarray index, 3)) (k : ∀ q : Nat, hs_J p l e R s m args below meth c D A H0 nL (cells + 1) (slots + n) Q (pc + 3) lv (.ref q :: st) (ws ++ [hs_ra cO q n (fun _ => none)])) : hs_J p l e R s m args below meth c D A H0 nL cells slots Q pc lv (hs_V z :: st) ws := fun H locs ls hP hD hS hl => by
  have iz : hs_in z := ⟨by omega, by omega⟩
  refine va_newq (N' := n) C.1.1 C.1.2.1 C.1.2.2.2.1 hlink C.2.2.1.2.2 C.2.1 hP hD hS C.2.2.2 (by rw [← hs_I0, hs_lt iz hs_in0]; omega) (by rw [hs_nat iz]; omega) (by omega) hc hs d (fun q cA H1 hK hP hD hS => ?_)
  obtain ⟨k1, c1, a1, a2, a3, a4⟩ := (hK.2 2 (cA, .object RX0) rfl).2
  obtain ⟨k2, c2, b1, b2, b3, b4⟩ := (C.2.1.2 1 (cO, .object RX0) rfl).2
  have e3 : cA = cO := Option.some.inj (a4.symm.trans b4)
  subst e3
  exact k q H1 locs ls hP hD hS hl
/-- new C() -/
theorem hs_new (C : hs_C p s m args c cc nL Ts own D cI cO A H0) {Cn : String} {T : u_T} {N ci index : Nat} (hin : ∀ w ∈ u_ws Cn T N, w ∈ Ts) (ty : Nat → FieldType) (hty : ∀ k, k < N → parseFieldDescriptor (T k).2.2.1 = some (ty k)) (hcl : (Cond.classLink own index Cn).before args s = true) (hinst : (Cond.instantiable Cn N).before args s = true) (hini : (Cond.initialized Cn).before args s = true) (hcc : vwCl[ci]? = some (Cn, T, N)) {fs : List Value} (hfs : ∀ j, j < N → defaultValue (ty j) = vp_V fs j) (hc : cells + 1 ≤ R.cells) (hs : slots + N ≤ R.slots) (d : decode cc pc = .ok (.new index, 3)) (k : ∀ q : Nat, hs_J p l e R s m args below meth c D A H0 nL (cells + 1) (slots + N) Q (pc + 3) lv (.ref q :: st) (ws ++ [(q, .inr (ci, fs))])) : hs_J p l e R s m args below meth c D A H0 nL cells slots Q pc lv st ws := fun H locs ls hP hD hS hl =>
  va_new C.1.1 C.1.2.1 C.1.2.2.2.2 hin ty hty C.1.2.2.2.1 hcl hinst hini C.2.1 hP hD hS C.2.2.2 hcc hfs hc hs d (fun q H1 hP hD hS => k q H1 locs ls hP hD hS hl)
/-- Object.<init> -/
theorem hs_obj (C : hs_C p s m args c cc nL Ts own D cI cO A H0) {idx a : Nat} (hlink : (Cond.methodLink own idx Lib.objectInit).before args s = true) (hinst : (Cond.instanceMethod Lib.objectInit).before args s = true) (hcode : (Cond.code Lib.objectInit ⟨#[0xb1]⟩ 1 none).before args s = true) (hfr : 1 ≤ R.frames) (hro : (st.map fun v => v.category).sum ≤ 8) (hlo : 20 ≤ R.locals) (d : decode cc pc = .ok (.invokespecial idx, 3)) (k : hs_J p l e R s m args below meth c D A H0 nL cells slots Q (pc + 3) lv st ws) : hs_J p l e R s m args below meth c D A H0 nL cells slots Q pc lv (.ref a :: st) ws := fun H locs ls hP hD hS hl =>
  W.objInit C.1.1 C.1.2.1 C.1.2.2.2.1 hlink hinst hcode rfl (hl.1.trans C.1.2.2.1.symm) rfl d hfr (by have := lv_room (m := m) (pc := pc) (ls := ls) (rest := .ref a :: st) hro; omega) (k H locs ls hP hD hS hl)
end JL
/-- A CONTRACT that answers an int: from any heap that holds the cells win; behind it the cells out u, and post answer u -/
def hs_M (l : Launch) (D : va_G) (cI cO : ClassId) (y : MethodName) (wsy : List Cond) (rm : Room) (av : List Value) (win : va_W) {S : Type} (post : Int32 → S → Prop) (out : S → va_W) (mc ms : Nat) : Prop :=
  ∀ sz : Nat, Met l y wsy rm (va_Pc av (fun U => U.heap.size = sz ∧ va_P D vwCl win U.heap ∧ (va_K D vwCl (hs_t cI cO) U ∧ hs_N U) ∧ va_D (fun _ => True) win)) (va_Qi post (fun u t => va_P D vwCl (out u) t.heap ∧ va_D (va_A win sz) (out u)) (va_A win sz)) mc ms (va_A win sz)
def hs_Mv (l : Launch) (D : va_G) (cI cO : ClassId) (y : MethodName) (wsy : List Cond) (rm : Room) (av : List Value) (win : va_W) {S : Type} (post : S → Prop) (out : S → va_W) (mc ms : Nat) : Prop :=
  ∀ sz : Nat, Met l y wsy rm (va_Pc av (fun U => U.heap.size = sz ∧ va_P D vwCl win U.heap ∧ (va_K D vwCl (hs_t cI cO) U ∧ hs_N U) ∧ va_D (fun _ => True) win)) (va_Qv post (fun u t => va_P D vwCl (out u) t.heap ∧ va_D (va_A win sz) (out u)) (va_A win sz)) mc ms (va_A win sz)
theorem hs_blind {sz : Nat} {D : va_G} {cI cO : ClassId} {av : List Value} {win : va_W} : FrameBlind (va_Pc av (fun U => U.heap.size = sz ∧ va_P D vwCl win U.heap ∧ (va_K D vwCl (hs_t cI cO) U ∧ hs_N U) ∧ va_D (fun _ => True) win)) := fun a U g mk q => by
  obtain ⟨q0, q1, qP, ⟨qK, qN⟩, qD⟩ := q
  exact ⟨q0, q1, qP, ⟨va_K.moved (u := U) (U := U.calling g mk a) (Vm.Alike.refl U.vm) qK, hs_N.same (s := U) (U := U.calling g mk a) rfl qN⟩, qD⟩
section JE
variable {l : Launch} {D : va_G} {cI cO : ClassId} {y : MethodName} {wsy ws' : List Cond} {rm : Room} {av : List Value} {win : va_W} {S : Type} {out : S → va_W} {mc ms : Nat} {cc : ByteArray} {maxL : Nat}
theorem hs_enter {post : Int32 → S → Prop} {ret : FieldType} (hy : plainName y.cls = true) (hw : wsy = Cond.code y cc maxL (some ret) :: ws') (hlen : (lg_sl av).length ≤ maxL)
    (body : ∀ (p : Program) (e : Env) (s : State) (m : MethodId) (args : Array Value) (below : List Frame) (meth : Method) (c : Code) (A : Nat → Prop) (H0 : Heap) (Q : State → Prop), hs_C p s m args c cc maxL wsy y.cls D cI cO A H0 →
      (∀ (pc : Nat) (lv : List (Nat × Value)) (v : Int32) (u : S), post v u → decode cc pc = .ok (.ireturn, 1) → narrow ret (.int v) = .int v → hs_J p l e rm s m args below meth c D A H0 maxL mc ms Q pc lv [.int v] (out u)) →
      hs_J p l e rm s m args below meth c D A H0 maxL 0 0 Q 0 (lv_args 0 av) [] win) : hs_M l D cI cO y wsy rm av win post out mc ms := by
  intro sz
  refine Met.ofW (cc := cc) (maxL := maxL) (ret := some ret) hy hw ?_
  intro p e s m args below meth c s₁ B hml hv
  obtain ⟨rfl, hsz, hP, ⟨hK, hN⟩, hD0⟩ := hv
  subst hsz
  have hts := atoms_spec (ws := wsy) B.pre
  have hown : s.vm.findClass y.cls = some m.cls := findClass_of_methodNamed B.named
  have hl := lv_entry av (n := maxL) hlen
  have hr := B.returns
  have hlk := B.notSynchronized
  rw [lg_entry_eq]
  exact body p e s m av.toArray below meth c (va_A win s.heap.size) s.heap _ ⟨⟨B.exec, B.bytes, hml, hown, hts⟩, hK, hN, fun q h => Or.inr h⟩ (fun pc lv v u hp d hn H locs ls hP hD hS hl => W.zret (v := v) B.exec B.bytes hr hn (fun t ht hW => ⟨⟨v, u, rfl, hp, by rw [ht]; exact hP, hD⟩, hS.F ht⟩) hS.2.2 d hlk) s.heap [] _ hP (hD0.self (sz := s.heap.size)) va_S.rf hl
theorem hs_enterV {post : S → Prop} (hy : plainName y.cls = true) (hw : wsy = Cond.code y cc maxL none :: ws') (hlen : (lg_sl av).length ≤ maxL)
    (body : ∀ (p : Program) (e : Env) (s : State) (m : MethodId) (args : Array Value) (below : List Frame) (meth : Method) (c : Code) (A : Nat → Prop) (H0 : Heap) (Q : State → Prop), hs_C p s m args c cc maxL wsy y.cls D cI cO A H0 → meth.name = y.name →
      (∀ (pc : Nat) (lv : List (Nat × Value)) (u : S), post u → decode cc pc = .ok (.return_, 1) → hs_J p l e rm s m args below meth c D A H0 maxL mc ms Q pc lv [] (out u)) →
      hs_J p l e rm s m args below meth c D A H0 maxL 0 0 Q 0 (lv_args 0 av) [] win) : hs_Mv l D cI cO y wsy rm av win post out mc ms := by
  intro sz
  refine Met.ofW (cc := cc) (maxL := maxL) (ret := none) hy hw ?_
  intro p e s m args below meth c s₁ B hml hv
  obtain ⟨rfl, hsz, hP, ⟨hK, hN⟩, hD0⟩ := hv
  subst hsz
  have hts := atoms_spec (ws := wsy) B.pre
  have hown : s.vm.findClass y.cls = some m.cls := findClass_of_methodNamed B.named
  have hl := lv_entry av (n := maxL) hlen
  have hr := B.returns
  have hlk := B.notSynchronized
  rw [lg_entry_eq]
  exact body p e s m av.toArray below meth c (va_A win s.heap.size) s.heap _ ⟨⟨B.exec, B.bytes, hml, hown, hts⟩, hK, hN, fun q h => Or.inr h⟩ (name_of_methodNamed B.named B.method).1 (fun pc lv u hp d H locs ls hP hD hS hl => W.vret B.exec B.bytes hr (fun t ht hW => ⟨⟨u, rfl, hp, by rw [ht]; exact hP, hD⟩, hS.F ht⟩) hS.2.2 d hlk) s.heap [] _ hP (hD0.self (sz := s.heap.size)) va_S.rf hl
end JE

section JC
variable {p : Program} {l : Launch} {e : Env} {R : Room} {s : State} {m : MethodId} {args : Array Value} {below : List Frame} {meth : Method} {c : Code} {D : va_G} {A : Nat → Prop} {H0 : Heap} {nL cells slots : Nat} {Q : State → Prop} {pc : Nat} {lv : List (Nat × Value)} {st : List Value}
variable {cc : ByteArray} {Ts : List Cond} {own : String} {cI cO : ClassId}
variable {y : MethodName} {wsy : List Cond} {rm : Room} {win wr : va_W} {S : Type} {out : S → va_W} {mc ms n index maxL : Nat} {bytes : ByteArray} {As rest : List Value} {b : Nat}
theorem hs_AF (C : hs_C p s m args c cc nL Ts own D cI cO A H0) {H : Heap} {locs : List Loc} (hD : va_D A (win ++ wr)) (hS : va_S A H0 H locs) : ∀ q, va_A win H.size q → A q := by
  intro q h
  rcases h with ⟨k, e, h⟩ | h
  · exact (hs_Dm.mp hD).2 (q, e) (List.mem_append_left _ (List.mem_of_getElem? h))
  · exact C.2.2.2 q (Nat.le_trans hS.1 h)
theorem hs_pc (C : hs_C p s m args c cc nL Ts own D cI cO A H0) {H : Heap} {av : List Value} (hP : va_P D vwCl (win ++ wr) H) (hD : va_D A (win ++ wr)) : ∀ U : State, U.heap = H → s.WarmedH U.vm → va_Pc av (fun U => U.heap.size = H.size ∧ va_P D vwCl win U.heap ∧ (va_K D vwCl (hs_t cI cO) U ∧ hs_N U) ∧ va_D (fun _ => True) win) av.toArray U := fun U hU hW =>
  ⟨rfl, by rw [hU], by rw [hU]; exact hs_PL hP, ⟨va_K.moved hW.alike C.2.1, hs_N.warm hW C.2.2.1⟩, (hs_DL hD).weaken (fun _ _ _ _ => trivial)⟩

theorem hs_callVi {post : Int32 → S → Prop} {ty : FieldType} (C : hs_C p s m args c cc nL Ts own D cI cO A H0) (hM : hs_M l D cI cO y wsy rm (.ref b :: As) win post out mc ms) {Cn : String} {q : vw_C} {fs : List Value} (ci q0 : Nat) (hcl : vwCl[ci]? = some q) (hq : q.1 = Cn) (hrv : win[q0]? = some (b, .inr (ci, fs))) (cw : CallW R s args own Cn index y bytes maxL (some ty) wsy rm mc ms n) (hn : As.length = n) (hst : st = As.reverse ++ .ref b :: rest) (hro : (rest.map fun v => v.category).sum ≤ 8) (d : decode cc pc = .ok (.invokevirtual index, 3)) (hf : cells + mc ≤ R.cells ∧ slots + ms ≤ R.slots) (kk : ∀ (r : Int32) (u : S), post r u → hs_J p l e R s m args below meth c D A H0 nL (cells + mc) (slots + ms) Q (pc + 3) lv (.int r :: rest) (out u ++ wr)) : hs_J p l e R s m args below meth c D A H0 nL cells slots Q pc lv st (win ++ wr) := fun H locs ls hP hD hS hl => by
  have hFc := hs_AF C hD hS
  refine va_calli (va_runV (As := As) (rest := rest) C.1 (hM H.size) cw ⟨hs_blind, by rw [← hq]; exact va_recv C.2.1 (hs_PL hP) hcl hrv, hs_pc C hP hD⟩ rfl hn hl.1 hst (lv_room hro) d hf) hS (fun q _ h => hFc q h) hFc (fun r u t H1 locs1 ht hvm hp hB hz hk hS1 => ?_)
  obtain ⟨hP1, hD1⟩ := hB
  rw [ht] at hP1
  obtain ⟨h1, h2⟩ := hs_join hP hD hk hFc hP1 hD1
  exact kk r u hp H1 locs1 ls h1 h2 hS1 hl
theorem hs_callVv {post : S → Prop} (C : hs_C p s m args c cc nL Ts own D cI cO A H0) (hM : hs_Mv l D cI cO y wsy rm (.ref b :: As) win post out mc ms) {Cn : String} {q : vw_C} {fs : List Value} (ci q0 : Nat) (hcl : vwCl[ci]? = some q) (hq : q.1 = Cn) (hrv : win[q0]? = some (b, .inr (ci, fs))) (cw : CallW R s args own Cn index y bytes maxL none wsy rm mc ms n) (hn : As.length = n) (hst : st = As.reverse ++ .ref b :: rest) (hro : (rest.map fun v => v.category).sum ≤ 8) (d : decode cc pc = .ok (.invokevirtual index, 3)) (hf : cells + mc ≤ R.cells ∧ slots + ms ≤ R.slots) (kk : ∀ (u : S), post u → hs_J p l e R s m args below meth c D A H0 nL (cells + mc) (slots + ms) Q (pc + 3) lv rest (out u ++ wr)) : hs_J p l e R s m args below meth c D A H0 nL cells slots Q pc lv st (win ++ wr) := fun H locs ls hP hD hS hl => by
  have hFc := hs_AF C hD hS
  refine va_callv (va_runV (As := As) (rest := rest) C.1 (hM H.size) cw ⟨hs_blind, by rw [← hq]; exact va_recv C.2.1 (hs_PL hP) hcl hrv, hs_pc C hP hD⟩ rfl hn hl.1 hst (lv_room hro) d hf) hS (fun q _ h => hFc q h) hFc (fun u t H1 locs1 ht hvm hp hB hz hk hS1 => ?_)
  obtain ⟨hP1, hD1⟩ := hB
  rw [ht] at hP1
  obtain ⟨h1, h2⟩ := hs_join hP hD hk hFc hP1 hD1
  exact kk u hp H1 locs1 ls h1 h2 hS1 hl
theorem hs_callSi {post : Int32 → S → Prop} {ty : FieldType} (C : hs_C p s m args c cc nL Ts own D cI cO A H0) (hM : hs_M l D cI cO y wsy rm As win post out mc ms) (cw : CallB R s args own index y bytes maxL (some ty) wsy rm mc ms n ∧ (Cond.static y).before args s = true) (hn : As.length = n) (hst : st = As.reverse ++ rest) (hro : (rest.map fun v => v.category).sum ≤ 8) (d : decode cc pc = .ok (.invokestatic index, 3)) (hf : cells + mc ≤ R.cells ∧ slots + ms ≤ R.slots) (kk : ∀ (r : Int32) (u : S), post r u → hs_J p l e R s m args below meth c D A H0 nL (cells + mc) (slots + ms) Q (pc + 3) lv (.int r :: rest) (out u ++ wr)) : hs_J p l e R s m args below meth c D A H0 nL cells slots Q pc lv st (win ++ wr) := fun H locs ls hP hD hS hl => by
  have hFc := hs_AF C hD hS
  refine va_calli (va_runS (As := As) (rest := rest) C.1 (hM H.size) cw ⟨hs_blind, hs_pc C hP hD⟩ rfl hn hl.1 hst (lv_room hro) d hf) hS (fun q _ h => hFc q h) hFc (fun r u t H1 locs1 ht hvm hp hB hz hk hS1 => ?_)
  obtain ⟨hP1, hD1⟩ := hB
  rw [ht] at hP1
  obtain ⟨h1, h2⟩ := hs_join hP hD hk hFc hP1 hD1
  exact kk r u hp H1 locs1 ls h1 h2 hS1 hl
theorem hs_callSv {post : S → Prop} (C : hs_C p s m args c cc nL Ts own D cI cO A H0) (hM : hs_Mv l D cI cO y wsy rm As win post out mc ms) (cw : CallB R s args own index y bytes maxL none wsy rm mc ms n ∧ (Cond.static y).before args s = true) (hn : As.length = n) (hst : st = As.reverse ++ rest) (hro : (rest.map fun v => v.category).sum ≤ 8) (d : decode cc pc = .ok (.invokestatic index, 3)) (hf : cells + mc ≤ R.cells ∧ slots + ms ≤ R.slots) (kk : ∀ (u : S), post u → hs_J p l e R s m args below meth c D A H0 nL (cells + mc) (slots + ms) Q (pc + 3) lv rest (out u ++ wr)) : hs_J p l e R s m args below meth c D A H0 nL cells slots Q pc lv st (win ++ wr) := fun H locs ls hP hD hS hl => by
  have hFc := hs_AF C hD hS
  refine va_callv (va_runS (As := As) (rest := rest) C.1 (hM H.size) cw ⟨hs_blind, hs_pc C hP hD⟩ rfl hn hl.1 hst (lv_room hro) d hf) hS (fun q _ h => hFc q h) hFc (fun u t H1 locs1 ht hvm hp hB hz hk hS1 => ?_)
  obtain ⟨hP1, hD1⟩ := hB
  rw [ht] at hP1
  obtain ⟨h1, h2⟩ := hs_join hP hD hk hFc hP1 hD1
  exact kk u hp H1 locs1 ls h1 h2 hS1 hl
theorem hs_callSNi {post : Int32 → S → Prop} {ty : FieldType}  {host : String}(C : hs_C p s m args c cc nL Ts own D cI cO A H0) (hM : hs_M l D cI cO y wsy rm As win post out mc ms) (cw : va_CN R s args own index y host bytes maxL (some ty) wsy rm mc ms n ∧ (Cond.static y).before args s = true ∧ True) (hn : As.length = n) (hst : st = As.reverse ++ rest) (hro : (rest.map fun v => v.category).sum ≤ 8) (d : decode cc pc = .ok (.invokestatic index, 3)) (hf : cells + mc ≤ R.cells ∧ slots + ms ≤ R.slots) (kk : ∀ (r : Int32) (u : S), post r u → hs_J p l e R s m args below meth c D A H0 nL (cells + mc) (slots + ms) Q (pc + 3) lv (.int r :: rest) (out u ++ wr)) : hs_J p l e R s m args below meth c D A H0 nL cells slots Q pc lv st (win ++ wr) := fun H locs ls hP hD hS hl => by
  have hFc := hs_AF C hD hS
  refine va_calli (va_runSN (As := As) (rest := rest) C.1 (hM H.size) cw ⟨hs_blind, hs_pc C hP hD⟩ rfl hn hl.1 hst (lv_room hro) d hf) hS (fun q _ h => hFc q h) hFc (fun r u t H1 locs1 ht hvm hp hB hz hk hS1 => ?_)
  obtain ⟨hP1, hD1⟩ := hB
  rw [ht] at hP1
  obtain ⟨h1, h2⟩ := hs_join hP hD hk hFc hP1 hD1
  exact kk r u hp H1 locs1 ls h1 h2 hS1 hl
theorem hs_callSNv {post : S → Prop}  {host : String}(C : hs_C p s m args c cc nL Ts own D cI cO A H0) (hM : hs_Mv l D cI cO y wsy rm As win post out mc ms) (cw : va_CN R s args own index y host bytes maxL none wsy rm mc ms n ∧ (Cond.static y).before args s = true ∧ True) (hn : As.length = n) (hst : st = As.reverse ++ rest) (hro : (rest.map fun v => v.category).sum ≤ 8) (d : decode cc pc = .ok (.invokestatic index, 3)) (hf : cells + mc ≤ R.cells ∧ slots + ms ≤ R.slots) (kk : ∀ (u : S), post u → hs_J p l e R s m args below meth c D A H0 nL (cells + mc) (slots + ms) Q (pc + 3) lv rest (out u ++ wr)) : hs_J p l e R s m args below meth c D A H0 nL cells slots Q pc lv st (win ++ wr) := fun H locs ls hP hD hS hl => by
  have hFc := hs_AF C hD hS
  refine va_callv (va_runSN (As := As) (rest := rest) C.1 (hM H.size) cw ⟨hs_blind, hs_pc C hP hD⟩ rfl hn hl.1 hst (lv_room hro) d hf) hS (fun q _ h => hFc q h) hFc (fun u t H1 locs1 ht hvm hp hB hz hk hS1 => ?_)
  obtain ⟨hP1, hD1⟩ := hB
  rw [ht] at hP1
  obtain ⟨h1, h2⟩ := hs_join hP hD hk hFc hP1 hD1
  exact kk u hp H1 locs1 ls h1 h2 hS1 hl
theorem hs_callIv {post : S → Prop} (C : hs_C p s m args c cc nL Ts own D cI cO A H0) (hM : hs_Mv l D cI cO y wsy rm (.ref b :: As) win post out mc ms) (cw : CallB R s args own index y bytes maxL none wsy rm mc ms n ∧ y.name = "<init>" ∧ (Cond.instanceMethod y).before args s = true) (hn : As.length = n) (hst : st = As.reverse ++ .ref b :: rest) (hro : (rest.map fun v => v.category).sum ≤ 8) (d : decode cc pc = .ok (.invokespecial index, 3)) (hf : cells + mc ≤ R.cells ∧ slots + ms ≤ R.slots) (kk : ∀ (u : S), post u → hs_J p l e R s m args below meth c D A H0 nL (cells + mc) (slots + ms) Q (pc + 3) lv rest (out u ++ wr)) : hs_J p l e R s m args below meth c D A H0 nL cells slots Q pc lv st (win ++ wr) := fun H locs ls hP hD hS hl => by
  have hFc := hs_AF C hD hS
  refine va_callv (va_runI (As := As) (rest := rest) C.1 (hM H.size) cw ⟨hs_blind, hs_pc C hP hD⟩ rfl hn hl.1 hst (lv_room hro) d hf) hS (fun q _ h => hFc q h) hFc (fun u t H1 locs1 ht hvm hp hB hz hk hS1 => ?_)
  obtain ⟨hP1, hD1⟩ := hB
  rw [ht] at hP1
  obtain ⟨h1, h2⟩ := hs_join hP hD hk hFc hP1 hD1
  exact kk u hp H1 locs1 ls h1 h2 hS1 hl
theorem hs_callINv {post : S → Prop}  {host : String}(C : hs_C p s m args c cc nL Ts own D cI cO A H0) (hM : hs_Mv l D cI cO y wsy rm (.ref b :: As) win post out mc ms) (cw : va_CN R s args own index y host bytes maxL none wsy rm mc ms n ∧ y.name = "<init>" ∧ (Cond.instanceMethod y).before args s = true) (hn : As.length = n) (hst : st = As.reverse ++ .ref b :: rest) (hro : (rest.map fun v => v.category).sum ≤ 8) (d : decode cc pc = .ok (.invokespecial index, 3)) (hf : cells + mc ≤ R.cells ∧ slots + ms ≤ R.slots) (kk : ∀ (u : S), post u → hs_J p l e R s m args below meth c D A H0 nL (cells + mc) (slots + ms) Q (pc + 3) lv rest (out u ++ wr)) : hs_J p l e R s m args below meth c D A H0 nL cells slots Q pc lv st (win ++ wr) := fun H locs ls hP hD hS hl => by
  have hFc := hs_AF C hD hS
  refine va_callv (va_runIN (As := As) (rest := rest) C.1 (hM H.size) cw ⟨hs_blind, hs_pc C hP hD⟩ rfl hn hl.1 hst (lv_room hro) d hf) hS (fun q _ h => hFc q h) hFc (fun u t H1 locs1 ht hvm hp hB hz hk hS1 => ?_)
  obtain ⟨hP1, hD1⟩ := hB
  rw [ht] at hP1
  obtain ⟨h1, h2⟩ := hs_join hP hD hk hFc hP1 hD1
  exact kk u hp H1 locs1 ls h1 h2 hS1 hl
end JC
