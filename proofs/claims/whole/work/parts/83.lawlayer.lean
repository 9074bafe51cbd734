/-! THE CLAIM OUT OF ONE WALK OF THE LAW'S BODY. Your part is whole_start (and what it stands on); all else here is the same for every law, but numbers. -/
def R_law : String := "HistogramStairsLaw"
def lw_P (b : Addr) (xs : List Int32) (args : Array Value) (s : State) : Prop := args = #[.ref b] ∧ s.IntsAt b xs ∧ xs.length ≤ 2048 ∧ (Jvm.Cond.and given_1 narrow_1).before args s = true
def lw_Q (_ : Array Value) (s : State) (o : Outcome) (t : State) : Prop := o = .returned (some (.int 1)) ∧ Framed s o t [] 600000 7302250
def lw_Z (below : List Frame) (a : Array Value) (s : State) : State → Prop := fun t => ∃ o, t.status = .running ∧ Ended t below o ∧ lw_Q a s o t
/-- the law's own end, with 1 on the stack, nothing written that was there before, its room as the claim has it -/
theorem lw_ret {p : Program} {l : Launch} {e : Env} {s : State} {m : MethodId} {below : List Frame} {meth : Method} {c : Code} {b : Nat} (hx : p.tables.exec = Jvm.exec) (hb : c.code = code) (hr : meth.sig.returnType = ret) (hlocks : meth.locks = false) {pc : Nat} {H : Heap} {ls : Array Slot} (hdg : decode code pc = .ok (.ireturn, 1)) : W p l e room_1 s m #[Value.ref b] below meth c H [] 600000 7302250 (lw_Z below #[Value.ref b] s) (F0 m pc ls [.int 1]) := by
  intro T hT X
  obtain ⟨fs, hret, hrun, hended, hW, hframe⟩ := X.leave (v := some (.int 1)) (hlocks := hlocks) (fun h => by rw [hr] at h; cases h)
  have hmeth' : T.vm.method? m = some meth := X.method'
  refine ⟨T.setFrames fs, ?_, .returned (some (.int 1)), hrun, hended, rfl, ⟨_, rfl⟩, hW, hframe⟩
  jvm_step X.here [X.here.top, hx, hb, hdg, hmeth', hr, ret, narrow_b1]
  (try refine ⟨rfl, ?_⟩); (try refine ⟨rfl, ?_⟩)
  first | (intro acts; rw [hret _ acts rfl rfl rfl]) | rw [hret _ _ rfl rfl rfl]
  exact Steps.refl _
/-- what holds at the law's entry: the machine, the code, the tables' words (any of lw_tbl by 'hts w (by decide +kernel)'), the script of L ints xs at the cell b, what the Statement gives of the start (any of its parts by flat_of_before) -/
def lw_At (p : Program) (s : State) (m : MethodId) (meth : Method) (c : Code) (b L : Nat) (xs : Nat → Int32) : Prop :=
  p.tables.exec = Jvm.exec ∧ c.code = code ∧ meth.sig.returnType = ret ∧ c.maxLocals = 4 ∧ s.vm.findClass R_law = some m.cls ∧ (∀ w ∈ lw_tbl, w.before #[Value.ref b] s = true) ∧ va_X b L xs s s.heap ∧ b < s.heap.size ∧ meth.locks = false ∧ (Jvm.Cond.and given_1 narrow_1).before #[Value.ref b] s = true
/-! THE LAW: rows for its script, for worlds with a tail (images, history) -/
def hs_img (cI : ClassId) (o : Option pu_Z) : va_W := match o with
  | none => []
  | some m => [hs_ob m.1 0 [.ref m.2.1, hs_V m.2.2.1], hs_ia cI m.2.1 40 m.2.2.2]
def hs_im (cI : ClassId) (o0 o1 : Option pu_Z) : va_W := hs_img cI o0 ++ hs_img cI o1
section LL
variable {p : Program} {l : Launch} {e : Env} {R : Room} {s : State} {m : MethodId} {args : Array Value} {below : List Frame} {meth : Method} {c : Code} {D : va_G} {A : Nat → Prop} {H0 : Heap} {nL cells slots : Nat} {Q : State → Prop} {pc : Nat} {lv : List (Nat × Value)} {st : List Value} {ws : va_W}
variable {cc : ByteArray} {Ts : List Cond} {own : String} {cI cO : ClassId}
theorem hs_perm {w w' : va_W} (h : w'.Perm w) (k : hs_J p l e R s m args below meth c D A H0 nL cells slots Q pc lv st w') : hs_J p l e R s m args below meth c D A H0 nL cells slots Q pc lv st w := fun H locs ls hP hD hS hl => by
  refine k H locs ls ?_ ?_ hS hl
  · rw [hs_Pm] at hP ⊢
    exact fun q hq => hP q (h.mem_iff.mp hq)
  · rw [hs_Dm] at hD ⊢
    exact ⟨((h.map Prod.fst).nodup_iff).mpr hD.1, fun q hq => hD.2 q (h.mem_iff.mp hq)⟩
theorem hs_mvP (w r I H : va_W) : ((w ++ H) ++ (r ++ I)).Perm (r ++ (w ++ (I ++ H))) := by
  refine List.perm_append_comm.trans ?_
  rw [List.append_assoc]
  refine List.Perm.append_left r ?_
  refine List.perm_append_comm.trans ?_
  rw [List.append_assoc]
  exact List.Perm.append_left w List.perm_append_comm
theorem hs_mv {w r I H : va_W} (k : hs_J p l e R s m args below meth c D A H0 nL cells slots Q pc lv st ((w ++ H) ++ (r ++ I))) : hs_J p l e R s m args below meth c D A H0 nL cells slots Q pc lv st (r ++ (w ++ (I ++ H))) := hs_perm (hs_mvP w r I H) k
theorem hs_mvb {w r I H : va_W} (k : hs_J p l e R s m args below meth c D A H0 nL cells slots Q pc lv st (r ++ (w ++ (I ++ H)))) : hs_J p l e R s m args below meth c D A H0 nL cells slots Q pc lv st ((w ++ H) ++ (r ++ I)) := hs_perm (hs_mvP w r I H).symm k
/-- the two images' cells change places -/
theorem hs_imsw {w I0 I1 H : va_W} (k : hs_J p l e R s m args below meth c D A H0 nL cells slots Q pc lv st (w ++ ((I1 ++ I0) ++ H))) : hs_J p l e R s m args below meth c D A H0 nL cells slots Q pc lv st (w ++ ((I0 ++ I1) ++ H)) := hs_perm (List.Perm.append_left w (List.Perm.append_right H List.perm_append_comm)) k
theorem hs_sld (C : hs_C p s m args c cc nL Ts own D cI cO A H0) {b Ls : Nat} {xs : Nat → Int32} (hX : va_X b Ls xs s H0) (hbl : b < H0.size) (hbA : ¬ A b) {z : Int} (hz : 0 ≤ z ∧ z < (Ls : Int) ∧ (Ls : Int) ≤ 2147483647) (d : decode cc pc = .ok (.iaload, 1)) (k : hs_J p l e R s m args below meth c D A H0 nL cells slots Q (pc + 1) lv (hs_V (xs z.toNat).toInt :: st) ws) : hs_J p l e R s m args below meth c D A H0 nL cells slots Q pc lv (hs_V z :: .ref b :: st) ws := fun H locs ls hP hD hS hl => va_sld C.1.1 C.1.2.1 hX hbl hbA hS (hs_vin hz.1 hz.2.1 (by omega)) d (by
  have e : xs (hs_I z).toNatClampNeg = hs_I (xs z.toNat).toInt := by
    rw [hs_nat ⟨by omega, by omega⟩, hs_ofInt]
  rw [e]; exact k H locs ls hP hD hS hl)
theorem hs_slen (C : hs_C p s m args c cc nL Ts own D cI cO A H0) {b Ls : Nat} {xs : Nat → Int32} (hX : va_X b Ls xs s H0) (hbl : b < H0.size) (hbA : ¬ A b) (d : decode cc pc = .ok (.arraylength, 1)) (k : hs_J p l e R s m args below meth c D A H0 nL cells slots Q (pc + 1) lv (hs_V (Ls : Int) :: st) ws) : hs_J p l e R s m args below meth c D A H0 nL cells slots Q pc lv (.ref b :: st) ws := fun H locs ls hP hD hS hl => va_slen C.1.1 C.1.2.1 hX hbl hbA hS d (by
  have e : Int32.ofNat Ls = hs_I (Ls : Int) := rfl
  rw [e]; exact k H locs ls hP hD hS hl)
theorem hs_and31v (x : Int32) : 0 ≤ (x &&& 31).toInt ∧ (x &&& 31).toInt ≤ 31 := by
  have h1 : (x &&& 31).toBitVec = x.toBitVec &&& 31#32 := rfl
  have h2 : (x &&& 31).toInt = ((x &&& 31).toBitVec).toInt := rfl
  have h3 : (x.toBitVec &&& 31#32).toNat ≤ 31 := by
    rw [BitVec.toNat_and]
    exact Nat.and_le_right
  rw [h2, h1, BitVec.toInt_eq_toNat_of_lt (by omega)]
  omega
theorem hs_and31 (C : hs_C p s m args c cc nL Ts own D cI cO A H0) {x : Int} (d : decode cc pc = .ok (.iand, 1)) (k : ∀ z : Int, 0 ≤ z ∧ z ≤ 31 → hs_J p l e R s m args below meth c D A H0 nL cells slots Q (pc + 1) lv (hs_V z :: st) ws) : hs_J p l e R s m args below meth c D A H0 nL cells slots Q pc lv (hs_V 31 :: hs_V x :: st) ws := fun H locs ls hP hD hS hl => lv_iand C.1.1 C.1.2.1 d (by
  have e : (hs_I x &&& hs_I 31) = hs_I (hs_I x &&& 31).toInt := (hs_ofInt _).symm
  rw [e]; exact k _ (hs_and31v _) H locs ls hP hD hS hl)
theorem hs_icmp_eqS (C : hs_C p s m args c cc nL Ts own D cI cO A H0) {x : Int} {off : Int} {tgt : Nat} (d : decode cc pc = .ok (.if_icmp .eq off, 3)) (ht : (pc : Int) + off = (tgt : Int)) (k : hs_J p l e R s m args below meth c D A H0 nL cells slots Q tgt lv st ws) : hs_J p l e R s m args below meth c D A H0 nL cells slots Q pc lv (hs_V x :: hs_V x :: st) ws := fun H locs ls hP hD hS hl => lv_icmp_eq C.1.1 C.1.2.1 d ht (fun _ => k H locs ls hP hD hS hl) (fun h => absurd rfl h)
end LL
/-- what holds between two calls -/
def hs_L (n : Int) (g : Int → Int) (ct : Int) (Z : Int → pu_Z) (u : pu_K) (o0 o1 : Option pu_Z) (h pa : Int → Int) (pm : Int) (im : Int → Int) (fl : Int) (v : mo_K) : Prop := pu_Rel (n, g, ct, Z) (h, pa, pm) ∧ pu_KB u ∧ mo_KB v ∧ pu_Img o0 o1 im fl
