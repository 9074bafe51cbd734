def hs_o2 (o0 o1 : Option Nat) : Nat → Option Nat := fun k => match k with
  | 0 => o0
  | 1 => o1
  | _ => none
theorem hs_o2_new : (fun (_ : Nat) => (none : Option Nat)) = hs_o2 none none := by
  funext k
  match k with
  | 0 => rfl
  | 1 => rfl
  | k + 2 => rfl
theorem hs_o2_u0 {o0 o1 : Option Nat} {v : Nat} : va_up (hs_o2 o0 o1) 0 (some v) = hs_o2 (some v) o1 := by
  funext k
  match k with
  | 0 => rfl
  | 1 => rfl
  | k + 2 => rfl
theorem hs_o2_u1 {o0 o1 : Option Nat} {v : Nat} : va_up (hs_o2 o0 o1) 1 (some v) = hs_o2 o0 (some v) := by
  funext k
  match k with
  | 0 => rfl
  | 1 => rfl
  | k + 2 => rfl
def hs_o8 (o0 o1 o2 o3 o4 o5 o6 o7 : Option Nat) : Nat → Option Nat := fun k => match k with
  | 0 => o0
  | 1 => o1
  | 2 => o2
  | 3 => o3
  | 4 => o4
  | 5 => o5
  | 6 => o6
  | 7 => o7
  | _ => none
theorem hs_o8_new : (fun (_ : Nat) => (none : Option Nat)) = hs_o8 none none none none none none none none := by
  funext k
  match k with
  | 0 => rfl
  | 1 => rfl
  | 2 => rfl
  | 3 => rfl
  | 4 => rfl
  | 5 => rfl
  | 6 => rfl
  | 7 => rfl
  | k + 8 => rfl
theorem hs_o8_u0 {o0 o1 o2 o3 o4 o5 o6 o7 : Option Nat} {v : Nat} : va_up (hs_o8 o0 o1 o2 o3 o4 o5 o6 o7) 0 (some v) = hs_o8 (some v) o1 o2 o3 o4 o5 o6 o7 := by
  funext k
  match k with
  | 0 => rfl
  | 1 => rfl
  | 2 => rfl
  | 3 => rfl
  | 4 => rfl
  | 5 => rfl
  | 6 => rfl
  | 7 => rfl
  | k + 8 => rfl
theorem hs_o8_u1 {o0 o1 o2 o3 o4 o5 o6 o7 : Option Nat} {v : Nat} : va_up (hs_o8 o0 o1 o2 o3 o4 o5 o6 o7) 1 (some v) = hs_o8 o0 (some v) o2 o3 o4 o5 o6 o7 := by
  funext k
  match k with
  | 0 => rfl
  | 1 => rfl
  | 2 => rfl
  | 3 => rfl
  | 4 => rfl
  | 5 => rfl
  | 6 => rfl
  | 7 => rfl
  | k + 8 => rfl
theorem hs_o8_u2 {o0 o1 o2 o3 o4 o5 o6 o7 : Option Nat} {v : Nat} : va_up (hs_o8 o0 o1 o2 o3 o4 o5 o6 o7) 2 (some v) = hs_o8 o0 o1 (some v) o3 o4 o5 o6 o7 := by
  funext k
  match k with
  | 0 => rfl
  | 1 => rfl
  | 2 => rfl
  | 3 => rfl
  | 4 => rfl
  | 5 => rfl
  | 6 => rfl
  | 7 => rfl
  | k + 8 => rfl
theorem hs_o8_u3 {o0 o1 o2 o3 o4 o5 o6 o7 : Option Nat} {v : Nat} : va_up (hs_o8 o0 o1 o2 o3 o4 o5 o6 o7) 3 (some v) = hs_o8 o0 o1 o2 (some v) o4 o5 o6 o7 := by
  funext k
  match k with
  | 0 => rfl
  | 1 => rfl
  | 2 => rfl
  | 3 => rfl
  | 4 => rfl
  | 5 => rfl
  | 6 => rfl
  | 7 => rfl
  | k + 8 => rfl
theorem hs_o8_u4 {o0 o1 o2 o3 o4 o5 o6 o7 : Option Nat} {v : Nat} : va_up (hs_o8 o0 o1 o2 o3 o4 o5 o6 o7) 4 (some v) = hs_o8 o0 o1 o2 o3 (some v) o5 o6 o7 := by
  funext k
  match k with
  | 0 => rfl
  | 1 => rfl
  | 2 => rfl
  | 3 => rfl
  | 4 => rfl
  | 5 => rfl
  | 6 => rfl
  | 7 => rfl
  | k + 8 => rfl
theorem hs_o8_u5 {o0 o1 o2 o3 o4 o5 o6 o7 : Option Nat} {v : Nat} : va_up (hs_o8 o0 o1 o2 o3 o4 o5 o6 o7) 5 (some v) = hs_o8 o0 o1 o2 o3 o4 (some v) o6 o7 := by
  funext k
  match k with
  | 0 => rfl
  | 1 => rfl
  | 2 => rfl
  | 3 => rfl
  | 4 => rfl
  | 5 => rfl
  | 6 => rfl
  | 7 => rfl
  | k + 8 => rfl
theorem hs_o8_u6 {o0 o1 o2 o3 o4 o5 o6 o7 : Option Nat} {v : Nat} : va_up (hs_o8 o0 o1 o2 o3 o4 o5 o6 o7) 6 (some v) = hs_o8 o0 o1 o2 o3 o4 o5 (some v) o7 := by
  funext k
  match k with
  | 0 => rfl
  | 1 => rfl
  | 2 => rfl
  | 3 => rfl
  | 4 => rfl
  | 5 => rfl
  | 6 => rfl
  | 7 => rfl
  | k + 8 => rfl
theorem hs_o8_u7 {o0 o1 o2 o3 o4 o5 o6 o7 : Option Nat} {v : Nat} : va_up (hs_o8 o0 o1 o2 o3 o4 o5 o6 o7) 7 (some v) = hs_o8 o0 o1 o2 o3 o4 o5 o6 (some v) := by
  funext k
  match k with
  | 0 => rfl
  | 1 => rfl
  | 2 => rfl
  | 3 => rfl
  | 4 => rfl
  | 5 => rfl
  | 6 => rfl
  | 7 => rfl
  | k + 8 => rfl
theorem hs_o8_r8 {s0 s1 s2 s3 s4 s5 s6 s7 : Nat} : hs_r8 s0 s1 s2 s3 s4 s5 s6 s7 = hs_o8 (some s0) (some s1) (some s2) (some s3) (some s4) (some s5) (some s6) (some s7) := by
  funext k
  match k with
  | 0 => rfl
  | 1 => rfl
  | 2 => rfl
  | 3 => rfl
  | 4 => rfl
  | 5 => rfl
  | 6 => rfl
  | 7 => rfl
  | k + 8 => rfl
set_option maxHeartbeats 4000000 in
set_option maxRecDepth 100000 in
theorem c_X0_init (l : Launch) (D : va_G) (cI cO : ClassId) (q0 : Nat) : hs_Mv l D cI cO yX0_init wsX0_init ({ frames := 1, cells := 1, slots := 40, locals := 24 } : Room) [.ref q0] [hs_ob q0 0 [.null, hs_V 0]] (fun (u : Nat → Nat) => True) (fun u => [hs_ob q0 0 [.ref (u 0), hs_V 0], hs_ia cI (u 0) 40 (fun _ => 0)]) 1 40 := by
  refine hs_enterV (cc := cX0_init) (maxL := 1) (by decide +kernel) rfl (Nat.le_of_ble_eq_true rfl) (fun p e s m args below meth c A H0 Q C hin2 hret => ?_)
  have ob1 := C.1.2.2.2.2 (.methodLink RX0 3 Lib.objectInit) (by decide +kernel)
  have ob2 := C.1.2.2.2.2 (.instanceMethod Lib.objectInit) (by decide +kernel)
  have ob3 := C.1.2.2.2.2 (.code Lib.objectInit ⟨#[0xb1]⟩ 1 none) (by decide +kernel)
  have arI := C.1.2.2.2.2 (.arrayClass .int) (by decide +kernel)
  have f9 := C.1.2.2.2.2 (.fieldLink RX0 9 "HistogramStairs$Columns" "heights" "[I") (by decide +kernel)
  have u0 : ∀ w ∈ wsX00, w ∈ wsX0_init := by decide +kernel
  have f15 := C.1.2.2.2.2 (.fieldLink RX0 15 "HistogramStairs$Columns" "size" "I") (by decide +kernel)
  refine hs_lvs (lv' := [(0, .ref q0)]) [0] rfl ?_
  refine hs_aload_n C dX0_init_0 rfl 0 rfl ?_
  refine hs_obj C ob1 ob2 ob3 (Nat.le_of_ble_eq_true rfl) (Nat.le_of_ble_eq_true rfl) (Nat.le_of_ble_eq_true rfl) dX0_init_1 ?_
  refine hs_aload_n C dX0_init_4 rfl 0 rfl ?_
  refine hs_bipush C dX0_init_5 (by decide) ?_
  refine hs_newi (n := 40) C arI rfl (by decide) (Nat.le_of_ble_eq_true rfl) (Nat.le_of_ble_eq_true rfl) dX0_init_7 (fun q1 => ?_)
  refine hs_cast (ws' := [hs_ob q0 0 [.null, hs_V 0], hs_ia cI q1 40 (fun _ => 0)]) ?_ rfl rfl rfl rfl
  refine hs_putF (ty := .array .int) (ws' := [hs_ob q0 0 [.ref q1, hs_V 0], hs_ia cI q1 40 (fun _ => 0)]) C u0 tyX0 tyX0_ok nmX0 0 rfl rfl 0 (by decide) f9 rfl rfl hin2 rfl (by decide +kernel) rfl rfl (Nat.le_of_ble_eq_true rfl) rfl dX0_init_9 ?_
  refine hs_aload_n C dX0_init_12 rfl 0 rfl ?_
  refine hs_iconst C dX0_init_13 ?_
  refine hs_put (ty := .int) (ws' := [hs_ob q0 0 [.ref q1, hs_V 0], hs_ia cI q1 40 (fun _ => 0)]) C u0 tyX0 tyX0_ok nmX0 0 rfl rfl 1 (by decide) f15 rfl rfl (by decide +kernel) rfl rfl (Nat.le_of_ble_eq_true rfl) rfl dX0_init_14 ?_
  exact hret _ _ (fun (_ : Nat) => q1) trivial dX0_init_17

set_option maxHeartbeats 4000000 in
set_option maxRecDepth 100000 in
theorem c_X5_init (l : Launch) (D : va_G) (cI cO : ClassId) (q0 : Nat) : hs_Mv l D cI cO yX5_init wsX5_init ({ frames := 1, cells := 1, slots := 40, locals := 24 } : Room) [.ref q0] [hs_ob q0 5 [.null]] (fun (u : Nat → Nat) => True) (fun u => [hs_ob q0 5 [.ref (u 0)], hs_ia cI (u 0) 40 (fun _ => 0)]) 1 40 := by
  refine hs_enterV (cc := cX5_init) (maxL := 1) (by decide +kernel) rfl (Nat.le_of_ble_eq_true rfl) (fun p e s m args below meth c A H0 Q C hin2 hret => ?_)
  have ob1 := C.1.2.2.2.2 (.methodLink RX5 3 Lib.objectInit) (by decide +kernel)
  have ob2 := C.1.2.2.2.2 (.instanceMethod Lib.objectInit) (by decide +kernel)
  have ob3 := C.1.2.2.2.2 (.code Lib.objectInit ⟨#[0xb1]⟩ 1 none) (by decide +kernel)
  have arI := C.1.2.2.2.2 (.arrayClass .int) (by decide +kernel)
  have f9 := C.1.2.2.2.2 (.fieldLink RX5 9 "HistogramStairs$Water" "depths" "[I") (by decide +kernel)
  have u5 : ∀ w ∈ wsX50, w ∈ wsX5_init := by decide +kernel
  refine hs_lvs (lv' := [(0, .ref q0)]) [0] rfl ?_
  refine hs_aload_n C dX5_init_0 rfl 0 rfl ?_
  refine hs_obj C ob1 ob2 ob3 (Nat.le_of_ble_eq_true rfl) (Nat.le_of_ble_eq_true rfl) (Nat.le_of_ble_eq_true rfl) dX5_init_1 ?_
  refine hs_aload_n C dX5_init_4 rfl 0 rfl ?_
  refine hs_bipush C dX5_init_5 (by decide) ?_
  refine hs_newi (n := 40) C arI rfl (by decide) (Nat.le_of_ble_eq_true rfl) (Nat.le_of_ble_eq_true rfl) dX5_init_7 (fun q1 => ?_)
  refine hs_cast (ws' := [hs_ob q0 5 [.null], hs_ia cI q1 40 (fun _ => 0)]) ?_ rfl rfl rfl rfl
  refine hs_putF (ty := .array .int) (ws' := [hs_ob q0 5 [.ref q1], hs_ia cI q1 40 (fun _ => 0)]) C u5 tyX5 tyX5_ok nmX5 0 rfl rfl 0 (by decide) f9 rfl rfl hin2 rfl (by decide +kernel) rfl rfl (Nat.le_of_ble_eq_true rfl) rfl dX5_init_9 ?_
  exact hret _ _ (fun (_ : Nat) => q1) trivial dX5_init_12

set_option maxHeartbeats 4000000 in
set_option maxRecDepth 100000 in
theorem c_X3_init (l : Launch) (D : va_G) (cI cO : ClassId) (q0 : Nat) : hs_Mv l D cI cO yX3_init wsX3_init ({ frames := 1, cells := 4, slots := 160, locals := 24 } : Room) [.ref q0] [hs_ob q0 3 [.null, .null, .null, .null, hs_V 0]] (fun (u : Nat → Nat) => True) (fun u => [hs_ob q0 3 [.ref (u 0), .ref (u 1), .ref (u 2), .ref (u 3), hs_V 0], hs_ia cI (u 0) 40 (fun _ => 0), hs_ia cI (u 1) 40 (fun _ => 0), hs_ia cI (u 2) 40 (fun _ => 0), hs_ia cI (u 3) 40 (fun _ => 0)]) 4 160 := by
  refine hs_enterV (cc := cX3_init) (maxL := 1) (by decide +kernel) rfl (Nat.le_of_ble_eq_true rfl) (fun p e s m args below meth c A H0 Q C hin2 hret => ?_)
  have ob1 := C.1.2.2.2.2 (.methodLink RX3 3 Lib.objectInit) (by decide +kernel)
  have ob2 := C.1.2.2.2.2 (.instanceMethod Lib.objectInit) (by decide +kernel)
  have ob3 := C.1.2.2.2.2 (.code Lib.objectInit ⟨#[0xb1]⟩ 1 none) (by decide +kernel)
  have arI := C.1.2.2.2.2 (.arrayClass .int) (by decide +kernel)
  have f9 := C.1.2.2.2.2 (.fieldLink RX3 9 "HistogramStairs$Rectangles" "firsts" "[I") (by decide +kernel)
  have u3 : ∀ w ∈ wsX30, w ∈ wsX3_init := by decide +kernel
  have f15 := C.1.2.2.2.2 (.fieldLink RX3 15 "HistogramStairs$Rectangles" "lasts" "[I") (by decide +kernel)
  have f18 := C.1.2.2.2.2 (.fieldLink RX3 18 "HistogramStairs$Rectangles" "tops" "[I") (by decide +kernel)
  have f21 := C.1.2.2.2.2 (.fieldLink RX3 21 "HistogramStairs$Rectangles" "owners" "[I") (by decide +kernel)
  have f24 := C.1.2.2.2.2 (.fieldLink RX3 24 "HistogramStairs$Rectangles" "count" "I") (by decide +kernel)
  refine hs_lvs (lv' := [(0, .ref q0)]) [0] rfl ?_
  refine hs_aload_n C dX3_init_0 rfl 0 rfl ?_
  refine hs_obj C ob1 ob2 ob3 (Nat.le_of_ble_eq_true rfl) (Nat.le_of_ble_eq_true rfl) (Nat.le_of_ble_eq_true rfl) dX3_init_1 ?_
  refine hs_aload_n C dX3_init_4 rfl 0 rfl ?_
  refine hs_bipush C dX3_init_5 (by decide) ?_
  refine hs_newi (n := 40) C arI rfl (by decide) (Nat.le_of_ble_eq_true rfl) (Nat.le_of_ble_eq_true rfl) dX3_init_7 (fun q1 => ?_)
  refine hs_cast (ws' := [hs_ob q0 3 [.null, .null, .null, .null, hs_V 0], hs_ia cI q1 40 (fun _ => 0)]) ?_ rfl rfl rfl rfl
  refine hs_putF (ty := .array .int) (ws' := [hs_ob q0 3 [.ref q1, .null, .null, .null, hs_V 0], hs_ia cI q1 40 (fun _ => 0)]) C u3 tyX3 tyX3_ok nmX3 0 rfl rfl 0 (by decide) f9 rfl rfl hin2 rfl (by decide +kernel) rfl rfl (Nat.le_of_ble_eq_true rfl) rfl dX3_init_9 ?_
  refine hs_aload_n C dX3_init_12 rfl 0 rfl ?_
  refine hs_bipush C dX3_init_13 (by decide) ?_
  refine hs_newi (n := 40) C arI rfl (by decide) (Nat.le_of_ble_eq_true rfl) (Nat.le_of_ble_eq_true rfl) dX3_init_15 (fun q2 => ?_)
  refine hs_cast (ws' := [hs_ob q0 3 [.ref q1, .null, .null, .null, hs_V 0], hs_ia cI q1 40 (fun _ => 0), hs_ia cI q2 40 (fun _ => 0)]) ?_ rfl rfl rfl rfl
  refine hs_putF (ty := .array .int) (ws' := [hs_ob q0 3 [.ref q1, .ref q2, .null, .null, hs_V 0], hs_ia cI q1 40 (fun _ => 0), hs_ia cI q2 40 (fun _ => 0)]) C u3 tyX3 tyX3_ok nmX3 0 rfl rfl 1 (by decide) f15 rfl rfl hin2 rfl (by decide +kernel) rfl rfl (Nat.le_of_ble_eq_true rfl) rfl dX3_init_17 ?_
  refine hs_aload_n C dX3_init_20 rfl 0 rfl ?_
  refine hs_bipush C dX3_init_21 (by decide) ?_
  refine hs_newi (n := 40) C arI rfl (by decide) (Nat.le_of_ble_eq_true rfl) (Nat.le_of_ble_eq_true rfl) dX3_init_23 (fun q3 => ?_)
  refine hs_cast (ws' := [hs_ob q0 3 [.ref q1, .ref q2, .null, .null, hs_V 0], hs_ia cI q1 40 (fun _ => 0), hs_ia cI q2 40 (fun _ => 0), hs_ia cI q3 40 (fun _ => 0)]) ?_ rfl rfl rfl rfl
  refine hs_putF (ty := .array .int) (ws' := [hs_ob q0 3 [.ref q1, .ref q2, .ref q3, .null, hs_V 0], hs_ia cI q1 40 (fun _ => 0), hs_ia cI q2 40 (fun _ => 0), hs_ia cI q3 40 (fun _ => 0)]) C u3 tyX3 tyX3_ok nmX3 0 rfl rfl 2 (by decide) f18 rfl rfl hin2 rfl (by decide +kernel) rfl rfl (Nat.le_of_ble_eq_true rfl) rfl dX3_init_25 ?_
  refine hs_aload_n C dX3_init_28 rfl 0 rfl ?_
  refine hs_bipush C dX3_init_29 (by decide) ?_
  refine hs_newi (n := 40) C arI rfl (by decide) (Nat.le_of_ble_eq_true rfl) (Nat.le_of_ble_eq_true rfl) dX3_init_31 (fun q4 => ?_)
  refine hs_cast (ws' := [hs_ob q0 3 [.ref q1, .ref q2, .ref q3, .null, hs_V 0], hs_ia cI q1 40 (fun _ => 0), hs_ia cI q2 40 (fun _ => 0), hs_ia cI q3 40 (fun _ => 0), hs_ia cI q4 40 (fun _ => 0)]) ?_ rfl rfl rfl rfl
  refine hs_putF (ty := .array .int) (ws' := [hs_ob q0 3 [.ref q1, .ref q2, .ref q3, .ref q4, hs_V 0], hs_ia cI q1 40 (fun _ => 0), hs_ia cI q2 40 (fun _ => 0), hs_ia cI q3 40 (fun _ => 0), hs_ia cI q4 40 (fun _ => 0)]) C u3 tyX3 tyX3_ok nmX3 0 rfl rfl 3 (by decide) f21 rfl rfl hin2 rfl (by decide +kernel) rfl rfl (Nat.le_of_ble_eq_true rfl) rfl dX3_init_33 ?_
  refine hs_aload_n C dX3_init_36 rfl 0 rfl ?_
  refine hs_iconst C dX3_init_37 ?_
  refine hs_put (ty := .int) (ws' := [hs_ob q0 3 [.ref q1, .ref q2, .ref q3, .ref q4, hs_V 0], hs_ia cI q1 40 (fun _ => 0), hs_ia cI q2 40 (fun _ => 0), hs_ia cI q3 40 (fun _ => 0), hs_ia cI q4 40 (fun _ => 0)]) C u3 tyX3 tyX3_ok nmX3 0 rfl rfl 4 (by decide) f24 rfl rfl (by decide +kernel) rfl rfl (Nat.le_of_ble_eq_true rfl) rfl dX3_init_38 ?_
  exact hret _ _ (fun (j : Nat) => match j with | 0 => q1 | 1 => q2 | 2 => q3 | _ => q4) trivial dX3_init_41

set_option maxHeartbeats 4000000 in
set_option maxRecDepth 100000 in
theorem c_X4_init (l : Launch) (D : va_G) (cI cO : ClassId) (q0 : Nat) : hs_Mv l D cI cO yX4_init wsX4_init ({ frames := 1, cells := 2, slots := 80, locals := 24 } : Room) [.ref q0] [hs_ob q0 4 [.null, .null]] (fun (u : Nat → Nat) => True) (fun u => [hs_ob q0 4 [.ref (u 0), .ref (u 1)], hs_ia cI (u 0) 40 (fun _ => 0), hs_ia cI (u 1) 40 (fun _ => 0)]) 2 80 := by
  refine hs_enterV (cc := cX4_init) (maxL := 1) (by decide +kernel) rfl (Nat.le_of_ble_eq_true rfl) (fun p e s m args below meth c A H0 Q C hin2 hret => ?_)
  have ob1 := C.1.2.2.2.2 (.methodLink RX4 3 Lib.objectInit) (by decide +kernel)
  have ob2 := C.1.2.2.2.2 (.instanceMethod Lib.objectInit) (by decide +kernel)
  have ob3 := C.1.2.2.2.2 (.code Lib.objectInit ⟨#[0xb1]⟩ 1 none) (by decide +kernel)
  have arI := C.1.2.2.2.2 (.arrayClass .int) (by decide +kernel)
  have f9 := C.1.2.2.2.2 (.fieldLink RX4 9 "HistogramStairs$Tree" "parents" "[I") (by decide +kernel)
  have u4 : ∀ w ∈ wsX40, w ∈ wsX4_init := by decide +kernel
  have f15 := C.1.2.2.2.2 (.fieldLink RX4 15 "HistogramStairs$Tree" "spine" "[I") (by decide +kernel)
  refine hs_lvs (lv' := [(0, .ref q0)]) [0] rfl ?_
  refine hs_aload_n C dX4_init_0 rfl 0 rfl ?_
  refine hs_obj C ob1 ob2 ob3 (Nat.le_of_ble_eq_true rfl) (Nat.le_of_ble_eq_true rfl) (Nat.le_of_ble_eq_true rfl) dX4_init_1 ?_
  refine hs_aload_n C dX4_init_4 rfl 0 rfl ?_
  refine hs_bipush C dX4_init_5 (by decide) ?_
  refine hs_newi (n := 40) C arI rfl (by decide) (Nat.le_of_ble_eq_true rfl) (Nat.le_of_ble_eq_true rfl) dX4_init_7 (fun q1 => ?_)
  refine hs_cast (ws' := [hs_ob q0 4 [.null, .null], hs_ia cI q1 40 (fun _ => 0)]) ?_ rfl rfl rfl rfl
  refine hs_putF (ty := .array .int) (ws' := [hs_ob q0 4 [.ref q1, .null], hs_ia cI q1 40 (fun _ => 0)]) C u4 tyX4 tyX4_ok nmX4 0 rfl rfl 0 (by decide) f9 rfl rfl hin2 rfl (by decide +kernel) rfl rfl (Nat.le_of_ble_eq_true rfl) rfl dX4_init_9 ?_
  refine hs_aload_n C dX4_init_12 rfl 0 rfl ?_
  refine hs_bipush C dX4_init_13 (by decide) ?_
  refine hs_newi (n := 40) C arI rfl (by decide) (Nat.le_of_ble_eq_true rfl) (Nat.le_of_ble_eq_true rfl) dX4_init_15 (fun q2 => ?_)
  refine hs_cast (ws' := [hs_ob q0 4 [.ref q1, .null], hs_ia cI q1 40 (fun _ => 0), hs_ia cI q2 40 (fun _ => 0)]) ?_ rfl rfl rfl rfl
  refine hs_putF (ty := .array .int) (ws' := [hs_ob q0 4 [.ref q1, .ref q2], hs_ia cI q1 40 (fun _ => 0), hs_ia cI q2 40 (fun _ => 0)]) C u4 tyX4 tyX4_ok nmX4 0 rfl rfl 1 (by decide) f15 rfl rfl hin2 rfl (by decide +kernel) rfl rfl (Nat.le_of_ble_eq_true rfl) rfl dX4_init_17 ?_
  exact hret _ _ (fun (j : Nat) => match j with | 0 => q1 | _ => q2) trivial dX4_init_20

set_option maxHeartbeats 4000000 in
set_option maxRecDepth 100000 in
theorem c_X2_init (l : Launch) (D : va_G) (cI cO : ClassId) (q0 : Nat) : hs_Mv l D cI cO yX2_init wsX2_init ({ frames := 1, cells := 1, slots := 40, locals := 24 } : Room) [.ref q0] [hs_ob q0 2 [.null]] (fun (u : Nat → Nat) => True) (fun u => [hs_ob q0 2 [.ref (u 0)], hs_ia cI (u 0) 40 (fun _ => 0)]) 1 40 := by
  refine hs_enterV (cc := cX2_init) (maxL := 1) (by decide +kernel) rfl (Nat.le_of_ble_eq_true rfl) (fun p e s m args below meth c A H0 Q C hin2 hret => ?_)
  have ob1 := C.1.2.2.2.2 (.methodLink RX2 3 Lib.objectInit) (by decide +kernel)
  have ob2 := C.1.2.2.2.2 (.instanceMethod Lib.objectInit) (by decide +kernel)
  have ob3 := C.1.2.2.2.2 (.code Lib.objectInit ⟨#[0xb1]⟩ 1 none) (by decide +kernel)
  have arI := C.1.2.2.2.2 (.arrayClass .int) (by decide +kernel)
  have f9 := C.1.2.2.2.2 (.fieldLink RX2 9 "HistogramStairs$Painter" "strokes" "[I") (by decide +kernel)
  have u2 : ∀ w ∈ wsX20, w ∈ wsX2_init := by decide +kernel
  refine hs_lvs (lv' := [(0, .ref q0)]) [0] rfl ?_
  refine hs_aload_n C dX2_init_0 rfl 0 rfl ?_
  refine hs_obj C ob1 ob2 ob3 (Nat.le_of_ble_eq_true rfl) (Nat.le_of_ble_eq_true rfl) (Nat.le_of_ble_eq_true rfl) dX2_init_1 ?_
  refine hs_aload_n C dX2_init_4 rfl 0 rfl ?_
  refine hs_bipush C dX2_init_5 (by decide) ?_
  refine hs_newi (n := 40) C arI rfl (by decide) (Nat.le_of_ble_eq_true rfl) (Nat.le_of_ble_eq_true rfl) dX2_init_7 (fun q1 => ?_)
  refine hs_cast (ws' := [hs_ob q0 2 [.null], hs_ia cI q1 40 (fun _ => 0)]) ?_ rfl rfl rfl rfl
  refine hs_putF (ty := .array .int) (ws' := [hs_ob q0 2 [.ref q1], hs_ia cI q1 40 (fun _ => 0)]) C u2 tyX2 tyX2_ok nmX2 0 rfl rfl 0 (by decide) f9 rfl rfl hin2 rfl (by decide +kernel) rfl rfl (Nat.le_of_ble_eq_true rfl) rfl dX2_init_9 ?_
  exact hret _ _ (fun (_ : Nat) => q1) trivial dX2_init_12

set_option maxHeartbeats 4000000 in
set_option maxRecDepth 100000 in
theorem c_X1_init (l : Launch) (D : va_G) (cI cO : ClassId) (q0 : Nat) : hs_Mv l D cI cO yX1_init wsX1_init ({ frames := 2, cells := 17, slots := 344, locals := 44 } : Room) [.ref q0] [hs_ob q0 1 [.null, hs_V 0]] (fun (u : Nat × (Int → pu_Z)) => ∀ j, (u.2 j).2.2 = (0, fun _ => 0)) (fun u => [hs_ob q0 1 [.ref u.1, hs_V 0], hs_ra cO u.1 8 (hs_r8 (u.2 0).1 (u.2 1).1 (u.2 2).1 (u.2 3).1 (u.2 4).1 (u.2 5).1 (u.2 6).1 (u.2 7).1), hs_ob (u.2 0).1 0 [.ref (u.2 0).2.1, hs_V (u.2 0).2.2.1], hs_ia cI (u.2 0).2.1 40 (u.2 0).2.2.2, hs_ob (u.2 1).1 0 [.ref (u.2 1).2.1, hs_V (u.2 1).2.2.1], hs_ia cI (u.2 1).2.1 40 (u.2 1).2.2.2, hs_ob (u.2 2).1 0 [.ref (u.2 2).2.1, hs_V (u.2 2).2.2.1], hs_ia cI (u.2 2).2.1 40 (u.2 2).2.2.2, hs_ob (u.2 3).1 0 [.ref (u.2 3).2.1, hs_V (u.2 3).2.2.1], hs_ia cI (u.2 3).2.1 40 (u.2 3).2.2.2, hs_ob (u.2 4).1 0 [.ref (u.2 4).2.1, hs_V (u.2 4).2.2.1], hs_ia cI (u.2 4).2.1 40 (u.2 4).2.2.2, hs_ob (u.2 5).1 0 [.ref (u.2 5).2.1, hs_V (u.2 5).2.2.1], hs_ia cI (u.2 5).2.1 40 (u.2 5).2.2.2, hs_ob (u.2 6).1 0 [.ref (u.2 6).2.1, hs_V (u.2 6).2.2.1], hs_ia cI (u.2 6).2.1 40 (u.2 6).2.2.2, hs_ob (u.2 7).1 0 [.ref (u.2 7).2.1, hs_V (u.2 7).2.2.1], hs_ia cI (u.2 7).2.1 40 (u.2 7).2.2.2]) 17 344 := by
  refine hs_enterV (cc := cX1_init) (maxL := 2) (by decide +kernel) rfl (Nat.le_of_ble_eq_true rfl) (fun p e s m args below meth c A H0 Q C hin2 hret => ?_)
  have ob1 := C.1.2.2.2.2 (.methodLink RX1 3 Lib.objectInit) (by decide +kernel)
  have ob2 := C.1.2.2.2.2 (.instanceMethod Lib.objectInit) (by decide +kernel)
  have ob3 := C.1.2.2.2.2 (.code Lib.objectInit ⟨#[0xb1]⟩ 1 none) (by decide +kernel)
  have cl9 := C.1.2.2.2.2 (.classLink RX1 9 RX0) (by decide +kernel)
  have f11 := C.1.2.2.2.2 (.fieldLink RX1 11 "HistogramStairs$History" "states" "[LHistogramStairs$Columns;") (by decide +kernel)
  have u1 : ∀ w ∈ wsX10, w ∈ wsX1_init := by decide +kernel
  have f17 := C.1.2.2.2.2 (.fieldLink RX1 17 "HistogramStairs$History" "count" "I") (by decide +kernel)
  have u0 : ∀ w ∈ wsX00, w ∈ wsX1_init := by decide +kernel
  have ns0 := C.1.2.2.2.2 (.instantiable RX0 2) (by decide +kernel)
  have ni0 := C.1.2.2.2.2 (.initialized RX0) (by decide +kernel)
  have in21 := C.1.2.2.2.2 (.initialized (yX0_init).cls) (by decide +kernel)
  have im21 := C.1.2.2.2.2 (.instanceMethod yX0_init) (by decide +kernel)
  have n21 : va_Nw (.methodLinkNest RX1 21 yX0_init RX6) s := C.2.2.1.2.1 (RX1, 21, yX0_init) (by decide +kernel)
  refine hs_lvs (lv' := [(0, .ref q0)]) [0] rfl ?_
  refine hs_aload_n C dX1_init_0 rfl 0 rfl ?_
  refine hs_obj C ob1 ob2 ob3 (Nat.le_of_ble_eq_true rfl) (Nat.le_of_ble_eq_true rfl) (Nat.le_of_ble_eq_true rfl) dX1_init_1 ?_
  refine hs_aload_n C dX1_init_4 rfl 0 rfl ?_
  refine hs_bipush C dX1_init_5 (by decide) ?_
  refine hs_newr (n := 8) C cl9 rfl (by decide) (Nat.le_of_ble_eq_true rfl) (Nat.le_of_ble_eq_true rfl) dX1_init_7 (fun q1 => ?_)
  refine hs_cast (ws' := [hs_ob q0 1 [.null, hs_V 0], hs_ra cO q1 8 (fun _ => none)]) ?_ rfl rfl rfl rfl
  refine hs_cast (ws' := [hs_ob q0 1 [.null, hs_V 0], hs_ra cO q1 8 (hs_o8 none none none none none none none none)]) ?_ rfl rfl rfl (by rw [hs_o8_new])
  refine hs_putF (ty := .array (.object "HistogramStairs$Columns")) (ws' := [hs_ob q0 1 [.ref q1, hs_V 0], hs_ra cO q1 8 (hs_o8 none none none none none none none none)]) C u1 tyX1 tyX1_ok nmX1 0 rfl rfl 0 (by decide) f11 rfl rfl hin2 rfl (by decide +kernel) rfl rfl (Nat.le_of_ble_eq_true rfl) rfl dX1_init_10 ?_
  refine hs_aload_n C dX1_init_13 rfl 0 rfl ?_
  refine hs_iconst C dX1_init_14 ?_
  refine hs_put (ty := .int) (ws' := [hs_ob q0 1 [.ref q1, hs_V 0], hs_ra cO q1 8 (hs_o8 none none none none none none none none)]) C u1 tyX1 tyX1_ok nmX1 0 rfl rfl 1 (by decide) f17 rfl rfl (by decide +kernel) rfl rfl (Nat.le_of_ble_eq_true rfl) rfl dX1_init_15 ?_
  refine hs_iconst C dX1_init_18 ?_
  refine hs_istore_n (lv' := [(0, .ref q0), (1, hs_V 0)]) C dX1_init_19 rfl (by decide) [1, 0] rfl ?_
  refine hs_iload_n C dX1_init_20 rfl 1 rfl ?_
  refine hs_bipush C dX1_init_21 (by decide) ?_
  refine hs_icmp_ge (tgt := 45) C dX1_init_23 (by decide) (by omega) (by omega) (fun c2 => ?_) (fun c2 => ?_)
  ·
    exact absurd c2 (by decide)
  ·
    refine hs_aload_n C dX1_init_26 rfl 0 rfl ?_
    refine hs_get C u1 0 rfl rfl 0 (by decide) f11 rfl rfl dX1_init_27 ?_
    refine hs_iload_n C dX1_init_30 rfl 1 rfl ?_
    refine hs_new (ci := 0) (fs := [.null, hs_V 0]) C u0 tyX0 tyX0_ok cl9 ns0 ni0 rfl (fun j hj => by rcases (show j = 0 ∨ j = 1 by omega) with rfl | rfl <;> rfl) (Nat.le_of_ble_eq_true rfl) (Nat.le_of_ble_eq_true rfl) dX1_init_31 (fun q3 => ?_)
    refine hs_cast (ws' := [hs_ob q0 1 [.ref q1, hs_V 0], hs_ra cO q1 8 (hs_o8 none none none none none none none none), hs_ob q3 0 [.null, hs_V 0]]) ?_ rfl rfl rfl rfl
    refine hs_dup C dX1_init_34 rfl ?_
    refine hs_re0 (w' := [hs_ob q3 0 [.null, hs_V 0], hs_ob q0 1 [.ref q1, hs_V 0], hs_ra cO q1 8 (hs_o8 none none none none none none none none)]) [2, 0, 1] rfl (by decide) ?_
    refine hs_callINv (win := [hs_ob q3 0 [.null, hs_V 0]]) (wr := [hs_ob q0 1 [.ref q1, hs_V 0], hs_ra cO q1 8 (hs_o8 none none none none none none none none)]) (As := []) (rest := [.ref q3, hs_V 0, .ref q1]) C (c_X0_init l D cI cO q3 ) ⟨va_cnB 0 C.1.2.2.2.2 gX1_init_X0_init_n21 rfl rfl rfl n21 in21 (by decide +kernel) ⟨Nat.le_of_ble_eq_true rfl, Nat.le_of_ble_eq_true rfl⟩, rfl, im21⟩ rfl rfl (Nat.le_of_ble_eq_true rfl) dX1_init_35 ⟨Nat.le_of_ble_eq_true rfl, Nat.le_of_ble_eq_true rfl⟩ (fun uu4 hp => ?_)
    refine hs_re0 (w' := [hs_ob q0 1 [.ref q1, hs_V 0], hs_ra cO q1 8 (hs_o8 none none none none none none none none), hs_ob q3 0 [.ref (uu4 0), hs_V 0], hs_ia cI (uu4 0) 40 (fun _ => 0)]) [2, 3, 0, 1] rfl (by decide) ?_
    refine hs_aast (f' := hs_o8 (some q3) none none none none none none none) (ws' := [hs_ob q0 1 [.ref q1, hs_V 0], hs_ra cO q1 8 (hs_o8 (some q3) none none none none none none none), hs_ob q3 0 [.ref (uu4 0), hs_V 0], hs_ia cI (uu4 0) 40 (fun _ => 0)]) C 1 2 rfl rfl (by omega) hs_o8_u0 rfl dX1_init_38 ?_
    refine hs_iinc (lv' := [(0, .ref q0), (1, hs_V (0 + 1))]) C dX1_init_39 1 rfl (by decide) [1, 0] rfl ?_
    refine hs_goto (tgt := 20) C dX1_init_42 (by decide) ?_
    refine hs_iload_n C dX1_init_20 rfl 1 rfl ?_
    refine hs_bipush C dX1_init_21 (by decide) ?_
    refine hs_icmp_ge (tgt := 45) C dX1_init_23 (by decide) (by omega) (by omega) (fun c5 => ?_) (fun c5 => ?_)
    ·
      exact absurd c5 (by decide)
    ·
      refine hs_aload_n C dX1_init_26 rfl 0 rfl ?_
      refine hs_get C u1 0 rfl rfl 0 (by decide) f11 rfl rfl dX1_init_27 ?_
      refine hs_iload_n C dX1_init_30 rfl 1 rfl ?_
      refine hs_new (ci := 0) (fs := [.null, hs_V 0]) C u0 tyX0 tyX0_ok cl9 ns0 ni0 rfl (fun j hj => by rcases (show j = 0 ∨ j = 1 by omega) with rfl | rfl <;> rfl) (Nat.le_of_ble_eq_true rfl) (Nat.le_of_ble_eq_true rfl) dX1_init_31 (fun q6 => ?_)
      refine hs_cast (ws' := [hs_ob q0 1 [.ref q1, hs_V 0], hs_ra cO q1 8 (hs_o8 (some q3) none none none none none none none), hs_ob q3 0 [.ref (uu4 0), hs_V 0], hs_ia cI (uu4 0) 40 (fun _ => 0), hs_ob q6 0 [.null, hs_V 0]]) ?_ rfl rfl rfl rfl
      refine hs_dup C dX1_init_34 rfl ?_
      refine hs_re0 (w' := [hs_ob q6 0 [.null, hs_V 0], hs_ob q0 1 [.ref q1, hs_V 0], hs_ra cO q1 8 (hs_o8 (some q3) none none none none none none none), hs_ob q3 0 [.ref (uu4 0), hs_V 0], hs_ia cI (uu4 0) 40 (fun _ => 0)]) [4, 0, 1, 2, 3] rfl (by decide) ?_
      refine hs_callINv (win := [hs_ob q6 0 [.null, hs_V 0]]) (wr := [hs_ob q0 1 [.ref q1, hs_V 0], hs_ra cO q1 8 (hs_o8 (some q3) none none none none none none none), hs_ob q3 0 [.ref (uu4 0), hs_V 0], hs_ia cI (uu4 0) 40 (fun _ => 0)]) (As := []) (rest := [.ref q6, hs_V (0 + 1), .ref q1]) C (c_X0_init l D cI cO q6 ) ⟨va_cnB 0 C.1.2.2.2.2 gX1_init_X0_init_n21 rfl rfl rfl n21 in21 (by decide +kernel) ⟨Nat.le_of_ble_eq_true rfl, Nat.le_of_ble_eq_true rfl⟩, rfl, im21⟩ rfl rfl (Nat.le_of_ble_eq_true rfl) dX1_init_35 ⟨Nat.le_of_ble_eq_true rfl, Nat.le_of_ble_eq_true rfl⟩ (fun uu7 hp => ?_)
      refine hs_re0 (w' := [hs_ob q0 1 [.ref q1, hs_V 0], hs_ra cO q1 8 (hs_o8 (some q3) none none none none none none none), hs_ob q3 0 [.ref (uu4 0), hs_V 0], hs_ia cI (uu4 0) 40 (fun _ => 0), hs_ob q6 0 [.ref (uu7 0), hs_V 0], hs_ia cI (uu7 0) 40 (fun _ => 0)]) [2, 3, 4, 5, 0, 1] rfl (by decide) ?_
      refine hs_aast (f' := hs_o8 (some q3) (some q6) none none none none none none) (ws' := [hs_ob q0 1 [.ref q1, hs_V 0], hs_ra cO q1 8 (hs_o8 (some q3) (some q6) none none none none none none), hs_ob q3 0 [.ref (uu4 0), hs_V 0], hs_ia cI (uu4 0) 40 (fun _ => 0), hs_ob q6 0 [.ref (uu7 0), hs_V 0], hs_ia cI (uu7 0) 40 (fun _ => 0)]) C 1 4 rfl rfl (by omega) hs_o8_u1 rfl dX1_init_38 ?_
      refine hs_iinc (lv' := [(0, .ref q0), (1, hs_V ((0 + 1) + 1))]) C dX1_init_39 1 rfl (by decide) [1, 0] rfl ?_
      refine hs_goto (tgt := 20) C dX1_init_42 (by decide) ?_
      refine hs_iload_n C dX1_init_20 rfl 1 rfl ?_
      refine hs_bipush C dX1_init_21 (by decide) ?_
      refine hs_icmp_ge (tgt := 45) C dX1_init_23 (by decide) (by omega) (by omega) (fun c8 => ?_) (fun c8 => ?_)
      ·
        exact absurd c8 (by decide)
      ·
        refine hs_aload_n C dX1_init_26 rfl 0 rfl ?_
        refine hs_get C u1 0 rfl rfl 0 (by decide) f11 rfl rfl dX1_init_27 ?_
        refine hs_iload_n C dX1_init_30 rfl 1 rfl ?_
        refine hs_new (ci := 0) (fs := [.null, hs_V 0]) C u0 tyX0 tyX0_ok cl9 ns0 ni0 rfl (fun j hj => by rcases (show j = 0 ∨ j = 1 by omega) with rfl | rfl <;> rfl) (Nat.le_of_ble_eq_true rfl) (Nat.le_of_ble_eq_true rfl) dX1_init_31 (fun q9 => ?_)
        refine hs_cast (ws' := [hs_ob q0 1 [.ref q1, hs_V 0], hs_ra cO q1 8 (hs_o8 (some q3) (some q6) none none none none none none), hs_ob q3 0 [.ref (uu4 0), hs_V 0], hs_ia cI (uu4 0) 40 (fun _ => 0), hs_ob q6 0 [.ref (uu7 0), hs_V 0], hs_ia cI (uu7 0) 40 (fun _ => 0), hs_ob q9 0 [.null, hs_V 0]]) ?_ rfl rfl rfl rfl
        refine hs_dup C dX1_init_34 rfl ?_
        refine hs_re0 (w' := [hs_ob q9 0 [.null, hs_V 0], hs_ob q0 1 [.ref q1, hs_V 0], hs_ra cO q1 8 (hs_o8 (some q3) (some q6) none none none none none none), hs_ob q3 0 [.ref (uu4 0), hs_V 0], hs_ia cI (uu4 0) 40 (fun _ => 0), hs_ob q6 0 [.ref (uu7 0), hs_V 0], hs_ia cI (uu7 0) 40 (fun _ => 0)]) [6, 0, 1, 2, 3, 4, 5] rfl (by decide) ?_
        refine hs_callINv (win := [hs_ob q9 0 [.null, hs_V 0]]) (wr := [hs_ob q0 1 [.ref q1, hs_V 0], hs_ra cO q1 8 (hs_o8 (some q3) (some q6) none none none none none none), hs_ob q3 0 [.ref (uu4 0), hs_V 0], hs_ia cI (uu4 0) 40 (fun _ => 0), hs_ob q6 0 [.ref (uu7 0), hs_V 0], hs_ia cI (uu7 0) 40 (fun _ => 0)]) (As := []) (rest := [.ref q9, hs_V ((0 + 1) + 1), .ref q1]) C (c_X0_init l D cI cO q9 ) ⟨va_cnB 0 C.1.2.2.2.2 gX1_init_X0_init_n21 rfl rfl rfl n21 in21 (by decide +kernel) ⟨Nat.le_of_ble_eq_true rfl, Nat.le_of_ble_eq_true rfl⟩, rfl, im21⟩ rfl rfl (Nat.le_of_ble_eq_true rfl) dX1_init_35 ⟨Nat.le_of_ble_eq_true rfl, Nat.le_of_ble_eq_true rfl⟩ (fun uu10 hp => ?_)
        refine hs_re0 (w' := [hs_ob q0 1 [.ref q1, hs_V 0], hs_ra cO q1 8 (hs_o8 (some q3) (some q6) none none none none none none), hs_ob q3 0 [.ref (uu4 0), hs_V 0], hs_ia cI (uu4 0) 40 (fun _ => 0), hs_ob q6 0 [.ref (uu7 0), hs_V 0], hs_ia cI (uu7 0) 40 (fun _ => 0), hs_ob q9 0 [.ref (uu10 0), hs_V 0], hs_ia cI (uu10 0) 40 (fun _ => 0)]) [2, 3, 4, 5, 6, 7, 0, 1] rfl (by decide) ?_
        refine hs_aast (f' := hs_o8 (some q3) (some q6) (some q9) none none none none none) (ws' := [hs_ob q0 1 [.ref q1, hs_V 0], hs_ra cO q1 8 (hs_o8 (some q3) (some q6) (some q9) none none none none none), hs_ob q3 0 [.ref (uu4 0), hs_V 0], hs_ia cI (uu4 0) 40 (fun _ => 0), hs_ob q6 0 [.ref (uu7 0), hs_V 0], hs_ia cI (uu7 0) 40 (fun _ => 0), hs_ob q9 0 [.ref (uu10 0), hs_V 0], hs_ia cI (uu10 0) 40 (fun _ => 0)]) C 1 6 rfl rfl (by omega) hs_o8_u2 rfl dX1_init_38 ?_
        refine hs_iinc (lv' := [(0, .ref q0), (1, hs_V (((0 + 1) + 1) + 1))]) C dX1_init_39 1 rfl (by decide) [1, 0] rfl ?_
        refine hs_goto (tgt := 20) C dX1_init_42 (by decide) ?_
        refine hs_iload_n C dX1_init_20 rfl 1 rfl ?_
        refine hs_bipush C dX1_init_21 (by decide) ?_
        refine hs_icmp_ge (tgt := 45) C dX1_init_23 (by decide) (by omega) (by omega) (fun c11 => ?_) (fun c11 => ?_)
        ·
          exact absurd c11 (by decide)
        ·
          refine hs_aload_n C dX1_init_26 rfl 0 rfl ?_
          refine hs_get C u1 0 rfl rfl 0 (by decide) f11 rfl rfl dX1_init_27 ?_
          refine hs_iload_n C dX1_init_30 rfl 1 rfl ?_
          refine hs_new (ci := 0) (fs := [.null, hs_V 0]) C u0 tyX0 tyX0_ok cl9 ns0 ni0 rfl (fun j hj => by rcases (show j = 0 ∨ j = 1 by omega) with rfl | rfl <;> rfl) (Nat.le_of_ble_eq_true rfl) (Nat.le_of_ble_eq_true rfl) dX1_init_31 (fun q12 => ?_)
          refine hs_cast (ws' := [hs_ob q0 1 [.ref q1, hs_V 0], hs_ra cO q1 8 (hs_o8 (some q3) (some q6) (some q9) none none none none none), hs_ob q3 0 [.ref (uu4 0), hs_V 0], hs_ia cI (uu4 0) 40 (fun _ => 0), hs_ob q6 0 [.ref (uu7 0), hs_V 0], hs_ia cI (uu7 0) 40 (fun _ => 0), hs_ob q9 0 [.ref (uu10 0), hs_V 0], hs_ia cI (uu10 0) 40 (fun _ => 0), hs_ob q12 0 [.null, hs_V 0]]) ?_ rfl rfl rfl rfl
          refine hs_dup C dX1_init_34 rfl ?_
          refine hs_re0 (w' := [hs_ob q12 0 [.null, hs_V 0], hs_ob q0 1 [.ref q1, hs_V 0], hs_ra cO q1 8 (hs_o8 (some q3) (some q6) (some q9) none none none none none), hs_ob q3 0 [.ref (uu4 0), hs_V 0], hs_ia cI (uu4 0) 40 (fun _ => 0), hs_ob q6 0 [.ref (uu7 0), hs_V 0], hs_ia cI (uu7 0) 40 (fun _ => 0), hs_ob q9 0 [.ref (uu10 0), hs_V 0], hs_ia cI (uu10 0) 40 (fun _ => 0)]) [8, 0, 1, 2, 3, 4, 5, 6, 7] rfl (by decide) ?_
          refine hs_callINv (win := [hs_ob q12 0 [.null, hs_V 0]]) (wr := [hs_ob q0 1 [.ref q1, hs_V 0], hs_ra cO q1 8 (hs_o8 (some q3) (some q6) (some q9) none none none none none), hs_ob q3 0 [.ref (uu4 0), hs_V 0], hs_ia cI (uu4 0) 40 (fun _ => 0), hs_ob q6 0 [.ref (uu7 0), hs_V 0], hs_ia cI (uu7 0) 40 (fun _ => 0), hs_ob q9 0 [.ref (uu10 0), hs_V 0], hs_ia cI (uu10 0) 40 (fun _ => 0)]) (As := []) (rest := [.ref q12, hs_V (((0 + 1) + 1) + 1), .ref q1]) C (c_X0_init l D cI cO q12 ) ⟨va_cnB 0 C.1.2.2.2.2 gX1_init_X0_init_n21 rfl rfl rfl n21 in21 (by decide +kernel) ⟨Nat.le_of_ble_eq_true rfl, Nat.le_of_ble_eq_true rfl⟩, rfl, im21⟩ rfl rfl (Nat.le_of_ble_eq_true rfl) dX1_init_35 ⟨Nat.le_of_ble_eq_true rfl, Nat.le_of_ble_eq_true rfl⟩ (fun uu13 hp => ?_)
          refine hs_re0 (w' := [hs_ob q0 1 [.ref q1, hs_V 0], hs_ra cO q1 8 (hs_o8 (some q3) (some q6) (some q9) none none none none none), hs_ob q3 0 [.ref (uu4 0), hs_V 0], hs_ia cI (uu4 0) 40 (fun _ => 0), hs_ob q6 0 [.ref (uu7 0), hs_V 0], hs_ia cI (uu7 0) 40 (fun _ => 0), hs_ob q9 0 [.ref (uu10 0), hs_V 0], hs_ia cI (uu10 0) 40 (fun _ => 0), hs_ob q12 0 [.ref (uu13 0), hs_V 0], hs_ia cI (uu13 0) 40 (fun _ => 0)]) [2, 3, 4, 5, 6, 7, 8, 9, 0, 1] rfl (by decide) ?_
          refine hs_aast (f' := hs_o8 (some q3) (some q6) (some q9) (some q12) none none none none) (ws' := [hs_ob q0 1 [.ref q1, hs_V 0], hs_ra cO q1 8 (hs_o8 (some q3) (some q6) (some q9) (some q12) none none none none), hs_ob q3 0 [.ref (uu4 0), hs_V 0], hs_ia cI (uu4 0) 40 (fun _ => 0), hs_ob q6 0 [.ref (uu7 0), hs_V 0], hs_ia cI (uu7 0) 40 (fun _ => 0), hs_ob q9 0 [.ref (uu10 0), hs_V 0], hs_ia cI (uu10 0) 40 (fun _ => 0), hs_ob q12 0 [.ref (uu13 0), hs_V 0], hs_ia cI (uu13 0) 40 (fun _ => 0)]) C 1 8 rfl rfl (by omega) hs_o8_u3 rfl dX1_init_38 ?_
          refine hs_iinc (lv' := [(0, .ref q0), (1, hs_V ((((0 + 1) + 1) + 1) + 1))]) C dX1_init_39 1 rfl (by decide) [1, 0] rfl ?_
          refine hs_goto (tgt := 20) C dX1_init_42 (by decide) ?_
          refine hs_iload_n C dX1_init_20 rfl 1 rfl ?_
          refine hs_bipush C dX1_init_21 (by decide) ?_
          refine hs_icmp_ge (tgt := 45) C dX1_init_23 (by decide) (by omega) (by omega) (fun c14 => ?_) (fun c14 => ?_)
          ·
            exact absurd c14 (by decide)
          ·
            refine hs_aload_n C dX1_init_26 rfl 0 rfl ?_
            refine hs_get C u1 0 rfl rfl 0 (by decide) f11 rfl rfl dX1_init_27 ?_
            refine hs_iload_n C dX1_init_30 rfl 1 rfl ?_
            refine hs_new (ci := 0) (fs := [.null, hs_V 0]) C u0 tyX0 tyX0_ok cl9 ns0 ni0 rfl (fun j hj => by rcases (show j = 0 ∨ j = 1 by omega) with rfl | rfl <;> rfl) (Nat.le_of_ble_eq_true rfl) (Nat.le_of_ble_eq_true rfl) dX1_init_31 (fun q15 => ?_)
            refine hs_cast (ws' := [hs_ob q0 1 [.ref q1, hs_V 0], hs_ra cO q1 8 (hs_o8 (some q3) (some q6) (some q9) (some q12) none none none none), hs_ob q3 0 [.ref (uu4 0), hs_V 0], hs_ia cI (uu4 0) 40 (fun _ => 0), hs_ob q6 0 [.ref (uu7 0), hs_V 0], hs_ia cI (uu7 0) 40 (fun _ => 0), hs_ob q9 0 [.ref (uu10 0), hs_V 0], hs_ia cI (uu10 0) 40 (fun _ => 0), hs_ob q12 0 [.ref (uu13 0), hs_V 0], hs_ia cI (uu13 0) 40 (fun _ => 0), hs_ob q15 0 [.null, hs_V 0]]) ?_ rfl rfl rfl rfl
            refine hs_dup C dX1_init_34 rfl ?_
            refine hs_re0 (w' := [hs_ob q15 0 [.null, hs_V 0], hs_ob q0 1 [.ref q1, hs_V 0], hs_ra cO q1 8 (hs_o8 (some q3) (some q6) (some q9) (some q12) none none none none), hs_ob q3 0 [.ref (uu4 0), hs_V 0], hs_ia cI (uu4 0) 40 (fun _ => 0), hs_ob q6 0 [.ref (uu7 0), hs_V 0], hs_ia cI (uu7 0) 40 (fun _ => 0), hs_ob q9 0 [.ref (uu10 0), hs_V 0], hs_ia cI (uu10 0) 40 (fun _ => 0), hs_ob q12 0 [.ref (uu13 0), hs_V 0], hs_ia cI (uu13 0) 40 (fun _ => 0)]) [10, 0, 1, 2, 3, 4, 5, 6, 7, 8, 9] rfl (by decide) ?_
            refine hs_callINv (win := [hs_ob q15 0 [.null, hs_V 0]]) (wr := [hs_ob q0 1 [.ref q1, hs_V 0], hs_ra cO q1 8 (hs_o8 (some q3) (some q6) (some q9) (some q12) none none none none), hs_ob q3 0 [.ref (uu4 0), hs_V 0], hs_ia cI (uu4 0) 40 (fun _ => 0), hs_ob q6 0 [.ref (uu7 0), hs_V 0], hs_ia cI (uu7 0) 40 (fun _ => 0), hs_ob q9 0 [.ref (uu10 0), hs_V 0], hs_ia cI (uu10 0) 40 (fun _ => 0), hs_ob q12 0 [.ref (uu13 0), hs_V 0], hs_ia cI (uu13 0) 40 (fun _ => 0)]) (As := []) (rest := [.ref q15, hs_V ((((0 + 1) + 1) + 1) + 1), .ref q1]) C (c_X0_init l D cI cO q15 ) ⟨va_cnB 0 C.1.2.2.2.2 gX1_init_X0_init_n21 rfl rfl rfl n21 in21 (by decide +kernel) ⟨Nat.le_of_ble_eq_true rfl, Nat.le_of_ble_eq_true rfl⟩, rfl, im21⟩ rfl rfl (Nat.le_of_ble_eq_true rfl) dX1_init_35 ⟨Nat.le_of_ble_eq_true rfl, Nat.le_of_ble_eq_true rfl⟩ (fun uu16 hp => ?_)
            refine hs_re0 (w' := [hs_ob q0 1 [.ref q1, hs_V 0], hs_ra cO q1 8 (hs_o8 (some q3) (some q6) (some q9) (some q12) none none none none), hs_ob q3 0 [.ref (uu4 0), hs_V 0], hs_ia cI (uu4 0) 40 (fun _ => 0), hs_ob q6 0 [.ref (uu7 0), hs_V 0], hs_ia cI (uu7 0) 40 (fun _ => 0), hs_ob q9 0 [.ref (uu10 0), hs_V 0], hs_ia cI (uu10 0) 40 (fun _ => 0), hs_ob q12 0 [.ref (uu13 0), hs_V 0], hs_ia cI (uu13 0) 40 (fun _ => 0), hs_ob q15 0 [.ref (uu16 0), hs_V 0], hs_ia cI (uu16 0) 40 (fun _ => 0)]) [2, 3, 4, 5, 6, 7, 8, 9, 10, 11, 0, 1] rfl (by decide) ?_
            refine hs_aast (f' := hs_o8 (some q3) (some q6) (some q9) (some q12) (some q15) none none none) (ws' := [hs_ob q0 1 [.ref q1, hs_V 0], hs_ra cO q1 8 (hs_o8 (some q3) (some q6) (some q9) (some q12) (some q15) none none none), hs_ob q3 0 [.ref (uu4 0), hs_V 0], hs_ia cI (uu4 0) 40 (fun _ => 0), hs_ob q6 0 [.ref (uu7 0), hs_V 0], hs_ia cI (uu7 0) 40 (fun _ => 0), hs_ob q9 0 [.ref (uu10 0), hs_V 0], hs_ia cI (uu10 0) 40 (fun _ => 0), hs_ob q12 0 [.ref (uu13 0), hs_V 0], hs_ia cI (uu13 0) 40 (fun _ => 0), hs_ob q15 0 [.ref (uu16 0), hs_V 0], hs_ia cI (uu16 0) 40 (fun _ => 0)]) C 1 10 rfl rfl (by omega) hs_o8_u4 rfl dX1_init_38 ?_
            refine hs_iinc (lv' := [(0, .ref q0), (1, hs_V (((((0 + 1) + 1) + 1) + 1) + 1))]) C dX1_init_39 1 rfl (by decide) [1, 0] rfl ?_
            refine hs_goto (tgt := 20) C dX1_init_42 (by decide) ?_
            refine hs_iload_n C dX1_init_20 rfl 1 rfl ?_
            refine hs_bipush C dX1_init_21 (by decide) ?_
            refine hs_icmp_ge (tgt := 45) C dX1_init_23 (by decide) (by omega) (by omega) (fun c17 => ?_) (fun c17 => ?_)
            ·
              exact absurd c17 (by decide)
            ·
              refine hs_aload_n C dX1_init_26 rfl 0 rfl ?_
              refine hs_get C u1 0 rfl rfl 0 (by decide) f11 rfl rfl dX1_init_27 ?_
              refine hs_iload_n C dX1_init_30 rfl 1 rfl ?_
              refine hs_new (ci := 0) (fs := [.null, hs_V 0]) C u0 tyX0 tyX0_ok cl9 ns0 ni0 rfl (fun j hj => by rcases (show j = 0 ∨ j = 1 by omega) with rfl | rfl <;> rfl) (Nat.le_of_ble_eq_true rfl) (Nat.le_of_ble_eq_true rfl) dX1_init_31 (fun q18 => ?_)
              refine hs_cast (ws' := [hs_ob q0 1 [.ref q1, hs_V 0], hs_ra cO q1 8 (hs_o8 (some q3) (some q6) (some q9) (some q12) (some q15) none none none), hs_ob q3 0 [.ref (uu4 0), hs_V 0], hs_ia cI (uu4 0) 40 (fun _ => 0), hs_ob q6 0 [.ref (uu7 0), hs_V 0], hs_ia cI (uu7 0) 40 (fun _ => 0), hs_ob q9 0 [.ref (uu10 0), hs_V 0], hs_ia cI (uu10 0) 40 (fun _ => 0), hs_ob q12 0 [.ref (uu13 0), hs_V 0], hs_ia cI (uu13 0) 40 (fun _ => 0), hs_ob q15 0 [.ref (uu16 0), hs_V 0], hs_ia cI (uu16 0) 40 (fun _ => 0), hs_ob q18 0 [.null, hs_V 0]]) ?_ rfl rfl rfl rfl
              refine hs_dup C dX1_init_34 rfl ?_
              refine hs_re0 (w' := [hs_ob q18 0 [.null, hs_V 0], hs_ob q0 1 [.ref q1, hs_V 0], hs_ra cO q1 8 (hs_o8 (some q3) (some q6) (some q9) (some q12) (some q15) none none none), hs_ob q3 0 [.ref (uu4 0), hs_V 0], hs_ia cI (uu4 0) 40 (fun _ => 0), hs_ob q6 0 [.ref (uu7 0), hs_V 0], hs_ia cI (uu7 0) 40 (fun _ => 0), hs_ob q9 0 [.ref (uu10 0), hs_V 0], hs_ia cI (uu10 0) 40 (fun _ => 0), hs_ob q12 0 [.ref (uu13 0), hs_V 0], hs_ia cI (uu13 0) 40 (fun _ => 0), hs_ob q15 0 [.ref (uu16 0), hs_V 0], hs_ia cI (uu16 0) 40 (fun _ => 0)]) [12, 0, 1, 2, 3, 4, 5, 6, 7, 8, 9, 10, 11] rfl (by decide) ?_
              refine hs_callINv (win := [hs_ob q18 0 [.null, hs_V 0]]) (wr := [hs_ob q0 1 [.ref q1, hs_V 0], hs_ra cO q1 8 (hs_o8 (some q3) (some q6) (some q9) (some q12) (some q15) none none none), hs_ob q3 0 [.ref (uu4 0), hs_V 0], hs_ia cI (uu4 0) 40 (fun _ => 0), hs_ob q6 0 [.ref (uu7 0), hs_V 0], hs_ia cI (uu7 0) 40 (fun _ => 0), hs_ob q9 0 [.ref (uu10 0), hs_V 0], hs_ia cI (uu10 0) 40 (fun _ => 0), hs_ob q12 0 [.ref (uu13 0), hs_V 0], hs_ia cI (uu13 0) 40 (fun _ => 0), hs_ob q15 0 [.ref (uu16 0), hs_V 0], hs_ia cI (uu16 0) 40 (fun _ => 0)]) (As := []) (rest := [.ref q18, hs_V (((((0 + 1) + 1) + 1) + 1) + 1), .ref q1]) C (c_X0_init l D cI cO q18 ) ⟨va_cnB 0 C.1.2.2.2.2 gX1_init_X0_init_n21 rfl rfl rfl n21 in21 (by decide +kernel) ⟨Nat.le_of_ble_eq_true rfl, Nat.le_of_ble_eq_true rfl⟩, rfl, im21⟩ rfl rfl (Nat.le_of_ble_eq_true rfl) dX1_init_35 ⟨Nat.le_of_ble_eq_true rfl, Nat.le_of_ble_eq_true rfl⟩ (fun uu19 hp => ?_)
              refine hs_re0 (w' := [hs_ob q0 1 [.ref q1, hs_V 0], hs_ra cO q1 8 (hs_o8 (some q3) (some q6) (some q9) (some q12) (some q15) none none none), hs_ob q3 0 [.ref (uu4 0), hs_V 0], hs_ia cI (uu4 0) 40 (fun _ => 0), hs_ob q6 0 [.ref (uu7 0), hs_V 0], hs_ia cI (uu7 0) 40 (fun _ => 0), hs_ob q9 0 [.ref (uu10 0), hs_V 0], hs_ia cI (uu10 0) 40 (fun _ => 0), hs_ob q12 0 [.ref (uu13 0), hs_V 0], hs_ia cI (uu13 0) 40 (fun _ => 0), hs_ob q15 0 [.ref (uu16 0), hs_V 0], hs_ia cI (uu16 0) 40 (fun _ => 0), hs_ob q18 0 [.ref (uu19 0), hs_V 0], hs_ia cI (uu19 0) 40 (fun _ => 0)]) [2, 3, 4, 5, 6, 7, 8, 9, 10, 11, 12, 13, 0, 1] rfl (by decide) ?_
              refine hs_aast (f' := hs_o8 (some q3) (some q6) (some q9) (some q12) (some q15) (some q18) none none) (ws' := [hs_ob q0 1 [.ref q1, hs_V 0], hs_ra cO q1 8 (hs_o8 (some q3) (some q6) (some q9) (some q12) (some q15) (some q18) none none), hs_ob q3 0 [.ref (uu4 0), hs_V 0], hs_ia cI (uu4 0) 40 (fun _ => 0), hs_ob q6 0 [.ref (uu7 0), hs_V 0], hs_ia cI (uu7 0) 40 (fun _ => 0), hs_ob q9 0 [.ref (uu10 0), hs_V 0], hs_ia cI (uu10 0) 40 (fun _ => 0), hs_ob q12 0 [.ref (uu13 0), hs_V 0], hs_ia cI (uu13 0) 40 (fun _ => 0), hs_ob q15 0 [.ref (uu16 0), hs_V 0], hs_ia cI (uu16 0) 40 (fun _ => 0), hs_ob q18 0 [.ref (uu19 0), hs_V 0], hs_ia cI (uu19 0) 40 (fun _ => 0)]) C 1 12 rfl rfl (by omega) hs_o8_u5 rfl dX1_init_38 ?_
              refine hs_iinc (lv' := [(0, .ref q0), (1, hs_V ((((((0 + 1) + 1) + 1) + 1) + 1) + 1))]) C dX1_init_39 1 rfl (by decide) [1, 0] rfl ?_
              refine hs_goto (tgt := 20) C dX1_init_42 (by decide) ?_
              refine hs_iload_n C dX1_init_20 rfl 1 rfl ?_
              refine hs_bipush C dX1_init_21 (by decide) ?_
              refine hs_icmp_ge (tgt := 45) C dX1_init_23 (by decide) (by omega) (by omega) (fun c20 => ?_) (fun c20 => ?_)
              ·
                exact absurd c20 (by decide)
              ·
                refine hs_aload_n C dX1_init_26 rfl 0 rfl ?_
                refine hs_get C u1 0 rfl rfl 0 (by decide) f11 rfl rfl dX1_init_27 ?_
                refine hs_iload_n C dX1_init_30 rfl 1 rfl ?_
                refine hs_new (ci := 0) (fs := [.null, hs_V 0]) C u0 tyX0 tyX0_ok cl9 ns0 ni0 rfl (fun j hj => by rcases (show j = 0 ∨ j = 1 by omega) with rfl | rfl <;> rfl) (Nat.le_of_ble_eq_true rfl) (Nat.le_of_ble_eq_true rfl) dX1_init_31 (fun q21 => ?_)
                refine hs_cast (ws' := [hs_ob q0 1 [.ref q1, hs_V 0], hs_ra cO q1 8 (hs_o8 (some q3) (some q6) (some q9) (some q12) (some q15) (some q18) none none), hs_ob q3 0 [.ref (uu4 0), hs_V 0], hs_ia cI (uu4 0) 40 (fun _ => 0), hs_ob q6 0 [.ref (uu7 0), hs_V 0], hs_ia cI (uu7 0) 40 (fun _ => 0), hs_ob q9 0 [.ref (uu10 0), hs_V 0], hs_ia cI (uu10 0) 40 (fun _ => 0), hs_ob q12 0 [.ref (uu13 0), hs_V 0], hs_ia cI (uu13 0) 40 (fun _ => 0), hs_ob q15 0 [.ref (uu16 0), hs_V 0], hs_ia cI (uu16 0) 40 (fun _ => 0), hs_ob q18 0 [.ref (uu19 0), hs_V 0], hs_ia cI (uu19 0) 40 (fun _ => 0), hs_ob q21 0 [.null, hs_V 0]]) ?_ rfl rfl rfl rfl
                refine hs_dup C dX1_init_34 rfl ?_
                refine hs_re0 (w' := [hs_ob q21 0 [.null, hs_V 0], hs_ob q0 1 [.ref q1, hs_V 0], hs_ra cO q1 8 (hs_o8 (some q3) (some q6) (some q9) (some q12) (some q15) (some q18) none none), hs_ob q3 0 [.ref (uu4 0), hs_V 0], hs_ia cI (uu4 0) 40 (fun _ => 0), hs_ob q6 0 [.ref (uu7 0), hs_V 0], hs_ia cI (uu7 0) 40 (fun _ => 0), hs_ob q9 0 [.ref (uu10 0), hs_V 0], hs_ia cI (uu10 0) 40 (fun _ => 0), hs_ob q12 0 [.ref (uu13 0), hs_V 0], hs_ia cI (uu13 0) 40 (fun _ => 0), hs_ob q15 0 [.ref (uu16 0), hs_V 0], hs_ia cI (uu16 0) 40 (fun _ => 0), hs_ob q18 0 [.ref (uu19 0), hs_V 0], hs_ia cI (uu19 0) 40 (fun _ => 0)]) [14, 0, 1, 2, 3, 4, 5, 6, 7, 8, 9, 10, 11, 12, 13] rfl (by decide) ?_
                refine hs_callINv (win := [hs_ob q21 0 [.null, hs_V 0]]) (wr := [hs_ob q0 1 [.ref q1, hs_V 0], hs_ra cO q1 8 (hs_o8 (some q3) (some q6) (some q9) (some q12) (some q15) (some q18) none none), hs_ob q3 0 [.ref (uu4 0), hs_V 0], hs_ia cI (uu4 0) 40 (fun _ => 0), hs_ob q6 0 [.ref (uu7 0), hs_V 0], hs_ia cI (uu7 0) 40 (fun _ => 0), hs_ob q9 0 [.ref (uu10 0), hs_V 0], hs_ia cI (uu10 0) 40 (fun _ => 0), hs_ob q12 0 [.ref (uu13 0), hs_V 0], hs_ia cI (uu13 0) 40 (fun _ => 0), hs_ob q15 0 [.ref (uu16 0), hs_V 0], hs_ia cI (uu16 0) 40 (fun _ => 0), hs_ob q18 0 [.ref (uu19 0), hs_V 0], hs_ia cI (uu19 0) 40 (fun _ => 0)]) (As := []) (rest := [.ref q21, hs_V ((((((0 + 1) + 1) + 1) + 1) + 1) + 1), .ref q1]) C (c_X0_init l D cI cO q21 ) ⟨va_cnB 0 C.1.2.2.2.2 gX1_init_X0_init_n21 rfl rfl rfl n21 in21 (by decide +kernel) ⟨Nat.le_of_ble_eq_true rfl, Nat.le_of_ble_eq_true rfl⟩, rfl, im21⟩ rfl rfl (Nat.le_of_ble_eq_true rfl) dX1_init_35 ⟨Nat.le_of_ble_eq_true rfl, Nat.le_of_ble_eq_true rfl⟩ (fun uu22 hp => ?_)
                refine hs_re0 (w' := [hs_ob q0 1 [.ref q1, hs_V 0], hs_ra cO q1 8 (hs_o8 (some q3) (some q6) (some q9) (some q12) (some q15) (some q18) none none), hs_ob q3 0 [.ref (uu4 0), hs_V 0], hs_ia cI (uu4 0) 40 (fun _ => 0), hs_ob q6 0 [.ref (uu7 0), hs_V 0], hs_ia cI (uu7 0) 40 (fun _ => 0), hs_ob q9 0 [.ref (uu10 0), hs_V 0], hs_ia cI (uu10 0) 40 (fun _ => 0), hs_ob q12 0 [.ref (uu13 0), hs_V 0], hs_ia cI (uu13 0) 40 (fun _ => 0), hs_ob q15 0 [.ref (uu16 0), hs_V 0], hs_ia cI (uu16 0) 40 (fun _ => 0), hs_ob q18 0 [.ref (uu19 0), hs_V 0], hs_ia cI (uu19 0) 40 (fun _ => 0), hs_ob q21 0 [.ref (uu22 0), hs_V 0], hs_ia cI (uu22 0) 40 (fun _ => 0)]) [2, 3, 4, 5, 6, 7, 8, 9, 10, 11, 12, 13, 14, 15, 0, 1] rfl (by decide) ?_
                refine hs_aast (f' := hs_o8 (some q3) (some q6) (some q9) (some q12) (some q15) (some q18) (some q21) none) (ws' := [hs_ob q0 1 [.ref q1, hs_V 0], hs_ra cO q1 8 (hs_o8 (some q3) (some q6) (some q9) (some q12) (some q15) (some q18) (some q21) none), hs_ob q3 0 [.ref (uu4 0), hs_V 0], hs_ia cI (uu4 0) 40 (fun _ => 0), hs_ob q6 0 [.ref (uu7 0), hs_V 0], hs_ia cI (uu7 0) 40 (fun _ => 0), hs_ob q9 0 [.ref (uu10 0), hs_V 0], hs_ia cI (uu10 0) 40 (fun _ => 0), hs_ob q12 0 [.ref (uu13 0), hs_V 0], hs_ia cI (uu13 0) 40 (fun _ => 0), hs_ob q15 0 [.ref (uu16 0), hs_V 0], hs_ia cI (uu16 0) 40 (fun _ => 0), hs_ob q18 0 [.ref (uu19 0), hs_V 0], hs_ia cI (uu19 0) 40 (fun _ => 0), hs_ob q21 0 [.ref (uu22 0), hs_V 0], hs_ia cI (uu22 0) 40 (fun _ => 0)]) C 1 14 rfl rfl (by omega) hs_o8_u6 rfl dX1_init_38 ?_
                refine hs_iinc (lv' := [(0, .ref q0), (1, hs_V (((((((0 + 1) + 1) + 1) + 1) + 1) + 1) + 1))]) C dX1_init_39 1 rfl (by decide) [1, 0] rfl ?_
                refine hs_goto (tgt := 20) C dX1_init_42 (by decide) ?_
                refine hs_iload_n C dX1_init_20 rfl 1 rfl ?_
                refine hs_bipush C dX1_init_21 (by decide) ?_
                refine hs_icmp_ge (tgt := 45) C dX1_init_23 (by decide) (by omega) (by omega) (fun c23 => ?_) (fun c23 => ?_)
                ·
                  exact absurd c23 (by decide)
                ·
                  refine hs_aload_n C dX1_init_26 rfl 0 rfl ?_
                  refine hs_get C u1 0 rfl rfl 0 (by decide) f11 rfl rfl dX1_init_27 ?_
                  refine hs_iload_n C dX1_init_30 rfl 1 rfl ?_
                  refine hs_new (ci := 0) (fs := [.null, hs_V 0]) C u0 tyX0 tyX0_ok cl9 ns0 ni0 rfl (fun j hj => by rcases (show j = 0 ∨ j = 1 by omega) with rfl | rfl <;> rfl) (Nat.le_of_ble_eq_true rfl) (Nat.le_of_ble_eq_true rfl) dX1_init_31 (fun q24 => ?_)
                  refine hs_cast (ws' := [hs_ob q0 1 [.ref q1, hs_V 0], hs_ra cO q1 8 (hs_o8 (some q3) (some q6) (some q9) (some q12) (some q15) (some q18) (some q21) none), hs_ob q3 0 [.ref (uu4 0), hs_V 0], hs_ia cI (uu4 0) 40 (fun _ => 0), hs_ob q6 0 [.ref (uu7 0), hs_V 0], hs_ia cI (uu7 0) 40 (fun _ => 0), hs_ob q9 0 [.ref (uu10 0), hs_V 0], hs_ia cI (uu10 0) 40 (fun _ => 0), hs_ob q12 0 [.ref (uu13 0), hs_V 0], hs_ia cI (uu13 0) 40 (fun _ => 0), hs_ob q15 0 [.ref (uu16 0), hs_V 0], hs_ia cI (uu16 0) 40 (fun _ => 0), hs_ob q18 0 [.ref (uu19 0), hs_V 0], hs_ia cI (uu19 0) 40 (fun _ => 0), hs_ob q21 0 [.ref (uu22 0), hs_V 0], hs_ia cI (uu22 0) 40 (fun _ => 0), hs_ob q24 0 [.null, hs_V 0]]) ?_ rfl rfl rfl rfl
                  refine hs_dup C dX1_init_34 rfl ?_
                  refine hs_re0 (w' := [hs_ob q24 0 [.null, hs_V 0], hs_ob q0 1 [.ref q1, hs_V 0], hs_ra cO q1 8 (hs_o8 (some q3) (some q6) (some q9) (some q12) (some q15) (some q18) (some q21) none), hs_ob q3 0 [.ref (uu4 0), hs_V 0], hs_ia cI (uu4 0) 40 (fun _ => 0), hs_ob q6 0 [.ref (uu7 0), hs_V 0], hs_ia cI (uu7 0) 40 (fun _ => 0), hs_ob q9 0 [.ref (uu10 0), hs_V 0], hs_ia cI (uu10 0) 40 (fun _ => 0), hs_ob q12 0 [.ref (uu13 0), hs_V 0], hs_ia cI (uu13 0) 40 (fun _ => 0), hs_ob q15 0 [.ref (uu16 0), hs_V 0], hs_ia cI (uu16 0) 40 (fun _ => 0), hs_ob q18 0 [.ref (uu19 0), hs_V 0], hs_ia cI (uu19 0) 40 (fun _ => 0), hs_ob q21 0 [.ref (uu22 0), hs_V 0], hs_ia cI (uu22 0) 40 (fun _ => 0)]) [16, 0, 1, 2, 3, 4, 5, 6, 7, 8, 9, 10, 11, 12, 13, 14, 15] rfl (by decide) ?_
                  refine hs_callINv (win := [hs_ob q24 0 [.null, hs_V 0]]) (wr := [hs_ob q0 1 [.ref q1, hs_V 0], hs_ra cO q1 8 (hs_o8 (some q3) (some q6) (some q9) (some q12) (some q15) (some q18) (some q21) none), hs_ob q3 0 [.ref (uu4 0), hs_V 0], hs_ia cI (uu4 0) 40 (fun _ => 0), hs_ob q6 0 [.ref (uu7 0), hs_V 0], hs_ia cI (uu7 0) 40 (fun _ => 0), hs_ob q9 0 [.ref (uu10 0), hs_V 0], hs_ia cI (uu10 0) 40 (fun _ => 0), hs_ob q12 0 [.ref (uu13 0), hs_V 0], hs_ia cI (uu13 0) 40 (fun _ => 0), hs_ob q15 0 [.ref (uu16 0), hs_V 0], hs_ia cI (uu16 0) 40 (fun _ => 0), hs_ob q18 0 [.ref (uu19 0), hs_V 0], hs_ia cI (uu19 0) 40 (fun _ => 0), hs_ob q21 0 [.ref (uu22 0), hs_V 0], hs_ia cI (uu22 0) 40 (fun _ => 0)]) (As := []) (rest := [.ref q24, hs_V (((((((0 + 1) + 1) + 1) + 1) + 1) + 1) + 1), .ref q1]) C (c_X0_init l D cI cO q24 ) ⟨va_cnB 0 C.1.2.2.2.2 gX1_init_X0_init_n21 rfl rfl rfl n21 in21 (by decide +kernel) ⟨Nat.le_of_ble_eq_true rfl, Nat.le_of_ble_eq_true rfl⟩, rfl, im21⟩ rfl rfl (Nat.le_of_ble_eq_true rfl) dX1_init_35 ⟨Nat.le_of_ble_eq_true rfl, Nat.le_of_ble_eq_true rfl⟩ (fun uu25 hp => ?_)
                  refine hs_re0 (w' := [hs_ob q0 1 [.ref q1, hs_V 0], hs_ra cO q1 8 (hs_o8 (some q3) (some q6) (some q9) (some q12) (some q15) (some q18) (some q21) none), hs_ob q3 0 [.ref (uu4 0), hs_V 0], hs_ia cI (uu4 0) 40 (fun _ => 0), hs_ob q6 0 [.ref (uu7 0), hs_V 0], hs_ia cI (uu7 0) 40 (fun _ => 0), hs_ob q9 0 [.ref (uu10 0), hs_V 0], hs_ia cI (uu10 0) 40 (fun _ => 0), hs_ob q12 0 [.ref (uu13 0), hs_V 0], hs_ia cI (uu13 0) 40 (fun _ => 0), hs_ob q15 0 [.ref (uu16 0), hs_V 0], hs_ia cI (uu16 0) 40 (fun _ => 0), hs_ob q18 0 [.ref (uu19 0), hs_V 0], hs_ia cI (uu19 0) 40 (fun _ => 0), hs_ob q21 0 [.ref (uu22 0), hs_V 0], hs_ia cI (uu22 0) 40 (fun _ => 0), hs_ob q24 0 [.ref (uu25 0), hs_V 0], hs_ia cI (uu25 0) 40 (fun _ => 0)]) [2, 3, 4, 5, 6, 7, 8, 9, 10, 11, 12, 13, 14, 15, 16, 17, 0, 1] rfl (by decide) ?_
                  refine hs_aast (f' := hs_o8 (some q3) (some q6) (some q9) (some q12) (some q15) (some q18) (some q21) (some q24)) (ws' := [hs_ob q0 1 [.ref q1, hs_V 0], hs_ra cO q1 8 (hs_o8 (some q3) (some q6) (some q9) (some q12) (some q15) (some q18) (some q21) (some q24)), hs_ob q3 0 [.ref (uu4 0), hs_V 0], hs_ia cI (uu4 0) 40 (fun _ => 0), hs_ob q6 0 [.ref (uu7 0), hs_V 0], hs_ia cI (uu7 0) 40 (fun _ => 0), hs_ob q9 0 [.ref (uu10 0), hs_V 0], hs_ia cI (uu10 0) 40 (fun _ => 0), hs_ob q12 0 [.ref (uu13 0), hs_V 0], hs_ia cI (uu13 0) 40 (fun _ => 0), hs_ob q15 0 [.ref (uu16 0), hs_V 0], hs_ia cI (uu16 0) 40 (fun _ => 0), hs_ob q18 0 [.ref (uu19 0), hs_V 0], hs_ia cI (uu19 0) 40 (fun _ => 0), hs_ob q21 0 [.ref (uu22 0), hs_V 0], hs_ia cI (uu22 0) 40 (fun _ => 0), hs_ob q24 0 [.ref (uu25 0), hs_V 0], hs_ia cI (uu25 0) 40 (fun _ => 0)]) C 1 16 rfl rfl (by omega) hs_o8_u7 rfl dX1_init_38 ?_
                  refine hs_iinc (lv' := [(0, .ref q0), (1, hs_V ((((((((0 + 1) + 1) + 1) + 1) + 1) + 1) + 1) + 1))]) C dX1_init_39 1 rfl (by decide) [1, 0] rfl ?_
                  refine hs_goto (tgt := 20) C dX1_init_42 (by decide) ?_
                  refine hs_iload_n C dX1_init_20 rfl 1 rfl ?_
                  refine hs_bipush C dX1_init_21 (by decide) ?_
                  refine hs_icmp_ge (tgt := 45) C dX1_init_23 (by decide) (by omega) (by omega) (fun c26 => ?_) (fun c26 => ?_)
                  ·
                    refine hs_cast (ws' := [hs_ob q0 1 [.ref q1, hs_V 0], hs_ra cO q1 8 (hs_r8 q3 q6 q9 q12 q15 q18 q21 q24), hs_ob q3 0 [.ref (uu4 0), hs_V 0], hs_ia cI (uu4 0) 40 (fun _ => 0), hs_ob q6 0 [.ref (uu7 0), hs_V 0], hs_ia cI (uu7 0) 40 (fun _ => 0), hs_ob q9 0 [.ref (uu10 0), hs_V 0], hs_ia cI (uu10 0) 40 (fun _ => 0), hs_ob q12 0 [.ref (uu13 0), hs_V 0], hs_ia cI (uu13 0) 40 (fun _ => 0), hs_ob q15 0 [.ref (uu16 0), hs_V 0], hs_ia cI (uu16 0) 40 (fun _ => 0), hs_ob q18 0 [.ref (uu19 0), hs_V 0], hs_ia cI (uu19 0) 40 (fun _ => 0), hs_ob q21 0 [.ref (uu22 0), hs_V 0], hs_ia cI (uu22 0) 40 (fun _ => 0), hs_ob q24 0 [.ref (uu25 0), hs_V 0], hs_ia cI (uu25 0) 40 (fun _ => 0)]) ?_ rfl rfl rfl (by rw [hs_o8_r8])
                    exact hret _ _ (q1, (fun (j : Int) => if j = 0 then (q3, uu4 0, 0, fun _ => 0) else if j = 1 then (q6, uu7 0, 0, fun _ => 0) else if j = 2 then (q9, uu10 0, 0, fun _ => 0) else if j = 3 then (q12, uu13 0, 0, fun _ => 0) else if j = 4 then (q15, uu16 0, 0, fun _ => 0) else if j = 5 then (q18, uu19 0, 0, fun _ => 0) else if j = 6 then (q21, uu22 0, 0, fun _ => 0) else (q24, uu25 0, 0, fun _ => 0))) (fun j => by dsimp only; repeat (first | rfl | split)) dX1_init_45
                  ·
                    exact absurd c26 (by decide)

set_option maxHeartbeats 4000000 in
set_option maxRecDepth 100000 in
theorem c_X6_init (l : Launch) (D : va_G) (cI cO : ClassId) (x0 : Nat) : hs_Mv l D cI cO yX6_init wsX6_init ({ frames := 3, cells := 33, slots := 719, locals := 65 } : Room) [.ref x0] [hs_ob x0 6 [.null, .null, .null, .null, .null, .null, .null]] (fun (u : (Nat → Nat) × (Int → pu_Z)) => ∀ j, (u.2 j).2.2 = (0, fun _ => 0)) (fun u => [hs_ob x0 6 [.ref (u.1 0), .ref (u.1 2), .ref (u.1 4), .ref (u.1 5), .ref (u.1 7), .ref (u.1 12), .ref (u.1 15)], hs_ob (u.1 0) 0 [.ref (u.1 1), hs_V 0], hs_ia cI (u.1 1) 40 (fun _ => 0), hs_ra cO (u.1 4) 2 (hs_o2 none none), hs_ob (u.1 5) 5 [.ref (u.1 6)], hs_ia cI (u.1 6) 40 (fun _ => 0), hs_ob (u.1 7) 3 [.ref (u.1 8), .ref (u.1 9), .ref (u.1 10), .ref (u.1 11), hs_V 0], hs_ia cI (u.1 8) 40 (fun _ => 0), hs_ia cI (u.1 9) 40 (fun _ => 0), hs_ia cI (u.1 10) 40 (fun _ => 0), hs_ia cI (u.1 11) 40 (fun _ => 0), hs_ob (u.1 12) 4 [.ref (u.1 13), .ref (u.1 14)], hs_ia cI (u.1 13) 40 (fun _ => 0), hs_ia cI (u.1 14) 40 (fun _ => 0), hs_ob (u.1 15) 2 [.ref (u.1 16)], hs_ia cI (u.1 16) 40 (fun _ => 0), hs_ob (u.1 2) 1 [.ref (u.1 3), hs_V 0], hs_ra cO (u.1 3) 8 (hs_r8 (u.2 0).1 (u.2 1).1 (u.2 2).1 (u.2 3).1 (u.2 4).1 (u.2 5).1 (u.2 6).1 (u.2 7).1), hs_ob (u.2 0).1 0 [.ref (u.2 0).2.1, hs_V (u.2 0).2.2.1], hs_ia cI (u.2 0).2.1 40 (u.2 0).2.2.2, hs_ob (u.2 1).1 0 [.ref (u.2 1).2.1, hs_V (u.2 1).2.2.1], hs_ia cI (u.2 1).2.1 40 (u.2 1).2.2.2, hs_ob (u.2 2).1 0 [.ref (u.2 2).2.1, hs_V (u.2 2).2.2.1], hs_ia cI (u.2 2).2.1 40 (u.2 2).2.2.2, hs_ob (u.2 3).1 0 [.ref (u.2 3).2.1, hs_V (u.2 3).2.2.1], hs_ia cI (u.2 3).2.1 40 (u.2 3).2.2.2, hs_ob (u.2 4).1 0 [.ref (u.2 4).2.1, hs_V (u.2 4).2.2.1], hs_ia cI (u.2 4).2.1 40 (u.2 4).2.2.2, hs_ob (u.2 5).1 0 [.ref (u.2 5).2.1, hs_V (u.2 5).2.2.1], hs_ia cI (u.2 5).2.1 40 (u.2 5).2.2.2, hs_ob (u.2 6).1 0 [.ref (u.2 6).2.1, hs_V (u.2 6).2.2.1], hs_ia cI (u.2 6).2.1 40 (u.2 6).2.2.2, hs_ob (u.2 7).1 0 [.ref (u.2 7).2.1, hs_V (u.2 7).2.2.1], hs_ia cI (u.2 7).2.1 40 (u.2 7).2.2.2]) 33 719 := by
  refine hs_enterV (cc := cX6_init) (maxL := 1) (by decide +kernel) rfl (Nat.le_of_ble_eq_true rfl) (fun p e s m args below meth c A H0 Q C hin2 hret => ?_)
  have ob1 := C.1.2.2.2.2 (.methodLink RX6 1 Lib.objectInit) (by decide +kernel)
  have ob2 := C.1.2.2.2.2 (.instanceMethod Lib.objectInit) (by decide +kernel)
  have ob3 := C.1.2.2.2.2 (.code Lib.objectInit ⟨#[0xb1]⟩ 1 none) (by decide +kernel)
  have u0 : ∀ w ∈ wsX00, w ∈ wsX6_init := by decide +kernel
  have cl7 := C.1.2.2.2.2 (.classLink RX6 7 RX0) (by decide +kernel)
  have ns0 := C.1.2.2.2.2 (.instantiable RX0 2) (by decide +kernel)
  have ni0 := C.1.2.2.2.2 (.initialized RX0) (by decide +kernel)
  have in9 := C.1.2.2.2.2 (.initialized (yX0_init).cls) (by decide +kernel)
  have im9 := C.1.2.2.2.2 (.instanceMethod yX0_init) (by decide +kernel)
  have n9 : va_Nw (.methodLinkNest RX6 9 yX0_init RX6) s := C.2.2.1.2.1 (RX6, 9, yX0_init) (by decide +kernel)
  have f10 := C.1.2.2.2.2 (.fieldLink RX6 10 "HistogramStairs" "columns" "LHistogramStairs$Columns;") (by decide +kernel)
  have u6 : ∀ w ∈ wsX60, w ∈ wsX6_init := by decide +kernel
  have u1 : ∀ w ∈ wsX10, w ∈ wsX6_init := by decide +kernel
  have cl16 := C.1.2.2.2.2 (.classLink RX6 16 RX1) (by decide +kernel)
  have ns1 := C.1.2.2.2.2 (.instantiable RX1 2) (by decide +kernel)
  have ni1 := C.1.2.2.2.2 (.initialized RX1) (by decide +kernel)
  have in18 := C.1.2.2.2.2 (.initialized (yX1_init).cls) (by decide +kernel)
  have im18 := C.1.2.2.2.2 (.instanceMethod yX1_init) (by decide +kernel)
  have ml18 := C.1.2.2.2.2 (.methodLink RX6 18 yX1_init) (by decide +kernel)
  have f19 := C.1.2.2.2.2 (.fieldLink RX6 19 "HistogramStairs" "history" "LHistogramStairs$History;") (by decide +kernel)
  have f23 := C.1.2.2.2.2 (.fieldLink RX6 23 "HistogramStairs" "images" "[LHistogramStairs$Columns;") (by decide +kernel)
  have u5 : ∀ w ∈ wsX50, w ∈ wsX6_init := by decide +kernel
  have cl27 := C.1.2.2.2.2 (.classLink RX6 27 RX5) (by decide +kernel)
  have ns5 := C.1.2.2.2.2 (.instantiable RX5 1) (by decide +kernel)
  have ni5 := C.1.2.2.2.2 (.initialized RX5) (by decide +kernel)
  have in29 := C.1.2.2.2.2 (.initialized (yX5_init).cls) (by decide +kernel)
  have im29 := C.1.2.2.2.2 (.instanceMethod yX5_init) (by decide +kernel)
  have n29 : va_Nw (.methodLinkNest RX6 29 yX5_init RX6) s := C.2.2.1.2.1 (RX6, 29, yX5_init) (by decide +kernel)
  have f30 := C.1.2.2.2.2 (.fieldLink RX6 30 "HistogramStairs" "water" "LHistogramStairs$Water;") (by decide +kernel)
  have u3 : ∀ w ∈ wsX30, w ∈ wsX6_init := by decide +kernel
  have cl34 := C.1.2.2.2.2 (.classLink RX6 34 RX3) (by decide +kernel)
  have ns3 := C.1.2.2.2.2 (.instantiable RX3 5) (by decide +kernel)
  have ni3 := C.1.2.2.2.2 (.initialized RX3) (by decide +kernel)
  have in36 := C.1.2.2.2.2 (.initialized (yX3_init).cls) (by decide +kernel)
  have im36 := C.1.2.2.2.2 (.instanceMethod yX3_init) (by decide +kernel)
  have n36 : va_Nw (.methodLinkNest RX6 36 yX3_init RX6) s := C.2.2.1.2.1 (RX6, 36, yX3_init) (by decide +kernel)
  have f37 := C.1.2.2.2.2 (.fieldLink RX6 37 "HistogramStairs" "rectangles" "LHistogramStairs$Rectangles;") (by decide +kernel)
  have u4 : ∀ w ∈ wsX40, w ∈ wsX6_init := by decide +kernel
  have cl41 := C.1.2.2.2.2 (.classLink RX6 41 RX4) (by decide +kernel)
  have ns4 := C.1.2.2.2.2 (.instantiable RX4 2) (by decide +kernel)
  have ni4 := C.1.2.2.2.2 (.initialized RX4) (by decide +kernel)
  have in43 := C.1.2.2.2.2 (.initialized (yX4_init).cls) (by decide +kernel)
  have im43 := C.1.2.2.2.2 (.instanceMethod yX4_init) (by decide +kernel)
  have n43 : va_Nw (.methodLinkNest RX6 43 yX4_init RX6) s := C.2.2.1.2.1 (RX6, 43, yX4_init) (by decide +kernel)
  have f44 := C.1.2.2.2.2 (.fieldLink RX6 44 "HistogramStairs" "tree" "LHistogramStairs$Tree;") (by decide +kernel)
  have u2 : ∀ w ∈ wsX20, w ∈ wsX6_init := by decide +kernel
  have cl48 := C.1.2.2.2.2 (.classLink RX6 48 RX2) (by decide +kernel)
  have ns2 := C.1.2.2.2.2 (.instantiable RX2 1) (by decide +kernel)
  have ni2 := C.1.2.2.2.2 (.initialized RX2) (by decide +kernel)
  have in50 := C.1.2.2.2.2 (.initialized (yX2_init).cls) (by decide +kernel)
  have im50 := C.1.2.2.2.2 (.instanceMethod yX2_init) (by decide +kernel)
  have n50 : va_Nw (.methodLinkNest RX6 50 yX2_init RX6) s := C.2.2.1.2.1 (RX6, 50, yX2_init) (by decide +kernel)
  have f51 := C.1.2.2.2.2 (.fieldLink RX6 51 "HistogramStairs" "painter" "LHistogramStairs$Painter;") (by decide +kernel)
  refine hs_lvs (lv' := [(0, .ref x0)]) [0] rfl ?_
  refine hs_aload_n C dX6_init_0 rfl 0 rfl ?_
  refine hs_obj C ob1 ob2 ob3 (Nat.le_of_ble_eq_true rfl) (Nat.le_of_ble_eq_true rfl) (Nat.le_of_ble_eq_true rfl) dX6_init_1 ?_
  refine hs_aload_n C dX6_init_4 rfl 0 rfl ?_
  refine hs_new (ci := 0) (fs := [.null, hs_V 0]) C u0 tyX0 tyX0_ok cl7 ns0 ni0 rfl (fun j hj => by rcases (show j = 0 ∨ j = 1 by omega) with rfl | rfl <;> rfl) (Nat.le_of_ble_eq_true rfl) (Nat.le_of_ble_eq_true rfl) dX6_init_5 (fun q1 => ?_)
  refine hs_cast (ws' := [hs_ob x0 6 [.null, .null, .null, .null, .null, .null, .null], hs_ob q1 0 [.null, hs_V 0]]) ?_ rfl rfl rfl rfl
  refine hs_dup C dX6_init_8 rfl ?_
  refine hs_re0 (w' := [hs_ob q1 0 [.null, hs_V 0], hs_ob x0 6 [.null, .null, .null, .null, .null, .null, .null]]) [1, 0] rfl (by decide) ?_
  refine hs_callINv (win := [hs_ob q1 0 [.null, hs_V 0]]) (wr := [hs_ob x0 6 [.null, .null, .null, .null, .null, .null, .null]]) (As := []) (rest := [.ref q1, .ref x0]) C (c_X0_init l D cI cO q1 ) ⟨va_cnB 0 C.1.2.2.2.2 gX6_init_X0_init_n9 rfl rfl rfl n9 in9 (by decide +kernel) ⟨Nat.le_of_ble_eq_true rfl, Nat.le_of_ble_eq_true rfl⟩, rfl, im9⟩ rfl rfl (Nat.le_of_ble_eq_true rfl) dX6_init_9 ⟨Nat.le_of_ble_eq_true rfl, Nat.le_of_ble_eq_true rfl⟩ (fun uu2 hp => ?_)
  refine hs_re0 (w' := [hs_ob x0 6 [.null, .null, .null, .null, .null, .null, .null], hs_ob q1 0 [.ref (uu2 0), hs_V 0], hs_ia cI (uu2 0) 40 (fun _ => 0)]) [2, 0, 1] rfl (by decide) ?_
  refine hs_putF (ty := .object "HistogramStairs$Columns") (ws' := [hs_ob x0 6 [.ref q1, .null, .null, .null, .null, .null, .null], hs_ob q1 0 [.ref (uu2 0), hs_V 0], hs_ia cI (uu2 0) 40 (fun _ => 0)]) C u6 tyX6 tyX6_ok nmX6 0 rfl rfl 0 (by decide) f10 rfl rfl hin2 rfl (by decide +kernel) rfl rfl (Nat.le_of_ble_eq_true rfl) rfl dX6_init_12 ?_
  refine hs_aload_n C dX6_init_15 rfl 0 rfl ?_
  refine hs_new (ci := 1) (fs := [.null, hs_V 0]) C u1 tyX1 tyX1_ok cl16 ns1 ni1 rfl (fun j hj => by rcases (show j = 0 ∨ j = 1 by omega) with rfl | rfl <;> rfl) (Nat.le_of_ble_eq_true rfl) (Nat.le_of_ble_eq_true rfl) dX6_init_16 (fun q3 => ?_)
  refine hs_cast (ws' := [hs_ob x0 6 [.ref q1, .null, .null, .null, .null, .null, .null], hs_ob q1 0 [.ref (uu2 0), hs_V 0], hs_ia cI (uu2 0) 40 (fun _ => 0), hs_ob q3 1 [.null, hs_V 0]]) ?_ rfl rfl rfl rfl
  refine hs_dup C dX6_init_19 rfl ?_
  refine hs_re0 (w' := [hs_ob q3 1 [.null, hs_V 0], hs_ob x0 6 [.ref q1, .null, .null, .null, .null, .null, .null], hs_ob q1 0 [.ref (uu2 0), hs_V 0], hs_ia cI (uu2 0) 40 (fun _ => 0)]) [3, 0, 1, 2] rfl (by decide) ?_
  refine hs_callIv (win := [hs_ob q3 1 [.null, hs_V 0]]) (wr := [hs_ob x0 6 [.ref q1, .null, .null, .null, .null, .null, .null], hs_ob q1 0 [.ref (uu2 0), hs_V 0], hs_ia cI (uu2 0) 40 (fun _ => 0)]) (As := []) (rest := [.ref q3, .ref x0]) C (c_X1_init l D cI cO q3 ) (cwI 0 C.1.2.2.2.2 gX6_init_X1_init rfl rfl rfl in18 ml18 im18 rfl (by decide +kernel) ⟨Nat.le_of_ble_eq_true rfl, Nat.le_of_ble_eq_true rfl⟩) rfl rfl (Nat.le_of_ble_eq_true rfl) dX6_init_20 ⟨Nat.le_of_ble_eq_true rfl, Nat.le_of_ble_eq_true rfl⟩ (fun uu4 hp => ?_)
  refine hs_re0 (w' := [hs_ob x0 6 [.ref q1, .null, .null, .null, .null, .null, .null], hs_ob q1 0 [.ref (uu2 0), hs_V 0], hs_ia cI (uu2 0) 40 (fun _ => 0), hs_ob q3 1 [.ref uu4.1, hs_V 0], hs_ra cO uu4.1 8 (hs_r8 (uu4.2 0).1 (uu4.2 1).1 (uu4.2 2).1 (uu4.2 3).1 (uu4.2 4).1 (uu4.2 5).1 (uu4.2 6).1 (uu4.2 7).1), hs_ob (uu4.2 0).1 0 [.ref (uu4.2 0).2.1, hs_V (uu4.2 0).2.2.1], hs_ia cI (uu4.2 0).2.1 40 (uu4.2 0).2.2.2, hs_ob (uu4.2 1).1 0 [.ref (uu4.2 1).2.1, hs_V (uu4.2 1).2.2.1], hs_ia cI (uu4.2 1).2.1 40 (uu4.2 1).2.2.2, hs_ob (uu4.2 2).1 0 [.ref (uu4.2 2).2.1, hs_V (uu4.2 2).2.2.1], hs_ia cI (uu4.2 2).2.1 40 (uu4.2 2).2.2.2, hs_ob (uu4.2 3).1 0 [.ref (uu4.2 3).2.1, hs_V (uu4.2 3).2.2.1], hs_ia cI (uu4.2 3).2.1 40 (uu4.2 3).2.2.2, hs_ob (uu4.2 4).1 0 [.ref (uu4.2 4).2.1, hs_V (uu4.2 4).2.2.1], hs_ia cI (uu4.2 4).2.1 40 (uu4.2 4).2.2.2, hs_ob (uu4.2 5).1 0 [.ref (uu4.2 5).2.1, hs_V (uu4.2 5).2.2.1], hs_ia cI (uu4.2 5).2.1 40 (uu4.2 5).2.2.2, hs_ob (uu4.2 6).1 0 [.ref (uu4.2 6).2.1, hs_V (uu4.2 6).2.2.1], hs_ia cI (uu4.2 6).2.1 40 (uu4.2 6).2.2.2, hs_ob (uu4.2 7).1 0 [.ref (uu4.2 7).2.1, hs_V (uu4.2 7).2.2.1], hs_ia cI (uu4.2 7).2.1 40 (uu4.2 7).2.2.2]) [18, 19, 20, 0, 1, 2, 3, 4, 5, 6, 7, 8, 9, 10, 11, 12, 13, 14, 15, 16, 17] rfl (by decide) ?_
  have hZZ := hp
  refine hs_putF (ty := .object "HistogramStairs$History") (ws' := [hs_ob x0 6 [.ref q1, .ref q3, .null, .null, .null, .null, .null], hs_ob q1 0 [.ref (uu2 0), hs_V 0], hs_ia cI (uu2 0) 40 (fun _ => 0), hs_ob q3 1 [.ref uu4.1, hs_V 0], hs_ra cO uu4.1 8 (hs_r8 (uu4.2 0).1 (uu4.2 1).1 (uu4.2 2).1 (uu4.2 3).1 (uu4.2 4).1 (uu4.2 5).1 (uu4.2 6).1 (uu4.2 7).1), hs_ob (uu4.2 0).1 0 [.ref (uu4.2 0).2.1, hs_V (uu4.2 0).2.2.1], hs_ia cI (uu4.2 0).2.1 40 (uu4.2 0).2.2.2, hs_ob (uu4.2 1).1 0 [.ref (uu4.2 1).2.1, hs_V (uu4.2 1).2.2.1], hs_ia cI (uu4.2 1).2.1 40 (uu4.2 1).2.2.2, hs_ob (uu4.2 2).1 0 [.ref (uu4.2 2).2.1, hs_V (uu4.2 2).2.2.1], hs_ia cI (uu4.2 2).2.1 40 (uu4.2 2).2.2.2, hs_ob (uu4.2 3).1 0 [.ref (uu4.2 3).2.1, hs_V (uu4.2 3).2.2.1], hs_ia cI (uu4.2 3).2.1 40 (uu4.2 3).2.2.2, hs_ob (uu4.2 4).1 0 [.ref (uu4.2 4).2.1, hs_V (uu4.2 4).2.2.1], hs_ia cI (uu4.2 4).2.1 40 (uu4.2 4).2.2.2, hs_ob (uu4.2 5).1 0 [.ref (uu4.2 5).2.1, hs_V (uu4.2 5).2.2.1], hs_ia cI (uu4.2 5).2.1 40 (uu4.2 5).2.2.2, hs_ob (uu4.2 6).1 0 [.ref (uu4.2 6).2.1, hs_V (uu4.2 6).2.2.1], hs_ia cI (uu4.2 6).2.1 40 (uu4.2 6).2.2.2, hs_ob (uu4.2 7).1 0 [.ref (uu4.2 7).2.1, hs_V (uu4.2 7).2.2.1], hs_ia cI (uu4.2 7).2.1 40 (uu4.2 7).2.2.2]) C u6 tyX6 tyX6_ok nmX6 0 rfl rfl 1 (by decide) f19 rfl rfl hin2 rfl (by decide +kernel) rfl rfl (Nat.le_of_ble_eq_true rfl) rfl dX6_init_23 ?_
  refine hs_aload_n C dX6_init_26 rfl 0 rfl ?_
  refine hs_iconst C dX6_init_27 ?_
  refine hs_newr (n := 2) C cl7 rfl (by decide) (Nat.le_of_ble_eq_true rfl) (Nat.le_of_ble_eq_true rfl) dX6_init_28 (fun q5 => ?_)
  refine hs_cast (ws' := [hs_ob x0 6 [.ref q1, .ref q3, .null, .null, .null, .null, .null], hs_ob q1 0 [.ref (uu2 0), hs_V 0], hs_ia cI (uu2 0) 40 (fun _ => 0), hs_ob q3 1 [.ref uu4.1, hs_V 0], hs_ra cO uu4.1 8 (hs_r8 (uu4.2 0).1 (uu4.2 1).1 (uu4.2 2).1 (uu4.2 3).1 (uu4.2 4).1 (uu4.2 5).1 (uu4.2 6).1 (uu4.2 7).1), hs_ob (uu4.2 0).1 0 [.ref (uu4.2 0).2.1, hs_V (uu4.2 0).2.2.1], hs_ia cI (uu4.2 0).2.1 40 (uu4.2 0).2.2.2, hs_ob (uu4.2 1).1 0 [.ref (uu4.2 1).2.1, hs_V (uu4.2 1).2.2.1], hs_ia cI (uu4.2 1).2.1 40 (uu4.2 1).2.2.2, hs_ob (uu4.2 2).1 0 [.ref (uu4.2 2).2.1, hs_V (uu4.2 2).2.2.1], hs_ia cI (uu4.2 2).2.1 40 (uu4.2 2).2.2.2, hs_ob (uu4.2 3).1 0 [.ref (uu4.2 3).2.1, hs_V (uu4.2 3).2.2.1], hs_ia cI (uu4.2 3).2.1 40 (uu4.2 3).2.2.2, hs_ob (uu4.2 4).1 0 [.ref (uu4.2 4).2.1, hs_V (uu4.2 4).2.2.1], hs_ia cI (uu4.2 4).2.1 40 (uu4.2 4).2.2.2, hs_ob (uu4.2 5).1 0 [.ref (uu4.2 5).2.1, hs_V (uu4.2 5).2.2.1], hs_ia cI (uu4.2 5).2.1 40 (uu4.2 5).2.2.2, hs_ob (uu4.2 6).1 0 [.ref (uu4.2 6).2.1, hs_V (uu4.2 6).2.2.1], hs_ia cI (uu4.2 6).2.1 40 (uu4.2 6).2.2.2, hs_ob (uu4.2 7).1 0 [.ref (uu4.2 7).2.1, hs_V (uu4.2 7).2.2.1], hs_ia cI (uu4.2 7).2.1 40 (uu4.2 7).2.2.2, hs_ra cO q5 2 (fun _ => none)]) ?_ rfl rfl rfl rfl
  refine hs_cast (ws' := [hs_ob x0 6 [.ref q1, .ref q3, .null, .null, .null, .null, .null], hs_ob q1 0 [.ref (uu2 0), hs_V 0], hs_ia cI (uu2 0) 40 (fun _ => 0), hs_ob q3 1 [.ref uu4.1, hs_V 0], hs_ra cO uu4.1 8 (hs_r8 (uu4.2 0).1 (uu4.2 1).1 (uu4.2 2).1 (uu4.2 3).1 (uu4.2 4).1 (uu4.2 5).1 (uu4.2 6).1 (uu4.2 7).1), hs_ob (uu4.2 0).1 0 [.ref (uu4.2 0).2.1, hs_V (uu4.2 0).2.2.1], hs_ia cI (uu4.2 0).2.1 40 (uu4.2 0).2.2.2, hs_ob (uu4.2 1).1 0 [.ref (uu4.2 1).2.1, hs_V (uu4.2 1).2.2.1], hs_ia cI (uu4.2 1).2.1 40 (uu4.2 1).2.2.2, hs_ob (uu4.2 2).1 0 [.ref (uu4.2 2).2.1, hs_V (uu4.2 2).2.2.1], hs_ia cI (uu4.2 2).2.1 40 (uu4.2 2).2.2.2, hs_ob (uu4.2 3).1 0 [.ref (uu4.2 3).2.1, hs_V (uu4.2 3).2.2.1], hs_ia cI (uu4.2 3).2.1 40 (uu4.2 3).2.2.2, hs_ob (uu4.2 4).1 0 [.ref (uu4.2 4).2.1, hs_V (uu4.2 4).2.2.1], hs_ia cI (uu4.2 4).2.1 40 (uu4.2 4).2.2.2, hs_ob (uu4.2 5).1 0 [.ref (uu4.2 5).2.1, hs_V (uu4.2 5).2.2.1], hs_ia cI (uu4.2 5).2.1 40 (uu4.2 5).2.2.2, hs_ob (uu4.2 6).1 0 [.ref (uu4.2 6).2.1, hs_V (uu4.2 6).2.2.1], hs_ia cI (uu4.2 6).2.1 40 (uu4.2 6).2.2.2, hs_ob (uu4.2 7).1 0 [.ref (uu4.2 7).2.1, hs_V (uu4.2 7).2.2.1], hs_ia cI (uu4.2 7).2.1 40 (uu4.2 7).2.2.2, hs_ra cO q5 2 (hs_o2 none none)]) ?_ rfl rfl rfl (by rw [hs_o2_new])
  refine hs_putF (ty := .array (.object "HistogramStairs$Columns")) (ws' := [hs_ob x0 6 [.ref q1, .ref q3, .ref q5, .null, .null, .null, .null], hs_ob q1 0 [.ref (uu2 0), hs_V 0], hs_ia cI (uu2 0) 40 (fun _ => 0), hs_ob q3 1 [.ref uu4.1, hs_V 0], hs_ra cO uu4.1 8 (hs_r8 (uu4.2 0).1 (uu4.2 1).1 (uu4.2 2).1 (uu4.2 3).1 (uu4.2 4).1 (uu4.2 5).1 (uu4.2 6).1 (uu4.2 7).1), hs_ob (uu4.2 0).1 0 [.ref (uu4.2 0).2.1, hs_V (uu4.2 0).2.2.1], hs_ia cI (uu4.2 0).2.1 40 (uu4.2 0).2.2.2, hs_ob (uu4.2 1).1 0 [.ref (uu4.2 1).2.1, hs_V (uu4.2 1).2.2.1], hs_ia cI (uu4.2 1).2.1 40 (uu4.2 1).2.2.2, hs_ob (uu4.2 2).1 0 [.ref (uu4.2 2).2.1, hs_V (uu4.2 2).2.2.1], hs_ia cI (uu4.2 2).2.1 40 (uu4.2 2).2.2.2, hs_ob (uu4.2 3).1 0 [.ref (uu4.2 3).2.1, hs_V (uu4.2 3).2.2.1], hs_ia cI (uu4.2 3).2.1 40 (uu4.2 3).2.2.2, hs_ob (uu4.2 4).1 0 [.ref (uu4.2 4).2.1, hs_V (uu4.2 4).2.2.1], hs_ia cI (uu4.2 4).2.1 40 (uu4.2 4).2.2.2, hs_ob (uu4.2 5).1 0 [.ref (uu4.2 5).2.1, hs_V (uu4.2 5).2.2.1], hs_ia cI (uu4.2 5).2.1 40 (uu4.2 5).2.2.2, hs_ob (uu4.2 6).1 0 [.ref (uu4.2 6).2.1, hs_V (uu4.2 6).2.2.1], hs_ia cI (uu4.2 6).2.1 40 (uu4.2 6).2.2.2, hs_ob (uu4.2 7).1 0 [.ref (uu4.2 7).2.1, hs_V (uu4.2 7).2.2.1], hs_ia cI (uu4.2 7).2.1 40 (uu4.2 7).2.2.2, hs_ra cO q5 2 (hs_o2 none none)]) C u6 tyX6 tyX6_ok nmX6 0 rfl rfl 2 (by decide) f23 rfl rfl hin2 rfl (by decide +kernel) rfl rfl (Nat.le_of_ble_eq_true rfl) rfl dX6_init_31 ?_
  refine hs_aload_n C dX6_init_34 rfl 0 rfl ?_
  refine hs_new (ci := 5) (fs := [.null]) C u5 tyX5 tyX5_ok cl27 ns5 ni5 rfl (fun j hj => by rcases (show j = 0 by omega) with rfl <;> rfl) (Nat.le_of_ble_eq_true rfl) (Nat.le_of_ble_eq_true rfl) dX6_init_35 (fun q6 => ?_)
  refine hs_cast (ws' := [hs_ob x0 6 [.ref q1, .ref q3, .ref q5, .null, .null, .null, .null], hs_ob q1 0 [.ref (uu2 0), hs_V 0], hs_ia cI (uu2 0) 40 (fun _ => 0), hs_ob q3 1 [.ref uu4.1, hs_V 0], hs_ra cO uu4.1 8 (hs_r8 (uu4.2 0).1 (uu4.2 1).1 (uu4.2 2).1 (uu4.2 3).1 (uu4.2 4).1 (uu4.2 5).1 (uu4.2 6).1 (uu4.2 7).1), hs_ob (uu4.2 0).1 0 [.ref (uu4.2 0).2.1, hs_V (uu4.2 0).2.2.1], hs_ia cI (uu4.2 0).2.1 40 (uu4.2 0).2.2.2, hs_ob (uu4.2 1).1 0 [.ref (uu4.2 1).2.1, hs_V (uu4.2 1).2.2.1], hs_ia cI (uu4.2 1).2.1 40 (uu4.2 1).2.2.2, hs_ob (uu4.2 2).1 0 [.ref (uu4.2 2).2.1, hs_V (uu4.2 2).2.2.1], hs_ia cI (uu4.2 2).2.1 40 (uu4.2 2).2.2.2, hs_ob (uu4.2 3).1 0 [.ref (uu4.2 3).2.1, hs_V (uu4.2 3).2.2.1], hs_ia cI (uu4.2 3).2.1 40 (uu4.2 3).2.2.2, hs_ob (uu4.2 4).1 0 [.ref (uu4.2 4).2.1, hs_V (uu4.2 4).2.2.1], hs_ia cI (uu4.2 4).2.1 40 (uu4.2 4).2.2.2, hs_ob (uu4.2 5).1 0 [.ref (uu4.2 5).2.1, hs_V (uu4.2 5).2.2.1], hs_ia cI (uu4.2 5).2.1 40 (uu4.2 5).2.2.2, hs_ob (uu4.2 6).1 0 [.ref (uu4.2 6).2.1, hs_V (uu4.2 6).2.2.1], hs_ia cI (uu4.2 6).2.1 40 (uu4.2 6).2.2.2, hs_ob (uu4.2 7).1 0 [.ref (uu4.2 7).2.1, hs_V (uu4.2 7).2.2.1], hs_ia cI (uu4.2 7).2.1 40 (uu4.2 7).2.2.2, hs_ra cO q5 2 (hs_o2 none none), hs_ob q6 5 [.null]]) ?_ rfl rfl rfl rfl
  refine hs_dup C dX6_init_38 rfl ?_
  refine hs_re0 (w' := [hs_ob q6 5 [.null], hs_ob x0 6 [.ref q1, .ref q3, .ref q5, .null, .null, .null, .null], hs_ob q1 0 [.ref (uu2 0), hs_V 0], hs_ia cI (uu2 0) 40 (fun _ => 0), hs_ob q3 1 [.ref uu4.1, hs_V 0], hs_ra cO uu4.1 8 (hs_r8 (uu4.2 0).1 (uu4.2 1).1 (uu4.2 2).1 (uu4.2 3).1 (uu4.2 4).1 (uu4.2 5).1 (uu4.2 6).1 (uu4.2 7).1), hs_ob (uu4.2 0).1 0 [.ref (uu4.2 0).2.1, hs_V (uu4.2 0).2.2.1], hs_ia cI (uu4.2 0).2.1 40 (uu4.2 0).2.2.2, hs_ob (uu4.2 1).1 0 [.ref (uu4.2 1).2.1, hs_V (uu4.2 1).2.2.1], hs_ia cI (uu4.2 1).2.1 40 (uu4.2 1).2.2.2, hs_ob (uu4.2 2).1 0 [.ref (uu4.2 2).2.1, hs_V (uu4.2 2).2.2.1], hs_ia cI (uu4.2 2).2.1 40 (uu4.2 2).2.2.2, hs_ob (uu4.2 3).1 0 [.ref (uu4.2 3).2.1, hs_V (uu4.2 3).2.2.1], hs_ia cI (uu4.2 3).2.1 40 (uu4.2 3).2.2.2, hs_ob (uu4.2 4).1 0 [.ref (uu4.2 4).2.1, hs_V (uu4.2 4).2.2.1], hs_ia cI (uu4.2 4).2.1 40 (uu4.2 4).2.2.2, hs_ob (uu4.2 5).1 0 [.ref (uu4.2 5).2.1, hs_V (uu4.2 5).2.2.1], hs_ia cI (uu4.2 5).2.1 40 (uu4.2 5).2.2.2, hs_ob (uu4.2 6).1 0 [.ref (uu4.2 6).2.1, hs_V (uu4.2 6).2.2.1], hs_ia cI (uu4.2 6).2.1 40 (uu4.2 6).2.2.2, hs_ob (uu4.2 7).1 0 [.ref (uu4.2 7).2.1, hs_V (uu4.2 7).2.2.1], hs_ia cI (uu4.2 7).2.1 40 (uu4.2 7).2.2.2, hs_ra cO q5 2 (hs_o2 none none)]) [22, 0, 1, 2, 3, 4, 5, 6, 7, 8, 9, 10, 11, 12, 13, 14, 15, 16, 17, 18, 19, 20, 21] rfl (by decide) ?_
  refine hs_callINv (win := [hs_ob q6 5 [.null]]) (wr := [hs_ob x0 6 [.ref q1, .ref q3, .ref q5, .null, .null, .null, .null], hs_ob q1 0 [.ref (uu2 0), hs_V 0], hs_ia cI (uu2 0) 40 (fun _ => 0), hs_ob q3 1 [.ref uu4.1, hs_V 0], hs_ra cO uu4.1 8 (hs_r8 (uu4.2 0).1 (uu4.2 1).1 (uu4.2 2).1 (uu4.2 3).1 (uu4.2 4).1 (uu4.2 5).1 (uu4.2 6).1 (uu4.2 7).1), hs_ob (uu4.2 0).1 0 [.ref (uu4.2 0).2.1, hs_V (uu4.2 0).2.2.1], hs_ia cI (uu4.2 0).2.1 40 (uu4.2 0).2.2.2, hs_ob (uu4.2 1).1 0 [.ref (uu4.2 1).2.1, hs_V (uu4.2 1).2.2.1], hs_ia cI (uu4.2 1).2.1 40 (uu4.2 1).2.2.2, hs_ob (uu4.2 2).1 0 [.ref (uu4.2 2).2.1, hs_V (uu4.2 2).2.2.1], hs_ia cI (uu4.2 2).2.1 40 (uu4.2 2).2.2.2, hs_ob (uu4.2 3).1 0 [.ref (uu4.2 3).2.1, hs_V (uu4.2 3).2.2.1], hs_ia cI (uu4.2 3).2.1 40 (uu4.2 3).2.2.2, hs_ob (uu4.2 4).1 0 [.ref (uu4.2 4).2.1, hs_V (uu4.2 4).2.2.1], hs_ia cI (uu4.2 4).2.1 40 (uu4.2 4).2.2.2, hs_ob (uu4.2 5).1 0 [.ref (uu4.2 5).2.1, hs_V (uu4.2 5).2.2.1], hs_ia cI (uu4.2 5).2.1 40 (uu4.2 5).2.2.2, hs_ob (uu4.2 6).1 0 [.ref (uu4.2 6).2.1, hs_V (uu4.2 6).2.2.1], hs_ia cI (uu4.2 6).2.1 40 (uu4.2 6).2.2.2, hs_ob (uu4.2 7).1 0 [.ref (uu4.2 7).2.1, hs_V (uu4.2 7).2.2.1], hs_ia cI (uu4.2 7).2.1 40 (uu4.2 7).2.2.2, hs_ra cO q5 2 (hs_o2 none none)]) (As := []) (rest := [.ref q6, .ref x0]) C (c_X5_init l D cI cO q6 ) ⟨va_cnB 0 C.1.2.2.2.2 gX6_init_X5_init_n29 rfl rfl rfl n29 in29 (by decide +kernel) ⟨Nat.le_of_ble_eq_true rfl, Nat.le_of_ble_eq_true rfl⟩, rfl, im29⟩ rfl rfl (Nat.le_of_ble_eq_true rfl) dX6_init_39 ⟨Nat.le_of_ble_eq_true rfl, Nat.le_of_ble_eq_true rfl⟩ (fun uu7 hp => ?_)
  refine hs_re0 (w' := [hs_ob x0 6 [.ref q1, .ref q3, .ref q5, .null, .null, .null, .null], hs_ob q1 0 [.ref (uu2 0), hs_V 0], hs_ia cI (uu2 0) 40 (fun _ => 0), hs_ob q3 1 [.ref uu4.1, hs_V 0], hs_ra cO uu4.1 8 (hs_r8 (uu4.2 0).1 (uu4.2 1).1 (uu4.2 2).1 (uu4.2 3).1 (uu4.2 4).1 (uu4.2 5).1 (uu4.2 6).1 (uu4.2 7).1), hs_ob (uu4.2 0).1 0 [.ref (uu4.2 0).2.1, hs_V (uu4.2 0).2.2.1], hs_ia cI (uu4.2 0).2.1 40 (uu4.2 0).2.2.2, hs_ob (uu4.2 1).1 0 [.ref (uu4.2 1).2.1, hs_V (uu4.2 1).2.2.1], hs_ia cI (uu4.2 1).2.1 40 (uu4.2 1).2.2.2, hs_ob (uu4.2 2).1 0 [.ref (uu4.2 2).2.1, hs_V (uu4.2 2).2.2.1], hs_ia cI (uu4.2 2).2.1 40 (uu4.2 2).2.2.2, hs_ob (uu4.2 3).1 0 [.ref (uu4.2 3).2.1, hs_V (uu4.2 3).2.2.1], hs_ia cI (uu4.2 3).2.1 40 (uu4.2 3).2.2.2, hs_ob (uu4.2 4).1 0 [.ref (uu4.2 4).2.1, hs_V (uu4.2 4).2.2.1], hs_ia cI (uu4.2 4).2.1 40 (uu4.2 4).2.2.2, hs_ob (uu4.2 5).1 0 [.ref (uu4.2 5).2.1, hs_V (uu4.2 5).2.2.1], hs_ia cI (uu4.2 5).2.1 40 (uu4.2 5).2.2.2, hs_ob (uu4.2 6).1 0 [.ref (uu4.2 6).2.1, hs_V (uu4.2 6).2.2.1], hs_ia cI (uu4.2 6).2.1 40 (uu4.2 6).2.2.2, hs_ob (uu4.2 7).1 0 [.ref (uu4.2 7).2.1, hs_V (uu4.2 7).2.2.1], hs_ia cI (uu4.2 7).2.1 40 (uu4.2 7).2.2.2, hs_ra cO q5 2 (hs_o2 none none), hs_ob q6 5 [.ref (uu7 0)], hs_ia cI (uu7 0) 40 (fun _ => 0)]) [2, 3, 4, 5, 6, 7, 8, 9, 10, 11, 12, 13, 14, 15, 16, 17, 18, 19, 20, 21, 22, 23, 0, 1] rfl (by decide) ?_
  refine hs_putF (ty := .object "HistogramStairs$Water") (ws' := [hs_ob x0 6 [.ref q1, .ref q3, .ref q5, .ref q6, .null, .null, .null], hs_ob q1 0 [.ref (uu2 0), hs_V 0], hs_ia cI (uu2 0) 40 (fun _ => 0), hs_ob q3 1 [.ref uu4.1, hs_V 0], hs_ra cO uu4.1 8 (hs_r8 (uu4.2 0).1 (uu4.2 1).1 (uu4.2 2).1 (uu4.2 3).1 (uu4.2 4).1 (uu4.2 5).1 (uu4.2 6).1 (uu4.2 7).1), hs_ob (uu4.2 0).1 0 [.ref (uu4.2 0).2.1, hs_V (uu4.2 0).2.2.1], hs_ia cI (uu4.2 0).2.1 40 (uu4.2 0).2.2.2, hs_ob (uu4.2 1).1 0 [.ref (uu4.2 1).2.1, hs_V (uu4.2 1).2.2.1], hs_ia cI (uu4.2 1).2.1 40 (uu4.2 1).2.2.2, hs_ob (uu4.2 2).1 0 [.ref (uu4.2 2).2.1, hs_V (uu4.2 2).2.2.1], hs_ia cI (uu4.2 2).2.1 40 (uu4.2 2).2.2.2, hs_ob (uu4.2 3).1 0 [.ref (uu4.2 3).2.1, hs_V (uu4.2 3).2.2.1], hs_ia cI (uu4.2 3).2.1 40 (uu4.2 3).2.2.2, hs_ob (uu4.2 4).1 0 [.ref (uu4.2 4).2.1, hs_V (uu4.2 4).2.2.1], hs_ia cI (uu4.2 4).2.1 40 (uu4.2 4).2.2.2, hs_ob (uu4.2 5).1 0 [.ref (uu4.2 5).2.1, hs_V (uu4.2 5).2.2.1], hs_ia cI (uu4.2 5).2.1 40 (uu4.2 5).2.2.2, hs_ob (uu4.2 6).1 0 [.ref (uu4.2 6).2.1, hs_V (uu4.2 6).2.2.1], hs_ia cI (uu4.2 6).2.1 40 (uu4.2 6).2.2.2, hs_ob (uu4.2 7).1 0 [.ref (uu4.2 7).2.1, hs_V (uu4.2 7).2.2.1], hs_ia cI (uu4.2 7).2.1 40 (uu4.2 7).2.2.2, hs_ra cO q5 2 (hs_o2 none none), hs_ob q6 5 [.ref (uu7 0)], hs_ia cI (uu7 0) 40 (fun _ => 0)]) C u6 tyX6 tyX6_ok nmX6 0 rfl rfl 3 (by decide) f30 rfl rfl hin2 rfl (by decide +kernel) rfl rfl (Nat.le_of_ble_eq_true rfl) rfl dX6_init_42 ?_
  refine hs_aload_n C dX6_init_45 rfl 0 rfl ?_
  refine hs_new (ci := 3) (fs := [.null, .null, .null, .null, hs_V 0]) C u3 tyX3 tyX3_ok cl34 ns3 ni3 rfl (fun j hj => by rcases (show j = 0 ∨ j = 1 ∨ j = 2 ∨ j = 3 ∨ j = 4 by omega) with rfl | rfl | rfl | rfl | rfl <;> rfl) (Nat.le_of_ble_eq_true rfl) (Nat.le_of_ble_eq_true rfl) dX6_init_46 (fun q8 => ?_)
  refine hs_cast (ws' := [hs_ob x0 6 [.ref q1, .ref q3, .ref q5, .ref q6, .null, .null, .null], hs_ob q1 0 [.ref (uu2 0), hs_V 0], hs_ia cI (uu2 0) 40 (fun _ => 0), hs_ob q3 1 [.ref uu4.1, hs_V 0], hs_ra cO uu4.1 8 (hs_r8 (uu4.2 0).1 (uu4.2 1).1 (uu4.2 2).1 (uu4.2 3).1 (uu4.2 4).1 (uu4.2 5).1 (uu4.2 6).1 (uu4.2 7).1), hs_ob (uu4.2 0).1 0 [.ref (uu4.2 0).2.1, hs_V (uu4.2 0).2.2.1], hs_ia cI (uu4.2 0).2.1 40 (uu4.2 0).2.2.2, hs_ob (uu4.2 1).1 0 [.ref (uu4.2 1).2.1, hs_V (uu4.2 1).2.2.1], hs_ia cI (uu4.2 1).2.1 40 (uu4.2 1).2.2.2, hs_ob (uu4.2 2).1 0 [.ref (uu4.2 2).2.1, hs_V (uu4.2 2).2.2.1], hs_ia cI (uu4.2 2).2.1 40 (uu4.2 2).2.2.2, hs_ob (uu4.2 3).1 0 [.ref (uu4.2 3).2.1, hs_V (uu4.2 3).2.2.1], hs_ia cI (uu4.2 3).2.1 40 (uu4.2 3).2.2.2, hs_ob (uu4.2 4).1 0 [.ref (uu4.2 4).2.1, hs_V (uu4.2 4).2.2.1], hs_ia cI (uu4.2 4).2.1 40 (uu4.2 4).2.2.2, hs_ob (uu4.2 5).1 0 [.ref (uu4.2 5).2.1, hs_V (uu4.2 5).2.2.1], hs_ia cI (uu4.2 5).2.1 40 (uu4.2 5).2.2.2, hs_ob (uu4.2 6).1 0 [.ref (uu4.2 6).2.1, hs_V (uu4.2 6).2.2.1], hs_ia cI (uu4.2 6).2.1 40 (uu4.2 6).2.2.2, hs_ob (uu4.2 7).1 0 [.ref (uu4.2 7).2.1, hs_V (uu4.2 7).2.2.1], hs_ia cI (uu4.2 7).2.1 40 (uu4.2 7).2.2.2, hs_ra cO q5 2 (hs_o2 none none), hs_ob q6 5 [.ref (uu7 0)], hs_ia cI (uu7 0) 40 (fun _ => 0), hs_ob q8 3 [.null, .null, .null, .null, hs_V 0]]) ?_ rfl rfl rfl rfl
  refine hs_dup C dX6_init_49 rfl ?_
  refine hs_re0 (w' := [hs_ob q8 3 [.null, .null, .null, .null, hs_V 0], hs_ob x0 6 [.ref q1, .ref q3, .ref q5, .ref q6, .null, .null, .null], hs_ob q1 0 [.ref (uu2 0), hs_V 0], hs_ia cI (uu2 0) 40 (fun _ => 0), hs_ob q3 1 [.ref uu4.1, hs_V 0], hs_ra cO uu4.1 8 (hs_r8 (uu4.2 0).1 (uu4.2 1).1 (uu4.2 2).1 (uu4.2 3).1 (uu4.2 4).1 (uu4.2 5).1 (uu4.2 6).1 (uu4.2 7).1), hs_ob (uu4.2 0).1 0 [.ref (uu4.2 0).2.1, hs_V (uu4.2 0).2.2.1], hs_ia cI (uu4.2 0).2.1 40 (uu4.2 0).2.2.2, hs_ob (uu4.2 1).1 0 [.ref (uu4.2 1).2.1, hs_V (uu4.2 1).2.2.1], hs_ia cI (uu4.2 1).2.1 40 (uu4.2 1).2.2.2, hs_ob (uu4.2 2).1 0 [.ref (uu4.2 2).2.1, hs_V (uu4.2 2).2.2.1], hs_ia cI (uu4.2 2).2.1 40 (uu4.2 2).2.2.2, hs_ob (uu4.2 3).1 0 [.ref (uu4.2 3).2.1, hs_V (uu4.2 3).2.2.1], hs_ia cI (uu4.2 3).2.1 40 (uu4.2 3).2.2.2, hs_ob (uu4.2 4).1 0 [.ref (uu4.2 4).2.1, hs_V (uu4.2 4).2.2.1], hs_ia cI (uu4.2 4).2.1 40 (uu4.2 4).2.2.2, hs_ob (uu4.2 5).1 0 [.ref (uu4.2 5).2.1, hs_V (uu4.2 5).2.2.1], hs_ia cI (uu4.2 5).2.1 40 (uu4.2 5).2.2.2, hs_ob (uu4.2 6).1 0 [.ref (uu4.2 6).2.1, hs_V (uu4.2 6).2.2.1], hs_ia cI (uu4.2 6).2.1 40 (uu4.2 6).2.2.2, hs_ob (uu4.2 7).1 0 [.ref (uu4.2 7).2.1, hs_V (uu4.2 7).2.2.1], hs_ia cI (uu4.2 7).2.1 40 (uu4.2 7).2.2.2, hs_ra cO q5 2 (hs_o2 none none), hs_ob q6 5 [.ref (uu7 0)], hs_ia cI (uu7 0) 40 (fun _ => 0)]) [24, 0, 1, 2, 3, 4, 5, 6, 7, 8, 9, 10, 11, 12, 13, 14, 15, 16, 17, 18, 19, 20, 21, 22, 23] rfl (by decide) ?_
  refine hs_callINv (win := [hs_ob q8 3 [.null, .null, .null, .null, hs_V 0]]) (wr := [hs_ob x0 6 [.ref q1, .ref q3, .ref q5, .ref q6, .null, .null, .null], hs_ob q1 0 [.ref (uu2 0), hs_V 0], hs_ia cI (uu2 0) 40 (fun _ => 0), hs_ob q3 1 [.ref uu4.1, hs_V 0], hs_ra cO uu4.1 8 (hs_r8 (uu4.2 0).1 (uu4.2 1).1 (uu4.2 2).1 (uu4.2 3).1 (uu4.2 4).1 (uu4.2 5).1 (uu4.2 6).1 (uu4.2 7).1), hs_ob (uu4.2 0).1 0 [.ref (uu4.2 0).2.1, hs_V (uu4.2 0).2.2.1], hs_ia cI (uu4.2 0).2.1 40 (uu4.2 0).2.2.2, hs_ob (uu4.2 1).1 0 [.ref (uu4.2 1).2.1, hs_V (uu4.2 1).2.2.1], hs_ia cI (uu4.2 1).2.1 40 (uu4.2 1).2.2.2, hs_ob (uu4.2 2).1 0 [.ref (uu4.2 2).2.1, hs_V (uu4.2 2).2.2.1], hs_ia cI (uu4.2 2).2.1 40 (uu4.2 2).2.2.2, hs_ob (uu4.2 3).1 0 [.ref (uu4.2 3).2.1, hs_V (uu4.2 3).2.2.1], hs_ia cI (uu4.2 3).2.1 40 (uu4.2 3).2.2.2, hs_ob (uu4.2 4).1 0 [.ref (uu4.2 4).2.1, hs_V (uu4.2 4).2.2.1], hs_ia cI (uu4.2 4).2.1 40 (uu4.2 4).2.2.2, hs_ob (uu4.2 5).1 0 [.ref (uu4.2 5).2.1, hs_V (uu4.2 5).2.2.1], hs_ia cI (uu4.2 5).2.1 40 (uu4.2 5).2.2.2, hs_ob (uu4.2 6).1 0 [.ref (uu4.2 6).2.1, hs_V (uu4.2 6).2.2.1], hs_ia cI (uu4.2 6).2.1 40 (uu4.2 6).2.2.2, hs_ob (uu4.2 7).1 0 [.ref (uu4.2 7).2.1, hs_V (uu4.2 7).2.2.1], hs_ia cI (uu4.2 7).2.1 40 (uu4.2 7).2.2.2, hs_ra cO q5 2 (hs_o2 none none), hs_ob q6 5 [.ref (uu7 0)], hs_ia cI (uu7 0) 40 (fun _ => 0)]) (As := []) (rest := [.ref q8, .ref x0]) C (c_X3_init l D cI cO q8 ) ⟨va_cnB 0 C.1.2.2.2.2 gX6_init_X3_init_n36 rfl rfl rfl n36 in36 (by decide +kernel) ⟨Nat.le_of_ble_eq_true rfl, Nat.le_of_ble_eq_true rfl⟩, rfl, im36⟩ rfl rfl (Nat.le_of_ble_eq_true rfl) dX6_init_50 ⟨Nat.le_of_ble_eq_true rfl, Nat.le_of_ble_eq_true rfl⟩ (fun uu9 hp => ?_)
  refine hs_re0 (w' := [hs_ob x0 6 [.ref q1, .ref q3, .ref q5, .ref q6, .null, .null, .null], hs_ob q1 0 [.ref (uu2 0), hs_V 0], hs_ia cI (uu2 0) 40 (fun _ => 0), hs_ob q3 1 [.ref uu4.1, hs_V 0], hs_ra cO uu4.1 8 (hs_r8 (uu4.2 0).1 (uu4.2 1).1 (uu4.2 2).1 (uu4.2 3).1 (uu4.2 4).1 (uu4.2 5).1 (uu4.2 6).1 (uu4.2 7).1), hs_ob (uu4.2 0).1 0 [.ref (uu4.2 0).2.1, hs_V (uu4.2 0).2.2.1], hs_ia cI (uu4.2 0).2.1 40 (uu4.2 0).2.2.2, hs_ob (uu4.2 1).1 0 [.ref (uu4.2 1).2.1, hs_V (uu4.2 1).2.2.1], hs_ia cI (uu4.2 1).2.1 40 (uu4.2 1).2.2.2, hs_ob (uu4.2 2).1 0 [.ref (uu4.2 2).2.1, hs_V (uu4.2 2).2.2.1], hs_ia cI (uu4.2 2).2.1 40 (uu4.2 2).2.2.2, hs_ob (uu4.2 3).1 0 [.ref (uu4.2 3).2.1, hs_V (uu4.2 3).2.2.1], hs_ia cI (uu4.2 3).2.1 40 (uu4.2 3).2.2.2, hs_ob (uu4.2 4).1 0 [.ref (uu4.2 4).2.1, hs_V (uu4.2 4).2.2.1], hs_ia cI (uu4.2 4).2.1 40 (uu4.2 4).2.2.2, hs_ob (uu4.2 5).1 0 [.ref (uu4.2 5).2.1, hs_V (uu4.2 5).2.2.1], hs_ia cI (uu4.2 5).2.1 40 (uu4.2 5).2.2.2, hs_ob (uu4.2 6).1 0 [.ref (uu4.2 6).2.1, hs_V (uu4.2 6).2.2.1], hs_ia cI (uu4.2 6).2.1 40 (uu4.2 6).2.2.2, hs_ob (uu4.2 7).1 0 [.ref (uu4.2 7).2.1, hs_V (uu4.2 7).2.2.1], hs_ia cI (uu4.2 7).2.1 40 (uu4.2 7).2.2.2, hs_ra cO q5 2 (hs_o2 none none), hs_ob q6 5 [.ref (uu7 0)], hs_ia cI (uu7 0) 40 (fun _ => 0), hs_ob q8 3 [.ref (uu9 0), .ref (uu9 1), .ref (uu9 2), .ref (uu9 3), hs_V 0], hs_ia cI (uu9 0) 40 (fun _ => 0), hs_ia cI (uu9 1) 40 (fun _ => 0), hs_ia cI (uu9 2) 40 (fun _ => 0), hs_ia cI (uu9 3) 40 (fun _ => 0)]) [5, 6, 7, 8, 9, 10, 11, 12, 13, 14, 15, 16, 17, 18, 19, 20, 21, 22, 23, 24, 25, 26, 27, 28, 0, 1, 2, 3, 4] rfl (by decide) ?_
  refine hs_putF (ty := .object "HistogramStairs$Rectangles") (ws' := [hs_ob x0 6 [.ref q1, .ref q3, .ref q5, .ref q6, .ref q8, .null, .null], hs_ob q1 0 [.ref (uu2 0), hs_V 0], hs_ia cI (uu2 0) 40 (fun _ => 0), hs_ob q3 1 [.ref uu4.1, hs_V 0], hs_ra cO uu4.1 8 (hs_r8 (uu4.2 0).1 (uu4.2 1).1 (uu4.2 2).1 (uu4.2 3).1 (uu4.2 4).1 (uu4.2 5).1 (uu4.2 6).1 (uu4.2 7).1), hs_ob (uu4.2 0).1 0 [.ref (uu4.2 0).2.1, hs_V (uu4.2 0).2.2.1], hs_ia cI (uu4.2 0).2.1 40 (uu4.2 0).2.2.2, hs_ob (uu4.2 1).1 0 [.ref (uu4.2 1).2.1, hs_V (uu4.2 1).2.2.1], hs_ia cI (uu4.2 1).2.1 40 (uu4.2 1).2.2.2, hs_ob (uu4.2 2).1 0 [.ref (uu4.2 2).2.1, hs_V (uu4.2 2).2.2.1], hs_ia cI (uu4.2 2).2.1 40 (uu4.2 2).2.2.2, hs_ob (uu4.2 3).1 0 [.ref (uu4.2 3).2.1, hs_V (uu4.2 3).2.2.1], hs_ia cI (uu4.2 3).2.1 40 (uu4.2 3).2.2.2, hs_ob (uu4.2 4).1 0 [.ref (uu4.2 4).2.1, hs_V (uu4.2 4).2.2.1], hs_ia cI (uu4.2 4).2.1 40 (uu4.2 4).2.2.2, hs_ob (uu4.2 5).1 0 [.ref (uu4.2 5).2.1, hs_V (uu4.2 5).2.2.1], hs_ia cI (uu4.2 5).2.1 40 (uu4.2 5).2.2.2, hs_ob (uu4.2 6).1 0 [.ref (uu4.2 6).2.1, hs_V (uu4.2 6).2.2.1], hs_ia cI (uu4.2 6).2.1 40 (uu4.2 6).2.2.2, hs_ob (uu4.2 7).1 0 [.ref (uu4.2 7).2.1, hs_V (uu4.2 7).2.2.1], hs_ia cI (uu4.2 7).2.1 40 (uu4.2 7).2.2.2, hs_ra cO q5 2 (hs_o2 none none), hs_ob q6 5 [.ref (uu7 0)], hs_ia cI (uu7 0) 40 (fun _ => 0), hs_ob q8 3 [.ref (uu9 0), .ref (uu9 1), .ref (uu9 2), .ref (uu9 3), hs_V 0], hs_ia cI (uu9 0) 40 (fun _ => 0), hs_ia cI (uu9 1) 40 (fun _ => 0), hs_ia cI (uu9 2) 40 (fun _ => 0), hs_ia cI (uu9 3) 40 (fun _ => 0)]) C u6 tyX6 tyX6_ok nmX6 0 rfl rfl 4 (by decide) f37 rfl rfl hin2 rfl (by decide +kernel) rfl rfl (Nat.le_of_ble_eq_true rfl) rfl dX6_init_53 ?_
  refine hs_aload_n C dX6_init_56 rfl 0 rfl ?_
  refine hs_new (ci := 4) (fs := [.null, .null]) C u4 tyX4 tyX4_ok cl41 ns4 ni4 rfl (fun j hj => by rcases (show j = 0 ∨ j = 1 by omega) with rfl | rfl <;> rfl) (Nat.le_of_ble_eq_true rfl) (Nat.le_of_ble_eq_true rfl) dX6_init_57 (fun q10 => ?_)
  refine hs_cast (ws' := [hs_ob x0 6 [.ref q1, .ref q3, .ref q5, .ref q6, .ref q8, .null, .null], hs_ob q1 0 [.ref (uu2 0), hs_V 0], hs_ia cI (uu2 0) 40 (fun _ => 0), hs_ob q3 1 [.ref uu4.1, hs_V 0], hs_ra cO uu4.1 8 (hs_r8 (uu4.2 0).1 (uu4.2 1).1 (uu4.2 2).1 (uu4.2 3).1 (uu4.2 4).1 (uu4.2 5).1 (uu4.2 6).1 (uu4.2 7).1), hs_ob (uu4.2 0).1 0 [.ref (uu4.2 0).2.1, hs_V (uu4.2 0).2.2.1], hs_ia cI (uu4.2 0).2.1 40 (uu4.2 0).2.2.2, hs_ob (uu4.2 1).1 0 [.ref (uu4.2 1).2.1, hs_V (uu4.2 1).2.2.1], hs_ia cI (uu4.2 1).2.1 40 (uu4.2 1).2.2.2, hs_ob (uu4.2 2).1 0 [.ref (uu4.2 2).2.1, hs_V (uu4.2 2).2.2.1], hs_ia cI (uu4.2 2).2.1 40 (uu4.2 2).2.2.2, hs_ob (uu4.2 3).1 0 [.ref (uu4.2 3).2.1, hs_V (uu4.2 3).2.2.1], hs_ia cI (uu4.2 3).2.1 40 (uu4.2 3).2.2.2, hs_ob (uu4.2 4).1 0 [.ref (uu4.2 4).2.1, hs_V (uu4.2 4).2.2.1], hs_ia cI (uu4.2 4).2.1 40 (uu4.2 4).2.2.2, hs_ob (uu4.2 5).1 0 [.ref (uu4.2 5).2.1, hs_V (uu4.2 5).2.2.1], hs_ia cI (uu4.2 5).2.1 40 (uu4.2 5).2.2.2, hs_ob (uu4.2 6).1 0 [.ref (uu4.2 6).2.1, hs_V (uu4.2 6).2.2.1], hs_ia cI (uu4.2 6).2.1 40 (uu4.2 6).2.2.2, hs_ob (uu4.2 7).1 0 [.ref (uu4.2 7).2.1, hs_V (uu4.2 7).2.2.1], hs_ia cI (uu4.2 7).2.1 40 (uu4.2 7).2.2.2, hs_ra cO q5 2 (hs_o2 none none), hs_ob q6 5 [.ref (uu7 0)], hs_ia cI (uu7 0) 40 (fun _ => 0), hs_ob q8 3 [.ref (uu9 0), .ref (uu9 1), .ref (uu9 2), .ref (uu9 3), hs_V 0], hs_ia cI (uu9 0) 40 (fun _ => 0), hs_ia cI (uu9 1) 40 (fun _ => 0), hs_ia cI (uu9 2) 40 (fun _ => 0), hs_ia cI (uu9 3) 40 (fun _ => 0), hs_ob q10 4 [.null, .null]]) ?_ rfl rfl rfl rfl
  refine hs_dup C dX6_init_60 rfl ?_
  refine hs_re0 (w' := [hs_ob q10 4 [.null, .null], hs_ob x0 6 [.ref q1, .ref q3, .ref q5, .ref q6, .ref q8, .null, .null], hs_ob q1 0 [.ref (uu2 0), hs_V 0], hs_ia cI (uu2 0) 40 (fun _ => 0), hs_ob q3 1 [.ref uu4.1, hs_V 0], hs_ra cO uu4.1 8 (hs_r8 (uu4.2 0).1 (uu4.2 1).1 (uu4.2 2).1 (uu4.2 3).1 (uu4.2 4).1 (uu4.2 5).1 (uu4.2 6).1 (uu4.2 7).1), hs_ob (uu4.2 0).1 0 [.ref (uu4.2 0).2.1, hs_V (uu4.2 0).2.2.1], hs_ia cI (uu4.2 0).2.1 40 (uu4.2 0).2.2.2, hs_ob (uu4.2 1).1 0 [.ref (uu4.2 1).2.1, hs_V (uu4.2 1).2.2.1], hs_ia cI (uu4.2 1).2.1 40 (uu4.2 1).2.2.2, hs_ob (uu4.2 2).1 0 [.ref (uu4.2 2).2.1, hs_V (uu4.2 2).2.2.1], hs_ia cI (uu4.2 2).2.1 40 (uu4.2 2).2.2.2, hs_ob (uu4.2 3).1 0 [.ref (uu4.2 3).2.1, hs_V (uu4.2 3).2.2.1], hs_ia cI (uu4.2 3).2.1 40 (uu4.2 3).2.2.2, hs_ob (uu4.2 4).1 0 [.ref (uu4.2 4).2.1, hs_V (uu4.2 4).2.2.1], hs_ia cI (uu4.2 4).2.1 40 (uu4.2 4).2.2.2, hs_ob (uu4.2 5).1 0 [.ref (uu4.2 5).2.1, hs_V (uu4.2 5).2.2.1], hs_ia cI (uu4.2 5).2.1 40 (uu4.2 5).2.2.2, hs_ob (uu4.2 6).1 0 [.ref (uu4.2 6).2.1, hs_V (uu4.2 6).2.2.1], hs_ia cI (uu4.2 6).2.1 40 (uu4.2 6).2.2.2, hs_ob (uu4.2 7).1 0 [.ref (uu4.2 7).2.1, hs_V (uu4.2 7).2.2.1], hs_ia cI (uu4.2 7).2.1 40 (uu4.2 7).2.2.2, hs_ra cO q5 2 (hs_o2 none none), hs_ob q6 5 [.ref (uu7 0)], hs_ia cI (uu7 0) 40 (fun _ => 0), hs_ob q8 3 [.ref (uu9 0), .ref (uu9 1), .ref (uu9 2), .ref (uu9 3), hs_V 0], hs_ia cI (uu9 0) 40 (fun _ => 0), hs_ia cI (uu9 1) 40 (fun _ => 0), hs_ia cI (uu9 2) 40 (fun _ => 0), hs_ia cI (uu9 3) 40 (fun _ => 0)]) [29, 0, 1, 2, 3, 4, 5, 6, 7, 8, 9, 10, 11, 12, 13, 14, 15, 16, 17, 18, 19, 20, 21, 22, 23, 24, 25, 26, 27, 28] rfl (by decide) ?_
  refine hs_callINv (win := [hs_ob q10 4 [.null, .null]]) (wr := [hs_ob x0 6 [.ref q1, .ref q3, .ref q5, .ref q6, .ref q8, .null, .null], hs_ob q1 0 [.ref (uu2 0), hs_V 0], hs_ia cI (uu2 0) 40 (fun _ => 0), hs_ob q3 1 [.ref uu4.1, hs_V 0], hs_ra cO uu4.1 8 (hs_r8 (uu4.2 0).1 (uu4.2 1).1 (uu4.2 2).1 (uu4.2 3).1 (uu4.2 4).1 (uu4.2 5).1 (uu4.2 6).1 (uu4.2 7).1), hs_ob (uu4.2 0).1 0 [.ref (uu4.2 0).2.1, hs_V (uu4.2 0).2.2.1], hs_ia cI (uu4.2 0).2.1 40 (uu4.2 0).2.2.2, hs_ob (uu4.2 1).1 0 [.ref (uu4.2 1).2.1, hs_V (uu4.2 1).2.2.1], hs_ia cI (uu4.2 1).2.1 40 (uu4.2 1).2.2.2, hs_ob (uu4.2 2).1 0 [.ref (uu4.2 2).2.1, hs_V (uu4.2 2).2.2.1], hs_ia cI (uu4.2 2).2.1 40 (uu4.2 2).2.2.2, hs_ob (uu4.2 3).1 0 [.ref (uu4.2 3).2.1, hs_V (uu4.2 3).2.2.1], hs_ia cI (uu4.2 3).2.1 40 (uu4.2 3).2.2.2, hs_ob (uu4.2 4).1 0 [.ref (uu4.2 4).2.1, hs_V (uu4.2 4).2.2.1], hs_ia cI (uu4.2 4).2.1 40 (uu4.2 4).2.2.2, hs_ob (uu4.2 5).1 0 [.ref (uu4.2 5).2.1, hs_V (uu4.2 5).2.2.1], hs_ia cI (uu4.2 5).2.1 40 (uu4.2 5).2.2.2, hs_ob (uu4.2 6).1 0 [.ref (uu4.2 6).2.1, hs_V (uu4.2 6).2.2.1], hs_ia cI (uu4.2 6).2.1 40 (uu4.2 6).2.2.2, hs_ob (uu4.2 7).1 0 [.ref (uu4.2 7).2.1, hs_V (uu4.2 7).2.2.1], hs_ia cI (uu4.2 7).2.1 40 (uu4.2 7).2.2.2, hs_ra cO q5 2 (hs_o2 none none), hs_ob q6 5 [.ref (uu7 0)], hs_ia cI (uu7 0) 40 (fun _ => 0), hs_ob q8 3 [.ref (uu9 0), .ref (uu9 1), .ref (uu9 2), .ref (uu9 3), hs_V 0], hs_ia cI (uu9 0) 40 (fun _ => 0), hs_ia cI (uu9 1) 40 (fun _ => 0), hs_ia cI (uu9 2) 40 (fun _ => 0), hs_ia cI (uu9 3) 40 (fun _ => 0)]) (As := []) (rest := [.ref q10, .ref x0]) C (c_X4_init l D cI cO q10 ) ⟨va_cnB 0 C.1.2.2.2.2 gX6_init_X4_init_n43 rfl rfl rfl n43 in43 (by decide +kernel) ⟨Nat.le_of_ble_eq_true rfl, Nat.le_of_ble_eq_true rfl⟩, rfl, im43⟩ rfl rfl (Nat.le_of_ble_eq_true rfl) dX6_init_61 ⟨Nat.le_of_ble_eq_true rfl, Nat.le_of_ble_eq_true rfl⟩ (fun uu11 hp => ?_)
  refine hs_re0 (w' := [hs_ob x0 6 [.ref q1, .ref q3, .ref q5, .ref q6, .ref q8, .null, .null], hs_ob q1 0 [.ref (uu2 0), hs_V 0], hs_ia cI (uu2 0) 40 (fun _ => 0), hs_ob q3 1 [.ref uu4.1, hs_V 0], hs_ra cO uu4.1 8 (hs_r8 (uu4.2 0).1 (uu4.2 1).1 (uu4.2 2).1 (uu4.2 3).1 (uu4.2 4).1 (uu4.2 5).1 (uu4.2 6).1 (uu4.2 7).1), hs_ob (uu4.2 0).1 0 [.ref (uu4.2 0).2.1, hs_V (uu4.2 0).2.2.1], hs_ia cI (uu4.2 0).2.1 40 (uu4.2 0).2.2.2, hs_ob (uu4.2 1).1 0 [.ref (uu4.2 1).2.1, hs_V (uu4.2 1).2.2.1], hs_ia cI (uu4.2 1).2.1 40 (uu4.2 1).2.2.2, hs_ob (uu4.2 2).1 0 [.ref (uu4.2 2).2.1, hs_V (uu4.2 2).2.2.1], hs_ia cI (uu4.2 2).2.1 40 (uu4.2 2).2.2.2, hs_ob (uu4.2 3).1 0 [.ref (uu4.2 3).2.1, hs_V (uu4.2 3).2.2.1], hs_ia cI (uu4.2 3).2.1 40 (uu4.2 3).2.2.2, hs_ob (uu4.2 4).1 0 [.ref (uu4.2 4).2.1, hs_V (uu4.2 4).2.2.1], hs_ia cI (uu4.2 4).2.1 40 (uu4.2 4).2.2.2, hs_ob (uu4.2 5).1 0 [.ref (uu4.2 5).2.1, hs_V (uu4.2 5).2.2.1], hs_ia cI (uu4.2 5).2.1 40 (uu4.2 5).2.2.2, hs_ob (uu4.2 6).1 0 [.ref (uu4.2 6).2.1, hs_V (uu4.2 6).2.2.1], hs_ia cI (uu4.2 6).2.1 40 (uu4.2 6).2.2.2, hs_ob (uu4.2 7).1 0 [.ref (uu4.2 7).2.1, hs_V (uu4.2 7).2.2.1], hs_ia cI (uu4.2 7).2.1 40 (uu4.2 7).2.2.2, hs_ra cO q5 2 (hs_o2 none none), hs_ob q6 5 [.ref (uu7 0)], hs_ia cI (uu7 0) 40 (fun _ => 0), hs_ob q8 3 [.ref (uu9 0), .ref (uu9 1), .ref (uu9 2), .ref (uu9 3), hs_V 0], hs_ia cI (uu9 0) 40 (fun _ => 0), hs_ia cI (uu9 1) 40 (fun _ => 0), hs_ia cI (uu9 2) 40 (fun _ => 0), hs_ia cI (uu9 3) 40 (fun _ => 0), hs_ob q10 4 [.ref (uu11 0), .ref (uu11 1)], hs_ia cI (uu11 0) 40 (fun _ => 0), hs_ia cI (uu11 1) 40 (fun _ => 0)]) [3, 4, 5, 6, 7, 8, 9, 10, 11, 12, 13, 14, 15, 16, 17, 18, 19, 20, 21, 22, 23, 24, 25, 26, 27, 28, 29, 30, 31, 0, 1, 2] rfl (by decide) ?_
  refine hs_putF (ty := .object "HistogramStairs$Tree") (ws' := [hs_ob x0 6 [.ref q1, .ref q3, .ref q5, .ref q6, .ref q8, .ref q10, .null], hs_ob q1 0 [.ref (uu2 0), hs_V 0], hs_ia cI (uu2 0) 40 (fun _ => 0), hs_ob q3 1 [.ref uu4.1, hs_V 0], hs_ra cO uu4.1 8 (hs_r8 (uu4.2 0).1 (uu4.2 1).1 (uu4.2 2).1 (uu4.2 3).1 (uu4.2 4).1 (uu4.2 5).1 (uu4.2 6).1 (uu4.2 7).1), hs_ob (uu4.2 0).1 0 [.ref (uu4.2 0).2.1, hs_V (uu4.2 0).2.2.1], hs_ia cI (uu4.2 0).2.1 40 (uu4.2 0).2.2.2, hs_ob (uu4.2 1).1 0 [.ref (uu4.2 1).2.1, hs_V (uu4.2 1).2.2.1], hs_ia cI (uu4.2 1).2.1 40 (uu4.2 1).2.2.2, hs_ob (uu4.2 2).1 0 [.ref (uu4.2 2).2.1, hs_V (uu4.2 2).2.2.1], hs_ia cI (uu4.2 2).2.1 40 (uu4.2 2).2.2.2, hs_ob (uu4.2 3).1 0 [.ref (uu4.2 3).2.1, hs_V (uu4.2 3).2.2.1], hs_ia cI (uu4.2 3).2.1 40 (uu4.2 3).2.2.2, hs_ob (uu4.2 4).1 0 [.ref (uu4.2 4).2.1, hs_V (uu4.2 4).2.2.1], hs_ia cI (uu4.2 4).2.1 40 (uu4.2 4).2.2.2, hs_ob (uu4.2 5).1 0 [.ref (uu4.2 5).2.1, hs_V (uu4.2 5).2.2.1], hs_ia cI (uu4.2 5).2.1 40 (uu4.2 5).2.2.2, hs_ob (uu4.2 6).1 0 [.ref (uu4.2 6).2.1, hs_V (uu4.2 6).2.2.1], hs_ia cI (uu4.2 6).2.1 40 (uu4.2 6).2.2.2, hs_ob (uu4.2 7).1 0 [.ref (uu4.2 7).2.1, hs_V (uu4.2 7).2.2.1], hs_ia cI (uu4.2 7).2.1 40 (uu4.2 7).2.2.2, hs_ra cO q5 2 (hs_o2 none none), hs_ob q6 5 [.ref (uu7 0)], hs_ia cI (uu7 0) 40 (fun _ => 0), hs_ob q8 3 [.ref (uu9 0), .ref (uu9 1), .ref (uu9 2), .ref (uu9 3), hs_V 0], hs_ia cI (uu9 0) 40 (fun _ => 0), hs_ia cI (uu9 1) 40 (fun _ => 0), hs_ia cI (uu9 2) 40 (fun _ => 0), hs_ia cI (uu9 3) 40 (fun _ => 0), hs_ob q10 4 [.ref (uu11 0), .ref (uu11 1)], hs_ia cI (uu11 0) 40 (fun _ => 0), hs_ia cI (uu11 1) 40 (fun _ => 0)]) C u6 tyX6 tyX6_ok nmX6 0 rfl rfl 5 (by decide) f44 rfl rfl hin2 rfl (by decide +kernel) rfl rfl (Nat.le_of_ble_eq_true rfl) rfl dX6_init_64 ?_
  refine hs_aload_n C dX6_init_67 rfl 0 rfl ?_
  refine hs_new (ci := 2) (fs := [.null]) C u2 tyX2 tyX2_ok cl48 ns2 ni2 rfl (fun j hj => by rcases (show j = 0 by omega) with rfl <;> rfl) (Nat.le_of_ble_eq_true rfl) (Nat.le_of_ble_eq_true rfl) dX6_init_68 (fun q12 => ?_)
  refine hs_cast (ws' := [hs_ob x0 6 [.ref q1, .ref q3, .ref q5, .ref q6, .ref q8, .ref q10, .null], hs_ob q1 0 [.ref (uu2 0), hs_V 0], hs_ia cI (uu2 0) 40 (fun _ => 0), hs_ob q3 1 [.ref uu4.1, hs_V 0], hs_ra cO uu4.1 8 (hs_r8 (uu4.2 0).1 (uu4.2 1).1 (uu4.2 2).1 (uu4.2 3).1 (uu4.2 4).1 (uu4.2 5).1 (uu4.2 6).1 (uu4.2 7).1), hs_ob (uu4.2 0).1 0 [.ref (uu4.2 0).2.1, hs_V (uu4.2 0).2.2.1], hs_ia cI (uu4.2 0).2.1 40 (uu4.2 0).2.2.2, hs_ob (uu4.2 1).1 0 [.ref (uu4.2 1).2.1, hs_V (uu4.2 1).2.2.1], hs_ia cI (uu4.2 1).2.1 40 (uu4.2 1).2.2.2, hs_ob (uu4.2 2).1 0 [.ref (uu4.2 2).2.1, hs_V (uu4.2 2).2.2.1], hs_ia cI (uu4.2 2).2.1 40 (uu4.2 2).2.2.2, hs_ob (uu4.2 3).1 0 [.ref (uu4.2 3).2.1, hs_V (uu4.2 3).2.2.1], hs_ia cI (uu4.2 3).2.1 40 (uu4.2 3).2.2.2, hs_ob (uu4.2 4).1 0 [.ref (uu4.2 4).2.1, hs_V (uu4.2 4).2.2.1], hs_ia cI (uu4.2 4).2.1 40 (uu4.2 4).2.2.2, hs_ob (uu4.2 5).1 0 [.ref (uu4.2 5).2.1, hs_V (uu4.2 5).2.2.1], hs_ia cI (uu4.2 5).2.1 40 (uu4.2 5).2.2.2, hs_ob (uu4.2 6).1 0 [.ref (uu4.2 6).2.1, hs_V (uu4.2 6).2.2.1], hs_ia cI (uu4.2 6).2.1 40 (uu4.2 6).2.2.2, hs_ob (uu4.2 7).1 0 [.ref (uu4.2 7).2.1, hs_V (uu4.2 7).2.2.1], hs_ia cI (uu4.2 7).2.1 40 (uu4.2 7).2.2.2, hs_ra cO q5 2 (hs_o2 none none), hs_ob q6 5 [.ref (uu7 0)], hs_ia cI (uu7 0) 40 (fun _ => 0), hs_ob q8 3 [.ref (uu9 0), .ref (uu9 1), .ref (uu9 2), .ref (uu9 3), hs_V 0], hs_ia cI (uu9 0) 40 (fun _ => 0), hs_ia cI (uu9 1) 40 (fun _ => 0), hs_ia cI (uu9 2) 40 (fun _ => 0), hs_ia cI (uu9 3) 40 (fun _ => 0), hs_ob q10 4 [.ref (uu11 0), .ref (uu11 1)], hs_ia cI (uu11 0) 40 (fun _ => 0), hs_ia cI (uu11 1) 40 (fun _ => 0), hs_ob q12 2 [.null]]) ?_ rfl rfl rfl rfl
  refine hs_dup C dX6_init_71 rfl ?_
  refine hs_re0 (w' := [hs_ob q12 2 [.null], hs_ob x0 6 [.ref q1, .ref q3, .ref q5, .ref q6, .ref q8, .ref q10, .null], hs_ob q1 0 [.ref (uu2 0), hs_V 0], hs_ia cI (uu2 0) 40 (fun _ => 0), hs_ob q3 1 [.ref uu4.1, hs_V 0], hs_ra cO uu4.1 8 (hs_r8 (uu4.2 0).1 (uu4.2 1).1 (uu4.2 2).1 (uu4.2 3).1 (uu4.2 4).1 (uu4.2 5).1 (uu4.2 6).1 (uu4.2 7).1), hs_ob (uu4.2 0).1 0 [.ref (uu4.2 0).2.1, hs_V (uu4.2 0).2.2.1], hs_ia cI (uu4.2 0).2.1 40 (uu4.2 0).2.2.2, hs_ob (uu4.2 1).1 0 [.ref (uu4.2 1).2.1, hs_V (uu4.2 1).2.2.1], hs_ia cI (uu4.2 1).2.1 40 (uu4.2 1).2.2.2, hs_ob (uu4.2 2).1 0 [.ref (uu4.2 2).2.1, hs_V (uu4.2 2).2.2.1], hs_ia cI (uu4.2 2).2.1 40 (uu4.2 2).2.2.2, hs_ob (uu4.2 3).1 0 [.ref (uu4.2 3).2.1, hs_V (uu4.2 3).2.2.1], hs_ia cI (uu4.2 3).2.1 40 (uu4.2 3).2.2.2, hs_ob (uu4.2 4).1 0 [.ref (uu4.2 4).2.1, hs_V (uu4.2 4).2.2.1], hs_ia cI (uu4.2 4).2.1 40 (uu4.2 4).2.2.2, hs_ob (uu4.2 5).1 0 [.ref (uu4.2 5).2.1, hs_V (uu4.2 5).2.2.1], hs_ia cI (uu4.2 5).2.1 40 (uu4.2 5).2.2.2, hs_ob (uu4.2 6).1 0 [.ref (uu4.2 6).2.1, hs_V (uu4.2 6).2.2.1], hs_ia cI (uu4.2 6).2.1 40 (uu4.2 6).2.2.2, hs_ob (uu4.2 7).1 0 [.ref (uu4.2 7).2.1, hs_V (uu4.2 7).2.2.1], hs_ia cI (uu4.2 7).2.1 40 (uu4.2 7).2.2.2, hs_ra cO q5 2 (hs_o2 none none), hs_ob q6 5 [.ref (uu7 0)], hs_ia cI (uu7 0) 40 (fun _ => 0), hs_ob q8 3 [.ref (uu9 0), .ref (uu9 1), .ref (uu9 2), .ref (uu9 3), hs_V 0], hs_ia cI (uu9 0) 40 (fun _ => 0), hs_ia cI (uu9 1) 40 (fun _ => 0), hs_ia cI (uu9 2) 40 (fun _ => 0), hs_ia cI (uu9 3) 40 (fun _ => 0), hs_ob q10 4 [.ref (uu11 0), .ref (uu11 1)], hs_ia cI (uu11 0) 40 (fun _ => 0), hs_ia cI (uu11 1) 40 (fun _ => 0)]) [32, 0, 1, 2, 3, 4, 5, 6, 7, 8, 9, 10, 11, 12, 13, 14, 15, 16, 17, 18, 19, 20, 21, 22, 23, 24, 25, 26, 27, 28, 29, 30, 31] rfl (by decide) ?_
  refine hs_callINv (win := [hs_ob q12 2 [.null]]) (wr := [hs_ob x0 6 [.ref q1, .ref q3, .ref q5, .ref q6, .ref q8, .ref q10, .null], hs_ob q1 0 [.ref (uu2 0), hs_V 0], hs_ia cI (uu2 0) 40 (fun _ => 0), hs_ob q3 1 [.ref uu4.1, hs_V 0], hs_ra cO uu4.1 8 (hs_r8 (uu4.2 0).1 (uu4.2 1).1 (uu4.2 2).1 (uu4.2 3).1 (uu4.2 4).1 (uu4.2 5).1 (uu4.2 6).1 (uu4.2 7).1), hs_ob (uu4.2 0).1 0 [.ref (uu4.2 0).2.1, hs_V (uu4.2 0).2.2.1], hs_ia cI (uu4.2 0).2.1 40 (uu4.2 0).2.2.2, hs_ob (uu4.2 1).1 0 [.ref (uu4.2 1).2.1, hs_V (uu4.2 1).2.2.1], hs_ia cI (uu4.2 1).2.1 40 (uu4.2 1).2.2.2, hs_ob (uu4.2 2).1 0 [.ref (uu4.2 2).2.1, hs_V (uu4.2 2).2.2.1], hs_ia cI (uu4.2 2).2.1 40 (uu4.2 2).2.2.2, hs_ob (uu4.2 3).1 0 [.ref (uu4.2 3).2.1, hs_V (uu4.2 3).2.2.1], hs_ia cI (uu4.2 3).2.1 40 (uu4.2 3).2.2.2, hs_ob (uu4.2 4).1 0 [.ref (uu4.2 4).2.1, hs_V (uu4.2 4).2.2.1], hs_ia cI (uu4.2 4).2.1 40 (uu4.2 4).2.2.2, hs_ob (uu4.2 5).1 0 [.ref (uu4.2 5).2.1, hs_V (uu4.2 5).2.2.1], hs_ia cI (uu4.2 5).2.1 40 (uu4.2 5).2.2.2, hs_ob (uu4.2 6).1 0 [.ref (uu4.2 6).2.1, hs_V (uu4.2 6).2.2.1], hs_ia cI (uu4.2 6).2.1 40 (uu4.2 6).2.2.2, hs_ob (uu4.2 7).1 0 [.ref (uu4.2 7).2.1, hs_V (uu4.2 7).2.2.1], hs_ia cI (uu4.2 7).2.1 40 (uu4.2 7).2.2.2, hs_ra cO q5 2 (hs_o2 none none), hs_ob q6 5 [.ref (uu7 0)], hs_ia cI (uu7 0) 40 (fun _ => 0), hs_ob q8 3 [.ref (uu9 0), .ref (uu9 1), .ref (uu9 2), .ref (uu9 3), hs_V 0], hs_ia cI (uu9 0) 40 (fun _ => 0), hs_ia cI (uu9 1) 40 (fun _ => 0), hs_ia cI (uu9 2) 40 (fun _ => 0), hs_ia cI (uu9 3) 40 (fun _ => 0), hs_ob q10 4 [.ref (uu11 0), .ref (uu11 1)], hs_ia cI (uu11 0) 40 (fun _ => 0), hs_ia cI (uu11 1) 40 (fun _ => 0)]) (As := []) (rest := [.ref q12, .ref x0]) C (c_X2_init l D cI cO q12 ) ⟨va_cnB 0 C.1.2.2.2.2 gX6_init_X2_init_n50 rfl rfl rfl n50 in50 (by decide +kernel) ⟨Nat.le_of_ble_eq_true rfl, Nat.le_of_ble_eq_true rfl⟩, rfl, im50⟩ rfl rfl (Nat.le_of_ble_eq_true rfl) dX6_init_72 ⟨Nat.le_of_ble_eq_true rfl, Nat.le_of_ble_eq_true rfl⟩ (fun uu13 hp => ?_)
  refine hs_re0 (w' := [hs_ob x0 6 [.ref q1, .ref q3, .ref q5, .ref q6, .ref q8, .ref q10, .null], hs_ob q1 0 [.ref (uu2 0), hs_V 0], hs_ia cI (uu2 0) 40 (fun _ => 0), hs_ob q3 1 [.ref uu4.1, hs_V 0], hs_ra cO uu4.1 8 (hs_r8 (uu4.2 0).1 (uu4.2 1).1 (uu4.2 2).1 (uu4.2 3).1 (uu4.2 4).1 (uu4.2 5).1 (uu4.2 6).1 (uu4.2 7).1), hs_ob (uu4.2 0).1 0 [.ref (uu4.2 0).2.1, hs_V (uu4.2 0).2.2.1], hs_ia cI (uu4.2 0).2.1 40 (uu4.2 0).2.2.2, hs_ob (uu4.2 1).1 0 [.ref (uu4.2 1).2.1, hs_V (uu4.2 1).2.2.1], hs_ia cI (uu4.2 1).2.1 40 (uu4.2 1).2.2.2, hs_ob (uu4.2 2).1 0 [.ref (uu4.2 2).2.1, hs_V (uu4.2 2).2.2.1], hs_ia cI (uu4.2 2).2.1 40 (uu4.2 2).2.2.2, hs_ob (uu4.2 3).1 0 [.ref (uu4.2 3).2.1, hs_V (uu4.2 3).2.2.1], hs_ia cI (uu4.2 3).2.1 40 (uu4.2 3).2.2.2, hs_ob (uu4.2 4).1 0 [.ref (uu4.2 4).2.1, hs_V (uu4.2 4).2.2.1], hs_ia cI (uu4.2 4).2.1 40 (uu4.2 4).2.2.2, hs_ob (uu4.2 5).1 0 [.ref (uu4.2 5).2.1, hs_V (uu4.2 5).2.2.1], hs_ia cI (uu4.2 5).2.1 40 (uu4.2 5).2.2.2, hs_ob (uu4.2 6).1 0 [.ref (uu4.2 6).2.1, hs_V (uu4.2 6).2.2.1], hs_ia cI (uu4.2 6).2.1 40 (uu4.2 6).2.2.2, hs_ob (uu4.2 7).1 0 [.ref (uu4.2 7).2.1, hs_V (uu4.2 7).2.2.1], hs_ia cI (uu4.2 7).2.1 40 (uu4.2 7).2.2.2, hs_ra cO q5 2 (hs_o2 none none), hs_ob q6 5 [.ref (uu7 0)], hs_ia cI (uu7 0) 40 (fun _ => 0), hs_ob q8 3 [.ref (uu9 0), .ref (uu9 1), .ref (uu9 2), .ref (uu9 3), hs_V 0], hs_ia cI (uu9 0) 40 (fun _ => 0), hs_ia cI (uu9 1) 40 (fun _ => 0), hs_ia cI (uu9 2) 40 (fun _ => 0), hs_ia cI (uu9 3) 40 (fun _ => 0), hs_ob q10 4 [.ref (uu11 0), .ref (uu11 1)], hs_ia cI (uu11 0) 40 (fun _ => 0), hs_ia cI (uu11 1) 40 (fun _ => 0), hs_ob q12 2 [.ref (uu13 0)], hs_ia cI (uu13 0) 40 (fun _ => 0)]) [2, 3, 4, 5, 6, 7, 8, 9, 10, 11, 12, 13, 14, 15, 16, 17, 18, 19, 20, 21, 22, 23, 24, 25, 26, 27, 28, 29, 30, 31, 32, 33, 0, 1] rfl (by decide) ?_
  refine hs_putF (ty := .object "HistogramStairs$Painter") (ws' := [hs_ob x0 6 [.ref q1, .ref q3, .ref q5, .ref q6, .ref q8, .ref q10, .ref q12], hs_ob q1 0 [.ref (uu2 0), hs_V 0], hs_ia cI (uu2 0) 40 (fun _ => 0), hs_ob q3 1 [.ref uu4.1, hs_V 0], hs_ra cO uu4.1 8 (hs_r8 (uu4.2 0).1 (uu4.2 1).1 (uu4.2 2).1 (uu4.2 3).1 (uu4.2 4).1 (uu4.2 5).1 (uu4.2 6).1 (uu4.2 7).1), hs_ob (uu4.2 0).1 0 [.ref (uu4.2 0).2.1, hs_V (uu4.2 0).2.2.1], hs_ia cI (uu4.2 0).2.1 40 (uu4.2 0).2.2.2, hs_ob (uu4.2 1).1 0 [.ref (uu4.2 1).2.1, hs_V (uu4.2 1).2.2.1], hs_ia cI (uu4.2 1).2.1 40 (uu4.2 1).2.2.2, hs_ob (uu4.2 2).1 0 [.ref (uu4.2 2).2.1, hs_V (uu4.2 2).2.2.1], hs_ia cI (uu4.2 2).2.1 40 (uu4.2 2).2.2.2, hs_ob (uu4.2 3).1 0 [.ref (uu4.2 3).2.1, hs_V (uu4.2 3).2.2.1], hs_ia cI (uu4.2 3).2.1 40 (uu4.2 3).2.2.2, hs_ob (uu4.2 4).1 0 [.ref (uu4.2 4).2.1, hs_V (uu4.2 4).2.2.1], hs_ia cI (uu4.2 4).2.1 40 (uu4.2 4).2.2.2, hs_ob (uu4.2 5).1 0 [.ref (uu4.2 5).2.1, hs_V (uu4.2 5).2.2.1], hs_ia cI (uu4.2 5).2.1 40 (uu4.2 5).2.2.2, hs_ob (uu4.2 6).1 0 [.ref (uu4.2 6).2.1, hs_V (uu4.2 6).2.2.1], hs_ia cI (uu4.2 6).2.1 40 (uu4.2 6).2.2.2, hs_ob (uu4.2 7).1 0 [.ref (uu4.2 7).2.1, hs_V (uu4.2 7).2.2.1], hs_ia cI (uu4.2 7).2.1 40 (uu4.2 7).2.2.2, hs_ra cO q5 2 (hs_o2 none none), hs_ob q6 5 [.ref (uu7 0)], hs_ia cI (uu7 0) 40 (fun _ => 0), hs_ob q8 3 [.ref (uu9 0), .ref (uu9 1), .ref (uu9 2), .ref (uu9 3), hs_V 0], hs_ia cI (uu9 0) 40 (fun _ => 0), hs_ia cI (uu9 1) 40 (fun _ => 0), hs_ia cI (uu9 2) 40 (fun _ => 0), hs_ia cI (uu9 3) 40 (fun _ => 0), hs_ob q10 4 [.ref (uu11 0), .ref (uu11 1)], hs_ia cI (uu11 0) 40 (fun _ => 0), hs_ia cI (uu11 1) 40 (fun _ => 0), hs_ob q12 2 [.ref (uu13 0)], hs_ia cI (uu13 0) 40 (fun _ => 0)]) C u6 tyX6 tyX6_ok nmX6 0 rfl rfl 6 (by decide) f51 rfl rfl hin2 rfl (by decide +kernel) rfl rfl (Nat.le_of_ble_eq_true rfl) rfl dX6_init_75 ?_
  refine hs_re0 (w' := [hs_ob x0 6 [.ref q1, .ref q3, .ref q5, .ref q6, .ref q8, .ref q10, .ref q12], hs_ob q1 0 [.ref (uu2 0), hs_V 0], hs_ia cI (uu2 0) 40 (fun _ => 0), hs_ra cO q5 2 (hs_o2 none none), hs_ob q6 5 [.ref (uu7 0)], hs_ia cI (uu7 0) 40 (fun _ => 0), hs_ob q8 3 [.ref (uu9 0), .ref (uu9 1), .ref (uu9 2), .ref (uu9 3), hs_V 0], hs_ia cI (uu9 0) 40 (fun _ => 0), hs_ia cI (uu9 1) 40 (fun _ => 0), hs_ia cI (uu9 2) 40 (fun _ => 0), hs_ia cI (uu9 3) 40 (fun _ => 0), hs_ob q10 4 [.ref (uu11 0), .ref (uu11 1)], hs_ia cI (uu11 0) 40 (fun _ => 0), hs_ia cI (uu11 1) 40 (fun _ => 0), hs_ob q12 2 [.ref (uu13 0)], hs_ia cI (uu13 0) 40 (fun _ => 0), hs_ob q3 1 [.ref uu4.1, hs_V 0], hs_ra cO uu4.1 8 (hs_r8 (uu4.2 0).1 (uu4.2 1).1 (uu4.2 2).1 (uu4.2 3).1 (uu4.2 4).1 (uu4.2 5).1 (uu4.2 6).1 (uu4.2 7).1), hs_ob (uu4.2 0).1 0 [.ref (uu4.2 0).2.1, hs_V (uu4.2 0).2.2.1], hs_ia cI (uu4.2 0).2.1 40 (uu4.2 0).2.2.2, hs_ob (uu4.2 1).1 0 [.ref (uu4.2 1).2.1, hs_V (uu4.2 1).2.2.1], hs_ia cI (uu4.2 1).2.1 40 (uu4.2 1).2.2.2, hs_ob (uu4.2 2).1 0 [.ref (uu4.2 2).2.1, hs_V (uu4.2 2).2.2.1], hs_ia cI (uu4.2 2).2.1 40 (uu4.2 2).2.2.2, hs_ob (uu4.2 3).1 0 [.ref (uu4.2 3).2.1, hs_V (uu4.2 3).2.2.1], hs_ia cI (uu4.2 3).2.1 40 (uu4.2 3).2.2.2, hs_ob (uu4.2 4).1 0 [.ref (uu4.2 4).2.1, hs_V (uu4.2 4).2.2.1], hs_ia cI (uu4.2 4).2.1 40 (uu4.2 4).2.2.2, hs_ob (uu4.2 5).1 0 [.ref (uu4.2 5).2.1, hs_V (uu4.2 5).2.2.1], hs_ia cI (uu4.2 5).2.1 40 (uu4.2 5).2.2.2, hs_ob (uu4.2 6).1 0 [.ref (uu4.2 6).2.1, hs_V (uu4.2 6).2.2.1], hs_ia cI (uu4.2 6).2.1 40 (uu4.2 6).2.2.2, hs_ob (uu4.2 7).1 0 [.ref (uu4.2 7).2.1, hs_V (uu4.2 7).2.2.1], hs_ia cI (uu4.2 7).2.1 40 (uu4.2 7).2.2.2]) [0, 1, 2, 21, 22, 23, 24, 25, 26, 27, 28, 29, 30, 31, 32, 33, 3, 4, 5, 6, 7, 8, 9, 10, 11, 12, 13, 14, 15, 16, 17, 18, 19, 20] rfl (by decide) ?_
  exact hret _ _ ((fun (j : Nat) => match j with | 0 => q1 | 1 => uu2 0 | 2 => q3 | 3 => uu4.1 | 4 => q5 | 5 => q6 | 6 => uu7 0 | 7 => q8 | 8 => uu9 0 | 9 => uu9 1 | 10 => uu9 2 | 11 => uu9 3 | 12 => q10 | 13 => uu11 0 | 14 => uu11 1 | 15 => q12 | _ => uu13 0), uu4.2) hZZ dX6_init_78
