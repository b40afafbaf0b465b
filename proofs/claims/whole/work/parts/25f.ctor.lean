abbrev SX3 : Type := Nat × (Nat × Nat × (Nat → Nat) × Nat × (Nat → Nat)) × Nat × Nat × Nat × Nat
def ShX3 (G : Gc) (u : SX3) : va_W := (u.1, .inr (3, [.ref u.2.1.1, .int 0, .ref u.2.2.1, .ref u.2.2.2.1, .ref u.2.2.2.2.1, .ref u.2.2.2.2.2])) :: ((((ShX2 G u.2.1 ++ [(u.2.2.1, booR G 8)]) ++ [(u.2.2.2.1, intR G 8)]) ++ [(u.2.2.2.2.1, intR G 8)]) ++ [(u.2.2.2.2.2, booR G 8)])
abbrev rmX3_init : Room := { frames := 2, cells := 23, slots := 178, locals := 32 }
theorem kX3_o1 : Cond.methodLink RX3 3 objectInit ∈ wsX3_init := by decide +kernel
theorem kX3_o2 : Cond.instanceMethod objectInit ∈ wsX3_init := by decide +kernel
theorem kX3_o3 : Cond.code objectInit ⟨#[0xb1]⟩ 1 none ∈ wsX3_init := by decide +kernel
theorem kX3_c9 : Cond.classLink RX3 9 RX2 ∈ wsX3_init := by decide +kernel
theorem kX3_tX2 : Cond.instantiable RX2 2 ∈ wsX3_init := by decide +kernel
theorem kX3_zX2 : Cond.initialized RX2 ∈ wsX3_init := by decide +kernel
theorem kX3_iX2 : Cond.initialized yX2_init.cls ∈ wsX3_init := by decide +kernel
theorem kX3_nX2 : Cond.instanceMethod yX2_init ∈ wsX3_init := by decide +kernel
theorem kX3_f12 : Cond.fieldLink RX3 12 "FloodBus$Network" "links" "LFloodBus$Links;" ∈ wsX3_init := by decide +kernel
theorem kX3_f18 : Cond.fieldLink RX3 18 "FloodBus$Network" "count" "I" ∈ wsX3_init := by decide +kernel
theorem kX3_az : Cond.arrayClass .boolean ∈ wsX3_init := by decide +kernel
theorem kX3_f22 : Cond.fieldLink RX3 22 "FloodBus$Network" "alive" "[Z" ∈ wsX3_init := by decide +kernel
theorem kX3_ai : Cond.arrayClass .int ∈ wsX3_init := by decide +kernel
theorem kX3_f26 : Cond.fieldLink RX3 26 "FloodBus$Network" "missed" "[I" ∈ wsX3_init := by decide +kernel
theorem kX3_f30 : Cond.fieldLink RX3 30 "FloodBus$Network" "sent" "[I" ∈ wsX3_init := by decide +kernel
theorem kX3_f33 : Cond.fieldLink RX3 33 "FloodBus$Network" "informed" "[Z" ∈ wsX3_init := by decide +kernel
theorem kinX3_X2 : ∀ w ∈ wsX20, w ∈ wsX3_init := by decide +kernel
theorem kinX3_X3 : ∀ w ∈ wsX30, w ∈ wsX3_init := by decide +kernel
set_option maxRecDepth 100000 in
set_option maxHeartbeats 8000000 in
theorem KX3 (l : Launch) (D : va_G) (G : Gc) : Kn l yX3_init wsX3_init rmX3_init 23 178 D G 3 [.null, .int 0, .null, .null, .null, .null] (fun u : SX3 => u.1) (ShX3 G) := by
  refine Kn.ofZ (cc := cX3_init) (maxL := 1) (by decide +kernel) rfl (Nat.le_of_ble_eq_true rfl) rfl ?_
  intro p e s m args below meth c A ws0 h0 X hr hlk
  refine Z_aload_n X (q := 0) rfl rfl dX3_init_0 (n := 1) rfl ?_
  refine Z_obj X kX3_o1 kX3_o2 kX3_o3 (by decide) (by decide) dX3_init_1 (n := 4) rfl ?_
  refine Z_aload_n X (q := 0) rfl rfl dX3_init_4 (n := 5) rfl ?_
  refine Z_new X (ci := 2) (fs := [.null, .null]) kinX3_X2 tyX2 tyX2_ok kX3_c9 kX3_tX2 kX3_zX2 rfl bornX2 (by decide) (by decide) dX3_init_5 (n := 8) rfl (fun q4 => ?_)
  refine Z_dup X rfl dX3_init_8 (n := 9) rfl ?_
  refine Z_callN X (KX2 l D G) gX3_init_X2_init_n11 rfl rfl rfl kX3_iX2 (by decide +kernel) kX3_nX2 rfl (by decide +kernel) ⟨by decide, by decide⟩ (Nat.le_of_ble_eq_true rfl) ⟨by decide, by decide⟩ dX3_init_9 (n := 12) rfl (fun u6 hu => ?_)
  have hu : u6.1 = q4 := hu
  subst hu
  refine Z_as (t2 := (h0, .inr (3, [.null, .int 0, .null, .null, .null, .null])) :: (ShX2 G u6)) rfl ?_
  refine Z_putF X (q := 0) (k := 0) (ty := .object "FloodBus$Links") (t2 := (h0, .inr (3, [.ref u6.1, .int 0, .null, .null, .null, .null])) :: (ShX2 G u6)) kinX3_X3 tyX3 tyX3_ok nmX3 rfl rfl (by decide) kX3_f12 rfl (by decide) rfl (by decide +kernel) rfl rfl (Nat.le_of_ble_eq_true rfl) rfl dX3_init_12 (n := 15) rfl ?_
  refine Z_aload_n X (q := 0) rfl rfl dX3_init_15 (n := 16) rfl ?_
  refine Z_iconst X (v := 0) (by decide) dX3_init_16 (n := 17) rfl ?_
  refine Z_put X (q := 0) (k := 1) (ty := .int) (t2 := (h0, .inr (3, [.ref u6.1, .int 0, .null, .null, .null, .null])) :: (ShX2 G u6)) kinX3_X3 tyX3 tyX3_ok nmX3 rfl rfl (by decide) kX3_f18 rfl (by decide +kernel) rfl rfl (Nat.le_of_ble_eq_true rfl) rfl dX3_init_17 (n := 20) rfl ?_
  refine Z_aload_n X (q := 0) rfl rfl dX3_init_20 (n := 21) rfl ?_
  refine Z_bipush X (v := 8) (by decide) dX3_init_21 (n := 23) rfl ?_
  refine Z_newz X (N := 8) kX3_az (by decide) (by decide) (by decide) (by decide) (by decide) dX3_init_23 (n := 25) rfl (fun q13 => ?_)
  refine Z_as (t2 := (h0, .inr (3, [.ref u6.1, .int 0, .null, .null, .null, .null])) :: ((ShX2 G u6) ++ [(q13, booR G 8)])) rfl ?_
  refine Z_putF X (q := 0) (k := 2) (ty := .array .boolean) (t2 := (h0, .inr (3, [.ref u6.1, .int 0, .ref q13, .null, .null, .null])) :: ((ShX2 G u6) ++ [(q13, booR G 8)])) kinX3_X3 tyX3 tyX3_ok nmX3 rfl rfl (by decide) kX3_f22 rfl (by decide) rfl (by decide +kernel) rfl rfl (Nat.le_of_ble_eq_true rfl) rfl dX3_init_25 (n := 28) rfl ?_
  refine Z_aload_n X (q := 0) rfl rfl dX3_init_28 (n := 29) rfl ?_
  refine Z_bipush X (v := 8) (by decide) dX3_init_29 (n := 31) rfl ?_
  refine Z_newi X (N := 8) kX3_ai (by decide) (by decide) (by decide) (by decide) (by decide) dX3_init_31 (n := 33) rfl (fun q17 => ?_)
  refine Z_as (t2 := (h0, .inr (3, [.ref u6.1, .int 0, .ref q13, .null, .null, .null])) :: (((ShX2 G u6) ++ [(q13, booR G 8)]) ++ [(q17, intR G 8)])) rfl ?_
  refine Z_putF X (q := 0) (k := 3) (ty := .array .int) (t2 := (h0, .inr (3, [.ref u6.1, .int 0, .ref q13, .ref q17, .null, .null])) :: (((ShX2 G u6) ++ [(q13, booR G 8)]) ++ [(q17, intR G 8)])) kinX3_X3 tyX3 tyX3_ok nmX3 rfl rfl (by decide) kX3_f26 rfl (by decide) rfl (by decide +kernel) rfl rfl (Nat.le_of_ble_eq_true rfl) rfl dX3_init_33 (n := 36) rfl ?_
  refine Z_aload_n X (q := 0) rfl rfl dX3_init_36 (n := 37) rfl ?_
  refine Z_bipush X (v := 8) (by decide) dX3_init_37 (n := 39) rfl ?_
  refine Z_newi X (N := 8) kX3_ai (by decide) (by decide) (by decide) (by decide) (by decide) dX3_init_39 (n := 41) rfl (fun q21 => ?_)
  refine Z_as (t2 := (h0, .inr (3, [.ref u6.1, .int 0, .ref q13, .ref q17, .null, .null])) :: ((((ShX2 G u6) ++ [(q13, booR G 8)]) ++ [(q17, intR G 8)]) ++ [(q21, intR G 8)])) rfl ?_
  refine Z_putF X (q := 0) (k := 4) (ty := .array .int) (t2 := (h0, .inr (3, [.ref u6.1, .int 0, .ref q13, .ref q17, .ref q21, .null])) :: ((((ShX2 G u6) ++ [(q13, booR G 8)]) ++ [(q17, intR G 8)]) ++ [(q21, intR G 8)])) kinX3_X3 tyX3 tyX3_ok nmX3 rfl rfl (by decide) kX3_f30 rfl (by decide) rfl (by decide +kernel) rfl rfl (Nat.le_of_ble_eq_true rfl) rfl dX3_init_41 (n := 44) rfl ?_
  refine Z_aload_n X (q := 0) rfl rfl dX3_init_44 (n := 45) rfl ?_
  refine Z_bipush X (v := 8) (by decide) dX3_init_45 (n := 47) rfl ?_
  refine Z_newz X (N := 8) kX3_az (by decide) (by decide) (by decide) (by decide) (by decide) dX3_init_47 (n := 49) rfl (fun q25 => ?_)
  refine Z_as (t2 := (h0, .inr (3, [.ref u6.1, .int 0, .ref q13, .ref q17, .ref q21, .null])) :: (((((ShX2 G u6) ++ [(q13, booR G 8)]) ++ [(q17, intR G 8)]) ++ [(q21, intR G 8)]) ++ [(q25, booR G 8)])) rfl ?_
  refine Z_putF X (q := 0) (k := 5) (ty := .array .boolean) (t2 := (h0, .inr (3, [.ref u6.1, .int 0, .ref q13, .ref q17, .ref q21, .ref q25])) :: (((((ShX2 G u6) ++ [(q13, booR G 8)]) ++ [(q17, intR G 8)]) ++ [(q21, intR G 8)]) ++ [(q25, booR G 8)])) kinX3_X3 tyX3 tyX3_ok nmX3 rfl rfl (by decide) kX3_f33 rfl (by decide) rfl (by decide +kernel) rfl rfl (Nat.le_of_ble_eq_true rfl) rfl dX3_init_49 (n := 52) rfl ?_
  exact Z_ret X hr hlk (h0, u6, q13, q17, q21, q25) rfl rfl rfl rfl dX3_init_52
