abbrev SX0 : Type := Nat × Nat × (Nat × Nat × (Nat → Nat) × Nat × (Nat → Nat))
def ShX0 (G : Gc) (u : SX0) : va_W := (u.1, .inr (0, [.ref u.2.1, .int 0, .ref u.2.2.1, .int 0, .int 0, .int 0, .int 0, .int 0])) :: (u.2.1, intR G 61) :: ShX2 G u.2.2
abbrev rmX0_init : Room := { frames := 2, cells := 20, slots := 207, locals := 32 }
theorem kX0_o1 : Cond.methodLink RX0 3 objectInit ∈ wsX0_init := by decide +kernel
theorem kX0_o2 : Cond.instanceMethod objectInit ∈ wsX0_init := by decide +kernel
theorem kX0_o3 : Cond.code objectInit ⟨#[0xb1]⟩ 1 none ∈ wsX0_init := by decide +kernel
theorem kX0_ai : Cond.arrayClass .int ∈ wsX0_init := by decide +kernel
theorem kX0_f9 : Cond.fieldLink RX0 9 "FloodBus$Description" "characters" "[I" ∈ wsX0_init := by decide +kernel
theorem kX0_f15 : Cond.fieldLink RX0 15 "FloodBus$Description" "length" "I" ∈ wsX0_init := by decide +kernel
theorem kX0_c19 : Cond.classLink RX0 19 RX2 ∈ wsX0_init := by decide +kernel
theorem kX0_tX2 : Cond.instantiable RX2 2 ∈ wsX0_init := by decide +kernel
theorem kX0_zX2 : Cond.initialized RX2 ∈ wsX0_init := by decide +kernel
theorem kX0_iX2 : Cond.initialized yX2_init.cls ∈ wsX0_init := by decide +kernel
theorem kX0_nX2 : Cond.instanceMethod yX2_init ∈ wsX0_init := by decide +kernel
theorem kX0_f22 : Cond.fieldLink RX0 22 "FloodBus$Description" "links" "LFloodBus$Links;" ∈ wsX0_init := by decide +kernel
theorem kX0_f26 : Cond.fieldLink RX0 26 "FloodBus$Description" "nodeCount" "I" ∈ wsX0_init := by decide +kernel
theorem kX0_f29 : Cond.fieldLink RX0 29 "FloodBus$Description" "linkCount" "I" ∈ wsX0_init := by decide +kernel
theorem kX0_f32 : Cond.fieldLink RX0 32 "FloodBus$Description" "expected" "I" ∈ wsX0_init := by decide +kernel
theorem kX0_f35 : Cond.fieldLink RX0 35 "FloodBus$Description" "firstNode" "I" ∈ wsX0_init := by decide +kernel
theorem kX0_f38 : Cond.fieldLink RX0 38 "FloodBus$Description" "secondNode" "I" ∈ wsX0_init := by decide +kernel
theorem kinX0_X0 : ∀ w ∈ wsX00, w ∈ wsX0_init := by decide +kernel
theorem kinX0_X2 : ∀ w ∈ wsX20, w ∈ wsX0_init := by decide +kernel
set_option maxRecDepth 100000 in
set_option maxHeartbeats 8000000 in
theorem KX0 (l : Launch) (D : va_G) (G : Gc) : Kn l yX0_init wsX0_init rmX0_init 20 207 D G 0 [.null, .int 0, .null, .int 0, .int 0, .int 0, .int 0, .int 0] (fun u : SX0 => u.1) (ShX0 G) := by
  refine Kn.ofZ (cc := cX0_init) (maxL := 1) (by decide +kernel) rfl (Nat.le_of_ble_eq_true rfl) rfl ?_
  intro p e s m args below meth c A ws0 h0 X hr hlk
  refine Z_aload_n X (q := 0) rfl rfl dX0_init_0 (n := 1) rfl ?_
  refine Z_obj X kX0_o1 kX0_o2 kX0_o3 (by decide) (by decide) dX0_init_1 (n := 4) rfl ?_
  refine Z_aload_n X (q := 0) rfl rfl dX0_init_4 (n := 5) rfl ?_
  refine Z_bipush X (v := 61) (by decide) dX0_init_5 (n := 7) rfl ?_
  refine Z_newi X (N := 61) kX0_ai (by decide) (by decide) (by decide) (by decide) (by decide) dX0_init_7 (n := 9) rfl (fun q5 => ?_)
  refine Z_as (t2 := (h0, .inr (0, [.null, .int 0, .null, .int 0, .int 0, .int 0, .int 0, .int 0])) :: (q5, intR G 61) :: []) rfl ?_
  refine Z_putF X (q := 0) (k := 0) (ty := .array .int) (t2 := (h0, .inr (0, [.ref q5, .int 0, .null, .int 0, .int 0, .int 0, .int 0, .int 0])) :: (q5, intR G 61) :: []) kinX0_X0 tyX0 tyX0_ok nmX0 rfl rfl (by decide) kX0_f9 rfl (by decide) rfl (by decide +kernel) rfl rfl (Nat.le_of_ble_eq_true rfl) rfl dX0_init_9 (n := 12) rfl ?_
  refine Z_aload_n X (q := 0) rfl rfl dX0_init_12 (n := 13) rfl ?_
  refine Z_iconst X (v := 0) (by decide) dX0_init_13 (n := 14) rfl ?_
  refine Z_put X (q := 0) (k := 1) (ty := .int) (t2 := (h0, .inr (0, [.ref q5, .int 0, .null, .int 0, .int 0, .int 0, .int 0, .int 0])) :: (q5, intR G 61) :: []) kinX0_X0 tyX0 tyX0_ok nmX0 rfl rfl (by decide) kX0_f15 rfl (by decide +kernel) rfl rfl (Nat.le_of_ble_eq_true rfl) rfl dX0_init_14 (n := 17) rfl ?_
  refine Z_aload_n X (q := 0) rfl rfl dX0_init_17 (n := 18) rfl ?_
  refine Z_new X (ci := 2) (fs := [.null, .null]) kinX0_X2 tyX2 tyX2_ok kX0_c19 kX0_tX2 kX0_zX2 rfl bornX2 (by decide) (by decide) dX0_init_18 (n := 21) rfl (fun q11 => ?_)
  refine Z_dup X rfl dX0_init_21 (n := 22) rfl ?_
  refine Z_callN X (KX2 l D G) gX0_init_X2_init_n21 rfl rfl rfl kX0_iX2 (by decide +kernel) kX0_nX2 rfl (by decide +kernel) ⟨by decide, by decide⟩ (Nat.le_of_ble_eq_true rfl) ⟨by decide, by decide⟩ dX0_init_22 (n := 25) rfl (fun u13 hu => ?_)
  have hu : u13.1 = q11 := hu
  subst hu
  refine Z_as (t2 := (h0, .inr (0, [.ref q5, .int 0, .null, .int 0, .int 0, .int 0, .int 0, .int 0])) :: (q5, intR G 61) :: (ShX2 G u13)) rfl ?_
  refine Z_putF X (q := 0) (k := 2) (ty := .object "FloodBus$Links") (t2 := (h0, .inr (0, [.ref q5, .int 0, .ref u13.1, .int 0, .int 0, .int 0, .int 0, .int 0])) :: (q5, intR G 61) :: (ShX2 G u13)) kinX0_X0 tyX0 tyX0_ok nmX0 rfl rfl (by decide) kX0_f22 rfl (by decide) rfl (by decide +kernel) rfl rfl (Nat.le_of_ble_eq_true rfl) rfl dX0_init_25 (n := 28) rfl ?_
  refine Z_aload_n X (q := 0) rfl rfl dX0_init_28 (n := 29) rfl ?_
  refine Z_iconst X (v := 0) (by decide) dX0_init_29 (n := 30) rfl ?_
  refine Z_put X (q := 0) (k := 3) (ty := .int) (t2 := (h0, .inr (0, [.ref q5, .int 0, .ref u13.1, .int 0, .int 0, .int 0, .int 0, .int 0])) :: (q5, intR G 61) :: (ShX2 G u13)) kinX0_X0 tyX0 tyX0_ok nmX0 rfl rfl (by decide) kX0_f26 rfl (by decide +kernel) rfl rfl (Nat.le_of_ble_eq_true rfl) rfl dX0_init_30 (n := 33) rfl ?_
  refine Z_aload_n X (q := 0) rfl rfl dX0_init_33 (n := 34) rfl ?_
  refine Z_iconst X (v := 0) (by decide) dX0_init_34 (n := 35) rfl ?_
  refine Z_put X (q := 0) (k := 4) (ty := .int) (t2 := (h0, .inr (0, [.ref q5, .int 0, .ref u13.1, .int 0, .int 0, .int 0, .int 0, .int 0])) :: (q5, intR G 61) :: (ShX2 G u13)) kinX0_X0 tyX0 tyX0_ok nmX0 rfl rfl (by decide) kX0_f29 rfl (by decide +kernel) rfl rfl (Nat.le_of_ble_eq_true rfl) rfl dX0_init_35 (n := 38) rfl ?_
  refine Z_aload_n X (q := 0) rfl rfl dX0_init_38 (n := 39) rfl ?_
  refine Z_iconst X (v := 0) (by decide) dX0_init_39 (n := 40) rfl ?_
  refine Z_put X (q := 0) (k := 5) (ty := .int) (t2 := (h0, .inr (0, [.ref q5, .int 0, .ref u13.1, .int 0, .int 0, .int 0, .int 0, .int 0])) :: (q5, intR G 61) :: (ShX2 G u13)) kinX0_X0 tyX0 tyX0_ok nmX0 rfl rfl (by decide) kX0_f32 rfl (by decide +kernel) rfl rfl (Nat.le_of_ble_eq_true rfl) rfl dX0_init_40 (n := 43) rfl ?_
  refine Z_aload_n X (q := 0) rfl rfl dX0_init_43 (n := 44) rfl ?_
  refine Z_iconst X (v := 0) (by decide) dX0_init_44 (n := 45) rfl ?_
  refine Z_put X (q := 0) (k := 6) (ty := .int) (t2 := (h0, .inr (0, [.ref q5, .int 0, .ref u13.1, .int 0, .int 0, .int 0, .int 0, .int 0])) :: (q5, intR G 61) :: (ShX2 G u13)) kinX0_X0 tyX0 tyX0_ok nmX0 rfl rfl (by decide) kX0_f35 rfl (by decide +kernel) rfl rfl (Nat.le_of_ble_eq_true rfl) rfl dX0_init_45 (n := 48) rfl ?_
  refine Z_aload_n X (q := 0) rfl rfl dX0_init_48 (n := 49) rfl ?_
  refine Z_iconst X (v := 0) (by decide) dX0_init_49 (n := 50) rfl ?_
  refine Z_put X (q := 0) (k := 7) (ty := .int) (t2 := (h0, .inr (0, [.ref q5, .int 0, .ref u13.1, .int 0, .int 0, .int 0, .int 0, .int 0])) :: (q5, intR G 61) :: (ShX2 G u13)) kinX0_X0 tyX0 tyX0_ok nmX0 rfl rfl (by decide) kX0_f38 rfl (by decide +kernel) rfl rfl (Nat.le_of_ble_eq_true rfl) rfl dX0_init_50 (n := 53) rfl ?_
  exact Z_ret X hr hlk (h0, q5, u13) rfl rfl rfl rfl dX0_init_53
