abbrev SX1 : Type := Nat × Nat × Nat × Nat
def ShX1 (G : Gc) (u : SX1) : va_W := [(u.1, .inr (1, [.ref u.2.1, .ref u.2.2.1, .ref u.2.2.2, .int 0, .int 2, .int 3])), (u.2.1, intR G 8), (u.2.2.1, intR G 8), (u.2.2.2, intR G 8)]
abbrev rmX1_init : Room := { frames := 1, cells := 3, slots := 24, locals := 12 }
theorem kX1_o1 : Cond.methodLink RX1 3 objectInit ∈ wsX1_init := by decide +kernel
theorem kX1_o2 : Cond.instanceMethod objectInit ∈ wsX1_init := by decide +kernel
theorem kX1_o3 : Cond.code objectInit ⟨#[0xb1]⟩ 1 none ∈ wsX1_init := by decide +kernel
theorem kX1_ai : Cond.arrayClass .int ∈ wsX1_init := by decide +kernel
theorem kX1_f9 : Cond.fieldLink RX1 9 "FloodBus$Flooding" "levels" "[I" ∈ wsX1_init := by decide +kernel
theorem kX1_f15 : Cond.fieldLink RX1 15 "FloodBus$Flooding" "packet" "[I" ∈ wsX1_init := by decide +kernel
theorem kX1_f18 : Cond.fieldLink RX1 18 "FloodBus$Flooding" "hops" "[I" ∈ wsX1_init := by decide +kernel
theorem kX1_f21 : Cond.fieldLink RX1 21 "FloodBus$Flooding" "length" "I" ∈ wsX1_init := by decide +kernel
theorem kX1_f25 : Cond.fieldLink RX1 25 "FloodBus$Flooding" "transmissionLimit" "I" ∈ wsX1_init := by decide +kernel
theorem kX1_f28 : Cond.fieldLink RX1 28 "FloodBus$Flooding" "captureMargin" "I" ∈ wsX1_init := by decide +kernel
theorem kinX1_X1 : ∀ w ∈ wsX10, w ∈ wsX1_init := by decide +kernel
set_option maxRecDepth 100000 in
set_option maxHeartbeats 8000000 in
theorem KX1 (l : Launch) (D : va_G) (G : Gc) : Kn l yX1_init wsX1_init rmX1_init 3 24 D G 1 [.null, .null, .null, .int 0, .int 0, .int 0] (fun u : SX1 => u.1) (ShX1 G) := by
  refine Kn.ofZ (cc := cX1_init) (maxL := 1) (by decide +kernel) rfl (Nat.le_of_ble_eq_true rfl) rfl ?_
  intro p e s m args below meth c A ws0 h0 X hr hlk
  refine Z_aload_n X (q := 0) rfl rfl dX1_init_0 (n := 1) rfl ?_
  refine Z_obj X kX1_o1 kX1_o2 kX1_o3 (by decide) (by decide) dX1_init_1 (n := 4) rfl ?_
  refine Z_aload_n X (q := 0) rfl rfl dX1_init_4 (n := 5) rfl ?_
  refine Z_bipush X (v := 8) (by decide) dX1_init_5 (n := 7) rfl ?_
  refine Z_newi X (N := 8) kX1_ai (by decide) (by decide) (by decide) (by decide) (by decide) dX1_init_7 (n := 9) rfl (fun q5 => ?_)
  refine Z_as (t2 := (h0, .inr (1, [.null, .null, .null, .int 0, .int 0, .int 0])) :: (q5, intR G 8) :: []) rfl ?_
  refine Z_putF X (q := 0) (k := 0) (ty := .array .int) (t2 := (h0, .inr (1, [.ref q5, .null, .null, .int 0, .int 0, .int 0])) :: (q5, intR G 8) :: []) kinX1_X1 tyX1 tyX1_ok nmX1 rfl rfl (by decide) kX1_f9 rfl (by decide) rfl (by decide +kernel) rfl rfl (Nat.le_of_ble_eq_true rfl) rfl dX1_init_9 (n := 12) rfl ?_
  refine Z_aload_n X (q := 0) rfl rfl dX1_init_12 (n := 13) rfl ?_
  refine Z_bipush X (v := 8) (by decide) dX1_init_13 (n := 15) rfl ?_
  refine Z_newi X (N := 8) kX1_ai (by decide) (by decide) (by decide) (by decide) (by decide) dX1_init_15 (n := 17) rfl (fun q9 => ?_)
  refine Z_as (t2 := (h0, .inr (1, [.ref q5, .null, .null, .int 0, .int 0, .int 0])) :: (q5, intR G 8) :: (q9, intR G 8) :: []) rfl ?_
  refine Z_putF X (q := 0) (k := 1) (ty := .array .int) (t2 := (h0, .inr (1, [.ref q5, .ref q9, .null, .int 0, .int 0, .int 0])) :: (q5, intR G 8) :: (q9, intR G 8) :: []) kinX1_X1 tyX1 tyX1_ok nmX1 rfl rfl (by decide) kX1_f15 rfl (by decide) rfl (by decide +kernel) rfl rfl (Nat.le_of_ble_eq_true rfl) rfl dX1_init_17 (n := 20) rfl ?_
  refine Z_aload_n X (q := 0) rfl rfl dX1_init_20 (n := 21) rfl ?_
  refine Z_bipush X (v := 8) (by decide) dX1_init_21 (n := 23) rfl ?_
  refine Z_newi X (N := 8) kX1_ai (by decide) (by decide) (by decide) (by decide) (by decide) dX1_init_23 (n := 25) rfl (fun q13 => ?_)
  refine Z_as (t2 := (h0, .inr (1, [.ref q5, .ref q9, .null, .int 0, .int 0, .int 0])) :: (q5, intR G 8) :: (q9, intR G 8) :: (q13, intR G 8) :: []) rfl ?_
  refine Z_putF X (q := 0) (k := 2) (ty := .array .int) (t2 := (h0, .inr (1, [.ref q5, .ref q9, .ref q13, .int 0, .int 0, .int 0])) :: (q5, intR G 8) :: (q9, intR G 8) :: (q13, intR G 8) :: []) kinX1_X1 tyX1 tyX1_ok nmX1 rfl rfl (by decide) kX1_f18 rfl (by decide) rfl (by decide +kernel) rfl rfl (Nat.le_of_ble_eq_true rfl) rfl dX1_init_25 (n := 28) rfl ?_
  refine Z_aload_n X (q := 0) rfl rfl dX1_init_28 (n := 29) rfl ?_
  refine Z_iconst X (v := 0) (by decide) dX1_init_29 (n := 30) rfl ?_
  refine Z_put X (q := 0) (k := 3) (ty := .int) (t2 := (h0, .inr (1, [.ref q5, .ref q9, .ref q13, .int 0, .int 0, .int 0])) :: (q5, intR G 8) :: (q9, intR G 8) :: (q13, intR G 8) :: []) kinX1_X1 tyX1 tyX1_ok nmX1 rfl rfl (by decide) kX1_f21 rfl (by decide +kernel) rfl rfl (Nat.le_of_ble_eq_true rfl) rfl dX1_init_30 (n := 33) rfl ?_
  refine Z_aload_n X (q := 0) rfl rfl dX1_init_33 (n := 34) rfl ?_
  refine Z_iconst X (v := 2) (by decide) dX1_init_34 (n := 35) rfl ?_
  refine Z_put X (q := 0) (k := 4) (ty := .int) (t2 := (h0, .inr (1, [.ref q5, .ref q9, .ref q13, .int 0, .int 2, .int 0])) :: (q5, intR G 8) :: (q9, intR G 8) :: (q13, intR G 8) :: []) kinX1_X1 tyX1 tyX1_ok nmX1 rfl rfl (by decide) kX1_f25 rfl (by decide +kernel) rfl rfl (Nat.le_of_ble_eq_true rfl) rfl dX1_init_35 (n := 38) rfl ?_
  refine Z_aload_n X (q := 0) rfl rfl dX1_init_38 (n := 39) rfl ?_
  refine Z_iconst X (v := 3) (by decide) dX1_init_39 (n := 40) rfl ?_
  refine Z_put X (q := 0) (k := 5) (ty := .int) (t2 := (h0, .inr (1, [.ref q5, .ref q9, .ref q13, .int 0, .int 2, .int 3])) :: (q5, intR G 8) :: (q9, intR G 8) :: (q13, intR G 8) :: []) kinX1_X1 tyX1 tyX1_ok nmX1 rfl rfl (by decide) kX1_f28 rfl (by decide +kernel) rfl rfl (Nat.le_of_ble_eq_true rfl) rfl dX1_init_40 (n := 43) rfl ?_
  exact Z_ret X hr hlk (h0, q5, q9, q13) rfl rfl rfl rfl dX1_init_43
