abbrev SX5 : Type := Nat × Nat
def ShX5 (G : Gc) (u : SX5) : va_W := [(u.1, .inr (5, [.ref u.2, .int 0, .int 1, .int 0, .int 0, .int 0, .int 0])), (u.2, intR G 4)]
abbrev rmX5_init : Room := { frames := 1, cells := 1, slots := 4, locals := 12 }
theorem kX5_o1 : Cond.methodLink RX5 3 objectInit ∈ wsX5_init := by decide +kernel
theorem kX5_o2 : Cond.instanceMethod objectInit ∈ wsX5_init := by decide +kernel
theorem kX5_o3 : Cond.code objectInit ⟨#[0xb1]⟩ 1 none ∈ wsX5_init := by decide +kernel
theorem kX5_ai : Cond.arrayClass .int ∈ wsX5_init := by decide +kernel
theorem kX5_f9 : Cond.fieldLink RX5 9 "FloodBus$Stream" "generatedIn" "[I" ∈ wsX5_init := by decide +kernel
theorem kX5_f15 : Cond.fieldLink RX5 15 "FloodBus$Stream" "source" "I" ∈ wsX5_init := by decide +kernel
theorem kX5_f19 : Cond.fieldLink RX5 19 "FloodBus$Stream" "period" "I" ∈ wsX5_init := by decide +kernel
theorem kX5_f22 : Cond.fieldLink RX5 22 "FloodBus$Stream" "start" "I" ∈ wsX5_init := by decide +kernel
theorem kX5_f25 : Cond.fieldLink RX5 25 "FloodBus$Stream" "waiting" "I" ∈ wsX5_init := by decide +kernel
theorem kX5_f28 : Cond.fieldLink RX5 28 "FloodBus$Stream" "delivered" "I" ∈ wsX5_init := by decide +kernel
theorem kX5_f31 : Cond.fieldLink RX5 31 "FloodBus$Stream" "lost" "I" ∈ wsX5_init := by decide +kernel
theorem kinX5_X5 : ∀ w ∈ wsX50, w ∈ wsX5_init := by decide +kernel
set_option maxRecDepth 100000 in
set_option maxHeartbeats 8000000 in
theorem KX5 (l : Launch) (D : va_G) (G : Gc) : Kn l yX5_init wsX5_init rmX5_init 1 4 D G 5 [.null, .int 0, .int 0, .int 0, .int 0, .int 0, .int 0] (fun u : SX5 => u.1) (ShX5 G) := by
  refine Kn.ofZ (cc := cX5_init) (maxL := 1) (by decide +kernel) rfl (Nat.le_of_ble_eq_true rfl) rfl ?_
  intro p e s m args below meth c A ws0 h0 X hr hlk
  refine Z_aload_n X (q := 0) rfl rfl dX5_init_0 (n := 1) rfl ?_
  refine Z_obj X kX5_o1 kX5_o2 kX5_o3 (by decide) (by decide) dX5_init_1 (n := 4) rfl ?_
  refine Z_aload_n X (q := 0) rfl rfl dX5_init_4 (n := 5) rfl ?_
  refine Z_iconst X (v := 4) (by decide) dX5_init_5 (n := 6) rfl ?_
  refine Z_newi X (N := 4) kX5_ai (by decide) (by decide) (by decide) (by decide) (by decide) dX5_init_6 (n := 8) rfl (fun q5 => ?_)
  refine Z_as (t2 := (h0, .inr (5, [.null, .int 0, .int 0, .int 0, .int 0, .int 0, .int 0])) :: (q5, intR G 4) :: []) rfl ?_
  refine Z_putF X (q := 0) (k := 0) (ty := .array .int) (t2 := (h0, .inr (5, [.ref q5, .int 0, .int 0, .int 0, .int 0, .int 0, .int 0])) :: (q5, intR G 4) :: []) kinX5_X5 tyX5 tyX5_ok nmX5 rfl rfl (by decide) kX5_f9 rfl (by decide) rfl (by decide +kernel) rfl rfl (Nat.le_of_ble_eq_true rfl) rfl dX5_init_8 (n := 11) rfl ?_
  refine Z_aload_n X (q := 0) rfl rfl dX5_init_11 (n := 12) rfl ?_
  refine Z_iconst X (v := 0) (by decide) dX5_init_12 (n := 13) rfl ?_
  refine Z_put X (q := 0) (k := 1) (ty := .int) (t2 := (h0, .inr (5, [.ref q5, .int 0, .int 0, .int 0, .int 0, .int 0, .int 0])) :: (q5, intR G 4) :: []) kinX5_X5 tyX5 tyX5_ok nmX5 rfl rfl (by decide) kX5_f15 rfl (by decide +kernel) rfl rfl (Nat.le_of_ble_eq_true rfl) rfl dX5_init_13 (n := 16) rfl ?_
  refine Z_aload_n X (q := 0) rfl rfl dX5_init_16 (n := 17) rfl ?_
  refine Z_iconst X (v := 1) (by decide) dX5_init_17 (n := 18) rfl ?_
  refine Z_put X (q := 0) (k := 2) (ty := .int) (t2 := (h0, .inr (5, [.ref q5, .int 0, .int 1, .int 0, .int 0, .int 0, .int 0])) :: (q5, intR G 4) :: []) kinX5_X5 tyX5 tyX5_ok nmX5 rfl rfl (by decide) kX5_f19 rfl (by decide +kernel) rfl rfl (Nat.le_of_ble_eq_true rfl) rfl dX5_init_18 (n := 21) rfl ?_
  refine Z_aload_n X (q := 0) rfl rfl dX5_init_21 (n := 22) rfl ?_
  refine Z_iconst X (v := 0) (by decide) dX5_init_22 (n := 23) rfl ?_
  refine Z_put X (q := 0) (k := 3) (ty := .int) (t2 := (h0, .inr (5, [.ref q5, .int 0, .int 1, .int 0, .int 0, .int 0, .int 0])) :: (q5, intR G 4) :: []) kinX5_X5 tyX5 tyX5_ok nmX5 rfl rfl (by decide) kX5_f22 rfl (by decide +kernel) rfl rfl (Nat.le_of_ble_eq_true rfl) rfl dX5_init_23 (n := 26) rfl ?_
  refine Z_aload_n X (q := 0) rfl rfl dX5_init_26 (n := 27) rfl ?_
  refine Z_iconst X (v := 0) (by decide) dX5_init_27 (n := 28) rfl ?_
  refine Z_put X (q := 0) (k := 4) (ty := .int) (t2 := (h0, .inr (5, [.ref q5, .int 0, .int 1, .int 0, .int 0, .int 0, .int 0])) :: (q5, intR G 4) :: []) kinX5_X5 tyX5 tyX5_ok nmX5 rfl rfl (by decide) kX5_f25 rfl (by decide +kernel) rfl rfl (Nat.le_of_ble_eq_true rfl) rfl dX5_init_28 (n := 31) rfl ?_
  refine Z_aload_n X (q := 0) rfl rfl dX5_init_31 (n := 32) rfl ?_
  refine Z_iconst X (v := 0) (by decide) dX5_init_32 (n := 33) rfl ?_
  refine Z_put X (q := 0) (k := 5) (ty := .int) (t2 := (h0, .inr (5, [.ref q5, .int 0, .int 1, .int 0, .int 0, .int 0, .int 0])) :: (q5, intR G 4) :: []) kinX5_X5 tyX5 tyX5_ok nmX5 rfl rfl (by decide) kX5_f28 rfl (by decide +kernel) rfl rfl (Nat.le_of_ble_eq_true rfl) rfl dX5_init_33 (n := 36) rfl ?_
  refine Z_aload_n X (q := 0) rfl rfl dX5_init_36 (n := 37) rfl ?_
  refine Z_iconst X (v := 0) (by decide) dX5_init_37 (n := 38) rfl ?_
  refine Z_put X (q := 0) (k := 6) (ty := .int) (t2 := (h0, .inr (5, [.ref q5, .int 0, .int 1, .int 0, .int 0, .int 0, .int 0])) :: (q5, intR G 4) :: []) kinX5_X5 tyX5 tyX5_ok nmX5 rfl rfl (by decide) kX5_f31 rfl (by decide +kernel) rfl rfl (Nat.le_of_ble_eq_true rfl) rfl dX5_init_38 (n := 41) rfl ?_
  exact Z_ret X hr hlk (h0, q5) rfl rfl rfl rfl dX5_init_41
