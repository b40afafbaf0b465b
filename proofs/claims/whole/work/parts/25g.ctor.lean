abbrev SX4 : Type := Nat × Nat
def ShX4 (G : Gc) (u : SX4) : va_W := [(u.1, .inr (4, [.ref u.2, .int 0])), (u.2, intR G 6)]
abbrev rmX4_init : Room := { frames := 1, cells := 1, slots := 6, locals := 12 }
theorem kX4_o1 : Cond.methodLink RX4 3 objectInit ∈ wsX4_init := by decide +kernel
theorem kX4_o2 : Cond.instanceMethod objectInit ∈ wsX4_init := by decide +kernel
theorem kX4_o3 : Cond.code objectInit ⟨#[0xb1]⟩ 1 none ∈ wsX4_init := by decide +kernel
theorem kX4_ai : Cond.arrayClass .int ∈ wsX4_init := by decide +kernel
theorem kX4_f9 : Cond.fieldLink RX4 9 "FloodBus$Schedule" "entries" "[I" ∈ wsX4_init := by decide +kernel
theorem kX4_f15 : Cond.fieldLink RX4 15 "FloodBus$Schedule" "size" "I" ∈ wsX4_init := by decide +kernel
theorem kinX4_X4 : ∀ w ∈ wsX40, w ∈ wsX4_init := by decide +kernel
set_option maxRecDepth 100000 in
set_option maxHeartbeats 8000000 in
theorem KX4 (l : Launch) (D : va_G) (G : Gc) : Kn l yX4_init wsX4_init rmX4_init 1 6 D G 4 [.null, .int 0] (fun u : SX4 => u.1) (ShX4 G) := by
  refine Kn.ofZ (cc := cX4_init) (maxL := 1) (by decide +kernel) rfl (Nat.le_of_ble_eq_true rfl) rfl ?_
  intro p e s m args below meth c A ws0 h0 X hr hlk
  refine Z_aload_n X (q := 0) rfl rfl dX4_init_0 (n := 1) rfl ?_
  refine Z_obj X kX4_o1 kX4_o2 kX4_o3 (by decide) (by decide) dX4_init_1 (n := 4) rfl ?_
  refine Z_aload_n X (q := 0) rfl rfl dX4_init_4 (n := 5) rfl ?_
  refine Z_bipush X (v := 6) (by decide) dX4_init_5 (n := 7) rfl ?_
  refine Z_newi X (N := 6) kX4_ai (by decide) (by decide) (by decide) (by decide) (by decide) dX4_init_7 (n := 9) rfl (fun q5 => ?_)
  refine Z_as (t2 := (h0, .inr (4, [.null, .int 0])) :: (q5, intR G 6) :: []) rfl ?_
  refine Z_putF X (q := 0) (k := 0) (ty := .array .int) (t2 := (h0, .inr (4, [.ref q5, .int 0])) :: (q5, intR G 6) :: []) kinX4_X4 tyX4 tyX4_ok nmX4 rfl rfl (by decide) kX4_f9 rfl (by decide) rfl (by decide +kernel) rfl rfl (Nat.le_of_ble_eq_true rfl) rfl dX4_init_9 (n := 12) rfl ?_
  refine Z_aload_n X (q := 0) rfl rfl dX4_init_12 (n := 13) rfl ?_
  refine Z_iconst X (v := 0) (by decide) dX4_init_13 (n := 14) rfl ?_
  refine Z_put X (q := 0) (k := 1) (ty := .int) (t2 := (h0, .inr (4, [.ref q5, .int 0])) :: (q5, intR G 6) :: []) kinX4_X4 tyX4 tyX4_ok nmX4 rfl rfl (by decide) kX4_f15 rfl (by decide +kernel) rfl rfl (Nat.le_of_ble_eq_true rfl) rfl dX4_init_14 (n := 17) rfl ?_
  exact Z_ret X hr hlk (h0, q5) rfl rfl rfl rfl dX4_init_17
