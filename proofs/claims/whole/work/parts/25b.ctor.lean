abbrev SX2 : Type := Nat × Nat × (Nat → Nat) × Nat × (Nat → Nat)
def ShX2 (G : Gc) (u : SX2) : va_W := (u.1, .inr (2, [.ref u.2.1, .ref u.2.2.2.1])) :: (((u.2.1, outR G u.2.2.1) :: rowsR G u.2.2.1) ++ ((u.2.2.2.1, outR G u.2.2.2.2) :: rowsR G u.2.2.2.2))
abbrev rmX2_init : Room := { frames := 1, cells := 18, slots := 144, locals := 12 }
theorem kX2_o1 : Cond.methodLink RX2 3 objectInit ∈ wsX2_init := by decide +kernel
theorem kX2_o2 : Cond.instanceMethod objectInit ∈ wsX2_init := by decide +kernel
theorem kX2_o3 : Cond.code objectInit ⟨#[0xb1]⟩ 1 none ∈ wsX2_init := by decide +kernel
theorem kX2_m9 : Cond.classLink RX2 9 "[[I" ∈ wsX2_init := by decide +kernel
theorem kX2_ai : Cond.arrayClass .int ∈ wsX2_init := by decide +kernel
theorem kX2_f11 : Cond.fieldLink RX2 11 "FloodBus$Links" "strength" "[[I" ∈ wsX2_init := by decide +kernel
theorem kX2_f16 : Cond.fieldLink RX2 16 "FloodBus$Links" "lossPeriod" "[[I" ∈ wsX2_init := by decide +kernel
theorem kinX2_X2 : ∀ w ∈ wsX20, w ∈ wsX2_init := by decide +kernel
set_option maxRecDepth 100000 in
set_option maxHeartbeats 8000000 in
theorem KX2 (l : Launch) (D : va_G) (G : Gc) : Kn l yX2_init wsX2_init rmX2_init 18 144 D G 2 [.null, .null] (fun u : SX2 => u.1) (ShX2 G) := by
  refine Kn.ofZ (cc := cX2_init) (maxL := 1) (by decide +kernel) rfl (Nat.le_of_ble_eq_true rfl) rfl ?_
  intro p e s m args below meth c A ws0 h0 X hr hlk
  refine Z_aload_n X (q := 0) rfl rfl dX2_init_0 (n := 1) rfl ?_
  refine Z_obj X kX2_o1 kX2_o2 kX2_o3 (by decide) (by decide) dX2_init_1 (n := 4) rfl ?_
  refine Z_aload_n X (q := 0) rfl rfl dX2_init_4 (n := 5) rfl ?_
  refine Z_bipush X (v := 8) (by decide) dX2_init_5 (n := 7) rfl ?_
  refine Z_bipush X (v := 8) (by decide) dX2_init_7 (n := 9) rfl ?_
  refine Z_mna X kX2_m9 kX2_ai (by decide) (by decide) dX2_init_9 (n := 13) rfl (fun q6 r6 => ?_)
  refine Z_as (t2 := (h0, .inr (2, [.null, .null])) :: (((q6, outR G r6) :: rowsR G r6))) rfl ?_
  refine Z_putF X (q := 0) (k := 0) (ty := .array (.array .int)) (t2 := (h0, .inr (2, [.ref q6, .null])) :: (((q6, outR G r6) :: rowsR G r6))) kinX2_X2 tyX2 tyX2_ok nmX2 rfl rfl (by decide) kX2_f11 rfl (by decide) rfl (by decide +kernel) rfl rfl (Nat.le_of_ble_eq_true rfl) rfl dX2_init_13 (n := 16) rfl ?_
  refine Z_aload_n X (q := 0) rfl rfl dX2_init_16 (n := 17) rfl ?_
  refine Z_bipush X (v := 8) (by decide) dX2_init_17 (n := 19) rfl ?_
  refine Z_bipush X (v := 8) (by decide) dX2_init_19 (n := 21) rfl ?_
  refine Z_mna X kX2_m9 kX2_ai (by decide) (by decide) dX2_init_21 (n := 25) rfl (fun q11 r11 => ?_)
  refine Z_as (t2 := (h0, .inr (2, [.ref q6, .null])) :: (((q6, outR G r6) :: rowsR G r6) ++ ((q11, outR G r11) :: rowsR G r11))) rfl ?_
  refine Z_putF X (q := 0) (k := 1) (ty := .array (.array .int)) (t2 := (h0, .inr (2, [.ref q6, .ref q11])) :: (((q6, outR G r6) :: rowsR G r6) ++ ((q11, outR G r11) :: rowsR G r11))) kinX2_X2 tyX2 tyX2_ok nmX2 rfl rfl (by decide) kX2_f16 rfl (by decide) rfl (by decide +kernel) rfl rfl (Nat.le_of_ble_eq_true rfl) rfl dX2_init_25 (n := 28) rfl ?_
  exact Z_ret X hr hlk (h0, q6, r6, q11, r11) rfl rfl rfl rfl dX2_init_28
