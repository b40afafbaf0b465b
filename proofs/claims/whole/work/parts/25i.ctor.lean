abbrev SX7 : Type := Nat × SX0 × SX3 × SX1 × SX6 × SX4
def ShX7 (G : Gc) (u : SX7) : va_W := (u.1, .inr (7, [.ref u.2.1.1, .ref u.2.2.1.1, .ref u.2.2.2.1.1, .ref u.2.2.2.2.1.1, .ref u.2.2.2.2.2.1, .int 3, .int 2, .int (-1), .int 0])) :: ((((ShX0 G u.2.1 ++ ShX3 G u.2.2.1) ++ ShX1 G u.2.2.2.1) ++ ShX6 G u.2.2.2.2.1) ++ ShX4 G u.2.2.2.2.2)
abbrev rmX7_init : Room := { frames := 3, cells := 65, slots := 511, locals := 53 }
theorem kX7_o1 : Cond.methodLink RX7 1 objectInit ∈ wsX7_init := by decide +kernel
theorem kX7_o2 : Cond.instanceMethod objectInit ∈ wsX7_init := by decide +kernel
theorem kX7_o3 : Cond.code objectInit ⟨#[0xb1]⟩ 1 none ∈ wsX7_init := by decide +kernel
theorem kX7_c7 : Cond.classLink RX7 7 RX0 ∈ wsX7_init := by decide +kernel
theorem kX7_tX0 : Cond.instantiable RX0 8 ∈ wsX7_init := by decide +kernel
theorem kX7_zX0 : Cond.initialized RX0 ∈ wsX7_init := by decide +kernel
theorem kX7_iX0 : Cond.initialized yX0_init.cls ∈ wsX7_init := by decide +kernel
theorem kX7_nX0 : Cond.instanceMethod yX0_init ∈ wsX7_init := by decide +kernel
theorem kX7_f10 : Cond.fieldLink RX7 10 "FloodBus" "description" "LFloodBus$Description;" ∈ wsX7_init := by decide +kernel
theorem kX7_c16 : Cond.classLink RX7 16 RX3 ∈ wsX7_init := by decide +kernel
theorem kX7_tX3 : Cond.instantiable RX3 6 ∈ wsX7_init := by decide +kernel
theorem kX7_zX3 : Cond.initialized RX3 ∈ wsX7_init := by decide +kernel
theorem kX7_iX3 : Cond.initialized yX3_init.cls ∈ wsX7_init := by decide +kernel
theorem kX7_nX3 : Cond.instanceMethod yX3_init ∈ wsX7_init := by decide +kernel
theorem kX7_f19 : Cond.fieldLink RX7 19 "FloodBus" "network" "LFloodBus$Network;" ∈ wsX7_init := by decide +kernel
theorem kX7_c23 : Cond.classLink RX7 23 RX1 ∈ wsX7_init := by decide +kernel
theorem kX7_tX1 : Cond.instantiable RX1 6 ∈ wsX7_init := by decide +kernel
theorem kX7_zX1 : Cond.initialized RX1 ∈ wsX7_init := by decide +kernel
theorem kX7_iX1 : Cond.initialized yX1_init.cls ∈ wsX7_init := by decide +kernel
theorem kX7_nX1 : Cond.instanceMethod yX1_init ∈ wsX7_init := by decide +kernel
theorem kX7_f26 : Cond.fieldLink RX7 26 "FloodBus" "latestFlood" "LFloodBus$Flooding;" ∈ wsX7_init := by decide +kernel
theorem kX7_c30 : Cond.classLink RX7 30 RX6 ∈ wsX7_init := by decide +kernel
theorem kX7_tX6 : Cond.instantiable RX6 2 ∈ wsX7_init := by decide +kernel
theorem kX7_zX6 : Cond.initialized RX6 ∈ wsX7_init := by decide +kernel
theorem kX7_iX6 : Cond.initialized yX6_init.cls ∈ wsX7_init := by decide +kernel
theorem kX7_lX6_32 : Cond.methodLink RX7 32 yX6_init ∈ wsX7_init := by decide +kernel
theorem kX7_nX6 : Cond.instanceMethod yX6_init ∈ wsX7_init := by decide +kernel
theorem kX7_f33 : Cond.fieldLink RX7 33 "FloodBus" "streams" "LFloodBus$StreamTable;" ∈ wsX7_init := by decide +kernel
theorem kX7_c37 : Cond.classLink RX7 37 RX4 ∈ wsX7_init := by decide +kernel
theorem kX7_tX4 : Cond.instantiable RX4 2 ∈ wsX7_init := by decide +kernel
theorem kX7_zX4 : Cond.initialized RX4 ∈ wsX7_init := by decide +kernel
theorem kX7_iX4 : Cond.initialized yX4_init.cls ∈ wsX7_init := by decide +kernel
theorem kX7_nX4 : Cond.instanceMethod yX4_init ∈ wsX7_init := by decide +kernel
theorem kX7_f40 : Cond.fieldLink RX7 40 "FloodBus" "schedule" "LFloodBus$Schedule;" ∈ wsX7_init := by decide +kernel
theorem kX7_f44 : Cond.fieldLink RX7 44 "FloodBus" "slotLimit" "I" ∈ wsX7_init := by decide +kernel
theorem kX7_f48 : Cond.fieldLink RX7 48 "FloodBus" "takeoverLimit" "I" ∈ wsX7_init := by decide +kernel
theorem kX7_f51 : Cond.fieldLink RX7 51 "FloodBus" "hostNode" "I" ∈ wsX7_init := by decide +kernel
theorem kX7_f54 : Cond.fieldLink RX7 54 "FloodBus" "nextRound" "I" ∈ wsX7_init := by decide +kernel
theorem kinX7_X0 : ∀ w ∈ wsX00, w ∈ wsX7_init := by decide +kernel
theorem kinX7_X7 : ∀ w ∈ wsX70, w ∈ wsX7_init := by decide +kernel
theorem kinX7_X3 : ∀ w ∈ wsX30, w ∈ wsX7_init := by decide +kernel
theorem kinX7_X1 : ∀ w ∈ wsX10, w ∈ wsX7_init := by decide +kernel
theorem kinX7_X6 : ∀ w ∈ wsX60, w ∈ wsX7_init := by decide +kernel
theorem kinX7_X4 : ∀ w ∈ wsX40, w ∈ wsX7_init := by decide +kernel
set_option maxRecDepth 100000 in
set_option maxHeartbeats 8000000 in
theorem KX7 (l : Launch) (D : va_G) (G : Gc) : Kn l yX7_init wsX7_init rmX7_init 65 511 D G 7 [.null, .null, .null, .null, .null, .int 0, .int 0, .int 0, .int 0] (fun u : SX7 => u.1) (ShX7 G) := by
  refine Kn.ofZ (cc := cX7_init) (maxL := 1) (by decide +kernel) rfl (Nat.le_of_ble_eq_true rfl) rfl ?_
  intro p e s m args below meth c A ws0 h0 X hr hlk
  refine Z_aload_n X (q := 0) rfl rfl dX7_init_0 (n := 1) rfl ?_
  refine Z_obj X kX7_o1 kX7_o2 kX7_o3 (by decide) (by decide) dX7_init_1 (n := 4) rfl ?_
  refine Z_aload_n X (q := 0) rfl rfl dX7_init_4 (n := 5) rfl ?_
  refine Z_new X (ci := 0) (fs := [.null, .int 0, .null, .int 0, .int 0, .int 0, .int 0, .int 0]) kinX7_X0 tyX0 tyX0_ok kX7_c7 kX7_tX0 kX7_zX0 rfl bornX0 (by decide) (by decide) dX7_init_5 (n := 8) rfl (fun q4 => ?_)
  refine Z_dup X rfl dX7_init_8 (n := 9) rfl ?_
  refine Z_callN X (KX0 l D G) gX7_init_X0_init_n9 rfl rfl rfl kX7_iX0 (by decide +kernel) kX7_nX0 rfl (by decide +kernel) ⟨by decide, by decide⟩ (Nat.le_of_ble_eq_true rfl) ⟨by decide, by decide⟩ dX7_init_9 (n := 12) rfl (fun u6 hu => ?_)
  have hu : u6.1 = q4 := hu
  subst hu
  refine Z_as (t2 := (h0, .inr (7, [.null, .null, .null, .null, .null, .int 0, .int 0, .int 0, .int 0])) :: (ShX0 G u6)) rfl ?_
  refine Z_putF X (q := 0) (k := 0) (ty := .object "FloodBus$Description") (t2 := (h0, .inr (7, [.ref u6.1, .null, .null, .null, .null, .int 0, .int 0, .int 0, .int 0])) :: (ShX0 G u6)) kinX7_X7 tyX7 tyX7_ok nmX7 rfl rfl (by decide) kX7_f10 rfl (by decide) rfl (by decide +kernel) rfl rfl (Nat.le_of_ble_eq_true rfl) rfl dX7_init_12 (n := 15) rfl ?_
  refine Z_aload_n X (q := 0) rfl rfl dX7_init_15 (n := 16) rfl ?_
  refine Z_new X (ci := 3) (fs := [.null, .int 0, .null, .null, .null, .null]) kinX7_X3 tyX3 tyX3_ok kX7_c16 kX7_tX3 kX7_zX3 rfl bornX3 (by decide) (by decide) dX7_init_16 (n := 19) rfl (fun q9 => ?_)
  refine Z_dup X rfl dX7_init_19 (n := 20) rfl ?_
  refine Z_callN X (KX3 l D G) gX7_init_X3_init_n18 rfl rfl rfl kX7_iX3 (by decide +kernel) kX7_nX3 rfl (by decide +kernel) ⟨by decide, by decide⟩ (Nat.le_of_ble_eq_true rfl) ⟨by decide, by decide⟩ dX7_init_20 (n := 23) rfl (fun u11 hu => ?_)
  have hu : u11.1 = q9 := hu
  subst hu
  refine Z_as (t2 := (h0, .inr (7, [.ref u6.1, .null, .null, .null, .null, .int 0, .int 0, .int 0, .int 0])) :: ((ShX0 G u6) ++ ShX3 G u11)) rfl ?_
  refine Z_putF X (q := 0) (k := 1) (ty := .object "FloodBus$Network") (t2 := (h0, .inr (7, [.ref u6.1, .ref u11.1, .null, .null, .null, .int 0, .int 0, .int 0, .int 0])) :: ((ShX0 G u6) ++ ShX3 G u11)) kinX7_X7 tyX7 tyX7_ok nmX7 rfl rfl (by decide) kX7_f19 rfl (by decide) rfl (by decide +kernel) rfl rfl (Nat.le_of_ble_eq_true rfl) rfl dX7_init_23 (n := 26) rfl ?_
  refine Z_aload_n X (q := 0) rfl rfl dX7_init_26 (n := 27) rfl ?_
  refine Z_new X (ci := 1) (fs := [.null, .null, .null, .int 0, .int 0, .int 0]) kinX7_X1 tyX1 tyX1_ok kX7_c23 kX7_tX1 kX7_zX1 rfl bornX1 (by decide) (by decide) dX7_init_27 (n := 30) rfl (fun q14 => ?_)
  refine Z_dup X rfl dX7_init_30 (n := 31) rfl ?_
  refine Z_callN X (KX1 l D G) gX7_init_X1_init_n25 rfl rfl rfl kX7_iX1 (by decide +kernel) kX7_nX1 rfl (by decide +kernel) ⟨by decide, by decide⟩ (Nat.le_of_ble_eq_true rfl) ⟨by decide, by decide⟩ dX7_init_31 (n := 34) rfl (fun u16 hu => ?_)
  have hu : u16.1 = q14 := hu
  subst hu
  refine Z_as (t2 := (h0, .inr (7, [.ref u6.1, .ref u11.1, .null, .null, .null, .int 0, .int 0, .int 0, .int 0])) :: (((ShX0 G u6) ++ ShX3 G u11) ++ ShX1 G u16)) rfl ?_
  refine Z_putF X (q := 0) (k := 2) (ty := .object "FloodBus$Flooding") (t2 := (h0, .inr (7, [.ref u6.1, .ref u11.1, .ref u16.1, .null, .null, .int 0, .int 0, .int 0, .int 0])) :: (((ShX0 G u6) ++ ShX3 G u11) ++ ShX1 G u16)) kinX7_X7 tyX7 tyX7_ok nmX7 rfl rfl (by decide) kX7_f26 rfl (by decide) rfl (by decide +kernel) rfl rfl (Nat.le_of_ble_eq_true rfl) rfl dX7_init_34 (n := 37) rfl ?_
  refine Z_aload_n X (q := 0) rfl rfl dX7_init_37 (n := 38) rfl ?_
  refine Z_new X (ci := 6) (fs := [.null, .int 0]) kinX7_X6 tyX6 tyX6_ok kX7_c30 kX7_tX6 kX7_zX6 rfl bornX6 (by decide) (by decide) dX7_init_38 (n := 41) rfl (fun q19 => ?_)
  refine Z_dup X rfl dX7_init_41 (n := 42) rfl ?_
  refine Z_call X (KX6 l D G) gX7_init_X6_init rfl rfl rfl kX7_iX6 kX7_lX6_32 kX7_nX6 rfl (by decide +kernel) ⟨by decide, by decide⟩ (Nat.le_of_ble_eq_true rfl) ⟨by decide, by decide⟩ dX7_init_42 (n := 45) rfl (fun u21 hu => ?_)
  have hu : u21.1 = q19 := hu
  subst hu
  refine Z_as (t2 := (h0, .inr (7, [.ref u6.1, .ref u11.1, .ref u16.1, .null, .null, .int 0, .int 0, .int 0, .int 0])) :: ((((ShX0 G u6) ++ ShX3 G u11) ++ ShX1 G u16) ++ ShX6 G u21)) rfl ?_
  refine Z_putF X (q := 0) (k := 3) (ty := .object "FloodBus$StreamTable") (t2 := (h0, .inr (7, [.ref u6.1, .ref u11.1, .ref u16.1, .ref u21.1, .null, .int 0, .int 0, .int 0, .int 0])) :: ((((ShX0 G u6) ++ ShX3 G u11) ++ ShX1 G u16) ++ ShX6 G u21)) kinX7_X7 tyX7 tyX7_ok nmX7 rfl rfl (by decide) kX7_f33 rfl (by decide) rfl (by decide +kernel) rfl rfl (Nat.le_of_ble_eq_true rfl) rfl dX7_init_45 (n := 48) rfl ?_
  refine Z_aload_n X (q := 0) rfl rfl dX7_init_48 (n := 49) rfl ?_
  refine Z_new X (ci := 4) (fs := [.null, .int 0]) kinX7_X4 tyX4 tyX4_ok kX7_c37 kX7_tX4 kX7_zX4 rfl bornX4 (by decide) (by decide) dX7_init_49 (n := 52) rfl (fun q24 => ?_)
  refine Z_dup X rfl dX7_init_52 (n := 53) rfl ?_
  refine Z_callN X (KX4 l D G) gX7_init_X4_init_n39 rfl rfl rfl kX7_iX4 (by decide +kernel) kX7_nX4 rfl (by decide +kernel) ⟨by decide, by decide⟩ (Nat.le_of_ble_eq_true rfl) ⟨by decide, by decide⟩ dX7_init_53 (n := 56) rfl (fun u26 hu => ?_)
  have hu : u26.1 = q24 := hu
  subst hu
  refine Z_as (t2 := (h0, .inr (7, [.ref u6.1, .ref u11.1, .ref u16.1, .ref u21.1, .null, .int 0, .int 0, .int 0, .int 0])) :: (((((ShX0 G u6) ++ ShX3 G u11) ++ ShX1 G u16) ++ ShX6 G u21) ++ ShX4 G u26)) rfl ?_
  refine Z_putF X (q := 0) (k := 4) (ty := .object "FloodBus$Schedule") (t2 := (h0, .inr (7, [.ref u6.1, .ref u11.1, .ref u16.1, .ref u21.1, .ref u26.1, .int 0, .int 0, .int 0, .int 0])) :: (((((ShX0 G u6) ++ ShX3 G u11) ++ ShX1 G u16) ++ ShX6 G u21) ++ ShX4 G u26)) kinX7_X7 tyX7 tyX7_ok nmX7 rfl rfl (by decide) kX7_f40 rfl (by decide) rfl (by decide +kernel) rfl rfl (Nat.le_of_ble_eq_true rfl) rfl dX7_init_56 (n := 59) rfl ?_
  refine Z_aload_n X (q := 0) rfl rfl dX7_init_59 (n := 60) rfl ?_
  refine Z_iconst X (v := 3) (by decide) dX7_init_60 (n := 61) rfl ?_
  refine Z_put X (q := 0) (k := 5) (ty := .int) (t2 := (h0, .inr (7, [.ref u6.1, .ref u11.1, .ref u16.1, .ref u21.1, .ref u26.1, .int 3, .int 0, .int 0, .int 0])) :: (((((ShX0 G u6) ++ ShX3 G u11) ++ ShX1 G u16) ++ ShX6 G u21) ++ ShX4 G u26)) kinX7_X7 tyX7 tyX7_ok nmX7 rfl rfl (by decide) kX7_f44 rfl (by decide +kernel) rfl rfl (Nat.le_of_ble_eq_true rfl) rfl dX7_init_61 (n := 64) rfl ?_
  refine Z_aload_n X (q := 0) rfl rfl dX7_init_64 (n := 65) rfl ?_
  refine Z_iconst X (v := 2) (by decide) dX7_init_65 (n := 66) rfl ?_
  refine Z_put X (q := 0) (k := 6) (ty := .int) (t2 := (h0, .inr (7, [.ref u6.1, .ref u11.1, .ref u16.1, .ref u21.1, .ref u26.1, .int 3, .int 2, .int 0, .int 0])) :: (((((ShX0 G u6) ++ ShX3 G u11) ++ ShX1 G u16) ++ ShX6 G u21) ++ ShX4 G u26)) kinX7_X7 tyX7 tyX7_ok nmX7 rfl rfl (by decide) kX7_f48 rfl (by decide +kernel) rfl rfl (Nat.le_of_ble_eq_true rfl) rfl dX7_init_66 (n := 69) rfl ?_
  refine Z_aload_n X (q := 0) rfl rfl dX7_init_69 (n := 70) rfl ?_
  refine Z_iconst X (v := (-1)) (by decide) dX7_init_70 (n := 71) rfl ?_
  refine Z_put X (q := 0) (k := 7) (ty := .int) (t2 := (h0, .inr (7, [.ref u6.1, .ref u11.1, .ref u16.1, .ref u21.1, .ref u26.1, .int 3, .int 2, .int (-1), .int 0])) :: (((((ShX0 G u6) ++ ShX3 G u11) ++ ShX1 G u16) ++ ShX6 G u21) ++ ShX4 G u26)) kinX7_X7 tyX7 tyX7_ok nmX7 rfl rfl (by decide) kX7_f51 rfl (by decide +kernel) rfl rfl (Nat.le_of_ble_eq_true rfl) rfl dX7_init_71 (n := 74) rfl ?_
  refine Z_aload_n X (q := 0) rfl rfl dX7_init_74 (n := 75) rfl ?_
  refine Z_iconst X (v := 0) (by decide) dX7_init_75 (n := 76) rfl ?_
  refine Z_put X (q := 0) (k := 8) (ty := .int) (t2 := (h0, .inr (7, [.ref u6.1, .ref u11.1, .ref u16.1, .ref u21.1, .ref u26.1, .int 3, .int 2, .int (-1), .int 0])) :: (((((ShX0 G u6) ++ ShX3 G u11) ++ ShX1 G u16) ++ ShX6 G u21) ++ ShX4 G u26)) kinX7_X7 tyX7 tyX7_ok nmX7 rfl rfl (by decide) kX7_f54 rfl (by decide +kernel) rfl rfl (Nat.le_of_ble_eq_true rfl) rfl dX7_init_76 (n := 79) rfl ?_
  exact Z_ret X hr hlk (h0, u6, u11, u16, u21, u26) rfl rfl rfl rfl dX7_init_79
