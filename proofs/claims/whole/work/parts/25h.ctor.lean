abbrev SX6 : Type := Nat × Nat × (Nat × Nat) × (Nat × Nat) × (Nat × Nat) × (Nat × Nat) × (Nat × Nat) × (Nat × Nat)
def ShX6 (G : Gc) (u : SX6) : va_W := (u.1, .inr (6, [.ref u.2.1, .int 0])) :: (u.2.1, .inl (G.2.2.1, 6, .inr (.inr (.inr (.inr (va_up (va_up (va_up (va_up (va_up (va_up (fun _ => none) (Int32.toNatClampNeg 0) (some u.2.2.1.1)) (Int32.toNatClampNeg 1) (some u.2.2.2.1.1)) (Int32.toNatClampNeg 2) (some u.2.2.2.2.1.1)) (Int32.toNatClampNeg 3) (some u.2.2.2.2.2.1.1)) (Int32.toNatClampNeg 4) (some u.2.2.2.2.2.2.1.1)) (Int32.toNatClampNeg 5) (some u.2.2.2.2.2.2.2.1))))))) :: ((((((ShX5 G u.2.2.1) ++ ShX5 G u.2.2.2.1) ++ ShX5 G u.2.2.2.2.1) ++ ShX5 G u.2.2.2.2.2.1) ++ ShX5 G u.2.2.2.2.2.2.1) ++ ShX5 G u.2.2.2.2.2.2.2)
abbrev rmX6_init : Room := { frames := 2, cells := 13, slots := 72, locals := 32 }
theorem kX6_o1 : Cond.methodLink RX6 3 objectInit ∈ wsX6_init := by decide +kernel
theorem kX6_o2 : Cond.instanceMethod objectInit ∈ wsX6_init := by decide +kernel
theorem kX6_o3 : Cond.code objectInit ⟨#[0xb1]⟩ 1 none ∈ wsX6_init := by decide +kernel
theorem kX6_c9 : Cond.classLink RX6 9 RX5 ∈ wsX6_init := by decide +kernel
theorem kX6_f11 : Cond.fieldLink RX6 11 "FloodBus$StreamTable" "rows" "[LFloodBus$Stream;" ∈ wsX6_init := by decide +kernel
theorem kX6_f17 : Cond.fieldLink RX6 17 "FloodBus$StreamTable" "count" "I" ∈ wsX6_init := by decide +kernel
theorem kX6_tX5 : Cond.instantiable RX5 7 ∈ wsX6_init := by decide +kernel
theorem kX6_zX5 : Cond.initialized RX5 ∈ wsX6_init := by decide +kernel
theorem kX6_iX5 : Cond.initialized yX5_init.cls ∈ wsX6_init := by decide +kernel
theorem kX6_nX5 : Cond.instanceMethod yX5_init ∈ wsX6_init := by decide +kernel
theorem kinX6_X6 : ∀ w ∈ wsX60, w ∈ wsX6_init := by decide +kernel
theorem kinX6_X5 : ∀ w ∈ wsX50, w ∈ wsX6_init := by decide +kernel
set_option maxRecDepth 100000 in
set_option maxHeartbeats 8000000 in
theorem KX6 (l : Launch) (D : va_G) (G : Gc) : Kn l yX6_init wsX6_init rmX6_init 13 72 D G 6 [.null, .int 0] (fun u : SX6 => u.1) (ShX6 G) := by
  refine Kn.ofZ (cc := cX6_init) (maxL := 2) (by decide +kernel) rfl (Nat.le_of_ble_eq_true rfl) rfl ?_
  intro p e s m args below meth c A ws0 h0 X hr hlk
  refine Z_aload_n X (q := 0) rfl rfl dX6_init_0 (n := 1) rfl ?_
  refine Z_obj X kX6_o1 kX6_o2 kX6_o3 (by decide) (by decide) dX6_init_1 (n := 4) rfl ?_
  refine Z_aload_n X (q := 0) rfl rfl dX6_init_4 (n := 5) rfl ?_
  refine Z_bipush X (v := 6) (by decide) dX6_init_5 (n := 7) rfl ?_
  refine Z_news X (N := 6) kX6_c9 (by decide) (by decide) (by decide) (by decide) (by decide) dX6_init_7 (n := 10) rfl (fun q5 => ?_)
  refine Z_as (t2 := (h0, .inr (6, [.null, .int 0])) :: (q5, .inl (G.2.2.1, 6, .inr (.inr (.inr (.inr (fun _ => none)))))) :: []) rfl ?_
  refine Z_putF X (q := 0) (k := 0) (ty := .array (.object "FloodBus$Stream")) (t2 := (h0, .inr (6, [.ref q5, .int 0])) :: (q5, .inl (G.2.2.1, 6, .inr (.inr (.inr (.inr (fun _ => none)))))) :: []) kinX6_X6 tyX6 tyX6_ok nmX6 rfl rfl (by decide) kX6_f11 rfl (by decide) rfl (by decide +kernel) rfl rfl (Nat.le_of_ble_eq_true rfl) rfl dX6_init_10 (n := 13) rfl ?_
  refine Z_aload_n X (q := 0) rfl rfl dX6_init_13 (n := 14) rfl ?_
  refine Z_iconst X (v := 0) (by decide) dX6_init_14 (n := 15) rfl ?_
  refine Z_put X (q := 0) (k := 1) (ty := .int) (t2 := (h0, .inr (6, [.ref q5, .int 0])) :: (q5, .inl (G.2.2.1, 6, .inr (.inr (.inr (.inr (fun _ => none)))))) :: []) kinX6_X6 tyX6 tyX6_ok nmX6 rfl rfl (by decide) kX6_f17 rfl (by decide +kernel) rfl rfl (Nat.le_of_ble_eq_true rfl) rfl dX6_init_15 (n := 18) rfl ?_
  refine Z_iconst X (v := 0) (by decide) dX6_init_18 (n := 19) rfl ?_
  refine Z_istore_n X (L2 := [(1, .int 0), (0, .ref h0)]) rfl (by decide) rfl dX6_init_19 (n := 20) rfl ?_
  refine Z_iload_n X (q := 0) rfl rfl dX6_init_20 (n := 21) rfl ?_
  refine Z_bipush X (v := 6) (by decide) dX6_init_21 (n := 23) rfl ?_
  refine Z_icmp_ge X dX6_init_23 (tgt := 45) (n := 26) (by decide) rfl (fun h => absurd h (by decide)) (fun _ => ?_)
  refine Z_aload_n X (q := 1) rfl rfl dX6_init_26 (n := 27) rfl ?_
  refine Z_getR X (q := 0) (k := 0) kinX6_X6 rfl rfl (by decide) kX6_f11 rfl dX6_init_27 (n := 30) rfl ?_
  refine Z_iload_n X (q := 0) rfl rfl dX6_init_30 (n := 31) rfl ?_
  refine Z_new X (ci := 5) (fs := [.null, .int 0, .int 0, .int 0, .int 0, .int 0, .int 0]) kinX6_X5 tyX5 tyX5_ok kX6_c9 kX6_tX5 kX6_zX5 rfl bornX5 (by decide) (by decide) dX6_init_31 (n := 34) rfl (fun q18 => ?_)
  refine Z_dup X rfl dX6_init_34 (n := 35) rfl ?_
  refine Z_callN X (KX5 l D G) gX6_init_X5_init_n21 rfl rfl rfl kX6_iX5 (by decide +kernel) kX6_nX5 rfl (by decide +kernel) ⟨by decide, by decide⟩ (Nat.le_of_ble_eq_true rfl) ⟨by decide, by decide⟩ dX6_init_35 (n := 38) rfl (fun u20 hu => ?_)
  have hu : u20.1 = q18 := hu
  subst hu
  refine Z_as (t2 := (h0, .inr (6, [.ref q5, .int 0])) :: (q5, .inl (G.2.2.1, 6, .inr (.inr (.inr (.inr (fun _ => none)))))) :: (ShX5 G u20)) rfl ?_
  refine Z_aast X (q := 1) (qk := 2) (t2 := (h0, .inr (6, [.ref q5, .int 0])) :: (q5, .inl (G.2.2.1, 6, .inr (.inr (.inr (.inr (va_up (fun _ => none) (Int32.toNatClampNeg 0) (some u20.1))))))) :: (ShX5 G u20)) rfl rfl (by decide) rfl dX6_init_38 (n := 39) rfl ?_
  refine Z_iinc X (q := 0) (d := 1) (y := 1) (L2 := [(1, .int 1), (0, .ref h0)]) rfl (by decide) (by decide) (by decide) rfl dX6_init_39 (n := 42) rfl ?_
  refine Z_goto X dX6_init_42 (tgt := 20) (by decide) ?_
  refine Z_iload_n X (q := 0) rfl rfl dX6_init_20 (n := 21) rfl ?_
  refine Z_bipush X (v := 6) (by decide) dX6_init_21 (n := 23) rfl ?_
  refine Z_icmp_ge X dX6_init_23 (tgt := 45) (n := 26) (by decide) rfl (fun h => absurd h (by decide)) (fun _ => ?_)
  refine Z_aload_n X (q := 1) rfl rfl dX6_init_26 (n := 27) rfl ?_
  refine Z_getR X (q := 0) (k := 0) kinX6_X6 rfl rfl (by decide) kX6_f11 rfl dX6_init_27 (n := 30) rfl ?_
  refine Z_iload_n X (q := 0) rfl rfl dX6_init_30 (n := 31) rfl ?_
  refine Z_new X (ci := 5) (fs := [.null, .int 0, .int 0, .int 0, .int 0, .int 0, .int 0]) kinX6_X5 tyX5 tyX5_ok kX6_c9 kX6_tX5 kX6_zX5 rfl bornX5 (by decide) (by decide) dX6_init_31 (n := 34) rfl (fun q30 => ?_)
  refine Z_dup X rfl dX6_init_34 (n := 35) rfl ?_
  refine Z_callN X (KX5 l D G) gX6_init_X5_init_n21 rfl rfl rfl kX6_iX5 (by decide +kernel) kX6_nX5 rfl (by decide +kernel) ⟨by decide, by decide⟩ (Nat.le_of_ble_eq_true rfl) ⟨by decide, by decide⟩ dX6_init_35 (n := 38) rfl (fun u32 hu => ?_)
  have hu : u32.1 = q30 := hu
  subst hu
  refine Z_as (t2 := (h0, .inr (6, [.ref q5, .int 0])) :: (q5, .inl (G.2.2.1, 6, .inr (.inr (.inr (.inr (va_up (fun _ => none) (Int32.toNatClampNeg 0) (some u20.1))))))) :: ((ShX5 G u20) ++ ShX5 G u32)) rfl ?_
  refine Z_aast X (q := 1) (qk := 4) (t2 := (h0, .inr (6, [.ref q5, .int 0])) :: (q5, .inl (G.2.2.1, 6, .inr (.inr (.inr (.inr (va_up (va_up (fun _ => none) (Int32.toNatClampNeg 0) (some u20.1)) (Int32.toNatClampNeg 1) (some u32.1))))))) :: ((ShX5 G u20) ++ ShX5 G u32)) rfl rfl (by decide) rfl dX6_init_38 (n := 39) rfl ?_
  refine Z_iinc X (q := 0) (d := 1) (y := 2) (L2 := [(1, .int 2), (0, .ref h0)]) rfl (by decide) (by decide) (by decide) rfl dX6_init_39 (n := 42) rfl ?_
  refine Z_goto X dX6_init_42 (tgt := 20) (by decide) ?_
  refine Z_iload_n X (q := 0) rfl rfl dX6_init_20 (n := 21) rfl ?_
  refine Z_bipush X (v := 6) (by decide) dX6_init_21 (n := 23) rfl ?_
  refine Z_icmp_ge X dX6_init_23 (tgt := 45) (n := 26) (by decide) rfl (fun h => absurd h (by decide)) (fun _ => ?_)
  refine Z_aload_n X (q := 1) rfl rfl dX6_init_26 (n := 27) rfl ?_
  refine Z_getR X (q := 0) (k := 0) kinX6_X6 rfl rfl (by decide) kX6_f11 rfl dX6_init_27 (n := 30) rfl ?_
  refine Z_iload_n X (q := 0) rfl rfl dX6_init_30 (n := 31) rfl ?_
  refine Z_new X (ci := 5) (fs := [.null, .int 0, .int 0, .int 0, .int 0, .int 0, .int 0]) kinX6_X5 tyX5 tyX5_ok kX6_c9 kX6_tX5 kX6_zX5 rfl bornX5 (by decide) (by decide) dX6_init_31 (n := 34) rfl (fun q42 => ?_)
  refine Z_dup X rfl dX6_init_34 (n := 35) rfl ?_
  refine Z_callN X (KX5 l D G) gX6_init_X5_init_n21 rfl rfl rfl kX6_iX5 (by decide +kernel) kX6_nX5 rfl (by decide +kernel) ⟨by decide, by decide⟩ (Nat.le_of_ble_eq_true rfl) ⟨by decide, by decide⟩ dX6_init_35 (n := 38) rfl (fun u44 hu => ?_)
  have hu : u44.1 = q42 := hu
  subst hu
  refine Z_as (t2 := (h0, .inr (6, [.ref q5, .int 0])) :: (q5, .inl (G.2.2.1, 6, .inr (.inr (.inr (.inr (va_up (va_up (fun _ => none) (Int32.toNatClampNeg 0) (some u20.1)) (Int32.toNatClampNeg 1) (some u32.1))))))) :: (((ShX5 G u20) ++ ShX5 G u32) ++ ShX5 G u44)) rfl ?_
  refine Z_aast X (q := 1) (qk := 6) (t2 := (h0, .inr (6, [.ref q5, .int 0])) :: (q5, .inl (G.2.2.1, 6, .inr (.inr (.inr (.inr (va_up (va_up (va_up (fun _ => none) (Int32.toNatClampNeg 0) (some u20.1)) (Int32.toNatClampNeg 1) (some u32.1)) (Int32.toNatClampNeg 2) (some u44.1))))))) :: (((ShX5 G u20) ++ ShX5 G u32) ++ ShX5 G u44)) rfl rfl (by decide) rfl dX6_init_38 (n := 39) rfl ?_
  refine Z_iinc X (q := 0) (d := 1) (y := 3) (L2 := [(1, .int 3), (0, .ref h0)]) rfl (by decide) (by decide) (by decide) rfl dX6_init_39 (n := 42) rfl ?_
  refine Z_goto X dX6_init_42 (tgt := 20) (by decide) ?_
  refine Z_iload_n X (q := 0) rfl rfl dX6_init_20 (n := 21) rfl ?_
  refine Z_bipush X (v := 6) (by decide) dX6_init_21 (n := 23) rfl ?_
  refine Z_icmp_ge X dX6_init_23 (tgt := 45) (n := 26) (by decide) rfl (fun h => absurd h (by decide)) (fun _ => ?_)
  refine Z_aload_n X (q := 1) rfl rfl dX6_init_26 (n := 27) rfl ?_
  refine Z_getR X (q := 0) (k := 0) kinX6_X6 rfl rfl (by decide) kX6_f11 rfl dX6_init_27 (n := 30) rfl ?_
  refine Z_iload_n X (q := 0) rfl rfl dX6_init_30 (n := 31) rfl ?_
  refine Z_new X (ci := 5) (fs := [.null, .int 0, .int 0, .int 0, .int 0, .int 0, .int 0]) kinX6_X5 tyX5 tyX5_ok kX6_c9 kX6_tX5 kX6_zX5 rfl bornX5 (by decide) (by decide) dX6_init_31 (n := 34) rfl (fun q54 => ?_)
  refine Z_dup X rfl dX6_init_34 (n := 35) rfl ?_
  refine Z_callN X (KX5 l D G) gX6_init_X5_init_n21 rfl rfl rfl kX6_iX5 (by decide +kernel) kX6_nX5 rfl (by decide +kernel) ⟨by decide, by decide⟩ (Nat.le_of_ble_eq_true rfl) ⟨by decide, by decide⟩ dX6_init_35 (n := 38) rfl (fun u56 hu => ?_)
  have hu : u56.1 = q54 := hu
  subst hu
  refine Z_as (t2 := (h0, .inr (6, [.ref q5, .int 0])) :: (q5, .inl (G.2.2.1, 6, .inr (.inr (.inr (.inr (va_up (va_up (va_up (fun _ => none) (Int32.toNatClampNeg 0) (some u20.1)) (Int32.toNatClampNeg 1) (some u32.1)) (Int32.toNatClampNeg 2) (some u44.1))))))) :: ((((ShX5 G u20) ++ ShX5 G u32) ++ ShX5 G u44) ++ ShX5 G u56)) rfl ?_
  refine Z_aast X (q := 1) (qk := 8) (t2 := (h0, .inr (6, [.ref q5, .int 0])) :: (q5, .inl (G.2.2.1, 6, .inr (.inr (.inr (.inr (va_up (va_up (va_up (va_up (fun _ => none) (Int32.toNatClampNeg 0) (some u20.1)) (Int32.toNatClampNeg 1) (some u32.1)) (Int32.toNatClampNeg 2) (some u44.1)) (Int32.toNatClampNeg 3) (some u56.1))))))) :: ((((ShX5 G u20) ++ ShX5 G u32) ++ ShX5 G u44) ++ ShX5 G u56)) rfl rfl (by decide) rfl dX6_init_38 (n := 39) rfl ?_
  refine Z_iinc X (q := 0) (d := 1) (y := 4) (L2 := [(1, .int 4), (0, .ref h0)]) rfl (by decide) (by decide) (by decide) rfl dX6_init_39 (n := 42) rfl ?_
  refine Z_goto X dX6_init_42 (tgt := 20) (by decide) ?_
  refine Z_iload_n X (q := 0) rfl rfl dX6_init_20 (n := 21) rfl ?_
  refine Z_bipush X (v := 6) (by decide) dX6_init_21 (n := 23) rfl ?_
  refine Z_icmp_ge X dX6_init_23 (tgt := 45) (n := 26) (by decide) rfl (fun h => absurd h (by decide)) (fun _ => ?_)
  refine Z_aload_n X (q := 1) rfl rfl dX6_init_26 (n := 27) rfl ?_
  refine Z_getR X (q := 0) (k := 0) kinX6_X6 rfl rfl (by decide) kX6_f11 rfl dX6_init_27 (n := 30) rfl ?_
  refine Z_iload_n X (q := 0) rfl rfl dX6_init_30 (n := 31) rfl ?_
  refine Z_new X (ci := 5) (fs := [.null, .int 0, .int 0, .int 0, .int 0, .int 0, .int 0]) kinX6_X5 tyX5 tyX5_ok kX6_c9 kX6_tX5 kX6_zX5 rfl bornX5 (by decide) (by decide) dX6_init_31 (n := 34) rfl (fun q66 => ?_)
  refine Z_dup X rfl dX6_init_34 (n := 35) rfl ?_
  refine Z_callN X (KX5 l D G) gX6_init_X5_init_n21 rfl rfl rfl kX6_iX5 (by decide +kernel) kX6_nX5 rfl (by decide +kernel) ⟨by decide, by decide⟩ (Nat.le_of_ble_eq_true rfl) ⟨by decide, by decide⟩ dX6_init_35 (n := 38) rfl (fun u68 hu => ?_)
  have hu : u68.1 = q66 := hu
  subst hu
  refine Z_as (t2 := (h0, .inr (6, [.ref q5, .int 0])) :: (q5, .inl (G.2.2.1, 6, .inr (.inr (.inr (.inr (va_up (va_up (va_up (va_up (fun _ => none) (Int32.toNatClampNeg 0) (some u20.1)) (Int32.toNatClampNeg 1) (some u32.1)) (Int32.toNatClampNeg 2) (some u44.1)) (Int32.toNatClampNeg 3) (some u56.1))))))) :: (((((ShX5 G u20) ++ ShX5 G u32) ++ ShX5 G u44) ++ ShX5 G u56) ++ ShX5 G u68)) rfl ?_
  refine Z_aast X (q := 1) (qk := 10) (t2 := (h0, .inr (6, [.ref q5, .int 0])) :: (q5, .inl (G.2.2.1, 6, .inr (.inr (.inr (.inr (va_up (va_up (va_up (va_up (va_up (fun _ => none) (Int32.toNatClampNeg 0) (some u20.1)) (Int32.toNatClampNeg 1) (some u32.1)) (Int32.toNatClampNeg 2) (some u44.1)) (Int32.toNatClampNeg 3) (some u56.1)) (Int32.toNatClampNeg 4) (some u68.1))))))) :: (((((ShX5 G u20) ++ ShX5 G u32) ++ ShX5 G u44) ++ ShX5 G u56) ++ ShX5 G u68)) rfl rfl (by decide) rfl dX6_init_38 (n := 39) rfl ?_
  refine Z_iinc X (q := 0) (d := 1) (y := 5) (L2 := [(1, .int 5), (0, .ref h0)]) rfl (by decide) (by decide) (by decide) rfl dX6_init_39 (n := 42) rfl ?_
  refine Z_goto X dX6_init_42 (tgt := 20) (by decide) ?_
  refine Z_iload_n X (q := 0) rfl rfl dX6_init_20 (n := 21) rfl ?_
  refine Z_bipush X (v := 6) (by decide) dX6_init_21 (n := 23) rfl ?_
  refine Z_icmp_ge X dX6_init_23 (tgt := 45) (n := 26) (by decide) rfl (fun h => absurd h (by decide)) (fun _ => ?_)
  refine Z_aload_n X (q := 1) rfl rfl dX6_init_26 (n := 27) rfl ?_
  refine Z_getR X (q := 0) (k := 0) kinX6_X6 rfl rfl (by decide) kX6_f11 rfl dX6_init_27 (n := 30) rfl ?_
  refine Z_iload_n X (q := 0) rfl rfl dX6_init_30 (n := 31) rfl ?_
  refine Z_new X (ci := 5) (fs := [.null, .int 0, .int 0, .int 0, .int 0, .int 0, .int 0]) kinX6_X5 tyX5 tyX5_ok kX6_c9 kX6_tX5 kX6_zX5 rfl bornX5 (by decide) (by decide) dX6_init_31 (n := 34) rfl (fun q78 => ?_)
  refine Z_dup X rfl dX6_init_34 (n := 35) rfl ?_
  refine Z_callN X (KX5 l D G) gX6_init_X5_init_n21 rfl rfl rfl kX6_iX5 (by decide +kernel) kX6_nX5 rfl (by decide +kernel) ⟨by decide, by decide⟩ (Nat.le_of_ble_eq_true rfl) ⟨by decide, by decide⟩ dX6_init_35 (n := 38) rfl (fun u80 hu => ?_)
  have hu : u80.1 = q78 := hu
  subst hu
  refine Z_as (t2 := (h0, .inr (6, [.ref q5, .int 0])) :: (q5, .inl (G.2.2.1, 6, .inr (.inr (.inr (.inr (va_up (va_up (va_up (va_up (va_up (fun _ => none) (Int32.toNatClampNeg 0) (some u20.1)) (Int32.toNatClampNeg 1) (some u32.1)) (Int32.toNatClampNeg 2) (some u44.1)) (Int32.toNatClampNeg 3) (some u56.1)) (Int32.toNatClampNeg 4) (some u68.1))))))) :: ((((((ShX5 G u20) ++ ShX5 G u32) ++ ShX5 G u44) ++ ShX5 G u56) ++ ShX5 G u68) ++ ShX5 G u80)) rfl ?_
  refine Z_aast X (q := 1) (qk := 12) (t2 := (h0, .inr (6, [.ref q5, .int 0])) :: (q5, .inl (G.2.2.1, 6, .inr (.inr (.inr (.inr (va_up (va_up (va_up (va_up (va_up (va_up (fun _ => none) (Int32.toNatClampNeg 0) (some u20.1)) (Int32.toNatClampNeg 1) (some u32.1)) (Int32.toNatClampNeg 2) (some u44.1)) (Int32.toNatClampNeg 3) (some u56.1)) (Int32.toNatClampNeg 4) (some u68.1)) (Int32.toNatClampNeg 5) (some u80.1))))))) :: ((((((ShX5 G u20) ++ ShX5 G u32) ++ ShX5 G u44) ++ ShX5 G u56) ++ ShX5 G u68) ++ ShX5 G u80)) rfl rfl (by decide) rfl dX6_init_38 (n := 39) rfl ?_
  refine Z_iinc X (q := 0) (d := 1) (y := 6) (L2 := [(1, .int 6), (0, .ref h0)]) rfl (by decide) (by decide) (by decide) rfl dX6_init_39 (n := 42) rfl ?_
  refine Z_goto X dX6_init_42 (tgt := 20) (by decide) ?_
  refine Z_iload_n X (q := 0) rfl rfl dX6_init_20 (n := 21) rfl ?_
  refine Z_bipush X (v := 6) (by decide) dX6_init_21 (n := 23) rfl ?_
  refine Z_icmp_ge X dX6_init_23 (tgt := 45) (n := 26) (by decide) rfl (fun _ => ?_) (fun h => absurd (by decide) h)
  exact Z_ret X hr hlk (h0, q5, u20, u32, u44, u56, u68, u80) rfl rfl rfl rfl dX6_init_45
