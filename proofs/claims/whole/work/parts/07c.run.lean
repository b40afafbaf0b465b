abbrev rmX7_packetAt : Room := { frames := 1, cells := 0, slots := 0, locals := 21 }
theorem wX7_packetAt_19 : Cond.fieldLink RX7 19 "FloodBus" "network" "LFloodBus$Network;" ∈ wsX7_packetAt := by decide +kernel
theorem wX7_packetAt_26 : Cond.fieldLink RX7 26 "FloodBus" "latestFlood" "LFloodBus$Flooding;" ∈ wsX7_packetAt := by decide +kernel
theorem wX7_packetAt_121 : Cond.fieldLink RX7 121 "FloodBus$Flooding" "packet" "[I" ∈ wsX7_packetAt := by decide +kernel
theorem inX7_packetAt_X7 : ∀ w ∈ wsX70, w ∈ wsX7_packetAt := by decide +kernel
theorem inX7_packetAt_X1 : ∀ w ∈ wsX10, w ∈ wsX7_packetAt := by decide +kernel
set_option maxRecDepth 100000 in
set_option maxHeartbeats 4000000 in
theorem TX7_packetAt (l : Launch) (D : va_G) (G : Gc) (ρ : Nat → Nat) (C : Xm) (N : Nm)  (a1 : Int32) (K : Int32 → Prop) (h : fX7_packetAt C a1 K) : Ki l yX7_packetAt wsX7_packetAt rmX7_packetAt D G ρ [.ref (ρ 0), .int a1] C N (fun r C1 N1 => K r ∧ C1 = C ∧ N1 = N) := by
  refine Ki.ofV (cc := cX7_packetAt) (maxL := 2) (ret := (some .int)) (by decide +kernel) rfl (Nat.le_of_ble_eq_true rfl) ?_
  intro p e s m args below meth c X hr hlk
  show V p l e rmX7_packetAt s m args below meth c D G ρ (WA ρ s.heap.size) s.heap 2 0 0 (Qi D G ρ s args below (fun r C1 N1 => K r ∧ C1 = C ∧ N1 = N)) 0 [(0, .ref (ρ 0)), (1, .int a1)] [] C N
  unfold fX7_packetAt at h
  refine V_aload_n X (q := 0) rfl rfl dX7_packetAt_0 (n := 1) rfl ?_
  refine V_getR X (by decide) rfl rfl (k := 1) inX7_packetAt_X7 rfl (by decide) wX7_packetAt_19 dX7_packetAt_1 (n := 4) rfl ?_
  refine V_iload_n X (q := 1) rfl rfl dX7_packetAt_4 (n := 5) rfl ?_
  refine V_calli X (As := [.int a1]) (rest := []) (nA := 1) (i := 22) (q := (RX3, TX3, 6)) (TX3_has l D G ρ C N a1 _ h) gX7_packetAt_X3_has rfl rfl rfl (by decide +kernel) rfl ⟨by decide, by decide⟩ (Nat.le_of_ble_eq_true rfl) ⟨by decide, by decide⟩ (by decide) rfl rfl rfl dX7_packetAt_5 (n := 8) rfl (fun r1 M1 M0 h => ?_)
  obtain ⟨h, eo, eo2⟩ := h
  rw [eo, eo2]
  refine jn_o h (fun j2 ej2 h => ?_)
  have kj2 : ∀ (x5 : Int32), j2 x5 → V p l e rmX7_packetAt s m args below meth c D G ρ (WA ρ s.heap.size) s.heap 2 0 0 (Qi D G ρ s args below (fun r C1 N1 => K r ∧ C1 = C ∧ N1 = N)) 26 [(0, .ref (ρ 0)), (1, .int a1)] [.int x5] C N := by
    intro x5 h
    rw [ej2] at h
    try dsimp only at h
    exact V_iret X hr hlk dX7_packetAt_26 ⟨h, rfl, rfl⟩
  refine V_if_eq X dX7_packetAt_8 (tgt := 23) (n := 11) (by decide) rfl (fun c3 => ?_) (fun c3 => ?_)
  · have h := ite_t h c3
    refine V_sipush X (v := -1001) (by decide) dX7_packetAt_23 (n := 26) rfl ?_
    exact kj2 (-1001 : Int32) h
  · have h := ite_f h c3
    refine V_aload_n X (q := 0) rfl rfl dX7_packetAt_11 (n := 12) rfl ?_
    refine V_getR X (by decide) rfl rfl (k := 2) inX7_packetAt_X7 rfl (by decide) wX7_packetAt_26 dX7_packetAt_12 (n := 15) rfl ?_
    refine V_getR X (by decide) rfl rfl (k := 1) inX7_packetAt_X1 rfl (by decide) wX7_packetAt_121 dX7_packetAt_15 (n := 18) rfl ?_
    refine V_iload_n X (q := 1) rfl rfl dX7_packetAt_18 (n := 19) rfl ?_
    obtain ⟨g4, h⟩ := h
    refine V_ildX X (by decide) rfl g4 dX7_packetAt_19 (n := 20) rfl ?_
    refine V_goto X dX7_packetAt_20 (tgt := 26) (by decide) ?_
    exact kj2 (C 48 (Int32.toNatClampNeg a1)) h
abbrev rmX7_hopCount : Room := { frames := 1, cells := 0, slots := 0, locals := 21 }
theorem wX7_hopCount_19 : Cond.fieldLink RX7 19 "FloodBus" "network" "LFloodBus$Network;" ∈ wsX7_hopCount := by decide +kernel
theorem wX7_hopCount_26 : Cond.fieldLink RX7 26 "FloodBus" "latestFlood" "LFloodBus$Flooding;" ∈ wsX7_hopCount := by decide +kernel
theorem wX7_hopCount_124 : Cond.fieldLink RX7 124 "FloodBus$Flooding" "hops" "[I" ∈ wsX7_hopCount := by decide +kernel
theorem inX7_hopCount_X7 : ∀ w ∈ wsX70, w ∈ wsX7_hopCount := by decide +kernel
theorem inX7_hopCount_X1 : ∀ w ∈ wsX10, w ∈ wsX7_hopCount := by decide +kernel
set_option maxRecDepth 100000 in
set_option maxHeartbeats 4000000 in
theorem TX7_hopCount (l : Launch) (D : va_G) (G : Gc) (ρ : Nat → Nat) (C : Xm) (N : Nm)  (a1 : Int32) (K : Int32 → Prop) (h : fX7_hopCount C a1 K) : Ki l yX7_hopCount wsX7_hopCount rmX7_hopCount D G ρ [.ref (ρ 0), .int a1] C N (fun r C1 N1 => K r ∧ C1 = C ∧ N1 = N) := by
  refine Ki.ofV (cc := cX7_hopCount) (maxL := 2) (ret := (some .int)) (by decide +kernel) rfl (Nat.le_of_ble_eq_true rfl) ?_
  intro p e s m args below meth c X hr hlk
  show V p l e rmX7_hopCount s m args below meth c D G ρ (WA ρ s.heap.size) s.heap 2 0 0 (Qi D G ρ s args below (fun r C1 N1 => K r ∧ C1 = C ∧ N1 = N)) 0 [(0, .ref (ρ 0)), (1, .int a1)] [] C N
  unfold fX7_hopCount at h
  refine V_aload_n X (q := 0) rfl rfl dX7_hopCount_0 (n := 1) rfl ?_
  refine V_getR X (by decide) rfl rfl (k := 1) inX7_hopCount_X7 rfl (by decide) wX7_hopCount_19 dX7_hopCount_1 (n := 4) rfl ?_
  refine V_iload_n X (q := 1) rfl rfl dX7_hopCount_4 (n := 5) rfl ?_
  refine V_calli X (As := [.int a1]) (rest := []) (nA := 1) (i := 22) (q := (RX3, TX3, 6)) (TX3_has l D G ρ C N a1 _ h) gX7_hopCount_X3_has rfl rfl rfl (by decide +kernel) rfl ⟨by decide, by decide⟩ (Nat.le_of_ble_eq_true rfl) ⟨by decide, by decide⟩ (by decide) rfl rfl rfl dX7_hopCount_5 (n := 8) rfl (fun r1 M1 M0 h => ?_)
  obtain ⟨h, eo, eo2⟩ := h
  rw [eo, eo2]
  refine jn_o h (fun j2 ej2 h => ?_)
  have kj2 : ∀ (x5 : Int32), j2 x5 → V p l e rmX7_hopCount s m args below meth c D G ρ (WA ρ s.heap.size) s.heap 2 0 0 (Qi D G ρ s args below (fun r C1 N1 => K r ∧ C1 = C ∧ N1 = N)) 26 [(0, .ref (ρ 0)), (1, .int a1)] [.int x5] C N := by
    intro x5 h
    rw [ej2] at h
    try dsimp only at h
    exact V_iret X hr hlk dX7_hopCount_26 ⟨h, rfl, rfl⟩
  refine V_if_eq X dX7_hopCount_8 (tgt := 23) (n := 11) (by decide) rfl (fun c3 => ?_) (fun c3 => ?_)
  · have h := ite_t h c3
    refine V_sipush X (v := -1001) (by decide) dX7_hopCount_23 (n := 26) rfl ?_
    exact kj2 (-1001 : Int32) h
  · have h := ite_f h c3
    refine V_aload_n X (q := 0) rfl rfl dX7_hopCount_11 (n := 12) rfl ?_
    refine V_getR X (by decide) rfl rfl (k := 2) inX7_hopCount_X7 rfl (by decide) wX7_hopCount_26 dX7_hopCount_12 (n := 15) rfl ?_
    refine V_getR X (by decide) rfl rfl (k := 2) inX7_hopCount_X1 rfl (by decide) wX7_hopCount_124 dX7_hopCount_15 (n := 18) rfl ?_
    refine V_iload_n X (q := 1) rfl rfl dX7_hopCount_18 (n := 19) rfl ?_
    obtain ⟨g4, h⟩ := h
    refine V_ildX X (by decide) rfl g4 dX7_hopCount_19 (n := 20) rfl ?_
    refine V_goto X dX7_hopCount_20 (tgt := 26) (by decide) ?_
    exact kj2 (C 49 (Int32.toNatClampNeg a1)) h
abbrev rmX7_floodLength : Room := { frames := 0, cells := 0, slots := 0, locals := 0 }
theorem wX7_floodLength_26 : Cond.fieldLink RX7 26 "FloodBus" "latestFlood" "LFloodBus$Flooding;" ∈ wsX7_floodLength := by decide +kernel
theorem wX7_floodLength_127 : Cond.fieldLink RX7 127 "FloodBus$Flooding" "length" "I" ∈ wsX7_floodLength := by decide +kernel
theorem inX7_floodLength_X7 : ∀ w ∈ wsX70, w ∈ wsX7_floodLength := by decide +kernel
theorem inX7_floodLength_X1 : ∀ w ∈ wsX10, w ∈ wsX7_floodLength := by decide +kernel
set_option maxRecDepth 100000 in
set_option maxHeartbeats 4000000 in
theorem TX7_floodLength (l : Launch) (D : va_G) (G : Gc) (ρ : Nat → Nat) (C : Xm) (N : Nm)   (K : Int32 → Prop) (h : fX7_floodLength C K) : Ki l yX7_floodLength wsX7_floodLength rmX7_floodLength D G ρ [.ref (ρ 0)] C N (fun r C1 N1 => K r ∧ C1 = C ∧ N1 = N) := by
  refine Ki.ofV (cc := cX7_floodLength) (maxL := 1) (ret := (some .int)) (by decide +kernel) rfl (Nat.le_of_ble_eq_true rfl) ?_
  intro p e s m args below meth c X hr hlk
  show V p l e rmX7_floodLength s m args below meth c D G ρ (WA ρ s.heap.size) s.heap 1 0 0 (Qi D G ρ s args below (fun r C1 N1 => K r ∧ C1 = C ∧ N1 = N)) 0 [(0, .ref (ρ 0))] [] C N
  unfold fX7_floodLength at h
  refine V_aload_n X (q := 0) rfl rfl dX7_floodLength_0 (n := 1) rfl ?_
  refine V_getR X (by decide) rfl rfl (k := 2) inX7_floodLength_X7 rfl (by decide) wX7_floodLength_26 dX7_floodLength_1 (n := 4) rfl ?_
  refine V_getX X (by decide) rfl rfl (k := 3) inX7_floodLength_X1 rfl (by decide) wX7_floodLength_127 dX7_floodLength_4 (n := 7) rfl ?_
  exact V_iret X hr hlk dX7_floodLength_7 ⟨h, rfl, rfl⟩
abbrev rmX5_startAnew : Room := { frames := 0, cells := 0, slots := 0, locals := 0 }
theorem wX5_startAnew_15 : Cond.fieldLink RX5 15 "FloodBus$Stream" "source" "I" ∈ wsX5_startAnew := by decide +kernel
theorem wX5_startAnew_19 : Cond.fieldLink RX5 19 "FloodBus$Stream" "period" "I" ∈ wsX5_startAnew := by decide +kernel
theorem wX5_startAnew_22 : Cond.fieldLink RX5 22 "FloodBus$Stream" "start" "I" ∈ wsX5_startAnew := by decide +kernel
theorem wX5_startAnew_25 : Cond.fieldLink RX5 25 "FloodBus$Stream" "waiting" "I" ∈ wsX5_startAnew := by decide +kernel
theorem wX5_startAnew_28 : Cond.fieldLink RX5 28 "FloodBus$Stream" "delivered" "I" ∈ wsX5_startAnew := by decide +kernel
theorem wX5_startAnew_31 : Cond.fieldLink RX5 31 "FloodBus$Stream" "lost" "I" ∈ wsX5_startAnew := by decide +kernel
theorem inX5_startAnew_X5 : ∀ w ∈ wsX50, w ∈ wsX5_startAnew := by decide +kernel
set_option maxRecDepth 100000 in
set_option maxHeartbeats 4000000 in
theorem TX5_startAnew (l : Launch) (D : va_G) (G : Gc) (ρ : Nat → Nat) (C : Xm) (N : Nm) (kx : Int32) (hkx : Int32.toNatClampNeg kx < 6) (a1 : Int32) (a2 : Int32) (a3 : Int32) (K : Xm → Prop) (h : fX5_startAnew C kx a1 a2 a3 K) : Kv l yX5_startAnew wsX5_startAnew rmX5_startAnew D G ρ [.ref (ρ (52 + 2 * Int32.toNatClampNeg kx)), .int a1, .int a2, .int a3] C N (fun C1 N1 => K C1 ∧ N1 = N) := by
  refine Kv.ofV (cc := cX5_startAnew) (maxL := 4) (ret := none) (by decide +kernel) rfl (Nat.le_of_ble_eq_true rfl) ?_
  intro p e s m args below meth c X hr hlk
  show V p l e rmX5_startAnew s m args below meth c D G ρ (WA ρ s.heap.size) s.heap 4 0 0 (Qv D G ρ s args below (fun C1 N1 => K C1 ∧ N1 = N)) 0 [(0, .ref (ρ (52 + 2 * Int32.toNatClampNeg kx))), (1, .int a1), (2, .int a2), (3, .int a3)] [] C N
  unfold fX5_startAnew at h
  refine V_aload_n X (q := 0) rfl rfl dX5_startAnew_0 (n := 1) rfl ?_
  refine V_iload_n X (q := 1) rfl rfl dX5_startAnew_1 (n := 2) rfl ?_
  refine V_putX X (by omega) (shp_S _ hkx) rfl (k := 1) inX5_startAnew_X5 rfl (by decide) wX5_startAnew_15 tyX5 tyX5_ok nmX5 rfl (by decide +kernel) dX5_startAnew_2 (n := 5) rfl (fun C1 eC1 => ?_)
  have h := bd_at h eC1
  refine V_aload_n X (q := 0) rfl rfl dX5_startAnew_5 (n := 6) rfl ?_
  refine V_iload_n X (q := 2) rfl rfl dX5_startAnew_6 (n := 7) rfl ?_
  refine V_putX X (by omega) (shp_S _ hkx) rfl (k := 2) inX5_startAnew_X5 rfl (by decide) wX5_startAnew_19 tyX5 tyX5_ok nmX5 rfl (by decide +kernel) dX5_startAnew_7 (n := 10) rfl (fun C2 eC2 => ?_)
  have h := bd_at h eC2
  refine V_aload_n X (q := 0) rfl rfl dX5_startAnew_10 (n := 11) rfl ?_
  refine V_iload_n X (q := 3) rfl rfl dX5_startAnew_11 (n := 12) rfl ?_
  refine V_putX X (by omega) (shp_S _ hkx) rfl (k := 3) inX5_startAnew_X5 rfl (by decide) wX5_startAnew_22 tyX5 tyX5_ok nmX5 rfl (by decide +kernel) dX5_startAnew_12 (n := 15) rfl (fun C3 eC3 => ?_)
  have h := bd_at h eC3
  refine V_aload_n X (q := 0) rfl rfl dX5_startAnew_15 (n := 16) rfl ?_
  refine V_iconst X (v := 0) (by decide) dX5_startAnew_16 (n := 17) rfl ?_
  refine V_putX X (by omega) (shp_S _ hkx) rfl (k := 4) inX5_startAnew_X5 rfl (by decide) wX5_startAnew_25 tyX5 tyX5_ok nmX5 rfl (by decide +kernel) dX5_startAnew_17 (n := 20) rfl (fun C4 eC4 => ?_)
  have h := bd_at h eC4
  refine V_aload_n X (q := 0) rfl rfl dX5_startAnew_20 (n := 21) rfl ?_
  refine V_iconst X (v := 0) (by decide) dX5_startAnew_21 (n := 22) rfl ?_
  refine V_putX X (by omega) (shp_S _ hkx) rfl (k := 5) inX5_startAnew_X5 rfl (by decide) wX5_startAnew_28 tyX5 tyX5_ok nmX5 rfl (by decide +kernel) dX5_startAnew_22 (n := 25) rfl (fun C5 eC5 => ?_)
  have h := bd_at h eC5
  refine V_aload_n X (q := 0) rfl rfl dX5_startAnew_25 (n := 26) rfl ?_
  refine V_iconst X (v := 0) (by decide) dX5_startAnew_26 (n := 27) rfl ?_
  refine V_putX X (by omega) (shp_S _ hkx) rfl (k := 6) inX5_startAnew_X5 rfl (by decide) wX5_startAnew_31 tyX5 tyX5_ok nmX5 rfl (by decide +kernel) dX5_startAnew_27 (n := 30) rfl (fun C6 eC6 => ?_)
  have h := bd_at h eC6
  exact V_vret X hr hlk dX5_startAnew_30 ⟨h, rfl⟩
abbrev rmX6_add : Room := { frames := 1, cells := 0, slots := 0, locals := 23 }
theorem wX6_add_17 : Cond.fieldLink RX6 17 "FloodBus$StreamTable" "count" "I" ∈ wsX6_add := by decide +kernel
theorem wX6_add_11 : Cond.fieldLink RX6 11 "FloodBus$StreamTable" "rows" "[LFloodBus$Stream;" ∈ wsX6_add := by decide +kernel
theorem inX6_add_X6 : ∀ w ∈ wsX60, w ∈ wsX6_add := by decide +kernel
set_option maxRecDepth 100000 in
set_option maxHeartbeats 4000000 in
theorem TX6_add (l : Launch) (D : va_G) (G : Gc) (ρ : Nat → Nat) (C : Xm) (N : Nm)  (a1 : Int32) (a2 : Int32) (a3 : Int32) (K : Int32 → Xm → Prop) (h : fX6_add C a1 a2 a3 K) : Ki l yX6_add wsX6_add rmX6_add D G ρ [.ref (ρ 50), .int a1, .int a2, .int a3] C N (fun r C1 N1 => K r C1 ∧ N1 = N) := by
  refine Ki.ofV (cc := cX6_add) (maxL := 4) (ret := (some .int)) (by decide +kernel) rfl (Nat.le_of_ble_eq_true rfl) ?_
  intro p e s m args below meth c X hr hlk
  show V p l e rmX6_add s m args below meth c D G ρ (WA ρ s.heap.size) s.heap 4 0 0 (Qi D G ρ s args below (fun r C1 N1 => K r C1 ∧ N1 = N)) 0 [(0, .ref (ρ 50)), (1, .int a1), (2, .int a2), (3, .int a3)] [] C N
  unfold fX6_add at h
  refine V_aload_n X (q := 0) rfl rfl dX6_add_0 (n := 1) rfl ?_
  refine V_getX X (by decide) rfl rfl (k := 1) inX6_add_X6 rfl (by decide) wX6_add_17 dX6_add_1 (n := 4) rfl ?_
  refine V_bipush X (v := 6) (by decide) dX6_add_4 (n := 6) rfl ?_
  refine V_icmp_lt X dX6_add_6 (tgt := 13) (n := 9) (by decide) rfl (fun c1 => ?_) (fun c1 => ?_)
  · have h := ite_t h c1
    refine V_aload_n X (q := 0) rfl rfl dX6_add_13 (n := 14) rfl ?_
    refine V_getR X (by decide) rfl rfl (k := 0) inX6_add_X6 rfl (by decide) wX6_add_11 dX6_add_14 (n := 17) rfl ?_
    refine V_aload_n X (q := 0) rfl rfl dX6_add_17 (n := 18) rfl ?_
    refine V_getX X (by decide) rfl rfl (k := 1) inX6_add_X6 rfl (by decide) wX6_add_17 dX6_add_18 (n := 21) rfl ?_
    obtain ⟨g2, h⟩ := h
    obtain ⟨g3, h⟩ := h
    refine V_aaS X (by decide) rfl g2 dX6_add_21 (n := 22) rfl ?_
    refine V_iload_n X (q := 1) rfl rfl dX6_add_22 (n := 23) rfl ?_
    refine V_iload_n X (q := 2) rfl rfl dX6_add_23 (n := 24) rfl ?_
    refine V_iload_n X (q := 3) rfl rfl dX6_add_24 (n := 25) rfl ?_
    refine V_callv X (As := [.int a1, .int a2, .int a3]) (rest := []) (nA := 3) (i := (52 + 2 * Int32.toNatClampNeg (C 51 (Int32.toNatClampNeg (C 50 1))))) (q := (RX5, TX5, 7)) (TX5_startAnew l D G ρ C N (C 51 (Int32.toNatClampNeg (C 50 1))) g3 a1 a2 a3 _ h) gX6_add_X5_startAnew rfl rfl rfl (by decide +kernel) rfl ⟨by decide, by decide⟩ (Nat.le_of_ble_eq_true rfl) ⟨by decide, by decide⟩ (by omega) (shp_S _ g3) rfl rfl dX6_add_25 (n := 28) rfl (fun C4 M0 h => ?_)
    obtain ⟨h, eo⟩ := h
    rw [eo]
    refine V_aload_n X (q := 0) rfl rfl dX6_add_28 (n := 29) rfl ?_
    refine V_dup X rfl dX6_add_29 (n := 30) rfl ?_
    refine V_getX X (by decide) rfl rfl (k := 1) inX6_add_X6 rfl (by decide) wX6_add_17 dX6_add_30 (n := 33) rfl ?_
    refine V_iconst X (v := 1) (by decide) dX6_add_33 (n := 34) rfl ?_
    refine V_iadd X dX6_add_34 (n := 35) rfl ?_
    refine V_putX X (by decide) rfl rfl (k := 1) inX6_add_X6 rfl (by decide) wX6_add_17 tyX6 tyX6_ok nmX6 rfl (by decide +kernel) dX6_add_35 (n := 38) rfl (fun C5 eC5 => ?_)
    have h := bd_at h eC5
    refine V_aload_n X (q := 0) rfl rfl dX6_add_38 (n := 39) rfl ?_
    refine V_getX X (by decide) rfl rfl (k := 1) inX6_add_X6 rfl (by decide) wX6_add_17 dX6_add_39 (n := 42) rfl ?_
    refine V_iconst X (v := 1) (by decide) dX6_add_42 (n := 43) rfl ?_
    refine V_isub X dX6_add_43 (n := 44) rfl ?_
    exact V_iret X hr hlk dX6_add_44 ⟨h, rfl⟩
  · have h := ite_f h c1
    refine V_sipush X (v := -1004) (by decide) dX6_add_9 (n := 12) rfl ?_
    exact V_iret X hr hlk dX6_add_12 ⟨h, rfl⟩
abbrev rmX7_addStream : Room := { frames := 2, cells := 0, slots := 0, locals := 46 }
theorem wX7_addStream_19 : Cond.fieldLink RX7 19 "FloodBus" "network" "LFloodBus$Network;" ∈ wsX7_addStream := by decide +kernel
theorem wX7_addStream_33 : Cond.fieldLink RX7 33 "FloodBus" "streams" "LFloodBus$StreamTable;" ∈ wsX7_addStream := by decide +kernel
theorem inX7_addStream_X7 : ∀ w ∈ wsX70, w ∈ wsX7_addStream := by decide +kernel
set_option maxRecDepth 100000 in
set_option maxHeartbeats 4000000 in
theorem TX7_addStream (l : Launch) (D : va_G) (G : Gc) (ρ : Nat → Nat) (C : Xm) (N : Nm)  (a1 : Int32) (a2 : Int32) (a3 : Int32) (K : Int32 → Xm → Prop) (h : fX7_addStream C a1 a2 a3 K) : Ki l yX7_addStream wsX7_addStream rmX7_addStream D G ρ [.ref (ρ 0), .int a1, .int a2, .int a3] C N (fun r C1 N1 => K r C1 ∧ N1 = N) := by
  refine Ki.ofV (cc := cX7_addStream) (maxL := 4) (ret := (some .int)) (by decide +kernel) rfl (Nat.le_of_ble_eq_true rfl) ?_
  intro p e s m args below meth c X hr hlk
  show V p l e rmX7_addStream s m args below meth c D G ρ (WA ρ s.heap.size) s.heap 4 0 0 (Qi D G ρ s args below (fun r C1 N1 => K r C1 ∧ N1 = N)) 0 [(0, .ref (ρ 0)), (1, .int a1), (2, .int a2), (3, .int a3)] [] C N
  unfold fX7_addStream at h
  refine V_aload_n X (q := 0) rfl rfl dX7_addStream_0 (n := 1) rfl ?_
  refine V_getR X (by decide) rfl rfl (k := 1) inX7_addStream_X7 rfl (by decide) wX7_addStream_19 dX7_addStream_1 (n := 4) rfl ?_
  refine V_iload_n X (q := 1) rfl rfl dX7_addStream_4 (n := 5) rfl ?_
  refine V_calli X (As := [.int a1]) (rest := []) (nA := 1) (i := 22) (q := (RX3, TX3, 6)) (TX3_has l D G ρ C N a1 _ h) gX7_addStream_X3_has rfl rfl rfl (by decide +kernel) rfl ⟨by decide, by decide⟩ (Nat.le_of_ble_eq_true rfl) ⟨by decide, by decide⟩ (by decide) rfl rfl rfl dX7_addStream_5 (n := 8) rfl (fun r1 M1 M0 h => ?_)
  obtain ⟨h, eo, eo2⟩ := h
  rw [eo, eo2]
  refine V_if_ne X dX7_addStream_8 (tgt := 15) (n := 11) (by decide) rfl (fun c2 => ?_) (fun c2 => ?_)
  · have h := ite_f h c2
    refine V_iload_n X (q := 2) rfl rfl dX7_addStream_15 (n := 16) rfl ?_
    refine V_iconst X (v := 1) (by decide) dX7_addStream_16 (n := 17) rfl ?_
    refine jn_o h (fun j3 ej3 h => ?_)
    have kj3 : j3 → V p l e rmX7_addStream s m args below meth c D G ρ (WA ρ s.heap.size) s.heap 4 0 0 (Qi D G ρ s args below (fun r C1 N1 => K r C1 ∧ N1 = N)) 36 [(0, .ref (ρ 0)), (1, .int a1), (2, .int a2), (3, .int a3)] [] C N := by
      intro  h
      rw [ej3] at h
      refine V_sipush X (v := -1002) (by decide) dX7_addStream_36 (n := 39) rfl ?_
      exact V_iret X hr hlk dX7_addStream_39 ⟨h, rfl⟩
    refine V_icmp_lt X dX7_addStream_17 (tgt := 36) (n := 20) (by decide) rfl (fun c4 => ?_) (fun c4 => ?_)
    · have h := ite_t h c4
      exact kj3  h
    · have h := ite_f h c4
      refine V_iload_n X (q := 2) rfl rfl dX7_addStream_20 (n := 21) rfl ?_
      refine V_bipush X (v := 9) (by decide) dX7_addStream_21 (n := 23) rfl ?_
      refine V_icmp_gt X dX7_addStream_23 (tgt := 36) (n := 26) (by decide) rfl (fun c5 => ?_) (fun c5 => ?_)
      · have h := ite_t h c5
        exact kj3  h
      · have h := ite_f h c5
        refine V_iload_n X (q := 3) rfl rfl dX7_addStream_26 (n := 27) rfl ?_
        refine V_if_lt X dX7_addStream_27 (tgt := 36) (n := 30) (by decide) rfl (fun c6 => ?_) (fun c6 => ?_)
        · have h := ite_t h c6
          exact kj3  h
        · have h := ite_f h c6
          refine V_iload_n X (q := 3) rfl rfl dX7_addStream_30 (n := 31) rfl ?_
          refine V_bipush X (v := 99) (by decide) dX7_addStream_31 (n := 33) rfl ?_
          refine V_icmp_le X dX7_addStream_33 (tgt := 40) (n := 36) (by decide) rfl (fun c7 => ?_) (fun c7 => ?_)
          · have h := ite_t h c7
            refine V_aload_n X (q := 0) rfl rfl dX7_addStream_40 (n := 41) rfl ?_
            refine V_getR X (by decide) rfl rfl (k := 3) inX7_addStream_X7 rfl (by decide) wX7_addStream_33 dX7_addStream_41 (n := 44) rfl ?_
            refine V_iload_n X (q := 1) rfl rfl dX7_addStream_44 (n := 45) rfl ?_
            refine V_iload_n X (q := 2) rfl rfl dX7_addStream_45 (n := 46) rfl ?_
            refine V_iload_n X (q := 3) rfl rfl dX7_addStream_46 (n := 47) rfl ?_
            refine V_calli X (As := [.int a1, .int a2, .int a3]) (rest := []) (nA := 3) (i := 50) (q := (RX6, TX6, 2)) (TX6_add l D G ρ C N a1 a2 a3 _ h) gX7_addStream_X6_add rfl rfl rfl (by decide +kernel) rfl ⟨by decide, by decide⟩ (Nat.le_of_ble_eq_true rfl) ⟨by decide, by decide⟩ (by decide) rfl rfl rfl dX7_addStream_47 (n := 50) rfl (fun r8 C9 M0 h => ?_)
            obtain ⟨h, eo⟩ := h
            rw [eo]
            exact V_iret X hr hlk dX7_addStream_50 ⟨h, rfl⟩
          · have h := ite_f h c7
            exact kj3  h
  · have h := ite_t h c2
    refine V_sipush X (v := -1001) (by decide) dX7_addStream_11 (n := 14) rfl ?_
    exact V_iret X hr hlk dX7_addStream_14 ⟨h, rfl⟩
abbrev rmX6_has : Room := { frames := 0, cells := 0, slots := 0, locals := 0 }
theorem wX6_has_17 : Cond.fieldLink RX6 17 "FloodBus$StreamTable" "count" "I" ∈ wsX6_has := by decide +kernel
theorem inX6_has_X6 : ∀ w ∈ wsX60, w ∈ wsX6_has := by decide +kernel
set_option maxRecDepth 100000 in
set_option maxHeartbeats 4000000 in
theorem TX6_has (l : Launch) (D : va_G) (G : Gc) (ρ : Nat → Nat) (C : Xm) (N : Nm)  (a1 : Int32) (K : Int32 → Prop) (h : fX6_has C a1 K) : Ki l yX6_has wsX6_has rmX6_has D G ρ [.ref (ρ 50), .int a1] C N (fun r C1 N1 => K r ∧ C1 = C ∧ N1 = N) := by
  refine Ki.ofV (cc := cX6_has) (maxL := 2) (ret := (some .boolean)) (by decide +kernel) rfl (Nat.le_of_ble_eq_true rfl) ?_
  intro p e s m args below meth c X hr hlk
  show V p l e rmX6_has s m args below meth c D G ρ (WA ρ s.heap.size) s.heap 2 0 0 (Qi D G ρ s args below (fun r C1 N1 => K r ∧ C1 = C ∧ N1 = N)) 0 [(0, .ref (ρ 50)), (1, .int a1)] [] C N
  unfold fX6_has at h
  refine V_iload_n X (q := 1) rfl rfl dX6_has_0 (n := 1) rfl ?_
  refine jn_o h (fun j2 ej2 h => ?_)
  have kj2 : ∀ (x5 : Int32), j2 x5 → V p l e rmX6_has s m args below meth c D G ρ (WA ρ s.heap.size) s.heap 2 0 0 (Qi D G ρ s args below (fun r C1 N1 => K r ∧ C1 = C ∧ N1 = N)) 17 [(0, .ref (ρ 50)), (1, .int a1)] [.int x5] C N := by
    intro x5 h
    rw [ej2] at h
    try dsimp only at h
    obtain ⟨g6, h⟩ := h
    exact V_zret X hr hlk g6 dX6_has_17 ⟨h, rfl, rfl⟩
  refine jn_o h (fun j1 ej1 h => ?_)
  have kj1 : j1 → V p l e rmX6_has s m args below meth c D G ρ (WA ρ s.heap.size) s.heap 2 0 0 (Qi D G ρ s args below (fun r C1 N1 => K r ∧ C1 = C ∧ N1 = N)) 16 [(0, .ref (ρ 50)), (1, .int a1)] [] C N := by
    intro  h
    rw [ej1] at h
    refine V_iconst X (v := 0) (by decide) dX6_has_16 (n := 17) rfl ?_
    exact kj2 (0 : Int32) h
  refine V_if_lt X dX6_has_1 (tgt := 16) (n := 4) (by decide) rfl (fun c3 => ?_) (fun c3 => ?_)
  · have h := ite_t h c3
    exact kj1  h
  · have h := ite_f h c3
    refine V_iload_n X (q := 1) rfl rfl dX6_has_4 (n := 5) rfl ?_
    refine V_aload_n X (q := 0) rfl rfl dX6_has_5 (n := 6) rfl ?_
    refine V_getX X (by decide) rfl rfl (k := 1) inX6_has_X6 rfl (by decide) wX6_has_17 dX6_has_6 (n := 9) rfl ?_
    refine V_icmp_ge X dX6_has_9 (tgt := 16) (n := 12) (by decide) rfl (fun c4 => ?_) (fun c4 => ?_)
    · have h := ite_t h c4
      exact kj1  h
    · have h := ite_f h c4
      refine V_iconst X (v := 1) (by decide) dX6_has_12 (n := 13) rfl ?_
      refine V_goto X dX6_has_13 (tgt := 17) (by decide) ?_
      exact kj2 (1 : Int32) h
abbrev rmX6_remove : Room := { frames := 0, cells := 0, slots := 0, locals := 0 }
theorem wX6_remove_11 : Cond.fieldLink RX6 11 "FloodBus$StreamTable" "rows" "[LFloodBus$Stream;" ∈ wsX6_remove := by decide +kernel
theorem wX6_remove_17 : Cond.fieldLink RX6 17 "FloodBus$StreamTable" "count" "I" ∈ wsX6_remove := by decide +kernel
theorem inX6_remove_X6 : ∀ w ∈ wsX60, w ∈ wsX6_remove := by decide +kernel
set_option maxRecDepth 100000 in
set_option maxHeartbeats 4000000 in
theorem TX6_remove_L11 {p : Program} {l : Launch} {e : Env} {s : State} {m : MethodId} {args : Array Value} {below : List Frame} {meth : Method} {c : Code} {D : va_G} {G : Gc} {ρ : Nat → Nat} (X : Cx p s m args c cX6_remove 4 RX6 wsX6_remove D G ρ (WA ρ s.heap.size) s.heap) (hr : meth.sig.returnType = none) (hlk : meth.locks = false) (N : Nm) (p1 : Int32) (q2 : Int32) {E : Int32 → Xm → Prop} {K : Xm → Prop} (hE : ∀ (v3 : Int32) (C : Xm), E v3 C → V p l e rmX6_remove s m args below meth c D G ρ (WA ρ s.heap.size) s.heap 4 0 0 (Qv D G ρ s args below (fun C1 N1 => K C1 ∧ N1 = N)) 39 [(0, .ref (ρ 50)), (1, .int p1), (2, .ref (ρ (52 + 2 * Int32.toNatClampNeg q2))), (3, .int v3)] [] C N) : ∀ (n : Nat) (v3 : Int32) (C : Xm), fX6_remove_L11 p1 E K n v3 C → V p l e rmX6_remove s m args below meth c D G ρ (WA ρ s.heap.size) s.heap 4 0 0 (Qv D G ρ s args below (fun C1 N1 => K C1 ∧ N1 = N)) 11 [(0, .ref (ρ 50)), (1, .int p1), (2, .ref (ρ (52 + 2 * Int32.toNatClampNeg q2))), (3, .int v3)] [] C N := by
  intro n
  induction n with
  | zero => intro v3 C h; exact h.elim
  | succ n ih =>
    intro v3 C h
    unfold fX6_remove_L11 at h
    refine V_iload_n X (q := 3) rfl rfl dX6_remove_11 (n := 12) rfl ?_
    refine V_aload_n X (q := 0) rfl rfl dX6_remove_12 (n := 13) rfl ?_
    refine V_getX X (by decide) rfl rfl (k := 1) inX6_remove_X6 rfl (by decide) wX6_remove_17 dX6_remove_13 (n := 16) rfl ?_
    refine V_icmp_ge X dX6_remove_16 (tgt := 39) (n := 19) (by decide) rfl (fun c4 => ?_) (fun c4 => ?_)
    · have h := ite_t h c4
      exact hE v3 C h
    · have h := ite_f h c4
      refine V_aload_n X (q := 0) rfl rfl dX6_remove_19 (n := 20) rfl ?_
      refine V_getR X (by decide) rfl rfl (k := 0) inX6_remove_X6 rfl (by decide) wX6_remove_11 dX6_remove_20 (n := 23) rfl ?_
      refine V_iload_n X (q := 3) rfl rfl dX6_remove_23 (n := 24) rfl ?_
      refine V_iconst X (v := 1) (by decide) dX6_remove_24 (n := 25) rfl ?_
      refine V_isub X dX6_remove_25 (n := 26) rfl ?_
      refine V_aload_n X (q := 0) rfl rfl dX6_remove_26 (n := 27) rfl ?_
      refine V_getR X (by decide) rfl rfl (k := 0) inX6_remove_X6 rfl (by decide) wX6_remove_11 dX6_remove_27 (n := 30) rfl ?_
      refine V_iload_n X (q := 3) rfl rfl dX6_remove_30 (n := 31) rfl ?_
      obtain ⟨g5, h⟩ := h
      obtain ⟨g6, h⟩ := h
      refine V_aaS X (by decide) rfl g5 dX6_remove_31 (n := 32) rfl ?_
      obtain ⟨g7, h⟩ := h
      refine V_aastS X (by decide) rfl g7 g6 dX6_remove_32 (n := 33) rfl (fun C8 eC8 => ?_)
      have h := bd_at h eC8
      obtain ⟨x9, ex9⟩ : ∃ z : Int32, z = v3 + (1 : Int32) := ⟨_, rfl⟩
      have h := bd_at h ex9
      refine V_iinc X (q := 3) (d := 1) (L2 := [(3, .int x9), (0, .ref (ρ 50)), (1, .int p1), (2, .ref (ρ (52 + 2 * Int32.toNatClampNeg q2)))]) rfl (by decide) (by decide) ex9 rfl dX6_remove_33 (n := 36) rfl ?_
      refine V_goto X dX6_remove_36 (tgt := 11) (by decide) ?_
      refine V_loc [1, 2, 3, 0] rfl ?_
      exact ih x9 C8 h
set_option maxRecDepth 100000 in
set_option maxHeartbeats 4000000 in
theorem TX6_remove (l : Launch) (D : va_G) (G : Gc) (ρ : Nat → Nat) (C : Xm) (N : Nm)  (a1 : Int32) (K : Xm → Prop) (h : fX6_remove C a1 K) : Kv l yX6_remove wsX6_remove rmX6_remove D G ρ [.ref (ρ 50), .int a1] C N (fun C1 N1 => K C1 ∧ N1 = N) := by
  refine Kv.ofV (cc := cX6_remove) (maxL := 4) (ret := none) (by decide +kernel) rfl (Nat.le_of_ble_eq_true rfl) ?_
  intro p e s m args below meth c X hr hlk
  show V p l e rmX6_remove s m args below meth c D G ρ (WA ρ s.heap.size) s.heap 4 0 0 (Qv D G ρ s args below (fun C1 N1 => K C1 ∧ N1 = N)) 0 [(0, .ref (ρ 50)), (1, .int a1)] [] C N
  unfold fX6_remove at h
  refine V_aload_n X (q := 0) rfl rfl dX6_remove_0 (n := 1) rfl ?_
  refine V_getR X (by decide) rfl rfl (k := 0) inX6_remove_X6 rfl (by decide) wX6_remove_11 dX6_remove_1 (n := 4) rfl ?_
  refine V_iload_n X (q := 1) rfl rfl dX6_remove_4 (n := 5) rfl ?_
  obtain ⟨g1, h⟩ := h
  obtain ⟨g2, h⟩ := h
  refine V_aaS X (by decide) rfl g1 dX6_remove_5 (n := 6) rfl ?_
  refine V_astore_n X (L2 := [(2, .ref (ρ (52 + 2 * Int32.toNatClampNeg (C 51 (Int32.toNatClampNeg a1))))), (0, .ref (ρ 50)), (1, .int a1)]) rfl (by decide) rfl dX6_remove_6 (n := 7) rfl ?_
  refine V_iload_n X (q := 2) rfl rfl dX6_remove_7 (n := 8) rfl ?_
  refine V_iconst X (v := 1) (by decide) dX6_remove_8 (n := 9) rfl ?_
  refine V_iadd X dX6_remove_9 (n := 10) rfl ?_
  refine V_topi (fun x3 ex3 => ?_)
  have h := bd_at h ex3
  refine V_istore_n X (L2 := [(3, .int x3), (2, .ref (ρ (52 + 2 * Int32.toNatClampNeg (C 51 (Int32.toNatClampNeg a1))))), (0, .ref (ρ 50)), (1, .int a1)]) rfl (by decide) rfl dX6_remove_10 (n := 11) rfl ?_
  refine jn_o h (fun j10 ej10 h => ?_)
  have kj10 : ∀ (x11 : Int32) (C12 : Xm), j10 x11 C12 → V p l e rmX6_remove s m args below meth c D G ρ (WA ρ s.heap.size) s.heap 4 0 0 (Qv D G ρ s args below (fun C1 N1 => K C1 ∧ N1 = N)) 39 [(0, .ref (ρ 50)), (1, .int a1), (2, .ref (ρ (52 + 2 * Int32.toNatClampNeg (C 51 (Int32.toNatClampNeg a1))))), (3, .int x11)] [] C12 N := by
    intro x11 C12 h
    rw [ej10] at h
    try dsimp only at h
    refine V_aload_n X (q := 0) rfl rfl dX6_remove_39 (n := 40) rfl ?_
    refine V_dup X rfl dX6_remove_40 (n := 41) rfl ?_
    refine V_getX X (by decide) rfl rfl (k := 1) inX6_remove_X6 rfl (by decide) wX6_remove_17 dX6_remove_41 (n := 44) rfl ?_
    refine V_iconst X (v := 1) (by decide) dX6_remove_44 (n := 45) rfl ?_
    refine V_isub X dX6_remove_45 (n := 46) rfl ?_
    refine V_putX X (by decide) rfl rfl (k := 1) inX6_remove_X6 rfl (by decide) wX6_remove_17 tyX6 tyX6_ok nmX6 rfl (by decide +kernel) dX6_remove_46 (n := 49) rfl (fun C13 eC13 => ?_)
    have h := bd_at h eC13
    refine V_aload_n X (q := 0) rfl rfl dX6_remove_49 (n := 50) rfl ?_
    refine V_getR X (by decide) rfl rfl (k := 0) inX6_remove_X6 rfl (by decide) wX6_remove_11 dX6_remove_50 (n := 53) rfl ?_
    refine V_aload_n X (q := 0) rfl rfl dX6_remove_53 (n := 54) rfl ?_
    refine V_getX X (by decide) rfl rfl (k := 1) inX6_remove_X6 rfl (by decide) wX6_remove_17 dX6_remove_54 (n := 57) rfl ?_
    refine V_aload_n X (q := 2) rfl rfl dX6_remove_57 (n := 58) rfl ?_
    obtain ⟨g14, h⟩ := h
    refine V_aastS X (by decide) rfl g14 g2 dX6_remove_58 (n := 59) rfl (fun C15 eC15 => ?_)
    have h := bd_at h eC15
    exact V_vret X hr hlk dX6_remove_59 ⟨h, rfl⟩
  refine V_loc [2, 3, 1, 0] rfl ?_
  exact TX6_remove_L11 X hr hlk N a1 (C 51 (Int32.toNatClampNeg a1)) (E := j10) (K := K) kj10 200 x3 C h
abbrev rmX7_removeStream : Room := { frames := 1, cells := 0, slots := 0, locals := 23 }
theorem wX7_removeStream_33 : Cond.fieldLink RX7 33 "FloodBus" "streams" "LFloodBus$StreamTable;" ∈ wsX7_removeStream := by decide +kernel
theorem wX7_removeStream_40 : Cond.fieldLink RX7 40 "FloodBus" "schedule" "LFloodBus$Schedule;" ∈ wsX7_removeStream := by decide +kernel
theorem wX7_removeStream_89 : Cond.fieldLink RX7 89 "FloodBus$Schedule" "size" "I" ∈ wsX7_removeStream := by decide +kernel
theorem wX7_removeStream_86 : Cond.fieldLink RX7 86 "FloodBus$StreamTable" "count" "I" ∈ wsX7_removeStream := by decide +kernel
theorem inX7_removeStream_X7 : ∀ w ∈ wsX70, w ∈ wsX7_removeStream := by decide +kernel
theorem inX7_removeStream_X4 : ∀ w ∈ wsX40, w ∈ wsX7_removeStream := by decide +kernel
theorem inX7_removeStream_X6 : ∀ w ∈ wsX60, w ∈ wsX7_removeStream := by decide +kernel
set_option maxRecDepth 100000 in
set_option maxHeartbeats 4000000 in
theorem TX7_removeStream (l : Launch) (D : va_G) (G : Gc) (ρ : Nat → Nat) (C : Xm) (N : Nm)  (a1 : Int32) (K : Int32 → Xm → Prop) (h : fX7_removeStream C a1 K) : Ki l yX7_removeStream wsX7_removeStream rmX7_removeStream D G ρ [.ref (ρ 0), .int a1] C N (fun r C1 N1 => K r C1 ∧ N1 = N) := by
  refine Ki.ofV (cc := cX7_removeStream) (maxL := 2) (ret := (some .int)) (by decide +kernel) rfl (Nat.le_of_ble_eq_true rfl) ?_
  intro p e s m args below meth c X hr hlk
  show V p l e rmX7_removeStream s m args below meth c D G ρ (WA ρ s.heap.size) s.heap 2 0 0 (Qi D G ρ s args below (fun r C1 N1 => K r C1 ∧ N1 = N)) 0 [(0, .ref (ρ 0)), (1, .int a1)] [] C N
  unfold fX7_removeStream at h
  refine V_aload_n X (q := 0) rfl rfl dX7_removeStream_0 (n := 1) rfl ?_
  refine V_getR X (by decide) rfl rfl (k := 3) inX7_removeStream_X7 rfl (by decide) wX7_removeStream_33 dX7_removeStream_1 (n := 4) rfl ?_
  refine V_iload_n X (q := 1) rfl rfl dX7_removeStream_4 (n := 5) rfl ?_
  refine V_calli X (As := [.int a1]) (rest := []) (nA := 1) (i := 50) (q := (RX6, TX6, 2)) (TX6_has l D G ρ C N a1 _ h) gX7_removeStream_X6_has rfl rfl rfl (by decide +kernel) rfl ⟨by decide, by decide⟩ (Nat.le_of_ble_eq_true rfl) ⟨by decide, by decide⟩ (by decide) rfl rfl rfl dX7_removeStream_5 (n := 8) rfl (fun r1 M1 M0 h => ?_)
  obtain ⟨h, eo, eo2⟩ := h
  rw [eo, eo2]
  refine V_if_ne X dX7_removeStream_8 (tgt := 15) (n := 11) (by decide) rfl (fun c2 => ?_) (fun c2 => ?_)
  · have h := ite_f h c2
    refine V_aload_n X (q := 0) rfl rfl dX7_removeStream_15 (n := 16) rfl ?_
    refine V_getR X (by decide) rfl rfl (k := 3) inX7_removeStream_X7 rfl (by decide) wX7_removeStream_33 dX7_removeStream_16 (n := 19) rfl ?_
    refine V_iload_n X (q := 1) rfl rfl dX7_removeStream_19 (n := 20) rfl ?_
    refine V_callv X (As := [.int a1]) (rest := []) (nA := 1) (i := 50) (q := (RX6, TX6, 2)) (TX6_remove l D G ρ C N a1 _ h) gX7_removeStream_X6_remove rfl rfl rfl (by decide +kernel) rfl ⟨by decide, by decide⟩ (Nat.le_of_ble_eq_true rfl) ⟨by decide, by decide⟩ (by decide) rfl rfl rfl dX7_removeStream_20 (n := 23) rfl (fun C3 M0 h => ?_)
    obtain ⟨h, eo⟩ := h
    rw [eo]
    refine V_aload_n X (q := 0) rfl rfl dX7_removeStream_23 (n := 24) rfl ?_
    refine V_getR X (by decide) rfl rfl (k := 4) inX7_removeStream_X7 rfl (by decide) wX7_removeStream_40 dX7_removeStream_24 (n := 27) rfl ?_
    refine V_iconst X (v := 0) (by decide) dX7_removeStream_27 (n := 28) rfl ?_
    refine V_putX X (by decide) rfl rfl (k := 1) inX7_removeStream_X4 rfl (by decide) wX7_removeStream_89 tyX4 tyX4_ok nmX4 rfl (by decide +kernel) dX7_removeStream_28 (n := 31) rfl (fun C4 eC4 => ?_)
    have h := bd_at h eC4
    refine V_aload_n X (q := 0) rfl rfl dX7_removeStream_31 (n := 32) rfl ?_
    refine V_getR X (by decide) rfl rfl (k := 3) inX7_removeStream_X7 rfl (by decide) wX7_removeStream_33 dX7_removeStream_32 (n := 35) rfl ?_
    refine V_getX X (by decide) rfl rfl (k := 1) inX7_removeStream_X6 rfl (by decide) wX7_removeStream_86 dX7_removeStream_35 (n := 38) rfl ?_
    exact V_iret X hr hlk dX7_removeStream_38 ⟨h, rfl⟩
  · have h := ite_t h c2
    refine V_sipush X (v := -1001) (by decide) dX7_removeStream_11 (n := 14) rfl ?_
    exact V_iret X hr hlk dX7_removeStream_14 ⟨h, rfl⟩
abbrev rmX7_waitingPackets : Room := { frames := 1, cells := 0, slots := 0, locals := 21 }
theorem wX7_waitingPackets_33 : Cond.fieldLink RX7 33 "FloodBus" "streams" "LFloodBus$StreamTable;" ∈ wsX7_waitingPackets := by decide +kernel
theorem wX7_waitingPackets_136 : Cond.fieldLink RX7 136 "FloodBus$StreamTable" "rows" "[LFloodBus$Stream;" ∈ wsX7_waitingPackets := by decide +kernel
theorem wX7_waitingPackets_140 : Cond.fieldLink RX7 140 "FloodBus$Stream" "waiting" "I" ∈ wsX7_waitingPackets := by decide +kernel
theorem inX7_waitingPackets_X7 : ∀ w ∈ wsX70, w ∈ wsX7_waitingPackets := by decide +kernel
theorem inX7_waitingPackets_X6 : ∀ w ∈ wsX60, w ∈ wsX7_waitingPackets := by decide +kernel
theorem inX7_waitingPackets_X5 : ∀ w ∈ wsX50, w ∈ wsX7_waitingPackets := by decide +kernel
set_option maxRecDepth 100000 in
set_option maxHeartbeats 4000000 in
theorem TX7_waitingPackets (l : Launch) (D : va_G) (G : Gc) (ρ : Nat → Nat) (C : Xm) (N : Nm)  (a1 : Int32) (K : Int32 → Prop) (h : fX7_waitingPackets C a1 K) : Ki l yX7_waitingPackets wsX7_waitingPackets rmX7_waitingPackets D G ρ [.ref (ρ 0), .int a1] C N (fun r C1 N1 => K r ∧ C1 = C ∧ N1 = N) := by
  refine Ki.ofV (cc := cX7_waitingPackets) (maxL := 2) (ret := (some .int)) (by decide +kernel) rfl (Nat.le_of_ble_eq_true rfl) ?_
  intro p e s m args below meth c X hr hlk
  show V p l e rmX7_waitingPackets s m args below meth c D G ρ (WA ρ s.heap.size) s.heap 2 0 0 (Qi D G ρ s args below (fun r C1 N1 => K r ∧ C1 = C ∧ N1 = N)) 0 [(0, .ref (ρ 0)), (1, .int a1)] [] C N
  unfold fX7_waitingPackets at h
  refine V_aload_n X (q := 0) rfl rfl dX7_waitingPackets_0 (n := 1) rfl ?_
  refine V_getR X (by decide) rfl rfl (k := 3) inX7_waitingPackets_X7 rfl (by decide) wX7_waitingPackets_33 dX7_waitingPackets_1 (n := 4) rfl ?_
  refine V_iload_n X (q := 1) rfl rfl dX7_waitingPackets_4 (n := 5) rfl ?_
  refine V_calli X (As := [.int a1]) (rest := []) (nA := 1) (i := 50) (q := (RX6, TX6, 2)) (TX6_has l D G ρ C N a1 _ h) gX7_waitingPackets_X6_has rfl rfl rfl (by decide +kernel) rfl ⟨by decide, by decide⟩ (Nat.le_of_ble_eq_true rfl) ⟨by decide, by decide⟩ (by decide) rfl rfl rfl dX7_waitingPackets_5 (n := 8) rfl (fun r1 M1 M0 h => ?_)
  obtain ⟨h, eo, eo2⟩ := h
  rw [eo, eo2]
  refine jn_o h (fun j2 ej2 h => ?_)
  have kj2 : ∀ (x6 : Int32), j2 x6 → V p l e rmX7_waitingPackets s m args below meth c D G ρ (WA ρ s.heap.size) s.heap 2 0 0 (Qi D G ρ s args below (fun r C1 N1 => K r ∧ C1 = C ∧ N1 = N)) 29 [(0, .ref (ρ 0)), (1, .int a1)] [.int x6] C N := by
    intro x6 h
    rw [ej2] at h
    try dsimp only at h
    exact V_iret X hr hlk dX7_waitingPackets_29 ⟨h, rfl, rfl⟩
  refine V_if_eq X dX7_waitingPackets_8 (tgt := 26) (n := 11) (by decide) rfl (fun c3 => ?_) (fun c3 => ?_)
  · have h := ite_t h c3
    refine V_sipush X (v := -1001) (by decide) dX7_waitingPackets_26 (n := 29) rfl ?_
    exact kj2 (-1001 : Int32) h
  · have h := ite_f h c3
    refine V_aload_n X (q := 0) rfl rfl dX7_waitingPackets_11 (n := 12) rfl ?_
    refine V_getR X (by decide) rfl rfl (k := 3) inX7_waitingPackets_X7 rfl (by decide) wX7_waitingPackets_33 dX7_waitingPackets_12 (n := 15) rfl ?_
    refine V_getR X (by decide) rfl rfl (k := 0) inX7_waitingPackets_X6 rfl (by decide) wX7_waitingPackets_136 dX7_waitingPackets_15 (n := 18) rfl ?_
    refine V_iload_n X (q := 1) rfl rfl dX7_waitingPackets_18 (n := 19) rfl ?_
    obtain ⟨g4, h⟩ := h
    obtain ⟨g5, h⟩ := h
    refine V_aaS X (by decide) rfl g4 dX7_waitingPackets_19 (n := 20) rfl ?_
    refine V_getX X (by omega) (shp_S _ g5) rfl (k := 4) inX7_waitingPackets_X5 rfl (by decide) wX7_waitingPackets_140 dX7_waitingPackets_20 (n := 23) rfl ?_
    refine V_goto X dX7_waitingPackets_23 (tgt := 29) (by decide) ?_
    exact kj2 (C (52 + 2 * Int32.toNatClampNeg (C 51 (Int32.toNatClampNeg a1))) 4) h
abbrev rmX7_deliveredPackets : Room := { frames := 1, cells := 0, slots := 0, locals := 21 }
theorem wX7_deliveredPackets_33 : Cond.fieldLink RX7 33 "FloodBus" "streams" "LFloodBus$StreamTable;" ∈ wsX7_deliveredPackets := by decide +kernel
theorem wX7_deliveredPackets_136 : Cond.fieldLink RX7 136 "FloodBus$StreamTable" "rows" "[LFloodBus$Stream;" ∈ wsX7_deliveredPackets := by decide +kernel
theorem wX7_deliveredPackets_145 : Cond.fieldLink RX7 145 "FloodBus$Stream" "delivered" "I" ∈ wsX7_deliveredPackets := by decide +kernel
theorem inX7_deliveredPackets_X7 : ∀ w ∈ wsX70, w ∈ wsX7_deliveredPackets := by decide +kernel
theorem inX7_deliveredPackets_X6 : ∀ w ∈ wsX60, w ∈ wsX7_deliveredPackets := by decide +kernel
theorem inX7_deliveredPackets_X5 : ∀ w ∈ wsX50, w ∈ wsX7_deliveredPackets := by decide +kernel
set_option maxRecDepth 100000 in
set_option maxHeartbeats 4000000 in
theorem TX7_deliveredPackets (l : Launch) (D : va_G) (G : Gc) (ρ : Nat → Nat) (C : Xm) (N : Nm)  (a1 : Int32) (K : Int32 → Prop) (h : fX7_deliveredPackets C a1 K) : Ki l yX7_deliveredPackets wsX7_deliveredPackets rmX7_deliveredPackets D G ρ [.ref (ρ 0), .int a1] C N (fun r C1 N1 => K r ∧ C1 = C ∧ N1 = N) := by
  refine Ki.ofV (cc := cX7_deliveredPackets) (maxL := 2) (ret := (some .int)) (by decide +kernel) rfl (Nat.le_of_ble_eq_true rfl) ?_
  intro p e s m args below meth c X hr hlk
  show V p l e rmX7_deliveredPackets s m args below meth c D G ρ (WA ρ s.heap.size) s.heap 2 0 0 (Qi D G ρ s args below (fun r C1 N1 => K r ∧ C1 = C ∧ N1 = N)) 0 [(0, .ref (ρ 0)), (1, .int a1)] [] C N
  unfold fX7_deliveredPackets at h
  refine V_aload_n X (q := 0) rfl rfl dX7_deliveredPackets_0 (n := 1) rfl ?_
  refine V_getR X (by decide) rfl rfl (k := 3) inX7_deliveredPackets_X7 rfl (by decide) wX7_deliveredPackets_33 dX7_deliveredPackets_1 (n := 4) rfl ?_
  refine V_iload_n X (q := 1) rfl rfl dX7_deliveredPackets_4 (n := 5) rfl ?_
  refine V_calli X (As := [.int a1]) (rest := []) (nA := 1) (i := 50) (q := (RX6, TX6, 2)) (TX6_has l D G ρ C N a1 _ h) gX7_deliveredPackets_X6_has rfl rfl rfl (by decide +kernel) rfl ⟨by decide, by decide⟩ (Nat.le_of_ble_eq_true rfl) ⟨by decide, by decide⟩ (by decide) rfl rfl rfl dX7_deliveredPackets_5 (n := 8) rfl (fun r1 M1 M0 h => ?_)
  obtain ⟨h, eo, eo2⟩ := h
  rw [eo, eo2]
  refine jn_o h (fun j2 ej2 h => ?_)
  have kj2 : ∀ (x6 : Int32), j2 x6 → V p l e rmX7_deliveredPackets s m args below meth c D G ρ (WA ρ s.heap.size) s.heap 2 0 0 (Qi D G ρ s args below (fun r C1 N1 => K r ∧ C1 = C ∧ N1 = N)) 29 [(0, .ref (ρ 0)), (1, .int a1)] [.int x6] C N := by
    intro x6 h
    rw [ej2] at h
    try dsimp only at h
    exact V_iret X hr hlk dX7_deliveredPackets_29 ⟨h, rfl, rfl⟩
  refine V_if_eq X dX7_deliveredPackets_8 (tgt := 26) (n := 11) (by decide) rfl (fun c3 => ?_) (fun c3 => ?_)
  · have h := ite_t h c3
    refine V_sipush X (v := -1001) (by decide) dX7_deliveredPackets_26 (n := 29) rfl ?_
    exact kj2 (-1001 : Int32) h
  · have h := ite_f h c3
    refine V_aload_n X (q := 0) rfl rfl dX7_deliveredPackets_11 (n := 12) rfl ?_
    refine V_getR X (by decide) rfl rfl (k := 3) inX7_deliveredPackets_X7 rfl (by decide) wX7_deliveredPackets_33 dX7_deliveredPackets_12 (n := 15) rfl ?_
    refine V_getR X (by decide) rfl rfl (k := 0) inX7_deliveredPackets_X6 rfl (by decide) wX7_deliveredPackets_136 dX7_deliveredPackets_15 (n := 18) rfl ?_
    refine V_iload_n X (q := 1) rfl rfl dX7_deliveredPackets_18 (n := 19) rfl ?_
    obtain ⟨g4, h⟩ := h
    obtain ⟨g5, h⟩ := h
    refine V_aaS X (by decide) rfl g4 dX7_deliveredPackets_19 (n := 20) rfl ?_
    refine V_getX X (by omega) (shp_S _ g5) rfl (k := 5) inX7_deliveredPackets_X5 rfl (by decide) wX7_deliveredPackets_145 dX7_deliveredPackets_20 (n := 23) rfl ?_
    refine V_goto X dX7_deliveredPackets_23 (tgt := 29) (by decide) ?_
    exact kj2 (C (52 + 2 * Int32.toNatClampNeg (C 51 (Int32.toNatClampNeg a1))) 5) h
abbrev rmX7_lostPackets : Room := { frames := 1, cells := 0, slots := 0, locals := 21 }
theorem wX7_lostPackets_33 : Cond.fieldLink RX7 33 "FloodBus" "streams" "LFloodBus$StreamTable;" ∈ wsX7_lostPackets := by decide +kernel
theorem wX7_lostPackets_136 : Cond.fieldLink RX7 136 "FloodBus$StreamTable" "rows" "[LFloodBus$Stream;" ∈ wsX7_lostPackets := by decide +kernel
theorem wX7_lostPackets_148 : Cond.fieldLink RX7 148 "FloodBus$Stream" "lost" "I" ∈ wsX7_lostPackets := by decide +kernel
theorem inX7_lostPackets_X7 : ∀ w ∈ wsX70, w ∈ wsX7_lostPackets := by decide +kernel
theorem inX7_lostPackets_X6 : ∀ w ∈ wsX60, w ∈ wsX7_lostPackets := by decide +kernel
theorem inX7_lostPackets_X5 : ∀ w ∈ wsX50, w ∈ wsX7_lostPackets := by decide +kernel
set_option maxRecDepth 100000 in
set_option maxHeartbeats 4000000 in
theorem TX7_lostPackets (l : Launch) (D : va_G) (G : Gc) (ρ : Nat → Nat) (C : Xm) (N : Nm)  (a1 : Int32) (K : Int32 → Prop) (h : fX7_lostPackets C a1 K) : Ki l yX7_lostPackets wsX7_lostPackets rmX7_lostPackets D G ρ [.ref (ρ 0), .int a1] C N (fun r C1 N1 => K r ∧ C1 = C ∧ N1 = N) := by
  refine Ki.ofV (cc := cX7_lostPackets) (maxL := 2) (ret := (some .int)) (by decide +kernel) rfl (Nat.le_of_ble_eq_true rfl) ?_
  intro p e s m args below meth c X hr hlk
  show V p l e rmX7_lostPackets s m args below meth c D G ρ (WA ρ s.heap.size) s.heap 2 0 0 (Qi D G ρ s args below (fun r C1 N1 => K r ∧ C1 = C ∧ N1 = N)) 0 [(0, .ref (ρ 0)), (1, .int a1)] [] C N
  unfold fX7_lostPackets at h
  refine V_aload_n X (q := 0) rfl rfl dX7_lostPackets_0 (n := 1) rfl ?_
  refine V_getR X (by decide) rfl rfl (k := 3) inX7_lostPackets_X7 rfl (by decide) wX7_lostPackets_33 dX7_lostPackets_1 (n := 4) rfl ?_
  refine V_iload_n X (q := 1) rfl rfl dX7_lostPackets_4 (n := 5) rfl ?_
  refine V_calli X (As := [.int a1]) (rest := []) (nA := 1) (i := 50) (q := (RX6, TX6, 2)) (TX6_has l D G ρ C N a1 _ h) gX7_lostPackets_X6_has rfl rfl rfl (by decide +kernel) rfl ⟨by decide, by decide⟩ (Nat.le_of_ble_eq_true rfl) ⟨by decide, by decide⟩ (by decide) rfl rfl rfl dX7_lostPackets_5 (n := 8) rfl (fun r1 M1 M0 h => ?_)
  obtain ⟨h, eo, eo2⟩ := h
  rw [eo, eo2]
  refine jn_o h (fun j2 ej2 h => ?_)
  have kj2 : ∀ (x6 : Int32), j2 x6 → V p l e rmX7_lostPackets s m args below meth c D G ρ (WA ρ s.heap.size) s.heap 2 0 0 (Qi D G ρ s args below (fun r C1 N1 => K r ∧ C1 = C ∧ N1 = N)) 29 [(0, .ref (ρ 0)), (1, .int a1)] [.int x6] C N := by
    intro x6 h
    rw [ej2] at h
    try dsimp only at h
    exact V_iret X hr hlk dX7_lostPackets_29 ⟨h, rfl, rfl⟩
  refine V_if_eq X dX7_lostPackets_8 (tgt := 26) (n := 11) (by decide) rfl (fun c3 => ?_) (fun c3 => ?_)
  · have h := ite_t h c3
    refine V_sipush X (v := -1001) (by decide) dX7_lostPackets_26 (n := 29) rfl ?_
    exact kj2 (-1001 : Int32) h
  · have h := ite_f h c3
    refine V_aload_n X (q := 0) rfl rfl dX7_lostPackets_11 (n := 12) rfl ?_
    refine V_getR X (by decide) rfl rfl (k := 3) inX7_lostPackets_X7 rfl (by decide) wX7_lostPackets_33 dX7_lostPackets_12 (n := 15) rfl ?_
    refine V_getR X (by decide) rfl rfl (k := 0) inX7_lostPackets_X6 rfl (by decide) wX7_lostPackets_136 dX7_lostPackets_15 (n := 18) rfl ?_
    refine V_iload_n X (q := 1) rfl rfl dX7_lostPackets_18 (n := 19) rfl ?_
    obtain ⟨g4, h⟩ := h
    obtain ⟨g5, h⟩ := h
    refine V_aaS X (by decide) rfl g4 dX7_lostPackets_19 (n := 20) rfl ?_
    refine V_getX X (by omega) (shp_S _ g5) rfl (k := 6) inX7_lostPackets_X5 rfl (by decide) wX7_lostPackets_148 dX7_lostPackets_20 (n := 23) rfl ?_
    refine V_goto X dX7_lostPackets_23 (tgt := 29) (by decide) ?_
    exact kj2 (C (52 + 2 * Int32.toNatClampNeg (C 51 (Int32.toNatClampNeg a1))) 6) h
abbrev rmX5_generate : Room := { frames := 0, cells := 0, slots := 0, locals := 0 }
theorem wX5_generate_22 : Cond.fieldLink RX5 22 "FloodBus$Stream" "start" "I" ∈ wsX5_generate := by decide +kernel
theorem wX5_generate_19 : Cond.fieldLink RX5 19 "FloodBus$Stream" "period" "I" ∈ wsX5_generate := by decide +kernel
theorem wX5_generate_25 : Cond.fieldLink RX5 25 "FloodBus$Stream" "waiting" "I" ∈ wsX5_generate := by decide +kernel
theorem wX5_generate_9 : Cond.fieldLink RX5 9 "FloodBus$Stream" "generatedIn" "[I" ∈ wsX5_generate := by decide +kernel
theorem wX5_generate_31 : Cond.fieldLink RX5 31 "FloodBus$Stream" "lost" "I" ∈ wsX5_generate := by decide +kernel
theorem inX5_generate_X5 : ∀ w ∈ wsX50, w ∈ wsX5_generate := by decide +kernel
set_option maxRecDepth 100000 in
set_option maxHeartbeats 4000000 in
theorem TX5_generate (l : Launch) (D : va_G) (G : Gc) (ρ : Nat → Nat) (C : Xm) (N : Nm) (kx : Int32) (hkx : Int32.toNatClampNeg kx < 6) (a1 : Int32) (K : Xm → Prop) (h : fX5_generate C kx a1 K) : Kv l yX5_generate wsX5_generate rmX5_generate D G ρ [.ref (ρ (52 + 2 * Int32.toNatClampNeg kx)), .int a1] C N (fun C1 N1 => K C1 ∧ N1 = N) := by
  refine Kv.ofV (cc := cX5_generate) (maxL := 2) (ret := none) (by decide +kernel) rfl (Nat.le_of_ble_eq_true rfl) ?_
  intro p e s m args below meth c X hr hlk
  show V p l e rmX5_generate s m args below meth c D G ρ (WA ρ s.heap.size) s.heap 2 0 0 (Qv D G ρ s args below (fun C1 N1 => K C1 ∧ N1 = N)) 0 [(0, .ref (ρ (52 + 2 * Int32.toNatClampNeg kx))), (1, .int a1)] [] C N
  unfold fX5_generate at h
  refine V_iload_n X (q := 1) rfl rfl dX5_generate_0 (n := 1) rfl ?_
  refine V_aload_n X (q := 0) rfl rfl dX5_generate_1 (n := 2) rfl ?_
  refine V_getX X (by omega) (shp_S _ hkx) rfl (k := 3) inX5_generate_X5 rfl (by decide) wX5_generate_22 dX5_generate_2 (n := 5) rfl ?_
  refine jn_o h (fun j1 ej1 h => ?_)
  have kj1 : j1 → V p l e rmX5_generate s m args below meth c D G ρ (WA ρ s.heap.size) s.heap 2 0 0 (Qv D G ρ s args below (fun C1 N1 => K C1 ∧ N1 = N)) 30 [(0, .ref (ρ (52 + 2 * Int32.toNatClampNeg kx))), (1, .int a1)] [] C N := by
    intro  h
    rw [ej1] at h
    exact V_vret X hr hlk dX5_generate_30 ⟨h, rfl⟩
  refine V_icmp_lt X dX5_generate_5 (tgt := 30) (n := 8) (by decide) rfl (fun c2 => ?_) (fun c2 => ?_)
  · have h := ite_t h c2
    exact kj1  h
  · have h := ite_f h c2
    refine V_aload_n X (q := 0) rfl rfl dX5_generate_8 (n := 9) rfl ?_
    refine V_getX X (by omega) (shp_S _ hkx) rfl (k := 2) inX5_generate_X5 rfl (by decide) wX5_generate_19 dX5_generate_9 (n := 12) rfl ?_
    refine V_iconst X (v := 1) (by decide) dX5_generate_12 (n := 13) rfl ?_
    refine V_icmp_lt X dX5_generate_13 (tgt := 30) (n := 16) (by decide) rfl (fun c3 => ?_) (fun c3 => ?_)
    · have h := ite_t h c3
      exact kj1  h
    · have h := ite_f h c3
      refine V_iload_n X (q := 1) rfl rfl dX5_generate_16 (n := 17) rfl ?_
      refine V_aload_n X (q := 0) rfl rfl dX5_generate_17 (n := 18) rfl ?_
      refine V_getX X (by omega) (shp_S _ hkx) rfl (k := 3) inX5_generate_X5 rfl (by decide) wX5_generate_22 dX5_generate_18 (n := 21) rfl ?_
      refine V_isub X dX5_generate_21 (n := 22) rfl ?_
      refine V_aload_n X (q := 0) rfl rfl dX5_generate_22 (n := 23) rfl ?_
      refine V_getX X (by omega) (shp_S _ hkx) rfl (k := 2) inX5_generate_X5 rfl (by decide) wX5_generate_19 dX5_generate_23 (n := 26) rfl ?_
      obtain ⟨g4, h⟩ := h
      refine V_irem X g4 dX5_generate_26 (n := 27) rfl ?_
      refine V_if_eq X dX5_generate_27 (tgt := 31) (n := 30) (by decide) rfl (fun c5 => ?_) (fun c5 => ?_)
      · have h := ite_t h c5
        refine V_aload_n X (q := 0) rfl rfl dX5_generate_31 (n := 32) rfl ?_
        refine V_getX X (by omega) (shp_S _ hkx) rfl (k := 4) inX5_generate_X5 rfl (by decide) wX5_generate_25 dX5_generate_32 (n := 35) rfl ?_
        refine V_iconst X (v := 4) (by decide) dX5_generate_35 (n := 36) rfl ?_
        refine V_icmp_lt X dX5_generate_36 (tgt := 50) (n := 39) (by decide) rfl (fun c6 => ?_) (fun c6 => ?_)
        · have h := ite_t h c6
          refine V_aload_n X (q := 0) rfl rfl dX5_generate_50 (n := 51) rfl ?_
          refine V_getR X (by omega) (shp_S _ hkx) rfl (k := 0) inX5_generate_X5 rfl (by decide) wX5_generate_9 dX5_generate_51 (n := 54) rfl ?_
          refine V_aload_n X (q := 0) rfl rfl dX5_generate_54 (n := 55) rfl ?_
          refine V_getX X (by omega) (shp_S _ hkx) rfl (k := 4) inX5_generate_X5 rfl (by decide) wX5_generate_25 dX5_generate_55 (n := 58) rfl ?_
          refine V_iload_n X (q := 1) rfl rfl dX5_generate_58 (n := 59) rfl ?_
          obtain ⟨g7, h⟩ := h
          refine V_istX X (by omega) (shp_SG _ hkx) g7 dX5_generate_59 (n := 60) rfl (fun C8 eC8 => ?_)
          have h := bd_at h eC8
          refine V_aload_n X (q := 0) rfl rfl dX5_generate_60 (n := 61) rfl ?_
          refine V_dup X rfl dX5_generate_61 (n := 62) rfl ?_
          refine V_getX X (by omega) (shp_S _ hkx) rfl (k := 4) inX5_generate_X5 rfl (by decide) wX5_generate_25 dX5_generate_62 (n := 65) rfl ?_
          refine V_iconst X (v := 1) (by decide) dX5_generate_65 (n := 66) rfl ?_
          refine V_iadd X dX5_generate_66 (n := 67) rfl ?_
          refine V_putX X (by omega) (shp_S _ hkx) rfl (k := 4) inX5_generate_X5 rfl (by decide) wX5_generate_25 tyX5 tyX5_ok nmX5 rfl (by decide +kernel) dX5_generate_67 (n := 70) rfl (fun C9 eC9 => ?_)
          have h := bd_at h eC9
          exact V_vret X hr hlk dX5_generate_70 ⟨h, rfl⟩
        · have h := ite_f h c6
          refine V_aload_n X (q := 0) rfl rfl dX5_generate_39 (n := 40) rfl ?_
          refine V_dup X rfl dX5_generate_40 (n := 41) rfl ?_
          refine V_getX X (by omega) (shp_S _ hkx) rfl (k := 6) inX5_generate_X5 rfl (by decide) wX5_generate_31 dX5_generate_41 (n := 44) rfl ?_
          refine V_iconst X (v := 1) (by decide) dX5_generate_44 (n := 45) rfl ?_
          refine V_iadd X dX5_generate_45 (n := 46) rfl ?_
          refine V_putX X (by omega) (shp_S _ hkx) rfl (k := 6) inX5_generate_X5 rfl (by decide) wX5_generate_31 tyX5 tyX5_ok nmX5 rfl (by decide +kernel) dX5_generate_46 (n := 49) rfl (fun C10 eC10 => ?_)
          have h := bd_at h eC10
          exact V_vret X hr hlk dX5_generate_49 ⟨h, rfl⟩
      · have h := ite_f h c5
        exact kj1  h
abbrev rmX6_generate : Room := { frames := 1, cells := 0, slots := 0, locals := 21 }
theorem wX6_generate_17 : Cond.fieldLink RX6 17 "FloodBus$StreamTable" "count" "I" ∈ wsX6_generate := by decide +kernel
theorem wX6_generate_11 : Cond.fieldLink RX6 11 "FloodBus$StreamTable" "rows" "[LFloodBus$Stream;" ∈ wsX6_generate := by decide +kernel
theorem inX6_generate_X6 : ∀ w ∈ wsX60, w ∈ wsX6_generate := by decide +kernel
set_option maxRecDepth 100000 in
set_option maxHeartbeats 4000000 in
theorem TX6_generate_L2 {p : Program} {l : Launch} {e : Env} {s : State} {m : MethodId} {args : Array Value} {below : List Frame} {meth : Method} {c : Code} {D : va_G} {G : Gc} {ρ : Nat → Nat} (X : Cx p s m args c cX6_generate 3 RX6 wsX6_generate D G ρ (WA ρ s.heap.size) s.heap) (hr : meth.sig.returnType = none) (hlk : meth.locks = false) (N : Nm) (p1 : Int32)  {E : Int32 → Xm → Prop} {K : Xm → Prop} (hE : ∀ (v2 : Int32) (C : Xm), E v2 C → V p l e rmX6_generate s m args below meth c D G ρ (WA ρ s.heap.size) s.heap 3 0 0 (Qv D G ρ s args below (fun C1 N1 => K C1 ∧ N1 = N)) 26 [(0, .ref (ρ 50)), (1, .int p1), (2, .int v2)] [] C N) : ∀ (n : Nat) (v2 : Int32) (C : Xm), fX6_generate_L2 p1 E K n v2 C → V p l e rmX6_generate s m args below meth c D G ρ (WA ρ s.heap.size) s.heap 3 0 0 (Qv D G ρ s args below (fun C1 N1 => K C1 ∧ N1 = N)) 2 [(0, .ref (ρ 50)), (1, .int p1), (2, .int v2)] [] C N := by
  intro n
  induction n with
  | zero => intro v2 C h; exact h.elim
  | succ n ih =>
    intro v2 C h
    unfold fX6_generate_L2 at h
    refine V_iload_n X (q := 2) rfl rfl dX6_generate_2 (n := 3) rfl ?_
    refine V_aload_n X (q := 0) rfl rfl dX6_generate_3 (n := 4) rfl ?_
    refine V_getX X (by decide) rfl rfl (k := 1) inX6_generate_X6 rfl (by decide) wX6_generate_17 dX6_generate_4 (n := 7) rfl ?_
    refine V_icmp_ge X dX6_generate_7 (tgt := 26) (n := 10) (by decide) rfl (fun c1 => ?_) (fun c1 => ?_)
    · have h := ite_t h c1
      exact hE v2 C h
    · have h := ite_f h c1
      refine V_aload_n X (q := 0) rfl rfl dX6_generate_10 (n := 11) rfl ?_
      refine V_getR X (by decide) rfl rfl (k := 0) inX6_generate_X6 rfl (by decide) wX6_generate_11 dX6_generate_11 (n := 14) rfl ?_
      refine V_iload_n X (q := 2) rfl rfl dX6_generate_14 (n := 15) rfl ?_
      obtain ⟨g2, h⟩ := h
      obtain ⟨g3, h⟩ := h
      refine V_aaS X (by decide) rfl g2 dX6_generate_15 (n := 16) rfl ?_
      refine V_iload_n X (q := 1) rfl rfl dX6_generate_16 (n := 17) rfl ?_
      refine V_callv X (As := [.int p1]) (rest := []) (nA := 1) (i := (52 + 2 * Int32.toNatClampNeg (C 51 (Int32.toNatClampNeg v2)))) (q := (RX5, TX5, 7)) (TX5_generate l D G ρ C N (C 51 (Int32.toNatClampNeg v2)) g3 p1 _ h) gX6_generate_X5_generate rfl rfl rfl (by decide +kernel) rfl ⟨by decide, by decide⟩ (Nat.le_of_ble_eq_true rfl) ⟨by decide, by decide⟩ (by omega) (shp_S _ g3) rfl rfl dX6_generate_17 (n := 20) rfl (fun C4 M0 h => ?_)
      obtain ⟨h, eo⟩ := h
      rw [eo]
      obtain ⟨x5, ex5⟩ : ∃ z : Int32, z = v2 + (1 : Int32) := ⟨_, rfl⟩
      have h := bd_at h ex5
      refine V_iinc X (q := 2) (d := 1) (L2 := [(2, .int x5), (0, .ref (ρ 50)), (1, .int p1)]) rfl (by decide) (by decide) ex5 rfl dX6_generate_20 (n := 23) rfl ?_
      refine V_goto X dX6_generate_23 (tgt := 2) (by decide) ?_
      refine V_loc [1, 2, 0] rfl ?_
      exact ih x5 C4 h
set_option maxRecDepth 100000 in
set_option maxHeartbeats 4000000 in
theorem TX6_generate (l : Launch) (D : va_G) (G : Gc) (ρ : Nat → Nat) (C : Xm) (N : Nm)  (a1 : Int32) (K : Xm → Prop) (h : fX6_generate C a1 K) : Kv l yX6_generate wsX6_generate rmX6_generate D G ρ [.ref (ρ 50), .int a1] C N (fun C1 N1 => K C1 ∧ N1 = N) := by
  refine Kv.ofV (cc := cX6_generate) (maxL := 3) (ret := none) (by decide +kernel) rfl (Nat.le_of_ble_eq_true rfl) ?_
  intro p e s m args below meth c X hr hlk
  show V p l e rmX6_generate s m args below meth c D G ρ (WA ρ s.heap.size) s.heap 3 0 0 (Qv D G ρ s args below (fun C1 N1 => K C1 ∧ N1 = N)) 0 [(0, .ref (ρ 50)), (1, .int a1)] [] C N
  unfold fX6_generate at h
  refine V_iconst X (v := 0) (by decide) dX6_generate_0 (n := 1) rfl ?_
  refine V_istore_n X (L2 := [(2, .int (0 : Int32)), (0, .ref (ρ 50)), (1, .int a1)]) rfl (by decide) rfl dX6_generate_1 (n := 2) rfl ?_
  refine jn_o h (fun j6 ej6 h => ?_)
  have kj6 : ∀ (x7 : Int32) (C8 : Xm), j6 x7 C8 → V p l e rmX6_generate s m args below meth c D G ρ (WA ρ s.heap.size) s.heap 3 0 0 (Qv D G ρ s args below (fun C1 N1 => K C1 ∧ N1 = N)) 26 [(0, .ref (ρ 50)), (1, .int a1), (2, .int x7)] [] C8 N := by
    intro x7 C8 h
    rw [ej6] at h
    try dsimp only at h
    exact V_vret X hr hlk dX6_generate_26 ⟨h, rfl⟩
  refine V_loc [1, 2, 0] rfl ?_
  exact TX6_generate_L2 X hr hlk N a1 (E := j6) (K := K) kj6 200 (0 : Int32) C h
abbrev rmX5_oldestRound : Room := { frames := 0, cells := 0, slots := 0, locals := 0 }
theorem wX5_oldestRound_9 : Cond.fieldLink RX5 9 "FloodBus$Stream" "generatedIn" "[I" ∈ wsX5_oldestRound := by decide +kernel
theorem inX5_oldestRound_X5 : ∀ w ∈ wsX50, w ∈ wsX5_oldestRound := by decide +kernel
set_option maxRecDepth 100000 in
set_option maxHeartbeats 4000000 in
theorem TX5_oldestRound (l : Launch) (D : va_G) (G : Gc) (ρ : Nat → Nat) (C : Xm) (N : Nm) (kx : Int32) (hkx : Int32.toNatClampNeg kx < 6)  (K : Int32 → Prop) (h : fX5_oldestRound C kx K) : Ki l yX5_oldestRound wsX5_oldestRound rmX5_oldestRound D G ρ [.ref (ρ (52 + 2 * Int32.toNatClampNeg kx))] C N (fun r C1 N1 => K r ∧ C1 = C ∧ N1 = N) := by
  refine Ki.ofV (cc := cX5_oldestRound) (maxL := 1) (ret := (some .int)) (by decide +kernel) rfl (Nat.le_of_ble_eq_true rfl) ?_
  intro p e s m args below meth c X hr hlk
  show V p l e rmX5_oldestRound s m args below meth c D G ρ (WA ρ s.heap.size) s.heap 1 0 0 (Qi D G ρ s args below (fun r C1 N1 => K r ∧ C1 = C ∧ N1 = N)) 0 [(0, .ref (ρ (52 + 2 * Int32.toNatClampNeg kx)))] [] C N
  unfold fX5_oldestRound at h
  refine V_aload_n X (q := 0) rfl rfl dX5_oldestRound_0 (n := 1) rfl ?_
  refine V_getR X (by omega) (shp_S _ hkx) rfl (k := 0) inX5_oldestRound_X5 rfl (by decide) wX5_oldestRound_9 dX5_oldestRound_1 (n := 4) rfl ?_
  refine V_iconst X (v := 0) (by decide) dX5_oldestRound_4 (n := 5) rfl ?_
  obtain ⟨g1, h⟩ := h
  refine V_ildX X (by omega) (shp_SG _ hkx) g1 dX5_oldestRound_5 (n := 6) rfl ?_
  exact V_iret X hr hlk dX5_oldestRound_6 ⟨h, rfl, rfl⟩
abbrev rmX4_insert : Room := { frames := 1, cells := 0, slots := 0, locals := 20 }
theorem wX4_insert_24 : Cond.fieldLink RX4 24 "FloodBus$StreamTable" "rows" "[LFloodBus$Stream;" ∈ wsX4_insert := by decide +kernel
theorem wX4_insert_15 : Cond.fieldLink RX4 15 "FloodBus$Schedule" "size" "I" ∈ wsX4_insert := by decide +kernel
theorem wX4_insert_9 : Cond.fieldLink RX4 9 "FloodBus$Schedule" "entries" "[I" ∈ wsX4_insert := by decide +kernel
theorem inX4_insert_X6 : ∀ w ∈ wsX60, w ∈ wsX4_insert := by decide +kernel
theorem inX4_insert_X4 : ∀ w ∈ wsX40, w ∈ wsX4_insert := by decide +kernel
set_option maxRecDepth 100000 in
set_option maxHeartbeats 4000000 in
theorem TX4_insert_L16 {p : Program} {l : Launch} {e : Env} {s : State} {m : MethodId} {args : Array Value} {below : List Frame} {meth : Method} {c : Code} {D : va_G} {G : Gc} {ρ : Nat → Nat} (X : Cx p s m args c cX4_insert 5 RX4 wsX4_insert D G ρ (WA ρ s.heap.size) s.heap) (hr : meth.sig.returnType = none) (hlk : meth.locks = false) (N : Nm) (p2 : Int32) (p3 : Int32)  {E : Int32 → Xm → Prop} {K : Xm → Prop} (hE : ∀ (v4 : Int32) (C : Xm), E v4 C → V p l e rmX4_insert s m args below meth c D G ρ (WA ρ s.heap.size) s.heap 5 0 0 (Qv D G ρ s args below (fun C1 N1 => K C1 ∧ N1 = N)) 64 [(0, .ref (ρ 64)), (1, .ref (ρ 50)), (2, .int p2), (3, .int p3), (4, .int v4)] [] C N) : ∀ (n : Nat) (v4 : Int32) (C : Xm), fX4_insert_L16 p2 p3 E K n v4 C → V p l e rmX4_insert s m args below meth c D G ρ (WA ρ s.heap.size) s.heap 5 0 0 (Qv D G ρ s args below (fun C1 N1 => K C1 ∧ N1 = N)) 16 [(0, .ref (ρ 64)), (1, .ref (ρ 50)), (2, .int p2), (3, .int p3), (4, .int v4)] [] C N := by
  intro n
  induction n with
  | zero => intro v4 C h; exact h.elim
  | succ n ih =>
    intro v4 C h
    unfold fX4_insert_L16 at h
    refine V_iload X (q := 4) rfl dX4_insert_16 (n := 18) rfl ?_
    refine V_if_le X dX4_insert_18 (tgt := 64) (n := 21) (by decide) rfl (fun c5 => ?_) (fun c5 => ?_)
    · have h := ite_t h c5
      exact hE v4 C h
    · have h := ite_f h c5
      refine V_aload_n X (q := 1) rfl rfl dX4_insert_21 (n := 22) rfl ?_
      refine V_getR X (by decide) rfl rfl (k := 0) inX4_insert_X6 rfl (by decide) wX4_insert_24 dX4_insert_22 (n := 25) rfl ?_
      refine V_aload_n X (q := 0) rfl rfl dX4_insert_25 (n := 26) rfl ?_
      refine V_getR X (by decide) rfl rfl (k := 0) inX4_insert_X4 rfl (by decide) wX4_insert_9 dX4_insert_26 (n := 29) rfl ?_
      refine V_iload X (q := 4) rfl dX4_insert_29 (n := 31) rfl ?_
      refine V_iconst X (v := 1) (by decide) dX4_insert_31 (n := 32) rfl ?_
      refine V_isub X dX4_insert_32 (n := 33) rfl ?_
      obtain ⟨g6, h⟩ := h
      refine V_ildX X (by decide) rfl g6 dX4_insert_33 (n := 34) rfl ?_
      obtain ⟨g7, h⟩ := h
      obtain ⟨g8, h⟩ := h
      refine V_aaS X (by decide) rfl g7 dX4_insert_34 (n := 35) rfl ?_
      refine V_calli X (As := []) (rest := []) (nA := 0) (i := (52 + 2 * Int32.toNatClampNeg (C 51 (Int32.toNatClampNeg (C 65 (Int32.toNatClampNeg (v4 - (1 : Int32)))))))) (q := (RX5, TX5, 7)) (TX5_oldestRound l D G ρ C N (C 51 (Int32.toNatClampNeg (C 65 (Int32.toNatClampNeg (v4 - (1 : Int32)))))) g8 _ h) gX4_insert_X5_oldestRound rfl rfl rfl (by decide +kernel) rfl ⟨by decide, by decide⟩ (Nat.le_of_ble_eq_true rfl) ⟨by decide, by decide⟩ (by omega) (shp_S _ g8) rfl rfl dX4_insert_35 (n := 38) rfl (fun r9 M1 M0 h => ?_)
      obtain ⟨h, eo, eo2⟩ := h
      rw [eo, eo2]
      refine V_iload_n X (q := 3) rfl rfl dX4_insert_38 (n := 39) rfl ?_
      refine V_icmp_le X dX4_insert_39 (tgt := 64) (n := 42) (by decide) rfl (fun c10 => ?_) (fun c10 => ?_)
      · have h := ite_t h c10
        exact hE v4 C h
      · have h := ite_f h c10
        refine V_aload_n X (q := 0) rfl rfl dX4_insert_42 (n := 43) rfl ?_
        refine V_getR X (by decide) rfl rfl (k := 0) inX4_insert_X4 rfl (by decide) wX4_insert_9 dX4_insert_43 (n := 46) rfl ?_
        refine V_iload X (q := 4) rfl dX4_insert_46 (n := 48) rfl ?_
        refine V_aload_n X (q := 0) rfl rfl dX4_insert_48 (n := 49) rfl ?_
        refine V_getR X (by decide) rfl rfl (k := 0) inX4_insert_X4 rfl (by decide) wX4_insert_9 dX4_insert_49 (n := 52) rfl ?_
        refine V_iload X (q := 4) rfl dX4_insert_52 (n := 54) rfl ?_
        refine V_iconst X (v := 1) (by decide) dX4_insert_54 (n := 55) rfl ?_
        refine V_isub X dX4_insert_55 (n := 56) rfl ?_
        obtain ⟨g11, h⟩ := h
        refine V_ildX X (by decide) rfl g11 dX4_insert_56 (n := 57) rfl ?_
        obtain ⟨g12, h⟩ := h
        refine V_istX X (by decide) rfl g12 dX4_insert_57 (n := 58) rfl (fun C13 eC13 => ?_)
        have h := bd_at h eC13
        obtain ⟨x14, ex14⟩ : ∃ z : Int32, z = v4 + (-1 : Int32) := ⟨_, rfl⟩
        have h := bd_at h ex14
        refine V_iinc X (q := 4) (d := -1) (L2 := [(4, .int x14), (0, .ref (ρ 64)), (1, .ref (ρ 50)), (2, .int p2), (3, .int p3)]) rfl (by decide) (by decide) ex14 rfl dX4_insert_58 (n := 61) rfl ?_
        refine V_goto X dX4_insert_61 (tgt := 16) (by decide) ?_
        refine V_loc [1, 2, 3, 4, 0] rfl ?_
        exact ih x14 C13 h
set_option maxRecDepth 100000 in
set_option maxHeartbeats 4000000 in
theorem TX4_insert (l : Launch) (D : va_G) (G : Gc) (ρ : Nat → Nat) (C : Xm) (N : Nm)  (a2 : Int32) (K : Xm → Prop) (h : fX4_insert C a2 K) : Kv l yX4_insert wsX4_insert rmX4_insert D G ρ [.ref (ρ 64), .ref (ρ 50), .int a2] C N (fun C1 N1 => K C1 ∧ N1 = N) := by
  refine Kv.ofV (cc := cX4_insert) (maxL := 5) (ret := none) (by decide +kernel) rfl (Nat.le_of_ble_eq_true rfl) ?_
  intro p e s m args below meth c X hr hlk
  show V p l e rmX4_insert s m args below meth c D G ρ (WA ρ s.heap.size) s.heap 5 0 0 (Qv D G ρ s args below (fun C1 N1 => K C1 ∧ N1 = N)) 0 [(0, .ref (ρ 64)), (1, .ref (ρ 50)), (2, .int a2)] [] C N
  unfold fX4_insert at h
  refine V_aload_n X (q := 1) rfl rfl dX4_insert_0 (n := 1) rfl ?_
  refine V_getR X (by decide) rfl rfl (k := 0) inX4_insert_X6 rfl (by decide) wX4_insert_24 dX4_insert_1 (n := 4) rfl ?_
  refine V_iload_n X (q := 2) rfl rfl dX4_insert_4 (n := 5) rfl ?_
  obtain ⟨g1, h⟩ := h
  obtain ⟨g2, h⟩ := h
  refine V_aaS X (by decide) rfl g1 dX4_insert_5 (n := 6) rfl ?_
  refine V_calli X (As := []) (rest := []) (nA := 0) (i := (52 + 2 * Int32.toNatClampNeg (C 51 (Int32.toNatClampNeg a2)))) (q := (RX5, TX5, 7)) (TX5_oldestRound l D G ρ C N (C 51 (Int32.toNatClampNeg a2)) g2 _ h) gX4_insert_X5_oldestRound rfl rfl rfl (by decide +kernel) rfl ⟨by decide, by decide⟩ (Nat.le_of_ble_eq_true rfl) ⟨by decide, by decide⟩ (by omega) (shp_S _ g2) rfl rfl dX4_insert_6 (n := 9) rfl (fun r3 M1 M0 h => ?_)
  obtain ⟨h, eo, eo2⟩ := h
  rw [eo, eo2]
  refine V_istore_n X (L2 := [(3, .int r3), (0, .ref (ρ 64)), (1, .ref (ρ 50)), (2, .int a2)]) rfl (by decide) rfl dX4_insert_9 (n := 10) rfl ?_
  refine V_aload_n X (q := 1) rfl rfl dX4_insert_10 (n := 11) rfl ?_
  refine V_getX X (by decide) rfl rfl (k := 1) inX4_insert_X4 rfl (by decide) wX4_insert_15 dX4_insert_11 (n := 14) rfl ?_
  refine V_topi (fun x4 ex4 => ?_)
  have h := bd_at h ex4
  refine V_istore X (L2 := [(4, .int x4), (3, .int r3), (0, .ref (ρ 64)), (1, .ref (ρ 50)), (2, .int a2)]) (by decide) rfl dX4_insert_14 (n := 16) rfl ?_
  refine jn_o h (fun j15 ej15 h => ?_)
  have kj15 : ∀ (x16 : Int32) (C17 : Xm), j15 x16 C17 → V p l e rmX4_insert s m args below meth c D G ρ (WA ρ s.heap.size) s.heap 5 0 0 (Qv D G ρ s args below (fun C1 N1 => K C1 ∧ N1 = N)) 64 [(0, .ref (ρ 64)), (1, .ref (ρ 50)), (2, .int a2), (3, .int r3), (4, .int x16)] [] C17 N := by
    intro x16 C17 h
    rw [ej15] at h
    try dsimp only at h
    refine V_aload_n X (q := 0) rfl rfl dX4_insert_64 (n := 65) rfl ?_
    refine V_getR X (by decide) rfl rfl (k := 0) inX4_insert_X4 rfl (by decide) wX4_insert_9 dX4_insert_65 (n := 68) rfl ?_
    refine V_iload X (q := 4) rfl dX4_insert_68 (n := 70) rfl ?_
    refine V_iload_n X (q := 2) rfl rfl dX4_insert_70 (n := 71) rfl ?_
    obtain ⟨g18, h⟩ := h
    refine V_istX X (by decide) rfl g18 dX4_insert_71 (n := 72) rfl (fun C19 eC19 => ?_)
    have h := bd_at h eC19
    refine V_aload_n X (q := 0) rfl rfl dX4_insert_72 (n := 73) rfl ?_
    refine V_dup X rfl dX4_insert_73 (n := 74) rfl ?_
    refine V_getX X (by decide) rfl rfl (k := 1) inX4_insert_X4 rfl (by decide) wX4_insert_15 dX4_insert_74 (n := 77) rfl ?_
    refine V_iconst X (v := 1) (by decide) dX4_insert_77 (n := 78) rfl ?_
    refine V_iadd X dX4_insert_78 (n := 79) rfl ?_
    refine V_putX X (by decide) rfl rfl (k := 1) inX4_insert_X4 rfl (by decide) wX4_insert_15 tyX4 tyX4_ok nmX4 rfl (by decide +kernel) dX4_insert_79 (n := 82) rfl (fun C20 eC20 => ?_)
    have h := bd_at h eC20
    exact V_vret X hr hlk dX4_insert_82 ⟨h, rfl⟩
  refine V_loc [2, 3, 4, 1, 0] rfl ?_
  exact TX4_insert_L16 X hr hlk N a2 r3 (E := j15) (K := K) kj15 200 x4 C h
abbrev rmX4_build : Room := { frames := 2, cells := 0, slots := 0, locals := 44 }
theorem wX4_build_15 : Cond.fieldLink RX4 15 "FloodBus$Schedule" "size" "I" ∈ wsX4_build := by decide +kernel
theorem wX4_build_19 : Cond.fieldLink RX4 19 "FloodBus$StreamTable" "count" "I" ∈ wsX4_build := by decide +kernel
theorem wX4_build_24 : Cond.fieldLink RX4 24 "FloodBus$StreamTable" "rows" "[LFloodBus$Stream;" ∈ wsX4_build := by decide +kernel
theorem wX4_build_28 : Cond.fieldLink RX4 28 "FloodBus$Stream" "waiting" "I" ∈ wsX4_build := by decide +kernel
theorem wX4_build_371 : Cond.methodLink RX4 37 Lib.Math.min.name ∈ wsX4_build := by decide +kernel
theorem wX4_build_372 : Cond.static Lib.Math.min.name ∈ wsX4_build := by decide +kernel
theorem wX4_build_373 : Cond.initialized "java/lang/Math" ∈ wsX4_build := by decide +kernel
theorem wX4_build_374 : Cond.code Lib.Math.min.name Lib.Math.min.code 2 (some .int) ∈ wsX4_build := by decide +kernel
theorem inX4_build_X4 : ∀ w ∈ wsX40, w ∈ wsX4_build := by decide +kernel
theorem inX4_build_X6 : ∀ w ∈ wsX60, w ∈ wsX4_build := by decide +kernel
theorem inX4_build_X5 : ∀ w ∈ wsX50, w ∈ wsX4_build := by decide +kernel
set_option maxRecDepth 100000 in
set_option maxHeartbeats 4000000 in
theorem TX4_build_L7 {p : Program} {l : Launch} {e : Env} {s : State} {m : MethodId} {args : Array Value} {below : List Frame} {meth : Method} {c : Code} {D : va_G} {G : Gc} {ρ : Nat → Nat} (X : Cx p s m args c cX4_build 4 RX4 wsX4_build D G ρ (WA ρ s.heap.size) s.heap) (hr : meth.sig.returnType = none) (hlk : meth.locks = false) (N : Nm) (p2 : Int32)  {E : Int32 → Xm → Prop} {K : Xm → Prop} (hE : ∀ (v3 : Int32) (C : Xm), E v3 C → V p l e rmX4_build s m args below meth c D G ρ (WA ρ s.heap.size) s.heap 4 0 0 (Qv D G ρ s args below (fun C1 N1 => K C1 ∧ N1 = N)) 39 [(0, .ref (ρ 64)), (1, .ref (ρ 50)), (2, .int p2), (3, .int v3)] [] C N) : ∀ (n : Nat) (v3 : Int32) (C : Xm), fX4_build_L7 p2 E K n v3 C → V p l e rmX4_build s m args below meth c D G ρ (WA ρ s.heap.size) s.heap 4 0 0 (Qv D G ρ s args below (fun C1 N1 => K C1 ∧ N1 = N)) 7 [(0, .ref (ρ 64)), (1, .ref (ρ 50)), (2, .int p2), (3, .int v3)] [] C N := by
  intro n
  induction n with
  | zero => intro v3 C h; exact h.elim
  | succ n ih =>
    intro v3 C h
    unfold fX4_build_L7 at h
    refine V_iload_n X (q := 3) rfl rfl dX4_build_7 (n := 8) rfl ?_
    refine V_aload_n X (q := 1) rfl rfl dX4_build_8 (n := 9) rfl ?_
    refine V_getX X (by decide) rfl rfl (k := 1) inX4_build_X6 rfl (by decide) wX4_build_19 dX4_build_9 (n := 12) rfl ?_
    refine V_icmp_ge X dX4_build_12 (tgt := 39) (n := 15) (by decide) rfl (fun c2 => ?_) (fun c2 => ?_)
    · have h := ite_t h c2
      exact hE v3 C h
    · have h := ite_f h c2
      refine V_aload_n X (q := 1) rfl rfl dX4_build_15 (n := 16) rfl ?_
      refine V_getR X (by decide) rfl rfl (k := 0) inX4_build_X6 rfl (by decide) wX4_build_24 dX4_build_16 (n := 19) rfl ?_
      refine V_iload_n X (q := 3) rfl rfl dX4_build_19 (n := 20) rfl ?_
      obtain ⟨g3, h⟩ := h
      obtain ⟨g4, h⟩ := h
      refine V_aaS X (by decide) rfl g3 dX4_build_20 (n := 21) rfl ?_
      refine V_getX X (by omega) (shp_S _ g4) rfl (k := 4) inX4_build_X5 rfl (by decide) wX4_build_28 dX4_build_21 (n := 24) rfl ?_
      refine jn_o h (fun j5 ej5 h => ?_)
      have kj5 : ∀ (C8 : Xm), j5 C8 → V p l e rmX4_build s m args below meth c D G ρ (WA ρ s.heap.size) s.heap 4 0 0 (Qv D G ρ s args below (fun C1 N1 => K C1 ∧ N1 = N)) 33 [(0, .ref (ρ 64)), (1, .ref (ρ 50)), (2, .int p2), (3, .int v3)] [] C8 N := by
        intro C8 h
        rw [ej5] at h
        try dsimp only at h
        obtain ⟨x9, ex9⟩ : ∃ z : Int32, z = v3 + (1 : Int32) := ⟨_, rfl⟩
        have h := bd_at h ex9
        refine V_iinc X (q := 3) (d := 1) (L2 := [(3, .int x9), (0, .ref (ρ 64)), (1, .ref (ρ 50)), (2, .int p2)]) rfl (by decide) (by decide) ex9 rfl dX4_build_33 (n := 36) rfl ?_
        refine V_goto X dX4_build_36 (tgt := 7) (by decide) ?_
        refine V_loc [1, 2, 3, 0] rfl ?_
        exact ih x9 C8 h
      refine V_if_le X dX4_build_24 (tgt := 33) (n := 27) (by decide) rfl (fun c6 => ?_) (fun c6 => ?_)
      · have h := ite_t h c6
        exact kj5 C h
      · have h := ite_f h c6
        refine V_aload_n X (q := 0) rfl rfl dX4_build_27 (n := 28) rfl ?_
        refine V_aload_n X (q := 1) rfl rfl dX4_build_28 (n := 29) rfl ?_
        refine V_iload_n X (q := 3) rfl rfl dX4_build_29 (n := 30) rfl ?_
        refine V_callv X (As := [.ref (ρ 50), .int v3]) (rest := []) (nA := 2) (i := 64) (q := (RX4, TX4, 2)) (TX4_insert l D G ρ C N v3 _ h) gX4_build_X4_insert rfl rfl rfl (by decide +kernel) rfl ⟨by decide, by decide⟩ (Nat.le_of_ble_eq_true rfl) ⟨by decide, by decide⟩ (by decide) rfl rfl rfl dX4_build_30 (n := 33) rfl (fun C7 M0 h => ?_)
        obtain ⟨h, eo⟩ := h
        rw [eo]
        exact kj5 C7 h
set_option maxRecDepth 100000 in
set_option maxHeartbeats 4000000 in
theorem TX4_build (l : Launch) (D : va_G) (G : Gc) (ρ : Nat → Nat) (C : Xm) (N : Nm)  (a2 : Int32) (K : Xm → Prop) (h : fX4_build C a2 K) : Kv l yX4_build wsX4_build rmX4_build D G ρ [.ref (ρ 64), .ref (ρ 50), .int a2] C N (fun C1 N1 => K C1 ∧ N1 = N) := by
  refine Kv.ofV (cc := cX4_build) (maxL := 4) (ret := none) (by decide +kernel) rfl (Nat.le_of_ble_eq_true rfl) ?_
  intro p e s m args below meth c X hr hlk
  show V p l e rmX4_build s m args below meth c D G ρ (WA ρ s.heap.size) s.heap 4 0 0 (Qv D G ρ s args below (fun C1 N1 => K C1 ∧ N1 = N)) 0 [(0, .ref (ρ 64)), (1, .ref (ρ 50)), (2, .int a2)] [] C N
  unfold fX4_build at h
  refine V_aload_n X (q := 0) rfl rfl dX4_build_0 (n := 1) rfl ?_
  refine V_iconst X (v := 0) (by decide) dX4_build_1 (n := 2) rfl ?_
  refine V_putX X (by decide) rfl rfl (k := 1) inX4_build_X4 rfl (by decide) wX4_build_15 tyX4 tyX4_ok nmX4 rfl (by decide +kernel) dX4_build_2 (n := 5) rfl (fun C1 eC1 => ?_)
  have h := bd_at h eC1
  refine V_iconst X (v := 0) (by decide) dX4_build_5 (n := 6) rfl ?_
  refine V_istore_n X (L2 := [(3, .int (0 : Int32)), (0, .ref (ρ 64)), (1, .ref (ρ 50)), (2, .int a2)]) rfl (by decide) rfl dX4_build_6 (n := 7) rfl ?_
  refine jn_o h (fun j10 ej10 h => ?_)
  have kj10 : ∀ (x11 : Int32) (C12 : Xm), j10 x11 C12 → V p l e rmX4_build s m args below meth c D G ρ (WA ρ s.heap.size) s.heap 4 0 0 (Qv D G ρ s args below (fun C1 N1 => K C1 ∧ N1 = N)) 39 [(0, .ref (ρ 64)), (1, .ref (ρ 50)), (2, .int a2), (3, .int x11)] [] C12 N := by
    intro x11 C12 h
    rw [ej10] at h
    try dsimp only at h
    refine V_aload_n X (q := 0) rfl rfl dX4_build_39 (n := 40) rfl ?_
    refine V_aload_n X (q := 0) rfl rfl dX4_build_40 (n := 41) rfl ?_
    refine V_getX X (by decide) rfl rfl (k := 1) inX4_build_X4 rfl (by decide) wX4_build_15 dX4_build_41 (n := 44) rfl ?_
    refine V_iload_n X (q := 2) rfl rfl dX4_build_44 (n := 45) rfl ?_
    refine V_mmin X wX4_build_371 wX4_build_372 wX4_build_373 wX4_build_374 (by decide) (Nat.le_of_ble_eq_true rfl) ⟨by decide, by decide⟩ dX4_build_45 (n := 48) rfl ?_
    refine V_putX X (by decide) rfl rfl (k := 1) inX4_build_X4 rfl (by decide) wX4_build_15 tyX4 tyX4_ok nmX4 rfl (by decide +kernel) dX4_build_48 (n := 51) rfl (fun C13 eC13 => ?_)
    have h := bd_at h eC13
    exact V_vret X hr hlk dX4_build_51 ⟨h, rfl⟩
  refine V_loc [1, 2, 3, 0] rfl ?_
  exact TX4_build_L7 X hr hlk N a2 (E := j10) (K := K) kj10 200 (0 : Int32) C1 h
abbrev rmX3_noteSchedule : Room := { frames := 0, cells := 0, slots := 0, locals := 0 }
theorem wX3_noteSchedule_18 : Cond.fieldLink RX3 18 "FloodBus$Network" "count" "I" ∈ wsX3_noteSchedule := by decide +kernel
theorem wX3_noteSchedule_33 : Cond.fieldLink RX3 33 "FloodBus$Network" "informed" "[Z" ∈ wsX3_noteSchedule := by decide +kernel
theorem wX3_noteSchedule_40 : Cond.fieldLink RX3 40 "FloodBus$Flooding" "packet" "[I" ∈ wsX3_noteSchedule := by decide +kernel
theorem wX3_noteSchedule_22 : Cond.fieldLink RX3 22 "FloodBus$Network" "alive" "[Z" ∈ wsX3_noteSchedule := by decide +kernel
theorem wX3_noteSchedule_26 : Cond.fieldLink RX3 26 "FloodBus$Network" "missed" "[I" ∈ wsX3_noteSchedule := by decide +kernel
theorem inX3_noteSchedule_X3 : ∀ w ∈ wsX30, w ∈ wsX3_noteSchedule := by decide +kernel
theorem inX3_noteSchedule_X1 : ∀ w ∈ wsX10, w ∈ wsX3_noteSchedule := by decide +kernel
set_option maxRecDepth 100000 in
set_option maxHeartbeats 4000000 in
theorem TX3_noteSchedule_L2 {p : Program} {l : Launch} {e : Env} {s : State} {m : MethodId} {args : Array Value} {below : List Frame} {meth : Method} {c : Code} {D : va_G} {G : Gc} {ρ : Nat → Nat} (X : Cx p s m args c cX3_noteSchedule 3 RX3 wsX3_noteSchedule D G ρ (WA ρ s.heap.size) s.heap) (hr : meth.sig.returnType = none) (hlk : meth.locks = false) (N : Nm)   {E : Int32 → Xm → Prop} {K : Xm → Prop} (hE : ∀ (v2 : Int32) (C : Xm), E v2 C → V p l e rmX3_noteSchedule s m args below meth c D G ρ (WA ρ s.heap.size) s.heap 3 0 0 (Qv D G ρ s args below (fun C1 N1 => K C1 ∧ N1 = N)) 75 [(0, .ref (ρ 22)), (1, .ref (ρ 46)), (2, .int v2)] [] C N) : ∀ (n : Nat) (v2 : Int32) (C : Xm), fX3_noteSchedule_L2  E K n v2 C → V p l e rmX3_noteSchedule s m args below meth c D G ρ (WA ρ s.heap.size) s.heap 3 0 0 (Qv D G ρ s args below (fun C1 N1 => K C1 ∧ N1 = N)) 2 [(0, .ref (ρ 22)), (1, .ref (ρ 46)), (2, .int v2)] [] C N := by
  intro n
  induction n with
  | zero => intro v2 C h; exact h.elim
  | succ n ih =>
    intro v2 C h
    unfold fX3_noteSchedule_L2 at h
    refine V_iload_n X (q := 2) rfl rfl dX3_noteSchedule_2 (n := 3) rfl ?_
    refine V_aload_n X (q := 0) rfl rfl dX3_noteSchedule_3 (n := 4) rfl ?_
    refine V_getX X (by decide) rfl rfl (k := 1) inX3_noteSchedule_X3 rfl (by decide) wX3_noteSchedule_18 dX3_noteSchedule_4 (n := 7) rfl ?_
    refine V_icmp_ge X dX3_noteSchedule_7 (tgt := 75) (n := 10) (by decide) rfl (fun c1 => ?_) (fun c1 => ?_)
    · have h := ite_t h c1
      exact hE v2 C h
    · have h := ite_f h c1
      refine V_aload_n X (q := 0) rfl rfl dX3_noteSchedule_10 (n := 11) rfl ?_
      refine V_getR X (by decide) rfl rfl (k := 5) inX3_noteSchedule_X3 rfl (by decide) wX3_noteSchedule_33 dX3_noteSchedule_11 (n := 14) rfl ?_
      refine V_iload_n X (q := 2) rfl rfl dX3_noteSchedule_14 (n := 15) rfl ?_
      refine V_aload_n X (q := 1) rfl rfl dX3_noteSchedule_15 (n := 16) rfl ?_
      refine V_getR X (by decide) rfl rfl (k := 1) inX3_noteSchedule_X1 rfl (by decide) wX3_noteSchedule_40 dX3_noteSchedule_16 (n := 19) rfl ?_
      refine V_iload_n X (q := 2) rfl rfl dX3_noteSchedule_19 (n := 20) rfl ?_
      obtain ⟨g2, h⟩ := h
      refine V_ildX X (by decide) rfl g2 dX3_noteSchedule_20 (n := 21) rfl ?_
      refine V_iconst X (v := -1) (by decide) dX3_noteSchedule_21 (n := 22) rfl ?_
      refine jn_o h (fun j3 ej3 h => ?_)
      have kj3 : ∀ (x5 : Int32), j3 x5 → V p l e rmX3_noteSchedule s m args below meth c D G ρ (WA ρ s.heap.size) s.heap 3 0 0 (Qv D G ρ s args below (fun C1 N1 => K C1 ∧ N1 = N)) 30 [(0, .ref (ρ 22)), (1, .ref (ρ 46)), (2, .int v2)] [.int x5, .int v2, .ref (ρ 45)] C N := by
        intro x5 h
        rw [ej3] at h
        try dsimp only at h
        obtain ⟨g6, h⟩ := h
        obtain ⟨g7, h⟩ := h
        refine V_zstX X g7 (by decide) rfl g6 dX3_noteSchedule_30 (n := 31) rfl (fun C8 eC8 => ?_)
        have h := bd_at h eC8
        refine V_aload_n X (q := 0) rfl rfl dX3_noteSchedule_31 (n := 32) rfl ?_
        refine V_getR X (by decide) rfl rfl (k := 5) inX3_noteSchedule_X3 rfl (by decide) wX3_noteSchedule_33 dX3_noteSchedule_32 (n := 35) rfl ?_
        refine V_iload_n X (q := 2) rfl rfl dX3_noteSchedule_35 (n := 36) rfl ?_
        obtain ⟨g9, h⟩ := h
        refine V_zldX X (by decide) rfl g9 dX3_noteSchedule_36 (n := 37) rfl ?_
        refine jn_o h (fun j10 ej10 h => ?_)
        have kj10 : ∀ (C19 : Xm), j10 C19 → V p l e rmX3_noteSchedule s m args below meth c D G ρ (WA ρ s.heap.size) s.heap 3 0 0 (Qv D G ρ s args below (fun C1 N1 => K C1 ∧ N1 = N)) 69 [(0, .ref (ρ 22)), (1, .ref (ρ 46)), (2, .int v2)] [] C19 N := by
          intro C19 h
          rw [ej10] at h
          try dsimp only at h
          obtain ⟨x20, ex20⟩ : ∃ z : Int32, z = v2 + (1 : Int32) := ⟨_, rfl⟩
          have h := bd_at h ex20
          refine V_iinc X (q := 2) (d := 1) (L2 := [(2, .int x20), (0, .ref (ρ 22)), (1, .ref (ρ 46))]) rfl (by decide) (by decide) ex20 rfl dX3_noteSchedule_69 (n := 72) rfl ?_
          refine V_goto X dX3_noteSchedule_72 (tgt := 2) (by decide) ?_
          refine V_loc [1, 2, 0] rfl ?_
          exact ih x20 C19 h
        refine V_if_eq X dX3_noteSchedule_37 (tgt := 50) (n := 40) (by decide) rfl (fun c11 => ?_) (fun c11 => ?_)
        · have h := ite_t h c11
          refine V_aload_n X (q := 0) rfl rfl dX3_noteSchedule_50 (n := 51) rfl ?_
          refine V_getR X (by decide) rfl rfl (k := 2) inX3_noteSchedule_X3 rfl (by decide) wX3_noteSchedule_22 dX3_noteSchedule_51 (n := 54) rfl ?_
          refine V_iload_n X (q := 2) rfl rfl dX3_noteSchedule_54 (n := 55) rfl ?_
          obtain ⟨g12, h⟩ := h
          refine V_zldX X (by decide) rfl g12 dX3_noteSchedule_55 (n := 56) rfl ?_
          refine V_if_eq X dX3_noteSchedule_56 (tgt := 69) (n := 59) (by decide) rfl (fun c13 => ?_) (fun c13 => ?_)
          · have h := ite_t h c13
            exact kj10 C8 h
          · have h := ite_f h c13
            refine V_aload_n X (q := 0) rfl rfl dX3_noteSchedule_59 (n := 60) rfl ?_
            refine V_getR X (by decide) rfl rfl (k := 3) inX3_noteSchedule_X3 rfl (by decide) wX3_noteSchedule_26 dX3_noteSchedule_60 (n := 63) rfl ?_
            refine V_iload_n X (q := 2) rfl rfl dX3_noteSchedule_63 (n := 64) rfl ?_
            refine V_dup2 X rfl rfl dX3_noteSchedule_64 (n := 65) rfl ?_
            obtain ⟨g14, h⟩ := h
            refine V_ildX X (by decide) rfl g14 dX3_noteSchedule_65 (n := 66) rfl ?_
            refine V_iconst X (v := 1) (by decide) dX3_noteSchedule_66 (n := 67) rfl ?_
            refine V_iadd X dX3_noteSchedule_67 (n := 68) rfl ?_
            obtain ⟨g15, h⟩ := h
            refine V_istX X (by decide) rfl g15 dX3_noteSchedule_68 (n := 69) rfl (fun C16 eC16 => ?_)
            have h := bd_at h eC16
            exact kj10 C16 h
        · have h := ite_f h c11
          refine V_aload_n X (q := 0) rfl rfl dX3_noteSchedule_40 (n := 41) rfl ?_
          refine V_getR X (by decide) rfl rfl (k := 3) inX3_noteSchedule_X3 rfl (by decide) wX3_noteSchedule_26 dX3_noteSchedule_41 (n := 44) rfl ?_
          refine V_iload_n X (q := 2) rfl rfl dX3_noteSchedule_44 (n := 45) rfl ?_
          refine V_iconst X (v := 0) (by decide) dX3_noteSchedule_45 (n := 46) rfl ?_
          obtain ⟨g17, h⟩ := h
          refine V_istX X (by decide) rfl g17 dX3_noteSchedule_46 (n := 47) rfl (fun C18 eC18 => ?_)
          have h := bd_at h eC18
          refine V_goto X dX3_noteSchedule_47 (tgt := 69) (by decide) ?_
          exact kj10 C18 h
      refine V_icmp_eq X dX3_noteSchedule_22 (tgt := 29) (n := 25) (by decide) rfl (fun c4 => ?_) (fun c4 => ?_)
      · have h := ite_t h c4
        refine V_iconst X (v := 0) (by decide) dX3_noteSchedule_29 (n := 30) rfl ?_
        exact kj3 (0 : Int32) h
      · have h := ite_f h c4
        refine V_iconst X (v := 1) (by decide) dX3_noteSchedule_25 (n := 26) rfl ?_
        refine V_goto X dX3_noteSchedule_26 (tgt := 30) (by decide) ?_
        exact kj3 (1 : Int32) h
set_option maxRecDepth 100000 in
set_option maxHeartbeats 4000000 in
theorem TX3_noteSchedule (l : Launch) (D : va_G) (G : Gc) (ρ : Nat → Nat) (C : Xm) (N : Nm)   (K : Xm → Prop) (h : fX3_noteSchedule C K) : Kv l yX3_noteSchedule wsX3_noteSchedule rmX3_noteSchedule D G ρ [.ref (ρ 22), .ref (ρ 46)] C N (fun C1 N1 => K C1 ∧ N1 = N) := by
  refine Kv.ofV (cc := cX3_noteSchedule) (maxL := 3) (ret := none) (by decide +kernel) rfl (Nat.le_of_ble_eq_true rfl) ?_
  intro p e s m args below meth c X hr hlk
  show V p l e rmX3_noteSchedule s m args below meth c D G ρ (WA ρ s.heap.size) s.heap 3 0 0 (Qv D G ρ s args below (fun C1 N1 => K C1 ∧ N1 = N)) 0 [(0, .ref (ρ 22)), (1, .ref (ρ 46))] [] C N
  unfold fX3_noteSchedule at h
  refine V_iconst X (v := 0) (by decide) dX3_noteSchedule_0 (n := 1) rfl ?_
  refine V_istore_n X (L2 := [(2, .int (0 : Int32)), (0, .ref (ρ 22)), (1, .ref (ρ 46))]) rfl (by decide) rfl dX3_noteSchedule_1 (n := 2) rfl ?_
  refine jn_o h (fun j21 ej21 h => ?_)
  have kj21 : ∀ (x22 : Int32) (C23 : Xm), j21 x22 C23 → V p l e rmX3_noteSchedule s m args below meth c D G ρ (WA ρ s.heap.size) s.heap 3 0 0 (Qv D G ρ s args below (fun C1 N1 => K C1 ∧ N1 = N)) 75 [(0, .ref (ρ 22)), (1, .ref (ρ 46)), (2, .int x22)] [] C23 N := by
    intro x22 C23 h
    rw [ej21] at h
    try dsimp only at h
    exact V_vret X hr hlk dX3_noteSchedule_75 ⟨h, rfl⟩
  refine V_loc [1, 2, 0] rfl ?_
  exact TX3_noteSchedule_L2 X hr hlk N  (E := j21) (K := K) kj21 200 (0 : Int32) C h
abbrev rmX5_removeOldest : Room := { frames := 0, cells := 0, slots := 0, locals := 0 }
theorem wX5_removeOldest_25 : Cond.fieldLink RX5 25 "FloodBus$Stream" "waiting" "I" ∈ wsX5_removeOldest := by decide +kernel
theorem wX5_removeOldest_9 : Cond.fieldLink RX5 9 "FloodBus$Stream" "generatedIn" "[I" ∈ wsX5_removeOldest := by decide +kernel
theorem inX5_removeOldest_X5 : ∀ w ∈ wsX50, w ∈ wsX5_removeOldest := by decide +kernel
set_option maxRecDepth 100000 in
set_option maxHeartbeats 4000000 in
theorem TX5_removeOldest_L2 {p : Program} {l : Launch} {e : Env} {s : State} {m : MethodId} {args : Array Value} {below : List Frame} {meth : Method} {c : Code} {D : va_G} {G : Gc} {ρ : Nat → Nat} (X : Cx p s m args c cX5_removeOldest 2 RX5 wsX5_removeOldest D G ρ (WA ρ s.heap.size) s.heap) (hr : meth.sig.returnType = none) (hlk : meth.locks = false) (kx : Int32) (hkx : Int32.toNatClampNeg kx < 6) (N : Nm)   {E : Int32 → Xm → Prop} {K : Xm → Prop} (hE : ∀ (v1 : Int32) (C : Xm), E v1 C → V p l e rmX5_removeOldest s m args below meth c D G ρ (WA ρ s.heap.size) s.heap 2 0 0 (Qv D G ρ s args below (fun C1 N1 => K C1 ∧ N1 = N)) 30 [(0, .ref (ρ (52 + 2 * Int32.toNatClampNeg kx))), (1, .int v1)] [] C N) : ∀ (n : Nat) (v1 : Int32) (C : Xm), fX5_removeOldest_L2 kx E K n v1 C → V p l e rmX5_removeOldest s m args below meth c D G ρ (WA ρ s.heap.size) s.heap 2 0 0 (Qv D G ρ s args below (fun C1 N1 => K C1 ∧ N1 = N)) 2 [(0, .ref (ρ (52 + 2 * Int32.toNatClampNeg kx))), (1, .int v1)] [] C N := by
  intro n
  induction n with
  | zero => intro v1 C h; exact h.elim
  | succ n ih =>
    intro v1 C h
    unfold fX5_removeOldest_L2 at h
    refine V_iload_n X (q := 1) rfl rfl dX5_removeOldest_2 (n := 3) rfl ?_
    refine V_aload_n X (q := 0) rfl rfl dX5_removeOldest_3 (n := 4) rfl ?_
    refine V_getX X (by omega) (shp_S _ hkx) rfl (k := 4) inX5_removeOldest_X5 rfl (by decide) wX5_removeOldest_25 dX5_removeOldest_4 (n := 7) rfl ?_
    refine V_icmp_ge X dX5_removeOldest_7 (tgt := 30) (n := 10) (by decide) rfl (fun c1 => ?_) (fun c1 => ?_)
    · have h := ite_t h c1
      exact hE v1 C h
    · have h := ite_f h c1
      refine V_aload_n X (q := 0) rfl rfl dX5_removeOldest_10 (n := 11) rfl ?_
      refine V_getR X (by omega) (shp_S _ hkx) rfl (k := 0) inX5_removeOldest_X5 rfl (by decide) wX5_removeOldest_9 dX5_removeOldest_11 (n := 14) rfl ?_
      refine V_iload_n X (q := 1) rfl rfl dX5_removeOldest_14 (n := 15) rfl ?_
      refine V_iconst X (v := 1) (by decide) dX5_removeOldest_15 (n := 16) rfl ?_
      refine V_isub X dX5_removeOldest_16 (n := 17) rfl ?_
      refine V_aload_n X (q := 0) rfl rfl dX5_removeOldest_17 (n := 18) rfl ?_
      refine V_getR X (by omega) (shp_S _ hkx) rfl (k := 0) inX5_removeOldest_X5 rfl (by decide) wX5_removeOldest_9 dX5_removeOldest_18 (n := 21) rfl ?_
      refine V_iload_n X (q := 1) rfl rfl dX5_removeOldest_21 (n := 22) rfl ?_
      obtain ⟨g2, h⟩ := h
      refine V_ildX X (by omega) (shp_SG _ hkx) g2 dX5_removeOldest_22 (n := 23) rfl ?_
      obtain ⟨g3, h⟩ := h
      refine V_istX X (by omega) (shp_SG _ hkx) g3 dX5_removeOldest_23 (n := 24) rfl (fun C4 eC4 => ?_)
      have h := bd_at h eC4
      obtain ⟨x5, ex5⟩ : ∃ z : Int32, z = v1 + (1 : Int32) := ⟨_, rfl⟩
      have h := bd_at h ex5
      refine V_iinc X (q := 1) (d := 1) (L2 := [(1, .int x5), (0, .ref (ρ (52 + 2 * Int32.toNatClampNeg kx)))]) rfl (by decide) (by decide) ex5 rfl dX5_removeOldest_24 (n := 27) rfl ?_
      refine V_goto X dX5_removeOldest_27 (tgt := 2) (by decide) ?_
      refine V_loc [1, 0] rfl ?_
      exact ih x5 C4 h
set_option maxRecDepth 100000 in
set_option maxHeartbeats 4000000 in
theorem TX5_removeOldest (l : Launch) (D : va_G) (G : Gc) (ρ : Nat → Nat) (C : Xm) (N : Nm) (kx : Int32) (hkx : Int32.toNatClampNeg kx < 6)  (K : Xm → Prop) (h : fX5_removeOldest C kx K) : Kv l yX5_removeOldest wsX5_removeOldest rmX5_removeOldest D G ρ [.ref (ρ (52 + 2 * Int32.toNatClampNeg kx))] C N (fun C1 N1 => K C1 ∧ N1 = N) := by
  refine Kv.ofV (cc := cX5_removeOldest) (maxL := 2) (ret := none) (by decide +kernel) rfl (Nat.le_of_ble_eq_true rfl) ?_
  intro p e s m args below meth c X hr hlk
  show V p l e rmX5_removeOldest s m args below meth c D G ρ (WA ρ s.heap.size) s.heap 2 0 0 (Qv D G ρ s args below (fun C1 N1 => K C1 ∧ N1 = N)) 0 [(0, .ref (ρ (52 + 2 * Int32.toNatClampNeg kx)))] [] C N
  unfold fX5_removeOldest at h
  refine V_iconst X (v := 1) (by decide) dX5_removeOldest_0 (n := 1) rfl ?_
  refine V_istore_n X (L2 := [(1, .int (1 : Int32)), (0, .ref (ρ (52 + 2 * Int32.toNatClampNeg kx)))]) rfl (by decide) rfl dX5_removeOldest_1 (n := 2) rfl ?_
  refine jn_o h (fun j6 ej6 h => ?_)
  have kj6 : ∀ (x7 : Int32) (C8 : Xm), j6 x7 C8 → V p l e rmX5_removeOldest s m args below meth c D G ρ (WA ρ s.heap.size) s.heap 2 0 0 (Qv D G ρ s args below (fun C1 N1 => K C1 ∧ N1 = N)) 30 [(0, .ref (ρ (52 + 2 * Int32.toNatClampNeg kx))), (1, .int x7)] [] C8 N := by
    intro x7 C8 h
    rw [ej6] at h
    try dsimp only at h
    refine V_aload_n X (q := 0) rfl rfl dX5_removeOldest_30 (n := 31) rfl ?_
    refine V_getX X (by omega) (shp_S _ hkx) rfl (k := 4) inX5_removeOldest_X5 rfl (by decide) wX5_removeOldest_25 dX5_removeOldest_31 (n := 34) rfl ?_
    refine jn_o h (fun j9 ej9 h => ?_)
    have kj9 : ∀ (C12 : Xm), j9 C12 → V p l e rmX5_removeOldest s m args below meth c D G ρ (WA ρ s.heap.size) s.heap 2 0 0 (Qv D G ρ s args below (fun C1 N1 => K C1 ∧ N1 = N)) 47 [(0, .ref (ρ (52 + 2 * Int32.toNatClampNeg kx))), (1, .int x7)] [] C12 N := by
      intro C12 h
      rw [ej9] at h
      try dsimp only at h
      exact V_vret X hr hlk dX5_removeOldest_47 ⟨h, rfl⟩
    refine V_if_le X dX5_removeOldest_34 (tgt := 47) (n := 37) (by decide) rfl (fun c10 => ?_) (fun c10 => ?_)
    · have h := ite_t h c10
      exact kj9 C8 h
    · have h := ite_f h c10
      refine V_aload_n X (q := 0) rfl rfl dX5_removeOldest_37 (n := 38) rfl ?_
      refine V_dup X rfl dX5_removeOldest_38 (n := 39) rfl ?_
      refine V_getX X (by omega) (shp_S _ hkx) rfl (k := 4) inX5_removeOldest_X5 rfl (by decide) wX5_removeOldest_25 dX5_removeOldest_39 (n := 42) rfl ?_
      refine V_iconst X (v := 1) (by decide) dX5_removeOldest_42 (n := 43) rfl ?_
      refine V_isub X dX5_removeOldest_43 (n := 44) rfl ?_
      refine V_putX X (by omega) (shp_S _ hkx) rfl (k := 4) inX5_removeOldest_X5 rfl (by decide) wX5_removeOldest_25 tyX5 tyX5_ok nmX5 rfl (by decide +kernel) dX5_removeOldest_44 (n := 47) rfl (fun C11 eC11 => ?_)
      have h := bd_at h eC11
      exact kj9 C11 h
  refine V_loc [1, 0] rfl ?_
  exact TX5_removeOldest_L2 X hr hlk kx hkx N  (E := j6) (K := K) kj6 200 (1 : Int32) C h
