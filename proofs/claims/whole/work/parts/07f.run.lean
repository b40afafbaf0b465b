abbrev rmX8_setTransmissionLimit : Room := { frames := 1, cells := 0, slots := 0, locals := 22 }
theorem wX8_setTransmissionLimit_45 : Cond.fieldLink RX8 45 "FloodBusModel" "transmissionLimit" "I" ∈ wsX8_setTransmissionLimit := by decide +kernel
theorem inX8_setTransmissionLimit_X8 : ∀ w ∈ wsX80, w ∈ wsX8_setTransmissionLimit := by decide +kernel
set_option maxRecDepth 100000 in
set_option maxHeartbeats 4000000 in
theorem TX8_setTransmissionLimit (l : Launch) (D : va_G) (G : Gc) (ρ : Nat → Nat) (C : Xm) (N : Nm)  (a1 : Int32) (K : Int32 → Nm → Prop) (h : fX8_setTransmissionLimit N a1 K) : Ki l yX8_setTransmissionLimit wsX8_setTransmissionLimit rmX8_setTransmissionLimit D G ρ [.ref (ρ 66), .int a1] C N (fun r C1 N1 => K r N1 ∧ C1 = C) := by
  refine Ki.ofV (cc := cX8_setTransmissionLimit) (maxL := 3) (ret := (some .int)) (by decide +kernel) rfl (Nat.le_of_ble_eq_true rfl) ?_
  intro p e s m args below meth c X hr hlk
  show V p l e rmX8_setTransmissionLimit s m args below meth c D G ρ (WA ρ s.heap.size) s.heap 3 0 0 (Qi D G ρ s args below (fun r C1 N1 => K r N1 ∧ C1 = C)) 0 [(0, .ref (ρ 66)), (1, .int a1)] [] C N
  unfold fX8_setTransmissionLimit at h
  refine V_iload_n X (q := 1) rfl rfl dX8_setTransmissionLimit_0 (n := 1) rfl ?_
  refine V_iconst X (v := 1) (by decide) dX8_setTransmissionLimit_1 (n := 2) rfl ?_
  refine V_iconst X (v := 4) (by decide) dX8_setTransmissionLimit_2 (n := 3) rfl ?_
  refine V_callsi X (As := [.int a1, .int (1 : Int32), .int (4 : Int32)]) (rest := []) (nA := 3) (TX8_within l D G ρ C N a1 (1 : Int32) (4 : Int32) _ h) gX8_setTransmissionLimit_X8_within rfl rfl rfl (by decide +kernel) rfl ⟨by decide, by decide⟩ (Nat.le_of_ble_eq_true rfl) ⟨by decide, by decide⟩  rfl dX8_setTransmissionLimit_3 (n := 6) rfl (fun r1 M1 M0 h => ?_)
  obtain ⟨h, eo, eo2⟩ := h
  rw [eo, eo2]
  refine V_if_ne X dX8_setTransmissionLimit_6 (tgt := 13) (n := 9) (by decide) rfl (fun c2 => ?_) (fun c2 => ?_)
  · have h := ite_f h c2
    refine V_aload_n X (q := 0) rfl rfl dX8_setTransmissionLimit_13 (n := 14) rfl ?_
    refine V_getN X (by decide) (by decide) rfl rfl (k := 16) inX8_setTransmissionLimit_X8 rfl (by decide) wX8_setTransmissionLimit_45 dX8_setTransmissionLimit_14 (n := 17) rfl ?_
    refine V_topi (fun x3 ex3 => ?_)
    have h := bd_at h ex3
    refine V_istore_n X (L2 := [(2, .int x3), (0, .ref (ρ 66)), (1, .int a1)]) rfl (by decide) rfl dX8_setTransmissionLimit_17 (n := 18) rfl ?_
    refine V_aload_n X (q := 1) rfl rfl dX8_setTransmissionLimit_18 (n := 19) rfl ?_
    refine V_iload_n X (q := 2) rfl rfl dX8_setTransmissionLimit_19 (n := 20) rfl ?_
    refine V_putN X (by decide) (by decide) rfl rfl (k := 16) inX8_setTransmissionLimit_X8 rfl (by decide) wX8_setTransmissionLimit_45 tyX8 tyX8_ok nmX8 rfl (by decide +kernel) dX8_setTransmissionLimit_20 (n := 23) rfl (fun N4 eN4 => ?_)
    have h := bd_at h eN4
    refine V_iload_n X (q := 0) rfl rfl dX8_setTransmissionLimit_23 (n := 24) rfl ?_
    exact V_iret X hr hlk dX8_setTransmissionLimit_24 ⟨h, rfl⟩
  · have h := ite_t h c2
    refine V_sipush X (v := -1002) (by decide) dX8_setTransmissionLimit_9 (n := 12) rfl ?_
    exact V_iret X hr hlk dX8_setTransmissionLimit_12 ⟨h, rfl⟩
abbrev rmX8_setCaptureMargin : Room := { frames := 1, cells := 0, slots := 0, locals := 22 }
theorem wX8_setCaptureMargin_48 : Cond.fieldLink RX8 48 "FloodBusModel" "captureMargin" "I" ∈ wsX8_setCaptureMargin := by decide +kernel
theorem inX8_setCaptureMargin_X8 : ∀ w ∈ wsX80, w ∈ wsX8_setCaptureMargin := by decide +kernel
set_option maxRecDepth 100000 in
set_option maxHeartbeats 4000000 in
theorem TX8_setCaptureMargin (l : Launch) (D : va_G) (G : Gc) (ρ : Nat → Nat) (C : Xm) (N : Nm)  (a1 : Int32) (K : Int32 → Nm → Prop) (h : fX8_setCaptureMargin N a1 K) : Ki l yX8_setCaptureMargin wsX8_setCaptureMargin rmX8_setCaptureMargin D G ρ [.ref (ρ 66), .int a1] C N (fun r C1 N1 => K r N1 ∧ C1 = C) := by
  refine Ki.ofV (cc := cX8_setCaptureMargin) (maxL := 3) (ret := (some .int)) (by decide +kernel) rfl (Nat.le_of_ble_eq_true rfl) ?_
  intro p e s m args below meth c X hr hlk
  show V p l e rmX8_setCaptureMargin s m args below meth c D G ρ (WA ρ s.heap.size) s.heap 3 0 0 (Qi D G ρ s args below (fun r C1 N1 => K r N1 ∧ C1 = C)) 0 [(0, .ref (ρ 66)), (1, .int a1)] [] C N
  unfold fX8_setCaptureMargin at h
  refine V_iload_n X (q := 1) rfl rfl dX8_setCaptureMargin_0 (n := 1) rfl ?_
  refine V_iconst X (v := 1) (by decide) dX8_setCaptureMargin_1 (n := 2) rfl ?_
  refine V_bipush X (v := 9) (by decide) dX8_setCaptureMargin_2 (n := 4) rfl ?_
  refine V_callsi X (As := [.int a1, .int (1 : Int32), .int (9 : Int32)]) (rest := []) (nA := 3) (TX8_within l D G ρ C N a1 (1 : Int32) (9 : Int32) _ h) gX8_setCaptureMargin_X8_within rfl rfl rfl (by decide +kernel) rfl ⟨by decide, by decide⟩ (Nat.le_of_ble_eq_true rfl) ⟨by decide, by decide⟩  rfl dX8_setCaptureMargin_4 (n := 7) rfl (fun r1 M1 M0 h => ?_)
  obtain ⟨h, eo, eo2⟩ := h
  rw [eo, eo2]
  refine V_if_ne X dX8_setCaptureMargin_7 (tgt := 14) (n := 10) (by decide) rfl (fun c2 => ?_) (fun c2 => ?_)
  · have h := ite_f h c2
    refine V_aload_n X (q := 0) rfl rfl dX8_setCaptureMargin_14 (n := 15) rfl ?_
    refine V_getN X (by decide) (by decide) rfl rfl (k := 17) inX8_setCaptureMargin_X8 rfl (by decide) wX8_setCaptureMargin_48 dX8_setCaptureMargin_15 (n := 18) rfl ?_
    refine V_topi (fun x3 ex3 => ?_)
    have h := bd_at h ex3
    refine V_istore_n X (L2 := [(2, .int x3), (0, .ref (ρ 66)), (1, .int a1)]) rfl (by decide) rfl dX8_setCaptureMargin_18 (n := 19) rfl ?_
    refine V_aload_n X (q := 1) rfl rfl dX8_setCaptureMargin_19 (n := 20) rfl ?_
    refine V_iload_n X (q := 2) rfl rfl dX8_setCaptureMargin_20 (n := 21) rfl ?_
    refine V_putN X (by decide) (by decide) rfl rfl (k := 17) inX8_setCaptureMargin_X8 rfl (by decide) wX8_setCaptureMargin_48 tyX8 tyX8_ok nmX8 rfl (by decide +kernel) dX8_setCaptureMargin_21 (n := 24) rfl (fun N4 eN4 => ?_)
    have h := bd_at h eN4
    refine V_iload_n X (q := 0) rfl rfl dX8_setCaptureMargin_24 (n := 25) rfl ?_
    exact V_iret X hr hlk dX8_setCaptureMargin_25 ⟨h, rfl⟩
  · have h := ite_t h c2
    refine V_sipush X (v := -1002) (by decide) dX8_setCaptureMargin_10 (n := 13) rfl ?_
    exact V_iret X hr hlk dX8_setCaptureMargin_13 ⟨h, rfl⟩
abbrev rmX8_setSlotLimit : Room := { frames := 1, cells := 0, slots := 0, locals := 22 }
theorem wX8_setSlotLimit_51 : Cond.fieldLink RX8 51 "FloodBusModel" "slotLimit" "I" ∈ wsX8_setSlotLimit := by decide +kernel
theorem inX8_setSlotLimit_X8 : ∀ w ∈ wsX80, w ∈ wsX8_setSlotLimit := by decide +kernel
set_option maxRecDepth 100000 in
set_option maxHeartbeats 4000000 in
theorem TX8_setSlotLimit (l : Launch) (D : va_G) (G : Gc) (ρ : Nat → Nat) (C : Xm) (N : Nm)  (a1 : Int32) (K : Int32 → Nm → Prop) (h : fX8_setSlotLimit N a1 K) : Ki l yX8_setSlotLimit wsX8_setSlotLimit rmX8_setSlotLimit D G ρ [.ref (ρ 66), .int a1] C N (fun r C1 N1 => K r N1 ∧ C1 = C) := by
  refine Ki.ofV (cc := cX8_setSlotLimit) (maxL := 3) (ret := (some .int)) (by decide +kernel) rfl (Nat.le_of_ble_eq_true rfl) ?_
  intro p e s m args below meth c X hr hlk
  show V p l e rmX8_setSlotLimit s m args below meth c D G ρ (WA ρ s.heap.size) s.heap 3 0 0 (Qi D G ρ s args below (fun r C1 N1 => K r N1 ∧ C1 = C)) 0 [(0, .ref (ρ 66)), (1, .int a1)] [] C N
  unfold fX8_setSlotLimit at h
  refine V_iload_n X (q := 1) rfl rfl dX8_setSlotLimit_0 (n := 1) rfl ?_
  refine V_iconst X (v := 0) (by decide) dX8_setSlotLimit_1 (n := 2) rfl ?_
  refine V_bipush X (v := 6) (by decide) dX8_setSlotLimit_2 (n := 4) rfl ?_
  refine V_callsi X (As := [.int a1, .int (0 : Int32), .int (6 : Int32)]) (rest := []) (nA := 3) (TX8_within l D G ρ C N a1 (0 : Int32) (6 : Int32) _ h) gX8_setSlotLimit_X8_within rfl rfl rfl (by decide +kernel) rfl ⟨by decide, by decide⟩ (Nat.le_of_ble_eq_true rfl) ⟨by decide, by decide⟩  rfl dX8_setSlotLimit_4 (n := 7) rfl (fun r1 M1 M0 h => ?_)
  obtain ⟨h, eo, eo2⟩ := h
  rw [eo, eo2]
  refine V_if_ne X dX8_setSlotLimit_7 (tgt := 14) (n := 10) (by decide) rfl (fun c2 => ?_) (fun c2 => ?_)
  · have h := ite_f h c2
    refine V_aload_n X (q := 0) rfl rfl dX8_setSlotLimit_14 (n := 15) rfl ?_
    refine V_getN X (by decide) (by decide) rfl rfl (k := 18) inX8_setSlotLimit_X8 rfl (by decide) wX8_setSlotLimit_51 dX8_setSlotLimit_15 (n := 18) rfl ?_
    refine V_topi (fun x3 ex3 => ?_)
    have h := bd_at h ex3
    refine V_istore_n X (L2 := [(2, .int x3), (0, .ref (ρ 66)), (1, .int a1)]) rfl (by decide) rfl dX8_setSlotLimit_18 (n := 19) rfl ?_
    refine V_aload_n X (q := 1) rfl rfl dX8_setSlotLimit_19 (n := 20) rfl ?_
    refine V_iload_n X (q := 2) rfl rfl dX8_setSlotLimit_20 (n := 21) rfl ?_
    refine V_putN X (by decide) (by decide) rfl rfl (k := 18) inX8_setSlotLimit_X8 rfl (by decide) wX8_setSlotLimit_51 tyX8 tyX8_ok nmX8 rfl (by decide +kernel) dX8_setSlotLimit_21 (n := 24) rfl (fun N4 eN4 => ?_)
    have h := bd_at h eN4
    refine V_iload_n X (q := 0) rfl rfl dX8_setSlotLimit_24 (n := 25) rfl ?_
    exact V_iret X hr hlk dX8_setSlotLimit_25 ⟨h, rfl⟩
  · have h := ite_t h c2
    refine V_sipush X (v := -1002) (by decide) dX8_setSlotLimit_10 (n := 13) rfl ?_
    exact V_iret X hr hlk dX8_setSlotLimit_13 ⟨h, rfl⟩
abbrev rmX8_setTakeoverLimit : Room := { frames := 1, cells := 0, slots := 0, locals := 22 }
theorem wX8_setTakeoverLimit_54 : Cond.fieldLink RX8 54 "FloodBusModel" "takeoverLimit" "I" ∈ wsX8_setTakeoverLimit := by decide +kernel
theorem inX8_setTakeoverLimit_X8 : ∀ w ∈ wsX80, w ∈ wsX8_setTakeoverLimit := by decide +kernel
set_option maxRecDepth 100000 in
set_option maxHeartbeats 4000000 in
theorem TX8_setTakeoverLimit (l : Launch) (D : va_G) (G : Gc) (ρ : Nat → Nat) (C : Xm) (N : Nm)  (a1 : Int32) (K : Int32 → Nm → Prop) (h : fX8_setTakeoverLimit N a1 K) : Ki l yX8_setTakeoverLimit wsX8_setTakeoverLimit rmX8_setTakeoverLimit D G ρ [.ref (ρ 66), .int a1] C N (fun r C1 N1 => K r N1 ∧ C1 = C) := by
  refine Ki.ofV (cc := cX8_setTakeoverLimit) (maxL := 3) (ret := (some .int)) (by decide +kernel) rfl (Nat.le_of_ble_eq_true rfl) ?_
  intro p e s m args below meth c X hr hlk
  show V p l e rmX8_setTakeoverLimit s m args below meth c D G ρ (WA ρ s.heap.size) s.heap 3 0 0 (Qi D G ρ s args below (fun r C1 N1 => K r N1 ∧ C1 = C)) 0 [(0, .ref (ρ 66)), (1, .int a1)] [] C N
  unfold fX8_setTakeoverLimit at h
  refine V_iload_n X (q := 1) rfl rfl dX8_setTakeoverLimit_0 (n := 1) rfl ?_
  refine V_iconst X (v := 1) (by decide) dX8_setTakeoverLimit_1 (n := 2) rfl ?_
  refine V_bipush X (v := 9) (by decide) dX8_setTakeoverLimit_2 (n := 4) rfl ?_
  refine V_callsi X (As := [.int a1, .int (1 : Int32), .int (9 : Int32)]) (rest := []) (nA := 3) (TX8_within l D G ρ C N a1 (1 : Int32) (9 : Int32) _ h) gX8_setTakeoverLimit_X8_within rfl rfl rfl (by decide +kernel) rfl ⟨by decide, by decide⟩ (Nat.le_of_ble_eq_true rfl) ⟨by decide, by decide⟩  rfl dX8_setTakeoverLimit_4 (n := 7) rfl (fun r1 M1 M0 h => ?_)
  obtain ⟨h, eo, eo2⟩ := h
  rw [eo, eo2]
  refine V_if_ne X dX8_setTakeoverLimit_7 (tgt := 14) (n := 10) (by decide) rfl (fun c2 => ?_) (fun c2 => ?_)
  · have h := ite_f h c2
    refine V_aload_n X (q := 0) rfl rfl dX8_setTakeoverLimit_14 (n := 15) rfl ?_
    refine V_getN X (by decide) (by decide) rfl rfl (k := 19) inX8_setTakeoverLimit_X8 rfl (by decide) wX8_setTakeoverLimit_54 dX8_setTakeoverLimit_15 (n := 18) rfl ?_
    refine V_topi (fun x3 ex3 => ?_)
    have h := bd_at h ex3
    refine V_istore_n X (L2 := [(2, .int x3), (0, .ref (ρ 66)), (1, .int a1)]) rfl (by decide) rfl dX8_setTakeoverLimit_18 (n := 19) rfl ?_
    refine V_aload_n X (q := 1) rfl rfl dX8_setTakeoverLimit_19 (n := 20) rfl ?_
    refine V_iload_n X (q := 2) rfl rfl dX8_setTakeoverLimit_20 (n := 21) rfl ?_
    refine V_putN X (by decide) (by decide) rfl rfl (k := 19) inX8_setTakeoverLimit_X8 rfl (by decide) wX8_setTakeoverLimit_54 tyX8 tyX8_ok nmX8 rfl (by decide +kernel) dX8_setTakeoverLimit_21 (n := 24) rfl (fun N4 eN4 => ?_)
    have h := bd_at h eN4
    refine V_iload_n X (q := 0) rfl rfl dX8_setTakeoverLimit_24 (n := 25) rfl ?_
    exact V_iret X hr hlk dX8_setTakeoverLimit_25 ⟨h, rfl⟩
  · have h := ite_t h c2
    refine V_sipush X (v := -1002) (by decide) dX8_setTakeoverLimit_10 (n := 13) rfl ?_
    exact V_iret X hr hlk dX8_setTakeoverLimit_13 ⟨h, rfl⟩
abbrev rmX8_isNode : Room := { frames := 1, cells := 0, slots := 0, locals := 22 }
theorem wX8_isNode_129 : Cond.fieldLink RX8 129 "FloodBusModel" "nodes" "I" ∈ wsX8_isNode := by decide +kernel
theorem inX8_isNode_X8 : ∀ w ∈ wsX80, w ∈ wsX8_isNode := by decide +kernel
set_option maxRecDepth 100000 in
set_option maxHeartbeats 4000000 in
theorem TX8_isNode (l : Launch) (D : va_G) (G : Gc) (ρ : Nat → Nat) (C : Xm) (N : Nm)  (a1 : Int32) (K : Int32 → Prop) (h : fX8_isNode N a1 K) : Ki l yX8_isNode wsX8_isNode rmX8_isNode D G ρ [.ref (ρ 66), .int a1] C N (fun r C1 N1 => K r ∧ C1 = C ∧ N1 = N) := by
  refine Ki.ofV (cc := cX8_isNode) (maxL := 2) (ret := (some .boolean)) (by decide +kernel) rfl (Nat.le_of_ble_eq_true rfl) ?_
  intro p e s m args below meth c X hr hlk
  show V p l e rmX8_isNode s m args below meth c D G ρ (WA ρ s.heap.size) s.heap 2 0 0 (Qi D G ρ s args below (fun r C1 N1 => K r ∧ C1 = C ∧ N1 = N)) 0 [(0, .ref (ρ 66)), (1, .int a1)] [] C N
  unfold fX8_isNode at h
  refine V_iload_n X (q := 1) rfl rfl dX8_isNode_0 (n := 1) rfl ?_
  refine V_iconst X (v := 0) (by decide) dX8_isNode_1 (n := 2) rfl ?_
  refine V_aload_n X (q := 0) rfl rfl dX8_isNode_2 (n := 3) rfl ?_
  refine V_getN X (by decide) (by decide) rfl rfl (k := 2) inX8_isNode_X8 rfl (by decide) wX8_isNode_129 dX8_isNode_3 (n := 6) rfl ?_
  refine V_iconst X (v := 1) (by decide) dX8_isNode_6 (n := 7) rfl ?_
  refine V_isub X dX8_isNode_7 (n := 8) rfl ?_
  refine V_callsi X (As := [.int a1, .int (0 : Int32), .int ((N.1 66 2) - (1 : Int32))]) (rest := []) (nA := 3) (TX8_within l D G ρ C N a1 (0 : Int32) ((N.1 66 2) - (1 : Int32)) _ h) gX8_isNode_X8_within rfl rfl rfl (by decide +kernel) rfl ⟨by decide, by decide⟩ (Nat.le_of_ble_eq_true rfl) ⟨by decide, by decide⟩  rfl dX8_isNode_8 (n := 11) rfl (fun r1 M1 M0 h => ?_)
  obtain ⟨h, eo, eo2⟩ := h
  rw [eo, eo2]
  obtain ⟨g2, h⟩ := h
  exact V_zret X hr hlk g2 dX8_isNode_11 ⟨h, rfl, rfl⟩
abbrev rmX8_setAlive : Room := { frames := 2, cells := 0, slots := 0, locals := 43 }
theorem wX8_setAlive_25 : Cond.fieldLink RX8 25 "FloodBusModel" "alive" "[Z" ∈ wsX8_setAlive := by decide +kernel
theorem wX8_setAlive_38 : Cond.fieldLink RX8 38 "FloodBusModel" "missed" "[I" ∈ wsX8_setAlive := by decide +kernel
theorem inX8_setAlive_X8 : ∀ w ∈ wsX80, w ∈ wsX8_setAlive := by decide +kernel
set_option maxRecDepth 100000 in
set_option maxHeartbeats 4000000 in
theorem TX8_setAlive (l : Launch) (D : va_G) (G : Gc) (ρ : Nat → Nat) (C : Xm) (N : Nm)  (a1 : Int32) (a2 : Int32) (K : Int32 → Nm → Prop) (h : fX8_setAlive N a1 a2 K) : Ki l yX8_setAlive wsX8_setAlive rmX8_setAlive D G ρ [.ref (ρ 66), .int a1, .int a2] C N (fun r C1 N1 => K r N1 ∧ C1 = C) := by
  refine Ki.ofV (cc := cX8_setAlive) (maxL := 4) (ret := (some .int)) (by decide +kernel) rfl (Nat.le_of_ble_eq_true rfl) ?_
  intro p e s m args below meth c X hr hlk
  show V p l e rmX8_setAlive s m args below meth c D G ρ (WA ρ s.heap.size) s.heap 4 0 0 (Qi D G ρ s args below (fun r C1 N1 => K r N1 ∧ C1 = C)) 0 [(0, .ref (ρ 66)), (1, .int a1), (2, .int a2)] [] C N
  unfold fX8_setAlive at h
  refine V_aload_n X (q := 0) rfl rfl dX8_setAlive_0 (n := 1) rfl ?_
  refine V_iload_n X (q := 1) rfl rfl dX8_setAlive_1 (n := 2) rfl ?_
  refine V_calli X (As := [.int a1]) (rest := []) (nA := 1) (i := 66) (q := (RX8, TX8, 42)) (TX8_isNode l D G ρ C N a1 _ h) gX8_setAlive_X8_isNode rfl rfl rfl (by decide +kernel) rfl ⟨by decide, by decide⟩ (Nat.le_of_ble_eq_true rfl) ⟨by decide, by decide⟩ (by decide) rfl rfl rfl dX8_setAlive_2 (n := 5) rfl (fun r1 M1 M0 h => ?_)
  obtain ⟨h, eo, eo2⟩ := h
  rw [eo, eo2]
  refine V_if_ne X dX8_setAlive_5 (tgt := 12) (n := 8) (by decide) rfl (fun c2 => ?_) (fun c2 => ?_)
  · have h := ite_f h c2
    refine V_aload_n X (q := 0) rfl rfl dX8_setAlive_12 (n := 13) rfl ?_
    refine V_getR X (by decide) rfl rfl (k := 8) inX8_setAlive_X8 rfl (by decide) wX8_setAlive_25 dX8_setAlive_13 (n := 16) rfl ?_
    refine V_iload_n X (q := 1) rfl rfl dX8_setAlive_16 (n := 17) rfl ?_
    obtain ⟨g3, h⟩ := h
    refine V_zldN X (by decide) (by decide) rfl g3 dX8_setAlive_17 (n := 18) rfl ?_
    refine V_topi (fun x4 ex4 => ?_)
    have h := bd_at h ex4
    refine V_istore_n X (L2 := [(3, .int x4), (0, .ref (ρ 66)), (1, .int a1), (2, .int a2)]) rfl (by decide) rfl dX8_setAlive_18 (n := 19) rfl ?_
    refine V_aload_n X (q := 1) rfl rfl dX8_setAlive_19 (n := 20) rfl ?_
    refine V_getR X (by decide) rfl rfl (k := 12) inX8_setAlive_X8 rfl (by decide) wX8_setAlive_38 dX8_setAlive_20 (n := 23) rfl ?_
    refine V_iload_n X (q := 2) rfl rfl dX8_setAlive_23 (n := 24) rfl ?_
    refine V_iload_n X (q := 0) rfl rfl dX8_setAlive_24 (n := 25) rfl ?_
    refine V_iload_n X (q := 3) rfl rfl dX8_setAlive_25 (n := 26) rfl ?_
    refine jn_o h (fun j5 ej5 h => ?_)
    have kj5 : ∀ (x8 : Int32), j5 x8 → V p l e rmX8_setAlive s m args below meth c D G ρ (WA ρ s.heap.size) s.heap 4 0 0 (Qi D G ρ s args below (fun r C1 N1 => K r N1 ∧ C1 = C)) 39 [(0, .ref (ρ 66)), (1, .int a1), (2, .int a2), (3, .int x4)] [.int x8, .int a1, .ref (ρ 76)] C N := by
      intro x8 h
      rw [ej5] at h
      try dsimp only at h
      obtain ⟨g9, h⟩ := h
      refine V_istN X (by decide) (by decide) rfl g9 dX8_setAlive_39 (n := 40) rfl (fun N10 eN10 => ?_)
      have h := bd_at h eN10
      refine V_aload_n X (q := 0) rfl rfl dX8_setAlive_40 (n := 41) rfl ?_
      refine V_getR X (by decide) rfl rfl (k := 8) inX8_setAlive_X8 rfl (by decide) wX8_setAlive_25 dX8_setAlive_41 (n := 44) rfl ?_
      refine V_iload_n X (q := 1) rfl rfl dX8_setAlive_44 (n := 45) rfl ?_
      refine V_iload_n X (q := 2) rfl rfl dX8_setAlive_45 (n := 46) rfl ?_
      obtain ⟨g11, h⟩ := h
      obtain ⟨g12, h⟩ := h
      refine V_zstN X g12 (by decide) (by decide) rfl g11 dX8_setAlive_46 (n := 47) rfl (fun N13 eN13 => ?_)
      have h := bd_at h eN13
      refine V_iload_n X (q := 3) rfl rfl dX8_setAlive_47 (n := 48) rfl ?_
      refine jn_o h (fun j14 ej14 h => ?_)
      have kj14 : ∀ (x16 : Int32), j14 x16 → V p l e rmX8_setAlive s m args below meth c D G ρ (WA ρ s.heap.size) s.heap 4 0 0 (Qi D G ρ s args below (fun r C1 N1 => K r N1 ∧ C1 = C)) 56 [(0, .ref (ρ 66)), (1, .int a1), (2, .int a2), (3, .int x4)] [.int x16] C N13 := by
        intro x16 h
        rw [ej14] at h
        try dsimp only at h
        exact V_iret X hr hlk dX8_setAlive_56 ⟨h, rfl⟩
      refine V_if_eq X dX8_setAlive_48 (tgt := 55) (n := 51) (by decide) rfl (fun c15 => ?_) (fun c15 => ?_)
      · have h := ite_t h c15
        refine V_iconst X (v := 0) (by decide) dX8_setAlive_55 (n := 56) rfl ?_
        exact kj14 (0 : Int32) h
      · have h := ite_f h c15
        refine V_iconst X (v := 1) (by decide) dX8_setAlive_51 (n := 52) rfl ?_
        refine V_goto X dX8_setAlive_52 (tgt := 56) (by decide) ?_
        exact kj14 (1 : Int32) h
    refine V_icmp_ne X dX8_setAlive_26 (tgt := 38) (n := 29) (by decide) rfl (fun c6 => ?_) (fun c6 => ?_)
    · have h := ite_f h c6
      refine V_iconst X (v := 0) (by decide) dX8_setAlive_38 (n := 39) rfl ?_
      refine V_loc [1, 2, 3, 0] rfl ?_
      exact kj5 (0 : Int32) h
    · have h := ite_t h c6
      refine V_aload_n X (q := 1) rfl rfl dX8_setAlive_29 (n := 30) rfl ?_
      refine V_getR X (by decide) rfl rfl (k := 12) inX8_setAlive_X8 rfl (by decide) wX8_setAlive_38 dX8_setAlive_30 (n := 33) rfl ?_
      refine V_iload_n X (q := 2) rfl rfl dX8_setAlive_33 (n := 34) rfl ?_
      obtain ⟨g7, h⟩ := h
      refine V_ildN X (by decide) (by decide) rfl g7 dX8_setAlive_34 (n := 35) rfl ?_
      refine V_goto X dX8_setAlive_35 (tgt := 39) (by decide) ?_
      refine V_loc [1, 2, 3, 0] rfl ?_
      exact kj5 (N.1 76 (Int32.toNatClampNeg a1)) h
  · have h := ite_t h c2
    refine V_sipush X (v := -1001) (by decide) dX8_setAlive_8 (n := 11) rfl ?_
    exact V_iret X hr hlk dX8_setAlive_11 ⟨h, rfl⟩
abbrev rmX8_transmits : Room := { frames := 0, cells := 0, slots := 0, locals := 0 }
theorem wX8_transmits_32 : Cond.fieldLink RX8 32 "FloodBusModel" "received" "[I" ∈ wsX8_transmits := by decide +kernel
theorem wX8_transmits_45 : Cond.fieldLink RX8 45 "FloodBusModel" "transmissionLimit" "I" ∈ wsX8_transmits := by decide +kernel
theorem inX8_transmits_X8 : ∀ w ∈ wsX80, w ∈ wsX8_transmits := by decide +kernel
set_option maxRecDepth 100000 in
set_option maxHeartbeats 4000000 in
theorem TX8_transmits (l : Launch) (D : va_G) (G : Gc) (ρ : Nat → Nat) (C : Xm) (N : Nm)  (a1 : Int32) (a2 : Int32) (K : Int32 → Prop) (h : fX8_transmits N a1 a2 K) : Ki l yX8_transmits wsX8_transmits rmX8_transmits D G ρ [.ref (ρ 66), .int a1, .int a2] C N (fun r C1 N1 => K r ∧ C1 = C ∧ N1 = N) := by
  refine Ki.ofV (cc := cX8_transmits) (maxL := 4) (ret := (some .boolean)) (by decide +kernel) rfl (Nat.le_of_ble_eq_true rfl) ?_
  intro p e s m args below meth c X hr hlk
  show V p l e rmX8_transmits s m args below meth c D G ρ (WA ρ s.heap.size) s.heap 4 0 0 (Qi D G ρ s args below (fun r C1 N1 => K r ∧ C1 = C ∧ N1 = N)) 0 [(0, .ref (ρ 66)), (1, .int a1), (2, .int a2)] [] C N
  unfold fX8_transmits at h
  refine V_iload_n X (q := 2) rfl rfl dX8_transmits_0 (n := 1) rfl ?_
  refine V_aload_n X (q := 0) rfl rfl dX8_transmits_1 (n := 2) rfl ?_
  refine V_getR X (by decide) rfl rfl (k := 10) inX8_transmits_X8 rfl (by decide) wX8_transmits_32 dX8_transmits_2 (n := 5) rfl ?_
  refine V_iload_n X (q := 1) rfl rfl dX8_transmits_5 (n := 6) rfl ?_
  obtain ⟨g1, h⟩ := h
  refine V_ildN X (by decide) (by decide) rfl g1 dX8_transmits_6 (n := 7) rfl ?_
  refine V_isub X dX8_transmits_7 (n := 8) rfl ?_
  refine V_iconst X (v := 1) (by decide) dX8_transmits_8 (n := 9) rfl ?_
  refine V_isub X dX8_transmits_9 (n := 10) rfl ?_
  refine V_topi (fun x2 ex2 => ?_)
  have h := bd_at h ex2
  refine V_istore_n X (L2 := [(3, .int x2), (0, .ref (ρ 66)), (1, .int a1), (2, .int a2)]) rfl (by decide) rfl dX8_transmits_10 (n := 11) rfl ?_
  refine V_aload_n X (q := 1) rfl rfl dX8_transmits_11 (n := 12) rfl ?_
  refine V_getR X (by decide) rfl rfl (k := 10) inX8_transmits_X8 rfl (by decide) wX8_transmits_32 dX8_transmits_12 (n := 15) rfl ?_
  refine V_iload_n X (q := 2) rfl rfl dX8_transmits_15 (n := 16) rfl ?_
  obtain ⟨g3, h⟩ := h
  refine V_ildN X (by decide) (by decide) rfl g3 dX8_transmits_16 (n := 17) rfl ?_
  refine V_bipush X (v := -2) (by decide) dX8_transmits_17 (n := 19) rfl ?_
  refine jn_o h (fun j5 ej5 h => ?_)
  have kj5 : ∀ (x10 : Int32), j5 x10 → V p l e rmX8_transmits s m args below meth c D G ρ (WA ρ s.heap.size) s.heap 4 0 0 (Qi D G ρ s args below (fun r C1 N1 => K r ∧ C1 = C ∧ N1 = N)) 47 [(0, .ref (ρ 66)), (1, .int a1), (2, .int a2), (3, .int x2)] [.int x10] C N := by
    intro x10 h
    rw [ej5] at h
    try dsimp only at h
    obtain ⟨g11, h⟩ := h
    exact V_zret X hr hlk g11 dX8_transmits_47 ⟨h, rfl, rfl⟩
  refine jn_o h (fun j4 ej4 h => ?_)
  have kj4 : j4 → V p l e rmX8_transmits s m args below meth c D G ρ (WA ρ s.heap.size) s.heap 4 0 0 (Qi D G ρ s args below (fun r C1 N1 => K r ∧ C1 = C ∧ N1 = N)) 46 [(0, .ref (ρ 66)), (1, .int a1), (2, .int a2), (3, .int x2)] [] C N := by
    intro  h
    rw [ej4] at h
    refine V_iconst X (v := 0) (by decide) dX8_transmits_46 (n := 47) rfl ?_
    exact kj5 (0 : Int32) h
  refine V_icmp_eq X dX8_transmits_19 (tgt := 46) (n := 22) (by decide) rfl (fun c6 => ?_) (fun c6 => ?_)
  · have h := ite_t h c6
    refine V_loc [1, 2, 3, 0] rfl ?_
    exact kj4  h
  · have h := ite_f h c6
    refine V_iload_n X (q := 0) rfl rfl dX8_transmits_22 (n := 23) rfl ?_
    refine V_if_lt X dX8_transmits_23 (tgt := 46) (n := 26) (by decide) rfl (fun c7 => ?_) (fun c7 => ?_)
    · have h := ite_t h c7
      refine V_loc [1, 2, 3, 0] rfl ?_
      exact kj4  h
    · have h := ite_f h c7
      refine V_iload_n X (q := 0) rfl rfl dX8_transmits_26 (n := 27) rfl ?_
      refine V_iconst X (v := 2) (by decide) dX8_transmits_27 (n := 28) rfl ?_
      refine V_irem X (by decide) dX8_transmits_28 (n := 29) rfl ?_
      refine V_if_ne X dX8_transmits_29 (tgt := 46) (n := 32) (by decide) rfl (fun c8 => ?_) (fun c8 => ?_)
      · have h := ite_f h c8
        refine V_loc [1, 2, 3, 0] rfl ?_
        exact kj4  h
      · have h := ite_t h c8
        refine V_iload_n X (q := 0) rfl rfl dX8_transmits_32 (n := 33) rfl ?_
        refine V_iconst X (v := 2) (by decide) dX8_transmits_33 (n := 34) rfl ?_
        refine V_idiv X (by decide) dX8_transmits_34 (n := 35) rfl ?_
        refine V_aload_n X (q := 1) rfl rfl dX8_transmits_35 (n := 36) rfl ?_
        refine V_getN X (by decide) (by decide) rfl rfl (k := 16) inX8_transmits_X8 rfl (by decide) wX8_transmits_45 dX8_transmits_36 (n := 39) rfl ?_
        refine V_icmp_ge X dX8_transmits_39 (tgt := 46) (n := 42) (by decide) rfl (fun c9 => ?_) (fun c9 => ?_)
        · have h := ite_t h c9
          refine V_loc [1, 2, 3, 0] rfl ?_
          exact kj4  h
        · have h := ite_f h c9
          refine V_iconst X (v := 1) (by decide) dX8_transmits_42 (n := 43) rfl ?_
          refine V_goto X dX8_transmits_43 (tgt := 47) (by decide) ?_
          refine V_loc [1, 2, 3, 0] rfl ?_
          exact kj5 (1 : Int32) h
abbrev rmX8_lastSlot : Room := { frames := 0, cells := 0, slots := 0, locals := 0 }
theorem wX8_lastSlot_129 : Cond.fieldLink RX8 129 "FloodBusModel" "nodes" "I" ∈ wsX8_lastSlot := by decide +kernel
theorem wX8_lastSlot_32 : Cond.fieldLink RX8 32 "FloodBusModel" "received" "[I" ∈ wsX8_lastSlot := by decide +kernel
theorem wX8_lastSlot_45 : Cond.fieldLink RX8 45 "FloodBusModel" "transmissionLimit" "I" ∈ wsX8_lastSlot := by decide +kernel
theorem inX8_lastSlot_X8 : ∀ w ∈ wsX80, w ∈ wsX8_lastSlot := by decide +kernel
set_option maxRecDepth 100000 in
set_option maxHeartbeats 4000000 in
theorem TX8_lastSlot_L4 {p : Program} {l : Launch} {e : Env} {s : State} {m : MethodId} {args : Array Value} {below : List Frame} {meth : Method} {c : Code} {D : va_G} {G : Gc} {ρ : Nat → Nat} (X : Cx p s m args c cX8_lastSlot 4 RX8 wsX8_lastSlot D G ρ (WA ρ s.heap.size) s.heap) (hr : meth.sig.returnType = some .int) (hlk : meth.locks = false) (C : Xm) (N : Nm)  {E : Int32 → Int32 → Prop} {K : Int32 → Prop} (hE : ∀ (v1 : Int32) (v2 : Int32), E v1 v2 → V p l e rmX8_lastSlot s m args below meth c D G ρ (WA ρ s.heap.size) s.heap 4 0 0 (Qi D G ρ s args below (fun r C1 N1 => K r ∧ C1 = C ∧ N1 = N)) 60 [(0, .ref (ρ 66)), (1, .int v1), (2, .int v2)] [] C N) : ∀ (n : Nat) (v1 : Int32) (v2 : Int32), fX8_lastSlot_L4 N E K n v1 v2 → V p l e rmX8_lastSlot s m args below meth c D G ρ (WA ρ s.heap.size) s.heap 4 0 0 (Qi D G ρ s args below (fun r C1 N1 => K r ∧ C1 = C ∧ N1 = N)) 4 [(0, .ref (ρ 66)), (1, .int v1), (2, .int v2)] [] C N := by
  intro n
  induction n with
  | zero => intro v1 v2 h; exact h.elim
  | succ n ih =>
    intro v1 v2 h
    unfold fX8_lastSlot_L4 at h
    refine V_iload_n X (q := 2) rfl rfl dX8_lastSlot_4 (n := 5) rfl ?_
    refine V_aload_n X (q := 0) rfl rfl dX8_lastSlot_5 (n := 6) rfl ?_
    refine V_getN X (by decide) (by decide) rfl rfl (k := 2) inX8_lastSlot_X8 rfl (by decide) wX8_lastSlot_129 dX8_lastSlot_6 (n := 9) rfl ?_
    refine V_icmp_ge X dX8_lastSlot_9 (tgt := 60) (n := 12) (by decide) rfl (fun c1 => ?_) (fun c1 => ?_)
    · have h := ite_t h c1
      exact hE v1 v2 h
    · have h := ite_f h c1
      refine V_aload_n X (q := 0) rfl rfl dX8_lastSlot_12 (n := 13) rfl ?_
      refine V_getR X (by decide) rfl rfl (k := 10) inX8_lastSlot_X8 rfl (by decide) wX8_lastSlot_32 dX8_lastSlot_13 (n := 16) rfl ?_
      refine V_iload_n X (q := 2) rfl rfl dX8_lastSlot_16 (n := 17) rfl ?_
      obtain ⟨g2, h⟩ := h
      refine V_ildN X (by decide) (by decide) rfl g2 dX8_lastSlot_17 (n := 18) rfl ?_
      refine V_bipush X (v := -2) (by decide) dX8_lastSlot_18 (n := 20) rfl ?_
      refine jn_o h (fun j3 ej3 h => ?_)
      have kj3 : ∀ (x6 : Int32), j3 x6 → V p l e rmX8_lastSlot s m args below meth c D G ρ (WA ρ s.heap.size) s.heap 4 0 0 (Qi D G ρ s args below (fun r C1 N1 => K r ∧ C1 = C ∧ N1 = N)) 42 [(0, .ref (ρ 66)), (1, .int v1), (2, .int v2)] [.int x6] C N := by
        intro x6 h
        rw [ej3] at h
        try dsimp only at h
        refine V_istore_n X (L2 := [(3, .int x6), (0, .ref (ρ 66)), (1, .int v1), (2, .int v2)]) rfl (by decide) rfl dX8_lastSlot_42 (n := 43) rfl ?_
        refine V_iload_n X (q := 0) rfl rfl dX8_lastSlot_43 (n := 44) rfl ?_
        refine V_iload_n X (q := 2) rfl rfl dX8_lastSlot_44 (n := 45) rfl ?_
        refine jn_o h (fun j7 ej7 h => ?_)
        have kj7 : ∀ (x9 : Int32), j7 x9 → V p l e rmX8_lastSlot s m args below meth c D G ρ (WA ρ s.heap.size) s.heap 4 0 0 (Qi D G ρ s args below (fun r C1 N1 => K r ∧ C1 = C ∧ N1 = N)) 53 [(0, .ref (ρ 66)), (1, .int v1), (2, .int v2), (3, .int x6)] [.int x9] C N := by
          intro x9 h
          rw [ej7] at h
          try dsimp only at h
          refine V_istore_n X (L2 := [(1, .int x9), (0, .ref (ρ 66)), (2, .int v2), (3, .int x6)]) rfl (by decide) rfl dX8_lastSlot_53 (n := 54) rfl ?_
          obtain ⟨x10, ex10⟩ : ∃ z : Int32, z = v2 + (1 : Int32) := ⟨_, rfl⟩
          have h := bd_at h ex10
          refine V_iinc X (q := 2) (d := 1) (L2 := [(2, .int x10), (1, .int x9), (0, .ref (ρ 66)), (3, .int x6)]) rfl (by decide) (by decide) ex10 rfl dX8_lastSlot_54 (n := 57) rfl ?_
          refine V_goto X dX8_lastSlot_57 (tgt := 4) (by decide) ?_
          refine V_loc [2, 1, 0] rfl ?_
          exact ih x9 x10 h
        refine V_icmp_le X dX8_lastSlot_45 (tgt := 52) (n := 48) (by decide) rfl (fun c8 => ?_) (fun c8 => ?_)
        · have h := ite_t h c8
          refine V_iload_n X (q := 2) rfl rfl dX8_lastSlot_52 (n := 53) rfl ?_
          refine V_loc [1, 2, 3, 0] rfl ?_
          exact kj7 v1 h
        · have h := ite_f h c8
          refine V_iload_n X (q := 0) rfl rfl dX8_lastSlot_48 (n := 49) rfl ?_
          refine V_goto X dX8_lastSlot_49 (tgt := 53) (by decide) ?_
          refine V_loc [1, 2, 3, 0] rfl ?_
          exact kj7 x6 h
      refine V_icmp_ne X dX8_lastSlot_20 (tgt := 27) (n := 23) (by decide) rfl (fun c4 => ?_) (fun c4 => ?_)
      · have h := ite_f h c4
        refine V_aload_n X (q := 0) rfl rfl dX8_lastSlot_27 (n := 28) rfl ?_
        refine V_getR X (by decide) rfl rfl (k := 10) inX8_lastSlot_X8 rfl (by decide) wX8_lastSlot_32 dX8_lastSlot_28 (n := 31) rfl ?_
        refine V_iload_n X (q := 2) rfl rfl dX8_lastSlot_31 (n := 32) rfl ?_
        obtain ⟨g5, h⟩ := h
        refine V_ildN X (by decide) (by decide) rfl g5 dX8_lastSlot_32 (n := 33) rfl ?_
        refine V_iconst X (v := 2) (by decide) dX8_lastSlot_33 (n := 34) rfl ?_
        refine V_aload_n X (q := 0) rfl rfl dX8_lastSlot_34 (n := 35) rfl ?_
        refine V_getN X (by decide) (by decide) rfl rfl (k := 16) inX8_lastSlot_X8 rfl (by decide) wX8_lastSlot_45 dX8_lastSlot_35 (n := 38) rfl ?_
        refine V_imul X dX8_lastSlot_38 (n := 39) rfl ?_
        refine V_iadd X dX8_lastSlot_39 (n := 40) rfl ?_
        refine V_iconst X (v := 1) (by decide) dX8_lastSlot_40 (n := 41) rfl ?_
        refine V_isub X dX8_lastSlot_41 (n := 42) rfl ?_
        exact kj3 (((N.1 74 (Int32.toNatClampNeg v2)) + ((2 : Int32) * (N.1 66 16))) - (1 : Int32)) h
      · have h := ite_t h c4
        refine V_iconst X (v := -1) (by decide) dX8_lastSlot_23 (n := 24) rfl ?_
        refine V_goto X dX8_lastSlot_24 (tgt := 42) (by decide) ?_
        exact kj3 (-1 : Int32) h
set_option maxRecDepth 100000 in
set_option maxHeartbeats 4000000 in
theorem TX8_lastSlot (l : Launch) (D : va_G) (G : Gc) (ρ : Nat → Nat) (C : Xm) (N : Nm)   (K : Int32 → Prop) (h : fX8_lastSlot N K) : Ki l yX8_lastSlot wsX8_lastSlot rmX8_lastSlot D G ρ [.ref (ρ 66)] C N (fun r C1 N1 => K r ∧ C1 = C ∧ N1 = N) := by
  refine Ki.ofV (cc := cX8_lastSlot) (maxL := 4) (ret := (some .int)) (by decide +kernel) rfl (Nat.le_of_ble_eq_true rfl) ?_
  intro p e s m args below meth c X hr hlk
  show V p l e rmX8_lastSlot s m args below meth c D G ρ (WA ρ s.heap.size) s.heap 4 0 0 (Qi D G ρ s args below (fun r C1 N1 => K r ∧ C1 = C ∧ N1 = N)) 0 [(0, .ref (ρ 66))] [] C N
  unfold fX8_lastSlot at h
  refine V_iconst X (v := -1) (by decide) dX8_lastSlot_0 (n := 1) rfl ?_
  refine V_istore_n X (L2 := [(1, .int (-1 : Int32)), (0, .ref (ρ 66))]) rfl (by decide) rfl dX8_lastSlot_1 (n := 2) rfl ?_
  refine V_iconst X (v := 0) (by decide) dX8_lastSlot_2 (n := 3) rfl ?_
  refine V_istore_n X (L2 := [(2, .int (0 : Int32)), (1, .int (-1 : Int32)), (0, .ref (ρ 66))]) rfl (by decide) rfl dX8_lastSlot_3 (n := 4) rfl ?_
  refine jn_o h (fun j11 ej11 h => ?_)
  have kj11 : ∀ (x12 : Int32) (x13 : Int32), j11 x12 x13 → V p l e rmX8_lastSlot s m args below meth c D G ρ (WA ρ s.heap.size) s.heap 4 0 0 (Qi D G ρ s args below (fun r C1 N1 => K r ∧ C1 = C ∧ N1 = N)) 60 [(0, .ref (ρ 66)), (1, .int x12), (2, .int x13)] [] C N := by
    intro x12 x13 h
    rw [ej11] at h
    try dsimp only at h
    refine V_iload_n X (q := 1) rfl rfl dX8_lastSlot_60 (n := 61) rfl ?_
    exact V_iret X hr hlk dX8_lastSlot_61 ⟨h, rfl, rfl⟩
  refine V_loc [2, 1, 0] rfl ?_
  exact TX8_lastSlot_L4 X hr hlk C N (E := j11) (K := K) kj11 200 (-1 : Int32) (0 : Int32) h
abbrev rmX8_heard : Room := { frames := 1, cells := 0, slots := 0, locals := 23 }
theorem wX8_heard_93 : Cond.fieldLink RX8 93 "FloodBusModel" "level" "[I" ∈ wsX8_heard := by decide +kernel
theorem wX8_heard_132 : Cond.fieldLink RX8 132 "FloodBusModel" "links" "I" ∈ wsX8_heard := by decide +kernel
theorem wX8_heard_13 : Cond.fieldLink RX8 13 "FloodBusModel" "linkA" "[I" ∈ wsX8_heard := by decide +kernel
theorem wX8_heard_16 : Cond.fieldLink RX8 16 "FloodBusModel" "linkB" "[I" ∈ wsX8_heard := by decide +kernel
theorem wX8_heard_22 : Cond.fieldLink RX8 22 "FloodBusModel" "lossPeriod" "[I" ∈ wsX8_heard := by decide +kernel
theorem wX8_heard_29 : Cond.fieldLink RX8 29 "FloodBusModel" "packet" "[I" ∈ wsX8_heard := by decide +kernel
theorem wX8_heard_19 : Cond.fieldLink RX8 19 "FloodBusModel" "strength" "[I" ∈ wsX8_heard := by decide +kernel
theorem wX8_heard_48 : Cond.fieldLink RX8 48 "FloodBusModel" "captureMargin" "I" ∈ wsX8_heard := by decide +kernel
theorem inX8_heard_X8 : ∀ w ∈ wsX80, w ∈ wsX8_heard := by decide +kernel
set_option maxRecDepth 100000 in
set_option maxHeartbeats 4000000 in
theorem TX8_heard_L2 {p : Program} {l : Launch} {e : Env} {s : State} {m : MethodId} {args : Array Value} {below : List Frame} {meth : Method} {c : Code} {D : va_G} {G : Gc} {ρ : Nat → Nat} (X : Cx p s m args c cX8_heard 7 RX8 wsX8_heard D G ρ (WA ρ s.heap.size) s.heap) (hr : meth.sig.returnType = some .int) (hlk : meth.locks = false) (C : Xm) (p1 : Int32) (p2 : Int32)  {E : Int32 → Nm → Prop} {K : Int32 → Nm → Prop} (hE : ∀ (v3 : Int32) (N : Nm), E v3 N → V p l e rmX8_heard s m args below meth c D G ρ (WA ρ s.heap.size) s.heap 7 0 0 (Qi D G ρ s args below (fun r C1 N1 => K r N1 ∧ C1 = C)) 21 [(0, .ref (ρ 66)), (1, .int p1), (2, .int p2), (3, .int v3)] [] C N) : ∀ (n : Nat) (v3 : Int32) (N : Nm), fX8_heard_L2 p1 p2 E K n v3 N → V p l e rmX8_heard s m args below meth c D G ρ (WA ρ s.heap.size) s.heap 7 0 0 (Qi D G ρ s args below (fun r C1 N1 => K r N1 ∧ C1 = C)) 2 [(0, .ref (ρ 66)), (1, .int p1), (2, .int p2), (3, .int v3)] [] C N := by
  intro n
  induction n with
  | zero => intro v3 N h; exact h.elim
  | succ n ih =>
    intro v3 N h
    unfold fX8_heard_L2 at h
    refine V_iload_n X (q := 3) rfl rfl dX8_heard_2 (n := 3) rfl ?_
    refine V_bipush X (v := 8) (by decide) dX8_heard_3 (n := 5) rfl ?_
    refine V_icmp_ge X dX8_heard_5 (tgt := 21) (n := 8) (by decide) rfl (fun c1 => ?_) (fun c1 => ?_)
    · have h := ite_t h c1
      exact hE v3 N h
    · have h := ite_f h c1
      refine V_aload_n X (q := 0) rfl rfl dX8_heard_8 (n := 9) rfl ?_
      refine V_getR X (by decide) rfl rfl (k := 38) inX8_heard_X8 rfl (by decide) wX8_heard_93 dX8_heard_9 (n := 12) rfl ?_
      refine V_iload_n X (q := 3) rfl rfl dX8_heard_12 (n := 13) rfl ?_
      refine V_iconst X (v := 0) (by decide) dX8_heard_13 (n := 14) rfl ?_
      obtain ⟨g2, h⟩ := h
      refine V_istN X (by decide) (by decide) rfl g2 dX8_heard_14 (n := 15) rfl (fun N3 eN3 => ?_)
      have h := bd_at h eN3
      obtain ⟨x4, ex4⟩ : ∃ z : Int32, z = v3 + (1 : Int32) := ⟨_, rfl⟩
      have h := bd_at h ex4
      refine V_iinc X (q := 3) (d := 1) (L2 := [(3, .int x4), (0, .ref (ρ 66)), (1, .int p1), (2, .int p2)]) rfl (by decide) (by decide) ex4 rfl dX8_heard_15 (n := 18) rfl ?_
      refine V_goto X dX8_heard_18 (tgt := 2) (by decide) ?_
      refine V_loc [1, 2, 3, 0] rfl ?_
      exact ih x4 N3 h
set_option maxRecDepth 100000 in
set_option maxHeartbeats 4000000 in
theorem TX8_heard_L23 {p : Program} {l : Launch} {e : Env} {s : State} {m : MethodId} {args : Array Value} {below : List Frame} {meth : Method} {c : Code} {D : va_G} {G : Gc} {ρ : Nat → Nat} (X : Cx p s m args c cX8_heard 7 RX8 wsX8_heard D G ρ (WA ρ s.heap.size) s.heap) (hr : meth.sig.returnType = some .int) (hlk : meth.locks = false) (C : Xm) (p1 : Int32) (p2 : Int32)  {E : Int32 → Nm → Prop} {K : Int32 → Nm → Prop} (hE : ∀ (v3 : Int32) (N : Nm), E v3 N → V p l e rmX8_heard s m args below meth c D G ρ (WA ρ s.heap.size) s.heap 7 0 0 (Qi D G ρ s args below (fun r C1 N1 => K r N1 ∧ C1 = C)) 176 [(0, .ref (ρ 66)), (1, .int p1), (2, .int p2), (3, .int v3)] [] C N) : ∀ (n : Nat) (v3 : Int32) (N : Nm), fX8_heard_L23 p1 p2 E K n v3 N → V p l e rmX8_heard s m args below meth c D G ρ (WA ρ s.heap.size) s.heap 7 0 0 (Qi D G ρ s args below (fun r C1 N1 => K r N1 ∧ C1 = C)) 23 [(0, .ref (ρ 66)), (1, .int p1), (2, .int p2), (3, .int v3)] [] C N := by
  intro n
  induction n with
  | zero => intro v3 N h; exact h.elim
  | succ n ih =>
    intro v3 N h
    unfold fX8_heard_L23 at h
    refine V_iload_n X (q := 3) rfl rfl dX8_heard_23 (n := 24) rfl ?_
    refine V_aload_n X (q := 0) rfl rfl dX8_heard_24 (n := 25) rfl ?_
    refine V_getN X (by decide) (by decide) rfl rfl (k := 3) inX8_heard_X8 rfl (by decide) wX8_heard_132 dX8_heard_25 (n := 28) rfl ?_
    refine V_icmp_ge X dX8_heard_28 (tgt := 176) (n := 31) (by decide) rfl (fun c8 => ?_) (fun c8 => ?_)
    · have h := ite_t h c8
      exact hE v3 N h
    · have h := ite_f h c8
      refine V_aload_n X (q := 0) rfl rfl dX8_heard_31 (n := 32) rfl ?_
      refine V_getR X (by decide) rfl rfl (k := 4) inX8_heard_X8 rfl (by decide) wX8_heard_13 dX8_heard_32 (n := 35) rfl ?_
      refine V_iload_n X (q := 3) rfl rfl dX8_heard_35 (n := 36) rfl ?_
      obtain ⟨g9, h⟩ := h
      refine V_ildN X (by decide) (by decide) rfl g9 dX8_heard_36 (n := 37) rfl ?_
      refine V_iload_n X (q := 1) rfl rfl dX8_heard_37 (n := 38) rfl ?_
      refine jn_o h (fun j10 ej10 h => ?_)
      have kj10 : ∀ (x16 : Int32), j10 x16 → V p l e rmX8_heard s m args below meth c D G ρ (WA ρ s.heap.size) s.heap 7 0 0 (Qi D G ρ s args below (fun r C1 N1 => K r N1 ∧ C1 = C)) 70 [(0, .ref (ρ 66)), (1, .int p1), (2, .int p2), (3, .int v3)] [.int x16] C N := by
        intro x16 h
        rw [ej10] at h
        try dsimp only at h
        refine V_istore X (L2 := [(4, .int x16), (0, .ref (ρ 66)), (1, .int p1), (2, .int p2), (3, .int v3)]) (by decide) rfl dX8_heard_70 (n := 72) rfl ?_
        refine V_aload_n X (q := 1) rfl rfl dX8_heard_72 (n := 73) rfl ?_
        refine V_getR X (by decide) rfl rfl (k := 7) inX8_heard_X8 rfl (by decide) wX8_heard_22 dX8_heard_73 (n := 76) rfl ?_
        refine V_iload_n X (q := 4) rfl rfl dX8_heard_76 (n := 77) rfl ?_
        obtain ⟨g17, h⟩ := h
        refine V_ildN X (by decide) (by decide) rfl g17 dX8_heard_77 (n := 78) rfl ?_
        refine jn_o h (fun j19 ej19 h => ?_)
        have kj19 : ∀ (x24 : Int32), j19 x24 → V p l e rmX8_heard s m args below meth c D G ρ (WA ρ s.heap.size) s.heap 7 0 0 (Qi D G ρ s args below (fun r C1 N1 => K r N1 ∧ C1 = C)) 99 [(0, .ref (ρ 66)), (1, .int p1), (2, .int p2), (3, .int v3), (4, .int x16)] [.int x24] C N := by
          intro x24 h
          rw [ej19] at h
          try dsimp only at h
          refine V_istore X (L2 := [(5, .int x24), (0, .ref (ρ 66)), (1, .int p1), (2, .int p2), (3, .int v3), (4, .int x16)]) (by decide) rfl dX8_heard_99 (n := 101) rfl ?_
          refine V_iload X (q := 5) rfl dX8_heard_101 (n := 103) rfl ?_
          refine V_iconst X (v := -1) (by decide) dX8_heard_103 (n := 104) rfl ?_
          refine jn_o h (fun j25 ej25 h => ?_)
          have kj25 : ∀ (N41 : Nm), j25 N41 → V p l e rmX8_heard s m args below meth c D G ρ (WA ρ s.heap.size) s.heap 7 0 0 (Qi D G ρ s args below (fun r C1 N1 => K r N1 ∧ C1 = C)) 170 [(0, .ref (ρ 66)), (1, .int p1), (2, .int p2), (3, .int v3), (4, .int x16), (5, .int x24)] [] C N41 := by
            intro N41 h
            rw [ej25] at h
            try dsimp only at h
            obtain ⟨x42, ex42⟩ : ∃ z : Int32, z = v3 + (1 : Int32) := ⟨_, rfl⟩
            have h := bd_at h ex42
            refine V_iinc X (q := 3) (d := 1) (L2 := [(3, .int x42), (0, .ref (ρ 66)), (1, .int p1), (2, .int p2), (4, .int x16), (5, .int x24)]) rfl (by decide) (by decide) ex42 rfl dX8_heard_170 (n := 173) rfl ?_
            refine V_goto X dX8_heard_173 (tgt := 23) (by decide) ?_
            refine V_loc [1, 2, 3, 0] rfl ?_
            exact ih x42 N41 h
          refine V_icmp_eq X dX8_heard_104 (tgt := 170) (n := 107) (by decide) rfl (fun c26 => ?_) (fun c26 => ?_)
          · have h := ite_t h c26
            refine V_loc [1, 2, 3, 4, 5, 0] rfl ?_
            exact kj25 N h
          · have h := ite_f h c26
            refine V_iload X (q := 0) rfl dX8_heard_107 (n := 109) rfl ?_
            refine V_if_ne X dX8_heard_109 (tgt := 170) (n := 112) (by decide) rfl (fun c27 => ?_) (fun c27 => ?_)
            · have h := ite_f h c27
              refine V_loc [1, 2, 3, 4, 5, 0] rfl ?_
              exact kj25 N h
            · have h := ite_t h c27
              refine V_aload_n X (q := 1) rfl rfl dX8_heard_112 (n := 113) rfl ?_
              refine V_iload X (q := 5) rfl dX8_heard_113 (n := 115) rfl ?_
              refine V_iload_n X (q := 3) rfl rfl dX8_heard_115 (n := 116) rfl ?_
              refine V_calli X (As := [.int x16, .int p2]) (rest := []) (nA := 2) (i := 66) (q := (RX8, TX8, 42)) (TX8_transmits l D G ρ C N x16 p2 _ h) gX8_heard_X8_transmits rfl rfl rfl (by decide +kernel) rfl ⟨by decide, by decide⟩ (Nat.le_of_ble_eq_true rfl) ⟨by decide, by decide⟩ (by decide) rfl rfl rfl dX8_heard_116 (n := 119) rfl (fun r28 M1 M0 h => ?_)
              obtain ⟨h, eo, eo2⟩ := h
              rw [eo, eo2]
              refine V_if_eq X dX8_heard_119 (tgt := 170) (n := 122) (by decide) rfl (fun c29 => ?_) (fun c29 => ?_)
              · have h := ite_t h c29
                refine V_loc [1, 2, 3, 4, 5, 0] rfl ?_
                exact kj25 N h
              · have h := ite_f h c29
                refine V_aload_n X (q := 1) rfl rfl dX8_heard_122 (n := 123) rfl ?_
                refine V_getR X (by decide) rfl rfl (k := 9) inX8_heard_X8 rfl (by decide) wX8_heard_29 dX8_heard_123 (n := 126) rfl ?_
                refine V_iload X (q := 5) rfl dX8_heard_126 (n := 128) rfl ?_
                obtain ⟨g30, h⟩ := h
                refine V_ildN X (by decide) (by decide) rfl g30 dX8_heard_128 (n := 129) rfl ?_
                refine V_topi (fun x31 ex31 => ?_)
                have h := bd_at h ex31
                refine V_istore X (L2 := [(6, .int x31), (5, .int x24), (0, .ref (ρ 66)), (1, .int p1), (2, .int p2), (3, .int v3), (4, .int x16)]) (by decide) rfl dX8_heard_129 (n := 131) rfl ?_
                refine V_aload_n X (q := 2) rfl rfl dX8_heard_131 (n := 132) rfl ?_
                refine V_getR X (by decide) rfl rfl (k := 38) inX8_heard_X8 rfl (by decide) wX8_heard_93 dX8_heard_132 (n := 135) rfl ?_
                refine V_iload X (q := 0) rfl dX8_heard_135 (n := 137) rfl ?_
                refine V_aload_n X (q := 2) rfl rfl dX8_heard_137 (n := 138) rfl ?_
                refine V_getR X (by decide) rfl rfl (k := 6) inX8_heard_X8 rfl (by decide) wX8_heard_19 dX8_heard_138 (n := 141) rfl ?_
                refine V_iload_n X (q := 5) rfl rfl dX8_heard_141 (n := 142) rfl ?_
                obtain ⟨g32, h⟩ := h
                refine V_ildN X (by decide) (by decide) rfl g32 dX8_heard_142 (n := 143) rfl ?_
                refine V_aload_n X (q := 2) rfl rfl dX8_heard_143 (n := 144) rfl ?_
                refine V_getR X (by decide) rfl rfl (k := 38) inX8_heard_X8 rfl (by decide) wX8_heard_93 dX8_heard_144 (n := 147) rfl ?_
                refine V_iload X (q := 0) rfl dX8_heard_147 (n := 149) rfl ?_
                obtain ⟨g33, h⟩ := h
                refine V_ildN X (by decide) (by decide) rfl g33 dX8_heard_149 (n := 150) rfl ?_
                refine jn_o h (fun j34 ej34 h => ?_)
                have kj34 : ∀ (x38 : Int32), j34 x38 → V p l e rmX8_heard s m args below meth c D G ρ (WA ρ s.heap.size) s.heap 7 0 0 (Qi D G ρ s args below (fun r C1 N1 => K r N1 ∧ C1 = C)) 169 [(0, .ref (ρ 66)), (1, .int p1), (2, .int p2), (3, .int v3), (4, .int x16), (5, .int x24), (6, .int x31)] [.int x38, .int x31, .ref (ρ 89)] C N := by
                  intro x38 h
                  rw [ej34] at h
                  try dsimp only at h
                  obtain ⟨g39, h⟩ := h
                  refine V_istN X (by decide) (by decide) rfl g39 dX8_heard_169 (n := 170) rfl (fun N40 eN40 => ?_)
                  have h := bd_at h eN40
                  refine V_loc [0, 1, 2, 3, 4, 5] rfl ?_
                  exact kj25 N40 h
                refine V_icmp_le X dX8_heard_150 (tgt := 162) (n := 153) (by decide) rfl (fun c35 => ?_) (fun c35 => ?_)
                · have h := ite_t h c35
                  refine V_aload_n X (q := 2) rfl rfl dX8_heard_162 (n := 163) rfl ?_
                  refine V_getR X (by decide) rfl rfl (k := 38) inX8_heard_X8 rfl (by decide) wX8_heard_93 dX8_heard_163 (n := 166) rfl ?_
                  refine V_iload X (q := 0) rfl dX8_heard_166 (n := 168) rfl ?_
                  obtain ⟨g36, h⟩ := h
                  refine V_ildN X (by decide) (by decide) rfl g36 dX8_heard_168 (n := 169) rfl ?_
                  refine V_loc [2, 3, 4, 5, 6, 1, 0] rfl ?_
                  exact kj34 (N.1 89 (Int32.toNatClampNeg x31)) h
                · have h := ite_f h c35
                  refine V_aload_n X (q := 2) rfl rfl dX8_heard_153 (n := 154) rfl ?_
                  refine V_getR X (by decide) rfl rfl (k := 6) inX8_heard_X8 rfl (by decide) wX8_heard_19 dX8_heard_154 (n := 157) rfl ?_
                  refine V_iload_n X (q := 5) rfl rfl dX8_heard_157 (n := 158) rfl ?_
                  obtain ⟨g37, h⟩ := h
                  refine V_ildN X (by decide) (by decide) rfl g37 dX8_heard_158 (n := 159) rfl ?_
                  refine V_goto X dX8_heard_159 (tgt := 169) (by decide) ?_
                  refine V_loc [2, 3, 4, 5, 6, 1, 0] rfl ?_
                  exact kj34 (N.1 70 (Int32.toNatClampNeg v3)) h
        refine jn_o h (fun j18 ej18 h => ?_)
        have kj18 : j18 → V p l e rmX8_heard s m args below meth c D G ρ (WA ρ s.heap.size) s.heap 7 0 0 (Qi D G ρ s args below (fun r C1 N1 => K r N1 ∧ C1 = C)) 98 [(0, .ref (ρ 66)), (1, .int p1), (2, .int p2), (3, .int v3), (4, .int x16)] [] C N := by
          intro  h
          rw [ej18] at h
          refine V_iconst X (v := 0) (by decide) dX8_heard_98 (n := 99) rfl ?_
          exact kj19 (0 : Int32) h
        refine V_if_le X dX8_heard_78 (tgt := 98) (n := 81) (by decide) rfl (fun c20 => ?_) (fun c20 => ?_)
        · have h := ite_t h c20
          refine V_loc [1, 2, 3, 4, 0] rfl ?_
          exact kj18  h
        · have h := ite_f h c20
          refine V_iload_n X (q := 3) rfl rfl dX8_heard_81 (n := 82) rfl ?_
          refine V_iconst X (v := 1) (by decide) dX8_heard_82 (n := 83) rfl ?_
          refine V_iadd X dX8_heard_83 (n := 84) rfl ?_
          refine V_aload_n X (q := 1) rfl rfl dX8_heard_84 (n := 85) rfl ?_
          refine V_getR X (by decide) rfl rfl (k := 7) inX8_heard_X8 rfl (by decide) wX8_heard_22 dX8_heard_85 (n := 88) rfl ?_
          refine V_iload_n X (q := 4) rfl rfl dX8_heard_88 (n := 89) rfl ?_
          obtain ⟨g21, h⟩ := h
          refine V_ildN X (by decide) (by decide) rfl g21 dX8_heard_89 (n := 90) rfl ?_
          obtain ⟨g22, h⟩ := h
          refine V_irem X g22 dX8_heard_90 (n := 91) rfl ?_
          refine V_if_ne X dX8_heard_91 (tgt := 98) (n := 94) (by decide) rfl (fun c23 => ?_) (fun c23 => ?_)
          · have h := ite_f h c23
            refine V_loc [1, 2, 3, 4, 0] rfl ?_
            exact kj18  h
          · have h := ite_t h c23
            refine V_iconst X (v := 1) (by decide) dX8_heard_94 (n := 95) rfl ?_
            refine V_goto X dX8_heard_95 (tgt := 99) (by decide) ?_
            refine V_loc [1, 2, 3, 4, 0] rfl ?_
            exact kj19 (1 : Int32) h
      refine V_icmp_ne X dX8_heard_38 (tgt := 50) (n := 41) (by decide) rfl (fun c11 => ?_) (fun c11 => ?_)
      · have h := ite_f h c11
        refine V_aload_n X (q := 0) rfl rfl dX8_heard_50 (n := 51) rfl ?_
        refine V_getR X (by decide) rfl rfl (k := 5) inX8_heard_X8 rfl (by decide) wX8_heard_16 dX8_heard_51 (n := 54) rfl ?_
        refine V_iload_n X (q := 3) rfl rfl dX8_heard_54 (n := 55) rfl ?_
        obtain ⟨g12, h⟩ := h
        refine V_ildN X (by decide) (by decide) rfl g12 dX8_heard_55 (n := 56) rfl ?_
        refine V_iload_n X (q := 1) rfl rfl dX8_heard_56 (n := 57) rfl ?_
        refine V_icmp_ne X dX8_heard_57 (tgt := 69) (n := 60) (by decide) rfl (fun c13 => ?_) (fun c13 => ?_)
        · have h := ite_f h c13
          refine V_iconst X (v := -1) (by decide) dX8_heard_69 (n := 70) rfl ?_
          exact kj10 (-1 : Int32) h
        · have h := ite_t h c13
          refine V_aload_n X (q := 0) rfl rfl dX8_heard_60 (n := 61) rfl ?_
          refine V_getR X (by decide) rfl rfl (k := 4) inX8_heard_X8 rfl (by decide) wX8_heard_13 dX8_heard_61 (n := 64) rfl ?_
          refine V_iload_n X (q := 3) rfl rfl dX8_heard_64 (n := 65) rfl ?_
          obtain ⟨g14, h⟩ := h
          refine V_ildN X (by decide) (by decide) rfl g14 dX8_heard_65 (n := 66) rfl ?_
          refine V_goto X dX8_heard_66 (tgt := 70) (by decide) ?_
          exact kj10 (N.1 68 (Int32.toNatClampNeg v3)) h
      · have h := ite_t h c11
        refine V_aload_n X (q := 0) rfl rfl dX8_heard_41 (n := 42) rfl ?_
        refine V_getR X (by decide) rfl rfl (k := 5) inX8_heard_X8 rfl (by decide) wX8_heard_16 dX8_heard_42 (n := 45) rfl ?_
        refine V_iload_n X (q := 3) rfl rfl dX8_heard_45 (n := 46) rfl ?_
        obtain ⟨g15, h⟩ := h
        refine V_ildN X (by decide) (by decide) rfl g15 dX8_heard_46 (n := 47) rfl ?_
        refine V_goto X dX8_heard_47 (tgt := 70) (by decide) ?_
        exact kj10 (N.1 69 (Int32.toNatClampNeg v3)) h
set_option maxRecDepth 100000 in
set_option maxHeartbeats 4000000 in
theorem TX8_heard_L187 {p : Program} {l : Launch} {e : Env} {s : State} {m : MethodId} {args : Array Value} {below : List Frame} {meth : Method} {c : Code} {D : va_G} {G : Gc} {ρ : Nat → Nat} (X : Cx p s m args c cX8_heard 7 RX8 wsX8_heard D G ρ (WA ρ s.heap.size) s.heap) (hr : meth.sig.returnType = some .int) (hlk : meth.locks = false) (C : Xm) (N : Nm) (p1 : Int32) (p2 : Int32)  {E : Int32 → Int32 → Int32 → Int32 → Prop} {K : Int32 → Nm → Prop} (hE : ∀ (v3 : Int32) (v4 : Int32) (v5 : Int32) (v6 : Int32), E v3 v4 v5 v6 → V p l e rmX8_heard s m args below meth c D G ρ (WA ρ s.heap.size) s.heap 7 0 0 (Qi D G ρ s args below (fun r C1 N1 => K r N1 ∧ C1 = C)) 257 [(0, .ref (ρ 66)), (1, .int p1), (2, .int p2), (3, .int v3), (4, .int v4), (5, .int v5), (6, .int v6)] [] C N) : ∀ (n : Nat) (v3 : Int32) (v4 : Int32) (v5 : Int32) (v6 : Int32), fX8_heard_L187 N p1 p2 E K n v3 v4 v5 v6 → V p l e rmX8_heard s m args below meth c D G ρ (WA ρ s.heap.size) s.heap 7 0 0 (Qi D G ρ s args below (fun r C1 N1 => K r N1 ∧ C1 = C)) 187 [(0, .ref (ρ 66)), (1, .int p1), (2, .int p2), (3, .int v3), (4, .int v4), (5, .int v5), (6, .int v6)] [] C N := by
  intro n
  induction n with
  | zero => intro v3 v4 v5 v6 h; exact h.elim
  | succ n ih =>
    intro v3 v4 v5 v6 h
    unfold fX8_heard_L187 at h
    refine V_iload X (q := 6) rfl dX8_heard_187 (n := 189) rfl ?_
    refine V_bipush X (v := 8) (by decide) dX8_heard_189 (n := 191) rfl ?_
    refine V_icmp_ge X dX8_heard_191 (tgt := 257) (n := 194) (by decide) rfl (fun c46 => ?_) (fun c46 => ?_)
    · have h := ite_t h c46
      exact hE v3 v4 v5 v6 h
    · have h := ite_f h c46
      refine V_aload_n X (q := 0) rfl rfl dX8_heard_194 (n := 195) rfl ?_
      refine V_getR X (by decide) rfl rfl (k := 38) inX8_heard_X8 rfl (by decide) wX8_heard_93 dX8_heard_195 (n := 198) rfl ?_
      refine V_iload X (q := 6) rfl dX8_heard_198 (n := 200) rfl ?_
      obtain ⟨g47, h⟩ := h
      refine V_ildN X (by decide) (by decide) rfl g47 dX8_heard_200 (n := 201) rfl ?_
      refine V_iload X (q := 4) rfl dX8_heard_201 (n := 203) rfl ?_
      refine jn_o h (fun j48 ej48 h => ?_)
      have kj48 : ∀ (x57 : Int32) (x58 : Int32) (x59 : Int32), j48 x57 x58 x59 → V p l e rmX8_heard s m args below meth c D G ρ (WA ρ s.heap.size) s.heap 7 0 0 (Qi D G ρ s args below (fun r C1 N1 => K r N1 ∧ C1 = C)) 251 [(0, .ref (ρ 66)), (1, .int p1), (2, .int p2), (3, .int x57), (4, .int x58), (5, .int x59), (6, .int v6)] [] C N := by
        intro x57 x58 x59 h
        rw [ej48] at h
        try dsimp only at h
        obtain ⟨x60, ex60⟩ : ∃ z : Int32, z = v6 + (1 : Int32) := ⟨_, rfl⟩
        have h := bd_at h ex60
        refine V_iinc X (q := 6) (d := 1) (L2 := [(6, .int x60), (0, .ref (ρ 66)), (1, .int p1), (2, .int p2), (3, .int x57), (4, .int x58), (5, .int x59)]) rfl (by decide) (by decide) ex60 rfl dX8_heard_251 (n := 254) rfl ?_
        refine V_goto X dX8_heard_254 (tgt := 187) (by decide) ?_
        refine V_loc [1, 2, 3, 4, 5, 6, 0] rfl ?_
        exact ih x57 x58 x59 x60 h
      refine V_icmp_le X dX8_heard_203 (tgt := 225) (n := 206) (by decide) rfl (fun c49 => ?_) (fun c49 => ?_)
      · have h := ite_t h c49
        refine V_aload_n X (q := 0) rfl rfl dX8_heard_225 (n := 226) rfl ?_
        refine V_getR X (by decide) rfl rfl (k := 38) inX8_heard_X8 rfl (by decide) wX8_heard_93 dX8_heard_226 (n := 229) rfl ?_
        refine V_iload X (q := 6) rfl dX8_heard_229 (n := 231) rfl ?_
        obtain ⟨g50, h⟩ := h
        refine V_ildN X (by decide) (by decide) rfl g50 dX8_heard_231 (n := 232) rfl ?_
        refine V_iload X (q := 5) rfl dX8_heard_232 (n := 234) rfl ?_
        refine jn_o h (fun j51 ej51 h => ?_)
        have kj51 : ∀ (x54 : Int32), j51 x54 → V p l e rmX8_heard s m args below meth c D G ρ (WA ρ s.heap.size) s.heap 7 0 0 (Qi D G ρ s args below (fun r C1 N1 => K r N1 ∧ C1 = C)) 249 [(0, .ref (ρ 66)), (1, .int p1), (2, .int p2), (3, .int v3), (4, .int v4), (5, .int v5), (6, .int v6)] [.int x54] C N := by
          intro x54 h
          rw [ej51] at h
          try dsimp only at h
          refine V_istore X (L2 := [(5, .int x54), (0, .ref (ρ 66)), (1, .int p1), (2, .int p2), (3, .int v3), (4, .int v4), (6, .int v6)]) (by decide) rfl dX8_heard_249 (n := 251) rfl ?_
          refine V_loc [1, 2, 3, 4, 5, 0, 6] rfl ?_
          exact kj48 v3 v4 x54 h
        refine V_icmp_le X dX8_heard_234 (tgt := 247) (n := 237) (by decide) rfl (fun c52 => ?_) (fun c52 => ?_)
        · have h := ite_t h c52
          refine V_iload X (q := 5) rfl dX8_heard_247 (n := 249) rfl ?_
          exact kj51 v5 h
        · have h := ite_f h c52
          refine V_aload_n X (q := 0) rfl rfl dX8_heard_237 (n := 238) rfl ?_
          refine V_getR X (by decide) rfl rfl (k := 38) inX8_heard_X8 rfl (by decide) wX8_heard_93 dX8_heard_238 (n := 241) rfl ?_
          refine V_iload X (q := 6) rfl dX8_heard_241 (n := 243) rfl ?_
          obtain ⟨g53, h⟩ := h
          refine V_ildN X (by decide) (by decide) rfl g53 dX8_heard_243 (n := 244) rfl ?_
          refine V_goto X dX8_heard_244 (tgt := 249) (by decide) ?_
          exact kj51 (N.1 89 (Int32.toNatClampNeg v6)) h
      · have h := ite_f h c49
        refine V_iload X (q := 4) rfl dX8_heard_206 (n := 208) rfl ?_
        refine V_istore X (L2 := [(5, .int v4), (0, .ref (ρ 66)), (1, .int p1), (2, .int p2), (3, .int v3), (4, .int v4), (6, .int v6)]) (by decide) rfl dX8_heard_208 (n := 210) rfl ?_
        refine V_aload_n X (q := 1) rfl rfl dX8_heard_210 (n := 211) rfl ?_
        refine V_getR X (by decide) rfl rfl (k := 38) inX8_heard_X8 rfl (by decide) wX8_heard_93 dX8_heard_211 (n := 214) rfl ?_
        refine V_iload X (q := 6) rfl dX8_heard_214 (n := 216) rfl ?_
        obtain ⟨g55, h⟩ := h
        refine V_ildN X (by decide) (by decide) rfl g55 dX8_heard_216 (n := 217) rfl ?_
        refine V_topi (fun x56 ex56 => ?_)
        have h := bd_at h ex56
        refine V_istore X (L2 := [(4, .int x56), (5, .int v4), (0, .ref (ρ 66)), (1, .int p1), (2, .int p2), (3, .int v3), (6, .int v6)]) (by decide) rfl dX8_heard_217 (n := 219) rfl ?_
        refine V_iload X (q := 6) rfl dX8_heard_219 (n := 221) rfl ?_
        refine V_istore_n X (L2 := [(3, .int v6), (4, .int x56), (5, .int v4), (0, .ref (ρ 66)), (1, .int p1), (2, .int p2), (6, .int v6)]) rfl (by decide) rfl dX8_heard_221 (n := 222) rfl ?_
        refine V_goto X dX8_heard_222 (tgt := 251) (by decide) ?_
        refine V_loc [3, 4, 5, 0, 1, 2, 6] rfl ?_
        exact kj48 v6 x56 v4 h
set_option maxRecDepth 100000 in
set_option maxHeartbeats 4000000 in
theorem TX8_heard (l : Launch) (D : va_G) (G : Gc) (ρ : Nat → Nat) (C : Xm) (N : Nm)  (a1 : Int32) (a2 : Int32) (K : Int32 → Nm → Prop) (h : fX8_heard N a1 a2 K) : Ki l yX8_heard wsX8_heard rmX8_heard D G ρ [.ref (ρ 66), .int a1, .int a2] C N (fun r C1 N1 => K r N1 ∧ C1 = C) := by
  refine Ki.ofV (cc := cX8_heard) (maxL := 7) (ret := (some .int)) (by decide +kernel) rfl (Nat.le_of_ble_eq_true rfl) ?_
  intro p e s m args below meth c X hr hlk
  show V p l e rmX8_heard s m args below meth c D G ρ (WA ρ s.heap.size) s.heap 7 0 0 (Qi D G ρ s args below (fun r C1 N1 => K r N1 ∧ C1 = C)) 0 [(0, .ref (ρ 66)), (1, .int a1), (2, .int a2)] [] C N
  unfold fX8_heard at h
  refine V_iconst X (v := 0) (by decide) dX8_heard_0 (n := 1) rfl ?_
  refine V_istore_n X (L2 := [(3, .int (0 : Int32)), (0, .ref (ρ 66)), (1, .int a1), (2, .int a2)]) rfl (by decide) rfl dX8_heard_1 (n := 2) rfl ?_
  refine jn_o h (fun j5 ej5 h => ?_)
  have kj5 : ∀ (x6 : Int32) (N7 : Nm), j5 x6 N7 → V p l e rmX8_heard s m args below meth c D G ρ (WA ρ s.heap.size) s.heap 7 0 0 (Qi D G ρ s args below (fun r C1 N1 => K r N1 ∧ C1 = C)) 21 [(0, .ref (ρ 66)), (1, .int a1), (2, .int a2), (3, .int x6)] [] C N7 := by
    intro x6 N7 h
    rw [ej5] at h
    try dsimp only at h
    refine V_iconst X (v := 0) (by decide) dX8_heard_21 (n := 22) rfl ?_
    refine V_istore_n X (L2 := [(3, .int (0 : Int32)), (0, .ref (ρ 66)), (1, .int a1), (2, .int a2)]) rfl (by decide) rfl dX8_heard_22 (n := 23) rfl ?_
    refine jn_o h (fun j43 ej43 h => ?_)
    have kj43 : ∀ (x44 : Int32) (N45 : Nm), j43 x44 N45 → V p l e rmX8_heard s m args below meth c D G ρ (WA ρ s.heap.size) s.heap 7 0 0 (Qi D G ρ s args below (fun r C1 N1 => K r N1 ∧ C1 = C)) 176 [(0, .ref (ρ 66)), (1, .int a1), (2, .int a2), (3, .int x44)] [] C N45 := by
      intro x44 N45 h
      rw [ej43] at h
      try dsimp only at h
      refine V_iconst X (v := -1) (by decide) dX8_heard_176 (n := 177) rfl ?_
      refine V_istore_n X (L2 := [(3, .int (-1 : Int32)), (0, .ref (ρ 66)), (1, .int a1), (2, .int a2)]) rfl (by decide) rfl dX8_heard_177 (n := 178) rfl ?_
      refine V_iconst X (v := 0) (by decide) dX8_heard_178 (n := 179) rfl ?_
      refine V_istore X (L2 := [(4, .int (0 : Int32)), (3, .int (-1 : Int32)), (0, .ref (ρ 66)), (1, .int a1), (2, .int a2)]) (by decide) rfl dX8_heard_179 (n := 181) rfl ?_
      refine V_iconst X (v := 0) (by decide) dX8_heard_181 (n := 182) rfl ?_
      refine V_istore X (L2 := [(5, .int (0 : Int32)), (4, .int (0 : Int32)), (3, .int (-1 : Int32)), (0, .ref (ρ 66)), (1, .int a1), (2, .int a2)]) (by decide) rfl dX8_heard_182 (n := 184) rfl ?_
      refine V_iconst X (v := 0) (by decide) dX8_heard_184 (n := 185) rfl ?_
      refine V_istore X (L2 := [(6, .int (0 : Int32)), (5, .int (0 : Int32)), (4, .int (0 : Int32)), (3, .int (-1 : Int32)), (0, .ref (ρ 66)), (1, .int a1), (2, .int a2)]) (by decide) rfl dX8_heard_185 (n := 187) rfl ?_
      refine jn_o h (fun j61 ej61 h => ?_)
      have kj61 : ∀ (x62 : Int32) (x63 : Int32) (x64 : Int32) (x65 : Int32), j61 x62 x63 x64 x65 → V p l e rmX8_heard s m args below meth c D G ρ (WA ρ s.heap.size) s.heap 7 0 0 (Qi D G ρ s args below (fun r C1 N1 => K r N1 ∧ C1 = C)) 257 [(0, .ref (ρ 66)), (1, .int a1), (2, .int a2), (3, .int x62), (4, .int x63), (5, .int x64), (6, .int x65)] [] C N45 := by
        intro x62 x63 x64 x65 h
        rw [ej61] at h
        try dsimp only at h
        refine V_iload_n X (q := 3) rfl rfl dX8_heard_257 (n := 258) rfl ?_
        refine V_iconst X (v := -1) (by decide) dX8_heard_258 (n := 259) rfl ?_
        refine jn_o h (fun j67 ej67 h => ?_)
        have kj67 : ∀ (x72 : Int32), j67 x72 → V p l e rmX8_heard s m args below meth c D G ρ (WA ρ s.heap.size) s.heap 7 0 0 (Qi D G ρ s args below (fun r C1 N1 => K r N1 ∧ C1 = C)) 284 [(0, .ref (ρ 66)), (1, .int a1), (2, .int a2), (3, .int x62), (4, .int x63), (5, .int x64), (6, .int x65)] [.int x72] C N45 := by
          intro x72 h
          rw [ej67] at h
          try dsimp only at h
          exact V_iret X hr hlk dX8_heard_284 ⟨h, rfl⟩
        refine jn_o h (fun j66 ej66 h => ?_)
        have kj66 : j66 → V p l e rmX8_heard s m args below meth c D G ρ (WA ρ s.heap.size) s.heap 7 0 0 (Qi D G ρ s args below (fun r C1 N1 => K r N1 ∧ C1 = C)) 283 [(0, .ref (ρ 66)), (1, .int a1), (2, .int a2), (3, .int x62), (4, .int x63), (5, .int x64), (6, .int x65)] [] C N45 := by
          intro  h
          rw [ej66] at h
          refine V_iconst X (v := -1) (by decide) dX8_heard_283 (n := 284) rfl ?_
          exact kj67 (-1 : Int32) h
        refine V_icmp_eq X dX8_heard_259 (tgt := 283) (n := 262) (by decide) rfl (fun c68 => ?_) (fun c68 => ?_)
        · have h := ite_t h c68
          exact kj66  h
        · have h := ite_f h c68
          refine V_iload X (q := 5) rfl dX8_heard_262 (n := 264) rfl ?_
          refine jn_o h (fun j69 ej69 h => ?_)
          have kj69 : j69 → V p l e rmX8_heard s m args below meth c D G ρ (WA ρ s.heap.size) s.heap 7 0 0 (Qi D G ρ s args below (fun r C1 N1 => K r N1 ∧ C1 = C)) 279 [(0, .ref (ρ 66)), (1, .int a1), (2, .int a2), (3, .int x62), (4, .int x63), (5, .int x64), (6, .int x65)] [] C N45 := by
            intro  h
            rw [ej69] at h
            refine V_iload_n X (q := 3) rfl rfl dX8_heard_279 (n := 280) rfl ?_
            refine V_goto X dX8_heard_280 (tgt := 284) (by decide) ?_
            exact kj67 x62 h
          refine V_if_eq X dX8_heard_264 (tgt := 279) (n := 267) (by decide) rfl (fun c70 => ?_) (fun c70 => ?_)
          · have h := ite_t h c70
            exact kj69  h
          · have h := ite_f h c70
            refine V_iload X (q := 4) rfl dX8_heard_267 (n := 269) rfl ?_
            refine V_iload X (q := 5) rfl dX8_heard_269 (n := 271) rfl ?_
            refine V_isub X dX8_heard_271 (n := 272) rfl ?_
            refine V_aload_n X (q := 0) rfl rfl dX8_heard_272 (n := 273) rfl ?_
            refine V_getN X (by decide) (by decide) rfl rfl (k := 17) inX8_heard_X8 rfl (by decide) wX8_heard_48 dX8_heard_273 (n := 276) rfl ?_
            refine V_icmp_lt X dX8_heard_276 (tgt := 283) (n := 279) (by decide) rfl (fun c71 => ?_) (fun c71 => ?_)
            · have h := ite_t h c71
              exact kj66  h
            · have h := ite_f h c71
              exact kj69  h
      refine V_loc [4, 5, 6, 3, 2, 1, 0] rfl ?_
      exact TX8_heard_L187 X hr hlk C N45 a1 a2 (E := j61) (K := K) kj61 200 (-1 : Int32) (0 : Int32) (0 : Int32) (0 : Int32) h
    refine V_loc [1, 2, 3, 0] rfl ?_
    exact TX8_heard_L23 X hr hlk C a1 a2 (E := j43) (K := K) kj43 200 (0 : Int32) N7 h
  refine V_loc [1, 2, 3, 0] rfl ?_
  exact TX8_heard_L2 X hr hlk C a1 a2 (E := j5) (K := K) kj5 200 (0 : Int32) N h
abbrev rmX8_holders : Room := { frames := 0, cells := 0, slots := 0, locals := 0 }
theorem wX8_holders_129 : Cond.fieldLink RX8 129 "FloodBusModel" "nodes" "I" ∈ wsX8_holders := by decide +kernel
theorem wX8_holders_29 : Cond.fieldLink RX8 29 "FloodBusModel" "packet" "[I" ∈ wsX8_holders := by decide +kernel
theorem inX8_holders_X8 : ∀ w ∈ wsX80, w ∈ wsX8_holders := by decide +kernel
set_option maxRecDepth 100000 in
set_option maxHeartbeats 4000000 in
theorem TX8_holders_L4 {p : Program} {l : Launch} {e : Env} {s : State} {m : MethodId} {args : Array Value} {below : List Frame} {meth : Method} {c : Code} {D : va_G} {G : Gc} {ρ : Nat → Nat} (X : Cx p s m args c cX8_holders 3 RX8 wsX8_holders D G ρ (WA ρ s.heap.size) s.heap) (hr : meth.sig.returnType = some .int) (hlk : meth.locks = false) (C : Xm) (N : Nm)  {E : Int32 → Int32 → Prop} {K : Int32 → Prop} (hE : ∀ (v1 : Int32) (v2 : Int32), E v1 v2 → V p l e rmX8_holders s m args below meth c D G ρ (WA ρ s.heap.size) s.heap 3 0 0 (Qi D G ρ s args below (fun r C1 N1 => K r ∧ C1 = C ∧ N1 = N)) 36 [(0, .ref (ρ 66)), (1, .int v1), (2, .int v2)] [] C N) : ∀ (n : Nat) (v1 : Int32) (v2 : Int32), fX8_holders_L4 N E K n v1 v2 → V p l e rmX8_holders s m args below meth c D G ρ (WA ρ s.heap.size) s.heap 3 0 0 (Qi D G ρ s args below (fun r C1 N1 => K r ∧ C1 = C ∧ N1 = N)) 4 [(0, .ref (ρ 66)), (1, .int v1), (2, .int v2)] [] C N := by
  intro n
  induction n with
  | zero => intro v1 v2 h; exact h.elim
  | succ n ih =>
    intro v1 v2 h
    unfold fX8_holders_L4 at h
    refine V_iload_n X (q := 2) rfl rfl dX8_holders_4 (n := 5) rfl ?_
    refine V_aload_n X (q := 0) rfl rfl dX8_holders_5 (n := 6) rfl ?_
    refine V_getN X (by decide) (by decide) rfl rfl (k := 2) inX8_holders_X8 rfl (by decide) wX8_holders_129 dX8_holders_6 (n := 9) rfl ?_
    refine V_icmp_ge X dX8_holders_9 (tgt := 36) (n := 12) (by decide) rfl (fun c1 => ?_) (fun c1 => ?_)
    · have h := ite_t h c1
      exact hE v1 v2 h
    · have h := ite_f h c1
      refine V_iload_n X (q := 1) rfl rfl dX8_holders_12 (n := 13) rfl ?_
      refine V_aload_n X (q := 0) rfl rfl dX8_holders_13 (n := 14) rfl ?_
      refine V_getR X (by decide) rfl rfl (k := 9) inX8_holders_X8 rfl (by decide) wX8_holders_29 dX8_holders_14 (n := 17) rfl ?_
      refine V_iload_n X (q := 2) rfl rfl dX8_holders_17 (n := 18) rfl ?_
      obtain ⟨g2, h⟩ := h
      refine V_ildN X (by decide) (by decide) rfl g2 dX8_holders_18 (n := 19) rfl ?_
      refine V_iconst X (v := -1) (by decide) dX8_holders_19 (n := 20) rfl ?_
      refine jn_o h (fun j3 ej3 h => ?_)
      have kj3 : ∀ (x5 : Int32), j3 x5 → V p l e rmX8_holders s m args below meth c D G ρ (WA ρ s.heap.size) s.heap 3 0 0 (Qi D G ρ s args below (fun r C1 N1 => K r ∧ C1 = C ∧ N1 = N)) 28 [(0, .ref (ρ 66)), (1, .int v1), (2, .int v2)] [.int x5, .int v1] C N := by
        intro x5 h
        rw [ej3] at h
        try dsimp only at h
        refine V_iadd X dX8_holders_28 (n := 29) rfl ?_
        refine V_topi (fun x6 ex6 => ?_)
        have h := bd_at h ex6
        refine V_istore_n X (L2 := [(1, .int x6), (0, .ref (ρ 66)), (2, .int v2)]) rfl (by decide) rfl dX8_holders_29 (n := 30) rfl ?_
        obtain ⟨x7, ex7⟩ : ∃ z : Int32, z = v2 + (1 : Int32) := ⟨_, rfl⟩
        have h := bd_at h ex7
        refine V_iinc X (q := 2) (d := 1) (L2 := [(2, .int x7), (1, .int x6), (0, .ref (ρ 66))]) rfl (by decide) (by decide) ex7 rfl dX8_holders_30 (n := 33) rfl ?_
        refine V_goto X dX8_holders_33 (tgt := 4) (by decide) ?_
        refine V_loc [2, 1, 0] rfl ?_
        exact ih x6 x7 h
      refine V_icmp_ne X dX8_holders_20 (tgt := 27) (n := 23) (by decide) rfl (fun c4 => ?_) (fun c4 => ?_)
      · have h := ite_f h c4
        refine V_iconst X (v := 1) (by decide) dX8_holders_27 (n := 28) rfl ?_
        exact kj3 (1 : Int32) h
      · have h := ite_t h c4
        refine V_iconst X (v := 0) (by decide) dX8_holders_23 (n := 24) rfl ?_
        refine V_goto X dX8_holders_24 (tgt := 28) (by decide) ?_
        exact kj3 (0 : Int32) h
set_option maxRecDepth 100000 in
set_option maxHeartbeats 4000000 in
theorem TX8_holders (l : Launch) (D : va_G) (G : Gc) (ρ : Nat → Nat) (C : Xm) (N : Nm)   (K : Int32 → Prop) (h : fX8_holders N K) : Ki l yX8_holders wsX8_holders rmX8_holders D G ρ [.ref (ρ 66)] C N (fun r C1 N1 => K r ∧ C1 = C ∧ N1 = N) := by
  refine Ki.ofV (cc := cX8_holders) (maxL := 3) (ret := (some .int)) (by decide +kernel) rfl (Nat.le_of_ble_eq_true rfl) ?_
  intro p e s m args below meth c X hr hlk
  show V p l e rmX8_holders s m args below meth c D G ρ (WA ρ s.heap.size) s.heap 3 0 0 (Qi D G ρ s args below (fun r C1 N1 => K r ∧ C1 = C ∧ N1 = N)) 0 [(0, .ref (ρ 66))] [] C N
  unfold fX8_holders at h
  refine V_iconst X (v := 0) (by decide) dX8_holders_0 (n := 1) rfl ?_
  refine V_istore_n X (L2 := [(1, .int (0 : Int32)), (0, .ref (ρ 66))]) rfl (by decide) rfl dX8_holders_1 (n := 2) rfl ?_
  refine V_iconst X (v := 0) (by decide) dX8_holders_2 (n := 3) rfl ?_
  refine V_istore_n X (L2 := [(2, .int (0 : Int32)), (1, .int (0 : Int32)), (0, .ref (ρ 66))]) rfl (by decide) rfl dX8_holders_3 (n := 4) rfl ?_
  refine jn_o h (fun j8 ej8 h => ?_)
  have kj8 : ∀ (x9 : Int32) (x10 : Int32), j8 x9 x10 → V p l e rmX8_holders s m args below meth c D G ρ (WA ρ s.heap.size) s.heap 3 0 0 (Qi D G ρ s args below (fun r C1 N1 => K r ∧ C1 = C ∧ N1 = N)) 36 [(0, .ref (ρ 66)), (1, .int x9), (2, .int x10)] [] C N := by
    intro x9 x10 h
    rw [ej8] at h
    try dsimp only at h
    refine V_iload_n X (q := 1) rfl rfl dX8_holders_36 (n := 37) rfl ?_
    exact V_iret X hr hlk dX8_holders_37 ⟨h, rfl, rfl⟩
  refine V_loc [2, 1, 0] rfl ?_
  exact TX8_holders_L4 X hr hlk C N (E := j8) (K := K) kj8 200 (0 : Int32) (0 : Int32) h
abbrev rmX8_floodNow : Room := { frames := 2, cells := 0, slots := 0, locals := 49 }
theorem wX8_floodNow_129 : Cond.fieldLink RX8 129 "FloodBusModel" "nodes" "I" ∈ wsX8_floodNow := by decide +kernel
theorem wX8_floodNow_29 : Cond.fieldLink RX8 29 "FloodBusModel" "packet" "[I" ∈ wsX8_floodNow := by decide +kernel
theorem wX8_floodNow_32 : Cond.fieldLink RX8 32 "FloodBusModel" "received" "[I" ∈ wsX8_floodNow := by decide +kernel
theorem wX8_floodNow_96 : Cond.fieldLink RX8 96 "FloodBusModel" "comes" "[I" ∈ wsX8_floodNow := by decide +kernel
theorem wX8_floodNow_25 : Cond.fieldLink RX8 25 "FloodBusModel" "alive" "[Z" ∈ wsX8_floodNow := by decide +kernel
theorem wX8_floodNow_35 : Cond.fieldLink RX8 35 "FloodBusModel" "sent" "[I" ∈ wsX8_floodNow := by decide +kernel
theorem wX8_floodNow_151 : Cond.fieldLink RX8 151 "FloodBusModel" "length" "I" ∈ wsX8_floodNow := by decide +kernel
theorem inX8_floodNow_X8 : ∀ w ∈ wsX80, w ∈ wsX8_floodNow := by decide +kernel
set_option maxRecDepth 100000 in
set_option maxHeartbeats 4000000 in
theorem TX8_floodNow_L6 {p : Program} {l : Launch} {e : Env} {s : State} {m : MethodId} {args : Array Value} {below : List Frame} {meth : Method} {c : Code} {D : va_G} {G : Gc} {ρ : Nat → Nat} (X : Cx p s m args c cX8_floodNow 4 RX8 wsX8_floodNow D G ρ (WA ρ s.heap.size) s.heap) (hr : meth.sig.returnType = some .int) (hlk : meth.locks = false) (C : Xm) (p1 : Int32)  {E : Int32 → Nm → Prop} {K : Int32 → Nm → Prop} (hE : ∀ (v2 : Int32) (N : Nm), E v2 N → V p l e rmX8_floodNow s m args below meth c D G ρ (WA ρ s.heap.size) s.heap 4 0 0 (Qi D G ρ s args below (fun r C1 N1 => K r N1 ∧ C1 = C)) 43 [(0, .ref (ρ 66)), (1, .int p1), (2, .int v2)] [] C N) : ∀ (n : Nat) (v2 : Int32) (N : Nm), fX8_floodNow_L6 p1 E K n v2 N → V p l e rmX8_floodNow s m args below meth c D G ρ (WA ρ s.heap.size) s.heap 4 0 0 (Qi D G ρ s args below (fun r C1 N1 => K r N1 ∧ C1 = C)) 6 [(0, .ref (ρ 66)), (1, .int p1), (2, .int v2)] [] C N := by
  intro n
  induction n with
  | zero => intro v2 N h; exact h.elim
  | succ n ih =>
    intro v2 N h
    unfold fX8_floodNow_L6 at h
    refine V_iload_n X (q := 2) rfl rfl dX8_floodNow_6 (n := 7) rfl ?_
    refine V_aload_n X (q := 0) rfl rfl dX8_floodNow_7 (n := 8) rfl ?_
    refine V_getN X (by decide) (by decide) rfl rfl (k := 2) inX8_floodNow_X8 rfl (by decide) wX8_floodNow_129 dX8_floodNow_8 (n := 11) rfl ?_
    refine V_icmp_ge X dX8_floodNow_11 (tgt := 43) (n := 14) (by decide) rfl (fun c2 => ?_) (fun c2 => ?_)
    · have h := ite_t h c2
      exact hE v2 N h
    · have h := ite_f h c2
      refine V_iload_n X (q := 1) rfl rfl dX8_floodNow_14 (n := 15) rfl ?_
      refine V_iload_n X (q := 2) rfl rfl dX8_floodNow_15 (n := 16) rfl ?_
      refine V_ishr X dX8_floodNow_16 (n := 17) rfl ?_
      refine V_iconst X (v := 1) (by decide) dX8_floodNow_17 (n := 18) rfl ?_
      refine V_iand X dX8_floodNow_18 (n := 19) rfl ?_
      refine V_iconst X (v := 1) (by decide) dX8_floodNow_19 (n := 20) rfl ?_
      refine jn_o h (fun j3 ej3 h => ?_)
      have kj3 : ∀ (N9 : Nm), j3 N9 → V p l e rmX8_floodNow s m args below meth c D G ρ (WA ρ s.heap.size) s.heap 4 0 0 (Qi D G ρ s args below (fun r C1 N1 => K r N1 ∧ C1 = C)) 37 [(0, .ref (ρ 66)), (1, .int p1), (2, .int v2)] [] C N9 := by
        intro N9 h
        rw [ej3] at h
        try dsimp only at h
        obtain ⟨x10, ex10⟩ : ∃ z : Int32, z = v2 + (1 : Int32) := ⟨_, rfl⟩
        have h := bd_at h ex10
        refine V_iinc X (q := 2) (d := 1) (L2 := [(2, .int x10), (0, .ref (ρ 66)), (1, .int p1)]) rfl (by decide) (by decide) ex10 rfl dX8_floodNow_37 (n := 40) rfl ?_
        refine V_goto X dX8_floodNow_40 (tgt := 6) (by decide) ?_
        refine V_loc [1, 2, 0] rfl ?_
        exact ih x10 N9 h
      refine V_icmp_ne X dX8_floodNow_20 (tgt := 37) (n := 23) (by decide) rfl (fun c4 => ?_) (fun c4 => ?_)
      · have h := ite_f h c4
        exact kj3 N h
      · have h := ite_t h c4
        refine V_aload_n X (q := 0) rfl rfl dX8_floodNow_23 (n := 24) rfl ?_
        refine V_getR X (by decide) rfl rfl (k := 9) inX8_floodNow_X8 rfl (by decide) wX8_floodNow_29 dX8_floodNow_24 (n := 27) rfl ?_
        refine V_iload_n X (q := 2) rfl rfl dX8_floodNow_27 (n := 28) rfl ?_
        refine V_iload_n X (q := 2) rfl rfl dX8_floodNow_28 (n := 29) rfl ?_
        obtain ⟨g5, h⟩ := h
        refine V_istN X (by decide) (by decide) rfl g5 dX8_floodNow_29 (n := 30) rfl (fun N6 eN6 => ?_)
        have h := bd_at h eN6
        refine V_aload_n X (q := 0) rfl rfl dX8_floodNow_30 (n := 31) rfl ?_
        refine V_getR X (by decide) rfl rfl (k := 10) inX8_floodNow_X8 rfl (by decide) wX8_floodNow_32 dX8_floodNow_31 (n := 34) rfl ?_
        refine V_iload_n X (q := 2) rfl rfl dX8_floodNow_34 (n := 35) rfl ?_
        refine V_iconst X (v := -1) (by decide) dX8_floodNow_35 (n := 36) rfl ?_
        obtain ⟨g7, h⟩ := h
        refine V_istN X (by decide) (by decide) rfl g7 dX8_floodNow_36 (n := 37) rfl (fun N8 eN8 => ?_)
        have h := bd_at h eN8
        exact kj3 N8 h
set_option maxRecDepth 100000 in
set_option maxHeartbeats 4000000 in
theorem TX8_floodNow_L55 {p : Program} {l : Launch} {e : Env} {s : State} {m : MethodId} {args : Array Value} {below : List Frame} {meth : Method} {c : Code} {D : va_G} {G : Gc} {ρ : Nat → Nat} (X : Cx p s m args c cX8_floodNow 4 RX8 wsX8_floodNow D G ρ (WA ρ s.heap.size) s.heap) (hr : meth.sig.returnType = some .int) (hlk : meth.locks = false) (C : Xm) (p1 : Int32) (p2 : Int32)  {E : Int32 → Nm → Prop} {K : Int32 → Nm → Prop} (hE : ∀ (v3 : Int32) (N : Nm), E v3 N → V p l e rmX8_floodNow s m args below meth c D G ρ (WA ρ s.heap.size) s.heap 4 0 0 (Qi D G ρ s args below (fun r C1 N1 => K r N1 ∧ C1 = C)) 105 [(0, .ref (ρ 66)), (1, .int p1), (2, .int p2), (3, .int v3)] [] C N) : ∀ (n : Nat) (v3 : Int32) (N : Nm), fX8_floodNow_L55 p1 p2 E K n v3 N → V p l e rmX8_floodNow s m args below meth c D G ρ (WA ρ s.heap.size) s.heap 4 0 0 (Qi D G ρ s args below (fun r C1 N1 => K r N1 ∧ C1 = C)) 55 [(0, .ref (ρ 66)), (1, .int p1), (2, .int p2), (3, .int v3)] [] C N := by
  intro n
  induction n with
  | zero => intro v3 N h; exact h.elim
  | succ n ih =>
    intro v3 N h
    unfold fX8_floodNow_L55 at h
    refine V_iload_n X (q := 3) rfl rfl dX8_floodNow_55 (n := 56) rfl ?_
    refine V_aload_n X (q := 0) rfl rfl dX8_floodNow_56 (n := 57) rfl ?_
    refine V_getN X (by decide) (by decide) rfl rfl (k := 2) inX8_floodNow_X8 rfl (by decide) wX8_floodNow_129 dX8_floodNow_57 (n := 60) rfl ?_
    refine V_icmp_ge X dX8_floodNow_60 (tgt := 105) (n := 63) (by decide) rfl (fun c16 => ?_) (fun c16 => ?_)
    · have h := ite_t h c16
      exact hE v3 N h
    · have h := ite_f h c16
      refine V_aload_n X (q := 0) rfl rfl dX8_floodNow_63 (n := 64) rfl ?_
      refine V_getR X (by decide) rfl rfl (k := 39) inX8_floodNow_X8 rfl (by decide) wX8_floodNow_96 dX8_floodNow_64 (n := 67) rfl ?_
      refine V_iload_n X (q := 3) rfl rfl dX8_floodNow_67 (n := 68) rfl ?_
      refine V_aload_n X (q := 0) rfl rfl dX8_floodNow_68 (n := 69) rfl ?_
      refine V_getR X (by decide) rfl rfl (k := 8) inX8_floodNow_X8 rfl (by decide) wX8_floodNow_25 dX8_floodNow_69 (n := 72) rfl ?_
      refine V_iload_n X (q := 3) rfl rfl dX8_floodNow_72 (n := 73) rfl ?_
      obtain ⟨g17, h⟩ := h
      refine V_zldN X (by decide) (by decide) rfl g17 dX8_floodNow_73 (n := 74) rfl ?_
      refine jn_o h (fun j19 ej19 h => ?_)
      have kj19 : ∀ (x25 : Int32) (N26 : Nm), j19 x25 N26 → V p l e rmX8_floodNow s m args below meth c D G ρ (WA ρ s.heap.size) s.heap 4 0 0 (Qi D G ρ s args below (fun r C1 N1 => K r N1 ∧ C1 = C)) 98 [(0, .ref (ρ 66)), (1, .int p1), (2, .int p2), (3, .int v3)] [.int x25, .int v3, .ref (ρ 90)] C N26 := by
        intro x25 N26 h
        rw [ej19] at h
        try dsimp only at h
        obtain ⟨g27, h⟩ := h
        refine V_istN X (by decide) (by decide) rfl g27 dX8_floodNow_98 (n := 99) rfl (fun N28 eN28 => ?_)
        have h := bd_at h eN28
        obtain ⟨x29, ex29⟩ : ∃ z : Int32, z = v3 + (1 : Int32) := ⟨_, rfl⟩
        have h := bd_at h ex29
        refine V_iinc X (q := 3) (d := 1) (L2 := [(3, .int x29), (0, .ref (ρ 66)), (1, .int p1), (2, .int p2)]) rfl (by decide) (by decide) ex29 rfl dX8_floodNow_99 (n := 102) rfl ?_
        refine V_goto X dX8_floodNow_102 (tgt := 55) (by decide) ?_
        refine V_loc [1, 2, 3, 0] rfl ?_
        exact ih x29 N28 h
      refine jn_o h (fun j18 ej18 h => ?_)
      have kj18 : j18 → V p l e rmX8_floodNow s m args below meth c D G ρ (WA ρ s.heap.size) s.heap 4 0 0 (Qi D G ρ s args below (fun r C1 N1 => K r N1 ∧ C1 = C)) 97 [(0, .ref (ρ 66)), (1, .int p1), (2, .int p2), (3, .int v3)] [.int v3, .ref (ρ 90)] C N := by
        intro  h
        rw [ej18] at h
        refine V_iconst X (v := -1) (by decide) dX8_floodNow_97 (n := 98) rfl ?_
        exact kj19 (-1 : Int32) N h
      refine V_if_eq X dX8_floodNow_74 (tgt := 97) (n := 77) (by decide) rfl (fun c20 => ?_) (fun c20 => ?_)
      · have h := ite_t h c20
        exact kj18  h
      · have h := ite_f h c20
        refine V_aload_n X (q := 0) rfl rfl dX8_floodNow_77 (n := 78) rfl ?_
        refine V_getR X (by decide) rfl rfl (k := 10) inX8_floodNow_X8 rfl (by decide) wX8_floodNow_32 dX8_floodNow_78 (n := 81) rfl ?_
        refine V_iload_n X (q := 3) rfl rfl dX8_floodNow_81 (n := 82) rfl ?_
        obtain ⟨g21, h⟩ := h
        refine V_ildN X (by decide) (by decide) rfl g21 dX8_floodNow_82 (n := 83) rfl ?_
        refine V_bipush X (v := -2) (by decide) dX8_floodNow_83 (n := 85) rfl ?_
        refine V_icmp_ne X dX8_floodNow_85 (tgt := 97) (n := 88) (by decide) rfl (fun c22 => ?_) (fun c22 => ?_)
        · have h := ite_f h c22
          exact kj18  h
        · have h := ite_t h c22
          refine V_aload_n X (q := 0) rfl rfl dX8_floodNow_88 (n := 89) rfl ?_
          refine V_iload_n X (q := 3) rfl rfl dX8_floodNow_89 (n := 90) rfl ?_
          refine V_iload_n X (q := 2) rfl rfl dX8_floodNow_90 (n := 91) rfl ?_
          refine V_calli X (As := [.int v3, .int p2]) (rest := [.int v3, .ref (ρ 90)]) (nA := 2) (i := 66) (q := (RX8, TX8, 42)) (TX8_heard l D G ρ C N v3 p2 _ h) gX8_floodNow_X8_heard rfl rfl rfl (by decide +kernel) rfl ⟨by decide, by decide⟩ (Nat.le_of_ble_eq_true rfl) ⟨by decide, by decide⟩ (by decide) rfl rfl rfl dX8_floodNow_91 (n := 94) rfl (fun r23 M0 N24 h => ?_)
          obtain ⟨h, eo⟩ := h
          rw [eo]
          refine V_goto X dX8_floodNow_94 (tgt := 98) (by decide) ?_
          exact kj19 r23 N24 h
set_option maxRecDepth 100000 in
set_option maxHeartbeats 4000000 in
theorem TX8_floodNow_L107 {p : Program} {l : Launch} {e : Env} {s : State} {m : MethodId} {args : Array Value} {below : List Frame} {meth : Method} {c : Code} {D : va_G} {G : Gc} {ρ : Nat → Nat} (X : Cx p s m args c cX8_floodNow 4 RX8 wsX8_floodNow D G ρ (WA ρ s.heap.size) s.heap) (hr : meth.sig.returnType = some .int) (hlk : meth.locks = false) (C : Xm) (p1 : Int32) (p2 : Int32)  {E : Int32 → Nm → Prop} {K : Int32 → Nm → Prop} (hE : ∀ (v3 : Int32) (N : Nm), E v3 N → V p l e rmX8_floodNow s m args below meth c D G ρ (WA ρ s.heap.size) s.heap 4 0 0 (Qi D G ρ s args below (fun r C1 N1 => K r N1 ∧ C1 = C)) 144 [(0, .ref (ρ 66)), (1, .int p1), (2, .int p2), (3, .int v3)] [] C N) : ∀ (n : Nat) (v3 : Int32) (N : Nm), fX8_floodNow_L107 p1 p2 E K n v3 N → V p l e rmX8_floodNow s m args below meth c D G ρ (WA ρ s.heap.size) s.heap 4 0 0 (Qi D G ρ s args below (fun r C1 N1 => K r N1 ∧ C1 = C)) 107 [(0, .ref (ρ 66)), (1, .int p1), (2, .int p2), (3, .int v3)] [] C N := by
  intro n
  induction n with
  | zero => intro v3 N h; exact h.elim
  | succ n ih =>
    intro v3 N h
    unfold fX8_floodNow_L107 at h
    refine V_iload_n X (q := 3) rfl rfl dX8_floodNow_107 (n := 108) rfl ?_
    refine V_aload_n X (q := 0) rfl rfl dX8_floodNow_108 (n := 109) rfl ?_
    refine V_getN X (by decide) (by decide) rfl rfl (k := 2) inX8_floodNow_X8 rfl (by decide) wX8_floodNow_129 dX8_floodNow_109 (n := 112) rfl ?_
    refine V_icmp_ge X dX8_floodNow_112 (tgt := 144) (n := 115) (by decide) rfl (fun c33 => ?_) (fun c33 => ?_)
    · have h := ite_t h c33
      exact hE v3 N h
    · have h := ite_f h c33
      refine V_aload_n X (q := 0) rfl rfl dX8_floodNow_115 (n := 116) rfl ?_
      refine V_getR X (by decide) rfl rfl (k := 11) inX8_floodNow_X8 rfl (by decide) wX8_floodNow_35 dX8_floodNow_116 (n := 119) rfl ?_
      refine V_iload_n X (q := 3) rfl rfl dX8_floodNow_119 (n := 120) rfl ?_
      refine V_dup2 X rfl rfl dX8_floodNow_120 (n := 121) rfl ?_
      obtain ⟨g34, h⟩ := h
      refine V_ildN X (by decide) (by decide) rfl g34 dX8_floodNow_121 (n := 122) rfl ?_
      refine V_aload_n X (q := 0) rfl rfl dX8_floodNow_122 (n := 123) rfl ?_
      refine V_iload_n X (q := 3) rfl rfl dX8_floodNow_123 (n := 124) rfl ?_
      refine V_iload_n X (q := 2) rfl rfl dX8_floodNow_124 (n := 125) rfl ?_
      refine V_calli X (As := [.int v3, .int p2]) (rest := [.int (N.1 75 (Int32.toNatClampNeg v3)), .int v3, .ref (ρ 75)]) (nA := 2) (i := 66) (q := (RX8, TX8, 42)) (TX8_transmits l D G ρ C N v3 p2 _ h) gX8_floodNow_X8_transmits rfl rfl rfl (by decide +kernel) rfl ⟨by decide, by decide⟩ (Nat.le_of_ble_eq_true rfl) ⟨by decide, by decide⟩ (by decide) rfl rfl rfl dX8_floodNow_125 (n := 128) rfl (fun r35 M1 M0 h => ?_)
      obtain ⟨h, eo, eo2⟩ := h
      rw [eo, eo2]
      refine jn_o h (fun j36 ej36 h => ?_)
      have kj36 : ∀ (x38 : Int32), j36 x38 → V p l e rmX8_floodNow s m args below meth c D G ρ (WA ρ s.heap.size) s.heap 4 0 0 (Qi D G ρ s args below (fun r C1 N1 => K r N1 ∧ C1 = C)) 136 [(0, .ref (ρ 66)), (1, .int p1), (2, .int p2), (3, .int v3)] [.int x38, .int (N.1 75 (Int32.toNatClampNeg v3)), .int v3, .ref (ρ 75)] C N := by
        intro x38 h
        rw [ej36] at h
        try dsimp only at h
        refine V_iadd X dX8_floodNow_136 (n := 137) rfl ?_
        obtain ⟨g39, h⟩ := h
        refine V_istN X (by decide) (by decide) rfl g39 dX8_floodNow_137 (n := 138) rfl (fun N40 eN40 => ?_)
        have h := bd_at h eN40
        obtain ⟨x41, ex41⟩ : ∃ z : Int32, z = v3 + (1 : Int32) := ⟨_, rfl⟩
        have h := bd_at h ex41
        refine V_iinc X (q := 3) (d := 1) (L2 := [(3, .int x41), (0, .ref (ρ 66)), (1, .int p1), (2, .int p2)]) rfl (by decide) (by decide) ex41 rfl dX8_floodNow_138 (n := 141) rfl ?_
        refine V_goto X dX8_floodNow_141 (tgt := 107) (by decide) ?_
        refine V_loc [1, 2, 3, 0] rfl ?_
        exact ih x41 N40 h
      refine V_if_eq X dX8_floodNow_128 (tgt := 135) (n := 131) (by decide) rfl (fun c37 => ?_) (fun c37 => ?_)
      · have h := ite_t h c37
        refine V_iconst X (v := 0) (by decide) dX8_floodNow_135 (n := 136) rfl ?_
        exact kj36 (0 : Int32) h
      · have h := ite_f h c37
        refine V_iconst X (v := 1) (by decide) dX8_floodNow_131 (n := 132) rfl ?_
        refine V_goto X dX8_floodNow_132 (tgt := 136) (by decide) ?_
        exact kj36 (1 : Int32) h
set_option maxRecDepth 100000 in
set_option maxHeartbeats 4000000 in
theorem TX8_floodNow_L146 {p : Program} {l : Launch} {e : Env} {s : State} {m : MethodId} {args : Array Value} {below : List Frame} {meth : Method} {c : Code} {D : va_G} {G : Gc} {ρ : Nat → Nat} (X : Cx p s m args c cX8_floodNow 4 RX8 wsX8_floodNow D G ρ (WA ρ s.heap.size) s.heap) (hr : meth.sig.returnType = some .int) (hlk : meth.locks = false) (C : Xm) (p1 : Int32) (p2 : Int32)  {E : Int32 → Nm → Prop} {K : Int32 → Nm → Prop} (hE : ∀ (v3 : Int32) (N : Nm), E v3 N → V p l e rmX8_floodNow s m args below meth c D G ρ (WA ρ s.heap.size) s.heap 4 0 0 (Qi D G ρ s args below (fun r C1 N1 => K r N1 ∧ C1 = C)) 189 [(0, .ref (ρ 66)), (1, .int p1), (2, .int p2), (3, .int v3)] [] C N) : ∀ (n : Nat) (v3 : Int32) (N : Nm), fX8_floodNow_L146 p1 p2 E K n v3 N → V p l e rmX8_floodNow s m args below meth c D G ρ (WA ρ s.heap.size) s.heap 4 0 0 (Qi D G ρ s args below (fun r C1 N1 => K r N1 ∧ C1 = C)) 146 [(0, .ref (ρ 66)), (1, .int p1), (2, .int p2), (3, .int v3)] [] C N := by
  intro n
  induction n with
  | zero => intro v3 N h; exact h.elim
  | succ n ih =>
    intro v3 N h
    unfold fX8_floodNow_L146 at h
    refine V_iload_n X (q := 3) rfl rfl dX8_floodNow_146 (n := 147) rfl ?_
    refine V_aload_n X (q := 0) rfl rfl dX8_floodNow_147 (n := 148) rfl ?_
    refine V_getN X (by decide) (by decide) rfl rfl (k := 2) inX8_floodNow_X8 rfl (by decide) wX8_floodNow_129 dX8_floodNow_148 (n := 151) rfl ?_
    refine V_icmp_ge X dX8_floodNow_151 (tgt := 189) (n := 154) (by decide) rfl (fun c45 => ?_) (fun c45 => ?_)
    · have h := ite_t h c45
      exact hE v3 N h
    · have h := ite_f h c45
      refine V_aload_n X (q := 0) rfl rfl dX8_floodNow_154 (n := 155) rfl ?_
      refine V_getR X (by decide) rfl rfl (k := 39) inX8_floodNow_X8 rfl (by decide) wX8_floodNow_96 dX8_floodNow_155 (n := 158) rfl ?_
      refine V_iload_n X (q := 3) rfl rfl dX8_floodNow_158 (n := 159) rfl ?_
      obtain ⟨g46, h⟩ := h
      refine V_ildN X (by decide) (by decide) rfl g46 dX8_floodNow_159 (n := 160) rfl ?_
      refine V_iconst X (v := -1) (by decide) dX8_floodNow_160 (n := 161) rfl ?_
      refine jn_o h (fun j47 ej47 h => ?_)
      have kj47 : ∀ (N54 : Nm), j47 N54 → V p l e rmX8_floodNow s m args below meth c D G ρ (WA ρ s.heap.size) s.heap 4 0 0 (Qi D G ρ s args below (fun r C1 N1 => K r N1 ∧ C1 = C)) 183 [(0, .ref (ρ 66)), (1, .int p1), (2, .int p2), (3, .int v3)] [] C N54 := by
        intro N54 h
        rw [ej47] at h
        try dsimp only at h
        obtain ⟨x55, ex55⟩ : ∃ z : Int32, z = v3 + (1 : Int32) := ⟨_, rfl⟩
        have h := bd_at h ex55
        refine V_iinc X (q := 3) (d := 1) (L2 := [(3, .int x55), (0, .ref (ρ 66)), (1, .int p1), (2, .int p2)]) rfl (by decide) (by decide) ex55 rfl dX8_floodNow_183 (n := 186) rfl ?_
        refine V_goto X dX8_floodNow_186 (tgt := 146) (by decide) ?_
        refine V_loc [1, 2, 3, 0] rfl ?_
        exact ih x55 N54 h
      refine V_icmp_eq X dX8_floodNow_161 (tgt := 183) (n := 164) (by decide) rfl (fun c48 => ?_) (fun c48 => ?_)
      · have h := ite_t h c48
        exact kj47 N h
      · have h := ite_f h c48
        refine V_aload_n X (q := 0) rfl rfl dX8_floodNow_164 (n := 165) rfl ?_
        refine V_getR X (by decide) rfl rfl (k := 9) inX8_floodNow_X8 rfl (by decide) wX8_floodNow_29 dX8_floodNow_165 (n := 168) rfl ?_
        refine V_iload_n X (q := 3) rfl rfl dX8_floodNow_168 (n := 169) rfl ?_
        refine V_aload_n X (q := 0) rfl rfl dX8_floodNow_169 (n := 170) rfl ?_
        refine V_getR X (by decide) rfl rfl (k := 39) inX8_floodNow_X8 rfl (by decide) wX8_floodNow_96 dX8_floodNow_170 (n := 173) rfl ?_
        refine V_iload_n X (q := 3) rfl rfl dX8_floodNow_173 (n := 174) rfl ?_
        obtain ⟨g49, h⟩ := h
        refine V_ildN X (by decide) (by decide) rfl g49 dX8_floodNow_174 (n := 175) rfl ?_
        obtain ⟨g50, h⟩ := h
        refine V_istN X (by decide) (by decide) rfl g50 dX8_floodNow_175 (n := 176) rfl (fun N51 eN51 => ?_)
        have h := bd_at h eN51
        refine V_aload_n X (q := 0) rfl rfl dX8_floodNow_176 (n := 177) rfl ?_
        refine V_getR X (by decide) rfl rfl (k := 10) inX8_floodNow_X8 rfl (by decide) wX8_floodNow_32 dX8_floodNow_177 (n := 180) rfl ?_
        refine V_iload_n X (q := 3) rfl rfl dX8_floodNow_180 (n := 181) rfl ?_
        refine V_iload_n X (q := 2) rfl rfl dX8_floodNow_181 (n := 182) rfl ?_
        obtain ⟨g52, h⟩ := h
        refine V_istN X (by decide) (by decide) rfl g52 dX8_floodNow_182 (n := 183) rfl (fun N53 eN53 => ?_)
        have h := bd_at h eN53
        exact kj47 N53 h
set_option maxRecDepth 100000 in
set_option maxHeartbeats 4000000 in
theorem TX8_floodNow_L45 {p : Program} {l : Launch} {e : Env} {s : State} {m : MethodId} {args : Array Value} {below : List Frame} {meth : Method} {c : Code} {D : va_G} {G : Gc} {ρ : Nat → Nat} (X : Cx p s m args c cX8_floodNow 4 RX8 wsX8_floodNow D G ρ (WA ρ s.heap.size) s.heap) (hr : meth.sig.returnType = some .int) (hlk : meth.locks = false) (C : Xm) (p1 : Int32)  {E : Int32 → Nm → Prop} {K : Int32 → Nm → Prop} (hE : ∀ (v2 : Int32) (N : Nm), E v2 N → V p l e rmX8_floodNow s m args below meth c D G ρ (WA ρ s.heap.size) s.heap 4 0 0 (Qi D G ρ s args below (fun r C1 N1 => K r N1 ∧ C1 = C)) 195 [(0, .ref (ρ 66)), (1, .int p1), (2, .int v2)] [] C N) : ∀ (n : Nat) (v2 : Int32) (N : Nm), fX8_floodNow_L45 p1 E K n v2 N → V p l e rmX8_floodNow s m args below meth c D G ρ (WA ρ s.heap.size) s.heap 4 0 0 (Qi D G ρ s args below (fun r C1 N1 => K r N1 ∧ C1 = C)) 45 [(0, .ref (ρ 66)), (1, .int p1), (2, .int v2)] [] C N := by
  intro n
  induction n with
  | zero => intro v2 N h; exact h.elim
  | succ n ih =>
    intro v2 N h
    unfold fX8_floodNow_L45 at h
    refine V_iload_n X (q := 2) rfl rfl dX8_floodNow_45 (n := 46) rfl ?_
    refine V_aload_n X (q := 0) rfl rfl dX8_floodNow_46 (n := 47) rfl ?_
    refine V_calli X (As := []) (rest := [.int v2]) (nA := 0) (i := 66) (q := (RX8, TX8, 42)) (TX8_lastSlot l D G ρ C N  _ h) gX8_floodNow_X8_lastSlot rfl rfl rfl (by decide +kernel) rfl ⟨by decide, by decide⟩ (Nat.le_of_ble_eq_true rfl) ⟨by decide, by decide⟩ (by decide) rfl rfl rfl dX8_floodNow_47 (n := 50) rfl (fun r14 M1 M0 h => ?_)
    obtain ⟨h, eo, eo2⟩ := h
    rw [eo, eo2]
    refine V_icmp_gt X dX8_floodNow_50 (tgt := 195) (n := 53) (by decide) rfl (fun c15 => ?_) (fun c15 => ?_)
    · have h := ite_t h c15
      exact hE v2 N h
    · have h := ite_f h c15
      refine V_iconst X (v := 0) (by decide) dX8_floodNow_53 (n := 54) rfl ?_
      refine V_istore_n X (L2 := [(3, .int (0 : Int32)), (0, .ref (ρ 66)), (1, .int p1), (2, .int v2)]) rfl (by decide) rfl dX8_floodNow_54 (n := 55) rfl ?_
      refine jn_o h (fun j30 ej30 h => ?_)
      have kj30 : ∀ (x31 : Int32) (N32 : Nm), j30 x31 N32 → V p l e rmX8_floodNow s m args below meth c D G ρ (WA ρ s.heap.size) s.heap 4 0 0 (Qi D G ρ s args below (fun r C1 N1 => K r N1 ∧ C1 = C)) 105 [(0, .ref (ρ 66)), (1, .int p1), (2, .int v2), (3, .int x31)] [] C N32 := by
        intro x31 N32 h
        rw [ej30] at h
        try dsimp only at h
        refine V_iconst X (v := 0) (by decide) dX8_floodNow_105 (n := 106) rfl ?_
        refine V_istore_n X (L2 := [(3, .int (0 : Int32)), (0, .ref (ρ 66)), (1, .int p1), (2, .int v2)]) rfl (by decide) rfl dX8_floodNow_106 (n := 107) rfl ?_
        refine jn_o h (fun j42 ej42 h => ?_)
        have kj42 : ∀ (x43 : Int32) (N44 : Nm), j42 x43 N44 → V p l e rmX8_floodNow s m args below meth c D G ρ (WA ρ s.heap.size) s.heap 4 0 0 (Qi D G ρ s args below (fun r C1 N1 => K r N1 ∧ C1 = C)) 144 [(0, .ref (ρ 66)), (1, .int p1), (2, .int v2), (3, .int x43)] [] C N44 := by
          intro x43 N44 h
          rw [ej42] at h
          try dsimp only at h
          refine V_iconst X (v := 0) (by decide) dX8_floodNow_144 (n := 145) rfl ?_
          refine V_istore_n X (L2 := [(3, .int (0 : Int32)), (0, .ref (ρ 66)), (1, .int p1), (2, .int v2)]) rfl (by decide) rfl dX8_floodNow_145 (n := 146) rfl ?_
          refine jn_o h (fun j56 ej56 h => ?_)
          have kj56 : ∀ (x57 : Int32) (N58 : Nm), j56 x57 N58 → V p l e rmX8_floodNow s m args below meth c D G ρ (WA ρ s.heap.size) s.heap 4 0 0 (Qi D G ρ s args below (fun r C1 N1 => K r N1 ∧ C1 = C)) 189 [(0, .ref (ρ 66)), (1, .int p1), (2, .int v2), (3, .int x57)] [] C N58 := by
            intro x57 N58 h
            rw [ej56] at h
            try dsimp only at h
            obtain ⟨x59, ex59⟩ : ∃ z : Int32, z = v2 + (1 : Int32) := ⟨_, rfl⟩
            have h := bd_at h ex59
            refine V_iinc X (q := 2) (d := 1) (L2 := [(2, .int x59), (0, .ref (ρ 66)), (1, .int p1), (3, .int x57)]) rfl (by decide) (by decide) ex59 rfl dX8_floodNow_189 (n := 192) rfl ?_
            refine V_goto X dX8_floodNow_192 (tgt := 45) (by decide) ?_
            refine V_loc [1, 2, 0] rfl ?_
            exact ih x59 N58 h
          refine V_loc [1, 2, 3, 0] rfl ?_
          exact TX8_floodNow_L146 X hr hlk C p1 v2 (E := j56) (K := K) kj56 200 (0 : Int32) N44 h
        refine V_loc [1, 2, 3, 0] rfl ?_
        exact TX8_floodNow_L107 X hr hlk C p1 v2 (E := j42) (K := K) kj42 200 (0 : Int32) N32 h
      refine V_loc [1, 2, 3, 0] rfl ?_
      exact TX8_floodNow_L55 X hr hlk C p1 v2 (E := j30) (K := K) kj30 200 (0 : Int32) N h
set_option maxRecDepth 100000 in
set_option maxHeartbeats 4000000 in
theorem TX8_floodNow (l : Launch) (D : va_G) (G : Gc) (ρ : Nat → Nat) (C : Xm) (N : Nm)  (a1 : Int32) (K : Int32 → Nm → Prop) (h : fX8_floodNow N a1 K) : Ki l yX8_floodNow wsX8_floodNow rmX8_floodNow D G ρ [.ref (ρ 66), .int a1] C N (fun r C1 N1 => K r N1 ∧ C1 = C) := by
  refine Ki.ofV (cc := cX8_floodNow) (maxL := 4) (ret := (some .int)) (by decide +kernel) rfl (Nat.le_of_ble_eq_true rfl) ?_
  intro p e s m args below meth c X hr hlk
  show V p l e rmX8_floodNow s m args below meth c D G ρ (WA ρ s.heap.size) s.heap 4 0 0 (Qi D G ρ s args below (fun r C1 N1 => K r N1 ∧ C1 = C)) 0 [(0, .ref (ρ 66)), (1, .int a1)] [] C N
  unfold fX8_floodNow at h
  refine V_aload_n X (q := 0) rfl rfl dX8_floodNow_0 (n := 1) rfl ?_
  refine V_callv X (As := []) (rest := []) (nA := 0) (i := 66) (q := (RX8, TX8, 42)) (TX8_forgetFlood l D G ρ C N  _ h) gX8_floodNow_X8_forgetFlood rfl rfl rfl (by decide +kernel) rfl ⟨by decide, by decide⟩ (Nat.le_of_ble_eq_true rfl) ⟨by decide, by decide⟩ (by decide) rfl rfl rfl dX8_floodNow_1 (n := 4) rfl (fun M0 N1 h => ?_)
  obtain ⟨h, eo⟩ := h
  rw [eo]
  refine V_iconst X (v := 0) (by decide) dX8_floodNow_4 (n := 5) rfl ?_
  refine V_istore_n X (L2 := [(2, .int (0 : Int32)), (0, .ref (ρ 66)), (1, .int a1)]) rfl (by decide) rfl dX8_floodNow_5 (n := 6) rfl ?_
  refine jn_o h (fun j11 ej11 h => ?_)
  have kj11 : ∀ (x12 : Int32) (N13 : Nm), j11 x12 N13 → V p l e rmX8_floodNow s m args below meth c D G ρ (WA ρ s.heap.size) s.heap 4 0 0 (Qi D G ρ s args below (fun r C1 N1 => K r N1 ∧ C1 = C)) 43 [(0, .ref (ρ 66)), (1, .int a1), (2, .int x12)] [] C N13 := by
    intro x12 N13 h
    rw [ej11] at h
    try dsimp only at h
    refine V_iconst X (v := 0) (by decide) dX8_floodNow_43 (n := 44) rfl ?_
    refine V_istore_n X (L2 := [(2, .int (0 : Int32)), (0, .ref (ρ 66)), (1, .int a1)]) rfl (by decide) rfl dX8_floodNow_44 (n := 45) rfl ?_
    refine jn_o h (fun j60 ej60 h => ?_)
    have kj60 : ∀ (x61 : Int32) (N62 : Nm), j60 x61 N62 → V p l e rmX8_floodNow s m args below meth c D G ρ (WA ρ s.heap.size) s.heap 4 0 0 (Qi D G ρ s args below (fun r C1 N1 => K r N1 ∧ C1 = C)) 195 [(0, .ref (ρ 66)), (1, .int a1), (2, .int x61)] [] C N62 := by
      intro x61 N62 h
      rw [ej60] at h
      try dsimp only at h
      refine V_aload_n X (q := 0) rfl rfl dX8_floodNow_195 (n := 196) rfl ?_
      refine V_iload_n X (q := 2) rfl rfl dX8_floodNow_196 (n := 197) rfl ?_
      refine V_putN X (by decide) (by decide) rfl rfl (k := 13) inX8_floodNow_X8 rfl (by decide) wX8_floodNow_151 tyX8 tyX8_ok nmX8 rfl (by decide +kernel) dX8_floodNow_197 (n := 200) rfl (fun N63 eN63 => ?_)
      have h := bd_at h eN63
      refine V_aload_n X (q := 0) rfl rfl dX8_floodNow_200 (n := 201) rfl ?_
      refine V_calli X (As := []) (rest := []) (nA := 0) (i := 66) (q := (RX8, TX8, 42)) (TX8_holders l D G ρ C N63  _ h) gX8_floodNow_X8_holders rfl rfl rfl (by decide +kernel) rfl ⟨by decide, by decide⟩ (Nat.le_of_ble_eq_true rfl) ⟨by decide, by decide⟩ (by decide) rfl rfl rfl dX8_floodNow_201 (n := 204) rfl (fun r64 M1 M0 h => ?_)
      obtain ⟨h, eo, eo2⟩ := h
      rw [eo, eo2]
      exact V_iret X hr hlk dX8_floodNow_204 ⟨h, rfl⟩
    refine V_loc [1, 2, 0] rfl ?_
    exact TX8_floodNow_L45 X hr hlk C a1 (E := j60) (K := K) kj60 200 (0 : Int32) N13 h
  refine V_loc [1, 2, 0] rfl ?_
  exact TX8_floodNow_L6 X hr hlk C a1 (E := j11) (K := K) kj11 200 (0 : Int32) N1 h
