abbrev rmX7_setTransmissionLimit : Room := { frames := 0, cells := 0, slots := 0, locals := 0 }
theorem wX7_setTransmissionLimit_26 : Cond.fieldLink RX7 26 "FloodBus" "latestFlood" "LFloodBus$Flooding;" ∈ wsX7_setTransmissionLimit := by decide +kernel
theorem wX7_setTransmissionLimit_93 : Cond.fieldLink RX7 93 "FloodBus$Flooding" "transmissionLimit" "I" ∈ wsX7_setTransmissionLimit := by decide +kernel
theorem inX7_setTransmissionLimit_X7 : ∀ w ∈ wsX70, w ∈ wsX7_setTransmissionLimit := by decide +kernel
theorem inX7_setTransmissionLimit_X1 : ∀ w ∈ wsX10, w ∈ wsX7_setTransmissionLimit := by decide +kernel
set_option maxRecDepth 100000 in
set_option maxHeartbeats 4000000 in
theorem TX7_setTransmissionLimit (l : Launch) (D : va_G) (G : Gc) (ρ : Nat → Nat) (C : Xm) (N : Nm)  (a1 : Int32) (K : Int32 → Xm → Prop) (h : fX7_setTransmissionLimit C a1 K) : Ki l yX7_setTransmissionLimit wsX7_setTransmissionLimit rmX7_setTransmissionLimit D G ρ [.ref (ρ 0), .int a1] C N (fun r C1 N1 => K r C1 ∧ N1 = N) := by
  refine Ki.ofV (cc := cX7_setTransmissionLimit) (maxL := 3) (ret := (some .int)) (by decide +kernel) rfl (Nat.le_of_ble_eq_true rfl) ?_
  intro p e s m args below meth c X hr hlk
  show V p l e rmX7_setTransmissionLimit s m args below meth c D G ρ (WA ρ s.heap.size) s.heap 3 0 0 (Qi D G ρ s args below (fun r C1 N1 => K r C1 ∧ N1 = N)) 0 [(0, .ref (ρ 0)), (1, .int a1)] [] C N
  unfold fX7_setTransmissionLimit at h
  refine V_iload_n X (q := 1) rfl rfl dX7_setTransmissionLimit_0 (n := 1) rfl ?_
  refine V_iconst X (v := 1) (by decide) dX7_setTransmissionLimit_1 (n := 2) rfl ?_
  refine jn_o h (fun j1 ej1 h => ?_)
  have kj1 : j1 → V p l e rmX7_setTransmissionLimit s m args below meth c D G ρ (WA ρ s.heap.size) s.heap 3 0 0 (Qi D G ρ s args below (fun r C1 N1 => K r C1 ∧ N1 = N)) 10 [(0, .ref (ρ 0)), (1, .int a1)] [] C N := by
    intro  h
    rw [ej1] at h
    refine V_sipush X (v := -1002) (by decide) dX7_setTransmissionLimit_10 (n := 13) rfl ?_
    exact V_iret X hr hlk dX7_setTransmissionLimit_13 ⟨h, rfl⟩
  refine V_icmp_lt X dX7_setTransmissionLimit_2 (tgt := 10) (n := 5) (by decide) rfl (fun c2 => ?_) (fun c2 => ?_)
  · have h := ite_t h c2
    exact kj1  h
  · have h := ite_f h c2
    refine V_iload_n X (q := 1) rfl rfl dX7_setTransmissionLimit_5 (n := 6) rfl ?_
    refine V_iconst X (v := 4) (by decide) dX7_setTransmissionLimit_6 (n := 7) rfl ?_
    refine V_icmp_le X dX7_setTransmissionLimit_7 (tgt := 14) (n := 10) (by decide) rfl (fun c3 => ?_) (fun c3 => ?_)
    · have h := ite_t h c3
      refine V_aload_n X (q := 0) rfl rfl dX7_setTransmissionLimit_14 (n := 15) rfl ?_
      refine V_getR X (by decide) rfl rfl (k := 2) inX7_setTransmissionLimit_X7 rfl (by decide) wX7_setTransmissionLimit_26 dX7_setTransmissionLimit_15 (n := 18) rfl ?_
      refine V_getX X (by decide) rfl rfl (k := 4) inX7_setTransmissionLimit_X1 rfl (by decide) wX7_setTransmissionLimit_93 dX7_setTransmissionLimit_18 (n := 21) rfl ?_
      refine V_topi (fun x4 ex4 => ?_)
      have h := bd_at h ex4
      refine V_istore_n X (L2 := [(2, .int x4), (0, .ref (ρ 0)), (1, .int a1)]) rfl (by decide) rfl dX7_setTransmissionLimit_21 (n := 22) rfl ?_
      refine V_aload_n X (q := 1) rfl rfl dX7_setTransmissionLimit_22 (n := 23) rfl ?_
      refine V_getR X (by decide) rfl rfl (k := 2) inX7_setTransmissionLimit_X7 rfl (by decide) wX7_setTransmissionLimit_26 dX7_setTransmissionLimit_23 (n := 26) rfl ?_
      refine V_iload_n X (q := 2) rfl rfl dX7_setTransmissionLimit_26 (n := 27) rfl ?_
      refine V_putX X (by decide) rfl rfl (k := 4) inX7_setTransmissionLimit_X1 rfl (by decide) wX7_setTransmissionLimit_93 tyX1 tyX1_ok nmX1 rfl (by decide +kernel) dX7_setTransmissionLimit_27 (n := 30) rfl (fun C5 eC5 => ?_)
      have h := bd_at h eC5
      refine V_iload_n X (q := 0) rfl rfl dX7_setTransmissionLimit_30 (n := 31) rfl ?_
      exact V_iret X hr hlk dX7_setTransmissionLimit_31 ⟨h, rfl⟩
    · have h := ite_f h c3
      exact kj1  h
abbrev rmX7_setCaptureMargin : Room := { frames := 0, cells := 0, slots := 0, locals := 0 }
theorem wX7_setCaptureMargin_26 : Cond.fieldLink RX7 26 "FloodBus" "latestFlood" "LFloodBus$Flooding;" ∈ wsX7_setCaptureMargin := by decide +kernel
theorem wX7_setCaptureMargin_96 : Cond.fieldLink RX7 96 "FloodBus$Flooding" "captureMargin" "I" ∈ wsX7_setCaptureMargin := by decide +kernel
theorem inX7_setCaptureMargin_X7 : ∀ w ∈ wsX70, w ∈ wsX7_setCaptureMargin := by decide +kernel
theorem inX7_setCaptureMargin_X1 : ∀ w ∈ wsX10, w ∈ wsX7_setCaptureMargin := by decide +kernel
set_option maxRecDepth 100000 in
set_option maxHeartbeats 4000000 in
theorem TX7_setCaptureMargin (l : Launch) (D : va_G) (G : Gc) (ρ : Nat → Nat) (C : Xm) (N : Nm)  (a1 : Int32) (K : Int32 → Xm → Prop) (h : fX7_setCaptureMargin C a1 K) : Ki l yX7_setCaptureMargin wsX7_setCaptureMargin rmX7_setCaptureMargin D G ρ [.ref (ρ 0), .int a1] C N (fun r C1 N1 => K r C1 ∧ N1 = N) := by
  refine Ki.ofV (cc := cX7_setCaptureMargin) (maxL := 3) (ret := (some .int)) (by decide +kernel) rfl (Nat.le_of_ble_eq_true rfl) ?_
  intro p e s m args below meth c X hr hlk
  show V p l e rmX7_setCaptureMargin s m args below meth c D G ρ (WA ρ s.heap.size) s.heap 3 0 0 (Qi D G ρ s args below (fun r C1 N1 => K r C1 ∧ N1 = N)) 0 [(0, .ref (ρ 0)), (1, .int a1)] [] C N
  unfold fX7_setCaptureMargin at h
  refine V_iload_n X (q := 1) rfl rfl dX7_setCaptureMargin_0 (n := 1) rfl ?_
  refine V_iconst X (v := 1) (by decide) dX7_setCaptureMargin_1 (n := 2) rfl ?_
  refine jn_o h (fun j1 ej1 h => ?_)
  have kj1 : j1 → V p l e rmX7_setCaptureMargin s m args below meth c D G ρ (WA ρ s.heap.size) s.heap 3 0 0 (Qi D G ρ s args below (fun r C1 N1 => K r C1 ∧ N1 = N)) 11 [(0, .ref (ρ 0)), (1, .int a1)] [] C N := by
    intro  h
    rw [ej1] at h
    refine V_sipush X (v := -1002) (by decide) dX7_setCaptureMargin_11 (n := 14) rfl ?_
    exact V_iret X hr hlk dX7_setCaptureMargin_14 ⟨h, rfl⟩
  refine V_icmp_lt X dX7_setCaptureMargin_2 (tgt := 11) (n := 5) (by decide) rfl (fun c2 => ?_) (fun c2 => ?_)
  · have h := ite_t h c2
    exact kj1  h
  · have h := ite_f h c2
    refine V_iload_n X (q := 1) rfl rfl dX7_setCaptureMargin_5 (n := 6) rfl ?_
    refine V_bipush X (v := 9) (by decide) dX7_setCaptureMargin_6 (n := 8) rfl ?_
    refine V_icmp_le X dX7_setCaptureMargin_8 (tgt := 15) (n := 11) (by decide) rfl (fun c3 => ?_) (fun c3 => ?_)
    · have h := ite_t h c3
      refine V_aload_n X (q := 0) rfl rfl dX7_setCaptureMargin_15 (n := 16) rfl ?_
      refine V_getR X (by decide) rfl rfl (k := 2) inX7_setCaptureMargin_X7 rfl (by decide) wX7_setCaptureMargin_26 dX7_setCaptureMargin_16 (n := 19) rfl ?_
      refine V_getX X (by decide) rfl rfl (k := 5) inX7_setCaptureMargin_X1 rfl (by decide) wX7_setCaptureMargin_96 dX7_setCaptureMargin_19 (n := 22) rfl ?_
      refine V_topi (fun x4 ex4 => ?_)
      have h := bd_at h ex4
      refine V_istore_n X (L2 := [(2, .int x4), (0, .ref (ρ 0)), (1, .int a1)]) rfl (by decide) rfl dX7_setCaptureMargin_22 (n := 23) rfl ?_
      refine V_aload_n X (q := 1) rfl rfl dX7_setCaptureMargin_23 (n := 24) rfl ?_
      refine V_getR X (by decide) rfl rfl (k := 2) inX7_setCaptureMargin_X7 rfl (by decide) wX7_setCaptureMargin_26 dX7_setCaptureMargin_24 (n := 27) rfl ?_
      refine V_iload_n X (q := 2) rfl rfl dX7_setCaptureMargin_27 (n := 28) rfl ?_
      refine V_putX X (by decide) rfl rfl (k := 5) inX7_setCaptureMargin_X1 rfl (by decide) wX7_setCaptureMargin_96 tyX1 tyX1_ok nmX1 rfl (by decide +kernel) dX7_setCaptureMargin_28 (n := 31) rfl (fun C5 eC5 => ?_)
      have h := bd_at h eC5
      refine V_iload_n X (q := 0) rfl rfl dX7_setCaptureMargin_31 (n := 32) rfl ?_
      exact V_iret X hr hlk dX7_setCaptureMargin_32 ⟨h, rfl⟩
    · have h := ite_f h c3
      exact kj1  h
abbrev rmX7_setSlotLimit : Room := { frames := 0, cells := 0, slots := 0, locals := 0 }
theorem wX7_setSlotLimit_44 : Cond.fieldLink RX7 44 "FloodBus" "slotLimit" "I" ∈ wsX7_setSlotLimit := by decide +kernel
theorem inX7_setSlotLimit_X7 : ∀ w ∈ wsX70, w ∈ wsX7_setSlotLimit := by decide +kernel
set_option maxRecDepth 100000 in
set_option maxHeartbeats 4000000 in
theorem TX7_setSlotLimit (l : Launch) (D : va_G) (G : Gc) (ρ : Nat → Nat) (C : Xm) (N : Nm)  (a1 : Int32) (K : Int32 → Xm → Prop) (h : fX7_setSlotLimit C a1 K) : Ki l yX7_setSlotLimit wsX7_setSlotLimit rmX7_setSlotLimit D G ρ [.ref (ρ 0), .int a1] C N (fun r C1 N1 => K r C1 ∧ N1 = N) := by
  refine Ki.ofV (cc := cX7_setSlotLimit) (maxL := 3) (ret := (some .int)) (by decide +kernel) rfl (Nat.le_of_ble_eq_true rfl) ?_
  intro p e s m args below meth c X hr hlk
  show V p l e rmX7_setSlotLimit s m args below meth c D G ρ (WA ρ s.heap.size) s.heap 3 0 0 (Qi D G ρ s args below (fun r C1 N1 => K r C1 ∧ N1 = N)) 0 [(0, .ref (ρ 0)), (1, .int a1)] [] C N
  unfold fX7_setSlotLimit at h
  refine V_iload_n X (q := 1) rfl rfl dX7_setSlotLimit_0 (n := 1) rfl ?_
  refine jn_o h (fun j1 ej1 h => ?_)
  have kj1 : j1 → V p l e rmX7_setSlotLimit s m args below meth c D G ρ (WA ρ s.heap.size) s.heap 3 0 0 (Qi D G ρ s args below (fun r C1 N1 => K r C1 ∧ N1 = N)) 10 [(0, .ref (ρ 0)), (1, .int a1)] [] C N := by
    intro  h
    rw [ej1] at h
    refine V_sipush X (v := -1002) (by decide) dX7_setSlotLimit_10 (n := 13) rfl ?_
    exact V_iret X hr hlk dX7_setSlotLimit_13 ⟨h, rfl⟩
  refine V_if_lt X dX7_setSlotLimit_1 (tgt := 10) (n := 4) (by decide) rfl (fun c2 => ?_) (fun c2 => ?_)
  · have h := ite_t h c2
    exact kj1  h
  · have h := ite_f h c2
    refine V_iload_n X (q := 1) rfl rfl dX7_setSlotLimit_4 (n := 5) rfl ?_
    refine V_bipush X (v := 6) (by decide) dX7_setSlotLimit_5 (n := 7) rfl ?_
    refine V_icmp_le X dX7_setSlotLimit_7 (tgt := 14) (n := 10) (by decide) rfl (fun c3 => ?_) (fun c3 => ?_)
    · have h := ite_t h c3
      refine V_aload_n X (q := 0) rfl rfl dX7_setSlotLimit_14 (n := 15) rfl ?_
      refine V_getX X (by decide) rfl rfl (k := 5) inX7_setSlotLimit_X7 rfl (by decide) wX7_setSlotLimit_44 dX7_setSlotLimit_15 (n := 18) rfl ?_
      refine V_topi (fun x4 ex4 => ?_)
      have h := bd_at h ex4
      refine V_istore_n X (L2 := [(2, .int x4), (0, .ref (ρ 0)), (1, .int a1)]) rfl (by decide) rfl dX7_setSlotLimit_18 (n := 19) rfl ?_
      refine V_aload_n X (q := 1) rfl rfl dX7_setSlotLimit_19 (n := 20) rfl ?_
      refine V_iload_n X (q := 2) rfl rfl dX7_setSlotLimit_20 (n := 21) rfl ?_
      refine V_putX X (by decide) rfl rfl (k := 5) inX7_setSlotLimit_X7 rfl (by decide) wX7_setSlotLimit_44 tyX7 tyX7_ok nmX7 rfl (by decide +kernel) dX7_setSlotLimit_21 (n := 24) rfl (fun C5 eC5 => ?_)
      have h := bd_at h eC5
      refine V_iload_n X (q := 0) rfl rfl dX7_setSlotLimit_24 (n := 25) rfl ?_
      exact V_iret X hr hlk dX7_setSlotLimit_25 ⟨h, rfl⟩
    · have h := ite_f h c3
      exact kj1  h
abbrev rmX7_setTakeoverLimit : Room := { frames := 0, cells := 0, slots := 0, locals := 0 }
theorem wX7_setTakeoverLimit_48 : Cond.fieldLink RX7 48 "FloodBus" "takeoverLimit" "I" ∈ wsX7_setTakeoverLimit := by decide +kernel
theorem inX7_setTakeoverLimit_X7 : ∀ w ∈ wsX70, w ∈ wsX7_setTakeoverLimit := by decide +kernel
set_option maxRecDepth 100000 in
set_option maxHeartbeats 4000000 in
theorem TX7_setTakeoverLimit (l : Launch) (D : va_G) (G : Gc) (ρ : Nat → Nat) (C : Xm) (N : Nm)  (a1 : Int32) (K : Int32 → Xm → Prop) (h : fX7_setTakeoverLimit C a1 K) : Ki l yX7_setTakeoverLimit wsX7_setTakeoverLimit rmX7_setTakeoverLimit D G ρ [.ref (ρ 0), .int a1] C N (fun r C1 N1 => K r C1 ∧ N1 = N) := by
  refine Ki.ofV (cc := cX7_setTakeoverLimit) (maxL := 3) (ret := (some .int)) (by decide +kernel) rfl (Nat.le_of_ble_eq_true rfl) ?_
  intro p e s m args below meth c X hr hlk
  show V p l e rmX7_setTakeoverLimit s m args below meth c D G ρ (WA ρ s.heap.size) s.heap 3 0 0 (Qi D G ρ s args below (fun r C1 N1 => K r C1 ∧ N1 = N)) 0 [(0, .ref (ρ 0)), (1, .int a1)] [] C N
  unfold fX7_setTakeoverLimit at h
  refine V_iload_n X (q := 1) rfl rfl dX7_setTakeoverLimit_0 (n := 1) rfl ?_
  refine V_iconst X (v := 1) (by decide) dX7_setTakeoverLimit_1 (n := 2) rfl ?_
  refine jn_o h (fun j1 ej1 h => ?_)
  have kj1 : j1 → V p l e rmX7_setTakeoverLimit s m args below meth c D G ρ (WA ρ s.heap.size) s.heap 3 0 0 (Qi D G ρ s args below (fun r C1 N1 => K r C1 ∧ N1 = N)) 11 [(0, .ref (ρ 0)), (1, .int a1)] [] C N := by
    intro  h
    rw [ej1] at h
    refine V_sipush X (v := -1002) (by decide) dX7_setTakeoverLimit_11 (n := 14) rfl ?_
    exact V_iret X hr hlk dX7_setTakeoverLimit_14 ⟨h, rfl⟩
  refine V_icmp_lt X dX7_setTakeoverLimit_2 (tgt := 11) (n := 5) (by decide) rfl (fun c2 => ?_) (fun c2 => ?_)
  · have h := ite_t h c2
    exact kj1  h
  · have h := ite_f h c2
    refine V_iload_n X (q := 1) rfl rfl dX7_setTakeoverLimit_5 (n := 6) rfl ?_
    refine V_bipush X (v := 9) (by decide) dX7_setTakeoverLimit_6 (n := 8) rfl ?_
    refine V_icmp_le X dX7_setTakeoverLimit_8 (tgt := 15) (n := 11) (by decide) rfl (fun c3 => ?_) (fun c3 => ?_)
    · have h := ite_t h c3
      refine V_aload_n X (q := 0) rfl rfl dX7_setTakeoverLimit_15 (n := 16) rfl ?_
      refine V_getX X (by decide) rfl rfl (k := 6) inX7_setTakeoverLimit_X7 rfl (by decide) wX7_setTakeoverLimit_48 dX7_setTakeoverLimit_16 (n := 19) rfl ?_
      refine V_topi (fun x4 ex4 => ?_)
      have h := bd_at h ex4
      refine V_istore_n X (L2 := [(2, .int x4), (0, .ref (ρ 0)), (1, .int a1)]) rfl (by decide) rfl dX7_setTakeoverLimit_19 (n := 20) rfl ?_
      refine V_aload_n X (q := 1) rfl rfl dX7_setTakeoverLimit_20 (n := 21) rfl ?_
      refine V_iload_n X (q := 2) rfl rfl dX7_setTakeoverLimit_21 (n := 22) rfl ?_
      refine V_putX X (by decide) rfl rfl (k := 6) inX7_setTakeoverLimit_X7 rfl (by decide) wX7_setTakeoverLimit_48 tyX7 tyX7_ok nmX7 rfl (by decide +kernel) dX7_setTakeoverLimit_22 (n := 25) rfl (fun C5 eC5 => ?_)
      have h := bd_at h eC5
      refine V_iload_n X (q := 0) rfl rfl dX7_setTakeoverLimit_25 (n := 26) rfl ?_
      exact V_iret X hr hlk dX7_setTakeoverLimit_26 ⟨h, rfl⟩
    · have h := ite_f h c3
      exact kj1  h
abbrev rmX3_has : Room := { frames := 0, cells := 0, slots := 0, locals := 0 }
theorem wX3_has_18 : Cond.fieldLink RX3 18 "FloodBus$Network" "count" "I" ∈ wsX3_has := by decide +kernel
theorem inX3_has_X3 : ∀ w ∈ wsX30, w ∈ wsX3_has := by decide +kernel
set_option maxRecDepth 100000 in
set_option maxHeartbeats 4000000 in
theorem TX3_has (l : Launch) (D : va_G) (G : Gc) (ρ : Nat → Nat) (C : Xm) (N : Nm)  (a1 : Int32) (K : Int32 → Prop) (h : fX3_has C a1 K) : Ki l yX3_has wsX3_has rmX3_has D G ρ [.ref (ρ 22), .int a1] C N (fun r C1 N1 => K r ∧ C1 = C ∧ N1 = N) := by
  refine Ki.ofV (cc := cX3_has) (maxL := 2) (ret := (some .boolean)) (by decide +kernel) rfl (Nat.le_of_ble_eq_true rfl) ?_
  intro p e s m args below meth c X hr hlk
  show V p l e rmX3_has s m args below meth c D G ρ (WA ρ s.heap.size) s.heap 2 0 0 (Qi D G ρ s args below (fun r C1 N1 => K r ∧ C1 = C ∧ N1 = N)) 0 [(0, .ref (ρ 22)), (1, .int a1)] [] C N
  unfold fX3_has at h
  refine V_iload_n X (q := 1) rfl rfl dX3_has_0 (n := 1) rfl ?_
  refine jn_o h (fun j2 ej2 h => ?_)
  have kj2 : ∀ (x5 : Int32), j2 x5 → V p l e rmX3_has s m args below meth c D G ρ (WA ρ s.heap.size) s.heap 2 0 0 (Qi D G ρ s args below (fun r C1 N1 => K r ∧ C1 = C ∧ N1 = N)) 17 [(0, .ref (ρ 22)), (1, .int a1)] [.int x5] C N := by
    intro x5 h
    rw [ej2] at h
    try dsimp only at h
    obtain ⟨g6, h⟩ := h
    exact V_zret X hr hlk g6 dX3_has_17 ⟨h, rfl, rfl⟩
  refine jn_o h (fun j1 ej1 h => ?_)
  have kj1 : j1 → V p l e rmX3_has s m args below meth c D G ρ (WA ρ s.heap.size) s.heap 2 0 0 (Qi D G ρ s args below (fun r C1 N1 => K r ∧ C1 = C ∧ N1 = N)) 16 [(0, .ref (ρ 22)), (1, .int a1)] [] C N := by
    intro  h
    rw [ej1] at h
    refine V_iconst X (v := 0) (by decide) dX3_has_16 (n := 17) rfl ?_
    exact kj2 (0 : Int32) h
  refine V_if_lt X dX3_has_1 (tgt := 16) (n := 4) (by decide) rfl (fun c3 => ?_) (fun c3 => ?_)
  · have h := ite_t h c3
    exact kj1  h
  · have h := ite_f h c3
    refine V_iload_n X (q := 1) rfl rfl dX3_has_4 (n := 5) rfl ?_
    refine V_aload_n X (q := 0) rfl rfl dX3_has_5 (n := 6) rfl ?_
    refine V_getX X (by decide) rfl rfl (k := 1) inX3_has_X3 rfl (by decide) wX3_has_18 dX3_has_6 (n := 9) rfl ?_
    refine V_icmp_ge X dX3_has_9 (tgt := 16) (n := 12) (by decide) rfl (fun c4 => ?_) (fun c4 => ?_)
    · have h := ite_t h c4
      exact kj1  h
    · have h := ite_f h c4
      refine V_iconst X (v := 1) (by decide) dX3_has_12 (n := 13) rfl ?_
      refine V_goto X dX3_has_13 (tgt := 17) (by decide) ?_
      exact kj2 (1 : Int32) h
abbrev rmX7_setAlive : Room := { frames := 1, cells := 0, slots := 0, locals := 21 }
theorem wX7_setAlive_19 : Cond.fieldLink RX7 19 "FloodBus" "network" "LFloodBus$Network;" ∈ wsX7_setAlive := by decide +kernel
theorem wX7_setAlive_103 : Cond.fieldLink RX7 103 "FloodBus$Network" "alive" "[Z" ∈ wsX7_setAlive := by decide +kernel
theorem wX7_setAlive_107 : Cond.fieldLink RX7 107 "FloodBus$Network" "missed" "[I" ∈ wsX7_setAlive := by decide +kernel
theorem inX7_setAlive_X7 : ∀ w ∈ wsX70, w ∈ wsX7_setAlive := by decide +kernel
theorem inX7_setAlive_X3 : ∀ w ∈ wsX30, w ∈ wsX7_setAlive := by decide +kernel
set_option maxRecDepth 100000 in
set_option maxHeartbeats 4000000 in
theorem TX7_setAlive (l : Launch) (D : va_G) (G : Gc) (ρ : Nat → Nat) (C : Xm) (N : Nm)  (a1 : Int32) (a2 : Int32) (K : Int32 → Xm → Prop) (h : fX7_setAlive C a1 a2 K) : Ki l yX7_setAlive wsX7_setAlive rmX7_setAlive D G ρ [.ref (ρ 0), .int a1, .int a2] C N (fun r C1 N1 => K r C1 ∧ N1 = N) := by
  refine Ki.ofV (cc := cX7_setAlive) (maxL := 4) (ret := (some .int)) (by decide +kernel) rfl (Nat.le_of_ble_eq_true rfl) ?_
  intro p e s m args below meth c X hr hlk
  show V p l e rmX7_setAlive s m args below meth c D G ρ (WA ρ s.heap.size) s.heap 4 0 0 (Qi D G ρ s args below (fun r C1 N1 => K r C1 ∧ N1 = N)) 0 [(0, .ref (ρ 0)), (1, .int a1), (2, .int a2)] [] C N
  unfold fX7_setAlive at h
  refine V_aload_n X (q := 0) rfl rfl dX7_setAlive_0 (n := 1) rfl ?_
  refine V_getR X (by decide) rfl rfl (k := 1) inX7_setAlive_X7 rfl (by decide) wX7_setAlive_19 dX7_setAlive_1 (n := 4) rfl ?_
  refine V_iload_n X (q := 1) rfl rfl dX7_setAlive_4 (n := 5) rfl ?_
  refine V_calli X (As := [.int a1]) (rest := []) (nA := 1) (i := 22) (q := (RX3, TX3, 6)) (TX3_has l D G ρ C N a1 _ h) gX7_setAlive_X3_has rfl rfl rfl (by decide +kernel) rfl ⟨by decide, by decide⟩ (Nat.le_of_ble_eq_true rfl) ⟨by decide, by decide⟩ (by decide) rfl rfl rfl dX7_setAlive_5 (n := 8) rfl (fun r1 M1 M0 h => ?_)
  obtain ⟨h, eo, eo2⟩ := h
  rw [eo, eo2]
  refine V_if_ne X dX7_setAlive_8 (tgt := 15) (n := 11) (by decide) rfl (fun c2 => ?_) (fun c2 => ?_)
  · have h := ite_f h c2
    refine V_aload_n X (q := 0) rfl rfl dX7_setAlive_15 (n := 16) rfl ?_
    refine V_getR X (by decide) rfl rfl (k := 1) inX7_setAlive_X7 rfl (by decide) wX7_setAlive_19 dX7_setAlive_16 (n := 19) rfl ?_
    refine V_getR X (by decide) rfl rfl (k := 2) inX7_setAlive_X3 rfl (by decide) wX7_setAlive_103 dX7_setAlive_19 (n := 22) rfl ?_
    refine V_iload_n X (q := 1) rfl rfl dX7_setAlive_22 (n := 23) rfl ?_
    obtain ⟨g3, h⟩ := h
    refine V_zldX X (by decide) rfl g3 dX7_setAlive_23 (n := 24) rfl ?_
    refine V_topi (fun x4 ex4 => ?_)
    have h := bd_at h ex4
    refine V_istore_n X (L2 := [(3, .int x4), (0, .ref (ρ 0)), (1, .int a1), (2, .int a2)]) rfl (by decide) rfl dX7_setAlive_24 (n := 25) rfl ?_
    refine V_iload_n X (q := 0) rfl rfl dX7_setAlive_25 (n := 26) rfl ?_
    refine V_iload_n X (q := 3) rfl rfl dX7_setAlive_26 (n := 27) rfl ?_
    refine jn_o h (fun j5 ej5 h => ?_)
    have kj5 : ∀ (C12 : Xm), j5 C12 → V p l e rmX7_setAlive s m args below meth c D G ρ (WA ρ s.heap.size) s.heap 4 0 0 (Qi D G ρ s args below (fun r C1 N1 => K r C1 ∧ N1 = N)) 50 [(0, .ref (ρ 0)), (1, .int a1), (2, .int a2), (3, .int x4)] [] C12 N := by
      intro C12 h
      rw [ej5] at h
      try dsimp only at h
      refine V_iload_n X (q := 3) rfl rfl dX7_setAlive_50 (n := 51) rfl ?_
      refine jn_o h (fun j13 ej13 h => ?_)
      have kj13 : ∀ (x15 : Int32), j13 x15 → V p l e rmX7_setAlive s m args below meth c D G ρ (WA ρ s.heap.size) s.heap 4 0 0 (Qi D G ρ s args below (fun r C1 N1 => K r C1 ∧ N1 = N)) 59 [(0, .ref (ρ 0)), (1, .int a1), (2, .int a2), (3, .int x4)] [.int x15] C12 N := by
        intro x15 h
        rw [ej13] at h
        try dsimp only at h
        exact V_iret X hr hlk dX7_setAlive_59 ⟨h, rfl⟩
      refine V_if_eq X dX7_setAlive_51 (tgt := 58) (n := 54) (by decide) rfl (fun c14 => ?_) (fun c14 => ?_)
      · have h := ite_t h c14
        refine V_iconst X (v := 0) (by decide) dX7_setAlive_58 (n := 59) rfl ?_
        exact kj13 (0 : Int32) h
      · have h := ite_f h c14
        refine V_iconst X (v := 1) (by decide) dX7_setAlive_54 (n := 55) rfl ?_
        refine V_goto X dX7_setAlive_55 (tgt := 59) (by decide) ?_
        exact kj13 (1 : Int32) h
    refine V_icmp_eq X dX7_setAlive_27 (tgt := 50) (n := 30) (by decide) rfl (fun c6 => ?_) (fun c6 => ?_)
    · have h := ite_t h c6
      refine V_loc [1, 2, 3, 0] rfl ?_
      exact kj5 C h
    · have h := ite_f h c6
      refine V_aload_n X (q := 1) rfl rfl dX7_setAlive_30 (n := 31) rfl ?_
      refine V_getR X (by decide) rfl rfl (k := 1) inX7_setAlive_X7 rfl (by decide) wX7_setAlive_19 dX7_setAlive_31 (n := 34) rfl ?_
      refine V_getR X (by decide) rfl rfl (k := 2) inX7_setAlive_X3 rfl (by decide) wX7_setAlive_103 dX7_setAlive_34 (n := 37) rfl ?_
      refine V_iload_n X (q := 2) rfl rfl dX7_setAlive_37 (n := 38) rfl ?_
      refine V_iload_n X (q := 3) rfl rfl dX7_setAlive_38 (n := 39) rfl ?_
      obtain ⟨g7, h⟩ := h
      obtain ⟨g8, h⟩ := h
      refine V_zstX X g8 (by decide) rfl g7 dX7_setAlive_39 (n := 40) rfl (fun C9 eC9 => ?_)
      have h := bd_at h eC9
      refine V_aload_n X (q := 1) rfl rfl dX7_setAlive_40 (n := 41) rfl ?_
      refine V_getR X (by decide) rfl rfl (k := 1) inX7_setAlive_X7 rfl (by decide) wX7_setAlive_19 dX7_setAlive_41 (n := 44) rfl ?_
      refine V_getR X (by decide) rfl rfl (k := 3) inX7_setAlive_X3 rfl (by decide) wX7_setAlive_107 dX7_setAlive_44 (n := 47) rfl ?_
      refine V_iload_n X (q := 2) rfl rfl dX7_setAlive_47 (n := 48) rfl ?_
      refine V_iconst X (v := 0) (by decide) dX7_setAlive_48 (n := 49) rfl ?_
      obtain ⟨g10, h⟩ := h
      refine V_istX X (by decide) rfl g10 dX7_setAlive_49 (n := 50) rfl (fun C11 eC11 => ?_)
      have h := bd_at h eC11
      refine V_loc [1, 2, 3, 0] rfl ?_
      exact kj5 C11 h
  · have h := ite_t h c2
    refine V_sipush X (v := -1001) (by decide) dX7_setAlive_11 (n := 14) rfl ?_
    exact V_iret X hr hlk dX7_setAlive_14 ⟨h, rfl⟩
abbrev rmX3_areAlive : Room := { frames := 0, cells := 0, slots := 0, locals := 0 }
theorem wX3_areAlive_18 : Cond.fieldLink RX3 18 "FloodBus$Network" "count" "I" ∈ wsX3_areAlive := by decide +kernel
theorem wX3_areAlive_22 : Cond.fieldLink RX3 22 "FloodBus$Network" "alive" "[Z" ∈ wsX3_areAlive := by decide +kernel
theorem inX3_areAlive_X3 : ∀ w ∈ wsX30, w ∈ wsX3_areAlive := by decide +kernel
set_option maxRecDepth 100000 in
set_option maxHeartbeats 4000000 in
theorem TX3_areAlive_L2 {p : Program} {l : Launch} {e : Env} {s : State} {m : MethodId} {args : Array Value} {below : List Frame} {meth : Method} {c : Code} {D : va_G} {G : Gc} {ρ : Nat → Nat} (X : Cx p s m args c cX3_areAlive 3 RX3 wsX3_areAlive D G ρ (WA ρ s.heap.size) s.heap) (hr : meth.sig.returnType = some .boolean) (hlk : meth.locks = false) (N : Nm) (C : Xm) (p1 : Int32)  {E : Int32 → Prop} {K : Int32 → Prop} (hE : ∀ (v2 : Int32), E v2 → V p l e rmX3_areAlive s m args below meth c D G ρ (WA ρ s.heap.size) s.heap 3 0 0 (Qi D G ρ s args below (fun r C1 N1 => K r ∧ C1 = C ∧ N1 = N)) 36 [(0, .ref (ρ 22)), (1, .int p1), (2, .int v2)] [] C N) : ∀ (n : Nat) (v2 : Int32), fX3_areAlive_L2 C p1 E K n v2 → V p l e rmX3_areAlive s m args below meth c D G ρ (WA ρ s.heap.size) s.heap 3 0 0 (Qi D G ρ s args below (fun r C1 N1 => K r ∧ C1 = C ∧ N1 = N)) 2 [(0, .ref (ρ 22)), (1, .int p1), (2, .int v2)] [] C N := by
  intro n
  induction n with
  | zero => intro v2 h; exact h.elim
  | succ n ih =>
    intro v2 h
    unfold fX3_areAlive_L2 at h
    refine V_iload_n X (q := 2) rfl rfl dX3_areAlive_2 (n := 3) rfl ?_
    refine V_aload_n X (q := 0) rfl rfl dX3_areAlive_3 (n := 4) rfl ?_
    refine V_getX X (by decide) rfl rfl (k := 1) inX3_areAlive_X3 rfl (by decide) wX3_areAlive_18 dX3_areAlive_4 (n := 7) rfl ?_
    refine V_icmp_ge X dX3_areAlive_7 (tgt := 36) (n := 10) (by decide) rfl (fun c1 => ?_) (fun c1 => ?_)
    · have h := ite_t h c1
      exact hE v2 h
    · have h := ite_f h c1
      refine V_iload_n X (q := 1) rfl rfl dX3_areAlive_10 (n := 11) rfl ?_
      refine V_iload_n X (q := 2) rfl rfl dX3_areAlive_11 (n := 12) rfl ?_
      refine V_ishr X dX3_areAlive_12 (n := 13) rfl ?_
      refine V_iconst X (v := 1) (by decide) dX3_areAlive_13 (n := 14) rfl ?_
      refine V_iand X dX3_areAlive_14 (n := 15) rfl ?_
      refine V_iconst X (v := 1) (by decide) dX3_areAlive_15 (n := 16) rfl ?_
      refine jn_o h (fun j2 ej2 h => ?_)
      have kj2 : j2 → V p l e rmX3_areAlive s m args below meth c D G ρ (WA ρ s.heap.size) s.heap 3 0 0 (Qi D G ρ s args below (fun r C1 N1 => K r ∧ C1 = C ∧ N1 = N)) 30 [(0, .ref (ρ 22)), (1, .int p1), (2, .int v2)] [] C N := by
        intro  h
        rw [ej2] at h
        obtain ⟨x6, ex6⟩ : ∃ z : Int32, z = v2 + (1 : Int32) := ⟨_, rfl⟩
        have h := bd_at h ex6
        refine V_iinc X (q := 2) (d := 1) (L2 := [(2, .int x6), (0, .ref (ρ 22)), (1, .int p1)]) rfl (by decide) (by decide) ex6 rfl dX3_areAlive_30 (n := 33) rfl ?_
        refine V_goto X dX3_areAlive_33 (tgt := 2) (by decide) ?_
        refine V_loc [1, 2, 0] rfl ?_
        exact ih x6 h
      refine V_icmp_ne X dX3_areAlive_16 (tgt := 30) (n := 19) (by decide) rfl (fun c3 => ?_) (fun c3 => ?_)
      · have h := ite_f h c3
        exact kj2  h
      · have h := ite_t h c3
        refine V_aload_n X (q := 0) rfl rfl dX3_areAlive_19 (n := 20) rfl ?_
        refine V_getR X (by decide) rfl rfl (k := 2) inX3_areAlive_X3 rfl (by decide) wX3_areAlive_22 dX3_areAlive_20 (n := 23) rfl ?_
        refine V_iload_n X (q := 2) rfl rfl dX3_areAlive_23 (n := 24) rfl ?_
        obtain ⟨g4, h⟩ := h
        refine V_zldX X (by decide) rfl g4 dX3_areAlive_24 (n := 25) rfl ?_
        refine V_if_ne X dX3_areAlive_25 (tgt := 30) (n := 28) (by decide) rfl (fun c5 => ?_) (fun c5 => ?_)
        · have h := ite_f h c5
          exact kj2  h
        · have h := ite_t h c5
          refine V_iconst X (v := 0) (by decide) dX3_areAlive_28 (n := 29) rfl ?_
          exact V_zret X hr hlk (by decide) dX3_areAlive_29 ⟨h, rfl, rfl⟩
set_option maxRecDepth 100000 in
set_option maxHeartbeats 4000000 in
theorem TX3_areAlive (l : Launch) (D : va_G) (G : Gc) (ρ : Nat → Nat) (C : Xm) (N : Nm)  (a1 : Int32) (K : Int32 → Prop) (h : fX3_areAlive C a1 K) : Ki l yX3_areAlive wsX3_areAlive rmX3_areAlive D G ρ [.ref (ρ 22), .int a1] C N (fun r C1 N1 => K r ∧ C1 = C ∧ N1 = N) := by
  refine Ki.ofV (cc := cX3_areAlive) (maxL := 3) (ret := (some .boolean)) (by decide +kernel) rfl (Nat.le_of_ble_eq_true rfl) ?_
  intro p e s m args below meth c X hr hlk
  show V p l e rmX3_areAlive s m args below meth c D G ρ (WA ρ s.heap.size) s.heap 3 0 0 (Qi D G ρ s args below (fun r C1 N1 => K r ∧ C1 = C ∧ N1 = N)) 0 [(0, .ref (ρ 22)), (1, .int a1)] [] C N
  unfold fX3_areAlive at h
  refine V_iconst X (v := 0) (by decide) dX3_areAlive_0 (n := 1) rfl ?_
  refine V_istore_n X (L2 := [(2, .int (0 : Int32)), (0, .ref (ρ 22)), (1, .int a1)]) rfl (by decide) rfl dX3_areAlive_1 (n := 2) rfl ?_
  refine jn_o h (fun j7 ej7 h => ?_)
  have kj7 : ∀ (x8 : Int32), j7 x8 → V p l e rmX3_areAlive s m args below meth c D G ρ (WA ρ s.heap.size) s.heap 3 0 0 (Qi D G ρ s args below (fun r C1 N1 => K r ∧ C1 = C ∧ N1 = N)) 36 [(0, .ref (ρ 22)), (1, .int a1), (2, .int x8)] [] C N := by
    intro x8 h
    rw [ej7] at h
    try dsimp only at h
    refine V_iconst X (v := 1) (by decide) dX3_areAlive_36 (n := 37) rfl ?_
    exact V_zret X hr hlk (by decide) dX3_areAlive_37 ⟨h, rfl, rfl⟩
  refine V_loc [1, 2, 0] rfl ?_
  exact TX3_areAlive_L2 X hr hlk N C a1 (E := j7) (K := K) kj7 200 (0 : Int32) h
abbrev rmX1_hold : Room := { frames := 1, cells := 0, slots := 0, locals := 21 }
theorem wX1_hold_15 : Cond.fieldLink RX1 15 "FloodBus$Flooding" "packet" "[I" ∈ wsX1_hold := by decide +kernel
theorem wX1_hold_18 : Cond.fieldLink RX1 18 "FloodBus$Flooding" "hops" "[I" ∈ wsX1_hold := by decide +kernel
theorem wX1_hold_53 : Cond.fieldLink RX1 53 "FloodBus$Network" "sent" "[I" ∈ wsX1_hold := by decide +kernel
theorem wX1_hold_25 : Cond.fieldLink RX1 25 "FloodBus$Flooding" "transmissionLimit" "I" ∈ wsX1_hold := by decide +kernel
theorem wX1_hold_21 : Cond.fieldLink RX1 21 "FloodBus$Flooding" "length" "I" ∈ wsX1_hold := by decide +kernel
theorem wX1_hold_561 : Cond.methodLink RX1 56 Lib.Math.max.name ∈ wsX1_hold := by decide +kernel
theorem wX1_hold_562 : Cond.static Lib.Math.max.name ∈ wsX1_hold := by decide +kernel
theorem wX1_hold_563 : Cond.initialized "java/lang/Math" ∈ wsX1_hold := by decide +kernel
theorem wX1_hold_564 : Cond.code Lib.Math.max.name Lib.Math.max.code 2 (some .int) ∈ wsX1_hold := by decide +kernel
theorem inX1_hold_X1 : ∀ w ∈ wsX10, w ∈ wsX1_hold := by decide +kernel
theorem inX1_hold_X3 : ∀ w ∈ wsX30, w ∈ wsX1_hold := by decide +kernel
set_option maxRecDepth 100000 in
set_option maxHeartbeats 4000000 in
theorem TX1_hold (l : Launch) (D : va_G) (G : Gc) (ρ : Nat → Nat) (C : Xm) (N : Nm)  (a2 : Int32) (a3 : Int32) (a4 : Int32) (K : Xm → Prop) (h : fX1_hold C a2 a3 a4 K) : Kv l yX1_hold wsX1_hold rmX1_hold D G ρ [.ref (ρ 46), .ref (ρ 22), .int a2, .int a3, .int a4] C N (fun C1 N1 => K C1 ∧ N1 = N) := by
  refine Kv.ofV (cc := cX1_hold) (maxL := 5) (ret := none) (by decide +kernel) rfl (Nat.le_of_ble_eq_true rfl) ?_
  intro p e s m args below meth c X hr hlk
  show V p l e rmX1_hold s m args below meth c D G ρ (WA ρ s.heap.size) s.heap 5 0 0 (Qv D G ρ s args below (fun C1 N1 => K C1 ∧ N1 = N)) 0 [(0, .ref (ρ 46)), (1, .ref (ρ 22)), (2, .int a2), (3, .int a3), (4, .int a4)] [] C N
  unfold fX1_hold at h
  refine V_aload_n X (q := 0) rfl rfl dX1_hold_0 (n := 1) rfl ?_
  refine V_getR X (by decide) rfl rfl (k := 1) inX1_hold_X1 rfl (by decide) wX1_hold_15 dX1_hold_1 (n := 4) rfl ?_
  refine V_iload_n X (q := 2) rfl rfl dX1_hold_4 (n := 5) rfl ?_
  refine V_iload_n X (q := 3) rfl rfl dX1_hold_5 (n := 6) rfl ?_
  obtain ⟨g1, h⟩ := h
  refine V_istX X (by decide) rfl g1 dX1_hold_6 (n := 7) rfl (fun C2 eC2 => ?_)
  have h := bd_at h eC2
  refine V_aload_n X (q := 0) rfl rfl dX1_hold_7 (n := 8) rfl ?_
  refine V_getR X (by decide) rfl rfl (k := 2) inX1_hold_X1 rfl (by decide) wX1_hold_18 dX1_hold_8 (n := 11) rfl ?_
  refine V_iload_n X (q := 2) rfl rfl dX1_hold_11 (n := 12) rfl ?_
  refine V_iload X (q := 4) rfl dX1_hold_12 (n := 14) rfl ?_
  obtain ⟨g3, h⟩ := h
  refine V_istX X (by decide) rfl g3 dX1_hold_14 (n := 15) rfl (fun C4 eC4 => ?_)
  have h := bd_at h eC4
  refine V_aload_n X (q := 1) rfl rfl dX1_hold_15 (n := 16) rfl ?_
  refine V_getR X (by decide) rfl rfl (k := 4) inX1_hold_X3 rfl (by decide) wX1_hold_53 dX1_hold_16 (n := 19) rfl ?_
  refine V_iload_n X (q := 2) rfl rfl dX1_hold_19 (n := 20) rfl ?_
  refine V_dup2 X rfl rfl dX1_hold_20 (n := 21) rfl ?_
  obtain ⟨g5, h⟩ := h
  refine V_ildX X (by decide) rfl g5 dX1_hold_21 (n := 22) rfl ?_
  refine V_aload_n X (q := 0) rfl rfl dX1_hold_22 (n := 23) rfl ?_
  refine V_getX X (by decide) rfl rfl (k := 4) inX1_hold_X1 rfl (by decide) wX1_hold_25 dX1_hold_23 (n := 26) rfl ?_
  refine V_iadd X dX1_hold_26 (n := 27) rfl ?_
  obtain ⟨g6, h⟩ := h
  refine V_istX X (by decide) rfl g6 dX1_hold_27 (n := 28) rfl (fun C7 eC7 => ?_)
  have h := bd_at h eC7
  refine V_aload_n X (q := 0) rfl rfl dX1_hold_28 (n := 29) rfl ?_
  refine V_aload_n X (q := 0) rfl rfl dX1_hold_29 (n := 30) rfl ?_
  refine V_getX X (by decide) rfl rfl (k := 3) inX1_hold_X1 rfl (by decide) wX1_hold_21 dX1_hold_30 (n := 33) rfl ?_
  refine V_iload X (q := 4) rfl dX1_hold_33 (n := 35) rfl ?_
  refine V_iconst X (v := 2) (by decide) dX1_hold_35 (n := 36) rfl ?_
  refine V_aload_n X (q := 0) rfl rfl dX1_hold_36 (n := 37) rfl ?_
  refine V_getX X (by decide) rfl rfl (k := 4) inX1_hold_X1 rfl (by decide) wX1_hold_25 dX1_hold_37 (n := 40) rfl ?_
  refine V_imul X dX1_hold_40 (n := 41) rfl ?_
  refine V_iadd X dX1_hold_41 (n := 42) rfl ?_
  refine V_iconst X (v := 1) (by decide) dX1_hold_42 (n := 43) rfl ?_
  refine V_isub X dX1_hold_43 (n := 44) rfl ?_
  refine V_mmax X wX1_hold_561 wX1_hold_562 wX1_hold_563 wX1_hold_564 (by decide) (Nat.le_of_ble_eq_true rfl) ⟨by decide, by decide⟩ dX1_hold_44 (n := 47) rfl ?_
  refine V_putX X (by decide) rfl rfl (k := 3) inX1_hold_X1 rfl (by decide) wX1_hold_21 tyX1 tyX1_ok nmX1 rfl (by decide +kernel) dX1_hold_47 (n := 50) rfl (fun C8 eC8 => ?_)
  have h := bd_at h eC8
  exact V_vret X hr hlk dX1_hold_50 ⟨h, rfl⟩
abbrev rmX1_transmits : Room := { frames := 0, cells := 0, slots := 0, locals := 0 }
theorem wX1_transmits_15 : Cond.fieldLink RX1 15 "FloodBus$Flooding" "packet" "[I" ∈ wsX1_transmits := by decide +kernel
theorem wX1_transmits_18 : Cond.fieldLink RX1 18 "FloodBus$Flooding" "hops" "[I" ∈ wsX1_transmits := by decide +kernel
theorem wX1_transmits_25 : Cond.fieldLink RX1 25 "FloodBus$Flooding" "transmissionLimit" "I" ∈ wsX1_transmits := by decide +kernel
theorem inX1_transmits_X1 : ∀ w ∈ wsX10, w ∈ wsX1_transmits := by decide +kernel
set_option maxRecDepth 100000 in
set_option maxHeartbeats 4000000 in
theorem TX1_transmits (l : Launch) (D : va_G) (G : Gc) (ρ : Nat → Nat) (C : Xm) (N : Nm)  (a1 : Int32) (a2 : Int32) (K : Int32 → Prop) (h : fX1_transmits C a1 a2 K) : Ki l yX1_transmits wsX1_transmits rmX1_transmits D G ρ [.ref (ρ 46), .int a1, .int a2] C N (fun r C1 N1 => K r ∧ C1 = C ∧ N1 = N) := by
  refine Ki.ofV (cc := cX1_transmits) (maxL := 4) (ret := (some .boolean)) (by decide +kernel) rfl (Nat.le_of_ble_eq_true rfl) ?_
  intro p e s m args below meth c X hr hlk
  show V p l e rmX1_transmits s m args below meth c D G ρ (WA ρ s.heap.size) s.heap 4 0 0 (Qi D G ρ s args below (fun r C1 N1 => K r ∧ C1 = C ∧ N1 = N)) 0 [(0, .ref (ρ 46)), (1, .int a1), (2, .int a2)] [] C N
  unfold fX1_transmits at h
  refine V_aload_n X (q := 0) rfl rfl dX1_transmits_0 (n := 1) rfl ?_
  refine V_getR X (by decide) rfl rfl (k := 1) inX1_transmits_X1 rfl (by decide) wX1_transmits_15 dX1_transmits_1 (n := 4) rfl ?_
  refine V_iload_n X (q := 1) rfl rfl dX1_transmits_4 (n := 5) rfl ?_
  obtain ⟨g1, h⟩ := h
  refine V_ildX X (by decide) rfl g1 dX1_transmits_5 (n := 6) rfl ?_
  refine V_iconst X (v := -1) (by decide) dX1_transmits_6 (n := 7) rfl ?_
  refine V_icmp_ne X dX1_transmits_7 (tgt := 12) (n := 10) (by decide) rfl (fun c2 => ?_) (fun c2 => ?_)
  · have h := ite_f h c2
    refine V_iload_n X (q := 2) rfl rfl dX1_transmits_12 (n := 13) rfl ?_
    refine V_aload_n X (q := 0) rfl rfl dX1_transmits_13 (n := 14) rfl ?_
    refine V_getR X (by decide) rfl rfl (k := 2) inX1_transmits_X1 rfl (by decide) wX1_transmits_18 dX1_transmits_14 (n := 17) rfl ?_
    refine V_iload_n X (q := 1) rfl rfl dX1_transmits_17 (n := 18) rfl ?_
    obtain ⟨g3, h⟩ := h
    refine V_ildX X (by decide) rfl g3 dX1_transmits_18 (n := 19) rfl ?_
    refine V_isub X dX1_transmits_19 (n := 20) rfl ?_
    refine V_topi (fun x4 ex4 => ?_)
    have h := bd_at h ex4
    refine V_istore_n X (L2 := [(3, .int x4), (0, .ref (ρ 46)), (1, .int a1), (2, .int a2)]) rfl (by decide) rfl dX1_transmits_20 (n := 21) rfl ?_
    refine V_iload_n X (q := 0) rfl rfl dX1_transmits_21 (n := 22) rfl ?_
    refine jn_o h (fun j6 ej6 h => ?_)
    have kj6 : ∀ (x10 : Int32), j6 x10 → V p l e rmX1_transmits s m args below meth c D G ρ (WA ρ s.heap.size) s.heap 4 0 0 (Qi D G ρ s args below (fun r C1 N1 => K r ∧ C1 = C ∧ N1 = N)) 46 [(0, .ref (ρ 46)), (1, .int a1), (2, .int a2), (3, .int x4)] [.int x10] C N := by
      intro x10 h
      rw [ej6] at h
      try dsimp only at h
      obtain ⟨g11, h⟩ := h
      exact V_zret X hr hlk g11 dX1_transmits_46 ⟨h, rfl, rfl⟩
    refine jn_o h (fun j5 ej5 h => ?_)
    have kj5 : j5 → V p l e rmX1_transmits s m args below meth c D G ρ (WA ρ s.heap.size) s.heap 4 0 0 (Qi D G ρ s args below (fun r C1 N1 => K r ∧ C1 = C ∧ N1 = N)) 45 [(0, .ref (ρ 46)), (1, .int a1), (2, .int a2), (3, .int x4)] [] C N := by
      intro  h
      rw [ej5] at h
      refine V_iconst X (v := 0) (by decide) dX1_transmits_45 (n := 46) rfl ?_
      exact kj6 (0 : Int32) h
    refine V_if_lt X dX1_transmits_22 (tgt := 45) (n := 25) (by decide) rfl (fun c7 => ?_) (fun c7 => ?_)
    · have h := ite_t h c7
      refine V_loc [1, 2, 3, 0] rfl ?_
      exact kj5  h
    · have h := ite_f h c7
      refine V_iload_n X (q := 0) rfl rfl dX1_transmits_25 (n := 26) rfl ?_
      refine V_iconst X (v := 2) (by decide) dX1_transmits_26 (n := 27) rfl ?_
      refine V_irem X (by decide) dX1_transmits_27 (n := 28) rfl ?_
      refine V_if_ne X dX1_transmits_28 (tgt := 45) (n := 31) (by decide) rfl (fun c8 => ?_) (fun c8 => ?_)
      · have h := ite_f h c8
        refine V_loc [1, 2, 3, 0] rfl ?_
        exact kj5  h
      · have h := ite_t h c8
        refine V_iload_n X (q := 0) rfl rfl dX1_transmits_31 (n := 32) rfl ?_
        refine V_iconst X (v := 2) (by decide) dX1_transmits_32 (n := 33) rfl ?_
        refine V_idiv X (by decide) dX1_transmits_33 (n := 34) rfl ?_
        refine V_aload_n X (q := 1) rfl rfl dX1_transmits_34 (n := 35) rfl ?_
        refine V_getX X (by decide) rfl rfl (k := 4) inX1_transmits_X1 rfl (by decide) wX1_transmits_25 dX1_transmits_35 (n := 38) rfl ?_
        refine V_icmp_ge X dX1_transmits_38 (tgt := 45) (n := 41) (by decide) rfl (fun c9 => ?_) (fun c9 => ?_)
        · have h := ite_t h c9
          refine V_loc [1, 2, 3, 0] rfl ?_
          exact kj5  h
        · have h := ite_f h c9
          refine V_iconst X (v := 1) (by decide) dX1_transmits_41 (n := 42) rfl ?_
          refine V_goto X dX1_transmits_42 (tgt := 46) (by decide) ?_
          refine V_loc [1, 2, 3, 0] rfl ?_
          exact kj6 (1 : Int32) h
  · have h := ite_t h c2
    refine V_iconst X (v := 0) (by decide) dX1_transmits_10 (n := 11) rfl ?_
    exact V_zret X hr hlk (by decide) dX1_transmits_11 ⟨h, rfl, rfl⟩
abbrev rmX2_signal : Room := { frames := 0, cells := 0, slots := 0, locals := 0 }
theorem wX2_signal_16 : Cond.fieldLink RX2 16 "FloodBus$Links" "lossPeriod" "[[I" ∈ wsX2_signal := by decide +kernel
theorem wX2_signal_11 : Cond.fieldLink RX2 11 "FloodBus$Links" "strength" "[[I" ∈ wsX2_signal := by decide +kernel
theorem inX2_signal_X2 : ∀ w ∈ wsX20, w ∈ wsX2_signal := by decide +kernel
set_option maxRecDepth 100000 in
set_option maxHeartbeats 4000000 in
theorem TX2_signal (l : Launch) (D : va_G) (G : Gc) (ρ : Nat → Nat) (C : Xm) (N : Nm)  (a1 : Int32) (a2 : Int32) (a3 : Int32) (K : Int32 → Prop) (h : fX2_signal C a1 a2 a3 K) : Ki l yX2_signal wsX2_signal rmX2_signal D G ρ [.ref (ρ 23), .int a1, .int a2, .int a3] C N (fun r C1 N1 => K r ∧ C1 = C ∧ N1 = N) := by
  refine Ki.ofV (cc := cX2_signal) (maxL := 5) (ret := (some .int)) (by decide +kernel) rfl (Nat.le_of_ble_eq_true rfl) ?_
  intro p e s m args below meth c X hr hlk
  show V p l e rmX2_signal s m args below meth c D G ρ (WA ρ s.heap.size) s.heap 5 0 0 (Qi D G ρ s args below (fun r C1 N1 => K r ∧ C1 = C ∧ N1 = N)) 0 [(0, .ref (ρ 23)), (1, .int a1), (2, .int a2), (3, .int a3)] [] C N
  unfold fX2_signal at h
  refine V_aload_n X (q := 0) rfl rfl dX2_signal_0 (n := 1) rfl ?_
  refine V_getR X (by decide) rfl rfl (k := 1) inX2_signal_X2 rfl (by decide) wX2_signal_16 dX2_signal_1 (n := 4) rfl ?_
  refine V_iload_n X (q := 1) rfl rfl dX2_signal_4 (n := 5) rfl ?_
  obtain ⟨g1, h⟩ := h
  refine V_aaR X (by decide) rfl g1 dX2_signal_5 (n := 6) rfl ?_
  refine V_iload_n X (q := 2) rfl rfl dX2_signal_6 (n := 7) rfl ?_
  obtain ⟨g2, h⟩ := h
  refine V_ildX X (row_lt g1 (by decide)) (row_sh34 g1) g2 dX2_signal_7 (n := 8) rfl ?_
  refine V_topi (fun x3 ex3 => ?_)
  have h := bd_at h ex3
  refine V_istore X (L2 := [(4, .int x3), (0, .ref (ρ 23)), (1, .int a1), (2, .int a2), (3, .int a3)]) (by decide) rfl dX2_signal_8 (n := 10) rfl ?_
  refine V_iload X (q := 0) rfl dX2_signal_10 (n := 12) rfl ?_
  refine jn_o h (fun j4 ej4 h => ?_)
  have kj4 : j4 → V p l e rmX2_signal s m args below meth c D G ρ (WA ρ s.heap.size) s.heap 5 0 0 (Qi D G ρ s args below (fun r C1 N1 => K r ∧ C1 = C ∧ N1 = N)) 26 [(0, .ref (ρ 23)), (1, .int a1), (2, .int a2), (3, .int a3), (4, .int x3)] [] C N := by
    intro  h
    rw [ej4] at h
    refine V_aload_n X (q := 0) rfl rfl dX2_signal_26 (n := 27) rfl ?_
    refine V_getR X (by decide) rfl rfl (k := 0) inX2_signal_X2 rfl (by decide) wX2_signal_11 dX2_signal_27 (n := 30) rfl ?_
    refine V_iload_n X (q := 1) rfl rfl dX2_signal_30 (n := 31) rfl ?_
    obtain ⟨g8, h⟩ := h
    refine V_aaR X (by decide) rfl g8 dX2_signal_31 (n := 32) rfl ?_
    refine V_iload_n X (q := 2) rfl rfl dX2_signal_32 (n := 33) rfl ?_
    obtain ⟨g9, h⟩ := h
    refine V_ildX X (row_lt g8 (by decide)) (row_sh25 g8) g9 dX2_signal_33 (n := 34) rfl ?_
    exact V_iret X hr hlk dX2_signal_34 ⟨h, rfl, rfl⟩
  refine V_if_le X dX2_signal_12 (tgt := 26) (n := 15) (by decide) rfl (fun c5 => ?_) (fun c5 => ?_)
  · have h := ite_t h c5
    refine V_loc [1, 2, 3, 4, 0] rfl ?_
    exact kj4  h
  · have h := ite_f h c5
    refine V_iload_n X (q := 4) rfl rfl dX2_signal_15 (n := 16) rfl ?_
    refine V_iconst X (v := 1) (by decide) dX2_signal_16 (n := 17) rfl ?_
    refine V_iadd X dX2_signal_17 (n := 18) rfl ?_
    refine V_iload X (q := 0) rfl dX2_signal_18 (n := 20) rfl ?_
    obtain ⟨g6, h⟩ := h
    refine V_irem X g6 dX2_signal_20 (n := 21) rfl ?_
    refine V_if_ne X dX2_signal_21 (tgt := 26) (n := 24) (by decide) rfl (fun c7 => ?_) (fun c7 => ?_)
    · have h := ite_f h c7
      refine V_loc [1, 2, 3, 4, 0] rfl ?_
      exact kj4  h
    · have h := ite_t h c7
      refine V_iconst X (v := 0) (by decide) dX2_signal_24 (n := 25) rfl ?_
      exact V_iret X hr hlk dX2_signal_25 ⟨h, rfl, rfl⟩
abbrev rmX1_measureLevels : Room := { frames := 1, cells := 0, slots := 0, locals := 24 }
theorem wX1_measureLevels_9 : Cond.fieldLink RX1 9 "FloodBus$Flooding" "levels" "[I" ∈ wsX1_measureLevels := by decide +kernel
theorem wX1_measureLevels_15 : Cond.fieldLink RX1 15 "FloodBus$Flooding" "packet" "[I" ∈ wsX1_measureLevels := by decide +kernel
theorem wX1_measureLevels_561 : Cond.methodLink RX1 56 Lib.Math.max.name ∈ wsX1_measureLevels := by decide +kernel
theorem wX1_measureLevels_562 : Cond.static Lib.Math.max.name ∈ wsX1_measureLevels := by decide +kernel
theorem wX1_measureLevels_563 : Cond.initialized "java/lang/Math" ∈ wsX1_measureLevels := by decide +kernel
theorem wX1_measureLevels_564 : Cond.code Lib.Math.max.name Lib.Math.max.code 2 (some .int) ∈ wsX1_measureLevels := by decide +kernel
theorem inX1_measureLevels_X1 : ∀ w ∈ wsX10, w ∈ wsX1_measureLevels := by decide +kernel
set_option maxRecDepth 100000 in
set_option maxHeartbeats 4000000 in
theorem TX1_measureLevels_L11 {p : Program} {l : Launch} {e : Env} {s : State} {m : MethodId} {args : Array Value} {below : List Frame} {meth : Method} {c : Code} {D : va_G} {G : Gc} {ρ : Nat → Nat} (X : Cx p s m args c cX1_measureLevels 6 RX1 wsX1_measureLevels D G ρ (WA ρ s.heap.size) s.heap) (hr : meth.sig.returnType = none) (hlk : meth.locks = false) (N : Nm) (p2 : Int32) (p3 : Int32)  {E : Int32 → Xm → Prop} {K : Xm → Prop} (hE : ∀ (v4 : Int32) (C : Xm), E v4 C → V p l e rmX1_measureLevels s m args below meth c D G ρ (WA ρ s.heap.size) s.heap 6 0 0 (Qv D G ρ s args below (fun C1 N1 => K C1 ∧ N1 = N)) 68 [(0, .ref (ρ 46)), (1, .ref (ρ 23)), (2, .int p2), (3, .int p3), (4, .int v4)] [] C N) : ∀ (n : Nat) (v4 : Int32) (C : Xm), fX1_measureLevels_L11 p2 p3 E K n v4 C → V p l e rmX1_measureLevels s m args below meth c D G ρ (WA ρ s.heap.size) s.heap 6 0 0 (Qv D G ρ s args below (fun C1 N1 => K C1 ∧ N1 = N)) 11 [(0, .ref (ρ 46)), (1, .ref (ρ 23)), (2, .int p2), (3, .int p3), (4, .int v4)] [] C N := by
  intro n
  induction n with
  | zero => intro v4 C h; exact h.elim
  | succ n ih =>
    intro v4 C h
    unfold fX1_measureLevels_L11 at h
    refine V_iload X (q := 4) rfl dX1_measureLevels_11 (n := 13) rfl ?_
    refine V_bipush X (v := 8) (by decide) dX1_measureLevels_13 (n := 15) rfl ?_
    refine V_icmp_ge X dX1_measureLevels_15 (tgt := 68) (n := 18) (by decide) rfl (fun c2 => ?_) (fun c2 => ?_)
    · have h := ite_t h c2
      exact hE v4 C h
    · have h := ite_f h c2
      refine V_aload_n X (q := 0) rfl rfl dX1_measureLevels_18 (n := 19) rfl ?_
      refine V_iload X (q := 4) rfl dX1_measureLevels_19 (n := 21) rfl ?_
      refine V_iload_n X (q := 3) rfl rfl dX1_measureLevels_21 (n := 22) rfl ?_
      refine V_calli X (As := [.int v4, .int p3]) (rest := []) (nA := 2) (i := 46) (q := (RX1, TX1, 6)) (TX1_transmits l D G ρ C N v4 p3 _ h) gX1_measureLevels_X1_transmits rfl rfl rfl (by decide +kernel) rfl ⟨by decide, by decide⟩ (Nat.le_of_ble_eq_true rfl) ⟨by decide, by decide⟩ (by decide) rfl rfl rfl dX1_measureLevels_22 (n := 25) rfl (fun r3 M1 M0 h => ?_)
      obtain ⟨h, eo, eo2⟩ := h
      rw [eo, eo2]
      refine jn_o h (fun j4 ej4 h => ?_)
      have kj4 : ∀ (C12 : Xm), j4 C12 → V p l e rmX1_measureLevels s m args below meth c D G ρ (WA ρ s.heap.size) s.heap 6 0 0 (Qv D G ρ s args below (fun C1 N1 => K C1 ∧ N1 = N)) 62 [(0, .ref (ρ 46)), (1, .ref (ρ 23)), (2, .int p2), (3, .int p3), (4, .int v4)] [] C12 N := by
        intro C12 h
        rw [ej4] at h
        try dsimp only at h
        obtain ⟨x13, ex13⟩ : ∃ z : Int32, z = v4 + (1 : Int32) := ⟨_, rfl⟩
        have h := bd_at h ex13
        refine V_iinc X (q := 4) (d := 1) (L2 := [(4, .int x13), (0, .ref (ρ 46)), (1, .ref (ρ 23)), (2, .int p2), (3, .int p3)]) rfl (by decide) (by decide) ex13 rfl dX1_measureLevels_62 (n := 65) rfl ?_
        refine V_goto X dX1_measureLevels_65 (tgt := 11) (by decide) ?_
        refine V_loc [1, 2, 3, 4, 0] rfl ?_
        exact ih x13 C12 h
      refine V_if_eq X dX1_measureLevels_25 (tgt := 62) (n := 28) (by decide) rfl (fun c5 => ?_) (fun c5 => ?_)
      · have h := ite_t h c5
        exact kj4 C h
      · have h := ite_f h c5
        refine V_aload_n X (q := 0) rfl rfl dX1_measureLevels_28 (n := 29) rfl ?_
        refine V_getR X (by decide) rfl rfl (k := 1) inX1_measureLevels_X1 rfl (by decide) wX1_measureLevels_15 dX1_measureLevels_29 (n := 32) rfl ?_
        refine V_iload X (q := 4) rfl dX1_measureLevels_32 (n := 34) rfl ?_
        obtain ⟨g6, h⟩ := h
        refine V_ildX X (by decide) rfl g6 dX1_measureLevels_34 (n := 35) rfl ?_
        refine V_topi (fun x7 ex7 => ?_)
        have h := bd_at h ex7
        refine V_istore X (L2 := [(5, .int x7), (0, .ref (ρ 46)), (1, .ref (ρ 23)), (2, .int p2), (3, .int p3), (4, .int v4)]) (by decide) rfl dX1_measureLevels_35 (n := 37) rfl ?_
        refine V_aload_n X (q := 1) rfl rfl dX1_measureLevels_37 (n := 38) rfl ?_
        refine V_getR X (by decide) rfl rfl (k := 0) inX1_measureLevels_X1 rfl (by decide) wX1_measureLevels_9 dX1_measureLevels_38 (n := 41) rfl ?_
        refine V_iload X (q := 0) rfl dX1_measureLevels_41 (n := 43) rfl ?_
        refine V_aload_n X (q := 1) rfl rfl dX1_measureLevels_43 (n := 44) rfl ?_
        refine V_getR X (by decide) rfl rfl (k := 0) inX1_measureLevels_X1 rfl (by decide) wX1_measureLevels_9 dX1_measureLevels_44 (n := 47) rfl ?_
        refine V_iload X (q := 0) rfl dX1_measureLevels_47 (n := 49) rfl ?_
        obtain ⟨g8, h⟩ := h
        refine V_ildX X (by decide) rfl g8 dX1_measureLevels_49 (n := 50) rfl ?_
        refine V_aload_n X (q := 2) rfl rfl dX1_measureLevels_50 (n := 51) rfl ?_
        refine V_iload X (q := 5) rfl dX1_measureLevels_51 (n := 53) rfl ?_
        refine V_iload_n X (q := 3) rfl rfl dX1_measureLevels_53 (n := 54) rfl ?_
        refine V_iload_n X (q := 4) rfl rfl dX1_measureLevels_54 (n := 55) rfl ?_
        refine V_calli X (As := [.int v4, .int p2, .int p3]) (rest := [.int (C 47 (Int32.toNatClampNeg x7)), .int x7, .ref (ρ 47)]) (nA := 3) (i := 23) (q := (RX2, TX2, 2)) (TX2_signal l D G ρ C N v4 p2 p3 _ h) gX1_measureLevels_X2_signal rfl rfl rfl (by decide +kernel) rfl ⟨by decide, by decide⟩ (Nat.le_of_ble_eq_true rfl) ⟨by decide, by decide⟩ (by decide) rfl rfl rfl dX1_measureLevels_55 (n := 58) rfl (fun r9 M1 M0 h => ?_)
        obtain ⟨h, eo, eo2⟩ := h
        rw [eo, eo2]
        refine V_mmax X wX1_measureLevels_561 wX1_measureLevels_562 wX1_measureLevels_563 wX1_measureLevels_564 (by decide) (Nat.le_of_ble_eq_true rfl) ⟨by decide, by decide⟩ dX1_measureLevels_58 (n := 61) rfl ?_
        obtain ⟨g10, h⟩ := h
        refine V_istX X (by decide) rfl g10 dX1_measureLevels_61 (n := 62) rfl (fun C11 eC11 => ?_)
        have h := bd_at h eC11
        refine V_loc [1, 2, 3, 4, 5] rfl ?_
        exact kj4 C11 h
set_option maxRecDepth 100000 in
set_option maxHeartbeats 4000000 in
theorem TX1_measureLevels (l : Launch) (D : va_G) (G : Gc) (ρ : Nat → Nat) (C : Xm) (N : Nm)  (a2 : Int32) (a3 : Int32) (K : Xm → Prop) (h : fX1_measureLevels C a2 a3 K) : Kv l yX1_measureLevels wsX1_measureLevels rmX1_measureLevels D G ρ [.ref (ρ 46), .ref (ρ 23), .int a2, .int a3] C N (fun C1 N1 => K C1 ∧ N1 = N) := by
  refine Kv.ofV (cc := cX1_measureLevels) (maxL := 6) (ret := none) (by decide +kernel) rfl (Nat.le_of_ble_eq_true rfl) ?_
  intro p e s m args below meth c X hr hlk
  show V p l e rmX1_measureLevels s m args below meth c D G ρ (WA ρ s.heap.size) s.heap 6 0 0 (Qv D G ρ s args below (fun C1 N1 => K C1 ∧ N1 = N)) 0 [(0, .ref (ρ 46)), (1, .ref (ρ 23)), (2, .int a2), (3, .int a3)] [] C N
  unfold fX1_measureLevels at h
  refine V_aload_n X (q := 0) rfl rfl dX1_measureLevels_0 (n := 1) rfl ?_
  refine V_getR X (by decide) rfl rfl (k := 0) inX1_measureLevels_X1 rfl (by decide) wX1_measureLevels_9 dX1_measureLevels_1 (n := 4) rfl ?_
  refine V_iconst X (v := 0) (by decide) dX1_measureLevels_4 (n := 5) rfl ?_
  refine V_callsv X (As := [.ref (ρ 47), .int (0 : Int32)]) (rest := []) (nA := 2) (T_fill l D G ρ C N (by decide) rfl (n0 := 8) (by decide) (0 : Int32)) gX1_measureLevels_J7_fill_53178 rfl rfl rfl (by decide +kernel) rfl ⟨by decide, by decide⟩ (Nat.le_of_ble_eq_true rfl) ⟨by decide, by decide⟩ rfl dX1_measureLevels_5 (n := 8) rfl (fun C1 N0 hp => ?_)
  obtain ⟨eC1, eo⟩ := hp
  rw [eo]
  have h := bd_at h eC1
  refine V_iconst X (v := 0) (by decide) dX1_measureLevels_8 (n := 9) rfl ?_
  refine V_istore X (L2 := [(4, .int (0 : Int32)), (0, .ref (ρ 46)), (1, .ref (ρ 23)), (2, .int a2), (3, .int a3)]) (by decide) rfl dX1_measureLevels_9 (n := 11) rfl ?_
  refine jn_o h (fun j14 ej14 h => ?_)
  have kj14 : ∀ (x15 : Int32) (C16 : Xm), j14 x15 C16 → V p l e rmX1_measureLevels s m args below meth c D G ρ (WA ρ s.heap.size) s.heap 6 0 0 (Qv D G ρ s args below (fun C1 N1 => K C1 ∧ N1 = N)) 68 [(0, .ref (ρ 46)), (1, .ref (ρ 23)), (2, .int a2), (3, .int a3), (4, .int x15)] [] C16 N := by
    intro x15 C16 h
    rw [ej14] at h
    try dsimp only at h
    exact V_vret X hr hlk dX1_measureLevels_68 ⟨h, rfl⟩
  refine V_loc [1, 2, 3, 4, 0] rfl ?_
  exact TX1_measureLevels_L11 X hr hlk N a2 a3 (E := j14) (K := K) kj14 200 (0 : Int32) C1 h
abbrev rmX1_capturedPacket : Room := { frames := 0, cells := 0, slots := 0, locals := 0 }
theorem wX1_capturedPacket_9 : Cond.fieldLink RX1 9 "FloodBus$Flooding" "levels" "[I" ∈ wsX1_capturedPacket := by decide +kernel
theorem wX1_capturedPacket_28 : Cond.fieldLink RX1 28 "FloodBus$Flooding" "captureMargin" "I" ∈ wsX1_capturedPacket := by decide +kernel
theorem inX1_capturedPacket_X1 : ∀ w ∈ wsX10, w ∈ wsX1_capturedPacket := by decide +kernel
set_option maxRecDepth 100000 in
set_option maxHeartbeats 4000000 in
theorem TX1_capturedPacket_L9 {p : Program} {l : Launch} {e : Env} {s : State} {m : MethodId} {args : Array Value} {below : List Frame} {meth : Method} {c : Code} {D : va_G} {G : Gc} {ρ : Nat → Nat} (X : Cx p s m args c cX1_capturedPacket 5 RX1 wsX1_capturedPacket D G ρ (WA ρ s.heap.size) s.heap) (hr : meth.sig.returnType = some .int) (hlk : meth.locks = false) (N : Nm) (C : Xm)  {E : Int32 → Int32 → Int32 → Int32 → Prop} {K : Int32 → Prop} (hE : ∀ (v1 : Int32) (v2 : Int32) (v3 : Int32) (v4 : Int32), E v1 v2 v3 v4 → V p l e rmX1_capturedPacket s m args below meth c D G ρ (WA ρ s.heap.size) s.heap 5 0 0 (Qi D G ρ s args below (fun r C1 N1 => K r ∧ C1 = C ∧ N1 = N)) 68 [(0, .ref (ρ 46)), (1, .int v1), (2, .int v2), (3, .int v3), (4, .int v4)] [] C N) : ∀ (n : Nat) (v1 : Int32) (v2 : Int32) (v3 : Int32) (v4 : Int32), fX1_capturedPacket_L9 C E K n v1 v2 v3 v4 → V p l e rmX1_capturedPacket s m args below meth c D G ρ (WA ρ s.heap.size) s.heap 5 0 0 (Qi D G ρ s args below (fun r C1 N1 => K r ∧ C1 = C ∧ N1 = N)) 9 [(0, .ref (ρ 46)), (1, .int v1), (2, .int v2), (3, .int v3), (4, .int v4)] [] C N := by
  intro n
  induction n with
  | zero => intro v1 v2 v3 v4 h; exact h.elim
  | succ n ih =>
    intro v1 v2 v3 v4 h
    unfold fX1_capturedPacket_L9 at h
    refine V_iload X (q := 4) rfl dX1_capturedPacket_9 (n := 11) rfl ?_
    refine V_bipush X (v := 8) (by decide) dX1_capturedPacket_11 (n := 13) rfl ?_
    refine V_icmp_ge X dX1_capturedPacket_13 (tgt := 68) (n := 16) (by decide) rfl (fun c1 => ?_) (fun c1 => ?_)
    · have h := ite_t h c1
      exact hE v1 v2 v3 v4 h
    · have h := ite_f h c1
      refine V_aload_n X (q := 0) rfl rfl dX1_capturedPacket_16 (n := 17) rfl ?_
      refine V_getR X (by decide) rfl rfl (k := 0) inX1_capturedPacket_X1 rfl (by decide) wX1_capturedPacket_9 dX1_capturedPacket_17 (n := 20) rfl ?_
      refine V_iload X (q := 4) rfl dX1_capturedPacket_20 (n := 22) rfl ?_
      obtain ⟨g2, h⟩ := h
      refine V_ildX X (by decide) rfl g2 dX1_capturedPacket_22 (n := 23) rfl ?_
      refine V_iload_n X (q := 2) rfl rfl dX1_capturedPacket_23 (n := 24) rfl ?_
      refine jn_o h (fun j3 ej3 h => ?_)
      have kj3 : ∀ (x11 : Int32) (x12 : Int32) (x13 : Int32), j3 x11 x12 x13 → V p l e rmX1_capturedPacket s m args below meth c D G ρ (WA ρ s.heap.size) s.heap 5 0 0 (Qi D G ρ s args below (fun r C1 N1 => K r ∧ C1 = C ∧ N1 = N)) 62 [(0, .ref (ρ 46)), (1, .int x11), (2, .int x12), (3, .int x13), (4, .int v4)] [] C N := by
        intro x11 x12 x13 h
        rw [ej3] at h
        try dsimp only at h
        obtain ⟨x14, ex14⟩ : ∃ z : Int32, z = v4 + (1 : Int32) := ⟨_, rfl⟩
        have h := bd_at h ex14
        refine V_iinc X (q := 4) (d := 1) (L2 := [(4, .int x14), (0, .ref (ρ 46)), (1, .int x11), (2, .int x12), (3, .int x13)]) rfl (by decide) (by decide) ex14 rfl dX1_capturedPacket_62 (n := 65) rfl ?_
        refine V_goto X dX1_capturedPacket_65 (tgt := 9) (by decide) ?_
        refine V_loc [1, 2, 3, 4, 0] rfl ?_
        exact ih x11 x12 x13 x14 h
      refine V_icmp_le X dX1_capturedPacket_24 (tgt := 43) (n := 27) (by decide) rfl (fun c4 => ?_) (fun c4 => ?_)
      · have h := ite_t h c4
        refine V_aload_n X (q := 0) rfl rfl dX1_capturedPacket_43 (n := 44) rfl ?_
        refine V_getR X (by decide) rfl rfl (k := 0) inX1_capturedPacket_X1 rfl (by decide) wX1_capturedPacket_9 dX1_capturedPacket_44 (n := 47) rfl ?_
        refine V_iload X (q := 4) rfl dX1_capturedPacket_47 (n := 49) rfl ?_
        obtain ⟨g5, h⟩ := h
        refine V_ildX X (by decide) rfl g5 dX1_capturedPacket_49 (n := 50) rfl ?_
        refine V_iload_n X (q := 3) rfl rfl dX1_capturedPacket_50 (n := 51) rfl ?_
        refine V_icmp_le X dX1_capturedPacket_51 (tgt := 62) (n := 54) (by decide) rfl (fun c6 => ?_) (fun c6 => ?_)
        · have h := ite_t h c6
          exact kj3 v1 v2 v3 h
        · have h := ite_f h c6
          refine V_aload_n X (q := 0) rfl rfl dX1_capturedPacket_54 (n := 55) rfl ?_
          refine V_getR X (by decide) rfl rfl (k := 0) inX1_capturedPacket_X1 rfl (by decide) wX1_capturedPacket_9 dX1_capturedPacket_55 (n := 58) rfl ?_
          refine V_iload X (q := 4) rfl dX1_capturedPacket_58 (n := 60) rfl ?_
          obtain ⟨g7, h⟩ := h
          refine V_ildX X (by decide) rfl g7 dX1_capturedPacket_60 (n := 61) rfl ?_
          refine V_topi (fun x8 ex8 => ?_)
          have h := bd_at h ex8
          refine V_istore_n X (L2 := [(3, .int x8), (0, .ref (ρ 46)), (1, .int v1), (2, .int v2), (4, .int v4)]) rfl (by decide) rfl dX1_capturedPacket_61 (n := 62) rfl ?_
          refine V_loc [1, 2, 3, 0, 4] rfl ?_
          exact kj3 v1 v2 x8 h
      · have h := ite_f h c4
        refine V_iload_n X (q := 2) rfl rfl dX1_capturedPacket_27 (n := 28) rfl ?_
        refine V_istore_n X (L2 := [(3, .int v2), (0, .ref (ρ 46)), (1, .int v1), (2, .int v2), (4, .int v4)]) rfl (by decide) rfl dX1_capturedPacket_28 (n := 29) rfl ?_
        refine V_aload_n X (q := 1) rfl rfl dX1_capturedPacket_29 (n := 30) rfl ?_
        refine V_getR X (by decide) rfl rfl (k := 0) inX1_capturedPacket_X1 rfl (by decide) wX1_capturedPacket_9 dX1_capturedPacket_30 (n := 33) rfl ?_
        refine V_iload X (q := 4) rfl dX1_capturedPacket_33 (n := 35) rfl ?_
        obtain ⟨g9, h⟩ := h
        refine V_ildX X (by decide) rfl g9 dX1_capturedPacket_35 (n := 36) rfl ?_
        refine V_topi (fun x10 ex10 => ?_)
        have h := bd_at h ex10
        refine V_istore_n X (L2 := [(2, .int x10), (3, .int v2), (0, .ref (ρ 46)), (1, .int v1), (4, .int v4)]) rfl (by decide) rfl dX1_capturedPacket_36 (n := 37) rfl ?_
        refine V_iload X (q := 4) rfl dX1_capturedPacket_37 (n := 39) rfl ?_
        refine V_istore_n X (L2 := [(1, .int v4), (2, .int x10), (3, .int v2), (0, .ref (ρ 46)), (4, .int v4)]) rfl (by decide) rfl dX1_capturedPacket_39 (n := 40) rfl ?_
        refine V_goto X dX1_capturedPacket_40 (tgt := 62) (by decide) ?_
        refine V_loc [3, 0, 1, 2, 4] rfl ?_
        exact kj3 v4 x10 v2 h
set_option maxRecDepth 100000 in
set_option maxHeartbeats 4000000 in
theorem TX1_capturedPacket (l : Launch) (D : va_G) (G : Gc) (ρ : Nat → Nat) (C : Xm) (N : Nm)   (K : Int32 → Prop) (h : fX1_capturedPacket C K) : Ki l yX1_capturedPacket wsX1_capturedPacket rmX1_capturedPacket D G ρ [.ref (ρ 46)] C N (fun r C1 N1 => K r ∧ C1 = C ∧ N1 = N) := by
  refine Ki.ofV (cc := cX1_capturedPacket) (maxL := 5) (ret := (some .int)) (by decide +kernel) rfl (Nat.le_of_ble_eq_true rfl) ?_
  intro p e s m args below meth c X hr hlk
  show V p l e rmX1_capturedPacket s m args below meth c D G ρ (WA ρ s.heap.size) s.heap 5 0 0 (Qi D G ρ s args below (fun r C1 N1 => K r ∧ C1 = C ∧ N1 = N)) 0 [(0, .ref (ρ 46))] [] C N
  unfold fX1_capturedPacket at h
  refine V_iconst X (v := -1) (by decide) dX1_capturedPacket_0 (n := 1) rfl ?_
  refine V_istore_n X (L2 := [(1, .int (-1 : Int32)), (0, .ref (ρ 46))]) rfl (by decide) rfl dX1_capturedPacket_1 (n := 2) rfl ?_
  refine V_iconst X (v := 0) (by decide) dX1_capturedPacket_2 (n := 3) rfl ?_
  refine V_istore_n X (L2 := [(2, .int (0 : Int32)), (1, .int (-1 : Int32)), (0, .ref (ρ 46))]) rfl (by decide) rfl dX1_capturedPacket_3 (n := 4) rfl ?_
  refine V_iconst X (v := 0) (by decide) dX1_capturedPacket_4 (n := 5) rfl ?_
  refine V_istore_n X (L2 := [(3, .int (0 : Int32)), (2, .int (0 : Int32)), (1, .int (-1 : Int32)), (0, .ref (ρ 46))]) rfl (by decide) rfl dX1_capturedPacket_5 (n := 6) rfl ?_
  refine V_iconst X (v := 0) (by decide) dX1_capturedPacket_6 (n := 7) rfl ?_
  refine V_istore X (L2 := [(4, .int (0 : Int32)), (3, .int (0 : Int32)), (2, .int (0 : Int32)), (1, .int (-1 : Int32)), (0, .ref (ρ 46))]) (by decide) rfl dX1_capturedPacket_7 (n := 9) rfl ?_
  refine jn_o h (fun j15 ej15 h => ?_)
  have kj15 : ∀ (x16 : Int32) (x17 : Int32) (x18 : Int32) (x19 : Int32), j15 x16 x17 x18 x19 → V p l e rmX1_capturedPacket s m args below meth c D G ρ (WA ρ s.heap.size) s.heap 5 0 0 (Qi D G ρ s args below (fun r C1 N1 => K r ∧ C1 = C ∧ N1 = N)) 68 [(0, .ref (ρ 46)), (1, .int x16), (2, .int x17), (3, .int x18), (4, .int x19)] [] C N := by
    intro x16 x17 x18 x19 h
    rw [ej15] at h
    try dsimp only at h
    refine V_iload_n X (q := 3) rfl rfl dX1_capturedPacket_68 (n := 69) rfl ?_
    refine jn_o h (fun j20 ej20 h => ?_)
    have kj20 : ∀ (x22 : Int32), j20 x22 → V p l e rmX1_capturedPacket s m args below meth c D G ρ (WA ρ s.heap.size) s.heap 5 0 0 (Qi D G ρ s args below (fun r C1 N1 => K r ∧ C1 = C ∧ N1 = N)) 77 [(0, .ref (ρ 46)), (1, .int x16), (2, .int x17), (3, .int x18), (4, .int x19)] [.int x22] C N := by
      intro x22 h
      rw [ej20] at h
      try dsimp only at h
      refine V_istore X (L2 := [(4, .int x22), (0, .ref (ρ 46)), (1, .int x16), (2, .int x17), (3, .int x18)]) (by decide) rfl dX1_capturedPacket_77 (n := 79) rfl ?_
      refine V_iload X (q := 0) rfl dX1_capturedPacket_79 (n := 81) rfl ?_
      refine jn_o h (fun j24 ej24 h => ?_)
      have kj24 : ∀ (x27 : Int32), j24 x27 → V p l e rmX1_capturedPacket s m args below meth c D G ρ (WA ρ s.heap.size) s.heap 5 0 0 (Qi D G ρ s args below (fun r C1 N1 => K r ∧ C1 = C ∧ N1 = N)) 99 [(0, .ref (ρ 46)), (1, .int x16), (2, .int x17), (3, .int x18), (4, .int x22)] [.int x27] C N := by
        intro x27 h
        rw [ej24] at h
        try dsimp only at h
        exact V_iret X hr hlk dX1_capturedPacket_99 ⟨h, rfl, rfl⟩
      refine jn_o h (fun j23 ej23 h => ?_)
      have kj23 : j23 → V p l e rmX1_capturedPacket s m args below meth c D G ρ (WA ρ s.heap.size) s.heap 5 0 0 (Qi D G ρ s args below (fun r C1 N1 => K r ∧ C1 = C ∧ N1 = N)) 94 [(0, .ref (ρ 46)), (1, .int x16), (2, .int x17), (3, .int x18), (4, .int x22)] [] C N := by
        intro  h
        rw [ej23] at h
        refine V_iload_n X (q := 1) rfl rfl dX1_capturedPacket_94 (n := 95) rfl ?_
        refine V_goto X dX1_capturedPacket_95 (tgt := 99) (by decide) ?_
        exact kj24 x16 h
      refine V_if_ne X dX1_capturedPacket_81 (tgt := 94) (n := 84) (by decide) rfl (fun c25 => ?_) (fun c25 => ?_)
      · have h := ite_f h c25
        refine V_loc [1, 2, 3, 4, 0] rfl ?_
        exact kj23  h
      · have h := ite_t h c25
        refine V_iload_n X (q := 3) rfl rfl dX1_capturedPacket_84 (n := 85) rfl ?_
        refine V_iload_n X (q := 4) rfl rfl dX1_capturedPacket_85 (n := 86) rfl ?_
        refine V_isub X dX1_capturedPacket_86 (n := 87) rfl ?_
        refine V_aload_n X (q := 1) rfl rfl dX1_capturedPacket_87 (n := 88) rfl ?_
        refine V_getX X (by decide) rfl rfl (k := 5) inX1_capturedPacket_X1 rfl (by decide) wX1_capturedPacket_28 dX1_capturedPacket_88 (n := 91) rfl ?_
        refine V_icmp_lt X dX1_capturedPacket_91 (tgt := 98) (n := 94) (by decide) rfl (fun c26 => ?_) (fun c26 => ?_)
        · have h := ite_t h c26
          refine V_iconst X (v := -1) (by decide) dX1_capturedPacket_98 (n := 99) rfl ?_
          refine V_loc [1, 2, 3, 4, 0] rfl ?_
          exact kj24 (-1 : Int32) h
        · have h := ite_f h c26
          refine V_loc [1, 2, 3, 4, 0] rfl ?_
          exact kj23  h
    refine V_if_ne X dX1_capturedPacket_69 (tgt := 76) (n := 72) (by decide) rfl (fun c21 => ?_) (fun c21 => ?_)
    · have h := ite_f h c21
      refine V_iconst X (v := 0) (by decide) dX1_capturedPacket_76 (n := 77) rfl ?_
      exact kj20 (0 : Int32) h
    · have h := ite_t h c21
      refine V_iconst X (v := 1) (by decide) dX1_capturedPacket_72 (n := 73) rfl ?_
      refine V_goto X dX1_capturedPacket_73 (tgt := 77) (by decide) ?_
      exact kj20 (1 : Int32) h
  refine V_loc [4, 3, 2, 1, 0] rfl ?_
  exact TX1_capturedPacket_L9 X hr hlk N C (E := j15) (K := K) kj15 200 (-1 : Int32) (0 : Int32) (0 : Int32) (0 : Int32) h
abbrev rmX1_runSlot : Room := { frames := 2, cells := 0, slots := 0, locals := 49 }
theorem wX1_runSlot_40 : Cond.fieldLink RX1 40 "FloodBus$Network" "count" "I" ∈ wsX1_runSlot := by decide +kernel
theorem wX1_runSlot_62 : Cond.fieldLink RX1 62 "FloodBus$Network" "alive" "[Z" ∈ wsX1_runSlot := by decide +kernel
theorem wX1_runSlot_15 : Cond.fieldLink RX1 15 "FloodBus$Flooding" "packet" "[I" ∈ wsX1_runSlot := by decide +kernel
theorem wX1_runSlot_66 : Cond.fieldLink RX1 66 "FloodBus$Network" "links" "LFloodBus$Links;" ∈ wsX1_runSlot := by decide +kernel
theorem inX1_runSlot_X3 : ∀ w ∈ wsX30, w ∈ wsX1_runSlot := by decide +kernel
theorem inX1_runSlot_X1 : ∀ w ∈ wsX10, w ∈ wsX1_runSlot := by decide +kernel
set_option maxRecDepth 100000 in
set_option maxHeartbeats 4000000 in
theorem TX1_runSlot_L2 {p : Program} {l : Launch} {e : Env} {s : State} {m : MethodId} {args : Array Value} {below : List Frame} {meth : Method} {c : Code} {D : va_G} {G : Gc} {ρ : Nat → Nat} (X : Cx p s m args c cX1_runSlot 5 RX1 wsX1_runSlot D G ρ (WA ρ s.heap.size) s.heap) (hr : meth.sig.returnType = none) (hlk : meth.locks = false) (N : Nm) (p2 : Int32)  {E : Int32 → Xm → Prop} {K : Xm → Prop} (hE : ∀ (v3 : Int32) (C : Xm), E v3 C → V p l e rmX1_runSlot s m args below meth c D G ρ (WA ρ s.heap.size) s.heap 5 0 0 (Qv D G ρ s args below (fun C1 N1 => K C1 ∧ N1 = N)) 68 [(0, .ref (ρ 46)), (1, .ref (ρ 22)), (2, .int p2), (3, .int v3)] [] C N) : ∀ (n : Nat) (v3 : Int32) (C : Xm), fX1_runSlot_L2 p2 E K n v3 C → V p l e rmX1_runSlot s m args below meth c D G ρ (WA ρ s.heap.size) s.heap 5 0 0 (Qv D G ρ s args below (fun C1 N1 => K C1 ∧ N1 = N)) 2 [(0, .ref (ρ 46)), (1, .ref (ρ 22)), (2, .int p2), (3, .int v3)] [] C N := by
  intro n
  induction n with
  | zero => intro v3 C h; exact h.elim
  | succ n ih =>
    intro v3 C h
    unfold fX1_runSlot_L2 at h
    refine V_iload_n X (q := 3) rfl rfl dX1_runSlot_2 (n := 3) rfl ?_
    refine V_aload_n X (q := 1) rfl rfl dX1_runSlot_3 (n := 4) rfl ?_
    refine V_getX X (by decide) rfl rfl (k := 1) inX1_runSlot_X3 rfl (by decide) wX1_runSlot_40 dX1_runSlot_4 (n := 7) rfl ?_
    refine V_icmp_ge X dX1_runSlot_7 (tgt := 68) (n := 10) (by decide) rfl (fun c1 => ?_) (fun c1 => ?_)
    · have h := ite_t h c1
      exact hE v3 C h
    · have h := ite_f h c1
      refine V_aload_n X (q := 1) rfl rfl dX1_runSlot_10 (n := 11) rfl ?_
      refine V_getR X (by decide) rfl rfl (k := 2) inX1_runSlot_X3 rfl (by decide) wX1_runSlot_62 dX1_runSlot_11 (n := 14) rfl ?_
      refine V_iload_n X (q := 3) rfl rfl dX1_runSlot_14 (n := 15) rfl ?_
      obtain ⟨g2, h⟩ := h
      refine V_zldX X (by decide) rfl g2 dX1_runSlot_15 (n := 16) rfl ?_
      refine jn_o h (fun j3 ej3 h => ?_)
      have kj3 : ∀ (C11 : Xm), j3 C11 → V p l e rmX1_runSlot s m args below meth c D G ρ (WA ρ s.heap.size) s.heap 5 0 0 (Qv D G ρ s args below (fun C1 N1 => K C1 ∧ N1 = N)) 62 [(0, .ref (ρ 46)), (1, .ref (ρ 22)), (2, .int p2), (3, .int v3)] [] C11 N := by
        intro C11 h
        rw [ej3] at h
        try dsimp only at h
        obtain ⟨x12, ex12⟩ : ∃ z : Int32, z = v3 + (1 : Int32) := ⟨_, rfl⟩
        have h := bd_at h ex12
        refine V_iinc X (q := 3) (d := 1) (L2 := [(3, .int x12), (0, .ref (ρ 46)), (1, .ref (ρ 22)), (2, .int p2)]) rfl (by decide) (by decide) ex12 rfl dX1_runSlot_62 (n := 65) rfl ?_
        refine V_goto X dX1_runSlot_65 (tgt := 2) (by decide) ?_
        refine V_loc [1, 2, 3, 0] rfl ?_
        exact ih x12 C11 h
      refine V_if_eq X dX1_runSlot_16 (tgt := 62) (n := 19) (by decide) rfl (fun c4 => ?_) (fun c4 => ?_)
      · have h := ite_t h c4
        exact kj3 C h
      · have h := ite_f h c4
        refine V_aload_n X (q := 0) rfl rfl dX1_runSlot_19 (n := 20) rfl ?_
        refine V_getR X (by decide) rfl rfl (k := 1) inX1_runSlot_X1 rfl (by decide) wX1_runSlot_15 dX1_runSlot_20 (n := 23) rfl ?_
        refine V_iload_n X (q := 3) rfl rfl dX1_runSlot_23 (n := 24) rfl ?_
        obtain ⟨g5, h⟩ := h
        refine V_ildX X (by decide) rfl g5 dX1_runSlot_24 (n := 25) rfl ?_
        refine V_iconst X (v := -1) (by decide) dX1_runSlot_25 (n := 26) rfl ?_
        refine V_icmp_ne X dX1_runSlot_26 (tgt := 62) (n := 29) (by decide) rfl (fun c6 => ?_) (fun c6 => ?_)
        · have h := ite_f h c6
          exact kj3 C h
        · have h := ite_t h c6
          refine V_aload_n X (q := 0) rfl rfl dX1_runSlot_29 (n := 30) rfl ?_
          refine V_aload_n X (q := 1) rfl rfl dX1_runSlot_30 (n := 31) rfl ?_
          refine V_getR X (by decide) rfl rfl (k := 0) inX1_runSlot_X3 rfl (by decide) wX1_runSlot_66 dX1_runSlot_31 (n := 34) rfl ?_
          refine V_iload_n X (q := 3) rfl rfl dX1_runSlot_34 (n := 35) rfl ?_
          refine V_iload_n X (q := 2) rfl rfl dX1_runSlot_35 (n := 36) rfl ?_
          refine V_callv X (As := [.ref (ρ 23), .int v3, .int p2]) (rest := []) (nA := 3) (i := 46) (q := (RX1, TX1, 6)) (TX1_measureLevels l D G ρ C N v3 p2 _ h) gX1_runSlot_X1_measureLevels rfl rfl rfl (by decide +kernel) rfl ⟨by decide, by decide⟩ (Nat.le_of_ble_eq_true rfl) ⟨by decide, by decide⟩ (by decide) rfl rfl rfl dX1_runSlot_36 (n := 39) rfl (fun C7 M0 h => ?_)
          obtain ⟨h, eo⟩ := h
          rw [eo]
          refine V_aload_n X (q := 0) rfl rfl dX1_runSlot_39 (n := 40) rfl ?_
          refine V_calli X (As := []) (rest := []) (nA := 0) (i := 46) (q := (RX1, TX1, 6)) (TX1_capturedPacket l D G ρ C7 N  _ h) gX1_runSlot_X1_capturedPacket rfl rfl rfl (by decide +kernel) rfl ⟨by decide, by decide⟩ (Nat.le_of_ble_eq_true rfl) ⟨by decide, by decide⟩ (by decide) rfl rfl rfl dX1_runSlot_40 (n := 43) rfl (fun r8 M1 M0 h => ?_)
          obtain ⟨h, eo, eo2⟩ := h
          rw [eo, eo2]
          refine V_istore X (L2 := [(4, .int r8), (0, .ref (ρ 46)), (1, .ref (ρ 22)), (2, .int p2), (3, .int v3)]) (by decide) rfl dX1_runSlot_43 (n := 45) rfl ?_
          refine V_iload X (q := 0) rfl dX1_runSlot_45 (n := 47) rfl ?_
          refine V_iconst X (v := -1) (by decide) dX1_runSlot_47 (n := 48) rfl ?_
          refine V_icmp_eq X dX1_runSlot_48 (tgt := 62) (n := 51) (by decide) rfl (fun c9 => ?_) (fun c9 => ?_)
          · have h := ite_t h c9
            refine V_loc [1, 2, 3, 4] rfl ?_
            exact kj3 C7 h
          · have h := ite_f h c9
            refine V_aload_n X (q := 1) rfl rfl dX1_runSlot_51 (n := 52) rfl ?_
            refine V_aload_n X (q := 2) rfl rfl dX1_runSlot_52 (n := 53) rfl ?_
            refine V_iload_n X (q := 4) rfl rfl dX1_runSlot_53 (n := 54) rfl ?_
            refine V_iload X (q := 0) rfl dX1_runSlot_54 (n := 56) rfl ?_
            refine V_iload_n X (q := 3) rfl rfl dX1_runSlot_56 (n := 57) rfl ?_
            refine V_iconst X (v := 1) (by decide) dX1_runSlot_57 (n := 58) rfl ?_
            refine V_iadd X dX1_runSlot_58 (n := 59) rfl ?_
            refine V_callv X (As := [.ref (ρ 22), .int v3, .int r8, .int (p2 + (1 : Int32))]) (rest := []) (nA := 4) (i := 46) (q := (RX1, TX1, 6)) (TX1_hold l D G ρ C7 N v3 r8 (p2 + (1 : Int32)) _ h) gX1_runSlot_X1_hold rfl rfl rfl (by decide +kernel) rfl ⟨by decide, by decide⟩ (Nat.le_of_ble_eq_true rfl) ⟨by decide, by decide⟩ (by decide) rfl rfl rfl dX1_runSlot_59 (n := 62) rfl (fun C10 M0 h => ?_)
            obtain ⟨h, eo⟩ := h
            rw [eo]
            refine V_loc [1, 2, 3, 4] rfl ?_
            exact kj3 C10 h
set_option maxRecDepth 100000 in
set_option maxHeartbeats 4000000 in
theorem TX1_runSlot (l : Launch) (D : va_G) (G : Gc) (ρ : Nat → Nat) (C : Xm) (N : Nm)  (a2 : Int32) (K : Xm → Prop) (h : fX1_runSlot C a2 K) : Kv l yX1_runSlot wsX1_runSlot rmX1_runSlot D G ρ [.ref (ρ 46), .ref (ρ 22), .int a2] C N (fun C1 N1 => K C1 ∧ N1 = N) := by
  refine Kv.ofV (cc := cX1_runSlot) (maxL := 5) (ret := none) (by decide +kernel) rfl (Nat.le_of_ble_eq_true rfl) ?_
  intro p e s m args below meth c X hr hlk
  show V p l e rmX1_runSlot s m args below meth c D G ρ (WA ρ s.heap.size) s.heap 5 0 0 (Qv D G ρ s args below (fun C1 N1 => K C1 ∧ N1 = N)) 0 [(0, .ref (ρ 46)), (1, .ref (ρ 22)), (2, .int a2)] [] C N
  unfold fX1_runSlot at h
  refine V_iconst X (v := 0) (by decide) dX1_runSlot_0 (n := 1) rfl ?_
  refine V_istore_n X (L2 := [(3, .int (0 : Int32)), (0, .ref (ρ 46)), (1, .ref (ρ 22)), (2, .int a2)]) rfl (by decide) rfl dX1_runSlot_1 (n := 2) rfl ?_
  refine jn_o h (fun j13 ej13 h => ?_)
  have kj13 : ∀ (x14 : Int32) (C15 : Xm), j13 x14 C15 → V p l e rmX1_runSlot s m args below meth c D G ρ (WA ρ s.heap.size) s.heap 5 0 0 (Qv D G ρ s args below (fun C1 N1 => K C1 ∧ N1 = N)) 68 [(0, .ref (ρ 46)), (1, .ref (ρ 22)), (2, .int a2), (3, .int x14)] [] C15 N := by
    intro x14 C15 h
    rw [ej13] at h
    try dsimp only at h
    exact V_vret X hr hlk dX1_runSlot_68 ⟨h, rfl⟩
  refine V_loc [1, 2, 3, 0] rfl ?_
  exact TX1_runSlot_L2 X hr hlk N a2 (E := j13) (K := K) kj13 200 (0 : Int32) C h
abbrev rmX1_run : Room := { frames := 3, cells := 0, slots := 0, locals := 73 }
theorem wX1_run_40 : Cond.fieldLink RX1 40 "FloodBus$Network" "count" "I" ∈ wsX1_run := by decide +kernel
theorem wX1_run_21 : Cond.fieldLink RX1 21 "FloodBus$Flooding" "length" "I" ∈ wsX1_run := by decide +kernel
theorem inX1_run_X3 : ∀ w ∈ wsX30, w ∈ wsX1_run := by decide +kernel
theorem inX1_run_X1 : ∀ w ∈ wsX10, w ∈ wsX1_run := by decide +kernel
set_option maxRecDepth 100000 in
set_option maxHeartbeats 4000000 in
theorem TX1_run_L6 {p : Program} {l : Launch} {e : Env} {s : State} {m : MethodId} {args : Array Value} {below : List Frame} {meth : Method} {c : Code} {D : va_G} {G : Gc} {ρ : Nat → Nat} (X : Cx p s m args c cX1_run 4 RX1 wsX1_run D G ρ (WA ρ s.heap.size) s.heap) (hr : meth.sig.returnType = none) (hlk : meth.locks = false) (N : Nm) (p2 : Int32)  {E : Int32 → Xm → Prop} {K : Xm → Prop} (hE : ∀ (v3 : Int32) (C : Xm), E v3 C → V p l e rmX1_run s m args below meth c D G ρ (WA ρ s.heap.size) s.heap 4 0 0 (Qv D G ρ s args below (fun C1 N1 => K C1 ∧ N1 = N)) 37 [(0, .ref (ρ 46)), (1, .ref (ρ 22)), (2, .int p2), (3, .int v3)] [] C N) : ∀ (n : Nat) (v3 : Int32) (C : Xm), fX1_run_L6 p2 E K n v3 C → V p l e rmX1_run s m args below meth c D G ρ (WA ρ s.heap.size) s.heap 4 0 0 (Qv D G ρ s args below (fun C1 N1 => K C1 ∧ N1 = N)) 6 [(0, .ref (ρ 46)), (1, .ref (ρ 22)), (2, .int p2), (3, .int v3)] [] C N := by
  intro n
  induction n with
  | zero => intro v3 C h; exact h.elim
  | succ n ih =>
    intro v3 C h
    unfold fX1_run_L6 at h
    refine V_iload_n X (q := 3) rfl rfl dX1_run_6 (n := 7) rfl ?_
    refine V_aload_n X (q := 1) rfl rfl dX1_run_7 (n := 8) rfl ?_
    refine V_getX X (by decide) rfl rfl (k := 1) inX1_run_X3 rfl (by decide) wX1_run_40 dX1_run_8 (n := 11) rfl ?_
    refine V_icmp_ge X dX1_run_11 (tgt := 37) (n := 14) (by decide) rfl (fun c2 => ?_) (fun c2 => ?_)
    · have h := ite_t h c2
      exact hE v3 C h
    · have h := ite_f h c2
      refine V_iload_n X (q := 2) rfl rfl dX1_run_14 (n := 15) rfl ?_
      refine V_iload_n X (q := 3) rfl rfl dX1_run_15 (n := 16) rfl ?_
      refine V_ishr X dX1_run_16 (n := 17) rfl ?_
      refine V_iconst X (v := 1) (by decide) dX1_run_17 (n := 18) rfl ?_
      refine V_iand X dX1_run_18 (n := 19) rfl ?_
      refine V_iconst X (v := 1) (by decide) dX1_run_19 (n := 20) rfl ?_
      refine jn_o h (fun j3 ej3 h => ?_)
      have kj3 : ∀ (C6 : Xm), j3 C6 → V p l e rmX1_run s m args below meth c D G ρ (WA ρ s.heap.size) s.heap 4 0 0 (Qv D G ρ s args below (fun C1 N1 => K C1 ∧ N1 = N)) 31 [(0, .ref (ρ 46)), (1, .ref (ρ 22)), (2, .int p2), (3, .int v3)] [] C6 N := by
        intro C6 h
        rw [ej3] at h
        try dsimp only at h
        obtain ⟨x7, ex7⟩ : ∃ z : Int32, z = v3 + (1 : Int32) := ⟨_, rfl⟩
        have h := bd_at h ex7
        refine V_iinc X (q := 3) (d := 1) (L2 := [(3, .int x7), (0, .ref (ρ 46)), (1, .ref (ρ 22)), (2, .int p2)]) rfl (by decide) (by decide) ex7 rfl dX1_run_31 (n := 34) rfl ?_
        refine V_goto X dX1_run_34 (tgt := 6) (by decide) ?_
        refine V_loc [1, 2, 3, 0] rfl ?_
        exact ih x7 C6 h
      refine V_icmp_ne X dX1_run_20 (tgt := 31) (n := 23) (by decide) rfl (fun c4 => ?_) (fun c4 => ?_)
      · have h := ite_f h c4
        exact kj3 C h
      · have h := ite_t h c4
        refine V_aload_n X (q := 0) rfl rfl dX1_run_23 (n := 24) rfl ?_
        refine V_aload_n X (q := 1) rfl rfl dX1_run_24 (n := 25) rfl ?_
        refine V_iload_n X (q := 3) rfl rfl dX1_run_25 (n := 26) rfl ?_
        refine V_iload_n X (q := 3) rfl rfl dX1_run_26 (n := 27) rfl ?_
        refine V_iconst X (v := 0) (by decide) dX1_run_27 (n := 28) rfl ?_
        refine V_callv X (As := [.ref (ρ 22), .int v3, .int v3, .int (0 : Int32)]) (rest := []) (nA := 4) (i := 46) (q := (RX1, TX1, 6)) (TX1_hold l D G ρ C N v3 v3 (0 : Int32) _ h) gX1_run_X1_hold rfl rfl rfl (by decide +kernel) rfl ⟨by decide, by decide⟩ (Nat.le_of_ble_eq_true rfl) ⟨by decide, by decide⟩ (by decide) rfl rfl rfl dX1_run_28 (n := 31) rfl (fun C5 M0 h => ?_)
        obtain ⟨h, eo⟩ := h
        rw [eo]
        exact kj3 C5 h
set_option maxRecDepth 100000 in
set_option maxHeartbeats 4000000 in
theorem TX1_run_L39 {p : Program} {l : Launch} {e : Env} {s : State} {m : MethodId} {args : Array Value} {below : List Frame} {meth : Method} {c : Code} {D : va_G} {G : Gc} {ρ : Nat → Nat} (X : Cx p s m args c cX1_run 4 RX1 wsX1_run D G ρ (WA ρ s.heap.size) s.heap) (hr : meth.sig.returnType = none) (hlk : meth.locks = false) (N : Nm) (p2 : Int32)  {E : Int32 → Xm → Prop} {K : Xm → Prop} (hE : ∀ (v3 : Int32) (C : Xm), E v3 C → V p l e rmX1_run s m args below meth c D G ρ (WA ρ s.heap.size) s.heap 4 0 0 (Qv D G ρ s args below (fun C1 N1 => K C1 ∧ N1 = N)) 65 [(0, .ref (ρ 46)), (1, .ref (ρ 22)), (2, .int p2), (3, .int v3)] [] C N) : ∀ (n : Nat) (v3 : Int32) (C : Xm), fX1_run_L39 p2 E K n v3 C → V p l e rmX1_run s m args below meth c D G ρ (WA ρ s.heap.size) s.heap 4 0 0 (Qv D G ρ s args below (fun C1 N1 => K C1 ∧ N1 = N)) 39 [(0, .ref (ρ 46)), (1, .ref (ρ 22)), (2, .int p2), (3, .int v3)] [] C N := by
  intro n
  induction n with
  | zero => intro v3 C h; exact h.elim
  | succ n ih =>
    intro v3 C h
    unfold fX1_run_L39 at h
    refine V_iload_n X (q := 3) rfl rfl dX1_run_39 (n := 40) rfl ?_
    refine V_bipush X (v := 64) (by decide) dX1_run_40 (n := 42) rfl ?_
    refine V_icmp_ge X dX1_run_42 (tgt := 65) (n := 45) (by decide) rfl (fun c11 => ?_) (fun c11 => ?_)
    · have h := ite_t h c11
      exact hE v3 C h
    · have h := ite_f h c11
      refine V_iload_n X (q := 3) rfl rfl dX1_run_45 (n := 46) rfl ?_
      refine V_aload_n X (q := 0) rfl rfl dX1_run_46 (n := 47) rfl ?_
      refine V_getX X (by decide) rfl rfl (k := 3) inX1_run_X1 rfl (by decide) wX1_run_21 dX1_run_47 (n := 50) rfl ?_
      refine V_icmp_ge X dX1_run_50 (tgt := 65) (n := 53) (by decide) rfl (fun c12 => ?_) (fun c12 => ?_)
      · have h := ite_t h c12
        exact hE v3 C h
      · have h := ite_f h c12
        refine V_aload_n X (q := 0) rfl rfl dX1_run_53 (n := 54) rfl ?_
        refine V_aload_n X (q := 1) rfl rfl dX1_run_54 (n := 55) rfl ?_
        refine V_iload_n X (q := 3) rfl rfl dX1_run_55 (n := 56) rfl ?_
        refine V_callv X (As := [.ref (ρ 22), .int v3]) (rest := []) (nA := 2) (i := 46) (q := (RX1, TX1, 6)) (TX1_runSlot l D G ρ C N v3 _ h) gX1_run_X1_runSlot rfl rfl rfl (by decide +kernel) rfl ⟨by decide, by decide⟩ (Nat.le_of_ble_eq_true rfl) ⟨by decide, by decide⟩ (by decide) rfl rfl rfl dX1_run_56 (n := 59) rfl (fun C13 M0 h => ?_)
        obtain ⟨h, eo⟩ := h
        rw [eo]
        obtain ⟨x14, ex14⟩ : ∃ z : Int32, z = v3 + (1 : Int32) := ⟨_, rfl⟩
        have h := bd_at h ex14
        refine V_iinc X (q := 3) (d := 1) (L2 := [(3, .int x14), (0, .ref (ρ 46)), (1, .ref (ρ 22)), (2, .int p2)]) rfl (by decide) (by decide) ex14 rfl dX1_run_59 (n := 62) rfl ?_
        refine V_goto X dX1_run_62 (tgt := 39) (by decide) ?_
        refine V_loc [1, 2, 3, 0] rfl ?_
        exact ih x14 C13 h
set_option maxRecDepth 100000 in
set_option maxHeartbeats 4000000 in
theorem TX1_run (l : Launch) (D : va_G) (G : Gc) (ρ : Nat → Nat) (C : Xm) (N : Nm)  (a2 : Int32) (K : Xm → Prop) (h : fX1_run C a2 K) : Kv l yX1_run wsX1_run rmX1_run D G ρ [.ref (ρ 46), .ref (ρ 22), .int a2] C N (fun C1 N1 => K C1 ∧ N1 = N) := by
  refine Kv.ofV (cc := cX1_run) (maxL := 4) (ret := none) (by decide +kernel) rfl (Nat.le_of_ble_eq_true rfl) ?_
  intro p e s m args below meth c X hr hlk
  show V p l e rmX1_run s m args below meth c D G ρ (WA ρ s.heap.size) s.heap 4 0 0 (Qv D G ρ s args below (fun C1 N1 => K C1 ∧ N1 = N)) 0 [(0, .ref (ρ 46)), (1, .ref (ρ 22)), (2, .int a2)] [] C N
  unfold fX1_run at h
  refine V_aload_n X (q := 0) rfl rfl dX1_run_0 (n := 1) rfl ?_
  refine V_callv X (As := []) (rest := []) (nA := 0) (i := 46) (q := (RX1, TX1, 6)) (TX1_forget l D G ρ C N  _ h) gX1_run_X1_forget rfl rfl rfl (by decide +kernel) rfl ⟨by decide, by decide⟩ (Nat.le_of_ble_eq_true rfl) ⟨by decide, by decide⟩ (by decide) rfl rfl rfl dX1_run_1 (n := 4) rfl (fun C1 M0 h => ?_)
  obtain ⟨h, eo⟩ := h
  rw [eo]
  refine V_iconst X (v := 0) (by decide) dX1_run_4 (n := 5) rfl ?_
  refine V_istore_n X (L2 := [(3, .int (0 : Int32)), (0, .ref (ρ 46)), (1, .ref (ρ 22)), (2, .int a2)]) rfl (by decide) rfl dX1_run_5 (n := 6) rfl ?_
  refine jn_o h (fun j8 ej8 h => ?_)
  have kj8 : ∀ (x9 : Int32) (C10 : Xm), j8 x9 C10 → V p l e rmX1_run s m args below meth c D G ρ (WA ρ s.heap.size) s.heap 4 0 0 (Qv D G ρ s args below (fun C1 N1 => K C1 ∧ N1 = N)) 37 [(0, .ref (ρ 46)), (1, .ref (ρ 22)), (2, .int a2), (3, .int x9)] [] C10 N := by
    intro x9 C10 h
    rw [ej8] at h
    try dsimp only at h
    refine V_iconst X (v := 0) (by decide) dX1_run_37 (n := 38) rfl ?_
    refine V_istore_n X (L2 := [(3, .int (0 : Int32)), (0, .ref (ρ 46)), (1, .ref (ρ 22)), (2, .int a2)]) rfl (by decide) rfl dX1_run_38 (n := 39) rfl ?_
    refine jn_o h (fun j15 ej15 h => ?_)
    have kj15 : ∀ (x16 : Int32) (C17 : Xm), j15 x16 C17 → V p l e rmX1_run s m args below meth c D G ρ (WA ρ s.heap.size) s.heap 4 0 0 (Qv D G ρ s args below (fun C1 N1 => K C1 ∧ N1 = N)) 65 [(0, .ref (ρ 46)), (1, .ref (ρ 22)), (2, .int a2), (3, .int x16)] [] C17 N := by
      intro x16 C17 h
      rw [ej15] at h
      try dsimp only at h
      exact V_vret X hr hlk dX1_run_65 ⟨h, rfl⟩
    refine V_loc [1, 2, 3, 0] rfl ?_
    exact TX1_run_L39 X hr hlk N a2 (E := j15) (K := K) kj15 200 (0 : Int32) C10 h
  refine V_loc [1, 2, 3, 0] rfl ?_
  exact TX1_run_L6 X hr hlk N a2 (E := j8) (K := K) kj8 200 (0 : Int32) C1 h
abbrev rmX1_countHolders : Room := { frames := 0, cells := 0, slots := 0, locals := 0 }
theorem wX1_countHolders_15 : Cond.fieldLink RX1 15 "FloodBus$Flooding" "packet" "[I" ∈ wsX1_countHolders := by decide +kernel
theorem inX1_countHolders_X1 : ∀ w ∈ wsX10, w ∈ wsX1_countHolders := by decide +kernel
set_option maxRecDepth 100000 in
set_option maxHeartbeats 4000000 in
theorem TX1_countHolders_L4 {p : Program} {l : Launch} {e : Env} {s : State} {m : MethodId} {args : Array Value} {below : List Frame} {meth : Method} {c : Code} {D : va_G} {G : Gc} {ρ : Nat → Nat} (X : Cx p s m args c cX1_countHolders 3 RX1 wsX1_countHolders D G ρ (WA ρ s.heap.size) s.heap) (hr : meth.sig.returnType = some .int) (hlk : meth.locks = false) (N : Nm) (C : Xm)  {E : Int32 → Int32 → Prop} {K : Int32 → Prop} (hE : ∀ (v1 : Int32) (v2 : Int32), E v1 v2 → V p l e rmX1_countHolders s m args below meth c D G ρ (WA ρ s.heap.size) s.heap 3 0 0 (Qi D G ρ s args below (fun r C1 N1 => K r ∧ C1 = C ∧ N1 = N)) 29 [(0, .ref (ρ 46)), (1, .int v1), (2, .int v2)] [] C N) : ∀ (n : Nat) (v1 : Int32) (v2 : Int32), fX1_countHolders_L4 C E K n v1 v2 → V p l e rmX1_countHolders s m args below meth c D G ρ (WA ρ s.heap.size) s.heap 3 0 0 (Qi D G ρ s args below (fun r C1 N1 => K r ∧ C1 = C ∧ N1 = N)) 4 [(0, .ref (ρ 46)), (1, .int v1), (2, .int v2)] [] C N := by
  intro n
  induction n with
  | zero => intro v1 v2 h; exact h.elim
  | succ n ih =>
    intro v1 v2 h
    unfold fX1_countHolders_L4 at h
    refine V_iload_n X (q := 2) rfl rfl dX1_countHolders_4 (n := 5) rfl ?_
    refine V_bipush X (v := 8) (by decide) dX1_countHolders_5 (n := 7) rfl ?_
    refine V_icmp_ge X dX1_countHolders_7 (tgt := 29) (n := 10) (by decide) rfl (fun c1 => ?_) (fun c1 => ?_)
    · have h := ite_t h c1
      exact hE v1 v2 h
    · have h := ite_f h c1
      refine V_aload_n X (q := 0) rfl rfl dX1_countHolders_10 (n := 11) rfl ?_
      refine V_getR X (by decide) rfl rfl (k := 1) inX1_countHolders_X1 rfl (by decide) wX1_countHolders_15 dX1_countHolders_11 (n := 14) rfl ?_
      refine V_iload_n X (q := 2) rfl rfl dX1_countHolders_14 (n := 15) rfl ?_
      obtain ⟨g2, h⟩ := h
      refine V_ildX X (by decide) rfl g2 dX1_countHolders_15 (n := 16) rfl ?_
      refine V_iconst X (v := -1) (by decide) dX1_countHolders_16 (n := 17) rfl ?_
      refine jn_o h (fun j3 ej3 h => ?_)
      have kj3 : ∀ (x6 : Int32), j3 x6 → V p l e rmX1_countHolders s m args below meth c D G ρ (WA ρ s.heap.size) s.heap 3 0 0 (Qi D G ρ s args below (fun r C1 N1 => K r ∧ C1 = C ∧ N1 = N)) 23 [(0, .ref (ρ 46)), (1, .int x6), (2, .int v2)] [] C N := by
        intro x6 h
        rw [ej3] at h
        try dsimp only at h
        obtain ⟨x7, ex7⟩ : ∃ z : Int32, z = v2 + (1 : Int32) := ⟨_, rfl⟩
        have h := bd_at h ex7
        refine V_iinc X (q := 2) (d := 1) (L2 := [(2, .int x7), (0, .ref (ρ 46)), (1, .int x6)]) rfl (by decide) (by decide) ex7 rfl dX1_countHolders_23 (n := 26) rfl ?_
        refine V_goto X dX1_countHolders_26 (tgt := 4) (by decide) ?_
        refine V_loc [1, 2, 0] rfl ?_
        exact ih x6 x7 h
      refine V_icmp_eq X dX1_countHolders_17 (tgt := 23) (n := 20) (by decide) rfl (fun c4 => ?_) (fun c4 => ?_)
      · have h := ite_t h c4
        exact kj3 v1 h
      · have h := ite_f h c4
        obtain ⟨x5, ex5⟩ : ∃ z : Int32, z = v1 + (1 : Int32) := ⟨_, rfl⟩
        have h := bd_at h ex5
        refine V_iinc X (q := 1) (d := 1) (L2 := [(1, .int x5), (0, .ref (ρ 46)), (2, .int v2)]) rfl (by decide) (by decide) ex5 rfl dX1_countHolders_20 (n := 23) rfl ?_
        refine V_loc [1, 0, 2] rfl ?_
        exact kj3 x5 h
set_option maxRecDepth 100000 in
set_option maxHeartbeats 4000000 in
theorem TX1_countHolders (l : Launch) (D : va_G) (G : Gc) (ρ : Nat → Nat) (C : Xm) (N : Nm)   (K : Int32 → Prop) (h : fX1_countHolders C K) : Ki l yX1_countHolders wsX1_countHolders rmX1_countHolders D G ρ [.ref (ρ 46)] C N (fun r C1 N1 => K r ∧ C1 = C ∧ N1 = N) := by
  refine Ki.ofV (cc := cX1_countHolders) (maxL := 3) (ret := (some .int)) (by decide +kernel) rfl (Nat.le_of_ble_eq_true rfl) ?_
  intro p e s m args below meth c X hr hlk
  show V p l e rmX1_countHolders s m args below meth c D G ρ (WA ρ s.heap.size) s.heap 3 0 0 (Qi D G ρ s args below (fun r C1 N1 => K r ∧ C1 = C ∧ N1 = N)) 0 [(0, .ref (ρ 46))] [] C N
  unfold fX1_countHolders at h
  refine V_iconst X (v := 0) (by decide) dX1_countHolders_0 (n := 1) rfl ?_
  refine V_istore_n X (L2 := [(1, .int (0 : Int32)), (0, .ref (ρ 46))]) rfl (by decide) rfl dX1_countHolders_1 (n := 2) rfl ?_
  refine V_iconst X (v := 0) (by decide) dX1_countHolders_2 (n := 3) rfl ?_
  refine V_istore_n X (L2 := [(2, .int (0 : Int32)), (1, .int (0 : Int32)), (0, .ref (ρ 46))]) rfl (by decide) rfl dX1_countHolders_3 (n := 4) rfl ?_
  refine jn_o h (fun j8 ej8 h => ?_)
  have kj8 : ∀ (x9 : Int32) (x10 : Int32), j8 x9 x10 → V p l e rmX1_countHolders s m args below meth c D G ρ (WA ρ s.heap.size) s.heap 3 0 0 (Qi D G ρ s args below (fun r C1 N1 => K r ∧ C1 = C ∧ N1 = N)) 29 [(0, .ref (ρ 46)), (1, .int x9), (2, .int x10)] [] C N := by
    intro x9 x10 h
    rw [ej8] at h
    try dsimp only at h
    refine V_iload_n X (q := 1) rfl rfl dX1_countHolders_29 (n := 30) rfl ?_
    exact V_iret X hr hlk dX1_countHolders_30 ⟨h, rfl, rfl⟩
  refine V_loc [2, 1, 0] rfl ?_
  exact TX1_countHolders_L4 X hr hlk N C (E := j8) (K := K) kj8 200 (0 : Int32) (0 : Int32) h
abbrev rmX7_flood : Room := { frames := 4, cells := 0, slots := 0, locals := 96 }
theorem wX7_flood_19 : Cond.fieldLink RX7 19 "FloodBus" "network" "LFloodBus$Network;" ∈ wsX7_flood := by decide +kernel
theorem wX7_flood_92 : Cond.fieldLink RX7 92 "FloodBus$Network" "count" "I" ∈ wsX7_flood := by decide +kernel
theorem wX7_flood_26 : Cond.fieldLink RX7 26 "FloodBus" "latestFlood" "LFloodBus$Flooding;" ∈ wsX7_flood := by decide +kernel
theorem inX7_flood_X7 : ∀ w ∈ wsX70, w ∈ wsX7_flood := by decide +kernel
theorem inX7_flood_X3 : ∀ w ∈ wsX30, w ∈ wsX7_flood := by decide +kernel
set_option maxRecDepth 100000 in
set_option maxHeartbeats 4000000 in
theorem TX7_flood (l : Launch) (D : va_G) (G : Gc) (ρ : Nat → Nat) (C : Xm) (N : Nm)  (a1 : Int32) (K : Int32 → Xm → Prop) (h : fX7_flood C a1 K) : Ki l yX7_flood wsX7_flood rmX7_flood D G ρ [.ref (ρ 0), .int a1] C N (fun r C1 N1 => K r C1 ∧ N1 = N) := by
  refine Ki.ofV (cc := cX7_flood) (maxL := 2) (ret := (some .int)) (by decide +kernel) rfl (Nat.le_of_ble_eq_true rfl) ?_
  intro p e s m args below meth c X hr hlk
  show V p l e rmX7_flood s m args below meth c D G ρ (WA ρ s.heap.size) s.heap 2 0 0 (Qi D G ρ s args below (fun r C1 N1 => K r C1 ∧ N1 = N)) 0 [(0, .ref (ρ 0)), (1, .int a1)] [] C N
  unfold fX7_flood at h
  refine V_iload_n X (q := 1) rfl rfl dX7_flood_0 (n := 1) rfl ?_
  refine jn_o h (fun j1 ej1 h => ?_)
  have kj1 : j1 → V p l e rmX7_flood s m args below meth c D G ρ (WA ρ s.heap.size) s.heap 2 0 0 (Qi D G ρ s args below (fun r C1 N1 => K r C1 ∧ N1 = N)) 16 [(0, .ref (ρ 0)), (1, .int a1)] [] C N := by
    intro  h
    rw [ej1] at h
    refine V_sipush X (v := -1002) (by decide) dX7_flood_16 (n := 19) rfl ?_
    exact V_iret X hr hlk dX7_flood_19 ⟨h, rfl⟩
  refine V_if_le X dX7_flood_1 (tgt := 16) (n := 4) (by decide) rfl (fun c2 => ?_) (fun c2 => ?_)
  · have h := ite_t h c2
    exact kj1  h
  · have h := ite_f h c2
    refine V_iload_n X (q := 1) rfl rfl dX7_flood_4 (n := 5) rfl ?_
    refine V_aload_n X (q := 0) rfl rfl dX7_flood_5 (n := 6) rfl ?_
    refine V_getR X (by decide) rfl rfl (k := 1) inX7_flood_X7 rfl (by decide) wX7_flood_19 dX7_flood_6 (n := 9) rfl ?_
    refine V_getX X (by decide) rfl rfl (k := 1) inX7_flood_X3 rfl (by decide) wX7_flood_92 dX7_flood_9 (n := 12) rfl ?_
    refine V_ishr X dX7_flood_12 (n := 13) rfl ?_
    refine V_if_eq X dX7_flood_13 (tgt := 20) (n := 16) (by decide) rfl (fun c3 => ?_) (fun c3 => ?_)
    · have h := ite_t h c3
      refine V_aload_n X (q := 0) rfl rfl dX7_flood_20 (n := 21) rfl ?_
      refine V_getR X (by decide) rfl rfl (k := 1) inX7_flood_X7 rfl (by decide) wX7_flood_19 dX7_flood_21 (n := 24) rfl ?_
      refine V_iload_n X (q := 1) rfl rfl dX7_flood_24 (n := 25) rfl ?_
      refine V_calli X (As := [.int a1]) (rest := []) (nA := 1) (i := 22) (q := (RX3, TX3, 6)) (TX3_areAlive l D G ρ C N a1 _ h) gX7_flood_X3_areAlive rfl rfl rfl (by decide +kernel) rfl ⟨by decide, by decide⟩ (Nat.le_of_ble_eq_true rfl) ⟨by decide, by decide⟩ (by decide) rfl rfl rfl dX7_flood_25 (n := 28) rfl (fun r4 M1 M0 h => ?_)
      obtain ⟨h, eo, eo2⟩ := h
      rw [eo, eo2]
      refine V_if_ne X dX7_flood_28 (tgt := 35) (n := 31) (by decide) rfl (fun c5 => ?_) (fun c5 => ?_)
      · have h := ite_f h c5
        refine V_aload_n X (q := 0) rfl rfl dX7_flood_35 (n := 36) rfl ?_
        refine V_getR X (by decide) rfl rfl (k := 2) inX7_flood_X7 rfl (by decide) wX7_flood_26 dX7_flood_36 (n := 39) rfl ?_
        refine V_aload_n X (q := 0) rfl rfl dX7_flood_39 (n := 40) rfl ?_
        refine V_getR X (by decide) rfl rfl (k := 1) inX7_flood_X7 rfl (by decide) wX7_flood_19 dX7_flood_40 (n := 43) rfl ?_
        refine V_iload_n X (q := 1) rfl rfl dX7_flood_43 (n := 44) rfl ?_
        refine V_callv X (As := [.ref (ρ 22), .int a1]) (rest := []) (nA := 2) (i := 46) (q := (RX1, TX1, 6)) (TX1_run l D G ρ C N a1 _ h) gX7_flood_X1_run rfl rfl rfl (by decide +kernel) rfl ⟨by decide, by decide⟩ (Nat.le_of_ble_eq_true rfl) ⟨by decide, by decide⟩ (by decide) rfl rfl rfl dX7_flood_44 (n := 47) rfl (fun C6 M0 h => ?_)
        obtain ⟨h, eo⟩ := h
        rw [eo]
        refine V_aload_n X (q := 0) rfl rfl dX7_flood_47 (n := 48) rfl ?_
        refine V_getR X (by decide) rfl rfl (k := 2) inX7_flood_X7 rfl (by decide) wX7_flood_26 dX7_flood_48 (n := 51) rfl ?_
        refine V_calli X (As := []) (rest := []) (nA := 0) (i := 46) (q := (RX1, TX1, 6)) (TX1_countHolders l D G ρ C6 N  _ h) gX7_flood_X1_countHolders rfl rfl rfl (by decide +kernel) rfl ⟨by decide, by decide⟩ (Nat.le_of_ble_eq_true rfl) ⟨by decide, by decide⟩ (by decide) rfl rfl rfl dX7_flood_51 (n := 54) rfl (fun r7 M1 M0 h => ?_)
        obtain ⟨h, eo, eo2⟩ := h
        rw [eo, eo2]
        exact V_iret X hr hlk dX7_flood_54 ⟨h, rfl⟩
      · have h := ite_t h c5
        refine V_sipush X (v := -1003) (by decide) dX7_flood_31 (n := 34) rfl ?_
        exact V_iret X hr hlk dX7_flood_34 ⟨h, rfl⟩
    · have h := ite_f h c3
      exact kj1  h
