abbrev rmX0_add : Room := { frames := 0, cells := 0, slots := 0, locals := 0 }
theorem wX0_add_15 : Cond.fieldLink RX0 15 "FloodBus$Description" "length" "I" ∈ wsX0_add := by decide +kernel
theorem wX0_add_9 : Cond.fieldLink RX0 9 "FloodBus$Description" "characters" "[I" ∈ wsX0_add := by decide +kernel
theorem inX0_add_X0 : ∀ w ∈ wsX00, w ∈ wsX0_add := by decide +kernel
set_option maxRecDepth 100000 in
set_option maxHeartbeats 4000000 in
theorem TX0_add (l : Launch) (D : va_G) (G : Gc) (ρ : Nat → Nat) (C : Xm) (N : Nm)  (a1 : Int32) (K : Int32 → Xm → Prop) (h : fX0_add C a1 K) : Ki l yX0_add wsX0_add rmX0_add D G ρ [.ref (ρ 1), .int a1] C N (fun r C1 N1 => K r C1 ∧ N1 = N) := by
  refine Ki.ofV (cc := cX0_add) (maxL := 2) (ret := (some .int)) (by decide +kernel) rfl (Nat.le_of_ble_eq_true rfl) ?_
  intro p e s m args below meth c X hr hlk
  show V p l e rmX0_add s m args below meth c D G ρ (WA ρ s.heap.size) s.heap 2 0 0 (Qi D G ρ s args below (fun r C1 N1 => K r C1 ∧ N1 = N)) 0 [(0, .ref (ρ 1)), (1, .int a1)] [] C N
  unfold fX0_add at h
  refine V_aload_n X (q := 0) rfl rfl dX0_add_0 (n := 1) rfl ?_
  refine V_getX X (by decide) rfl rfl (k := 1) inX0_add_X0 rfl (by decide) wX0_add_15 dX0_add_1 (n := 4) rfl ?_
  refine V_bipush X (v := 61) (by decide) dX0_add_4 (n := 6) rfl ?_
  refine V_icmp_lt X dX0_add_6 (tgt := 13) (n := 9) (by decide) rfl (fun c1 => ?_) (fun c1 => ?_)
  · have h := ite_t h c1
    refine V_aload_n X (q := 0) rfl rfl dX0_add_13 (n := 14) rfl ?_
    refine V_getR X (by decide) rfl rfl (k := 0) inX0_add_X0 rfl (by decide) wX0_add_9 dX0_add_14 (n := 17) rfl ?_
    refine V_aload_n X (q := 0) rfl rfl dX0_add_17 (n := 18) rfl ?_
    refine V_getX X (by decide) rfl rfl (k := 1) inX0_add_X0 rfl (by decide) wX0_add_15 dX0_add_18 (n := 21) rfl ?_
    refine V_iload_n X (q := 1) rfl rfl dX0_add_21 (n := 22) rfl ?_
    obtain ⟨g2, h⟩ := h
    refine V_istX X (by decide) rfl g2 dX0_add_22 (n := 23) rfl (fun C3 eC3 => ?_)
    have h := bd_at h eC3
    refine V_aload_n X (q := 0) rfl rfl dX0_add_23 (n := 24) rfl ?_
    refine V_dup X rfl dX0_add_24 (n := 25) rfl ?_
    refine V_getX X (by decide) rfl rfl (k := 1) inX0_add_X0 rfl (by decide) wX0_add_15 dX0_add_25 (n := 28) rfl ?_
    refine V_iconst X (v := 1) (by decide) dX0_add_28 (n := 29) rfl ?_
    refine V_iadd X dX0_add_29 (n := 30) rfl ?_
    refine V_putX X (by decide) rfl rfl (k := 1) inX0_add_X0 rfl (by decide) wX0_add_15 tyX0 tyX0_ok nmX0 rfl (by decide +kernel) dX0_add_30 (n := 33) rfl (fun C4 eC4 => ?_)
    have h := bd_at h eC4
    refine V_aload_n X (q := 0) rfl rfl dX0_add_33 (n := 34) rfl ?_
    refine V_getX X (by decide) rfl rfl (k := 1) inX0_add_X0 rfl (by decide) wX0_add_15 dX0_add_34 (n := 37) rfl ?_
    exact V_iret X hr hlk dX0_add_37 ⟨h, rfl⟩
  · have h := ite_f h c1
    refine V_sipush X (v := -1004) (by decide) dX0_add_9 (n := 12) rfl ?_
    exact V_iret X hr hlk dX0_add_12 ⟨h, rfl⟩
abbrev rmX7_append : Room := { frames := 1, cells := 0, slots := 0, locals := 21 }
theorem wX7_append_10 : Cond.fieldLink RX7 10 "FloodBus" "description" "LFloodBus$Description;" ∈ wsX7_append := by decide +kernel
theorem inX7_append_X7 : ∀ w ∈ wsX70, w ∈ wsX7_append := by decide +kernel
set_option maxRecDepth 100000 in
set_option maxHeartbeats 4000000 in
theorem TX7_append (l : Launch) (D : va_G) (G : Gc) (ρ : Nat → Nat) (C : Xm) (N : Nm)  (a1 : Int32) (K : Int32 → Xm → Prop) (h : fX7_append C a1 K) : Ki l yX7_append wsX7_append rmX7_append D G ρ [.ref (ρ 0), .int a1] C N (fun r C1 N1 => K r C1 ∧ N1 = N) := by
  refine Ki.ofV (cc := cX7_append) (maxL := 2) (ret := (some .int)) (by decide +kernel) rfl (Nat.le_of_ble_eq_true rfl) ?_
  intro p e s m args below meth c X hr hlk
  show V p l e rmX7_append s m args below meth c D G ρ (WA ρ s.heap.size) s.heap 2 0 0 (Qi D G ρ s args below (fun r C1 N1 => K r C1 ∧ N1 = N)) 0 [(0, .ref (ρ 0)), (1, .int a1)] [] C N
  unfold fX7_append at h
  refine V_iload_n X (q := 1) rfl rfl dX7_append_0 (n := 1) rfl ?_
  refine V_bipush X (v := 32) (by decide) dX7_append_1 (n := 3) rfl ?_
  refine jn_o h (fun j1 ej1 h => ?_)
  have kj1 : j1 → V p l e rmX7_append s m args below meth c D G ρ (WA ρ s.heap.size) s.heap 2 0 0 (Qi D G ρ s args below (fun r C1 N1 => K r C1 ∧ N1 = N)) 12 [(0, .ref (ρ 0)), (1, .int a1)] [] C N := by
    intro  h
    rw [ej1] at h
    refine V_sipush X (v := -1002) (by decide) dX7_append_12 (n := 15) rfl ?_
    exact V_iret X hr hlk dX7_append_15 ⟨h, rfl⟩
  refine V_icmp_lt X dX7_append_3 (tgt := 12) (n := 6) (by decide) rfl (fun c2 => ?_) (fun c2 => ?_)
  · have h := ite_t h c2
    exact kj1  h
  · have h := ite_f h c2
    refine V_iload_n X (q := 1) rfl rfl dX7_append_6 (n := 7) rfl ?_
    refine V_bipush X (v := 126) (by decide) dX7_append_7 (n := 9) rfl ?_
    refine V_icmp_le X dX7_append_9 (tgt := 16) (n := 12) (by decide) rfl (fun c3 => ?_) (fun c3 => ?_)
    · have h := ite_t h c3
      refine V_aload_n X (q := 0) rfl rfl dX7_append_16 (n := 17) rfl ?_
      refine V_getR X (by decide) rfl rfl (k := 0) inX7_append_X7 rfl (by decide) wX7_append_10 dX7_append_17 (n := 20) rfl ?_
      refine V_iload_n X (q := 1) rfl rfl dX7_append_20 (n := 21) rfl ?_
      refine V_calli X (As := [.int a1]) (rest := []) (nA := 1) (i := 1) (q := (RX0, TX0, 8)) (TX0_add l D G ρ C N a1 _ h) gX7_append_X0_add rfl rfl rfl (by decide +kernel) rfl ⟨by decide, by decide⟩ (Nat.le_of_ble_eq_true rfl) ⟨by decide, by decide⟩ (by decide) rfl rfl rfl dX7_append_21 (n := 24) rfl (fun r4 C5 M0 h => ?_)
      obtain ⟨h, eo⟩ := h
      rw [eo]
      exact V_iret X hr hlk dX7_append_24 ⟨h, rfl⟩
    · have h := ite_f h c3
      exact kj1  h
abbrev rmX7_clearBuffer : Room := { frames := 0, cells := 0, slots := 0, locals := 0 }
theorem wX7_clearBuffer_10 : Cond.fieldLink RX7 10 "FloodBus" "description" "LFloodBus$Description;" ∈ wsX7_clearBuffer := by decide +kernel
theorem wX7_clearBuffer_61 : Cond.fieldLink RX7 61 "FloodBus$Description" "length" "I" ∈ wsX7_clearBuffer := by decide +kernel
theorem inX7_clearBuffer_X7 : ∀ w ∈ wsX70, w ∈ wsX7_clearBuffer := by decide +kernel
theorem inX7_clearBuffer_X0 : ∀ w ∈ wsX00, w ∈ wsX7_clearBuffer := by decide +kernel
set_option maxRecDepth 100000 in
set_option maxHeartbeats 4000000 in
theorem TX7_clearBuffer (l : Launch) (D : va_G) (G : Gc) (ρ : Nat → Nat) (C : Xm) (N : Nm)   (K : Int32 → Xm → Prop) (h : fX7_clearBuffer C K) : Ki l yX7_clearBuffer wsX7_clearBuffer rmX7_clearBuffer D G ρ [.ref (ρ 0)] C N (fun r C1 N1 => K r C1 ∧ N1 = N) := by
  refine Ki.ofV (cc := cX7_clearBuffer) (maxL := 2) (ret := (some .int)) (by decide +kernel) rfl (Nat.le_of_ble_eq_true rfl) ?_
  intro p e s m args below meth c X hr hlk
  show V p l e rmX7_clearBuffer s m args below meth c D G ρ (WA ρ s.heap.size) s.heap 2 0 0 (Qi D G ρ s args below (fun r C1 N1 => K r C1 ∧ N1 = N)) 0 [(0, .ref (ρ 0))] [] C N
  unfold fX7_clearBuffer at h
  refine V_aload_n X (q := 0) rfl rfl dX7_clearBuffer_0 (n := 1) rfl ?_
  refine V_getR X (by decide) rfl rfl (k := 0) inX7_clearBuffer_X7 rfl (by decide) wX7_clearBuffer_10 dX7_clearBuffer_1 (n := 4) rfl ?_
  refine V_getX X (by decide) rfl rfl (k := 1) inX7_clearBuffer_X0 rfl (by decide) wX7_clearBuffer_61 dX7_clearBuffer_4 (n := 7) rfl ?_
  refine V_topi (fun x1 ex1 => ?_)
  have h := bd_at h ex1
  refine V_istore_n X (L2 := [(1, .int x1), (0, .ref (ρ 0))]) rfl (by decide) rfl dX7_clearBuffer_7 (n := 8) rfl ?_
  refine V_aload_n X (q := 1) rfl rfl dX7_clearBuffer_8 (n := 9) rfl ?_
  refine V_getR X (by decide) rfl rfl (k := 0) inX7_clearBuffer_X7 rfl (by decide) wX7_clearBuffer_10 dX7_clearBuffer_9 (n := 12) rfl ?_
  refine V_iconst X (v := 0) (by decide) dX7_clearBuffer_12 (n := 13) rfl ?_
  refine V_putX X (by decide) rfl rfl (k := 1) inX7_clearBuffer_X0 rfl (by decide) wX7_clearBuffer_61 tyX0 tyX0_ok nmX0 rfl (by decide +kernel) dX7_clearBuffer_13 (n := 16) rfl (fun C2 eC2 => ?_)
  have h := bd_at h eC2
  refine V_iload_n X (q := 0) rfl rfl dX7_clearBuffer_16 (n := 17) rfl ?_
  exact V_iret X hr hlk dX7_clearBuffer_17 ⟨h, rfl⟩
abbrev rmX2_clear : Room := { frames := 1, cells := 0, slots := 0, locals := 23 }
theorem wX2_clear_11 : Cond.fieldLink RX2 11 "FloodBus$Links" "strength" "[[I" ∈ wsX2_clear := by decide +kernel
theorem wX2_clear_16 : Cond.fieldLink RX2 16 "FloodBus$Links" "lossPeriod" "[[I" ∈ wsX2_clear := by decide +kernel
theorem inX2_clear_X2 : ∀ w ∈ wsX20, w ∈ wsX2_clear := by decide +kernel
set_option maxRecDepth 100000 in
set_option maxHeartbeats 4000000 in
theorem TX2_clear_L2 {p : Program} {l : Launch} {e : Env} {s : State} {m : MethodId} {args : Array Value} {below : List Frame} {meth : Method} {c : Code} {D : va_G} {G : Gc} {ρ : Nat → Nat} (X : Cx p s m args c cX2_clear 2 RX2 wsX2_clear D G ρ (WA ρ s.heap.size) s.heap) (hr : meth.sig.returnType = none) (hlk : meth.locks = false) (N : Nm)   {E : Int32 → Xm → Prop} {K : Xm → Prop} (hE : ∀ (v1 : Int32) (C : Xm), E v1 C → V p l e rmX2_clear s m args below meth c D G ρ (WA ρ s.heap.size) s.heap 2 0 0 (Qv D G ρ s args below (fun C1 N1 => K C1 ∧ N1 = N)) 34 [(0, .ref (ρ 3)), (1, .int v1)] [] C N) : ∀ (n : Nat) (v1 : Int32) (C : Xm), fX2_clear_L2  E K n v1 C → V p l e rmX2_clear s m args below meth c D G ρ (WA ρ s.heap.size) s.heap 2 0 0 (Qv D G ρ s args below (fun C1 N1 => K C1 ∧ N1 = N)) 2 [(0, .ref (ρ 3)), (1, .int v1)] [] C N := by
  intro n
  induction n with
  | zero => intro v1 C h; exact h.elim
  | succ n ih =>
    intro v1 C h
    unfold fX2_clear_L2 at h
    refine V_iload_n X (q := 1) rfl rfl dX2_clear_2 (n := 3) rfl ?_
    refine V_bipush X (v := 8) (by decide) dX2_clear_3 (n := 5) rfl ?_
    refine V_icmp_ge X dX2_clear_5 (tgt := 34) (n := 8) (by decide) rfl (fun c1 => ?_) (fun c1 => ?_)
    · have h := ite_t h c1
      exact hE v1 C h
    · have h := ite_f h c1
      refine V_aload_n X (q := 0) rfl rfl dX2_clear_8 (n := 9) rfl ?_
      refine V_getR X (by decide) rfl rfl (k := 0) inX2_clear_X2 rfl (by decide) wX2_clear_11 dX2_clear_9 (n := 12) rfl ?_
      refine V_iload_n X (q := 1) rfl rfl dX2_clear_12 (n := 13) rfl ?_
      obtain ⟨g2, h⟩ := h
      refine V_aaR X (by decide) rfl g2 dX2_clear_13 (n := 14) rfl ?_
      refine V_iconst X (v := 0) (by decide) dX2_clear_14 (n := 15) rfl ?_
      refine V_callsv X (As := [.ref (ρ (5 + Int32.toNatClampNeg v1)), .int (0 : Int32)]) (rest := []) (nA := 2) (T_fill l D G ρ C N (row_lt g2 (by decide)) (row_sh5 g2) (n0 := 8) (by decide) (0 : Int32)) gX2_clear_J7_fill_53178 rfl rfl rfl (by decide +kernel) rfl ⟨by decide, by decide⟩ (Nat.le_of_ble_eq_true rfl) ⟨by decide, by decide⟩ rfl dX2_clear_15 (n := 18) rfl (fun C3 N0 hp => ?_)
      obtain ⟨eC3, eo⟩ := hp
      rw [eo]
      have h := bd_at h eC3
      refine V_aload_n X (q := 0) rfl rfl dX2_clear_18 (n := 19) rfl ?_
      refine V_getR X (by decide) rfl rfl (k := 1) inX2_clear_X2 rfl (by decide) wX2_clear_16 dX2_clear_19 (n := 22) rfl ?_
      refine V_iload_n X (q := 1) rfl rfl dX2_clear_22 (n := 23) rfl ?_
      obtain ⟨g4, h⟩ := h
      refine V_aaR X (by decide) rfl g4 dX2_clear_23 (n := 24) rfl ?_
      refine V_iconst X (v := 0) (by decide) dX2_clear_24 (n := 25) rfl ?_
      refine V_callsv X (As := [.ref (ρ (14 + Int32.toNatClampNeg v1)), .int (0 : Int32)]) (rest := []) (nA := 2) (T_fill l D G ρ C3 N (row_lt g4 (by decide)) (row_sh14 g4) (n0 := 8) (by decide) (0 : Int32)) gX2_clear_J7_fill_53178 rfl rfl rfl (by decide +kernel) rfl ⟨by decide, by decide⟩ (Nat.le_of_ble_eq_true rfl) ⟨by decide, by decide⟩ rfl dX2_clear_25 (n := 28) rfl (fun C5 N0 hp => ?_)
      obtain ⟨eC5, eo⟩ := hp
      rw [eo]
      have h := bd_at h eC5
      obtain ⟨x6, ex6⟩ : ∃ z : Int32, z = v1 + (1 : Int32) := ⟨_, rfl⟩
      have h := bd_at h ex6
      refine V_iinc X (q := 1) (d := 1) (L2 := [(1, .int x6), (0, .ref (ρ 3))]) rfl (by decide) (by decide) ex6 rfl dX2_clear_28 (n := 31) rfl ?_
      refine V_goto X dX2_clear_31 (tgt := 2) (by decide) ?_
      refine V_loc [1, 0] rfl ?_
      exact ih x6 C5 h
set_option maxRecDepth 100000 in
set_option maxHeartbeats 4000000 in
theorem TX2_clear (l : Launch) (D : va_G) (G : Gc) (ρ : Nat → Nat) (C : Xm) (N : Nm)   (K : Xm → Prop) (h : fX2_clear C K) : Kv l yX2_clear wsX2_clear rmX2_clear D G ρ [.ref (ρ 3)] C N (fun C1 N1 => K C1 ∧ N1 = N) := by
  refine Kv.ofV (cc := cX2_clear) (maxL := 2) (ret := none) (by decide +kernel) rfl (Nat.le_of_ble_eq_true rfl) ?_
  intro p e s m args below meth c X hr hlk
  show V p l e rmX2_clear s m args below meth c D G ρ (WA ρ s.heap.size) s.heap 2 0 0 (Qv D G ρ s args below (fun C1 N1 => K C1 ∧ N1 = N)) 0 [(0, .ref (ρ 3))] [] C N
  unfold fX2_clear at h
  refine V_iconst X (v := 0) (by decide) dX2_clear_0 (n := 1) rfl ?_
  refine V_istore_n X (L2 := [(1, .int (0 : Int32)), (0, .ref (ρ 3))]) rfl (by decide) rfl dX2_clear_1 (n := 2) rfl ?_
  refine jn_o h (fun j7 ej7 h => ?_)
  have kj7 : ∀ (x8 : Int32) (C9 : Xm), j7 x8 C9 → V p l e rmX2_clear s m args below meth c D G ρ (WA ρ s.heap.size) s.heap 2 0 0 (Qv D G ρ s args below (fun C1 N1 => K C1 ∧ N1 = N)) 34 [(0, .ref (ρ 3)), (1, .int x8)] [] C9 N := by
    intro x8 C9 h
    rw [ej7] at h
    try dsimp only at h
    exact V_vret X hr hlk dX2_clear_34 ⟨h, rfl⟩
  refine V_loc [1, 0] rfl ?_
  exact TX2_clear_L2 X hr hlk N  (E := j7) (K := K) kj7 200 (0 : Int32) C h
abbrev rmX0_acceptsNodeCount : Room := { frames := 0, cells := 0, slots := 0, locals := 0 }
theorem wX0_acceptsNodeCount_26 : Cond.fieldLink RX0 26 "FloodBus$Description" "nodeCount" "I" ∈ wsX0_acceptsNodeCount := by decide +kernel
theorem wX0_acceptsNodeCount_32 : Cond.fieldLink RX0 32 "FloodBus$Description" "expected" "I" ∈ wsX0_acceptsNodeCount := by decide +kernel
theorem inX0_acceptsNodeCount_X0 : ∀ w ∈ wsX00, w ∈ wsX0_acceptsNodeCount := by decide +kernel
set_option maxRecDepth 100000 in
set_option maxHeartbeats 4000000 in
theorem TX0_acceptsNodeCount (l : Launch) (D : va_G) (G : Gc) (ρ : Nat → Nat) (C : Xm) (N : Nm)  (a1 : Int32) (K : Int32 → Xm → Prop) (h : fX0_acceptsNodeCount C a1 K) : Ki l yX0_acceptsNodeCount wsX0_acceptsNodeCount rmX0_acceptsNodeCount D G ρ [.ref (ρ 1), .int a1] C N (fun r C1 N1 => K r C1 ∧ N1 = N) := by
  refine Ki.ofV (cc := cX0_acceptsNodeCount) (maxL := 2) (ret := (some .boolean)) (by decide +kernel) rfl (Nat.le_of_ble_eq_true rfl) ?_
  intro p e s m args below meth c X hr hlk
  show V p l e rmX0_acceptsNodeCount s m args below meth c D G ρ (WA ρ s.heap.size) s.heap 2 0 0 (Qi D G ρ s args below (fun r C1 N1 => K r C1 ∧ N1 = N)) 0 [(0, .ref (ρ 1)), (1, .int a1)] [] C N
  unfold fX0_acceptsNodeCount at h
  refine V_iload_n X (q := 1) rfl rfl dX0_acceptsNodeCount_0 (n := 1) rfl ?_
  refine V_iconst X (v := 2) (by decide) dX0_acceptsNodeCount_1 (n := 2) rfl ?_
  refine jn_o h (fun j1 ej1 h => ?_)
  have kj1 : j1 → V p l e rmX0_acceptsNodeCount s m args below meth c D G ρ (WA ρ s.heap.size) s.heap 2 0 0 (Qi D G ρ s args below (fun r C1 N1 => K r C1 ∧ N1 = N)) 11 [(0, .ref (ρ 1)), (1, .int a1)] [] C N := by
    intro  h
    rw [ej1] at h
    refine V_iconst X (v := 0) (by decide) dX0_acceptsNodeCount_11 (n := 12) rfl ?_
    exact V_zret X hr hlk (by decide) dX0_acceptsNodeCount_12 ⟨h, rfl⟩
  refine V_icmp_lt X dX0_acceptsNodeCount_2 (tgt := 11) (n := 5) (by decide) rfl (fun c2 => ?_) (fun c2 => ?_)
  · have h := ite_t h c2
    exact kj1  h
  · have h := ite_f h c2
    refine V_iload_n X (q := 1) rfl rfl dX0_acceptsNodeCount_5 (n := 6) rfl ?_
    refine V_bipush X (v := 8) (by decide) dX0_acceptsNodeCount_6 (n := 8) rfl ?_
    refine V_icmp_le X dX0_acceptsNodeCount_8 (tgt := 13) (n := 11) (by decide) rfl (fun c3 => ?_) (fun c3 => ?_)
    · have h := ite_t h c3
      refine V_aload_n X (q := 0) rfl rfl dX0_acceptsNodeCount_13 (n := 14) rfl ?_
      refine V_iload_n X (q := 1) rfl rfl dX0_acceptsNodeCount_14 (n := 15) rfl ?_
      refine V_putX X (by decide) rfl rfl (k := 3) inX0_acceptsNodeCount_X0 rfl (by decide) wX0_acceptsNodeCount_26 tyX0 tyX0_ok nmX0 rfl (by decide +kernel) dX0_acceptsNodeCount_15 (n := 18) rfl (fun C4 eC4 => ?_)
      have h := bd_at h eC4
      refine V_aload_n X (q := 0) rfl rfl dX0_acceptsNodeCount_18 (n := 19) rfl ?_
      refine V_iconst X (v := 1) (by decide) dX0_acceptsNodeCount_19 (n := 20) rfl ?_
      refine V_putX X (by decide) rfl rfl (k := 5) inX0_acceptsNodeCount_X0 rfl (by decide) wX0_acceptsNodeCount_32 tyX0 tyX0_ok nmX0 rfl (by decide +kernel) dX0_acceptsNodeCount_20 (n := 23) rfl (fun C5 eC5 => ?_)
      have h := bd_at h eC5
      refine V_iconst X (v := 1) (by decide) dX0_acceptsNodeCount_23 (n := 24) rfl ?_
      exact V_zret X hr hlk (by decide) dX0_acceptsNodeCount_24 ⟨h, rfl⟩
    · have h := ite_f h c3
      exact kj1  h
abbrev rmX0_acceptsLinkMark : Room := { frames := 0, cells := 0, slots := 0, locals := 0 }
theorem wX0_acceptsLinkMark_29 : Cond.fieldLink RX0 29 "FloodBus$Description" "linkCount" "I" ∈ wsX0_acceptsLinkMark := by decide +kernel
theorem wX0_acceptsLinkMark_32 : Cond.fieldLink RX0 32 "FloodBus$Description" "expected" "I" ∈ wsX0_acceptsLinkMark := by decide +kernel
theorem inX0_acceptsLinkMark_X0 : ∀ w ∈ wsX00, w ∈ wsX0_acceptsLinkMark := by decide +kernel
set_option maxRecDepth 100000 in
set_option maxHeartbeats 4000000 in
theorem TX0_acceptsLinkMark (l : Launch) (D : va_G) (G : Gc) (ρ : Nat → Nat) (C : Xm) (N : Nm)  (a1 : Int32) (K : Int32 → Xm → Prop) (h : fX0_acceptsLinkMark C a1 K) : Ki l yX0_acceptsLinkMark wsX0_acceptsLinkMark rmX0_acceptsLinkMark D G ρ [.ref (ρ 1), .int a1] C N (fun r C1 N1 => K r C1 ∧ N1 = N) := by
  refine Ki.ofV (cc := cX0_acceptsLinkMark) (maxL := 2) (ret := (some .boolean)) (by decide +kernel) rfl (Nat.le_of_ble_eq_true rfl) ?_
  intro p e s m args below meth c X hr hlk
  show V p l e rmX0_acceptsLinkMark s m args below meth c D G ρ (WA ρ s.heap.size) s.heap 2 0 0 (Qi D G ρ s args below (fun r C1 N1 => K r C1 ∧ N1 = N)) 0 [(0, .ref (ρ 1)), (1, .int a1)] [] C N
  unfold fX0_acceptsLinkMark at h
  refine V_iload_n X (q := 1) rfl rfl dX0_acceptsLinkMark_0 (n := 1) rfl ?_
  refine V_bipush X (v := 59) (by decide) dX0_acceptsLinkMark_1 (n := 3) rfl ?_
  refine jn_o h (fun j1 ej1 h => ?_)
  have kj1 : j1 → V p l e rmX0_acceptsLinkMark s m args below meth c D G ρ (WA ρ s.heap.size) s.heap 2 0 0 (Qi D G ρ s args below (fun r C1 N1 => K r C1 ∧ N1 = N)) 15 [(0, .ref (ρ 1)), (1, .int a1)] [] C N := by
    intro  h
    rw [ej1] at h
    refine V_iconst X (v := 0) (by decide) dX0_acceptsLinkMark_15 (n := 16) rfl ?_
    exact V_zret X hr hlk (by decide) dX0_acceptsLinkMark_16 ⟨h, rfl⟩
  refine V_icmp_ne X dX0_acceptsLinkMark_3 (tgt := 15) (n := 6) (by decide) rfl (fun c2 => ?_) (fun c2 => ?_)
  · have h := ite_f h c2
    exact kj1  h
  · have h := ite_t h c2
    refine V_aload_n X (q := 0) rfl rfl dX0_acceptsLinkMark_6 (n := 7) rfl ?_
    refine V_getX X (by decide) rfl rfl (k := 4) inX0_acceptsLinkMark_X0 rfl (by decide) wX0_acceptsLinkMark_29 dX0_acceptsLinkMark_7 (n := 10) rfl ?_
    refine V_bipush X (v := 12) (by decide) dX0_acceptsLinkMark_10 (n := 12) rfl ?_
    refine V_icmp_lt X dX0_acceptsLinkMark_12 (tgt := 17) (n := 15) (by decide) rfl (fun c3 => ?_) (fun c3 => ?_)
    · have h := ite_t h c3
      refine V_aload_n X (q := 0) rfl rfl dX0_acceptsLinkMark_17 (n := 18) rfl ?_
      refine V_dup X rfl dX0_acceptsLinkMark_18 (n := 19) rfl ?_
      refine V_getX X (by decide) rfl rfl (k := 4) inX0_acceptsLinkMark_X0 rfl (by decide) wX0_acceptsLinkMark_29 dX0_acceptsLinkMark_19 (n := 22) rfl ?_
      refine V_iconst X (v := 1) (by decide) dX0_acceptsLinkMark_22 (n := 23) rfl ?_
      refine V_iadd X dX0_acceptsLinkMark_23 (n := 24) rfl ?_
      refine V_putX X (by decide) rfl rfl (k := 4) inX0_acceptsLinkMark_X0 rfl (by decide) wX0_acceptsLinkMark_29 tyX0 tyX0_ok nmX0 rfl (by decide +kernel) dX0_acceptsLinkMark_24 (n := 27) rfl (fun C4 eC4 => ?_)
      have h := bd_at h eC4
      refine V_aload_n X (q := 0) rfl rfl dX0_acceptsLinkMark_27 (n := 28) rfl ?_
      refine V_iconst X (v := 2) (by decide) dX0_acceptsLinkMark_28 (n := 29) rfl ?_
      refine V_putX X (by decide) rfl rfl (k := 5) inX0_acceptsLinkMark_X0 rfl (by decide) wX0_acceptsLinkMark_32 tyX0 tyX0_ok nmX0 rfl (by decide +kernel) dX0_acceptsLinkMark_29 (n := 32) rfl (fun C5 eC5 => ?_)
      have h := bd_at h eC5
      refine V_iconst X (v := 1) (by decide) dX0_acceptsLinkMark_32 (n := 33) rfl ?_
      exact V_zret X hr hlk (by decide) dX0_acceptsLinkMark_33 ⟨h, rfl⟩
    · have h := ite_f h c3
      exact kj1  h
abbrev rmX0_acceptsFirstNode : Room := { frames := 0, cells := 0, slots := 0, locals := 0 }
theorem wX0_acceptsFirstNode_26 : Cond.fieldLink RX0 26 "FloodBus$Description" "nodeCount" "I" ∈ wsX0_acceptsFirstNode := by decide +kernel
theorem wX0_acceptsFirstNode_35 : Cond.fieldLink RX0 35 "FloodBus$Description" "firstNode" "I" ∈ wsX0_acceptsFirstNode := by decide +kernel
theorem wX0_acceptsFirstNode_32 : Cond.fieldLink RX0 32 "FloodBus$Description" "expected" "I" ∈ wsX0_acceptsFirstNode := by decide +kernel
theorem inX0_acceptsFirstNode_X0 : ∀ w ∈ wsX00, w ∈ wsX0_acceptsFirstNode := by decide +kernel
set_option maxRecDepth 100000 in
set_option maxHeartbeats 4000000 in
theorem TX0_acceptsFirstNode (l : Launch) (D : va_G) (G : Gc) (ρ : Nat → Nat) (C : Xm) (N : Nm)  (a1 : Int32) (K : Int32 → Xm → Prop) (h : fX0_acceptsFirstNode C a1 K) : Ki l yX0_acceptsFirstNode wsX0_acceptsFirstNode rmX0_acceptsFirstNode D G ρ [.ref (ρ 1), .int a1] C N (fun r C1 N1 => K r C1 ∧ N1 = N) := by
  refine Ki.ofV (cc := cX0_acceptsFirstNode) (maxL := 2) (ret := (some .boolean)) (by decide +kernel) rfl (Nat.le_of_ble_eq_true rfl) ?_
  intro p e s m args below meth c X hr hlk
  show V p l e rmX0_acceptsFirstNode s m args below meth c D G ρ (WA ρ s.heap.size) s.heap 2 0 0 (Qi D G ρ s args below (fun r C1 N1 => K r C1 ∧ N1 = N)) 0 [(0, .ref (ρ 1)), (1, .int a1)] [] C N
  unfold fX0_acceptsFirstNode at h
  refine V_iload_n X (q := 1) rfl rfl dX0_acceptsFirstNode_0 (n := 1) rfl ?_
  refine jn_o h (fun j1 ej1 h => ?_)
  have kj1 : j1 → V p l e rmX0_acceptsFirstNode s m args below meth c D G ρ (WA ρ s.heap.size) s.heap 2 0 0 (Qi D G ρ s args below (fun r C1 N1 => K r C1 ∧ N1 = N)) 12 [(0, .ref (ρ 1)), (1, .int a1)] [] C N := by
    intro  h
    rw [ej1] at h
    refine V_iconst X (v := 0) (by decide) dX0_acceptsFirstNode_12 (n := 13) rfl ?_
    exact V_zret X hr hlk (by decide) dX0_acceptsFirstNode_13 ⟨h, rfl⟩
  refine V_if_lt X dX0_acceptsFirstNode_1 (tgt := 12) (n := 4) (by decide) rfl (fun c2 => ?_) (fun c2 => ?_)
  · have h := ite_t h c2
    exact kj1  h
  · have h := ite_f h c2
    refine V_iload_n X (q := 1) rfl rfl dX0_acceptsFirstNode_4 (n := 5) rfl ?_
    refine V_aload_n X (q := 0) rfl rfl dX0_acceptsFirstNode_5 (n := 6) rfl ?_
    refine V_getX X (by decide) rfl rfl (k := 3) inX0_acceptsFirstNode_X0 rfl (by decide) wX0_acceptsFirstNode_26 dX0_acceptsFirstNode_6 (n := 9) rfl ?_
    refine V_icmp_lt X dX0_acceptsFirstNode_9 (tgt := 14) (n := 12) (by decide) rfl (fun c3 => ?_) (fun c3 => ?_)
    · have h := ite_t h c3
      refine V_aload_n X (q := 0) rfl rfl dX0_acceptsFirstNode_14 (n := 15) rfl ?_
      refine V_iload_n X (q := 1) rfl rfl dX0_acceptsFirstNode_15 (n := 16) rfl ?_
      refine V_putX X (by decide) rfl rfl (k := 6) inX0_acceptsFirstNode_X0 rfl (by decide) wX0_acceptsFirstNode_35 tyX0 tyX0_ok nmX0 rfl (by decide +kernel) dX0_acceptsFirstNode_16 (n := 19) rfl (fun C4 eC4 => ?_)
      have h := bd_at h eC4
      refine V_aload_n X (q := 0) rfl rfl dX0_acceptsFirstNode_19 (n := 20) rfl ?_
      refine V_iconst X (v := 3) (by decide) dX0_acceptsFirstNode_20 (n := 21) rfl ?_
      refine V_putX X (by decide) rfl rfl (k := 5) inX0_acceptsFirstNode_X0 rfl (by decide) wX0_acceptsFirstNode_32 tyX0 tyX0_ok nmX0 rfl (by decide +kernel) dX0_acceptsFirstNode_21 (n := 24) rfl (fun C5 eC5 => ?_)
      have h := bd_at h eC5
      refine V_iconst X (v := 1) (by decide) dX0_acceptsFirstNode_24 (n := 25) rfl ?_
      exact V_zret X hr hlk (by decide) dX0_acceptsFirstNode_25 ⟨h, rfl⟩
    · have h := ite_f h c3
      exact kj1  h
abbrev rmX2_join : Room := { frames := 0, cells := 0, slots := 0, locals := 0 }
theorem wX2_join_11 : Cond.fieldLink RX2 11 "FloodBus$Links" "strength" "[[I" ∈ wsX2_join := by decide +kernel
theorem inX2_join_X2 : ∀ w ∈ wsX20, w ∈ wsX2_join := by decide +kernel
set_option maxRecDepth 100000 in
set_option maxHeartbeats 4000000 in
theorem TX2_join (l : Launch) (D : va_G) (G : Gc) (ρ : Nat → Nat) (C : Xm) (N : Nm)  (a1 : Int32) (a2 : Int32) (K : Int32 → Prop) (h : fX2_join C a1 a2 K) : Ki l yX2_join wsX2_join rmX2_join D G ρ [.ref (ρ 3), .int a1, .int a2] C N (fun r C1 N1 => K r ∧ C1 = C ∧ N1 = N) := by
  refine Ki.ofV (cc := cX2_join) (maxL := 3) (ret := (some .boolean)) (by decide +kernel) rfl (Nat.le_of_ble_eq_true rfl) ?_
  intro p e s m args below meth c X hr hlk
  show V p l e rmX2_join s m args below meth c D G ρ (WA ρ s.heap.size) s.heap 3 0 0 (Qi D G ρ s args below (fun r C1 N1 => K r ∧ C1 = C ∧ N1 = N)) 0 [(0, .ref (ρ 3)), (1, .int a1), (2, .int a2)] [] C N
  unfold fX2_join at h
  refine V_aload_n X (q := 0) rfl rfl dX2_join_0 (n := 1) rfl ?_
  refine V_getR X (by decide) rfl rfl (k := 0) inX2_join_X2 rfl (by decide) wX2_join_11 dX2_join_1 (n := 4) rfl ?_
  refine V_iload_n X (q := 1) rfl rfl dX2_join_4 (n := 5) rfl ?_
  obtain ⟨g1, h⟩ := h
  refine V_aaR X (by decide) rfl g1 dX2_join_5 (n := 6) rfl ?_
  refine V_iload_n X (q := 2) rfl rfl dX2_join_6 (n := 7) rfl ?_
  obtain ⟨g2, h⟩ := h
  refine V_ildX X (row_lt g1 (by decide)) (row_sh5 g1) g2 dX2_join_7 (n := 8) rfl ?_
  refine jn_o h (fun j3 ej3 h => ?_)
  have kj3 : ∀ (x5 : Int32), j3 x5 → V p l e rmX2_join s m args below meth c D G ρ (WA ρ s.heap.size) s.heap 3 0 0 (Qi D G ρ s args below (fun r C1 N1 => K r ∧ C1 = C ∧ N1 = N)) 16 [(0, .ref (ρ 3)), (1, .int a1), (2, .int a2)] [.int x5] C N := by
    intro x5 h
    rw [ej3] at h
    try dsimp only at h
    obtain ⟨g6, h⟩ := h
    exact V_zret X hr hlk g6 dX2_join_16 ⟨h, rfl, rfl⟩
  refine V_if_eq X dX2_join_8 (tgt := 15) (n := 11) (by decide) rfl (fun c4 => ?_) (fun c4 => ?_)
  · have h := ite_t h c4
    refine V_iconst X (v := 0) (by decide) dX2_join_15 (n := 16) rfl ?_
    exact kj3 (0 : Int32) h
  · have h := ite_f h c4
    refine V_iconst X (v := 1) (by decide) dX2_join_11 (n := 12) rfl ?_
    refine V_goto X dX2_join_12 (tgt := 16) (by decide) ?_
    exact kj3 (1 : Int32) h
abbrev rmX0_acceptsSecondNode : Room := { frames := 1, cells := 0, slots := 0, locals := 22 }
theorem wX0_acceptsSecondNode_35 : Cond.fieldLink RX0 35 "FloodBus$Description" "firstNode" "I" ∈ wsX0_acceptsSecondNode := by decide +kernel
theorem wX0_acceptsSecondNode_26 : Cond.fieldLink RX0 26 "FloodBus$Description" "nodeCount" "I" ∈ wsX0_acceptsSecondNode := by decide +kernel
theorem wX0_acceptsSecondNode_22 : Cond.fieldLink RX0 22 "FloodBus$Description" "links" "LFloodBus$Links;" ∈ wsX0_acceptsSecondNode := by decide +kernel
theorem wX0_acceptsSecondNode_38 : Cond.fieldLink RX0 38 "FloodBus$Description" "secondNode" "I" ∈ wsX0_acceptsSecondNode := by decide +kernel
theorem wX0_acceptsSecondNode_32 : Cond.fieldLink RX0 32 "FloodBus$Description" "expected" "I" ∈ wsX0_acceptsSecondNode := by decide +kernel
theorem inX0_acceptsSecondNode_X0 : ∀ w ∈ wsX00, w ∈ wsX0_acceptsSecondNode := by decide +kernel
set_option maxRecDepth 100000 in
set_option maxHeartbeats 4000000 in
theorem TX0_acceptsSecondNode (l : Launch) (D : va_G) (G : Gc) (ρ : Nat → Nat) (C : Xm) (N : Nm)  (a1 : Int32) (K : Int32 → Xm → Prop) (h : fX0_acceptsSecondNode C a1 K) : Ki l yX0_acceptsSecondNode wsX0_acceptsSecondNode rmX0_acceptsSecondNode D G ρ [.ref (ρ 1), .int a1] C N (fun r C1 N1 => K r C1 ∧ N1 = N) := by
  refine Ki.ofV (cc := cX0_acceptsSecondNode) (maxL := 2) (ret := (some .boolean)) (by decide +kernel) rfl (Nat.le_of_ble_eq_true rfl) ?_
  intro p e s m args below meth c X hr hlk
  show V p l e rmX0_acceptsSecondNode s m args below meth c D G ρ (WA ρ s.heap.size) s.heap 2 0 0 (Qi D G ρ s args below (fun r C1 N1 => K r C1 ∧ N1 = N)) 0 [(0, .ref (ρ 1)), (1, .int a1)] [] C N
  unfold fX0_acceptsSecondNode at h
  refine V_iload_n X (q := 1) rfl rfl dX0_acceptsSecondNode_0 (n := 1) rfl ?_
  refine V_aload_n X (q := 0) rfl rfl dX0_acceptsSecondNode_1 (n := 2) rfl ?_
  refine V_getX X (by decide) rfl rfl (k := 6) inX0_acceptsSecondNode_X0 rfl (by decide) wX0_acceptsSecondNode_35 dX0_acceptsSecondNode_2 (n := 5) rfl ?_
  refine jn_o h (fun j1 ej1 h => ?_)
  have kj1 : j1 → V p l e rmX0_acceptsSecondNode s m args below meth c D G ρ (WA ρ s.heap.size) s.heap 2 0 0 (Qi D G ρ s args below (fun r C1 N1 => K r C1 ∧ N1 = N)) 31 [(0, .ref (ρ 1)), (1, .int a1)] [] C N := by
    intro  h
    rw [ej1] at h
    refine V_iconst X (v := 0) (by decide) dX0_acceptsSecondNode_31 (n := 32) rfl ?_
    exact V_zret X hr hlk (by decide) dX0_acceptsSecondNode_32 ⟨h, rfl⟩
  refine V_icmp_le X dX0_acceptsSecondNode_5 (tgt := 31) (n := 8) (by decide) rfl (fun c2 => ?_) (fun c2 => ?_)
  · have h := ite_t h c2
    exact kj1  h
  · have h := ite_f h c2
    refine V_iload_n X (q := 1) rfl rfl dX0_acceptsSecondNode_8 (n := 9) rfl ?_
    refine V_aload_n X (q := 0) rfl rfl dX0_acceptsSecondNode_9 (n := 10) rfl ?_
    refine V_getX X (by decide) rfl rfl (k := 3) inX0_acceptsSecondNode_X0 rfl (by decide) wX0_acceptsSecondNode_26 dX0_acceptsSecondNode_10 (n := 13) rfl ?_
    refine V_icmp_ge X dX0_acceptsSecondNode_13 (tgt := 31) (n := 16) (by decide) rfl (fun c3 => ?_) (fun c3 => ?_)
    · have h := ite_t h c3
      exact kj1  h
    · have h := ite_f h c3
      refine V_aload_n X (q := 0) rfl rfl dX0_acceptsSecondNode_16 (n := 17) rfl ?_
      refine V_getR X (by decide) rfl rfl (k := 2) inX0_acceptsSecondNode_X0 rfl (by decide) wX0_acceptsSecondNode_22 dX0_acceptsSecondNode_17 (n := 20) rfl ?_
      refine V_aload_n X (q := 0) rfl rfl dX0_acceptsSecondNode_20 (n := 21) rfl ?_
      refine V_getX X (by decide) rfl rfl (k := 6) inX0_acceptsSecondNode_X0 rfl (by decide) wX0_acceptsSecondNode_35 dX0_acceptsSecondNode_21 (n := 24) rfl ?_
      refine V_iload_n X (q := 1) rfl rfl dX0_acceptsSecondNode_24 (n := 25) rfl ?_
      refine V_calli X (As := [.int (C 1 6), .int a1]) (rest := []) (nA := 2) (i := 3) (q := (RX2, TX2, 2)) (TX2_join l D G ρ C N (C 1 6) a1 _ h) gX0_acceptsSecondNode_X2_join rfl rfl rfl (by decide +kernel) rfl ⟨by decide, by decide⟩ (Nat.le_of_ble_eq_true rfl) ⟨by decide, by decide⟩ (by decide) rfl rfl rfl dX0_acceptsSecondNode_25 (n := 28) rfl (fun r4 M1 M0 h => ?_)
      obtain ⟨h, eo, eo2⟩ := h
      rw [eo, eo2]
      refine V_if_eq X dX0_acceptsSecondNode_28 (tgt := 33) (n := 31) (by decide) rfl (fun c5 => ?_) (fun c5 => ?_)
      · have h := ite_t h c5
        refine V_aload_n X (q := 0) rfl rfl dX0_acceptsSecondNode_33 (n := 34) rfl ?_
        refine V_iload_n X (q := 1) rfl rfl dX0_acceptsSecondNode_34 (n := 35) rfl ?_
        refine V_putX X (by decide) rfl rfl (k := 7) inX0_acceptsSecondNode_X0 rfl (by decide) wX0_acceptsSecondNode_38 tyX0 tyX0_ok nmX0 rfl (by decide +kernel) dX0_acceptsSecondNode_35 (n := 38) rfl (fun C6 eC6 => ?_)
        have h := bd_at h eC6
        refine V_aload_n X (q := 0) rfl rfl dX0_acceptsSecondNode_38 (n := 39) rfl ?_
        refine V_iconst X (v := 4) (by decide) dX0_acceptsSecondNode_39 (n := 40) rfl ?_
        refine V_putX X (by decide) rfl rfl (k := 5) inX0_acceptsSecondNode_X0 rfl (by decide) wX0_acceptsSecondNode_32 tyX0 tyX0_ok nmX0 rfl (by decide +kernel) dX0_acceptsSecondNode_40 (n := 43) rfl (fun C7 eC7 => ?_)
        have h := bd_at h eC7
        refine V_iconst X (v := 1) (by decide) dX0_acceptsSecondNode_43 (n := 44) rfl ?_
        exact V_zret X hr hlk (by decide) dX0_acceptsSecondNode_44 ⟨h, rfl⟩
      · have h := ite_f h c5
        exact kj1  h
abbrev rmX2_setStrength : Room := { frames := 0, cells := 0, slots := 0, locals := 0 }
theorem wX2_setStrength_11 : Cond.fieldLink RX2 11 "FloodBus$Links" "strength" "[[I" ∈ wsX2_setStrength := by decide +kernel
theorem inX2_setStrength_X2 : ∀ w ∈ wsX20, w ∈ wsX2_setStrength := by decide +kernel
set_option maxRecDepth 100000 in
set_option maxHeartbeats 4000000 in
theorem TX2_setStrength (l : Launch) (D : va_G) (G : Gc) (ρ : Nat → Nat) (C : Xm) (N : Nm)  (a1 : Int32) (a2 : Int32) (a3 : Int32) (K : Xm → Prop) (h : fX2_setStrength C a1 a2 a3 K) : Kv l yX2_setStrength wsX2_setStrength rmX2_setStrength D G ρ [.ref (ρ 3), .int a1, .int a2, .int a3] C N (fun C1 N1 => K C1 ∧ N1 = N) := by
  refine Kv.ofV (cc := cX2_setStrength) (maxL := 4) (ret := none) (by decide +kernel) rfl (Nat.le_of_ble_eq_true rfl) ?_
  intro p e s m args below meth c X hr hlk
  show V p l e rmX2_setStrength s m args below meth c D G ρ (WA ρ s.heap.size) s.heap 4 0 0 (Qv D G ρ s args below (fun C1 N1 => K C1 ∧ N1 = N)) 0 [(0, .ref (ρ 3)), (1, .int a1), (2, .int a2), (3, .int a3)] [] C N
  unfold fX2_setStrength at h
  refine V_aload_n X (q := 0) rfl rfl dX2_setStrength_0 (n := 1) rfl ?_
  refine V_getR X (by decide) rfl rfl (k := 0) inX2_setStrength_X2 rfl (by decide) wX2_setStrength_11 dX2_setStrength_1 (n := 4) rfl ?_
  refine V_iload_n X (q := 1) rfl rfl dX2_setStrength_4 (n := 5) rfl ?_
  obtain ⟨g1, h⟩ := h
  refine V_aaR X (by decide) rfl g1 dX2_setStrength_5 (n := 6) rfl ?_
  refine V_iload_n X (q := 2) rfl rfl dX2_setStrength_6 (n := 7) rfl ?_
  refine V_iload_n X (q := 3) rfl rfl dX2_setStrength_7 (n := 8) rfl ?_
  obtain ⟨g2, h⟩ := h
  refine V_istX X (row_lt g1 (by decide)) (row_sh5 g1) g2 dX2_setStrength_8 (n := 9) rfl (fun C3 eC3 => ?_)
  have h := bd_at h eC3
  refine V_aload_n X (q := 0) rfl rfl dX2_setStrength_9 (n := 10) rfl ?_
  refine V_getR X (by decide) rfl rfl (k := 0) inX2_setStrength_X2 rfl (by decide) wX2_setStrength_11 dX2_setStrength_10 (n := 13) rfl ?_
  refine V_iload_n X (q := 2) rfl rfl dX2_setStrength_13 (n := 14) rfl ?_
  obtain ⟨g4, h⟩ := h
  refine V_aaR X (by decide) rfl g4 dX2_setStrength_14 (n := 15) rfl ?_
  refine V_iload_n X (q := 1) rfl rfl dX2_setStrength_15 (n := 16) rfl ?_
  refine V_iload_n X (q := 3) rfl rfl dX2_setStrength_16 (n := 17) rfl ?_
  obtain ⟨g5, h⟩ := h
  refine V_istX X (row_lt g4 (by decide)) (row_sh5 g4) g5 dX2_setStrength_17 (n := 18) rfl (fun C6 eC6 => ?_)
  have h := bd_at h eC6
  exact V_vret X hr hlk dX2_setStrength_18 ⟨h, rfl⟩
abbrev rmX0_acceptsStrength : Room := { frames := 1, cells := 0, slots := 0, locals := 23 }
theorem wX0_acceptsStrength_22 : Cond.fieldLink RX0 22 "FloodBus$Description" "links" "LFloodBus$Links;" ∈ wsX0_acceptsStrength := by decide +kernel
theorem wX0_acceptsStrength_35 : Cond.fieldLink RX0 35 "FloodBus$Description" "firstNode" "I" ∈ wsX0_acceptsStrength := by decide +kernel
theorem wX0_acceptsStrength_38 : Cond.fieldLink RX0 38 "FloodBus$Description" "secondNode" "I" ∈ wsX0_acceptsStrength := by decide +kernel
theorem wX0_acceptsStrength_32 : Cond.fieldLink RX0 32 "FloodBus$Description" "expected" "I" ∈ wsX0_acceptsStrength := by decide +kernel
theorem inX0_acceptsStrength_X0 : ∀ w ∈ wsX00, w ∈ wsX0_acceptsStrength := by decide +kernel
set_option maxRecDepth 100000 in
set_option maxHeartbeats 4000000 in
theorem TX0_acceptsStrength (l : Launch) (D : va_G) (G : Gc) (ρ : Nat → Nat) (C : Xm) (N : Nm)  (a1 : Int32) (K : Int32 → Xm → Prop) (h : fX0_acceptsStrength C a1 K) : Ki l yX0_acceptsStrength wsX0_acceptsStrength rmX0_acceptsStrength D G ρ [.ref (ρ 1), .int a1] C N (fun r C1 N1 => K r C1 ∧ N1 = N) := by
  refine Ki.ofV (cc := cX0_acceptsStrength) (maxL := 2) (ret := (some .boolean)) (by decide +kernel) rfl (Nat.le_of_ble_eq_true rfl) ?_
  intro p e s m args below meth c X hr hlk
  show V p l e rmX0_acceptsStrength s m args below meth c D G ρ (WA ρ s.heap.size) s.heap 2 0 0 (Qi D G ρ s args below (fun r C1 N1 => K r C1 ∧ N1 = N)) 0 [(0, .ref (ρ 1)), (1, .int a1)] [] C N
  unfold fX0_acceptsStrength at h
  refine V_iload_n X (q := 1) rfl rfl dX0_acceptsStrength_0 (n := 1) rfl ?_
  refine V_iconst X (v := 1) (by decide) dX0_acceptsStrength_1 (n := 2) rfl ?_
  refine jn_o h (fun j1 ej1 h => ?_)
  have kj1 : j1 → V p l e rmX0_acceptsStrength s m args below meth c D G ρ (WA ρ s.heap.size) s.heap 2 0 0 (Qi D G ρ s args below (fun r C1 N1 => K r C1 ∧ N1 = N)) 11 [(0, .ref (ρ 1)), (1, .int a1)] [] C N := by
    intro  h
    rw [ej1] at h
    refine V_iconst X (v := 0) (by decide) dX0_acceptsStrength_11 (n := 12) rfl ?_
    exact V_zret X hr hlk (by decide) dX0_acceptsStrength_12 ⟨h, rfl⟩
  refine V_icmp_lt X dX0_acceptsStrength_2 (tgt := 11) (n := 5) (by decide) rfl (fun c2 => ?_) (fun c2 => ?_)
  · have h := ite_t h c2
    exact kj1  h
  · have h := ite_f h c2
    refine V_iload_n X (q := 1) rfl rfl dX0_acceptsStrength_5 (n := 6) rfl ?_
    refine V_bipush X (v := 9) (by decide) dX0_acceptsStrength_6 (n := 8) rfl ?_
    refine V_icmp_le X dX0_acceptsStrength_8 (tgt := 13) (n := 11) (by decide) rfl (fun c3 => ?_) (fun c3 => ?_)
    · have h := ite_t h c3
      refine V_aload_n X (q := 0) rfl rfl dX0_acceptsStrength_13 (n := 14) rfl ?_
      refine V_getR X (by decide) rfl rfl (k := 2) inX0_acceptsStrength_X0 rfl (by decide) wX0_acceptsStrength_22 dX0_acceptsStrength_14 (n := 17) rfl ?_
      refine V_aload_n X (q := 0) rfl rfl dX0_acceptsStrength_17 (n := 18) rfl ?_
      refine V_getX X (by decide) rfl rfl (k := 6) inX0_acceptsStrength_X0 rfl (by decide) wX0_acceptsStrength_35 dX0_acceptsStrength_18 (n := 21) rfl ?_
      refine V_aload_n X (q := 0) rfl rfl dX0_acceptsStrength_21 (n := 22) rfl ?_
      refine V_getX X (by decide) rfl rfl (k := 7) inX0_acceptsStrength_X0 rfl (by decide) wX0_acceptsStrength_38 dX0_acceptsStrength_22 (n := 25) rfl ?_
      refine V_iload_n X (q := 1) rfl rfl dX0_acceptsStrength_25 (n := 26) rfl ?_
      refine V_callv X (As := [.int (C 1 6), .int (C 1 7), .int a1]) (rest := []) (nA := 3) (i := 3) (q := (RX2, TX2, 2)) (TX2_setStrength l D G ρ C N (C 1 6) (C 1 7) a1 _ h) gX0_acceptsStrength_X2_setStrength rfl rfl rfl (by decide +kernel) rfl ⟨by decide, by decide⟩ (Nat.le_of_ble_eq_true rfl) ⟨by decide, by decide⟩ (by decide) rfl rfl rfl dX0_acceptsStrength_26 (n := 29) rfl (fun C4 M0 h => ?_)
      obtain ⟨h, eo⟩ := h
      rw [eo]
      refine V_aload_n X (q := 0) rfl rfl dX0_acceptsStrength_29 (n := 30) rfl ?_
      refine V_iconst X (v := 5) (by decide) dX0_acceptsStrength_30 (n := 31) rfl ?_
      refine V_putX X (by decide) rfl rfl (k := 5) inX0_acceptsStrength_X0 rfl (by decide) wX0_acceptsStrength_32 tyX0 tyX0_ok nmX0 rfl (by decide +kernel) dX0_acceptsStrength_31 (n := 34) rfl (fun C5 eC5 => ?_)
      have h := bd_at h eC5
      refine V_iconst X (v := 1) (by decide) dX0_acceptsStrength_34 (n := 35) rfl ?_
      exact V_zret X hr hlk (by decide) dX0_acceptsStrength_35 ⟨h, rfl⟩
    · have h := ite_f h c3
      exact kj1  h
abbrev rmX2_setLossPeriod : Room := { frames := 0, cells := 0, slots := 0, locals := 0 }
theorem wX2_setLossPeriod_16 : Cond.fieldLink RX2 16 "FloodBus$Links" "lossPeriod" "[[I" ∈ wsX2_setLossPeriod := by decide +kernel
theorem inX2_setLossPeriod_X2 : ∀ w ∈ wsX20, w ∈ wsX2_setLossPeriod := by decide +kernel
set_option maxRecDepth 100000 in
set_option maxHeartbeats 4000000 in
theorem TX2_setLossPeriod (l : Launch) (D : va_G) (G : Gc) (ρ : Nat → Nat) (C : Xm) (N : Nm)  (a1 : Int32) (a2 : Int32) (a3 : Int32) (K : Xm → Prop) (h : fX2_setLossPeriod C a1 a2 a3 K) : Kv l yX2_setLossPeriod wsX2_setLossPeriod rmX2_setLossPeriod D G ρ [.ref (ρ 3), .int a1, .int a2, .int a3] C N (fun C1 N1 => K C1 ∧ N1 = N) := by
  refine Kv.ofV (cc := cX2_setLossPeriod) (maxL := 4) (ret := none) (by decide +kernel) rfl (Nat.le_of_ble_eq_true rfl) ?_
  intro p e s m args below meth c X hr hlk
  show V p l e rmX2_setLossPeriod s m args below meth c D G ρ (WA ρ s.heap.size) s.heap 4 0 0 (Qv D G ρ s args below (fun C1 N1 => K C1 ∧ N1 = N)) 0 [(0, .ref (ρ 3)), (1, .int a1), (2, .int a2), (3, .int a3)] [] C N
  unfold fX2_setLossPeriod at h
  refine V_aload_n X (q := 0) rfl rfl dX2_setLossPeriod_0 (n := 1) rfl ?_
  refine V_getR X (by decide) rfl rfl (k := 1) inX2_setLossPeriod_X2 rfl (by decide) wX2_setLossPeriod_16 dX2_setLossPeriod_1 (n := 4) rfl ?_
  refine V_iload_n X (q := 1) rfl rfl dX2_setLossPeriod_4 (n := 5) rfl ?_
  obtain ⟨g1, h⟩ := h
  refine V_aaR X (by decide) rfl g1 dX2_setLossPeriod_5 (n := 6) rfl ?_
  refine V_iload_n X (q := 2) rfl rfl dX2_setLossPeriod_6 (n := 7) rfl ?_
  refine V_iload_n X (q := 3) rfl rfl dX2_setLossPeriod_7 (n := 8) rfl ?_
  obtain ⟨g2, h⟩ := h
  refine V_istX X (row_lt g1 (by decide)) (row_sh14 g1) g2 dX2_setLossPeriod_8 (n := 9) rfl (fun C3 eC3 => ?_)
  have h := bd_at h eC3
  refine V_aload_n X (q := 0) rfl rfl dX2_setLossPeriod_9 (n := 10) rfl ?_
  refine V_getR X (by decide) rfl rfl (k := 1) inX2_setLossPeriod_X2 rfl (by decide) wX2_setLossPeriod_16 dX2_setLossPeriod_10 (n := 13) rfl ?_
  refine V_iload_n X (q := 2) rfl rfl dX2_setLossPeriod_13 (n := 14) rfl ?_
  obtain ⟨g4, h⟩ := h
  refine V_aaR X (by decide) rfl g4 dX2_setLossPeriod_14 (n := 15) rfl ?_
  refine V_iload_n X (q := 1) rfl rfl dX2_setLossPeriod_15 (n := 16) rfl ?_
  refine V_iload_n X (q := 3) rfl rfl dX2_setLossPeriod_16 (n := 17) rfl ?_
  obtain ⟨g5, h⟩ := h
  refine V_istX X (row_lt g4 (by decide)) (row_sh14 g4) g5 dX2_setLossPeriod_17 (n := 18) rfl (fun C6 eC6 => ?_)
  have h := bd_at h eC6
  exact V_vret X hr hlk dX2_setLossPeriod_18 ⟨h, rfl⟩
abbrev rmX0_acceptsLossPeriod : Room := { frames := 1, cells := 0, slots := 0, locals := 23 }
theorem wX0_acceptsLossPeriod_22 : Cond.fieldLink RX0 22 "FloodBus$Description" "links" "LFloodBus$Links;" ∈ wsX0_acceptsLossPeriod := by decide +kernel
theorem wX0_acceptsLossPeriod_35 : Cond.fieldLink RX0 35 "FloodBus$Description" "firstNode" "I" ∈ wsX0_acceptsLossPeriod := by decide +kernel
theorem wX0_acceptsLossPeriod_38 : Cond.fieldLink RX0 38 "FloodBus$Description" "secondNode" "I" ∈ wsX0_acceptsLossPeriod := by decide +kernel
theorem wX0_acceptsLossPeriod_32 : Cond.fieldLink RX0 32 "FloodBus$Description" "expected" "I" ∈ wsX0_acceptsLossPeriod := by decide +kernel
theorem inX0_acceptsLossPeriod_X0 : ∀ w ∈ wsX00, w ∈ wsX0_acceptsLossPeriod := by decide +kernel
set_option maxRecDepth 100000 in
set_option maxHeartbeats 4000000 in
theorem TX0_acceptsLossPeriod (l : Launch) (D : va_G) (G : Gc) (ρ : Nat → Nat) (C : Xm) (N : Nm)  (a1 : Int32) (K : Int32 → Xm → Prop) (h : fX0_acceptsLossPeriod C a1 K) : Ki l yX0_acceptsLossPeriod wsX0_acceptsLossPeriod rmX0_acceptsLossPeriod D G ρ [.ref (ρ 1), .int a1] C N (fun r C1 N1 => K r C1 ∧ N1 = N) := by
  refine Ki.ofV (cc := cX0_acceptsLossPeriod) (maxL := 2) (ret := (some .boolean)) (by decide +kernel) rfl (Nat.le_of_ble_eq_true rfl) ?_
  intro p e s m args below meth c X hr hlk
  show V p l e rmX0_acceptsLossPeriod s m args below meth c D G ρ (WA ρ s.heap.size) s.heap 2 0 0 (Qi D G ρ s args below (fun r C1 N1 => K r C1 ∧ N1 = N)) 0 [(0, .ref (ρ 1)), (1, .int a1)] [] C N
  unfold fX0_acceptsLossPeriod at h
  refine V_iload_n X (q := 1) rfl rfl dX0_acceptsLossPeriod_0 (n := 1) rfl ?_
  refine V_iconst X (v := 2) (by decide) dX0_acceptsLossPeriod_1 (n := 2) rfl ?_
  refine jn_o h (fun j1 ej1 h => ?_)
  have kj1 : j1 → V p l e rmX0_acceptsLossPeriod s m args below meth c D G ρ (WA ρ s.heap.size) s.heap 2 0 0 (Qi D G ρ s args below (fun r C1 N1 => K r C1 ∧ N1 = N)) 11 [(0, .ref (ρ 1)), (1, .int a1)] [] C N := by
    intro  h
    rw [ej1] at h
    refine V_iconst X (v := 0) (by decide) dX0_acceptsLossPeriod_11 (n := 12) rfl ?_
    exact V_zret X hr hlk (by decide) dX0_acceptsLossPeriod_12 ⟨h, rfl⟩
  refine V_icmp_lt X dX0_acceptsLossPeriod_2 (tgt := 11) (n := 5) (by decide) rfl (fun c2 => ?_) (fun c2 => ?_)
  · have h := ite_t h c2
    exact kj1  h
  · have h := ite_f h c2
    refine V_iload_n X (q := 1) rfl rfl dX0_acceptsLossPeriod_5 (n := 6) rfl ?_
    refine V_bipush X (v := 9) (by decide) dX0_acceptsLossPeriod_6 (n := 8) rfl ?_
    refine V_icmp_le X dX0_acceptsLossPeriod_8 (tgt := 13) (n := 11) (by decide) rfl (fun c3 => ?_) (fun c3 => ?_)
    · have h := ite_t h c3
      refine V_aload_n X (q := 0) rfl rfl dX0_acceptsLossPeriod_13 (n := 14) rfl ?_
      refine V_getR X (by decide) rfl rfl (k := 2) inX0_acceptsLossPeriod_X0 rfl (by decide) wX0_acceptsLossPeriod_22 dX0_acceptsLossPeriod_14 (n := 17) rfl ?_
      refine V_aload_n X (q := 0) rfl rfl dX0_acceptsLossPeriod_17 (n := 18) rfl ?_
      refine V_getX X (by decide) rfl rfl (k := 6) inX0_acceptsLossPeriod_X0 rfl (by decide) wX0_acceptsLossPeriod_35 dX0_acceptsLossPeriod_18 (n := 21) rfl ?_
      refine V_aload_n X (q := 0) rfl rfl dX0_acceptsLossPeriod_21 (n := 22) rfl ?_
      refine V_getX X (by decide) rfl rfl (k := 7) inX0_acceptsLossPeriod_X0 rfl (by decide) wX0_acceptsLossPeriod_38 dX0_acceptsLossPeriod_22 (n := 25) rfl ?_
      refine V_iload_n X (q := 1) rfl rfl dX0_acceptsLossPeriod_25 (n := 26) rfl ?_
      refine V_callv X (As := [.int (C 1 6), .int (C 1 7), .int a1]) (rest := []) (nA := 3) (i := 3) (q := (RX2, TX2, 2)) (TX2_setLossPeriod l D G ρ C N (C 1 6) (C 1 7) a1 _ h) gX0_acceptsLossPeriod_X2_setLossPeriod rfl rfl rfl (by decide +kernel) rfl ⟨by decide, by decide⟩ (Nat.le_of_ble_eq_true rfl) ⟨by decide, by decide⟩ (by decide) rfl rfl rfl dX0_acceptsLossPeriod_26 (n := 29) rfl (fun C4 M0 h => ?_)
      obtain ⟨h, eo⟩ := h
      rw [eo]
      refine V_aload_n X (q := 0) rfl rfl dX0_acceptsLossPeriod_29 (n := 30) rfl ?_
      refine V_iconst X (v := 1) (by decide) dX0_acceptsLossPeriod_30 (n := 31) rfl ?_
      refine V_putX X (by decide) rfl rfl (k := 5) inX0_acceptsLossPeriod_X0 rfl (by decide) wX0_acceptsLossPeriod_32 tyX0 tyX0_ok nmX0 rfl (by decide +kernel) dX0_acceptsLossPeriod_31 (n := 34) rfl (fun C5 eC5 => ?_)
      have h := bd_at h eC5
      refine V_iconst X (v := 1) (by decide) dX0_acceptsLossPeriod_34 (n := 35) rfl ?_
      exact V_zret X hr hlk (by decide) dX0_acceptsLossPeriod_35 ⟨h, rfl⟩
    · have h := ite_f h c3
      exact kj1  h
abbrev rmX0_accepts : Room := { frames := 2, cells := 0, slots := 0, locals := 44 }
theorem wX0_accepts_32 : Cond.fieldLink RX0 32 "FloodBus$Description" "expected" "I" ∈ wsX0_accepts := by decide +kernel
theorem inX0_accepts_X0 : ∀ w ∈ wsX00, w ∈ wsX0_accepts := by decide +kernel
set_option maxRecDepth 100000 in
set_option maxHeartbeats 4000000 in
theorem TX0_accepts (l : Launch) (D : va_G) (G : Gc) (ρ : Nat → Nat) (C : Xm) (N : Nm)  (a1 : Int32) (K : Int32 → Xm → Prop) (h : fX0_accepts C a1 K) : Ki l yX0_accepts wsX0_accepts rmX0_accepts D G ρ [.ref (ρ 1), .int a1] C N (fun r C1 N1 => K r C1 ∧ N1 = N) := by
  refine Ki.ofV (cc := cX0_accepts) (maxL := 2) (ret := (some .boolean)) (by decide +kernel) rfl (Nat.le_of_ble_eq_true rfl) ?_
  intro p e s m args below meth c X hr hlk
  show V p l e rmX0_accepts s m args below meth c D G ρ (WA ρ s.heap.size) s.heap 2 0 0 (Qi D G ρ s args below (fun r C1 N1 => K r C1 ∧ N1 = N)) 0 [(0, .ref (ρ 1)), (1, .int a1)] [] C N
  unfold fX0_accepts at h
  refine V_aload_n X (q := 0) rfl rfl dX0_accepts_0 (n := 1) rfl ?_
  refine V_getX X (by decide) rfl rfl (k := 5) inX0_accepts_X0 rfl (by decide) wX0_accepts_32 dX0_accepts_1 (n := 4) rfl ?_
  by_cases c1 : (C 1 5) = 0
  · have h := ite_t h c1
    refine V_tableAt X c1 dX0_accepts_4 (by decide) (by decide) rfl (tgt := 40) (by decide) ?_
    refine V_aload_n X (q := 0) rfl rfl dX0_accepts_40 (n := 41) rfl ?_
    refine V_iload_n X (q := 1) rfl rfl dX0_accepts_41 (n := 42) rfl ?_
    refine V_bipush X (v := 48) (by decide) dX0_accepts_42 (n := 44) rfl ?_
    refine V_isub X dX0_accepts_44 (n := 45) rfl ?_
    refine V_calli X (As := [.int (a1 - (48 : Int32))]) (rest := []) (nA := 1) (i := 1) (q := (RX0, TX0, 8)) (TX0_acceptsNodeCount l D G ρ C N (a1 - (48 : Int32)) _ h) gX0_accepts_X0_acceptsNodeCount rfl rfl rfl (by decide +kernel) rfl ⟨by decide, by decide⟩ (Nat.le_of_ble_eq_true rfl) ⟨by decide, by decide⟩ (by decide) rfl rfl rfl dX0_accepts_45 (n := 48) rfl (fun r6 C7 M0 h => ?_)
    obtain ⟨h, eo⟩ := h
    rw [eo]
    obtain ⟨g8, h⟩ := h
    exact V_zret X hr hlk g8 dX0_accepts_48 ⟨h, rfl⟩
  · have h := ite_f h c1
    by_cases c2 : (C 1 5) = 1
    · have h := ite_t h c2
      refine V_tableAt X c2 dX0_accepts_4 (by decide) (by decide) rfl (tgt := 49) (by decide) ?_
      refine V_aload_n X (q := 0) rfl rfl dX0_accepts_49 (n := 50) rfl ?_
      refine V_iload_n X (q := 1) rfl rfl dX0_accepts_50 (n := 51) rfl ?_
      refine V_calli X (As := [.int a1]) (rest := []) (nA := 1) (i := 1) (q := (RX0, TX0, 8)) (TX0_acceptsLinkMark l D G ρ C N a1 _ h) gX0_accepts_X0_acceptsLinkMark rfl rfl rfl (by decide +kernel) rfl ⟨by decide, by decide⟩ (Nat.le_of_ble_eq_true rfl) ⟨by decide, by decide⟩ (by decide) rfl rfl rfl dX0_accepts_51 (n := 54) rfl (fun r9 C10 M0 h => ?_)
      obtain ⟨h, eo⟩ := h
      rw [eo]
      obtain ⟨g11, h⟩ := h
      exact V_zret X hr hlk g11 dX0_accepts_54 ⟨h, rfl⟩
    · have h := ite_f h c2
      by_cases c3 : (C 1 5) = 2
      · have h := ite_t h c3
        refine V_tableAt X c3 dX0_accepts_4 (by decide) (by decide) rfl (tgt := 55) (by decide) ?_
        refine V_aload_n X (q := 0) rfl rfl dX0_accepts_55 (n := 56) rfl ?_
        refine V_iload_n X (q := 1) rfl rfl dX0_accepts_56 (n := 57) rfl ?_
        refine V_bipush X (v := 48) (by decide) dX0_accepts_57 (n := 59) rfl ?_
        refine V_isub X dX0_accepts_59 (n := 60) rfl ?_
        refine V_calli X (As := [.int (a1 - (48 : Int32))]) (rest := []) (nA := 1) (i := 1) (q := (RX0, TX0, 8)) (TX0_acceptsFirstNode l D G ρ C N (a1 - (48 : Int32)) _ h) gX0_accepts_X0_acceptsFirstNode rfl rfl rfl (by decide +kernel) rfl ⟨by decide, by decide⟩ (Nat.le_of_ble_eq_true rfl) ⟨by decide, by decide⟩ (by decide) rfl rfl rfl dX0_accepts_60 (n := 63) rfl (fun r12 C13 M0 h => ?_)
        obtain ⟨h, eo⟩ := h
        rw [eo]
        obtain ⟨g14, h⟩ := h
        exact V_zret X hr hlk g14 dX0_accepts_63 ⟨h, rfl⟩
      · have h := ite_f h c3
        by_cases c4 : (C 1 5) = 3
        · have h := ite_t h c4
          refine V_tableAt X c4 dX0_accepts_4 (by decide) (by decide) rfl (tgt := 64) (by decide) ?_
          refine V_aload_n X (q := 0) rfl rfl dX0_accepts_64 (n := 65) rfl ?_
          refine V_iload_n X (q := 1) rfl rfl dX0_accepts_65 (n := 66) rfl ?_
          refine V_bipush X (v := 48) (by decide) dX0_accepts_66 (n := 68) rfl ?_
          refine V_isub X dX0_accepts_68 (n := 69) rfl ?_
          refine V_calli X (As := [.int (a1 - (48 : Int32))]) (rest := []) (nA := 1) (i := 1) (q := (RX0, TX0, 8)) (TX0_acceptsSecondNode l D G ρ C N (a1 - (48 : Int32)) _ h) gX0_accepts_X0_acceptsSecondNode rfl rfl rfl (by decide +kernel) rfl ⟨by decide, by decide⟩ (Nat.le_of_ble_eq_true rfl) ⟨by decide, by decide⟩ (by decide) rfl rfl rfl dX0_accepts_69 (n := 72) rfl (fun r15 C16 M0 h => ?_)
          obtain ⟨h, eo⟩ := h
          rw [eo]
          obtain ⟨g17, h⟩ := h
          exact V_zret X hr hlk g17 dX0_accepts_72 ⟨h, rfl⟩
        · have h := ite_f h c4
          by_cases c5 : (C 1 5) = 4
          · have h := ite_t h c5
            refine V_tableAt X c5 dX0_accepts_4 (by decide) (by decide) rfl (tgt := 73) (by decide) ?_
            refine V_aload_n X (q := 0) rfl rfl dX0_accepts_73 (n := 74) rfl ?_
            refine V_iload_n X (q := 1) rfl rfl dX0_accepts_74 (n := 75) rfl ?_
            refine V_bipush X (v := 48) (by decide) dX0_accepts_75 (n := 77) rfl ?_
            refine V_isub X dX0_accepts_77 (n := 78) rfl ?_
            refine V_calli X (As := [.int (a1 - (48 : Int32))]) (rest := []) (nA := 1) (i := 1) (q := (RX0, TX0, 8)) (TX0_acceptsStrength l D G ρ C N (a1 - (48 : Int32)) _ h) gX0_accepts_X0_acceptsStrength rfl rfl rfl (by decide +kernel) rfl ⟨by decide, by decide⟩ (Nat.le_of_ble_eq_true rfl) ⟨by decide, by decide⟩ (by decide) rfl rfl rfl dX0_accepts_78 (n := 81) rfl (fun r18 C19 M0 h => ?_)
            obtain ⟨h, eo⟩ := h
            rw [eo]
            obtain ⟨g20, h⟩ := h
            exact V_zret X hr hlk g20 dX0_accepts_81 ⟨h, rfl⟩
          · have h := ite_f h c5
            have kd : V p l e rmX0_accepts s m args below meth c D G ρ (WA ρ s.heap.size) s.heap 2 0 0 (Qi D G ρ s args below (fun r C1 N1 => K r C1 ∧ N1 = N)) 82 [(0, .ref (ρ 1)), (1, .int a1)] [] C N := by
              refine V_aload_n X (q := 0) rfl rfl dX0_accepts_82 (n := 83) rfl ?_
              refine V_iload_n X (q := 1) rfl rfl dX0_accepts_83 (n := 84) rfl ?_
              refine V_bipush X (v := 48) (by decide) dX0_accepts_84 (n := 86) rfl ?_
              refine V_isub X dX0_accepts_86 (n := 87) rfl ?_
              refine V_calli X (As := [.int (a1 - (48 : Int32))]) (rest := []) (nA := 1) (i := 1) (q := (RX0, TX0, 8)) (TX0_acceptsLossPeriod l D G ρ C N (a1 - (48 : Int32)) _ h) gX0_accepts_X0_acceptsLossPeriod rfl rfl rfl (by decide +kernel) rfl ⟨by decide, by decide⟩ (Nat.le_of_ble_eq_true rfl) ⟨by decide, by decide⟩ (by decide) rfl rfl rfl dX0_accepts_87 (n := 90) rfl (fun r21 C22 M0 h => ?_)
              obtain ⟨h, eo⟩ := h
              rw [eo]
              refine jn_o h (fun j24 ej24 h => ?_)
              have kj24 : ∀ (x30 : Int32) (C31 : Xm), j24 x30 C31 → V p l e rmX0_accepts s m args below meth c D G ρ (WA ρ s.heap.size) s.heap 2 0 0 (Qi D G ρ s args below (fun r C1 N1 => K r C1 ∧ N1 = N)) 106 [(0, .ref (ρ 1)), (1, .int a1)] [.int x30] C31 N := by
                intro x30 C31 h
                rw [ej24] at h
                try dsimp only at h
                obtain ⟨g32, h⟩ := h
                exact V_zret X hr hlk g32 dX0_accepts_106 ⟨h, rfl⟩
              refine jn_o h (fun j23 ej23 h => ?_)
              have kj23 : ∀ (C29 : Xm), j23 C29 → V p l e rmX0_accepts s m args below meth c D G ρ (WA ρ s.heap.size) s.heap 2 0 0 (Qi D G ρ s args below (fun r C1 N1 => K r C1 ∧ N1 = N)) 101 [(0, .ref (ρ 1)), (1, .int a1)] [] C29 N := by
                intro C29 h
                rw [ej23] at h
                try dsimp only at h
                refine V_iconst X (v := 1) (by decide) dX0_accepts_101 (n := 102) rfl ?_
                refine V_goto X dX0_accepts_102 (tgt := 106) (by decide) ?_
                exact kj24 (1 : Int32) C29 h
              refine V_if_ne X dX0_accepts_90 (tgt := 101) (n := 93) (by decide) rfl (fun c25 => ?_) (fun c25 => ?_)
              · have h := ite_f h c25
                exact kj23 C22 h
              · have h := ite_t h c25
                refine V_aload_n X (q := 0) rfl rfl dX0_accepts_93 (n := 94) rfl ?_
                refine V_iload_n X (q := 1) rfl rfl dX0_accepts_94 (n := 95) rfl ?_
                refine V_calli X (As := [.int a1]) (rest := []) (nA := 1) (i := 1) (q := (RX0, TX0, 8)) (TX0_acceptsLinkMark l D G ρ C22 N a1 _ h) gX0_accepts_X0_acceptsLinkMark rfl rfl rfl (by decide +kernel) rfl ⟨by decide, by decide⟩ (Nat.le_of_ble_eq_true rfl) ⟨by decide, by decide⟩ (by decide) rfl rfl rfl dX0_accepts_95 (n := 98) rfl (fun r26 C27 M0 h => ?_)
                obtain ⟨h, eo⟩ := h
                rw [eo]
                refine V_if_eq X dX0_accepts_98 (tgt := 105) (n := 101) (by decide) rfl (fun c28 => ?_) (fun c28 => ?_)
                · have h := ite_t h c28
                  refine V_iconst X (v := 0) (by decide) dX0_accepts_105 (n := 106) rfl ?_
                  exact kj24 (0 : Int32) C27 h
                · have h := ite_f h c28
                  exact kj23 C27 h
            exact V_tableOut X dX0_accepts_4 (ts_out5 c1 c2 c3 c4 c5) (tgt := 82) (by decide) kd
abbrev rmX0_findError : Room := { frames := 3, cells := 0, slots := 0, locals := 65 }
theorem wX0_findError_22 : Cond.fieldLink RX0 22 "FloodBus$Description" "links" "LFloodBus$Links;" ∈ wsX0_findError := by decide +kernel
theorem wX0_findError_29 : Cond.fieldLink RX0 29 "FloodBus$Description" "linkCount" "I" ∈ wsX0_findError := by decide +kernel
theorem wX0_findError_32 : Cond.fieldLink RX0 32 "FloodBus$Description" "expected" "I" ∈ wsX0_findError := by decide +kernel
theorem wX0_findError_15 : Cond.fieldLink RX0 15 "FloodBus$Description" "length" "I" ∈ wsX0_findError := by decide +kernel
theorem wX0_findError_9 : Cond.fieldLink RX0 9 "FloodBus$Description" "characters" "[I" ∈ wsX0_findError := by decide +kernel
theorem inX0_findError_X0 : ∀ w ∈ wsX00, w ∈ wsX0_findError := by decide +kernel
set_option maxRecDepth 100000 in
set_option maxHeartbeats 4000000 in
theorem TX0_findError_L19 {p : Program} {l : Launch} {e : Env} {s : State} {m : MethodId} {args : Array Value} {below : List Frame} {meth : Method} {c : Code} {D : va_G} {G : Gc} {ρ : Nat → Nat} (X : Cx p s m args c cX0_findError 2 RX0 wsX0_findError D G ρ (WA ρ s.heap.size) s.heap) (hr : meth.sig.returnType = some .int) (hlk : meth.locks = false) (N : Nm)   {E : Int32 → Xm → Prop} {K : Int32 → Xm → Prop} (hE : ∀ (v1 : Int32) (C : Xm), E v1 C → V p l e rmX0_findError s m args below meth c D G ρ (WA ρ s.heap.size) s.heap 2 0 0 (Qi D G ρ s args below (fun r C1 N1 => K r C1 ∧ N1 = N)) 48 [(0, .ref (ρ 1)), (1, .int v1)] [] C N) : ∀ (n : Nat) (v1 : Int32) (C : Xm), fX0_findError_L19  E K n v1 C → V p l e rmX0_findError s m args below meth c D G ρ (WA ρ s.heap.size) s.heap 2 0 0 (Qi D G ρ s args below (fun r C1 N1 => K r C1 ∧ N1 = N)) 19 [(0, .ref (ρ 1)), (1, .int v1)] [] C N := by
  intro n
  induction n with
  | zero => intro v1 C h; exact h.elim
  | succ n ih =>
    intro v1 C h
    unfold fX0_findError_L19 at h
    refine V_iload_n X (q := 1) rfl rfl dX0_findError_19 (n := 20) rfl ?_
    refine V_aload_n X (q := 0) rfl rfl dX0_findError_20 (n := 21) rfl ?_
    refine V_getX X (by decide) rfl rfl (k := 1) inX0_findError_X0 rfl (by decide) wX0_findError_15 dX0_findError_21 (n := 24) rfl ?_
    refine V_icmp_ge X dX0_findError_24 (tgt := 48) (n := 27) (by decide) rfl (fun c4 => ?_) (fun c4 => ?_)
    · have h := ite_t h c4
      exact hE v1 C h
    · have h := ite_f h c4
      refine V_aload_n X (q := 0) rfl rfl dX0_findError_27 (n := 28) rfl ?_
      refine V_aload_n X (q := 0) rfl rfl dX0_findError_28 (n := 29) rfl ?_
      refine V_getR X (by decide) rfl rfl (k := 0) inX0_findError_X0 rfl (by decide) wX0_findError_9 dX0_findError_29 (n := 32) rfl ?_
      refine V_iload_n X (q := 1) rfl rfl dX0_findError_32 (n := 33) rfl ?_
      obtain ⟨g5, h⟩ := h
      refine V_ildX X (by decide) rfl g5 dX0_findError_33 (n := 34) rfl ?_
      refine V_calli X (As := [.int (C 2 (Int32.toNatClampNeg v1))]) (rest := []) (nA := 1) (i := 1) (q := (RX0, TX0, 8)) (TX0_accepts l D G ρ C N (C 2 (Int32.toNatClampNeg v1)) _ h) gX0_findError_X0_accepts rfl rfl rfl (by decide +kernel) rfl ⟨by decide, by decide⟩ (Nat.le_of_ble_eq_true rfl) ⟨by decide, by decide⟩ (by decide) rfl rfl rfl dX0_findError_34 (n := 37) rfl (fun r6 C7 M0 h => ?_)
      obtain ⟨h, eo⟩ := h
      rw [eo]
      refine V_if_ne X dX0_findError_37 (tgt := 42) (n := 40) (by decide) rfl (fun c8 => ?_) (fun c8 => ?_)
      · have h := ite_f h c8
        obtain ⟨x9, ex9⟩ : ∃ z : Int32, z = v1 + (1 : Int32) := ⟨_, rfl⟩
        have h := bd_at h ex9
        refine V_iinc X (q := 1) (d := 1) (L2 := [(1, .int x9), (0, .ref (ρ 1))]) rfl (by decide) (by decide) ex9 rfl dX0_findError_42 (n := 45) rfl ?_
        refine V_goto X dX0_findError_45 (tgt := 19) (by decide) ?_
        refine V_loc [1, 0] rfl ?_
        exact ih x9 C7 h
      · have h := ite_t h c8
        refine V_iload_n X (q := 1) rfl rfl dX0_findError_40 (n := 41) rfl ?_
        exact V_iret X hr hlk dX0_findError_41 ⟨h, rfl⟩
set_option maxRecDepth 100000 in
set_option maxHeartbeats 4000000 in
theorem TX0_findError (l : Launch) (D : va_G) (G : Gc) (ρ : Nat → Nat) (C : Xm) (N : Nm)   (K : Int32 → Xm → Prop) (h : fX0_findError C K) : Ki l yX0_findError wsX0_findError rmX0_findError D G ρ [.ref (ρ 1)] C N (fun r C1 N1 => K r C1 ∧ N1 = N) := by
  refine Ki.ofV (cc := cX0_findError) (maxL := 2) (ret := (some .int)) (by decide +kernel) rfl (Nat.le_of_ble_eq_true rfl) ?_
  intro p e s m args below meth c X hr hlk
  show V p l e rmX0_findError s m args below meth c D G ρ (WA ρ s.heap.size) s.heap 2 0 0 (Qi D G ρ s args below (fun r C1 N1 => K r C1 ∧ N1 = N)) 0 [(0, .ref (ρ 1))] [] C N
  unfold fX0_findError at h
  refine V_aload_n X (q := 0) rfl rfl dX0_findError_0 (n := 1) rfl ?_
  refine V_getR X (by decide) rfl rfl (k := 2) inX0_findError_X0 rfl (by decide) wX0_findError_22 dX0_findError_1 (n := 4) rfl ?_
  refine V_callv X (As := []) (rest := []) (nA := 0) (i := 3) (q := (RX2, TX2, 2)) (TX2_clear l D G ρ C N  _ h) gX0_findError_X2_clear rfl rfl rfl (by decide +kernel) rfl ⟨by decide, by decide⟩ (Nat.le_of_ble_eq_true rfl) ⟨by decide, by decide⟩ (by decide) rfl rfl rfl dX0_findError_4 (n := 7) rfl (fun C1 M0 h => ?_)
  obtain ⟨h, eo⟩ := h
  rw [eo]
  refine V_aload_n X (q := 0) rfl rfl dX0_findError_7 (n := 8) rfl ?_
  refine V_iconst X (v := 0) (by decide) dX0_findError_8 (n := 9) rfl ?_
  refine V_putX X (by decide) rfl rfl (k := 4) inX0_findError_X0 rfl (by decide) wX0_findError_29 tyX0 tyX0_ok nmX0 rfl (by decide +kernel) dX0_findError_9 (n := 12) rfl (fun C2 eC2 => ?_)
  have h := bd_at h eC2
  refine V_aload_n X (q := 0) rfl rfl dX0_findError_12 (n := 13) rfl ?_
  refine V_iconst X (v := 0) (by decide) dX0_findError_13 (n := 14) rfl ?_
  refine V_putX X (by decide) rfl rfl (k := 5) inX0_findError_X0 rfl (by decide) wX0_findError_32 tyX0 tyX0_ok nmX0 rfl (by decide +kernel) dX0_findError_14 (n := 17) rfl (fun C3 eC3 => ?_)
  have h := bd_at h eC3
  refine V_iconst X (v := 0) (by decide) dX0_findError_17 (n := 18) rfl ?_
  refine V_istore_n X (L2 := [(1, .int (0 : Int32)), (0, .ref (ρ 1))]) rfl (by decide) rfl dX0_findError_18 (n := 19) rfl ?_
  refine jn_o h (fun j10 ej10 h => ?_)
  have kj10 : ∀ (x11 : Int32) (C12 : Xm), j10 x11 C12 → V p l e rmX0_findError s m args below meth c D G ρ (WA ρ s.heap.size) s.heap 2 0 0 (Qi D G ρ s args below (fun r C1 N1 => K r C1 ∧ N1 = N)) 48 [(0, .ref (ρ 1)), (1, .int x11)] [] C12 N := by
    intro x11 C12 h
    rw [ej10] at h
    try dsimp only at h
    refine V_aload_n X (q := 0) rfl rfl dX0_findError_48 (n := 49) rfl ?_
    refine V_getX X (by decide) rfl rfl (k := 1) inX0_findError_X0 rfl (by decide) wX0_findError_15 dX0_findError_49 (n := 52) rfl ?_
    exact V_iret X hr hlk dX0_findError_52 ⟨h, rfl⟩
  refine V_loc [1, 0] rfl ?_
  exact TX0_findError_L19 X hr hlk N  (E := j10) (K := K) kj10 200 (0 : Int32) C3 h
abbrev rmX7_errorPosition : Room := { frames := 4, cells := 0, slots := 0, locals := 86 }
theorem wX7_errorPosition_10 : Cond.fieldLink RX7 10 "FloodBus" "description" "LFloodBus$Description;" ∈ wsX7_errorPosition := by decide +kernel
theorem inX7_errorPosition_X7 : ∀ w ∈ wsX70, w ∈ wsX7_errorPosition := by decide +kernel
set_option maxRecDepth 100000 in
set_option maxHeartbeats 4000000 in
theorem TX7_errorPosition (l : Launch) (D : va_G) (G : Gc) (ρ : Nat → Nat) (C : Xm) (N : Nm)   (K : Int32 → Xm → Prop) (h : fX7_errorPosition C K) : Ki l yX7_errorPosition wsX7_errorPosition rmX7_errorPosition D G ρ [.ref (ρ 0)] C N (fun r C1 N1 => K r C1 ∧ N1 = N) := by
  refine Ki.ofV (cc := cX7_errorPosition) (maxL := 1) (ret := (some .int)) (by decide +kernel) rfl (Nat.le_of_ble_eq_true rfl) ?_
  intro p e s m args below meth c X hr hlk
  show V p l e rmX7_errorPosition s m args below meth c D G ρ (WA ρ s.heap.size) s.heap 1 0 0 (Qi D G ρ s args below (fun r C1 N1 => K r C1 ∧ N1 = N)) 0 [(0, .ref (ρ 0))] [] C N
  unfold fX7_errorPosition at h
  refine V_aload_n X (q := 0) rfl rfl dX7_errorPosition_0 (n := 1) rfl ?_
  refine V_getR X (by decide) rfl rfl (k := 0) inX7_errorPosition_X7 rfl (by decide) wX7_errorPosition_10 dX7_errorPosition_1 (n := 4) rfl ?_
  refine V_calli X (As := []) (rest := []) (nA := 0) (i := 1) (q := (RX0, TX0, 8)) (TX0_findError l D G ρ C N  _ h) gX7_errorPosition_X0_findError rfl rfl rfl (by decide +kernel) rfl ⟨by decide, by decide⟩ (Nat.le_of_ble_eq_true rfl) ⟨by decide, by decide⟩ (by decide) rfl rfl rfl dX7_errorPosition_4 (n := 7) rfl (fun r1 C2 M0 h => ?_)
  obtain ⟨h, eo⟩ := h
  rw [eo]
  exact V_iret X hr hlk dX7_errorPosition_7 ⟨h, rfl⟩
abbrev rmX0_isComplete : Room := { frames := 4, cells := 0, slots := 0, locals := 86 }
theorem wX0_isComplete_15 : Cond.fieldLink RX0 15 "FloodBus$Description" "length" "I" ∈ wsX0_isComplete := by decide +kernel
theorem wX0_isComplete_32 : Cond.fieldLink RX0 32 "FloodBus$Description" "expected" "I" ∈ wsX0_isComplete := by decide +kernel
theorem inX0_isComplete_X0 : ∀ w ∈ wsX00, w ∈ wsX0_isComplete := by decide +kernel
set_option maxRecDepth 100000 in
set_option maxHeartbeats 4000000 in
theorem TX0_isComplete (l : Launch) (D : va_G) (G : Gc) (ρ : Nat → Nat) (C : Xm) (N : Nm)   (K : Int32 → Xm → Prop) (h : fX0_isComplete C K) : Ki l yX0_isComplete wsX0_isComplete rmX0_isComplete D G ρ [.ref (ρ 1)] C N (fun r C1 N1 => K r C1 ∧ N1 = N) := by
  refine Ki.ofV (cc := cX0_isComplete) (maxL := 1) (ret := (some .boolean)) (by decide +kernel) rfl (Nat.le_of_ble_eq_true rfl) ?_
  intro p e s m args below meth c X hr hlk
  show V p l e rmX0_isComplete s m args below meth c D G ρ (WA ρ s.heap.size) s.heap 1 0 0 (Qi D G ρ s args below (fun r C1 N1 => K r C1 ∧ N1 = N)) 0 [(0, .ref (ρ 1))] [] C N
  unfold fX0_isComplete at h
  refine V_aload_n X (q := 0) rfl rfl dX0_isComplete_0 (n := 1) rfl ?_
  refine V_calli X (As := []) (rest := []) (nA := 0) (i := 1) (q := (RX0, TX0, 8)) (TX0_findError l D G ρ C N  _ h) gX0_isComplete_X0_findError rfl rfl rfl (by decide +kernel) rfl ⟨by decide, by decide⟩ (Nat.le_of_ble_eq_true rfl) ⟨by decide, by decide⟩ (by decide) rfl rfl rfl dX0_isComplete_1 (n := 4) rfl (fun r1 C2 M0 h => ?_)
  obtain ⟨h, eo⟩ := h
  rw [eo]
  refine V_aload_n X (q := 0) rfl rfl dX0_isComplete_4 (n := 5) rfl ?_
  refine V_getX X (by decide) rfl rfl (k := 1) inX0_isComplete_X0 rfl (by decide) wX0_isComplete_15 dX0_isComplete_5 (n := 8) rfl ?_
  refine jn_o h (fun j4 ej4 h => ?_)
  have kj4 : ∀ (x9 : Int32), j4 x9 → V p l e rmX0_isComplete s m args below meth c D G ρ (WA ρ s.heap.size) s.heap 1 0 0 (Qi D G ρ s args below (fun r C1 N1 => K r C1 ∧ N1 = N)) 32 [(0, .ref (ρ 1))] [.int x9] C2 N := by
    intro x9 h
    rw [ej4] at h
    try dsimp only at h
    obtain ⟨g10, h⟩ := h
    exact V_zret X hr hlk g10 dX0_isComplete_32 ⟨h, rfl⟩
  refine jn_o h (fun j3 ej3 h => ?_)
  have kj3 : j3 → V p l e rmX0_isComplete s m args below meth c D G ρ (WA ρ s.heap.size) s.heap 1 0 0 (Qi D G ρ s args below (fun r C1 N1 => K r C1 ∧ N1 = N)) 31 [(0, .ref (ρ 1))] [] C2 N := by
    intro  h
    rw [ej3] at h
    refine V_iconst X (v := 0) (by decide) dX0_isComplete_31 (n := 32) rfl ?_
    exact kj4 (0 : Int32) h
  refine V_icmp_ne X dX0_isComplete_8 (tgt := 31) (n := 11) (by decide) rfl (fun c5 => ?_) (fun c5 => ?_)
  · have h := ite_f h c5
    exact kj3  h
  · have h := ite_t h c5
    refine V_aload_n X (q := 0) rfl rfl dX0_isComplete_11 (n := 12) rfl ?_
    refine V_getX X (by decide) rfl rfl (k := 5) inX0_isComplete_X0 rfl (by decide) wX0_isComplete_32 dX0_isComplete_12 (n := 15) rfl ?_
    refine V_iconst X (v := 1) (by decide) dX0_isComplete_15 (n := 16) rfl ?_
    refine jn_o h (fun j6 ej6 h => ?_)
    have kj6 : j6 → V p l e rmX0_isComplete s m args below meth c D G ρ (WA ρ s.heap.size) s.heap 1 0 0 (Qi D G ρ s args below (fun r C1 N1 => K r C1 ∧ N1 = N)) 27 [(0, .ref (ρ 1))] [] C2 N := by
      intro  h
      rw [ej6] at h
      refine V_iconst X (v := 1) (by decide) dX0_isComplete_27 (n := 28) rfl ?_
      refine V_goto X dX0_isComplete_28 (tgt := 32) (by decide) ?_
      exact kj4 (1 : Int32) h
    refine V_icmp_eq X dX0_isComplete_16 (tgt := 27) (n := 19) (by decide) rfl (fun c7 => ?_) (fun c7 => ?_)
    · have h := ite_t h c7
      exact kj6  h
    · have h := ite_f h c7
      refine V_aload_n X (q := 0) rfl rfl dX0_isComplete_19 (n := 20) rfl ?_
      refine V_getX X (by decide) rfl rfl (k := 5) inX0_isComplete_X0 rfl (by decide) wX0_isComplete_32 dX0_isComplete_20 (n := 23) rfl ?_
      refine V_iconst X (v := 5) (by decide) dX0_isComplete_23 (n := 24) rfl ?_
      refine V_icmp_ne X dX0_isComplete_24 (tgt := 31) (n := 27) (by decide) rfl (fun c8 => ?_) (fun c8 => ?_)
      · have h := ite_f h c8
        exact kj3  h
      · have h := ite_t h c8
        exact kj6  h
abbrev rmX2_copyFrom : Room := { frames := 1, cells := 0, slots := 0, locals := 60 }
theorem wX2_copyFrom_11 : Cond.fieldLink RX2 11 "FloodBus$Links" "strength" "[[I" ∈ wsX2_copyFrom := by decide +kernel
theorem wX2_copyFrom_251 : Cond.methodLink RX2 25 arraycopyName ∈ wsX2_copyFrom := by decide +kernel
theorem wX2_copyFrom_252 : Cond.native arraycopyName ∈ wsX2_copyFrom := by decide +kernel
theorem wX2_copyFrom_253 : Cond.static arraycopyName ∈ wsX2_copyFrom := by decide +kernel
theorem wX2_copyFrom_254 : Cond.initialized "java/lang/System" ∈ wsX2_copyFrom := by decide +kernel
theorem wX2_copyFrom_16 : Cond.fieldLink RX2 16 "FloodBus$Links" "lossPeriod" "[[I" ∈ wsX2_copyFrom := by decide +kernel
theorem inX2_copyFrom_X2 : ∀ w ∈ wsX20, w ∈ wsX2_copyFrom := by decide +kernel
set_option maxRecDepth 100000 in
set_option maxHeartbeats 4000000 in
theorem TX2_copyFrom_L2 {p : Program} {l : Launch} {e : Env} {s : State} {m : MethodId} {args : Array Value} {below : List Frame} {meth : Method} {c : Code} {D : va_G} {G : Gc} {ρ : Nat → Nat} (X : Cx p s m args c cX2_copyFrom 3 RX2 wsX2_copyFrom D G ρ (WA ρ s.heap.size) s.heap) (hr : meth.sig.returnType = none) (hlk : meth.locks = false) (N : Nm)   {E : Int32 → Xm → Prop} {K : Xm → Prop} (hE : ∀ (v2 : Int32) (C : Xm), E v2 C → V p l e rmX2_copyFrom s m args below meth c D G ρ (WA ρ s.heap.size) s.heap 3 0 0 (Qv D G ρ s args below (fun C1 N1 => K C1 ∧ N1 = N)) 52 [(0, .ref (ρ 23)), (1, .ref (ρ 3)), (2, .int v2)] [] C N) : ∀ (n : Nat) (v2 : Int32) (C : Xm), fX2_copyFrom_L2  E K n v2 C → V p l e rmX2_copyFrom s m args below meth c D G ρ (WA ρ s.heap.size) s.heap 3 0 0 (Qv D G ρ s args below (fun C1 N1 => K C1 ∧ N1 = N)) 2 [(0, .ref (ρ 23)), (1, .ref (ρ 3)), (2, .int v2)] [] C N := by
  intro n
  induction n with
  | zero => intro v2 C h; exact h.elim
  | succ n ih =>
    intro v2 C h
    unfold fX2_copyFrom_L2 at h
    refine V_iload_n X (q := 2) rfl rfl dX2_copyFrom_2 (n := 3) rfl ?_
    refine V_bipush X (v := 8) (by decide) dX2_copyFrom_3 (n := 5) rfl ?_
    refine V_icmp_ge X dX2_copyFrom_5 (tgt := 52) (n := 8) (by decide) rfl (fun c1 => ?_) (fun c1 => ?_)
    · have h := ite_t h c1
      exact hE v2 C h
    · have h := ite_f h c1
      refine V_aload_n X (q := 1) rfl rfl dX2_copyFrom_8 (n := 9) rfl ?_
      refine V_getR X (by decide) rfl rfl (k := 0) inX2_copyFrom_X2 rfl (by decide) wX2_copyFrom_11 dX2_copyFrom_9 (n := 12) rfl ?_
      refine V_iload_n X (q := 2) rfl rfl dX2_copyFrom_12 (n := 13) rfl ?_
      obtain ⟨g2, h⟩ := h
      refine V_aaR X (by decide) rfl g2 dX2_copyFrom_13 (n := 14) rfl ?_
      refine V_iconst X (v := 0) (by decide) dX2_copyFrom_14 (n := 15) rfl ?_
      refine V_aload_n X (q := 0) rfl rfl dX2_copyFrom_15 (n := 16) rfl ?_
      refine V_getR X (by decide) rfl rfl (k := 0) inX2_copyFrom_X2 rfl (by decide) wX2_copyFrom_11 dX2_copyFrom_16 (n := 19) rfl ?_
      refine V_iload_n X (q := 2) rfl rfl dX2_copyFrom_19 (n := 20) rfl ?_
      obtain ⟨g3, h⟩ := h
      refine V_aaR X (by decide) rfl g3 dX2_copyFrom_20 (n := 21) rfl ?_
      refine V_iconst X (v := 0) (by decide) dX2_copyFrom_21 (n := 22) rfl ?_
      refine V_bipush X (v := 8) (by decide) dX2_copyFrom_22 (n := 24) rfl ?_
      refine V_copy X wX2_copyFrom_251 wX2_copyFrom_252 wX2_copyFrom_253 wX2_copyFrom_254 (row_lt g3 (by decide)) (row_lt g3 (by decide)) (row_sh5 g3) (row_sh25 g3) (by decide) (by decide) (by decide) (by decide +kernel) (by decide +kernel) (by decide) (Nat.le_of_ble_eq_true rfl) dX2_copyFrom_24 (n := 27) rfl (fun C4 eC4 => ?_)
      have h := bd_at h eC4
      refine V_aload_n X (q := 1) rfl rfl dX2_copyFrom_27 (n := 28) rfl ?_
      refine V_getR X (by decide) rfl rfl (k := 1) inX2_copyFrom_X2 rfl (by decide) wX2_copyFrom_16 dX2_copyFrom_28 (n := 31) rfl ?_
      refine V_iload_n X (q := 2) rfl rfl dX2_copyFrom_31 (n := 32) rfl ?_
      obtain ⟨g5, h⟩ := h
      refine V_aaR X (by decide) rfl g5 dX2_copyFrom_32 (n := 33) rfl ?_
      refine V_iconst X (v := 0) (by decide) dX2_copyFrom_33 (n := 34) rfl ?_
      refine V_aload_n X (q := 0) rfl rfl dX2_copyFrom_34 (n := 35) rfl ?_
      refine V_getR X (by decide) rfl rfl (k := 1) inX2_copyFrom_X2 rfl (by decide) wX2_copyFrom_16 dX2_copyFrom_35 (n := 38) rfl ?_
      refine V_iload_n X (q := 2) rfl rfl dX2_copyFrom_38 (n := 39) rfl ?_
      obtain ⟨g6, h⟩ := h
      refine V_aaR X (by decide) rfl g6 dX2_copyFrom_39 (n := 40) rfl ?_
      refine V_iconst X (v := 0) (by decide) dX2_copyFrom_40 (n := 41) rfl ?_
      refine V_bipush X (v := 8) (by decide) dX2_copyFrom_41 (n := 43) rfl ?_
      refine V_copy X wX2_copyFrom_251 wX2_copyFrom_252 wX2_copyFrom_253 wX2_copyFrom_254 (row_lt g6 (by decide)) (row_lt g6 (by decide)) (row_sh14 g6) (row_sh34 g6) (by decide) (by decide) (by decide) (by decide +kernel) (by decide +kernel) (by decide) (Nat.le_of_ble_eq_true rfl) dX2_copyFrom_43 (n := 46) rfl (fun C7 eC7 => ?_)
      have h := bd_at h eC7
      obtain ⟨x8, ex8⟩ : ∃ z : Int32, z = v2 + (1 : Int32) := ⟨_, rfl⟩
      have h := bd_at h ex8
      refine V_iinc X (q := 2) (d := 1) (L2 := [(2, .int x8), (0, .ref (ρ 23)), (1, .ref (ρ 3))]) rfl (by decide) (by decide) ex8 rfl dX2_copyFrom_46 (n := 49) rfl ?_
      refine V_goto X dX2_copyFrom_49 (tgt := 2) (by decide) ?_
      refine V_loc [1, 2, 0] rfl ?_
      exact ih x8 C7 h
set_option maxRecDepth 100000 in
set_option maxHeartbeats 4000000 in
theorem TX2_copyFrom (l : Launch) (D : va_G) (G : Gc) (ρ : Nat → Nat) (C : Xm) (N : Nm)   (K : Xm → Prop) (h : fX2_copyFrom C K) : Kv l yX2_copyFrom wsX2_copyFrom rmX2_copyFrom D G ρ [.ref (ρ 23), .ref (ρ 3)] C N (fun C1 N1 => K C1 ∧ N1 = N) := by
  refine Kv.ofV (cc := cX2_copyFrom) (maxL := 3) (ret := none) (by decide +kernel) rfl (Nat.le_of_ble_eq_true rfl) ?_
  intro p e s m args below meth c X hr hlk
  show V p l e rmX2_copyFrom s m args below meth c D G ρ (WA ρ s.heap.size) s.heap 3 0 0 (Qv D G ρ s args below (fun C1 N1 => K C1 ∧ N1 = N)) 0 [(0, .ref (ρ 23)), (1, .ref (ρ 3))] [] C N
  unfold fX2_copyFrom at h
  refine V_iconst X (v := 0) (by decide) dX2_copyFrom_0 (n := 1) rfl ?_
  refine V_istore_n X (L2 := [(2, .int (0 : Int32)), (0, .ref (ρ 23)), (1, .ref (ρ 3))]) rfl (by decide) rfl dX2_copyFrom_1 (n := 2) rfl ?_
  refine jn_o h (fun j9 ej9 h => ?_)
  have kj9 : ∀ (x10 : Int32) (C11 : Xm), j9 x10 C11 → V p l e rmX2_copyFrom s m args below meth c D G ρ (WA ρ s.heap.size) s.heap 3 0 0 (Qv D G ρ s args below (fun C1 N1 => K C1 ∧ N1 = N)) 52 [(0, .ref (ρ 23)), (1, .ref (ρ 3)), (2, .int x10)] [] C11 N := by
    intro x10 C11 h
    rw [ej9] at h
    try dsimp only at h
    exact V_vret X hr hlk dX2_copyFrom_52 ⟨h, rfl⟩
  refine V_loc [1, 2, 0] rfl ?_
  exact TX2_copyFrom_L2 X hr hlk N  (E := j9) (K := K) kj9 200 (0 : Int32) C h
abbrev rmX3_startAnew : Room := { frames := 2, cells := 0, slots := 0, locals := 82 }
theorem wX3_startAnew_12 : Cond.fieldLink RX3 12 "FloodBus$Network" "links" "LFloodBus$Links;" ∈ wsX3_startAnew := by decide +kernel
theorem wX3_startAnew_18 : Cond.fieldLink RX3 18 "FloodBus$Network" "count" "I" ∈ wsX3_startAnew := by decide +kernel
theorem wX3_startAnew_22 : Cond.fieldLink RX3 22 "FloodBus$Network" "alive" "[Z" ∈ wsX3_startAnew := by decide +kernel
theorem wX3_startAnew_26 : Cond.fieldLink RX3 26 "FloodBus$Network" "missed" "[I" ∈ wsX3_startAnew := by decide +kernel
theorem wX3_startAnew_30 : Cond.fieldLink RX3 30 "FloodBus$Network" "sent" "[I" ∈ wsX3_startAnew := by decide +kernel
theorem inX3_startAnew_X3 : ∀ w ∈ wsX30, w ∈ wsX3_startAnew := by decide +kernel
set_option maxRecDepth 100000 in
set_option maxHeartbeats 4000000 in
theorem TX3_startAnew_L15 {p : Program} {l : Launch} {e : Env} {s : State} {m : MethodId} {args : Array Value} {below : List Frame} {meth : Method} {c : Code} {D : va_G} {G : Gc} {ρ : Nat → Nat} (X : Cx p s m args c cX3_startAnew 4 RX3 wsX3_startAnew D G ρ (WA ρ s.heap.size) s.heap) (hr : meth.sig.returnType = none) (hlk : meth.locks = false) (N : Nm) (p1 : Int32)  {E : Int32 → Xm → Prop} {K : Xm → Prop} (hE : ∀ (v3 : Int32) (C : Xm), E v3 C → V p l e rmX3_startAnew s m args below meth c D G ρ (WA ρ s.heap.size) s.heap 4 0 0 (Qv D G ρ s args below (fun C1 N1 => K C1 ∧ N1 = N)) 48 [(0, .ref (ρ 22)), (1, .int p1), (2, .ref (ρ 3)), (3, .int v3)] [] C N) : ∀ (n : Nat) (v3 : Int32) (C : Xm), fX3_startAnew_L15 p1 E K n v3 C → V p l e rmX3_startAnew s m args below meth c D G ρ (WA ρ s.heap.size) s.heap 4 0 0 (Qv D G ρ s args below (fun C1 N1 => K C1 ∧ N1 = N)) 15 [(0, .ref (ρ 22)), (1, .int p1), (2, .ref (ρ 3)), (3, .int v3)] [] C N := by
  intro n
  induction n with
  | zero => intro v3 C h; exact h.elim
  | succ n ih =>
    intro v3 C h
    unfold fX3_startAnew_L15 at h
    refine V_iload_n X (q := 3) rfl rfl dX3_startAnew_15 (n := 16) rfl ?_
    refine V_bipush X (v := 8) (by decide) dX3_startAnew_16 (n := 18) rfl ?_
    refine V_icmp_ge X dX3_startAnew_18 (tgt := 48) (n := 21) (by decide) rfl (fun c3 => ?_) (fun c3 => ?_)
    · have h := ite_t h c3
      exact hE v3 C h
    · have h := ite_f h c3
      refine V_aload_n X (q := 0) rfl rfl dX3_startAnew_21 (n := 22) rfl ?_
      refine V_getR X (by decide) rfl rfl (k := 2) inX3_startAnew_X3 rfl (by decide) wX3_startAnew_22 dX3_startAnew_22 (n := 25) rfl ?_
      refine V_iload_n X (q := 3) rfl rfl dX3_startAnew_25 (n := 26) rfl ?_
      refine V_iconst X (v := 1) (by decide) dX3_startAnew_26 (n := 27) rfl ?_
      obtain ⟨g4, h⟩ := h
      refine V_zstX X (by decide) (by decide) rfl g4 dX3_startAnew_27 (n := 28) rfl (fun C5 eC5 => ?_)
      have h := bd_at h eC5
      refine V_aload_n X (q := 0) rfl rfl dX3_startAnew_28 (n := 29) rfl ?_
      refine V_getR X (by decide) rfl rfl (k := 3) inX3_startAnew_X3 rfl (by decide) wX3_startAnew_26 dX3_startAnew_29 (n := 32) rfl ?_
      refine V_iload_n X (q := 3) rfl rfl dX3_startAnew_32 (n := 33) rfl ?_
      refine V_iconst X (v := 0) (by decide) dX3_startAnew_33 (n := 34) rfl ?_
      obtain ⟨g6, h⟩ := h
      refine V_istX X (by decide) rfl g6 dX3_startAnew_34 (n := 35) rfl (fun C7 eC7 => ?_)
      have h := bd_at h eC7
      refine V_aload_n X (q := 0) rfl rfl dX3_startAnew_35 (n := 36) rfl ?_
      refine V_getR X (by decide) rfl rfl (k := 4) inX3_startAnew_X3 rfl (by decide) wX3_startAnew_30 dX3_startAnew_36 (n := 39) rfl ?_
      refine V_iload_n X (q := 3) rfl rfl dX3_startAnew_39 (n := 40) rfl ?_
      refine V_iconst X (v := 0) (by decide) dX3_startAnew_40 (n := 41) rfl ?_
      obtain ⟨g8, h⟩ := h
      refine V_istX X (by decide) rfl g8 dX3_startAnew_41 (n := 42) rfl (fun C9 eC9 => ?_)
      have h := bd_at h eC9
      obtain ⟨x10, ex10⟩ : ∃ z : Int32, z = v3 + (1 : Int32) := ⟨_, rfl⟩
      have h := bd_at h ex10
      refine V_iinc X (q := 3) (d := 1) (L2 := [(3, .int x10), (0, .ref (ρ 22)), (1, .int p1), (2, .ref (ρ 3))]) rfl (by decide) (by decide) ex10 rfl dX3_startAnew_42 (n := 45) rfl ?_
      refine V_goto X dX3_startAnew_45 (tgt := 15) (by decide) ?_
      refine V_loc [1, 2, 3, 0] rfl ?_
      exact ih x10 C9 h
set_option maxRecDepth 100000 in
set_option maxHeartbeats 4000000 in
theorem TX3_startAnew (l : Launch) (D : va_G) (G : Gc) (ρ : Nat → Nat) (C : Xm) (N : Nm)  (a1 : Int32) (K : Xm → Prop) (h : fX3_startAnew C a1 K) : Kv l yX3_startAnew wsX3_startAnew rmX3_startAnew D G ρ [.ref (ρ 22), .int a1, .ref (ρ 3)] C N (fun C1 N1 => K C1 ∧ N1 = N) := by
  refine Kv.ofV (cc := cX3_startAnew) (maxL := 4) (ret := none) (by decide +kernel) rfl (Nat.le_of_ble_eq_true rfl) ?_
  intro p e s m args below meth c X hr hlk
  show V p l e rmX3_startAnew s m args below meth c D G ρ (WA ρ s.heap.size) s.heap 4 0 0 (Qv D G ρ s args below (fun C1 N1 => K C1 ∧ N1 = N)) 0 [(0, .ref (ρ 22)), (1, .int a1), (2, .ref (ρ 3))] [] C N
  unfold fX3_startAnew at h
  refine V_aload_n X (q := 0) rfl rfl dX3_startAnew_0 (n := 1) rfl ?_
  refine V_getR X (by decide) rfl rfl (k := 0) inX3_startAnew_X3 rfl (by decide) wX3_startAnew_12 dX3_startAnew_1 (n := 4) rfl ?_
  refine V_aload_n X (q := 2) rfl rfl dX3_startAnew_4 (n := 5) rfl ?_
  refine V_callv X (As := [.ref (ρ 3)]) (rest := []) (nA := 1) (i := 23) (q := (RX2, TX2, 2)) (TX2_copyFrom l D G ρ C N  _ h) gX3_startAnew_X2_copyFrom rfl rfl rfl (by decide +kernel) rfl ⟨by decide, by decide⟩ (Nat.le_of_ble_eq_true rfl) ⟨by decide, by decide⟩ (by decide) rfl rfl rfl dX3_startAnew_5 (n := 8) rfl (fun C1 M0 h => ?_)
  obtain ⟨h, eo⟩ := h
  rw [eo]
  refine V_aload_n X (q := 0) rfl rfl dX3_startAnew_8 (n := 9) rfl ?_
  refine V_iload_n X (q := 1) rfl rfl dX3_startAnew_9 (n := 10) rfl ?_
  refine V_putX X (by decide) rfl rfl (k := 1) inX3_startAnew_X3 rfl (by decide) wX3_startAnew_18 tyX3 tyX3_ok nmX3 rfl (by decide +kernel) dX3_startAnew_10 (n := 13) rfl (fun C2 eC2 => ?_)
  have h := bd_at h eC2
  refine V_iconst X (v := 0) (by decide) dX3_startAnew_13 (n := 14) rfl ?_
  refine V_istore_n X (L2 := [(3, .int (0 : Int32)), (0, .ref (ρ 22)), (1, .int a1), (2, .ref (ρ 3))]) rfl (by decide) rfl dX3_startAnew_14 (n := 15) rfl ?_
  refine jn_o h (fun j11 ej11 h => ?_)
  have kj11 : ∀ (x12 : Int32) (C13 : Xm), j11 x12 C13 → V p l e rmX3_startAnew s m args below meth c D G ρ (WA ρ s.heap.size) s.heap 4 0 0 (Qv D G ρ s args below (fun C1 N1 => K C1 ∧ N1 = N)) 48 [(0, .ref (ρ 22)), (1, .int a1), (2, .ref (ρ 3)), (3, .int x12)] [] C13 N := by
    intro x12 C13 h
    rw [ej11] at h
    try dsimp only at h
    exact V_vret X hr hlk dX3_startAnew_48 ⟨h, rfl⟩
  refine V_loc [1, 2, 3, 0] rfl ?_
  exact TX3_startAnew_L15 X hr hlk N a1 (E := j11) (K := K) kj11 200 (0 : Int32) C2 h
abbrev rmX1_forget : Room := { frames := 1, cells := 0, slots := 0, locals := 23 }
theorem wX1_forget_15 : Cond.fieldLink RX1 15 "FloodBus$Flooding" "packet" "[I" ∈ wsX1_forget := by decide +kernel
theorem wX1_forget_18 : Cond.fieldLink RX1 18 "FloodBus$Flooding" "hops" "[I" ∈ wsX1_forget := by decide +kernel
theorem wX1_forget_21 : Cond.fieldLink RX1 21 "FloodBus$Flooding" "length" "I" ∈ wsX1_forget := by decide +kernel
theorem inX1_forget_X1 : ∀ w ∈ wsX10, w ∈ wsX1_forget := by decide +kernel
set_option maxRecDepth 100000 in
set_option maxHeartbeats 4000000 in
theorem TX1_forget (l : Launch) (D : va_G) (G : Gc) (ρ : Nat → Nat) (C : Xm) (N : Nm)   (K : Xm → Prop) (h : fX1_forget C K) : Kv l yX1_forget wsX1_forget rmX1_forget D G ρ [.ref (ρ 46)] C N (fun C1 N1 => K C1 ∧ N1 = N) := by
  refine Kv.ofV (cc := cX1_forget) (maxL := 1) (ret := none) (by decide +kernel) rfl (Nat.le_of_ble_eq_true rfl) ?_
  intro p e s m args below meth c X hr hlk
  show V p l e rmX1_forget s m args below meth c D G ρ (WA ρ s.heap.size) s.heap 1 0 0 (Qv D G ρ s args below (fun C1 N1 => K C1 ∧ N1 = N)) 0 [(0, .ref (ρ 46))] [] C N
  unfold fX1_forget at h
  refine V_aload_n X (q := 0) rfl rfl dX1_forget_0 (n := 1) rfl ?_
  refine V_getR X (by decide) rfl rfl (k := 1) inX1_forget_X1 rfl (by decide) wX1_forget_15 dX1_forget_1 (n := 4) rfl ?_
  refine V_iconst X (v := -1) (by decide) dX1_forget_4 (n := 5) rfl ?_
  refine V_callsv X (As := [.ref (ρ 48), .int (-1 : Int32)]) (rest := []) (nA := 2) (T_fill l D G ρ C N (by decide) rfl (n0 := 8) (by decide) (-1 : Int32)) gX1_forget_J7_fill_53178 rfl rfl rfl (by decide +kernel) rfl ⟨by decide, by decide⟩ (Nat.le_of_ble_eq_true rfl) ⟨by decide, by decide⟩ rfl dX1_forget_5 (n := 8) rfl (fun C1 N0 hp => ?_)
  obtain ⟨eC1, eo⟩ := hp
  rw [eo]
  have h := bd_at h eC1
  refine V_aload_n X (q := 0) rfl rfl dX1_forget_8 (n := 9) rfl ?_
  refine V_getR X (by decide) rfl rfl (k := 2) inX1_forget_X1 rfl (by decide) wX1_forget_18 dX1_forget_9 (n := 12) rfl ?_
  refine V_iconst X (v := -1) (by decide) dX1_forget_12 (n := 13) rfl ?_
  refine V_callsv X (As := [.ref (ρ 49), .int (-1 : Int32)]) (rest := []) (nA := 2) (T_fill l D G ρ C1 N (by decide) rfl (n0 := 8) (by decide) (-1 : Int32)) gX1_forget_J7_fill_53178 rfl rfl rfl (by decide +kernel) rfl ⟨by decide, by decide⟩ (Nat.le_of_ble_eq_true rfl) ⟨by decide, by decide⟩ rfl dX1_forget_13 (n := 16) rfl (fun C2 N0 hp => ?_)
  obtain ⟨eC2, eo⟩ := hp
  rw [eo]
  have h := bd_at h eC2
  refine V_aload_n X (q := 0) rfl rfl dX1_forget_16 (n := 17) rfl ?_
  refine V_iconst X (v := 0) (by decide) dX1_forget_17 (n := 18) rfl ?_
  refine V_putX X (by decide) rfl rfl (k := 3) inX1_forget_X1 rfl (by decide) wX1_forget_21 tyX1 tyX1_ok nmX1 rfl (by decide +kernel) dX1_forget_18 (n := 21) rfl (fun C3 eC3 => ?_)
  have h := bd_at h eC3
  exact V_vret X hr hlk dX1_forget_21 ⟨h, rfl⟩
abbrev rmX7_loadNetwork : Room := { frames := 5, cells := 0, slots := 0, locals := 106 }
theorem wX7_loadNetwork_10 : Cond.fieldLink RX7 10 "FloodBus" "description" "LFloodBus$Description;" ∈ wsX7_loadNetwork := by decide +kernel
theorem wX7_loadNetwork_19 : Cond.fieldLink RX7 19 "FloodBus" "network" "LFloodBus$Network;" ∈ wsX7_loadNetwork := by decide +kernel
theorem wX7_loadNetwork_72 : Cond.fieldLink RX7 72 "FloodBus$Description" "nodeCount" "I" ∈ wsX7_loadNetwork := by decide +kernel
theorem wX7_loadNetwork_75 : Cond.fieldLink RX7 75 "FloodBus$Description" "links" "LFloodBus$Links;" ∈ wsX7_loadNetwork := by decide +kernel
theorem wX7_loadNetwork_61 : Cond.fieldLink RX7 61 "FloodBus$Description" "length" "I" ∈ wsX7_loadNetwork := by decide +kernel
theorem wX7_loadNetwork_26 : Cond.fieldLink RX7 26 "FloodBus" "latestFlood" "LFloodBus$Flooding;" ∈ wsX7_loadNetwork := by decide +kernel
theorem wX7_loadNetwork_33 : Cond.fieldLink RX7 33 "FloodBus" "streams" "LFloodBus$StreamTable;" ∈ wsX7_loadNetwork := by decide +kernel
theorem wX7_loadNetwork_86 : Cond.fieldLink RX7 86 "FloodBus$StreamTable" "count" "I" ∈ wsX7_loadNetwork := by decide +kernel
theorem wX7_loadNetwork_40 : Cond.fieldLink RX7 40 "FloodBus" "schedule" "LFloodBus$Schedule;" ∈ wsX7_loadNetwork := by decide +kernel
theorem wX7_loadNetwork_89 : Cond.fieldLink RX7 89 "FloodBus$Schedule" "size" "I" ∈ wsX7_loadNetwork := by decide +kernel
theorem wX7_loadNetwork_51 : Cond.fieldLink RX7 51 "FloodBus" "hostNode" "I" ∈ wsX7_loadNetwork := by decide +kernel
theorem wX7_loadNetwork_54 : Cond.fieldLink RX7 54 "FloodBus" "nextRound" "I" ∈ wsX7_loadNetwork := by decide +kernel
theorem wX7_loadNetwork_92 : Cond.fieldLink RX7 92 "FloodBus$Network" "count" "I" ∈ wsX7_loadNetwork := by decide +kernel
theorem inX7_loadNetwork_X7 : ∀ w ∈ wsX70, w ∈ wsX7_loadNetwork := by decide +kernel
theorem inX7_loadNetwork_X0 : ∀ w ∈ wsX00, w ∈ wsX7_loadNetwork := by decide +kernel
theorem inX7_loadNetwork_X6 : ∀ w ∈ wsX60, w ∈ wsX7_loadNetwork := by decide +kernel
theorem inX7_loadNetwork_X4 : ∀ w ∈ wsX40, w ∈ wsX7_loadNetwork := by decide +kernel
theorem inX7_loadNetwork_X3 : ∀ w ∈ wsX30, w ∈ wsX7_loadNetwork := by decide +kernel
set_option maxRecDepth 100000 in
set_option maxHeartbeats 4000000 in
theorem TX7_loadNetwork (l : Launch) (D : va_G) (G : Gc) (ρ : Nat → Nat) (C : Xm) (N : Nm)   (K : Int32 → Xm → Prop) (h : fX7_loadNetwork C K) : Ki l yX7_loadNetwork wsX7_loadNetwork rmX7_loadNetwork D G ρ [.ref (ρ 0)] C N (fun r C1 N1 => K r C1 ∧ N1 = N) := by
  refine Ki.ofV (cc := cX7_loadNetwork) (maxL := 1) (ret := (some .int)) (by decide +kernel) rfl (Nat.le_of_ble_eq_true rfl) ?_
  intro p e s m args below meth c X hr hlk
  show V p l e rmX7_loadNetwork s m args below meth c D G ρ (WA ρ s.heap.size) s.heap 1 0 0 (Qi D G ρ s args below (fun r C1 N1 => K r C1 ∧ N1 = N)) 0 [(0, .ref (ρ 0))] [] C N
  unfold fX7_loadNetwork at h
  refine V_aload_n X (q := 0) rfl rfl dX7_loadNetwork_0 (n := 1) rfl ?_
  refine V_getR X (by decide) rfl rfl (k := 0) inX7_loadNetwork_X7 rfl (by decide) wX7_loadNetwork_10 dX7_loadNetwork_1 (n := 4) rfl ?_
  refine V_calli X (As := []) (rest := []) (nA := 0) (i := 1) (q := (RX0, TX0, 8)) (TX0_isComplete l D G ρ C N  _ h) gX7_loadNetwork_X0_isComplete rfl rfl rfl (by decide +kernel) rfl ⟨by decide, by decide⟩ (Nat.le_of_ble_eq_true rfl) ⟨by decide, by decide⟩ (by decide) rfl rfl rfl dX7_loadNetwork_4 (n := 7) rfl (fun r1 C2 M0 h => ?_)
  obtain ⟨h, eo⟩ := h
  rw [eo]
  refine V_if_ne X dX7_loadNetwork_7 (tgt := 14) (n := 10) (by decide) rfl (fun c3 => ?_) (fun c3 => ?_)
  · have h := ite_f h c3
    refine V_aload_n X (q := 0) rfl rfl dX7_loadNetwork_14 (n := 15) rfl ?_
    refine V_getR X (by decide) rfl rfl (k := 1) inX7_loadNetwork_X7 rfl (by decide) wX7_loadNetwork_19 dX7_loadNetwork_15 (n := 18) rfl ?_
    refine V_aload_n X (q := 0) rfl rfl dX7_loadNetwork_18 (n := 19) rfl ?_
    refine V_getR X (by decide) rfl rfl (k := 0) inX7_loadNetwork_X7 rfl (by decide) wX7_loadNetwork_10 dX7_loadNetwork_19 (n := 22) rfl ?_
    refine V_getX X (by decide) rfl rfl (k := 3) inX7_loadNetwork_X0 rfl (by decide) wX7_loadNetwork_72 dX7_loadNetwork_22 (n := 25) rfl ?_
    refine V_aload_n X (q := 0) rfl rfl dX7_loadNetwork_25 (n := 26) rfl ?_
    refine V_getR X (by decide) rfl rfl (k := 0) inX7_loadNetwork_X7 rfl (by decide) wX7_loadNetwork_10 dX7_loadNetwork_26 (n := 29) rfl ?_
    refine V_getR X (by decide) rfl rfl (k := 2) inX7_loadNetwork_X0 rfl (by decide) wX7_loadNetwork_75 dX7_loadNetwork_29 (n := 32) rfl ?_
    refine V_callv X (As := [.int (C2 1 3), .ref (ρ 3)]) (rest := []) (nA := 2) (i := 22) (q := (RX3, TX3, 6)) (TX3_startAnew l D G ρ C2 N (C2 1 3) _ h) gX7_loadNetwork_X3_startAnew rfl rfl rfl (by decide +kernel) rfl ⟨by decide, by decide⟩ (Nat.le_of_ble_eq_true rfl) ⟨by decide, by decide⟩ (by decide) rfl rfl rfl dX7_loadNetwork_32 (n := 35) rfl (fun C4 M0 h => ?_)
    obtain ⟨h, eo⟩ := h
    rw [eo]
    refine V_aload_n X (q := 0) rfl rfl dX7_loadNetwork_35 (n := 36) rfl ?_
    refine V_getR X (by decide) rfl rfl (k := 0) inX7_loadNetwork_X7 rfl (by decide) wX7_loadNetwork_10 dX7_loadNetwork_36 (n := 39) rfl ?_
    refine V_iconst X (v := 0) (by decide) dX7_loadNetwork_39 (n := 40) rfl ?_
    refine V_putX X (by decide) rfl rfl (k := 1) inX7_loadNetwork_X0 rfl (by decide) wX7_loadNetwork_61 tyX0 tyX0_ok nmX0 rfl (by decide +kernel) dX7_loadNetwork_40 (n := 43) rfl (fun C5 eC5 => ?_)
    have h := bd_at h eC5
    refine V_aload_n X (q := 0) rfl rfl dX7_loadNetwork_43 (n := 44) rfl ?_
    refine V_getR X (by decide) rfl rfl (k := 2) inX7_loadNetwork_X7 rfl (by decide) wX7_loadNetwork_26 dX7_loadNetwork_44 (n := 47) rfl ?_
    refine V_callv X (As := []) (rest := []) (nA := 0) (i := 46) (q := (RX1, TX1, 6)) (TX1_forget l D G ρ C5 N  _ h) gX7_loadNetwork_X1_forget rfl rfl rfl (by decide +kernel) rfl ⟨by decide, by decide⟩ (Nat.le_of_ble_eq_true rfl) ⟨by decide, by decide⟩ (by decide) rfl rfl rfl dX7_loadNetwork_47 (n := 50) rfl (fun C6 M0 h => ?_)
    obtain ⟨h, eo⟩ := h
    rw [eo]
    refine V_aload_n X (q := 0) rfl rfl dX7_loadNetwork_50 (n := 51) rfl ?_
    refine V_getR X (by decide) rfl rfl (k := 3) inX7_loadNetwork_X7 rfl (by decide) wX7_loadNetwork_33 dX7_loadNetwork_51 (n := 54) rfl ?_
    refine V_iconst X (v := 0) (by decide) dX7_loadNetwork_54 (n := 55) rfl ?_
    refine V_putX X (by decide) rfl rfl (k := 1) inX7_loadNetwork_X6 rfl (by decide) wX7_loadNetwork_86 tyX6 tyX6_ok nmX6 rfl (by decide +kernel) dX7_loadNetwork_55 (n := 58) rfl (fun C7 eC7 => ?_)
    have h := bd_at h eC7
    refine V_aload_n X (q := 0) rfl rfl dX7_loadNetwork_58 (n := 59) rfl ?_
    refine V_getR X (by decide) rfl rfl (k := 4) inX7_loadNetwork_X7 rfl (by decide) wX7_loadNetwork_40 dX7_loadNetwork_59 (n := 62) rfl ?_
    refine V_iconst X (v := 0) (by decide) dX7_loadNetwork_62 (n := 63) rfl ?_
    refine V_putX X (by decide) rfl rfl (k := 1) inX7_loadNetwork_X4 rfl (by decide) wX7_loadNetwork_89 tyX4 tyX4_ok nmX4 rfl (by decide +kernel) dX7_loadNetwork_63 (n := 66) rfl (fun C8 eC8 => ?_)
    have h := bd_at h eC8
    refine V_aload_n X (q := 0) rfl rfl dX7_loadNetwork_66 (n := 67) rfl ?_
    refine V_iconst X (v := 0) (by decide) dX7_loadNetwork_67 (n := 68) rfl ?_
    refine V_putX X (by decide) rfl rfl (k := 7) inX7_loadNetwork_X7 rfl (by decide) wX7_loadNetwork_51 tyX7 tyX7_ok nmX7 rfl (by decide +kernel) dX7_loadNetwork_68 (n := 71) rfl (fun C9 eC9 => ?_)
    have h := bd_at h eC9
    refine V_aload_n X (q := 0) rfl rfl dX7_loadNetwork_71 (n := 72) rfl ?_
    refine V_iconst X (v := 0) (by decide) dX7_loadNetwork_72 (n := 73) rfl ?_
    refine V_putX X (by decide) rfl rfl (k := 8) inX7_loadNetwork_X7 rfl (by decide) wX7_loadNetwork_54 tyX7 tyX7_ok nmX7 rfl (by decide +kernel) dX7_loadNetwork_73 (n := 76) rfl (fun C10 eC10 => ?_)
    have h := bd_at h eC10
    refine V_aload_n X (q := 0) rfl rfl dX7_loadNetwork_76 (n := 77) rfl ?_
    refine V_getR X (by decide) rfl rfl (k := 1) inX7_loadNetwork_X7 rfl (by decide) wX7_loadNetwork_19 dX7_loadNetwork_77 (n := 80) rfl ?_
    refine V_getX X (by decide) rfl rfl (k := 1) inX7_loadNetwork_X3 rfl (by decide) wX7_loadNetwork_92 dX7_loadNetwork_80 (n := 83) rfl ?_
    exact V_iret X hr hlk dX7_loadNetwork_83 ⟨h, rfl⟩
  · have h := ite_t h c3
    refine V_sipush X (v := -1003) (by decide) dX7_loadNetwork_10 (n := 13) rfl ?_
    exact V_iret X hr hlk dX7_loadNetwork_13 ⟨h, rfl⟩
