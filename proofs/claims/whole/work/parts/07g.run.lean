abbrev rmX8_flood : Room := { frames := 3, cells := 0, slots := 0, locals := 72 }
theorem wX8_flood_129 : Cond.fieldLink RX8 129 "FloodBusModel" "nodes" "I" ∈ wsX8_flood := by decide +kernel
theorem wX8_flood_25 : Cond.fieldLink RX8 25 "FloodBusModel" "alive" "[Z" ∈ wsX8_flood := by decide +kernel
theorem inX8_flood_X8 : ∀ w ∈ wsX80, w ∈ wsX8_flood := by decide +kernel
set_option maxRecDepth 100000 in
set_option maxHeartbeats 4000000 in
theorem TX8_flood_L22 {p : Program} {l : Launch} {e : Env} {s : State} {m : MethodId} {args : Array Value} {below : List Frame} {meth : Method} {c : Code} {D : va_G} {G : Gc} {ρ : Nat → Nat} (X : Cx p s m args c cX8_flood 4 RX8 wsX8_flood D G ρ (WA ρ s.heap.size) s.heap) (hr : meth.sig.returnType = some .int) (hlk : meth.locks = false) (C : Xm) (N : Nm) (p1 : Int32)  {E : Int32 → Int32 → Prop} {K : Int32 → Nm → Prop} (hE : ∀ (v2 : Int32) (v3 : Int32), E v2 v3 → V p l e rmX8_flood s m args below meth c D G ρ (WA ρ s.heap.size) s.heap 4 0 0 (Qi D G ρ s args below (fun r C1 N1 => K r N1 ∧ C1 = C)) 63 [(0, .ref (ρ 66)), (1, .int p1), (2, .int v2), (3, .int v3)] [] C N) : ∀ (n : Nat) (v2 : Int32) (v3 : Int32), fX8_flood_L22 N p1 E K n v2 v3 → V p l e rmX8_flood s m args below meth c D G ρ (WA ρ s.heap.size) s.heap 4 0 0 (Qi D G ρ s args below (fun r C1 N1 => K r N1 ∧ C1 = C)) 22 [(0, .ref (ρ 66)), (1, .int p1), (2, .int v2), (3, .int v3)] [] C N := by
  intro n
  induction n with
  | zero => intro v2 v3 h; exact h.elim
  | succ n ih =>
    intro v2 v3 h
    unfold fX8_flood_L22 at h
    refine V_iload_n X (q := 3) rfl rfl dX8_flood_22 (n := 23) rfl ?_
    refine V_aload_n X (q := 0) rfl rfl dX8_flood_23 (n := 24) rfl ?_
    refine V_getN X (by decide) (by decide) rfl rfl (k := 2) inX8_flood_X8 rfl (by decide) wX8_flood_129 dX8_flood_24 (n := 27) rfl ?_
    refine V_icmp_ge X dX8_flood_27 (tgt := 63) (n := 30) (by decide) rfl (fun c4 => ?_) (fun c4 => ?_)
    · have h := ite_t h c4
      exact hE v2 v3 h
    · have h := ite_f h c4
      refine V_iload_n X (q := 2) rfl rfl dX8_flood_30 (n := 31) rfl ?_
      refine jn_o h (fun j6 ej6 h => ?_)
      have kj6 : ∀ (x12 : Int32), j6 x12 → V p l e rmX8_flood s m args below meth c D G ρ (WA ρ s.heap.size) s.heap 4 0 0 (Qi D G ρ s args below (fun r C1 N1 => K r N1 ∧ C1 = C)) 56 [(0, .ref (ρ 66)), (1, .int p1), (2, .int v2), (3, .int v3)] [.int x12] C N := by
        intro x12 h
        rw [ej6] at h
        try dsimp only at h
        refine V_istore_n X (L2 := [(2, .int x12), (0, .ref (ρ 66)), (1, .int p1), (3, .int v3)]) rfl (by decide) rfl dX8_flood_56 (n := 57) rfl ?_
        obtain ⟨x13, ex13⟩ : ∃ z : Int32, z = v3 + (1 : Int32) := ⟨_, rfl⟩
        have h := bd_at h ex13
        refine V_iinc X (q := 3) (d := 1) (L2 := [(3, .int x13), (2, .int x12), (0, .ref (ρ 66)), (1, .int p1)]) rfl (by decide) (by decide) ex13 rfl dX8_flood_57 (n := 60) rfl ?_
        refine V_goto X dX8_flood_60 (tgt := 22) (by decide) ?_
        refine V_loc [2, 3, 1, 0] rfl ?_
        exact ih x12 x13 h
      refine jn_o h (fun j5 ej5 h => ?_)
      have kj5 : j5 → V p l e rmX8_flood s m args below meth c D G ρ (WA ρ s.heap.size) s.heap 4 0 0 (Qi D G ρ s args below (fun r C1 N1 => K r N1 ∧ C1 = C)) 55 [(0, .ref (ρ 66)), (1, .int p1), (2, .int v2), (3, .int v3)] [] C N := by
        intro  h
        rw [ej5] at h
        refine V_iconst X (v := 0) (by decide) dX8_flood_55 (n := 56) rfl ?_
        exact kj6 (0 : Int32) h
      refine V_if_eq X dX8_flood_31 (tgt := 55) (n := 34) (by decide) rfl (fun c7 => ?_) (fun c7 => ?_)
      · have h := ite_t h c7
        exact kj5  h
      · have h := ite_f h c7
        refine V_iload_n X (q := 1) rfl rfl dX8_flood_34 (n := 35) rfl ?_
        refine V_iload_n X (q := 3) rfl rfl dX8_flood_35 (n := 36) rfl ?_
        refine V_ishr X dX8_flood_36 (n := 37) rfl ?_
        refine V_iconst X (v := 1) (by decide) dX8_flood_37 (n := 38) rfl ?_
        refine V_iand X dX8_flood_38 (n := 39) rfl ?_
        refine jn_o h (fun j8 ej8 h => ?_)
        have kj8 : j8 → V p l e rmX8_flood s m args below meth c D G ρ (WA ρ s.heap.size) s.heap 4 0 0 (Qi D G ρ s args below (fun r C1 N1 => K r N1 ∧ C1 = C)) 51 [(0, .ref (ρ 66)), (1, .int p1), (2, .int v2), (3, .int v3)] [] C N := by
          intro  h
          rw [ej8] at h
          refine V_iconst X (v := 1) (by decide) dX8_flood_51 (n := 52) rfl ?_
          refine V_goto X dX8_flood_52 (tgt := 56) (by decide) ?_
          exact kj6 (1 : Int32) h
        refine V_if_eq X dX8_flood_39 (tgt := 51) (n := 42) (by decide) rfl (fun c9 => ?_) (fun c9 => ?_)
        · have h := ite_t h c9
          exact kj8  h
        · have h := ite_f h c9
          refine V_aload_n X (q := 0) rfl rfl dX8_flood_42 (n := 43) rfl ?_
          refine V_getR X (by decide) rfl rfl (k := 8) inX8_flood_X8 rfl (by decide) wX8_flood_25 dX8_flood_43 (n := 46) rfl ?_
          refine V_iload_n X (q := 3) rfl rfl dX8_flood_46 (n := 47) rfl ?_
          obtain ⟨g10, h⟩ := h
          refine V_zldN X (by decide) (by decide) rfl g10 dX8_flood_47 (n := 48) rfl ?_
          refine V_if_eq X dX8_flood_48 (tgt := 55) (n := 51) (by decide) rfl (fun c11 => ?_) (fun c11 => ?_)
          · have h := ite_t h c11
            exact kj5  h
          · have h := ite_f h c11
            exact kj8  h
set_option maxRecDepth 100000 in
set_option maxHeartbeats 4000000 in
theorem TX8_flood (l : Launch) (D : va_G) (G : Gc) (ρ : Nat → Nat) (C : Xm) (N : Nm)  (a1 : Int32) (K : Int32 → Nm → Prop) (h : fX8_flood N a1 K) : Ki l yX8_flood wsX8_flood rmX8_flood D G ρ [.ref (ρ 66), .int a1] C N (fun r C1 N1 => K r N1 ∧ C1 = C) := by
  refine Ki.ofV (cc := cX8_flood) (maxL := 4) (ret := (some .int)) (by decide +kernel) rfl (Nat.le_of_ble_eq_true rfl) ?_
  intro p e s m args below meth c X hr hlk
  show V p l e rmX8_flood s m args below meth c D G ρ (WA ρ s.heap.size) s.heap 4 0 0 (Qi D G ρ s args below (fun r C1 N1 => K r N1 ∧ C1 = C)) 0 [(0, .ref (ρ 66)), (1, .int a1)] [] C N
  unfold fX8_flood at h
  refine V_iload_n X (q := 1) rfl rfl dX8_flood_0 (n := 1) rfl ?_
  refine jn_o h (fun j1 ej1 h => ?_)
  have kj1 : j1 → V p l e rmX8_flood s m args below meth c D G ρ (WA ρ s.heap.size) s.heap 4 0 0 (Qi D G ρ s args below (fun r C1 N1 => K r N1 ∧ C1 = C)) 14 [(0, .ref (ρ 66)), (1, .int a1)] [] C N := by
    intro  h
    rw [ej1] at h
    refine V_sipush X (v := -1002) (by decide) dX8_flood_14 (n := 17) rfl ?_
    exact V_iret X hr hlk dX8_flood_17 ⟨h, rfl⟩
  refine V_if_le X dX8_flood_1 (tgt := 14) (n := 4) (by decide) rfl (fun c2 => ?_) (fun c2 => ?_)
  · have h := ite_t h c2
    exact kj1  h
  · have h := ite_f h c2
    refine V_iload_n X (q := 1) rfl rfl dX8_flood_4 (n := 5) rfl ?_
    refine V_iconst X (v := 1) (by decide) dX8_flood_5 (n := 6) rfl ?_
    refine V_aload_n X (q := 0) rfl rfl dX8_flood_6 (n := 7) rfl ?_
    refine V_getN X (by decide) (by decide) rfl rfl (k := 2) inX8_flood_X8 rfl (by decide) wX8_flood_129 dX8_flood_7 (n := 10) rfl ?_
    refine V_ishl X dX8_flood_10 (n := 11) rfl ?_
    refine V_icmp_lt X dX8_flood_11 (tgt := 18) (n := 14) (by decide) rfl (fun c3 => ?_) (fun c3 => ?_)
    · have h := ite_t h c3
      refine V_iconst X (v := 1) (by decide) dX8_flood_18 (n := 19) rfl ?_
      refine V_istore_n X (L2 := [(2, .int (1 : Int32)), (0, .ref (ρ 66)), (1, .int a1)]) rfl (by decide) rfl dX8_flood_19 (n := 20) rfl ?_
      refine V_iconst X (v := 0) (by decide) dX8_flood_20 (n := 21) rfl ?_
      refine V_istore_n X (L2 := [(3, .int (0 : Int32)), (2, .int (1 : Int32)), (0, .ref (ρ 66)), (1, .int a1)]) rfl (by decide) rfl dX8_flood_21 (n := 22) rfl ?_
      refine jn_o h (fun j14 ej14 h => ?_)
      have kj14 : ∀ (x15 : Int32) (x16 : Int32), j14 x15 x16 → V p l e rmX8_flood s m args below meth c D G ρ (WA ρ s.heap.size) s.heap 4 0 0 (Qi D G ρ s args below (fun r C1 N1 => K r N1 ∧ C1 = C)) 63 [(0, .ref (ρ 66)), (1, .int a1), (2, .int x15), (3, .int x16)] [] C N := by
        intro x15 x16 h
        rw [ej14] at h
        try dsimp only at h
        refine V_iload_n X (q := 2) rfl rfl dX8_flood_63 (n := 64) rfl ?_
        refine jn_o h (fun j17 ej17 h => ?_)
        have kj17 : ∀ (x21 : Int32) (N22 : Nm), j17 x21 N22 → V p l e rmX8_flood s m args below meth c D G ρ (WA ρ s.heap.size) s.heap 4 0 0 (Qi D G ρ s args below (fun r C1 N1 => K r N1 ∧ C1 = C)) 78 [(0, .ref (ρ 66)), (1, .int a1), (2, .int x15), (3, .int x16)] [.int x21] C N22 := by
          intro x21 N22 h
          rw [ej17] at h
          try dsimp only at h
          exact V_iret X hr hlk dX8_flood_78 ⟨h, rfl⟩
        refine V_if_eq X dX8_flood_64 (tgt := 75) (n := 67) (by decide) rfl (fun c18 => ?_) (fun c18 => ?_)
        · have h := ite_t h c18
          refine V_sipush X (v := -1003) (by decide) dX8_flood_75 (n := 78) rfl ?_
          exact kj17 (-1003 : Int32) N h
        · have h := ite_f h c18
          refine V_aload_n X (q := 0) rfl rfl dX8_flood_67 (n := 68) rfl ?_
          refine V_iload_n X (q := 1) rfl rfl dX8_flood_68 (n := 69) rfl ?_
          refine V_calli X (As := [.int a1]) (rest := []) (nA := 1) (i := 66) (q := (RX8, TX8, 42)) (TX8_floodNow l D G ρ C N a1 _ h) gX8_flood_X8_floodNow rfl rfl rfl (by decide +kernel) rfl ⟨by decide, by decide⟩ (Nat.le_of_ble_eq_true rfl) ⟨by decide, by decide⟩ (by decide) rfl rfl rfl dX8_flood_69 (n := 72) rfl (fun r19 M0 N20 h => ?_)
          obtain ⟨h, eo⟩ := h
          rw [eo]
          refine V_goto X dX8_flood_72 (tgt := 78) (by decide) ?_
          exact kj17 r19 N20 h
      refine V_loc [2, 3, 1, 0] rfl ?_
      exact TX8_flood_L22 X hr hlk C N a1 (E := j14) (K := K) kj14 200 (1 : Int32) (0 : Int32) h
    · have h := ite_f h c3
      exact kj1  h
abbrev rmX8_packetAt : Room := { frames := 2, cells := 0, slots := 0, locals := 43 }
theorem wX8_packetAt_29 : Cond.fieldLink RX8 29 "FloodBusModel" "packet" "[I" ∈ wsX8_packetAt := by decide +kernel
theorem inX8_packetAt_X8 : ∀ w ∈ wsX80, w ∈ wsX8_packetAt := by decide +kernel
set_option maxRecDepth 100000 in
set_option maxHeartbeats 4000000 in
theorem TX8_packetAt (l : Launch) (D : va_G) (G : Gc) (ρ : Nat → Nat) (C : Xm) (N : Nm)  (a1 : Int32) (K : Int32 → Prop) (h : fX8_packetAt N a1 K) : Ki l yX8_packetAt wsX8_packetAt rmX8_packetAt D G ρ [.ref (ρ 66), .int a1] C N (fun r C1 N1 => K r ∧ C1 = C ∧ N1 = N) := by
  refine Ki.ofV (cc := cX8_packetAt) (maxL := 2) (ret := (some .int)) (by decide +kernel) rfl (Nat.le_of_ble_eq_true rfl) ?_
  intro p e s m args below meth c X hr hlk
  show V p l e rmX8_packetAt s m args below meth c D G ρ (WA ρ s.heap.size) s.heap 2 0 0 (Qi D G ρ s args below (fun r C1 N1 => K r ∧ C1 = C ∧ N1 = N)) 0 [(0, .ref (ρ 66)), (1, .int a1)] [] C N
  unfold fX8_packetAt at h
  refine V_aload_n X (q := 0) rfl rfl dX8_packetAt_0 (n := 1) rfl ?_
  refine V_iload_n X (q := 1) rfl rfl dX8_packetAt_1 (n := 2) rfl ?_
  refine V_calli X (As := [.int a1]) (rest := []) (nA := 1) (i := 66) (q := (RX8, TX8, 42)) (TX8_isNode l D G ρ C N a1 _ h) gX8_packetAt_X8_isNode rfl rfl rfl (by decide +kernel) rfl ⟨by decide, by decide⟩ (Nat.le_of_ble_eq_true rfl) ⟨by decide, by decide⟩ (by decide) rfl rfl rfl dX8_packetAt_2 (n := 5) rfl (fun r1 M1 M0 h => ?_)
  obtain ⟨h, eo, eo2⟩ := h
  rw [eo, eo2]
  refine jn_o h (fun j2 ej2 h => ?_)
  have kj2 : ∀ (x5 : Int32), j2 x5 → V p l e rmX8_packetAt s m args below meth c D G ρ (WA ρ s.heap.size) s.heap 2 0 0 (Qi D G ρ s args below (fun r C1 N1 => K r ∧ C1 = C ∧ N1 = N)) 20 [(0, .ref (ρ 66)), (1, .int a1)] [.int x5] C N := by
    intro x5 h
    rw [ej2] at h
    try dsimp only at h
    exact V_iret X hr hlk dX8_packetAt_20 ⟨h, rfl, rfl⟩
  refine V_if_eq X dX8_packetAt_5 (tgt := 17) (n := 8) (by decide) rfl (fun c3 => ?_) (fun c3 => ?_)
  · have h := ite_t h c3
    refine V_sipush X (v := -1001) (by decide) dX8_packetAt_17 (n := 20) rfl ?_
    exact kj2 (-1001 : Int32) h
  · have h := ite_f h c3
    refine V_aload_n X (q := 0) rfl rfl dX8_packetAt_8 (n := 9) rfl ?_
    refine V_getR X (by decide) rfl rfl (k := 9) inX8_packetAt_X8 rfl (by decide) wX8_packetAt_29 dX8_packetAt_9 (n := 12) rfl ?_
    refine V_iload_n X (q := 1) rfl rfl dX8_packetAt_12 (n := 13) rfl ?_
    obtain ⟨g4, h⟩ := h
    refine V_ildN X (by decide) (by decide) rfl g4 dX8_packetAt_13 (n := 14) rfl ?_
    refine V_goto X dX8_packetAt_14 (tgt := 20) (by decide) ?_
    exact kj2 (N.1 73 (Int32.toNatClampNeg a1)) h
abbrev rmX8_hops : Room := { frames := 0, cells := 0, slots := 0, locals := 0 }
theorem wX8_hops_32 : Cond.fieldLink RX8 32 "FloodBusModel" "received" "[I" ∈ wsX8_hops := by decide +kernel
theorem inX8_hops_X8 : ∀ w ∈ wsX80, w ∈ wsX8_hops := by decide +kernel
set_option maxRecDepth 100000 in
set_option maxHeartbeats 4000000 in
theorem TX8_hops (l : Launch) (D : va_G) (G : Gc) (ρ : Nat → Nat) (C : Xm) (N : Nm)  (a1 : Int32) (K : Int32 → Prop) (h : fX8_hops N a1 K) : Ki l yX8_hops wsX8_hops rmX8_hops D G ρ [.ref (ρ 66), .int a1] C N (fun r C1 N1 => K r ∧ C1 = C ∧ N1 = N) := by
  refine Ki.ofV (cc := cX8_hops) (maxL := 2) (ret := (some .int)) (by decide +kernel) rfl (Nat.le_of_ble_eq_true rfl) ?_
  intro p e s m args below meth c X hr hlk
  show V p l e rmX8_hops s m args below meth c D G ρ (WA ρ s.heap.size) s.heap 2 0 0 (Qi D G ρ s args below (fun r C1 N1 => K r ∧ C1 = C ∧ N1 = N)) 0 [(0, .ref (ρ 66)), (1, .int a1)] [] C N
  unfold fX8_hops at h
  refine V_aload_n X (q := 0) rfl rfl dX8_hops_0 (n := 1) rfl ?_
  refine V_getR X (by decide) rfl rfl (k := 10) inX8_hops_X8 rfl (by decide) wX8_hops_32 dX8_hops_1 (n := 4) rfl ?_
  refine V_iload_n X (q := 1) rfl rfl dX8_hops_4 (n := 5) rfl ?_
  obtain ⟨g1, h⟩ := h
  refine V_ildN X (by decide) (by decide) rfl g1 dX8_hops_5 (n := 6) rfl ?_
  refine V_bipush X (v := -2) (by decide) dX8_hops_6 (n := 8) rfl ?_
  refine jn_o h (fun j2 ej2 h => ?_)
  have kj2 : ∀ (x5 : Int32), j2 x5 → V p l e rmX8_hops s m args below meth c D G ρ (WA ρ s.heap.size) s.heap 2 0 0 (Qi D G ρ s args below (fun r C1 N1 => K r ∧ C1 = C ∧ N1 = N)) 23 [(0, .ref (ρ 66)), (1, .int a1)] [.int x5] C N := by
    intro x5 h
    rw [ej2] at h
    try dsimp only at h
    exact V_iret X hr hlk dX8_hops_23 ⟨h, rfl, rfl⟩
  refine V_icmp_ne X dX8_hops_8 (tgt := 15) (n := 11) (by decide) rfl (fun c3 => ?_) (fun c3 => ?_)
  · have h := ite_f h c3
    refine V_aload_n X (q := 0) rfl rfl dX8_hops_15 (n := 16) rfl ?_
    refine V_getR X (by decide) rfl rfl (k := 10) inX8_hops_X8 rfl (by decide) wX8_hops_32 dX8_hops_16 (n := 19) rfl ?_
    refine V_iload_n X (q := 1) rfl rfl dX8_hops_19 (n := 20) rfl ?_
    obtain ⟨g4, h⟩ := h
    refine V_ildN X (by decide) (by decide) rfl g4 dX8_hops_20 (n := 21) rfl ?_
    refine V_iconst X (v := 1) (by decide) dX8_hops_21 (n := 22) rfl ?_
    refine V_iadd X dX8_hops_22 (n := 23) rfl ?_
    exact kj2 ((N.1 74 (Int32.toNatClampNeg a1)) + (1 : Int32)) h
  · have h := ite_t h c3
    refine V_iconst X (v := -1) (by decide) dX8_hops_11 (n := 12) rfl ?_
    refine V_goto X dX8_hops_12 (tgt := 23) (by decide) ?_
    exact kj2 (-1 : Int32) h
abbrev rmX8_hopCount : Room := { frames := 2, cells := 0, slots := 0, locals := 43 }
set_option maxRecDepth 100000 in
set_option maxHeartbeats 4000000 in
theorem TX8_hopCount (l : Launch) (D : va_G) (G : Gc) (ρ : Nat → Nat) (C : Xm) (N : Nm)  (a1 : Int32) (K : Int32 → Prop) (h : fX8_hopCount N a1 K) : Ki l yX8_hopCount wsX8_hopCount rmX8_hopCount D G ρ [.ref (ρ 66), .int a1] C N (fun r C1 N1 => K r ∧ C1 = C ∧ N1 = N) := by
  refine Ki.ofV (cc := cX8_hopCount) (maxL := 2) (ret := (some .int)) (by decide +kernel) rfl (Nat.le_of_ble_eq_true rfl) ?_
  intro p e s m args below meth c X hr hlk
  show V p l e rmX8_hopCount s m args below meth c D G ρ (WA ρ s.heap.size) s.heap 2 0 0 (Qi D G ρ s args below (fun r C1 N1 => K r ∧ C1 = C ∧ N1 = N)) 0 [(0, .ref (ρ 66)), (1, .int a1)] [] C N
  unfold fX8_hopCount at h
  refine V_aload_n X (q := 0) rfl rfl dX8_hopCount_0 (n := 1) rfl ?_
  refine V_iload_n X (q := 1) rfl rfl dX8_hopCount_1 (n := 2) rfl ?_
  refine V_calli X (As := [.int a1]) (rest := []) (nA := 1) (i := 66) (q := (RX8, TX8, 42)) (TX8_isNode l D G ρ C N a1 _ h) gX8_hopCount_X8_isNode rfl rfl rfl (by decide +kernel) rfl ⟨by decide, by decide⟩ (Nat.le_of_ble_eq_true rfl) ⟨by decide, by decide⟩ (by decide) rfl rfl rfl dX8_hopCount_2 (n := 5) rfl (fun r1 M1 M0 h => ?_)
  obtain ⟨h, eo, eo2⟩ := h
  rw [eo, eo2]
  refine jn_o h (fun j2 ej2 h => ?_)
  have kj2 : ∀ (x5 : Int32), j2 x5 → V p l e rmX8_hopCount s m args below meth c D G ρ (WA ρ s.heap.size) s.heap 2 0 0 (Qi D G ρ s args below (fun r C1 N1 => K r ∧ C1 = C ∧ N1 = N)) 19 [(0, .ref (ρ 66)), (1, .int a1)] [.int x5] C N := by
    intro x5 h
    rw [ej2] at h
    try dsimp only at h
    exact V_iret X hr hlk dX8_hopCount_19 ⟨h, rfl, rfl⟩
  refine V_if_eq X dX8_hopCount_5 (tgt := 16) (n := 8) (by decide) rfl (fun c3 => ?_) (fun c3 => ?_)
  · have h := ite_t h c3
    refine V_sipush X (v := -1001) (by decide) dX8_hopCount_16 (n := 19) rfl ?_
    exact kj2 (-1001 : Int32) h
  · have h := ite_f h c3
    refine V_aload_n X (q := 0) rfl rfl dX8_hopCount_8 (n := 9) rfl ?_
    refine V_iload_n X (q := 1) rfl rfl dX8_hopCount_9 (n := 10) rfl ?_
    refine V_calli X (As := [.int a1]) (rest := []) (nA := 1) (i := 66) (q := (RX8, TX8, 42)) (TX8_hops l D G ρ C N a1 _ h) gX8_hopCount_X8_hops rfl rfl rfl (by decide +kernel) rfl ⟨by decide, by decide⟩ (Nat.le_of_ble_eq_true rfl) ⟨by decide, by decide⟩ (by decide) rfl rfl rfl dX8_hopCount_10 (n := 13) rfl (fun r4 M1 M0 h => ?_)
    obtain ⟨h, eo, eo2⟩ := h
    rw [eo, eo2]
    refine V_goto X dX8_hopCount_13 (tgt := 19) (by decide) ?_
    exact kj2 r4 h
abbrev rmX8_floodLength : Room := { frames := 0, cells := 0, slots := 0, locals := 0 }
theorem wX8_floodLength_151 : Cond.fieldLink RX8 151 "FloodBusModel" "length" "I" ∈ wsX8_floodLength := by decide +kernel
theorem inX8_floodLength_X8 : ∀ w ∈ wsX80, w ∈ wsX8_floodLength := by decide +kernel
set_option maxRecDepth 100000 in
set_option maxHeartbeats 4000000 in
theorem TX8_floodLength (l : Launch) (D : va_G) (G : Gc) (ρ : Nat → Nat) (C : Xm) (N : Nm)   (K : Int32 → Prop) (h : fX8_floodLength N K) : Ki l yX8_floodLength wsX8_floodLength rmX8_floodLength D G ρ [.ref (ρ 66)] C N (fun r C1 N1 => K r ∧ C1 = C ∧ N1 = N) := by
  refine Ki.ofV (cc := cX8_floodLength) (maxL := 1) (ret := (some .int)) (by decide +kernel) rfl (Nat.le_of_ble_eq_true rfl) ?_
  intro p e s m args below meth c X hr hlk
  show V p l e rmX8_floodLength s m args below meth c D G ρ (WA ρ s.heap.size) s.heap 1 0 0 (Qi D G ρ s args below (fun r C1 N1 => K r ∧ C1 = C ∧ N1 = N)) 0 [(0, .ref (ρ 66))] [] C N
  unfold fX8_floodLength at h
  refine V_aload_n X (q := 0) rfl rfl dX8_floodLength_0 (n := 1) rfl ?_
  refine V_getN X (by decide) (by decide) rfl rfl (k := 13) inX8_floodLength_X8 rfl (by decide) wX8_floodLength_151 dX8_floodLength_1 (n := 4) rfl ?_
  exact V_iret X hr hlk dX8_floodLength_4 ⟨h, rfl, rfl⟩
abbrev rmX8_addStream : Room := { frames := 2, cells := 0, slots := 0, locals := 43 }
theorem wX8_addStream_141 : Cond.fieldLink RX8 141 "FloodBusModel" "streams" "I" ∈ wsX8_addStream := by decide +kernel
theorem wX8_addStream_57 : Cond.fieldLink RX8 57 "FloodBusModel" "source" "[I" ∈ wsX8_addStream := by decide +kernel
theorem wX8_addStream_60 : Cond.fieldLink RX8 60 "FloodBusModel" "period" "[I" ∈ wsX8_addStream := by decide +kernel
theorem wX8_addStream_63 : Cond.fieldLink RX8 63 "FloodBusModel" "start" "[I" ∈ wsX8_addStream := by decide +kernel
theorem wX8_addStream_66 : Cond.fieldLink RX8 66 "FloodBusModel" "waiting" "[I" ∈ wsX8_addStream := by decide +kernel
theorem wX8_addStream_72 : Cond.fieldLink RX8 72 "FloodBusModel" "delivered" "[I" ∈ wsX8_addStream := by decide +kernel
theorem wX8_addStream_75 : Cond.fieldLink RX8 75 "FloodBusModel" "lost" "[I" ∈ wsX8_addStream := by decide +kernel
theorem inX8_addStream_X8 : ∀ w ∈ wsX80, w ∈ wsX8_addStream := by decide +kernel
set_option maxRecDepth 100000 in
set_option maxHeartbeats 4000000 in
theorem TX8_addStream (l : Launch) (D : va_G) (G : Gc) (ρ : Nat → Nat) (C : Xm) (N : Nm)  (a1 : Int32) (a2 : Int32) (a3 : Int32) (K : Int32 → Nm → Prop) (h : fX8_addStream N a1 a2 a3 K) : Ki l yX8_addStream wsX8_addStream rmX8_addStream D G ρ [.ref (ρ 66), .int a1, .int a2, .int a3] C N (fun r C1 N1 => K r N1 ∧ C1 = C) := by
  refine Ki.ofV (cc := cX8_addStream) (maxL := 4) (ret := (some .int)) (by decide +kernel) rfl (Nat.le_of_ble_eq_true rfl) ?_
  intro p e s m args below meth c X hr hlk
  show V p l e rmX8_addStream s m args below meth c D G ρ (WA ρ s.heap.size) s.heap 4 0 0 (Qi D G ρ s args below (fun r C1 N1 => K r N1 ∧ C1 = C)) 0 [(0, .ref (ρ 66)), (1, .int a1), (2, .int a2), (3, .int a3)] [] C N
  unfold fX8_addStream at h
  refine V_aload_n X (q := 0) rfl rfl dX8_addStream_0 (n := 1) rfl ?_
  refine V_iload_n X (q := 1) rfl rfl dX8_addStream_1 (n := 2) rfl ?_
  refine V_calli X (As := [.int a1]) (rest := []) (nA := 1) (i := 66) (q := (RX8, TX8, 42)) (TX8_isNode l D G ρ C N a1 _ h) gX8_addStream_X8_isNode rfl rfl rfl (by decide +kernel) rfl ⟨by decide, by decide⟩ (Nat.le_of_ble_eq_true rfl) ⟨by decide, by decide⟩ (by decide) rfl rfl rfl dX8_addStream_2 (n := 5) rfl (fun r1 M1 M0 h => ?_)
  obtain ⟨h, eo, eo2⟩ := h
  rw [eo, eo2]
  refine V_if_ne X dX8_addStream_5 (tgt := 12) (n := 8) (by decide) rfl (fun c2 => ?_) (fun c2 => ?_)
  · have h := ite_f h c2
    refine V_iload_n X (q := 2) rfl rfl dX8_addStream_12 (n := 13) rfl ?_
    refine V_iconst X (v := 1) (by decide) dX8_addStream_13 (n := 14) rfl ?_
    refine V_bipush X (v := 9) (by decide) dX8_addStream_14 (n := 16) rfl ?_
    refine V_callsi X (As := [.int a2, .int (1 : Int32), .int (9 : Int32)]) (rest := []) (nA := 3) (TX8_within l D G ρ C N a2 (1 : Int32) (9 : Int32) _ h) gX8_addStream_X8_within rfl rfl rfl (by decide +kernel) rfl ⟨by decide, by decide⟩ (Nat.le_of_ble_eq_true rfl) ⟨by decide, by decide⟩  rfl dX8_addStream_16 (n := 19) rfl (fun r3 M1 M0 h => ?_)
    obtain ⟨h, eo, eo2⟩ := h
    rw [eo, eo2]
    refine jn_o h (fun j4 ej4 h => ?_)
    have kj4 : j4 → V p l e rmX8_addStream s m args below meth c D G ρ (WA ρ s.heap.size) s.heap 4 0 0 (Qi D G ρ s args below (fun r C1 N1 => K r N1 ∧ C1 = C)) 32 [(0, .ref (ρ 66)), (1, .int a1), (2, .int a2), (3, .int a3)] [] C N := by
      intro  h
      rw [ej4] at h
      refine V_sipush X (v := -1002) (by decide) dX8_addStream_32 (n := 35) rfl ?_
      exact V_iret X hr hlk dX8_addStream_35 ⟨h, rfl⟩
    refine V_if_eq X dX8_addStream_19 (tgt := 32) (n := 22) (by decide) rfl (fun c5 => ?_) (fun c5 => ?_)
    · have h := ite_t h c5
      exact kj4  h
    · have h := ite_f h c5
      refine V_iload_n X (q := 3) rfl rfl dX8_addStream_22 (n := 23) rfl ?_
      refine V_iconst X (v := 0) (by decide) dX8_addStream_23 (n := 24) rfl ?_
      refine V_bipush X (v := 99) (by decide) dX8_addStream_24 (n := 26) rfl ?_
      refine V_callsi X (As := [.int a3, .int (0 : Int32), .int (99 : Int32)]) (rest := []) (nA := 3) (TX8_within l D G ρ C N a3 (0 : Int32) (99 : Int32) _ h) gX8_addStream_X8_within rfl rfl rfl (by decide +kernel) rfl ⟨by decide, by decide⟩ (Nat.le_of_ble_eq_true rfl) ⟨by decide, by decide⟩  rfl dX8_addStream_26 (n := 29) rfl (fun r6 M1 M0 h => ?_)
      obtain ⟨h, eo, eo2⟩ := h
      rw [eo, eo2]
      refine V_if_ne X dX8_addStream_29 (tgt := 36) (n := 32) (by decide) rfl (fun c7 => ?_) (fun c7 => ?_)
      · have h := ite_f h c7
        refine V_aload_n X (q := 0) rfl rfl dX8_addStream_36 (n := 37) rfl ?_
        refine V_getN X (by decide) (by decide) rfl rfl (k := 20) inX8_addStream_X8 rfl (by decide) wX8_addStream_141 dX8_addStream_37 (n := 40) rfl ?_
        refine V_bipush X (v := 6) (by decide) dX8_addStream_40 (n := 42) rfl ?_
        refine V_icmp_ne X dX8_addStream_42 (tgt := 49) (n := 45) (by decide) rfl (fun c8 => ?_) (fun c8 => ?_)
        · have h := ite_f h c8
          refine V_aload_n X (q := 0) rfl rfl dX8_addStream_49 (n := 50) rfl ?_
          refine V_getR X (by decide) rfl rfl (k := 21) inX8_addStream_X8 rfl (by decide) wX8_addStream_57 dX8_addStream_50 (n := 53) rfl ?_
          refine V_aload_n X (q := 0) rfl rfl dX8_addStream_53 (n := 54) rfl ?_
          refine V_getN X (by decide) (by decide) rfl rfl (k := 20) inX8_addStream_X8 rfl (by decide) wX8_addStream_141 dX8_addStream_54 (n := 57) rfl ?_
          refine V_iload_n X (q := 1) rfl rfl dX8_addStream_57 (n := 58) rfl ?_
          obtain ⟨g9, h⟩ := h
          refine V_istN X (by decide) (by decide) rfl g9 dX8_addStream_58 (n := 59) rfl (fun N10 eN10 => ?_)
          have h := bd_at h eN10
          refine V_aload_n X (q := 0) rfl rfl dX8_addStream_59 (n := 60) rfl ?_
          refine V_getR X (by decide) rfl rfl (k := 22) inX8_addStream_X8 rfl (by decide) wX8_addStream_60 dX8_addStream_60 (n := 63) rfl ?_
          refine V_aload_n X (q := 0) rfl rfl dX8_addStream_63 (n := 64) rfl ?_
          refine V_getN X (by decide) (by decide) rfl rfl (k := 20) inX8_addStream_X8 rfl (by decide) wX8_addStream_141 dX8_addStream_64 (n := 67) rfl ?_
          refine V_iload_n X (q := 2) rfl rfl dX8_addStream_67 (n := 68) rfl ?_
          obtain ⟨g11, h⟩ := h
          refine V_istN X (by decide) (by decide) rfl g11 dX8_addStream_68 (n := 69) rfl (fun N12 eN12 => ?_)
          have h := bd_at h eN12
          refine V_aload_n X (q := 0) rfl rfl dX8_addStream_69 (n := 70) rfl ?_
          refine V_getR X (by decide) rfl rfl (k := 23) inX8_addStream_X8 rfl (by decide) wX8_addStream_63 dX8_addStream_70 (n := 73) rfl ?_
          refine V_aload_n X (q := 0) rfl rfl dX8_addStream_73 (n := 74) rfl ?_
          refine V_getN X (by decide) (by decide) rfl rfl (k := 20) inX8_addStream_X8 rfl (by decide) wX8_addStream_141 dX8_addStream_74 (n := 77) rfl ?_
          refine V_iload_n X (q := 3) rfl rfl dX8_addStream_77 (n := 78) rfl ?_
          obtain ⟨g13, h⟩ := h
          refine V_istN X (by decide) (by decide) rfl g13 dX8_addStream_78 (n := 79) rfl (fun N14 eN14 => ?_)
          have h := bd_at h eN14
          refine V_aload_n X (q := 0) rfl rfl dX8_addStream_79 (n := 80) rfl ?_
          refine V_getR X (by decide) rfl rfl (k := 24) inX8_addStream_X8 rfl (by decide) wX8_addStream_66 dX8_addStream_80 (n := 83) rfl ?_
          refine V_aload_n X (q := 0) rfl rfl dX8_addStream_83 (n := 84) rfl ?_
          refine V_getN X (by decide) (by decide) rfl rfl (k := 20) inX8_addStream_X8 rfl (by decide) wX8_addStream_141 dX8_addStream_84 (n := 87) rfl ?_
          refine V_iconst X (v := 0) (by decide) dX8_addStream_87 (n := 88) rfl ?_
          obtain ⟨g15, h⟩ := h
          refine V_istN X (by decide) (by decide) rfl g15 dX8_addStream_88 (n := 89) rfl (fun N16 eN16 => ?_)
          have h := bd_at h eN16
          refine V_aload_n X (q := 0) rfl rfl dX8_addStream_89 (n := 90) rfl ?_
          refine V_getR X (by decide) rfl rfl (k := 26) inX8_addStream_X8 rfl (by decide) wX8_addStream_72 dX8_addStream_90 (n := 93) rfl ?_
          refine V_aload_n X (q := 0) rfl rfl dX8_addStream_93 (n := 94) rfl ?_
          refine V_getN X (by decide) (by decide) rfl rfl (k := 20) inX8_addStream_X8 rfl (by decide) wX8_addStream_141 dX8_addStream_94 (n := 97) rfl ?_
          refine V_iconst X (v := 0) (by decide) dX8_addStream_97 (n := 98) rfl ?_
          obtain ⟨g17, h⟩ := h
          refine V_istN X (by decide) (by decide) rfl g17 dX8_addStream_98 (n := 99) rfl (fun N18 eN18 => ?_)
          have h := bd_at h eN18
          refine V_aload_n X (q := 0) rfl rfl dX8_addStream_99 (n := 100) rfl ?_
          refine V_getR X (by decide) rfl rfl (k := 27) inX8_addStream_X8 rfl (by decide) wX8_addStream_75 dX8_addStream_100 (n := 103) rfl ?_
          refine V_aload_n X (q := 0) rfl rfl dX8_addStream_103 (n := 104) rfl ?_
          refine V_getN X (by decide) (by decide) rfl rfl (k := 20) inX8_addStream_X8 rfl (by decide) wX8_addStream_141 dX8_addStream_104 (n := 107) rfl ?_
          refine V_iconst X (v := 0) (by decide) dX8_addStream_107 (n := 108) rfl ?_
          obtain ⟨g19, h⟩ := h
          refine V_istN X (by decide) (by decide) rfl g19 dX8_addStream_108 (n := 109) rfl (fun N20 eN20 => ?_)
          have h := bd_at h eN20
          refine V_aload_n X (q := 0) rfl rfl dX8_addStream_109 (n := 110) rfl ?_
          refine V_dup X rfl dX8_addStream_110 (n := 111) rfl ?_
          refine V_getN X (by decide) (by decide) rfl rfl (k := 20) inX8_addStream_X8 rfl (by decide) wX8_addStream_141 dX8_addStream_111 (n := 114) rfl ?_
          refine V_iconst X (v := 1) (by decide) dX8_addStream_114 (n := 115) rfl ?_
          refine V_iadd X dX8_addStream_115 (n := 116) rfl ?_
          refine V_putN X (by decide) (by decide) rfl rfl (k := 20) inX8_addStream_X8 rfl (by decide) wX8_addStream_141 tyX8 tyX8_ok nmX8 rfl (by decide +kernel) dX8_addStream_116 (n := 119) rfl (fun N21 eN21 => ?_)
          have h := bd_at h eN21
          refine V_aload_n X (q := 0) rfl rfl dX8_addStream_119 (n := 120) rfl ?_
          refine V_getN X (by decide) (by decide) rfl rfl (k := 20) inX8_addStream_X8 rfl (by decide) wX8_addStream_141 dX8_addStream_120 (n := 123) rfl ?_
          refine V_iconst X (v := 1) (by decide) dX8_addStream_123 (n := 124) rfl ?_
          refine V_isub X dX8_addStream_124 (n := 125) rfl ?_
          exact V_iret X hr hlk dX8_addStream_125 ⟨h, rfl⟩
        · have h := ite_t h c8
          refine V_sipush X (v := -1004) (by decide) dX8_addStream_45 (n := 48) rfl ?_
          exact V_iret X hr hlk dX8_addStream_48 ⟨h, rfl⟩
      · have h := ite_t h c7
        exact kj4  h
  · have h := ite_t h c2
    refine V_sipush X (v := -1001) (by decide) dX8_addStream_8 (n := 11) rfl ?_
    exact V_iret X hr hlk dX8_addStream_11 ⟨h, rfl⟩
abbrev rmX8_isStream : Room := { frames := 1, cells := 0, slots := 0, locals := 22 }
theorem wX8_isStream_141 : Cond.fieldLink RX8 141 "FloodBusModel" "streams" "I" ∈ wsX8_isStream := by decide +kernel
theorem inX8_isStream_X8 : ∀ w ∈ wsX80, w ∈ wsX8_isStream := by decide +kernel
set_option maxRecDepth 100000 in
set_option maxHeartbeats 4000000 in
theorem TX8_isStream (l : Launch) (D : va_G) (G : Gc) (ρ : Nat → Nat) (C : Xm) (N : Nm)  (a1 : Int32) (K : Int32 → Prop) (h : fX8_isStream N a1 K) : Ki l yX8_isStream wsX8_isStream rmX8_isStream D G ρ [.ref (ρ 66), .int a1] C N (fun r C1 N1 => K r ∧ C1 = C ∧ N1 = N) := by
  refine Ki.ofV (cc := cX8_isStream) (maxL := 2) (ret := (some .boolean)) (by decide +kernel) rfl (Nat.le_of_ble_eq_true rfl) ?_
  intro p e s m args below meth c X hr hlk
  show V p l e rmX8_isStream s m args below meth c D G ρ (WA ρ s.heap.size) s.heap 2 0 0 (Qi D G ρ s args below (fun r C1 N1 => K r ∧ C1 = C ∧ N1 = N)) 0 [(0, .ref (ρ 66)), (1, .int a1)] [] C N
  unfold fX8_isStream at h
  refine V_iload_n X (q := 1) rfl rfl dX8_isStream_0 (n := 1) rfl ?_
  refine V_iconst X (v := 0) (by decide) dX8_isStream_1 (n := 2) rfl ?_
  refine V_aload_n X (q := 0) rfl rfl dX8_isStream_2 (n := 3) rfl ?_
  refine V_getN X (by decide) (by decide) rfl rfl (k := 20) inX8_isStream_X8 rfl (by decide) wX8_isStream_141 dX8_isStream_3 (n := 6) rfl ?_
  refine V_iconst X (v := 1) (by decide) dX8_isStream_6 (n := 7) rfl ?_
  refine V_isub X dX8_isStream_7 (n := 8) rfl ?_
  refine V_callsi X (As := [.int a1, .int (0 : Int32), .int ((N.1 66 20) - (1 : Int32))]) (rest := []) (nA := 3) (TX8_within l D G ρ C N a1 (0 : Int32) ((N.1 66 20) - (1 : Int32)) _ h) gX8_isStream_X8_within rfl rfl rfl (by decide +kernel) rfl ⟨by decide, by decide⟩ (Nat.le_of_ble_eq_true rfl) ⟨by decide, by decide⟩  rfl dX8_isStream_8 (n := 11) rfl (fun r1 M1 M0 h => ?_)
  obtain ⟨h, eo, eo2⟩ := h
  rw [eo, eo2]
  obtain ⟨g2, h⟩ := h
  exact V_zret X hr hlk g2 dX8_isStream_11 ⟨h, rfl, rfl⟩
abbrev rmX8_removeStream : Room := { frames := 2, cells := 0, slots := 0, locals := 43 }
theorem wX8_removeStream_141 : Cond.fieldLink RX8 141 "FloodBusModel" "streams" "I" ∈ wsX8_removeStream := by decide +kernel
theorem wX8_removeStream_57 : Cond.fieldLink RX8 57 "FloodBusModel" "source" "[I" ∈ wsX8_removeStream := by decide +kernel
theorem wX8_removeStream_60 : Cond.fieldLink RX8 60 "FloodBusModel" "period" "[I" ∈ wsX8_removeStream := by decide +kernel
theorem wX8_removeStream_63 : Cond.fieldLink RX8 63 "FloodBusModel" "start" "[I" ∈ wsX8_removeStream := by decide +kernel
theorem wX8_removeStream_66 : Cond.fieldLink RX8 66 "FloodBusModel" "waiting" "[I" ∈ wsX8_removeStream := by decide +kernel
theorem wX8_removeStream_72 : Cond.fieldLink RX8 72 "FloodBusModel" "delivered" "[I" ∈ wsX8_removeStream := by decide +kernel
theorem wX8_removeStream_75 : Cond.fieldLink RX8 75 "FloodBusModel" "lost" "[I" ∈ wsX8_removeStream := by decide +kernel
theorem wX8_removeStream_69 : Cond.fieldLink RX8 69 "FloodBusModel" "generated" "[I" ∈ wsX8_removeStream := by decide +kernel
theorem wX8_removeStream_144 : Cond.fieldLink RX8 144 "FloodBusModel" "entries" "I" ∈ wsX8_removeStream := by decide +kernel
theorem inX8_removeStream_X8 : ∀ w ∈ wsX80, w ∈ wsX8_removeStream := by decide +kernel
set_option maxRecDepth 100000 in
set_option maxHeartbeats 4000000 in
theorem TX8_removeStream_L118 {p : Program} {l : Launch} {e : Env} {s : State} {m : MethodId} {args : Array Value} {below : List Frame} {meth : Method} {c : Code} {D : va_G} {G : Gc} {ρ : Nat → Nat} (X : Cx p s m args c cX8_removeStream 4 RX8 wsX8_removeStream D G ρ (WA ρ s.heap.size) s.heap) (hr : meth.sig.returnType = some .int) (hlk : meth.locks = false) (C : Xm) (p1 : Int32) (p2 : Int32)  {E : Int32 → Nm → Prop} {K : Int32 → Nm → Prop} (hE : ∀ (v3 : Int32) (N : Nm), E v3 N → V p l e rmX8_removeStream s m args below meth c D G ρ (WA ρ s.heap.size) s.heap 4 0 0 (Qi D G ρ s args below (fun r C1 N1 => K r N1 ∧ C1 = C)) 151 [(0, .ref (ρ 66)), (1, .int p1), (2, .int p2), (3, .int v3)] [] C N) : ∀ (n : Nat) (v3 : Int32) (N : Nm), fX8_removeStream_L118 p1 p2 E K n v3 N → V p l e rmX8_removeStream s m args below meth c D G ρ (WA ρ s.heap.size) s.heap 4 0 0 (Qi D G ρ s args below (fun r C1 N1 => K r N1 ∧ C1 = C)) 118 [(0, .ref (ρ 66)), (1, .int p1), (2, .int p2), (3, .int v3)] [] C N := by
  intro n
  induction n with
  | zero => intro v3 N h; exact h.elim
  | succ n ih =>
    intro v3 N h
    unfold fX8_removeStream_L118 at h
    refine V_iload_n X (q := 3) rfl rfl dX8_removeStream_118 (n := 119) rfl ?_
    refine V_iconst X (v := 4) (by decide) dX8_removeStream_119 (n := 120) rfl ?_
    refine V_icmp_ge X dX8_removeStream_120 (tgt := 151) (n := 123) (by decide) rfl (fun c23 => ?_) (fun c23 => ?_)
    · have h := ite_t h c23
      exact hE v3 N h
    · have h := ite_f h c23
      refine V_aload_n X (q := 0) rfl rfl dX8_removeStream_123 (n := 124) rfl ?_
      refine V_getR X (by decide) rfl rfl (k := 25) inX8_removeStream_X8 rfl (by decide) wX8_removeStream_69 dX8_removeStream_124 (n := 127) rfl ?_
      refine V_iconst X (v := 4) (by decide) dX8_removeStream_127 (n := 128) rfl ?_
      refine V_iload_n X (q := 2) rfl rfl dX8_removeStream_128 (n := 129) rfl ?_
      refine V_imul X dX8_removeStream_129 (n := 130) rfl ?_
      refine V_iload_n X (q := 3) rfl rfl dX8_removeStream_130 (n := 131) rfl ?_
      refine V_iadd X dX8_removeStream_131 (n := 132) rfl ?_
      refine V_aload_n X (q := 0) rfl rfl dX8_removeStream_132 (n := 133) rfl ?_
      refine V_getR X (by decide) rfl rfl (k := 25) inX8_removeStream_X8 rfl (by decide) wX8_removeStream_69 dX8_removeStream_133 (n := 136) rfl ?_
      refine V_iconst X (v := 4) (by decide) dX8_removeStream_136 (n := 137) rfl ?_
      refine V_iload_n X (q := 2) rfl rfl dX8_removeStream_137 (n := 138) rfl ?_
      refine V_imul X dX8_removeStream_138 (n := 139) rfl ?_
      refine V_iconst X (v := 4) (by decide) dX8_removeStream_139 (n := 140) rfl ?_
      refine V_iadd X dX8_removeStream_140 (n := 141) rfl ?_
      refine V_iload_n X (q := 3) rfl rfl dX8_removeStream_141 (n := 142) rfl ?_
      refine V_iadd X dX8_removeStream_142 (n := 143) rfl ?_
      obtain ⟨g24, h⟩ := h
      refine V_ildN X (by decide) (by decide) rfl g24 dX8_removeStream_143 (n := 144) rfl ?_
      obtain ⟨g25, h⟩ := h
      refine V_istN X (by decide) (by decide) rfl g25 dX8_removeStream_144 (n := 145) rfl (fun N26 eN26 => ?_)
      have h := bd_at h eN26
      obtain ⟨x27, ex27⟩ : ∃ z : Int32, z = v3 + (1 : Int32) := ⟨_, rfl⟩
      have h := bd_at h ex27
      refine V_iinc X (q := 3) (d := 1) (L2 := [(3, .int x27), (0, .ref (ρ 66)), (1, .int p1), (2, .int p2)]) rfl (by decide) (by decide) ex27 rfl dX8_removeStream_145 (n := 148) rfl ?_
      refine V_goto X dX8_removeStream_148 (tgt := 118) (by decide) ?_
      refine V_loc [1, 2, 3, 0] rfl ?_
      exact ih x27 N26 h
set_option maxRecDepth 100000 in
set_option maxHeartbeats 4000000 in
theorem TX8_removeStream_L24 {p : Program} {l : Launch} {e : Env} {s : State} {m : MethodId} {args : Array Value} {below : List Frame} {meth : Method} {c : Code} {D : va_G} {G : Gc} {ρ : Nat → Nat} (X : Cx p s m args c cX8_removeStream 4 RX8 wsX8_removeStream D G ρ (WA ρ s.heap.size) s.heap) (hr : meth.sig.returnType = some .int) (hlk : meth.locks = false) (C : Xm) (p1 : Int32)  {E : Int32 → Nm → Prop} {K : Int32 → Nm → Prop} (hE : ∀ (v2 : Int32) (N : Nm), E v2 N → V p l e rmX8_removeStream s m args below meth c D G ρ (WA ρ s.heap.size) s.heap 4 0 0 (Qi D G ρ s args below (fun r C1 N1 => K r N1 ∧ C1 = C)) 157 [(0, .ref (ρ 66)), (1, .int p1), (2, .int v2)] [] C N) : ∀ (n : Nat) (v2 : Int32) (N : Nm), fX8_removeStream_L24 p1 E K n v2 N → V p l e rmX8_removeStream s m args below meth c D G ρ (WA ρ s.heap.size) s.heap 4 0 0 (Qi D G ρ s args below (fun r C1 N1 => K r N1 ∧ C1 = C)) 24 [(0, .ref (ρ 66)), (1, .int p1), (2, .int v2)] [] C N := by
  intro n
  induction n with
  | zero => intro v2 N h; exact h.elim
  | succ n ih =>
    intro v2 N h
    unfold fX8_removeStream_L24 at h
    refine V_iload_n X (q := 2) rfl rfl dX8_removeStream_24 (n := 25) rfl ?_
    refine V_aload_n X (q := 0) rfl rfl dX8_removeStream_25 (n := 26) rfl ?_
    refine V_getN X (by decide) (by decide) rfl rfl (k := 20) inX8_removeStream_X8 rfl (by decide) wX8_removeStream_141 dX8_removeStream_26 (n := 29) rfl ?_
    refine V_icmp_ge X dX8_removeStream_29 (tgt := 157) (n := 32) (by decide) rfl (fun c4 => ?_) (fun c4 => ?_)
    · have h := ite_t h c4
      exact hE v2 N h
    · have h := ite_f h c4
      refine V_aload_n X (q := 0) rfl rfl dX8_removeStream_32 (n := 33) rfl ?_
      refine V_getR X (by decide) rfl rfl (k := 21) inX8_removeStream_X8 rfl (by decide) wX8_removeStream_57 dX8_removeStream_33 (n := 36) rfl ?_
      refine V_iload_n X (q := 2) rfl rfl dX8_removeStream_36 (n := 37) rfl ?_
      refine V_aload_n X (q := 0) rfl rfl dX8_removeStream_37 (n := 38) rfl ?_
      refine V_getR X (by decide) rfl rfl (k := 21) inX8_removeStream_X8 rfl (by decide) wX8_removeStream_57 dX8_removeStream_38 (n := 41) rfl ?_
      refine V_iload_n X (q := 2) rfl rfl dX8_removeStream_41 (n := 42) rfl ?_
      refine V_iconst X (v := 1) (by decide) dX8_removeStream_42 (n := 43) rfl ?_
      refine V_iadd X dX8_removeStream_43 (n := 44) rfl ?_
      obtain ⟨g5, h⟩ := h
      refine V_ildN X (by decide) (by decide) rfl g5 dX8_removeStream_44 (n := 45) rfl ?_
      obtain ⟨g6, h⟩ := h
      refine V_istN X (by decide) (by decide) rfl g6 dX8_removeStream_45 (n := 46) rfl (fun N7 eN7 => ?_)
      have h := bd_at h eN7
      refine V_aload_n X (q := 0) rfl rfl dX8_removeStream_46 (n := 47) rfl ?_
      refine V_getR X (by decide) rfl rfl (k := 22) inX8_removeStream_X8 rfl (by decide) wX8_removeStream_60 dX8_removeStream_47 (n := 50) rfl ?_
      refine V_iload_n X (q := 2) rfl rfl dX8_removeStream_50 (n := 51) rfl ?_
      refine V_aload_n X (q := 0) rfl rfl dX8_removeStream_51 (n := 52) rfl ?_
      refine V_getR X (by decide) rfl rfl (k := 22) inX8_removeStream_X8 rfl (by decide) wX8_removeStream_60 dX8_removeStream_52 (n := 55) rfl ?_
      refine V_iload_n X (q := 2) rfl rfl dX8_removeStream_55 (n := 56) rfl ?_
      refine V_iconst X (v := 1) (by decide) dX8_removeStream_56 (n := 57) rfl ?_
      refine V_iadd X dX8_removeStream_57 (n := 58) rfl ?_
      obtain ⟨g8, h⟩ := h
      refine V_ildN X (by decide) (by decide) rfl g8 dX8_removeStream_58 (n := 59) rfl ?_
      obtain ⟨g9, h⟩ := h
      refine V_istN X (by decide) (by decide) rfl g9 dX8_removeStream_59 (n := 60) rfl (fun N10 eN10 => ?_)
      have h := bd_at h eN10
      refine V_aload_n X (q := 0) rfl rfl dX8_removeStream_60 (n := 61) rfl ?_
      refine V_getR X (by decide) rfl rfl (k := 23) inX8_removeStream_X8 rfl (by decide) wX8_removeStream_63 dX8_removeStream_61 (n := 64) rfl ?_
      refine V_iload_n X (q := 2) rfl rfl dX8_removeStream_64 (n := 65) rfl ?_
      refine V_aload_n X (q := 0) rfl rfl dX8_removeStream_65 (n := 66) rfl ?_
      refine V_getR X (by decide) rfl rfl (k := 23) inX8_removeStream_X8 rfl (by decide) wX8_removeStream_63 dX8_removeStream_66 (n := 69) rfl ?_
      refine V_iload_n X (q := 2) rfl rfl dX8_removeStream_69 (n := 70) rfl ?_
      refine V_iconst X (v := 1) (by decide) dX8_removeStream_70 (n := 71) rfl ?_
      refine V_iadd X dX8_removeStream_71 (n := 72) rfl ?_
      obtain ⟨g11, h⟩ := h
      refine V_ildN X (by decide) (by decide) rfl g11 dX8_removeStream_72 (n := 73) rfl ?_
      obtain ⟨g12, h⟩ := h
      refine V_istN X (by decide) (by decide) rfl g12 dX8_removeStream_73 (n := 74) rfl (fun N13 eN13 => ?_)
      have h := bd_at h eN13
      refine V_aload_n X (q := 0) rfl rfl dX8_removeStream_74 (n := 75) rfl ?_
      refine V_getR X (by decide) rfl rfl (k := 24) inX8_removeStream_X8 rfl (by decide) wX8_removeStream_66 dX8_removeStream_75 (n := 78) rfl ?_
      refine V_iload_n X (q := 2) rfl rfl dX8_removeStream_78 (n := 79) rfl ?_
      refine V_aload_n X (q := 0) rfl rfl dX8_removeStream_79 (n := 80) rfl ?_
      refine V_getR X (by decide) rfl rfl (k := 24) inX8_removeStream_X8 rfl (by decide) wX8_removeStream_66 dX8_removeStream_80 (n := 83) rfl ?_
      refine V_iload_n X (q := 2) rfl rfl dX8_removeStream_83 (n := 84) rfl ?_
      refine V_iconst X (v := 1) (by decide) dX8_removeStream_84 (n := 85) rfl ?_
      refine V_iadd X dX8_removeStream_85 (n := 86) rfl ?_
      obtain ⟨g14, h⟩ := h
      refine V_ildN X (by decide) (by decide) rfl g14 dX8_removeStream_86 (n := 87) rfl ?_
      obtain ⟨g15, h⟩ := h
      refine V_istN X (by decide) (by decide) rfl g15 dX8_removeStream_87 (n := 88) rfl (fun N16 eN16 => ?_)
      have h := bd_at h eN16
      refine V_aload_n X (q := 0) rfl rfl dX8_removeStream_88 (n := 89) rfl ?_
      refine V_getR X (by decide) rfl rfl (k := 26) inX8_removeStream_X8 rfl (by decide) wX8_removeStream_72 dX8_removeStream_89 (n := 92) rfl ?_
      refine V_iload_n X (q := 2) rfl rfl dX8_removeStream_92 (n := 93) rfl ?_
      refine V_aload_n X (q := 0) rfl rfl dX8_removeStream_93 (n := 94) rfl ?_
      refine V_getR X (by decide) rfl rfl (k := 26) inX8_removeStream_X8 rfl (by decide) wX8_removeStream_72 dX8_removeStream_94 (n := 97) rfl ?_
      refine V_iload_n X (q := 2) rfl rfl dX8_removeStream_97 (n := 98) rfl ?_
      refine V_iconst X (v := 1) (by decide) dX8_removeStream_98 (n := 99) rfl ?_
      refine V_iadd X dX8_removeStream_99 (n := 100) rfl ?_
      obtain ⟨g17, h⟩ := h
      refine V_ildN X (by decide) (by decide) rfl g17 dX8_removeStream_100 (n := 101) rfl ?_
      obtain ⟨g18, h⟩ := h
      refine V_istN X (by decide) (by decide) rfl g18 dX8_removeStream_101 (n := 102) rfl (fun N19 eN19 => ?_)
      have h := bd_at h eN19
      refine V_aload_n X (q := 0) rfl rfl dX8_removeStream_102 (n := 103) rfl ?_
      refine V_getR X (by decide) rfl rfl (k := 27) inX8_removeStream_X8 rfl (by decide) wX8_removeStream_75 dX8_removeStream_103 (n := 106) rfl ?_
      refine V_iload_n X (q := 2) rfl rfl dX8_removeStream_106 (n := 107) rfl ?_
      refine V_aload_n X (q := 0) rfl rfl dX8_removeStream_107 (n := 108) rfl ?_
      refine V_getR X (by decide) rfl rfl (k := 27) inX8_removeStream_X8 rfl (by decide) wX8_removeStream_75 dX8_removeStream_108 (n := 111) rfl ?_
      refine V_iload_n X (q := 2) rfl rfl dX8_removeStream_111 (n := 112) rfl ?_
      refine V_iconst X (v := 1) (by decide) dX8_removeStream_112 (n := 113) rfl ?_
      refine V_iadd X dX8_removeStream_113 (n := 114) rfl ?_
      obtain ⟨g20, h⟩ := h
      refine V_ildN X (by decide) (by decide) rfl g20 dX8_removeStream_114 (n := 115) rfl ?_
      obtain ⟨g21, h⟩ := h
      refine V_istN X (by decide) (by decide) rfl g21 dX8_removeStream_115 (n := 116) rfl (fun N22 eN22 => ?_)
      have h := bd_at h eN22
      refine V_iconst X (v := 0) (by decide) dX8_removeStream_116 (n := 117) rfl ?_
      refine V_istore_n X (L2 := [(3, .int (0 : Int32)), (0, .ref (ρ 66)), (1, .int p1), (2, .int v2)]) rfl (by decide) rfl dX8_removeStream_117 (n := 118) rfl ?_
      refine jn_o h (fun j28 ej28 h => ?_)
      have kj28 : ∀ (x29 : Int32) (N30 : Nm), j28 x29 N30 → V p l e rmX8_removeStream s m args below meth c D G ρ (WA ρ s.heap.size) s.heap 4 0 0 (Qi D G ρ s args below (fun r C1 N1 => K r N1 ∧ C1 = C)) 151 [(0, .ref (ρ 66)), (1, .int p1), (2, .int v2), (3, .int x29)] [] C N30 := by
        intro x29 N30 h
        rw [ej28] at h
        try dsimp only at h
        obtain ⟨x31, ex31⟩ : ∃ z : Int32, z = v2 + (1 : Int32) := ⟨_, rfl⟩
        have h := bd_at h ex31
        refine V_iinc X (q := 2) (d := 1) (L2 := [(2, .int x31), (0, .ref (ρ 66)), (1, .int p1), (3, .int x29)]) rfl (by decide) (by decide) ex31 rfl dX8_removeStream_151 (n := 154) rfl ?_
        refine V_goto X dX8_removeStream_154 (tgt := 24) (by decide) ?_
        refine V_loc [1, 2, 0] rfl ?_
        exact ih x31 N30 h
      refine V_loc [1, 2, 3, 0] rfl ?_
      exact TX8_removeStream_L118 X hr hlk C p1 v2 (E := j28) (K := K) kj28 200 (0 : Int32) N22 h
set_option maxRecDepth 100000 in
set_option maxHeartbeats 4000000 in
theorem TX8_removeStream (l : Launch) (D : va_G) (G : Gc) (ρ : Nat → Nat) (C : Xm) (N : Nm)  (a1 : Int32) (K : Int32 → Nm → Prop) (h : fX8_removeStream N a1 K) : Ki l yX8_removeStream wsX8_removeStream rmX8_removeStream D G ρ [.ref (ρ 66), .int a1] C N (fun r C1 N1 => K r N1 ∧ C1 = C) := by
  refine Ki.ofV (cc := cX8_removeStream) (maxL := 4) (ret := (some .int)) (by decide +kernel) rfl (Nat.le_of_ble_eq_true rfl) ?_
  intro p e s m args below meth c X hr hlk
  show V p l e rmX8_removeStream s m args below meth c D G ρ (WA ρ s.heap.size) s.heap 4 0 0 (Qi D G ρ s args below (fun r C1 N1 => K r N1 ∧ C1 = C)) 0 [(0, .ref (ρ 66)), (1, .int a1)] [] C N
  unfold fX8_removeStream at h
  refine V_aload_n X (q := 0) rfl rfl dX8_removeStream_0 (n := 1) rfl ?_
  refine V_iload_n X (q := 1) rfl rfl dX8_removeStream_1 (n := 2) rfl ?_
  refine V_calli X (As := [.int a1]) (rest := []) (nA := 1) (i := 66) (q := (RX8, TX8, 42)) (TX8_isStream l D G ρ C N a1 _ h) gX8_removeStream_X8_isStream rfl rfl rfl (by decide +kernel) rfl ⟨by decide, by decide⟩ (Nat.le_of_ble_eq_true rfl) ⟨by decide, by decide⟩ (by decide) rfl rfl rfl dX8_removeStream_2 (n := 5) rfl (fun r1 M1 M0 h => ?_)
  obtain ⟨h, eo, eo2⟩ := h
  rw [eo, eo2]
  refine V_if_ne X dX8_removeStream_5 (tgt := 12) (n := 8) (by decide) rfl (fun c2 => ?_) (fun c2 => ?_)
  · have h := ite_f h c2
    refine V_aload_n X (q := 0) rfl rfl dX8_removeStream_12 (n := 13) rfl ?_
    refine V_dup X rfl dX8_removeStream_13 (n := 14) rfl ?_
    refine V_getN X (by decide) (by decide) rfl rfl (k := 20) inX8_removeStream_X8 rfl (by decide) wX8_removeStream_141 dX8_removeStream_14 (n := 17) rfl ?_
    refine V_iconst X (v := 1) (by decide) dX8_removeStream_17 (n := 18) rfl ?_
    refine V_isub X dX8_removeStream_18 (n := 19) rfl ?_
    refine V_putN X (by decide) (by decide) rfl rfl (k := 20) inX8_removeStream_X8 rfl (by decide) wX8_removeStream_141 tyX8 tyX8_ok nmX8 rfl (by decide +kernel) dX8_removeStream_19 (n := 22) rfl (fun N3 eN3 => ?_)
    have h := bd_at h eN3
    refine V_iload_n X (q := 1) rfl rfl dX8_removeStream_22 (n := 23) rfl ?_
    refine V_istore_n X (L2 := [(2, .int a1), (0, .ref (ρ 66)), (1, .int a1)]) rfl (by decide) rfl dX8_removeStream_23 (n := 24) rfl ?_
    refine jn_o h (fun j32 ej32 h => ?_)
    have kj32 : ∀ (x33 : Int32) (N34 : Nm), j32 x33 N34 → V p l e rmX8_removeStream s m args below meth c D G ρ (WA ρ s.heap.size) s.heap 4 0 0 (Qi D G ρ s args below (fun r C1 N1 => K r N1 ∧ C1 = C)) 157 [(0, .ref (ρ 66)), (1, .int a1), (2, .int x33)] [] C N34 := by
      intro x33 N34 h
      rw [ej32] at h
      try dsimp only at h
      refine V_aload_n X (q := 0) rfl rfl dX8_removeStream_157 (n := 158) rfl ?_
      refine V_iconst X (v := 0) (by decide) dX8_removeStream_158 (n := 159) rfl ?_
      refine V_putN X (by decide) (by decide) rfl rfl (k := 28) inX8_removeStream_X8 rfl (by decide) wX8_removeStream_144 tyX8 tyX8_ok nmX8 rfl (by decide +kernel) dX8_removeStream_159 (n := 162) rfl (fun N35 eN35 => ?_)
      have h := bd_at h eN35
      refine V_aload_n X (q := 0) rfl rfl dX8_removeStream_162 (n := 163) rfl ?_
      refine V_getN X (by decide) (by decide) rfl rfl (k := 20) inX8_removeStream_X8 rfl (by decide) wX8_removeStream_141 dX8_removeStream_163 (n := 166) rfl ?_
      exact V_iret X hr hlk dX8_removeStream_166 ⟨h, rfl⟩
    refine V_loc [1, 2, 0] rfl ?_
    exact TX8_removeStream_L24 X hr hlk C a1 (E := j32) (K := K) kj32 200 a1 N3 h
  · have h := ite_t h c2
    refine V_sipush X (v := -1001) (by decide) dX8_removeStream_8 (n := 11) rfl ?_
    exact V_iret X hr hlk dX8_removeStream_11 ⟨h, rfl⟩
abbrev rmX8_waitingPackets : Room := { frames := 2, cells := 0, slots := 0, locals := 43 }
theorem wX8_waitingPackets_66 : Cond.fieldLink RX8 66 "FloodBusModel" "waiting" "[I" ∈ wsX8_waitingPackets := by decide +kernel
theorem inX8_waitingPackets_X8 : ∀ w ∈ wsX80, w ∈ wsX8_waitingPackets := by decide +kernel
set_option maxRecDepth 100000 in
set_option maxHeartbeats 4000000 in
theorem TX8_waitingPackets (l : Launch) (D : va_G) (G : Gc) (ρ : Nat → Nat) (C : Xm) (N : Nm)  (a1 : Int32) (K : Int32 → Prop) (h : fX8_waitingPackets N a1 K) : Ki l yX8_waitingPackets wsX8_waitingPackets rmX8_waitingPackets D G ρ [.ref (ρ 66), .int a1] C N (fun r C1 N1 => K r ∧ C1 = C ∧ N1 = N) := by
  refine Ki.ofV (cc := cX8_waitingPackets) (maxL := 2) (ret := (some .int)) (by decide +kernel) rfl (Nat.le_of_ble_eq_true rfl) ?_
  intro p e s m args below meth c X hr hlk
  show V p l e rmX8_waitingPackets s m args below meth c D G ρ (WA ρ s.heap.size) s.heap 2 0 0 (Qi D G ρ s args below (fun r C1 N1 => K r ∧ C1 = C ∧ N1 = N)) 0 [(0, .ref (ρ 66)), (1, .int a1)] [] C N
  unfold fX8_waitingPackets at h
  refine V_aload_n X (q := 0) rfl rfl dX8_waitingPackets_0 (n := 1) rfl ?_
  refine V_iload_n X (q := 1) rfl rfl dX8_waitingPackets_1 (n := 2) rfl ?_
  refine V_calli X (As := [.int a1]) (rest := []) (nA := 1) (i := 66) (q := (RX8, TX8, 42)) (TX8_isStream l D G ρ C N a1 _ h) gX8_waitingPackets_X8_isStream rfl rfl rfl (by decide +kernel) rfl ⟨by decide, by decide⟩ (Nat.le_of_ble_eq_true rfl) ⟨by decide, by decide⟩ (by decide) rfl rfl rfl dX8_waitingPackets_2 (n := 5) rfl (fun r1 M1 M0 h => ?_)
  obtain ⟨h, eo, eo2⟩ := h
  rw [eo, eo2]
  refine jn_o h (fun j2 ej2 h => ?_)
  have kj2 : ∀ (x5 : Int32), j2 x5 → V p l e rmX8_waitingPackets s m args below meth c D G ρ (WA ρ s.heap.size) s.heap 2 0 0 (Qi D G ρ s args below (fun r C1 N1 => K r ∧ C1 = C ∧ N1 = N)) 20 [(0, .ref (ρ 66)), (1, .int a1)] [.int x5] C N := by
    intro x5 h
    rw [ej2] at h
    try dsimp only at h
    exact V_iret X hr hlk dX8_waitingPackets_20 ⟨h, rfl, rfl⟩
  refine V_if_eq X dX8_waitingPackets_5 (tgt := 17) (n := 8) (by decide) rfl (fun c3 => ?_) (fun c3 => ?_)
  · have h := ite_t h c3
    refine V_sipush X (v := -1001) (by decide) dX8_waitingPackets_17 (n := 20) rfl ?_
    exact kj2 (-1001 : Int32) h
  · have h := ite_f h c3
    refine V_aload_n X (q := 0) rfl rfl dX8_waitingPackets_8 (n := 9) rfl ?_
    refine V_getR X (by decide) rfl rfl (k := 24) inX8_waitingPackets_X8 rfl (by decide) wX8_waitingPackets_66 dX8_waitingPackets_9 (n := 12) rfl ?_
    refine V_iload_n X (q := 1) rfl rfl dX8_waitingPackets_12 (n := 13) rfl ?_
    obtain ⟨g4, h⟩ := h
    refine V_ildN X (by decide) (by decide) rfl g4 dX8_waitingPackets_13 (n := 14) rfl ?_
    refine V_goto X dX8_waitingPackets_14 (tgt := 20) (by decide) ?_
    exact kj2 (N.1 80 (Int32.toNatClampNeg a1)) h
abbrev rmX8_deliveredPackets : Room := { frames := 2, cells := 0, slots := 0, locals := 43 }
theorem wX8_deliveredPackets_72 : Cond.fieldLink RX8 72 "FloodBusModel" "delivered" "[I" ∈ wsX8_deliveredPackets := by decide +kernel
theorem inX8_deliveredPackets_X8 : ∀ w ∈ wsX80, w ∈ wsX8_deliveredPackets := by decide +kernel
set_option maxRecDepth 100000 in
set_option maxHeartbeats 4000000 in
theorem TX8_deliveredPackets (l : Launch) (D : va_G) (G : Gc) (ρ : Nat → Nat) (C : Xm) (N : Nm)  (a1 : Int32) (K : Int32 → Prop) (h : fX8_deliveredPackets N a1 K) : Ki l yX8_deliveredPackets wsX8_deliveredPackets rmX8_deliveredPackets D G ρ [.ref (ρ 66), .int a1] C N (fun r C1 N1 => K r ∧ C1 = C ∧ N1 = N) := by
  refine Ki.ofV (cc := cX8_deliveredPackets) (maxL := 2) (ret := (some .int)) (by decide +kernel) rfl (Nat.le_of_ble_eq_true rfl) ?_
  intro p e s m args below meth c X hr hlk
  show V p l e rmX8_deliveredPackets s m args below meth c D G ρ (WA ρ s.heap.size) s.heap 2 0 0 (Qi D G ρ s args below (fun r C1 N1 => K r ∧ C1 = C ∧ N1 = N)) 0 [(0, .ref (ρ 66)), (1, .int a1)] [] C N
  unfold fX8_deliveredPackets at h
  refine V_aload_n X (q := 0) rfl rfl dX8_deliveredPackets_0 (n := 1) rfl ?_
  refine V_iload_n X (q := 1) rfl rfl dX8_deliveredPackets_1 (n := 2) rfl ?_
  refine V_calli X (As := [.int a1]) (rest := []) (nA := 1) (i := 66) (q := (RX8, TX8, 42)) (TX8_isStream l D G ρ C N a1 _ h) gX8_deliveredPackets_X8_isStream rfl rfl rfl (by decide +kernel) rfl ⟨by decide, by decide⟩ (Nat.le_of_ble_eq_true rfl) ⟨by decide, by decide⟩ (by decide) rfl rfl rfl dX8_deliveredPackets_2 (n := 5) rfl (fun r1 M1 M0 h => ?_)
  obtain ⟨h, eo, eo2⟩ := h
  rw [eo, eo2]
  refine jn_o h (fun j2 ej2 h => ?_)
  have kj2 : ∀ (x5 : Int32), j2 x5 → V p l e rmX8_deliveredPackets s m args below meth c D G ρ (WA ρ s.heap.size) s.heap 2 0 0 (Qi D G ρ s args below (fun r C1 N1 => K r ∧ C1 = C ∧ N1 = N)) 20 [(0, .ref (ρ 66)), (1, .int a1)] [.int x5] C N := by
    intro x5 h
    rw [ej2] at h
    try dsimp only at h
    exact V_iret X hr hlk dX8_deliveredPackets_20 ⟨h, rfl, rfl⟩
  refine V_if_eq X dX8_deliveredPackets_5 (tgt := 17) (n := 8) (by decide) rfl (fun c3 => ?_) (fun c3 => ?_)
  · have h := ite_t h c3
    refine V_sipush X (v := -1001) (by decide) dX8_deliveredPackets_17 (n := 20) rfl ?_
    exact kj2 (-1001 : Int32) h
  · have h := ite_f h c3
    refine V_aload_n X (q := 0) rfl rfl dX8_deliveredPackets_8 (n := 9) rfl ?_
    refine V_getR X (by decide) rfl rfl (k := 26) inX8_deliveredPackets_X8 rfl (by decide) wX8_deliveredPackets_72 dX8_deliveredPackets_9 (n := 12) rfl ?_
    refine V_iload_n X (q := 1) rfl rfl dX8_deliveredPackets_12 (n := 13) rfl ?_
    obtain ⟨g4, h⟩ := h
    refine V_ildN X (by decide) (by decide) rfl g4 dX8_deliveredPackets_13 (n := 14) rfl ?_
    refine V_goto X dX8_deliveredPackets_14 (tgt := 20) (by decide) ?_
    exact kj2 (N.1 82 (Int32.toNatClampNeg a1)) h
abbrev rmX8_lostPackets : Room := { frames := 2, cells := 0, slots := 0, locals := 43 }
theorem wX8_lostPackets_75 : Cond.fieldLink RX8 75 "FloodBusModel" "lost" "[I" ∈ wsX8_lostPackets := by decide +kernel
theorem inX8_lostPackets_X8 : ∀ w ∈ wsX80, w ∈ wsX8_lostPackets := by decide +kernel
set_option maxRecDepth 100000 in
set_option maxHeartbeats 4000000 in
theorem TX8_lostPackets (l : Launch) (D : va_G) (G : Gc) (ρ : Nat → Nat) (C : Xm) (N : Nm)  (a1 : Int32) (K : Int32 → Prop) (h : fX8_lostPackets N a1 K) : Ki l yX8_lostPackets wsX8_lostPackets rmX8_lostPackets D G ρ [.ref (ρ 66), .int a1] C N (fun r C1 N1 => K r ∧ C1 = C ∧ N1 = N) := by
  refine Ki.ofV (cc := cX8_lostPackets) (maxL := 2) (ret := (some .int)) (by decide +kernel) rfl (Nat.le_of_ble_eq_true rfl) ?_
  intro p e s m args below meth c X hr hlk
  show V p l e rmX8_lostPackets s m args below meth c D G ρ (WA ρ s.heap.size) s.heap 2 0 0 (Qi D G ρ s args below (fun r C1 N1 => K r ∧ C1 = C ∧ N1 = N)) 0 [(0, .ref (ρ 66)), (1, .int a1)] [] C N
  unfold fX8_lostPackets at h
  refine V_aload_n X (q := 0) rfl rfl dX8_lostPackets_0 (n := 1) rfl ?_
  refine V_iload_n X (q := 1) rfl rfl dX8_lostPackets_1 (n := 2) rfl ?_
  refine V_calli X (As := [.int a1]) (rest := []) (nA := 1) (i := 66) (q := (RX8, TX8, 42)) (TX8_isStream l D G ρ C N a1 _ h) gX8_lostPackets_X8_isStream rfl rfl rfl (by decide +kernel) rfl ⟨by decide, by decide⟩ (Nat.le_of_ble_eq_true rfl) ⟨by decide, by decide⟩ (by decide) rfl rfl rfl dX8_lostPackets_2 (n := 5) rfl (fun r1 M1 M0 h => ?_)
  obtain ⟨h, eo, eo2⟩ := h
  rw [eo, eo2]
  refine jn_o h (fun j2 ej2 h => ?_)
  have kj2 : ∀ (x5 : Int32), j2 x5 → V p l e rmX8_lostPackets s m args below meth c D G ρ (WA ρ s.heap.size) s.heap 2 0 0 (Qi D G ρ s args below (fun r C1 N1 => K r ∧ C1 = C ∧ N1 = N)) 20 [(0, .ref (ρ 66)), (1, .int a1)] [.int x5] C N := by
    intro x5 h
    rw [ej2] at h
    try dsimp only at h
    exact V_iret X hr hlk dX8_lostPackets_20 ⟨h, rfl, rfl⟩
  refine V_if_eq X dX8_lostPackets_5 (tgt := 17) (n := 8) (by decide) rfl (fun c3 => ?_) (fun c3 => ?_)
  · have h := ite_t h c3
    refine V_sipush X (v := -1001) (by decide) dX8_lostPackets_17 (n := 20) rfl ?_
    exact kj2 (-1001 : Int32) h
  · have h := ite_f h c3
    refine V_aload_n X (q := 0) rfl rfl dX8_lostPackets_8 (n := 9) rfl ?_
    refine V_getR X (by decide) rfl rfl (k := 27) inX8_lostPackets_X8 rfl (by decide) wX8_lostPackets_75 dX8_lostPackets_9 (n := 12) rfl ?_
    refine V_iload_n X (q := 1) rfl rfl dX8_lostPackets_12 (n := 13) rfl ?_
    obtain ⟨g4, h⟩ := h
    refine V_ildN X (by decide) (by decide) rfl g4 dX8_lostPackets_13 (n := 14) rfl ?_
    refine V_goto X dX8_lostPackets_14 (tgt := 20) (by decide) ?_
    exact kj2 (N.1 83 (Int32.toNatClampNeg a1)) h
abbrev rmX8_generate : Room := { frames := 0, cells := 0, slots := 0, locals := 0 }
theorem wX8_generate_141 : Cond.fieldLink RX8 141 "FloodBusModel" "streams" "I" ∈ wsX8_generate := by decide +kernel
theorem wX8_generate_138 : Cond.fieldLink RX8 138 "FloodBusModel" "round" "I" ∈ wsX8_generate := by decide +kernel
theorem wX8_generate_63 : Cond.fieldLink RX8 63 "FloodBusModel" "start" "[I" ∈ wsX8_generate := by decide +kernel
theorem wX8_generate_60 : Cond.fieldLink RX8 60 "FloodBusModel" "period" "[I" ∈ wsX8_generate := by decide +kernel
theorem wX8_generate_66 : Cond.fieldLink RX8 66 "FloodBusModel" "waiting" "[I" ∈ wsX8_generate := by decide +kernel
theorem wX8_generate_69 : Cond.fieldLink RX8 69 "FloodBusModel" "generated" "[I" ∈ wsX8_generate := by decide +kernel
theorem wX8_generate_75 : Cond.fieldLink RX8 75 "FloodBusModel" "lost" "[I" ∈ wsX8_generate := by decide +kernel
theorem inX8_generate_X8 : ∀ w ∈ wsX80, w ∈ wsX8_generate := by decide +kernel
set_option maxRecDepth 100000 in
set_option maxHeartbeats 4000000 in
theorem TX8_generate_L2 {p : Program} {l : Launch} {e : Env} {s : State} {m : MethodId} {args : Array Value} {below : List Frame} {meth : Method} {c : Code} {D : va_G} {G : Gc} {ρ : Nat → Nat} (X : Cx p s m args c cX8_generate 2 RX8 wsX8_generate D G ρ (WA ρ s.heap.size) s.heap) (hr : meth.sig.returnType = none) (hlk : meth.locks = false) (C : Xm)   {E : Int32 → Nm → Prop} {K : Nm → Prop} (hE : ∀ (v1 : Int32) (N : Nm), E v1 N → V p l e rmX8_generate s m args below meth c D G ρ (WA ρ s.heap.size) s.heap 2 0 0 (Qv D G ρ s args below (fun C1 N1 => K N1 ∧ C1 = C)) 102 [(0, .ref (ρ 66)), (1, .int v1)] [] C N) : ∀ (n : Nat) (v1 : Int32) (N : Nm), fX8_generate_L2  E K n v1 N → V p l e rmX8_generate s m args below meth c D G ρ (WA ρ s.heap.size) s.heap 2 0 0 (Qv D G ρ s args below (fun C1 N1 => K N1 ∧ C1 = C)) 2 [(0, .ref (ρ 66)), (1, .int v1)] [] C N := by
  intro n
  induction n with
  | zero => intro v1 N h; exact h.elim
  | succ n ih =>
    intro v1 N h
    unfold fX8_generate_L2 at h
    refine V_iload_n X (q := 1) rfl rfl dX8_generate_2 (n := 3) rfl ?_
    refine V_aload_n X (q := 0) rfl rfl dX8_generate_3 (n := 4) rfl ?_
    refine V_getN X (by decide) (by decide) rfl rfl (k := 20) inX8_generate_X8 rfl (by decide) wX8_generate_141 dX8_generate_4 (n := 7) rfl ?_
    refine V_icmp_ge X dX8_generate_7 (tgt := 102) (n := 10) (by decide) rfl (fun c1 => ?_) (fun c1 => ?_)
    · have h := ite_t h c1
      exact hE v1 N h
    · have h := ite_f h c1
      refine V_aload_n X (q := 0) rfl rfl dX8_generate_10 (n := 11) rfl ?_
      refine V_getN X (by decide) (by decide) rfl rfl (k := 15) inX8_generate_X8 rfl (by decide) wX8_generate_138 dX8_generate_11 (n := 14) rfl ?_
      refine V_aload_n X (q := 0) rfl rfl dX8_generate_14 (n := 15) rfl ?_
      refine V_getR X (by decide) rfl rfl (k := 23) inX8_generate_X8 rfl (by decide) wX8_generate_63 dX8_generate_15 (n := 18) rfl ?_
      refine V_iload_n X (q := 1) rfl rfl dX8_generate_18 (n := 19) rfl ?_
      obtain ⟨g2, h⟩ := h
      refine V_ildN X (by decide) (by decide) rfl g2 dX8_generate_19 (n := 20) rfl ?_
      refine jn_o h (fun j3 ej3 h => ?_)
      have kj3 : ∀ (N20 : Nm), j3 N20 → V p l e rmX8_generate s m args below meth c D G ρ (WA ρ s.heap.size) s.heap 2 0 0 (Qv D G ρ s args below (fun C1 N1 => K N1 ∧ C1 = C)) 96 [(0, .ref (ρ 66)), (1, .int v1)] [] C N20 := by
        intro N20 h
        rw [ej3] at h
        try dsimp only at h
        obtain ⟨x21, ex21⟩ : ∃ z : Int32, z = v1 + (1 : Int32) := ⟨_, rfl⟩
        have h := bd_at h ex21
        refine V_iinc X (q := 1) (d := 1) (L2 := [(1, .int x21), (0, .ref (ρ 66))]) rfl (by decide) (by decide) ex21 rfl dX8_generate_96 (n := 99) rfl ?_
        refine V_goto X dX8_generate_99 (tgt := 2) (by decide) ?_
        refine V_loc [1, 0] rfl ?_
        exact ih x21 N20 h
      refine V_icmp_lt X dX8_generate_20 (tgt := 96) (n := 23) (by decide) rfl (fun c4 => ?_) (fun c4 => ?_)
      · have h := ite_t h c4
        exact kj3 N h
      · have h := ite_f h c4
        refine V_aload_n X (q := 0) rfl rfl dX8_generate_23 (n := 24) rfl ?_
        refine V_getN X (by decide) (by decide) rfl rfl (k := 15) inX8_generate_X8 rfl (by decide) wX8_generate_138 dX8_generate_24 (n := 27) rfl ?_
        refine V_aload_n X (q := 0) rfl rfl dX8_generate_27 (n := 28) rfl ?_
        refine V_getR X (by decide) rfl rfl (k := 23) inX8_generate_X8 rfl (by decide) wX8_generate_63 dX8_generate_28 (n := 31) rfl ?_
        refine V_iload_n X (q := 1) rfl rfl dX8_generate_31 (n := 32) rfl ?_
        obtain ⟨g5, h⟩ := h
        refine V_ildN X (by decide) (by decide) rfl g5 dX8_generate_32 (n := 33) rfl ?_
        refine V_isub X dX8_generate_33 (n := 34) rfl ?_
        refine V_aload_n X (q := 0) rfl rfl dX8_generate_34 (n := 35) rfl ?_
        refine V_getR X (by decide) rfl rfl (k := 22) inX8_generate_X8 rfl (by decide) wX8_generate_60 dX8_generate_35 (n := 38) rfl ?_
        refine V_iload_n X (q := 1) rfl rfl dX8_generate_38 (n := 39) rfl ?_
        obtain ⟨g6, h⟩ := h
        refine V_ildN X (by decide) (by decide) rfl g6 dX8_generate_39 (n := 40) rfl ?_
        obtain ⟨g7, h⟩ := h
        refine V_irem X g7 dX8_generate_40 (n := 41) rfl ?_
        refine V_if_ne X dX8_generate_41 (tgt := 96) (n := 44) (by decide) rfl (fun c8 => ?_) (fun c8 => ?_)
        · have h := ite_f h c8
          exact kj3 N h
        · have h := ite_t h c8
          refine V_aload_n X (q := 0) rfl rfl dX8_generate_44 (n := 45) rfl ?_
          refine V_getR X (by decide) rfl rfl (k := 24) inX8_generate_X8 rfl (by decide) wX8_generate_66 dX8_generate_45 (n := 48) rfl ?_
          refine V_iload_n X (q := 1) rfl rfl dX8_generate_48 (n := 49) rfl ?_
          obtain ⟨g9, h⟩ := h
          refine V_ildN X (by decide) (by decide) rfl g9 dX8_generate_49 (n := 50) rfl ?_
          refine V_iconst X (v := 4) (by decide) dX8_generate_50 (n := 51) rfl ?_
          refine V_icmp_ne X dX8_generate_51 (tgt := 67) (n := 54) (by decide) rfl (fun c10 => ?_) (fun c10 => ?_)
          · have h := ite_f h c10
            refine V_aload_n X (q := 0) rfl rfl dX8_generate_67 (n := 68) rfl ?_
            refine V_getR X (by decide) rfl rfl (k := 25) inX8_generate_X8 rfl (by decide) wX8_generate_69 dX8_generate_68 (n := 71) rfl ?_
            refine V_iconst X (v := 4) (by decide) dX8_generate_71 (n := 72) rfl ?_
            refine V_iload_n X (q := 1) rfl rfl dX8_generate_72 (n := 73) rfl ?_
            refine V_imul X dX8_generate_73 (n := 74) rfl ?_
            refine V_aload_n X (q := 0) rfl rfl dX8_generate_74 (n := 75) rfl ?_
            refine V_getR X (by decide) rfl rfl (k := 24) inX8_generate_X8 rfl (by decide) wX8_generate_66 dX8_generate_75 (n := 78) rfl ?_
            refine V_iload_n X (q := 1) rfl rfl dX8_generate_78 (n := 79) rfl ?_
            obtain ⟨g11, h⟩ := h
            refine V_ildN X (by decide) (by decide) rfl g11 dX8_generate_79 (n := 80) rfl ?_
            refine V_iadd X dX8_generate_80 (n := 81) rfl ?_
            refine V_aload_n X (q := 0) rfl rfl dX8_generate_81 (n := 82) rfl ?_
            refine V_getN X (by decide) (by decide) rfl rfl (k := 15) inX8_generate_X8 rfl (by decide) wX8_generate_138 dX8_generate_82 (n := 85) rfl ?_
            obtain ⟨g12, h⟩ := h
            refine V_istN X (by decide) (by decide) rfl g12 dX8_generate_85 (n := 86) rfl (fun N13 eN13 => ?_)
            have h := bd_at h eN13
            refine V_aload_n X (q := 0) rfl rfl dX8_generate_86 (n := 87) rfl ?_
            refine V_getR X (by decide) rfl rfl (k := 24) inX8_generate_X8 rfl (by decide) wX8_generate_66 dX8_generate_87 (n := 90) rfl ?_
            refine V_iload_n X (q := 1) rfl rfl dX8_generate_90 (n := 91) rfl ?_
            refine V_dup2 X rfl rfl dX8_generate_91 (n := 92) rfl ?_
            obtain ⟨g14, h⟩ := h
            refine V_ildN X (by decide) (by decide) rfl g14 dX8_generate_92 (n := 93) rfl ?_
            refine V_iconst X (v := 1) (by decide) dX8_generate_93 (n := 94) rfl ?_
            refine V_iadd X dX8_generate_94 (n := 95) rfl ?_
            obtain ⟨g15, h⟩ := h
            refine V_istN X (by decide) (by decide) rfl g15 dX8_generate_95 (n := 96) rfl (fun N16 eN16 => ?_)
            have h := bd_at h eN16
            exact kj3 N16 h
          · have h := ite_t h c10
            refine V_aload_n X (q := 0) rfl rfl dX8_generate_54 (n := 55) rfl ?_
            refine V_getR X (by decide) rfl rfl (k := 27) inX8_generate_X8 rfl (by decide) wX8_generate_75 dX8_generate_55 (n := 58) rfl ?_
            refine V_iload_n X (q := 1) rfl rfl dX8_generate_58 (n := 59) rfl ?_
            refine V_dup2 X rfl rfl dX8_generate_59 (n := 60) rfl ?_
            obtain ⟨g17, h⟩ := h
            refine V_ildN X (by decide) (by decide) rfl g17 dX8_generate_60 (n := 61) rfl ?_
            refine V_iconst X (v := 1) (by decide) dX8_generate_61 (n := 62) rfl ?_
            refine V_iadd X dX8_generate_62 (n := 63) rfl ?_
            obtain ⟨g18, h⟩ := h
            refine V_istN X (by decide) (by decide) rfl g18 dX8_generate_63 (n := 64) rfl (fun N19 eN19 => ?_)
            have h := bd_at h eN19
            refine V_goto X dX8_generate_64 (tgt := 96) (by decide) ?_
            exact kj3 N19 h
set_option maxRecDepth 100000 in
set_option maxHeartbeats 4000000 in
theorem TX8_generate (l : Launch) (D : va_G) (G : Gc) (ρ : Nat → Nat) (C : Xm) (N : Nm)   (K : Nm → Prop) (h : fX8_generate N K) : Kv l yX8_generate wsX8_generate rmX8_generate D G ρ [.ref (ρ 66)] C N (fun C1 N1 => K N1 ∧ C1 = C) := by
  refine Kv.ofV (cc := cX8_generate) (maxL := 2) (ret := none) (by decide +kernel) rfl (Nat.le_of_ble_eq_true rfl) ?_
  intro p e s m args below meth c X hr hlk
  show V p l e rmX8_generate s m args below meth c D G ρ (WA ρ s.heap.size) s.heap 2 0 0 (Qv D G ρ s args below (fun C1 N1 => K N1 ∧ C1 = C)) 0 [(0, .ref (ρ 66))] [] C N
  unfold fX8_generate at h
  refine V_iconst X (v := 0) (by decide) dX8_generate_0 (n := 1) rfl ?_
  refine V_istore_n X (L2 := [(1, .int (0 : Int32)), (0, .ref (ρ 66))]) rfl (by decide) rfl dX8_generate_1 (n := 2) rfl ?_
  refine jn_o h (fun j22 ej22 h => ?_)
  have kj22 : ∀ (x23 : Int32) (N24 : Nm), j22 x23 N24 → V p l e rmX8_generate s m args below meth c D G ρ (WA ρ s.heap.size) s.heap 2 0 0 (Qv D G ρ s args below (fun C1 N1 => K N1 ∧ C1 = C)) 102 [(0, .ref (ρ 66)), (1, .int x23)] [] C N24 := by
    intro x23 N24 h
    rw [ej22] at h
    try dsimp only at h
    exact V_vret X hr hlk dX8_generate_102 ⟨h, rfl⟩
  refine V_loc [1, 0] rfl ?_
  exact TX8_generate_L2 X hr hlk C  (E := j22) (K := K) kj22 200 (0 : Int32) N h
abbrev rmX8_isScheduled : Room := { frames := 0, cells := 0, slots := 0, locals := 0 }
theorem wX8_isScheduled_144 : Cond.fieldLink RX8 144 "FloodBusModel" "entries" "I" ∈ wsX8_isScheduled := by decide +kernel
theorem wX8_isScheduled_78 : Cond.fieldLink RX8 78 "FloodBusModel" "schedule" "[I" ∈ wsX8_isScheduled := by decide +kernel
theorem inX8_isScheduled_X8 : ∀ w ∈ wsX80, w ∈ wsX8_isScheduled := by decide +kernel
set_option maxRecDepth 100000 in
set_option maxHeartbeats 4000000 in
theorem TX8_isScheduled_L4 {p : Program} {l : Launch} {e : Env} {s : State} {m : MethodId} {args : Array Value} {below : List Frame} {meth : Method} {c : Code} {D : va_G} {G : Gc} {ρ : Nat → Nat} (X : Cx p s m args c cX8_isScheduled 4 RX8 wsX8_isScheduled D G ρ (WA ρ s.heap.size) s.heap) (hr : meth.sig.returnType = some .boolean) (hlk : meth.locks = false) (C : Xm) (N : Nm) (p1 : Int32)  {E : Int32 → Int32 → Prop} {K : Int32 → Prop} (hE : ∀ (v2 : Int32) (v3 : Int32), E v2 v3 → V p l e rmX8_isScheduled s m args below meth c D G ρ (WA ρ s.heap.size) s.heap 4 0 0 (Qi D G ρ s args below (fun r C1 N1 => K r ∧ C1 = C ∧ N1 = N)) 38 [(0, .ref (ρ 66)), (1, .int p1), (2, .int v2), (3, .int v3)] [] C N) : ∀ (n : Nat) (v2 : Int32) (v3 : Int32), fX8_isScheduled_L4 N p1 E K n v2 v3 → V p l e rmX8_isScheduled s m args below meth c D G ρ (WA ρ s.heap.size) s.heap 4 0 0 (Qi D G ρ s args below (fun r C1 N1 => K r ∧ C1 = C ∧ N1 = N)) 4 [(0, .ref (ρ 66)), (1, .int p1), (2, .int v2), (3, .int v3)] [] C N := by
  intro n
  induction n with
  | zero => intro v2 v3 h; exact h.elim
  | succ n ih =>
    intro v2 v3 h
    unfold fX8_isScheduled_L4 at h
    refine V_iload_n X (q := 3) rfl rfl dX8_isScheduled_4 (n := 5) rfl ?_
    refine V_aload_n X (q := 0) rfl rfl dX8_isScheduled_5 (n := 6) rfl ?_
    refine V_getN X (by decide) (by decide) rfl rfl (k := 28) inX8_isScheduled_X8 rfl (by decide) wX8_isScheduled_144 dX8_isScheduled_6 (n := 9) rfl ?_
    refine V_icmp_ge X dX8_isScheduled_9 (tgt := 38) (n := 12) (by decide) rfl (fun c1 => ?_) (fun c1 => ?_)
    · have h := ite_t h c1
      exact hE v2 v3 h
    · have h := ite_f h c1
      refine V_iload_n X (q := 2) rfl rfl dX8_isScheduled_12 (n := 13) rfl ?_
      refine jn_o h (fun j3 ej3 h => ?_)
      have kj3 : ∀ (x7 : Int32), j3 x7 → V p l e rmX8_isScheduled s m args below meth c D G ρ (WA ρ s.heap.size) s.heap 4 0 0 (Qi D G ρ s args below (fun r C1 N1 => K r ∧ C1 = C ∧ N1 = N)) 31 [(0, .ref (ρ 66)), (1, .int p1), (2, .int v2), (3, .int v3)] [.int x7] C N := by
        intro x7 h
        rw [ej3] at h
        try dsimp only at h
        refine V_istore_n X (L2 := [(2, .int x7), (0, .ref (ρ 66)), (1, .int p1), (3, .int v3)]) rfl (by decide) rfl dX8_isScheduled_31 (n := 32) rfl ?_
        obtain ⟨x8, ex8⟩ : ∃ z : Int32, z = v3 + (1 : Int32) := ⟨_, rfl⟩
        have h := bd_at h ex8
        refine V_iinc X (q := 3) (d := 1) (L2 := [(3, .int x8), (2, .int x7), (0, .ref (ρ 66)), (1, .int p1)]) rfl (by decide) (by decide) ex8 rfl dX8_isScheduled_32 (n := 35) rfl ?_
        refine V_goto X dX8_isScheduled_35 (tgt := 4) (by decide) ?_
        refine V_loc [2, 3, 1, 0] rfl ?_
        exact ih x7 x8 h
      refine jn_o h (fun j2 ej2 h => ?_)
      have kj2 : j2 → V p l e rmX8_isScheduled s m args below meth c D G ρ (WA ρ s.heap.size) s.heap 4 0 0 (Qi D G ρ s args below (fun r C1 N1 => K r ∧ C1 = C ∧ N1 = N)) 26 [(0, .ref (ρ 66)), (1, .int p1), (2, .int v2), (3, .int v3)] [] C N := by
        intro  h
        rw [ej2] at h
        refine V_iconst X (v := 1) (by decide) dX8_isScheduled_26 (n := 27) rfl ?_
        refine V_goto X dX8_isScheduled_27 (tgt := 31) (by decide) ?_
        exact kj3 (1 : Int32) h
      refine V_if_ne X dX8_isScheduled_13 (tgt := 26) (n := 16) (by decide) rfl (fun c4 => ?_) (fun c4 => ?_)
      · have h := ite_f h c4
        exact kj2  h
      · have h := ite_t h c4
        refine V_aload_n X (q := 0) rfl rfl dX8_isScheduled_16 (n := 17) rfl ?_
        refine V_getR X (by decide) rfl rfl (k := 29) inX8_isScheduled_X8 rfl (by decide) wX8_isScheduled_78 dX8_isScheduled_17 (n := 20) rfl ?_
        refine V_iload_n X (q := 3) rfl rfl dX8_isScheduled_20 (n := 21) rfl ?_
        obtain ⟨g5, h⟩ := h
        refine V_ildN X (by decide) (by decide) rfl g5 dX8_isScheduled_21 (n := 22) rfl ?_
        refine V_iload_n X (q := 1) rfl rfl dX8_isScheduled_22 (n := 23) rfl ?_
        refine V_icmp_ne X dX8_isScheduled_23 (tgt := 30) (n := 26) (by decide) rfl (fun c6 => ?_) (fun c6 => ?_)
        · have h := ite_f h c6
          refine V_iconst X (v := 0) (by decide) dX8_isScheduled_30 (n := 31) rfl ?_
          exact kj3 (0 : Int32) h
        · have h := ite_t h c6
          exact kj2  h
set_option maxRecDepth 100000 in
set_option maxHeartbeats 4000000 in
theorem TX8_isScheduled (l : Launch) (D : va_G) (G : Gc) (ρ : Nat → Nat) (C : Xm) (N : Nm)  (a1 : Int32) (K : Int32 → Prop) (h : fX8_isScheduled N a1 K) : Ki l yX8_isScheduled wsX8_isScheduled rmX8_isScheduled D G ρ [.ref (ρ 66), .int a1] C N (fun r C1 N1 => K r ∧ C1 = C ∧ N1 = N) := by
  refine Ki.ofV (cc := cX8_isScheduled) (maxL := 4) (ret := (some .boolean)) (by decide +kernel) rfl (Nat.le_of_ble_eq_true rfl) ?_
  intro p e s m args below meth c X hr hlk
  show V p l e rmX8_isScheduled s m args below meth c D G ρ (WA ρ s.heap.size) s.heap 4 0 0 (Qi D G ρ s args below (fun r C1 N1 => K r ∧ C1 = C ∧ N1 = N)) 0 [(0, .ref (ρ 66)), (1, .int a1)] [] C N
  unfold fX8_isScheduled at h
  refine V_iconst X (v := 0) (by decide) dX8_isScheduled_0 (n := 1) rfl ?_
  refine V_istore_n X (L2 := [(2, .int (0 : Int32)), (0, .ref (ρ 66)), (1, .int a1)]) rfl (by decide) rfl dX8_isScheduled_1 (n := 2) rfl ?_
  refine V_iconst X (v := 0) (by decide) dX8_isScheduled_2 (n := 3) rfl ?_
  refine V_istore_n X (L2 := [(3, .int (0 : Int32)), (2, .int (0 : Int32)), (0, .ref (ρ 66)), (1, .int a1)]) rfl (by decide) rfl dX8_isScheduled_3 (n := 4) rfl ?_
  refine jn_o h (fun j9 ej9 h => ?_)
  have kj9 : ∀ (x10 : Int32) (x11 : Int32), j9 x10 x11 → V p l e rmX8_isScheduled s m args below meth c D G ρ (WA ρ s.heap.size) s.heap 4 0 0 (Qi D G ρ s args below (fun r C1 N1 => K r ∧ C1 = C ∧ N1 = N)) 38 [(0, .ref (ρ 66)), (1, .int a1), (2, .int x10), (3, .int x11)] [] C N := by
    intro x10 x11 h
    rw [ej9] at h
    try dsimp only at h
    refine V_iload_n X (q := 2) rfl rfl dX8_isScheduled_38 (n := 39) rfl ?_
    obtain ⟨g12, h⟩ := h
    exact V_zret X hr hlk g12 dX8_isScheduled_39 ⟨h, rfl, rfl⟩
  refine V_loc [2, 3, 1, 0] rfl ?_
  exact TX8_isScheduled_L4 X hr hlk C N a1 (E := j9) (K := K) kj9 200 (0 : Int32) (0 : Int32) h
abbrev rmX8_buildSchedule : Room := { frames := 1, cells := 0, slots := 0, locals := 23 }
theorem wX8_buildSchedule_144 : Cond.fieldLink RX8 144 "FloodBusModel" "entries" "I" ∈ wsX8_buildSchedule := by decide +kernel
theorem wX8_buildSchedule_51 : Cond.fieldLink RX8 51 "FloodBusModel" "slotLimit" "I" ∈ wsX8_buildSchedule := by decide +kernel
theorem wX8_buildSchedule_141 : Cond.fieldLink RX8 141 "FloodBusModel" "streams" "I" ∈ wsX8_buildSchedule := by decide +kernel
theorem wX8_buildSchedule_66 : Cond.fieldLink RX8 66 "FloodBusModel" "waiting" "[I" ∈ wsX8_buildSchedule := by decide +kernel
theorem wX8_buildSchedule_69 : Cond.fieldLink RX8 69 "FloodBusModel" "generated" "[I" ∈ wsX8_buildSchedule := by decide +kernel
theorem wX8_buildSchedule_78 : Cond.fieldLink RX8 78 "FloodBusModel" "schedule" "[I" ∈ wsX8_buildSchedule := by decide +kernel
theorem inX8_buildSchedule_X8 : ∀ w ∈ wsX80, w ∈ wsX8_buildSchedule := by decide +kernel
set_option maxRecDepth 100000 in
set_option maxHeartbeats 4000000 in
theorem TX8_buildSchedule_L26 {p : Program} {l : Launch} {e : Env} {s : State} {m : MethodId} {args : Array Value} {below : List Frame} {meth : Method} {c : Code} {D : va_G} {G : Gc} {ρ : Nat → Nat} (X : Cx p s m args c cX8_buildSchedule 5 RX8 wsX8_buildSchedule D G ρ (WA ρ s.heap.size) s.heap) (hr : meth.sig.returnType = none) (hlk : meth.locks = false) (C : Xm) (N : Nm) (p1 : Int32)  {E : Int32 → Int32 → Prop} {K : Nm → Prop} (hE : ∀ (v2 : Int32) (v3 : Int32), E v2 v3 → V p l e rmX8_buildSchedule s m args below meth c D G ρ (WA ρ s.heap.size) s.heap 5 0 0 (Qv D G ρ s args below (fun C1 N1 => K N1 ∧ C1 = C)) 99 [(0, .ref (ρ 66)), (1, .int p1), (2, .int v2), (3, .int v3)] [] C N) : ∀ (n : Nat) (v2 : Int32) (v3 : Int32), fX8_buildSchedule_L26 N p1 E K n v2 v3 → V p l e rmX8_buildSchedule s m args below meth c D G ρ (WA ρ s.heap.size) s.heap 5 0 0 (Qv D G ρ s args below (fun C1 N1 => K N1 ∧ C1 = C)) 26 [(0, .ref (ρ 66)), (1, .int p1), (2, .int v2), (3, .int v3)] [] C N := by
  intro n
  induction n with
  | zero => intro v2 v3 h; exact h.elim
  | succ n ih =>
    intro v2 v3 h
    unfold fX8_buildSchedule_L26 at h
    refine V_iload_n X (q := 3) rfl rfl dX8_buildSchedule_26 (n := 27) rfl ?_
    refine V_aload_n X (q := 0) rfl rfl dX8_buildSchedule_27 (n := 28) rfl ?_
    refine V_getN X (by decide) (by decide) rfl rfl (k := 20) inX8_buildSchedule_X8 rfl (by decide) wX8_buildSchedule_141 dX8_buildSchedule_28 (n := 31) rfl ?_
    refine V_icmp_ge X dX8_buildSchedule_31 (tgt := 99) (n := 34) (by decide) rfl (fun c4 => ?_) (fun c4 => ?_)
    · have h := ite_t h c4
      exact hE v2 v3 h
    · have h := ite_f h c4
      refine V_aload_n X (q := 0) rfl rfl dX8_buildSchedule_34 (n := 35) rfl ?_
      refine V_getR X (by decide) rfl rfl (k := 24) inX8_buildSchedule_X8 rfl (by decide) wX8_buildSchedule_66 dX8_buildSchedule_35 (n := 38) rfl ?_
      refine V_iload_n X (q := 3) rfl rfl dX8_buildSchedule_38 (n := 39) rfl ?_
      obtain ⟨g5, h⟩ := h
      refine V_ildN X (by decide) (by decide) rfl g5 dX8_buildSchedule_39 (n := 40) rfl ?_
      refine jn_o h (fun j7 ej7 h => ?_)
      have kj7 : ∀ (x11 : Int32), j7 x11 → V p l e rmX8_buildSchedule s m args below meth c D G ρ (WA ρ s.heap.size) s.heap 5 0 0 (Qv D G ρ s args below (fun C1 N1 => K N1 ∧ C1 = C)) 56 [(0, .ref (ρ 66)), (1, .int p1), (2, .int v2), (3, .int v3)] [.int x11] C N := by
        intro x11 h
        rw [ej7] at h
        try dsimp only at h
        refine V_istore X (L2 := [(4, .int x11), (0, .ref (ρ 66)), (1, .int p1), (2, .int v2), (3, .int v3)]) (by decide) rfl dX8_buildSchedule_56 (n := 58) rfl ?_
        refine V_iload X (q := 0) rfl dX8_buildSchedule_58 (n := 60) rfl ?_
        refine jn_o h (fun j13 ej13 h => ?_)
        have kj13 : ∀ (x20 : Int32), j13 x20 → V p l e rmX8_buildSchedule s m args below meth c D G ρ (WA ρ s.heap.size) s.heap 5 0 0 (Qv D G ρ s args below (fun C1 N1 => K N1 ∧ C1 = C)) 92 [(0, .ref (ρ 66)), (1, .int p1), (2, .int v2), (3, .int v3), (4, .int x11)] [.int x20] C N := by
          intro x20 h
          rw [ej13] at h
          try dsimp only at h
          refine V_istore_n X (L2 := [(2, .int x20), (0, .ref (ρ 66)), (1, .int p1), (3, .int v3), (4, .int x11)]) rfl (by decide) rfl dX8_buildSchedule_92 (n := 93) rfl ?_
          obtain ⟨x21, ex21⟩ : ∃ z : Int32, z = v3 + (1 : Int32) := ⟨_, rfl⟩
          have h := bd_at h ex21
          refine V_iinc X (q := 3) (d := 1) (L2 := [(3, .int x21), (2, .int x20), (0, .ref (ρ 66)), (1, .int p1), (4, .int x11)]) rfl (by decide) (by decide) ex21 rfl dX8_buildSchedule_93 (n := 96) rfl ?_
          refine V_goto X dX8_buildSchedule_96 (tgt := 26) (by decide) ?_
          refine V_loc [2, 3, 1, 0] rfl ?_
          exact ih x20 x21 h
        refine jn_o h (fun j12 ej12 h => ?_)
        have kj12 : j12 → V p l e rmX8_buildSchedule s m args below meth c D G ρ (WA ρ s.heap.size) s.heap 5 0 0 (Qv D G ρ s args below (fun C1 N1 => K N1 ∧ C1 = C)) 91 [(0, .ref (ρ 66)), (1, .int p1), (2, .int v2), (3, .int v3), (4, .int x11)] [] C N := by
          intro  h
          rw [ej12] at h
          refine V_iload_n X (q := 2) rfl rfl dX8_buildSchedule_91 (n := 92) rfl ?_
          exact kj13 v2 h
        refine V_if_eq X dX8_buildSchedule_60 (tgt := 91) (n := 63) (by decide) rfl (fun c14 => ?_) (fun c14 => ?_)
        · have h := ite_t h c14
          refine V_loc [1, 2, 3, 4, 0] rfl ?_
          exact kj12  h
        · have h := ite_f h c14
          refine V_iload_n X (q := 3) rfl rfl dX8_buildSchedule_63 (n := 64) rfl ?_
          refine V_iconst X (v := -1) (by decide) dX8_buildSchedule_64 (n := 65) rfl ?_
          refine jn_o h (fun j15 ej15 h => ?_)
          have kj15 : j15 → V p l e rmX8_buildSchedule s m args below meth c D G ρ (WA ρ s.heap.size) s.heap 5 0 0 (Qv D G ρ s args below (fun C1 N1 => K N1 ∧ C1 = C)) 87 [(0, .ref (ρ 66)), (1, .int p1), (2, .int v2), (3, .int v3), (4, .int x11)] [] C N := by
            intro  h
            rw [ej15] at h
            refine V_iload_n X (q := 3) rfl rfl dX8_buildSchedule_87 (n := 88) rfl ?_
            refine V_goto X dX8_buildSchedule_88 (tgt := 92) (by decide) ?_
            exact kj13 v3 h
          refine V_icmp_eq X dX8_buildSchedule_65 (tgt := 87) (n := 68) (by decide) rfl (fun c16 => ?_) (fun c16 => ?_)
          · have h := ite_t h c16
            refine V_loc [1, 2, 3, 4, 0] rfl ?_
            exact kj15  h
          · have h := ite_f h c16
            refine V_aload_n X (q := 1) rfl rfl dX8_buildSchedule_68 (n := 69) rfl ?_
            refine V_getR X (by decide) rfl rfl (k := 25) inX8_buildSchedule_X8 rfl (by decide) wX8_buildSchedule_69 dX8_buildSchedule_69 (n := 72) rfl ?_
            refine V_iconst X (v := 4) (by decide) dX8_buildSchedule_72 (n := 73) rfl ?_
            refine V_iload_n X (q := 4) rfl rfl dX8_buildSchedule_73 (n := 74) rfl ?_
            refine V_imul X dX8_buildSchedule_74 (n := 75) rfl ?_
            obtain ⟨g17, h⟩ := h
            refine V_ildN X (by decide) (by decide) rfl g17 dX8_buildSchedule_75 (n := 76) rfl ?_
            refine V_aload_n X (q := 1) rfl rfl dX8_buildSchedule_76 (n := 77) rfl ?_
            refine V_getR X (by decide) rfl rfl (k := 25) inX8_buildSchedule_X8 rfl (by decide) wX8_buildSchedule_69 dX8_buildSchedule_77 (n := 80) rfl ?_
            refine V_iconst X (v := 4) (by decide) dX8_buildSchedule_80 (n := 81) rfl ?_
            refine V_iload_n X (q := 3) rfl rfl dX8_buildSchedule_81 (n := 82) rfl ?_
            refine V_imul X dX8_buildSchedule_82 (n := 83) rfl ?_
            obtain ⟨g18, h⟩ := h
            refine V_ildN X (by decide) (by decide) rfl g18 dX8_buildSchedule_83 (n := 84) rfl ?_
            refine V_icmp_ge X dX8_buildSchedule_84 (tgt := 91) (n := 87) (by decide) rfl (fun c19 => ?_) (fun c19 => ?_)
            · have h := ite_t h c19
              refine V_loc [1, 2, 3, 4, 0] rfl ?_
              exact kj12  h
            · have h := ite_f h c19
              refine V_loc [1, 2, 3, 4, 0] rfl ?_
              exact kj15  h
      refine jn_o h (fun j6 ej6 h => ?_)
      have kj6 : j6 → V p l e rmX8_buildSchedule s m args below meth c D G ρ (WA ρ s.heap.size) s.heap 5 0 0 (Qv D G ρ s args below (fun C1 N1 => K N1 ∧ C1 = C)) 55 [(0, .ref (ρ 66)), (1, .int p1), (2, .int v2), (3, .int v3)] [] C N := by
        intro  h
        rw [ej6] at h
        refine V_iconst X (v := 0) (by decide) dX8_buildSchedule_55 (n := 56) rfl ?_
        exact kj7 (0 : Int32) h
      refine V_if_le X dX8_buildSchedule_40 (tgt := 55) (n := 43) (by decide) rfl (fun c8 => ?_) (fun c8 => ?_)
      · have h := ite_t h c8
        exact kj6  h
      · have h := ite_f h c8
        refine V_aload_n X (q := 0) rfl rfl dX8_buildSchedule_43 (n := 44) rfl ?_
        refine V_iload_n X (q := 3) rfl rfl dX8_buildSchedule_44 (n := 45) rfl ?_
        refine V_calli X (As := [.int v3]) (rest := []) (nA := 1) (i := 66) (q := (RX8, TX8, 42)) (TX8_isScheduled l D G ρ C N v3 _ h) gX8_buildSchedule_X8_isScheduled rfl rfl rfl (by decide +kernel) rfl ⟨by decide, by decide⟩ (Nat.le_of_ble_eq_true rfl) ⟨by decide, by decide⟩ (by decide) rfl rfl rfl dX8_buildSchedule_45 (n := 48) rfl (fun r9 M1 M0 h => ?_)
        obtain ⟨h, eo, eo2⟩ := h
        rw [eo, eo2]
        refine V_if_ne X dX8_buildSchedule_48 (tgt := 55) (n := 51) (by decide) rfl (fun c10 => ?_) (fun c10 => ?_)
        · have h := ite_f h c10
          exact kj6  h
        · have h := ite_t h c10
          refine V_iconst X (v := 1) (by decide) dX8_buildSchedule_51 (n := 52) rfl ?_
          refine V_goto X dX8_buildSchedule_52 (tgt := 56) (by decide) ?_
          exact kj7 (1 : Int32) h
set_option maxRecDepth 100000 in
set_option maxHeartbeats 4000000 in
theorem TX8_buildSchedule_L7 {p : Program} {l : Launch} {e : Env} {s : State} {m : MethodId} {args : Array Value} {below : List Frame} {meth : Method} {c : Code} {D : va_G} {G : Gc} {ρ : Nat → Nat} (X : Cx p s m args c cX8_buildSchedule 5 RX8 wsX8_buildSchedule D G ρ (WA ρ s.heap.size) s.heap) (hr : meth.sig.returnType = none) (hlk : meth.locks = false) (C : Xm)   {E : Int32 → Nm → Prop} {K : Nm → Prop} (hE : ∀ (v1 : Int32) (N : Nm), E v1 N → V p l e rmX8_buildSchedule s m args below meth c D G ρ (WA ρ s.heap.size) s.heap 5 0 0 (Qv D G ρ s args below (fun C1 N1 => K N1 ∧ C1 = C)) 137 [(0, .ref (ρ 66)), (1, .int v1)] [] C N) : ∀ (n : Nat) (v1 : Int32) (N : Nm), fX8_buildSchedule_L7  E K n v1 N → V p l e rmX8_buildSchedule s m args below meth c D G ρ (WA ρ s.heap.size) s.heap 5 0 0 (Qv D G ρ s args below (fun C1 N1 => K N1 ∧ C1 = C)) 7 [(0, .ref (ρ 66)), (1, .int v1)] [] C N := by
  intro n
  induction n with
  | zero => intro v1 N h; exact h.elim
  | succ n ih =>
    intro v1 N h
    unfold fX8_buildSchedule_L7 at h
    refine V_iload_n X (q := 1) rfl rfl dX8_buildSchedule_7 (n := 8) rfl ?_
    refine V_if_eq X dX8_buildSchedule_8 (tgt := 137) (n := 11) (by decide) rfl (fun c2 => ?_) (fun c2 => ?_)
    · have h := ite_t h c2
      exact hE v1 N h
    · have h := ite_f h c2
      refine V_aload_n X (q := 0) rfl rfl dX8_buildSchedule_11 (n := 12) rfl ?_
      refine V_getN X (by decide) (by decide) rfl rfl (k := 28) inX8_buildSchedule_X8 rfl (by decide) wX8_buildSchedule_144 dX8_buildSchedule_12 (n := 15) rfl ?_
      refine V_aload_n X (q := 0) rfl rfl dX8_buildSchedule_15 (n := 16) rfl ?_
      refine V_getN X (by decide) (by decide) rfl rfl (k := 18) inX8_buildSchedule_X8 rfl (by decide) wX8_buildSchedule_51 dX8_buildSchedule_16 (n := 19) rfl ?_
      refine V_icmp_ge X dX8_buildSchedule_19 (tgt := 137) (n := 22) (by decide) rfl (fun c3 => ?_) (fun c3 => ?_)
      · have h := ite_t h c3
        exact hE v1 N h
      · have h := ite_f h c3
        refine V_iconst X (v := -1) (by decide) dX8_buildSchedule_22 (n := 23) rfl ?_
        refine V_istore_n X (L2 := [(2, .int (-1 : Int32)), (0, .ref (ρ 66)), (1, .int v1)]) rfl (by decide) rfl dX8_buildSchedule_23 (n := 24) rfl ?_
        refine V_iconst X (v := 0) (by decide) dX8_buildSchedule_24 (n := 25) rfl ?_
        refine V_istore_n X (L2 := [(3, .int (0 : Int32)), (2, .int (-1 : Int32)), (0, .ref (ρ 66)), (1, .int v1)]) rfl (by decide) rfl dX8_buildSchedule_25 (n := 26) rfl ?_
        refine jn_o h (fun j22 ej22 h => ?_)
        have kj22 : ∀ (x23 : Int32) (x24 : Int32), j22 x23 x24 → V p l e rmX8_buildSchedule s m args below meth c D G ρ (WA ρ s.heap.size) s.heap 5 0 0 (Qv D G ρ s args below (fun C1 N1 => K N1 ∧ C1 = C)) 99 [(0, .ref (ρ 66)), (1, .int v1), (2, .int x23), (3, .int x24)] [] C N := by
          intro x23 x24 h
          rw [ej22] at h
          try dsimp only at h
          refine V_iload_n X (q := 2) rfl rfl dX8_buildSchedule_99 (n := 100) rfl ?_
          refine V_iconst X (v := -1) (by decide) dX8_buildSchedule_100 (n := 101) rfl ?_
          refine jn_o h (fun j25 ej25 h => ?_)
          have kj25 : ∀ (x27 : Int32), j25 x27 → V p l e rmX8_buildSchedule s m args below meth c D G ρ (WA ρ s.heap.size) s.heap 5 0 0 (Qv D G ρ s args below (fun C1 N1 => K N1 ∧ C1 = C)) 109 [(0, .ref (ρ 66)), (1, .int v1), (2, .int x23), (3, .int x24)] [.int x27] C N := by
            intro x27 h
            rw [ej25] at h
            try dsimp only at h
            refine V_istore_n X (L2 := [(1, .int x27), (0, .ref (ρ 66)), (2, .int x23), (3, .int x24)]) rfl (by decide) rfl dX8_buildSchedule_109 (n := 110) rfl ?_
            refine V_iload_n X (q := 0) rfl rfl dX8_buildSchedule_110 (n := 111) rfl ?_
            refine jn_o h (fun j28 ej28 h => ?_)
            have kj28 : ∀ (N33 : Nm), j28 N33 → V p l e rmX8_buildSchedule s m args below meth c D G ρ (WA ρ s.heap.size) s.heap 5 0 0 (Qv D G ρ s args below (fun C1 N1 => K N1 ∧ C1 = C)) 134 [(0, .ref (ρ 66)), (1, .int x27), (2, .int x23), (3, .int x24)] [] C N33 := by
              intro N33 h
              rw [ej28] at h
              try dsimp only at h
              refine V_goto X dX8_buildSchedule_134 (tgt := 7) (by decide) ?_
              refine V_loc [0, 1] rfl ?_
              exact ih x27 N33 h
            refine V_if_eq X dX8_buildSchedule_111 (tgt := 134) (n := 114) (by decide) rfl (fun c29 => ?_) (fun c29 => ?_)
            · have h := ite_t h c29
              refine V_loc [1, 0, 2, 3] rfl ?_
              exact kj28 N h
            · have h := ite_f h c29
              refine V_aload_n X (q := 1) rfl rfl dX8_buildSchedule_114 (n := 115) rfl ?_
              refine V_getR X (by decide) rfl rfl (k := 29) inX8_buildSchedule_X8 rfl (by decide) wX8_buildSchedule_78 dX8_buildSchedule_115 (n := 118) rfl ?_
              refine V_aload_n X (q := 1) rfl rfl dX8_buildSchedule_118 (n := 119) rfl ?_
              refine V_getN X (by decide) (by decide) rfl rfl (k := 28) inX8_buildSchedule_X8 rfl (by decide) wX8_buildSchedule_144 dX8_buildSchedule_119 (n := 122) rfl ?_
              refine V_iload_n X (q := 2) rfl rfl dX8_buildSchedule_122 (n := 123) rfl ?_
              obtain ⟨g30, h⟩ := h
              refine V_istN X (by decide) (by decide) rfl g30 dX8_buildSchedule_123 (n := 124) rfl (fun N31 eN31 => ?_)
              have h := bd_at h eN31
              refine V_aload_n X (q := 1) rfl rfl dX8_buildSchedule_124 (n := 125) rfl ?_
              refine V_dup X rfl dX8_buildSchedule_125 (n := 126) rfl ?_
              refine V_getN X (by decide) (by decide) rfl rfl (k := 28) inX8_buildSchedule_X8 rfl (by decide) wX8_buildSchedule_144 dX8_buildSchedule_126 (n := 129) rfl ?_
              refine V_iconst X (v := 1) (by decide) dX8_buildSchedule_129 (n := 130) rfl ?_
              refine V_iadd X dX8_buildSchedule_130 (n := 131) rfl ?_
              refine V_putN X (by decide) (by decide) rfl rfl (k := 28) inX8_buildSchedule_X8 rfl (by decide) wX8_buildSchedule_144 tyX8 tyX8_ok nmX8 rfl (by decide +kernel) dX8_buildSchedule_131 (n := 134) rfl (fun N32 eN32 => ?_)
              have h := bd_at h eN32
              refine V_loc [1, 0, 2, 3] rfl ?_
              exact kj28 N32 h
          refine V_icmp_eq X dX8_buildSchedule_101 (tgt := 108) (n := 104) (by decide) rfl (fun c26 => ?_) (fun c26 => ?_)
          · have h := ite_t h c26
            refine V_iconst X (v := 0) (by decide) dX8_buildSchedule_108 (n := 109) rfl ?_
            exact kj25 (0 : Int32) h
          · have h := ite_f h c26
            refine V_iconst X (v := 1) (by decide) dX8_buildSchedule_104 (n := 105) rfl ?_
            refine V_goto X dX8_buildSchedule_105 (tgt := 109) (by decide) ?_
            exact kj25 (1 : Int32) h
        refine V_loc [2, 3, 1, 0] rfl ?_
        exact TX8_buildSchedule_L26 X hr hlk C N v1 (E := j22) (K := K) kj22 200 (-1 : Int32) (0 : Int32) h
set_option maxRecDepth 100000 in
set_option maxHeartbeats 4000000 in
theorem TX8_buildSchedule (l : Launch) (D : va_G) (G : Gc) (ρ : Nat → Nat) (C : Xm) (N : Nm)   (K : Nm → Prop) (h : fX8_buildSchedule N K) : Kv l yX8_buildSchedule wsX8_buildSchedule rmX8_buildSchedule D G ρ [.ref (ρ 66)] C N (fun C1 N1 => K N1 ∧ C1 = C) := by
  refine Kv.ofV (cc := cX8_buildSchedule) (maxL := 5) (ret := none) (by decide +kernel) rfl (Nat.le_of_ble_eq_true rfl) ?_
  intro p e s m args below meth c X hr hlk
  show V p l e rmX8_buildSchedule s m args below meth c D G ρ (WA ρ s.heap.size) s.heap 5 0 0 (Qv D G ρ s args below (fun C1 N1 => K N1 ∧ C1 = C)) 0 [(0, .ref (ρ 66))] [] C N
  unfold fX8_buildSchedule at h
  refine V_aload_n X (q := 0) rfl rfl dX8_buildSchedule_0 (n := 1) rfl ?_
  refine V_iconst X (v := 0) (by decide) dX8_buildSchedule_1 (n := 2) rfl ?_
  refine V_putN X (by decide) (by decide) rfl rfl (k := 28) inX8_buildSchedule_X8 rfl (by decide) wX8_buildSchedule_144 tyX8 tyX8_ok nmX8 rfl (by decide +kernel) dX8_buildSchedule_2 (n := 5) rfl (fun N1 eN1 => ?_)
  have h := bd_at h eN1
  refine V_iconst X (v := 1) (by decide) dX8_buildSchedule_5 (n := 6) rfl ?_
  refine V_istore_n X (L2 := [(1, .int (1 : Int32)), (0, .ref (ρ 66))]) rfl (by decide) rfl dX8_buildSchedule_6 (n := 7) rfl ?_
  refine jn_o h (fun j34 ej34 h => ?_)
  have kj34 : ∀ (x35 : Int32) (N36 : Nm), j34 x35 N36 → V p l e rmX8_buildSchedule s m args below meth c D G ρ (WA ρ s.heap.size) s.heap 5 0 0 (Qv D G ρ s args below (fun C1 N1 => K N1 ∧ C1 = C)) 137 [(0, .ref (ρ 66)), (1, .int x35)] [] C N36 := by
    intro x35 N36 h
    rw [ej34] at h
    try dsimp only at h
    exact V_vret X hr hlk dX8_buildSchedule_137 ⟨h, rfl⟩
  refine V_loc [1, 0] rfl ?_
  exact TX8_buildSchedule_L7 X hr hlk C  (E := j34) (K := K) kj34 200 (1 : Int32) N1 h
