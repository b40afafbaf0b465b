abbrev rmX7_serveSchedule : Room := { frames := 4, cells := 0, slots := 0, locals := 96 }
theorem wX7_serveSchedule_40 : Cond.fieldLink RX7 40 "FloodBus" "schedule" "LFloodBus$Schedule;" ∈ wsX7_serveSchedule := by decide +kernel
theorem wX7_serveSchedule_89 : Cond.fieldLink RX7 89 "FloodBus$Schedule" "size" "I" ∈ wsX7_serveSchedule := by decide +kernel
theorem wX7_serveSchedule_33 : Cond.fieldLink RX7 33 "FloodBus" "streams" "LFloodBus$StreamTable;" ∈ wsX7_serveSchedule := by decide +kernel
theorem wX7_serveSchedule_136 : Cond.fieldLink RX7 136 "FloodBus$StreamTable" "rows" "[LFloodBus$Stream;" ∈ wsX7_serveSchedule := by decide +kernel
theorem wX7_serveSchedule_154 : Cond.fieldLink RX7 154 "FloodBus$Schedule" "entries" "[I" ∈ wsX7_serveSchedule := by decide +kernel
theorem wX7_serveSchedule_19 : Cond.fieldLink RX7 19 "FloodBus" "network" "LFloodBus$Network;" ∈ wsX7_serveSchedule := by decide +kernel
theorem wX7_serveSchedule_201 : Cond.fieldLink RX7 201 "FloodBus$Network" "informed" "[Z" ∈ wsX7_serveSchedule := by decide +kernel
theorem wX7_serveSchedule_204 : Cond.fieldLink RX7 204 "FloodBus$Stream" "source" "I" ∈ wsX7_serveSchedule := by decide +kernel
theorem wX7_serveSchedule_26 : Cond.fieldLink RX7 26 "FloodBus" "latestFlood" "LFloodBus$Flooding;" ∈ wsX7_serveSchedule := by decide +kernel
theorem wX7_serveSchedule_121 : Cond.fieldLink RX7 121 "FloodBus$Flooding" "packet" "[I" ∈ wsX7_serveSchedule := by decide +kernel
theorem wX7_serveSchedule_51 : Cond.fieldLink RX7 51 "FloodBus" "hostNode" "I" ∈ wsX7_serveSchedule := by decide +kernel
theorem wX7_serveSchedule_145 : Cond.fieldLink RX7 145 "FloodBus$Stream" "delivered" "I" ∈ wsX7_serveSchedule := by decide +kernel
theorem wX7_serveSchedule_148 : Cond.fieldLink RX7 148 "FloodBus$Stream" "lost" "I" ∈ wsX7_serveSchedule := by decide +kernel
theorem inX7_serveSchedule_X7 : ∀ w ∈ wsX70, w ∈ wsX7_serveSchedule := by decide +kernel
theorem inX7_serveSchedule_X4 : ∀ w ∈ wsX40, w ∈ wsX7_serveSchedule := by decide +kernel
theorem inX7_serveSchedule_X6 : ∀ w ∈ wsX60, w ∈ wsX7_serveSchedule := by decide +kernel
theorem inX7_serveSchedule_X3 : ∀ w ∈ wsX30, w ∈ wsX7_serveSchedule := by decide +kernel
theorem inX7_serveSchedule_X5 : ∀ w ∈ wsX50, w ∈ wsX7_serveSchedule := by decide +kernel
theorem inX7_serveSchedule_X1 : ∀ w ∈ wsX10, w ∈ wsX7_serveSchedule := by decide +kernel
set_option maxRecDepth 100000 in
set_option maxHeartbeats 4000000 in
theorem TX7_serveSchedule_L4 {p : Program} {l : Launch} {e : Env} {s : State} {m : MethodId} {args : Array Value} {below : List Frame} {meth : Method} {c : Code} {D : va_G} {G : Gc} {ρ : Nat → Nat} (X : Cx p s m args c cX7_serveSchedule 5 RX7 wsX7_serveSchedule D G ρ (WA ρ s.heap.size) s.heap) (hr : meth.sig.returnType = some .int) (hlk : meth.locks = false) (N : Nm)   {E : Int32 → Int32 → Xm → Prop} {K : Int32 → Xm → Prop} (hE : ∀ (v1 : Int32) (v2 : Int32) (C : Xm), E v1 v2 C → V p l e rmX7_serveSchedule s m args below meth c D G ρ (WA ρ s.heap.size) s.heap 5 0 0 (Qi D G ρ s args below (fun r C1 N1 => K r C1 ∧ N1 = N)) 126 [(0, .ref (ρ 0)), (1, .int v1), (2, .int v2)] [] C N) : ∀ (n : Nat) (v1 : Int32) (v2 : Int32) (C : Xm), fX7_serveSchedule_L4  E K n v1 v2 C → V p l e rmX7_serveSchedule s m args below meth c D G ρ (WA ρ s.heap.size) s.heap 5 0 0 (Qi D G ρ s args below (fun r C1 N1 => K r C1 ∧ N1 = N)) 4 [(0, .ref (ρ 0)), (1, .int v1), (2, .int v2)] [] C N := by
  intro n
  induction n with
  | zero => intro v1 v2 C h; exact h.elim
  | succ n ih =>
    intro v1 v2 C h
    unfold fX7_serveSchedule_L4 at h
    refine V_iload_n X (q := 2) rfl rfl dX7_serveSchedule_4 (n := 5) rfl ?_
    refine V_aload_n X (q := 0) rfl rfl dX7_serveSchedule_5 (n := 6) rfl ?_
    refine V_getR X (by decide) rfl rfl (k := 4) inX7_serveSchedule_X7 rfl (by decide) wX7_serveSchedule_40 dX7_serveSchedule_6 (n := 9) rfl ?_
    refine V_getX X (by decide) rfl rfl (k := 1) inX7_serveSchedule_X4 rfl (by decide) wX7_serveSchedule_89 dX7_serveSchedule_9 (n := 12) rfl ?_
    refine V_icmp_ge X dX7_serveSchedule_12 (tgt := 126) (n := 15) (by decide) rfl (fun c1 => ?_) (fun c1 => ?_)
    · have h := ite_t h c1
      exact hE v1 v2 C h
    · have h := ite_f h c1
      refine V_aload_n X (q := 0) rfl rfl dX7_serveSchedule_15 (n := 16) rfl ?_
      refine V_getR X (by decide) rfl rfl (k := 3) inX7_serveSchedule_X7 rfl (by decide) wX7_serveSchedule_33 dX7_serveSchedule_16 (n := 19) rfl ?_
      refine V_getR X (by decide) rfl rfl (k := 0) inX7_serveSchedule_X6 rfl (by decide) wX7_serveSchedule_136 dX7_serveSchedule_19 (n := 22) rfl ?_
      refine V_aload_n X (q := 0) rfl rfl dX7_serveSchedule_22 (n := 23) rfl ?_
      refine V_getR X (by decide) rfl rfl (k := 4) inX7_serveSchedule_X7 rfl (by decide) wX7_serveSchedule_40 dX7_serveSchedule_23 (n := 26) rfl ?_
      refine V_getR X (by decide) rfl rfl (k := 0) inX7_serveSchedule_X4 rfl (by decide) wX7_serveSchedule_154 dX7_serveSchedule_26 (n := 29) rfl ?_
      refine V_iload_n X (q := 2) rfl rfl dX7_serveSchedule_29 (n := 30) rfl ?_
      obtain ⟨g2, h⟩ := h
      refine V_ildX X (by decide) rfl g2 dX7_serveSchedule_30 (n := 31) rfl ?_
      obtain ⟨g3, h⟩ := h
      obtain ⟨g4, h⟩ := h
      refine V_aaS X (by decide) rfl g3 dX7_serveSchedule_31 (n := 32) rfl ?_
      refine V_astore_n X (L2 := [(3, .ref (ρ (52 + 2 * Int32.toNatClampNeg (C 51 (Int32.toNatClampNeg (C 65 (Int32.toNatClampNeg v2))))))), (0, .ref (ρ 0)), (1, .int v1), (2, .int v2)]) rfl (by decide) rfl dX7_serveSchedule_32 (n := 33) rfl ?_
      refine V_aload_n X (q := 0) rfl rfl dX7_serveSchedule_33 (n := 34) rfl ?_
      refine V_callv X (As := []) (rest := []) (nA := 0) (i := (52 + 2 * Int32.toNatClampNeg (C 51 (Int32.toNatClampNeg (C 65 (Int32.toNatClampNeg v2)))))) (q := (RX5, TX5, 7)) (TX5_removeOldest l D G ρ C N (C 51 (Int32.toNatClampNeg (C 65 (Int32.toNatClampNeg v2)))) g4 _ h) gX7_serveSchedule_X5_removeOldest rfl rfl rfl (by decide +kernel) rfl ⟨by decide, by decide⟩ (Nat.le_of_ble_eq_true rfl) ⟨by decide, by decide⟩ (by omega) (shp_S _ g4) rfl rfl dX7_serveSchedule_34 (n := 37) rfl (fun C5 M0 h => ?_)
      obtain ⟨h, eo⟩ := h
      rw [eo]
      refine V_aload_n X (q := 1) rfl rfl dX7_serveSchedule_37 (n := 38) rfl ?_
      refine V_getR X (by decide) rfl rfl (k := 1) inX7_serveSchedule_X7 rfl (by decide) wX7_serveSchedule_19 dX7_serveSchedule_38 (n := 41) rfl ?_
      refine V_getR X (by decide) rfl rfl (k := 5) inX7_serveSchedule_X3 rfl (by decide) wX7_serveSchedule_201 dX7_serveSchedule_41 (n := 44) rfl ?_
      refine V_aload_n X (q := 0) rfl rfl dX7_serveSchedule_44 (n := 45) rfl ?_
      refine V_getX X (by omega) (shp_S _ g4) rfl (k := 1) inX7_serveSchedule_X5 rfl (by decide) wX7_serveSchedule_204 dX7_serveSchedule_45 (n := 48) rfl ?_
      obtain ⟨g6, h⟩ := h
      refine V_zldX X (by decide) rfl g6 dX7_serveSchedule_48 (n := 49) rfl ?_
      refine V_topi (fun x7 ex7 => ?_)
      have h := bd_at h ex7
      refine V_istore X (L2 := [(4, .int x7), (3, .ref (ρ (52 + 2 * Int32.toNatClampNeg (C 51 (Int32.toNatClampNeg (C 65 (Int32.toNatClampNeg v2))))))), (0, .ref (ρ 0)), (1, .int v1), (2, .int v2)]) (by decide) rfl dX7_serveSchedule_49 (n := 51) rfl ?_
      refine V_iload X (q := 0) rfl dX7_serveSchedule_51 (n := 53) rfl ?_
      refine jn_o h (fun j8 ej8 h => ?_)
      have kj8 : ∀ (C11 : Xm), j8 C11 → V p l e rmX7_serveSchedule s m args below meth c D G ρ (WA ρ s.heap.size) s.heap 5 0 0 (Qi D G ρ s args below (fun r C1 N1 => K r C1 ∧ N1 = N)) 73 [(0, .ref (ρ 0)), (1, .int v1), (2, .int v2), (3, .ref (ρ (52 + 2 * Int32.toNatClampNeg (C 51 (Int32.toNatClampNeg (C 65 (Int32.toNatClampNeg v2))))))), (4, .int x7)] [] C11 N := by
        intro C11 h
        rw [ej8] at h
        try dsimp only at h
        refine V_iload X (q := 4) rfl dX7_serveSchedule_73 (n := 75) rfl ?_
        refine jn_o h (fun j13 ej13 h => ?_)
        have kj13 : ∀ (x20 : Int32) (C21 : Xm), j13 x20 C21 → V p l e rmX7_serveSchedule s m args below meth c D G ρ (WA ρ s.heap.size) s.heap 5 0 0 (Qi D G ρ s args below (fun r C1 N1 => K r C1 ∧ N1 = N)) 120 [(0, .ref (ρ 0)), (1, .int x20), (2, .int v2), (3, .ref (ρ (52 + 2 * Int32.toNatClampNeg (C 51 (Int32.toNatClampNeg (C 65 (Int32.toNatClampNeg v2))))))), (4, .int x7)] [] C21 N := by
          intro x20 C21 h
          rw [ej13] at h
          try dsimp only at h
          obtain ⟨x22, ex22⟩ : ∃ z : Int32, z = v2 + (1 : Int32) := ⟨_, rfl⟩
          have h := bd_at h ex22
          refine V_iinc X (q := 2) (d := 1) (L2 := [(2, .int x22), (0, .ref (ρ 0)), (1, .int x20), (3, .ref (ρ (52 + 2 * Int32.toNatClampNeg (C 51 (Int32.toNatClampNeg (C 65 (Int32.toNatClampNeg v2))))))), (4, .int x7)]) rfl (by decide) (by decide) ex22 rfl dX7_serveSchedule_120 (n := 123) rfl ?_
          refine V_goto X dX7_serveSchedule_123 (tgt := 4) (by decide) ?_
          refine V_loc [1, 2, 0] rfl ?_
          exact ih x20 x22 C21 h
        refine jn_o h (fun j12 ej12 h => ?_)
        have kj12 : j12 → V p l e rmX7_serveSchedule s m args below meth c D G ρ (WA ρ s.heap.size) s.heap 5 0 0 (Qi D G ρ s args below (fun r C1 N1 => K r C1 ∧ N1 = N)) 110 [(0, .ref (ρ 0)), (1, .int v1), (2, .int v2), (3, .ref (ρ (52 + 2 * Int32.toNatClampNeg (C 51 (Int32.toNatClampNeg (C 65 (Int32.toNatClampNeg v2))))))), (4, .int x7)] [] C11 N := by
          intro  h
          rw [ej12] at h
          refine V_aload_n X (q := 3) rfl rfl dX7_serveSchedule_110 (n := 111) rfl ?_
          refine V_dup X rfl dX7_serveSchedule_111 (n := 112) rfl ?_
          refine V_getX X (by omega) (shp_S _ g4) rfl (k := 6) inX7_serveSchedule_X5 rfl (by decide) wX7_serveSchedule_148 dX7_serveSchedule_112 (n := 115) rfl ?_
          refine V_iconst X (v := 1) (by decide) dX7_serveSchedule_115 (n := 116) rfl ?_
          refine V_iadd X dX7_serveSchedule_116 (n := 117) rfl ?_
          refine V_putX X (by omega) (shp_S _ g4) rfl (k := 6) inX7_serveSchedule_X5 rfl (by decide) wX7_serveSchedule_148 tyX5 tyX5_ok nmX5 rfl (by decide +kernel) dX7_serveSchedule_117 (n := 120) rfl (fun C19 eC19 => ?_)
          have h := bd_at h eC19
          exact kj13 v1 C19 h
        refine V_if_eq X dX7_serveSchedule_75 (tgt := 110) (n := 78) (by decide) rfl (fun c14 => ?_) (fun c14 => ?_)
        · have h := ite_t h c14
          exact kj12  h
        · have h := ite_f h c14
          refine V_aload_n X (q := 0) rfl rfl dX7_serveSchedule_78 (n := 79) rfl ?_
          refine V_getR X (by decide) rfl rfl (k := 2) inX7_serveSchedule_X7 rfl (by decide) wX7_serveSchedule_26 dX7_serveSchedule_79 (n := 82) rfl ?_
          refine V_getR X (by decide) rfl rfl (k := 1) inX7_serveSchedule_X1 rfl (by decide) wX7_serveSchedule_121 dX7_serveSchedule_82 (n := 85) rfl ?_
          refine V_aload_n X (q := 0) rfl rfl dX7_serveSchedule_85 (n := 86) rfl ?_
          refine V_getX X (by decide) rfl rfl (k := 7) inX7_serveSchedule_X7 rfl (by decide) wX7_serveSchedule_51 dX7_serveSchedule_86 (n := 89) rfl ?_
          obtain ⟨g15, h⟩ := h
          refine V_ildX X (by decide) rfl g15 dX7_serveSchedule_89 (n := 90) rfl ?_
          refine V_iconst X (v := -1) (by decide) dX7_serveSchedule_90 (n := 91) rfl ?_
          refine V_icmp_eq X dX7_serveSchedule_91 (tgt := 110) (n := 94) (by decide) rfl (fun c16 => ?_) (fun c16 => ?_)
          · have h := ite_t h c16
            exact kj12  h
          · have h := ite_f h c16
            refine V_aload_n X (q := 3) rfl rfl dX7_serveSchedule_94 (n := 95) rfl ?_
            refine V_dup X rfl dX7_serveSchedule_95 (n := 96) rfl ?_
            refine V_getX X (by omega) (shp_S _ g4) rfl (k := 5) inX7_serveSchedule_X5 rfl (by decide) wX7_serveSchedule_145 dX7_serveSchedule_96 (n := 99) rfl ?_
            refine V_iconst X (v := 1) (by decide) dX7_serveSchedule_99 (n := 100) rfl ?_
            refine V_iadd X dX7_serveSchedule_100 (n := 101) rfl ?_
            refine V_putX X (by omega) (shp_S _ g4) rfl (k := 5) inX7_serveSchedule_X5 rfl (by decide) wX7_serveSchedule_145 tyX5 tyX5_ok nmX5 rfl (by decide +kernel) dX7_serveSchedule_101 (n := 104) rfl (fun C17 eC17 => ?_)
            have h := bd_at h eC17
            obtain ⟨x18, ex18⟩ : ∃ z : Int32, z = v1 + (1 : Int32) := ⟨_, rfl⟩
            have h := bd_at h ex18
            refine V_iinc X (q := 1) (d := 1) (L2 := [(1, .int x18), (0, .ref (ρ 0)), (2, .int v2), (3, .ref (ρ (52 + 2 * Int32.toNatClampNeg (C 51 (Int32.toNatClampNeg (C 65 (Int32.toNatClampNeg v2))))))), (4, .int x7)]) rfl (by decide) (by decide) ex18 rfl dX7_serveSchedule_104 (n := 107) rfl ?_
            refine V_goto X dX7_serveSchedule_107 (tgt := 120) (by decide) ?_
            refine V_loc [1, 0, 2, 3, 4] rfl ?_
            exact kj13 x18 C17 h
      refine V_if_eq X dX7_serveSchedule_53 (tgt := 73) (n := 56) (by decide) rfl (fun c9 => ?_) (fun c9 => ?_)
      · have h := ite_t h c9
        refine V_loc [2, 3, 4, 1, 0] rfl ?_
        exact kj8 C5 h
      · have h := ite_f h c9
        refine V_aload_n X (q := 2) rfl rfl dX7_serveSchedule_56 (n := 57) rfl ?_
        refine V_getR X (by decide) rfl rfl (k := 2) inX7_serveSchedule_X7 rfl (by decide) wX7_serveSchedule_26 dX7_serveSchedule_57 (n := 60) rfl ?_
        refine V_aload_n X (q := 2) rfl rfl dX7_serveSchedule_60 (n := 61) rfl ?_
        refine V_getR X (by decide) rfl rfl (k := 1) inX7_serveSchedule_X7 rfl (by decide) wX7_serveSchedule_19 dX7_serveSchedule_61 (n := 64) rfl ?_
        refine V_iconst X (v := 1) (by decide) dX7_serveSchedule_64 (n := 65) rfl ?_
        refine V_aload_n X (q := 1) rfl rfl dX7_serveSchedule_65 (n := 66) rfl ?_
        refine V_getX X (by omega) (shp_S _ g4) rfl (k := 1) inX7_serveSchedule_X5 rfl (by decide) wX7_serveSchedule_204 dX7_serveSchedule_66 (n := 69) rfl ?_
        refine V_ishl X dX7_serveSchedule_69 (n := 70) rfl ?_
        refine V_callv X (As := [.ref (ρ 22), .int ((1 : Int32) <<< ((C5 (52 + 2 * Int32.toNatClampNeg (C 51 (Int32.toNatClampNeg (C 65 (Int32.toNatClampNeg v2))))) 1) &&& 31))]) (rest := []) (nA := 2) (i := 46) (q := (RX1, TX1, 6)) (TX1_run l D G ρ C5 N ((1 : Int32) <<< ((C5 (52 + 2 * Int32.toNatClampNeg (C 51 (Int32.toNatClampNeg (C 65 (Int32.toNatClampNeg v2))))) 1) &&& 31)) _ h) gX7_serveSchedule_X1_run rfl rfl rfl (by decide +kernel) rfl ⟨by decide, by decide⟩ (Nat.le_of_ble_eq_true rfl) ⟨by decide, by decide⟩ (by decide) rfl rfl rfl dX7_serveSchedule_70 (n := 73) rfl (fun C10 M0 h => ?_)
        obtain ⟨h, eo⟩ := h
        rw [eo]
        refine V_loc [2, 3, 4, 1, 0] rfl ?_
        exact kj8 C10 h
set_option maxRecDepth 100000 in
set_option maxHeartbeats 4000000 in
theorem TX7_serveSchedule (l : Launch) (D : va_G) (G : Gc) (ρ : Nat → Nat) (C : Xm) (N : Nm)   (K : Int32 → Xm → Prop) (h : fX7_serveSchedule C K) : Ki l yX7_serveSchedule wsX7_serveSchedule rmX7_serveSchedule D G ρ [.ref (ρ 0)] C N (fun r C1 N1 => K r C1 ∧ N1 = N) := by
  refine Ki.ofV (cc := cX7_serveSchedule) (maxL := 5) (ret := (some .int)) (by decide +kernel) rfl (Nat.le_of_ble_eq_true rfl) ?_
  intro p e s m args below meth c X hr hlk
  show V p l e rmX7_serveSchedule s m args below meth c D G ρ (WA ρ s.heap.size) s.heap 5 0 0 (Qi D G ρ s args below (fun r C1 N1 => K r C1 ∧ N1 = N)) 0 [(0, .ref (ρ 0))] [] C N
  unfold fX7_serveSchedule at h
  refine V_iconst X (v := 0) (by decide) dX7_serveSchedule_0 (n := 1) rfl ?_
  refine V_istore_n X (L2 := [(1, .int (0 : Int32)), (0, .ref (ρ 0))]) rfl (by decide) rfl dX7_serveSchedule_1 (n := 2) rfl ?_
  refine V_iconst X (v := 0) (by decide) dX7_serveSchedule_2 (n := 3) rfl ?_
  refine V_istore_n X (L2 := [(2, .int (0 : Int32)), (1, .int (0 : Int32)), (0, .ref (ρ 0))]) rfl (by decide) rfl dX7_serveSchedule_3 (n := 4) rfl ?_
  refine jn_o h (fun j23 ej23 h => ?_)
  have kj23 : ∀ (x24 : Int32) (x25 : Int32) (C26 : Xm), j23 x24 x25 C26 → V p l e rmX7_serveSchedule s m args below meth c D G ρ (WA ρ s.heap.size) s.heap 5 0 0 (Qi D G ρ s args below (fun r C1 N1 => K r C1 ∧ N1 = N)) 126 [(0, .ref (ρ 0)), (1, .int x24), (2, .int x25)] [] C26 N := by
    intro x24 x25 C26 h
    rw [ej23] at h
    try dsimp only at h
    refine V_iload_n X (q := 1) rfl rfl dX7_serveSchedule_126 (n := 127) rfl ?_
    exact V_iret X hr hlk dX7_serveSchedule_127 ⟨h, rfl⟩
  refine V_loc [2, 1, 0] rfl ?_
  exact TX7_serveSchedule_L4 X hr hlk N  (E := j23) (K := K) kj23 200 (0 : Int32) (0 : Int32) C h
abbrev rmX3_noteNoSchedule : Room := { frames := 0, cells := 0, slots := 0, locals := 0 }
theorem wX3_noteNoSchedule_18 : Cond.fieldLink RX3 18 "FloodBus$Network" "count" "I" ∈ wsX3_noteNoSchedule := by decide +kernel
theorem wX3_noteNoSchedule_22 : Cond.fieldLink RX3 22 "FloodBus$Network" "alive" "[Z" ∈ wsX3_noteNoSchedule := by decide +kernel
theorem wX3_noteNoSchedule_26 : Cond.fieldLink RX3 26 "FloodBus$Network" "missed" "[I" ∈ wsX3_noteNoSchedule := by decide +kernel
theorem inX3_noteNoSchedule_X3 : ∀ w ∈ wsX30, w ∈ wsX3_noteNoSchedule := by decide +kernel
set_option maxRecDepth 100000 in
set_option maxHeartbeats 4000000 in
theorem TX3_noteNoSchedule_L2 {p : Program} {l : Launch} {e : Env} {s : State} {m : MethodId} {args : Array Value} {below : List Frame} {meth : Method} {c : Code} {D : va_G} {G : Gc} {ρ : Nat → Nat} (X : Cx p s m args c cX3_noteNoSchedule 2 RX3 wsX3_noteNoSchedule D G ρ (WA ρ s.heap.size) s.heap) (hr : meth.sig.returnType = none) (hlk : meth.locks = false) (N : Nm)   {E : Int32 → Xm → Prop} {K : Xm → Prop} (hE : ∀ (v1 : Int32) (C : Xm), E v1 C → V p l e rmX3_noteNoSchedule s m args below meth c D G ρ (WA ρ s.heap.size) s.heap 2 0 0 (Qv D G ρ s args below (fun C1 N1 => K C1 ∧ N1 = N)) 35 [(0, .ref (ρ 22)), (1, .int v1)] [] C N) : ∀ (n : Nat) (v1 : Int32) (C : Xm), fX3_noteNoSchedule_L2  E K n v1 C → V p l e rmX3_noteNoSchedule s m args below meth c D G ρ (WA ρ s.heap.size) s.heap 2 0 0 (Qv D G ρ s args below (fun C1 N1 => K C1 ∧ N1 = N)) 2 [(0, .ref (ρ 22)), (1, .int v1)] [] C N := by
  intro n
  induction n with
  | zero => intro v1 C h; exact h.elim
  | succ n ih =>
    intro v1 C h
    unfold fX3_noteNoSchedule_L2 at h
    refine V_iload_n X (q := 1) rfl rfl dX3_noteNoSchedule_2 (n := 3) rfl ?_
    refine V_aload_n X (q := 0) rfl rfl dX3_noteNoSchedule_3 (n := 4) rfl ?_
    refine V_getX X (by decide) rfl rfl (k := 1) inX3_noteNoSchedule_X3 rfl (by decide) wX3_noteNoSchedule_18 dX3_noteNoSchedule_4 (n := 7) rfl ?_
    refine V_icmp_ge X dX3_noteNoSchedule_7 (tgt := 35) (n := 10) (by decide) rfl (fun c1 => ?_) (fun c1 => ?_)
    · have h := ite_t h c1
      exact hE v1 C h
    · have h := ite_f h c1
      refine V_aload_n X (q := 0) rfl rfl dX3_noteNoSchedule_10 (n := 11) rfl ?_
      refine V_getR X (by decide) rfl rfl (k := 2) inX3_noteNoSchedule_X3 rfl (by decide) wX3_noteNoSchedule_22 dX3_noteNoSchedule_11 (n := 14) rfl ?_
      refine V_iload_n X (q := 1) rfl rfl dX3_noteNoSchedule_14 (n := 15) rfl ?_
      obtain ⟨g2, h⟩ := h
      refine V_zldX X (by decide) rfl g2 dX3_noteNoSchedule_15 (n := 16) rfl ?_
      refine jn_o h (fun j3 ej3 h => ?_)
      have kj3 : ∀ (C8 : Xm), j3 C8 → V p l e rmX3_noteNoSchedule s m args below meth c D G ρ (WA ρ s.heap.size) s.heap 2 0 0 (Qv D G ρ s args below (fun C1 N1 => K C1 ∧ N1 = N)) 29 [(0, .ref (ρ 22)), (1, .int v1)] [] C8 N := by
        intro C8 h
        rw [ej3] at h
        try dsimp only at h
        obtain ⟨x9, ex9⟩ : ∃ z : Int32, z = v1 + (1 : Int32) := ⟨_, rfl⟩
        have h := bd_at h ex9
        refine V_iinc X (q := 1) (d := 1) (L2 := [(1, .int x9), (0, .ref (ρ 22))]) rfl (by decide) (by decide) ex9 rfl dX3_noteNoSchedule_29 (n := 32) rfl ?_
        refine V_goto X dX3_noteNoSchedule_32 (tgt := 2) (by decide) ?_
        refine V_loc [1, 0] rfl ?_
        exact ih x9 C8 h
      refine V_if_eq X dX3_noteNoSchedule_16 (tgt := 29) (n := 19) (by decide) rfl (fun c4 => ?_) (fun c4 => ?_)
      · have h := ite_t h c4
        exact kj3 C h
      · have h := ite_f h c4
        refine V_aload_n X (q := 0) rfl rfl dX3_noteNoSchedule_19 (n := 20) rfl ?_
        refine V_getR X (by decide) rfl rfl (k := 3) inX3_noteNoSchedule_X3 rfl (by decide) wX3_noteNoSchedule_26 dX3_noteNoSchedule_20 (n := 23) rfl ?_
        refine V_iload_n X (q := 1) rfl rfl dX3_noteNoSchedule_23 (n := 24) rfl ?_
        refine V_dup2 X rfl rfl dX3_noteNoSchedule_24 (n := 25) rfl ?_
        obtain ⟨g5, h⟩ := h
        refine V_ildX X (by decide) rfl g5 dX3_noteNoSchedule_25 (n := 26) rfl ?_
        refine V_iconst X (v := 1) (by decide) dX3_noteNoSchedule_26 (n := 27) rfl ?_
        refine V_iadd X dX3_noteNoSchedule_27 (n := 28) rfl ?_
        obtain ⟨g6, h⟩ := h
        refine V_istX X (by decide) rfl g6 dX3_noteNoSchedule_28 (n := 29) rfl (fun C7 eC7 => ?_)
        have h := bd_at h eC7
        exact kj3 C7 h
set_option maxRecDepth 100000 in
set_option maxHeartbeats 4000000 in
theorem TX3_noteNoSchedule (l : Launch) (D : va_G) (G : Gc) (ρ : Nat → Nat) (C : Xm) (N : Nm)   (K : Xm → Prop) (h : fX3_noteNoSchedule C K) : Kv l yX3_noteNoSchedule wsX3_noteNoSchedule rmX3_noteNoSchedule D G ρ [.ref (ρ 22)] C N (fun C1 N1 => K C1 ∧ N1 = N) := by
  refine Kv.ofV (cc := cX3_noteNoSchedule) (maxL := 2) (ret := none) (by decide +kernel) rfl (Nat.le_of_ble_eq_true rfl) ?_
  intro p e s m args below meth c X hr hlk
  show V p l e rmX3_noteNoSchedule s m args below meth c D G ρ (WA ρ s.heap.size) s.heap 2 0 0 (Qv D G ρ s args below (fun C1 N1 => K C1 ∧ N1 = N)) 0 [(0, .ref (ρ 22))] [] C N
  unfold fX3_noteNoSchedule at h
  refine V_iconst X (v := 0) (by decide) dX3_noteNoSchedule_0 (n := 1) rfl ?_
  refine V_istore_n X (L2 := [(1, .int (0 : Int32)), (0, .ref (ρ 22))]) rfl (by decide) rfl dX3_noteNoSchedule_1 (n := 2) rfl ?_
  refine jn_o h (fun j10 ej10 h => ?_)
  have kj10 : ∀ (x11 : Int32) (C12 : Xm), j10 x11 C12 → V p l e rmX3_noteNoSchedule s m args below meth c D G ρ (WA ρ s.heap.size) s.heap 2 0 0 (Qv D G ρ s args below (fun C1 N1 => K C1 ∧ N1 = N)) 35 [(0, .ref (ρ 22)), (1, .int x11)] [] C12 N := by
    intro x11 C12 h
    rw [ej10] at h
    try dsimp only at h
    exact V_vret X hr hlk dX3_noteNoSchedule_35 ⟨h, rfl⟩
  refine V_loc [1, 0] rfl ?_
  exact TX3_noteNoSchedule_L2 X hr hlk N  (E := j10) (K := K) kj10 200 (0 : Int32) C h
abbrev rmX7_takeOver : Room := { frames := 0, cells := 0, slots := 0, locals := 0 }
theorem wX7_takeOver_19 : Cond.fieldLink RX7 19 "FloodBus" "network" "LFloodBus$Network;" ∈ wsX7_takeOver := by decide +kernel
theorem wX7_takeOver_92 : Cond.fieldLink RX7 92 "FloodBus$Network" "count" "I" ∈ wsX7_takeOver := by decide +kernel
theorem wX7_takeOver_103 : Cond.fieldLink RX7 103 "FloodBus$Network" "alive" "[Z" ∈ wsX7_takeOver := by decide +kernel
theorem wX7_takeOver_107 : Cond.fieldLink RX7 107 "FloodBus$Network" "missed" "[I" ∈ wsX7_takeOver := by decide +kernel
theorem wX7_takeOver_48 : Cond.fieldLink RX7 48 "FloodBus" "takeoverLimit" "I" ∈ wsX7_takeOver := by decide +kernel
theorem wX7_takeOver_51 : Cond.fieldLink RX7 51 "FloodBus" "hostNode" "I" ∈ wsX7_takeOver := by decide +kernel
theorem inX7_takeOver_X7 : ∀ w ∈ wsX70, w ∈ wsX7_takeOver := by decide +kernel
theorem inX7_takeOver_X3 : ∀ w ∈ wsX30, w ∈ wsX7_takeOver := by decide +kernel
set_option maxRecDepth 100000 in
set_option maxHeartbeats 4000000 in
theorem TX7_takeOver_L2 {p : Program} {l : Launch} {e : Env} {s : State} {m : MethodId} {args : Array Value} {below : List Frame} {meth : Method} {c : Code} {D : va_G} {G : Gc} {ρ : Nat → Nat} (X : Cx p s m args c cX7_takeOver 2 RX7 wsX7_takeOver D G ρ (WA ρ s.heap.size) s.heap) (hr : meth.sig.returnType = none) (hlk : meth.locks = false) (N : Nm)   {E : Int32 → Xm → Prop} {K : Xm → Prop} (hE : ∀ (v1 : Int32) (C : Xm), E v1 C → V p l e rmX7_takeOver s m args below meth c D G ρ (WA ρ s.heap.size) s.heap 2 0 0 (Qv D G ρ s args below (fun C1 N1 => K C1 ∧ N1 = N)) 63 [(0, .ref (ρ 0)), (1, .int v1)] [] C N) : ∀ (n : Nat) (v1 : Int32) (C : Xm), fX7_takeOver_L2  E K n v1 C → V p l e rmX7_takeOver s m args below meth c D G ρ (WA ρ s.heap.size) s.heap 2 0 0 (Qv D G ρ s args below (fun C1 N1 => K C1 ∧ N1 = N)) 2 [(0, .ref (ρ 0)), (1, .int v1)] [] C N := by
  intro n
  induction n with
  | zero => intro v1 C h; exact h.elim
  | succ n ih =>
    intro v1 C h
    unfold fX7_takeOver_L2 at h
    refine V_iload_n X (q := 1) rfl rfl dX7_takeOver_2 (n := 3) rfl ?_
    refine V_aload_n X (q := 0) rfl rfl dX7_takeOver_3 (n := 4) rfl ?_
    refine V_getR X (by decide) rfl rfl (k := 1) inX7_takeOver_X7 rfl (by decide) wX7_takeOver_19 dX7_takeOver_4 (n := 7) rfl ?_
    refine V_getX X (by decide) rfl rfl (k := 1) inX7_takeOver_X3 rfl (by decide) wX7_takeOver_92 dX7_takeOver_7 (n := 10) rfl ?_
    refine V_icmp_ge X dX7_takeOver_10 (tgt := 63) (n := 13) (by decide) rfl (fun c1 => ?_) (fun c1 => ?_)
    · have h := ite_t h c1
      exact hE v1 C h
    · have h := ite_f h c1
      refine V_aload_n X (q := 0) rfl rfl dX7_takeOver_13 (n := 14) rfl ?_
      refine V_getR X (by decide) rfl rfl (k := 1) inX7_takeOver_X7 rfl (by decide) wX7_takeOver_19 dX7_takeOver_14 (n := 17) rfl ?_
      refine V_getR X (by decide) rfl rfl (k := 2) inX7_takeOver_X3 rfl (by decide) wX7_takeOver_103 dX7_takeOver_17 (n := 20) rfl ?_
      refine V_iload_n X (q := 1) rfl rfl dX7_takeOver_20 (n := 21) rfl ?_
      obtain ⟨g2, h⟩ := h
      refine V_zldX X (by decide) rfl g2 dX7_takeOver_21 (n := 22) rfl ?_
      refine jn_o h (fun j3 ej3 h => ?_)
      have kj3 : j3 → V p l e rmX7_takeOver s m args below meth c D G ρ (WA ρ s.heap.size) s.heap 2 0 0 (Qv D G ρ s args below (fun C1 N1 => K C1 ∧ N1 = N)) 57 [(0, .ref (ρ 0)), (1, .int v1)] [] C N := by
        intro  h
        rw [ej3] at h
        obtain ⟨x10, ex10⟩ : ∃ z : Int32, z = v1 + (1 : Int32) := ⟨_, rfl⟩
        have h := bd_at h ex10
        refine V_iinc X (q := 1) (d := 1) (L2 := [(1, .int x10), (0, .ref (ρ 0))]) rfl (by decide) (by decide) ex10 rfl dX7_takeOver_57 (n := 60) rfl ?_
        refine V_goto X dX7_takeOver_60 (tgt := 2) (by decide) ?_
        refine V_loc [1, 0] rfl ?_
        exact ih x10 C h
      refine V_if_eq X dX7_takeOver_22 (tgt := 57) (n := 25) (by decide) rfl (fun c4 => ?_) (fun c4 => ?_)
      · have h := ite_t h c4
        exact kj3  h
      · have h := ite_f h c4
        refine V_aload_n X (q := 0) rfl rfl dX7_takeOver_25 (n := 26) rfl ?_
        refine V_getR X (by decide) rfl rfl (k := 1) inX7_takeOver_X7 rfl (by decide) wX7_takeOver_19 dX7_takeOver_26 (n := 29) rfl ?_
        refine V_getR X (by decide) rfl rfl (k := 3) inX7_takeOver_X3 rfl (by decide) wX7_takeOver_107 dX7_takeOver_29 (n := 32) rfl ?_
        refine V_iload_n X (q := 1) rfl rfl dX7_takeOver_32 (n := 33) rfl ?_
        obtain ⟨g5, h⟩ := h
        refine V_ildX X (by decide) rfl g5 dX7_takeOver_33 (n := 34) rfl ?_
        refine V_aload_n X (q := 0) rfl rfl dX7_takeOver_34 (n := 35) rfl ?_
        refine V_getX X (by decide) rfl rfl (k := 6) inX7_takeOver_X7 rfl (by decide) wX7_takeOver_48 dX7_takeOver_35 (n := 38) rfl ?_
        refine V_icmp_lt X dX7_takeOver_38 (tgt := 57) (n := 41) (by decide) rfl (fun c6 => ?_) (fun c6 => ?_)
        · have h := ite_t h c6
          exact kj3  h
        · have h := ite_f h c6
          refine V_aload_n X (q := 0) rfl rfl dX7_takeOver_41 (n := 42) rfl ?_
          refine V_iload_n X (q := 1) rfl rfl dX7_takeOver_42 (n := 43) rfl ?_
          refine V_putX X (by decide) rfl rfl (k := 7) inX7_takeOver_X7 rfl (by decide) wX7_takeOver_51 tyX7 tyX7_ok nmX7 rfl (by decide +kernel) dX7_takeOver_43 (n := 46) rfl (fun C7 eC7 => ?_)
          have h := bd_at h eC7
          refine V_aload_n X (q := 0) rfl rfl dX7_takeOver_46 (n := 47) rfl ?_
          refine V_getR X (by decide) rfl rfl (k := 1) inX7_takeOver_X7 rfl (by decide) wX7_takeOver_19 dX7_takeOver_47 (n := 50) rfl ?_
          refine V_getR X (by decide) rfl rfl (k := 3) inX7_takeOver_X3 rfl (by decide) wX7_takeOver_107 dX7_takeOver_50 (n := 53) rfl ?_
          refine V_iload_n X (q := 1) rfl rfl dX7_takeOver_53 (n := 54) rfl ?_
          refine V_iconst X (v := 0) (by decide) dX7_takeOver_54 (n := 55) rfl ?_
          obtain ⟨g8, h⟩ := h
          refine V_istX X (by decide) rfl g8 dX7_takeOver_55 (n := 56) rfl (fun C9 eC9 => ?_)
          have h := bd_at h eC9
          exact V_vret X hr hlk dX7_takeOver_56 ⟨h, rfl⟩
set_option maxRecDepth 100000 in
set_option maxHeartbeats 4000000 in
theorem TX7_takeOver (l : Launch) (D : va_G) (G : Gc) (ρ : Nat → Nat) (C : Xm) (N : Nm)   (K : Xm → Prop) (h : fX7_takeOver C K) : Kv l yX7_takeOver wsX7_takeOver rmX7_takeOver D G ρ [.ref (ρ 0)] C N (fun C1 N1 => K C1 ∧ N1 = N) := by
  refine Kv.ofV (cc := cX7_takeOver) (maxL := 2) (ret := none) (by decide +kernel) rfl (Nat.le_of_ble_eq_true rfl) ?_
  intro p e s m args below meth c X hr hlk
  show V p l e rmX7_takeOver s m args below meth c D G ρ (WA ρ s.heap.size) s.heap 2 0 0 (Qv D G ρ s args below (fun C1 N1 => K C1 ∧ N1 = N)) 0 [(0, .ref (ρ 0))] [] C N
  unfold fX7_takeOver at h
  refine V_iconst X (v := 0) (by decide) dX7_takeOver_0 (n := 1) rfl ?_
  refine V_istore_n X (L2 := [(1, .int (0 : Int32)), (0, .ref (ρ 0))]) rfl (by decide) rfl dX7_takeOver_1 (n := 2) rfl ?_
  refine jn_o h (fun j11 ej11 h => ?_)
  have kj11 : ∀ (x12 : Int32) (C13 : Xm), j11 x12 C13 → V p l e rmX7_takeOver s m args below meth c D G ρ (WA ρ s.heap.size) s.heap 2 0 0 (Qv D G ρ s args below (fun C1 N1 => K C1 ∧ N1 = N)) 63 [(0, .ref (ρ 0)), (1, .int x12)] [] C13 N := by
    intro x12 C13 h
    rw [ej11] at h
    try dsimp only at h
    exact V_vret X hr hlk dX7_takeOver_63 ⟨h, rfl⟩
  refine V_loc [1, 0] rfl ?_
  exact TX7_takeOver_L2 X hr hlk N  (E := j11) (K := K) kj11 200 (0 : Int32) C h
abbrev rmX7_runOneRound : Room := { frames := 5, cells := 0, slots := 0, locals := 120 }
theorem wX7_runOneRound_33 : Cond.fieldLink RX7 33 "FloodBus" "streams" "LFloodBus$StreamTable;" ∈ wsX7_runOneRound := by decide +kernel
theorem wX7_runOneRound_54 : Cond.fieldLink RX7 54 "FloodBus" "nextRound" "I" ∈ wsX7_runOneRound := by decide +kernel
theorem wX7_runOneRound_19 : Cond.fieldLink RX7 19 "FloodBus" "network" "LFloodBus$Network;" ∈ wsX7_runOneRound := by decide +kernel
theorem wX7_runOneRound_103 : Cond.fieldLink RX7 103 "FloodBus$Network" "alive" "[Z" ∈ wsX7_runOneRound := by decide +kernel
theorem wX7_runOneRound_51 : Cond.fieldLink RX7 51 "FloodBus" "hostNode" "I" ∈ wsX7_runOneRound := by decide +kernel
theorem wX7_runOneRound_40 : Cond.fieldLink RX7 40 "FloodBus" "schedule" "LFloodBus$Schedule;" ∈ wsX7_runOneRound := by decide +kernel
theorem wX7_runOneRound_89 : Cond.fieldLink RX7 89 "FloodBus$Schedule" "size" "I" ∈ wsX7_runOneRound := by decide +kernel
theorem wX7_runOneRound_44 : Cond.fieldLink RX7 44 "FloodBus" "slotLimit" "I" ∈ wsX7_runOneRound := by decide +kernel
theorem wX7_runOneRound_26 : Cond.fieldLink RX7 26 "FloodBus" "latestFlood" "LFloodBus$Flooding;" ∈ wsX7_runOneRound := by decide +kernel
theorem inX7_runOneRound_X7 : ∀ w ∈ wsX70, w ∈ wsX7_runOneRound := by decide +kernel
theorem inX7_runOneRound_X3 : ∀ w ∈ wsX30, w ∈ wsX7_runOneRound := by decide +kernel
theorem inX7_runOneRound_X4 : ∀ w ∈ wsX40, w ∈ wsX7_runOneRound := by decide +kernel
set_option maxRecDepth 100000 in
set_option maxHeartbeats 4000000 in
theorem TX7_runOneRound (l : Launch) (D : va_G) (G : Gc) (ρ : Nat → Nat) (C : Xm) (N : Nm)   (K : Int32 → Xm → Prop) (h : fX7_runOneRound C K) : Ki l yX7_runOneRound wsX7_runOneRound rmX7_runOneRound D G ρ [.ref (ρ 0)] C N (fun r C1 N1 => K r C1 ∧ N1 = N) := by
  refine Ki.ofV (cc := cX7_runOneRound) (maxL := 2) (ret := (some .int)) (by decide +kernel) rfl (Nat.le_of_ble_eq_true rfl) ?_
  intro p e s m args below meth c X hr hlk
  show V p l e rmX7_runOneRound s m args below meth c D G ρ (WA ρ s.heap.size) s.heap 2 0 0 (Qi D G ρ s args below (fun r C1 N1 => K r C1 ∧ N1 = N)) 0 [(0, .ref (ρ 0))] [] C N
  unfold fX7_runOneRound at h
  refine V_aload_n X (q := 0) rfl rfl dX7_runOneRound_0 (n := 1) rfl ?_
  refine V_getR X (by decide) rfl rfl (k := 3) inX7_runOneRound_X7 rfl (by decide) wX7_runOneRound_33 dX7_runOneRound_1 (n := 4) rfl ?_
  refine V_aload_n X (q := 0) rfl rfl dX7_runOneRound_4 (n := 5) rfl ?_
  refine V_getX X (by decide) rfl rfl (k := 8) inX7_runOneRound_X7 rfl (by decide) wX7_runOneRound_54 dX7_runOneRound_5 (n := 8) rfl ?_
  refine V_callv X (As := [.int (C 0 8)]) (rest := []) (nA := 1) (i := 50) (q := (RX6, TX6, 2)) (TX6_generate l D G ρ C N (C 0 8) _ h) gX7_runOneRound_X6_generate rfl rfl rfl (by decide +kernel) rfl ⟨by decide, by decide⟩ (Nat.le_of_ble_eq_true rfl) ⟨by decide, by decide⟩ (by decide) rfl rfl rfl dX7_runOneRound_8 (n := 11) rfl (fun C1 M0 h => ?_)
  obtain ⟨h, eo⟩ := h
  rw [eo]
  refine V_iconst X (v := 0) (by decide) dX7_runOneRound_11 (n := 12) rfl ?_
  refine V_istore_n X (L2 := [(1, .int (0 : Int32)), (0, .ref (ρ 0))]) rfl (by decide) rfl dX7_runOneRound_12 (n := 13) rfl ?_
  refine V_aload_n X (q := 1) rfl rfl dX7_runOneRound_13 (n := 14) rfl ?_
  refine V_getR X (by decide) rfl rfl (k := 1) inX7_runOneRound_X7 rfl (by decide) wX7_runOneRound_19 dX7_runOneRound_14 (n := 17) rfl ?_
  refine V_getR X (by decide) rfl rfl (k := 2) inX7_runOneRound_X3 rfl (by decide) wX7_runOneRound_103 dX7_runOneRound_17 (n := 20) rfl ?_
  refine V_aload_n X (q := 1) rfl rfl dX7_runOneRound_20 (n := 21) rfl ?_
  refine V_getX X (by decide) rfl rfl (k := 7) inX7_runOneRound_X7 rfl (by decide) wX7_runOneRound_51 dX7_runOneRound_21 (n := 24) rfl ?_
  obtain ⟨g2, h⟩ := h
  refine V_zldX X (by decide) rfl g2 dX7_runOneRound_24 (n := 25) rfl ?_
  refine jn_o h (fun j3 ej3 h => ?_)
  have kj3 : ∀ (x13 : Int32) (C14 : Xm), j3 x13 C14 → V p l e rmX7_runOneRound s m args below meth c D G ρ (WA ρ s.heap.size) s.heap 2 0 0 (Qi D G ρ s args below (fun r C1 N1 => K r C1 ∧ N1 = N)) 98 [(0, .ref (ρ 0)), (1, .int x13)] [] C14 N := by
    intro x13 C14 h
    rw [ej3] at h
    try dsimp only at h
    refine V_aload_n X (q := 0) rfl rfl dX7_runOneRound_98 (n := 99) rfl ?_
    refine V_dup X rfl dX7_runOneRound_99 (n := 100) rfl ?_
    refine V_getX X (by decide) rfl rfl (k := 8) inX7_runOneRound_X7 rfl (by decide) wX7_runOneRound_54 dX7_runOneRound_100 (n := 103) rfl ?_
    refine V_iconst X (v := 1) (by decide) dX7_runOneRound_103 (n := 104) rfl ?_
    refine V_iadd X dX7_runOneRound_104 (n := 105) rfl ?_
    refine V_putX X (by decide) rfl rfl (k := 8) inX7_runOneRound_X7 rfl (by decide) wX7_runOneRound_54 tyX7 tyX7_ok nmX7 rfl (by decide +kernel) dX7_runOneRound_105 (n := 108) rfl (fun C15 eC15 => ?_)
    have h := bd_at h eC15
    refine V_iload_n X (q := 1) rfl rfl dX7_runOneRound_108 (n := 109) rfl ?_
    exact V_iret X hr hlk dX7_runOneRound_109 ⟨h, rfl⟩
  refine V_if_eq X dX7_runOneRound_25 (tgt := 79) (n := 28) (by decide) rfl (fun c4 => ?_) (fun c4 => ?_)
  · have h := ite_t h c4
    refine V_aload_n X (q := 1) rfl rfl dX7_runOneRound_79 (n := 80) rfl ?_
    refine V_getR X (by decide) rfl rfl (k := 4) inX7_runOneRound_X7 rfl (by decide) wX7_runOneRound_40 dX7_runOneRound_80 (n := 83) rfl ?_
    refine V_iconst X (v := 0) (by decide) dX7_runOneRound_83 (n := 84) rfl ?_
    refine V_putX X (by decide) rfl rfl (k := 1) inX7_runOneRound_X4 rfl (by decide) wX7_runOneRound_89 tyX4 tyX4_ok nmX4 rfl (by decide +kernel) dX7_runOneRound_84 (n := 87) rfl (fun C5 eC5 => ?_)
    have h := bd_at h eC5
    refine V_aload_n X (q := 1) rfl rfl dX7_runOneRound_87 (n := 88) rfl ?_
    refine V_getR X (by decide) rfl rfl (k := 1) inX7_runOneRound_X7 rfl (by decide) wX7_runOneRound_19 dX7_runOneRound_88 (n := 91) rfl ?_
    refine V_callv X (As := []) (rest := []) (nA := 0) (i := 22) (q := (RX3, TX3, 6)) (TX3_noteNoSchedule l D G ρ C5 N  _ h) gX7_runOneRound_X3_noteNoSchedule rfl rfl rfl (by decide +kernel) rfl ⟨by decide, by decide⟩ (Nat.le_of_ble_eq_true rfl) ⟨by decide, by decide⟩ (by decide) rfl rfl rfl dX7_runOneRound_91 (n := 94) rfl (fun C6 M0 h => ?_)
    obtain ⟨h, eo⟩ := h
    rw [eo]
    refine V_aload_n X (q := 1) rfl rfl dX7_runOneRound_94 (n := 95) rfl ?_
    refine V_callv X (As := []) (rest := []) (nA := 0) (i := 0) (q := (RX7, TX7, 9)) (TX7_takeOver l D G ρ C6 N  _ h) gX7_runOneRound_X7_takeOver rfl rfl rfl (by decide +kernel) rfl ⟨by decide, by decide⟩ (Nat.le_of_ble_eq_true rfl) ⟨by decide, by decide⟩ (by decide) rfl rfl rfl dX7_runOneRound_95 (n := 98) rfl (fun C7 M0 h => ?_)
    obtain ⟨h, eo⟩ := h
    rw [eo]
    refine V_loc [1, 0] rfl ?_
    exact kj3 (0 : Int32) C7 h
  · have h := ite_f h c4
    refine V_aload_n X (q := 1) rfl rfl dX7_runOneRound_28 (n := 29) rfl ?_
    refine V_getR X (by decide) rfl rfl (k := 4) inX7_runOneRound_X7 rfl (by decide) wX7_runOneRound_40 dX7_runOneRound_29 (n := 32) rfl ?_
    refine V_aload_n X (q := 1) rfl rfl dX7_runOneRound_32 (n := 33) rfl ?_
    refine V_getR X (by decide) rfl rfl (k := 3) inX7_runOneRound_X7 rfl (by decide) wX7_runOneRound_33 dX7_runOneRound_33 (n := 36) rfl ?_
    refine V_aload_n X (q := 1) rfl rfl dX7_runOneRound_36 (n := 37) rfl ?_
    refine V_getX X (by decide) rfl rfl (k := 5) inX7_runOneRound_X7 rfl (by decide) wX7_runOneRound_44 dX7_runOneRound_37 (n := 40) rfl ?_
    refine V_callv X (As := [.ref (ρ 50), .int (C1 0 5)]) (rest := []) (nA := 2) (i := 64) (q := (RX4, TX4, 2)) (TX4_build l D G ρ C1 N (C1 0 5) _ h) gX7_runOneRound_X4_build rfl rfl rfl (by decide +kernel) rfl ⟨by decide, by decide⟩ (Nat.le_of_ble_eq_true rfl) ⟨by decide, by decide⟩ (by decide) rfl rfl rfl dX7_runOneRound_40 (n := 43) rfl (fun C8 M0 h => ?_)
    obtain ⟨h, eo⟩ := h
    rw [eo]
    refine V_aload_n X (q := 1) rfl rfl dX7_runOneRound_43 (n := 44) rfl ?_
    refine V_getR X (by decide) rfl rfl (k := 2) inX7_runOneRound_X7 rfl (by decide) wX7_runOneRound_26 dX7_runOneRound_44 (n := 47) rfl ?_
    refine V_aload_n X (q := 1) rfl rfl dX7_runOneRound_47 (n := 48) rfl ?_
    refine V_getR X (by decide) rfl rfl (k := 1) inX7_runOneRound_X7 rfl (by decide) wX7_runOneRound_19 dX7_runOneRound_48 (n := 51) rfl ?_
    refine V_iconst X (v := 1) (by decide) dX7_runOneRound_51 (n := 52) rfl ?_
    refine V_aload_n X (q := 1) rfl rfl dX7_runOneRound_52 (n := 53) rfl ?_
    refine V_getX X (by decide) rfl rfl (k := 7) inX7_runOneRound_X7 rfl (by decide) wX7_runOneRound_51 dX7_runOneRound_53 (n := 56) rfl ?_
    refine V_ishl X dX7_runOneRound_56 (n := 57) rfl ?_
    refine V_callv X (As := [.ref (ρ 22), .int ((1 : Int32) <<< ((C8 0 7) &&& 31))]) (rest := []) (nA := 2) (i := 46) (q := (RX1, TX1, 6)) (TX1_run l D G ρ C8 N ((1 : Int32) <<< ((C8 0 7) &&& 31)) _ h) gX7_runOneRound_X1_run rfl rfl rfl (by decide +kernel) rfl ⟨by decide, by decide⟩ (Nat.le_of_ble_eq_true rfl) ⟨by decide, by decide⟩ (by decide) rfl rfl rfl dX7_runOneRound_57 (n := 60) rfl (fun C9 M0 h => ?_)
    obtain ⟨h, eo⟩ := h
    rw [eo]
    refine V_aload_n X (q := 1) rfl rfl dX7_runOneRound_60 (n := 61) rfl ?_
    refine V_getR X (by decide) rfl rfl (k := 1) inX7_runOneRound_X7 rfl (by decide) wX7_runOneRound_19 dX7_runOneRound_61 (n := 64) rfl ?_
    refine V_aload_n X (q := 1) rfl rfl dX7_runOneRound_64 (n := 65) rfl ?_
    refine V_getR X (by decide) rfl rfl (k := 2) inX7_runOneRound_X7 rfl (by decide) wX7_runOneRound_26 dX7_runOneRound_65 (n := 68) rfl ?_
    refine V_callv X (As := [.ref (ρ 46)]) (rest := []) (nA := 1) (i := 22) (q := (RX3, TX3, 6)) (TX3_noteSchedule l D G ρ C9 N  _ h) gX7_runOneRound_X3_noteSchedule rfl rfl rfl (by decide +kernel) rfl ⟨by decide, by decide⟩ (Nat.le_of_ble_eq_true rfl) ⟨by decide, by decide⟩ (by decide) rfl rfl rfl dX7_runOneRound_68 (n := 71) rfl (fun C10 M0 h => ?_)
    obtain ⟨h, eo⟩ := h
    rw [eo]
    refine V_aload_n X (q := 1) rfl rfl dX7_runOneRound_71 (n := 72) rfl ?_
    refine V_calli X (As := []) (rest := []) (nA := 0) (i := 0) (q := (RX7, TX7, 9)) (TX7_serveSchedule l D G ρ C10 N  _ h) gX7_runOneRound_X7_serveSchedule rfl rfl rfl (by decide +kernel) rfl ⟨by decide, by decide⟩ (Nat.le_of_ble_eq_true rfl) ⟨by decide, by decide⟩ (by decide) rfl rfl rfl dX7_runOneRound_72 (n := 75) rfl (fun r11 C12 M0 h => ?_)
    obtain ⟨h, eo⟩ := h
    rw [eo]
    refine V_istore_n X (L2 := [(1, .int r11), (0, .ref (ρ 0))]) rfl (by decide) rfl dX7_runOneRound_75 (n := 76) rfl ?_
    refine V_goto X dX7_runOneRound_76 (tgt := 98) (by decide) ?_
    refine V_loc [1, 0] rfl ?_
    exact kj3 r11 C12 h
abbrev rmX7_runRounds : Room := { frames := 6, cells := 0, slots := 0, locals := 141 }
theorem wX7_runRounds_19 : Cond.fieldLink RX7 19 "FloodBus" "network" "LFloodBus$Network;" ∈ wsX7_runRounds := by decide +kernel
theorem wX7_runRounds_51 : Cond.fieldLink RX7 51 "FloodBus" "hostNode" "I" ∈ wsX7_runRounds := by decide +kernel
theorem wX7_runRounds_54 : Cond.fieldLink RX7 54 "FloodBus" "nextRound" "I" ∈ wsX7_runRounds := by decide +kernel
theorem inX7_runRounds_X7 : ∀ w ∈ wsX70, w ∈ wsX7_runRounds := by decide +kernel
set_option maxRecDepth 100000 in
set_option maxHeartbeats 4000000 in
theorem TX7_runRounds_L53 {p : Program} {l : Launch} {e : Env} {s : State} {m : MethodId} {args : Array Value} {below : List Frame} {meth : Method} {c : Code} {D : va_G} {G : Gc} {ρ : Nat → Nat} (X : Cx p s m args c cX7_runRounds 4 RX7 wsX7_runRounds D G ρ (WA ρ s.heap.size) s.heap) (hr : meth.sig.returnType = some .int) (hlk : meth.locks = false) (N : Nm) (p1 : Int32)  {E : Int32 → Int32 → Xm → Prop} {K : Int32 → Xm → Prop} (hE : ∀ (v2 : Int32) (v3 : Int32) (C : Xm), E v2 v3 C → V p l e rmX7_runRounds s m args below meth c D G ρ (WA ρ s.heap.size) s.heap 4 0 0 (Qi D G ρ s args below (fun r C1 N1 => K r C1 ∧ N1 = N)) 71 [(0, .ref (ρ 0)), (1, .int p1), (2, .int v2), (3, .int v3)] [] C N) : ∀ (n : Nat) (v2 : Int32) (v3 : Int32) (C : Xm), fX7_runRounds_L53 p1 E K n v2 v3 C → V p l e rmX7_runRounds s m args below meth c D G ρ (WA ρ s.heap.size) s.heap 4 0 0 (Qi D G ρ s args below (fun r C1 N1 => K r C1 ∧ N1 = N)) 53 [(0, .ref (ρ 0)), (1, .int p1), (2, .int v2), (3, .int v3)] [] C N := by
  intro n
  induction n with
  | zero => intro v2 v3 C h; exact h.elim
  | succ n ih =>
    intro v2 v3 C h
    unfold fX7_runRounds_L53 at h
    refine V_iload_n X (q := 3) rfl rfl dX7_runRounds_53 (n := 54) rfl ?_
    refine V_iload_n X (q := 1) rfl rfl dX7_runRounds_54 (n := 55) rfl ?_
    refine V_icmp_ge X dX7_runRounds_55 (tgt := 71) (n := 58) (by decide) rfl (fun c7 => ?_) (fun c7 => ?_)
    · have h := ite_t h c7
      exact hE v2 v3 C h
    · have h := ite_f h c7
      refine V_iload_n X (q := 2) rfl rfl dX7_runRounds_58 (n := 59) rfl ?_
      refine V_aload_n X (q := 0) rfl rfl dX7_runRounds_59 (n := 60) rfl ?_
      refine V_calli X (As := []) (rest := [.int v2]) (nA := 0) (i := 0) (q := (RX7, TX7, 9)) (TX7_runOneRound l D G ρ C N  _ h) gX7_runRounds_X7_runOneRound rfl rfl rfl (by decide +kernel) rfl ⟨by decide, by decide⟩ (Nat.le_of_ble_eq_true rfl) ⟨by decide, by decide⟩ (by decide) rfl rfl rfl dX7_runRounds_60 (n := 63) rfl (fun r8 C9 M0 h => ?_)
      obtain ⟨h, eo⟩ := h
      rw [eo]
      refine V_iadd X dX7_runRounds_63 (n := 64) rfl ?_
      refine V_topi (fun x10 ex10 => ?_)
      have h := bd_at h ex10
      refine V_istore_n X (L2 := [(2, .int x10), (0, .ref (ρ 0)), (1, .int p1), (3, .int v3)]) rfl (by decide) rfl dX7_runRounds_64 (n := 65) rfl ?_
      obtain ⟨x11, ex11⟩ : ∃ z : Int32, z = v3 + (1 : Int32) := ⟨_, rfl⟩
      have h := bd_at h ex11
      refine V_iinc X (q := 3) (d := 1) (L2 := [(3, .int x11), (2, .int x10), (0, .ref (ρ 0)), (1, .int p1)]) rfl (by decide) (by decide) ex11 rfl dX7_runRounds_65 (n := 68) rfl ?_
      refine V_goto X dX7_runRounds_68 (tgt := 53) (by decide) ?_
      refine V_loc [2, 3, 1, 0] rfl ?_
      exact ih x10 x11 C9 h
set_option maxRecDepth 100000 in
set_option maxHeartbeats 4000000 in
theorem TX7_runRounds (l : Launch) (D : va_G) (G : Gc) (ρ : Nat → Nat) (C : Xm) (N : Nm)  (a1 : Int32) (K : Int32 → Xm → Prop) (h : fX7_runRounds C a1 K) : Ki l yX7_runRounds wsX7_runRounds rmX7_runRounds D G ρ [.ref (ρ 0), .int a1] C N (fun r C1 N1 => K r C1 ∧ N1 = N) := by
  refine Ki.ofV (cc := cX7_runRounds) (maxL := 4) (ret := (some .int)) (by decide +kernel) rfl (Nat.le_of_ble_eq_true rfl) ?_
  intro p e s m args below meth c X hr hlk
  show V p l e rmX7_runRounds s m args below meth c D G ρ (WA ρ s.heap.size) s.heap 4 0 0 (Qi D G ρ s args below (fun r C1 N1 => K r C1 ∧ N1 = N)) 0 [(0, .ref (ρ 0)), (1, .int a1)] [] C N
  unfold fX7_runRounds at h
  refine V_iload_n X (q := 1) rfl rfl dX7_runRounds_0 (n := 1) rfl ?_
  refine V_iconst X (v := 1) (by decide) dX7_runRounds_1 (n := 2) rfl ?_
  refine jn_o h (fun j1 ej1 h => ?_)
  have kj1 : j1 → V p l e rmX7_runRounds s m args below meth c D G ρ (WA ρ s.heap.size) s.heap 4 0 0 (Qi D G ρ s args below (fun r C1 N1 => K r C1 ∧ N1 = N)) 11 [(0, .ref (ρ 0)), (1, .int a1)] [] C N := by
    intro  h
    rw [ej1] at h
    refine V_sipush X (v := -1002) (by decide) dX7_runRounds_11 (n := 14) rfl ?_
    exact V_iret X hr hlk dX7_runRounds_14 ⟨h, rfl⟩
  refine V_icmp_lt X dX7_runRounds_2 (tgt := 11) (n := 5) (by decide) rfl (fun c2 => ?_) (fun c2 => ?_)
  · have h := ite_t h c2
    exact kj1  h
  · have h := ite_f h c2
    refine V_iload_n X (q := 1) rfl rfl dX7_runRounds_5 (n := 6) rfl ?_
    refine V_bipush X (v := 20) (by decide) dX7_runRounds_6 (n := 8) rfl ?_
    refine V_icmp_le X dX7_runRounds_8 (tgt := 15) (n := 11) (by decide) rfl (fun c3 => ?_) (fun c3 => ?_)
    · have h := ite_t h c3
      refine V_aload_n X (q := 0) rfl rfl dX7_runRounds_15 (n := 16) rfl ?_
      refine V_getR X (by decide) rfl rfl (k := 1) inX7_runRounds_X7 rfl (by decide) wX7_runRounds_19 dX7_runRounds_16 (n := 19) rfl ?_
      refine V_aload_n X (q := 0) rfl rfl dX7_runRounds_19 (n := 20) rfl ?_
      refine V_getX X (by decide) rfl rfl (k := 7) inX7_runRounds_X7 rfl (by decide) wX7_runRounds_51 dX7_runRounds_20 (n := 23) rfl ?_
      refine V_calli X (As := [.int (C 0 7)]) (rest := []) (nA := 1) (i := 22) (q := (RX3, TX3, 6)) (TX3_has l D G ρ C N (C 0 7) _ h) gX7_runRounds_X3_has rfl rfl rfl (by decide +kernel) rfl ⟨by decide, by decide⟩ (Nat.le_of_ble_eq_true rfl) ⟨by decide, by decide⟩ (by decide) rfl rfl rfl dX7_runRounds_23 (n := 26) rfl (fun r4 M1 M0 h => ?_)
      obtain ⟨h, eo, eo2⟩ := h
      rw [eo, eo2]
      refine V_if_ne X dX7_runRounds_26 (tgt := 33) (n := 29) (by decide) rfl (fun c5 => ?_) (fun c5 => ?_)
      · have h := ite_f h c5
        refine V_aload_n X (q := 0) rfl rfl dX7_runRounds_33 (n := 34) rfl ?_
        refine V_getX X (by decide) rfl rfl (k := 8) inX7_runRounds_X7 rfl (by decide) wX7_runRounds_54 dX7_runRounds_34 (n := 37) rfl ?_
        refine V_iload_n X (q := 1) rfl rfl dX7_runRounds_37 (n := 38) rfl ?_
        refine V_iadd X dX7_runRounds_38 (n := 39) rfl ?_
        refine V_sipush X (v := 9999) (by decide) dX7_runRounds_39 (n := 42) rfl ?_
        refine V_icmp_le X dX7_runRounds_42 (tgt := 49) (n := 45) (by decide) rfl (fun c6 => ?_) (fun c6 => ?_)
        · have h := ite_t h c6
          refine V_iconst X (v := 0) (by decide) dX7_runRounds_49 (n := 50) rfl ?_
          refine V_istore_n X (L2 := [(2, .int (0 : Int32)), (0, .ref (ρ 0)), (1, .int a1)]) rfl (by decide) rfl dX7_runRounds_50 (n := 51) rfl ?_
          refine V_iconst X (v := 0) (by decide) dX7_runRounds_51 (n := 52) rfl ?_
          refine V_istore_n X (L2 := [(3, .int (0 : Int32)), (2, .int (0 : Int32)), (0, .ref (ρ 0)), (1, .int a1)]) rfl (by decide) rfl dX7_runRounds_52 (n := 53) rfl ?_
          refine jn_o h (fun j12 ej12 h => ?_)
          have kj12 : ∀ (x13 : Int32) (x14 : Int32) (C15 : Xm), j12 x13 x14 C15 → V p l e rmX7_runRounds s m args below meth c D G ρ (WA ρ s.heap.size) s.heap 4 0 0 (Qi D G ρ s args below (fun r C1 N1 => K r C1 ∧ N1 = N)) 71 [(0, .ref (ρ 0)), (1, .int a1), (2, .int x13), (3, .int x14)] [] C15 N := by
            intro x13 x14 C15 h
            rw [ej12] at h
            try dsimp only at h
            refine V_iload_n X (q := 2) rfl rfl dX7_runRounds_71 (n := 72) rfl ?_
            exact V_iret X hr hlk dX7_runRounds_72 ⟨h, rfl⟩
          refine V_loc [2, 3, 1, 0] rfl ?_
          exact TX7_runRounds_L53 X hr hlk N a1 (E := j12) (K := K) kj12 200 (0 : Int32) (0 : Int32) C h
        · have h := ite_f h c6
          refine V_sipush X (v := -1004) (by decide) dX7_runRounds_45 (n := 48) rfl ?_
          exact V_iret X hr hlk dX7_runRounds_48 ⟨h, rfl⟩
      · have h := ite_t h c5
        refine V_sipush X (v := -1003) (by decide) dX7_runRounds_29 (n := 32) rfl ?_
        exact V_iret X hr hlk dX7_runRounds_32 ⟨h, rfl⟩
    · have h := ite_f h c3
      exact kj1  h
abbrev rmX7_scheduledStream : Room := { frames := 0, cells := 0, slots := 0, locals := 0 }
theorem wX7_scheduledStream_40 : Cond.fieldLink RX7 40 "FloodBus" "schedule" "LFloodBus$Schedule;" ∈ wsX7_scheduledStream := by decide +kernel
theorem wX7_scheduledStream_89 : Cond.fieldLink RX7 89 "FloodBus$Schedule" "size" "I" ∈ wsX7_scheduledStream := by decide +kernel
theorem wX7_scheduledStream_154 : Cond.fieldLink RX7 154 "FloodBus$Schedule" "entries" "[I" ∈ wsX7_scheduledStream := by decide +kernel
theorem inX7_scheduledStream_X7 : ∀ w ∈ wsX70, w ∈ wsX7_scheduledStream := by decide +kernel
theorem inX7_scheduledStream_X4 : ∀ w ∈ wsX40, w ∈ wsX7_scheduledStream := by decide +kernel
set_option maxRecDepth 100000 in
set_option maxHeartbeats 4000000 in
theorem TX7_scheduledStream (l : Launch) (D : va_G) (G : Gc) (ρ : Nat → Nat) (C : Xm) (N : Nm)  (a1 : Int32) (K : Int32 → Prop) (h : fX7_scheduledStream C a1 K) : Ki l yX7_scheduledStream wsX7_scheduledStream rmX7_scheduledStream D G ρ [.ref (ρ 0), .int a1] C N (fun r C1 N1 => K r ∧ C1 = C ∧ N1 = N) := by
  refine Ki.ofV (cc := cX7_scheduledStream) (maxL := 2) (ret := (some .int)) (by decide +kernel) rfl (Nat.le_of_ble_eq_true rfl) ?_
  intro p e s m args below meth c X hr hlk
  show V p l e rmX7_scheduledStream s m args below meth c D G ρ (WA ρ s.heap.size) s.heap 2 0 0 (Qi D G ρ s args below (fun r C1 N1 => K r ∧ C1 = C ∧ N1 = N)) 0 [(0, .ref (ρ 0)), (1, .int a1)] [] C N
  unfold fX7_scheduledStream at h
  refine V_iload_n X (q := 1) rfl rfl dX7_scheduledStream_0 (n := 1) rfl ?_
  refine jn_o h (fun j2 ej2 h => ?_)
  have kj2 : ∀ (x6 : Int32), j2 x6 → V p l e rmX7_scheduledStream s m args below meth c D G ρ (WA ρ s.heap.size) s.heap 2 0 0 (Qi D G ρ s args below (fun r C1 N1 => K r ∧ C1 = C ∧ N1 = N)) 28 [(0, .ref (ρ 0)), (1, .int a1)] [.int x6] C N := by
    intro x6 h
    rw [ej2] at h
    try dsimp only at h
    exact V_iret X hr hlk dX7_scheduledStream_28 ⟨h, rfl, rfl⟩
  refine jn_o h (fun j1 ej1 h => ?_)
  have kj1 : j1 → V p l e rmX7_scheduledStream s m args below meth c D G ρ (WA ρ s.heap.size) s.heap 2 0 0 (Qi D G ρ s args below (fun r C1 N1 => K r ∧ C1 = C ∧ N1 = N)) 27 [(0, .ref (ρ 0)), (1, .int a1)] [] C N := by
    intro  h
    rw [ej1] at h
    refine V_iconst X (v := -1) (by decide) dX7_scheduledStream_27 (n := 28) rfl ?_
    exact kj2 (-1 : Int32) h
  refine V_if_lt X dX7_scheduledStream_1 (tgt := 27) (n := 4) (by decide) rfl (fun c3 => ?_) (fun c3 => ?_)
  · have h := ite_t h c3
    exact kj1  h
  · have h := ite_f h c3
    refine V_iload_n X (q := 1) rfl rfl dX7_scheduledStream_4 (n := 5) rfl ?_
    refine V_aload_n X (q := 0) rfl rfl dX7_scheduledStream_5 (n := 6) rfl ?_
    refine V_getR X (by decide) rfl rfl (k := 4) inX7_scheduledStream_X7 rfl (by decide) wX7_scheduledStream_40 dX7_scheduledStream_6 (n := 9) rfl ?_
    refine V_getX X (by decide) rfl rfl (k := 1) inX7_scheduledStream_X4 rfl (by decide) wX7_scheduledStream_89 dX7_scheduledStream_9 (n := 12) rfl ?_
    refine V_icmp_ge X dX7_scheduledStream_12 (tgt := 27) (n := 15) (by decide) rfl (fun c4 => ?_) (fun c4 => ?_)
    · have h := ite_t h c4
      exact kj1  h
    · have h := ite_f h c4
      refine V_aload_n X (q := 0) rfl rfl dX7_scheduledStream_15 (n := 16) rfl ?_
      refine V_getR X (by decide) rfl rfl (k := 4) inX7_scheduledStream_X7 rfl (by decide) wX7_scheduledStream_40 dX7_scheduledStream_16 (n := 19) rfl ?_
      refine V_getR X (by decide) rfl rfl (k := 0) inX7_scheduledStream_X4 rfl (by decide) wX7_scheduledStream_154 dX7_scheduledStream_19 (n := 22) rfl ?_
      refine V_iload_n X (q := 1) rfl rfl dX7_scheduledStream_22 (n := 23) rfl ?_
      obtain ⟨g5, h⟩ := h
      refine V_ildX X (by decide) rfl g5 dX7_scheduledStream_23 (n := 24) rfl ?_
      refine V_goto X dX7_scheduledStream_24 (tgt := 28) (by decide) ?_
      exact kj2 (C 65 (Int32.toNatClampNeg a1)) h
abbrev rmX4_hasRepeatedSource : Room := { frames := 0, cells := 0, slots := 0, locals := 0 }
theorem wX4_hasRepeatedSource_15 : Cond.fieldLink RX4 15 "FloodBus$Schedule" "size" "I" ∈ wsX4_hasRepeatedSource := by decide +kernel
theorem wX4_hasRepeatedSource_24 : Cond.fieldLink RX4 24 "FloodBus$StreamTable" "rows" "[LFloodBus$Stream;" ∈ wsX4_hasRepeatedSource := by decide +kernel
theorem wX4_hasRepeatedSource_9 : Cond.fieldLink RX4 9 "FloodBus$Schedule" "entries" "[I" ∈ wsX4_hasRepeatedSource := by decide +kernel
theorem wX4_hasRepeatedSource_51 : Cond.fieldLink RX4 51 "FloodBus$Stream" "source" "I" ∈ wsX4_hasRepeatedSource := by decide +kernel
theorem inX4_hasRepeatedSource_X4 : ∀ w ∈ wsX40, w ∈ wsX4_hasRepeatedSource := by decide +kernel
theorem inX4_hasRepeatedSource_X6 : ∀ w ∈ wsX60, w ∈ wsX4_hasRepeatedSource := by decide +kernel
theorem inX4_hasRepeatedSource_X5 : ∀ w ∈ wsX50, w ∈ wsX4_hasRepeatedSource := by decide +kernel
set_option maxRecDepth 100000 in
set_option maxHeartbeats 4000000 in
theorem TX4_hasRepeatedSource_L4 {p : Program} {l : Launch} {e : Env} {s : State} {m : MethodId} {args : Array Value} {below : List Frame} {meth : Method} {c : Code} {D : va_G} {G : Gc} {ρ : Nat → Nat} (X : Cx p s m args c cX4_hasRepeatedSource 5 RX4 wsX4_hasRepeatedSource D G ρ (WA ρ s.heap.size) s.heap) (hr : meth.sig.returnType = some .boolean) (hlk : meth.locks = false) (N : Nm) (C : Xm)  {E : Int32 → Int32 → Prop} {K : Int32 → Prop} (hE : ∀ (v2 : Int32) (v3 : Int32), E v2 v3 → V p l e rmX4_hasRepeatedSource s m args below meth c D G ρ (WA ρ s.heap.size) s.heap 5 0 0 (Qi D G ρ s args below (fun r C1 N1 => K r ∧ C1 = C ∧ N1 = N)) 50 [(0, .ref (ρ 64)), (1, .ref (ρ 50)), (2, .int v2), (3, .int v3)] [] C N) : ∀ (n : Nat) (v2 : Int32) (v3 : Int32), fX4_hasRepeatedSource_L4 C E K n v2 v3 → V p l e rmX4_hasRepeatedSource s m args below meth c D G ρ (WA ρ s.heap.size) s.heap 5 0 0 (Qi D G ρ s args below (fun r C1 N1 => K r ∧ C1 = C ∧ N1 = N)) 4 [(0, .ref (ρ 64)), (1, .ref (ρ 50)), (2, .int v2), (3, .int v3)] [] C N := by
  intro n
  induction n with
  | zero => intro v2 v3 h; exact h.elim
  | succ n ih =>
    intro v2 v3 h
    unfold fX4_hasRepeatedSource_L4 at h
    refine V_iload_n X (q := 3) rfl rfl dX4_hasRepeatedSource_4 (n := 5) rfl ?_
    refine V_aload_n X (q := 0) rfl rfl dX4_hasRepeatedSource_5 (n := 6) rfl ?_
    refine V_getX X (by decide) rfl rfl (k := 1) inX4_hasRepeatedSource_X4 rfl (by decide) wX4_hasRepeatedSource_15 dX4_hasRepeatedSource_6 (n := 9) rfl ?_
    refine V_icmp_ge X dX4_hasRepeatedSource_9 (tgt := 50) (n := 12) (by decide) rfl (fun c1 => ?_) (fun c1 => ?_)
    · have h := ite_t h c1
      exact hE v2 v3 h
    · have h := ite_f h c1
      refine V_iconst X (v := 1) (by decide) dX4_hasRepeatedSource_12 (n := 13) rfl ?_
      refine V_aload_n X (q := 1) rfl rfl dX4_hasRepeatedSource_13 (n := 14) rfl ?_
      refine V_getR X (by decide) rfl rfl (k := 0) inX4_hasRepeatedSource_X6 rfl (by decide) wX4_hasRepeatedSource_24 dX4_hasRepeatedSource_14 (n := 17) rfl ?_
      refine V_aload_n X (q := 0) rfl rfl dX4_hasRepeatedSource_17 (n := 18) rfl ?_
      refine V_getR X (by decide) rfl rfl (k := 0) inX4_hasRepeatedSource_X4 rfl (by decide) wX4_hasRepeatedSource_9 dX4_hasRepeatedSource_18 (n := 21) rfl ?_
      refine V_iload_n X (q := 3) rfl rfl dX4_hasRepeatedSource_21 (n := 22) rfl ?_
      obtain ⟨g2, h⟩ := h
      refine V_ildX X (by decide) rfl g2 dX4_hasRepeatedSource_22 (n := 23) rfl ?_
      obtain ⟨g3, h⟩ := h
      obtain ⟨g4, h⟩ := h
      refine V_aaS X (by decide) rfl g3 dX4_hasRepeatedSource_23 (n := 24) rfl ?_
      refine V_getX X (by omega) (shp_S _ g4) rfl (k := 1) inX4_hasRepeatedSource_X5 rfl (by decide) wX4_hasRepeatedSource_51 dX4_hasRepeatedSource_24 (n := 27) rfl ?_
      refine V_ishl X dX4_hasRepeatedSource_27 (n := 28) rfl ?_
      refine V_topi (fun x5 ex5 => ?_)
      have h := bd_at h ex5
      refine V_istore X (L2 := [(4, .int x5), (0, .ref (ρ 64)), (1, .ref (ρ 50)), (2, .int v2), (3, .int v3)]) (by decide) rfl dX4_hasRepeatedSource_28 (n := 30) rfl ?_
      refine V_iload_n X (q := 3) rfl rfl dX4_hasRepeatedSource_30 (n := 31) rfl ?_
      refine V_iload X (q := 0) rfl dX4_hasRepeatedSource_31 (n := 33) rfl ?_
      refine V_iand X dX4_hasRepeatedSource_33 (n := 34) rfl ?_
      refine V_if_eq X dX4_hasRepeatedSource_34 (tgt := 39) (n := 37) (by decide) rfl (fun c6 => ?_) (fun c6 => ?_)
      · have h := ite_t h c6
        refine V_iload_n X (q := 3) rfl rfl dX4_hasRepeatedSource_39 (n := 40) rfl ?_
        refine V_iload X (q := 0) rfl dX4_hasRepeatedSource_40 (n := 42) rfl ?_
        refine V_ior X dX4_hasRepeatedSource_42 (n := 43) rfl ?_
        refine V_topi (fun x7 ex7 => ?_)
        have h := bd_at h ex7
        refine V_istore_n X (L2 := [(2, .int x7), (4, .int x5), (0, .ref (ρ 64)), (1, .ref (ρ 50)), (3, .int v3)]) rfl (by decide) rfl dX4_hasRepeatedSource_43 (n := 44) rfl ?_
        obtain ⟨x8, ex8⟩ : ∃ z : Int32, z = v3 + (1 : Int32) := ⟨_, rfl⟩
        have h := bd_at h ex8
        refine V_iinc X (q := 4) (d := 1) (L2 := [(3, .int x8), (2, .int x7), (4, .int x5), (0, .ref (ρ 64)), (1, .ref (ρ 50))]) rfl (by decide) (by decide) ex8 rfl dX4_hasRepeatedSource_44 (n := 47) rfl ?_
        refine V_goto X dX4_hasRepeatedSource_47 (tgt := 4) (by decide) ?_
        refine V_loc [3, 4, 1, 0] rfl ?_
        exact ih x7 x8 h
      · have h := ite_f h c6
        refine V_iconst X (v := 1) (by decide) dX4_hasRepeatedSource_37 (n := 38) rfl ?_
        exact V_zret X hr hlk (by decide) dX4_hasRepeatedSource_38 ⟨h, rfl, rfl⟩
set_option maxRecDepth 100000 in
set_option maxHeartbeats 4000000 in
theorem TX4_hasRepeatedSource (l : Launch) (D : va_G) (G : Gc) (ρ : Nat → Nat) (C : Xm) (N : Nm)   (K : Int32 → Prop) (h : fX4_hasRepeatedSource C K) : Ki l yX4_hasRepeatedSource wsX4_hasRepeatedSource rmX4_hasRepeatedSource D G ρ [.ref (ρ 64), .ref (ρ 50)] C N (fun r C1 N1 => K r ∧ C1 = C ∧ N1 = N) := by
  refine Ki.ofV (cc := cX4_hasRepeatedSource) (maxL := 5) (ret := (some .boolean)) (by decide +kernel) rfl (Nat.le_of_ble_eq_true rfl) ?_
  intro p e s m args below meth c X hr hlk
  show V p l e rmX4_hasRepeatedSource s m args below meth c D G ρ (WA ρ s.heap.size) s.heap 5 0 0 (Qi D G ρ s args below (fun r C1 N1 => K r ∧ C1 = C ∧ N1 = N)) 0 [(0, .ref (ρ 64)), (1, .ref (ρ 50))] [] C N
  unfold fX4_hasRepeatedSource at h
  refine V_iconst X (v := 0) (by decide) dX4_hasRepeatedSource_0 (n := 1) rfl ?_
  refine V_istore_n X (L2 := [(2, .int (0 : Int32)), (0, .ref (ρ 64)), (1, .ref (ρ 50))]) rfl (by decide) rfl dX4_hasRepeatedSource_1 (n := 2) rfl ?_
  refine V_iconst X (v := 0) (by decide) dX4_hasRepeatedSource_2 (n := 3) rfl ?_
  refine V_istore_n X (L2 := [(3, .int (0 : Int32)), (2, .int (0 : Int32)), (0, .ref (ρ 64)), (1, .ref (ρ 50))]) rfl (by decide) rfl dX4_hasRepeatedSource_3 (n := 4) rfl ?_
  refine jn_o h (fun j9 ej9 h => ?_)
  have kj9 : ∀ (x10 : Int32) (x11 : Int32), j9 x10 x11 → V p l e rmX4_hasRepeatedSource s m args below meth c D G ρ (WA ρ s.heap.size) s.heap 5 0 0 (Qi D G ρ s args below (fun r C1 N1 => K r ∧ C1 = C ∧ N1 = N)) 50 [(0, .ref (ρ 64)), (1, .ref (ρ 50)), (2, .int x10), (3, .int x11)] [] C N := by
    intro x10 x11 h
    rw [ej9] at h
    try dsimp only at h
    refine V_iconst X (v := 0) (by decide) dX4_hasRepeatedSource_50 (n := 51) rfl ?_
    exact V_zret X hr hlk (by decide) dX4_hasRepeatedSource_51 ⟨h, rfl, rfl⟩
  refine V_loc [2, 3, 1, 0] rfl ?_
  exact TX4_hasRepeatedSource_L4 X hr hlk N C (E := j9) (K := K) kj9 200 (0 : Int32) (0 : Int32) h
abbrev rmX4_encodedSize : Room := { frames := 1, cells := 0, slots := 0, locals := 24 }
theorem wX4_encodedSize_15 : Cond.fieldLink RX4 15 "FloodBus$Schedule" "size" "I" ∈ wsX4_encodedSize := by decide +kernel
theorem wX4_encodedSize_371 : Cond.methodLink RX4 37 Lib.Math.min.name ∈ wsX4_encodedSize := by decide +kernel
theorem wX4_encodedSize_372 : Cond.static Lib.Math.min.name ∈ wsX4_encodedSize := by decide +kernel
theorem wX4_encodedSize_373 : Cond.initialized "java/lang/Math" ∈ wsX4_encodedSize := by decide +kernel
theorem wX4_encodedSize_374 : Cond.code Lib.Math.min.name Lib.Math.min.code 2 (some .int) ∈ wsX4_encodedSize := by decide +kernel
theorem inX4_encodedSize_X4 : ∀ w ∈ wsX40, w ∈ wsX4_encodedSize := by decide +kernel
set_option maxRecDepth 100000 in
set_option maxHeartbeats 4000000 in
theorem TX4_encodedSize (l : Launch) (D : va_G) (G : Gc) (ρ : Nat → Nat) (C : Xm) (N : Nm)   (K : Int32 → Prop) (h : fX4_encodedSize C K) : Ki l yX4_encodedSize wsX4_encodedSize rmX4_encodedSize D G ρ [.ref (ρ 64), .ref (ρ 50)] C N (fun r C1 N1 => K r ∧ C1 = C ∧ N1 = N) := by
  refine Ki.ofV (cc := cX4_encodedSize) (maxL := 3) (ret := (some .int)) (by decide +kernel) rfl (Nat.le_of_ble_eq_true rfl) ?_
  intro p e s m args below meth c X hr hlk
  show V p l e rmX4_encodedSize s m args below meth c D G ρ (WA ρ s.heap.size) s.heap 3 0 0 (Qi D G ρ s args below (fun r C1 N1 => K r ∧ C1 = C ∧ N1 = N)) 0 [(0, .ref (ρ 64)), (1, .ref (ρ 50))] [] C N
  unfold fX4_encodedSize at h
  refine V_iconst X (v := 3) (by decide) dX4_encodedSize_0 (n := 1) rfl ?_
  refine V_aload_n X (q := 0) rfl rfl dX4_encodedSize_1 (n := 2) rfl ?_
  refine V_getX X (by decide) rfl rfl (k := 1) inX4_encodedSize_X4 rfl (by decide) wX4_encodedSize_15 dX4_encodedSize_2 (n := 5) rfl ?_
  refine V_imul X dX4_encodedSize_5 (n := 6) rfl ?_
  refine V_topi (fun x1 ex1 => ?_)
  have h := bd_at h ex1
  refine V_istore_n X (L2 := [(2, .int x1), (0, .ref (ρ 64)), (1, .ref (ρ 50))]) rfl (by decide) rfl dX4_encodedSize_6 (n := 7) rfl ?_
  refine V_bipush X (v := 8) (by decide) dX4_encodedSize_7 (n := 9) rfl ?_
  refine V_aload_n X (q := 1) rfl rfl dX4_encodedSize_9 (n := 10) rfl ?_
  refine V_aload_n X (q := 2) rfl rfl dX4_encodedSize_10 (n := 11) rfl ?_
  refine V_calli X (As := [.ref (ρ 50)]) (rest := [.int (8 : Int32)]) (nA := 1) (i := 64) (q := (RX4, TX4, 2)) (TX4_hasRepeatedSource l D G ρ C N  _ h) gX4_encodedSize_X4_hasRepeatedSource rfl rfl rfl (by decide +kernel) rfl ⟨by decide, by decide⟩ (Nat.le_of_ble_eq_true rfl) ⟨by decide, by decide⟩ (by decide) rfl rfl rfl dX4_encodedSize_11 (n := 14) rfl (fun r2 M1 M0 h => ?_)
  obtain ⟨h, eo, eo2⟩ := h
  rw [eo, eo2]
  refine jn_o h (fun j3 ej3 h => ?_)
  have kj3 : ∀ (x5 : Int32), j3 x5 → V p l e rmX4_encodedSize s m args below meth c D G ρ (WA ρ s.heap.size) s.heap 3 0 0 (Qi D G ρ s args below (fun r C1 N1 => K r ∧ C1 = C ∧ N1 = N)) 27 [(0, .ref (ρ 64)), (1, .ref (ρ 50)), (2, .int x1)] [.int x5, .int (8 : Int32)] C N := by
    intro x5 h
    rw [ej3] at h
    try dsimp only at h
    refine V_iadd X dX4_encodedSize_27 (n := 28) rfl ?_
    exact V_iret X hr hlk dX4_encodedSize_28 ⟨h, rfl, rfl⟩
  refine V_if_eq X dX4_encodedSize_14 (tgt := 21) (n := 17) (by decide) rfl (fun c4 => ?_) (fun c4 => ?_)
  · have h := ite_t h c4
    refine V_iload_n X (q := 0) rfl rfl dX4_encodedSize_21 (n := 22) rfl ?_
    refine V_bipush X (v := 8) (by decide) dX4_encodedSize_22 (n := 24) rfl ?_
    refine V_mmin X wX4_encodedSize_371 wX4_encodedSize_372 wX4_encodedSize_373 wX4_encodedSize_374 (by decide) (Nat.le_of_ble_eq_true rfl) ⟨by decide, by decide⟩ dX4_encodedSize_24 (n := 27) rfl ?_
    refine V_loc [1, 2, 0] rfl ?_
    exact kj3 (if (8 : Int32) < x1 then (8 : Int32) else x1) h
  · have h := ite_f h c4
    refine V_iload_n X (q := 0) rfl rfl dX4_encodedSize_17 (n := 18) rfl ?_
    refine V_goto X dX4_encodedSize_18 (tgt := 27) (by decide) ?_
    refine V_loc [1, 2, 0] rfl ?_
    exact kj3 x1 h
abbrev rmX7_scheduleBits : Room := { frames := 2, cells := 0, slots := 0, locals := 46 }
theorem wX7_scheduleBits_40 : Cond.fieldLink RX7 40 "FloodBus" "schedule" "LFloodBus$Schedule;" ∈ wsX7_scheduleBits := by decide +kernel
theorem wX7_scheduleBits_33 : Cond.fieldLink RX7 33 "FloodBus" "streams" "LFloodBus$StreamTable;" ∈ wsX7_scheduleBits := by decide +kernel
theorem inX7_scheduleBits_X7 : ∀ w ∈ wsX70, w ∈ wsX7_scheduleBits := by decide +kernel
set_option maxRecDepth 100000 in
set_option maxHeartbeats 4000000 in
theorem TX7_scheduleBits (l : Launch) (D : va_G) (G : Gc) (ρ : Nat → Nat) (C : Xm) (N : Nm)   (K : Int32 → Prop) (h : fX7_scheduleBits C K) : Ki l yX7_scheduleBits wsX7_scheduleBits rmX7_scheduleBits D G ρ [.ref (ρ 0)] C N (fun r C1 N1 => K r ∧ C1 = C ∧ N1 = N) := by
  refine Ki.ofV (cc := cX7_scheduleBits) (maxL := 1) (ret := (some .int)) (by decide +kernel) rfl (Nat.le_of_ble_eq_true rfl) ?_
  intro p e s m args below meth c X hr hlk
  show V p l e rmX7_scheduleBits s m args below meth c D G ρ (WA ρ s.heap.size) s.heap 1 0 0 (Qi D G ρ s args below (fun r C1 N1 => K r ∧ C1 = C ∧ N1 = N)) 0 [(0, .ref (ρ 0))] [] C N
  unfold fX7_scheduleBits at h
  refine V_aload_n X (q := 0) rfl rfl dX7_scheduleBits_0 (n := 1) rfl ?_
  refine V_getR X (by decide) rfl rfl (k := 4) inX7_scheduleBits_X7 rfl (by decide) wX7_scheduleBits_40 dX7_scheduleBits_1 (n := 4) rfl ?_
  refine V_aload_n X (q := 0) rfl rfl dX7_scheduleBits_4 (n := 5) rfl ?_
  refine V_getR X (by decide) rfl rfl (k := 3) inX7_scheduleBits_X7 rfl (by decide) wX7_scheduleBits_33 dX7_scheduleBits_5 (n := 8) rfl ?_
  refine V_calli X (As := [.ref (ρ 50)]) (rest := []) (nA := 1) (i := 64) (q := (RX4, TX4, 2)) (TX4_encodedSize l D G ρ C N  _ h) gX7_scheduleBits_X4_encodedSize rfl rfl rfl (by decide +kernel) rfl ⟨by decide, by decide⟩ (Nat.le_of_ble_eq_true rfl) ⟨by decide, by decide⟩ (by decide) rfl rfl rfl dX7_scheduleBits_8 (n := 11) rfl (fun r1 M1 M0 h => ?_)
  obtain ⟨h, eo, eo2⟩ := h
  rw [eo, eo2]
  exact V_iret X hr hlk dX7_scheduleBits_11 ⟨h, rfl, rfl⟩
abbrev rmX7_host : Room := { frames := 0, cells := 0, slots := 0, locals := 0 }
theorem wX7_host_51 : Cond.fieldLink RX7 51 "FloodBus" "hostNode" "I" ∈ wsX7_host := by decide +kernel
theorem inX7_host_X7 : ∀ w ∈ wsX70, w ∈ wsX7_host := by decide +kernel
set_option maxRecDepth 100000 in
set_option maxHeartbeats 4000000 in
theorem TX7_host (l : Launch) (D : va_G) (G : Gc) (ρ : Nat → Nat) (C : Xm) (N : Nm)   (K : Int32 → Prop) (h : fX7_host C K) : Ki l yX7_host wsX7_host rmX7_host D G ρ [.ref (ρ 0)] C N (fun r C1 N1 => K r ∧ C1 = C ∧ N1 = N) := by
  refine Ki.ofV (cc := cX7_host) (maxL := 1) (ret := (some .int)) (by decide +kernel) rfl (Nat.le_of_ble_eq_true rfl) ?_
  intro p e s m args below meth c X hr hlk
  show V p l e rmX7_host s m args below meth c D G ρ (WA ρ s.heap.size) s.heap 1 0 0 (Qi D G ρ s args below (fun r C1 N1 => K r ∧ C1 = C ∧ N1 = N)) 0 [(0, .ref (ρ 0))] [] C N
  unfold fX7_host at h
  refine V_aload_n X (q := 0) rfl rfl dX7_host_0 (n := 1) rfl ?_
  refine V_getX X (by decide) rfl rfl (k := 7) inX7_host_X7 rfl (by decide) wX7_host_51 dX7_host_1 (n := 4) rfl ?_
  exact V_iret X hr hlk dX7_host_4 ⟨h, rfl, rfl⟩
abbrev rmX7_missedSchedules : Room := { frames := 1, cells := 0, slots := 0, locals := 21 }
theorem wX7_missedSchedules_19 : Cond.fieldLink RX7 19 "FloodBus" "network" "LFloodBus$Network;" ∈ wsX7_missedSchedules := by decide +kernel
theorem wX7_missedSchedules_107 : Cond.fieldLink RX7 107 "FloodBus$Network" "missed" "[I" ∈ wsX7_missedSchedules := by decide +kernel
theorem inX7_missedSchedules_X7 : ∀ w ∈ wsX70, w ∈ wsX7_missedSchedules := by decide +kernel
theorem inX7_missedSchedules_X3 : ∀ w ∈ wsX30, w ∈ wsX7_missedSchedules := by decide +kernel
set_option maxRecDepth 100000 in
set_option maxHeartbeats 4000000 in
theorem TX7_missedSchedules (l : Launch) (D : va_G) (G : Gc) (ρ : Nat → Nat) (C : Xm) (N : Nm)  (a1 : Int32) (K : Int32 → Prop) (h : fX7_missedSchedules C a1 K) : Ki l yX7_missedSchedules wsX7_missedSchedules rmX7_missedSchedules D G ρ [.ref (ρ 0), .int a1] C N (fun r C1 N1 => K r ∧ C1 = C ∧ N1 = N) := by
  refine Ki.ofV (cc := cX7_missedSchedules) (maxL := 2) (ret := (some .int)) (by decide +kernel) rfl (Nat.le_of_ble_eq_true rfl) ?_
  intro p e s m args below meth c X hr hlk
  show V p l e rmX7_missedSchedules s m args below meth c D G ρ (WA ρ s.heap.size) s.heap 2 0 0 (Qi D G ρ s args below (fun r C1 N1 => K r ∧ C1 = C ∧ N1 = N)) 0 [(0, .ref (ρ 0)), (1, .int a1)] [] C N
  unfold fX7_missedSchedules at h
  refine V_aload_n X (q := 0) rfl rfl dX7_missedSchedules_0 (n := 1) rfl ?_
  refine V_getR X (by decide) rfl rfl (k := 1) inX7_missedSchedules_X7 rfl (by decide) wX7_missedSchedules_19 dX7_missedSchedules_1 (n := 4) rfl ?_
  refine V_iload_n X (q := 1) rfl rfl dX7_missedSchedules_4 (n := 5) rfl ?_
  refine V_calli X (As := [.int a1]) (rest := []) (nA := 1) (i := 22) (q := (RX3, TX3, 6)) (TX3_has l D G ρ C N a1 _ h) gX7_missedSchedules_X3_has rfl rfl rfl (by decide +kernel) rfl ⟨by decide, by decide⟩ (Nat.le_of_ble_eq_true rfl) ⟨by decide, by decide⟩ (by decide) rfl rfl rfl dX7_missedSchedules_5 (n := 8) rfl (fun r1 M1 M0 h => ?_)
  obtain ⟨h, eo, eo2⟩ := h
  rw [eo, eo2]
  refine jn_o h (fun j2 ej2 h => ?_)
  have kj2 : ∀ (x5 : Int32), j2 x5 → V p l e rmX7_missedSchedules s m args below meth c D G ρ (WA ρ s.heap.size) s.heap 2 0 0 (Qi D G ρ s args below (fun r C1 N1 => K r ∧ C1 = C ∧ N1 = N)) 26 [(0, .ref (ρ 0)), (1, .int a1)] [.int x5] C N := by
    intro x5 h
    rw [ej2] at h
    try dsimp only at h
    exact V_iret X hr hlk dX7_missedSchedules_26 ⟨h, rfl, rfl⟩
  refine V_if_eq X dX7_missedSchedules_8 (tgt := 23) (n := 11) (by decide) rfl (fun c3 => ?_) (fun c3 => ?_)
  · have h := ite_t h c3
    refine V_sipush X (v := -1001) (by decide) dX7_missedSchedules_23 (n := 26) rfl ?_
    exact kj2 (-1001 : Int32) h
  · have h := ite_f h c3
    refine V_aload_n X (q := 0) rfl rfl dX7_missedSchedules_11 (n := 12) rfl ?_
    refine V_getR X (by decide) rfl rfl (k := 1) inX7_missedSchedules_X7 rfl (by decide) wX7_missedSchedules_19 dX7_missedSchedules_12 (n := 15) rfl ?_
    refine V_getR X (by decide) rfl rfl (k := 3) inX7_missedSchedules_X3 rfl (by decide) wX7_missedSchedules_107 dX7_missedSchedules_15 (n := 18) rfl ?_
    refine V_iload_n X (q := 1) rfl rfl dX7_missedSchedules_18 (n := 19) rfl ?_
    obtain ⟨g4, h⟩ := h
    refine V_ildX X (by decide) rfl g4 dX7_missedSchedules_19 (n := 20) rfl ?_
    refine V_goto X dX7_missedSchedules_20 (tgt := 26) (by decide) ?_
    exact kj2 (C 43 (Int32.toNatClampNeg a1)) h
abbrev rmX7_transmissions : Room := { frames := 1, cells := 0, slots := 0, locals := 21 }
theorem wX7_transmissions_19 : Cond.fieldLink RX7 19 "FloodBus" "network" "LFloodBus$Network;" ∈ wsX7_transmissions := by decide +kernel
theorem wX7_transmissions_161 : Cond.fieldLink RX7 161 "FloodBus$Network" "sent" "[I" ∈ wsX7_transmissions := by decide +kernel
theorem inX7_transmissions_X7 : ∀ w ∈ wsX70, w ∈ wsX7_transmissions := by decide +kernel
theorem inX7_transmissions_X3 : ∀ w ∈ wsX30, w ∈ wsX7_transmissions := by decide +kernel
set_option maxRecDepth 100000 in
set_option maxHeartbeats 4000000 in
theorem TX7_transmissions (l : Launch) (D : va_G) (G : Gc) (ρ : Nat → Nat) (C : Xm) (N : Nm)  (a1 : Int32) (K : Int32 → Prop) (h : fX7_transmissions C a1 K) : Ki l yX7_transmissions wsX7_transmissions rmX7_transmissions D G ρ [.ref (ρ 0), .int a1] C N (fun r C1 N1 => K r ∧ C1 = C ∧ N1 = N) := by
  refine Ki.ofV (cc := cX7_transmissions) (maxL := 2) (ret := (some .int)) (by decide +kernel) rfl (Nat.le_of_ble_eq_true rfl) ?_
  intro p e s m args below meth c X hr hlk
  show V p l e rmX7_transmissions s m args below meth c D G ρ (WA ρ s.heap.size) s.heap 2 0 0 (Qi D G ρ s args below (fun r C1 N1 => K r ∧ C1 = C ∧ N1 = N)) 0 [(0, .ref (ρ 0)), (1, .int a1)] [] C N
  unfold fX7_transmissions at h
  refine V_aload_n X (q := 0) rfl rfl dX7_transmissions_0 (n := 1) rfl ?_
  refine V_getR X (by decide) rfl rfl (k := 1) inX7_transmissions_X7 rfl (by decide) wX7_transmissions_19 dX7_transmissions_1 (n := 4) rfl ?_
  refine V_iload_n X (q := 1) rfl rfl dX7_transmissions_4 (n := 5) rfl ?_
  refine V_calli X (As := [.int a1]) (rest := []) (nA := 1) (i := 22) (q := (RX3, TX3, 6)) (TX3_has l D G ρ C N a1 _ h) gX7_transmissions_X3_has rfl rfl rfl (by decide +kernel) rfl ⟨by decide, by decide⟩ (Nat.le_of_ble_eq_true rfl) ⟨by decide, by decide⟩ (by decide) rfl rfl rfl dX7_transmissions_5 (n := 8) rfl (fun r1 M1 M0 h => ?_)
  obtain ⟨h, eo, eo2⟩ := h
  rw [eo, eo2]
  refine jn_o h (fun j2 ej2 h => ?_)
  have kj2 : ∀ (x5 : Int32), j2 x5 → V p l e rmX7_transmissions s m args below meth c D G ρ (WA ρ s.heap.size) s.heap 2 0 0 (Qi D G ρ s args below (fun r C1 N1 => K r ∧ C1 = C ∧ N1 = N)) 26 [(0, .ref (ρ 0)), (1, .int a1)] [.int x5] C N := by
    intro x5 h
    rw [ej2] at h
    try dsimp only at h
    exact V_iret X hr hlk dX7_transmissions_26 ⟨h, rfl, rfl⟩
  refine V_if_eq X dX7_transmissions_8 (tgt := 23) (n := 11) (by decide) rfl (fun c3 => ?_) (fun c3 => ?_)
  · have h := ite_t h c3
    refine V_sipush X (v := -1001) (by decide) dX7_transmissions_23 (n := 26) rfl ?_
    exact kj2 (-1001 : Int32) h
  · have h := ite_f h c3
    refine V_aload_n X (q := 0) rfl rfl dX7_transmissions_11 (n := 12) rfl ?_
    refine V_getR X (by decide) rfl rfl (k := 1) inX7_transmissions_X7 rfl (by decide) wX7_transmissions_19 dX7_transmissions_12 (n := 15) rfl ?_
    refine V_getR X (by decide) rfl rfl (k := 4) inX7_transmissions_X3 rfl (by decide) wX7_transmissions_161 dX7_transmissions_15 (n := 18) rfl ?_
    refine V_iload_n X (q := 1) rfl rfl dX7_transmissions_18 (n := 19) rfl ?_
    obtain ⟨g4, h⟩ := h
    refine V_ildX X (by decide) rfl g4 dX7_transmissions_19 (n := 20) rfl ?_
    refine V_goto X dX7_transmissions_20 (tgt := 26) (by decide) ?_
    exact kj2 (C 44 (Int32.toNatClampNeg a1)) h
abbrev rmX7_roundNumber : Room := { frames := 0, cells := 0, slots := 0, locals := 0 }
theorem wX7_roundNumber_54 : Cond.fieldLink RX7 54 "FloodBus" "nextRound" "I" ∈ wsX7_roundNumber := by decide +kernel
theorem inX7_roundNumber_X7 : ∀ w ∈ wsX70, w ∈ wsX7_roundNumber := by decide +kernel
set_option maxRecDepth 100000 in
set_option maxHeartbeats 4000000 in
theorem TX7_roundNumber (l : Launch) (D : va_G) (G : Gc) (ρ : Nat → Nat) (C : Xm) (N : Nm)   (K : Int32 → Prop) (h : fX7_roundNumber C K) : Ki l yX7_roundNumber wsX7_roundNumber rmX7_roundNumber D G ρ [.ref (ρ 0)] C N (fun r C1 N1 => K r ∧ C1 = C ∧ N1 = N) := by
  refine Ki.ofV (cc := cX7_roundNumber) (maxL := 1) (ret := (some .int)) (by decide +kernel) rfl (Nat.le_of_ble_eq_true rfl) ?_
  intro p e s m args below meth c X hr hlk
  show V p l e rmX7_roundNumber s m args below meth c D G ρ (WA ρ s.heap.size) s.heap 1 0 0 (Qi D G ρ s args below (fun r C1 N1 => K r ∧ C1 = C ∧ N1 = N)) 0 [(0, .ref (ρ 0))] [] C N
  unfold fX7_roundNumber at h
  refine V_aload_n X (q := 0) rfl rfl dX7_roundNumber_0 (n := 1) rfl ?_
  refine V_getX X (by decide) rfl rfl (k := 8) inX7_roundNumber_X7 rfl (by decide) wX7_roundNumber_54 dX7_roundNumber_1 (n := 4) rfl ?_
  exact V_iret X hr hlk dX7_roundNumber_4 ⟨h, rfl, rfl⟩
abbrev rmX7_digestNodes : Room := { frames := 0, cells := 0, slots := 0, locals := 0 }
theorem wX7_digestNodes_19 : Cond.fieldLink RX7 19 "FloodBus" "network" "LFloodBus$Network;" ∈ wsX7_digestNodes := by decide +kernel
theorem wX7_digestNodes_92 : Cond.fieldLink RX7 92 "FloodBus$Network" "count" "I" ∈ wsX7_digestNodes := by decide +kernel
theorem wX7_digestNodes_k170 : Cond.constantLong RX7 170 (31) ∈ wsX7_digestNodes := by decide +kernel
theorem wX7_digestNodes_26 : Cond.fieldLink RX7 26 "FloodBus" "latestFlood" "LFloodBus$Flooding;" ∈ wsX7_digestNodes := by decide +kernel
theorem wX7_digestNodes_121 : Cond.fieldLink RX7 121 "FloodBus$Flooding" "packet" "[I" ∈ wsX7_digestNodes := by decide +kernel
theorem wX7_digestNodes_124 : Cond.fieldLink RX7 124 "FloodBus$Flooding" "hops" "[I" ∈ wsX7_digestNodes := by decide +kernel
theorem wX7_digestNodes_107 : Cond.fieldLink RX7 107 "FloodBus$Network" "missed" "[I" ∈ wsX7_digestNodes := by decide +kernel
theorem wX7_digestNodes_161 : Cond.fieldLink RX7 161 "FloodBus$Network" "sent" "[I" ∈ wsX7_digestNodes := by decide +kernel
theorem wX7_digestNodes_103 : Cond.fieldLink RX7 103 "FloodBus$Network" "alive" "[Z" ∈ wsX7_digestNodes := by decide +kernel
theorem inX7_digestNodes_X7 : ∀ w ∈ wsX70, w ∈ wsX7_digestNodes := by decide +kernel
theorem inX7_digestNodes_X3 : ∀ w ∈ wsX30, w ∈ wsX7_digestNodes := by decide +kernel
theorem inX7_digestNodes_X1 : ∀ w ∈ wsX10, w ∈ wsX7_digestNodes := by decide +kernel
set_option maxRecDepth 100000 in
set_option maxHeartbeats 4000000 in
theorem TX7_digestNodes_L5 {p : Program} {l : Launch} {e : Env} {s : State} {m : MethodId} {args : Array Value} {below : List Frame} {meth : Method} {c : Code} {D : va_G} {G : Gc} {ρ : Nat → Nat} (X : Cx p s m args c cX7_digestNodes 6 RX7 wsX7_digestNodes D G ρ (WA ρ s.heap.size) s.heap) (hr : meth.sig.returnType = some .long) (hlk : meth.locks = false) (N : Nm) (C : Xm) (p1 : Int64)  {E : Int64 → Int32 → Prop} {K : Int64 → Prop} (hE : ∀ (v3 : Int64) (v5 : Int32), E v3 v5 → V p l e rmX7_digestNodes s m args below meth c D G ρ (WA ρ s.heap.size) s.heap 6 0 0 (Ql D G ρ s args below (fun r C1 N1 => K r ∧ C1 = C ∧ N1 = N)) 121 [(0, .ref (ρ 0)), (1, .long p1), (3, .long v3), (5, .int v5)] [] C N) : ∀ (n : Nat) (v3 : Int64) (v5 : Int32), fX7_digestNodes_L5 C p1 E K n v3 v5 → V p l e rmX7_digestNodes s m args below meth c D G ρ (WA ρ s.heap.size) s.heap 6 0 0 (Ql D G ρ s args below (fun r C1 N1 => K r ∧ C1 = C ∧ N1 = N)) 5 [(0, .ref (ρ 0)), (1, .long p1), (3, .long v3), (5, .int v5)] [] C N := by
  intro n
  induction n with
  | zero => intro v3 v5 h; exact h.elim
  | succ n ih =>
    intro v3 v5 h
    unfold fX7_digestNodes_L5 at h
    refine V_iload X (q := 3) rfl dX7_digestNodes_5 (n := 7) rfl ?_
    refine V_aload_n X (q := 0) rfl rfl dX7_digestNodes_7 (n := 8) rfl ?_
    refine V_getR X (by decide) rfl rfl (k := 1) inX7_digestNodes_X7 rfl (by decide) wX7_digestNodes_19 dX7_digestNodes_8 (n := 11) rfl ?_
    refine V_getX X (by decide) rfl rfl (k := 1) inX7_digestNodes_X3 rfl (by decide) wX7_digestNodes_92 dX7_digestNodes_11 (n := 14) rfl ?_
    refine V_icmp_ge X dX7_digestNodes_14 (tgt := 121) (n := 17) (by decide) rfl (fun c1 => ?_) (fun c1 => ?_)
    · have h := ite_t h c1
      exact hE v3 v5 h
    · have h := ite_f h c1
      refine V_ldc2 X wX7_digestNodes_k170 dX7_digestNodes_17 (n := 20) rfl ?_
      refine V_lload_n X (q := 2) rfl rfl dX7_digestNodes_20 (n := 21) rfl ?_
      refine V_lmul X dX7_digestNodes_21 (n := 22) rfl ?_
      refine V_aload_n X (q := 0) rfl rfl dX7_digestNodes_22 (n := 23) rfl ?_
      refine V_getR X (by decide) rfl rfl (k := 2) inX7_digestNodes_X7 rfl (by decide) wX7_digestNodes_26 dX7_digestNodes_23 (n := 26) rfl ?_
      refine V_getR X (by decide) rfl rfl (k := 1) inX7_digestNodes_X1 rfl (by decide) wX7_digestNodes_121 dX7_digestNodes_26 (n := 29) rfl ?_
      refine V_iload X (q := 3) rfl dX7_digestNodes_29 (n := 31) rfl ?_
      obtain ⟨g2, h⟩ := h
      refine V_ildX X (by decide) rfl g2 dX7_digestNodes_31 (n := 32) rfl ?_
      refine V_i2l X dX7_digestNodes_32 (n := 33) rfl ?_
      refine V_ladd X dX7_digestNodes_33 (n := 34) rfl ?_
      refine V_topl (fun x3 ex3 => ?_)
      have h := bd_at h ex3
      refine V_lstore_n X (L2 := [(3, .long x3), (0, .ref (ρ 0)), (1, .long p1), (5, .int v5)]) rfl (by decide) rfl dX7_digestNodes_34 (n := 35) rfl ?_
      refine V_ldc2 X wX7_digestNodes_k170 dX7_digestNodes_35 (n := 38) rfl ?_
      refine V_lload_n X (q := 0) rfl rfl dX7_digestNodes_38 (n := 39) rfl ?_
      refine V_lmul X dX7_digestNodes_39 (n := 40) rfl ?_
      refine V_aload_n X (q := 1) rfl rfl dX7_digestNodes_40 (n := 41) rfl ?_
      refine V_getR X (by decide) rfl rfl (k := 2) inX7_digestNodes_X7 rfl (by decide) wX7_digestNodes_26 dX7_digestNodes_41 (n := 44) rfl ?_
      refine V_getR X (by decide) rfl rfl (k := 2) inX7_digestNodes_X1 rfl (by decide) wX7_digestNodes_124 dX7_digestNodes_44 (n := 47) rfl ?_
      refine V_iload X (q := 3) rfl dX7_digestNodes_47 (n := 49) rfl ?_
      obtain ⟨g4, h⟩ := h
      refine V_ildX X (by decide) rfl g4 dX7_digestNodes_49 (n := 50) rfl ?_
      refine V_i2l X dX7_digestNodes_50 (n := 51) rfl ?_
      refine V_ladd X dX7_digestNodes_51 (n := 52) rfl ?_
      refine V_topl (fun x5 ex5 => ?_)
      have h := bd_at h ex5
      refine V_lstore_n X (L2 := [(3, .long x5), (0, .ref (ρ 0)), (1, .long p1), (5, .int v5)]) rfl (by decide) rfl dX7_digestNodes_52 (n := 53) rfl ?_
      refine V_ldc2 X wX7_digestNodes_k170 dX7_digestNodes_53 (n := 56) rfl ?_
      refine V_lload_n X (q := 0) rfl rfl dX7_digestNodes_56 (n := 57) rfl ?_
      refine V_lmul X dX7_digestNodes_57 (n := 58) rfl ?_
      refine V_aload_n X (q := 1) rfl rfl dX7_digestNodes_58 (n := 59) rfl ?_
      refine V_getR X (by decide) rfl rfl (k := 1) inX7_digestNodes_X7 rfl (by decide) wX7_digestNodes_19 dX7_digestNodes_59 (n := 62) rfl ?_
      refine V_getR X (by decide) rfl rfl (k := 3) inX7_digestNodes_X3 rfl (by decide) wX7_digestNodes_107 dX7_digestNodes_62 (n := 65) rfl ?_
      refine V_iload X (q := 3) rfl dX7_digestNodes_65 (n := 67) rfl ?_
      obtain ⟨g6, h⟩ := h
      refine V_ildX X (by decide) rfl g6 dX7_digestNodes_67 (n := 68) rfl ?_
      refine V_i2l X dX7_digestNodes_68 (n := 69) rfl ?_
      refine V_ladd X dX7_digestNodes_69 (n := 70) rfl ?_
      refine V_topl (fun x7 ex7 => ?_)
      have h := bd_at h ex7
      refine V_lstore_n X (L2 := [(3, .long x7), (0, .ref (ρ 0)), (1, .long p1), (5, .int v5)]) rfl (by decide) rfl dX7_digestNodes_70 (n := 71) rfl ?_
      refine V_ldc2 X wX7_digestNodes_k170 dX7_digestNodes_71 (n := 74) rfl ?_
      refine V_lload_n X (q := 0) rfl rfl dX7_digestNodes_74 (n := 75) rfl ?_
      refine V_lmul X dX7_digestNodes_75 (n := 76) rfl ?_
      refine V_aload_n X (q := 1) rfl rfl dX7_digestNodes_76 (n := 77) rfl ?_
      refine V_getR X (by decide) rfl rfl (k := 1) inX7_digestNodes_X7 rfl (by decide) wX7_digestNodes_19 dX7_digestNodes_77 (n := 80) rfl ?_
      refine V_getR X (by decide) rfl rfl (k := 4) inX7_digestNodes_X3 rfl (by decide) wX7_digestNodes_161 dX7_digestNodes_80 (n := 83) rfl ?_
      refine V_iload X (q := 3) rfl dX7_digestNodes_83 (n := 85) rfl ?_
      obtain ⟨g8, h⟩ := h
      refine V_ildX X (by decide) rfl g8 dX7_digestNodes_85 (n := 86) rfl ?_
      refine V_i2l X dX7_digestNodes_86 (n := 87) rfl ?_
      refine V_ladd X dX7_digestNodes_87 (n := 88) rfl ?_
      refine V_topl (fun x9 ex9 => ?_)
      have h := bd_at h ex9
      refine V_lstore_n X (L2 := [(3, .long x9), (0, .ref (ρ 0)), (1, .long p1), (5, .int v5)]) rfl (by decide) rfl dX7_digestNodes_88 (n := 89) rfl ?_
      refine V_ldc2 X wX7_digestNodes_k170 dX7_digestNodes_89 (n := 92) rfl ?_
      refine V_lload_n X (q := 0) rfl rfl dX7_digestNodes_92 (n := 93) rfl ?_
      refine V_lmul X dX7_digestNodes_93 (n := 94) rfl ?_
      refine V_aload_n X (q := 1) rfl rfl dX7_digestNodes_94 (n := 95) rfl ?_
      refine V_getR X (by decide) rfl rfl (k := 1) inX7_digestNodes_X7 rfl (by decide) wX7_digestNodes_19 dX7_digestNodes_95 (n := 98) rfl ?_
      refine V_getR X (by decide) rfl rfl (k := 2) inX7_digestNodes_X3 rfl (by decide) wX7_digestNodes_103 dX7_digestNodes_98 (n := 101) rfl ?_
      refine V_iload X (q := 3) rfl dX7_digestNodes_101 (n := 103) rfl ?_
      obtain ⟨g10, h⟩ := h
      refine V_zldX X (by decide) rfl g10 dX7_digestNodes_103 (n := 104) rfl ?_
      refine jn_o h (fun j11 ej11 h => ?_)
      have kj11 : ∀ (x13 : Int32), j11 x13 → V p l e rmX7_digestNodes s m args below meth c D G ρ (WA ρ s.heap.size) s.heap 6 0 0 (Ql D G ρ s args below (fun r C1 N1 => K r ∧ C1 = C ∧ N1 = N)) 112 [(0, .ref (ρ 0)), (1, .long p1), (3, .long x9), (5, .int v5)] [.int x13, .long ((31 : Int64) * x9)] C N := by
        intro x13 h
        rw [ej11] at h
        try dsimp only at h
        refine V_i2l X dX7_digestNodes_112 (n := 113) rfl ?_
        refine V_ladd X dX7_digestNodes_113 (n := 114) rfl ?_
        refine V_topl (fun x14 ex14 => ?_)
        have h := bd_at h ex14
        refine V_lstore_n X (L2 := [(3, .long x14), (0, .ref (ρ 0)), (1, .long p1), (5, .int v5)]) rfl (by decide) rfl dX7_digestNodes_114 (n := 115) rfl ?_
        obtain ⟨x15, ex15⟩ : ∃ z : Int32, z = v5 + (1 : Int32) := ⟨_, rfl⟩
        have h := bd_at h ex15
        refine V_iinc X (q := 3) (d := 1) (L2 := [(5, .int x15), (3, .long x14), (0, .ref (ρ 0)), (1, .long p1)]) rfl (by decide) (by decide) ex15 rfl dX7_digestNodes_115 (n := 118) rfl ?_
        refine V_goto X dX7_digestNodes_118 (tgt := 5) (by decide) ?_
        refine V_loc [2, 3, 1, 0] rfl ?_
        exact ih x14 x15 h
      refine V_if_eq X dX7_digestNodes_104 (tgt := 111) (n := 107) (by decide) rfl (fun c12 => ?_) (fun c12 => ?_)
      · have h := ite_t h c12
        refine V_iconst X (v := 0) (by decide) dX7_digestNodes_111 (n := 112) rfl ?_
        refine V_loc [1, 2, 0, 3] rfl ?_
        exact kj11 (0 : Int32) h
      · have h := ite_f h c12
        refine V_iconst X (v := 1) (by decide) dX7_digestNodes_107 (n := 108) rfl ?_
        refine V_goto X dX7_digestNodes_108 (tgt := 112) (by decide) ?_
        refine V_loc [1, 2, 0, 3] rfl ?_
        exact kj11 (1 : Int32) h
set_option maxRecDepth 100000 in
set_option maxHeartbeats 4000000 in
theorem TX7_digestNodes (l : Launch) (D : va_G) (G : Gc) (ρ : Nat → Nat) (C : Xm) (N : Nm)  (a1 : Int64) (K : Int64 → Prop) (h : fX7_digestNodes C a1 K) : Kl l yX7_digestNodes wsX7_digestNodes rmX7_digestNodes D G ρ [.ref (ρ 0), .long a1] C N (fun r C1 N1 => K r ∧ C1 = C ∧ N1 = N) := by
  refine Kl.ofV (cc := cX7_digestNodes) (maxL := 6) (ret := (some .long)) (by decide +kernel) rfl (Nat.le_of_ble_eq_true rfl) ?_
  intro p e s m args below meth c X hr hlk
  show V p l e rmX7_digestNodes s m args below meth c D G ρ (WA ρ s.heap.size) s.heap 6 0 0 (Ql D G ρ s args below (fun r C1 N1 => K r ∧ C1 = C ∧ N1 = N)) 0 [(0, .ref (ρ 0)), (1, .long a1)] [] C N
  unfold fX7_digestNodes at h
  refine V_lload_n X (q := 1) rfl rfl dX7_digestNodes_0 (n := 1) rfl ?_
  refine V_lstore_n X (L2 := [(3, .long a1), (0, .ref (ρ 0)), (1, .long a1)]) rfl (by decide) rfl dX7_digestNodes_1 (n := 2) rfl ?_
  refine V_iconst X (v := 0) (by decide) dX7_digestNodes_2 (n := 3) rfl ?_
  refine V_istore X (L2 := [(5, .int (0 : Int32)), (3, .long a1), (0, .ref (ρ 0)), (1, .long a1)]) (by decide) rfl dX7_digestNodes_3 (n := 5) rfl ?_
  refine jn_o h (fun j16 ej16 h => ?_)
  have kj16 : ∀ (x17 : Int64) (x18 : Int32), j16 x17 x18 → V p l e rmX7_digestNodes s m args below meth c D G ρ (WA ρ s.heap.size) s.heap 6 0 0 (Ql D G ρ s args below (fun r C1 N1 => K r ∧ C1 = C ∧ N1 = N)) 121 [(0, .ref (ρ 0)), (1, .long a1), (3, .long x17), (5, .int x18)] [] C N := by
    intro x17 x18 h
    rw [ej16] at h
    try dsimp only at h
    refine V_lload_n X (q := 2) rfl rfl dX7_digestNodes_121 (n := 122) rfl ?_
    exact V_lret X hr hlk dX7_digestNodes_122 ⟨h, rfl, rfl⟩
  refine V_loc [2, 3, 1, 0] rfl ?_
  exact TX7_digestNodes_L5 X hr hlk N C a1 (E := j16) (K := K) kj16 200 a1 (0 : Int32) h
abbrev rmX7_digestStreams : Room := { frames := 0, cells := 0, slots := 0, locals := 0 }
theorem wX7_digestStreams_33 : Cond.fieldLink RX7 33 "FloodBus" "streams" "LFloodBus$StreamTable;" ∈ wsX7_digestStreams := by decide +kernel
theorem wX7_digestStreams_86 : Cond.fieldLink RX7 86 "FloodBus$StreamTable" "count" "I" ∈ wsX7_digestStreams := by decide +kernel
theorem wX7_digestStreams_136 : Cond.fieldLink RX7 136 "FloodBus$StreamTable" "rows" "[LFloodBus$Stream;" ∈ wsX7_digestStreams := by decide +kernel
theorem wX7_digestStreams_k170 : Cond.constantLong RX7 170 (31) ∈ wsX7_digestStreams := by decide +kernel
theorem wX7_digestStreams_140 : Cond.fieldLink RX7 140 "FloodBus$Stream" "waiting" "I" ∈ wsX7_digestStreams := by decide +kernel
theorem wX7_digestStreams_145 : Cond.fieldLink RX7 145 "FloodBus$Stream" "delivered" "I" ∈ wsX7_digestStreams := by decide +kernel
theorem wX7_digestStreams_148 : Cond.fieldLink RX7 148 "FloodBus$Stream" "lost" "I" ∈ wsX7_digestStreams := by decide +kernel
theorem inX7_digestStreams_X7 : ∀ w ∈ wsX70, w ∈ wsX7_digestStreams := by decide +kernel
theorem inX7_digestStreams_X6 : ∀ w ∈ wsX60, w ∈ wsX7_digestStreams := by decide +kernel
theorem inX7_digestStreams_X5 : ∀ w ∈ wsX50, w ∈ wsX7_digestStreams := by decide +kernel
set_option maxRecDepth 100000 in
set_option maxHeartbeats 4000000 in
theorem TX7_digestStreams_L5 {p : Program} {l : Launch} {e : Env} {s : State} {m : MethodId} {args : Array Value} {below : List Frame} {meth : Method} {c : Code} {D : va_G} {G : Gc} {ρ : Nat → Nat} (X : Cx p s m args c cX7_digestStreams 7 RX7 wsX7_digestStreams D G ρ (WA ρ s.heap.size) s.heap) (hr : meth.sig.returnType = some .long) (hlk : meth.locks = false) (N : Nm) (C : Xm) (p1 : Int64)  {E : Int64 → Int32 → Prop} {K : Int64 → Prop} (hE : ∀ (v3 : Int64) (v5 : Int32), E v3 v5 → V p l e rmX7_digestStreams s m args below meth c D G ρ (WA ρ s.heap.size) s.heap 7 0 0 (Ql D G ρ s args below (fun r C1 N1 => K r ∧ C1 = C ∧ N1 = N)) 74 [(0, .ref (ρ 0)), (1, .long p1), (3, .long v3), (5, .int v5)] [] C N) : ∀ (n : Nat) (v3 : Int64) (v5 : Int32), fX7_digestStreams_L5 C p1 E K n v3 v5 → V p l e rmX7_digestStreams s m args below meth c D G ρ (WA ρ s.heap.size) s.heap 7 0 0 (Ql D G ρ s args below (fun r C1 N1 => K r ∧ C1 = C ∧ N1 = N)) 5 [(0, .ref (ρ 0)), (1, .long p1), (3, .long v3), (5, .int v5)] [] C N := by
  intro n
  induction n with
  | zero => intro v3 v5 h; exact h.elim
  | succ n ih =>
    intro v3 v5 h
    unfold fX7_digestStreams_L5 at h
    refine V_iload X (q := 3) rfl dX7_digestStreams_5 (n := 7) rfl ?_
    refine V_aload_n X (q := 0) rfl rfl dX7_digestStreams_7 (n := 8) rfl ?_
    refine V_getR X (by decide) rfl rfl (k := 3) inX7_digestStreams_X7 rfl (by decide) wX7_digestStreams_33 dX7_digestStreams_8 (n := 11) rfl ?_
    refine V_getX X (by decide) rfl rfl (k := 1) inX7_digestStreams_X6 rfl (by decide) wX7_digestStreams_86 dX7_digestStreams_11 (n := 14) rfl ?_
    refine V_icmp_ge X dX7_digestStreams_14 (tgt := 74) (n := 17) (by decide) rfl (fun c1 => ?_) (fun c1 => ?_)
    · have h := ite_t h c1
      exact hE v3 v5 h
    · have h := ite_f h c1
      refine V_aload_n X (q := 0) rfl rfl dX7_digestStreams_17 (n := 18) rfl ?_
      refine V_getR X (by decide) rfl rfl (k := 3) inX7_digestStreams_X7 rfl (by decide) wX7_digestStreams_33 dX7_digestStreams_18 (n := 21) rfl ?_
      refine V_getR X (by decide) rfl rfl (k := 0) inX7_digestStreams_X6 rfl (by decide) wX7_digestStreams_136 dX7_digestStreams_21 (n := 24) rfl ?_
      refine V_iload X (q := 3) rfl dX7_digestStreams_24 (n := 26) rfl ?_
      obtain ⟨g2, h⟩ := h
      obtain ⟨g3, h⟩ := h
      refine V_aaS X (by decide) rfl g2 dX7_digestStreams_26 (n := 27) rfl ?_
      refine V_astore X (L2 := [(6, .ref (ρ (52 + 2 * Int32.toNatClampNeg (C 51 (Int32.toNatClampNeg v5))))), (0, .ref (ρ 0)), (1, .long p1), (3, .long v3), (5, .int v5)]) (by decide) rfl dX7_digestStreams_27 (n := 29) rfl ?_
      refine V_ldc2 X wX7_digestStreams_k170 dX7_digestStreams_29 (n := 32) rfl ?_
      refine V_lload_n X (q := 3) rfl rfl dX7_digestStreams_32 (n := 33) rfl ?_
      refine V_lmul X dX7_digestStreams_33 (n := 34) rfl ?_
      refine V_aload X (q := 0) rfl dX7_digestStreams_34 (n := 36) rfl ?_
      refine V_getX X (by omega) (shp_S _ g3) rfl (k := 4) inX7_digestStreams_X5 rfl (by decide) wX7_digestStreams_140 dX7_digestStreams_36 (n := 39) rfl ?_
      refine V_i2l X dX7_digestStreams_39 (n := 40) rfl ?_
      refine V_ladd X dX7_digestStreams_40 (n := 41) rfl ?_
      refine V_topl (fun x4 ex4 => ?_)
      have h := bd_at h ex4
      refine V_lstore_n X (L2 := [(3, .long x4), (6, .ref (ρ (52 + 2 * Int32.toNatClampNeg (C 51 (Int32.toNatClampNeg v5))))), (0, .ref (ρ 0)), (1, .long p1), (5, .int v5)]) rfl (by decide) rfl dX7_digestStreams_41 (n := 42) rfl ?_
      refine V_ldc2 X wX7_digestStreams_k170 dX7_digestStreams_42 (n := 45) rfl ?_
      refine V_lload_n X (q := 0) rfl rfl dX7_digestStreams_45 (n := 46) rfl ?_
      refine V_lmul X dX7_digestStreams_46 (n := 47) rfl ?_
      refine V_aload X (q := 1) rfl dX7_digestStreams_47 (n := 49) rfl ?_
      refine V_getX X (by omega) (shp_S _ g3) rfl (k := 5) inX7_digestStreams_X5 rfl (by decide) wX7_digestStreams_145 dX7_digestStreams_49 (n := 52) rfl ?_
      refine V_i2l X dX7_digestStreams_52 (n := 53) rfl ?_
      refine V_ladd X dX7_digestStreams_53 (n := 54) rfl ?_
      refine V_topl (fun x5 ex5 => ?_)
      have h := bd_at h ex5
      refine V_lstore_n X (L2 := [(3, .long x5), (6, .ref (ρ (52 + 2 * Int32.toNatClampNeg (C 51 (Int32.toNatClampNeg v5))))), (0, .ref (ρ 0)), (1, .long p1), (5, .int v5)]) rfl (by decide) rfl dX7_digestStreams_54 (n := 55) rfl ?_
      refine V_ldc2 X wX7_digestStreams_k170 dX7_digestStreams_55 (n := 58) rfl ?_
      refine V_lload_n X (q := 0) rfl rfl dX7_digestStreams_58 (n := 59) rfl ?_
      refine V_lmul X dX7_digestStreams_59 (n := 60) rfl ?_
      refine V_aload X (q := 1) rfl dX7_digestStreams_60 (n := 62) rfl ?_
      refine V_getX X (by omega) (shp_S _ g3) rfl (k := 6) inX7_digestStreams_X5 rfl (by decide) wX7_digestStreams_148 dX7_digestStreams_62 (n := 65) rfl ?_
      refine V_i2l X dX7_digestStreams_65 (n := 66) rfl ?_
      refine V_ladd X dX7_digestStreams_66 (n := 67) rfl ?_
      refine V_topl (fun x6 ex6 => ?_)
      have h := bd_at h ex6
      refine V_lstore_n X (L2 := [(3, .long x6), (6, .ref (ρ (52 + 2 * Int32.toNatClampNeg (C 51 (Int32.toNatClampNeg v5))))), (0, .ref (ρ 0)), (1, .long p1), (5, .int v5)]) rfl (by decide) rfl dX7_digestStreams_67 (n := 68) rfl ?_
      obtain ⟨x7, ex7⟩ : ∃ z : Int32, z = v5 + (1 : Int32) := ⟨_, rfl⟩
      have h := bd_at h ex7
      refine V_iinc X (q := 4) (d := 1) (L2 := [(5, .int x7), (3, .long x6), (6, .ref (ρ (52 + 2 * Int32.toNatClampNeg (C 51 (Int32.toNatClampNeg v5))))), (0, .ref (ρ 0)), (1, .long p1)]) rfl (by decide) (by decide) ex7 rfl dX7_digestStreams_68 (n := 71) rfl ?_
      refine V_goto X dX7_digestStreams_71 (tgt := 5) (by decide) ?_
      refine V_loc [3, 4, 1, 0] rfl ?_
      exact ih x6 x7 h
set_option maxRecDepth 100000 in
set_option maxHeartbeats 4000000 in
theorem TX7_digestStreams (l : Launch) (D : va_G) (G : Gc) (ρ : Nat → Nat) (C : Xm) (N : Nm)  (a1 : Int64) (K : Int64 → Prop) (h : fX7_digestStreams C a1 K) : Kl l yX7_digestStreams wsX7_digestStreams rmX7_digestStreams D G ρ [.ref (ρ 0), .long a1] C N (fun r C1 N1 => K r ∧ C1 = C ∧ N1 = N) := by
  refine Kl.ofV (cc := cX7_digestStreams) (maxL := 7) (ret := (some .long)) (by decide +kernel) rfl (Nat.le_of_ble_eq_true rfl) ?_
  intro p e s m args below meth c X hr hlk
  show V p l e rmX7_digestStreams s m args below meth c D G ρ (WA ρ s.heap.size) s.heap 7 0 0 (Ql D G ρ s args below (fun r C1 N1 => K r ∧ C1 = C ∧ N1 = N)) 0 [(0, .ref (ρ 0)), (1, .long a1)] [] C N
  unfold fX7_digestStreams at h
  refine V_lload_n X (q := 1) rfl rfl dX7_digestStreams_0 (n := 1) rfl ?_
  refine V_lstore_n X (L2 := [(3, .long a1), (0, .ref (ρ 0)), (1, .long a1)]) rfl (by decide) rfl dX7_digestStreams_1 (n := 2) rfl ?_
  refine V_iconst X (v := 0) (by decide) dX7_digestStreams_2 (n := 3) rfl ?_
  refine V_istore X (L2 := [(5, .int (0 : Int32)), (3, .long a1), (0, .ref (ρ 0)), (1, .long a1)]) (by decide) rfl dX7_digestStreams_3 (n := 5) rfl ?_
  refine jn_o h (fun j8 ej8 h => ?_)
  have kj8 : ∀ (x9 : Int64) (x10 : Int32), j8 x9 x10 → V p l e rmX7_digestStreams s m args below meth c D G ρ (WA ρ s.heap.size) s.heap 7 0 0 (Ql D G ρ s args below (fun r C1 N1 => K r ∧ C1 = C ∧ N1 = N)) 74 [(0, .ref (ρ 0)), (1, .long a1), (3, .long x9), (5, .int x10)] [] C N := by
    intro x9 x10 h
    rw [ej8] at h
    try dsimp only at h
    refine V_lload_n X (q := 2) rfl rfl dX7_digestStreams_74 (n := 75) rfl ?_
    exact V_lret X hr hlk dX7_digestStreams_75 ⟨h, rfl, rfl⟩
  refine V_loc [2, 3, 1, 0] rfl ?_
  exact TX7_digestStreams_L5 X hr hlk N C a1 (E := j8) (K := K) kj8 200 a1 (0 : Int32) h
